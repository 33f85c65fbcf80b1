/-! sheets, as rows of numbers; face: judge -/
theorem sh_o {i : Nat} (h : i < 4) : isO (87 + 2 * i) 8 = true := (by decide +kernel : ∀ i, i < 4 → isO (87 + 2 * i) 8 = true) i h
theorem sh_a {i : Nat} (h : i < 4) : isA (88 + 2 * i) 0 = true := (by decide +kernel : ∀ i, i < 4 → isA (88 + 2 * i) 0 = true) i h
theorem sh_l (N : Nat → Nat) {i : Nat} (h : i < 4) : alen N (88 + 2 * i) = 40 := by
  have e : ∀ i, i < 4 → slen (88 + 2 * i) = 40 := by decide +kernel
  unfold alen
  rw [blt_t (by omega)]
  exact e i h
theorem sh_r (R : Nat → Nat → Option Nat) {i : Nat} (h : i < 4) : Rx R (87 + 2 * i) 2 = some (88 + 2 * i) := by
  have e : ∀ i, i < 4 → rS (87 + 2 * i) 2 = some (88 + 2 * i) := by decide +kernel
  unfold Rx
  rw [e i h]
theorem sh_r0 (R : Nat → Nat → Option Nat) {i : Nat} (h : i < 4) : Rx R 83 i = some (87 + 2 * i) := by
  have e : ∀ i, i < 4 → rS 83 i = some (87 + 2 * i) := by decide +kernel
  unfold Rx
  rw [e i h]
theorem four_cases {P : Nat → Prop} (h0 : P 0) (h1 : P 1) (h2 : P 2) (h3 : P 3) : ∀ t, t < 4 → P t
  | 0, _ => h0
  | 1, _ => h1
  | 2, _ => h2
  | 3, _ => h3
  | _ + 4, h => absurd h (by omega)
theorem sh_m0 {i : Nat} (h : i < 4) : mp (87 + 2 * i) 0 = some (120, i) := four_cases (P := fun i => mp (87 + 2 * i) 0 = some (120, i)) rfl rfl rfl rfl i h
theorem sh_m1 {i : Nat} (h : i < 4) : mp (87 + 2 * i) 1 = some (121, i) := four_cases (P := fun i => mp (87 + 2 * i) 1 = some (121, i)) rfl rfl rfl rfl i h
theorem sh_c {i : Nat} (h : i < 4) {j : Nat} (hj : j < 40) : mp (88 + 2 * i) j = some (122, 40 * i + j) := four_cases (P := fun i => mp (88 + 2 * i) j = some (122, 40 * i + j)) (by show (bif Nat.blt j 40 then some (122, 0 + j) else none) = some (122, 40 * 0 + j); rw [blt_t hj]; rfl) (by show (bif Nat.blt j 40 then some (122, 40 + j) else none) = _; rw [blt_t hj]; rfl) (by show (bif Nat.blt j 40 then some (122, 80 + j) else none) = _; rw [blt_t hj]; rfl) (by show (bif Nat.blt j 40 then some (122, 120 + j) else none) = _; rw [blt_t hj]; rfl) i h
def sz (s : Nat → Nat → Int32) (i : Nat) : Nat := wN (s 121 i)
theorem Wf.sz1 {s : Nat → Nat → Int32} (h : Wf s) {i : Nat} (hi : i < 4) : s 121 i = nI (sz s i) ∧ sz s i ≤ 40 := ⟨((h.2.2.2.2.2.2.2.2.1 i hi).2.nat (by omega)).1, ((h.2.2.2.2.2.2.2.2.1 i hi).2.nat (by omega)).2.2⟩
def shOk (s : Nat → Nat → Int32) (sn k most : Nat) : Prop := sz s sn = k ∧ ∀ i, i < k → iv 0 most (s 122 (40 * sn + i))
section
variable {X : hX} {d : Nat} {s I : Nat → Nat → Int32} {J : Nat → Nat → Int64} {R : Nat → Nat → Option Nat} {N : Nat → Nat} {G : hG}
theorem c_sheetAtT {j : Nat} (hj : j < 4) : TP X d n_H_sheetAt [.ref 0, .int (nI j)] (I, J, Rx R, N, G) (Ret (.ref (87 + 2 * j)) (I, J, Rx R, N, G)) := by
  unfold TP
  show XP X _ k_H_sheetAt 0 [.ref (0), .int (nI (j))] [] _ _
  refine XP_n 1 (pc' := 1) (ls' := [.ref (0), .int (nI (j))]) (st' := [.int (nI (j))]) (M' := (I, J, Rx R, N, G)) rfl ?_
  refine XP_ifN (x := j)  rfl (by omega) (fun (b1 : j < 0) => absurd b1 (by omega)) (fun (b1 : 0 ≤ j) => ?_)
  refine XP_n 4 (pc' := 6) (ls' := [.ref (0), .int (nI (j))]) (st' := [.int (nI (4)), .int (nI (j))]) (M' := (I, J, Rx R, N, G)) rfl ?_
  refine XP_icN (x := j) (y := 4) rfl (by omega) (by omega) (fun (b6 : 4 ≤ j) => absurd b6 (by omega)) (fun (b6 : j < 4) => ?_)
  refine XP_n 3 (pc' := 10) (ls' := [.ref (0), .int (nI (j))]) (st' := [.int (nI (j)), .ref (83)]) (M' := (I, J, Rx R, N, G)) rfl ?_
  refine XP_aaldS (a := 87 + 2 * j) rfl rfl (show j < 4 by omega) rfl (by omega) (sh_r0 R (by omega)) ?_
  refine XP_n 1 (pc' := 13) (ls' := [.ref (0), .int (nI (j))]) (st' := [.ref (87 + 2 * j)]) (M' := (I, J, Rx R, N, G)) rfl ?_
  exact XP_ret rfl ⟨rfl, rfl⟩
theorem c_sheetAtF {v : Int32} (h : ¬ iv 0 3 v) : TP X d n_H_sheetAt [.ref 0, .int v] (I, J, Rx R, N, G) (Ret .null (I, J, Rx R, N, G)) := by
  unfold TP
  show XP X _ k_H_sheetAt 0 [.ref (0), .int (v)] [] _ _
  refine XP_n 1 (pc' := 1) (ls' := [.ref (0), .int (v)]) (st' := [.int (v)]) (M' := (I, J, Rx R, N, G)) rfl ?_
  refine XP_ifD rfl (fun (b1 : v < 0) => ?_) (fun (b1 : 0 ≤ v) => ?_)
  · have n1 := Int32.not_le.mpr b1
    refine XP_n 1 (pc' := 13) (ls' := [.ref (0), .int (v)]) (st' := [.null]) (M' := (I, J, Rx R, N, G)) rfl ?_
    exact XP_ret rfl ⟨rfl, rfl⟩
  · have n1 := Int32.not_lt.mpr b1
    refine XP_n 4 (pc' := 6) (ls' := [.ref (0), .int (v)]) (st' := [.int (nI (4)), .int (v)]) (M' := (I, J, Rx R, N, G)) rfl ?_
    refine XP_icD rfl (fun (b6 : nI (4) ≤ v) => ?_) (fun (b6 : v < nI (4)) => absurd ((in_iff (x := v) (n := 4) (by omega) (by omega)).mpr ((lt_iff (by omega)).mp ⟨Int32.not_lt.mpr b1, b6⟩)) h)
    have n6 := Int32.not_lt.mpr b6
    refine XP_n 1 (pc' := 13) (ls' := [.ref (0), .int (v)]) (st' := [.null]) (M' := (I, J, Rx R, N, G)) rfl ?_
    exact XP_ret rfl ⟨rfl, rfl⟩
theorem c_shat (hS : St s I) (hW : Wf s) {sn i : Nat} (hsn : sn < 4) (hi : i < sz s sn) : TP X d n_Sheet_at [.ref (87 + 2 * sn), .int (nI i)] (I, J, Rx R, N, G) (Ret (.int (s 122 (40 * sn + i))) (I, J, Rx R, N, G)) := by
  have hsz := (hW.sz1 hsn).2
  unfold TP
  show XP X _ k_Sheet_at 0 [.ref (87 + 2 * sn), .int (nI (i))] [] _ _
  refine XP_n 1 (pc' := 1) (ls' := [.ref (87 + 2 * sn), .int (nI (i))]) (st' := [.int (nI (i))]) (M' := (I, J, Rx R, N, G)) rfl ?_
  refine XP_ifN (x := i)  rfl (by omega) (fun (b1 : i < 0) => absurd b1 (by omega)) (fun (b1 : 0 ≤ i) => ?_)
  refine XP_n 2 (pc' := 4) (ls' := [.ref (87 + 2 * sn), .int (nI (i))]) (st' := [.ref (87 + 2 * sn), .int (nI (i))]) (M' := (I, J, Rx R, N, G)) rfl ?_
  refine XP_getw rfl (by rw [sh_o (show sn < 4 by omega)]; rfl) ?_
  show XP X _ k_Sheet_at 5 [.ref (87 + 2 * sn), .int (nI (i))] [.int (I (87 + 2 * sn) 1), .int (nI (i))] _ _
  rw [show I (87 + 2 * sn) 1 = s 121 sn from hS _ _ _ _ (sh_m1 (show sn < 4 by omega))]
  rw [(hW.sz1 hsn).1]
  refine XP_icN (x := i) (y := sz s sn) rfl (by omega) (by omega) (fun (b5 : sz s sn ≤ i) => absurd b5 (by omega)) (fun (b5 : i < sz s sn) => ?_)
  refine XP_n 2 (pc' := 8) (ls' := [.ref (87 + 2 * sn), .int (nI (i))]) (st' := [.ref (87 + 2 * sn), .int (nI (i))]) (M' := (I, J, Rx R, N, G)) rfl ?_
  refine XP_getr rfl (by rw [sh_o (show sn < 4 by omega)]; rfl) (sh_r R (show sn < 4 by omega))  ?_
  refine XP_len rfl (sh_a (show sn < 4 by omega)) (sh_l N (show sn < 4 by omega)) ?_
  refine XP_icN (x := i) (y := 40) rfl (by omega) (by omega) (fun (b10 : 40 ≤ i) => absurd b10 (by omega)) (fun (b10 : i < 40) => ?_)
  refine XP_n 1 (pc' := 12) (ls' := [.ref (87 + 2 * sn), .int (nI (i))]) (st' := [.ref (87 + 2 * sn)]) (M' := (I, J, Rx R, N, G)) rfl ?_
  refine XP_getr rfl (by rw [sh_o (show sn < 4 by omega)]; rfl) (sh_r R (show sn < 4 by omega))  ?_
  refine XP_n 1 (pc' := 14) (ls' := [.ref (87 + 2 * sn), .int (nI (i))]) (st' := [.int (nI (i)), .ref (88 + 2 * sn)]) (M' := (I, J, Rx R, N, G)) rfl ?_
  refine XP_iraw rfl (sh_a (show sn < 4 by omega)) (show i < 40 by omega) (sh_l N (show sn < 4 by omega)) (by omega) ?_
  rw [show I (88 + 2 * sn) i = s 122 (40 * sn + (i)) from hS _ _ _ _ (sh_c (show sn < 4 by omega) (show i < 40 by omega))]
  refine XP_n 1 (pc' := 17) (ls' := [.ref (87 + 2 * sn), .int (nI (i))]) (st' := [.int (s 122 (40 * sn + (i)))]) (M' := (I, J, Rx R, N, G)) rfl ?_
  exact XP_ret rfl ⟨rfl, rfl⟩
theorem l_hoT (hS : St s I) (hW : Wf s) {sn mo : Nat} (hsn : sn < 4) (hmo : mo < 2147483648) (h : ∀ i, i < sz s sn → iv 0 mo (s 122 (40 * sn + i))) : ∀ (n i : Nat), i + n = sz s sn → XP X (d + 1) k_Sheet_holdsOnly 2 [.ref (87 + 2 * sn), .int (nI (mo)), .int (nI (i))] [] (I, J, Rx R, N, G) (Ret (.int (nI 1)) (I, J, Rx R, N, G)) := by
  have hsz := (hW.sz1 hsn).2
  intro n
  induction n with
  | zero =>
    rintro i hi
    obtain rfl : i = sz s sn := by omega
    refine XP_n 2 (pc' := 4) (ls' := [.ref (87 + 2 * sn), .int (nI (mo)), .int (nI (sz s sn))]) (st' := [.ref (87 + 2 * sn), .int (nI (sz s sn))]) (M' := (I, J, Rx R, N, G)) rfl ?_
    refine XP_getw rfl (by rw [sh_o (show sn < 4 by omega)]; rfl) ?_
    show XP X _ k_Sheet_holdsOnly 5 [.ref (87 + 2 * sn), .int (nI (mo)), .int (nI (sz s sn))] [.int (I (87 + 2 * sn) 1), .int (nI (sz s sn))] _ _
    rw [show I (87 + 2 * sn) 1 = s 121 sn from hS _ _ _ _ (sh_m1 (show sn < 4 by omega))]
    rw [(hW.sz1 hsn).1]
    refine XP_icN (x := sz s sn) (y := sz s sn) rfl (by omega) (by omega) (fun (b5 : sz s sn ≤ sz s sn) => ?_) (fun (b5 : sz s sn < sz s sn) => absurd b5 (by omega))
    refine XP_n 1 (pc' := 20) (ls' := [.ref (87 + 2 * sn), .int (nI (mo)), .int (nI (sz s sn))]) (st' := [.int (nI (1))]) (M' := (I, J, Rx R, N, G)) rfl ?_
    exact XP_ret rfl ⟨rfl, rfl⟩
  | succ n ih =>
    rintro i hi
    have hc := h i (by omega)
    refine XP_n 2 (pc' := 4) (ls' := [.ref (87 + 2 * sn), .int (nI (mo)), .int (nI (i))]) (st' := [.ref (87 + 2 * sn), .int (nI (i))]) (M' := (I, J, Rx R, N, G)) rfl ?_
    refine XP_getw rfl (by rw [sh_o (show sn < 4 by omega)]; rfl) ?_
    show XP X _ k_Sheet_holdsOnly 5 [.ref (87 + 2 * sn), .int (nI (mo)), .int (nI (i))] [.int (I (87 + 2 * sn) 1), .int (nI (i))] _ _
    rw [show I (87 + 2 * sn) 1 = s 121 sn from hS _ _ _ _ (sh_m1 (show sn < 4 by omega))]
    rw [(hW.sz1 hsn).1]
    refine XP_icN (x := i) (y := sz s sn) rfl (by omega) (by omega) (fun (b5 : sz s sn ≤ i) => absurd b5 (by omega)) (fun (b5 : i < sz s sn) => ?_)
    refine XP_n 2 (pc' := 8) (ls' := [.ref (87 + 2 * sn), .int (nI (mo)), .int (nI (i))]) (st' := [.int (nI (i)), .ref (87 + 2 * sn)]) (M' := (I, J, Rx R, N, G)) rfl ?_
    refine XP_pure rfl (by show (isO (87 + 2 * sn) 8 || false) = true; rw [sh_o (by omega)]; rfl) (c_shat hS hW (show sn < 4 by omega) (show i < sz s sn by omega)) ?_
    refine XP_ifD rfl (fun (b9 : s 122 (40 * sn + (i)) < 0) => absurd b9 (Int32.not_lt.mpr hc.1)) (fun (b9 : 0 ≤ s 122 (40 * sn + (i))) => ?_)
    have n9 := Int32.not_lt.mpr b9
    refine XP_n 2 (pc' := 12) (ls' := [.ref (87 + 2 * sn), .int (nI (mo)), .int (nI (i))]) (st' := [.int (nI (i)), .ref (87 + 2 * sn)]) (M' := (I, J, Rx R, N, G)) rfl ?_
    refine XP_pure rfl (by show (isO (87 + 2 * sn) 8 || false) = true; rw [sh_o (by omega)]; rfl) (c_shat hS hW (show sn < 4 by omega) (show i < sz s sn by omega)) ?_
    refine XP_n 1 (pc' := 14) (ls' := [.ref (87 + 2 * sn), .int (nI (mo)), .int (nI (i))]) (st' := [.int (nI (mo)), .int (s 122 (40 * sn + (i)))]) (M' := (I, J, Rx R, N, G)) rfl ?_
    refine XP_icD rfl (fun (b14 : s 122 (40 * sn + (i)) ≤ nI (mo)) => ?_) (fun (b14 : nI (mo) < s 122 (40 * sn + (i))) => absurd b14 (by exact Int32.not_lt.mpr hc.2))
    have n14 := Int32.not_lt.mpr b14
    refine XP_n 1 (pc' := 18) (ls' := [.ref (87 + 2 * sn), .int (nI (mo)), .int (nI (i) + nI (1))]) (st' := []) (M' := (I, J, Rx R, N, G)) rfl ?_
    rw [show nI (i) + nI (1) = nI (i + 1) from nI_addE (rfl) rfl]
    refine XP_n 1 (pc' := 2) (ls' := [.ref (87 + 2 * sn), .int (nI (mo)), .int (nI (i + 1))]) (st' := []) (M' := (I, J, Rx R, N, G)) rfl ?_
    exact ih (i + 1) (by omega)
theorem l_hoF (hS : St s I) (hW : Wf s) {sn mo : Nat} (hsn : sn < 4) (hmo : mo < 2147483648)  : ∀ (n i : Nat), i + n = sz s sn → (∃ j, i ≤ j ∧ j < sz s sn ∧ ¬ iv 0 mo (s 122 (40 * sn + j))) → XP X (d + 1) k_Sheet_holdsOnly 2 [.ref (87 + 2 * sn), .int (nI (mo)), .int (nI (i))] [] (I, J, Rx R, N, G) (Ret (.int (nI 0)) (I, J, Rx R, N, G)) := by
  have hsz := (hW.sz1 hsn).2
  intro n
  induction n with
  | zero =>
    rintro i hi ⟨j, hj1, hj2, -⟩
    omega
  | succ n ih =>
    rintro i hi ⟨j, hj1, hj2, hj3⟩
    refine XP_n 2 (pc' := 4) (ls' := [.ref (87 + 2 * sn), .int (nI (mo)), .int (nI (i))]) (st' := [.ref (87 + 2 * sn), .int (nI (i))]) (M' := (I, J, Rx R, N, G)) rfl ?_
    refine XP_getw rfl (by rw [sh_o (show sn < 4 by omega)]; rfl) ?_
    show XP X _ k_Sheet_holdsOnly 5 [.ref (87 + 2 * sn), .int (nI (mo)), .int (nI (i))] [.int (I (87 + 2 * sn) 1), .int (nI (i))] _ _
    rw [show I (87 + 2 * sn) 1 = s 121 sn from hS _ _ _ _ (sh_m1 (show sn < 4 by omega))]
    rw [(hW.sz1 hsn).1]
    refine XP_icN (x := i) (y := sz s sn) rfl (by omega) (by omega) (fun (b5 : sz s sn ≤ i) => absurd b5 (by omega)) (fun (b5 : i < sz s sn) => ?_)
    refine XP_n 2 (pc' := 8) (ls' := [.ref (87 + 2 * sn), .int (nI (mo)), .int (nI (i))]) (st' := [.int (nI (i)), .ref (87 + 2 * sn)]) (M' := (I, J, Rx R, N, G)) rfl ?_
    refine XP_pure rfl (by show (isO (87 + 2 * sn) 8 || false) = true; rw [sh_o (by omega)]; rfl) (c_shat hS hW (show sn < 4 by omega) (show i < sz s sn by omega)) ?_
    refine XP_ifD rfl (fun (b9 : s 122 (40 * sn + (i)) < 0) => ?_) (fun (b9 : 0 ≤ s 122 (40 * sn + (i))) => ?_)
    · have n9 := Int32.not_le.mpr b9
      refine XP_n 1 (pc' := 16) (ls' := [.ref (87 + 2 * sn), .int (nI (mo)), .int (nI (i))]) (st' := [.int (nI (0))]) (M' := (I, J, Rx R, N, G)) rfl ?_
      exact XP_ret rfl ⟨rfl, rfl⟩
    · have n9 := Int32.not_lt.mpr b9
      refine XP_n 2 (pc' := 12) (ls' := [.ref (87 + 2 * sn), .int (nI (mo)), .int (nI (i))]) (st' := [.int (nI (i)), .ref (87 + 2 * sn)]) (M' := (I, J, Rx R, N, G)) rfl ?_
      refine XP_pure rfl (by show (isO (87 + 2 * sn) 8 || false) = true; rw [sh_o (by omega)]; rfl) (c_shat hS hW (show sn < 4 by omega) (show i < sz s sn by omega)) ?_
      refine XP_n 1 (pc' := 14) (ls' := [.ref (87 + 2 * sn), .int (nI (mo)), .int (nI (i))]) (st' := [.int (nI (mo)), .int (s 122 (40 * sn + (i)))]) (M' := (I, J, Rx R, N, G)) rfl ?_
      refine XP_icD rfl (fun (b14 : s 122 (40 * sn + (i)) ≤ nI (mo)) => ?_) (fun (b14 : nI (mo) < s 122 (40 * sn + (i))) => ?_)
      · have n14 := Int32.not_lt.mpr b14
        refine XP_n 1 (pc' := 18) (ls' := [.ref (87 + 2 * sn), .int (nI (mo)), .int (nI (i) + nI (1))]) (st' := []) (M' := (I, J, Rx R, N, G)) rfl ?_
        rw [show nI (i) + nI (1) = nI (i + 1) from nI_addE (rfl) rfl]
        refine XP_n 1 (pc' := 2) (ls' := [.ref (87 + 2 * sn), .int (nI (mo)), .int (nI (i + 1))]) (st' := []) (M' := (I, J, Rx R, N, G)) rfl ?_
        refine ih (i + 1) (by omega) ⟨j, ?_, hj2, hj3⟩
        rcases Nat.eq_or_lt_of_le hj1 with e | e
        · subst e
          exact absurd ⟨b9, b14⟩ hj3
        · exact e
      · have n14 := Int32.not_le.mpr b14
        refine XP_n 1 (pc' := 16) (ls' := [.ref (87 + 2 * sn), .int (nI (mo)), .int (nI (i))]) (st' := [.int (nI (0))]) (M' := (I, J, Rx R, N, G)) rfl ?_
        exact XP_ret rfl ⟨rfl, rfl⟩
theorem c_missT (hS : St s I) {sn : Nat} (hsn : sn < 4) (h : s 120 sn = cI (-1)) : TP X d n_Sheet_isMissing [.ref (87 + 2 * sn)] (I, J, Rx R, N, G) (Ret (.int (nI 1)) (I, J, Rx R, N, G)) := by
  unfold TP
  show XP X _ k_Sheet_isMissing 0 [.ref (87 + 2 * sn)] [] _ _
  refine XP_n 1 (pc' := 1) (ls' := [.ref (87 + 2 * sn)]) (st' := [.ref (87 + 2 * sn)]) (M' := (I, J, Rx R, N, G)) rfl ?_
  refine XP_getw rfl (by rw [sh_o (show sn < 4 by omega)]; rfl) ?_
  show XP X _ k_Sheet_isMissing 2 [.ref (87 + 2 * sn)] [.int (I (87 + 2 * sn) 0)] _ _
  rw [show I (87 + 2 * sn) 0 = s 120 sn from hS _ _ _ _ (sh_m0 (show sn < 4 by omega))]
  refine XP_n 1 (pc' := 3) (ls' := [.ref (87 + 2 * sn)]) (st' := [.int (cI (-1)), .int (s 120 sn)]) (M' := (I, J, Rx R, N, G)) rfl ?_
  refine XP_icD rfl (fun (b3 : ¬ s 120 sn = cI (-1)) => absurd b3 (by first | exact (fun z => z h) | exact fun z => z (fun z => z h) | omega)) (fun (b3 : s 120 sn = cI (-1)) => ?_)
  refine XP_n 2 (pc' := 7) (ls' := [.ref (87 + 2 * sn)]) (st' := [.int (nI (1))]) (M' := (I, J, Rx R, N, G)) rfl ?_
  exact XP_ret rfl ⟨rfl, rfl⟩
theorem c_missF (hS : St s I) {sn : Nat} (hsn : sn < 4) (h : ¬ s 120 sn = cI (-1)) : TP X d n_Sheet_isMissing [.ref (87 + 2 * sn)] (I, J, Rx R, N, G) (Ret (.int (nI 0)) (I, J, Rx R, N, G)) := by
  unfold TP
  show XP X _ k_Sheet_isMissing 0 [.ref (87 + 2 * sn)] [] _ _
  refine XP_n 1 (pc' := 1) (ls' := [.ref (87 + 2 * sn)]) (st' := [.ref (87 + 2 * sn)]) (M' := (I, J, Rx R, N, G)) rfl ?_
  refine XP_getw rfl (by rw [sh_o (show sn < 4 by omega)]; rfl) ?_
  show XP X _ k_Sheet_isMissing 2 [.ref (87 + 2 * sn)] [.int (I (87 + 2 * sn) 0)] _ _
  rw [show I (87 + 2 * sn) 0 = s 120 sn from hS _ _ _ _ (sh_m0 (show sn < 4 by omega))]
  refine XP_n 1 (pc' := 3) (ls' := [.ref (87 + 2 * sn)]) (st' := [.int (cI (-1)), .int (s 120 sn)]) (M' := (I, J, Rx R, N, G)) rfl ?_
  refine XP_icD rfl (fun (b3 : ¬ s 120 sn = cI (-1)) => ?_) (fun (b3 : s 120 sn = cI (-1)) => absurd b3 (by first | exact h | exact fun z => z h | omega))
  refine XP_n 1 (pc' := 7) (ls' := [.ref (87 + 2 * sn)]) (st' := [.int (nI (0))]) (M' := (I, J, Rx R, N, G)) rfl ?_
  exact XP_ret rfl ⟨rfl, rfl⟩
theorem c_refM (hS : St s I) (hW : Wf s) {sn k mo : Nat} (hsn : sn < 4) (h : s 120 sn = cI (-1)) : TP X (d + 3) n_H_refusedRow [.ref (87 + 2 * sn), .int (nI k), .int (nI mo)] (I, J, Rx R, N, G) (Ret (.int (cI (-11))) (I, J, Rx R, N, G)) := by
  unfold TP
  show XP X _ k_H_refusedRow 0 [.ref (87 + 2 * sn), .int (nI (k)), .int (nI (mo))] [] _ _
  refine XP_n 3 (pc' := 5) (ls' := [.ref (87 + 2 * sn), .int (nI (k)), .int (nI (mo))]) (st' := [.ref (87 + 2 * sn)]) (M' := (I, J, Rx R, N, G)) rfl ?_
  refine XP_pure rfl (by show (isO (87 + 2 * sn) 8 || false) = true; rw [sh_o hsn]; rfl) (c_missT hS hsn h) ?_
  refine XP_ifN (x := 1)  rfl (by omega) (fun (b6 : 1 = 0) => absurd b6 (by omega)) (fun (b6 : ¬ 1 = 0) => ?_)
  refine XP_n 1 (pc' := 8) (ls' := [.ref (87 + 2 * sn), .int (nI (k)), .int (nI (mo))]) (st' := [.int (cI (-11))]) (M' := (I, J, Rx R, N, G)) rfl ?_
  exact XP_ret rfl ⟨rfl, rfl⟩
theorem c_hoT (hS : St s I) (hW : Wf s) {sn mo : Nat} (hsn : sn < 4) (hmo : mo < 2147483648) (h : ∀ i, i < sz s sn → iv 0 mo (s 122 (40 * sn + i))) : TP X (d + 1) n_Sheet_holdsOnly [.ref (87 + 2 * sn), .int (nI mo)] (I, J, Rx R, N, G) (Ret (.int (nI 1)) (I, J, Rx R, N, G)) := by
  unfold TP
  show XP X _ k_Sheet_holdsOnly 0 [.ref (87 + 2 * sn), .int (nI (mo)), xj] [] _ _
  refine XP_n 2 (pc' := 2) (ls' := [.ref (87 + 2 * sn), .int (nI (mo)), .int (nI (0))]) (st' := []) (M' := (I, J, Rx R, N, G)) rfl ?_
  exact l_hoT hS hW hsn hmo h (sz s sn) 0 (by omega)
theorem c_hoF (hS : St s I) (hW : Wf s) {sn mo : Nat} (hsn : sn < 4) (hmo : mo < 2147483648) (h : ¬ ∀ i, i < sz s sn → iv 0 mo (s 122 (40 * sn + i))) : TP X (d + 1) n_Sheet_holdsOnly [.ref (87 + 2 * sn), .int (nI mo)] (I, J, Rx R, N, G) (Ret (.int (nI 0)) (I, J, Rx R, N, G)) := by
  unfold TP
  show XP X _ k_Sheet_holdsOnly 0 [.ref (87 + 2 * sn), .int (nI (mo)), xj] [] _ _
  refine XP_n 2 (pc' := 2) (ls' := [.ref (87 + 2 * sn), .int (nI (mo)), .int (nI (0))]) (st' := []) (M' := (I, J, Rx R, N, G)) rfl ?_
  refine l_hoF hS hW hsn hmo (sz s sn) 0 (by omega) ?_
  obtain ⟨j, hj⟩ := Classical.not_forall.mp h
  exact ⟨j, Nat.zero_le _, Classical.byContradiction (fun z => hj (fun y => absurd y z)), fun z => hj (fun _ => z)⟩
theorem c_refT (hS : St s I) (hW : Wf s) {sn k mo : Nat} (hsn : sn < 4) (h : ¬ s 120 sn = cI (-1)) (h2 : shOk s sn k mo) (hk : k < 2147483648 := by omega) (hmo : mo < 2147483648 := by omega) : TP X (d + 3) n_H_refusedRow [.ref (87 + 2 * sn), .int (nI k), .int (nI mo)] (I, J, Rx R, N, G) (Ret (.int (nI 0)) (I, J, Rx R, N, G)) := by
  have hsz := (hW.sz1 hsn).2
  have hk2 := h2.1
  unfold TP
  show XP X _ k_H_refusedRow 0 [.ref (87 + 2 * sn), .int (nI (k)), .int (nI (mo))] [] _ _
  refine XP_n 3 (pc' := 5) (ls' := [.ref (87 + 2 * sn), .int (nI (k)), .int (nI (mo))]) (st' := [.ref (87 + 2 * sn)]) (M' := (I, J, Rx R, N, G)) rfl ?_
  refine XP_pure rfl (by show (isO (87 + 2 * sn) 8 || false) = true; rw [sh_o hsn]; rfl) (c_missF hS hsn h) ?_
  refine XP_ifN (x := 0)  rfl (by omega) (fun (b6 : 0 = 0) => ?_) (fun (b6 : ¬ 0 = 0) => absurd b6 (by omega))
  refine XP_n 1 (pc' := 10) (ls' := [.ref (87 + 2 * sn), .int (nI (k)), .int (nI (mo))]) (st' := [.ref (87 + 2 * sn)]) (M' := (I, J, Rx R, N, G)) rfl ?_
  refine XP_getw rfl (by rw [sh_o (show sn < 4 by omega)]; rfl) ?_
  show XP X _ k_H_refusedRow 11 [.ref (87 + 2 * sn), .int (nI (k)), .int (nI (mo))] [.int (I (87 + 2 * sn) 1)] _ _
  rw [show I (87 + 2 * sn) 1 = s 121 sn from hS _ _ _ _ (sh_m1 (show sn < 4 by omega))]
  rw [(hW.sz1 hsn).1]
  refine XP_n 1 (pc' := 12) (ls' := [.ref (87 + 2 * sn), .int (nI (k)), .int (nI (mo))]) (st' := [.int (nI (k)), .int (nI (sz s sn))]) (M' := (I, J, Rx R, N, G)) rfl ?_
  refine XP_icN (x := sz s sn) (y := k) rfl (by omega) (by omega) (fun (b12 : ¬ sz s sn = k) => absurd b12 (by omega)) (fun (b12 : sz s sn = k) => ?_)
  refine XP_n 2 (pc' := 15) (ls' := [.ref (87 + 2 * sn), .int (nI (k)), .int (nI (mo))]) (st' := [.int (nI (mo)), .ref (87 + 2 * sn)]) (M' := (I, J, Rx R, N, G)) rfl ?_
  refine XP_pure rfl (by show (isO (87 + 2 * sn) 8 || false) = true; rw [sh_o hsn]; rfl) (c_hoT hS hW hsn hmo (by rw [h2.1]; exact h2.2)) ?_
  refine XP_ifN (x := 1)  rfl (by omega) (fun (b16 : 1 = 0) => absurd b16 (by omega)) (fun (b16 : ¬ 1 = 0) => ?_)
  refine XP_n 2 (pc' := 20) (ls' := [.ref (87 + 2 * sn), .int (nI (k)), .int (nI (mo))]) (st' := [.int (nI (0))]) (M' := (I, J, Rx R, N, G)) rfl ?_
  exact XP_ret rfl ⟨rfl, rfl⟩
theorem c_refB (hS : St s I) (hW : Wf s) {sn k mo : Nat} (hsn : sn < 4) (h : ¬ s 120 sn = cI (-1)) (h2 : ¬ shOk s sn k mo) (hk : k < 2147483648 := by omega) (hmo : mo < 2147483648 := by omega) : TP X (d + 3) n_H_refusedRow [.ref (87 + 2 * sn), .int (nI k), .int (nI mo)] (I, J, Rx R, N, G) (Ret (.int (cI (-2))) (I, J, Rx R, N, G)) := by
  have hsz := (hW.sz1 hsn).2

  unfold TP
  show XP X _ k_H_refusedRow 0 [.ref (87 + 2 * sn), .int (nI (k)), .int (nI (mo))] [] _ _
  refine XP_n 3 (pc' := 5) (ls' := [.ref (87 + 2 * sn), .int (nI (k)), .int (nI (mo))]) (st' := [.ref (87 + 2 * sn)]) (M' := (I, J, Rx R, N, G)) rfl ?_
  refine XP_pure rfl (by show (isO (87 + 2 * sn) 8 || false) = true; rw [sh_o hsn]; rfl) (c_missF hS hsn h) ?_
  refine XP_ifN (x := 0)  rfl (by omega) (fun (b6 : 0 = 0) => ?_) (fun (b6 : ¬ 0 = 0) => absurd b6 (by omega))
  refine XP_n 1 (pc' := 10) (ls' := [.ref (87 + 2 * sn), .int (nI (k)), .int (nI (mo))]) (st' := [.ref (87 + 2 * sn)]) (M' := (I, J, Rx R, N, G)) rfl ?_
  refine XP_getw rfl (by rw [sh_o (show sn < 4 by omega)]; rfl) ?_
  show XP X _ k_H_refusedRow 11 [.ref (87 + 2 * sn), .int (nI (k)), .int (nI (mo))] [.int (I (87 + 2 * sn) 1)] _ _
  rw [show I (87 + 2 * sn) 1 = s 121 sn from hS _ _ _ _ (sh_m1 (show sn < 4 by omega))]
  rw [(hW.sz1 hsn).1]
  refine XP_n 1 (pc' := 12) (ls' := [.ref (87 + 2 * sn), .int (nI (k)), .int (nI (mo))]) (st' := [.int (nI (k)), .int (nI (sz s sn))]) (M' := (I, J, Rx R, N, G)) rfl ?_
  refine XP_icN (x := sz s sn) (y := k) rfl (by omega) (by omega) (fun (b12 : ¬ sz s sn = k) => ?_) (fun (b12 : sz s sn = k) => ?_)
  · refine XP_n 1 (pc' := 20) (ls' := [.ref (87 + 2 * sn), .int (nI (k)), .int (nI (mo))]) (st' := [.int (cI (-2))]) (M' := (I, J, Rx R, N, G)) rfl ?_
    exact XP_ret rfl ⟨rfl, rfl⟩
  · refine XP_n 2 (pc' := 15) (ls' := [.ref (87 + 2 * sn), .int (nI (k)), .int (nI (mo))]) (st' := [.int (nI (mo)), .ref (87 + 2 * sn)]) (M' := (I, J, Rx R, N, G)) rfl ?_
    refine XP_pure rfl (by show (isO (87 + 2 * sn) 8 || false) = true; rw [sh_o hsn]; rfl) (c_hoF hS hW hsn hmo (fun z => h2 ⟨b12, by rw [← b12]; exact z⟩)) ?_
    refine XP_ifN (x := 0)  rfl (by omega) (fun (b16 : 0 = 0) => ?_) (fun (b16 : ¬ 0 = 0) => absurd b16 (by omega))
    refine XP_n 1 (pc' := 20) (ls' := [.ref (87 + 2 * sn), .int (nI (k)), .int (nI (mo))]) (st' := [.int (cI (-2))]) (M' := (I, J, Rx R, N, G)) rfl ?_
    exact XP_ret rfl ⟨rfl, rfl⟩
end
