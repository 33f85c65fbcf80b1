/-! plans, the class: solve -/
/-- a plan's places -/
def PlL (R : Nat → Nat → Option Nat) (N : Nat → Nat) (pi ro : Nat) : Prop := isO pi 4 = true ∧ Rx R pi 0 = some ro ∧ isA ro 0 = true ∧ alen N ro = 16 ∧ ((pi = 23 ∧ ro = 24) ∨ (68 ≤ pi ∧ pi ≤ 76 ∧ ro = pi + 1))
def SI (s : Nat → Nat → Int32) (q : Nat) (br : Int32) (no n : Nat) (I : Nat → Nat → Int32) (J : Nat → Nat → Int64) : Prop := (∀ y, y ≤ cY s → I 25 y = gB s y) ∧ I 21 9 = nI no ∧ I 21 10 = br ∧ J 21 11 = lN (pSc s q) ∧ (∀ o, o < cP s → q = 0 ∨ o = q - 1 → HP s o J) ∧ (∀ y, n ≤ y → y ≤ cY s → ∀ d, d ≤ fr s y → J (34 + y) d = lN (pL s q br no (cY s - y) d)) ∧ (∀ y, n ≤ y → y < cY s → ∀ d, d ≤ fr s y → I (52 + y) d = nI (pA s q br no y d))
def F3 (s : Nat → Nat → Int32) (I I1 : Nat → Nat → Int32) : Prop := ∀ k, k < 52 ∨ 67 < k → k ≠ oT (cLw s) + 3 → k ≠ oT (cLw s) + 2 → I1 k = I k
def F3J (J J1 : Nat → Nat → Int64) : Prop := ∀ k, k < 32 ∨ k = 33 ∨ 50 < k → J1 k = J k
theorem HP_of {s : Nat → Nat → Int32} {p : Nat} {J J1 : Nat → Nat → Int64} (h : J1 (27 + p) = J (27 + p)) (hp : HP s p J) : HP s p J1 := fun y hy d hd => (congrFun h _).trans (hp y hy d hd)
theorem scr_pl : ∀ k, 21 ≤ k → k ≤ 77 → isScr k = true := by
  have : ∀ j, j < 57 → isScr (21 + j) = true := by decide +kernel
  intro k h1 h2
  have := this (k - 21) (by omega)
  rwa [show 21 + (k - 21) = k by omega] at this
theorem St_P {s I I1 : Nat → Nat → Int32} (hW : Wf s) (hS : St s I) (h : ∀ k, k < 21 ∨ 77 < k → k ≠ oT (cLw s) + 3 → k ≠ oT (cLw s) + 2 → I1 k = I k) : St s I1 := by
  intro k j a b hk
  by_cases h1 : k < 21 ∨ 77 < k
  · by_cases h2 : k = oT (cLw s) + 3
    · exact absurd hk (by rw [scr_mp (lw_scr hW k (by simp [h2]))]; simp)
    · by_cases h3 : k = oT (cLw s) + 2
      · exact absurd hk (by rw [scr_mp (lw_scr hW k (by simp [h3]))]; simp)
      · rw [h k h1 h2 h3]
        exact hS k j a b hk
  · exact absurd hk (by rw [scr_mp (scr_pl k (by omega) (by omega))]; simp)
theorem St_F3 {s I I1 : Nat → Nat → Int32} (hW : Wf s) (hS : St s I) (h : F3 s I I1) : St s I1 := St_P hW hS (fun k h1 h2 h3 => h k (by omega) h2 h3)
theorem qP_neg {q : Nat} (hq : q ≤ 4) (h : qP q < 0) : q = 0 := by
  unfold qP at h
  by_cases e : q = 0
  · exact e
  · rw [if_neg e] at h
    exact absurd h (nI_pos (by omega))
theorem qP_pos {q : Nat} (h : 0 ≤ qP q) : ¬ q = 0 ∧ qP q = nI (q - 1) := by
  unfold qP at *
  by_cases e : q = 0
  · rw [if_pos e] at h
    exact absurd h (by decide)
  · rw [if_neg e]
    exact ⟨e, rfl⟩
section
variable {X : hX} {d : Nat} {s I : Nat → Nat → Int32} {J : Nat → Nat → Int64} {R : Nat → Nat → Option Nat} {N : Nat → Nat} {G : hG} {Q : Option Value → hM → Prop}
theorem c_plput {pi ro y : Nat} {x : Int32} (hP : PlL R N pi ro) (hy : y < 16) : TP X d n_Plan_put [.ref pi, .int (nI y), .int x] (I, J, Rx R, N, G) (fun v M' => v = none ∧ M' = (rw2 I ro y x, J, Rx R, N, G)) := by
  obtain ⟨h1, h2, h3, h4, -⟩ := hP
  have h1' : (isO pi 4 && true) = true := by rw [h1]; rfl
  unfold TP
  show XP X _ k_Plan_put 0 [.ref (pi), .int (nI (y)), .int (x)] [] _ _
  refine XP_n 1 (pc' := 1) (ls' := [.ref (pi), .int (nI (y)), .int (x)]) (st' := [.int (nI (y))]) (M' := (I, J, Rx R, N, G)) rfl ?_
  refine XP_ifN (x := y)  rfl (by omega) (fun (b1 : y < 0) => absurd b1 (by omega)) (fun (b1 : 0 ≤ y) => ?_)
  refine XP_n 2 (pc' := 4) (ls' := [.ref (pi), .int (nI (y)), .int (x)]) (st' := [.ref (pi), .int (nI (y))]) (M' := (I, J, Rx R, N, G)) rfl ?_
  refine XP_getr rfl h1' h2  ?_
  refine XP_len rfl h3 h4 ?_
  refine XP_icN (x := y) (y := 16) rfl (by omega) (by omega) (fun (b6 : 16 ≤ y) => absurd b6 (by omega)) (fun (b6 : y < 16) => ?_)
  refine XP_n 1 (pc' := 8) (ls' := [.ref (pi), .int (nI (y)), .int (x)]) (st' := [.ref (pi)]) (M' := (I, J, Rx R, N, G)) rfl ?_
  refine XP_getr rfl h1' h2  ?_
  refine XP_n 2 (pc' := 11) (ls' := [.ref (pi), .int (nI (y)), .int (x)]) (st' := [.int (x), .int (nI (y)), .ref (ro)]) (M' := (I, J, Rx R, N, G)) rfl ?_
  refine XP_iast rfl h3 (show y < 16 by omega) h4 (by omega) ?_
  exact XP_ret rfl ⟨rfl, rfl⟩
theorem c_plin {pi ro y : Nat} (hP : PlL R N pi ro) (hy : y < 16) : TP X d n_Plan_raiseIn [.ref pi, .int (nI y)] (I, J, Rx R, N, G) (Ret (.int (I ro y)) (I, J, Rx R, N, G)) := by
  obtain ⟨h1, h2, h3, h4, -⟩ := hP
  have h1' : (isO pi 4 && true) = true := by rw [h1]; rfl
  unfold TP
  show XP X _ k_Plan_raiseIn 0 [.ref (pi), .int (nI (y))] [] _ _
  refine XP_n 1 (pc' := 1) (ls' := [.ref (pi), .int (nI (y))]) (st' := [.int (nI (y))]) (M' := (I, J, Rx R, N, G)) rfl ?_
  refine XP_ifN (x := y)  rfl (by omega) (fun (b1 : y < 0) => absurd b1 (by omega)) (fun (b1 : 0 ≤ y) => ?_)
  refine XP_n 2 (pc' := 4) (ls' := [.ref (pi), .int (nI (y))]) (st' := [.ref (pi), .int (nI (y))]) (M' := (I, J, Rx R, N, G)) rfl ?_
  refine XP_getr rfl h1' h2  ?_
  refine XP_len rfl h3 h4 ?_
  refine XP_icN (x := y) (y := 16) rfl (by omega) (by omega) (fun (b6 : 16 ≤ y) => absurd b6 (by omega)) (fun (b6 : y < 16) => ?_)
  refine XP_n 1 (pc' := 8) (ls' := [.ref (pi), .int (nI (y))]) (st' := [.ref (pi)]) (M' := (I, J, Rx R, N, G)) rfl ?_
  refine XP_getr rfl h1' h2  ?_
  refine XP_n 1 (pc' := 10) (ls' := [.ref (pi), .int (nI (y))]) (st' := [.int (nI (y)), .ref (ro)]) (M' := (I, J, Rx R, N, G)) rfl ?_
  refine XP_iraw rfl h3 (show y < 16 by omega) h4 (by omega) ?_
  refine XP_n 1 (pc' := 13) (ls' := [.ref (pi), .int (nI (y))]) (st' := [.int (I ro y)]) (M' := (I, J, Rx R, N, G)) rfl ?_
  exact XP_ret rfl ⟨rfl, rfl⟩
theorem l_fill {k m : Nat} {x : Int64} (hk : isA k 1 = true) (hm : alen N k = m) (h31 : m < 2147483648) : ∀ (n i : Nat) (J1 : Nat → Nat → Int64), i + n = m → OnlyJ [k] J J1 → (∀ j, j < i → J1 k j = x) → XP X d k_Arrays_fill_d0a16 5 [.ref (k), .long (x), xj, .int (nI (i)), .int (nI (m))] [] (I, J1, Rx R, N, G) (fun v M' => v = none ∧ ∃ J', M' = (I, J', Rx R, N, G) ∧ OnlyJ [k] J J' ∧ ∀ j, j < m → J' k j = x) := by
  intro n
  induction n with
  | zero =>
    rintro i J1 hi hO hx
    obtain rfl : i = m := by omega
    refine XP_n 2 (pc' := 7) (ls' := [.ref (k), .long (x), xj, .int (nI (i)), .int (nI (i))]) (st' := [.int (nI (i)), .int (nI (i))]) (M' := (I, J1, Rx R, N, G)) rfl ?_
    refine XP_icN (x := i) (y := i) rfl (by omega) (by omega) (fun (b7 : i ≤ i) => ?_) (fun (b7 : i < i) => absurd b7 (by omega))
    exact XP_ret rfl ⟨rfl, _, rfl, hO, hx⟩
  | succ n ih =>
    rintro i J1 hi hO hx
    refine XP_n 2 (pc' := 7) (ls' := [.ref (k), .long (x), xj, .int (nI (i)), .int (nI (m))]) (st' := [.int (nI (m)), .int (nI (i))]) (M' := (I, J1, Rx R, N, G)) rfl ?_
    refine XP_icN (x := i) (y := m) rfl (by omega) (by omega) (fun (b7 : m ≤ i) => absurd b7 (by omega)) (fun (b7 : i < m) => ?_)
    refine XP_n 3 (pc' := 11) (ls' := [.ref (k), .long (x), xj, .int (nI (i)), .int (nI (m))]) (st' := [.long (x), .int (nI (i)), .ref (k)]) (M' := (I, J1, Rx R, N, G)) rfl ?_
    refine XP_last rfl hk (show i < m by omega) hm (by omega) ?_
    refine XP_n 1 (pc' := 13) (ls' := [.ref (k), .long (x), xj, .int (nI (i) + nI (1)), .int (nI (m))]) (st' := []) (M' := (I, (rw2 J1 k i (x)), Rx R, N, G)) rfl ?_
    rw [show nI (i) + nI (1) = nI (i + 1) from nI_addE (rfl) rfl]
    refine XP_n 1 (pc' := 5) (ls' := [.ref (k), .long (x), xj, .int (nI (i + 1)), .int (nI (m))]) (st' := []) (M' := (I, (rw2 J1 k i (x)), Rx R, N, G)) rfl ?_
    refine ih (i + 1) _ (by omega) (OnlyJ.w hO (by simp)) (fun j hj => ?_)
    by_cases e : j = i
    · subst e
      rw [rw2_at]
    · rw [rw2_nj _ _ _ e]
      exact hx j (by omega)
theorem XP_len1 {X : hX} {d pc n k : Nat} {C : List Instr} {ls r : List Value} {I : Nat → Nat → Int32} {J : Nat → Nat → Int64} {R : Nat → Nat → Option Nat} {N : Nat → Nat} {G : hG} {Q : Option Value → hM → Prop} (hC : C.getD pc .nop = .arraylength)
    (hk : isA k 1 = true) (hn : alen N k = n) (kk : XP X d C (pc + 1) ls (.int (nI n) :: r) (I, J, R, N, G) Q) : XP X d C pc ls (.ref k :: r) (I, J, R, N, G) Q := by
  refine XP_s (M' := (I, J, R, N, G)) ?_ kk
  rw [hC]
  unfold isA at hk
  show (match kd k with
      | .inr _ => some (pc + 1, ls, Value.int (nI (alen N k)) :: r, (I, J, R, N, G))
      | .inl _ => none) = _
  revert hk
  cases kd k with
  | inl c => intro h; cases h
  | inr c => intro _; rw [hn]
theorem c_fillA {k m : Nat} {x : Int64} (hk : isA k 1 = true) (hm : alen N k = m) (h31 : m < 2147483648) : TP X d n_Arrays_fill_d0a16 [.ref k, .long x] (I, J, Rx R, N, G) (fun v M' => v = none ∧ ∃ J', M' = (I, J', Rx R, N, G) ∧ OnlyJ [k] J J' ∧ ∀ j, j < m → J' k j = x) := by
  unfold TP
  show XP X _ k_Arrays_fill_d0a16 0 [.ref (k), .long (x), xj, xj, xj] [] _ _
  refine XP_n 3 (pc' := 3) (ls' := [.ref (k), .long (x), xj, .int (nI (0)), xj]) (st' := [.ref (k)]) (M' := (I, J, Rx R, N, G)) rfl ?_
  refine XP_len1 rfl hk hm ?_
  refine XP_n 1 (pc' := 5) (ls' := [.ref (k), .long (x), xj, .int (nI (0)), .int (nI (m))]) (st' := []) (M' := (I, J, Rx R, N, G)) rfl ?_
  exact l_fill hk hm h31 m 0 J (by omega) OnlyJ.rf (fun j h => absurd h (by omega))
theorem l_s4 (hS : St s I) (hW : Wf s) (hL : Lk s R N) {q no : Nat} {br : Int32} (hq : q ≤ cP s) (hno : no ≤ 16) {pi y : Nat} (hy : y < cY s) (kk : ∀ (I1 : Nat → Nat → Int32) (J1 : Nat → Nat → Int64) (w5 : Value), SI s q br no y I1 J1 → F3 s I I1 → F3J J J1 → XP X (d + 5) k_Planner_solve 98 [.ref (21), .ref (pi), .int (qP q), .int (nI (cY s)), .int (nI (y)), w5] [] (I1, J1, Rx R, N, G) Q) :
    ∀ (n dd : Nat) (I1 : Nat → Nat → Int32) (J1 : Nat → Nat → Int64), dd + n = fr s y + 1 → SI s q br no (y + 1) I1 J1 → (∀ d', d' ≤ fr s (y + 1) → J1 32 d' = lN (hY s q y d')) → (∀ d', d' < dd → J1 (34 + y) d' = lN (pL s q br no (cY s - y) d')) → (∀ d', d' < dd → I1 (52 + y) d' = nI (pA s q br no y d')) → F3 s I I1 → F3J J J1 → XP X (d + 5) k_Planner_solve 84 [.ref (21), .ref (pi), .int (qP q), .int (nI (cY s)), .int (nI (y)), .int (nI (dd))] [] (I1, J1, Rx R, N, G) Q := by
  have hy16 := hW.y.2.2
  have hp4 := hW.p.2
  have hw60 := hW.w.2
  have hf := fr_le s (show y ≤ 16 by omega)
  intro n
  induction n with
  | zero =>
    rintro dd I1 J1 hd hSI hWd hr1 hr2 hO hOJ
    have hS1 := St_F3 hW hS hO
    refine XP_n 3 (pc' := 87) (ls' := [.ref (21), .ref (pi), .int (qP q), .int (nI (cY s)), .int (nI (y)), .int (nI (dd))]) (st' := [.int (nI (y)), .ref (21), .int (nI (dd))]) (M' := (I1, J1, Rx R, N, G)) rfl ?_
    refine XP_pure rfl rfl (c_fr hS1 hW (by omega)) ?_
    refine XP_icN (x := dd) (y := fr s y) rfl (by omega) (by omega) (fun (b88 : fr s y < dd) => ?_) (fun (b88 : dd ≤ fr s y) => absurd b88 (by omega))
    refine kk _ _ _ ⟨hSI.1, hSI.2.1, hSI.2.2.1, hSI.2.2.2.1, hSI.2.2.2.2.1, fun y' h1 h2 d' h3 => ?_, fun y' h1 h2 d' h3 => ?_⟩ hO hOJ
    · by_cases e : y' = y
      · subst e
        exact hr1 d' (by omega)
      · exact hSI.2.2.2.2.2.1 y' (by omega) h2 d' h3
    · by_cases e : y' = y
      · subst e
        exact hr2 d' (by omega)
      · exact hSI.2.2.2.2.2.2 y' (by omega) h2 d' h3
  | succ n ih =>
    rintro dd I1 J1 hd hSI hWd hr1 hr2 hO hOJ
    have hS1 := St_F3 hW hS hO
    refine XP_n 3 (pc' := 87) (ls' := [.ref (21), .ref (pi), .int (qP q), .int (nI (cY s)), .int (nI (y)), .int (nI (dd))]) (st' := [.int (nI (y)), .ref (21), .int (nI (dd))]) (M' := (I1, J1, Rx R, N, G)) rfl ?_
    refine XP_pure rfl rfl (c_fr hS1 hW (by omega)) ?_
    refine XP_icN (x := dd) (y := fr s y) rfl (by omega) (by omega) (fun (b88 : fr s y < dd) => absurd b88 (by omega)) (fun (b88 : dd ≤ fr s y) => ?_)
    refine XP_n 2 (pc' := 91) (ls' := [.ref (21), .ref (pi), .int (qP q), .int (nI (cY s)), .int (nI (y)), .int (nI (dd))]) (st' := [.int (nI (49)), .int (nI (dd))]) (M' := (I1, J1, Rx R, N, G)) rfl ?_
    refine XP_icN (x := dd) (y := 49) rfl (by omega) (by omega) (fun (b91 : 49 ≤ dd) => absurd b91 (by omega)) (fun (b91 : dd < 49) => ?_)
    refine XP_n 3 (pc' := 95) (ls' := [.ref (21), .ref (pi), .int (qP q), .int (nI (cY s)), .int (nI (y)), .int (nI (dd))]) (st' := [.int (nI (dd)), .int (nI (y)), .ref (21)]) (M' := (I1, J1, Rx R, N, G)) rfl ?_
    refine XP_call rfl rfl (c_choose hS1 hW hL hy (by omega) hno hSI.2.1 hSI.2.2.1 hSI.2.2.2.1 (hSI.1 y (by omega)) hWd (hSI.2.2.2.2.2.1 (y + 1) (Nat.le_refl _) (by omega))) ?_
    rintro v2 M2 ⟨rfl, I2, rfl, hO2, hat, hne⟩
    have g2 : ∀ k, k ≠ 52 + y → k ≠ oT (cLw s) + 3 → k ≠ oT (cLw s) + 2 → I2 k = I1 k := fun k h1 h2 h3 => hO2 k (by simp [h1, h2, h3])
    have hoT := oT_rg (cLw s)
    refine XP_n 1 (pc' := 97) (ls' := [.ref (21), .ref (pi), .int (qP q), .int (nI (cY s)), .int (nI (y)), .int (nI (dd) + nI (1))]) (st' := []) (M' := (I2, (rw2 J1 (34 + y) dd (lN (pL s q br no (cY s - y) dd))), Rx R, N, G)) rfl ?_
    rw [show nI (dd) + nI (1) = nI (dd + 1) from nI_addE (rfl) rfl]
    refine XP_n 1 (pc' := 84) (ls' := [.ref (21), .ref (pi), .int (qP q), .int (nI (cY s)), .int (nI (y)), .int (nI (dd + 1))]) (st' := []) (M' := (I2, (rw2 J1 (34 + y) dd (lN (pL s q br no (cY s - y) dd))), Rx R, N, G)) rfl ?_
    refine ih (dd + 1) _ _ (by omega) ⟨fun y' h => ?_, ?_, ?_, ?_, fun o h1 h2 => ?_, fun y' h1 h2 d' h3 => ?_, fun y' h1 h2 d' h3 => ?_⟩ (fun d' h => ?_) (fun d' h => ?_) (fun d' h => ?_) (fun k h1 h2 h3 => ?_) (fun k h1 => ?_)
    · rw [g2 25 (by omega) (by omega) (by omega)]
      exact hSI.1 y' h
    · rw [g2 21 (by omega) (by omega) (by omega)]
      exact hSI.2.1
    · rw [g2 21 (by omega) (by omega) (by omega)]
      exact hSI.2.2.1
    · rw [rw2_ne _ _ _ (by omega)]
      exact hSI.2.2.2.1
    · exact HP_of (rw2_ne _ _ _ (by omega)) (hSI.2.2.2.2.1 o h1 h2)
    · rw [rw2_ne _ _ _ (by omega)]
      exact hSI.2.2.2.2.2.1 y' h1 h2 d' h3
    · rw [g2 (52 + y') (by omega) (by omega) (by omega)]
      exact hSI.2.2.2.2.2.2 y' h1 h2 d' h3
    · rw [rw2_ne _ _ _ (by omega)]
      exact hWd d' h
    · by_cases e : d' = dd
      · subst e
        rw [rw2_at]
      · rw [rw2_nj _ _ _ e]
        exact hr1 d' (by omega)
    · by_cases e : d' = dd
      · subst e
        exact hat
      · rw [hne d' e]
        exact hr2 d' (by omega)
    · rw [g2 k (by omega) h2 h3]
      exact hO k h1 h2 h3
    · rw [rw2_ne _ _ _ (by omega)]
      exact hOJ k h1
theorem l_s3 (hS : St s I) (hW : Wf s) (hL : Lk s R N) {q no : Nat} {br : Int32} (hq : q ≤ cP s) (hno : no ≤ 16) {pi : Nat} (kk : ∀ (I1 : Nat → Nat → Int32) (J1 : Nat → Nat → Int64) (x4 : Int32) (w5 : Value), SI s q br no 0 I1 J1 → F3 s I I1 → F3J J J1 → XP X (d + 5) k_Planner_solve 100 [.ref (21), .ref (pi), .int (qP q), .int (nI (cY s)), .int (x4), w5] [] (I1, J1, Rx R, N, G) Q) :
    ∀ (n : Nat) (I1 : Nat → Nat → Int32) (J1 : Nat → Nat → Int64) (x4 : Int32) (w5 : Value), n ≤ cY s → x4 = nI n - nI 1 → SI s q br no n I1 J1 → F3 s I I1 → F3J J J1 → XP X (d + 5) k_Planner_solve 76 [.ref (21), .ref (pi), .int (qP q), .int (nI (cY s)), .int (x4), w5] [] (I1, J1, Rx R, N, G) Q := by
  have hy16 := hW.y.2.2
  have hp4 := hW.p.2
  have hw60 := hW.w.2
  intro n
  induction n with
  | zero =>
    rintro I1 J1 _ w5 hn rfl hSI hO hOJ
    refine XP_n 1 (pc' := 77) (ls' := [.ref (21), .ref (pi), .int (qP q), .int (nI (cY s)), .int (nI (0) - nI (1)), w5]) (st' := [.int (nI (0) - nI (1))]) (M' := (I1, J1, Rx R, N, G)) rfl ?_
    refine XP_ifD rfl (fun (b77 : nI (0) - nI (1) < 0) => ?_) (fun (b77 : 0 ≤ nI (0) - nI (1)) => absurd b77 (by decide))
    have n77 := Int32.not_le.mpr b77
    exact kk _ _ _ _ hSI hO hOJ
  | succ n ih =>
    rintro I1 J1 x4 w5 hn hx hSI hO hOJ
    have hS1 := St_F3 hW hS hO
    obtain rfl : x4 = nI n := by rw [hx]; exact nI_subE rfl rfl (by omega)
    refine XP_n 1 (pc' := 77) (ls' := [.ref (21), .ref (pi), .int (qP q), .int (nI (cY s)), .int (nI (n)), w5]) (st' := [.int (nI (n))]) (M' := (I1, J1, Rx R, N, G)) rfl ?_
    refine XP_ifN (x := n)  rfl (by omega) (fun (b77 : n < 0) => absurd b77 (by omega)) (fun (b77 : 0 ≤ n) => ?_)
    refine XP_n 3 (pc' := 81) (ls' := [.ref (21), .ref (pi), .int (qP q), .int (nI (cY s)), .int (nI (n)), w5]) (st' := [.int (nI (n)), .int (qP q), .ref (21)]) (M' := (I1, J1, Rx R, N, G)) rfl ?_
    refine XP_call rfl rfl (c_weigh hS1 hW hq (show n < cY s by omega) (fun o h1 h2 d' h3 => hSI.2.2.2.2.1 o h1 h2 n (by omega) d' h3)) ?_
    rintro v2 M2 ⟨rfl, J2, rfl, hJ2, hWd⟩
    have g2 : ∀ k, k ≠ 32 → J2 k = J1 k := fun k h => hJ2 k (by simp [h])
    refine XP_n 2 (pc' := 84) (ls' := [.ref (21), .ref (pi), .int (qP q), .int (nI (cY s)), .int (nI (n)), .int (nI (0))]) (st' := []) (M' := (I1, J2, Rx R, N, G)) rfl ?_
    refine l_s4 hS1 hW hL hq hno (show n < cY s by omega) ?_ (fr s n + 1) 0 _ _ (by omega) ⟨hSI.1, hSI.2.1, hSI.2.2.1, ?_, fun o h1 h2 => HP_of (g2 _ (by omega)) (hSI.2.2.2.2.1 o h1 h2), fun y' h1 h2 d' h3 => ?_, hSI.2.2.2.2.2.2⟩ hWd (fun d' h => absurd h (by omega)) (fun d' h => absurd h (by omega)) (fun _ _ _ _ => rfl) (fun _ _ => rfl)
    rotate_left
    · rw [g2 21 (by omega)]
      exact hSI.2.2.2.1
    · rw [g2 _ (by omega)]
      exact hSI.2.2.2.2.2.1 y' h1 h2 d' h3
    intro Ib Jb w5 hSIb hOb hJb
    refine XP_n 2 (pc' := 76) (ls' := [.ref (21), .ref (pi), .int (qP q), .int (nI (cY s)), .int ((nI (n)) + cI (-1)), w5]) (st' := []) (M' := (Ib, Jb, Rx R, N, G)) rfl ?_
    exact ih _ _ _ _ (by omega) (by rw [Int32.sub_eq_add_neg]; rfl) hSIb (fun k h1 h2 h3 => (hOb k h1 h2 h3).trans (hO k h1 h2 h3)) (fun k h => (hJb k h).trans ((g2 k (by omega)).trans (hOJ k h)))
end
