/-! plans, the class: solve, all of it; the best and its cache -/
theorem XP_putw {X : hX} {I : Nat → Nat → Int32} {d pc n k : Nat} {x : Int32} {C : List Instr} {ls r : List Value} {J : Nat → Nat → Int64} {R : Nat → Nat → Option Nat} {N : Nat → Nat} {G : hG} {Q : Option Value → hM → Prop} (hC : C.getD pc .nop = .putfield n) (hk : (isO k (n / 64) && Nat.beq (fk (n / 64) (n % 64)) 0) = true)
    (kk : XP X d C (pc + 1) ls r (rw2 I k (n % 64) x, J, R, N, G) Q) : XP X d C pc ls (.int x :: .ref k :: r) (I, J, R, N, G) Q := by
  refine XP_s (M' := (rw2 I k (n % 64) x, J, R, N, G)) ?_ kk
  rw [hC]
  show (bif (isO k (n / 64) && Nat.beq (fk (n / 64) (n % 64)) 0) then _ else _) = _
  rw [hk]
  rfl
theorem XP_putlw {X : hX} {I : Nat → Nat → Int32} {d pc n k : Nat} {x : Int64} {C : List Instr} {ls r : List Value} {J : Nat → Nat → Int64} {R : Nat → Nat → Option Nat} {N : Nat → Nat} {G : hG} {Q : Option Value → hM → Prop} (hC : C.getD pc .nop = .dstore n) (hk : (isO k (n / 64) && Nat.beq (fk (n / 64) (n % 64)) 1) = true)
    (kk : XP X d C (pc + 1) ls r (I, rw2 J k (n % 64) x, R, N, G) Q) : XP X d C pc ls (.long x :: .ref k :: r) (I, J, R, N, G) Q := by
  refine XP_s (M' := (I, rw2 J k (n % 64) x, R, N, G)) ?_ kk
  rw [hC]
  show (bif (isO k (n / 64) && Nat.beq (fk (n / 64) (n % 64)) 1) then _ else _) = _
  rw [hk]
  rfl
theorem XP_getlw {X : hX} {I : Nat → Nat → Int32} {d pc n k : Nat} {C : List Instr} {ls r : List Value} {J : Nat → Nat → Int64} {R : Nat → Nat → Option Nat} {N : Nat → Nat} {G : hG} {Q : Option Value → hM → Prop} (hC : C.getD pc .nop = .dload n) (hk : (isO k (n / 64) && Nat.beq (fk (n / 64) (n % 64)) 1) = true)
    (kk : XP X d C (pc + 1) ls (.long (J k (n % 64)) :: r) (I, J, R, N, G) Q) : XP X d C pc ls (.ref k :: r) (I, J, R, N, G) Q := by
  refine XP_s (M' := (I, J, R, N, G)) ?_ kk
  rw [hC]
  show (bif (isO k (n / 64) && Nat.beq (fk (n / 64) (n % 64)) 1) then _ else _) = _
  rw [hk]
  rfl
def CchH (s : Nat → Nat → Int32) (I : Nat → Nat → Int32) (J : Nat → Nat → Int64) : Prop := ∀ p, p < cP s → I 31 p = s 1 15 → HP s p J
section
variable {X : hX} {d : Nat} {s I : Nat → Nat → Int32} {J : Nat → Nat → Int64} {R : Nat → Nat → Option Nat} {N : Nat → Nat} {G : hG} {Q : Option Value → hM → Prop}
theorem l_s5 (hW : Wf s) {q no pi ro : Nat} {br : Int32} (hP : PlL R N pi ro) (hSI : SI s q br no 0 I J) : ∀ (n i : Nat) (I1 : Nat → Nat → Int32), i + n = cY s → (∀ k, k ≠ ro → I1 k = I k) → (∀ y, y < i → I1 ro y = nI (pU s q br no y)) → XP X (d + 1) k_Planner_solve 104 [.ref (21), .ref (pi), .int (qP q), .int (nI (cY s)), .int (nI (pD s q br no i)), .int (nI (i))] [] (I1, J, Rx R, N, G) (fun v M' => v = none ∧ ∃ I' J', M' = (I', J', Rx R, N, G) ∧ (∀ k, k ≠ ro → I' k = I k) ∧ (∀ k, k ≠ pi → J' k = J k) ∧ J' pi 1 = lN (pBest s q br no) ∧ ∀ y, y < cY s → I' ro y = nI (pU s q br no y)) := by
  have hy16 := hW.y.2.2
  have hp4 := hW.p.2
  have hw60 := hW.w.2
  have hP' := hP
  obtain ⟨hP1, -, -, -, hP5⟩ := hP'
  have hP1' : (isO pi 4 && true) = true := by rw [hP1]; rfl
  intro n
  induction n with
  | zero =>
    rintro i I1 hi hO hr
    obtain rfl : i = cY s := by omega
    have hdl := pD_le hW q br no (cY s)
    refine XP_n 2 (pc' := 106) (ls' := [.ref (21), .ref (pi), .int (qP q), .int (nI (cY s)), .int (nI (pD s q br no (cY s))), .int (nI (cY s))]) (st' := [.int (nI (cY s)), .int (nI (cY s))]) (M' := (I1, J, Rx R, N, G)) rfl ?_
    refine XP_icN (x := cY s) (y := cY s) rfl (by omega) (by omega) (fun (b106 : cY s ≤ cY s) => ?_) (fun (b106 : cY s < cY s) => absurd b106 (by omega))
    refine XP_n 4 (pc' := 134) (ls' := [.ref (21), .ref (pi), .int (qP q), .int (nI (cY s)), .int (nI (pD s q br no (cY s))), .int (nI (cY s))]) (st' := [.int (nI (0)), .ref (33), .ref (pi)]) (M' := (I1, J, Rx R, N, G)) rfl ?_
    refine XP_aaldS (a := 34) rfl rfl (show 0 < 17 by omega) rfl (by omega) (rx33 R (y := 0) (by omega)) ?_
    refine XP_n 1 (pc' := 136) (ls' := [.ref (21), .ref (pi), .int (qP q), .int (nI (cY s)), .int (nI (pD s q br no (cY s))), .int (nI (cY s))]) (st' := [.int (nI (0)), .ref (34), .ref (pi)]) (M' := (I1, J, Rx R, N, G)) rfl ?_
    refine XP_lraw rfl rfl (show 0 < 49 by omega) rfl (by omega) ?_
    rw [show J 34 0 = lN (pBest s q br no) from hSI.2.2.2.2.2.1 0 (Nat.le_refl _) (Nat.zero_le _) 0 (Nat.zero_le _)]
    refine XP_putlw rfl (hP1') ?_
    show XP X _ k_Planner_solve 138 [.ref (21), .ref (pi), .int (qP q), .int (nI (cY s)), .int (nI (pD s q br no (cY s))), .int (nI (cY s))] [] (I1, (rw2 J pi 1 (lN (pBest s q br no))), Rx R, N, G) _
    exact XP_ret rfl ⟨rfl, _, _, rfl, hO, fun k hk => rw2_ne _ _ _ hk, rw2_at _ _ _ _, hr⟩
  | succ n ih =>
    rintro i I1 hi hO hr
    have hdl := pD_le hW q br no i
    have hpa := pA_le s q br no i (pD s q br no i)
    have hri := hSI.2.2.2.2.2.2 i (Nat.zero_le _) (by omega) (pD s q br no i) (by unfold fr; omega)
    refine XP_n 2 (pc' := 106) (ls' := [.ref (21), .ref (pi), .int (qP q), .int (nI (cY s)), .int (nI (pD s q br no i)), .int (nI (i))]) (st' := [.int (nI (cY s)), .int (nI (i))]) (M' := (I1, J, Rx R, N, G)) rfl ?_
    refine XP_icN (x := i) (y := cY s) rfl (by omega) (by omega) (fun (b106 : cY s ≤ i) => absurd b106 (by omega)) (fun (b106 : i < cY s) => ?_)
    refine XP_n 2 (pc' := 109) (ls' := [.ref (21), .ref (pi), .int (qP q), .int (nI (cY s)), .int (nI (pD s q br no i)), .int (nI (i))]) (st' := [.int (nI (49)), .int (nI (pD s q br no i))]) (M' := (I1, J, Rx R, N, G)) rfl ?_
    refine XP_icN (x := pD s q br no i) (y := 49) rfl (by omega) (by omega) (fun (b109 : 49 ≤ pD s q br no i) => absurd b109 (by omega)) (fun (b109 : pD s q br no i < 49) => ?_)
    refine XP_n 5 (pc' := 115) (ls' := [.ref (21), .ref (pi), .int (qP q), .int (nI (cY s)), .int (nI (pD s q br no i)), .int (nI (i))]) (st' := [.int (nI (i)), .ref (51), .int (nI (i)), .ref (pi)]) (M' := (I1, J, Rx R, N, G)) rfl ?_
    refine XP_aaldS (a := 52 + i) rfl rfl (show i < 16 by omega) rfl (by omega) (rx51 R (by omega)) ?_
    refine XP_n 1 (pc' := 117) (ls' := [.ref (21), .ref (pi), .int (qP q), .int (nI (cY s)), .int (nI (pD s q br no i)), .int (nI (i))]) (st' := [.int (nI (pD s q br no i)), .ref (52 + i), .int (nI (i)), .ref (pi)]) (M' := (I1, J, Rx R, N, G)) rfl ?_
    refine XP_iraw rfl (a52 (by omega)) (show pD s q br no i < 49 by omega) (l52 N (by omega)) (by omega) ?_
    rw [show I1 (52 + i) (pD s q br no i) = nI (pA s q br no i (pD s q br no i)) from (congrFun (hO (52 + i) (by omega)) _).trans hri]
    refine XP_call rfl (show (isO pi 4 || false) = true by rw [hP1]; rfl) (c_plput hP (by omega)) ?_
    rintro v2 M2 ⟨rfl, rfl⟩
    refine XP_n 4 (pc' := 123) (ls' := [.ref (21), .ref (pi), .int (qP q), .int (nI (cY s)), .int (nI (pD s q br no i)), .int (nI (i))]) (st' := [.int (nI (i)), .ref (51), .int (nI (pD s q br no i))]) (M' := ((rw2 I1 ro i (nI (pA s q br no i (pD s q br no i)))), J, Rx R, N, G)) rfl ?_
    refine XP_aaldS (a := 52 + i) rfl rfl (show i < 16 by omega) rfl (by omega) (rx51 R (by omega)) ?_
    refine XP_n 1 (pc' := 125) (ls' := [.ref (21), .ref (pi), .int (qP q), .int (nI (cY s)), .int (nI (pD s q br no i)), .int (nI (i))]) (st' := [.int (nI (pD s q br no i)), .ref (52 + i), .int (nI (pD s q br no i))]) (M' := ((rw2 I1 ro i (nI (pA s q br no i (pD s q br no i)))), J, Rx R, N, G)) rfl ?_
    refine XP_iraw rfl (a52 (by omega)) (show pD s q br no i < 49 by omega) (l52 N (by omega)) (by omega) ?_
    rw [show (rw2 I1 ro i (nI (pA s q br no i (pD s q br no i)))) (52 + i) (pD s q br no i) = nI (pA s q br no i (pD s q br no i)) from (congrFun (rw2_ne _ _ _ (by omega)) _).trans ((congrFun (hO (52 + i) (by omega)) _).trans hri)]
    refine XP_n 2 (pc' := 128) (ls' := [.ref (21), .ref (pi), .int (qP q), .int (nI (cY s)), .int ((nI (pD s q br no i)) + (nI (pA s q br no i (pD s q br no i)))), .int (nI (i))]) (st' := []) (M' := ((rw2 I1 ro i (nI (pA s q br no i (pD s q br no i)))), J, Rx R, N, G)) rfl ?_
    rw [show (nI (pD s q br no i)) + (nI (pA s q br no i (pD s q br no i))) = nI (pD s q br no i + (pA s q br no i (pD s q br no i))) from nI_addE (rfl) (rfl)]
    refine XP_n 1 (pc' := 129) (ls' := [.ref (21), .ref (pi), .int (qP q), .int (nI (cY s)), .int (nI (pD s q br no i + (pA s q br no i (pD s q br no i)))), .int (nI (i) + nI (1))]) (st' := []) (M' := ((rw2 I1 ro i (nI (pA s q br no i (pD s q br no i)))), J, Rx R, N, G)) rfl ?_
    rw [show nI (i) + nI (1) = nI (i + 1) from nI_addE (rfl) rfl]
    refine XP_n 1 (pc' := 104) (ls' := [.ref (21), .ref (pi), .int (qP q), .int (nI (cY s)), .int (nI (pD s q br no i + (pA s q br no i (pD s q br no i)))), .int (nI (i + 1))]) (st' := []) (M' := ((rw2 I1 ro i (nI (pA s q br no i (pD s q br no i)))), J, Rx R, N, G)) rfl ?_
    refine ih (i + 1) _ (by omega) (fun k hk => (rw2_ne _ _ _ hk).trans (hO k hk)) (fun y hy => ?_)
    by_cases e : y = i
    · subst e
      rw [rw2_at]
      rfl
    · rw [rw2_nj _ _ _ e]
      exact hr y (by omega)
theorem l_s2 (hS : St s I) (hW : Wf s) (hL : Lk s R N) {q no : Nat} {br : Int32} (hq : q ≤ cP s) (hno : no ≤ 16) {pi : Nat} (hB : ∀ y, y < cY s → I 25 y = gB s y) (kk : ∀ (I1 : Nat → Nat → Int32) (J1 : Nat → Nat → Int64), Only [31, oT (cLw s) + 3, oT (cLw s) + 2] I I1 → OnlyJ [27, 28, 29, 30] J J1 → (∀ o, o < cP s → q = 0 ∨ o = q - 1 → HP s o J1) → CchH s I1 J1 → (∀ o, I1 31 o = I 31 o ∨ I1 31 o = s 1 15) → XP X (d + 5) k_Planner_solve 66 [.ref (21), .ref (pi), .int (qP q), .int (nI (cY s)), .int (nI (cP s)), xj] [] (I1, J1, Rx R, N, G) Q) :
    ∀ (n i : Nat) (I1 : Nat → Nat → Int32) (J1 : Nat → Nat → Int64), i + n = cP s → Only [31, oT (cLw s) + 3, oT (cLw s) + 2] I I1 → OnlyJ [27, 28, 29, 30] J J1 → (∀ o, o < i → q = 0 ∨ o = q - 1 → HP s o J1) → CchH s I1 J1 → (∀ o, I1 31 o = I 31 o ∨ I1 31 o = s 1 15) → XP X (d + 5) k_Planner_solve 50 [.ref (21), .ref (pi), .int (qP q), .int (nI (cY s)), .int (nI (i)), xj] [] (I1, J1, Rx R, N, G) Q := by
  have hy16 := hW.y.2.2
  have hp4 := hW.p.2
  have hw60 := hW.w.2
  have hoT := oT_rg (cLw s)
  intro n
  induction n with
  | zero =>
    rintro i I1 J1 hi hO hJ hH hC hst
    obtain rfl : i = cP s := by omega
    have hS1 : St s I1 := St_P hW hS (fun k h1 h2 h3 => hO k (by simp; omega))
    refine XP_n 3 (pc' := 53) (ls' := [.ref (21), .ref (pi), .int (qP q), .int (nI (cY s)), .int (nI (cP s)), xj]) (st' := [.ref (1), .int (nI (cP s))]) (M' := (I1, J1, Rx R, N, G)) rfl ?_
    refine XP_geti hS1 rfl rfl rfl ?_
    rw [hW.p.1]
    refine XP_icN (x := cP s) (y := cP s) rfl (by omega) (by omega) (fun (b54 : cP s ≤ cP s) => ?_) (fun (b54 : cP s < cP s) => absurd b54 (by omega))
    exact kk _ _ hO hJ hH hC hst
  | succ n ih =>
    rintro i I1 J1 hi hO hJ hH hC hst
    have hS1 : St s I1 := St_P hW hS (fun k h1 h2 h3 => hO k (by simp; omega))
    have fin : (q = 0 ∨ i = q - 1) → XP X (d + 5) k_Planner_solve 60 [.ref 21, .ref pi, .int (qP q), .int (nI (cY s)), .int (nI i), xj] [] (I1, J1, Rx R, N, G) Q := by
      intro hqi
      refine XP_n 3 (pc' := 63) (ls' := [.ref (21), .ref (pi), .int (qP q), .int (nI (cY s)), .int (nI (i)), xj]) (st' := [.int (nI (cY s)), .int (nI (i)), .ref (21)]) (M' := (I1, J1, Rx R, N, G)) rfl ?_
      refine XP_call rfl rfl (c_fill hS1 hW hL (p := i) (by omega) (fun y hy => (congrFun (hO 25 (by simp; omega)) y).trans (hB y hy)) (hC i (by omega))) ?_
      rintro v2 M2 ⟨rfl, I2, J2, rfl, hO2, hne, hat, hJ2, hHP⟩
      have g2 : ∀ k, k ≠ 27 + i → J2 k = J1 k := fun k h => hJ2 k (by simp [h])
      refine XP_n 1 (pc' := 65) (ls' := [.ref (21), .ref (pi), .int (qP q), .int (nI (cY s)), .int (nI (i) + nI (1)), xj]) (st' := []) (M' := (I2, J2, Rx R, N, G)) rfl ?_
      rw [show nI (i) + nI (1) = nI (i + 1) from nI_addE (rfl) rfl]
      refine XP_n 1 (pc' := 50) (ls' := [.ref (21), .ref (pi), .int (qP q), .int (nI (cY s)), .int (nI (i + 1)), xj]) (st' := []) (M' := (I2, J2, Rx R, N, G)) rfl ?_
      refine ih (i + 1) _ _ (by omega) (Only.c hO hO2 (by simp)) (OnlyJ.c hJ hJ2 (by simp; omega)) (fun o h1 h2 => ?_) (fun o h1 h2 => ?_) (fun o => ?_)
      · by_cases e : o = i
        · subst e
          exact hHP
        · exact HP_of (g2 _ (by omega)) (hH o (by omega) h2)
      · by_cases e : o = i
        · subst e
          exact hHP
        · exact HP_of (g2 _ (by omega)) (hC o h1 (by rw [← hne o e]; exact h2))
      · by_cases e : o = i
        · subst e
          exact Or.inr hat
        · rw [hne o e]
          exact hst o
    refine XP_n 3 (pc' := 53) (ls' := [.ref (21), .ref (pi), .int (qP q), .int (nI (cY s)), .int (nI (i)), xj]) (st' := [.ref (1), .int (nI (i))]) (M' := (I1, J1, Rx R, N, G)) rfl ?_
    refine XP_geti hS1 rfl rfl rfl ?_
    rw [hW.p.1]
    refine XP_icN (x := i) (y := cP s) rfl (by omega) (by omega) (fun (b54 : cP s ≤ i) => absurd b54 (by omega)) (fun (b54 : i < cP s) => ?_)
    refine XP_n 1 (pc' := 56) (ls' := [.ref (21), .ref (pi), .int (qP q), .int (nI (cY s)), .int (nI (i)), xj]) (st' := [.int (qP q)]) (M' := (I1, J1, Rx R, N, G)) rfl ?_
    refine XP_ifD rfl (fun (b56 : qP q < 0) => ?_) (fun (b56 : 0 ≤ qP q) => ?_)
    · have n56 := Int32.not_le.mpr b56
      first
        | exact fin (Or.inl (qP_neg (by omega) b56))
        | exact fin (Or.inr ((nI_eq (by omega) (by omega)).mp (b59.trans (qP_pos b56).2)))
    · have n56 := Int32.not_lt.mpr b56
      refine XP_n 2 (pc' := 59) (ls' := [.ref (21), .ref (pi), .int (qP q), .int (nI (cY s)), .int (nI (i)), xj]) (st' := [.int (qP q), .int (nI (i))]) (M' := (I1, J1, Rx R, N, G)) rfl ?_
      refine XP_icD rfl (fun (b59 : ¬ nI (i) = qP q) => ?_) (fun (b59 : nI (i) = qP q) => ?_)
      · refine XP_n 1 (pc' := 65) (ls' := [.ref (21), .ref (pi), .int (qP q), .int (nI (cY s)), .int (nI (i) + nI (1)), xj]) (st' := []) (M' := (I1, J1, Rx R, N, G)) rfl ?_
        rw [show nI (i) + nI (1) = nI (i + 1) from nI_addE (rfl) rfl]
        refine XP_n 1 (pc' := 50) (ls' := [.ref (21), .ref (pi), .int (qP q), .int (nI (cY s)), .int (nI (i + 1)), xj]) (st' := []) (M' := (I1, J1, Rx R, N, G)) rfl ?_
        exact ih (i + 1) _ _ (by omega) hO hJ (fun o h1 h2 => hH o (by
          have := (qP_pos b56).1
          rcases h2 with h2 | h2
          · exact absurd h2 this
          · subst h2
            have hne : ¬ q - 1 = i := fun z => b59 (by rw [(qP_pos b56).2, z])
            omega) h2) hC hst
      · first
          | exact fin (Or.inl (qP_neg (by omega) b56))
          | exact fin (Or.inr ((nI_eq (by omega) (by omega)).mp (b59.trans (qP_pos b56).2)))
theorem l_s1 (hS : St s I) (hW : Wf s) (hL : Lk s R N) {q pi : Nat} (kk : ∀ (I1 : Nat → Nat → Int32), Only [25, oT (cLw s) + 3, oT (cLw s) + 2] I I1 → (∀ y, y ≤ cY s → I1 25 y = gB s y) → XP X (d + 5) k_Planner_solve 48 [.ref (21), .ref (pi), .int (qP q), .int (nI (cY s)), .int (nI (cY s)), xj] [] (I1, J, Rx R, N, G) Q) :
    ∀ (n i : Nat) (I1 : Nat → Nat → Int32), i + n = cY s → Only [25, oT (cLw s) + 3, oT (cLw s) + 2] I I1 → (∀ y, y ≤ i → I1 25 y = gB s y) → XP X (d + 5) k_Planner_solve 29 [.ref (21), .ref (pi), .int (qP q), .int (nI (cY s)), .int (nI (i)), xj] [] (I1, J, Rx R, N, G) Q := by
  have hy16 := hW.y.2.2
  have hp4 := hW.p.2
  have hw60 := hW.w.2
  have hoT := oT_rg (cLw s)
  intro n
  induction n with
  | zero =>
    rintro i I1 hi hO hb
    obtain rfl : i = cY s := by omega
    refine XP_n 2 (pc' := 31) (ls' := [.ref (21), .ref (pi), .int (qP q), .int (nI (cY s)), .int (nI (cY s)), xj]) (st' := [.int (nI (cY s)), .int (nI (cY s))]) (M' := (I1, J, Rx R, N, G)) rfl ?_
    refine XP_icN (x := cY s) (y := cY s) rfl (by omega) (by omega) (fun (b31 : cY s ≤ cY s) => ?_) (fun (b31 : cY s < cY s) => absurd b31 (by omega))
    exact kk _ hO hb
  | succ n ih =>
    rintro i I1 hi hO hb
    have hS1 : St s I1 := St_P hW hS (fun k h1 h2 h3 => hO k (by simp; omega))
    refine XP_n 2 (pc' := 31) (ls' := [.ref (21), .ref (pi), .int (qP q), .int (nI (cY s)), .int (nI (i)), xj]) (st' := [.int (nI (cY s)), .int (nI (i))]) (M' := (I1, J, Rx R, N, G)) rfl ?_
    refine XP_icN (x := i) (y := cY s) rfl (by omega) (by omega) (fun (b31 : cY s ≤ i) => absurd b31 (by omega)) (fun (b31 : i < cY s) => ?_)
    refine XP_n 10 (pc' := 42) (ls' := [.ref (21), .ref (pi), .int (qP q), .int (nI (cY s)), .int (nI (i)), xj]) (st' := [.int (nI (i)), .ref (25), .ref (1), .int ((nI (i)) + (nI (1))), .ref (25)]) (M' := (I1, J, Rx R, N, G)) rfl ?_
    rw [show (nI (i)) + (nI (1)) = nI (i + 1) from nI_addE (rfl) (rfl)]
    refine XP_iraw rfl rfl (show i < 17 by omega) rfl (by omega) ?_
    rw [show I1 25 i = gB s i from hb i (Nat.le_refl _)]
    refine XP_n 1 (pc' := 44) (ls' := [.ref (21), .ref (pi), .int (qP q), .int (nI (cY s)), .int (nI (i)), xj]) (st' := [.int (nI (i)), .int (gB s i), .ref (1), .int (nI (i + 1)), .ref (25)]) (M' := (I1, J, Rx R, N, G)) rfl ?_
    refine XP_call rfl (rfl) (c_grow hS1 hW hL _ _) ?_
    rintro v21 M21 ⟨rfl, I21, rfl, hO21⟩
    have hS21 : St s I21 := St_only hS1 hO21 (lw_scr hW)
    have hn21 : Only [25, oT (cLw s) + 3, oT (cLw s) + 2] I I21 := Only.c hO hO21 (by simp)
    refine XP_iast rfl rfl (show i + 1 < 17 by omega) rfl (by omega) ?_
    refine XP_n 1 (pc' := 47) (ls' := [.ref (21), .ref (pi), .int (qP q), .int (nI (cY s)), .int (nI (i) + nI (1)), xj]) (st' := []) (M' := ((rw2 I21 25 (i + 1) (gGrow s (gB s i) (nI (i)))), J, Rx R, N, G)) rfl ?_
    rw [show nI (i) + nI (1) = nI (i + 1) from nI_addE (rfl) rfl]
    refine XP_n 1 (pc' := 29) (ls' := [.ref (21), .ref (pi), .int (qP q), .int (nI (cY s)), .int (nI (i + 1)), xj]) (st' := []) (M' := ((rw2 I21 25 (i + 1) (gGrow s (gB s i) (nI (i)))), J, Rx R, N, G)) rfl ?_
    refine ih (i + 1) _ (by omega) (Only.w hn21 (by simp)) (fun y hy => ?_)
    by_cases e : y = i + 1
    · subst e
      rw [rw2_at]
      rfl
    · rw [rw2_nj _ _ _ e, hO21 25 (by simp; omega)]
      exact hb y (by omega)
end
