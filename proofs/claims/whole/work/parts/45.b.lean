/-! a rule on a path, the class -/
theorem oT_ge (t : Nat) : 95 ≤ oT t := by
  unfold oT
  cases h : Nat.beq t 0 with
  | true => exact Nat.le_refl _
  | false =>
    show 95 ≤ 2996 + 4 * t
    omega
theorem oT_rg (t : Nat) : oT t = 95 ∨ 3000 ≤ oT t := by
  unfold oT
  cases h : Nat.beq t 0 with
  | true => exact Or.inl rfl
  | false =>
    right
    have : t ≠ 0 := fun z => by subst z; cases h
    show 3000 ≤ 2996 + 4 * t
    omega
theorem lw_scr {s : Nat → Nat → Int32} (hW : Wf s) : ∀ k ∈ [oT (cLw s) + 3, oT (cLw s) + 2], isScr k = true := oT_scr _ (by have := hW.lw.2; have := hW.tx.2.2; omega)
theorem t_live (X : hX) (d : Nat) {s I0 : Nat → Nat → Int32} {J0 : Nat → Nat → Int64} {R : Nat → Nat → Option Nat} {N : Nat → Nat} {G : hG} (hS0 : St s I0) (hW : Wf s) (hL : Lk s R N) {w l y u : Nat} {rich : Int32} {pd hd : Int64} (hw : w ≤ 99) (hu : u ≤ 99 - w) (hl : l ≤ 150) (h6 : I0 16 6 = nI w) (h7 : I0 16 7 = rich) (hJ1 : J0 16 4 = pd) (hJ2 : J0 16 5 = hd) :
    TP X (d + 4) n_Course_live [.ref 16, .ref 1, .int (nI l), .int (nI y), .int (nI u)] (I0, J0, Rx R, N, G) (fun v M' => v = none ∧ ∃ I', M' = (I', rw2 (rw2 J0 16 4 (pd + (gCost s (s 99 3) (nI u) (nI w) (nI y) rich).toInt64)) 16 5 (hd + gHarm s (nI l) (nI (w + u)) (nI y) rich), Rx R, N, G) ∧ Only [16, oT (cLw s) + 3, oT (cLw s) + 2] I0 I' ∧ I' 16 6 = nI (w + u) ∧ I' 16 7 = gGrow s rich (nI y) ∧ I' 16 8 = I0 16 8) := by
  unfold TP
  show XP X _ k_Course_live 0 [.ref (16), .ref (1), .int (nI (l)), .int (nI (y)), .int (nI (u))] [] _ _
  refine XP_n 3 (pc' := 3) (ls' := [.ref (16), .ref (1), .int (nI (l)), .int (nI (y)), .int (nI (u))]) (st' := [.long (J0 16 4), .ref (16)]) (M' := (I0, J0, Rx R, N, G)) rfl ?_
  rw [hJ1]
  refine XP_n 4 (pc' := 7) (ls' := [.ref (16), .ref (1), .int (nI (l)), .int (nI (y)), .int (nI (u))]) (st' := [.int (I0 16 6), .int (nI (u)), .ref (1), .long (pd), .ref (16)]) (M' := (I0, J0, Rx R, N, G)) rfl ?_
  rw [h6]
  refine XP_n 3 (pc' := 10) (ls' := [.ref (16), .ref (1), .int (nI (l)), .int (nI (y)), .int (nI (u))]) (st' := [.int (I0 16 7), .int (nI (y)), .int (nI (w)), .int (nI (u)), .ref (1), .long (pd), .ref (16)]) (M' := (I0, J0, Rx R, N, G)) rfl ?_
  rw [h7]
  refine XP_n 1 (pc' := 11) (ls' := [.ref (16), .ref (1), .int (nI (l)), .int (nI (y)), .int (nI (u))]) (st' := [.ref (1), .int (rich), .int (nI (y)), .int (nI (w)), .int (nI (u)), .ref (1), .long (pd), .ref (16)]) (M' := (I0, J0, Rx R, N, G)) rfl ?_
  refine XP_geti hS0 rfl rfl rfl ?_
  refine XP_call rfl (rfl) (c_cost hS0 hW hL _ _ _ _ _) ?_
  rintro v1 M1 ⟨rfl, I1, rfl, hO1⟩
  have hS1 : St s I1 := St_only hS0 hO1 (lw_scr hW)
  have f1_16_6 : I1 16 6 = nI (w) := (congrFun (hO1 16 (by have := oT_ge (cLw s); simp; omega)) 6).trans h6
  have f1_16_7 : I1 16 7 = rich := (congrFun (hO1 16 (by have := oT_ge (cLw s); simp; omega)) 7).trans h7
  have f1_16_8 : I1 16 8 = I0 16 8 := (congrFun (hO1 16 (by have := oT_ge (cLw s); simp; omega)) 8).trans rfl
  have hn1 : Only [16, oT (cLw s) + 3, oT (cLw s) + 2] I0 I1 := Only.c Only.rf hO1 (by simp)
  refine XP_n 6 (pc' := 19) (ls' := [.ref (16), .ref (1), .int (nI (l)), .int (nI (y)), .int (nI (u))]) (st' := [.int (I1 16 6), .ref (16)]) (M' := (I1, (rw2 J0 16 4 ((pd) + ((gCost s (s 99 3) (nI (u)) (nI (w)) (nI (y)) (rich)).toInt64))), Rx R, N, G)) rfl ?_
  rw [f1_16_6]
  refine XP_n 2 (pc' := 21) (ls' := [.ref (16), .ref (1), .int (nI (l)), .int (nI (y)), .int (nI (u))]) (st' := [.int ((nI (w)) + (nI (u))), .ref (16)]) (M' := (I1, (rw2 J0 16 4 ((pd) + ((gCost s (s 99 3) (nI (u)) (nI (w)) (nI (y)) (rich)).toInt64))), Rx R, N, G)) rfl ?_
  rw [show (nI (w)) + (nI (u)) = nI (w + u) from nI_addE (rfl) (rfl)]
  refine XP_n 4 (pc' := 25) (ls' := [.ref (16), .ref (1), .int (nI (l)), .int (nI (y)), .int (nI (u))]) (st' := [.long (J0 16 5), .ref (16)]) (M' := ((rw2 I1 16 6 (nI (w + u))), (rw2 J0 16 4 ((pd) + ((gCost s (s 99 3) (nI (u)) (nI (w)) (nI (y)) (rich)).toInt64))), Rx R, N, G)) rfl ?_
  rw [hJ2]
  refine XP_n 7 (pc' := 32) (ls' := [.ref (16), .ref (1), .int (nI (l)), .int (nI (y)), .int (nI (u))]) (st' := [.int (I1 16 7), .int (nI (y)), .int (nI (w + u)), .int (nI (l)), .ref (1), .long (hd), .ref (16)]) (M' := ((rw2 I1 16 6 (nI (w + u))), (rw2 J0 16 4 ((pd) + ((gCost s (s 99 3) (nI (u)) (nI (w)) (nI (y)) (rich)).toInt64))), Rx R, N, G)) rfl ?_
  rw [f1_16_7]
  obtain ⟨I2, eI2⟩ : ∃ z, z = (rw2 I1 16 6 (nI (w + u))) := ⟨_, rfl⟩
  rw [← eI2]
  have hS2 : St s I2 := by rw [eI2]; exact (St_rwp hS1 rfl)
  have f2_16_6 : I2 16 6 = nI (w + u) := by rw [eI2]; rfl
  have f2_16_7 : I2 16 7 = rich := by rw [eI2]; exact f1_16_7
  have f2_16_8 : I2 16 8 = I0 16 8 := by rw [eI2]; exact f1_16_8
  have hn2 : Only [16, oT (cLw s) + 3, oT (cLw s) + 2] I0 I2 := by rw [eI2]; exact (Only.w hn1 (by simp))
  refine XP_call rfl (rfl) (c_harm hS2 hW hL (by omega) (by omega) _ _) ?_
  rintro v3 M3 ⟨rfl, I3, rfl, hO3⟩
  have hS3 : St s I3 := St_only hS2 hO3 (lw_scr hW)
  have f3_16_6 : I3 16 6 = nI (w + u) := (congrFun (hO3 16 (by have := oT_ge (cLw s); simp; omega)) 6).trans f2_16_6
  have f3_16_7 : I3 16 7 = rich := (congrFun (hO3 16 (by have := oT_ge (cLw s); simp; omega)) 7).trans f2_16_7
  have f3_16_8 : I3 16 8 = I0 16 8 := (congrFun (hO3 16 (by have := oT_ge (cLw s); simp; omega)) 8).trans f2_16_8
  have hn3 : Only [16, oT (cLw s) + 3, oT (cLw s) + 2] I0 I3 := Only.c hn2 hO3 (by simp)
  refine XP_n 6 (pc' := 39) (ls' := [.ref (16), .ref (1), .int (nI (l)), .int (nI (y)), .int (nI (u))]) (st' := [.int (I3 16 7), .ref (1), .ref (16)]) (M' := (I3, (rw2 (rw2 J0 16 4 ((pd) + ((gCost s (s 99 3) (nI (u)) (nI (w)) (nI (y)) (rich)).toInt64))) 16 5 ((hd) + (gHarm s (nI (l)) (nI (w + u)) (nI (y)) (rich)))), Rx R, N, G)) rfl ?_
  rw [f3_16_7]
  refine XP_n 1 (pc' := 40) (ls' := [.ref (16), .ref (1), .int (nI (l)), .int (nI (y)), .int (nI (u))]) (st' := [.int (nI (y)), .int (rich), .ref (1), .ref (16)]) (M' := (I3, (rw2 (rw2 J0 16 4 ((pd) + ((gCost s (s 99 3) (nI (u)) (nI (w)) (nI (y)) (rich)).toInt64))) 16 5 ((hd) + (gHarm s (nI (l)) (nI (w + u)) (nI (y)) (rich)))), Rx R, N, G)) rfl ?_
  refine XP_call rfl (rfl) (c_grow hS3 hW hL _ _) ?_
  rintro v4 M4 ⟨rfl, I4, rfl, hO4⟩
  have hS4 : St s I4 := St_only hS3 hO4 (lw_scr hW)
  have f4_16_6 : I4 16 6 = nI (w + u) := (congrFun (hO4 16 (by have := oT_ge (cLw s); simp; omega)) 6).trans f3_16_6
  have f4_16_7 : I4 16 7 = rich := (congrFun (hO4 16 (by have := oT_ge (cLw s); simp; omega)) 7).trans f3_16_7
  have f4_16_8 : I4 16 8 = I0 16 8 := (congrFun (hO4 16 (by have := oT_ge (cLw s); simp; omega)) 8).trans f3_16_8
  have hn4 : Only [16, oT (cLw s) + 3, oT (cLw s) + 2] I0 I4 := Only.c hn3 hO4 (by simp)
  refine XP_n 1 (pc' := 42) (ls' := [.ref (16), .ref (1), .int (nI (l)), .int (nI (y)), .int (nI (u))]) (st' := []) (M' := ((rw2 I4 16 7 (gGrow s (rich) (nI (y)))), (rw2 (rw2 J0 16 4 ((pd) + ((gCost s (s 99 3) (nI (u)) (nI (w)) (nI (y)) (rich)).toInt64))) 16 5 ((hd) + (gHarm s (nI (l)) (nI (w + u)) (nI (y)) (rich)))), Rx R, N, G)) rfl ?_
  exact XP_ret rfl ⟨rfl, _, rfl, (Only.w hn4 (by simp)), by simp [rw2, f4_16_6], by simp [rw2], by simp [rw2, f4_16_8]⟩
theorem St_fo {s I I' : Nat → Nat → Int32} (hS : St s I) (h : Only [16, oT (cLw s) + 3, oT (cLw s) + 2] I I') (hW : Wf s) : St s I' := St_only hS h (by
  intro k hk
  rcases List.mem_cons.mp hk with rfl | hk
  · rfl
  · exact lw_scr hW k hk)
theorem St_fo2 {s I I' : Nat → Nat → Int32} (hS : St s I) (h : Only [16, 17, 18, 19, 20, oT (cLw s) + 3, oT (cLw s) + 2] I I') (hW : Wf s) : St s I' := St_only hS h (by
  intro k hk
  simp only [List.mem_cons, List.not_mem_nil, or_false] at hk
  rcases hk with rfl | rfl | rfl | rfl | rfl | hk
  · rfl
  · rfl
  · rfl
  · rfl
  · rfl
  · exact lw_scr hW k (by simpa using hk))
theorem l_follow (X : hX) (d : Nat) {s I0 : Nat → Nat → Int32} {J0 : Nat → Nat → Int64} {R : Nat → Nat → Option Nat} {N : Nat → Nat} {G : hG} (hS0 : St s I0) (hW : Wf s) (hL : Lk s R N) {kd p ro : Nat} {nR : Nat → Nat → Nat → Nat} (k6 : kd < 6) (hp : p < cP s) (hR : ∀ l w y, nR l w y ≤ 1000) (hro : ro ∉ [16, 17, 18, 19, 20, oT (cLw s) + 3, oT (cLw s) + 2]) (hri : isO ro 7 = true)
    (hRa : ∀ (I : Nat → Nat → Int32) (J : Nat → Nat → Int64), St s I → I ro = I0 ro → ∀ l w y, y < 16 → l ≤ 150 → w ≤ 99 → TP X (d + 4) n_Rule_raiseOf [.ref ro, .ref 1, .int (nI l), .int (nI w), .int (nI y)] (I, J, Rx R, N, G) (Ret (.int (nI (nR l w y))) (I, J, Rx R, N, G)))
    (hLv : ∀ (I : Nat → Nat → Int32) (J : Nat → Nat → Int64), St s I → I ro = I0 ro → ∀ l w, l ≤ 150 → w ≤ 99 → TP X (d + 4) n_Rule_leaves [.ref ro, .int (nI l), .int (nI w)] (I, J, Rx R, N, G) (Ret (.int (b2i (kd = 5 ∧ w ≤ l))) (I, J, Rx R, N, G))) :
    ∀ (n i w : Nat) (rich : Int32) (lf : Bool) (pd hd : Int64) (I : Nat → Nat → Int32) (J : Nat → Nat → Int64) (w5 : Value), i + n = cY s → Only [16, 17, 18, 19, 20, oT (cLw s) + 3, oT (cLw s) + 2] I0 I → OnlyJ [16] J0 J → gRows s (decide (kd = 5)) nR p i 17 18 19 20 I → gS s (decide (kd = 5)) nR p i = (w, rich, lf, pd, hd) → I 16 6 = nI w → I 16 7 = rich → I 16 8 = nI lf.toNat → J 16 4 = pd → J 16 5 = hd →
      XP X (d + 5) k_Course_follow 19 [.ref 16, .ref 1, .ref ro, .int (nI p), .int (nI i), w5] [] (I, J, Rx R, N, G) (fun v M' => v = none ∧ ∃ I' J', M' = (I', J', Rx R, N, G) ∧ Only [16, 17, 18, 19, 20, oT (cLw s) + 3, oT (cLw s) + 2] I0 I' ∧ OnlyJ [16] J0 J' ∧ gRows s (decide (kd = 5)) nR p (cY s) 17 18 19 20 I' ∧ J' 16 4 = (gS s (decide (kd = 5)) nR p (cY s)).2.2.2.1 ∧ J' 16 5 = (gS s (decide (kd = 5)) nR p (cY s)).2.2.2.2) := by
  have hy16 := hW.y.2.2
  intro n
  induction n with
  | zero =>
    rintro i w rich lf pd hd I J w5 hi hO hOJ hRw hq h6 h7 h8 hJ1 hJ2
    have hS : St s I := St_fo2 hS0 hO hW
    obtain rfl : i = cY s := by omega
    refine XP_n 2 (pc' := 21) (ls' := [.ref (16), .ref (1), .ref (ro), .int (nI (p)), .int (nI (cY s)), w5]) (st' := [.ref (1), .int (nI (cY s))]) (M' := (I, J, Rx R, N, G)) rfl ?_
    refine XP_geti hS rfl rfl rfl ?_
    rw [hW.y.1]
    refine XP_icN (x := cY s) (y := cY s) rfl (by omega) (by omega) (fun (b22 : cY s ≤ cY s) => ?_) (fun (b22 : cY s < cY s) => absurd b22 (by omega))
    exact XP_ret rfl ⟨rfl, I, J, rfl, hO, hOJ, hRw, by rw [hq, hJ1], by rw [hq, hJ2]⟩
  | succ n ih =>
    rintro i w rich lf pd hd I J w5 hi hO hOJ hRw hq h6 h7 h8 hJ1 hJ2
    have hS : St s I := St_fo2 hS0 hO hW
    have hq1 := gS_1 hq
    have hw99 : w ≤ 99 := by have := gS_w hW (decide (kd = 5)) nR p i; rw [hq] at this; exact this
    have hl150 := (nLv_ok hW hp (show i ≤ 15 by omega)).2
    unfold gN at hq1
    obtain ⟨l0, hl0⟩ : ∃ z, z = nLv s p i := ⟨_, rfl⟩
    rw [← hl0] at hl150
    simp only [← hl0] at hq1
    cases lf with
    | true =>
      simp only [if_true] at hq1
      replace h8 : I 16 8 = nI 1 := h8
      refine XP_n 2 (pc' := 21) (ls' := [.ref (16), .ref (1), .ref (ro), .int (nI (p)), .int (nI (i)), w5]) (st' := [.ref (1), .int (nI (i))]) (M' := (I, J, Rx R, N, G)) rfl ?_
      refine XP_geti hS rfl rfl rfl ?_
      rw [hW.y.1]
      refine XP_icN (x := i) (y := cY s) rfl (by omega) (by omega) (fun (b22 : cY s ≤ i) => absurd b22 (by omega)) (fun (b22 : i < cY s) => ?_)
      refine XP_n 2 (pc' := 25) (ls' := [.ref (16), .ref (1), .ref (ro), .int (nI (p)), .int (nI (i)), w5]) (st' := [.int (nI (16)), .int (nI (i))]) (M' := (I, J, Rx R, N, G)) rfl ?_
      refine XP_icN (x := i) (y := 16) rfl (by omega) (by omega) (fun (b25 : 16 ≤ i) => absurd b25 (by omega)) (fun (b25 : i < 16) => ?_)
      refine XP_n 3 (pc' := 29) (ls' := [.ref (16), .ref (1), .ref (ro), .int (nI (p)), .int (nI (i)), w5]) (st' := [.int (nI (i)), .int (nI (p)), .ref (1)]) (M' := (I, J, Rx R, N, G)) rfl ?_
      refine XP_pure rfl rfl (c_lv hS hW hp (by omega)) ?_
      rw [← hl0]
      refine XP_n 6 (pc' := 36) (ls' := [.ref (16), .ref (1), .ref (ro), .int (nI (p)), .int (nI (i)), .int (nI (l0))]) (st' := [.int (I 16 7), .int (nI (i)), .ref (19)]) (M' := (I, J, Rx R, N, G)) rfl ?_
      rw [h7]
      refine XP_iast rfl rfl (show i < 16 by omega) rfl (by omega) ?_
      refine XP_n 4 (pc' := 41) (ls' := [.ref (16), .ref (1), .ref (ro), .int (nI (p)), .int (nI (i)), .int (nI (l0))]) (st' := [.int (nI (0)), .int (nI (i)), .ref (18)]) (M' := ((rw2 I 19 i (rich)), J, Rx R, N, G)) rfl ?_
      refine XP_iast rfl rfl (show i < 16 by omega) rfl (by omega) ?_
      refine XP_n 2 (pc' := 44) (ls' := [.ref (16), .ref (1), .ref (ro), .int (nI (p)), .int (nI (i)), .int (nI (l0))]) (st' := [.int (I 16 8)]) (M' := ((rw2 (rw2 I 19 i (rich)) 18 i (nI (0))), J, Rx R, N, G)) rfl ?_
      rw [h8]
      refine XP_ifN (x := 1)  rfl (by omega) (fun (b44 : ¬ 1 = 0) => ?_) (fun (b44 : 1 = 0) => absurd b44 (by omega))
      refine XP_n 2 (pc' := 67) (ls' := [.ref (16), .ref (1), .ref (ro), .int (nI (p)), .int (nI (i)), .int (nI (l0))]) (st' := [.int (I 16 8)]) (M' := ((rw2 (rw2 I 19 i (rich)) 18 i (nI (0))), J, Rx R, N, G)) rfl ?_
      rw [h8]
      refine XP_ifN (x := 1)  rfl (by omega) (fun (b67 : ¬ 1 = 0) => ?_) (fun (b67 : 1 = 0) => absurd b67 (by omega))
      refine XP_n 5 (pc' := 98) (ls' := [.ref (16), .ref (1), .ref (ro), .int (nI (p)), .int (nI (i)), .int (nI (l0))]) (st' := [.int (I 16 6), .int (nI (i)), .ref (17)]) (M' := ((rw2 (rw2 I 19 i (rich)) 18 i (nI (0))), J, Rx R, N, G)) rfl ?_
      rw [h6]
      refine XP_iast rfl rfl (show i < 16 by omega) rfl (by omega) ?_
      refine XP_n 5 (pc' := 104) (ls' := [.ref (16), .ref (1), .ref (ro), .int (nI (p)), .int (nI (i)), .int (nI (l0))]) (st' := [.int (I 16 8), .int (nI (i)), .ref (20)]) (M' := ((rw2 (rw2 (rw2 I 19 i (rich)) 18 i (nI (0))) 17 i (nI (w))), J, Rx R, N, G)) rfl ?_
      rw [h8]
      refine XP_bast rfl rfl (show i < 16 by omega) rfl (by omega) (rfl) ?_
      refine XP_n 1 (pc' := 106) (ls' := [.ref (16), .ref (1), .ref (ro), .int (nI (p)), .int (nI (i) + nI (1)), .int (nI (l0))]) (st' := []) (M' := ((rw2 (rw2 (rw2 (rw2 I 19 i (rich)) 18 i (nI (0))) 17 i (nI (w))) 20 i (nI (1))), J, Rx R, N, G)) rfl ?_
      rw [show nI (i) + nI (1) = nI (i + 1) from nI_addE (rfl) rfl]
      refine XP_n 1 (pc' := 19) (ls' := [.ref (16), .ref (1), .ref (ro), .int (nI (p)), .int (nI (i + 1)), .int (nI (l0))]) (st' := []) (M' := ((rw2 (rw2 (rw2 (rw2 I 19 i (rich)) 18 i (nI (0))) 17 i (nI (w))) 20 i (nI (1))), J, Rx R, N, G)) rfl ?_
      refine ih (i + 1) (w) (rich) true (pd) (hd) _ _ _ (by omega) (Only.w (Only.w (Only.w (Only.w hO (by simp)) (by simp)) (by simp)) (by simp)) hOJ ?_ hq1 ?_ ?_ ?_ ?_ ?_
      · exact gRows_up hRw (by rintro k (rfl | rfl | rfl | rfl) j hj <;> simp [rw2, hj]) (by rw [hq1]; simp [rw2]) (by unfold gU; rw [hq1]; simp [rw2]) (by rw [hq]; simp [rw2]) (by rw [hq1]; simp [rw2])
      · simp [rw2, h6]
      · simp [rw2, h7]
      · simp [rw2, h8]
      · simp [rw2, hJ1]
      · simp [rw2, hJ2]
    | false =>
      simp only [Bool.false_eq_true, if_false] at hq1
      replace h8 : I 16 8 = nI 0 := h8
      by_cases hc : (decide (kd = 5)) = true ∧ w ≤ l0
      · rw [if_pos hc] at hq1
        obtain ⟨hc1, hc2⟩ := hc
        have hk5 := of_decide_eq_true hc1
        refine XP_n 2 (pc' := 21) (ls' := [.ref (16), .ref (1), .ref (ro), .int (nI (p)), .int (nI (i)), w5]) (st' := [.ref (1), .int (nI (i))]) (M' := (I, J, Rx R, N, G)) rfl ?_
        refine XP_geti hS rfl rfl rfl ?_
        rw [hW.y.1]
        refine XP_icN (x := i) (y := cY s) rfl (by omega) (by omega) (fun (b22 : cY s ≤ i) => absurd b22 (by omega)) (fun (b22 : i < cY s) => ?_)
        refine XP_n 2 (pc' := 25) (ls' := [.ref (16), .ref (1), .ref (ro), .int (nI (p)), .int (nI (i)), w5]) (st' := [.int (nI (16)), .int (nI (i))]) (M' := (I, J, Rx R, N, G)) rfl ?_
        refine XP_icN (x := i) (y := 16) rfl (by omega) (by omega) (fun (b25 : 16 ≤ i) => absurd b25 (by omega)) (fun (b25 : i < 16) => ?_)
        refine XP_n 3 (pc' := 29) (ls' := [.ref (16), .ref (1), .ref (ro), .int (nI (p)), .int (nI (i)), w5]) (st' := [.int (nI (i)), .int (nI (p)), .ref (1)]) (M' := (I, J, Rx R, N, G)) rfl ?_
        refine XP_pure rfl rfl (c_lv hS hW hp (by omega)) ?_
        rw [← hl0]
        refine XP_n 6 (pc' := 36) (ls' := [.ref (16), .ref (1), .ref (ro), .int (nI (p)), .int (nI (i)), .int (nI (l0))]) (st' := [.int (I 16 7), .int (nI (i)), .ref (19)]) (M' := (I, J, Rx R, N, G)) rfl ?_
        rw [h7]
        refine XP_iast rfl rfl (show i < 16 by omega) rfl (by omega) ?_
        refine XP_n 4 (pc' := 41) (ls' := [.ref (16), .ref (1), .ref (ro), .int (nI (p)), .int (nI (i)), .int (nI (l0))]) (st' := [.int (nI (0)), .int (nI (i)), .ref (18)]) (M' := ((rw2 I 19 i (rich)), J, Rx R, N, G)) rfl ?_
        refine XP_iast rfl rfl (show i < 16 by omega) rfl (by omega) ?_
        refine XP_n 2 (pc' := 44) (ls' := [.ref (16), .ref (1), .ref (ro), .int (nI (p)), .int (nI (i)), .int (nI (l0))]) (st' := [.int (I 16 8)]) (M' := ((rw2 (rw2 I 19 i (rich)) 18 i (nI (0))), J, Rx R, N, G)) rfl ?_
        rw [h8]
        refine XP_ifN (x := 0)  rfl (by omega) (fun (b44 : ¬ 0 = 0) => absurd b44 (by omega)) (fun (b44 : 0 = 0) => ?_)
        refine XP_n 4 (pc' := 49) (ls' := [.ref (16), .ref (1), .ref (ro), .int (nI (p)), .int (nI (i)), .int (nI (l0))]) (st' := [.int (I 16 6), .int (nI (l0)), .ref (ro)]) (M' := ((rw2 (rw2 I 19 i (rich)) 18 i (nI (0))), J, Rx R, N, G)) rfl ?_
        rw [h6]
        obtain ⟨I5, eI5⟩ : ∃ z, z = (rw2 (rw2 I 19 i (rich)) 18 i (nI (0))) := ⟨_, rfl⟩
        rw [← eI5]
        have hS5 : St s I5 := by rw [eI5]; exact (St_rwp (St_rwp hS rfl) rfl)
        have f5_16_6 : I5 16 6 = nI (w) := by rw [eI5]; exact h6
        have f5_16_7 : I5 16 7 = rich := by rw [eI5]; exact h7
        have f5_16_8 : I5 16 8 = nI (0) := by rw [eI5]; exact h8
        have hn5 : Only [16, 17, 18, 19, 20, oT (cLw s) + 3, oT (cLw s) + 2] I0 I5 := by rw [eI5]; exact (Only.w (Only.w hO (by simp)) (by simp))
        refine XP_pure rfl (show (isO ro 7 || false) = true by rw [hri]; rfl) (hLv _ _ hS5 (hn5 ro hro) l0 w (by omega) (by omega)) ?_
        refine XP_s rfl ?_
        refine XP_beq (fun (b50 : ¬ (kd = 5 ∧ w ≤ l0)) => absurd b50 (by omega)) (fun (b50 : kd = 5 ∧ w ≤ l0) => ?_)
        refine XP_n 3 (pc' := 54) (ls' := [.ref (16), .ref (1), .ref (ro), .int (nI (p)), .int (nI (i)), .int (nI (l0))]) (st' := [.long (J 16 4), .ref (16)]) (M' := (I5, J, Rx R, N, G)) rfl ?_
        rw [hJ1]
        refine XP_n 2 (pc' := 56) (ls' := [.ref (16), .ref (1), .ref (ro), .int (nI (p)), .int (nI (i)), .int (nI (l0))]) (st' := [.int (I5 16 7), .long (pd), .ref (16)]) (M' := (I5, J, Rx R, N, G)) rfl ?_
        rw [f5_16_7]
        refine XP_n 11 (pc' := 67) (ls' := [.ref (16), .ref (1), .ref (ro), .int (nI (p)), .int (nI (i)), .int (nI (l0))]) (st' := [.int (nI (1))]) (M' := ((rw2 (rw2 I5 16 7 (nI (0))) 16 8 (nI (1))), (rw2 J 16 4 ((pd) + ((rich).toInt64))), Rx R, N, G)) rfl ?_
        refine XP_ifN (x := 1)  rfl (by omega) (fun (b67 : ¬ 1 = 0) => ?_) (fun (b67 : 1 = 0) => absurd b67 (by omega))
        refine XP_n 5 (pc' := 98) (ls' := [.ref (16), .ref (1), .ref (ro), .int (nI (p)), .int (nI (i)), .int (nI (l0))]) (st' := [.int (I5 16 6), .int (nI (i)), .ref (17)]) (M' := ((rw2 (rw2 I5 16 7 (nI (0))) 16 8 (nI (1))), (rw2 J 16 4 ((pd) + ((rich).toInt64))), Rx R, N, G)) rfl ?_
        rw [f5_16_6]
        refine XP_iast rfl rfl (show i < 16 by omega) rfl (by omega) ?_
        refine XP_n 5 (pc' := 104) (ls' := [.ref (16), .ref (1), .ref (ro), .int (nI (p)), .int (nI (i)), .int (nI (l0))]) (st' := [.int (nI (1)), .int (nI (i)), .ref (20)]) (M' := ((rw2 (rw2 (rw2 I5 16 7 (nI (0))) 16 8 (nI (1))) 17 i (nI (w))), (rw2 J 16 4 ((pd) + ((rich).toInt64))), Rx R, N, G)) rfl ?_
        refine XP_bast rfl rfl (show i < 16 by omega) rfl (by omega) (rfl) ?_
        refine XP_n 1 (pc' := 106) (ls' := [.ref (16), .ref (1), .ref (ro), .int (nI (p)), .int (nI (i) + nI (1)), .int (nI (l0))]) (st' := []) (M' := ((rw2 (rw2 (rw2 (rw2 I5 16 7 (nI (0))) 16 8 (nI (1))) 17 i (nI (w))) 20 i (nI (1))), (rw2 J 16 4 ((pd) + ((rich).toInt64))), Rx R, N, G)) rfl ?_
        rw [show nI (i) + nI (1) = nI (i + 1) from nI_addE (rfl) rfl]
        refine XP_n 1 (pc' := 19) (ls' := [.ref (16), .ref (1), .ref (ro), .int (nI (p)), .int (nI (i + 1)), .int (nI (l0))]) (st' := []) (M' := ((rw2 (rw2 (rw2 (rw2 I5 16 7 (nI (0))) 16 8 (nI (1))) 17 i (nI (w))) 20 i (nI (1))), (rw2 J 16 4 ((pd) + ((rich).toInt64))), Rx R, N, G)) rfl ?_
        have g : ∀ k j, 17 ≤ k → k ≤ 20 → I5 k j = (if k = 18 ∧ j = i then nI 0 else if k = 19 ∧ j = i then rich else I k j) := by
          intro k j hk1 hk2
          rw [eI5]
          simp only [rw2]
          by_cases h1 : k = 18 <;> by_cases h2 : j = i <;> by_cases h3 : k = 19 <;> simp_all <;> omega
        refine ih (i + 1) (w) (nI 0) true (pd + rich.toInt64) (hd) _ _ _ (by omega) (Only.w (Only.w (Only.w (Only.w hn5 (by simp)) (by simp)) (by simp)) (by simp)) (OnlyJ.w hOJ (by simp)) ?_ hq1 ?_ ?_ ?_ ?_ ?_
        · exact gRows_up hRw (by rintro k (rfl | rfl | rfl | rfl) j hj <;> simp [rw2, hj, g]) (by rw [hq1]; simp [rw2, g]) (by unfold gU; rw [hq1]; simp [rw2, g]) (by rw [hq]; simp [rw2, g]) (by rw [hq1]; simp [rw2])
        · simp [rw2, f5_16_6]
        · simp [rw2, f5_16_7]
        · simp [rw2, f5_16_8]
        · simp [rw2, hJ1]
        · simp [rw2, hJ2]
      · rw [if_neg hc] at hq1
        have hc' : ¬ (kd = 5 ∧ w ≤ l0) := fun z => hc ⟨decide_eq_true z.1, z.2⟩
        have hu1000 := hR l0 w i
        have hu99 := gUp_le nR l0 w i
        obtain ⟨u, hu⟩ : ∃ z, gUp nR l0 w i = z := ⟨_, rfl⟩
        rw [hu] at hq1 hu99
        obtain ⟨u0, hu0⟩ : ∃ z, z = nR l0 w i := ⟨_, rfl⟩
        rw [← hu0] at hu1000
        refine XP_n 2 (pc' := 21) (ls' := [.ref (16), .ref (1), .ref (ro), .int (nI (p)), .int (nI (i)), w5]) (st' := [.ref (1), .int (nI (i))]) (M' := (I, J, Rx R, N, G)) rfl ?_
        refine XP_geti hS rfl rfl rfl ?_
        rw [hW.y.1]
        refine XP_icN (x := i) (y := cY s) rfl (by omega) (by omega) (fun (b22 : cY s ≤ i) => absurd b22 (by omega)) (fun (b22 : i < cY s) => ?_)
        refine XP_n 2 (pc' := 25) (ls' := [.ref (16), .ref (1), .ref (ro), .int (nI (p)), .int (nI (i)), w5]) (st' := [.int (nI (16)), .int (nI (i))]) (M' := (I, J, Rx R, N, G)) rfl ?_
        refine XP_icN (x := i) (y := 16) rfl (by omega) (by omega) (fun (b25 : 16 ≤ i) => absurd b25 (by omega)) (fun (b25 : i < 16) => ?_)
        refine XP_n 3 (pc' := 29) (ls' := [.ref (16), .ref (1), .ref (ro), .int (nI (p)), .int (nI (i)), w5]) (st' := [.int (nI (i)), .int (nI (p)), .ref (1)]) (M' := (I, J, Rx R, N, G)) rfl ?_
        refine XP_pure rfl rfl (c_lv hS hW hp (by omega)) ?_
        rw [← hl0]
        refine XP_n 6 (pc' := 36) (ls' := [.ref (16), .ref (1), .ref (ro), .int (nI (p)), .int (nI (i)), .int (nI (l0))]) (st' := [.int (I 16 7), .int (nI (i)), .ref (19)]) (M' := (I, J, Rx R, N, G)) rfl ?_
        rw [h7]
        refine XP_iast rfl rfl (show i < 16 by omega) rfl (by omega) ?_
        refine XP_n 4 (pc' := 41) (ls' := [.ref (16), .ref (1), .ref (ro), .int (nI (p)), .int (nI (i)), .int (nI (l0))]) (st' := [.int (nI (0)), .int (nI (i)), .ref (18)]) (M' := ((rw2 I 19 i (rich)), J, Rx R, N, G)) rfl ?_
        refine XP_iast rfl rfl (show i < 16 by omega) rfl (by omega) ?_
        refine XP_n 2 (pc' := 44) (ls' := [.ref (16), .ref (1), .ref (ro), .int (nI (p)), .int (nI (i)), .int (nI (l0))]) (st' := [.int (I 16 8)]) (M' := ((rw2 (rw2 I 19 i (rich)) 18 i (nI (0))), J, Rx R, N, G)) rfl ?_
        rw [h8]
        refine XP_ifN (x := 0)  rfl (by omega) (fun (b44 : ¬ 0 = 0) => absurd b44 (by omega)) (fun (b44 : 0 = 0) => ?_)
        refine XP_n 4 (pc' := 49) (ls' := [.ref (16), .ref (1), .ref (ro), .int (nI (p)), .int (nI (i)), .int (nI (l0))]) (st' := [.int (I 16 6), .int (nI (l0)), .ref (ro)]) (M' := ((rw2 (rw2 I 19 i (rich)) 18 i (nI (0))), J, Rx R, N, G)) rfl ?_
        rw [h6]
        obtain ⟨I6, eI6⟩ : ∃ z, z = (rw2 (rw2 I 19 i (rich)) 18 i (nI (0))) := ⟨_, rfl⟩
        rw [← eI6]
        have hS6 : St s I6 := by rw [eI6]; exact (St_rwp (St_rwp hS rfl) rfl)
        have f6_16_6 : I6 16 6 = nI (w) := by rw [eI6]; exact h6
        have f6_16_7 : I6 16 7 = rich := by rw [eI6]; exact h7
        have f6_16_8 : I6 16 8 = nI (0) := by rw [eI6]; exact h8
        have hn6 : Only [16, 17, 18, 19, 20, oT (cLw s) + 3, oT (cLw s) + 2] I0 I6 := by rw [eI6]; exact (Only.w (Only.w hO (by simp)) (by simp))
        refine XP_pure rfl (show (isO ro 7 || false) = true by rw [hri]; rfl) (hLv _ _ hS6 (hn6 ro hro) l0 w (by omega) (by omega)) ?_
        refine XP_s rfl ?_
        refine XP_beq (fun (b50 : ¬ (kd = 5 ∧ w ≤ l0)) => ?_) (fun (b50 : kd = 5 ∧ w ≤ l0) => absurd b50 (by omega))
        refine XP_n 2 (pc' := 67) (ls' := [.ref (16), .ref (1), .ref (ro), .int (nI (p)), .int (nI (i)), .int (nI (l0))]) (st' := [.int (I6 16 8)]) (M' := (I6, J, Rx R, N, G)) rfl ?_
        rw [f6_16_8]
        refine XP_ifN (x := 0)  rfl (by omega) (fun (b67 : ¬ 0 = 0) => absurd b67 (by omega)) (fun (b67 : 0 = 0) => ?_)
        refine XP_n 8 (pc' := 76) (ls' := [.ref (16), .ref (1), .ref (ro), .int (nI (p)), .int (nI (i)), .int (nI (l0))]) (st' := [.int (I6 16 6), .int (nI (l0)), .ref (1), .ref (ro), .int (nI (i)), .ref (18)]) (M' := (I6, J, Rx R, N, G)) rfl ?_
        rw [f6_16_6]
        refine XP_n 1 (pc' := 77) (ls' := [.ref (16), .ref (1), .ref (ro), .int (nI (p)), .int (nI (i)), .int (nI (l0))]) (st' := [.int (nI (i)), .int (nI (w)), .int (nI (l0)), .ref (1), .ref (ro), .int (nI (i)), .ref (18)]) (M' := (I6, J, Rx R, N, G)) rfl ?_
        refine XP_pure rfl (show (isO ro 7 || false) = true by rw [hri]; rfl) (hRa _ _ hS6 (hn6 ro hro) l0 w i (by omega) (by omega) (by omega)) ?_
        rw [← hu0]
        refine XP_n 3 (pc' := 81) (ls' := [.ref (16), .ref (1), .ref (ro), .int (nI (p)), .int (nI (i)), .int (nI (l0))]) (st' := [.int (I6 16 6), .int (nI (99)), .int (nI (u0)), .int (nI (i)), .ref (18)]) (M' := (I6, J, Rx R, N, G)) rfl ?_
        rw [f6_16_6]
        refine XP_n 1 (pc' := 82) (ls' := [.ref (16), .ref (1), .ref (ro), .int (nI (p)), .int (nI (i)), .int (nI (l0))]) (st' := [.int ((nI (99)) - (nI (w))), .int (nI (u0)), .int (nI (i)), .ref (18)]) (M' := (I6, J, Rx R, N, G)) rfl ?_
        rw [show (nI (99)) - (nI (w)) = nI (99 - w) from nI_subE (rfl) (rfl) (by omega)]
        refine XP_n 1 (pc' := 83) (ls' := [.ref (16), .ref (1), .ref (ro), .int (nI (p)), .int (nI (i)), .int (nI (l0))]) (st' := [.int ((if nI (99 - w) < nI (u0) then nI (99 - w) else nI (u0))), .int (nI (i)), .ref (18)]) (M' := (I6, J, Rx R, N, G)) rfl ?_
        rw [show (if nI (99 - w) < nI (u0) then nI (99 - w) else nI (u0)) = nI (u) from hu ▸ nI_gUp (hu0.symm) (by omega)]
        refine XP_iast rfl rfl (show i < 16 by omega) rfl (by omega) ?_
        refine XP_n 7 (pc' := 91) (ls' := [.ref (16), .ref (1), .ref (ro), .int (nI (p)), .int (nI (i)), .int (nI (l0))]) (st' := [.int (nI (i)), .ref (18), .int (nI (i)), .int (nI (l0)), .ref (1), .ref (16)]) (M' := ((rw2 I6 18 i (nI (u))), J, Rx R, N, G)) rfl ?_
        refine XP_iraw rfl rfl (show i < 16 by omega) rfl (by omega) ?_
        rw [show (rw2 I6 18 i (nI (u))) 18 i = nI (u) from rw2_at _ _ _ _]
        obtain ⟨I7, eI7⟩ : ∃ z, z = (rw2 I6 18 i (nI (u))) := ⟨_, rfl⟩
        rw [← eI7]
        have hS7 : St s I7 := by rw [eI7]; exact (St_rwp hS6 rfl)
        have f7_16_6 : I7 16 6 = nI (w) := by rw [eI7]; exact f6_16_6
        have f7_16_7 : I7 16 7 = rich := by rw [eI7]; exact f6_16_7
        have f7_16_8 : I7 16 8 = nI (0) := by rw [eI7]; exact f6_16_8
        have hn7 : Only [16, 17, 18, 19, 20, oT (cLw s) + 3, oT (cLw s) + 2] I0 I7 := by rw [eI7]; exact (Only.w hn6 (by simp))
        refine XP_call rfl rfl (t_live X d hS7 hW hL (by omega) (by omega) (by omega) f7_16_6 f7_16_7 hJ1 hJ2) ?_
        rintro v8 M8 ⟨rfl, I8, rfl, hO8, f8_16_6, f8_16_7, f8_16_8⟩
        have hS8 : St s I8 := St_fo hS7 hO8 hW
        have hn8 : Only [16, 17, 18, 19, 20, oT (cLw s) + 3, oT (cLw s) + 2] I0 I8 := Only.c hn7 hO8 (by simp)
        have g8 := f8_16_8.trans f7_16_8
        refine XP_n 5 (pc' := 98) (ls' := [.ref (16), .ref (1), .ref (ro), .int (nI (p)), .int (nI (i)), .int (nI (l0))]) (st' := [.int (I8 16 6), .int (nI (i)), .ref (17)]) (M' := (I8, (rw2 (rw2 J 16 4 (pd + (gCost s (s 99 3) (nI (u)) (nI (w)) (nI (i)) (rich)).toInt64)) 16 5 (hd + gHarm s (nI (l0)) (nI (w + u)) (nI (i)) (rich))), Rx R, N, G)) rfl ?_
        rw [f8_16_6]
        refine XP_iast rfl rfl (show i < 16 by omega) rfl (by omega) ?_
        refine XP_n 5 (pc' := 104) (ls' := [.ref (16), .ref (1), .ref (ro), .int (nI (p)), .int (nI (i)), .int (nI (l0))]) (st' := [.int (I8 16 8), .int (nI (i)), .ref (20)]) (M' := ((rw2 I8 17 i (nI (w + u))), (rw2 (rw2 J 16 4 (pd + (gCost s (s 99 3) (nI (u)) (nI (w)) (nI (i)) (rich)).toInt64)) 16 5 (hd + gHarm s (nI (l0)) (nI (w + u)) (nI (i)) (rich))), Rx R, N, G)) rfl ?_
        rw [g8]
        refine XP_bast rfl rfl (show i < 16 by omega) rfl (by omega) (rfl) ?_
        refine XP_n 1 (pc' := 106) (ls' := [.ref (16), .ref (1), .ref (ro), .int (nI (p)), .int (nI (i) + nI (1)), .int (nI (l0))]) (st' := []) (M' := ((rw2 (rw2 I8 17 i (nI (w + u))) 20 i (nI (0))), (rw2 (rw2 J 16 4 (pd + (gCost s (s 99 3) (nI (u)) (nI (w)) (nI (i)) (rich)).toInt64)) 16 5 (hd + gHarm s (nI (l0)) (nI (w + u)) (nI (i)) (rich))), Rx R, N, G)) rfl ?_
        rw [show nI (i) + nI (1) = nI (i + 1) from nI_addE (rfl) rfl]
        refine XP_n 1 (pc' := 19) (ls' := [.ref (16), .ref (1), .ref (ro), .int (nI (p)), .int (nI (i + 1)), .int (nI (l0))]) (st' := []) (M' := ((rw2 (rw2 I8 17 i (nI (w + u))) 20 i (nI (0))), (rw2 (rw2 J 16 4 (pd + (gCost s (s 99 3) (nI (u)) (nI (w)) (nI (i)) (rich)).toInt64)) 16 5 (hd + gHarm s (nI (l0)) (nI (w + u)) (nI (i)) (rich))), Rx R, N, G)) rfl ?_
        have g : ∀ k j, 17 ≤ k → k ≤ 20 → I8 k j = (if k = 18 ∧ j = i then nI u else if k = 19 ∧ j = i then rich else I k j) := by
          intro k j hk1 hk2
          rw [hO8 k (by have := oT_ge (cLw s); simp; omega), eI7]
          simp only [rw2]
          rw [eI6]
          simp only [rw2]
          by_cases h1 : k = 18 <;> by_cases h2 : j = i <;> by_cases h3 : k = 19 <;> simp_all
        refine ih (i + 1) (w + u) (gGrow s rich (nI i)) false _ _ _ _ _ (by omega) (Only.w (Only.w hn8 (by simp)) (by simp)) (OnlyJ.w (OnlyJ.w hOJ (by simp)) (by simp)) ?_ hq1 ?_ ?_ ?_ ?_ ?_
        · refine gRows_up hRw (by rintro k (rfl | rfl | rfl | rfl) j hj <;> simp [rw2, hj, g]) (by rw [hq1]; simp [rw2]) (by unfold gU; rw [hq1, hq]; simp [rw2, g, ← hl0, hu]) (by rw [hq]; simp [rw2, g]) (by rw [hq1]; simp [rw2])
        · simp [rw2, f8_16_6]
        · simp [rw2, f8_16_7]
        · simp [rw2, g8]
        · simp [rw2]
        · simp [rw2]
theorem t_follow (X : hX) (d : Nat) {s I0 : Nat → Nat → Int32} {J0 : Nat → Nat → Int64} {R : Nat → Nat → Option Nat} {N : Nat → Nat} {G : hG} (hS0 : St s I0) (hW : Wf s) (hL : Lk s R N) {kd p ro : Nat} {nR : Nat → Nat → Nat → Nat} (k6 : kd < 6) (hp : p < cP s) (hR : ∀ l w y, nR l w y ≤ 1000) (hro : ro ∉ [16, 17, 18, 19, 20, oT (cLw s) + 3, oT (cLw s) + 2]) (hri : isO ro 7 = true)
    (hRa : ∀ (I : Nat → Nat → Int32) (J : Nat → Nat → Int64), St s I → I ro = I0 ro → ∀ l w y, y < 16 → l ≤ 150 → w ≤ 99 → TP X (d + 4) n_Rule_raiseOf [.ref ro, .ref 1, .int (nI l), .int (nI w), .int (nI y)] (I, J, Rx R, N, G) (Ret (.int (nI (nR l w y))) (I, J, Rx R, N, G)))
    (hLv : ∀ (I : Nat → Nat → Int32) (J : Nat → Nat → Int64), St s I → I ro = I0 ro → ∀ l w, l ≤ 150 → w ≤ 99 → TP X (d + 4) n_Rule_leaves [.ref ro, .int (nI l), .int (nI w)] (I, J, Rx R, N, G) (Ret (.int (b2i (kd = 5 ∧ w ≤ l))) (I, J, Rx R, N, G))) :
    TP X (d + 5) n_Course_follow [.ref 16, .ref 1, .ref ro, .int (nI p)] (I0, J0, Rx R, N, G) (fun v M' => v = none ∧ ∃ I' J', M' = (I', J', Rx R, N, G) ∧ Only [16, 17, 18, 19, 20, oT (cLw s) + 3, oT (cLw s) + 2] I0 I' ∧ OnlyJ [16] J0 J' ∧ gRows s (decide (kd = 5)) nR p (cY s) 17 18 19 20 I' ∧ J' 16 4 = (gS s (decide (kd = 5)) nR p (cY s)).2.2.2.1 ∧ J' 16 5 = (gS s (decide (kd = 5)) nR p (cY s)).2.2.2.2) := by
  unfold TP
  show XP X _ k_Course_follow 0 [.ref (16), .ref (1), .ref (ro), .int (nI (p)), xj, xj] [] _ _
  refine XP_n 8 (pc' := 8) (ls' := [.ref (16), .ref (1), .ref (ro), .int (nI (p)), xj, xj]) (st' := [.ref (1), .ref (16)]) (M' := (I0, (rw2 (rw2 J0 16 4 (lN (0))) 16 5 (lN (0))), Rx R, N, G)) rfl ?_
  refine XP_geti hS0 rfl rfl rfl ?_
  rw [hW.w.1]
  refine XP_n 3 (pc' := 12) (ls' := [.ref (16), .ref (1), .ref (ro), .int (nI (p)), xj, xj]) (st' := [.ref (1), .ref (16)]) (M' := ((rw2 I0 16 6 (nI (cW s))), (rw2 (rw2 J0 16 4 (lN (0))) 16 5 (lN (0))), Rx R, N, G)) rfl ?_
  refine XP_geti (St_rwp hS0 rfl) rfl rfl rfl ?_
  refine XP_n 6 (pc' := 19) (ls' := [.ref (16), .ref (1), .ref (ro), .int (nI (p)), .int (nI (0)), xj]) (st' := []) (M' := ((rw2 (rw2 (rw2 I0 16 6 (nI (cW s))) 16 7 (s 99 2)) 16 8 (nI (0))), (rw2 (rw2 J0 16 4 (lN (0))) 16 5 (lN (0))), Rx R, N, G)) rfl ?_
  exact l_follow X d hS0 hW hL k6 hp hR hro hri hRa hLv (cY s) 0 (cW s) (s 99 2) false _ _ _ _ _ (by omega) (Only.w (Only.w (Only.w Only.rf (by simp)) (by simp)) (by simp)) (OnlyJ.w (OnlyJ.w OnlyJ.rf (by simp)) (by simp)) (fun y hy => absurd hy (Nat.not_lt_zero y)) rfl (by simp [rw2]) (by simp [rw2]) (by simp [rw2]) (by simp [rw2]) (by simp [rw2])
