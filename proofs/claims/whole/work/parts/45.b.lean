/-! a rule on a path, the class -/
theorem oT_ge (t : Nat) : 95 ≤ oT t := by
  unfold oT
  cases h : Nat.beq t 0 with
  | true => exact Nat.le_refl _
  | false =>
    show 95 ≤ 2996 + 4 * t
    omega
theorem oT_rg (t : Nat) : oT t = 95 ∨ 3000 ≤ oT t := by
  unfold oT
  cases h : Nat.beq t 0 with
  | true => exact Or.inl rfl
  | false =>
    right
    have : t ≠ 0 := fun z => by subst z; cases h
    show 3000 ≤ 2996 + 4 * t
    omega
theorem lw_scr {s : Nat → Nat → Int32} (hW : Wf s) : ∀ k ∈ [oT (cLw s) + 3, oT (cLw s) + 2], isScr k = true := oT_scr _ (by have := hW.lw.2; have := hW.tx.2.2; omega)
theorem t_live (X : hX) (d : Nat) {s I0 : Nat → Nat → Int32} {J0 : Nat → Nat → Int64} {R : Nat → Nat → Option Nat} {N : Nat → Nat} {G : hG} (hS0 : St s I0) (hW : Wf s) (hL : Lk s R N) {w l y u : Nat} {rich : Int32} {pd hd : Int64} (hw : w ≤ 99) (hu : u ≤ 99 - w) (hl : l ≤ 150) (h6 : I0 16 6 = nI w) (h7 : I0 16 7 = rich) (hJ1 : J0 16 4 = pd) (hJ2 : J0 16 5 = hd) :
    TP X (d + 4) n_Course_live [.ref 16, .ref 1, .int (nI l), .int (nI y), .int (nI u)] (I0, J0, Rx R, N, G) (fun v M' => v = none ∧ ∃ I', M' = (I', rw2 (rw2 J0 16 4 (pd + (gCost s (s 99 3) (nI u) (nI w) (nI y) rich).toInt64)) 16 5 (hd + gHarm s (nI l) (nI (w + u)) (nI y) rich), Rx R, N, G) ∧ Only [16, oT (cLw s) + 3, oT (cLw s) + 2] I0 I' ∧ I' 16 6 = nI (w + u) ∧ I' 16 7 = gGrow s rich (nI y) ∧ I' 16 8 = I0 16 8) := by
  unfold TP
  show XP X _ k_Course_live 0 [.ref (16), .ref (1), .int (nI (l)), .int (nI (y)), .int (nI (u))] [] _ _
  refine XP_n 3 (pc' := 3) (ls' := [.ref (16), .ref (1), .int (nI (l)), .int (nI (y)), .int (nI (u))]) (st' := [.long (J0 16 4), .ref (16)]) (M' := (I0, J0, Rx R, N, G)) rfl ?_
  rw [hJ1]
  refine XP_n 4 (pc' := 7) (ls' := [.ref (16), .ref (1), .int (nI (l)), .int (nI (y)), .int (nI (u))]) (st' := [.int (I0 16 6), .int (nI (u)), .ref (1), .long (pd), .ref (16)]) (M' := (I0, J0, Rx R, N, G)) rfl ?_
  rw [h6]
  refine XP_n 3 (pc' := 10) (ls' := [.ref (16), .ref (1), .int (nI (l)), .int (nI (y)), .int (nI (u))]) (st' := [.int (I0 16 7), .int (nI (y)), .int (nI (w)), .int (nI (u)), .ref (1), .long (pd), .ref (16)]) (M' := (I0, J0, Rx R, N, G)) rfl ?_
  rw [h7]
  refine XP_n 1 (pc' := 11) (ls' := [.ref (16), .ref (1), .int (nI (l)), .int (nI (y)), .int (nI (u))]) (st' := [.ref (1), .int (rich), .int (nI (y)), .int (nI (w)), .int (nI (u)), .ref (1), .long (pd), .ref (16)]) (M' := (I0, J0, Rx R, N, G)) rfl ?_
  refine XP_geti hS0 rfl rfl rfl ?_
  rw [hL.2.2.2.2.2.2]
  refine XP_call rfl (rfl) (c_cost hS0 hW hL _ _ _ _ _) ?_
  rintro v21 M21 ⟨rfl, I21, rfl, hO21⟩
  have hS21 : St s I21 := St_only hS0 hO21 (lw_scr hW)
  have f21_16_6 : I21 16 6 = nI (w) := (congrFun (hO21 16 (by have := oT_ge (cLw s); simp; omega)) 6).trans h6
  have f21_16_7 : I21 16 7 = rich := (congrFun (hO21 16 (by have := oT_ge (cLw s); simp; omega)) 7).trans h7
  have f21_16_8 : I21 16 8 = I0 16 8 := (congrFun (hO21 16 (by have := oT_ge (cLw s); simp; omega)) 8).trans rfl
  have hn21 : Only [16, oT (cLw s) + 3, oT (cLw s) + 2] I0 I21 := Only.c Only.rf hO21 (by simp)
  refine XP_n 6 (pc' := 19) (ls' := [.ref (16), .ref (1), .int (nI (l)), .int (nI (y)), .int (nI (u))]) (st' := [.int (I21 16 6), .ref (16)]) (M' := (I21, (rw2 J0 16 4 ((pd) + ((gCost s (s 99 3) (nI (u)) (nI (w)) (nI (y)) (rich)).toInt64))), Rx R, N, G)) rfl ?_
  rw [f21_16_6]
  refine XP_n 2 (pc' := 21) (ls' := [.ref (16), .ref (1), .int (nI (l)), .int (nI (y)), .int (nI (u))]) (st' := [.int ((nI (w)) + (nI (u))), .ref (16)]) (M' := (I21, (rw2 J0 16 4 ((pd) + ((gCost s (s 99 3) (nI (u)) (nI (w)) (nI (y)) (rich)).toInt64))), Rx R, N, G)) rfl ?_
  rw [show (nI (w)) + (nI (u)) = nI (w + u) from nI_addE (rfl) (rfl)]
  refine XP_n 4 (pc' := 25) (ls' := [.ref (16), .ref (1), .int (nI (l)), .int (nI (y)), .int (nI (u))]) (st' := [.long (J0 16 5), .ref (16)]) (M' := ((rw2 I21 16 6 (nI (w + u))), (rw2 J0 16 4 ((pd) + ((gCost s (s 99 3) (nI (u)) (nI (w)) (nI (y)) (rich)).toInt64))), Rx R, N, G)) rfl ?_
  rw [hJ2]
  refine XP_n 7 (pc' := 32) (ls' := [.ref (16), .ref (1), .int (nI (l)), .int (nI (y)), .int (nI (u))]) (st' := [.int (I21 16 7), .int (nI (y)), .int (nI (w + u)), .int (nI (l)), .ref (1), .long (hd), .ref (16)]) (M' := ((rw2 I21 16 6 (nI (w + u))), (rw2 J0 16 4 ((pd) + ((gCost s (s 99 3) (nI (u)) (nI (w)) (nI (y)) (rich)).toInt64))), Rx R, N, G)) rfl ?_
  rw [f21_16_7]
  obtain ⟨I22, eI22⟩ : ∃ z, z = (rw2 I21 16 6 (nI (w + u))) := ⟨_, rfl⟩
  rw [← eI22]
  have hS22 : St s I22 := by rw [eI22]; exact (St_rwp hS21 rfl)
  have f22_16_6 : I22 16 6 = nI (w + u) := by rw [eI22]; rfl
  have f22_16_7 : I22 16 7 = rich := by rw [eI22]; exact f21_16_7
  have f22_16_8 : I22 16 8 = I0 16 8 := by rw [eI22]; exact f21_16_8
  have hn22 : Only [16, oT (cLw s) + 3, oT (cLw s) + 2] I0 I22 := by rw [eI22]; exact (Only.w hn21 (by simp))
  refine XP_call rfl (rfl) (c_harm hS22 hW hL (by omega) (by omega) _ _) ?_
  rintro v23 M23 ⟨rfl, I23, rfl, hO23⟩
  have hS23 : St s I23 := St_only hS22 hO23 (lw_scr hW)
  have f23_16_6 : I23 16 6 = nI (w + u) := (congrFun (hO23 16 (by have := oT_ge (cLw s); simp; omega)) 6).trans f22_16_6
  have f23_16_7 : I23 16 7 = rich := (congrFun (hO23 16 (by have := oT_ge (cLw s); simp; omega)) 7).trans f22_16_7
  have f23_16_8 : I23 16 8 = I0 16 8 := (congrFun (hO23 16 (by have := oT_ge (cLw s); simp; omega)) 8).trans f22_16_8
  have hn23 : Only [16, oT (cLw s) + 3, oT (cLw s) + 2] I0 I23 := Only.c hn22 hO23 (by simp)
  refine XP_n 6 (pc' := 39) (ls' := [.ref (16), .ref (1), .int (nI (l)), .int (nI (y)), .int (nI (u))]) (st' := [.int (I23 16 7), .ref (1), .ref (16)]) (M' := (I23, (rw2 (rw2 J0 16 4 ((pd) + ((gCost s (s 99 3) (nI (u)) (nI (w)) (nI (y)) (rich)).toInt64))) 16 5 ((hd) + (gHarm s (nI (l)) (nI (w + u)) (nI (y)) (rich)))), Rx R, N, G)) rfl ?_
  rw [f23_16_7]
  refine XP_n 1 (pc' := 40) (ls' := [.ref (16), .ref (1), .int (nI (l)), .int (nI (y)), .int (nI (u))]) (st' := [.int (nI (y)), .int (rich), .ref (1), .ref (16)]) (M' := (I23, (rw2 (rw2 J0 16 4 ((pd) + ((gCost s (s 99 3) (nI (u)) (nI (w)) (nI (y)) (rich)).toInt64))) 16 5 ((hd) + (gHarm s (nI (l)) (nI (w + u)) (nI (y)) (rich)))), Rx R, N, G)) rfl ?_
  refine XP_call rfl (rfl) (c_grow hS23 hW hL _ _) ?_
  rintro v24 M24 ⟨rfl, I24, rfl, hO24⟩
  have hS24 : St s I24 := St_only hS23 hO24 (lw_scr hW)
  have f24_16_6 : I24 16 6 = nI (w + u) := (congrFun (hO24 16 (by have := oT_ge (cLw s); simp; omega)) 6).trans f23_16_6
  have f24_16_7 : I24 16 7 = rich := (congrFun (hO24 16 (by have := oT_ge (cLw s); simp; omega)) 7).trans f23_16_7
  have f24_16_8 : I24 16 8 = I0 16 8 := (congrFun (hO24 16 (by have := oT_ge (cLw s); simp; omega)) 8).trans f23_16_8
  have hn24 : Only [16, oT (cLw s) + 3, oT (cLw s) + 2] I0 I24 := Only.c hn23 hO24 (by simp)
  refine XP_n 1 (pc' := 42) (ls' := [.ref (16), .ref (1), .int (nI (l)), .int (nI (y)), .int (nI (u))]) (st' := []) (M' := ((rw2 I24 16 7 (gGrow s (rich) (nI (y)))), (rw2 (rw2 J0 16 4 ((pd) + ((gCost s (s 99 3) (nI (u)) (nI (w)) (nI (y)) (rich)).toInt64))) 16 5 ((hd) + (gHarm s (nI (l)) (nI (w + u)) (nI (y)) (rich)))), Rx R, N, G)) rfl ?_
  exact XP_ret rfl ⟨rfl, _, rfl, (Only.w hn24 (by simp)), by simp [rw2, f24_16_6], by simp [rw2], by simp [rw2, f24_16_8]⟩
theorem St_fo {s I I' : Nat → Nat → Int32} (hS : St s I) (h : Only [16, oT (cLw s) + 3, oT (cLw s) + 2] I I') (hW : Wf s) : St s I' := St_only hS h (by
  intro k hk
  rcases List.mem_cons.mp hk with rfl | hk
  · rfl
  · exact lw_scr hW k hk)
theorem St_fo2 {s I I' : Nat → Nat → Int32} (hS : St s I) (h : Only [16, 17, 18, 19, 20, oT (cLw s) + 3, oT (cLw s) + 2] I I') (hW : Wf s) : St s I' := St_only hS h (by
  intro k hk
  simp only [List.mem_cons, List.not_mem_nil, or_false] at hk
  rcases hk with rfl | rfl | rfl | rfl | rfl | hk
  · rfl
  · rfl
  · rfl
  · rfl
  · rfl
  · exact lw_scr hW k (by simpa using hk))
theorem l_follow (X : hX) (d : Nat) {s I0 : Nat → Nat → Int32} {J0 : Nat → Nat → Int64} {R : Nat → Nat → Option Nat} {N : Nat → Nat} {G : hG} (hS0 : St s I0) (hW : Wf s) (hL : Lk s R N) {kd p ro : Nat} {nR : Nat → Nat → Nat → Nat} (k6 : kd < 6) (hp : p < cP s) (hR : ∀ l w y, nR l w y ≤ 1000) (hro : ro ∉ [16, 17, 18, 19, 20, oT (cLw s) + 3, oT (cLw s) + 2]) (hri : isO ro 7 = true)
    (hRa : ∀ (I : Nat → Nat → Int32) (J : Nat → Nat → Int64), St s I → I ro = I0 ro → ∀ l w y, y < 16 → l ≤ 150 → w ≤ 99 → TP X (d + 4) n_Rule_raiseOf [.ref ro, .ref 1, .int (nI l), .int (nI w), .int (nI y)] (I, J, Rx R, N, G) (Ret (.int (nI (nR l w y))) (I, J, Rx R, N, G)))
    (hLv : ∀ (I : Nat → Nat → Int32) (J : Nat → Nat → Int64), St s I → I ro = I0 ro → ∀ l w, l ≤ 150 → w ≤ 99 → TP X (d + 4) n_Rule_leaves [.ref ro, .int (nI l), .int (nI w)] (I, J, Rx R, N, G) (Ret (.int (b2i (kd = 5 ∧ w ≤ l))) (I, J, Rx R, N, G))) :
    ∀ (n i w : Nat) (rich : Int32) (lf : Bool) (pd hd : Int64) (I : Nat → Nat → Int32) (J : Nat → Nat → Int64) (w5 : Value), i + n = cY s → Only [16, 17, 18, 19, 20, oT (cLw s) + 3, oT (cLw s) + 2] I0 I → OnlyJ [16] J0 J → gRows s (decide (kd = 5)) nR p i 17 18 19 20 I → gS s (decide (kd = 5)) nR p i = (w, rich, lf, pd, hd) → I 16 6 = nI w → I 16 7 = rich → I 16 8 = nI lf.toNat → J 16 4 = pd → J 16 5 = hd →
      XP X (d + 5) k_Course_follow 19 [.ref 16, .ref 1, .ref ro, .int (nI p), .int (nI i), w5] [] (I, J, Rx R, N, G) (fun v M' => v = none ∧ ∃ I' J', M' = (I', J', Rx R, N, G) ∧ Only [16, 17, 18, 19, 20, oT (cLw s) + 3, oT (cLw s) + 2] I0 I' ∧ OnlyJ [16] J0 J' ∧ gRows s (decide (kd = 5)) nR p (cY s) 17 18 19 20 I' ∧ J' 16 4 = (gS s (decide (kd = 5)) nR p (cY s)).2.2.2.1 ∧ J' 16 5 = (gS s (decide (kd = 5)) nR p (cY s)).2.2.2.2) := by
  have hy16 := hW.y.2.2
  intro n
  induction n with
  | zero =>
    rintro i w rich lf pd hd I J w5 hi hO hOJ hRw hq h6 h7 h8 hJ1 hJ2
    have hS : St s I := St_fo2 hS0 hO hW
    obtain rfl : i = cY s := by omega
    refine XP_n 2 (pc' := 21) (ls' := [.ref (16), .ref (1), .ref (ro), .int (nI (p)), .int (nI (cY s)), w5]) (st' := [.ref (1), .int (nI (cY s))]) (M' := (I, J, Rx R, N, G)) rfl ?_
    refine XP_geti hS rfl rfl rfl ?_
    rw [hW.y.1]
    refine XP_icN (x := cY s) (y := cY s) rfl (by omega) (by omega) (fun (b22 : cY s ≤ cY s) => ?_) (fun (b22 : cY s < cY s) => absurd b22 (by omega))
    exact XP_ret rfl ⟨rfl, I, J, rfl, hO, hOJ, hRw, by rw [hq, hJ1], by rw [hq, hJ2]⟩
  | succ n ih =>
    rintro i w rich lf pd hd I J w5 hi hO hOJ hRw hq h6 h7 h8 hJ1 hJ2
    have hS : St s I := St_fo2 hS0 hO hW
    have hq1 := gS_1 hq
    have hw99 : w ≤ 99 := by have := gS_w hW (decide (kd = 5)) nR p i; rw [hq] at this; exact this
    have hl150 := (nLv_ok hW hp (show i ≤ 15 by omega)).2
    unfold gN at hq1
    obtain ⟨l0, hl0⟩ : ∃ z, z = nLv s p i := ⟨_, rfl⟩
    rw [← hl0] at hl150
    simp only [← hl0] at hq1
    cases lf with
    | true =>
      simp only [if_true] at hq1
      replace h8 : I 16 8 = nI 1 := h8
      refine XP_n 2 (pc' := 21) (ls' := [.ref (16), .ref (1), .ref (ro), .int (nI (p)), .int (nI (i)), w5]) (st' := [.ref (1), .int (nI (i))]) (M' := (I, J, Rx R, N, G)) rfl ?_
      refine XP_geti hS rfl rfl rfl ?_
      rw [hW.y.1]
      refine XP_icN (x := i) (y := cY s) rfl (by omega) (by omega) (fun (b22 : cY s ≤ i) => absurd b22 (by omega)) (fun (b22 : i < cY s) => ?_)
      refine XP_n 2 (pc' := 25) (ls' := [.ref (16), .ref (1), .ref (ro), .int (nI (p)), .int (nI (i)), w5]) (st' := [.int (nI (16)), .int (nI (i))]) (M' := (I, J, Rx R, N, G)) rfl ?_
      refine XP_icN (x := i) (y := 16) rfl (by omega) (by omega) (fun (b25 : 16 ≤ i) => absurd b25 (by omega)) (fun (b25 : i < 16) => ?_)
      refine XP_n 3 (pc' := 29) (ls' := [.ref (16), .ref (1), .ref (ro), .int (nI (p)), .int (nI (i)), w5]) (st' := [.int (nI (i)), .int (nI (p)), .ref (1)]) (M' := (I, J, Rx R, N, G)) rfl ?_
      refine XP_pure rfl rfl (c_lv hS hW hp (by omega)) ?_
      rw [← hl0]
      refine XP_n 6 (pc' := 36) (ls' := [.ref (16), .ref (1), .ref (ro), .int (nI (p)), .int (nI (i)), .int (nI (l0))]) (st' := [.int (I 16 7), .int (nI (i)), .ref (19)]) (M' := (I, J, Rx R, N, G)) rfl ?_
      rw [h7]
      refine XP_iast rfl rfl (show i < 16 by omega) rfl (by omega) ?_
      refine XP_n 4 (pc' := 41) (ls' := [.ref (16), .ref (1), .ref (ro), .int (nI (p)), .int (nI (i)), .int (nI (l0))]) (st' := [.int (nI (0)), .int (nI (i)), .ref (18)]) (M' := ((rw2 I 19 i (rich)), J, Rx R, N, G)) rfl ?_
      refine XP_iast rfl rfl (show i < 16 by omega) rfl (by omega) ?_
      refine XP_n 2 (pc' := 44) (ls' := [.ref (16), .ref (1), .ref (ro), .int (nI (p)), .int (nI (i)), .int (nI (l0))]) (st' := [.int (I 16 8)]) (M' := ((rw2 (rw2 I 19 i (rich)) 18 i (nI (0))), J, Rx R, N, G)) rfl ?_
      rw [h8]
      refine XP_ifN (x := 1)  rfl (by omega) (fun (b44 : ¬ 1 = 0) => ?_) (fun (b44 : 1 = 0) => absurd b44 (by omega))
      refine XP_n 2 (pc' := 67) (ls' := [.ref (16), .ref (1), .ref (ro), .int (nI (p)), .int (nI (i)), .int (nI (l0))]) (st' := [.int (I 16 8)]) (M' := ((rw2 (rw2 I 19 i (rich)) 18 i (nI (0))), J, Rx R, N, G)) rfl ?_
      rw [h8]
      refine XP_ifN (x := 1)  rfl (by omega) (fun (b67 : ¬ 1 = 0) => ?_) (fun (b67 : 1 = 0) => absurd b67 (by omega))
      refine XP_n 5 (pc' := 98) (ls' := [.ref (16), .ref (1), .ref (ro), .int (nI (p)), .int (nI (i)), .int (nI (l0))]) (st' := [.int (I 16 6), .int (nI (i)), .ref (17)]) (M' := ((rw2 (rw2 I 19 i (rich)) 18 i (nI (0))), J, Rx R, N, G)) rfl ?_
      rw [h6]
      refine XP_iast rfl rfl (show i < 16 by omega) rfl (by omega) ?_
      refine XP_n 5 (pc' := 104) (ls' := [.ref (16), .ref (1), .ref (ro), .int (nI (p)), .int (nI (i)), .int (nI (l0))]) (st' := [.int (I 16 8), .int (nI (i)), .ref (20)]) (M' := ((rw2 (rw2 (rw2 I 19 i (rich)) 18 i (nI (0))) 17 i (nI (w))), J, Rx R, N, G)) rfl ?_
      rw [h8]
      refine XP_bast rfl rfl (show i < 16 by omega) rfl (by omega) (rfl) ?_
      refine XP_n 1 (pc' := 106) (ls' := [.ref (16), .ref (1), .ref (ro), .int (nI (p)), .int (nI (i) + nI (1)), .int (nI (l0))]) (st' := []) (M' := ((rw2 (rw2 (rw2 (rw2 I 19 i (rich)) 18 i (nI (0))) 17 i (nI (w))) 20 i (nI (1))), J, Rx R, N, G)) rfl ?_
      rw [show nI (i) + nI (1) = nI (i + 1) from nI_addE (rfl) rfl]
      refine XP_n 1 (pc' := 19) (ls' := [.ref (16), .ref (1), .ref (ro), .int (nI (p)), .int (nI (i + 1)), .int (nI (l0))]) (st' := []) (M' := ((rw2 (rw2 (rw2 (rw2 I 19 i (rich)) 18 i (nI (0))) 17 i (nI (w))) 20 i (nI (1))), J, Rx R, N, G)) rfl ?_
      refine ih (i + 1) (w) (rich) true (pd) (hd) _ _ _ (by omega) (Only.w (Only.w (Only.w (Only.w hO (by simp)) (by simp)) (by simp)) (by simp)) hOJ ?_ hq1 ?_ ?_ ?_ ?_ ?_
      · exact gRows_up hRw (by rintro k (rfl | rfl | rfl | rfl) j hj <;> simp [rw2, hj]) (by rw [hq1]; simp [rw2]) (by unfold gU; rw [hq1]; simp [rw2]) (by rw [hq]; simp [rw2]) (by rw [hq1]; simp [rw2])
      · simp [rw2, h6]
      · simp [rw2, h7]
      · simp [rw2, h8]
      · simp [rw2, hJ1]
      · simp [rw2, hJ2]
    | false =>
      simp only [Bool.false_eq_true, if_false] at hq1
      replace h8 : I 16 8 = nI 0 := h8
      by_cases hc : (decide (kd = 5)) = true ∧ w ≤ l0
      · rw [if_pos hc] at hq1
        obtain ⟨hc1, hc2⟩ := hc
        have hk5 := of_decide_eq_true hc1
        refine XP_n 2 (pc' := 21) (ls' := [.ref (16), .ref (1), .ref (ro), .int (nI (p)), .int (nI (i)), w5]) (st' := [.ref (1), .int (nI (i))]) (M' := (I, J, Rx R, N, G)) rfl ?_
        refine XP_geti hS rfl rfl rfl ?_
        rw [hW.y.1]
        refine XP_icN (x := i) (y := cY s) rfl (by omega) (by omega) (fun (b22 : cY s ≤ i) => absurd b22 (by omega)) (fun (b22 : i < cY s) => ?_)
        refine XP_n 2 (pc' := 25) (ls' := [.ref (16), .ref (1), .ref (ro), .int (nI (p)), .int (nI (i)), w5]) (st' := [.int (nI (16)), .int (nI (i))]) (M' := (I, J, Rx R, N, G)) rfl ?_
        refine XP_icN (x := i) (y := 16) rfl (by omega) (by omega) (fun (b25 : 16 ≤ i) => absurd b25 (by omega)) (fun (b25 : i < 16) => ?_)
        refine XP_n 3 (pc' := 29) (ls' := [.ref (16), .ref (1), .ref (ro), .int (nI (p)), .int (nI (i)), w5]) (st' := [.int (nI (i)), .int (nI (p)), .ref (1)]) (M' := (I, J, Rx R, N, G)) rfl ?_
        refine XP_pure rfl rfl (c_lv hS hW hp (by omega)) ?_
        rw [← hl0]
        refine XP_n 6 (pc' := 36) (ls' := [.ref (16), .ref (1), .ref (ro), .int (nI (p)), .int (nI (i)), .int (nI (l0))]) (st' := [.int (I 16 7), .int (nI (i)), .ref (19)]) (M' := (I, J, Rx R, N, G)) rfl ?_
        rw [h7]
        refine XP_iast rfl rfl (show i < 16 by omega) rfl (by omega) ?_
        refine XP_n 4 (pc' := 41) (ls' := [.ref (16), .ref (1), .ref (ro), .int (nI (p)), .int (nI (i)), .int (nI (l0))]) (st' := [.int (nI (0)), .int (nI (i)), .ref (18)]) (M' := ((rw2 I 19 i (rich)), J, Rx R, N, G)) rfl ?_
        refine XP_iast rfl rfl (show i < 16 by omega) rfl (by omega) ?_
        refine XP_n 2 (pc' := 44) (ls' := [.ref (16), .ref (1), .ref (ro), .int (nI (p)), .int (nI (i)), .int (nI (l0))]) (st' := [.int (I 16 8)]) (M' := ((rw2 (rw2 I 19 i (rich)) 18 i (nI (0))), J, Rx R, N, G)) rfl ?_
        rw [h8]
        refine XP_ifN (x := 0)  rfl (by omega) (fun (b44 : ¬ 0 = 0) => absurd b44 (by omega)) (fun (b44 : 0 = 0) => ?_)
        refine XP_n 4 (pc' := 49) (ls' := [.ref (16), .ref (1), .ref (ro), .int (nI (p)), .int (nI (i)), .int (nI (l0))]) (st' := [.int (I 16 6), .int (nI (l0)), .ref (ro)]) (M' := ((rw2 (rw2 I 19 i (rich)) 18 i (nI (0))), J, Rx R, N, G)) rfl ?_
        rw [h6]
        obtain ⟨I25, eI25⟩ : ∃ z, z = (rw2 (rw2 I 19 i (rich)) 18 i (nI (0))) := ⟨_, rfl⟩
        rw [← eI25]
        have hS25 : St s I25 := by rw [eI25]; exact (St_rwp (St_rwp hS rfl) rfl)
        have f25_16_6 : I25 16 6 = nI (w) := by rw [eI25]; exact h6
        have f25_16_7 : I25 16 7 = rich := by rw [eI25]; exact h7
        have f25_16_8 : I25 16 8 = nI (0) := by rw [eI25]; exact h8
        have hn25 : Only [16, 17, 18, 19, 20, oT (cLw s) + 3, oT (cLw s) + 2] I0 I25 := by rw [eI25]; exact (Only.w (Only.w hO (by simp)) (by simp))
        refine XP_pure rfl (show (isO ro 7 || false) = true by rw [hri]; rfl) (hLv _ _ hS25 (hn25 ro hro) l0 w (by omega) (by omega)) ?_
        refine XP_s rfl ?_
        refine XP_beq (fun (b50 : ¬ (kd = 5 ∧ w ≤ l0)) => absurd b50 (by omega)) (fun (b50 : kd = 5 ∧ w ≤ l0) => ?_)
        refine XP_n 3 (pc' := 54) (ls' := [.ref (16), .ref (1), .ref (ro), .int (nI (p)), .int (nI (i)), .int (nI (l0))]) (st' := [.long (J 16 4), .ref (16)]) (M' := (I25, J, Rx R, N, G)) rfl ?_
        rw [hJ1]
        refine XP_n 2 (pc' := 56) (ls' := [.ref (16), .ref (1), .ref (ro), .int (nI (p)), .int (nI (i)), .int (nI (l0))]) (st' := [.int (I25 16 7), .long (pd), .ref (16)]) (M' := (I25, J, Rx R, N, G)) rfl ?_
        rw [f25_16_7]
        refine XP_n 11 (pc' := 67) (ls' := [.ref (16), .ref (1), .ref (ro), .int (nI (p)), .int (nI (i)), .int (nI (l0))]) (st' := [.int (nI (1))]) (M' := ((rw2 (rw2 I25 16 7 (nI (0))) 16 8 (nI (1))), (rw2 J 16 4 ((pd) + ((rich).toInt64))), Rx R, N, G)) rfl ?_
        refine XP_ifN (x := 1)  rfl (by omega) (fun (b67 : ¬ 1 = 0) => ?_) (fun (b67 : 1 = 0) => absurd b67 (by omega))
        refine XP_n 5 (pc' := 98) (ls' := [.ref (16), .ref (1), .ref (ro), .int (nI (p)), .int (nI (i)), .int (nI (l0))]) (st' := [.int (I25 16 6), .int (nI (i)), .ref (17)]) (M' := ((rw2 (rw2 I25 16 7 (nI (0))) 16 8 (nI (1))), (rw2 J 16 4 ((pd) + ((rich).toInt64))), Rx R, N, G)) rfl ?_
        rw [f25_16_6]
        refine XP_iast rfl rfl (show i < 16 by omega) rfl (by omega) ?_
        refine XP_n 5 (pc' := 104) (ls' := [.ref (16), .ref (1), .ref (ro), .int (nI (p)), .int (nI (i)), .int (nI (l0))]) (st' := [.int (nI (1)), .int (nI (i)), .ref (20)]) (M' := ((rw2 (rw2 (rw2 I25 16 7 (nI (0))) 16 8 (nI (1))) 17 i (nI (w))), (rw2 J 16 4 ((pd) + ((rich).toInt64))), Rx R, N, G)) rfl ?_
        refine XP_bast rfl rfl (show i < 16 by omega) rfl (by omega) (rfl) ?_
        refine XP_n 1 (pc' := 106) (ls' := [.ref (16), .ref (1), .ref (ro), .int (nI (p)), .int (nI (i) + nI (1)), .int (nI (l0))]) (st' := []) (M' := ((rw2 (rw2 (rw2 (rw2 I25 16 7 (nI (0))) 16 8 (nI (1))) 17 i (nI (w))) 20 i (nI (1))), (rw2 J 16 4 ((pd) + ((rich).toInt64))), Rx R, N, G)) rfl ?_
        rw [show nI (i) + nI (1) = nI (i + 1) from nI_addE (rfl) rfl]
        refine XP_n 1 (pc' := 19) (ls' := [.ref (16), .ref (1), .ref (ro), .int (nI (p)), .int (nI (i + 1)), .int (nI (l0))]) (st' := []) (M' := ((rw2 (rw2 (rw2 (rw2 I25 16 7 (nI (0))) 16 8 (nI (1))) 17 i (nI (w))) 20 i (nI (1))), (rw2 J 16 4 ((pd) + ((rich).toInt64))), Rx R, N, G)) rfl ?_
        have g : ∀ k j, 17 ≤ k → k ≤ 20 → I25 k j = (if k = 18 ∧ j = i then nI 0 else if k = 19 ∧ j = i then rich else I k j) := by
          intro k j hk1 hk2
          rw [eI25]
          simp only [rw2]
          by_cases h1 : k = 18 <;> by_cases h2 : j = i <;> by_cases h3 : k = 19 <;> simp_all <;> omega
        refine ih (i + 1) (w) (nI 0) true (pd + rich.toInt64) (hd) _ _ _ (by omega) (Only.w (Only.w (Only.w (Only.w hn25 (by simp)) (by simp)) (by simp)) (by simp)) (OnlyJ.w hOJ (by simp)) ?_ hq1 ?_ ?_ ?_ ?_ ?_
        · exact gRows_up hRw (by rintro k (rfl | rfl | rfl | rfl) j hj <;> simp [rw2, hj, g]) (by rw [hq1]; simp [rw2, g]) (by unfold gU; rw [hq1]; simp [rw2, g]) (by rw [hq]; simp [rw2, g]) (by rw [hq1]; simp [rw2])
        · simp [rw2, f25_16_6]
        · simp [rw2, f25_16_7]
        · simp [rw2, f25_16_8]
        · simp [rw2, hJ1]
        · simp [rw2, hJ2]
      · rw [if_neg hc] at hq1
        have hc' : ¬ (kd = 5 ∧ w ≤ l0) := fun z => hc ⟨decide_eq_true z.1, z.2⟩
        have hu1000 := hR l0 w i
        have hu99 := gUp_le nR l0 w i
        obtain ⟨u, hu⟩ : ∃ z, gUp nR l0 w i = z := ⟨_, rfl⟩
        rw [hu] at hq1 hu99
        obtain ⟨u0, hu0⟩ : ∃ z, z = nR l0 w i := ⟨_, rfl⟩
        rw [← hu0] at hu1000
        refine XP_n 2 (pc' := 21) (ls' := [.ref (16), .ref (1), .ref (ro), .int (nI (p)), .int (nI (i)), w5]) (st' := [.ref (1), .int (nI (i))]) (M' := (I, J, Rx R, N, G)) rfl ?_
        refine XP_geti hS rfl rfl rfl ?_
        rw [hW.y.1]
        refine XP_icN (x := i) (y := cY s) rfl (by omega) (by omega) (fun (b22 : cY s ≤ i) => absurd b22 (by omega)) (fun (b22 : i < cY s) => ?_)
        refine XP_n 2 (pc' := 25) (ls' := [.ref (16), .ref (1), .ref (ro), .int (nI (p)), .int (nI (i)), w5]) (st' := [.int (nI (16)), .int (nI (i))]) (M' := (I, J, Rx R, N, G)) rfl ?_
        refine XP_icN (x := i) (y := 16) rfl (by omega) (by omega) (fun (b25 : 16 ≤ i) => absurd b25 (by omega)) (fun (b25 : i < 16) => ?_)
        refine XP_n 3 (pc' := 29) (ls' := [.ref (16), .ref (1), .ref (ro), .int (nI (p)), .int (nI (i)), w5]) (st' := [.int (nI (i)), .int (nI (p)), .ref (1)]) (M' := (I, J, Rx R, N, G)) rfl ?_
        refine XP_pure rfl rfl (c_lv hS hW hp (by omega)) ?_
        rw [← hl0]
        refine XP_n 6 (pc' := 36) (ls' := [.ref (16), .ref (1), .ref (ro), .int (nI (p)), .int (nI (i)), .int (nI (l0))]) (st' := [.int (I 16 7), .int (nI (i)), .ref (19)]) (M' := (I, J, Rx R, N, G)) rfl ?_
        rw [h7]
        refine XP_iast rfl rfl (show i < 16 by omega) rfl (by omega) ?_
        refine XP_n 4 (pc' := 41) (ls' := [.ref (16), .ref (1), .ref (ro), .int (nI (p)), .int (nI (i)), .int (nI (l0))]) (st' := [.int (nI (0)), .int (nI (i)), .ref (18)]) (M' := ((rw2 I 19 i (rich)), J, Rx R, N, G)) rfl ?_
        refine XP_iast rfl rfl (show i < 16 by omega) rfl (by omega) ?_
        refine XP_n 2 (pc' := 44) (ls' := [.ref (16), .ref (1), .ref (ro), .int (nI (p)), .int (nI (i)), .int (nI (l0))]) (st' := [.int (I 16 8)]) (M' := ((rw2 (rw2 I 19 i (rich)) 18 i (nI (0))), J, Rx R, N, G)) rfl ?_
        rw [h8]
        refine XP_ifN (x := 0)  rfl (by omega) (fun (b44 : ¬ 0 = 0) => absurd b44 (by omega)) (fun (b44 : 0 = 0) => ?_)
        refine XP_n 4 (pc' := 49) (ls' := [.ref (16), .ref (1), .ref (ro), .int (nI (p)), .int (nI (i)), .int (nI (l0))]) (st' := [.int (I 16 6), .int (nI (l0)), .ref (ro)]) (M' := ((rw2 (rw2 I 19 i (rich)) 18 i (nI (0))), J, Rx R, N, G)) rfl ?_
        rw [h6]
        obtain ⟨I26, eI26⟩ : ∃ z, z = (rw2 (rw2 I 19 i (rich)) 18 i (nI (0))) := ⟨_, rfl⟩
        rw [← eI26]
        have hS26 : St s I26 := by rw [eI26]; exact (St_rwp (St_rwp hS rfl) rfl)
        have f26_16_6 : I26 16 6 = nI (w) := by rw [eI26]; exact h6
        have f26_16_7 : I26 16 7 = rich := by rw [eI26]; exact h7
        have f26_16_8 : I26 16 8 = nI (0) := by rw [eI26]; exact h8
        have hn26 : Only [16, 17, 18, 19, 20, oT (cLw s) + 3, oT (cLw s) + 2] I0 I26 := by rw [eI26]; exact (Only.w (Only.w hO (by simp)) (by simp))
        refine XP_pure rfl (show (isO ro 7 || false) = true by rw [hri]; rfl) (hLv _ _ hS26 (hn26 ro hro) l0 w (by omega) (by omega)) ?_
        refine XP_s rfl ?_
        refine XP_beq (fun (b50 : ¬ (kd = 5 ∧ w ≤ l0)) => ?_) (fun (b50 : kd = 5 ∧ w ≤ l0) => absurd b50 (by omega))
        refine XP_n 2 (pc' := 67) (ls' := [.ref (16), .ref (1), .ref (ro), .int (nI (p)), .int (nI (i)), .int (nI (l0))]) (st' := [.int (I26 16 8)]) (M' := (I26, J, Rx R, N, G)) rfl ?_
        rw [f26_16_8]
        refine XP_ifN (x := 0)  rfl (by omega) (fun (b67 : ¬ 0 = 0) => absurd b67 (by omega)) (fun (b67 : 0 = 0) => ?_)
        refine XP_n 8 (pc' := 76) (ls' := [.ref (16), .ref (1), .ref (ro), .int (nI (p)), .int (nI (i)), .int (nI (l0))]) (st' := [.int (I26 16 6), .int (nI (l0)), .ref (1), .ref (ro), .int (nI (i)), .ref (18)]) (M' := (I26, J, Rx R, N, G)) rfl ?_
        rw [f26_16_6]
        refine XP_n 1 (pc' := 77) (ls' := [.ref (16), .ref (1), .ref (ro), .int (nI (p)), .int (nI (i)), .int (nI (l0))]) (st' := [.int (nI (i)), .int (nI (w)), .int (nI (l0)), .ref (1), .ref (ro), .int (nI (i)), .ref (18)]) (M' := (I26, J, Rx R, N, G)) rfl ?_
        refine XP_pure rfl (show (isO ro 7 || false) = true by rw [hri]; rfl) (hRa _ _ hS26 (hn26 ro hro) l0 w i (by omega) (by omega) (by omega)) ?_
        rw [← hu0]
        refine XP_n 3 (pc' := 81) (ls' := [.ref (16), .ref (1), .ref (ro), .int (nI (p)), .int (nI (i)), .int (nI (l0))]) (st' := [.int (I26 16 6), .int (nI (99)), .int (nI (u0)), .int (nI (i)), .ref (18)]) (M' := (I26, J, Rx R, N, G)) rfl ?_
        rw [f26_16_6]
        refine XP_n 1 (pc' := 82) (ls' := [.ref (16), .ref (1), .ref (ro), .int (nI (p)), .int (nI (i)), .int (nI (l0))]) (st' := [.int ((nI (99)) - (nI (w))), .int (nI (u0)), .int (nI (i)), .ref (18)]) (M' := (I26, J, Rx R, N, G)) rfl ?_
        rw [show (nI (99)) - (nI (w)) = nI (99 - w) from nI_subE (rfl) (rfl) (by omega)]
        refine XP_n 1 (pc' := 83) (ls' := [.ref (16), .ref (1), .ref (ro), .int (nI (p)), .int (nI (i)), .int (nI (l0))]) (st' := [.int ((if nI (99 - w) < nI (u0) then nI (99 - w) else nI (u0))), .int (nI (i)), .ref (18)]) (M' := (I26, J, Rx R, N, G)) rfl ?_
        rw [show (if nI (99 - w) < nI (u0) then nI (99 - w) else nI (u0)) = nI (u) from hu ▸ nI_gUp (hu0.symm) (by omega)]
        refine XP_iast rfl rfl (show i < 16 by omega) rfl (by omega) ?_
        refine XP_n 7 (pc' := 91) (ls' := [.ref (16), .ref (1), .ref (ro), .int (nI (p)), .int (nI (i)), .int (nI (l0))]) (st' := [.int (nI (i)), .ref (18), .int (nI (i)), .int (nI (l0)), .ref (1), .ref (16)]) (M' := ((rw2 I26 18 i (nI (u))), J, Rx R, N, G)) rfl ?_
        refine XP_iraw rfl rfl (show i < 16 by omega) rfl (by omega) ?_
        rw [show (rw2 I26 18 i (nI (u))) 18 i = nI (u) from rw2_at _ _ _ _]
        obtain ⟨I27, eI27⟩ : ∃ z, z = (rw2 I26 18 i (nI (u))) := ⟨_, rfl⟩
        rw [← eI27]
        have hS27 : St s I27 := by rw [eI27]; exact (St_rwp hS26 rfl)
        have f27_16_6 : I27 16 6 = nI (w) := by rw [eI27]; exact f26_16_6
        have f27_16_7 : I27 16 7 = rich := by rw [eI27]; exact f26_16_7
        have f27_16_8 : I27 16 8 = nI (0) := by rw [eI27]; exact f26_16_8
        have hn27 : Only [16, 17, 18, 19, 20, oT (cLw s) + 3, oT (cLw s) + 2] I0 I27 := by rw [eI27]; exact (Only.w hn26 (by simp))
        refine XP_call rfl rfl (t_live X d hS27 hW hL (by omega) (by omega) (by omega) f27_16_6 f27_16_7 hJ1 hJ2) ?_
        rintro v28 M28 ⟨rfl, I28, rfl, hO28, f28_16_6, f28_16_7, f28_16_8⟩
        have hS28 : St s I28 := St_fo hS27 hO28 hW
        have hn28 : Only [16, 17, 18, 19, 20, oT (cLw s) + 3, oT (cLw s) + 2] I0 I28 := Only.c hn27 hO28 (by simp)
        have g8 := f28_16_8.trans f27_16_8
        refine XP_n 5 (pc' := 98) (ls' := [.ref (16), .ref (1), .ref (ro), .int (nI (p)), .int (nI (i)), .int (nI (l0))]) (st' := [.int (I28 16 6), .int (nI (i)), .ref (17)]) (M' := (I28, (rw2 (rw2 J 16 4 (pd + (gCost s (s 99 3) (nI (u)) (nI (w)) (nI (i)) (rich)).toInt64)) 16 5 (hd + gHarm s (nI (l0)) (nI (w + u)) (nI (i)) (rich))), Rx R, N, G)) rfl ?_
        rw [f28_16_6]
        refine XP_iast rfl rfl (show i < 16 by omega) rfl (by omega) ?_
        refine XP_n 5 (pc' := 104) (ls' := [.ref (16), .ref (1), .ref (ro), .int (nI (p)), .int (nI (i)), .int (nI (l0))]) (st' := [.int (I28 16 8), .int (nI (i)), .ref (20)]) (M' := ((rw2 I28 17 i (nI (w + u))), (rw2 (rw2 J 16 4 (pd + (gCost s (s 99 3) (nI (u)) (nI (w)) (nI (i)) (rich)).toInt64)) 16 5 (hd + gHarm s (nI (l0)) (nI (w + u)) (nI (i)) (rich))), Rx R, N, G)) rfl ?_
        rw [g8]
        refine XP_bast rfl rfl (show i < 16 by omega) rfl (by omega) (rfl) ?_
        refine XP_n 1 (pc' := 106) (ls' := [.ref (16), .ref (1), .ref (ro), .int (nI (p)), .int (nI (i) + nI (1)), .int (nI (l0))]) (st' := []) (M' := ((rw2 (rw2 I28 17 i (nI (w + u))) 20 i (nI (0))), (rw2 (rw2 J 16 4 (pd + (gCost s (s 99 3) (nI (u)) (nI (w)) (nI (i)) (rich)).toInt64)) 16 5 (hd + gHarm s (nI (l0)) (nI (w + u)) (nI (i)) (rich))), Rx R, N, G)) rfl ?_
        rw [show nI (i) + nI (1) = nI (i + 1) from nI_addE (rfl) rfl]
        refine XP_n 1 (pc' := 19) (ls' := [.ref (16), .ref (1), .ref (ro), .int (nI (p)), .int (nI (i + 1)), .int (nI (l0))]) (st' := []) (M' := ((rw2 (rw2 I28 17 i (nI (w + u))) 20 i (nI (0))), (rw2 (rw2 J 16 4 (pd + (gCost s (s 99 3) (nI (u)) (nI (w)) (nI (i)) (rich)).toInt64)) 16 5 (hd + gHarm s (nI (l0)) (nI (w + u)) (nI (i)) (rich))), Rx R, N, G)) rfl ?_
        have g : ∀ k j, 17 ≤ k → k ≤ 20 → I28 k j = (if k = 18 ∧ j = i then nI u else if k = 19 ∧ j = i then rich else I k j) := by
          intro k j hk1 hk2
          rw [hO28 k (by have := oT_ge (cLw s); simp; omega), eI27]
          simp only [rw2]
          rw [eI26]
          simp only [rw2]
          by_cases h1 : k = 18 <;> by_cases h2 : j = i <;> by_cases h3 : k = 19 <;> simp_all
        refine ih (i + 1) (w + u) (gGrow s rich (nI i)) false _ _ _ _ _ (by omega) (Only.w (Only.w hn28 (by simp)) (by simp)) (OnlyJ.w (OnlyJ.w hOJ (by simp)) (by simp)) ?_ hq1 ?_ ?_ ?_ ?_ ?_
        · refine gRows_up hRw (by rintro k (rfl | rfl | rfl | rfl) j hj <;> simp [rw2, hj, g]) (by rw [hq1]; simp [rw2]) (by unfold gU; rw [hq1, hq]; simp [rw2, g, ← hl0, hu]) (by rw [hq]; simp [rw2, g]) (by rw [hq1]; simp [rw2])
        · simp [rw2, f28_16_6]
        · simp [rw2, f28_16_7]
        · simp [rw2, g8]
        · simp [rw2]
        · simp [rw2]
theorem t_follow (X : hX) (d : Nat) {s I0 : Nat → Nat → Int32} {J0 : Nat → Nat → Int64} {R : Nat → Nat → Option Nat} {N : Nat → Nat} {G : hG} (hS0 : St s I0) (hW : Wf s) (hL : Lk s R N) {kd p ro : Nat} {nR : Nat → Nat → Nat → Nat} (k6 : kd < 6) (hp : p < cP s) (hR : ∀ l w y, nR l w y ≤ 1000) (hro : ro ∉ [16, 17, 18, 19, 20, oT (cLw s) + 3, oT (cLw s) + 2]) (hri : isO ro 7 = true)
    (hRa : ∀ (I : Nat → Nat → Int32) (J : Nat → Nat → Int64), St s I → I ro = I0 ro → ∀ l w y, y < 16 → l ≤ 150 → w ≤ 99 → TP X (d + 4) n_Rule_raiseOf [.ref ro, .ref 1, .int (nI l), .int (nI w), .int (nI y)] (I, J, Rx R, N, G) (Ret (.int (nI (nR l w y))) (I, J, Rx R, N, G)))
    (hLv : ∀ (I : Nat → Nat → Int32) (J : Nat → Nat → Int64), St s I → I ro = I0 ro → ∀ l w, l ≤ 150 → w ≤ 99 → TP X (d + 4) n_Rule_leaves [.ref ro, .int (nI l), .int (nI w)] (I, J, Rx R, N, G) (Ret (.int (b2i (kd = 5 ∧ w ≤ l))) (I, J, Rx R, N, G))) :
    TP X (d + 5) n_Course_follow [.ref 16, .ref 1, .ref ro, .int (nI p)] (I0, J0, Rx R, N, G) (fun v M' => v = none ∧ ∃ I' J', M' = (I', J', Rx R, N, G) ∧ Only [16, 17, 18, 19, 20, oT (cLw s) + 3, oT (cLw s) + 2] I0 I' ∧ OnlyJ [16] J0 J' ∧ gRows s (decide (kd = 5)) nR p (cY s) 17 18 19 20 I' ∧ J' 16 4 = (gS s (decide (kd = 5)) nR p (cY s)).2.2.2.1 ∧ J' 16 5 = (gS s (decide (kd = 5)) nR p (cY s)).2.2.2.2) := by
  unfold TP
  show XP X _ k_Course_follow 0 [.ref (16), .ref (1), .ref (ro), .int (nI (p)), xj, xj] [] _ _
  refine XP_n 8 (pc' := 8) (ls' := [.ref (16), .ref (1), .ref (ro), .int (nI (p)), xj, xj]) (st' := [.ref (1), .ref (16)]) (M' := (I0, (rw2 (rw2 J0 16 4 (lN (0))) 16 5 (lN (0))), Rx R, N, G)) rfl ?_
  refine XP_geti hS0 rfl rfl rfl ?_
  rw [hW.w.1]
  refine XP_n 3 (pc' := 12) (ls' := [.ref (16), .ref (1), .ref (ro), .int (nI (p)), xj, xj]) (st' := [.ref (1), .ref (16)]) (M' := ((rw2 I0 16 6 (nI (cW s))), (rw2 (rw2 J0 16 4 (lN (0))) 16 5 (lN (0))), Rx R, N, G)) rfl ?_
  refine XP_geti (St_rwp hS0 rfl) rfl rfl rfl ?_
  refine XP_n 6 (pc' := 19) (ls' := [.ref (16), .ref (1), .ref (ro), .int (nI (p)), .int (nI (0)), xj]) (st' := []) (M' := ((rw2 (rw2 (rw2 I0 16 6 (nI (cW s))) 16 7 (s 99 2)) 16 8 (nI (0))), (rw2 (rw2 J0 16 4 (lN (0))) 16 5 (lN (0))), Rx R, N, G)) rfl ?_
  exact l_follow X d hS0 hW hL k6 hp hR hro hri hRa hLv (cY s) 0 (cW s) (s 99 2) false _ _ _ _ _ (by omega) (Only.w (Only.w (Only.w Only.rf (by simp)) (by simp)) (by simp)) (OnlyJ.w (OnlyJ.w OnlyJ.rf (by simp)) (by simp)) (fun y hy => absurd hy (Nat.not_lt_zero y)) rfl (by simp [rw2]) (by simp [rw2]) (by simp [rw2]) (by simp [rw2]) (by simp [rw2])
