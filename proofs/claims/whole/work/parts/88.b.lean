/-! states that agree on all that the planner reads -/
def Agr (s s' : Nat → Nat → Int32) : Prop := (∀ k, 100 ≤ k → k ≤ 106 → s' k = s k) ∧ s' 117 = s 117 ∧ s' 118 = s 118 ∧ (∀ j, j ≤ 10 → s' 99 j = s 99 j) ∧ s' 99 31 = s 99 31 ∧ s' 1 = s 1
section
variable {s s' : Nat → Nat → Int32}
theorem agr_y (h : Agr s s') : cY s' = cY s := by unfold cY; rw [h.2.2.2.1 0 (by omega)]
theorem agr_w (h : Agr s s') : cW s' = cW s := by unfold cW; rw [h.2.2.2.1 1 (by omega)]
theorem agr_p (h : Agr s s') : cP s' = cP s := by unfold cP; rw [h.2.2.2.1 4 (by omega)]
theorem agr_ns (h : Agr s s') : cS s' = cS s := by unfold cS; rw [h.2.2.2.1 10 (by omega)]
theorem agr_lw (h : Agr s s') : cLw s' = cLw s := by unfold cLw; rw [h.2.2.2.2.1]
theorem agr_q (h : Agr s s') : tQ s' (cLw s') = tQ s (cLw s) := by
  rw [agr_lw h]
  funext j
  unfold tQ
  rw [h.2.1]
theorem agr_k1 (h : Agr s s') : tK1 s' (cLw s') = tK1 s (cLw s) := by rw [agr_lw h]; unfold tK1; rw [h.2.2.1]
theorem agr_k2 (h : Agr s s') : tK2 s' (cLw s') = tK2 s (cLw s) := by rw [agr_lw h]; unfold tK2; rw [h.2.2.1]
theorem agr_ln (h : Agr s s') : tLn s' (cLw s') = tLn s (cLw s) := by rw [agr_lw h]; unfold tLn; rw [h.2.2.1]
theorem agr_wt (h : Agr s s') : rWt s' = rWt s := by funext p; unfold rWt; rw [h.1 100 (by omega) (by omega)]
theorem agr_lv (h : Agr s s') : nLv s' = nLv s := by
  funext p y
  unfold nLv rBa rRa rBe rFa
  rw [h.1 101 (by omega) (by omega), h.1 102 (by omega) (by omega), h.1 103 (by omega) (by omega), h.1 104 (by omega) (by omega)]
theorem agr_hm (h : Agr s s') (q : Nat → Nat) (k1 : Nat) (l w y r : Int32) : ∀ n, sHarm s' q k1 l w y r n = sHarm s q k1 l w y r n
  | 0 => rfl
  | n + 1 => by
    have ih := agr_hm h q k1 l w y r n
    unfold sHarm
    rw [ih, h.1 105 (by omega) (by omega), h.1 106 (by omega) (by omega)]
theorem agr_nh (h : Agr s s') : nHarm s' = nHarm s := by
  funext l w y r
  unfold nHarm gHarm
  rw [agr_q h, agr_k1 h, agr_ns h, agr_hm h]
theorem agr_gg (h : Agr s s') : gGrow s' = gGrow s := by
  funext r y
  unfold gGrow
  rw [agr_q h, agr_k2 h, agr_ln h]
theorem agr_b1 (h : Agr s s') : ∀ y, gB s' y = gB s y
  | 0 => h.2.2.2.1 2 (by omega)
  | y + 1 => by
    unfold gB
    rw [agr_b1 h y, agr_gg h]
theorem agr_b (h : Agr s s') : gB s' = gB s := funext (agr_b1 h)
theorem agr_nc (h : Agr s s') : nCost s' = nCost s := by
  funext br u w y r
  unfold nCost gCost
  rw [agr_q h, agr_k1 h, agr_k2 h]
theorem agr_wa (h : Agr s s') : cWA s' = cWA s := by
  unfold cWA
  rw [agr_wt h, agr_p h]
theorem agr_hY (h : Agr s s') : hY s' = hY s := by
  funext q y d
  unfold hY
  simp only [agr_wt h, agr_nh h, agr_lv h, agr_w h, agr_b h, agr_p h]
theorem agr_pY (h : Agr s s') : pY s' = pY s := by
  funext q br y d u
  unfold pY pSc
  rw [agr_wa h, agr_nc h, agr_w h, agr_b h, agr_hY h]
theorem agr_mst (h : Agr s s') : mst s' = mst s := by
  funext no y d
  unfold mst
  rw [agr_w h]
theorem agr_pL1 (h : Agr s s') (q : Nat) (br : Int32) (no : Nat) : ∀ k d, pL s' q br no k d = pL s q br no k d
  | 0, _ => rfl
  | k + 1, d => by
    have ih := agr_pL1 h q br no k
    unfold pL
    simp only [ih, agr_pY h, agr_y h, agr_mst h]
theorem agr_pL (h : Agr s s') : pL s' = pL s := by
  funext q br no k d
  exact agr_pL1 h q br no k d
theorem agr_pA (h : Agr s s') : pA s' = pA s := by
  funext q br no y d
  unfold pA
  rw [agr_pY h, agr_pL h, agr_y h, agr_mst h]
theorem agr_pD (h : Agr s s') (q : Nat) (br : Int32) (no : Nat) : ∀ y, pD s' q br no y = pD s q br no y
  | 0 => rfl
  | y + 1 => by
    unfold pD
    rw [agr_pD h q br no y, agr_pA h]
theorem agr_pU (h : Agr s s') : pU s' = pU s := by
  funext q br no y
  unfold pU
  rw [agr_pD h, agr_pA h]
theorem agr_pBest (h : Agr s s') : pBest s' = pBest s := by
  funext q br no
  unfold pBest
  rw [agr_pL h, agr_y h]
theorem agr_fr (h : Agr s s') : fr s' = fr s := by
  funext y
  unfold fr
  rw [agr_w h]
theorem agr_HP (h : Agr s s') : HP s' = HP s := by
  funext p J
  unfold HP
  rw [agr_y h, agr_fr h, agr_nh h, agr_lv h, agr_w h, agr_b h]
theorem agr_Cch {I : Nat → Nat → Int32} {J : Nat → Nat → Int64} (h : Agr s s') (hC : Cch s I J) : Cch s' I J := by
  have h15 : s' 1 15 = s 1 15 := by rw [h.2.2.2.2.2]
  have hst : Stq s' = Stq s := by
    funext x
    unfold Stq
    rw [h15]
  have hpl : PlOk s' = PlOk s := by
    funext q I J
    unfold PlOk
    rw [agr_pBest h, agr_pU h, agr_y h, h.2.2.2.1 3 (by omega)]
  unfold Cch CchH at hC ⊢
  rw [hst, hpl, agr_HP h, agr_p h, h15]
  exact hC
end
