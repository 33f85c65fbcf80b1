/-! a new text: what stays the same -/
section
theorem rpF_q (nm : Nat → Int32) {q q' : Nat → Nat} {k : Nat} : ∀ n, (∀ i, i < n → q' (k + i) = q (k + i)) → rpF nm q' k n = rpF nm q k n
  | 0, _ => rfl
  | n + 1, h => by
    have ih := rpF_q nm n (fun i hi => h i (by omega))
    unfold rpF
    rw [ih, h n (by omega)]
theorem sW_q (nm : Nat → Int32) {q q' : Nat → Nat} {k n : Nat} (h : ∀ i, i < n → q' (k + i) = q (k + i)) : sW nm q' k n = sW nm q k n := by
  unfold sW
  rw [rpF_q nm n h]
theorem hpN_q {q q' : Nat → Nat} {k : Nat} : ∀ n, (∀ i, i < n → q' (k + i) = q (k + i)) → hpN q' k n = hpN q k n
  | 0, _ => rfl
  | n + 1, h => by
    have ih := hpN_q n (fun i hi => h i (by omega))
    unfold hpN
    rw [ih, h n (by omega)]
theorem WFp_q {q q' : Nat → Nat} {k n : Nat} (h : ∀ i, i < n → q' (k + i) = q (k + i)) (hw : WFp q k n) : WFp q' k n := by
  refine ⟨fun i hi => ?_, ?_⟩
  · rw [h i hi, hpN_q i (fun j hj => h j (by omega))]
    exact hw.1 i hi
  · rw [hpN_q n h]
    exact hw.2
theorem sHarm_q {s s' : Nat → Nat → Int32} {q q' : Nat → Nat} {k1 : Nat} (h1 : s' 105 = s 105) (h2 : s' 106 = s 106) (hq : ∀ i, i < k1 → q' i = q i) (l w y r : Int32) : ∀ n, sHarm s' q' k1 l w y r n = sHarm s q k1 l w y r n
  | 0 => rfl
  | n + 1 => by
    have ih := sHarm_q h1 h2 hq l w y r n
    have e : ∀ a b c d e, hTerm q' k1 a b c d e = hTerm q k1 a b c d e := fun a b c d e => by
      unfold hTerm
      rw [sW_q (q := q) (q' := q') (k := 0) (n := k1) (nmV a b c d e (cI 0)) (fun i hi => by rw [Nat.zero_add]; exact hq i hi)]
    unfold sHarm
    rw [ih, h1, h2]
    simp only [e]
/-- what a new text leaves as it was -/
def TxD (s s' : Nat → Nat → Int32) : Prop := (∀ k, k ≠ 99 → k ≠ 117 → k ≠ 118 → k ≠ oT (cTx s) → k ≠ oT (cTx s) + 1 → s' k = s k) ∧ (∀ j, j ≠ 27 → j ≠ 30 → s' 99 j = s 99 j) ∧ s' 99 27 = nI 0 ∧ (∀ j, j < 200 * cTx s → s' 117 j = s 117 j) ∧ (∀ j, j < 4 * cTx s → s' 118 j = s 118 j)
def AgrN (s s' : Nat → Nat → Int32) : Prop := (∀ k, 100 ≤ k → k ≤ 106 → s' k = s k) ∧ (nHarm s' = nHarm s ∧ nCost s' = nCost s) ∧ gGrow s' = gGrow s ∧ (∀ j, j ≤ 10 → s' 99 j = s 99 j) ∧ s' 99 31 = s 99 31 ∧ s' 1 = s 1
variable {s s' : Nat → Nat → Int32}
theorem txd_o (hW : Wf s) : 3000 ≤ oT (cTx s) := by
  have h := hW.tx.2
  unfold oT
  cases e : Nat.beq (cTx s) 0 with
  | true => have := Nat.eq_of_beq_eq_true e; omega
  | false => show 3000 ≤ 2996 + 4 * cTx s; omega
theorem txd_k (h : TxD s s') {t : Nat} (ht : t < cTx s) : tK1 s' t = tK1 s t ∧ tK2 s' t = tK2 s t ∧ tLn s' t = tLn s t ∧ s' 118 (4 * t) = s 118 (4 * t) := by
  unfold tK1 tK2 tLn
  rw [h.2.2.2.2 _ (by omega), h.2.2.2.2 _ (by omega), h.2.2.2.2 _ (by omega), h.2.2.2.2 _ (by omega)]
  exact ⟨rfl, rfl, rfl, rfl⟩
theorem txd_q (hW : Wf s) (h : TxD s s') {t : Nat} (ht : t < cTx s) {j : Nat} (hj : j < tLn s t) : tQ s' t j = tQ s t j := by
  have := (hW.txt ht).2.2.2.2.2.2.2.1
  unfold tQ
  rw [h.2.2.2.1 _ (by omega)]
theorem txd_M (hW : Wf s) (h : TxD s s') {t : Nat} (ht : t < cTx s) : TxM s' t (tK1 s' t) (tK2 s' t) (tLn s' t) (tQ s' t) := by
  obtain ⟨e1, e2, e3, e4⟩ := txd_k h ht
  rw [e1, e2, e3]
  have hq : ∀ j, j < tLn s t → tQ s' t j = tQ s t j := fun j hj => txd_q hW h ht hj
  obtain ⟨m1, m2, m3, m4, m5, m6, m7, m8, m9, ma, mb, mc⟩ := hW.txt ht
  refine ⟨m1, e4.trans m2, ?_, ?_, ?_, m6, m7, m8, fun j hj => ?_, WFp_q (fun i hi => ?_) ma, WFp_q (fun i hi => ?_) mb, WFp_q (fun i hi => ?_) mc⟩
  · rw [h.2.2.2.2 _ (by omega)]; exact m3
  · rw [h.2.2.2.2 _ (by omega)]; exact m4
  · rw [h.2.2.2.2 _ (by omega)]; exact m5
  · rw [hq j hj, h.2.2.2.1 _ (by omega)]; exact m9 j hj
  · exact hq _ (by omega)
  · exact hq _ (by omega)
  · exact hq _ (by omega)
theorem txd_agn (hW : Wf s) (h : TxD s s') : AgrN s s' := by
  have ho := txd_o hW
  have hl := hW.lw.2
  have e0 : cLw s' = cLw s := by unfold cLw; rw [h.2.1 31 (by omega) (by omega)]
  obtain ⟨e1, e2, e3, e4⟩ := txd_k h hl
  have hM := hW.lwt
  have hq : ∀ j, j < tLn s (cLw s) → tQ s' (cLw s) j = tQ s (cLw s) j := fun j hj => txd_q hW h hl hj
  have hr : ∀ k, 100 ≤ k → k ≤ 106 → s' k = s k := fun k h1 h2 => h.1 k (by omega) (by omega) (by omega) (by omega) (by omega)
  have hS : cS s' = cS s := by unfold cS; rw [h.2.1 10 (by omega) (by omega)]
  have b1 := hM.2.2.2.2.2.1
  have b2 := hM.2.2.2.2.2.2.1
  refine ⟨hr, ⟨?_, ?_⟩, ?_, fun j hj => h.2.1 j (by omega) (by omega), h.2.1 31 (by omega) (by omega), h.1 1 (by omega) (by omega) (by omega) (by omega) (by omega)⟩
  · funext l w y r
    unfold nHarm gHarm
    rw [e0, e1, hS, sHarm_q (hr 105 (by omega) (by omega)) (hr 106 (by omega) (by omega)) (fun i hi => hq i (by omega))]
  · funext br u w y r
    unfold nCost gCost sCost
    rw [e0, e1, e2, sW_q _ (fun i hi => hq _ (by omega))]
  · funext r y
    unfold gGrow sGrown
    rw [e0, e2, e3, sW_q _ (fun i hi => hq _ (by omega))]
end
section
variable {s s' : Nat → Nat → Int32}
theorem agn_y (h : AgrN s s') : cY s' = cY s := by unfold cY; rw [h.2.2.2.1 0 (by omega)]
theorem agn_w (h : AgrN s s') : cW s' = cW s := by unfold cW; rw [h.2.2.2.1 1 (by omega)]
theorem agn_p (h : AgrN s s') : cP s' = cP s := by unfold cP; rw [h.2.2.2.1 4 (by omega)]
theorem agn_ns (h : AgrN s s') : cS s' = cS s := by unfold cS; rw [h.2.2.2.1 10 (by omega)]
theorem agn_wt (h : AgrN s s') : rWt s' = rWt s := by funext p; unfold rWt; rw [h.1 100 (by omega) (by omega)]
theorem agn_lv (h : AgrN s s') : nLv s' = nLv s := by
  funext p y
  unfold nLv rBa rRa rBe rFa
  rw [h.1 101 (by omega) (by omega), h.1 102 (by omega) (by omega), h.1 103 (by omega) (by omega), h.1 104 (by omega) (by omega)]
theorem agn_b1 (h : AgrN s s') : ∀ y, gB s' y = gB s y
  | 0 => h.2.2.2.1 2 (by omega)
  | y + 1 => by
    unfold gB
    rw [agn_b1 h y, h.2.2.1]
theorem agn_b (h : AgrN s s') : gB s' = gB s := funext (agn_b1 h)
theorem agn_wa (h : AgrN s s') : cWA s' = cWA s := by
  unfold cWA
  rw [agn_wt h, agn_p h]
theorem agn_hY (h : AgrN s s') : hY s' = hY s := by
  funext q y d
  unfold hY
  simp only [agn_wt h, h.2.1.1, agn_lv h, agn_w h, agn_b h, agn_p h]
theorem agn_pY (h : AgrN s s') : pY s' = pY s := by
  funext q br y d u
  unfold pY pSc
  rw [agn_wa h, h.2.1.2, agn_w h, agn_b h, agn_hY h]
theorem agn_mst (h : AgrN s s') : mst s' = mst s := by
  funext no y d
  unfold mst
  rw [agn_w h]
theorem agn_pL1 (h : AgrN s s') (q : Nat) (br : Int32) (no : Nat) : ∀ k d, pL s' q br no k d = pL s q br no k d
  | 0, _ => rfl
  | k + 1, d => by
    have ih := agn_pL1 h q br no k
    unfold pL
    simp only [ih, agn_pY h, agn_y h, agn_mst h]
theorem agn_pL (h : AgrN s s') : pL s' = pL s := by
  funext q br no k d
  exact agn_pL1 h q br no k d
theorem agn_pA (h : AgrN s s') : pA s' = pA s := by
  funext q br no y d
  unfold pA
  rw [agn_pY h, agn_pL h, agn_y h, agn_mst h]
theorem agn_pD (h : AgrN s s') (q : Nat) (br : Int32) (no : Nat) : ∀ y, pD s' q br no y = pD s q br no y
  | 0 => rfl
  | y + 1 => by
    unfold pD
    rw [agn_pD h q br no y, agn_pA h]
theorem agn_pU (h : AgrN s s') : pU s' = pU s := by
  funext q br no y
  unfold pU
  rw [agn_pD h, agn_pA h]
theorem agn_pBest (h : AgrN s s') : pBest s' = pBest s := by
  funext q br no
  unfold pBest
  rw [agn_pL h, agn_y h]
theorem agn_fr (h : AgrN s s') : fr s' = fr s := by
  funext y
  unfold fr
  rw [agn_w h]
theorem agn_HP (h : AgrN s s') : HP s' = HP s := by
  funext p J
  unfold HP
  rw [agn_y h, agn_fr h, h.2.1.1, agn_lv h, agn_w h, agn_b h]
theorem agn_Cch {I : Nat → Nat → Int32} {J : Nat → Nat → Int64} (h : AgrN s s') (hC : Cch s I J) : Cch s' I J := by
  have h15 : s' 1 15 = s 1 15 := by rw [h.2.2.2.2.2]
  have hst : Stq s' = Stq s := by
    funext x
    unfold Stq
    rw [h15]
  have hpl : PlOk s' = PlOk s := by
    funext q I J
    unfold PlOk
    rw [agn_pBest h, agn_pU h, agn_y h, h.2.2.2.1 3 (by omega)]
  unfold Cch CchH at hC ⊢
  rw [hst, hpl, agn_HP h, agn_p h, h15]
  exact hC
end
