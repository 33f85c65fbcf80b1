/-! texts and rules of the class under a change elsewhere -/
def AgrL (s s' : Nat → Nat → Int32) : Prop := (∀ k, k = 95 ∨ k = 96 ∨ 3000 ≤ k → s' k = s k) ∧ s' 117 = s 117 ∧ s' 118 = s 118 ∧ s' 14 = s 14 ∧ (s 1 3 = s 99 3 → s' 1 3 = s' 99 3) ∧ s' 99 13 = s 99 13 ∧ s' 99 30 = s 99 30 ∧ s' 99 31 = s 99 31
theorem agrl_Lk {s s' : Nat → Nat → Int32} {R : Nat → Nat → Option Nat} {N : Nat → Nat} (h : AgrL s s') (hL : Lk s R N) : Lk s' R N := by
  obtain ⟨h1, h2, h3, h4, h5, h7, h8, h9⟩ := h
  have e1 : cLw s' = cLw s := by unfold cLw; rw [h9]
  have e2 : cTx s' = cTx s := by unfold cTx; rw [h8]
  have e3 : cR s' = cR s := by unfold cR; rw [h7]
  have e4 : tK1 s' = tK1 s := by funext t; unfold tK1; rw [h3]
  have e5 : tK2 s' = tK2 s := by funext t; unfold tK2; rw [h3]
  have e6 : tLn s' = tLn s := by funext t; unfold tLn; rw [h3]
  have e7 : tQ s' = tQ s := by funext t j; unfold tQ; rw [h2]
  have e8 : ∀ t k1 k2 L q, TxC s R N t k1 k2 L q → TxC s' R N t k1 k2 L q := fun t k1 k2 L q hT => by
    unfold TxC at hT ⊢
    have o := oT_rg t
    rw [h1 (oT t) (by omega), h1 (oT t + 1) (by omega)]
    exact hT
  unfold Lk at hL ⊢
  rw [e1, e2, e3, e4, e5, e6, e7, h4]
  obtain ⟨a, b, c, f, g, i, j⟩ := hL
  exact ⟨a, fun t ht => ⟨(b t ht).1, e8 _ _ _ _ _ (b t ht).2⟩, c, f, g, i, h5 j⟩
