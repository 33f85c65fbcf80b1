/-! a new text: the well-formed state, the class's half, the references -/
section
variable {s s' : Nat → Nat → Int32}
theorem txd_row (hW : Wf s) (h : TxD s s') {k : Nat} (h1 : k < 3000) (h2 : k ≠ 99) (h3 : k ≠ 117) (h4 : k ≠ 118) : s' k = s k := by
  have ho := txd_o hW
  exact h.1 k h2 h3 h4 (by omega) (by omega)
theorem txd_Wf (hW : Wf s) (h : TxD s s') {c : Nat} (h30 : s' 99 30 = nI c) (hc : c = cTx s ∨ (c = cTx s + 1 ∧ cTx s < 6 ∧ TxM s' (cTx s) (tK1 s' (cTx s)) (tK2 s' (cTx s)) (tLn s' (cTx s)) (tQ s' (cTx s)))) : Wf s' := by
  have htx := hW.tx.2
  have hc6 : c ≤ 6 := by rcases hc with rfl | ⟨rfl, h1, -⟩ <;> omega
  have hc1 : cTx s ≤ c := by rcases hc with rfl | ⟨rfl, h1, -⟩ <;> omega
  have e30 : cTx s' = c := by unfold cTx; rw [h30, wN_nI (by omega)]
  have r := fun k => txd_row hW h (k := k)
  have n := h.2.1
  have eP : cP s' = cP s := by unfold cP; rw [n 4 (by omega) (by omega)]
  have eS : cS s' = cS s := by unfold cS; rw [n 10 (by omega) (by omega)]
  have eR : cR s' = cR s := by unfold cR; rw [n 13 (by omega) (by omega)]
  have eO : rOf s' = rOf s := by funext t; unfold rOf; rw [r 106 (by omega) (by omega) (by omega) (by omega)]
  have eK : rKd s' = rKd s := by funext t; unfold rKd; rw [r 107 (by omega) (by omega) (by omega) (by omega)]
  have eT : cSt s' = cSt s := by unfold cSt; rw [n 19 (by omega) (by omega)]
  have eT2 : cT s' = cT s := by unfold cT; rw [n 22 (by omega) (by omega)]
  have eI : cIL s' = cIL s ∧ cIP s' = cIP s := by unfold cIL cIP; rw [n 39 (by omega) (by omega), n 37 (by omega) (by omega)]; exact ⟨rfl, rfl⟩
  have eL : cLw s' = cLw s := by unfold cLw; rw [n 31 (by omega) (by omega)]
  have hW0 := hW
  obtain ⟨w1, w2, w3, w4, w5, w6, w7, w8, w9, wa⟩ := hW
  refine ⟨?_, ?_, ?_, ?_, ?_, ?_, ?_, ?_, ?_, ?_⟩
  · unfold WfF at w1 ⊢
    rw [n 0 (by omega) (by omega), n 1 (by omega) (by omega), n 2 (by omega) (by omega), n 3 (by omega) (by omega), n 4 (by omega) (by omega), n 10 (by omega) (by omega), n 13 (by omega) (by omega), n 19 (by omega) (by omega), n 22 (by omega) (by omega), n 25 (by omega) (by omega), n 31 (by omega) (by omega), h.2.2.1, h30, eL, e30]
    obtain ⟨a, b, ⟨c1, c2, c3, c4⟩, d, e⟩ := w1
    exact ⟨a, b, ⟨c1, c2, ⟨0, by omega, by omega, rfl⟩, ⟨c, by omega, by omega, rfl⟩⟩, d, by omega⟩
  · unfold WfP at w2 ⊢
    rw [eP, r 100 (by omega) (by omega) (by omega) (by omega), r 101 (by omega) (by omega) (by omega) (by omega), r 102 (by omega) (by omega) (by omega) (by omega), r 103 (by omega) (by omega) (by omega) (by omega), r 104 (by omega) (by omega) (by omega) (by omega)]
    exact w2
  · unfold WfS at w3 ⊢
    rw [eS, eO, r 105 (by omega) (by omega) (by omega) (by omega), r 106 (by omega) (by omega) (by omega) (by omega)]
    exact w3
  · unfold WfR at w4 ⊢
    rw [eR, eK, r 107 (by omega) (by omega) (by omega) (by omega), r 108 (by omega) (by omega) (by omega) (by omega), r 109 (by omega) (by omega) (by omega) (by omega), r 110 (by omega) (by omega) (by omega) (by omega), r 111 (by omega) (by omega) (by omega) (by omega)]
    exact w4
  · unfold WfSt at w5 ⊢
    rw [eT, r 112 (by omega) (by omega) (by omega) (by omega), r 113 (by omega) (by omega) (by omega) (by omega)]
    exact w5
  · unfold WfT at w6 ⊢
    rw [eT2, r 114 (by omega) (by omega) (by omega) (by omega), r 115 (by omega) (by omega) (by omega) (by omega)]
    exact w6
  · intro i hi
    unfold cTa at hi
    rw [h.2.2.1, wN_nI (by omega)] at hi
    omega
  · intro t ht
    rw [e30] at ht
    by_cases e : t < cTx s
    · exact txd_M hW0 h e
    · rcases hc with rfl | ⟨rfl, h1, h2⟩
      · exact absurd ht e
      · obtain rfl : t = cTx s := by omega
        exact h2
  · unfold WfSh at w9 ⊢
    rw [r 120 (by omega) (by omega) (by omega) (by omega), r 121 (by omega) (by omega) (by omega) (by omega)]
    exact w9
  · unfold WfI at wa ⊢
    rw [eI.1, eI.2, eP, e30, n 32 (by omega) (by omega), n 33 (by omega) (by omega), n 34 (by omega) (by omega), n 35 (by omega) (by omega), n 36 (by omega) (by omega), n 37 (by omega) (by omega), n 38 (by omega) (by omega), n 39 (by omega) (by omega), r 100 (by omega) (by omega) (by omega) (by omega), r 119 (by omega) (by omega) (by omega) (by omega)]
    obtain ⟨a, b, c'⟩ := wa
    exact ⟨a, fun z => by
      obtain ⟨z1, z2, z3, z4, z5, z6, z7⟩ := b z
      exact ⟨z1, z2, z3, z4, by omega, z6, z7⟩, c'⟩
theorem oT_4 {t : Nat} (h : 1 ≤ t) : oT t = 2996 + 4 * t := by
  unfold oT
  cases e : Nat.beq t 0 with
  | true => have := Nat.eq_of_beq_eq_true e; omega
  | false => rfl
theorem StC_tx {I I' : Nat → Nat → Int32} (hW : Wf s) (h : StC s I) (hD : TxD s s') (h0 : ∀ j, I' 0 j = if j = 3 then s' 99 30 else I 0 j) (h9 : I' 9 1 = nI 0) (ho : ∀ k j, k = oT (cTx s) ∨ k = oT (cTx s) + 1 → I' k j = s' k j) (hk : ∀ k, k ≠ 0 → k ≠ 9 → k ≠ 11 → (k < oT (cTx s) ∨ oT (cTx s) + 4 ≤ k) → I' k = I k) : StC s' I' := fun k j a b hm => by
  have ho3 := txd_o hW
  have ht := hW.tx.2
  have h4 := oT_4 ht.1
  have ei := ic_ok hm
  obtain ⟨n1, n2⟩ := mpC_no hm
  by_cases c1 : k = oT (cTx s) ∨ k = oT (cTx s) + 1
  · obtain ⟨rfl, rfl, -⟩ := mpC_big (by omega) hm
    exact ho _ _ c1
  by_cases c2 : k = oT (cTx s) + 2 ∨ k = oT (cTx s) + 3
  · obtain ⟨-, -, q⟩ := mpC_big (by omega) hm
    omega
  have hab : ¬ (a = oT (cTx s) ∨ a = oT (cTx s) + 1) := fun z => by
    have : ic a b = (a, b) := by
      unfold ic
      rw [show Nat.ble 3000 a = true from Nat.ble_eq.mpr (by omega), cond_true]
    rw [this] at ei
    injection ei with q1 q2
    omega
  by_cases c3 : k = 9
  · subst c3
    have q : j = 1 ∧ a = 99 ∧ b = 27 := by
      match j, hm with
      | 0, hm => cases hm
      | 1, hm => injection hm with hm; injection hm with q1 q2; exact ⟨rfl, q1.symm, q2.symm⟩
      | 2, hm => cases hm
      | 3, hm => cases hm
      | 4, hm => cases hm
      | 5, hm => cases hm
      | 6, hm => cases hm
      | 7, hm => cases hm
      | _ + 8, hm => cases hm
    obtain ⟨rfl, rfl, rfl⟩ := q
    rw [h9, hD.2.2.1]
  have hn27 : ¬ (a = 99 ∧ b = 27) := fun z => by
    obtain ⟨rfl, rfl⟩ := z
    have : ic 99 27 = (9, 1) := by decide +kernel
    rw [this] at ei
    injection ei with q1 q2
    omega
  by_cases c4 : k = 11
  · subst c4
    cases hm
  have hgen : ¬ (a = 99 ∧ b = 30) → s' a b = s a b := fun z => by
    by_cases e : a = 99
    · subst e
      exact hD.2.1 b (fun z2 => hn27 ⟨rfl, z2⟩) (fun z2 => z ⟨rfl, z2⟩)
    · rw [hD.1 a e n1 n2 (fun z2 => hab (Or.inl z2)) (fun z2 => hab (Or.inr z2))]
  by_cases c5 : k = 0
  · subst c5
    rw [h0]
    by_cases e : j = 3
    · subst e
      rw [if_pos rfl]
      have hk2 : mpC 0 3 = some (99, 30) := rfl
      rw [hk2] at hm
      injection hm with hm
      injection hm with q1 q2
      subst q1 q2
      rfl
    · rw [if_neg e, hgen (fun z => by
        obtain ⟨rfl, rfl⟩ := z
        have : ic 99 30 = (0, 3) := by decide +kernel
        rw [this] at ei
        injection ei with q1 q2
        exact e q2.symm)]
      exact h _ _ _ _ hm
  · rw [hk k c5 c3 c4 (by omega), hgen (fun z => by
      obtain ⟨rfl, rfl⟩ := z
      have : ic 99 30 = (0, 3) := by decide +kernel
      rw [this] at ei
      injection ei with q1 q2
      exact c5 q1.symm)]
    exact h _ _ _ _ hm
theorem oT_ne {t' t : Nat} (h : t' < t) : (oT t' = 95 ∨ (1 ≤ t' ∧ oT t' = 2996 + 4 * t')) ∧ oT t = 2996 + 4 * t := by
  refine ⟨?_, oT_4 (by omega)⟩
  by_cases e : t' = 0
  · subst e
    exact Or.inl rfl
  · exact Or.inr ⟨by omega, oT_4 (by omega)⟩
theorem txd_Lk {R R' : Nat → Nat → Option Nat} {N N' : Nat → Nat} (hW : Wf s) (hL : Lk s R N) (h : TxD s s') (r1 : ∀ k, k ≠ 12 → (k < oT (cTx s) ∨ oT (cTx s) + 4 ≤ k) → Rx R' k = Rx R k) (r2 : ∀ j, j ≠ cTx s → Rx R' 12 j = Rx R 12 j) (n1 : ∀ k, (k < oT (cTx s) ∨ oT (cTx s) + 4 ≤ k) → alen N' k = alen N k) {c : Nat} (h30 : s' 99 30 = nI c) (hc : (c = cTx s ∧ (cTx s < 6 → Rx R' 12 (cTx s) = none)) ∨ (c = cTx s + 1 ∧ cTx s < 6 ∧ Rx R' 12 (cTx s) = some (oT (cTx s)) ∧ TxC s' R' N' (cTx s) (tK1 s' (cTx s)) (tK2 s' (cTx s)) (tLn s' (cTx s)) (tQ s' (cTx s)))) : Lk s' R' N' := by
  have ho3 := txd_o hW
  have htx := hW.tx.2
  have h4 := oT_4 htx.1
  have hc6 : c ≤ 6 := by rcases hc with ⟨rfl, -⟩ | ⟨rfl, h1, -⟩ <;> omega
  have e30 : cTx s' = c := by unfold cTx; rw [h30, wN_nI (by omega)]
  have e1 : cLw s' = cLw s := by unfold cLw; rw [h.2.1 31 (by omega) (by omega)]
  have e3 : cR s' = cR s := by unfold cR; rw [h.2.1 13 (by omega) (by omega)]
  have hr8 := hW.r.2
  unfold Lk at hL ⊢
  rw [e1, e3, e30]
  obtain ⟨a, b, c', f, g, i, j⟩ := hL
  have old : ∀ t, t < cTx s → Rx R' 12 t = some (oT t) ∧ TxC s' R' N' t (tK1 s' t) (tK2 s' t) (tLn s' t) (tQ s' t) := fun t ht => by
    obtain ⟨b1, b2⟩ := b t ht
    obtain ⟨o1, o2⟩ := oT_ne ht
    obtain ⟨k1, k2, k3, -⟩ := txd_k h ht
    refine ⟨by rw [r2 t (by omega)]; exact b1, ?_⟩
    rw [k1, k2, k3]
    unfold TxC TxL at b2 ⊢
    rw [r1 (oT t) (by omega) (by omega), n1 (oT t + 1) (by omega), n1 (oT t + 3) (by omega), n1 (oT t + 2) (by omega), h.1 (oT t) (by omega) (by omega) (by omega) (by omega) (by omega), h.1 (oT t + 1) (by omega) (by omega) (by omega) (by omega) (by omega)]
    obtain ⟨q1, q2, q3, q4⟩ := b2
    exact ⟨q1, q2, q3, fun j hj => by rw [txd_q hW h ht hj]; exact q4 j hj⟩
  refine ⟨?_, fun t ht => ?_, fun t h1 h2 => ?_, fun r hr => ⟨?_, ?_⟩, fun r h1 h2 => ?_, ?_, ?_⟩
  · rw [r1 1 (by omega) (by omega)]; exact a
  · by_cases e : t < cTx s
    · exact old t e
    · rcases hc with ⟨rfl, -⟩ | ⟨rfl, -, z1, z2⟩
      · exact absurd ht e
      · obtain rfl : t = cTx s := by omega
        exact ⟨z1, z2⟩
  · rcases hc with ⟨rfl, z⟩ | ⟨rfl, -, z1, z2⟩
    · by_cases e : t = cTx s
      · subst e; exact z h2
      · rw [r2 t e]; exact c' t h1 h2
    · rw [r2 t (by omega)]; exact c' t (by omega) h2
  · rw [r1 13 (by omega) (by omega)]; exact (f r hr).1
  · rw [r1 _ (by omega) (by omega)]; exact (f r hr).2
  · rw [r1 13 (by omega) (by omega)]; exact g r h1 h2
  · rw [h.1 14 (by omega) (by omega) (by omega) (by omega) (by omega)]; exact i
  · rw [h.1 1 (by omega) (by omega) (by omega) (by omega) (by omega), h.2.1 3 (by omega) (by omega)]; exact j
end
