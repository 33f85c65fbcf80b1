/-! setters: text, whole -/
theorem mp_tx {k : Nat} (h1 : 3000 ≤ k) (h2 : k < 8000) (h3 : k % 4 < 2) (j : Nat) : mp k j = some (k, j) := by
  unfold mp
  rw [blt_f (by omega), blt_f (by omega), blt_t h2, cond_false, cond_false, cond_true]
  have h4 : k % 4 = 0 ∨ k % 4 = 1 := by omega
  rcases h4 with h4 | h4
  · rw [h4]; rfl
  · rw [h4]; rfl
theorem R2_k {R : Nat → Nat → Option Nat} {n4 k : Nat} (h : k < 3000 + 4 * n4 ∨ 3004 + 4 * n4 ≤ k) : Rx (R2 R n4) k = Rx R k := by
  funext j
  have : R2 R n4 k j = R k j := by
    unfold R2
    rw [rw2_ro (by omega), rwR_n2 (by omega), rw2_ro (by omega), rw2_ro (by omega), rwR_n2 (by omega), rwR_n2 (by omega), rwR_n2 (by omega)]
  unfold Rx
  rw [this]
theorem Rx_w' {R : Nat → Nat → Option Nat} {k j a : Nat} {v : Option Nat} (h : rS k j = none) (ha : a ≠ k) : Rx (rw2 R k j v) a = Rx R a := by
  rw [← Rx_w h]
  exact rw2_ro ha
theorem isA_tx (n4 : Nat) (h : n4 < 5) : isA (3001 + 4 * n4) 0 = true ∧ isA (3002 + 4 * n4) 0 = true ∧ isA (3003 + 4 * n4) 0 = true := ⟨tx_a1 n4 h, tx_a2 n4 h, tx_a3 n4 h⟩
theorem R2_o {R : Nat → Nat → Option Nat} {n4 : Nat} : Rx (R2 R n4) (3000 + 4 * n4) 0 = some (3001 + 4 * n4) ∧ Rx (R2 R n4) (3000 + 4 * n4) 3 = some (3003 + 4 * n4) ∧ Rx (R2 R n4) (3000 + 4 * n4) 4 = some (3002 + 4 * n4) := by
  have e : ∀ j, Rx (R2 R n4) (3000 + 4 * n4) j = R2 R n4 (3000 + 4 * n4) j := fun j => by
    unfold Rx
    rw [rS_big (by omega) j]
  rw [e, e, e]
  unfold R2
  refine ⟨?_, ?_, ?_⟩
  · rw [rw2_c, if_neg (by omega), rwR_n2 (by omega), rw2_c, if_pos rfl]
  · rw [rw2_c, if_pos rfl]
  · rw [rw2_c, if_neg (by omega), rwR_n2 (by omega), rw2_c, if_neg (by omega), rw2_c, if_pos rfl]
theorem N2_o {N : Nat → Nat} {n4 n : Nat} : alen (N2 N n4 n) (3001 + 4 * n4) = n ∧ alen (N2 N n4 n) (3003 + 4 * n4) = n ∧ alen (N2 N n4 n) (3002 + 4 * n4) = 6 := by
  have e : ∀ k, 3000 ≤ k → alen (N2 N n4 n) k = N2 N n4 n k := fun k hk => by
    unfold alen
    rw [blt_f (by omega), cond_false]
  rw [e _ (by omega), e _ (by omega), e _ (by omega)]
  unfold N2
  refine ⟨?_, ?_, ?_⟩
  · show (if 3001 + 4 * n4 = 3003 + 4 * n4 then n else if 3001 + 4 * n4 = 3002 + 4 * n4 then 6 else if 3001 + 4 * n4 = 3001 + 4 * n4 then n else N _) = n
    rw [if_neg (by omega), if_neg (by omega), if_pos rfl]
  · show (if 3003 + 4 * n4 = 3003 + 4 * n4 then n else _) = n
    rw [if_pos rfl]
  · show (if 3002 + 4 * n4 = 3003 + 4 * n4 then n else if 3002 + 4 * n4 = 3002 + 4 * n4 then 6 else _) = 6
    rw [if_neg (by omega), if_pos rfl]
theorem N2_k {N : Nat → Nat} {n4 n k : Nat} (h : k < 3000 + 4 * n4 ∨ 3000 + 4 * n4 + 4 ≤ k) : alen (N2 N n4 n) k = alen N k := by
  unfold alen N2
  show (bif Nat.blt k 3000 then slen k else if k = 3003 + 4 * n4 then n else if k = 3002 + 4 * n4 then 6 else if k = 3001 + 4 * n4 then n else N k) = _
  rw [if_neg (by omega), if_neg (by omega), if_neg (by omega)]
section
variable {X : hX} {d : Nat} {s I : Nat → Nat → Int32} {J : Nat → Nat → Int64} {R : Nat → Nat → Option Nat} {N : Nat → Nat} {G : hG}
/-- the new text of the model -/
theorem sN_tx {s' : Nat → Nat → Int32} {u1 u2 u3 : List Nat} {P3 : Nat} (hW : Wf s) (h6 : cTx s < 6) (hq : TxOk (rTp s) (cTa s) u1 u2 u3 P3) (e : ∀ k, k = 117 ∨ k = 118 → s' k = sG s u1 u2 u3 k) : (tK1 s' (cTx s) = u1.length ∧ tK2 s' (cTx s) = u2.length ∧ tLn s' (cTx s) = u3.length) ∧ (∀ j, j < u3.length → tQ s' (cTx s) j = u3.getD j 0) ∧ TxM s' (cTx s) (tK1 s' (cTx s)) (tK2 s' (cTx s)) (tLn s' (cTx s)) (tQ s' (cTx s)) := by
  obtain ⟨l1, l2, l3, l4, p1, p2, p3⟩ := hq.wf
  have hta := hW.ta.2
  have htx := hW.tx.2
  have v0 : s' 118 (4 * cTx s) = nI 0 := by
    rw [e 118 (Or.inr rfl)]
    unfold sG
    rw [sT_118 (by omega), rw2_off (by omega), rw2_off (by omega)]
    exact rw2_on
  have v1 : s' 118 (4 * cTx s + 1) = nI u1.length := by
    rw [e 118 (Or.inr rfl)]
    unfold sG
    rw [sT_118 (by omega), rw2_off (by omega)]
    exact rw2_on
  have v2 : s' 118 (4 * cTx s + 2) = nI u2.length := by
    rw [e 118 (Or.inr rfl)]
    unfold sG
    rw [sT_118 (by omega)]
    exact rw2_on
  have v3 : s' 118 (4 * cTx s + 3) = nI u3.length := by
    rw [e 118 (Or.inr rfl)]
    exact sT_n
  have v4 : ∀ j, j < u3.length → s' 117 (200 * cTx s + j) = nI (u3.getD j 0) := fun j hj => by
    rw [e 117 (Or.inl rfl)]
    exact sT_in hj
  have t1 : tK1 s' (cTx s) = u1.length := by unfold tK1; rw [v1, wN_nI (by omega)]
  have t2 : tK2 s' (cTx s) = u2.length := by unfold tK2; rw [v2, wN_nI (by omega)]
  have t3 : tLn s' (cTx s) = u3.length := by unfold tLn; rw [v3, wN_nI (by omega)]
  have hok : ∀ j, j < u3.length → okc (u3.getD j 0) := fun j hj => by
    by_cases a : j < u1.length
    · have := (p1.1 j a).1
      rw [Nat.zero_add] at this
      exact this
    · by_cases b : j < u2.length
      · have := (p2.1 (j - u1.length) (by omega)).1
        rw [show u1.length + (j - u1.length) = j by omega] at this
        exact this
      · have := (p3.1 (j - u2.length) (by omega)).1
        rw [show u2.length + (j - u2.length) = j by omega] at this
        exact this
  have t4 : ∀ j, j < u3.length → tQ s' (cTx s) j = u3.getD j 0 := fun j hj => by
    have h := hok j hj
    unfold okc at h
    unfold tQ
    rw [v4 j hj, wN_nI (by omega)]
  refine ⟨⟨t1, t2, t3⟩, t4, ?_⟩
  rw [t1, t2, t3]
  exact ⟨h6, v0, v1, v2, v3, l1, l2, by omega, fun j hj => by rw [t4 j hj]; exact v4 j hj, WFp_q (fun i hi => t4 _ (by omega)) p1, WFp_q (fun i hi => t4 _ (by omega)) p2, WFp_q (fun i hi => t4 _ (by omega)) p3⟩
theorem s_text (hI : Inv s R N I J) (hG : GI s G) : SetX 20 n_H_text n_M_text [] s X d I J R N G := by
  have hW := hI.2.1
  obtain ⟨hc1, hc2⟩ := ch_n hI.2.2.2.2
  have htx := hW.tx
  by_cases h6 : cTx s < 6
  rotate_left
  · exact ⟨cI (-4), s, hW, ⟨_, hc1, Nat.le_refl _, by omega⟩, TP_mono (c_tfull hI h6) (fun v M' ⟨q1, q2⟩ => ⟨q1, I, J, R, N, G, q2, hI.1.C, hI.2.2.1, hI.2.2.2.1, FrM.rf, hG⟩), fun I2 J2 R2 N2 G2 hS hD => TP_mono (m_full (d := d + 89) hW h6 hS) (fun v M' ⟨q1, q2⟩ => ⟨q1, _, q2, hS, FrC.rf⟩)⟩
  obtain ⟨n4, hn⟩ : ∃ n4, cTx s = n4 + 1 := ⟨cTx s - 1, by omega⟩
  have hot : oT (cTx s) = 3000 + 4 * n4 := by rw [oT_4 (by omega), hn]; omega
  obtain ⟨z, c1, c2, nt, sl⟩ := G
  obtain ⟨q1, q2, q3, hG4⟩ := hG
  have e1 : c1 = 133 := q1
  have e2 : c2 = 2 * cR s := q2
  have e3 : nt = 4 * n4 := by
    have e3 : nt = 4 * (cTx s - 1) := q3
    omega
  have hG4 : sl ≤ 20000 + 21 * cR s + 400 * cTx s := hG4
  clear q1 q2 q3
  subst e1
  subst e2
  subst e3
  have i03 : I 0 3 = nI (cTx s) := (hI.1 0 3 99 30 rfl).trans htx.1
  obtain ⟨nn, v, M1, hrun, hq⟩ := c_text (X := X) (d := d) hI (sl := sl) (z := z) hn (by omega)
  rcases hq with ⟨q, hq, rfl, I', rfl, hf, h91⟩ | ⟨u1, u2, u3, P3, hq, g, hP, rfl, I', J', rfl, hJ, hf, h0, h91, w1, w2, w3⟩
  · obtain ⟨s', hD, h30, hbig, hres⟩ := m_textF hW h6 hq
    have h30' : s' 99 30 = nI (cTx s) := h30.trans htx.1
    have h1 : s' 1 = s 1 := hD.1 1 (by omega) (by omega) (by omega) (by omega) (by omega)
    refine ⟨_, s', txd_Wf hW hD h30' (Or.inl rfl), ⟨_, by rw [h1]; exact hc1, Nat.le_refl _, by omega⟩, ⟨nn, _, _, hrun, rfl, I', J, R, N, _, rfl, ?_, ?_, ?_, ?_, ?_⟩, fun I2 J2 R2 N2 G2 hS hD2 => hres X (d + 89) I2 J2 R2 N2 G2 hS hD2⟩
    · refine StC_tx hW hI.1.C hD (fun j => ?_) h91 (fun k j hk => ?_) (fun k h1 h2 h3 h4 => hf k h2 h3)
      · rw [hf 0 (by omega) (by omega)]
        by_cases e : j = 3
        · rw [if_pos e, e, i03, h30']
        · rw [if_neg e]
      · rw [hbig k (by omega), hf k (by omega) (by omega)]
        exact hI.1 k j k j (mp_tx (by omega) (by omega) (by omega) j)
    · exact txd_Lk hW hI.2.2.1 hD (fun _ _ _ => rfl) (fun _ _ => rfl) (fun _ _ => rfl) h30' (Or.inl ⟨rfl, fun z => hI.2.2.1.2.2.1 _ (Nat.le_refl _) z⟩)
    · exact agn_Cch (txd_agn hW hD) (hI.2.2.2.1.of (fun k h1 h2 => hf k (by omega) (by omega)) (fun _ _ _ => rfl) hW.p.2)
    · exact fun k hk => by
        have := isC_f hk
        exact hf k (by omega) (by omega)
    · exact GI.of (s := s) ⟨rfl, rfl, by show 4 * n4 = 4 * (cTx s - 1); omega, hG4⟩ (hD.2.1 13 (by omega) (by omega)) h30
  · have hD : TxD s (sN (sG s u1 u2 u3) I' (oT (cTx s)) (cTx s + 1)) := sN_D hW sG_D
    have h30 : sN (sG s u1 u2 u3) I' (oT (cTx s)) (cTx s + 1) 99 30 = nI (cTx s + 1) := by
      rw [sN_k (by omega)]
      exact rw2_on
    have ho : ∀ k, k = oT (cTx s) ∨ k = oT (cTx s) + 1 → sN (sG s u1 u2 u3) I' (oT (cTx s)) (cTx s + 1) k = I' k := fun k hk => sN_o hk
    have hm : ∀ k, isC k = false → sN (sG s u1 u2 u3) I' (oT (cTx s)) (cTx s + 1) k = rw2 (sG s u1 u2 u3) 99 30 (nI (cTx s + 1)) k := fun k hk => by
      have := isC_f hk
      exact sN_k (by omega)
    obtain ⟨⟨t1, t2, t3⟩, t4, tM⟩ := sN_tx (s' := sN (sG s u1 u2 u3) I' (oT (cTx s)) (cTx s + 1)) hW h6 hq (fun k hk => by rw [sN_k (by omega), rw2_ro (by omega)])
    generalize hs : sN (sG s u1 u2 u3) I' (oT (cTx s)) (cTx s + 1) = s' at hD h30 ho hm t1 t2 t3 t4 tM
    have h1 : s' 1 = s 1 := hD.1 1 (by omega) (by omega) (by omega) (by omega) (by omega)
    have l3 := hq.wf.2.2.1
    have hta := hW.ta.2
    refine ⟨_, s', txd_Wf hW hD h30 (Or.inr ⟨rfl, h6, tM⟩), ⟨_, by rw [h1]; exact hc1, Nat.le_refl _, by omega⟩, ⟨nn, _, _, hrun, rfl, I', J', _, _, _, rfl, ?_, ?_, ?_, ?_, ?_⟩, fun I2 J2 R2 N2 G2 hS hD2 => TP_mono (m_textO hW h6 hq g X (d + 89) I2 J2 R2 N2 G2 hS hD2) (fun v M' ⟨q1, I3, q2, q3, q4⟩ => ⟨q1, I3, q2, StM_s q3 hm, q4⟩)⟩
    · refine StC_tx hW hI.1.C hD (fun j => ?_) h91 (fun k j hk => by rw [ho k hk]) (fun k h1 h2 h3 h4 => hf k h1 h2 h3 (by omega))
      rw [h0, h30]
    · refine txd_Lk hW hI.2.2.1 hD (fun k a1 a2 => ?_) (fun j hj => ?_) (fun k hk => N2_k (by omega)) h30 (Or.inr ⟨rfl, h6, ?_, ?_⟩)
      · rw [hn, Rx_w' (rS_12 _ (by omega)) a1]
        exact R2_k (by omega)
      · rw [hn, ← Rx_w (rS_12 _ (by omega)), rw2_c, if_neg (by omega), R2_k (by omega)]
      · rw [hot, hn, ← Rx_w (rS_12 _ (by omega))]
        exact rw2_on'
      · rw [t1, t2, t3]
        unfold TxC TxL
        have ia := isA_tx n4 (by omega)
        rw [ho (oT (cTx s)) (Or.inl rfl), ho (oT (cTx s) + 1) (Or.inr rfl), hot, hn, Rx_w' (rS_12 _ (by omega)) (by omega)]
        have r2 := R2_o (R := R) (n4 := n4)
        have n2 := N2_o (N := N) (n4 := n4) (n := u3.length)
        refine ⟨⟨by rw [tx_o n4 (by omega)]; rfl, ?_, ?_, ?_, ?_, ?_, ?_, ?_, ?_, ?_, by omega, by omega, by omega, by omega⟩, w1, w2, fun j hj => ?_⟩
        · rw [r2.1]; congr 1; omega
        · rw [r2.2.1]; congr 1; omega
        · rw [r2.2.2]; congr 1; omega
        · rw [show 3000 + 4 * n4 + 1 = 3001 + 4 * n4 by omega]; exact ia.1
        · rw [show 3000 + 4 * n4 + 3 = 3003 + 4 * n4 by omega]; exact ia.2.2
        · rw [show 3000 + 4 * n4 + 2 = 3002 + 4 * n4 by omega]; exact ia.2.1
        · rw [show 3000 + 4 * n4 + 1 = 3001 + 4 * n4 by omega]; exact n2.1
        · rw [show 3000 + 4 * n4 + 3 = 3003 + 4 * n4 by omega]; exact n2.2.1
        · rw [show 3000 + 4 * n4 + 2 = 3002 + 4 * n4 by omega]; exact n2.2.2
        · rw [show 3000 + 4 * n4 + 1 = 3001 + 4 * n4 by omega, ← hn, t4 j hj]; exact w3 j hj
    · exact agn_Cch (txd_agn hW hD) (hI.2.2.2.1.of (fun k h1 h2 => hf k (by omega) (by omega) (by omega) (by omega)) (fun k hk hk2 => hJ k (by omega)) hW.p.2)
    · exact fun k hk => by
        have := isC_f hk
        exact hf k (by omega) (by omega) (by omega) (by omega)
    · have e1 : cR s' = cR s := by unfold cR; rw [hD.2.1 13 (by omega) (by omega)]
      have e2 : cTx s' = cTx s + 1 := by
        show wN (s' 99 30) = _
        rw [h30, wN_nI (by omega)]
      refine ⟨rfl, ?_, ?_, ?_⟩
      · rw [e1]
      · rw [e2]; show 4 * n4 + 4 = 4 * (cTx s + 1 - 1); omega
      · rw [e1, e2]
        show sl + 5 + u3.length + 6 + u3.length ≤ 20000 + 21 * cR s + 400 * (cTx s + 1)
        omega
end
