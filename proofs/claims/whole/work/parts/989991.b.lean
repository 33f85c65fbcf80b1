/-! setters: text -/
/-- a setter at one memory of the class -/
abbrev SetX (b y z : Nat) (as : List Value) (s : Nat → Nat → Int32) (X : hX) (d : Nat) (I : Nat → Nat → Int32) (J : Nat → Nat → Int64) (R : Nat → Nat → Option Nat) (N : Nat → Nat) (G : hG) : Prop := ∃ w s', Wf s' ∧ UpG b s s' ∧ TP X (d + 100) y (.ref 0 :: as) (I, J, Rx R, N, G) (QG s' I (.int w)) ∧
  ∀ (I : Nat → Nat → Int32) (J : Nat → Nat → Int64) (R : Nat → Nat → Option Nat) (N : Nat → Nat) (G : hG), StM s I → WD J → TP X (d + 100) z (.ref 99 :: as) (I, J, Rx R, N, G) (QS s' R N G J I (.int w))
theorem SetG.x {b y z : Nat} {as : List Value} {s I : Nat → Nat → Int32} {X : hX} {d : Nat} {J : Nat → Nat → Int64} {R : Nat → Nat → Option Nat} {N : Nat → Nat} {G : hG} (h : SetG b y z as s) (hI : Inv s R N I J) (hG : GI s G) : SetX b y z as s X d I J R N G := by
  obtain ⟨w, s', h1, h2, h3, h4⟩ := h
  exact ⟨w, s', h1, h2, h3 X d I J R N G hI hG, fun I J R N G a c => h4 X d I J R N G a c⟩
section
variable {X : hX} {d : Nat} {s I : Nat → Nat → Int32} {J : Nat → Nat → Int64} {R : Nat → Nat → Option Nat} {N : Nat → Nat} {G : hG}
/-- what the class's text leaves -/
def QTx (s : Nat → Nat → Int32) (n4 sl : Nat) (I : Nat → Nat → Int32) (J : Nat → Nat → Int64) (R : Nat → Nat → Option Nat) (N : Nat → Nat) (G : hG) : Option Value → hM → Prop := fun v M' =>
  (∃ q, TxFail (rTp s) (cTa s) q ∧ v = some (.int (cI (-100) - nI (pl (rTp s) (cTa s) q))) ∧ ∃ I', M' = (I', J, Rx R, N, G) ∧ (∀ k, k ≠ 9 → k ≠ 11 → I' k = I k) ∧ I' 9 1 = nI 0) ∨
  (∃ u1 u2 u3 P3, TxOk (rTp s) (cTa s) u1 u2 u3 P3 ∧ tk (rTp s) (cTa s) P3 = 2001 ∧ P3 ≤ cTa s ∧ v = some (.int (nI (cTx s))) ∧ ∃ I' J', M' = (I', J', Rx (rw2 (R2 R n4) 12 (cTx s) (some (3000 + 4 * n4))), N2 N n4 u3.length, (2, 133, 2 * cR s, 4 * n4 + 4, sl + 5 + u3.length + 6 + u3.length)) ∧ (∀ k, k < 3000 → J' k = J k) ∧ (∀ k, k ≠ 0 → k ≠ 9 → k ≠ 11 → (k < 3000 + 4 * n4 ∨ 3004 + 4 * n4 ≤ k) → I' k = I k) ∧ (∀ j, I' 0 j = if j = 3 then nI (cTx s + 1) else I 0 j) ∧ I' 9 1 = nI 0 ∧ I' (3000 + 4 * n4) 1 = nI u1.length ∧ I' (3000 + 4 * n4) 2 = nI u2.length ∧ ∀ j, j < u3.length → I' (3001 + 4 * n4) j = nI (trS (u3.getD j 0)))
theorem c_clear : TP X d n_Reader_clear [.ref 9] (I, J, Rx R, N, G) (fun v M' => v = none ∧ M' = (rw2 I 9 1 (nI 0), J, Rx R, N, G)) := by
  unfold TP
  show XP X _ k_Reader_clear 0 [.ref (9)] [] _ _
  refine XP_n 3 (pc' := 3) (ls' := [.ref (9)]) (st' := []) (M' := ((rw2 I 9 1 (nI (0))), J, Rx R, N, G)) rfl ?_
  exact XP_ret rfl ⟨rfl, rfl⟩
theorem rS_12 : ∀ j, j < 5 → rS 12 (j + 1) = none := by decide +kernel
theorem c_text (hI : Inv s R N I J) {n4 sl z : Nat} (hn : cTx s = n4 + 1) (h6 : n4 < 5) : TP X (d + 100) n_H_text [.ref 0] (I, J, Rx R, N, (z, 133, 2 * cR s, 4 * n4, sl)) (QTx s n4 sl I J R N (z, 133, 2 * cR s, 4 * n4, sl)) := by
  have hW := hI.2.1
  have htx := hW.tx
  have hta := hW.ta
  have hb : ∀ i, i < cTa s → rTp s i ≤ 255 := fun i hi => (hW.tp hi).2
  have k3 : I 0 3 = nI (n4 + 1) := (hI.1 0 3 99 30 rfl).trans (htx.1.trans (by rw [hn]))
  have hT : Tp I (rTp s) (cTa s) := ⟨(hI.1 9 1 99 27 rfl).trans hta.1, fun i hi => (hI.1 10 i 10 i rfl).trans (hW.t10 hi)⟩
  unfold TP
  show XP X _ k_H_text 0 [.ref (0), xj] [] _ _
  refine XP_n 2 (pc' := 2) (ls' := [.ref (0), xj]) (st' := [.int (I 0 3)]) (M' := (I, J, Rx R, N, (z, 133, 2 * cR s, 4 * n4, sl))) rfl ?_
  rw [k3]
  refine XP_ifN (x := n4 + 1)  rfl (by omega) (fun (b2 : n4 + 1 < 0) => absurd b2 (by omega)) (fun (b2 : 0 ≤ n4 + 1) => ?_)
  refine XP_n 2 (pc' := 5) (ls' := [.ref (0), xj]) (st' := [.int (I 0 3)]) (M' := (I, J, Rx R, N, (z, 133, 2 * cR s, 4 * n4, sl))) rfl ?_
  rw [k3]
  refine XP_n 3 (pc' := 8) (ls' := [.ref (0), xj]) (st' := [.int (nI (6)), .int (nI (n4 + 1))]) (M' := (I, J, Rx R, N, (z, 133, 2 * cR s, 4 * n4, sl))) rfl ?_
  refine XP_icN (x := n4 + 1) (y := 6) rfl (by omega) (by omega) (fun (b8 : n4 + 1 < 6) => ?_) (fun (b8 : 6 ≤ n4 + 1) => absurd b8 (by omega))
  refine XP_n 2 (pc' := 13) (ls' := [.ref (0), xj]) (st' := [.ref (9)]) (M' := (I, J, Rx R, N, (z, 133, 2 * cR s, 4 * n4, sl))) rfl ?_
  refine XP_call rfl rfl (c_read (d := d + 19) hta.2 hb hT h6) ?_
  rintro v1 M1 hq
  rcases hq with ⟨rfl, I1, q, rfl, hf, hC, hq⟩ | ⟨u1, u2, u3, P3, hq, g, hP, rfl, I1, J1, rfl, hJ, hf, w1, w2, w3⟩
  · refine XP_n 3 (pc' := 17) (ls' := [.ref (0), .null]) (st' := [.ref (9)]) (M' := (I1, J, Rx R, N, (z, 133, 2 * cR s, 4 * n4, sl))) rfl ?_
    refine XP_call rfl rfl c_clear ?_
    rintro v2 M2 ⟨rfl, rfl⟩
    refine XP_n 6 (pc' := 24) (ls' := [.ref (0), .null]) (st' := [.int (I1 9 2), .int (cI (-100))]) (M' := ((rw2 I1 9 1 (nI (0))), J, Rx R, N, (z, 133, 2 * cR s, 4 * n4, sl))) rfl ?_
    rw [hC.2.1]
    refine XP_n 1 (pc' := 25) (ls' := [.ref (0), .null]) (st' := [.int ((cI (-100)) - (nI (pl (rTp s) (cTa s) q)))]) (M' := ((rw2 I1 9 1 (nI (0))), J, Rx R, N, (z, 133, 2 * cR s, 4 * n4, sl))) rfl ?_
    exact XP_ret rfl (Or.inl ⟨q, hq, rfl, _, rfl, fun k h1 h2 => (rw2_ro h1).trans (hf k h1 h2), rw2_on⟩)
  · have k31 : I1 0 3 = nI (n4 + 1) := by rw [hf 0 (by omega) (by omega) (by omega)]; exact k3
    refine XP_n 3 (pc' := 17) (ls' := [.ref (0), .ref (3000 + 4 * n4)]) (st' := [.ref (9)]) (M' := (I1, J1, Rx (R2 R n4), (N2 N n4 u3.length), (2, 133, 2 * cR s, 4 * n4 + 4, sl + 5 + u3.length + 6 + u3.length))) rfl ?_
    refine XP_call rfl rfl c_clear ?_
    rintro v2 M2 ⟨rfl, rfl⟩
    refine XP_n 6 (pc' := 30) (ls' := [.ref (0), .ref (3000 + 4 * n4)]) (st' := [.int (I1 0 3), .ref (12)]) (M' := ((rw2 I1 9 1 (nI (0))), J1, Rx (R2 R n4), (N2 N n4 u3.length), (2, 133, 2 * cR s, 4 * n4 + 4, sl + 5 + u3.length + 6 + u3.length))) rfl ?_
    rw [k31]
    refine XP_n 1 (pc' := 31) (ls' := [.ref (0), .ref (3000 + 4 * n4)]) (st' := [.ref (3000 + 4 * n4), .int (nI (n4 + 1)), .ref (12)]) (M' := ((rw2 I1 9 1 (nI (0))), J1, Rx (R2 R n4), (N2 N n4 u3.length), (2, 133, 2 * cR s, 4 * n4 + 4, sl + 5 + u3.length + 6 + u3.length))) rfl ?_
    refine XP_aast (j := n4 + 1) rfl (t := 3) (c := 9) rfl (tx_k n4 h6) rfl (show n4 + 1 < 6 by omega) rfl (by omega) (by omega) (rS_12 _ h6) ?_
    show XP X _ k_H_text 32 [.ref (0), .ref (3000 + 4 * n4)] [] ((rw2 I1 9 1 (nI (0))), J1, Rx (rw2 ((R2 R n4)) 12 (n4 + 1) (some (3000 + 4 * n4))), (N2 N n4 u3.length), (2, 133, 2 * cR s, 4 * n4 + 4, sl + 5 + u3.length + 6 + u3.length)) _
    refine XP_n 3 (pc' := 35) (ls' := [.ref (0), .ref (3000 + 4 * n4)]) (st' := [.int (I1 0 3), .ref (0)]) (M' := ((rw2 I1 9 1 (nI (0))), J1, Rx (rw2 ((R2 R n4)) 12 (n4 + 1) (some (3000 + 4 * n4))), (N2 N n4 u3.length), (2, 133, 2 * cR s, 4 * n4 + 4, sl + 5 + u3.length + 6 + u3.length))) rfl ?_
    rw [k31]
    refine XP_n 3 (pc' := 38) (ls' := [.ref (0), .ref (3000 + 4 * n4)]) (st' := [.int ((nI (n4 + 1)) + (nI (1))), .ref (0), .int (nI (n4 + 1))]) (M' := ((rw2 I1 9 1 (nI (0))), J1, Rx (rw2 ((R2 R n4)) 12 (n4 + 1) (some (3000 + 4 * n4))), (N2 N n4 u3.length), (2, 133, 2 * cR s, 4 * n4 + 4, sl + 5 + u3.length + 6 + u3.length))) rfl ?_
    rw [show (nI (n4 + 1)) + (nI (1)) = nI (n4 + 1 + 1) from nI_addE (rfl) (rfl)]
    refine XP_n 1 (pc' := 39) (ls' := [.ref (0), .ref (3000 + 4 * n4)]) (st' := [.int (nI (n4 + 1))]) (M' := ((rw2 (rw2 I1 9 1 (nI (0))) 0 3 (nI (n4 + 1 + 1))), J1, Rx (rw2 ((R2 R n4)) 12 (n4 + 1) (some (3000 + 4 * n4))), (N2 N n4 u3.length), (2, 133, 2 * cR s, 4 * n4 + 4, sl + 5 + u3.length + 6 + u3.length))) rfl ?_
    refine XP_ret rfl (Or.inr ⟨u1, u2, u3, P3, hq, g, hP, by rw [hn], _, J1, by rw [hn], hJ, fun k h1 h2 h3 h4 => ?_, fun j => ?_, ?_, ?_, ?_, fun j hj => ?_⟩)
    · rw [rw2_ro h1, rw2_ro h2]
      exact hf k h2 h3 h4
    · rw [rw2_c]
      by_cases e : j = 3
      · rw [if_pos e, if_pos e, hn]
      · rw [if_neg e, if_neg e, rw2_ro (by omega), hf 0 (by omega) (by omega) (by omega)]
    · rw [rw2_ro (by omega)]
      exact rw2_on
    · rw [rw2_ro (by omega), rw2_ro (by omega)]
      exact w1
    · rw [rw2_ro (by omega), rw2_ro (by omega)]
      exact w2
    · rw [rw2_ro (by omega), rw2_ro (by omega)]
      exact w3 j hj
theorem c_tfull (hI : Inv s R N I J) (h6 : ¬ cTx s < 6) : TP X (d + 100) n_H_text [.ref 0] (I, J, Rx R, N, G) (Ret (.int (cI (-4))) (I, J, Rx R, N, G)) := by
  have hW := hI.2.1
  have htx := hW.tx
  have e6 : cTx s = 6 := by omega
  have k3 : I 0 3 = nI 6 := (hI.1 0 3 99 30 rfl).trans (htx.1.trans (by rw [e6]))
  unfold TP
  show XP X _ k_H_text 0 [.ref (0), xj] [] _ _
  refine XP_n 2 (pc' := 2) (ls' := [.ref (0), xj]) (st' := [.int (I 0 3)]) (M' := (I, J, Rx R, N, G)) rfl ?_
  rw [k3]
  refine XP_ifN (x := 6)  rfl (by omega) (fun (b2 : 6 < 0) => absurd b2 (by omega)) (fun (b2 : 0 ≤ 6) => ?_)
  refine XP_n 2 (pc' := 5) (ls' := [.ref (0), xj]) (st' := [.int (I 0 3)]) (M' := (I, J, Rx R, N, G)) rfl ?_
  rw [k3]
  refine XP_n 3 (pc' := 8) (ls' := [.ref (0), xj]) (st' := [.int (nI (6)), .int (nI (6))]) (M' := (I, J, Rx R, N, G)) rfl ?_
  refine XP_icN (x := 6) (y := 6) rfl (by omega) (by omega) (fun (b8 : 6 < 6) => absurd b8 (by omega)) (fun (b8 : 6 ≤ 6) => ?_)
  refine XP_n 1 (pc' := 10) (ls' := [.ref (0), xj]) (st' := [.int (cI (-4))]) (M' := (I, J, Rx R, N, G)) rfl ?_
  exact XP_ret rfl ⟨rfl, rfl⟩
end
section
variable {s s1 : Nat → Nat → Int32}
/-- the new text's rows of the class laid into the state -/
def sN (s1 I1 : Nat → Nat → Int32) (o c : Nat) : Nat → Nat → Int32 := fun k => if k = o ∨ k = o + 1 then I1 k else rw2 s1 99 30 (nI c) k
theorem sN_o {I1 : Nat → Nat → Int32} {o c k : Nat} (h : k = o ∨ k = o + 1) : sN s1 I1 o c k = I1 k := by
  unfold sN
  rw [if_pos h]
theorem sN_k {I1 : Nat → Nat → Int32} {o c k : Nat} (h : ¬ (k = o ∨ k = o + 1)) : sN s1 I1 o c k = rw2 s1 99 30 (nI c) k := by
  unfold sN
  rw [if_neg h]
theorem sN_D {I1 : Nat → Nat → Int32} {c : Nat} (hW : Wf s) (h : TxD s s1) : TxD s (sN s1 I1 (oT (cTx s)) c) := by
  have ho := txd_o hW
  refine ⟨fun k a1 a2 a3 a4 a5 => ?_, fun j a1 a2 => ?_, ?_, fun j hj => ?_, fun j hj => ?_⟩
  · rw [sN_k (by omega), rw2_ro a1]; exact h.1 k a1 a2 a3 a4 a5
  · rw [sN_k (by omega), rw2_off (by omega)]; exact h.2.1 j a1 a2
  · rw [sN_k (by omega), rw2_off (by omega)]; exact h.2.2.1
  · rw [sN_k (by omega), rw2_ro (by omega)]; exact h.2.2.2.1 j hj
  · rw [sN_k (by omega), rw2_ro (by omega)]; exact h.2.2.2.2 j hj
theorem getD_ap1 {l m : List Nat} {j : Nat} (h : j < l.length) : (l ++ m).getD j 0 = l.getD j 0 := by
  rw [List.getD_eq_getElem?_getD, List.getD_eq_getElem?_getD, List.getElem?_append_left h]
theorem getD_ap2 {l m : List Nat} {j : Nat} : (l ++ m).getD (l.length + j) 0 = m.getD j 0 := by
  rw [List.getD_eq_getElem?_getD, List.getD_eq_getElem?_getD, List.getElem?_append_right (by omega), show l.length + j - l.length = j by omega]
/-- the three parts of a good text -/
theorem TxOk.wf {b : Nat → Nat} {L : Nat} {u1 u2 u3 : List Nat} {P3 : Nat} (h : TxOk b L u1 u2 u3 P3) : u1.length ≤ u2.length ∧ u2.length ≤ u3.length ∧ u3.length + 6 ≤ P3 ∧ P3 ≤ L ∧ WFp (fun j => u3.getD j 0) 0 u1.length ∧ WFp (fun j => u3.getD j 0) u1.length (u2.length - u1.length) ∧ WFp (fun j => u3.getD j 0) u2.length (u3.length - u2.length) := by
  obtain ⟨P1, P2, k1, k2, k3⟩ := h
  obtain ⟨c1, b1, em1, e1, w1⟩ := k1.bnd (Nat.zero_le _) (by omega)
  obtain ⟨c2, b2, em2, e2, w2⟩ := k2.bnd c1 (by omega)
  obtain ⟨c3, b3, em3, e3, w3⟩ := k3.bnd c2 (by omega)
  have b1l : u1.length + 0 + 2 ≤ 0 + P1 := b1
  have l2 : u2.length = u1.length + em2.length := by rw [e2, List.length_append]
  have l3 : u3.length = u2.length + em3.length := by rw [e3, List.length_append]
  have l1 : u1.length = em1.length := by rw [e1]; rfl
  refine ⟨by omega, by omega, by omega, c3, ?_, ?_, ?_⟩
  · rw [l1]
    refine wfe_WFp w1 (fun j hj => ?_)
    rw [Nat.zero_add]
    show u3.getD j 0 = _
    rw [e3, getD_ap1 (by omega), e2, getD_ap1 (by omega), e1]
    rfl
  · rw [show u2.length - u1.length = em2.length by omega]
    refine wfe_WFp w2 (fun j hj => ?_)
    show u3.getD (u1.length + j) 0 = _
    rw [e3, getD_ap1 (by omega), e2, getD_ap2]
  · rw [show u3.length - u2.length = em3.length by omega]
    refine wfe_WFp w3 (fun j hj => ?_)
    show u3.getD (u2.length + j) 0 = _
    rw [e3, getD_ap2]
end
