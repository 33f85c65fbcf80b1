/-! faces: what rules come to -/
def gMn (s : Nat → Nat → Int32) (r : Nat) : Nat := sumN (fun p => rWt s p * nTot s r p) (cP s)
def gMnA (s : Nat → Nat → Int32) (m : Nat) : Nat := sumN (fun p => rWt s p * nTotA s m p) (cP s)
theorem gM_le {s : Nat → Nat → Int32} (hW : Wf s) {f : Nat → Nat} (hf : ∀ p, f p ≤ 500000000) {n : Nat} (hn : n ≤ cP s) : sumN (fun p => rWt s p * f p) n ≤ 198000000000 := by
  have h4 := hW.p.2
  have h1 := sumN_le (f := fun p => rWt s p * f p) (n := n) (c := 99 * 500000000) (fun i hi => Nat.mul_le_mul (hW.pw (show i < cP s by omega)).2.2 (hf i))
  have h5 : n * (99 * 500000000) ≤ 4 * (99 * 500000000) := Nat.mul_le_mul_right _ (by omega)
  exact Nat.le_trans h1 (Nat.le_trans h5 (by decide))
def gMB (s : Nat → Nat → Int32) (a : Int64) (part : Nat) : Int64 := if cWA s = 0 then lN part else gLow a (1000 * cWA s) part
theorem cWA_0 {s : Nat → Nat → Int32} (hW : Wf s) : cWA s = 0 ↔ cP s = 0 := by
  constructor
  · intro h
    rcases Nat.eq_zero_or_pos (cP s) with h0 | h0
    · exact h0
    · have := (cWA_le hW).2 h0
      omega
  · intro h
    unfold cWA
    rw [h]
    rfl
theorem gMB_eq {s : Nat → Nat → Int32} {a : Int64} {part : Nat} (h : cWA s = 0 → a = lN 0) : gMB s a part = gLow a (1000 * cWA s) part := by
  unfold gMB
  by_cases e : cWA s = 0
  · rw [if_pos e, h e, gLow_0]
  · rw [if_neg e]
section
variable {X : hX} {d : Nat} {s I : Nat → Nat → Int32} {J : Nat → Nat → Int64} {R : Nat → Nat → Option Nat} {N : Nat → Nat} {G : hG}
theorem q_C_follow (hI : Inv s R N I J) {r p : Nat} (hr : r < cR s) (hp : p < cP s) : TP X (d + 5) n_Course_follow [.ref 16, .ref 1, .ref (1000 + 2 * r), .int (nI p)] (I, J, Rx R, N, G) (fun v M' => v = none ∧ ∃ I' J', M' = (I', J', Rx R, N, G) ∧ Inv s R N I' J' ∧ gRows s (k5 s r) (nRr s r) p (cY s) 17 18 19 20 I' ∧ J' 16 4 = (gS s (k5 s r) (nRr s r) p (cY s)).2.2.2.1 ∧ J' 16 5 = (gS s (k5 s r) (nRr s r) p (cY s)).2.2.2.2) :=
  TP_mono (c_follow hI.1 hI.2.1 hI.2.2.1 hr hp) (fun v M' ⟨a, I', J', b, c, e, f⟩ => ⟨a, I', J', b, hI.c c e, f⟩)
theorem q_C_followA (hI : Inv s R N I J) {m p : Nat} (hm : I 14 1 = nI m) (hm2 : m ≤ 1000) (hp : p < cP s) : TP X (d + 5) n_Course_follow [.ref 16, .ref 1, .ref 14, .int (nI p)] (I, J, Rx R, N, G) (fun v M' => v = none ∧ ∃ I' J', M' = (I', J', Rx R, N, G) ∧ Inv s R N I' J' ∧ I' 14 1 = nI m ∧ J' 16 4 = (gS s (decide (1 = 5)) (nRa s m) p (cY s)).2.2.2.1 ∧ J' 16 5 = (gS s (decide (1 = 5)) (nRa s m) p (cY s)).2.2.2.2) :=
  TP_mono (c_followA hI.1 hI.2.1 hI.2.2.1 hm hm2 hp) (fun v M' ⟨a, I', J', b, c, e, f, g⟩ => ⟨a, I', J', b, hI.c c e, (congrFun (c 14 ak_no) 1).trans hm, g⟩)
theorem c_followedT (hI : Inv s R N I J) {r p : Nat} (hr : r < cR s) (hp : p < cP s) : TP X (d + 6) n_H_followed [.ref 0, .int (nI r), .int (nI p)] (I, J, Rx R, N, G) (fun v M' => v = some (.int (nI 1)) ∧ ∃ I' J', M' = (I', J', Rx R, N, G) ∧ Inv s R N I' J' ∧ gRows s (k5 s r) (nRr s r) p (cY s) 17 18 19 20 I' ∧ J' 16 4 = (gS s (k5 s r) (nRr s r) p (cY s)).2.2.2.1 ∧ J' 16 5 = (gS s (k5 s r) (nRr s r) p (cY s)).2.2.2.2) := by
  obtain ⟨hS, hW, hL, hC, hch⟩ := id hI
  have hr8 := hW.r.2
  have hp4 := hW.p.2
  have hin : inN (nI p) (cP s) := nI_inN hp (by omega)
  have hir : inN (nI r) (cR s) := nI_inN hr (by omega)
  unfold TP
  show XP X _ k_H_followed 0 [.ref (0), .int (nI (r)), .int (nI (p)), xj] [] _ _
  refine XP_n 2 (pc' := 2) (ls' := [.ref (0), .int (nI (r)), .int (nI (p)), xj]) (st' := [.int (nI (r)), .ref (0)]) (M' := (I, J, Rx R, N, G)) rfl ?_
  refine XP_pure rfl rfl (c_ruleAtT hI.1 hW hL (show r < cR s by omega)) ?_
  refine XP_n 6 (pc' := 9) (ls' := [.ref (0), .int (nI (r)), .int (nI (p)), .ref (1000 + 2 * r)]) (st' := [.int (nI (p)), .ref (1)]) (M' := (I, J, Rx R, N, G)) rfl ?_
  refine XP_pure rfl rfl (c_hasPath hI.1 hI.2.1 _) ?_
  refine XP_s rfl ?_
  refine XP_bne (fun b10 => ?_) (fun b10 => absurd hin b10)
  refine XP_n 6 (pc' := 19) (ls' := [.ref (0), .int (nI (r)), .int (nI (p)), .ref (1000 + 2 * r)]) (st' := [.int (nI (p)), .ref (1000 + 2 * r), .ref (1), .ref (16)]) (M' := (I, J, Rx R, N, G)) rfl ?_
  refine XP_call rfl rfl (q_C_follow hI (show r < cR s by omega) (show p < cP s by omega)) ?_
  rintro v21 M21 ⟨rfl, I21, J21, rfl, hI21, hrw21, hja21, hjb21⟩
  refine XP_n 1 (pc' := 21) (ls' := [.ref (0), .int (nI (r)), .int (nI (p)), .ref (1000 + 2 * r)]) (st' := [.int (nI (1))]) (M' := (I21, J21, Rx R, N, G)) rfl ?_
  exact XP_ret rfl ⟨rfl, _, _, rfl, hI21, hrw21, hja21, hjb21⟩
theorem c_followedF (hI : Inv s R N I J) {r p : Int32} (h : ¬ (inN r (cR s) ∧ inN p (cP s))) : TP X (d + 6) n_H_followed [.ref 0, .int r, .int p] (I, J, Rx R, N, G) (Ret (.int (nI 0)) (I, J, Rx R, N, G)) := by
  obtain ⟨hS, hW, hL, hC, hch⟩ := id hI
  have hr8 := hW.r.2
  have hp4 := hW.p.2
  by_cases g0 : inN r (cR s)
  · have g1 : ¬ inN p (cP s) := fun z => h ⟨g0, z⟩
    obtain ⟨rn, hrn, rfl, er⟩ := inN_nat g0 (by omega)
    unfold TP
    show XP X _ k_H_followed 0 [.ref (0), .int (nI (rn)), .int (p), xj] [] _ _
    refine XP_n 2 (pc' := 2) (ls' := [.ref (0), .int (nI (rn)), .int (p), xj]) (st' := [.int (nI (rn)), .ref (0)]) (M' := (I, J, Rx R, N, G)) rfl ?_
    refine XP_pure rfl rfl (c_ruleAtT hI.1 hW hL (show rn < cR s by omega)) ?_
    refine XP_n 6 (pc' := 9) (ls' := [.ref (0), .int (nI (rn)), .int (p), .ref (1000 + 2 * rn)]) (st' := [.int (p), .ref (1)]) (M' := (I, J, Rx R, N, G)) rfl ?_
    refine XP_pure rfl rfl (c_hasPath hI.1 hI.2.1 _) ?_
    refine XP_s rfl ?_
    refine XP_bne (fun b10 => absurd b10 g1) (fun b10 => ?_)
    refine XP_n 1 (pc' := 12) (ls' := [.ref (0), .int (nI (rn)), .int (p), .ref (1000 + 2 * rn)]) (st' := [.int (nI (0))]) (M' := (I, J, Rx R, N, G)) rfl ?_
    exact XP_ret rfl ⟨rfl, rfl⟩
  · skip
    unfold TP
    show XP X _ k_H_followed 0 [.ref (0), .int (r), .int (p), xj] [] _ _
    refine XP_n 2 (pc' := 2) (ls' := [.ref (0), .int (r), .int (p), xj]) (st' := [.int (r), .ref (0)]) (M' := (I, J, Rx R, N, G)) rfl ?_
    refine XP_pure rfl rfl (c_ruleAtF hI.1 hW hL g0) ?_
    refine XP_n 4 (pc' := 12) (ls' := [.ref (0), .int (r), .int (p), .null]) (st' := [.int (nI (0))]) (M' := (I, J, Rx R, N, G)) rfl ?_
    exact XP_ret rfl ⟨rfl, rfl⟩
theorem f_total (hI : Inv s R N I J) (r : Int32) (p : Int32) : ∃ v, TP X (d + 12) n_H_total [.ref 0, .int r, .int p] (I, J, Rx R, N, G) (QP s R N G (.long v)) ∧ ∀ I J, Inv s R N I J → TP X (d + 12) n_M_total [.ref 99, .int r, .int p] (I, J, Rx R, N, G) (QP s R N G (.long v)) := by
  have hI0 := hI
  obtain ⟨hS, hW, hL, hC, hch⟩ := hI0
  have hy16 := hW.y.2
  have hp4 := hW.p.2
  have hs6 := hW.ns.2
  have hr8 := hW.r.2
  have hst8 := hW.st.2
  have ht3 := hW.t.2
  have hw60 := hW.w.2
  have hcwa := cWA_le hW
  by_cases g0 : inN (r) (cR s)
  rotate_left
  · skip
    refine ⟨cL (-4611686018427387904), ?_, fun I J hI => ?_⟩
    · unfold TP
      show XP X _ k_H_total 0 [.ref (0), .int (r), .int (p)] [] _ _
      refine XP_n 3 (pc' := 3) (ls' := [.ref (0), .int (r), .int (p)]) (st' := [.int (p), .int (r), .ref (0)]) (M' := (I, J, Rx R, N, G)) rfl ?_
      refine XP_pure rfl rfl (c_followedF hI (fun z => g0 z.1)) ?_
      refine XP_ifN (x := 0)  rfl (by omega) (fun (b4 : 0 = 0) => ?_) (fun (b4 : ¬ 0 = 0) => absurd b4 (by omega))
      refine XP_n 1 (pc' := 10) (ls' := [.ref (0), .int (r), .int (p)]) (st' := [.long (cL (-4611686018427387904))]) (M' := (I, J, Rx R, N, G)) rfl ?_
      exact XP_ret rfl ⟨rfl, _, _, rfl, hI⟩
    · unfold TP
      show XP X _ k_M_total 0 [.ref (99), .int (r), .int (p)] [] _ _
      refine XP_n 2 (pc' := 2) (ls' := [.ref (99), .int (r), .int (p)]) (st' := [.int (r), .ref (99)]) (M' := (I, J, Rx R, N, G)) rfl ?_
      refine XP_pure rfl rfl (m_isRule hI.1 hI.2.1 _) ?_
      refine XP_s rfl ?_
      refine XP_beq (fun b3 => ?_) (fun b3 => absurd b3 g0)
      refine XP_n 1 (pc' := 14) (ls' := [.ref (99), .int (r), .int (p)]) (st' := [.long (cL (-4611686018427387904))]) (M' := (I, J, Rx R, N, G)) rfl ?_
      exact XP_ret rfl ⟨rfl, _, _, rfl, hI⟩
  obtain ⟨rn, hrn, rfl, er⟩ := inN_nat g0 (by omega)
  by_cases g1 : inN (p) (cP s)
  rotate_left
  · skip
    refine ⟨cL (-4611686018427387904), ?_, fun I J hI => ?_⟩
    · unfold TP
      show XP X _ k_H_total 0 [.ref (0), .int (nI (rn)), .int (p)] [] _ _
      refine XP_n 3 (pc' := 3) (ls' := [.ref (0), .int (nI (rn)), .int (p)]) (st' := [.int (p), .int (nI (rn)), .ref (0)]) (M' := (I, J, Rx R, N, G)) rfl ?_
      refine XP_pure rfl rfl (c_followedF hI (fun z => g1 z.2)) ?_
      refine XP_ifN (x := 0)  rfl (by omega) (fun (b4 : 0 = 0) => ?_) (fun (b4 : ¬ 0 = 0) => absurd b4 (by omega))
      refine XP_n 1 (pc' := 10) (ls' := [.ref (0), .int (nI (rn)), .int (p)]) (st' := [.long (cL (-4611686018427387904))]) (M' := (I, J, Rx R, N, G)) rfl ?_
      exact XP_ret rfl ⟨rfl, _, _, rfl, hI⟩
    · unfold TP
      show XP X _ k_M_total 0 [.ref (99), .int (nI (rn)), .int (p)] [] _ _
      refine XP_n 2 (pc' := 2) (ls' := [.ref (99), .int (nI (rn)), .int (p)]) (st' := [.int (nI (rn)), .ref (99)]) (M' := (I, J, Rx R, N, G)) rfl ?_
      refine XP_pure rfl rfl (m_isRule hI.1 hI.2.1 _) ?_
      refine XP_s rfl ?_
      refine XP_beq (fun b3 => absurd g0 b3) (fun b3 => ?_)
      refine XP_n 2 (pc' := 6) (ls' := [.ref (99), .int (nI (rn)), .int (p)]) (st' := [.int (p), .ref (99)]) (M' := (I, J, Rx R, N, G)) rfl ?_
      refine XP_pure rfl rfl (m_isPath hI.1 hI.2.1 _) ?_
      refine XP_s rfl ?_
      refine XP_beq (fun b7 => ?_) (fun b7 => absurd b7 g1)
      refine XP_n 1 (pc' := 14) (ls' := [.ref (99), .int (nI (rn)), .int (p)]) (st' := [.long (cL (-4611686018427387904))]) (M' := (I, J, Rx R, N, G)) rfl ?_
      exact XP_ret rfl ⟨rfl, _, _, rfl, hI⟩
  obtain ⟨pn, hpn, rfl, ep⟩ := inN_nat g1 (by omega)
  refine ⟨lN (nTot s rn pn), ?_, fun I J hI => ?_⟩
  · unfold TP
    show XP X _ k_H_total 0 [.ref (0), .int (nI (rn)), .int (nI (pn))] [] _ _
    refine XP_n 3 (pc' := 3) (ls' := [.ref (0), .int (nI (rn)), .int (nI (pn))]) (st' := [.int (nI (pn)), .int (nI (rn)), .ref (0)]) (M' := (I, J, Rx R, N, G)) rfl ?_
    refine XP_call rfl rfl (c_followedT hI (show rn < cR s by omega) (show pn < cP s by omega)) ?_
    rintro v22 M22 ⟨rfl, I22, J22, rfl, hI22, hrw22, hja22, hjb22⟩
    refine XP_ifN (x := 1)  rfl (by omega) (fun (b4 : 1 = 0) => absurd b4 (by omega)) (fun (b4 : ¬ 1 = 0) => ?_)
    refine XP_n 2 (pc' := 7) (ls' := [.ref (0), .int (nI (rn)), .int (nI (pn))]) (st' := [.ref (16)]) (M' := (I22, J22, Rx R, N, G)) rfl ?_
    refine XP_pure rfl rfl (c_sum hja22 hjb22) ?_
    rw [show gTo _ = lN (nTot s rn (pn)) from (nTot_ok hW rn (pn)).1]
    have htt22 := (nTot_ok hW rn (pn)).2
    refine XP_n 1 (pc' := 10) (ls' := [.ref (0), .int (nI (rn)), .int (nI (pn))]) (st' := [.long (lN (nTot s rn (pn)))]) (M' := (I22, J22, Rx R, N, G)) rfl ?_
    exact XP_ret rfl ⟨rfl, _, _, rfl, hI22⟩
  · unfold TP
    show XP X _ k_M_total 0 [.ref (99), .int (nI (rn)), .int (nI (pn))] [] _ _
    refine XP_n 2 (pc' := 2) (ls' := [.ref (99), .int (nI (rn)), .int (nI (pn))]) (st' := [.int (nI (rn)), .ref (99)]) (M' := (I, J, Rx R, N, G)) rfl ?_
    refine XP_pure rfl rfl (m_isRule hI.1 hI.2.1 _) ?_
    refine XP_s rfl ?_
    refine XP_beq (fun b3 => absurd g0 b3) (fun b3 => ?_)
    refine XP_n 2 (pc' := 6) (ls' := [.ref (99), .int (nI (rn)), .int (nI (pn))]) (st' := [.int (nI (pn)), .ref (99)]) (M' := (I, J, Rx R, N, G)) rfl ?_
    refine XP_pure rfl rfl (m_isPath hI.1 hI.2.1 _) ?_
    refine XP_s rfl ?_
    refine XP_beq (fun b7 => absurd g1 b7) (fun b7 => ?_)
    refine XP_n 3 (pc' := 11) (ls' := [.ref (99), .int (nI (rn)), .int (nI (pn))]) (st' := [.int (nI (pn)), .int (nI (rn)), .ref (99)]) (M' := (I, J, Rx R, N, G)) rfl ?_
    refine XP_call rfl (rfl) (q_M_tot hI (show rn < cR s by omega) (show pn < cP s by omega)) ?_
    rintro v23 M23 ⟨rfl, I23, J23, rfl, hI23⟩
    rw [(nTot_ok hW rn (pn)).1]
    have htt23 := (nTot_ok hW rn (pn)).2
    refine XP_n 1 (pc' := 14) (ls' := [.ref (99), .int (nI (rn)), .int (nI (pn))]) (st' := [.long (lN (nTot s rn (pn)))]) (M' := (I23, J23, Rx R, N, G)) rfl ?_
    exact XP_ret rfl ⟨rfl, _, _, rfl, hI23⟩
theorem f_spent (hI : Inv s R N I J) (r : Int32) (p : Int32) : ∃ v, TP X (d + 12) n_H_spent [.ref 0, .int r, .int p] (I, J, Rx R, N, G) (QP s R N G (.long v)) ∧ ∀ I J, Inv s R N I J → TP X (d + 12) n_M_spent [.ref 99, .int r, .int p] (I, J, Rx R, N, G) (QP s R N G (.long v)) := by
  have hI0 := hI
  obtain ⟨hS, hW, hL, hC, hch⟩ := hI0
  have hy16 := hW.y.2
  have hp4 := hW.p.2
  have hs6 := hW.ns.2
  have hr8 := hW.r.2
  have hst8 := hW.st.2
  have ht3 := hW.t.2
  have hw60 := hW.w.2
  have hcwa := cWA_le hW
  by_cases g0 : inN (r) (cR s)
  rotate_left
  · skip
    refine ⟨cL (-4611686018427387904), ?_, fun I J hI => ?_⟩
    · unfold TP
      show XP X _ k_H_spent 0 [.ref (0), .int (r), .int (p)] [] _ _
      refine XP_n 3 (pc' := 3) (ls' := [.ref (0), .int (r), .int (p)]) (st' := [.int (p), .int (r), .ref (0)]) (M' := (I, J, Rx R, N, G)) rfl ?_
      refine XP_pure rfl rfl (c_followedF hI (fun z => g0 z.1)) ?_
      refine XP_ifN (x := 0)  rfl (by omega) (fun (b4 : 0 = 0) => ?_) (fun (b4 : ¬ 0 = 0) => absurd b4 (by omega))
      refine XP_n 1 (pc' := 10) (ls' := [.ref (0), .int (r), .int (p)]) (st' := [.long (cL (-4611686018427387904))]) (M' := (I, J, Rx R, N, G)) rfl ?_
      exact XP_ret rfl ⟨rfl, _, _, rfl, hI⟩
    · unfold TP
      show XP X _ k_M_spent 0 [.ref (99), .int (r), .int (p)] [] _ _
      refine XP_n 2 (pc' := 2) (ls' := [.ref (99), .int (r), .int (p)]) (st' := [.int (r), .ref (99)]) (M' := (I, J, Rx R, N, G)) rfl ?_
      refine XP_pure rfl rfl (m_isRule hI.1 hI.2.1 _) ?_
      refine XP_s rfl ?_
      refine XP_beq (fun b3 => ?_) (fun b3 => absurd b3 g0)
      refine XP_n 1 (pc' := 9) (ls' := [.ref (99), .int (r), .int (p)]) (st' := [.long (cL (-4611686018427387904))]) (M' := (I, J, Rx R, N, G)) rfl ?_
      exact XP_ret rfl ⟨rfl, _, _, rfl, hI⟩
  obtain ⟨rn, hrn, rfl, er⟩ := inN_nat g0 (by omega)
  by_cases g1 : inN (p) (cP s)
  rotate_left
  · skip
    refine ⟨cL (-4611686018427387904), ?_, fun I J hI => ?_⟩
    · unfold TP
      show XP X _ k_H_spent 0 [.ref (0), .int (nI (rn)), .int (p)] [] _ _
      refine XP_n 3 (pc' := 3) (ls' := [.ref (0), .int (nI (rn)), .int (p)]) (st' := [.int (p), .int (nI (rn)), .ref (0)]) (M' := (I, J, Rx R, N, G)) rfl ?_
      refine XP_pure rfl rfl (c_followedF hI (fun z => g1 z.2)) ?_
      refine XP_ifN (x := 0)  rfl (by omega) (fun (b4 : 0 = 0) => ?_) (fun (b4 : ¬ 0 = 0) => absurd b4 (by omega))
      refine XP_n 1 (pc' := 10) (ls' := [.ref (0), .int (nI (rn)), .int (p)]) (st' := [.long (cL (-4611686018427387904))]) (M' := (I, J, Rx R, N, G)) rfl ?_
      exact XP_ret rfl ⟨rfl, _, _, rfl, hI⟩
    · unfold TP
      show XP X _ k_M_spent 0 [.ref (99), .int (nI (rn)), .int (p)] [] _ _
      refine XP_n 2 (pc' := 2) (ls' := [.ref (99), .int (nI (rn)), .int (p)]) (st' := [.int (nI (rn)), .ref (99)]) (M' := (I, J, Rx R, N, G)) rfl ?_
      refine XP_pure rfl rfl (m_isRule hI.1 hI.2.1 _) ?_
      refine XP_s rfl ?_
      refine XP_beq (fun b3 => absurd g0 b3) (fun b3 => ?_)
      refine XP_n 2 (pc' := 6) (ls' := [.ref (99), .int (nI (rn)), .int (p)]) (st' := [.int (p), .ref (99)]) (M' := (I, J, Rx R, N, G)) rfl ?_
      refine XP_pure rfl rfl (m_isPath hI.1 hI.2.1 _) ?_
      refine XP_s rfl ?_
      refine XP_bne (fun b7 => absurd b7 g1) (fun b7 => ?_)
      refine XP_n 1 (pc' := 9) (ls' := [.ref (99), .int (nI (rn)), .int (p)]) (st' := [.long (cL (-4611686018427387904))]) (M' := (I, J, Rx R, N, G)) rfl ?_
      exact XP_ret rfl ⟨rfl, _, _, rfl, hI⟩
  obtain ⟨pn, hpn, rfl, ep⟩ := inN_nat g1 (by omega)
  refine ⟨(gS s (k5 s rn) (nRr s rn) pn (cY s)).2.2.2.1, ?_, fun I J hI => ?_⟩
  · unfold TP
    show XP X _ k_H_spent 0 [.ref (0), .int (nI (rn)), .int (nI (pn))] [] _ _
    refine XP_n 3 (pc' := 3) (ls' := [.ref (0), .int (nI (rn)), .int (nI (pn))]) (st' := [.int (nI (pn)), .int (nI (rn)), .ref (0)]) (M' := (I, J, Rx R, N, G)) rfl ?_
    refine XP_call rfl rfl (c_followedT hI (show rn < cR s by omega) (show pn < cP s by omega)) ?_
    rintro v24 M24 ⟨rfl, I24, J24, rfl, hI24, hrw24, hja24, hjb24⟩
    refine XP_ifN (x := 1)  rfl (by omega) (fun (b4 : 1 = 0) => absurd b4 (by omega)) (fun (b4 : ¬ 1 = 0) => ?_)
    refine XP_n 3 (pc' := 8) (ls' := [.ref (0), .int (nI (rn)), .int (nI (pn))]) (st' := [.long (J24 16 4)]) (M' := (I24, J24, Rx R, N, G)) rfl ?_
    rw [hja24]
    refine XP_n 1 (pc' := 10) (ls' := [.ref (0), .int (nI (rn)), .int (nI (pn))]) (st' := [.long ((gS s (k5 s rn) (nRr s rn) (pn) (cY s)).2.2.2.1)]) (M' := (I24, J24, Rx R, N, G)) rfl ?_
    exact XP_ret rfl ⟨rfl, _, _, rfl, hI24⟩
  · unfold TP
    show XP X _ k_M_spent 0 [.ref (99), .int (nI (rn)), .int (nI (pn))] [] _ _
    refine XP_n 2 (pc' := 2) (ls' := [.ref (99), .int (nI (rn)), .int (nI (pn))]) (st' := [.int (nI (rn)), .ref (99)]) (M' := (I, J, Rx R, N, G)) rfl ?_
    refine XP_pure rfl rfl (m_isRule hI.1 hI.2.1 _) ?_
    refine XP_s rfl ?_
    refine XP_beq (fun b3 => absurd g0 b3) (fun b3 => ?_)
    refine XP_n 2 (pc' := 6) (ls' := [.ref (99), .int (nI (rn)), .int (nI (pn))]) (st' := [.int (nI (pn)), .ref (99)]) (M' := (I, J, Rx R, N, G)) rfl ?_
    refine XP_pure rfl rfl (m_isPath hI.1 hI.2.1 _) ?_
    refine XP_s rfl ?_
    refine XP_bne (fun b7 => ?_) (fun b7 => absurd g1 b7)
    refine XP_n 3 (pc' := 13) (ls' := [.ref (99), .int (nI (rn)), .int (nI (pn))]) (st' := [.int (nI (pn)), .int (nI (rn)), .ref (99)]) (M' := (I, J, Rx R, N, G)) rfl ?_
    refine XP_call rfl rfl (m_tot hI.1 hW (show rn < cR s by omega) (show pn < cP s by omega)) ?_
    rintro v25 M25 ⟨rfl, I25, J25, rfl, hO25, hJ25, hrw25, hja25⟩
    have hI25 := hI.m (hO25.sub (by simp)) (hJ25.sub (by simp))
    refine XP_n 3 (pc' := 17) (ls' := [.ref (99), .int (nI (rn)), .int (nI (pn))]) (st' := [.long (J25 99 59)]) (M' := (I25, J25, Rx R, N, G)) rfl ?_
    rw [hja25]
    exact XP_ret rfl ⟨rfl, _, _, rfl, hI25⟩
theorem f_row (hI : Inv s R N I J) (r : Int32) (p : Int32) (y : Int32) (what : Int32) : ∃ v, TP X (d + 12) n_H_row [.ref 0, .int r, .int p, .int y, .int what] (I, J, Rx R, N, G) (QP s R N G (.int v)) ∧ ∀ I J, Inv s R N I J → TP X (d + 12) n_M_row [.ref 99, .int r, .int p, .int y, .int what] (I, J, Rx R, N, G) (QP s R N G (.int v)) := by
  have hI0 := hI
  obtain ⟨hS, hW, hL, hC, hch⟩ := hI0
  have hy16 := hW.y.2
  have hp4 := hW.p.2
  have hs6 := hW.ns.2
  have hr8 := hW.r.2
  have hst8 := hW.st.2
  have ht3 := hW.t.2
  have hw60 := hW.w.2
  have hcwa := cWA_le hW
  by_cases g0 : inN (r) (cR s)
  rotate_left
  · skip
    refine ⟨cI (-5), ?_, fun I J hI => ?_⟩
    · unfold TP
      show XP X _ k_H_row 0 [.ref (0), .int (r), .int (p), .int (y), .int (what)] [] _ _
      refine XP_n 3 (pc' := 3) (ls' := [.ref (0), .int (r), .int (p), .int (y), .int (what)]) (st' := [.int (p), .int (r), .ref (0)]) (M' := (I, J, Rx R, N, G)) rfl ?_
      refine XP_pure rfl rfl (c_followedF hI (fun z => g0 z.1)) ?_
      refine XP_ifN (x := 0)  rfl (by omega) (fun (b4 : ¬ 0 = 0) => absurd b4 (by omega)) (fun (b4 : 0 = 0) => ?_)
      refine XP_n 1 (pc' := 6) (ls' := [.ref (0), .int (r), .int (p), .int (y), .int (what)]) (st' := [.int (cI (-5))]) (M' := (I, J, Rx R, N, G)) rfl ?_
      exact XP_ret rfl ⟨rfl, _, _, rfl, hI⟩
    · unfold TP
      show XP X _ k_M_row 0 [.ref (99), .int (r), .int (p), .int (y), .int (what)] [] _ _
      refine XP_n 2 (pc' := 2) (ls' := [.ref (99), .int (r), .int (p), .int (y), .int (what)]) (st' := [.int (r), .ref (99)]) (M' := (I, J, Rx R, N, G)) rfl ?_
      refine XP_pure rfl rfl (m_isRule hI.1 hI.2.1 _) ?_
      refine XP_s rfl ?_
      refine XP_beq (fun b3 => ?_) (fun b3 => absurd b3 g0)
      refine XP_n 1 (pc' := 9) (ls' := [.ref (99), .int (r), .int (p), .int (y), .int (what)]) (st' := [.int (cI (-5))]) (M' := (I, J, Rx R, N, G)) rfl ?_
      exact XP_ret rfl ⟨rfl, _, _, rfl, hI⟩
  obtain ⟨rn, hrn, rfl, er⟩ := inN_nat g0 (by omega)
  by_cases g1 : inN (p) (cP s)
  rotate_left
  · skip
    refine ⟨cI (-5), ?_, fun I J hI => ?_⟩
    · unfold TP
      show XP X _ k_H_row 0 [.ref (0), .int (nI (rn)), .int (p), .int (y), .int (what)] [] _ _
      refine XP_n 3 (pc' := 3) (ls' := [.ref (0), .int (nI (rn)), .int (p), .int (y), .int (what)]) (st' := [.int (p), .int (nI (rn)), .ref (0)]) (M' := (I, J, Rx R, N, G)) rfl ?_
      refine XP_pure rfl rfl (c_followedF hI (fun z => g1 z.2)) ?_
      refine XP_ifN (x := 0)  rfl (by omega) (fun (b4 : ¬ 0 = 0) => absurd b4 (by omega)) (fun (b4 : 0 = 0) => ?_)
      refine XP_n 1 (pc' := 6) (ls' := [.ref (0), .int (nI (rn)), .int (p), .int (y), .int (what)]) (st' := [.int (cI (-5))]) (M' := (I, J, Rx R, N, G)) rfl ?_
      exact XP_ret rfl ⟨rfl, _, _, rfl, hI⟩
    · unfold TP
      show XP X _ k_M_row 0 [.ref (99), .int (nI (rn)), .int (p), .int (y), .int (what)] [] _ _
      refine XP_n 2 (pc' := 2) (ls' := [.ref (99), .int (nI (rn)), .int (p), .int (y), .int (what)]) (st' := [.int (nI (rn)), .ref (99)]) (M' := (I, J, Rx R, N, G)) rfl ?_
      refine XP_pure rfl rfl (m_isRule hI.1 hI.2.1 _) ?_
      refine XP_s rfl ?_
      refine XP_beq (fun b3 => absurd g0 b3) (fun b3 => ?_)
      refine XP_n 2 (pc' := 6) (ls' := [.ref (99), .int (nI (rn)), .int (p), .int (y), .int (what)]) (st' := [.int (p), .ref (99)]) (M' := (I, J, Rx R, N, G)) rfl ?_
      refine XP_pure rfl rfl (m_isPath hI.1 hI.2.1 _) ?_
      refine XP_s rfl ?_
      refine XP_bne (fun b7 => absurd b7 g1) (fun b7 => ?_)
      refine XP_n 1 (pc' := 9) (ls' := [.ref (99), .int (nI (rn)), .int (p), .int (y), .int (what)]) (st' := [.int (cI (-5))]) (M' := (I, J, Rx R, N, G)) rfl ?_
      exact XP_ret rfl ⟨rfl, _, _, rfl, hI⟩
  obtain ⟨pn, hpn, rfl, ep⟩ := inN_nat g1 (by omega)
  by_cases g2 : inN (y) (cY s)
  rotate_left
  · skip
    refine ⟨cI (-7), ?_, fun I J hI => ?_⟩
    · unfold TP
      show XP X _ k_H_row 0 [.ref (0), .int (nI (rn)), .int (nI (pn)), .int (y), .int (what)] [] _ _
      refine XP_n 3 (pc' := 3) (ls' := [.ref (0), .int (nI (rn)), .int (nI (pn)), .int (y), .int (what)]) (st' := [.int (nI (pn)), .int (nI (rn)), .ref (0)]) (M' := (I, J, Rx R, N, G)) rfl ?_
      refine XP_call rfl rfl (c_followedT hI (show rn < cR s by omega) (show pn < cP s by omega)) ?_
      rintro v26 M26 ⟨rfl, I26, J26, rfl, hI26, hrw26, hja26, hjb26⟩
      refine XP_ifN (x := 1)  rfl (by omega) (fun (b4 : ¬ 1 = 0) => ?_) (fun (b4 : 1 = 0) => absurd b4 (by omega))
      refine XP_n 2 (pc' := 9) (ls' := [.ref (0), .int (nI (rn)), .int (nI (pn)), .int (y), .int (what)]) (st' := [.int (y), .ref (0)]) (M' := (I26, J26, Rx R, N, G)) rfl ?_
      refine XP_pure rfl rfl (h_isYear hI26.1 hI26.2.1 _) ?_
      refine XP_s rfl ?_
      refine XP_beq (fun b10 => ?_) (fun b10 => absurd b10 g2)
      refine XP_n 1 (pc' := 17) (ls' := [.ref (0), .int (nI (rn)), .int (nI (pn)), .int (y), .int (what)]) (st' := [.int (cI (-7))]) (M' := (I26, J26, Rx R, N, G)) rfl ?_
      exact XP_ret rfl ⟨rfl, _, _, rfl, hI26⟩
    · unfold TP
      show XP X _ k_M_row 0 [.ref (99), .int (nI (rn)), .int (nI (pn)), .int (y), .int (what)] [] _ _
      refine XP_n 2 (pc' := 2) (ls' := [.ref (99), .int (nI (rn)), .int (nI (pn)), .int (y), .int (what)]) (st' := [.int (nI (rn)), .ref (99)]) (M' := (I, J, Rx R, N, G)) rfl ?_
      refine XP_pure rfl rfl (m_isRule hI.1 hI.2.1 _) ?_
      refine XP_s rfl ?_
      refine XP_beq (fun b3 => absurd g0 b3) (fun b3 => ?_)
      refine XP_n 2 (pc' := 6) (ls' := [.ref (99), .int (nI (rn)), .int (nI (pn)), .int (y), .int (what)]) (st' := [.int (nI (pn)), .ref (99)]) (M' := (I, J, Rx R, N, G)) rfl ?_
      refine XP_pure rfl rfl (m_isPath hI.1 hI.2.1 _) ?_
      refine XP_s rfl ?_
      refine XP_bne (fun b7 => ?_) (fun b7 => absurd g1 b7)
      refine XP_n 2 (pc' := 12) (ls' := [.ref (99), .int (nI (rn)), .int (nI (pn)), .int (y), .int (what)]) (st' := [.int (y), .ref (99)]) (M' := (I, J, Rx R, N, G)) rfl ?_
      refine XP_pure rfl rfl (m_isYear hI.1 hI.2.1 _) ?_
      refine XP_s rfl ?_
      refine XP_beq (fun b13 => ?_) (fun b13 => absurd b13 g2)
      refine XP_n 1 (pc' := 20) (ls' := [.ref (99), .int (nI (rn)), .int (nI (pn)), .int (y), .int (what)]) (st' := [.int (cI (-7))]) (M' := (I, J, Rx R, N, G)) rfl ?_
      exact XP_ret rfl ⟨rfl, _, _, rfl, hI⟩
  obtain ⟨yn, hyn, rfl, ey⟩ := inN_nat g2 (by omega)
  by_cases g3 : iv 0 3 (what)
  rotate_left
  · skip
    refine ⟨cI (-7), ?_, fun I J hI => ?_⟩
    · unfold TP
      show XP X _ k_H_row 0 [.ref (0), .int (nI (rn)), .int (nI (pn)), .int (nI (yn)), .int (what)] [] _ _
      refine XP_n 3 (pc' := 3) (ls' := [.ref (0), .int (nI (rn)), .int (nI (pn)), .int (nI (yn)), .int (what)]) (st' := [.int (nI (pn)), .int (nI (rn)), .ref (0)]) (M' := (I, J, Rx R, N, G)) rfl ?_
      refine XP_call rfl rfl (c_followedT hI (show rn < cR s by omega) (show pn < cP s by omega)) ?_
      rintro v27 M27 ⟨rfl, I27, J27, rfl, hI27, hrw27, hja27, hjb27⟩
      refine XP_ifN (x := 1)  rfl (by omega) (fun (b4 : ¬ 1 = 0) => ?_) (fun (b4 : 1 = 0) => absurd b4 (by omega))
      refine XP_n 2 (pc' := 9) (ls' := [.ref (0), .int (nI (rn)), .int (nI (pn)), .int (nI (yn)), .int (what)]) (st' := [.int (nI (yn)), .ref (0)]) (M' := (I27, J27, Rx R, N, G)) rfl ?_
      refine XP_pure rfl rfl (h_isYear hI27.1 hI27.2.1 _) ?_
      refine XP_s rfl ?_
      refine XP_beq (fun b10 => absurd g2 b10) (fun b10 => ?_)
      refine XP_n 3 (pc' := 14) (ls' := [.ref (0), .int (nI (rn)), .int (nI (pn)), .int (nI (yn)), .int (what)]) (st' := [.int (nI (3)), .int (nI (0)), .int (what)]) (M' := (I27, J27, Rx R, N, G)) rfl ?_
      refine XP_pure rfl rfl (w_H X _ _ 0 3 _) ?_
      refine XP_s rfl ?_
      refine XP_bne (fun b15 => absurd b15 g3) (fun b15 => ?_)
      refine XP_n 1 (pc' := 17) (ls' := [.ref (0), .int (nI (rn)), .int (nI (pn)), .int (nI (yn)), .int (what)]) (st' := [.int (cI (-7))]) (M' := (I27, J27, Rx R, N, G)) rfl ?_
      exact XP_ret rfl ⟨rfl, _, _, rfl, hI27⟩
    · unfold TP
      show XP X _ k_M_row 0 [.ref (99), .int (nI (rn)), .int (nI (pn)), .int (nI (yn)), .int (what)] [] _ _
      refine XP_n 2 (pc' := 2) (ls' := [.ref (99), .int (nI (rn)), .int (nI (pn)), .int (nI (yn)), .int (what)]) (st' := [.int (nI (rn)), .ref (99)]) (M' := (I, J, Rx R, N, G)) rfl ?_
      refine XP_pure rfl rfl (m_isRule hI.1 hI.2.1 _) ?_
      refine XP_s rfl ?_
      refine XP_beq (fun b3 => absurd g0 b3) (fun b3 => ?_)
      refine XP_n 2 (pc' := 6) (ls' := [.ref (99), .int (nI (rn)), .int (nI (pn)), .int (nI (yn)), .int (what)]) (st' := [.int (nI (pn)), .ref (99)]) (M' := (I, J, Rx R, N, G)) rfl ?_
      refine XP_pure rfl rfl (m_isPath hI.1 hI.2.1 _) ?_
      refine XP_s rfl ?_
      refine XP_bne (fun b7 => ?_) (fun b7 => absurd g1 b7)
      refine XP_n 2 (pc' := 12) (ls' := [.ref (99), .int (nI (rn)), .int (nI (pn)), .int (nI (yn)), .int (what)]) (st' := [.int (nI (yn)), .ref (99)]) (M' := (I, J, Rx R, N, G)) rfl ?_
      refine XP_pure rfl rfl (m_isYear hI.1 hI.2.1 _) ?_
      refine XP_s rfl ?_
      refine XP_beq (fun b13 => absurd g2 b13) (fun b13 => ?_)
      refine XP_n 3 (pc' := 17) (ls' := [.ref (99), .int (nI (rn)), .int (nI (pn)), .int (nI (yn)), .int (what)]) (st' := [.int (nI (3)), .int (nI (0)), .int (what)]) (M' := (I, J, Rx R, N, G)) rfl ?_
      refine XP_pure rfl rfl (w_M X _ _ 0 3 _) ?_
      refine XP_s rfl ?_
      refine XP_bne (fun b18 => absurd b18 g3) (fun b18 => ?_)
      refine XP_n 1 (pc' := 20) (ls' := [.ref (99), .int (nI (rn)), .int (nI (pn)), .int (nI (yn)), .int (what)]) (st' := [.int (cI (-7))]) (M' := (I, J, Rx R, N, G)) rfl ?_
      exact XP_ret rfl ⟨rfl, _, _, rfl, hI⟩
  obtain ⟨whatn, hwhatn0, hwhatn, rfl, ewhat⟩ := iv_nat g3 (by omega) (by omega)
  have hx : whatn = 0 ∨ whatn = 1 ∨ whatn = 2 ∨ whatn = 3 := by omega
  clear ewhat
  rcases hx with rfl | rfl | rfl | rfl
  · skip
    refine ⟨nI (gS s (k5 s rn) (nRr s rn) pn (yn + 1)).1, ?_, fun I J hI => ?_⟩
    · unfold TP
      show XP X _ k_H_row 0 [.ref (0), .int (nI (rn)), .int (nI (pn)), .int (nI (yn)), .int (nI (0))] [] _ _
      refine XP_n 3 (pc' := 3) (ls' := [.ref (0), .int (nI (rn)), .int (nI (pn)), .int (nI (yn)), .int (nI (0))]) (st' := [.int (nI (pn)), .int (nI (rn)), .ref (0)]) (M' := (I, J, Rx R, N, G)) rfl ?_
      refine XP_call rfl rfl (c_followedT hI (show rn < cR s by omega) (show pn < cP s by omega)) ?_
      rintro v28 M28 ⟨rfl, I28, J28, rfl, hI28, hrw28, hja28, hjb28⟩
      refine XP_ifN (x := 1)  rfl (by omega) (fun (b4 : ¬ 1 = 0) => ?_) (fun (b4 : 1 = 0) => absurd b4 (by omega))
      refine XP_n 2 (pc' := 9) (ls' := [.ref (0), .int (nI (rn)), .int (nI (pn)), .int (nI (yn)), .int (nI (0))]) (st' := [.int (nI (yn)), .ref (0)]) (M' := (I28, J28, Rx R, N, G)) rfl ?_
      refine XP_pure rfl rfl (h_isYear hI28.1 hI28.2.1 _) ?_
      refine XP_s rfl ?_
      refine XP_beq (fun b10 => absurd g2 b10) (fun b10 => ?_)
      refine XP_n 3 (pc' := 14) (ls' := [.ref (0), .int (nI (rn)), .int (nI (pn)), .int (nI (yn)), .int (nI (0))]) (st' := [.int (nI (3)), .int (nI (0)), .int (nI (0))]) (M' := (I28, J28, Rx R, N, G)) rfl ?_
      refine XP_pure rfl rfl (w_H X _ _ 0 3 _) ?_
      refine XP_s rfl ?_
      refine XP_bne (fun b15 => ?_) (fun b15 => absurd g3 b15)
      refine XP_n 4 (pc' := 22) (ls' := [.ref (0), .int (nI (rn)), .int (nI (pn)), .int (nI (yn)), .int (nI (0))]) (st' := [.int (nI (0)), .int (nI (yn)), .ref (16)]) (M' := (I28, J28, Rx R, N, G)) rfl ?_
      have htold : TP X (d + 11) n_Course_told [.ref 16, .int (nI yn), .int (nI 0)] (I28, J28, Rx R, N, G) (Ret (.int (nI ((gS s (k5 s rn) (nRr s rn) pn (yn + 1)).1))) (I28, J28, Rx R, N, G)) := by
        unfold TP
        show XP X _ k_Course_told 0 [.ref (16), .int (nI (yn)), .int (nI (0))] [] _ _
        refine XP_n 1 (pc' := 1) (ls' := [.ref (16), .int (nI (yn)), .int (nI (0))]) (st' := [.int (nI (yn))]) (M' := (I28, J28, Rx R, N, G)) rfl ?_
        refine XP_ifN (x := yn)  rfl (by omega) (fun (b1 : yn < 0) => absurd b1 (by omega)) (fun (b1 : 0 ≤ yn) => ?_)
        refine XP_n 2 (pc' := 4) (ls' := [.ref (16), .int (nI (yn)), .int (nI (0))]) (st' := [.int (nI (16)), .int (nI (yn))]) (M' := (I28, J28, Rx R, N, G)) rfl ?_
        refine XP_icN (x := yn) (y := 16) rfl (by omega) (by omega) (fun (b4 : yn < 16) => ?_) (fun (b4 : 16 ≤ yn) => absurd b4 (by omega))
        refine XP_n 1 (pc' := 8) (ls' := [.ref (16), .int (nI (yn)), .int (nI (0))]) (st' := [.int (nI (0))]) (M' := (I28, J28, Rx R, N, G)) rfl ?_
        refine XP_tab 0 0 2 9 rfl (by omega) rfl rfl (by omega) (by omega) rfl ?_
        refine XP_n 3 (pc' := 12) (ls' := [.ref (16), .int (nI (yn)), .int (nI (0))]) (st' := [.int (nI (yn)), .ref (17)]) (M' := (I28, J28, Rx R, N, G)) rfl ?_
        refine XP_iraw rfl rfl (show yn < 16 by omega) rfl (by omega) ?_
        rw [show I28 17 yn = nI ((gS s (k5 s rn) (nRr s rn) pn (yn + 1)).1) from (hrw28 yn hyn).1]
        exact XP_ret rfl ⟨rfl, rfl⟩
      refine XP_pure rfl rfl htold ?_
      exact XP_ret rfl ⟨rfl, _, _, rfl, hI28⟩
    · unfold TP
      show XP X _ k_M_row 0 [.ref (99), .int (nI (rn)), .int (nI (pn)), .int (nI (yn)), .int (nI (0))] [] _ _
      refine XP_n 2 (pc' := 2) (ls' := [.ref (99), .int (nI (rn)), .int (nI (pn)), .int (nI (yn)), .int (nI (0))]) (st' := [.int (nI (rn)), .ref (99)]) (M' := (I, J, Rx R, N, G)) rfl ?_
      refine XP_pure rfl rfl (m_isRule hI.1 hI.2.1 _) ?_
      refine XP_s rfl ?_
      refine XP_beq (fun b3 => absurd g0 b3) (fun b3 => ?_)
      refine XP_n 2 (pc' := 6) (ls' := [.ref (99), .int (nI (rn)), .int (nI (pn)), .int (nI (yn)), .int (nI (0))]) (st' := [.int (nI (pn)), .ref (99)]) (M' := (I, J, Rx R, N, G)) rfl ?_
      refine XP_pure rfl rfl (m_isPath hI.1 hI.2.1 _) ?_
      refine XP_s rfl ?_
      refine XP_bne (fun b7 => ?_) (fun b7 => absurd g1 b7)
      refine XP_n 2 (pc' := 12) (ls' := [.ref (99), .int (nI (rn)), .int (nI (pn)), .int (nI (yn)), .int (nI (0))]) (st' := [.int (nI (yn)), .ref (99)]) (M' := (I, J, Rx R, N, G)) rfl ?_
      refine XP_pure rfl rfl (m_isYear hI.1 hI.2.1 _) ?_
      refine XP_s rfl ?_
      refine XP_beq (fun b13 => absurd g2 b13) (fun b13 => ?_)
      refine XP_n 3 (pc' := 17) (ls' := [.ref (99), .int (nI (rn)), .int (nI (pn)), .int (nI (yn)), .int (nI (0))]) (st' := [.int (nI (3)), .int (nI (0)), .int (nI (0))]) (M' := (I, J, Rx R, N, G)) rfl ?_
      refine XP_pure rfl rfl (w_M X _ _ 0 3 _) ?_
      refine XP_s rfl ?_
      refine XP_bne (fun b18 => ?_) (fun b18 => absurd g3 b18)
      refine XP_n 3 (pc' := 24) (ls' := [.ref (99), .int (nI (rn)), .int (nI (pn)), .int (nI (yn)), .int (nI (0))]) (st' := [.int (nI (pn)), .int (nI (rn)), .ref (99)]) (M' := (I, J, Rx R, N, G)) rfl ?_
      refine XP_call rfl rfl (m_tot hI.1 hW (show rn < cR s by omega) (show pn < cP s by omega)) ?_
      rintro v29 M29 ⟨rfl, I29, J29, rfl, hO29, hJ29, hrw29, hja29⟩
      have hI29 := hI.m (hO29.sub (by simp)) (hJ29.sub (by simp))
      refine XP_n 2 (pc' := 27) (ls' := [.ref (99), .int (nI (rn)), .int (nI (pn)), .int (nI (yn)), .int (nI (0))]) (st' := [.int (nI (0))]) (M' := (I29, J29, Rx R, N, G)) rfl ?_
      refine XP_ifN (x := 0)  rfl (by omega) (fun (b27 : ¬ 0 = 0) => absurd b27 (by omega)) (fun (b27 : 0 = 0) => ?_)
      refine XP_n 3 (pc' := 31) (ls' := [.ref (99), .int (nI (rn)), .int (nI (pn)), .int (nI (yn)), .int (nI (0))]) (st' := [.int (nI (yn)), .ref (127)]) (M' := (I29, J29, Rx R, N, G)) rfl ?_
      refine XP_iraw rfl rfl (show yn < 17 by omega) rfl (by omega) ?_
      rw [show I29 127 yn = nI ((gS s (k5 s rn) (nRr s rn) pn (yn + 1)).1) from (hrw29 yn hyn).1]
      refine XP_n 1 (pc' := 57) (ls' := [.ref (99), .int (nI (rn)), .int (nI (pn)), .int (nI (yn)), .int (nI (0))]) (st' := [.int (nI ((gS s (k5 s rn) (nRr s rn) pn (yn + 1)).1))]) (M' := (I29, J29, Rx R, N, G)) rfl ?_
      exact XP_ret rfl ⟨rfl, _, _, rfl, hI29⟩
  · skip
    refine ⟨nI (gU s (k5 s rn) (nRr s rn) pn yn), ?_, fun I J hI => ?_⟩
    · unfold TP
      show XP X _ k_H_row 0 [.ref (0), .int (nI (rn)), .int (nI (pn)), .int (nI (yn)), .int (nI (1))] [] _ _
      refine XP_n 3 (pc' := 3) (ls' := [.ref (0), .int (nI (rn)), .int (nI (pn)), .int (nI (yn)), .int (nI (1))]) (st' := [.int (nI (pn)), .int (nI (rn)), .ref (0)]) (M' := (I, J, Rx R, N, G)) rfl ?_
      refine XP_call rfl rfl (c_followedT hI (show rn < cR s by omega) (show pn < cP s by omega)) ?_
      rintro v30 M30 ⟨rfl, I30, J30, rfl, hI30, hrw30, hja30, hjb30⟩
      refine XP_ifN (x := 1)  rfl (by omega) (fun (b4 : ¬ 1 = 0) => ?_) (fun (b4 : 1 = 0) => absurd b4 (by omega))
      refine XP_n 2 (pc' := 9) (ls' := [.ref (0), .int (nI (rn)), .int (nI (pn)), .int (nI (yn)), .int (nI (1))]) (st' := [.int (nI (yn)), .ref (0)]) (M' := (I30, J30, Rx R, N, G)) rfl ?_
      refine XP_pure rfl rfl (h_isYear hI30.1 hI30.2.1 _) ?_
      refine XP_s rfl ?_
      refine XP_beq (fun b10 => absurd g2 b10) (fun b10 => ?_)
      refine XP_n 3 (pc' := 14) (ls' := [.ref (0), .int (nI (rn)), .int (nI (pn)), .int (nI (yn)), .int (nI (1))]) (st' := [.int (nI (3)), .int (nI (0)), .int (nI (1))]) (M' := (I30, J30, Rx R, N, G)) rfl ?_
      refine XP_pure rfl rfl (w_H X _ _ 0 3 _) ?_
      refine XP_s rfl ?_
      refine XP_bne (fun b15 => ?_) (fun b15 => absurd g3 b15)
      refine XP_n 4 (pc' := 22) (ls' := [.ref (0), .int (nI (rn)), .int (nI (pn)), .int (nI (yn)), .int (nI (1))]) (st' := [.int (nI (1)), .int (nI (yn)), .ref (16)]) (M' := (I30, J30, Rx R, N, G)) rfl ?_
      have htold : TP X (d + 11) n_Course_told [.ref 16, .int (nI yn), .int (nI 1)] (I30, J30, Rx R, N, G) (Ret (.int (nI (gU s (k5 s rn) (nRr s rn) pn yn))) (I30, J30, Rx R, N, G)) := by
        unfold TP
        show XP X _ k_Course_told 0 [.ref (16), .int (nI (yn)), .int (nI (1))] [] _ _
        refine XP_n 1 (pc' := 1) (ls' := [.ref (16), .int (nI (yn)), .int (nI (1))]) (st' := [.int (nI (yn))]) (M' := (I30, J30, Rx R, N, G)) rfl ?_
        refine XP_ifN (x := yn)  rfl (by omega) (fun (b1 : yn < 0) => absurd b1 (by omega)) (fun (b1 : 0 ≤ yn) => ?_)
        refine XP_n 2 (pc' := 4) (ls' := [.ref (16), .int (nI (yn)), .int (nI (1))]) (st' := [.int (nI (16)), .int (nI (yn))]) (M' := (I30, J30, Rx R, N, G)) rfl ?_
        refine XP_icN (x := yn) (y := 16) rfl (by omega) (by omega) (fun (b4 : yn < 16) => ?_) (fun (b4 : 16 ≤ yn) => absurd b4 (by omega))
        refine XP_n 1 (pc' := 8) (ls' := [.ref (16), .int (nI (yn)), .int (nI (1))]) (st' := [.int (nI (1))]) (M' := (I30, J30, Rx R, N, G)) rfl ?_
        refine XP_tab 1 0 2 14 rfl (by omega) rfl rfl (by omega) (by omega) rfl ?_
        refine XP_n 3 (pc' := 17) (ls' := [.ref (16), .int (nI (yn)), .int (nI (1))]) (st' := [.int (nI (yn)), .ref (18)]) (M' := (I30, J30, Rx R, N, G)) rfl ?_
        refine XP_iraw rfl rfl (show yn < 16 by omega) rfl (by omega) ?_
        rw [show I30 18 yn = nI (gU s (k5 s rn) (nRr s rn) pn yn) from (hrw30 yn hyn).2.1]
        exact XP_ret rfl ⟨rfl, rfl⟩
      refine XP_pure rfl rfl htold ?_
      exact XP_ret rfl ⟨rfl, _, _, rfl, hI30⟩
    · unfold TP
      show XP X _ k_M_row 0 [.ref (99), .int (nI (rn)), .int (nI (pn)), .int (nI (yn)), .int (nI (1))] [] _ _
      refine XP_n 2 (pc' := 2) (ls' := [.ref (99), .int (nI (rn)), .int (nI (pn)), .int (nI (yn)), .int (nI (1))]) (st' := [.int (nI (rn)), .ref (99)]) (M' := (I, J, Rx R, N, G)) rfl ?_
      refine XP_pure rfl rfl (m_isRule hI.1 hI.2.1 _) ?_
      refine XP_s rfl ?_
      refine XP_beq (fun b3 => absurd g0 b3) (fun b3 => ?_)
      refine XP_n 2 (pc' := 6) (ls' := [.ref (99), .int (nI (rn)), .int (nI (pn)), .int (nI (yn)), .int (nI (1))]) (st' := [.int (nI (pn)), .ref (99)]) (M' := (I, J, Rx R, N, G)) rfl ?_
      refine XP_pure rfl rfl (m_isPath hI.1 hI.2.1 _) ?_
      refine XP_s rfl ?_
      refine XP_bne (fun b7 => ?_) (fun b7 => absurd g1 b7)
      refine XP_n 2 (pc' := 12) (ls' := [.ref (99), .int (nI (rn)), .int (nI (pn)), .int (nI (yn)), .int (nI (1))]) (st' := [.int (nI (yn)), .ref (99)]) (M' := (I, J, Rx R, N, G)) rfl ?_
      refine XP_pure rfl rfl (m_isYear hI.1 hI.2.1 _) ?_
      refine XP_s rfl ?_
      refine XP_beq (fun b13 => absurd g2 b13) (fun b13 => ?_)
      refine XP_n 3 (pc' := 17) (ls' := [.ref (99), .int (nI (rn)), .int (nI (pn)), .int (nI (yn)), .int (nI (1))]) (st' := [.int (nI (3)), .int (nI (0)), .int (nI (1))]) (M' := (I, J, Rx R, N, G)) rfl ?_
      refine XP_pure rfl rfl (w_M X _ _ 0 3 _) ?_
      refine XP_s rfl ?_
      refine XP_bne (fun b18 => ?_) (fun b18 => absurd g3 b18)
      refine XP_n 3 (pc' := 24) (ls' := [.ref (99), .int (nI (rn)), .int (nI (pn)), .int (nI (yn)), .int (nI (1))]) (st' := [.int (nI (pn)), .int (nI (rn)), .ref (99)]) (M' := (I, J, Rx R, N, G)) rfl ?_
      refine XP_call rfl rfl (m_tot hI.1 hW (show rn < cR s by omega) (show pn < cP s by omega)) ?_
      rintro v31 M31 ⟨rfl, I31, J31, rfl, hO31, hJ31, hrw31, hja31⟩
      have hI31 := hI.m (hO31.sub (by simp)) (hJ31.sub (by simp))
      refine XP_n 2 (pc' := 27) (ls' := [.ref (99), .int (nI (rn)), .int (nI (pn)), .int (nI (yn)), .int (nI (1))]) (st' := [.int (nI (1))]) (M' := (I31, J31, Rx R, N, G)) rfl ?_
      refine XP_ifN (x := 1)  rfl (by omega) (fun (b27 : ¬ 1 = 0) => ?_) (fun (b27 : 1 = 0) => absurd b27 (by omega))
      refine XP_n 2 (pc' := 35) (ls' := [.ref (99), .int (nI (rn)), .int (nI (pn)), .int (nI (yn)), .int (nI (1))]) (st' := [.int (nI (1)), .int (nI (1))]) (M' := (I31, J31, Rx R, N, G)) rfl ?_
      refine XP_icN (x := 1) (y := 1) rfl (by omega) (by omega) (fun (b35 : ¬ 1 = 1) => absurd b35 (by omega)) (fun (b35 : 1 = 1) => ?_)
      refine XP_n 3 (pc' := 39) (ls' := [.ref (99), .int (nI (rn)), .int (nI (pn)), .int (nI (yn)), .int (nI (1))]) (st' := [.int (nI (yn)), .ref (128)]) (M' := (I31, J31, Rx R, N, G)) rfl ?_
      refine XP_iraw rfl rfl (show yn < 17 by omega) rfl (by omega) ?_
      rw [show I31 128 yn = nI (gU s (k5 s rn) (nRr s rn) pn yn) from (hrw31 yn hyn).2.1]
      refine XP_n 1 (pc' := 57) (ls' := [.ref (99), .int (nI (rn)), .int (nI (pn)), .int (nI (yn)), .int (nI (1))]) (st' := [.int (nI (gU s (k5 s rn) (nRr s rn) pn yn))]) (M' := (I31, J31, Rx R, N, G)) rfl ?_
      exact XP_ret rfl ⟨rfl, _, _, rfl, hI31⟩
  · skip
    refine ⟨(gS s (k5 s rn) (nRr s rn) pn yn).2.1, ?_, fun I J hI => ?_⟩
    · unfold TP
      show XP X _ k_H_row 0 [.ref (0), .int (nI (rn)), .int (nI (pn)), .int (nI (yn)), .int (nI (2))] [] _ _
      refine XP_n 3 (pc' := 3) (ls' := [.ref (0), .int (nI (rn)), .int (nI (pn)), .int (nI (yn)), .int (nI (2))]) (st' := [.int (nI (pn)), .int (nI (rn)), .ref (0)]) (M' := (I, J, Rx R, N, G)) rfl ?_
      refine XP_call rfl rfl (c_followedT hI (show rn < cR s by omega) (show pn < cP s by omega)) ?_
      rintro v32 M32 ⟨rfl, I32, J32, rfl, hI32, hrw32, hja32, hjb32⟩
      refine XP_ifN (x := 1)  rfl (by omega) (fun (b4 : ¬ 1 = 0) => ?_) (fun (b4 : 1 = 0) => absurd b4 (by omega))
      refine XP_n 2 (pc' := 9) (ls' := [.ref (0), .int (nI (rn)), .int (nI (pn)), .int (nI (yn)), .int (nI (2))]) (st' := [.int (nI (yn)), .ref (0)]) (M' := (I32, J32, Rx R, N, G)) rfl ?_
      refine XP_pure rfl rfl (h_isYear hI32.1 hI32.2.1 _) ?_
      refine XP_s rfl ?_
      refine XP_beq (fun b10 => absurd g2 b10) (fun b10 => ?_)
      refine XP_n 3 (pc' := 14) (ls' := [.ref (0), .int (nI (rn)), .int (nI (pn)), .int (nI (yn)), .int (nI (2))]) (st' := [.int (nI (3)), .int (nI (0)), .int (nI (2))]) (M' := (I32, J32, Rx R, N, G)) rfl ?_
      refine XP_pure rfl rfl (w_H X _ _ 0 3 _) ?_
      refine XP_s rfl ?_
      refine XP_bne (fun b15 => ?_) (fun b15 => absurd g3 b15)
      refine XP_n 4 (pc' := 22) (ls' := [.ref (0), .int (nI (rn)), .int (nI (pn)), .int (nI (yn)), .int (nI (2))]) (st' := [.int (nI (2)), .int (nI (yn)), .ref (16)]) (M' := (I32, J32, Rx R, N, G)) rfl ?_
      have htold : TP X (d + 11) n_Course_told [.ref 16, .int (nI yn), .int (nI 2)] (I32, J32, Rx R, N, G) (Ret (.int ((gS s (k5 s rn) (nRr s rn) pn yn).2.1)) (I32, J32, Rx R, N, G)) := by
        unfold TP
        show XP X _ k_Course_told 0 [.ref (16), .int (nI (yn)), .int (nI (2))] [] _ _
        refine XP_n 1 (pc' := 1) (ls' := [.ref (16), .int (nI (yn)), .int (nI (2))]) (st' := [.int (nI (yn))]) (M' := (I32, J32, Rx R, N, G)) rfl ?_
        refine XP_ifN (x := yn)  rfl (by omega) (fun (b1 : yn < 0) => absurd b1 (by omega)) (fun (b1 : 0 ≤ yn) => ?_)
        refine XP_n 2 (pc' := 4) (ls' := [.ref (16), .int (nI (yn)), .int (nI (2))]) (st' := [.int (nI (16)), .int (nI (yn))]) (M' := (I32, J32, Rx R, N, G)) rfl ?_
        refine XP_icN (x := yn) (y := 16) rfl (by omega) (by omega) (fun (b4 : yn < 16) => ?_) (fun (b4 : 16 ≤ yn) => absurd b4 (by omega))
        refine XP_n 1 (pc' := 8) (ls' := [.ref (16), .int (nI (yn)), .int (nI (2))]) (st' := [.int (nI (2))]) (M' := (I32, J32, Rx R, N, G)) rfl ?_
        refine XP_tab 2 0 2 19 rfl (by omega) rfl rfl (by omega) (by omega) rfl ?_
        refine XP_n 3 (pc' := 22) (ls' := [.ref (16), .int (nI (yn)), .int (nI (2))]) (st' := [.int (nI (yn)), .ref (19)]) (M' := (I32, J32, Rx R, N, G)) rfl ?_
        refine XP_iraw rfl rfl (show yn < 16 by omega) rfl (by omega) ?_
        rw [show I32 19 yn = (gS s (k5 s rn) (nRr s rn) pn yn).2.1 from (hrw32 yn hyn).2.2.1]
        exact XP_ret rfl ⟨rfl, rfl⟩
      refine XP_pure rfl rfl htold ?_
      exact XP_ret rfl ⟨rfl, _, _, rfl, hI32⟩
    · unfold TP
      show XP X _ k_M_row 0 [.ref (99), .int (nI (rn)), .int (nI (pn)), .int (nI (yn)), .int (nI (2))] [] _ _
      refine XP_n 2 (pc' := 2) (ls' := [.ref (99), .int (nI (rn)), .int (nI (pn)), .int (nI (yn)), .int (nI (2))]) (st' := [.int (nI (rn)), .ref (99)]) (M' := (I, J, Rx R, N, G)) rfl ?_
      refine XP_pure rfl rfl (m_isRule hI.1 hI.2.1 _) ?_
      refine XP_s rfl ?_
      refine XP_beq (fun b3 => absurd g0 b3) (fun b3 => ?_)
      refine XP_n 2 (pc' := 6) (ls' := [.ref (99), .int (nI (rn)), .int (nI (pn)), .int (nI (yn)), .int (nI (2))]) (st' := [.int (nI (pn)), .ref (99)]) (M' := (I, J, Rx R, N, G)) rfl ?_
      refine XP_pure rfl rfl (m_isPath hI.1 hI.2.1 _) ?_
      refine XP_s rfl ?_
      refine XP_bne (fun b7 => ?_) (fun b7 => absurd g1 b7)
      refine XP_n 2 (pc' := 12) (ls' := [.ref (99), .int (nI (rn)), .int (nI (pn)), .int (nI (yn)), .int (nI (2))]) (st' := [.int (nI (yn)), .ref (99)]) (M' := (I, J, Rx R, N, G)) rfl ?_
      refine XP_pure rfl rfl (m_isYear hI.1 hI.2.1 _) ?_
      refine XP_s rfl ?_
      refine XP_beq (fun b13 => absurd g2 b13) (fun b13 => ?_)
      refine XP_n 3 (pc' := 17) (ls' := [.ref (99), .int (nI (rn)), .int (nI (pn)), .int (nI (yn)), .int (nI (2))]) (st' := [.int (nI (3)), .int (nI (0)), .int (nI (2))]) (M' := (I, J, Rx R, N, G)) rfl ?_
      refine XP_pure rfl rfl (w_M X _ _ 0 3 _) ?_
      refine XP_s rfl ?_
      refine XP_bne (fun b18 => ?_) (fun b18 => absurd g3 b18)
      refine XP_n 3 (pc' := 24) (ls' := [.ref (99), .int (nI (rn)), .int (nI (pn)), .int (nI (yn)), .int (nI (2))]) (st' := [.int (nI (pn)), .int (nI (rn)), .ref (99)]) (M' := (I, J, Rx R, N, G)) rfl ?_
      refine XP_call rfl rfl (m_tot hI.1 hW (show rn < cR s by omega) (show pn < cP s by omega)) ?_
      rintro v33 M33 ⟨rfl, I33, J33, rfl, hO33, hJ33, hrw33, hja33⟩
      have hI33 := hI.m (hO33.sub (by simp)) (hJ33.sub (by simp))
      refine XP_n 2 (pc' := 27) (ls' := [.ref (99), .int (nI (rn)), .int (nI (pn)), .int (nI (yn)), .int (nI (2))]) (st' := [.int (nI (2))]) (M' := (I33, J33, Rx R, N, G)) rfl ?_
      refine XP_ifN (x := 2)  rfl (by omega) (fun (b27 : ¬ 2 = 0) => ?_) (fun (b27 : 2 = 0) => absurd b27 (by omega))
      refine XP_n 2 (pc' := 35) (ls' := [.ref (99), .int (nI (rn)), .int (nI (pn)), .int (nI (yn)), .int (nI (2))]) (st' := [.int (nI (1)), .int (nI (2))]) (M' := (I33, J33, Rx R, N, G)) rfl ?_
      refine XP_icN (x := 2) (y := 1) rfl (by omega) (by omega) (fun (b35 : ¬ 2 = 1) => ?_) (fun (b35 : 2 = 1) => absurd b35 (by omega))
      refine XP_n 2 (pc' := 43) (ls' := [.ref (99), .int (nI (rn)), .int (nI (pn)), .int (nI (yn)), .int (nI (2))]) (st' := [.int (nI (2)), .int (nI (2))]) (M' := (I33, J33, Rx R, N, G)) rfl ?_
      refine XP_icN (x := 2) (y := 2) rfl (by omega) (by omega) (fun (b43 : ¬ 2 = 2) => absurd b43 (by omega)) (fun (b43 : 2 = 2) => ?_)
      refine XP_n 3 (pc' := 47) (ls' := [.ref (99), .int (nI (rn)), .int (nI (pn)), .int (nI (yn)), .int (nI (2))]) (st' := [.int (nI (yn)), .ref (129)]) (M' := (I33, J33, Rx R, N, G)) rfl ?_
      refine XP_iraw rfl rfl (show yn < 17 by omega) rfl (by omega) ?_
      rw [show I33 129 yn = (gS s (k5 s rn) (nRr s rn) pn yn).2.1 from (hrw33 yn hyn).2.2.1]
      refine XP_n 1 (pc' := 57) (ls' := [.ref (99), .int (nI (rn)), .int (nI (pn)), .int (nI (yn)), .int (nI (2))]) (st' := [.int ((gS s (k5 s rn) (nRr s rn) pn yn).2.1)]) (M' := (I33, J33, Rx R, N, G)) rfl ?_
      exact XP_ret rfl ⟨rfl, _, _, rfl, hI33⟩
  · skip
    cases hlb : (gS s (k5 s rn) (nRr s rn) pn (yn + 1)).2.2.1 with
    | true =>
      refine ⟨nI 1, ?_, fun I J hI => ?_⟩
      · unfold TP
        show XP X _ k_H_row 0 [.ref (0), .int (nI (rn)), .int (nI (pn)), .int (nI (yn)), .int (nI (3))] [] _ _
        refine XP_n 3 (pc' := 3) (ls' := [.ref (0), .int (nI (rn)), .int (nI (pn)), .int (nI (yn)), .int (nI (3))]) (st' := [.int (nI (pn)), .int (nI (rn)), .ref (0)]) (M' := (I, J, Rx R, N, G)) rfl ?_
        refine XP_call rfl rfl (c_followedT hI (show rn < cR s by omega) (show pn < cP s by omega)) ?_
        rintro v34 M34 ⟨rfl, I34, J34, rfl, hI34, hrw34, hja34, hjb34⟩
        refine XP_ifN (x := 1)  rfl (by omega) (fun (b4 : ¬ 1 = 0) => ?_) (fun (b4 : 1 = 0) => absurd b4 (by omega))
        refine XP_n 2 (pc' := 9) (ls' := [.ref (0), .int (nI (rn)), .int (nI (pn)), .int (nI (yn)), .int (nI (3))]) (st' := [.int (nI (yn)), .ref (0)]) (M' := (I34, J34, Rx R, N, G)) rfl ?_
        refine XP_pure rfl rfl (h_isYear hI34.1 hI34.2.1 _) ?_
        refine XP_s rfl ?_
        refine XP_beq (fun b10 => absurd g2 b10) (fun b10 => ?_)
        refine XP_n 3 (pc' := 14) (ls' := [.ref (0), .int (nI (rn)), .int (nI (pn)), .int (nI (yn)), .int (nI (3))]) (st' := [.int (nI (3)), .int (nI (0)), .int (nI (3))]) (M' := (I34, J34, Rx R, N, G)) rfl ?_
        refine XP_pure rfl rfl (w_H X _ _ 0 3 _) ?_
        refine XP_s rfl ?_
        refine XP_bne (fun b15 => ?_) (fun b15 => absurd g3 b15)
        refine XP_n 4 (pc' := 22) (ls' := [.ref (0), .int (nI (rn)), .int (nI (pn)), .int (nI (yn)), .int (nI (3))]) (st' := [.int (nI (3)), .int (nI (yn)), .ref (16)]) (M' := (I34, J34, Rx R, N, G)) rfl ?_
        have htold : TP X (d + 11) n_Course_told [.ref 16, .int (nI yn), .int (nI 3)] (I34, J34, Rx R, N, G) (Ret (.int (nI 1)) (I34, J34, Rx R, N, G)) := by
          unfold TP
          show XP X _ k_Course_told 0 [.ref (16), .int (nI (yn)), .int (nI (3))] [] _ _
          refine XP_n 1 (pc' := 1) (ls' := [.ref (16), .int (nI (yn)), .int (nI (3))]) (st' := [.int (nI (yn))]) (M' := (I34, J34, Rx R, N, G)) rfl ?_
          refine XP_ifN (x := yn)  rfl (by omega) (fun (b1 : yn < 0) => absurd b1 (by omega)) (fun (b1 : 0 ≤ yn) => ?_)
          refine XP_n 2 (pc' := 4) (ls' := [.ref (16), .int (nI (yn)), .int (nI (3))]) (st' := [.int (nI (16)), .int (nI (yn))]) (M' := (I34, J34, Rx R, N, G)) rfl ?_
          refine XP_icN (x := yn) (y := 16) rfl (by omega) (by omega) (fun (b4 : yn < 16) => ?_) (fun (b4 : 16 ≤ yn) => absurd b4 (by omega))
          refine XP_n 1 (pc' := 8) (ls' := [.ref (16), .int (nI (yn)), .int (nI (3))]) (st' := [.int (nI (3))]) (M' := (I34, J34, Rx R, N, G)) rfl ?_
          refine XP_tabD 3 0 2 24 rfl (by omega) rfl rfl (by omega) rfl ?_
          refine XP_n 3 (pc' := 27) (ls' := [.ref (16), .int (nI (yn)), .int (nI (3))]) (st' := [.int (nI (yn)), .ref (20)]) (M' := (I34, J34, Rx R, N, G)) rfl ?_
          refine XP_braw rfl rfl (show yn < 16 by omega) rfl (by omega) ?_
          rw [show I34 20 yn = nI (1) from ((hrw34 yn hyn).2.2.2).trans (by rw [hlb]; rfl)]
          refine XP_ifN (x := 1)  rfl (by omega) (fun (b28 : 1 = 0) => absurd b28 (by omega)) (fun (b28 : ¬ 1 = 0) => ?_)
          refine XP_n 2 (pc' := 32) (ls' := [.ref (16), .int (nI (yn)), .int (nI (3))]) (st' := [.int (nI (1))]) (M' := (I34, J34, Rx R, N, G)) rfl ?_
          exact XP_ret rfl ⟨rfl, rfl⟩
        refine XP_pure rfl rfl htold ?_
        exact XP_ret rfl ⟨rfl, _, _, rfl, hI34⟩
      · unfold TP
        show XP X _ k_M_row 0 [.ref (99), .int (nI (rn)), .int (nI (pn)), .int (nI (yn)), .int (nI (3))] [] _ _
        refine XP_n 2 (pc' := 2) (ls' := [.ref (99), .int (nI (rn)), .int (nI (pn)), .int (nI (yn)), .int (nI (3))]) (st' := [.int (nI (rn)), .ref (99)]) (M' := (I, J, Rx R, N, G)) rfl ?_
        refine XP_pure rfl rfl (m_isRule hI.1 hI.2.1 _) ?_
        refine XP_s rfl ?_
        refine XP_beq (fun b3 => absurd g0 b3) (fun b3 => ?_)
        refine XP_n 2 (pc' := 6) (ls' := [.ref (99), .int (nI (rn)), .int (nI (pn)), .int (nI (yn)), .int (nI (3))]) (st' := [.int (nI (pn)), .ref (99)]) (M' := (I, J, Rx R, N, G)) rfl ?_
        refine XP_pure rfl rfl (m_isPath hI.1 hI.2.1 _) ?_
        refine XP_s rfl ?_
        refine XP_bne (fun b7 => ?_) (fun b7 => absurd g1 b7)
        refine XP_n 2 (pc' := 12) (ls' := [.ref (99), .int (nI (rn)), .int (nI (pn)), .int (nI (yn)), .int (nI (3))]) (st' := [.int (nI (yn)), .ref (99)]) (M' := (I, J, Rx R, N, G)) rfl ?_
        refine XP_pure rfl rfl (m_isYear hI.1 hI.2.1 _) ?_
        refine XP_s rfl ?_
        refine XP_beq (fun b13 => absurd g2 b13) (fun b13 => ?_)
        refine XP_n 3 (pc' := 17) (ls' := [.ref (99), .int (nI (rn)), .int (nI (pn)), .int (nI (yn)), .int (nI (3))]) (st' := [.int (nI (3)), .int (nI (0)), .int (nI (3))]) (M' := (I, J, Rx R, N, G)) rfl ?_
        refine XP_pure rfl rfl (w_M X _ _ 0 3 _) ?_
        refine XP_s rfl ?_
        refine XP_bne (fun b18 => ?_) (fun b18 => absurd g3 b18)
        refine XP_n 3 (pc' := 24) (ls' := [.ref (99), .int (nI (rn)), .int (nI (pn)), .int (nI (yn)), .int (nI (3))]) (st' := [.int (nI (pn)), .int (nI (rn)), .ref (99)]) (M' := (I, J, Rx R, N, G)) rfl ?_
        refine XP_call rfl rfl (m_tot hI.1 hW (show rn < cR s by omega) (show pn < cP s by omega)) ?_
        rintro v35 M35 ⟨rfl, I35, J35, rfl, hO35, hJ35, hrw35, hja35⟩
        have hI35 := hI.m (hO35.sub (by simp)) (hJ35.sub (by simp))
        refine XP_n 2 (pc' := 27) (ls' := [.ref (99), .int (nI (rn)), .int (nI (pn)), .int (nI (yn)), .int (nI (3))]) (st' := [.int (nI (3))]) (M' := (I35, J35, Rx R, N, G)) rfl ?_
        refine XP_ifN (x := 3)  rfl (by omega) (fun (b27 : ¬ 3 = 0) => ?_) (fun (b27 : 3 = 0) => absurd b27 (by omega))
        refine XP_n 2 (pc' := 35) (ls' := [.ref (99), .int (nI (rn)), .int (nI (pn)), .int (nI (yn)), .int (nI (3))]) (st' := [.int (nI (1)), .int (nI (3))]) (M' := (I35, J35, Rx R, N, G)) rfl ?_
        refine XP_icN (x := 3) (y := 1) rfl (by omega) (by omega) (fun (b35 : ¬ 3 = 1) => ?_) (fun (b35 : 3 = 1) => absurd b35 (by omega))
        refine XP_n 2 (pc' := 43) (ls' := [.ref (99), .int (nI (rn)), .int (nI (pn)), .int (nI (yn)), .int (nI (3))]) (st' := [.int (nI (2)), .int (nI (3))]) (M' := (I35, J35, Rx R, N, G)) rfl ?_
        refine XP_icN (x := 3) (y := 2) rfl (by omega) (by omega) (fun (b43 : ¬ 3 = 2) => ?_) (fun (b43 : 3 = 2) => absurd b43 (by omega))
        refine XP_n 3 (pc' := 52) (ls' := [.ref (99), .int (nI (rn)), .int (nI (pn)), .int (nI (yn)), .int (nI (3))]) (st' := [.int (nI (yn)), .ref (130)]) (M' := (I35, J35, Rx R, N, G)) rfl ?_
        refine XP_braw rfl rfl (show yn < 17 by omega) rfl (by omega) ?_
        rw [show I35 130 yn = nI (1) from ((hrw35 yn hyn).2.2.2).trans (by rw [hlb]; rfl)]
        refine XP_ifN (x := 1)  rfl (by omega) (fun (b53 : 1 = 0) => absurd b53 (by omega)) (fun (b53 : ¬ 1 = 0) => ?_)
        refine XP_n 2 (pc' := 57) (ls' := [.ref (99), .int (nI (rn)), .int (nI (pn)), .int (nI (yn)), .int (nI (3))]) (st' := [.int (nI (1))]) (M' := (I35, J35, Rx R, N, G)) rfl ?_
        exact XP_ret rfl ⟨rfl, _, _, rfl, hI35⟩
    | false =>
      refine ⟨nI 0, ?_, fun I J hI => ?_⟩
      · unfold TP
        show XP X _ k_H_row 0 [.ref (0), .int (nI (rn)), .int (nI (pn)), .int (nI (yn)), .int (nI (3))] [] _ _
        refine XP_n 3 (pc' := 3) (ls' := [.ref (0), .int (nI (rn)), .int (nI (pn)), .int (nI (yn)), .int (nI (3))]) (st' := [.int (nI (pn)), .int (nI (rn)), .ref (0)]) (M' := (I, J, Rx R, N, G)) rfl ?_
        refine XP_call rfl rfl (c_followedT hI (show rn < cR s by omega) (show pn < cP s by omega)) ?_
        rintro v36 M36 ⟨rfl, I36, J36, rfl, hI36, hrw36, hja36, hjb36⟩
        refine XP_ifN (x := 1)  rfl (by omega) (fun (b4 : ¬ 1 = 0) => ?_) (fun (b4 : 1 = 0) => absurd b4 (by omega))
        refine XP_n 2 (pc' := 9) (ls' := [.ref (0), .int (nI (rn)), .int (nI (pn)), .int (nI (yn)), .int (nI (3))]) (st' := [.int (nI (yn)), .ref (0)]) (M' := (I36, J36, Rx R, N, G)) rfl ?_
        refine XP_pure rfl rfl (h_isYear hI36.1 hI36.2.1 _) ?_
        refine XP_s rfl ?_
        refine XP_beq (fun b10 => absurd g2 b10) (fun b10 => ?_)
        refine XP_n 3 (pc' := 14) (ls' := [.ref (0), .int (nI (rn)), .int (nI (pn)), .int (nI (yn)), .int (nI (3))]) (st' := [.int (nI (3)), .int (nI (0)), .int (nI (3))]) (M' := (I36, J36, Rx R, N, G)) rfl ?_
        refine XP_pure rfl rfl (w_H X _ _ 0 3 _) ?_
        refine XP_s rfl ?_
        refine XP_bne (fun b15 => ?_) (fun b15 => absurd g3 b15)
        refine XP_n 4 (pc' := 22) (ls' := [.ref (0), .int (nI (rn)), .int (nI (pn)), .int (nI (yn)), .int (nI (3))]) (st' := [.int (nI (3)), .int (nI (yn)), .ref (16)]) (M' := (I36, J36, Rx R, N, G)) rfl ?_
        have htold : TP X (d + 11) n_Course_told [.ref 16, .int (nI yn), .int (nI 3)] (I36, J36, Rx R, N, G) (Ret (.int (nI 0)) (I36, J36, Rx R, N, G)) := by
          unfold TP
          show XP X _ k_Course_told 0 [.ref (16), .int (nI (yn)), .int (nI (3))] [] _ _
          refine XP_n 1 (pc' := 1) (ls' := [.ref (16), .int (nI (yn)), .int (nI (3))]) (st' := [.int (nI (yn))]) (M' := (I36, J36, Rx R, N, G)) rfl ?_
          refine XP_ifN (x := yn)  rfl (by omega) (fun (b1 : yn < 0) => absurd b1 (by omega)) (fun (b1 : 0 ≤ yn) => ?_)
          refine XP_n 2 (pc' := 4) (ls' := [.ref (16), .int (nI (yn)), .int (nI (3))]) (st' := [.int (nI (16)), .int (nI (yn))]) (M' := (I36, J36, Rx R, N, G)) rfl ?_
          refine XP_icN (x := yn) (y := 16) rfl (by omega) (by omega) (fun (b4 : yn < 16) => ?_) (fun (b4 : 16 ≤ yn) => absurd b4 (by omega))
          refine XP_n 1 (pc' := 8) (ls' := [.ref (16), .int (nI (yn)), .int (nI (3))]) (st' := [.int (nI (3))]) (M' := (I36, J36, Rx R, N, G)) rfl ?_
          refine XP_tabD 3 0 2 24 rfl (by omega) rfl rfl (by omega) rfl ?_
          refine XP_n 3 (pc' := 27) (ls' := [.ref (16), .int (nI (yn)), .int (nI (3))]) (st' := [.int (nI (yn)), .ref (20)]) (M' := (I36, J36, Rx R, N, G)) rfl ?_
          refine XP_braw rfl rfl (show yn < 16 by omega) rfl (by omega) ?_
          rw [show I36 20 yn = nI (0) from ((hrw36 yn hyn).2.2.2).trans (by rw [hlb]; rfl)]
          refine XP_ifN (x := 0)  rfl (by omega) (fun (b28 : 0 = 0) => ?_) (fun (b28 : ¬ 0 = 0) => absurd b28 (by omega))
          refine XP_n 1 (pc' := 32) (ls' := [.ref (16), .int (nI (yn)), .int (nI (3))]) (st' := [.int (nI (0))]) (M' := (I36, J36, Rx R, N, G)) rfl ?_
          exact XP_ret rfl ⟨rfl, rfl⟩
        refine XP_pure rfl rfl htold ?_
        exact XP_ret rfl ⟨rfl, _, _, rfl, hI36⟩
      · unfold TP
        show XP X _ k_M_row 0 [.ref (99), .int (nI (rn)), .int (nI (pn)), .int (nI (yn)), .int (nI (3))] [] _ _
        refine XP_n 2 (pc' := 2) (ls' := [.ref (99), .int (nI (rn)), .int (nI (pn)), .int (nI (yn)), .int (nI (3))]) (st' := [.int (nI (rn)), .ref (99)]) (M' := (I, J, Rx R, N, G)) rfl ?_
        refine XP_pure rfl rfl (m_isRule hI.1 hI.2.1 _) ?_
        refine XP_s rfl ?_
        refine XP_beq (fun b3 => absurd g0 b3) (fun b3 => ?_)
        refine XP_n 2 (pc' := 6) (ls' := [.ref (99), .int (nI (rn)), .int (nI (pn)), .int (nI (yn)), .int (nI (3))]) (st' := [.int (nI (pn)), .ref (99)]) (M' := (I, J, Rx R, N, G)) rfl ?_
        refine XP_pure rfl rfl (m_isPath hI.1 hI.2.1 _) ?_
        refine XP_s rfl ?_
        refine XP_bne (fun b7 => ?_) (fun b7 => absurd g1 b7)
        refine XP_n 2 (pc' := 12) (ls' := [.ref (99), .int (nI (rn)), .int (nI (pn)), .int (nI (yn)), .int (nI (3))]) (st' := [.int (nI (yn)), .ref (99)]) (M' := (I, J, Rx R, N, G)) rfl ?_
        refine XP_pure rfl rfl (m_isYear hI.1 hI.2.1 _) ?_
        refine XP_s rfl ?_
        refine XP_beq (fun b13 => absurd g2 b13) (fun b13 => ?_)
        refine XP_n 3 (pc' := 17) (ls' := [.ref (99), .int (nI (rn)), .int (nI (pn)), .int (nI (yn)), .int (nI (3))]) (st' := [.int (nI (3)), .int (nI (0)), .int (nI (3))]) (M' := (I, J, Rx R, N, G)) rfl ?_
        refine XP_pure rfl rfl (w_M X _ _ 0 3 _) ?_
        refine XP_s rfl ?_
        refine XP_bne (fun b18 => ?_) (fun b18 => absurd g3 b18)
        refine XP_n 3 (pc' := 24) (ls' := [.ref (99), .int (nI (rn)), .int (nI (pn)), .int (nI (yn)), .int (nI (3))]) (st' := [.int (nI (pn)), .int (nI (rn)), .ref (99)]) (M' := (I, J, Rx R, N, G)) rfl ?_
        refine XP_call rfl rfl (m_tot hI.1 hW (show rn < cR s by omega) (show pn < cP s by omega)) ?_
        rintro v37 M37 ⟨rfl, I37, J37, rfl, hO37, hJ37, hrw37, hja37⟩
        have hI37 := hI.m (hO37.sub (by simp)) (hJ37.sub (by simp))
        refine XP_n 2 (pc' := 27) (ls' := [.ref (99), .int (nI (rn)), .int (nI (pn)), .int (nI (yn)), .int (nI (3))]) (st' := [.int (nI (3))]) (M' := (I37, J37, Rx R, N, G)) rfl ?_
        refine XP_ifN (x := 3)  rfl (by omega) (fun (b27 : ¬ 3 = 0) => ?_) (fun (b27 : 3 = 0) => absurd b27 (by omega))
        refine XP_n 2 (pc' := 35) (ls' := [.ref (99), .int (nI (rn)), .int (nI (pn)), .int (nI (yn)), .int (nI (3))]) (st' := [.int (nI (1)), .int (nI (3))]) (M' := (I37, J37, Rx R, N, G)) rfl ?_
        refine XP_icN (x := 3) (y := 1) rfl (by omega) (by omega) (fun (b35 : ¬ 3 = 1) => ?_) (fun (b35 : 3 = 1) => absurd b35 (by omega))
        refine XP_n 2 (pc' := 43) (ls' := [.ref (99), .int (nI (rn)), .int (nI (pn)), .int (nI (yn)), .int (nI (3))]) (st' := [.int (nI (2)), .int (nI (3))]) (M' := (I37, J37, Rx R, N, G)) rfl ?_
        refine XP_icN (x := 3) (y := 2) rfl (by omega) (by omega) (fun (b43 : ¬ 3 = 2) => ?_) (fun (b43 : 3 = 2) => absurd b43 (by omega))
        refine XP_n 3 (pc' := 52) (ls' := [.ref (99), .int (nI (rn)), .int (nI (pn)), .int (nI (yn)), .int (nI (3))]) (st' := [.int (nI (yn)), .ref (130)]) (M' := (I37, J37, Rx R, N, G)) rfl ?_
        refine XP_braw rfl rfl (show yn < 17 by omega) rfl (by omega) ?_
        rw [show I37 130 yn = nI (0) from ((hrw37 yn hyn).2.2.2).trans (by rw [hlb]; rfl)]
        refine XP_ifN (x := 0)  rfl (by omega) (fun (b53 : 0 = 0) => ?_) (fun (b53 : ¬ 0 = 0) => absurd b53 (by omega))
        refine XP_n 1 (pc' := 57) (ls' := [.ref (99), .int (nI (rn)), .int (nI (pn)), .int (nI (yn)), .int (nI (3))]) (st' := [.int (nI (0))]) (M' := (I37, J37, Rx R, N, G)) rfl ?_
        exact XP_ret rfl ⟨rfl, _, _, rfl, hI37⟩
end
