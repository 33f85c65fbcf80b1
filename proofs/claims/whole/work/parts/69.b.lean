/-! faces: regrets, when decided, the surest -/
def gRg (s : Nat → Nat → Int32) (r p : Nat) : Int64 := lN (nTot s r p) - lN (pBest s (p + 1) (s 99 3) 0)
def gWo (s : Nat → Nat → Int32) (r : Nat) : Nat → Int64
  | 0 => gRg s r 0
  | n + 1 => if gWo s r n < gRg s r (n + 1) then gRg s r (n + 1) else gWo s r n
theorem maxL (x y : Int64) : (if y < x then x else y) = (if x < y then y else x) := by
  by_cases h : x < y
  · rw [if_pos h, if_neg (Int64.not_lt.mpr (Int64.le_of_lt h))]
  · rw [if_neg h]
    by_cases h2 : y < x
    · rw [if_pos h2]
    · rw [if_neg h2]
      exact Int64.le_antisymm (Int64.not_lt.mp h) (Int64.not_lt.mp h2)
theorem rg_no {a b : Nat} (hb : b < 4611686018427387904) (ha : a < 4611686018427387904) : cL (-4611686018427387904) < lN a - lN b := by
  rw [Int64.lt_iff_toInt_lt, Int64.toInt_sub, pk_lT (by omega), pk_lT (by omega), show (cL (-4611686018427387904)).toInt = -4611686018427387904 by decide]
  simp [Int.bmod]
  omega
def sFr (s : Nat → Nat → Int32) (q : Nat) : Nat → Nat → Nat
  | 0, y => y
  | n + 1, y => if pU s q (s 99 3) 0 y = 0 then sFr s q n (y + 1) else y
theorem sFr_le (s : Nat → Nat → Int32) (q : Nat) : ∀ n y, y ≤ sFr s q n y ∧ sFr s q n y ≤ y + n
  | 0, y => ⟨Nat.le_refl _, Nat.le_refl _⟩
  | n + 1, y => by
    unfold sFr
    have := sFr_le s q n (y + 1)
    split <;> omega
def sDe (s : Nat → Nat → Int32) : Nat → Nat → Int32 → Int32
  | 0, _, l => l
  | n + 1, i, l => if sFr s (i + 1) (cY s) 0 = cY s then cI (-1) else sDe s n (i + 1) (if l < nI (sFr s (i + 1) (cY s) 0) then nI (sFr s (i + 1) (cY s) 0) else l)
section
variable {X : hX} {d : Nat} {s I : Nat → Nat → Int32} {J : Nat → Nat → Int64} {R : Nat → Nat → Option Nat} {N : Nat → Nat} {G : hG}
theorem f_regret (hI : Inv s R N I J) (r : Int32) (p : Int32) : ∃ v, TP X (d + 12) n_H_regret [.ref 0, .int r, .int p] (I, J, Rx R, N, G) (QP s R N G (.long v)) ∧ ∀ I J, Inv s R N I J → TP X (d + 12) n_M_regret [.ref 99, .int r, .int p] (I, J, Rx R, N, G) (QP s R N G (.long v)) := by
  have hI0 := hI
  obtain ⟨hS, hW, hL, hC, hch⟩ := hI0
  have hy16 := hW.y.2
  have hp4 := hW.p.2
  have hs6 := hW.ns.2
  have hr8 := hW.r.2
  have hst8 := hW.st.2
  have ht3 := hW.t.2
  have hw60 := hW.w.2
  have hcwa := cWA_le hW
  by_cases g0 : inN (r) (cR s)
  rotate_left
  · skip
    refine ⟨cL (-4611686018427387904), ?_, fun I J hI => ?_⟩
    · unfold TP
      show XP X _ k_H_regret 0 [.ref (0), .int (r), .int (p)] [] _ _
      refine XP_n 3 (pc' := 3) (ls' := [.ref (0), .int (r), .int (p)]) (st' := [.int (p), .int (r), .ref (0)]) (M' := (I, J, Rx R, N, G)) rfl ?_
      refine XP_pure rfl rfl (c_followedF hI (fun z => g0 z.1)) ?_
      refine XP_ifN (x := 0)  rfl (by omega) (fun (b4 : 0 = 0) => ?_) (fun (b4 : ¬ 0 = 0) => absurd b4 (by omega))
      refine XP_n 1 (pc' := 16) (ls' := [.ref (0), .int (r), .int (p)]) (st' := [.long (cL (-4611686018427387904))]) (M' := (I, J, Rx R, N, G)) rfl ?_
      exact XP_ret rfl ⟨rfl, _, _, rfl, hI⟩
    · unfold TP
      show XP X _ k_M_regret 0 [.ref (99), .int (r), .int (p)] [] _ _
      refine XP_n 2 (pc' := 2) (ls' := [.ref (99), .int (r), .int (p)]) (st' := [.int (r), .ref (99)]) (M' := (I, J, Rx R, N, G)) rfl ?_
      refine XP_pure rfl rfl (m_isRule hI.1 hI.2.1 _) ?_
      refine XP_s rfl ?_
      refine XP_beq (fun b3 => ?_) (fun b3 => absurd b3 g0)
      refine XP_n 1 (pc' := 19) (ls' := [.ref (99), .int (r), .int (p)]) (st' := [.long (cL (-4611686018427387904))]) (M' := (I, J, Rx R, N, G)) rfl ?_
      exact XP_ret rfl ⟨rfl, _, _, rfl, hI⟩
  obtain ⟨rn, hrn, rfl, er⟩ := inN_nat g0 (by omega)
  by_cases g1 : inN (p) (cP s)
  rotate_left
  · skip
    refine ⟨cL (-4611686018427387904), ?_, fun I J hI => ?_⟩
    · unfold TP
      show XP X _ k_H_regret 0 [.ref (0), .int (nI (rn)), .int (p)] [] _ _
      refine XP_n 3 (pc' := 3) (ls' := [.ref (0), .int (nI (rn)), .int (p)]) (st' := [.int (p), .int (nI (rn)), .ref (0)]) (M' := (I, J, Rx R, N, G)) rfl ?_
      refine XP_pure rfl rfl (c_followedF hI (fun z => g1 z.2)) ?_
      refine XP_ifN (x := 0)  rfl (by omega) (fun (b4 : 0 = 0) => ?_) (fun (b4 : ¬ 0 = 0) => absurd b4 (by omega))
      refine XP_n 1 (pc' := 16) (ls' := [.ref (0), .int (nI (rn)), .int (p)]) (st' := [.long (cL (-4611686018427387904))]) (M' := (I, J, Rx R, N, G)) rfl ?_
      exact XP_ret rfl ⟨rfl, _, _, rfl, hI⟩
    · unfold TP
      show XP X _ k_M_regret 0 [.ref (99), .int (nI (rn)), .int (p)] [] _ _
      refine XP_n 2 (pc' := 2) (ls' := [.ref (99), .int (nI (rn)), .int (p)]) (st' := [.int (nI (rn)), .ref (99)]) (M' := (I, J, Rx R, N, G)) rfl ?_
      refine XP_pure rfl rfl (m_isRule hI.1 hI.2.1 _) ?_
      refine XP_s rfl ?_
      refine XP_beq (fun b3 => absurd g0 b3) (fun b3 => ?_)
      refine XP_n 2 (pc' := 6) (ls' := [.ref (99), .int (nI (rn)), .int (p)]) (st' := [.int (p), .ref (99)]) (M' := (I, J, Rx R, N, G)) rfl ?_
      refine XP_pure rfl rfl (m_isPath hI.1 hI.2.1 _) ?_
      refine XP_s rfl ?_
      refine XP_beq (fun b7 => ?_) (fun b7 => absurd b7 g1)
      refine XP_n 1 (pc' := 19) (ls' := [.ref (99), .int (nI (rn)), .int (p)]) (st' := [.long (cL (-4611686018427387904))]) (M' := (I, J, Rx R, N, G)) rfl ?_
      exact XP_ret rfl ⟨rfl, _, _, rfl, hI⟩
  obtain ⟨pn, hpn, rfl, ep⟩ := inN_nat g1 (by omega)
  refine ⟨gRg s rn pn, ?_, fun I J hI => ?_⟩
  · unfold TP
    show XP X _ k_H_regret 0 [.ref (0), .int (nI (rn)), .int (nI (pn))] [] _ _
    refine XP_n 3 (pc' := 3) (ls' := [.ref (0), .int (nI (rn)), .int (nI (pn))]) (st' := [.int (nI (pn)), .int (nI (rn)), .ref (0)]) (M' := (I, J, Rx R, N, G)) rfl ?_
    refine XP_call rfl rfl (c_followedT hI (show rn < cR s by omega) (show pn < cP s by omega)) ?_
    rintro v21 M21 ⟨rfl, I21, J21, rfl, hI21, hrw21, hja21, hjb21⟩
    refine XP_ifN (x := 1)  rfl (by omega) (fun (b4 : 1 = 0) => absurd b4 (by omega)) (fun (b4 : ¬ 1 = 0) => ?_)
    refine XP_n 2 (pc' := 7) (ls' := [.ref (0), .int (nI (rn)), .int (nI (pn))]) (st' := [.ref (16)]) (M' := (I21, J21, Rx R, N, G)) rfl ?_
    refine XP_pure rfl rfl (c_sum hja21 hjb21) ?_
    rw [show gTo _ = lN (nTot s rn (pn)) from (nTot_ok hW rn (pn)).1]
    have htt21 := (nTot_ok hW rn (pn)).2
    refine XP_n 3 (pc' := 11) (ls' := [.ref (0), .int (nI (rn)), .int (nI (pn))]) (st' := [.int (nI (pn)), .ref (21), .long (lN (nTot s rn (pn)))]) (M' := (I21, J21, Rx R, N, G)) rfl ?_
    refine XP_call rfl rfl (q_C_bestP hI21 (show pn < cP s by omega)) ?_
    rintro v22 M22 ⟨rfl, I22, J22, rfl, hI22, hpl22, hfr22⟩
    have hpb22 := pL_b hI22.2.1 (pn + 1) (s 99 3) 0 (cY s) 0 (by omega)
    rw [show pL s (pn + 1) (s 99 3) 0 (cY s) 0 = pBest s (pn + 1) (s 99 3) 0 from rfl] at hpb22
    refine XP_getlw rfl (by rw [(plq R N (show (pn + 1) < 5 by omega)).1]; rfl) ?_
    show XP X _ k_H_regret 13 [.ref (0), .int (nI (rn)), .int (nI (pn))] [.long (J22 (68 + 2 * (pn + 1)) 1), .long (lN (nTot s rn (pn)))] _ _
    rw [show J22 (68 + 2 * (pn + 1)) 1 = lN (pBest s (pn + 1) (s 99 3) 0) from hpl22.1]
    refine XP_n 2 (pc' := 16) (ls' := [.ref (0), .int (nI (rn)), .int (nI (pn))]) (st' := [.long ((lN (nTot s rn (pn))) - (lN (pBest s (pn + 1) (s 99 3) 0)))]) (M' := (I22, J22, Rx R, N, G)) rfl ?_
    exact XP_ret rfl ⟨rfl, _, _, rfl, hI22⟩
  · unfold TP
    show XP X _ k_M_regret 0 [.ref (99), .int (nI (rn)), .int (nI (pn))] [] _ _
    refine XP_n 2 (pc' := 2) (ls' := [.ref (99), .int (nI (rn)), .int (nI (pn))]) (st' := [.int (nI (rn)), .ref (99)]) (M' := (I, J, Rx R, N, G)) rfl ?_
    refine XP_pure rfl rfl (m_isRule hI.1 hI.2.1 _) ?_
    refine XP_s rfl ?_
    refine XP_beq (fun b3 => absurd g0 b3) (fun b3 => ?_)
    refine XP_n 2 (pc' := 6) (ls' := [.ref (99), .int (nI (rn)), .int (nI (pn))]) (st' := [.int (nI (pn)), .ref (99)]) (M' := (I, J, Rx R, N, G)) rfl ?_
    refine XP_pure rfl rfl (m_isPath hI.1 hI.2.1 _) ?_
    refine XP_s rfl ?_
    refine XP_beq (fun b7 => absurd g1 b7) (fun b7 => ?_)
    refine XP_n 3 (pc' := 11) (ls' := [.ref (99), .int (nI (rn)), .int (nI (pn))]) (st' := [.int (nI (pn)), .int (nI (rn)), .ref (99)]) (M' := (I, J, Rx R, N, G)) rfl ?_
    refine XP_call rfl (rfl) (q_M_tot hI (show rn < cR s by omega) (show pn < cP s by omega)) ?_
    rintro v23 M23 ⟨rfl, I23, J23, rfl, hI23⟩
    rw [(nTot_ok hW rn (pn)).1]
    have htt23 := (nTot_ok hW rn (pn)).2
    refine XP_n 3 (pc' := 15) (ls' := [.ref (99), .int (nI (rn)), .int (nI (pn))]) (st' := [.int (nI (0)), .int (nI (pn)), .ref (99), .long (lN (nTot s rn (pn)))]) (M' := (I23, J23, Rx R, N, G)) rfl ?_
    refine XP_call rfl rfl (q_M_bestP hI23 (show pn < cP s by omega) (by omega)) ?_
    rintro v24 M24 ⟨rfl, I24, J24, rfl, hI24, hpl24⟩
    have hpb24 := pL_b hI24.2.1 (pn + 1) (s 99 3) 0 (cY s) 0 (by omega)
    rw [show pL s (pn + 1) (s 99 3) 0 (cY s) 0 = pBest s (pn + 1) (s 99 3) 0 from rfl] at hpb24
    refine XP_n 2 (pc' := 19) (ls' := [.ref (99), .int (nI (rn)), .int (nI (pn))]) (st' := [.long ((lN (nTot s rn (pn))) - (lN (pBest s (pn + 1) (s 99 3) 0)))]) (M' := (I24, J24, Rx R, N, G)) rfl ?_
    exact XP_ret rfl ⟨rfl, _, _, rfl, hI24⟩
theorem l_c_worst (hW : Wf s) {r : Nat} (hr : r < cR s) : ∀ (n i : Nat) (I : Nat → Nat → Int32) (J : Nat → Nat → Int64), i + 1 + n = cP s → Inv s R N I J → XP X (d + 9) k_H_worstOf 4 [.ref (0), .ref (1000 + 2 * r), .long (gWo s r i), xj, .int (nI (i + 1))] [] (I, J, Rx R, N, G) (QP s R N G (.long (gWo s r (cP s - 1)))) := by
  have hp4 := hW.p.2
  have hr8 := hW.r.2
  have hy16 := hW.y.2
  intro n
  induction n with
  | zero =>
    rintro i I J hi hI
    obtain rfl : i = cP s - 1 := by omega
    have hL := hI.2.2.1
    refine XP_n 3 (pc' := 7) (ls' := [.ref (0), .ref (1000 + 2 * r), .long (gWo s r (cP s - 1)), xj, .int (nI (cP s - 1 + 1))]) (st' := [.ref (1), .int (nI (cP s - 1 + 1))]) (M' := (I, J, Rx R, N, G)) rfl ?_
    refine XP_geti hI.1 rfl rfl rfl ?_
    rw [hW.p.1]
    refine XP_icN (x := cP s - 1 + 1) (y := cP s) rfl (by omega) (by omega) (fun (b8 : cP s ≤ cP s - 1 + 1) => ?_) (fun (b8 : cP s - 1 + 1 < cP s) => absurd b8 (by omega))
    refine XP_n 1 (pc' := 31) (ls' := [.ref (0), .ref (1000 + 2 * r), .long (gWo s r (cP s - 1)), xj, .int (nI (cP s - 1 + 1))]) (st' := [.long (gWo s r (cP s - 1))]) (M' := (I, J, Rx R, N, G)) rfl ?_
    exact XP_ret rfl ⟨rfl, _, _, rfl, hI⟩
  | succ n ih =>
    rintro i I J hi hI
    have hL := hI.2.2.1
    have ew : gWo s r (i + 1) = (if gWo s r i < gRg s r (i + 1) then gRg s r (i + 1) else gWo s r i) := rfl
    refine XP_n 3 (pc' := 7) (ls' := [.ref (0), .ref (1000 + 2 * r), .long (gWo s r i), xj, .int (nI (i + 1))]) (st' := [.ref (1), .int (nI (i + 1))]) (M' := (I, J, Rx R, N, G)) rfl ?_
    refine XP_geti hI.1 rfl rfl rfl ?_
    rw [hW.p.1]
    refine XP_icN (x := i + 1) (y := cP s) rfl (by omega) (by omega) (fun (b8 : cP s ≤ i + 1) => absurd b8 (by omega)) (fun (b8 : i + 1 < cP s) => ?_)
    refine XP_n 6 (pc' := 15) (ls' := [.ref (0), .ref (1000 + 2 * r), .long (gWo s r i), xj, .int (nI (i + 1))]) (st' := [.int (nI (i + 1)), .ref (1000 + 2 * r), .ref (1), .ref (16)]) (M' := (I, J, Rx R, N, G)) rfl ?_
    refine XP_call rfl rfl (q_C_follow hI (show r < cR s by omega) (show i + 1 < cP s by omega)) ?_
    rintro v25 M25 ⟨rfl, I25, J25, rfl, hI25, hrw25, hja25, hjb25⟩
    refine XP_n 3 (pc' := 19) (ls' := [.ref (0), .ref (1000 + 2 * r), .long (gWo s r i), xj, .int (nI (i + 1))]) (st' := [.ref (16), .long (gWo s r i)]) (M' := (I25, J25, Rx R, N, G)) rfl ?_
    refine XP_pure rfl rfl (c_sum hja25 hjb25) ?_
    rw [show gTo _ = lN (nTot s r (i + 1)) from (nTot_ok hW r (i + 1)).1]
    have htt25 := (nTot_ok hW r (i + 1)).2
    refine XP_n 3 (pc' := 23) (ls' := [.ref (0), .ref (1000 + 2 * r), .long (gWo s r i), xj, .int (nI (i + 1))]) (st' := [.int (nI (i + 1)), .ref (21), .long (lN (nTot s r (i + 1))), .long (gWo s r i)]) (M' := (I25, J25, Rx R, N, G)) rfl ?_
    refine XP_call rfl rfl (q_C_bestP hI25 (show i + 1 < cP s by omega)) ?_
    rintro v26 M26 ⟨rfl, I26, J26, rfl, hI26, hpl26, hfr26⟩
    have hpb26 := pL_b hI26.2.1 (i + 1 + 1) (s 99 3) 0 (cY s) 0 (by omega)
    rw [show pL s (i + 1 + 1) (s 99 3) 0 (cY s) 0 = pBest s (i + 1 + 1) (s 99 3) 0 from rfl] at hpb26
    refine XP_getlw rfl (by rw [(plq R N (show (i + 1 + 1) < 5 by omega)).1]; rfl) ?_
    show XP X _ k_H_worstOf 25 [.ref (0), .ref (1000 + 2 * r), .long (gWo s r i), xj, .int (nI (i + 1))] [.long (J26 (68 + 2 * (i + 1 + 1)) 1), .long (lN (nTot s r (i + 1))), .long (gWo s r i)] _ _
    rw [show J26 (68 + 2 * (i + 1 + 1)) 1 = lN (pBest s (i + 1 + 1) (s 99 3) 0) from hpl26.1]
    refine XP_n 4 (pc' := 29) (ls' := [.ref (0), .ref (1000 + 2 * r), .long ((if (lN (nTot s r (i + 1))) - (lN (pBest s (i + 1 + 1) (s 99 3) 0)) < gWo s r i then gWo s r i else (lN (nTot s r (i + 1))) - (lN (pBest s (i + 1 + 1) (s 99 3) 0)))), xj, .int (nI (i + 1) + nI (1))]) (st' := []) (M' := (I26, J26, Rx R, N, G)) rfl ?_
    rw [show nI (i + 1) + nI (1) = nI (i + 1 + 1) from nI_addE (rfl) rfl]
    refine XP_n 1 (pc' := 4) (ls' := [.ref (0), .ref (1000 + 2 * r), .long ((if (lN (nTot s r (i + 1))) - (lN (pBest s (i + 1 + 1) (s 99 3) 0)) < gWo s r i then gWo s r i else (lN (nTot s r (i + 1))) - (lN (pBest s (i + 1 + 1) (s 99 3) 0)))), xj, .int (nI (i + 1 + 1))]) (st' := []) (M' := (I26, J26, Rx R, N, G)) rfl ?_
    have ih2 := ih (i + 1) _ _ (by omega) hI26
    rw [ew, ← maxL] at ih2
    exact ih2
theorem c_worst (hI : Inv s R N I J) {r : Nat} (hr : r < cR s) (h0 : 0 < cP s) : TP X (d + 9) n_H_worstOf [.ref 0, .ref (1000 + 2 * r)] (I, J, Rx R, N, G) (QP s R N G (.long (gWo s r (cP s - 1)))) := by
  obtain ⟨hS, hW, hL, hC, hch⟩ := id hI
  have hp4 := hW.p.2
  have hr8 := hW.r.2
  have hy16 := hW.y.2
  unfold TP
  show XP X _ k_H_worstOf 0 [.ref (0), .ref (1000 + 2 * r), xj, xj, xj] [] _ _
  refine XP_n 4 (pc' := 4) (ls' := [.ref (0), .ref (1000 + 2 * r), .long (cL (-4611686018427387904)), xj, .int (nI (0))]) (st' := []) (M' := (I, J, Rx R, N, G)) rfl ?_
  refine XP_n 3 (pc' := 7) (ls' := [.ref (0), .ref (1000 + 2 * r), .long (cL (-4611686018427387904)), xj, .int (nI (0))]) (st' := [.ref (1), .int (nI (0))]) (M' := (I, J, Rx R, N, G)) rfl ?_
  refine XP_geti hI.1 rfl rfl rfl ?_
  rw [hW.p.1]
  refine XP_icN (x := 0) (y := cP s) rfl (by omega) (by omega) (fun (b8 : cP s ≤ 0) => absurd b8 (by omega)) (fun (b8 : 0 < cP s) => ?_)
  refine XP_n 6 (pc' := 15) (ls' := [.ref (0), .ref (1000 + 2 * r), .long (cL (-4611686018427387904)), xj, .int (nI (0))]) (st' := [.int (nI (0)), .ref (1000 + 2 * r), .ref (1), .ref (16)]) (M' := (I, J, Rx R, N, G)) rfl ?_
  refine XP_call rfl rfl (q_C_follow hI (show r < cR s by omega) (show 0 < cP s by omega)) ?_
  rintro v27 M27 ⟨rfl, I27, J27, rfl, hI27, hrw27, hja27, hjb27⟩
  refine XP_n 3 (pc' := 19) (ls' := [.ref (0), .ref (1000 + 2 * r), .long (cL (-4611686018427387904)), xj, .int (nI (0))]) (st' := [.ref (16), .long (cL (-4611686018427387904))]) (M' := (I27, J27, Rx R, N, G)) rfl ?_
  refine XP_pure rfl rfl (c_sum hja27 hjb27) ?_
  rw [show gTo _ = lN (nTot s r (0)) from (nTot_ok hW r (0)).1]
  have htt27 := (nTot_ok hW r (0)).2
  refine XP_n 3 (pc' := 23) (ls' := [.ref (0), .ref (1000 + 2 * r), .long (cL (-4611686018427387904)), xj, .int (nI (0))]) (st' := [.int (nI (0)), .ref (21), .long (lN (nTot s r (0))), .long (cL (-4611686018427387904))]) (M' := (I27, J27, Rx R, N, G)) rfl ?_
  refine XP_call rfl rfl (q_C_bestP hI27 (show 0 < cP s by omega)) ?_
  rintro v28 M28 ⟨rfl, I28, J28, rfl, hI28, hpl28, hfr28⟩
  have hpb28 := pL_b hI28.2.1 (0 + 1) (s 99 3) 0 (cY s) 0 (by omega)
  rw [show pL s (0 + 1) (s 99 3) 0 (cY s) 0 = pBest s (0 + 1) (s 99 3) 0 from rfl] at hpb28
  refine XP_getlw rfl (by rw [(plq R N (show (0 + 1) < 5 by omega)).1]; rfl) ?_
  show XP X _ k_H_worstOf 25 [.ref (0), .ref (1000 + 2 * r), .long (cL (-4611686018427387904)), xj, .int (nI (0))] [.long (J28 (68 + 2 * (0 + 1)) 1), .long (lN (nTot s r (0))), .long (cL (-4611686018427387904))] _ _
  rw [show J28 (68 + 2 * (0 + 1)) 1 = lN (pBest s (0 + 1) (s 99 3) 0) from hpl28.1]
  refine XP_n 4 (pc' := 29) (ls' := [.ref (0), .ref (1000 + 2 * r), .long ((if (lN (nTot s r (0))) - (lN (pBest s (0 + 1) (s 99 3) 0)) < cL (-4611686018427387904) then cL (-4611686018427387904) else (lN (nTot s r (0))) - (lN (pBest s (0 + 1) (s 99 3) 0)))), xj, .int (nI (0) + nI (1))]) (st' := []) (M' := (I28, J28, Rx R, N, G)) rfl ?_
  rw [show nI (0) + nI (1) = nI (0 + 1) from nI_addE (rfl) rfl]
  refine XP_n 1 (pc' := 4) (ls' := [.ref (0), .ref (1000 + 2 * r), .long ((if (lN (nTot s r (0))) - (lN (pBest s (0 + 1) (s 99 3) 0)) < cL (-4611686018427387904) then cL (-4611686018427387904) else (lN (nTot s r (0))) - (lN (pBest s (0 + 1) (s 99 3) 0)))), xj, .int (nI (0 + 1))]) (st' := []) (M' := (I28, J28, Rx R, N, G)) rfl ?_
  rw [show (if lN (nTot s r 0) - lN (pBest s (0 + 1) (s 99 3) 0) < cL (-4611686018427387904) then cL (-4611686018427387904) else lN (nTot s r 0) - lN (pBest s (0 + 1) (s 99 3) 0)) = gRg s r 0 from if_neg (Int64.not_lt.mpr (Int64.le_of_lt (rg_no (by omega) (by omega))))]
  exact l_c_worst hW hr (cP s - 1) 0 _ _ (by omega) hI28
theorem l_m_worst (hW : Wf s) {r : Nat} (hr : r < cR s) : ∀ (n i : Nat) (I : Nat → Nat → Int32) (J : Nat → Nat → Int64) (w5 w6 : Value), i + 1 + n = cP s → Inv s R N I J → XP X (d + 6) k_M_worstOf 4 [.ref (99), .int (nI (r)), .long (gWo s r i), xj, .int (nI (i + 1)), w5, w6] [] (I, J, Rx R, N, G) (QP s R N G (.long (gWo s r (cP s - 1)))) := by
  have hp4 := hW.p.2
  have hr8 := hW.r.2
  have hy16 := hW.y.2
  intro n
  induction n with
  | zero =>
    rintro i I J w5 w6 hi hI
    obtain rfl : i = cP s - 1 := by omega
    have hL := hI.2.2.1
    refine XP_n 2 (pc' := 6) (ls' := [.ref (99), .int (nI (r)), .long (gWo s r (cP s - 1)), xj, .int (nI (cP s - 1 + 1)), w5, w6]) (st' := [.ref (99), .int (nI (cP s - 1 + 1))]) (M' := (I, J, Rx R, N, G)) rfl ?_
    refine XP_geti hI.1 rfl rfl rfl ?_
    rw [hW.p.1]
    refine XP_icN (x := cP s - 1 + 1) (y := cP s) rfl (by omega) (by omega) (fun (b7 : cP s ≤ cP s - 1 + 1) => ?_) (fun (b7 : cP s - 1 + 1 < cP s) => absurd b7 (by omega))
    refine XP_n 1 (pc' := 31) (ls' := [.ref (99), .int (nI (r)), .long (gWo s r (cP s - 1)), xj, .int (nI (cP s - 1 + 1)), w5, w6]) (st' := [.long (gWo s r (cP s - 1))]) (M' := (I, J, Rx R, N, G)) rfl ?_
    exact XP_ret rfl ⟨rfl, _, _, rfl, hI⟩
  | succ n ih =>
    rintro i I J w5 w6 hi hI
    have hL := hI.2.2.1
    have ew : gWo s r (i + 1) = (if gWo s r i < gRg s r (i + 1) then gRg s r (i + 1) else gWo s r i) := rfl
    refine XP_n 2 (pc' := 6) (ls' := [.ref (99), .int (nI (r)), .long (gWo s r i), xj, .int (nI (i + 1)), w5, w6]) (st' := [.ref (99), .int (nI (i + 1))]) (M' := (I, J, Rx R, N, G)) rfl ?_
    refine XP_geti hI.1 rfl rfl rfl ?_
    rw [hW.p.1]
    refine XP_icN (x := i + 1) (y := cP s) rfl (by omega) (by omega) (fun (b7 : cP s ≤ i + 1) => absurd b7 (by omega)) (fun (b7 : i + 1 < cP s) => ?_)
    refine XP_n 3 (pc' := 11) (ls' := [.ref (99), .int (nI (r)), .long (gWo s r i), xj, .int (nI (i + 1)), w5, w6]) (st' := [.int (nI (i + 1)), .int (nI (r)), .ref (99)]) (M' := (I, J, Rx R, N, G)) rfl ?_
    refine XP_call rfl (rfl) (q_M_tot hI (show r < cR s by omega) (show i + 1 < cP s by omega)) ?_
    rintro v29 M29 ⟨rfl, I29, J29, rfl, hI29⟩
    rw [(nTot_ok hW r (i + 1)).1]
    have htt29 := (nTot_ok hW r (i + 1)).2
    refine XP_n 3 (pc' := 15) (ls' := [.ref (99), .int (nI (r)), .long (gWo s r i), xj, .int (nI (i + 1)), w5, w6]) (st' := [.int (nI (0)), .int (nI (i + 1)), .ref (99), .long (lN (nTot s r (i + 1)))]) (M' := (I29, J29, Rx R, N, G)) rfl ?_
    refine XP_call rfl rfl (q_M_bestP hI29 (show i + 1 < cP s by omega) (by omega)) ?_
    rintro v30 M30 ⟨rfl, I30, J30, rfl, hI30, hpl30⟩
    have hpb30 := pL_b hI30.2.1 (i + 1 + 1) (s 99 3) 0 (cY s) 0 (by omega)
    rw [show pL s (i + 1 + 1) (s 99 3) 0 (cY s) 0 = pBest s (i + 1 + 1) (s 99 3) 0 from rfl] at hpb30
    refine XP_n 3 (pc' := 19) (ls' := [.ref (99), .int (nI (r)), .long (gWo s r i), xj, .int (nI (i + 1)), .long ((lN (nTot s r (i + 1))) - (lN (pBest s (i + 1 + 1) (s 99 3) 0))), xj]) (st' := [.int (nI (i + 1))]) (M' := (I30, J30, Rx R, N, G)) rfl ?_
    refine XP_ifN (x := i + 1)  rfl (by omega) (fun (b19 : i + 1 = 0) => absurd b19 (by omega)) (fun (b19 : ¬ i + 1 = 0) => ?_)
    refine XP_n 2 (pc' := 22) (ls' := [.ref (99), .int (nI (r)), .long (gWo s r i), xj, .int (nI (i + 1)), .long ((lN (nTot s r (i + 1))) - (lN (pBest s (i + 1 + 1) (s 99 3) 0))), xj]) (st' := [.long (gWo s r i), .long ((lN (nTot s r (i + 1))) - (lN (pBest s (i + 1 + 1) (s 99 3) 0)))]) (M' := (I30, J30, Rx R, N, G)) rfl ?_
    refine XP_lcD rfl rfl (fun (b23 : (lN (nTot s r (i + 1))) - (lN (pBest s (i + 1 + 1) (s 99 3) 0)) ≤ gWo s r i) => ?_) (fun (b23 : gWo s r i < (lN (nTot s r (i + 1))) - (lN (pBest s (i + 1 + 1) (s 99 3) 0))) => ?_)
    · have n23 := Int64.not_lt.mpr b23
      refine XP_n 3 (pc' := 29) (ls' := [.ref (99), .int (nI (r)), .long (gWo s r i), xj, .int (nI (i + 1) + nI (1)), .long ((lN (nTot s r (i + 1))) - (lN (pBest s (i + 1 + 1) (s 99 3) 0))), xj]) (st' := []) (M' := (I30, J30, Rx R, N, G)) rfl ?_
      rw [show nI (i + 1) + nI (1) = nI (i + 1 + 1) from nI_addE (rfl) rfl]
      refine XP_n 1 (pc' := 4) (ls' := [.ref (99), .int (nI (r)), .long (gWo s r i), xj, .int (nI (i + 1 + 1)), .long ((lN (nTot s r (i + 1))) - (lN (pBest s (i + 1 + 1) (s 99 3) 0))), xj]) (st' := []) (M' := (I30, J30, Rx R, N, G)) rfl ?_
      have ih2 := ih (i + 1) _ _ (.long ((lN (nTot s r (i + 1))) - (lN (pBest s (i + 1 + 1) (s 99 3) 0)))) xj (by omega) hI30
      rw [ew, if_neg (show ¬ gWo s r i < gRg s r (i + 1) from Int64.not_lt.mpr b23)] at ih2
      exact ih2
    · have n23 := Int64.not_le.mpr b23
      refine XP_n 4 (pc' := 29) (ls' := [.ref (99), .int (nI (r)), .long ((lN (nTot s r (i + 1))) - (lN (pBest s (i + 1 + 1) (s 99 3) 0))), xj, .int (nI (i + 1) + nI (1)), .long ((lN (nTot s r (i + 1))) - (lN (pBest s (i + 1 + 1) (s 99 3) 0))), xj]) (st' := []) (M' := (I30, J30, Rx R, N, G)) rfl ?_
      rw [show nI (i + 1) + nI (1) = nI (i + 1 + 1) from nI_addE (rfl) rfl]
      refine XP_n 1 (pc' := 4) (ls' := [.ref (99), .int (nI (r)), .long ((lN (nTot s r (i + 1))) - (lN (pBest s (i + 1 + 1) (s 99 3) 0))), xj, .int (nI (i + 1 + 1)), .long ((lN (nTot s r (i + 1))) - (lN (pBest s (i + 1 + 1) (s 99 3) 0))), xj]) (st' := []) (M' := (I30, J30, Rx R, N, G)) rfl ?_
      have ih2 := ih (i + 1) _ _ (.long ((lN (nTot s r (i + 1))) - (lN (pBest s (i + 1 + 1) (s 99 3) 0)))) xj (by omega) hI30
      rw [ew, if_pos (show gWo s r i < gRg s r (i + 1) from b23)] at ih2
      exact ih2
theorem m_worst (hI : Inv s R N I J) {r : Nat} (hr : r < cR s) (h0 : 0 < cP s) : TP X (d + 6) n_M_worstOf [.ref 99, .int (nI (r))] (I, J, Rx R, N, G) (QP s R N G (.long (gWo s r (cP s - 1)))) := by
  obtain ⟨hS, hW, hL, hC, hch⟩ := id hI
  have hp4 := hW.p.2
  have hr8 := hW.r.2
  have hy16 := hW.y.2
  unfold TP
  show XP X _ k_M_worstOf 0 [.ref (99), .int (nI (r)), xj, xj, xj, xj, xj] [] _ _
  refine XP_n 4 (pc' := 4) (ls' := [.ref (99), .int (nI (r)), .long (lN (0)), xj, .int (nI (0)), xj, xj]) (st' := []) (M' := (I, J, Rx R, N, G)) rfl ?_
  refine XP_n 2 (pc' := 6) (ls' := [.ref (99), .int (nI (r)), .long (lN (0)), xj, .int (nI (0)), xj, xj]) (st' := [.ref (99), .int (nI (0))]) (M' := (I, J, Rx R, N, G)) rfl ?_
  refine XP_geti hI.1 rfl rfl rfl ?_
  rw [hW.p.1]
  refine XP_icN (x := 0) (y := cP s) rfl (by omega) (by omega) (fun (b7 : cP s ≤ 0) => absurd b7 (by omega)) (fun (b7 : 0 < cP s) => ?_)
  refine XP_n 3 (pc' := 11) (ls' := [.ref (99), .int (nI (r)), .long (lN (0)), xj, .int (nI (0)), xj, xj]) (st' := [.int (nI (0)), .int (nI (r)), .ref (99)]) (M' := (I, J, Rx R, N, G)) rfl ?_
  refine XP_call rfl (rfl) (q_M_tot hI (show r < cR s by omega) (show 0 < cP s by omega)) ?_
  rintro v31 M31 ⟨rfl, I31, J31, rfl, hI31⟩
  rw [(nTot_ok hW r (0)).1]
  have htt31 := (nTot_ok hW r (0)).2
  refine XP_n 3 (pc' := 15) (ls' := [.ref (99), .int (nI (r)), .long (lN (0)), xj, .int (nI (0)), xj, xj]) (st' := [.int (nI (0)), .int (nI (0)), .ref (99), .long (lN (nTot s r (0)))]) (M' := (I31, J31, Rx R, N, G)) rfl ?_
  refine XP_call rfl rfl (q_M_bestP hI31 (show 0 < cP s by omega) (by omega)) ?_
  rintro v32 M32 ⟨rfl, I32, J32, rfl, hI32, hpl32⟩
  have hpb32 := pL_b hI32.2.1 (0 + 1) (s 99 3) 0 (cY s) 0 (by omega)
  rw [show pL s (0 + 1) (s 99 3) 0 (cY s) 0 = pBest s (0 + 1) (s 99 3) 0 from rfl] at hpb32
  refine XP_n 3 (pc' := 19) (ls' := [.ref (99), .int (nI (r)), .long (lN (0)), xj, .int (nI (0)), .long ((lN (nTot s r (0))) - (lN (pBest s (0 + 1) (s 99 3) 0))), xj]) (st' := [.int (nI (0))]) (M' := (I32, J32, Rx R, N, G)) rfl ?_
  refine XP_ifN (x := 0)  rfl (by omega) (fun (b19 : 0 = 0) => ?_) (fun (b19 : ¬ 0 = 0) => absurd b19 (by omega))
  refine XP_n 4 (pc' := 29) (ls' := [.ref (99), .int (nI (r)), .long ((lN (nTot s r (0))) - (lN (pBest s (0 + 1) (s 99 3) 0))), xj, .int (nI (0) + nI (1)), .long ((lN (nTot s r (0))) - (lN (pBest s (0 + 1) (s 99 3) 0))), xj]) (st' := []) (M' := (I32, J32, Rx R, N, G)) rfl ?_
  rw [show nI (0) + nI (1) = nI (0 + 1) from nI_addE (rfl) rfl]
  refine XP_n 1 (pc' := 4) (ls' := [.ref (99), .int (nI (r)), .long ((lN (nTot s r (0))) - (lN (pBest s (0 + 1) (s 99 3) 0))), xj, .int (nI (0 + 1)), .long ((lN (nTot s r (0))) - (lN (pBest s (0 + 1) (s 99 3) 0))), xj]) (st' := []) (M' := (I32, J32, Rx R, N, G)) rfl ?_
  exact l_m_worst hW hr (cP s - 1) 0 _ _ _ _ (by omega) hI32
theorem f_worst (hI : Inv s R N I J) (r : Int32) : ∃ v, TP X (d + 12) n_H_worst [.ref 0, .int r] (I, J, Rx R, N, G) (QP s R N G (.long v)) ∧ ∀ I J, Inv s R N I J → TP X (d + 12) n_M_worst [.ref 99, .int r] (I, J, Rx R, N, G) (QP s R N G (.long v)) := by
  have hI0 := hI
  obtain ⟨hS, hW, hL, hC, hch⟩ := hI0
  have hy16 := hW.y.2
  have hp4 := hW.p.2
  have hs6 := hW.ns.2
  have hr8 := hW.r.2
  have hst8 := hW.st.2
  have ht3 := hW.t.2
  have hw60 := hW.w.2
  have hcwa := cWA_le hW
  by_cases g0 : inN (r) (cR s)
  rotate_left
  · skip
    refine ⟨cL (-4611686018427387904), ?_, fun I J hI => ?_⟩
    · unfold TP
      show XP X _ k_H_worst 0 [.ref (0), .int (r), xj] [] _ _
      refine XP_n 2 (pc' := 2) (ls' := [.ref (0), .int (r), xj]) (st' := [.int (r), .ref (0)]) (M' := (I, J, Rx R, N, G)) rfl ?_
      refine XP_pure rfl rfl (c_ruleAtF hI.1 hW hL g0) ?_
      refine XP_n 5 (pc' := 15) (ls' := [.ref (0), .int (r), .null]) (st' := [.long (cL (-4611686018427387904))]) (M' := (I, J, Rx R, N, G)) rfl ?_
      exact XP_ret rfl ⟨rfl, _, _, rfl, hI⟩
    · unfold TP
      show XP X _ k_M_worst 0 [.ref (99), .int (r)] [] _ _
      refine XP_n 2 (pc' := 2) (ls' := [.ref (99), .int (r)]) (st' := [.int (r), .ref (99)]) (M' := (I, J, Rx R, N, G)) rfl ?_
      refine XP_pure rfl rfl (m_isRule hI.1 hI.2.1 _) ?_
      refine XP_s rfl ?_
      refine XP_beq (fun b3 => ?_) (fun b3 => absurd b3 g0)
      refine XP_n 1 (pc' := 12) (ls' := [.ref (99), .int (r)]) (st' := [.long (cL (-4611686018427387904))]) (M' := (I, J, Rx R, N, G)) rfl ?_
      exact XP_ret rfl ⟨rfl, _, _, rfl, hI⟩
  obtain ⟨rn, hrn, rfl, er⟩ := inN_nat g0 (by omega)
  by_cases hp0 : cP s = 0
  · skip
    refine ⟨cL (-4611686018427387904), ?_, fun I J hI => ?_⟩
    · unfold TP
      show XP X _ k_H_worst 0 [.ref (0), .int (nI (rn)), xj] [] _ _
      refine XP_n 2 (pc' := 2) (ls' := [.ref (0), .int (nI (rn)), xj]) (st' := [.int (nI (rn)), .ref (0)]) (M' := (I, J, Rx R, N, G)) rfl ?_
      refine XP_pure rfl rfl (c_ruleAtT hI.1 hW hL (show rn < cR s by omega)) ?_
      refine XP_n 5 (pc' := 8) (ls' := [.ref (0), .int (nI (rn)), .ref (1000 + 2 * rn)]) (st' := [.ref (1)]) (M' := (I, J, Rx R, N, G)) rfl ?_
      refine XP_geti hI.1 rfl rfl rfl ?_
      rw [hW.p.1]
      refine XP_ifN (x := cP s)  rfl (by omega) (fun (b9 : ¬ cP s = 0) => absurd b9 (by first | exact hp0 | exact fun z => z hp0 | omega)) (fun (b9 : cP s = 0) => ?_)
      refine XP_n 2 (pc' := 15) (ls' := [.ref (0), .int (nI (rn)), .ref (1000 + 2 * rn)]) (st' := [.long (cL (-4611686018427387904))]) (M' := (I, J, Rx R, N, G)) rfl ?_
      exact XP_ret rfl ⟨rfl, _, _, rfl, hI⟩
    · unfold TP
      show XP X _ k_M_worst 0 [.ref (99), .int (nI (rn))] [] _ _
      refine XP_n 2 (pc' := 2) (ls' := [.ref (99), .int (nI (rn))]) (st' := [.int (nI (rn)), .ref (99)]) (M' := (I, J, Rx R, N, G)) rfl ?_
      refine XP_pure rfl rfl (m_isRule hI.1 hI.2.1 _) ?_
      refine XP_s rfl ?_
      refine XP_beq (fun b3 => absurd g0 b3) (fun b3 => ?_)
      refine XP_n 1 (pc' := 5) (ls' := [.ref (99), .int (nI (rn))]) (st' := [.ref (99)]) (M' := (I, J, Rx R, N, G)) rfl ?_
      refine XP_geti hI.1 rfl rfl rfl ?_
      rw [hW.p.1]
      refine XP_ifN (x := cP s)  rfl (by omega) (fun (b6 : cP s ≤ 0) => ?_) (fun (b6 : 0 < cP s) => absurd b6 (by omega))
      refine XP_n 1 (pc' := 12) (ls' := [.ref (99), .int (nI (rn))]) (st' := [.long (cL (-4611686018427387904))]) (M' := (I, J, Rx R, N, G)) rfl ?_
      exact XP_ret rfl ⟨rfl, _, _, rfl, hI⟩
  · skip
    refine ⟨gWo s rn (cP s - 1), ?_, fun I J hI => ?_⟩
    · unfold TP
      show XP X _ k_H_worst 0 [.ref (0), .int (nI (rn)), xj] [] _ _
      refine XP_n 2 (pc' := 2) (ls' := [.ref (0), .int (nI (rn)), xj]) (st' := [.int (nI (rn)), .ref (0)]) (M' := (I, J, Rx R, N, G)) rfl ?_
      refine XP_pure rfl rfl (c_ruleAtT hI.1 hW hL (show rn < cR s by omega)) ?_
      refine XP_n 5 (pc' := 8) (ls' := [.ref (0), .int (nI (rn)), .ref (1000 + 2 * rn)]) (st' := [.ref (1)]) (M' := (I, J, Rx R, N, G)) rfl ?_
      refine XP_geti hI.1 rfl rfl rfl ?_
      rw [hW.p.1]
      refine XP_ifN (x := cP s)  rfl (by omega) (fun (b9 : ¬ cP s = 0) => ?_) (fun (b9 : cP s = 0) => absurd b9 (by first | exact hp0 | exact fun z => z hp0 | omega))
      refine XP_n 2 (pc' := 14) (ls' := [.ref (0), .int (nI (rn)), .ref (1000 + 2 * rn)]) (st' := [.ref (1000 + 2 * rn), .ref (0)]) (M' := (I, J, Rx R, N, G)) rfl ?_
      refine XP_call rfl (rfl) (c_worst hI (show rn < cR s by omega) (by omega)) ?_
      rintro v33 M33 ⟨rfl, I33, J33, rfl, hI33⟩
      exact XP_ret rfl ⟨rfl, _, _, rfl, hI33⟩
    · unfold TP
      show XP X _ k_M_worst 0 [.ref (99), .int (nI (rn))] [] _ _
      refine XP_n 2 (pc' := 2) (ls' := [.ref (99), .int (nI (rn))]) (st' := [.int (nI (rn)), .ref (99)]) (M' := (I, J, Rx R, N, G)) rfl ?_
      refine XP_pure rfl rfl (m_isRule hI.1 hI.2.1 _) ?_
      refine XP_s rfl ?_
      refine XP_beq (fun b3 => absurd g0 b3) (fun b3 => ?_)
      refine XP_n 1 (pc' := 5) (ls' := [.ref (99), .int (nI (rn))]) (st' := [.ref (99)]) (M' := (I, J, Rx R, N, G)) rfl ?_
      refine XP_geti hI.1 rfl rfl rfl ?_
      rw [hW.p.1]
      refine XP_ifN (x := cP s)  rfl (by omega) (fun (b6 : cP s ≤ 0) => absurd b6 (by omega)) (fun (b6 : 0 < cP s) => ?_)
      refine XP_n 2 (pc' := 9) (ls' := [.ref (99), .int (nI (rn))]) (st' := [.int (nI (rn)), .ref (99)]) (M' := (I, J, Rx R, N, G)) rfl ?_
      refine XP_call rfl (rfl) (m_worst hI (show rn < cR s by omega) (by omega)) ?_
      rintro v34 M34 ⟨rfl, I34, J34, rfl, hI34⟩
      refine XP_n 1 (pc' := 12) (ls' := [.ref (99), .int (nI (rn))]) (st' := [.long (gWo s rn (cP s - 1))]) (M' := (I34, J34, Rx R, N, G)) rfl ?_
      exact XP_ret rfl ⟨rfl, _, _, rfl, hI34⟩
theorem l_fr (hW : Wf s) {q : Nat} (hq : q < 5) (hP : PlOk s q I J) : ∀ (n i : Nat), i + n = cY s → XP X (d + 1) k_Plan_firstRaise 2 [.ref (68 + 2 * q), .int (nI (cY s)), .int (nI i)] [] (I, J, Rx R, N, G) (Ret (.int (if sFr s q n i = cY s then cI (-1) else nI (sFr s q n i))) (I, J, Rx R, N, G)) := by
  have hy16 := hW.y.2
  intro n
  induction n with
  | zero =>
    rintro i hi
    obtain rfl : i = cY s := by omega
    rw [if_pos (show sFr s q 0 (cY s) = cY s from rfl)]
    refine XP_n 2 (pc' := 4) (ls' := [.ref (68 + 2 * q), .int (nI (cY s)), .int (nI (cY s))]) (st' := [.int (nI (cY s)), .int (nI (cY s))]) (M' := (I, J, Rx R, N, G)) rfl ?_
    refine XP_icN (x := cY s) (y := cY s) rfl (by omega) (by omega) (fun (b4 : cY s ≤ cY s) => ?_) (fun (b4 : cY s < cY s) => absurd b4 (by omega))
    refine XP_n 1 (pc' := 14) (ls' := [.ref (68 + 2 * q), .int (nI (cY s)), .int (nI (cY s))]) (st' := [.int (cI (-1))]) (M' := (I, J, Rx R, N, G)) rfl ?_
    exact XP_ret rfl ⟨rfl, rfl⟩
  | succ n ih =>
    rintro i hi
    have hpa := pA_le s q (s 99 3) 0 i (pD s q (s 99 3) 0 i)
    have hpu : pU s q (s 99 3) 0 i ≤ 3 := hpa.1
    rw [show sFr s q (n + 1) i = (if pU s q (s 99 3) 0 i = 0 then sFr s q n (i + 1) else i) from rfl]
    refine XP_n 2 (pc' := 4) (ls' := [.ref (68 + 2 * q), .int (nI (cY s)), .int (nI (i))]) (st' := [.int (nI (cY s)), .int (nI (i))]) (M' := (I, J, Rx R, N, G)) rfl ?_
    refine XP_icN (x := i) (y := cY s) rfl (by omega) (by omega) (fun (b4 : cY s ≤ i) => absurd b4 (by omega)) (fun (b4 : i < cY s) => ?_)
    refine XP_n 2 (pc' := 7) (ls' := [.ref (68 + 2 * q), .int (nI (cY s)), .int (nI (i))]) (st' := [.int (nI (i)), .ref (68 + 2 * q)]) (M' := (I, J, Rx R, N, G)) rfl ?_
    refine XP_pure rfl (by show (isO (68 + 2 * q) 4 || false) = true; rw [(plq R N hq).1]; rfl) (c_plin (plq R N hq) (show i < 16 by omega)) ?_
    rw [hP.2 i (by omega)]
    refine XP_ifN (x := pU s q (s 99 3) 0 i)  rfl (by omega) (fun (b8 : pU s q (s 99 3) 0 i ≤ 0) => ?_) (fun (b8 : 0 < pU s q (s 99 3) 0 i) => ?_)
    · refine XP_n 1 (pc' := 12) (ls' := [.ref (68 + 2 * q), .int (nI (cY s)), .int (nI (i) + nI (1))]) (st' := []) (M' := (I, J, Rx R, N, G)) rfl ?_
      rw [show nI (i) + nI (1) = nI (i + 1) from nI_addE (rfl) rfl]
      refine XP_n 1 (pc' := 2) (ls' := [.ref (68 + 2 * q), .int (nI (cY s)), .int (nI (i + 1))]) (st' := []) (M' := (I, J, Rx R, N, G)) rfl ?_
      rw [if_pos (show pU s q (s 99 3) 0 i = 0 by omega)]
      exact ih (i + 1) (by omega)
    · refine XP_n 1 (pc' := 10) (ls' := [.ref (68 + 2 * q), .int (nI (cY s)), .int (nI (i))]) (st' := [.int (nI (i))]) (M' := (I, J, Rx R, N, G)) rfl ?_
      rw [if_neg (show ¬ pU s q (s 99 3) 0 i = 0 by omega), if_neg (show ¬ i = cY s by omega)]
      exact XP_ret rfl ⟨rfl, rfl⟩
theorem c_fr1 (hW : Wf s) {q : Nat} (hq : q < 5) (hP : PlOk s q I J) : TP X (d + 1) n_Plan_firstRaise [.ref (68 + 2 * q), .int (nI (cY s))] (I, J, Rx R, N, G) (Ret (.int (if sFr s q (cY s) 0 = cY s then cI (-1) else nI (sFr s q (cY s) 0))) (I, J, Rx R, N, G)) := by
  unfold TP
  show XP X _ k_Plan_firstRaise 0 [.ref (68 + 2 * q), .int (nI (cY s)), xj] [] _ _
  refine XP_n 2 (pc' := 2) (ls' := [.ref (68 + 2 * q), .int (nI (cY s)), .int (nI (0))]) (st' := []) (M' := (I, J, Rx R, N, G)) rfl ?_
  exact l_fr hW hq hP (cY s) 0 (by omega)
theorem l_H_dec (hW : Wf s) : ∀ (n i : Nat) (I : Nat → Nat → Int32) (J : Nat → Nat → Int64) (l : Int32) (w3 : Value), i + n = cP s → Inv s R N I J → XP X (d + 9) k_H_decided 4 [.ref 0, .int l, .int (nI i), w3] [] (I, J, Rx R, N, G) (QP s R N G (.int (sDe s n i l))) := by
  have hp4 := hW.p.2
  have hy16 := hW.y.2
  intro n
  induction n with
  | zero =>
    rintro i I J l w3 hi hI
    obtain rfl : i = cP s := by omega
    have hL := hI.2.2.1
    refine XP_n 3 (pc' := 7) (ls' := [.ref (0), .int (l), .int (nI (cP s)), w3]) (st' := [.ref (1), .int (nI (cP s))]) (M' := (I, J, Rx R, N, G)) rfl ?_
    refine XP_geti hI.1 rfl rfl rfl ?_
    rw [hW.p.1]
    refine XP_icN (x := cP s) (y := cP s) rfl (by omega) (by omega) (fun (b8 : cP s ≤ cP s) => ?_) (fun (b8 : cP s < cP s) => absurd b8 (by omega))
    refine XP_n 1 (pc' := 29) (ls' := [.ref (0), .int (l), .int (nI (cP s)), w3]) (st' := [.int (l)]) (M' := (I, J, Rx R, N, G)) rfl ?_
    exact XP_ret rfl ⟨rfl, _, _, rfl, hI⟩
  | succ n ih =>
    rintro i I J l w3 hi hI
    have hL := hI.2.2.1
    have hfl := sFr_le s (i + 1) (cY s) 0
    unfold sDe
    by_cases hf : sFr s (i + 1) (cY s) 0 = cY s
    · rw [if_pos hf]
      refine XP_n 3 (pc' := 7) (ls' := [.ref (0), .int (l), .int (nI (i)), w3]) (st' := [.ref (1), .int (nI (i))]) (M' := (I, J, Rx R, N, G)) rfl ?_
      refine XP_geti hI.1 rfl rfl rfl ?_
      rw [hW.p.1]
      refine XP_icN (x := i) (y := cP s) rfl (by omega) (by omega) (fun (b8 : cP s ≤ i) => absurd b8 (by omega)) (fun (b8 : i < cP s) => ?_)
      refine XP_n 3 (pc' := 12) (ls' := [.ref (0), .int (l), .int (nI (i)), w3]) (st' := [.int (nI (i)), .ref (21)]) (M' := (I, J, Rx R, N, G)) rfl ?_
      refine XP_call rfl rfl (q_C_bestP hI (show i < cP s by omega)) ?_
      rintro v35 M35 ⟨rfl, I35, J35, rfl, hI35, hpl35, hfr35⟩
      have hpb35 := pL_b hI35.2.1 (i + 1) (s 99 3) 0 (cY s) 0 (by omega)
      rw [show pL s (i + 1) (s 99 3) 0 (cY s) 0 = pBest s (i + 1) (s 99 3) 0 from rfl] at hpb35
      refine XP_n 2 (pc' := 15) (ls' := [.ref (0), .int (l), .int (nI (i)), w3]) (st' := [.ref (1), .ref (68 + 2 * (i + 1))]) (M' := (I35, J35, Rx R, N, G)) rfl ?_
      refine XP_geti hI35.1 rfl rfl rfl ?_
      rw [hW.y.1]
      refine XP_pure rfl (by show (isO (68 + 2 * (i + 1)) 4 || false) = true; rw [(plq R N (show i + 1 < 5 by omega)).1]; rfl) (c_fr1 hW (show i + 1 < 5 by omega) hpl35) ?_
      rw [if_pos hf]
      refine XP_n 2 (pc' := 19) (ls' := [.ref (0), .int (l), .int (nI (i)), .int (cI (-1))]) (st' := [.int (cI (-1))]) (M' := (I35, J35, Rx R, N, G)) rfl ?_
      refine XP_ifD rfl (fun (b19 : 0 ≤ cI (-1)) => absurd b19 (by decide)) (fun (b19 : cI (-1) < 0) => ?_)
      have n19 := Int32.not_le.mpr b19
      refine XP_n 1 (pc' := 21) (ls' := [.ref (0), .int (l), .int (nI (i)), .int (cI (-1))]) (st' := [.int (cI (-1))]) (M' := (I35, J35, Rx R, N, G)) rfl ?_
      exact XP_ret rfl ⟨rfl, _, _, rfl, hI35⟩
    · rw [if_neg hf]
      refine XP_n 3 (pc' := 7) (ls' := [.ref (0), .int (l), .int (nI (i)), w3]) (st' := [.ref (1), .int (nI (i))]) (M' := (I, J, Rx R, N, G)) rfl ?_
      refine XP_geti hI.1 rfl rfl rfl ?_
      rw [hW.p.1]
      refine XP_icN (x := i) (y := cP s) rfl (by omega) (by omega) (fun (b8 : cP s ≤ i) => absurd b8 (by omega)) (fun (b8 : i < cP s) => ?_)
      refine XP_n 3 (pc' := 12) (ls' := [.ref (0), .int (l), .int (nI (i)), w3]) (st' := [.int (nI (i)), .ref (21)]) (M' := (I, J, Rx R, N, G)) rfl ?_
      refine XP_call rfl rfl (q_C_bestP hI (show i < cP s by omega)) ?_
      rintro v36 M36 ⟨rfl, I36, J36, rfl, hI36, hpl36, hfr36⟩
      have hpb36 := pL_b hI36.2.1 (i + 1) (s 99 3) 0 (cY s) 0 (by omega)
      rw [show pL s (i + 1) (s 99 3) 0 (cY s) 0 = pBest s (i + 1) (s 99 3) 0 from rfl] at hpb36
      refine XP_n 2 (pc' := 15) (ls' := [.ref (0), .int (l), .int (nI (i)), w3]) (st' := [.ref (1), .ref (68 + 2 * (i + 1))]) (M' := (I36, J36, Rx R, N, G)) rfl ?_
      refine XP_geti hI36.1 rfl rfl rfl ?_
      rw [hW.y.1]
      refine XP_pure rfl (by show (isO (68 + 2 * (i + 1)) 4 || false) = true; rw [(plq R N (show i + 1 < 5 by omega)).1]; rfl) (c_fr1 hW (show i + 1 < 5 by omega) hpl36) ?_
      rw [if_neg hf]
      refine XP_n 2 (pc' := 19) (ls' := [.ref (0), .int (l), .int (nI (i)), .int (nI (sFr s (i + 1) (cY s) 0))]) (st' := [.int (nI (sFr s (i + 1) (cY s) 0))]) (M' := (I36, J36, Rx R, N, G)) rfl ?_
      refine XP_ifN (x := sFr s (i + 1) (cY s) 0)  rfl (by omega) (fun (b19 : 0 ≤ sFr s (i + 1) (cY s) 0) => ?_) (fun (b19 : sFr s (i + 1) (cY s) 0 < 0) => absurd b19 (by omega))
      refine XP_n 5 (pc' := 27) (ls' := [.ref (0), .int ((if l < nI (sFr s (i + 1) (cY s) 0) then nI (sFr s (i + 1) (cY s) 0) else l)), .int (nI (i) + nI (1)), .int (nI (sFr s (i + 1) (cY s) 0))]) (st' := []) (M' := (I36, J36, Rx R, N, G)) rfl ?_
      rw [show nI (i) + nI (1) = nI (i + 1) from nI_addE (rfl) rfl]
      refine XP_n 1 (pc' := 4) (ls' := [.ref (0), .int ((if l < nI (sFr s (i + 1) (cY s) 0) then nI (sFr s (i + 1) (cY s) 0) else l)), .int (nI (i + 1)), .int (nI (sFr s (i + 1) (cY s) 0))]) (st' := []) (M' := (I36, J36, Rx R, N, G)) rfl ?_
      exact ih (i + 1) _ _ _ _ (by omega) hI36
theorem l_M_dec1 {Q : Option Value → hM → Prop} (hI : Inv s R N I J) (hW : Wf s) {i : Nat} {l : Int32} (hr : ∀ y, y < cY s → I 132 y = nI (pU s (i + 1) (s 99 3) 0 y)) (kk : ∀ f, f = sFr s (i + 1) (cY s) 0 → XP X (d + 6) k_M_decided 26 [.ref 99, .int l, .int (nI i), .int (nI f)] [] (I, J, Rx R, N, G) Q) : ∀ (n y : Nat), y + n = cY s → sFr s (i + 1) n y = sFr s (i + 1) (cY s) 0 → XP X (d + 6) k_M_decided 15 [.ref 99, .int l, .int (nI i), .int (nI y)] [] (I, J, Rx R, N, G) Q := by
  have hy16 := hW.y.2
  intro n
  induction n with
  | zero =>
    rintro y hy hf
    obtain rfl : y = cY s := by omega
    refine XP_n 2 (pc' := 17) (ls' := [.ref (99), .int (l), .int (nI (i)), .int (nI (cY s))]) (st' := [.ref (99), .int (nI (cY s))]) (M' := (I, J, Rx R, N, G)) rfl ?_
    refine XP_geti hI.1 rfl rfl rfl ?_
    rw [hW.y.1]
    refine XP_icN (x := cY s) (y := cY s) rfl (by omega) (by omega) (fun (b18 : cY s ≤ cY s) => ?_) (fun (b18 : cY s < cY s) => absurd b18 (by omega))
    exact kk _ hf
  | succ n ih =>
    rintro y hy hf
    have hpu : pU s (i + 1) (s 99 3) 0 y ≤ 3 := (pA_le s (i + 1) (s 99 3) 0 y (pD s (i + 1) (s 99 3) 0 y)).1
    rw [show sFr s (i + 1) (n + 1) y = (if pU s (i + 1) (s 99 3) 0 y = 0 then sFr s (i + 1) n (y + 1) else y) from rfl] at hf
    refine XP_n 2 (pc' := 17) (ls' := [.ref (99), .int (l), .int (nI (i)), .int (nI (y))]) (st' := [.ref (99), .int (nI (y))]) (M' := (I, J, Rx R, N, G)) rfl ?_
    refine XP_geti hI.1 rfl rfl rfl ?_
    rw [hW.y.1]
    refine XP_icN (x := y) (y := cY s) rfl (by omega) (by omega) (fun (b18 : cY s ≤ y) => absurd b18 (by omega)) (fun (b18 : y < cY s) => ?_)
    refine XP_n 3 (pc' := 22) (ls' := [.ref (99), .int (l), .int (nI (i)), .int (nI (y))]) (st' := [.int (nI (y)), .ref (132)]) (M' := (I, J, Rx R, N, G)) rfl ?_
    refine XP_iraw rfl rfl (show y < 16 by omega) rfl (by omega) ?_
    rw [show I 132 y = nI (pU s (i + 1) (s 99 3) 0 y) from hr y (by omega)]
    refine XP_ifN (x := pU s (i + 1) (s 99 3) 0 y)  rfl (by omega) (fun (b23 : ¬ pU s (i + 1) (s 99 3) 0 y = 0) => ?_) (fun (b23 : pU s (i + 1) (s 99 3) 0 y = 0) => ?_)
    · rw [if_neg b23] at hf
      exact kk _ hf
    · refine XP_n 1 (pc' := 25) (ls' := [.ref (99), .int (l), .int (nI (i)), .int (nI (y) + nI (1))]) (st' := []) (M' := (I, J, Rx R, N, G)) rfl ?_
      rw [show nI (y) + nI (1) = nI (y + 1) from nI_addE (rfl) rfl]
      refine XP_n 1 (pc' := 15) (ls' := [.ref (99), .int (l), .int (nI (i)), .int (nI (y + 1))]) (st' := []) (M' := (I, J, Rx R, N, G)) rfl ?_
      rw [if_pos b23] at hf
      exact ih (y + 1) (by omega) hf
theorem l_M_dec (hW : Wf s) : ∀ (n i : Nat) (I : Nat → Nat → Int32) (J : Nat → Nat → Int64) (l : Int32) (w3 : Value), i + n = cP s → Inv s R N I J → XP X (d + 6) k_M_decided 4 [.ref 99, .int l, .int (nI i), w3] [] (I, J, Rx R, N, G) (QP s R N G (.int (sDe s n i l))) := by
  have hp4 := hW.p.2
  have hy16 := hW.y.2
  intro n
  induction n with
  | zero =>
    rintro i I J l w3 hi hI
    obtain rfl : i = cP s := by omega
    refine XP_n 2 (pc' := 6) (ls' := [.ref (99), .int (l), .int (nI (cP s)), w3]) (st' := [.ref (99), .int (nI (cP s))]) (M' := (I, J, Rx R, N, G)) rfl ?_
    refine XP_geti hI.1 rfl rfl rfl ?_
    rw [hW.p.1]
    refine XP_icN (x := cP s) (y := cP s) rfl (by omega) (by omega) (fun (b7 : cP s ≤ cP s) => ?_) (fun (b7 : cP s < cP s) => absurd b7 (by omega))
    refine XP_n 1 (pc' := 42) (ls' := [.ref (99), .int (l), .int (nI (cP s)), w3]) (st' := [.int (l)]) (M' := (I, J, Rx R, N, G)) rfl ?_
    exact XP_ret rfl ⟨rfl, _, _, rfl, hI⟩
  | succ n ih =>
    rintro i I J l w3 hi hI
    have hfl := sFr_le s (i + 1) (cY s) 0
    unfold sDe
    refine XP_n 2 (pc' := 6) (ls' := [.ref (99), .int (l), .int (nI (i)), w3]) (st' := [.ref (99), .int (nI (i))]) (M' := (I, J, Rx R, N, G)) rfl ?_
    refine XP_geti hI.1 rfl rfl rfl ?_
    rw [hW.p.1]
    refine XP_icN (x := i) (y := cP s) rfl (by omega) (by omega) (fun (b7 : cP s ≤ i) => absurd b7 (by omega)) (fun (b7 : i < cP s) => ?_)
    refine XP_n 3 (pc' := 11) (ls' := [.ref (99), .int (l), .int (nI (i)), w3]) (st' := [.int (nI (0)), .int (nI (i)), .ref (99)]) (M' := (I, J, Rx R, N, G)) rfl ?_
    refine XP_call rfl rfl (q_M_bestP hI (show i < cP s by omega) (by omega)) ?_
    rintro v37 M37 ⟨rfl, I37, J37, rfl, hI37, hpl37⟩
    have hpb37 := pL_b hI37.2.1 (i + 1) (s 99 3) 0 (cY s) 0 (by omega)
    rw [show pL s (i + 1) (s 99 3) 0 (cY s) 0 = pBest s (i + 1) (s 99 3) 0 from rfl] at hpb37
    refine XP_n 3 (pc' := 15) (ls' := [.ref (99), .int (l), .int (nI (i)), .int (nI (0))]) (st' := []) (M' := (I37, J37, Rx R, N, G)) rfl ?_
    refine l_M_dec1 hI37 hW hpl37 ?_ (cY s) 0 (by omega) rfl
    intro f hf
    rw [← hf] at hfl ⊢
    refine XP_n 2 (pc' := 28) (ls' := [.ref (99), .int (l), .int (nI (i)), .int (nI (f))]) (st' := [.ref (99), .int (nI (f))]) (M' := (I37, J37, Rx R, N, G)) rfl ?_
    refine XP_geti hI37.1 rfl rfl rfl ?_
    rw [hW.y.1]
    refine XP_icN (x := f) (y := cY s) rfl (by omega) (by omega) (fun (b29 : ¬ f = cY s) => ?_) (fun (b29 : f = cY s) => ?_)
    · refine XP_n 2 (pc' := 34) (ls' := [.ref (99), .int (l), .int (nI (i)), .int (nI (f))]) (st' := [.int (l), .int (nI (f))]) (M' := (I37, J37, Rx R, N, G)) rfl ?_
      refine XP_icD rfl (fun (b34 : nI (f) ≤ l) => ?_) (fun (b34 : l < nI (f)) => ?_)
      · have n34 := Int32.not_lt.mpr b34
        refine XP_n 3 (pc' := 40) (ls' := [.ref (99), .int (l), .int (nI (i) + nI (1)), .int (nI (f))]) (st' := []) (M' := (I37, J37, Rx R, N, G)) rfl ?_
        rw [show nI (i) + nI (1) = nI (i + 1) from nI_addE (rfl) rfl]
        refine XP_n 1 (pc' := 4) (ls' := [.ref (99), .int (l), .int (nI (i + 1)), .int (nI (f))]) (st' := []) (M' := (I37, J37, Rx R, N, G)) rfl ?_
        rw [if_neg (by omega), if_neg (Int32.not_lt.mpr b34)]
        exact ih (i + 1) _ _ _ _ (by omega) hI37
      · have n34 := Int32.not_le.mpr b34
        refine XP_n 4 (pc' := 40) (ls' := [.ref (99), .int (nI (f)), .int (nI (i) + nI (1)), .int (nI (f))]) (st' := []) (M' := (I37, J37, Rx R, N, G)) rfl ?_
        rw [show nI (i) + nI (1) = nI (i + 1) from nI_addE (rfl) rfl]
        refine XP_n 1 (pc' := 4) (ls' := [.ref (99), .int (nI (f)), .int (nI (i + 1)), .int (nI (f))]) (st' := []) (M' := (I37, J37, Rx R, N, G)) rfl ?_
        rw [if_neg (by omega), if_pos b34]
        exact ih (i + 1) _ _ _ _ (by omega) hI37
    · refine XP_n 1 (pc' := 31) (ls' := [.ref (99), .int (l), .int (nI (i)), .int (nI (f))]) (st' := [.int (cI (-1))]) (M' := (I37, J37, Rx R, N, G)) rfl ?_
      rw [if_pos (by omega)]
      exact XP_ret rfl ⟨rfl, _, _, rfl, hI37⟩
theorem f_decided (hI : Inv s R N I J) : ∃ v, TP X (d + 12) n_H_decided [.ref 0] (I, J, Rx R, N, G) (QP s R N G (.int v)) ∧ ∀ I J, Inv s R N I J → TP X (d + 12) n_M_decided [.ref 99] (I, J, Rx R, N, G) (QP s R N G (.int v)) := by
  have hI0 := hI
  obtain ⟨hS, hW, hL, hC, hch⟩ := hI0
  have hy16 := hW.y.2
  have hp4 := hW.p.2
  have hs6 := hW.ns.2
  have hr8 := hW.r.2
  have hst8 := hW.st.2
  have ht3 := hW.t.2
  have hw60 := hW.w.2
  have hcwa := cWA_le hW
  refine ⟨sDe s (cP s) 0 (cI (-1)), ?_, fun I J hI => ?_⟩
  · unfold TP
    show XP X _ k_H_decided 0 [.ref (0), xj, xj, xj] [] _ _
    refine XP_n 4 (pc' := 4) (ls' := [.ref (0), .int (cI (-1)), .int (nI (0)), xj]) (st' := []) (M' := (I, J, Rx R, N, G)) rfl ?_
    exact l_H_dec (d := d + 3) hW (cP s) 0 _ _ _ _ (by omega) hI
  · unfold TP
    show XP X _ k_M_decided 0 [.ref (99), xj, xj, xj] [] _ _
    refine XP_n 4 (pc' := 4) (ls' := [.ref (99), .int (cI (-1)), .int (nI (0)), xj]) (st' := []) (M' := (I, J, Rx R, N, G)) rfl ?_
    exact l_M_dec (d := d + 6) hW (cP s) 0 _ _ _ _ (by omega) hI
end
