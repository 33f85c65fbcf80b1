/-! faces: the coast -/
section
variable {X : hX} {d : Nat} {s I : Nat → Nat → Int32} {J : Nat → Nat → Int64} {R : Nat → Nat → Option Nat} {N : Nat → Nat} {G : hG}
theorem f_level (hI : Inv s R N I J) (p : Int32) (y : Int32) : ∃ v, TP X (d + 12) n_H_level [.ref 0, .int p, .int y] (I, J, Rx R, N, G) (QP s R N G (.int v)) ∧ ∀ I J, Inv s R N I J → TP X (d + 12) n_M_level [.ref 99, .int p, .int y] (I, J, Rx R, N, G) (QP s R N G (.int v)) := by
  have hI0 := hI
  obtain ⟨hS, hW, hL, hC, hch⟩ := hI0
  have hy16 := hW.y.2
  have hp4 := hW.p.2
  have hs6 := hW.ns.2
  have hr8 := hW.r.2
  have hst8 := hW.st.2
  have ht3 := hW.t.2
  have hw60 := hW.w.2
  have hcwa := cWA_le hW
  by_cases g0 : inN (p) (cP s)
  rotate_left
  · skip
    refine ⟨cI (-5), ?_, fun I J hI => ?_⟩
    · unfold TP
      show XP X _ k_H_level 0 [.ref (0), .int (p), .int (y)] [] _ _
      refine XP_n 3 (pc' := 3) (ls' := [.ref (0), .int (p), .int (y)]) (st' := [.int (p), .ref (1)]) (M' := (I, J, Rx R, N, G)) rfl ?_
      refine XP_pure rfl rfl (c_hasPath hI.1 hI.2.1 _) ?_
      refine XP_s rfl ?_
      refine XP_bne (fun b4 => absurd b4 g0) (fun b4 => ?_)
      refine XP_n 1 (pc' := 6) (ls' := [.ref (0), .int (p), .int (y)]) (st' := [.int (cI (-5))]) (M' := (I, J, Rx R, N, G)) rfl ?_
      exact XP_ret rfl ⟨rfl, _, _, rfl, hI⟩
    · unfold TP
      show XP X _ k_M_level 0 [.ref (99), .int (p), .int (y)] [] _ _
      refine XP_n 2 (pc' := 2) (ls' := [.ref (99), .int (p), .int (y)]) (st' := [.int (p), .ref (99)]) (M' := (I, J, Rx R, N, G)) rfl ?_
      refine XP_pure rfl rfl (m_isPath hI.1 hI.2.1 _) ?_
      refine XP_s rfl ?_
      refine XP_bne (fun b3 => absurd b3 g0) (fun b3 => ?_)
      refine XP_n 2 (pc' := 17) (ls' := [.ref (99), .int (p), .int (y)]) (st' := [.int (cI (-5))]) (M' := (I, J, Rx R, N, G)) rfl ?_
      exact XP_ret rfl ⟨rfl, _, _, rfl, hI⟩
  obtain ⟨pn, hpn, rfl, ep⟩ := inN_nat g0 (by omega)
  by_cases g1 : iv 0 15 (y)
  rotate_left
  · skip
    refine ⟨cI (-7), ?_, fun I J hI => ?_⟩
    · unfold TP
      show XP X _ k_H_level 0 [.ref (0), .int (nI (pn)), .int (y)] [] _ _
      refine XP_n 3 (pc' := 3) (ls' := [.ref (0), .int (nI (pn)), .int (y)]) (st' := [.int (nI (pn)), .ref (1)]) (M' := (I, J, Rx R, N, G)) rfl ?_
      refine XP_pure rfl rfl (c_hasPath hI.1 hI.2.1 _) ?_
      refine XP_s rfl ?_
      refine XP_bne (fun b4 => ?_) (fun b4 => absurd g0 b4)
      refine XP_n 1 (pc' := 8) (ls' := [.ref (0), .int (nI (pn)), .int (y)]) (st' := [.int (y)]) (M' := (I, J, Rx R, N, G)) rfl ?_
      refine XP_pure rfl rfl (t_H_isAnyYear X _ _ _) ?_
      refine XP_s rfl ?_
      refine XP_beq (fun b9 => ?_) (fun b9 => absurd b9 g1)
      refine XP_n 1 (pc' := 17) (ls' := [.ref (0), .int (nI (pn)), .int (y)]) (st' := [.int (cI (-7))]) (M' := (I, J, Rx R, N, G)) rfl ?_
      exact XP_ret rfl ⟨rfl, _, _, rfl, hI⟩
    · unfold TP
      show XP X _ k_M_level 0 [.ref (99), .int (nI (pn)), .int (y)] [] _ _
      refine XP_n 2 (pc' := 2) (ls' := [.ref (99), .int (nI (pn)), .int (y)]) (st' := [.int (nI (pn)), .ref (99)]) (M' := (I, J, Rx R, N, G)) rfl ?_
      refine XP_pure rfl rfl (m_isPath hI.1 hI.2.1 _) ?_
      refine XP_s rfl ?_
      refine XP_bne (fun b3 => ?_) (fun b3 => absurd g0 b3)
      refine XP_n 3 (pc' := 9) (ls' := [.ref (99), .int (nI (pn)), .int (y)]) (st' := [.int (nI (15)), .int (nI (0)), .int (y)]) (M' := (I, J, Rx R, N, G)) rfl ?_
      refine XP_pure rfl rfl (w_M X _ _ 0 15 _) ?_
      refine XP_s rfl ?_
      refine XP_beq (fun b10 => ?_) (fun b10 => absurd b10 g1)
      refine XP_n 1 (pc' := 17) (ls' := [.ref (99), .int (nI (pn)), .int (y)]) (st' := [.int (cI (-7))]) (M' := (I, J, Rx R, N, G)) rfl ?_
      exact XP_ret rfl ⟨rfl, _, _, rfl, hI⟩
  obtain ⟨yn, hyn0, hyn, rfl, ey⟩ := iv_nat g1 (by omega) (by omega)
  refine ⟨nI (nLv s pn yn), ?_, fun I J hI => ?_⟩
  · unfold TP
    show XP X _ k_H_level 0 [.ref (0), .int (nI (pn)), .int (nI (yn))] [] _ _
    refine XP_n 3 (pc' := 3) (ls' := [.ref (0), .int (nI (pn)), .int (nI (yn))]) (st' := [.int (nI (pn)), .ref (1)]) (M' := (I, J, Rx R, N, G)) rfl ?_
    refine XP_pure rfl rfl (c_hasPath hI.1 hI.2.1 _) ?_
    refine XP_s rfl ?_
    refine XP_bne (fun b4 => ?_) (fun b4 => absurd g0 b4)
    refine XP_n 1 (pc' := 8) (ls' := [.ref (0), .int (nI (pn)), .int (nI (yn))]) (st' := [.int (nI (yn))]) (M' := (I, J, Rx R, N, G)) rfl ?_
    refine XP_pure rfl rfl (t_H_isAnyYear X _ _ _) ?_
    refine XP_s rfl ?_
    refine XP_beq (fun b9 => absurd g1 b9) (fun b9 => ?_)
    refine XP_n 4 (pc' := 14) (ls' := [.ref (0), .int (nI (pn)), .int (nI (yn))]) (st' := [.int (nI (yn)), .int (nI (pn)), .ref (1)]) (M' := (I, J, Rx R, N, G)) rfl ?_
    refine XP_pure rfl rfl (c_lv hI.1 hW (show pn < cP s by omega) (by omega)) ?_
    have hlv21 := (nLv_ok hW (show pn < cP s by omega) (show yn ≤ 15 by omega)).2
    refine XP_n 1 (pc' := 17) (ls' := [.ref (0), .int (nI (pn)), .int (nI (yn))]) (st' := [.int (nI (nLv s (pn) (yn)))]) (M' := (I, J, Rx R, N, G)) rfl ?_
    exact XP_ret rfl ⟨rfl, _, _, rfl, hI⟩
  · unfold TP
    show XP X _ k_M_level 0 [.ref (99), .int (nI (pn)), .int (nI (yn))] [] _ _
    refine XP_n 2 (pc' := 2) (ls' := [.ref (99), .int (nI (pn)), .int (nI (yn))]) (st' := [.int (nI (pn)), .ref (99)]) (M' := (I, J, Rx R, N, G)) rfl ?_
    refine XP_pure rfl rfl (m_isPath hI.1 hI.2.1 _) ?_
    refine XP_s rfl ?_
    refine XP_bne (fun b3 => ?_) (fun b3 => absurd g0 b3)
    refine XP_n 3 (pc' := 9) (ls' := [.ref (99), .int (nI (pn)), .int (nI (yn))]) (st' := [.int (nI (15)), .int (nI (0)), .int (nI (yn))]) (M' := (I, J, Rx R, N, G)) rfl ?_
    refine XP_pure rfl rfl (w_M X _ _ 0 15 _) ?_
    refine XP_s rfl ?_
    refine XP_beq (fun b10 => absurd g1 b10) (fun b10 => ?_)
    refine XP_n 3 (pc' := 14) (ls' := [.ref (99), .int (nI (pn)), .int (nI (yn))]) (st' := [.int (nI (yn)), .int (nI (pn)), .ref (99)]) (M' := (I, J, Rx R, N, G)) rfl ?_
    refine XP_pure rfl rfl (m_lv hI.1 hW (show pn < cP s by omega) (by omega)) ?_
    have hlv22 := (nLv_ok hW (show pn < cP s by omega) (show yn ≤ 15 by omega)).2
    refine XP_n 1 (pc' := 17) (ls' := [.ref (99), .int (nI (pn)), .int (nI (yn))]) (st' := [.int (nI (nLv s (pn) (yn)))]) (M' := (I, J, Rx R, N, G)) rfl ?_
    exact XP_ret rfl ⟨rfl, _, _, rfl, hI⟩
theorem f_flood (hI : Inv s R N I J) (p : Int32) (y : Int32) (h : Int32) : ∃ v, TP X (d + 12) n_H_flood [.ref 0, .int p, .int y, .int h] (I, J, Rx R, N, G) (QP s R N G (.int v)) ∧ ∀ I J, Inv s R N I J → TP X (d + 12) n_M_flood [.ref 99, .int p, .int y, .int h] (I, J, Rx R, N, G) (QP s R N G (.int v)) := by
  have hI0 := hI
  obtain ⟨hS, hW, hL, hC, hch⟩ := hI0
  have hy16 := hW.y.2
  have hp4 := hW.p.2
  have hs6 := hW.ns.2
  have hr8 := hW.r.2
  have hst8 := hW.st.2
  have ht3 := hW.t.2
  have hw60 := hW.w.2
  have hcwa := cWA_le hW
  by_cases g0 : inN (p) (cP s)
  rotate_left
  · skip
    refine ⟨cI (-5), ?_, fun I J hI => ?_⟩
    · unfold TP
      show XP X _ k_H_flood 0 [.ref (0), .int (p), .int (y), .int (h)] [] _ _
      refine XP_n 3 (pc' := 3) (ls' := [.ref (0), .int (p), .int (y), .int (h)]) (st' := [.int (p), .ref (1)]) (M' := (I, J, Rx R, N, G)) rfl ?_
      refine XP_pure rfl rfl (c_hasPath hI.1 hI.2.1 _) ?_
      refine XP_s rfl ?_
      refine XP_bne (fun b4 => absurd b4 g0) (fun b4 => ?_)
      refine XP_n 1 (pc' := 6) (ls' := [.ref (0), .int (p), .int (y), .int (h)]) (st' := [.int (cI (-5))]) (M' := (I, J, Rx R, N, G)) rfl ?_
      exact XP_ret rfl ⟨rfl, _, _, rfl, hI⟩
    · unfold TP
      show XP X _ k_M_flood 0 [.ref (99), .int (p), .int (y), .int (h)] [] _ _
      refine XP_n 2 (pc' := 2) (ls' := [.ref (99), .int (p), .int (y), .int (h)]) (st' := [.int (p), .ref (99)]) (M' := (I, J, Rx R, N, G)) rfl ?_
      refine XP_pure rfl rfl (m_isPath hI.1 hI.2.1 _) ?_
      refine XP_s rfl ?_
      refine XP_bne (fun b3 => absurd b3 g0) (fun b3 => ?_)
      refine XP_n 2 (pc' := 25) (ls' := [.ref (99), .int (p), .int (y), .int (h)]) (st' := [.int (cI (-5))]) (M' := (I, J, Rx R, N, G)) rfl ?_
      exact XP_ret rfl ⟨rfl, _, _, rfl, hI⟩
  obtain ⟨pn, hpn, rfl, ep⟩ := inN_nat g0 (by omega)
  by_cases g1 : iv 0 15 (y)
  rotate_left
  · skip
    refine ⟨cI (-7), ?_, fun I J hI => ?_⟩
    · unfold TP
      show XP X _ k_H_flood 0 [.ref (0), .int (nI (pn)), .int (y), .int (h)] [] _ _
      refine XP_n 3 (pc' := 3) (ls' := [.ref (0), .int (nI (pn)), .int (y), .int (h)]) (st' := [.int (nI (pn)), .ref (1)]) (M' := (I, J, Rx R, N, G)) rfl ?_
      refine XP_pure rfl rfl (c_hasPath hI.1 hI.2.1 _) ?_
      refine XP_s rfl ?_
      refine XP_bne (fun b4 => ?_) (fun b4 => absurd g0 b4)
      refine XP_n 1 (pc' := 8) (ls' := [.ref (0), .int (nI (pn)), .int (y), .int (h)]) (st' := [.int (y)]) (M' := (I, J, Rx R, N, G)) rfl ?_
      refine XP_pure rfl rfl (t_H_isAnyYear X _ _ _) ?_
      refine XP_s rfl ?_
      refine XP_beq (fun b9 => ?_) (fun b9 => absurd b9 g1)
      refine XP_n 1 (pc' := 14) (ls' := [.ref (0), .int (nI (pn)), .int (y), .int (h)]) (st' := [.int (cI (-7))]) (M' := (I, J, Rx R, N, G)) rfl ?_
      exact XP_ret rfl ⟨rfl, _, _, rfl, hI⟩
    · unfold TP
      show XP X _ k_M_flood 0 [.ref (99), .int (nI (pn)), .int (y), .int (h)] [] _ _
      refine XP_n 2 (pc' := 2) (ls' := [.ref (99), .int (nI (pn)), .int (y), .int (h)]) (st' := [.int (nI (pn)), .ref (99)]) (M' := (I, J, Rx R, N, G)) rfl ?_
      refine XP_pure rfl rfl (m_isPath hI.1 hI.2.1 _) ?_
      refine XP_s rfl ?_
      refine XP_bne (fun b3 => ?_) (fun b3 => absurd g0 b3)
      refine XP_n 3 (pc' := 9) (ls' := [.ref (99), .int (nI (pn)), .int (y), .int (h)]) (st' := [.int (nI (15)), .int (nI (0)), .int (y)]) (M' := (I, J, Rx R, N, G)) rfl ?_
      refine XP_pure rfl rfl (w_M X _ _ 0 15 _) ?_
      refine XP_s rfl ?_
      refine XP_beq (fun b10 => ?_) (fun b10 => absurd b10 g1)
      refine XP_n 1 (pc' := 25) (ls' := [.ref (99), .int (nI (pn)), .int (y), .int (h)]) (st' := [.int (cI (-7))]) (M' := (I, J, Rx R, N, G)) rfl ?_
      exact XP_ret rfl ⟨rfl, _, _, rfl, hI⟩
  obtain ⟨yn, hyn0, hyn, rfl, ey⟩ := iv_nat g1 (by omega) (by omega)
  by_cases g2 : iv 0 99 (h)
  rotate_left
  · skip
    refine ⟨cI (-7), ?_, fun I J hI => ?_⟩
    · unfold TP
      show XP X _ k_H_flood 0 [.ref (0), .int (nI (pn)), .int (nI (yn)), .int (h)] [] _ _
      refine XP_n 3 (pc' := 3) (ls' := [.ref (0), .int (nI (pn)), .int (nI (yn)), .int (h)]) (st' := [.int (nI (pn)), .ref (1)]) (M' := (I, J, Rx R, N, G)) rfl ?_
      refine XP_pure rfl rfl (c_hasPath hI.1 hI.2.1 _) ?_
      refine XP_s rfl ?_
      refine XP_bne (fun b4 => ?_) (fun b4 => absurd g0 b4)
      refine XP_n 1 (pc' := 8) (ls' := [.ref (0), .int (nI (pn)), .int (nI (yn)), .int (h)]) (st' := [.int (nI (yn))]) (M' := (I, J, Rx R, N, G)) rfl ?_
      refine XP_pure rfl rfl (t_H_isAnyYear X _ _ _) ?_
      refine XP_s rfl ?_
      refine XP_beq (fun b9 => absurd g1 b9) (fun b9 => ?_)
      refine XP_n 1 (pc' := 11) (ls' := [.ref (0), .int (nI (pn)), .int (nI (yn)), .int (h)]) (st' := [.int (h)]) (M' := (I, J, Rx R, N, G)) rfl ?_
      refine XP_pure rfl rfl (t_H_isWall X _ _ _) ?_
      refine XP_s rfl ?_
      refine XP_bne (fun b12 => absurd b12 g2) (fun b12 => ?_)
      refine XP_n 1 (pc' := 14) (ls' := [.ref (0), .int (nI (pn)), .int (nI (yn)), .int (h)]) (st' := [.int (cI (-7))]) (M' := (I, J, Rx R, N, G)) rfl ?_
      exact XP_ret rfl ⟨rfl, _, _, rfl, hI⟩
    · unfold TP
      show XP X _ k_M_flood 0 [.ref (99), .int (nI (pn)), .int (nI (yn)), .int (h)] [] _ _
      refine XP_n 2 (pc' := 2) (ls' := [.ref (99), .int (nI (pn)), .int (nI (yn)), .int (h)]) (st' := [.int (nI (pn)), .ref (99)]) (M' := (I, J, Rx R, N, G)) rfl ?_
      refine XP_pure rfl rfl (m_isPath hI.1 hI.2.1 _) ?_
      refine XP_s rfl ?_
      refine XP_bne (fun b3 => ?_) (fun b3 => absurd g0 b3)
      refine XP_n 3 (pc' := 9) (ls' := [.ref (99), .int (nI (pn)), .int (nI (yn)), .int (h)]) (st' := [.int (nI (15)), .int (nI (0)), .int (nI (yn))]) (M' := (I, J, Rx R, N, G)) rfl ?_
      refine XP_pure rfl rfl (w_M X _ _ 0 15 _) ?_
      refine XP_s rfl ?_
      refine XP_beq (fun b10 => absurd g1 b10) (fun b10 => ?_)
      refine XP_n 3 (pc' := 14) (ls' := [.ref (99), .int (nI (pn)), .int (nI (yn)), .int (h)]) (st' := [.int (nI (99)), .int (nI (0)), .int (h)]) (M' := (I, J, Rx R, N, G)) rfl ?_
      refine XP_pure rfl rfl (w_M X _ _ 0 99 _) ?_
      refine XP_s rfl ?_
      refine XP_beq (fun b15 => ?_) (fun b15 => absurd b15 g2)
      refine XP_n 1 (pc' := 25) (ls' := [.ref (99), .int (nI (pn)), .int (nI (yn)), .int (h)]) (st' := [.int (cI (-7))]) (M' := (I, J, Rx R, N, G)) rfl ?_
      exact XP_ret rfl ⟨rfl, _, _, rfl, hI⟩
  obtain ⟨hn, hhn0, hhn, rfl, eh⟩ := iv_nat g2 (by omega) (by omega)
  refine ⟨gFl s (nI (nLv s pn yn)) (nI hn), ?_, fun I J hI => ?_⟩
  · unfold TP
    show XP X _ k_H_flood 0 [.ref (0), .int (nI (pn)), .int (nI (yn)), .int (nI (hn))] [] _ _
    refine XP_n 3 (pc' := 3) (ls' := [.ref (0), .int (nI (pn)), .int (nI (yn)), .int (nI (hn))]) (st' := [.int (nI (pn)), .ref (1)]) (M' := (I, J, Rx R, N, G)) rfl ?_
    refine XP_pure rfl rfl (c_hasPath hI.1 hI.2.1 _) ?_
    refine XP_s rfl ?_
    refine XP_bne (fun b4 => ?_) (fun b4 => absurd g0 b4)
    refine XP_n 1 (pc' := 8) (ls' := [.ref (0), .int (nI (pn)), .int (nI (yn)), .int (nI (hn))]) (st' := [.int (nI (yn))]) (M' := (I, J, Rx R, N, G)) rfl ?_
    refine XP_pure rfl rfl (t_H_isAnyYear X _ _ _) ?_
    refine XP_s rfl ?_
    refine XP_beq (fun b9 => absurd g1 b9) (fun b9 => ?_)
    refine XP_n 1 (pc' := 11) (ls' := [.ref (0), .int (nI (pn)), .int (nI (yn)), .int (nI (hn))]) (st' := [.int (nI (hn))]) (M' := (I, J, Rx R, N, G)) rfl ?_
    refine XP_pure rfl rfl (t_H_isWall X _ _ _) ?_
    refine XP_s rfl ?_
    refine XP_bne (fun b12 => ?_) (fun b12 => absurd g2 b12)
    refine XP_n 7 (pc' := 22) (ls' := [.ref (0), .int (nI (pn)), .int (nI (yn)), .int (nI (hn))]) (st' := [.int (nI (yn)), .int (nI (pn)), .ref (1), .int (nI (hn)), .ref (1)]) (M' := (I, J, Rx R, N, G)) rfl ?_
    refine XP_pure rfl rfl (c_lv hI.1 hW (show pn < cP s by omega) (by omega)) ?_
    have hlv23 := (nLv_ok hW (show pn < cP s by omega) (show yn ≤ 15 by omega)).2
    refine XP_pure rfl rfl (c_fl hI.1 hW _ _) ?_
    exact XP_ret rfl ⟨rfl, _, _, rfl, hI⟩
  · unfold TP
    show XP X _ k_M_flood 0 [.ref (99), .int (nI (pn)), .int (nI (yn)), .int (nI (hn))] [] _ _
    refine XP_n 2 (pc' := 2) (ls' := [.ref (99), .int (nI (pn)), .int (nI (yn)), .int (nI (hn))]) (st' := [.int (nI (pn)), .ref (99)]) (M' := (I, J, Rx R, N, G)) rfl ?_
    refine XP_pure rfl rfl (m_isPath hI.1 hI.2.1 _) ?_
    refine XP_s rfl ?_
    refine XP_bne (fun b3 => ?_) (fun b3 => absurd g0 b3)
    refine XP_n 3 (pc' := 9) (ls' := [.ref (99), .int (nI (pn)), .int (nI (yn)), .int (nI (hn))]) (st' := [.int (nI (15)), .int (nI (0)), .int (nI (yn))]) (M' := (I, J, Rx R, N, G)) rfl ?_
    refine XP_pure rfl rfl (w_M X _ _ 0 15 _) ?_
    refine XP_s rfl ?_
    refine XP_beq (fun b10 => absurd g1 b10) (fun b10 => ?_)
    refine XP_n 3 (pc' := 14) (ls' := [.ref (99), .int (nI (pn)), .int (nI (yn)), .int (nI (hn))]) (st' := [.int (nI (99)), .int (nI (0)), .int (nI (hn))]) (M' := (I, J, Rx R, N, G)) rfl ?_
    refine XP_pure rfl rfl (w_M X _ _ 0 99 _) ?_
    refine XP_s rfl ?_
    refine XP_beq (fun b15 => absurd g2 b15) (fun b15 => ?_)
    refine XP_n 4 (pc' := 20) (ls' := [.ref (99), .int (nI (pn)), .int (nI (yn)), .int (nI (hn))]) (st' := [.int (nI (yn)), .int (nI (pn)), .ref (99), .ref (99)]) (M' := (I, J, Rx R, N, G)) rfl ?_
    refine XP_pure rfl rfl (m_lv hI.1 hW (show pn < cP s by omega) (by omega)) ?_
    have hlv24 := (nLv_ok hW (show pn < cP s by omega) (show yn ≤ 15 by omega)).2
    refine XP_n 1 (pc' := 22) (ls' := [.ref (99), .int (nI (pn)), .int (nI (yn)), .int (nI (hn))]) (st' := [.int (nI (hn)), .int (nI (nLv s (pn) (yn))), .ref (99)]) (M' := (I, J, Rx R, N, G)) rfl ?_
    refine XP_pure rfl rfl (m_fl hI.1 hW _ _) ?_
    refine XP_n 1 (pc' := 25) (ls' := [.ref (99), .int (nI (pn)), .int (nI (yn)), .int (nI (hn))]) (st' := [.int (gFl s (nI (nLv s (pn) (yn))) (nI (hn)))]) (M' := (I, J, Rx R, N, G)) rfl ?_
    exact XP_ret rfl ⟨rfl, _, _, rfl, hI⟩
theorem f_harm (hI : Inv s R N I J) (p : Int32) (y : Int32) (h : Int32) (rich : Int32) : ∃ v, TP X (d + 12) n_H_harm [.ref 0, .int p, .int y, .int h, .int rich] (I, J, Rx R, N, G) (QP s R N G (.long v)) ∧ ∀ I J, Inv s R N I J → TP X (d + 12) n_M_harm [.ref 99, .int p, .int y, .int h, .int rich] (I, J, Rx R, N, G) (QP s R N G (.long v)) := by
  have hI0 := hI
  obtain ⟨hS, hW, hL, hC, hch⟩ := hI0
  have hy16 := hW.y.2
  have hp4 := hW.p.2
  have hs6 := hW.ns.2
  have hr8 := hW.r.2
  have hst8 := hW.st.2
  have ht3 := hW.t.2
  have hw60 := hW.w.2
  have hcwa := cWA_le hW
  by_cases g0 : inN (p) (cP s)
  rotate_left
  · skip
    refine ⟨cL (-4611686018427387904), ?_, fun I J hI => ?_⟩
    · unfold TP
      show XP X _ k_H_harm 0 [.ref (0), .int (p), .int (y), .int (h), .int (rich)] [] _ _
      refine XP_n 3 (pc' := 3) (ls' := [.ref (0), .int (p), .int (y), .int (h), .int (rich)]) (st' := [.int (p), .ref (1)]) (M' := (I, J, Rx R, N, G)) rfl ?_
      refine XP_pure rfl rfl (c_hasPath hI.1 hI.2.1 _) ?_
      refine XP_s rfl ?_
      refine XP_beq (fun b4 => ?_) (fun b4 => absurd b4 g0)
      refine XP_n 1 (pc' := 15) (ls' := [.ref (0), .int (p), .int (y), .int (h), .int (rich)]) (st' := [.long (cL (-4611686018427387904))]) (M' := (I, J, Rx R, N, G)) rfl ?_
      exact XP_ret rfl ⟨rfl, _, _, rfl, hI⟩
    · unfold TP
      show XP X _ k_M_harm 0 [.ref (99), .int (p), .int (y), .int (h), .int (rich)] [] _ _
      refine XP_n 2 (pc' := 2) (ls' := [.ref (99), .int (p), .int (y), .int (h), .int (rich)]) (st' := [.int (p), .ref (99)]) (M' := (I, J, Rx R, N, G)) rfl ?_
      refine XP_pure rfl rfl (m_isPath hI.1 hI.2.1 _) ?_
      refine XP_s rfl ?_
      refine XP_beq (fun b3 => ?_) (fun b3 => absurd b3 g0)
      refine XP_n 1 (pc' := 30) (ls' := [.ref (99), .int (p), .int (y), .int (h), .int (rich)]) (st' := [.long (cL (-4611686018427387904))]) (M' := (I, J, Rx R, N, G)) rfl ?_
      exact XP_ret rfl ⟨rfl, _, _, rfl, hI⟩
  obtain ⟨pn, hpn, rfl, ep⟩ := inN_nat g0 (by omega)
  by_cases g1 : iv 0 15 (y)
  rotate_left
  · skip
    refine ⟨cL (-4611686018427387904), ?_, fun I J hI => ?_⟩
    · unfold TP
      show XP X _ k_H_harm 0 [.ref (0), .int (nI (pn)), .int (y), .int (h), .int (rich)] [] _ _
      refine XP_n 3 (pc' := 3) (ls' := [.ref (0), .int (nI (pn)), .int (y), .int (h), .int (rich)]) (st' := [.int (nI (pn)), .ref (1)]) (M' := (I, J, Rx R, N, G)) rfl ?_
      refine XP_pure rfl rfl (c_hasPath hI.1 hI.2.1 _) ?_
      refine XP_s rfl ?_
      refine XP_beq (fun b4 => absurd g0 b4) (fun b4 => ?_)
      refine XP_n 1 (pc' := 6) (ls' := [.ref (0), .int (nI (pn)), .int (y), .int (h), .int (rich)]) (st' := [.int (y)]) (M' := (I, J, Rx R, N, G)) rfl ?_
      refine XP_pure rfl rfl (t_H_isAnyYear X _ _ _) ?_
      refine XP_s rfl ?_
      refine XP_beq (fun b7 => ?_) (fun b7 => absurd b7 g1)
      refine XP_n 1 (pc' := 15) (ls' := [.ref (0), .int (nI (pn)), .int (y), .int (h), .int (rich)]) (st' := [.long (cL (-4611686018427387904))]) (M' := (I, J, Rx R, N, G)) rfl ?_
      exact XP_ret rfl ⟨rfl, _, _, rfl, hI⟩
    · unfold TP
      show XP X _ k_M_harm 0 [.ref (99), .int (nI (pn)), .int (y), .int (h), .int (rich)] [] _ _
      refine XP_n 2 (pc' := 2) (ls' := [.ref (99), .int (nI (pn)), .int (y), .int (h), .int (rich)]) (st' := [.int (nI (pn)), .ref (99)]) (M' := (I, J, Rx R, N, G)) rfl ?_
      refine XP_pure rfl rfl (m_isPath hI.1 hI.2.1 _) ?_
      refine XP_s rfl ?_
      refine XP_beq (fun b3 => absurd g0 b3) (fun b3 => ?_)
      refine XP_n 3 (pc' := 7) (ls' := [.ref (99), .int (nI (pn)), .int (y), .int (h), .int (rich)]) (st' := [.int (nI (15)), .int (nI (0)), .int (y)]) (M' := (I, J, Rx R, N, G)) rfl ?_
      refine XP_pure rfl rfl (w_M X _ _ 0 15 _) ?_
      refine XP_s rfl ?_
      refine XP_beq (fun b8 => ?_) (fun b8 => absurd b8 g1)
      refine XP_n 1 (pc' := 30) (ls' := [.ref (99), .int (nI (pn)), .int (y), .int (h), .int (rich)]) (st' := [.long (cL (-4611686018427387904))]) (M' := (I, J, Rx R, N, G)) rfl ?_
      exact XP_ret rfl ⟨rfl, _, _, rfl, hI⟩
  obtain ⟨yn, hyn0, hyn, rfl, ey⟩ := iv_nat g1 (by omega) (by omega)
  by_cases g2 : iv 0 99 (h)
  rotate_left
  · skip
    refine ⟨cL (-4611686018427387904), ?_, fun I J hI => ?_⟩
    · unfold TP
      show XP X _ k_H_harm 0 [.ref (0), .int (nI (pn)), .int (nI (yn)), .int (h), .int (rich)] [] _ _
      refine XP_n 3 (pc' := 3) (ls' := [.ref (0), .int (nI (pn)), .int (nI (yn)), .int (h), .int (rich)]) (st' := [.int (nI (pn)), .ref (1)]) (M' := (I, J, Rx R, N, G)) rfl ?_
      refine XP_pure rfl rfl (c_hasPath hI.1 hI.2.1 _) ?_
      refine XP_s rfl ?_
      refine XP_beq (fun b4 => absurd g0 b4) (fun b4 => ?_)
      refine XP_n 1 (pc' := 6) (ls' := [.ref (0), .int (nI (pn)), .int (nI (yn)), .int (h), .int (rich)]) (st' := [.int (nI (yn))]) (M' := (I, J, Rx R, N, G)) rfl ?_
      refine XP_pure rfl rfl (t_H_isAnyYear X _ _ _) ?_
      refine XP_s rfl ?_
      refine XP_beq (fun b7 => absurd g1 b7) (fun b7 => ?_)
      refine XP_n 1 (pc' := 9) (ls' := [.ref (0), .int (nI (pn)), .int (nI (yn)), .int (h), .int (rich)]) (st' := [.int (h)]) (M' := (I, J, Rx R, N, G)) rfl ?_
      refine XP_pure rfl rfl (t_H_isWall X _ _ _) ?_
      refine XP_s rfl ?_
      refine XP_beq (fun b10 => ?_) (fun b10 => absurd b10 g2)
      refine XP_n 1 (pc' := 15) (ls' := [.ref (0), .int (nI (pn)), .int (nI (yn)), .int (h), .int (rich)]) (st' := [.long (cL (-4611686018427387904))]) (M' := (I, J, Rx R, N, G)) rfl ?_
      exact XP_ret rfl ⟨rfl, _, _, rfl, hI⟩
    · unfold TP
      show XP X _ k_M_harm 0 [.ref (99), .int (nI (pn)), .int (nI (yn)), .int (h), .int (rich)] [] _ _
      refine XP_n 2 (pc' := 2) (ls' := [.ref (99), .int (nI (pn)), .int (nI (yn)), .int (h), .int (rich)]) (st' := [.int (nI (pn)), .ref (99)]) (M' := (I, J, Rx R, N, G)) rfl ?_
      refine XP_pure rfl rfl (m_isPath hI.1 hI.2.1 _) ?_
      refine XP_s rfl ?_
      refine XP_beq (fun b3 => absurd g0 b3) (fun b3 => ?_)
      refine XP_n 3 (pc' := 7) (ls' := [.ref (99), .int (nI (pn)), .int (nI (yn)), .int (h), .int (rich)]) (st' := [.int (nI (15)), .int (nI (0)), .int (nI (yn))]) (M' := (I, J, Rx R, N, G)) rfl ?_
      refine XP_pure rfl rfl (w_M X _ _ 0 15 _) ?_
      refine XP_s rfl ?_
      refine XP_beq (fun b8 => absurd g1 b8) (fun b8 => ?_)
      refine XP_n 3 (pc' := 12) (ls' := [.ref (99), .int (nI (pn)), .int (nI (yn)), .int (h), .int (rich)]) (st' := [.int (nI (99)), .int (nI (0)), .int (h)]) (M' := (I, J, Rx R, N, G)) rfl ?_
      refine XP_pure rfl rfl (w_M X _ _ 0 99 _) ?_
      refine XP_s rfl ?_
      refine XP_beq (fun b13 => ?_) (fun b13 => absurd b13 g2)
      refine XP_n 1 (pc' := 30) (ls' := [.ref (99), .int (nI (pn)), .int (nI (yn)), .int (h), .int (rich)]) (st' := [.long (cL (-4611686018427387904))]) (M' := (I, J, Rx R, N, G)) rfl ?_
      exact XP_ret rfl ⟨rfl, _, _, rfl, hI⟩
  obtain ⟨hn, hhn0, hhn, rfl, eh⟩ := iv_nat g2 (by omega) (by omega)
  by_cases g3 : iv 0 9999 (rich)
  rotate_left
  · skip
    refine ⟨cL (-4611686018427387904), ?_, fun I J hI => ?_⟩
    · unfold TP
      show XP X _ k_H_harm 0 [.ref (0), .int (nI (pn)), .int (nI (yn)), .int (nI (hn)), .int (rich)] [] _ _
      refine XP_n 3 (pc' := 3) (ls' := [.ref (0), .int (nI (pn)), .int (nI (yn)), .int (nI (hn)), .int (rich)]) (st' := [.int (nI (pn)), .ref (1)]) (M' := (I, J, Rx R, N, G)) rfl ?_
      refine XP_pure rfl rfl (c_hasPath hI.1 hI.2.1 _) ?_
      refine XP_s rfl ?_
      refine XP_beq (fun b4 => absurd g0 b4) (fun b4 => ?_)
      refine XP_n 1 (pc' := 6) (ls' := [.ref (0), .int (nI (pn)), .int (nI (yn)), .int (nI (hn)), .int (rich)]) (st' := [.int (nI (yn))]) (M' := (I, J, Rx R, N, G)) rfl ?_
      refine XP_pure rfl rfl (t_H_isAnyYear X _ _ _) ?_
      refine XP_s rfl ?_
      refine XP_beq (fun b7 => absurd g1 b7) (fun b7 => ?_)
      refine XP_n 1 (pc' := 9) (ls' := [.ref (0), .int (nI (pn)), .int (nI (yn)), .int (nI (hn)), .int (rich)]) (st' := [.int (nI (hn))]) (M' := (I, J, Rx R, N, G)) rfl ?_
      refine XP_pure rfl rfl (t_H_isWall X _ _ _) ?_
      refine XP_s rfl ?_
      refine XP_beq (fun b10 => absurd g2 b10) (fun b10 => ?_)
      refine XP_n 1 (pc' := 12) (ls' := [.ref (0), .int (nI (pn)), .int (nI (yn)), .int (nI (hn)), .int (rich)]) (st' := [.int (rich)]) (M' := (I, J, Rx R, N, G)) rfl ?_
      refine XP_pure rfl rfl (t_H_isRich X _ _ _) ?_
      refine XP_s rfl ?_
      refine XP_bne (fun b13 => absurd b13 g3) (fun b13 => ?_)
      refine XP_n 1 (pc' := 15) (ls' := [.ref (0), .int (nI (pn)), .int (nI (yn)), .int (nI (hn)), .int (rich)]) (st' := [.long (cL (-4611686018427387904))]) (M' := (I, J, Rx R, N, G)) rfl ?_
      exact XP_ret rfl ⟨rfl, _, _, rfl, hI⟩
    · unfold TP
      show XP X _ k_M_harm 0 [.ref (99), .int (nI (pn)), .int (nI (yn)), .int (nI (hn)), .int (rich)] [] _ _
      refine XP_n 2 (pc' := 2) (ls' := [.ref (99), .int (nI (pn)), .int (nI (yn)), .int (nI (hn)), .int (rich)]) (st' := [.int (nI (pn)), .ref (99)]) (M' := (I, J, Rx R, N, G)) rfl ?_
      refine XP_pure rfl rfl (m_isPath hI.1 hI.2.1 _) ?_
      refine XP_s rfl ?_
      refine XP_beq (fun b3 => absurd g0 b3) (fun b3 => ?_)
      refine XP_n 3 (pc' := 7) (ls' := [.ref (99), .int (nI (pn)), .int (nI (yn)), .int (nI (hn)), .int (rich)]) (st' := [.int (nI (15)), .int (nI (0)), .int (nI (yn))]) (M' := (I, J, Rx R, N, G)) rfl ?_
      refine XP_pure rfl rfl (w_M X _ _ 0 15 _) ?_
      refine XP_s rfl ?_
      refine XP_beq (fun b8 => absurd g1 b8) (fun b8 => ?_)
      refine XP_n 3 (pc' := 12) (ls' := [.ref (99), .int (nI (pn)), .int (nI (yn)), .int (nI (hn)), .int (rich)]) (st' := [.int (nI (99)), .int (nI (0)), .int (nI (hn))]) (M' := (I, J, Rx R, N, G)) rfl ?_
      refine XP_pure rfl rfl (w_M X _ _ 0 99 _) ?_
      refine XP_s rfl ?_
      refine XP_beq (fun b13 => absurd g2 b13) (fun b13 => ?_)
      refine XP_n 3 (pc' := 17) (ls' := [.ref (99), .int (nI (pn)), .int (nI (yn)), .int (nI (hn)), .int (rich)]) (st' := [.int (nI (9999)), .int (nI (0)), .int (rich)]) (M' := (I, J, Rx R, N, G)) rfl ?_
      refine XP_pure rfl rfl (w_M X _ _ 0 9999 _) ?_
      refine XP_s rfl ?_
      refine XP_beq (fun b18 => ?_) (fun b18 => absurd b18 g3)
      refine XP_n 1 (pc' := 30) (ls' := [.ref (99), .int (nI (pn)), .int (nI (yn)), .int (nI (hn)), .int (rich)]) (st' := [.long (cL (-4611686018427387904))]) (M' := (I, J, Rx R, N, G)) rfl ?_
      exact XP_ret rfl ⟨rfl, _, _, rfl, hI⟩
  obtain ⟨richn, hrichn0, hrichn, rfl, erich⟩ := iv_nat g3 (by omega) (by omega)
  refine ⟨gHarm s (nI (nLv s pn yn)) (nI hn) (nI yn) (nI richn), ?_, fun I J hI => ?_⟩
  · unfold TP
    show XP X _ k_H_harm 0 [.ref (0), .int (nI (pn)), .int (nI (yn)), .int (nI (hn)), .int (nI (richn))] [] _ _
    refine XP_n 3 (pc' := 3) (ls' := [.ref (0), .int (nI (pn)), .int (nI (yn)), .int (nI (hn)), .int (nI (richn))]) (st' := [.int (nI (pn)), .ref (1)]) (M' := (I, J, Rx R, N, G)) rfl ?_
    refine XP_pure rfl rfl (c_hasPath hI.1 hI.2.1 _) ?_
    refine XP_s rfl ?_
    refine XP_beq (fun b4 => absurd g0 b4) (fun b4 => ?_)
    refine XP_n 1 (pc' := 6) (ls' := [.ref (0), .int (nI (pn)), .int (nI (yn)), .int (nI (hn)), .int (nI (richn))]) (st' := [.int (nI (yn))]) (M' := (I, J, Rx R, N, G)) rfl ?_
    refine XP_pure rfl rfl (t_H_isAnyYear X _ _ _) ?_
    refine XP_s rfl ?_
    refine XP_beq (fun b7 => absurd g1 b7) (fun b7 => ?_)
    refine XP_n 1 (pc' := 9) (ls' := [.ref (0), .int (nI (pn)), .int (nI (yn)), .int (nI (hn)), .int (nI (richn))]) (st' := [.int (nI (hn))]) (M' := (I, J, Rx R, N, G)) rfl ?_
    refine XP_pure rfl rfl (t_H_isWall X _ _ _) ?_
    refine XP_s rfl ?_
    refine XP_beq (fun b10 => absurd g2 b10) (fun b10 => ?_)
    refine XP_n 1 (pc' := 12) (ls' := [.ref (0), .int (nI (pn)), .int (nI (yn)), .int (nI (hn)), .int (nI (richn))]) (st' := [.int (nI (richn))]) (M' := (I, J, Rx R, N, G)) rfl ?_
    refine XP_pure rfl rfl (t_H_isRich X _ _ _) ?_
    refine XP_s rfl ?_
    refine XP_bne (fun b13 => ?_) (fun b13 => absurd g3 b13)
    refine XP_n 6 (pc' := 22) (ls' := [.ref (0), .int (nI (pn)), .int (nI (yn)), .int (nI (hn)), .int (nI (richn))]) (st' := [.int (nI (yn)), .int (nI (pn)), .ref (1), .ref (1)]) (M' := (I, J, Rx R, N, G)) rfl ?_
    refine XP_pure rfl rfl (c_lv hI.1 hW (show pn < cP s by omega) (by omega)) ?_
    have hlv25 := (nLv_ok hW (show pn < cP s by omega) (show yn ≤ 15 by omega)).2
    refine XP_n 3 (pc' := 26) (ls' := [.ref (0), .int (nI (pn)), .int (nI (yn)), .int (nI (hn)), .int (nI (richn))]) (st' := [.int (nI (richn)), .int (nI (yn)), .int (nI (hn)), .int (nI (nLv s (pn) (yn))), .ref (1)]) (M' := (I, J, Rx R, N, G)) rfl ?_
    refine XP_call rfl (rfl) (q_C_harm hI (by omega) (by omega) _ _) ?_
    rintro v26 M26 ⟨rfl, I26, J26, rfl, hI26⟩
    exact XP_ret rfl ⟨rfl, _, _, rfl, hI26⟩
  · unfold TP
    show XP X _ k_M_harm 0 [.ref (99), .int (nI (pn)), .int (nI (yn)), .int (nI (hn)), .int (nI (richn))] [] _ _
    refine XP_n 2 (pc' := 2) (ls' := [.ref (99), .int (nI (pn)), .int (nI (yn)), .int (nI (hn)), .int (nI (richn))]) (st' := [.int (nI (pn)), .ref (99)]) (M' := (I, J, Rx R, N, G)) rfl ?_
    refine XP_pure rfl rfl (m_isPath hI.1 hI.2.1 _) ?_
    refine XP_s rfl ?_
    refine XP_beq (fun b3 => absurd g0 b3) (fun b3 => ?_)
    refine XP_n 3 (pc' := 7) (ls' := [.ref (99), .int (nI (pn)), .int (nI (yn)), .int (nI (hn)), .int (nI (richn))]) (st' := [.int (nI (15)), .int (nI (0)), .int (nI (yn))]) (M' := (I, J, Rx R, N, G)) rfl ?_
    refine XP_pure rfl rfl (w_M X _ _ 0 15 _) ?_
    refine XP_s rfl ?_
    refine XP_beq (fun b8 => absurd g1 b8) (fun b8 => ?_)
    refine XP_n 3 (pc' := 12) (ls' := [.ref (99), .int (nI (pn)), .int (nI (yn)), .int (nI (hn)), .int (nI (richn))]) (st' := [.int (nI (99)), .int (nI (0)), .int (nI (hn))]) (M' := (I, J, Rx R, N, G)) rfl ?_
    refine XP_pure rfl rfl (w_M X _ _ 0 99 _) ?_
    refine XP_s rfl ?_
    refine XP_beq (fun b13 => absurd g2 b13) (fun b13 => ?_)
    refine XP_n 3 (pc' := 17) (ls' := [.ref (99), .int (nI (pn)), .int (nI (yn)), .int (nI (hn)), .int (nI (richn))]) (st' := [.int (nI (9999)), .int (nI (0)), .int (nI (richn))]) (M' := (I, J, Rx R, N, G)) rfl ?_
    refine XP_pure rfl rfl (w_M X _ _ 0 9999 _) ?_
    refine XP_s rfl ?_
    refine XP_beq (fun b18 => absurd g3 b18) (fun b18 => ?_)
    refine XP_n 4 (pc' := 23) (ls' := [.ref (99), .int (nI (pn)), .int (nI (yn)), .int (nI (hn)), .int (nI (richn))]) (st' := [.int (nI (yn)), .int (nI (pn)), .ref (99), .ref (99)]) (M' := (I, J, Rx R, N, G)) rfl ?_
    refine XP_pure rfl rfl (m_lv hI.1 hW (show pn < cP s by omega) (by omega)) ?_
    have hlv27 := (nLv_ok hW (show pn < cP s by omega) (show yn ≤ 15 by omega)).2
    refine XP_n 3 (pc' := 27) (ls' := [.ref (99), .int (nI (pn)), .int (nI (yn)), .int (nI (hn)), .int (nI (richn))]) (st' := [.int (nI (richn)), .int (nI (hn)), .int (nI (yn)), .int (nI (nLv s (pn) (yn))), .ref (99)]) (M' := (I, J, Rx R, N, G)) rfl ?_
    refine XP_call rfl (rfl) (q_M_harm hI _ _ _ _) ?_
    rintro v28 M28 ⟨rfl, I28, J28, rfl, hI28⟩
    refine XP_n 1 (pc' := 30) (ls' := [.ref (99), .int (nI (pn)), .int (nI (yn)), .int (nI (hn)), .int (nI (richn))]) (st' := [.long (gHarm s (nI (nLv s (pn) (yn))) (nI (hn)) (nI (yn)) (nI (richn)))]) (M' := (I28, J28, Rx R, N, G)) rfl ?_
    exact XP_ret rfl ⟨rfl, _, _, rfl, hI28⟩
theorem f_cost (hI : Inv s R N I J) (up : Int32) (h : Int32) (y : Int32) (rich : Int32) : ∃ v, TP X (d + 12) n_H_cost [.ref 0, .int up, .int h, .int y, .int rich] (I, J, Rx R, N, G) (QP s R N G (.int v)) ∧ ∀ I J, Inv s R N I J → TP X (d + 12) n_M_cost [.ref 99, .int up, .int h, .int y, .int rich] (I, J, Rx R, N, G) (QP s R N G (.int v)) := by
  have hI0 := hI
  obtain ⟨hS, hW, hL, hC, hch⟩ := hI0
  have hy16 := hW.y.2
  have hp4 := hW.p.2
  have hs6 := hW.ns.2
  have hr8 := hW.r.2
  have hst8 := hW.st.2
  have ht3 := hW.t.2
  have hw60 := hW.w.2
  have hcwa := cWA_le hW
  by_cases g0 : iv 0 99 (up)
  rotate_left
  · skip
    refine ⟨cI (-2), ?_, fun I J hI => ?_⟩
    · unfold TP
      show XP X _ k_H_cost 0 [.ref (0), .int (up), .int (h), .int (y), .int (rich)] [] _ _
      refine XP_n 3 (pc' := 3) (ls' := [.ref (0), .int (up), .int (h), .int (y), .int (rich)]) (st' := [.int (nI (99)), .int (nI (0)), .int (up)]) (M' := (I, J, Rx R, N, G)) rfl ?_
      refine XP_pure rfl rfl (w_H X _ _ 0 99 _) ?_
      refine XP_s rfl ?_
      refine XP_beq (fun b4 => ?_) (fun b4 => absurd b4 g0)
      refine XP_n 1 (pc' := 15) (ls' := [.ref (0), .int (up), .int (h), .int (y), .int (rich)]) (st' := [.int (cI (-2))]) (M' := (I, J, Rx R, N, G)) rfl ?_
      exact XP_ret rfl ⟨rfl, _, _, rfl, hI⟩
    · unfold TP
      show XP X _ k_M_cost 0 [.ref (99), .int (up), .int (h), .int (y), .int (rich)] [] _ _
      refine XP_n 3 (pc' := 3) (ls' := [.ref (99), .int (up), .int (h), .int (y), .int (rich)]) (st' := [.int (nI (99)), .int (nI (0)), .int (up)]) (M' := (I, J, Rx R, N, G)) rfl ?_
      refine XP_pure rfl rfl (w_M X _ _ 0 99 _) ?_
      refine XP_s rfl ?_
      refine XP_beq (fun b4 => ?_) (fun b4 => absurd b4 g0)
      refine XP_n 1 (pc' := 28) (ls' := [.ref (99), .int (up), .int (h), .int (y), .int (rich)]) (st' := [.int (cI (-2))]) (M' := (I, J, Rx R, N, G)) rfl ?_
      exact XP_ret rfl ⟨rfl, _, _, rfl, hI⟩
  obtain ⟨upn, hupn0, hupn, rfl, eup⟩ := iv_nat g0 (by omega) (by omega)
  by_cases g1 : iv 0 99 (h)
  rotate_left
  · skip
    refine ⟨cI (-2), ?_, fun I J hI => ?_⟩
    · unfold TP
      show XP X _ k_H_cost 0 [.ref (0), .int (nI (upn)), .int (h), .int (y), .int (rich)] [] _ _
      refine XP_n 3 (pc' := 3) (ls' := [.ref (0), .int (nI (upn)), .int (h), .int (y), .int (rich)]) (st' := [.int (nI (99)), .int (nI (0)), .int (nI (upn))]) (M' := (I, J, Rx R, N, G)) rfl ?_
      refine XP_pure rfl rfl (w_H X _ _ 0 99 _) ?_
      refine XP_s rfl ?_
      refine XP_beq (fun b4 => absurd g0 b4) (fun b4 => ?_)
      refine XP_n 1 (pc' := 6) (ls' := [.ref (0), .int (nI (upn)), .int (h), .int (y), .int (rich)]) (st' := [.int (h)]) (M' := (I, J, Rx R, N, G)) rfl ?_
      refine XP_pure rfl rfl (t_H_isWall X _ _ _) ?_
      refine XP_s rfl ?_
      refine XP_beq (fun b7 => ?_) (fun b7 => absurd b7 g1)
      refine XP_n 1 (pc' := 15) (ls' := [.ref (0), .int (nI (upn)), .int (h), .int (y), .int (rich)]) (st' := [.int (cI (-2))]) (M' := (I, J, Rx R, N, G)) rfl ?_
      exact XP_ret rfl ⟨rfl, _, _, rfl, hI⟩
    · unfold TP
      show XP X _ k_M_cost 0 [.ref (99), .int (nI (upn)), .int (h), .int (y), .int (rich)] [] _ _
      refine XP_n 3 (pc' := 3) (ls' := [.ref (99), .int (nI (upn)), .int (h), .int (y), .int (rich)]) (st' := [.int (nI (99)), .int (nI (0)), .int (nI (upn))]) (M' := (I, J, Rx R, N, G)) rfl ?_
      refine XP_pure rfl rfl (w_M X _ _ 0 99 _) ?_
      refine XP_s rfl ?_
      refine XP_beq (fun b4 => absurd g0 b4) (fun b4 => ?_)
      refine XP_n 3 (pc' := 8) (ls' := [.ref (99), .int (nI (upn)), .int (h), .int (y), .int (rich)]) (st' := [.int (nI (99)), .int (nI (0)), .int (h)]) (M' := (I, J, Rx R, N, G)) rfl ?_
      refine XP_pure rfl rfl (w_M X _ _ 0 99 _) ?_
      refine XP_s rfl ?_
      refine XP_beq (fun b9 => ?_) (fun b9 => absurd b9 g1)
      refine XP_n 1 (pc' := 28) (ls' := [.ref (99), .int (nI (upn)), .int (h), .int (y), .int (rich)]) (st' := [.int (cI (-2))]) (M' := (I, J, Rx R, N, G)) rfl ?_
      exact XP_ret rfl ⟨rfl, _, _, rfl, hI⟩
  obtain ⟨hn, hhn0, hhn, rfl, eh⟩ := iv_nat g1 (by omega) (by omega)
  by_cases g2 : iv 0 15 (y)
  rotate_left
  · skip
    refine ⟨cI (-2), ?_, fun I J hI => ?_⟩
    · unfold TP
      show XP X _ k_H_cost 0 [.ref (0), .int (nI (upn)), .int (nI (hn)), .int (y), .int (rich)] [] _ _
      refine XP_n 3 (pc' := 3) (ls' := [.ref (0), .int (nI (upn)), .int (nI (hn)), .int (y), .int (rich)]) (st' := [.int (nI (99)), .int (nI (0)), .int (nI (upn))]) (M' := (I, J, Rx R, N, G)) rfl ?_
      refine XP_pure rfl rfl (w_H X _ _ 0 99 _) ?_
      refine XP_s rfl ?_
      refine XP_beq (fun b4 => absurd g0 b4) (fun b4 => ?_)
      refine XP_n 1 (pc' := 6) (ls' := [.ref (0), .int (nI (upn)), .int (nI (hn)), .int (y), .int (rich)]) (st' := [.int (nI (hn))]) (M' := (I, J, Rx R, N, G)) rfl ?_
      refine XP_pure rfl rfl (t_H_isWall X _ _ _) ?_
      refine XP_s rfl ?_
      refine XP_beq (fun b7 => absurd g1 b7) (fun b7 => ?_)
      refine XP_n 1 (pc' := 9) (ls' := [.ref (0), .int (nI (upn)), .int (nI (hn)), .int (y), .int (rich)]) (st' := [.int (y)]) (M' := (I, J, Rx R, N, G)) rfl ?_
      refine XP_pure rfl rfl (t_H_isAnyYear X _ _ _) ?_
      refine XP_s rfl ?_
      refine XP_beq (fun b10 => ?_) (fun b10 => absurd b10 g2)
      refine XP_n 1 (pc' := 15) (ls' := [.ref (0), .int (nI (upn)), .int (nI (hn)), .int (y), .int (rich)]) (st' := [.int (cI (-2))]) (M' := (I, J, Rx R, N, G)) rfl ?_
      exact XP_ret rfl ⟨rfl, _, _, rfl, hI⟩
    · unfold TP
      show XP X _ k_M_cost 0 [.ref (99), .int (nI (upn)), .int (nI (hn)), .int (y), .int (rich)] [] _ _
      refine XP_n 3 (pc' := 3) (ls' := [.ref (99), .int (nI (upn)), .int (nI (hn)), .int (y), .int (rich)]) (st' := [.int (nI (99)), .int (nI (0)), .int (nI (upn))]) (M' := (I, J, Rx R, N, G)) rfl ?_
      refine XP_pure rfl rfl (w_M X _ _ 0 99 _) ?_
      refine XP_s rfl ?_
      refine XP_beq (fun b4 => absurd g0 b4) (fun b4 => ?_)
      refine XP_n 3 (pc' := 8) (ls' := [.ref (99), .int (nI (upn)), .int (nI (hn)), .int (y), .int (rich)]) (st' := [.int (nI (99)), .int (nI (0)), .int (nI (hn))]) (M' := (I, J, Rx R, N, G)) rfl ?_
      refine XP_pure rfl rfl (w_M X _ _ 0 99 _) ?_
      refine XP_s rfl ?_
      refine XP_beq (fun b9 => absurd g1 b9) (fun b9 => ?_)
      refine XP_n 3 (pc' := 13) (ls' := [.ref (99), .int (nI (upn)), .int (nI (hn)), .int (y), .int (rich)]) (st' := [.int (nI (15)), .int (nI (0)), .int (y)]) (M' := (I, J, Rx R, N, G)) rfl ?_
      refine XP_pure rfl rfl (w_M X _ _ 0 15 _) ?_
      refine XP_s rfl ?_
      refine XP_beq (fun b14 => ?_) (fun b14 => absurd b14 g2)
      refine XP_n 1 (pc' := 28) (ls' := [.ref (99), .int (nI (upn)), .int (nI (hn)), .int (y), .int (rich)]) (st' := [.int (cI (-2))]) (M' := (I, J, Rx R, N, G)) rfl ?_
      exact XP_ret rfl ⟨rfl, _, _, rfl, hI⟩
  obtain ⟨yn, hyn0, hyn, rfl, ey⟩ := iv_nat g2 (by omega) (by omega)
  by_cases g3 : iv 0 9999 (rich)
  rotate_left
  · skip
    refine ⟨cI (-2), ?_, fun I J hI => ?_⟩
    · unfold TP
      show XP X _ k_H_cost 0 [.ref (0), .int (nI (upn)), .int (nI (hn)), .int (nI (yn)), .int (rich)] [] _ _
      refine XP_n 3 (pc' := 3) (ls' := [.ref (0), .int (nI (upn)), .int (nI (hn)), .int (nI (yn)), .int (rich)]) (st' := [.int (nI (99)), .int (nI (0)), .int (nI (upn))]) (M' := (I, J, Rx R, N, G)) rfl ?_
      refine XP_pure rfl rfl (w_H X _ _ 0 99 _) ?_
      refine XP_s rfl ?_
      refine XP_beq (fun b4 => absurd g0 b4) (fun b4 => ?_)
      refine XP_n 1 (pc' := 6) (ls' := [.ref (0), .int (nI (upn)), .int (nI (hn)), .int (nI (yn)), .int (rich)]) (st' := [.int (nI (hn))]) (M' := (I, J, Rx R, N, G)) rfl ?_
      refine XP_pure rfl rfl (t_H_isWall X _ _ _) ?_
      refine XP_s rfl ?_
      refine XP_beq (fun b7 => absurd g1 b7) (fun b7 => ?_)
      refine XP_n 1 (pc' := 9) (ls' := [.ref (0), .int (nI (upn)), .int (nI (hn)), .int (nI (yn)), .int (rich)]) (st' := [.int (nI (yn))]) (M' := (I, J, Rx R, N, G)) rfl ?_
      refine XP_pure rfl rfl (t_H_isAnyYear X _ _ _) ?_
      refine XP_s rfl ?_
      refine XP_beq (fun b10 => absurd g2 b10) (fun b10 => ?_)
      refine XP_n 1 (pc' := 12) (ls' := [.ref (0), .int (nI (upn)), .int (nI (hn)), .int (nI (yn)), .int (rich)]) (st' := [.int (rich)]) (M' := (I, J, Rx R, N, G)) rfl ?_
      refine XP_pure rfl rfl (t_H_isRich X _ _ _) ?_
      refine XP_s rfl ?_
      refine XP_bne (fun b13 => absurd b13 g3) (fun b13 => ?_)
      refine XP_n 1 (pc' := 15) (ls' := [.ref (0), .int (nI (upn)), .int (nI (hn)), .int (nI (yn)), .int (rich)]) (st' := [.int (cI (-2))]) (M' := (I, J, Rx R, N, G)) rfl ?_
      exact XP_ret rfl ⟨rfl, _, _, rfl, hI⟩
    · unfold TP
      show XP X _ k_M_cost 0 [.ref (99), .int (nI (upn)), .int (nI (hn)), .int (nI (yn)), .int (rich)] [] _ _
      refine XP_n 3 (pc' := 3) (ls' := [.ref (99), .int (nI (upn)), .int (nI (hn)), .int (nI (yn)), .int (rich)]) (st' := [.int (nI (99)), .int (nI (0)), .int (nI (upn))]) (M' := (I, J, Rx R, N, G)) rfl ?_
      refine XP_pure rfl rfl (w_M X _ _ 0 99 _) ?_
      refine XP_s rfl ?_
      refine XP_beq (fun b4 => absurd g0 b4) (fun b4 => ?_)
      refine XP_n 3 (pc' := 8) (ls' := [.ref (99), .int (nI (upn)), .int (nI (hn)), .int (nI (yn)), .int (rich)]) (st' := [.int (nI (99)), .int (nI (0)), .int (nI (hn))]) (M' := (I, J, Rx R, N, G)) rfl ?_
      refine XP_pure rfl rfl (w_M X _ _ 0 99 _) ?_
      refine XP_s rfl ?_
      refine XP_beq (fun b9 => absurd g1 b9) (fun b9 => ?_)
      refine XP_n 3 (pc' := 13) (ls' := [.ref (99), .int (nI (upn)), .int (nI (hn)), .int (nI (yn)), .int (rich)]) (st' := [.int (nI (15)), .int (nI (0)), .int (nI (yn))]) (M' := (I, J, Rx R, N, G)) rfl ?_
      refine XP_pure rfl rfl (w_M X _ _ 0 15 _) ?_
      refine XP_s rfl ?_
      refine XP_beq (fun b14 => absurd g2 b14) (fun b14 => ?_)
      refine XP_n 3 (pc' := 18) (ls' := [.ref (99), .int (nI (upn)), .int (nI (hn)), .int (nI (yn)), .int (rich)]) (st' := [.int (nI (9999)), .int (nI (0)), .int (rich)]) (M' := (I, J, Rx R, N, G)) rfl ?_
      refine XP_pure rfl rfl (w_M X _ _ 0 9999 _) ?_
      refine XP_s rfl ?_
      refine XP_beq (fun b19 => ?_) (fun b19 => absurd b19 g3)
      refine XP_n 1 (pc' := 28) (ls' := [.ref (99), .int (nI (upn)), .int (nI (hn)), .int (nI (yn)), .int (rich)]) (st' := [.int (cI (-2))]) (M' := (I, J, Rx R, N, G)) rfl ?_
      exact XP_ret rfl ⟨rfl, _, _, rfl, hI⟩
  obtain ⟨richn, hrichn0, hrichn, rfl, erich⟩ := iv_nat g3 (by omega) (by omega)
  refine ⟨gCost s (s 99 3) (nI upn) (nI hn) (nI yn) (nI richn), ?_, fun I J hI => ?_⟩
  · unfold TP
    show XP X _ k_H_cost 0 [.ref (0), .int (nI (upn)), .int (nI (hn)), .int (nI (yn)), .int (nI (richn))] [] _ _
    refine XP_n 3 (pc' := 3) (ls' := [.ref (0), .int (nI (upn)), .int (nI (hn)), .int (nI (yn)), .int (nI (richn))]) (st' := [.int (nI (99)), .int (nI (0)), .int (nI (upn))]) (M' := (I, J, Rx R, N, G)) rfl ?_
    refine XP_pure rfl rfl (w_H X _ _ 0 99 _) ?_
    refine XP_s rfl ?_
    refine XP_beq (fun b4 => absurd g0 b4) (fun b4 => ?_)
    refine XP_n 1 (pc' := 6) (ls' := [.ref (0), .int (nI (upn)), .int (nI (hn)), .int (nI (yn)), .int (nI (richn))]) (st' := [.int (nI (hn))]) (M' := (I, J, Rx R, N, G)) rfl ?_
    refine XP_pure rfl rfl (t_H_isWall X _ _ _) ?_
    refine XP_s rfl ?_
    refine XP_beq (fun b7 => absurd g1 b7) (fun b7 => ?_)
    refine XP_n 1 (pc' := 9) (ls' := [.ref (0), .int (nI (upn)), .int (nI (hn)), .int (nI (yn)), .int (nI (richn))]) (st' := [.int (nI (yn))]) (M' := (I, J, Rx R, N, G)) rfl ?_
    refine XP_pure rfl rfl (t_H_isAnyYear X _ _ _) ?_
    refine XP_s rfl ?_
    refine XP_beq (fun b10 => absurd g2 b10) (fun b10 => ?_)
    refine XP_n 1 (pc' := 12) (ls' := [.ref (0), .int (nI (upn)), .int (nI (hn)), .int (nI (yn)), .int (nI (richn))]) (st' := [.int (nI (richn))]) (M' := (I, J, Rx R, N, G)) rfl ?_
    refine XP_pure rfl rfl (t_H_isRich X _ _ _) ?_
    refine XP_s rfl ?_
    refine XP_bne (fun b13 => ?_) (fun b13 => absurd g3 b13)
    refine XP_n 8 (pc' := 24) (ls' := [.ref (0), .int (nI (upn)), .int (nI (hn)), .int (nI (yn)), .int (nI (richn))]) (st' := [.ref (1), .int (nI (richn)), .int (nI (yn)), .int (nI (hn)), .int (nI (upn)), .ref (1)]) (M' := (I, J, Rx R, N, G)) rfl ?_
    refine XP_geti hI.1 rfl rfl rfl ?_
    rw [hL.2.2.2.2.2.2]
    refine XP_call rfl (rfl) (q_C_cost hI _ _ _ _ _) ?_
    rintro v29 M29 ⟨rfl, I29, J29, rfl, hI29⟩
    exact XP_ret rfl ⟨rfl, _, _, rfl, hI29⟩
  · unfold TP
    show XP X _ k_M_cost 0 [.ref (99), .int (nI (upn)), .int (nI (hn)), .int (nI (yn)), .int (nI (richn))] [] _ _
    refine XP_n 3 (pc' := 3) (ls' := [.ref (99), .int (nI (upn)), .int (nI (hn)), .int (nI (yn)), .int (nI (richn))]) (st' := [.int (nI (99)), .int (nI (0)), .int (nI (upn))]) (M' := (I, J, Rx R, N, G)) rfl ?_
    refine XP_pure rfl rfl (w_M X _ _ 0 99 _) ?_
    refine XP_s rfl ?_
    refine XP_beq (fun b4 => absurd g0 b4) (fun b4 => ?_)
    refine XP_n 3 (pc' := 8) (ls' := [.ref (99), .int (nI (upn)), .int (nI (hn)), .int (nI (yn)), .int (nI (richn))]) (st' := [.int (nI (99)), .int (nI (0)), .int (nI (hn))]) (M' := (I, J, Rx R, N, G)) rfl ?_
    refine XP_pure rfl rfl (w_M X _ _ 0 99 _) ?_
    refine XP_s rfl ?_
    refine XP_beq (fun b9 => absurd g1 b9) (fun b9 => ?_)
    refine XP_n 3 (pc' := 13) (ls' := [.ref (99), .int (nI (upn)), .int (nI (hn)), .int (nI (yn)), .int (nI (richn))]) (st' := [.int (nI (15)), .int (nI (0)), .int (nI (yn))]) (M' := (I, J, Rx R, N, G)) rfl ?_
    refine XP_pure rfl rfl (w_M X _ _ 0 15 _) ?_
    refine XP_s rfl ?_
    refine XP_beq (fun b14 => absurd g2 b14) (fun b14 => ?_)
    refine XP_n 3 (pc' := 18) (ls' := [.ref (99), .int (nI (upn)), .int (nI (hn)), .int (nI (yn)), .int (nI (richn))]) (st' := [.int (nI (9999)), .int (nI (0)), .int (nI (richn))]) (M' := (I, J, Rx R, N, G)) rfl ?_
    refine XP_pure rfl rfl (w_M X _ _ 0 9999 _) ?_
    refine XP_s rfl ?_
    refine XP_beq (fun b19 => absurd g3 b19) (fun b19 => ?_)
    refine XP_n 5 (pc' := 25) (ls' := [.ref (99), .int (nI (upn)), .int (nI (hn)), .int (nI (yn)), .int (nI (richn))]) (st' := [.int (nI (richn)), .int (nI (yn)), .int (nI (hn)), .int (nI (upn)), .ref (99)]) (M' := (I, J, Rx R, N, G)) rfl ?_
    refine XP_call rfl (rfl) (q_M_cost hI _ _ _ _) ?_
    rintro v30 M30 ⟨rfl, I30, J30, rfl, hI30⟩
    refine XP_n 1 (pc' := 28) (ls' := [.ref (99), .int (nI (upn)), .int (nI (hn)), .int (nI (yn)), .int (nI (richn))]) (st' := [.int (gCost s (s 99 3) (nI (upn)) (nI (hn)) (nI (yn)) (nI (richn)))]) (M' := (I30, J30, Rx R, N, G)) rfl ?_
    exact XP_ret rfl ⟨rfl, _, _, rfl, hI30⟩
end
