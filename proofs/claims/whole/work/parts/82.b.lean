/-! face: drawn -/
section
variable {X : hX} {d : Nat} {s I : Nat → Nat → Int32} {J : Nat → Nat → Int64} {R : Nat → Nat → Option Nat} {N : Nat → Nat} {G : hG}
theorem f_drawn (hI : Inv s R N I J) (r : Int32) (vv : Int32) (what : Int32) : ∃ v, TP X (d + 12) n_H_drawn [.ref 0, .int r, .int vv, .int what] (I, J, Rx R, N, G) (QP s R N G (.long v)) ∧ ∀ I J, Inv s R N I J → TP X (d + 12) n_M_drawn [.ref 99, .int r, .int vv, .int what] (I, J, Rx R, N, G) (QP s R N G (.long v)) := by
  have hI0 := hI
  obtain ⟨hS, hW, hL, hC, hch⟩ := hI0
  have hy16 := hW.y.2
  have hp4 := hW.p.2
  have hs6 := hW.ns.2
  have hr8 := hW.r.2
  have hst8 := hW.st.2
  have ht3 := hW.t.2
  have hw60 := hW.w.2
  have hcwa := cWA_le hW
  have hcw0 : cP s = 0 → cWA s = 0 := (cWA_0 hW).mpr
  have hcw1 : ¬ cP s = 0 → ¬ cWA s = 0 := fun h z => h ((cWA_0 hW).mp z)
  by_cases g0 : inN (r) (cR s)
  rotate_left
  · skip
    refine ⟨cL (-4611686018427387904), ?_, fun I J hI => ?_⟩
    · unfold TP
      show XP X _ k_H_drawn 0 [.ref (0), .int (r), .int (vv), .int (what), xj, xj, xj, xj, xj, xj, xj, xj, xj, xj, xj] [] _ _
      refine XP_n 2 (pc' := 2) (ls' := [.ref (0), .int (r), .int (vv), .int (what), xj, xj, xj, xj, xj, xj, xj, xj, xj, xj, xj]) (st' := [.int (r), .ref (0)]) (M' := (I, J, Rx R, N, G)) rfl ?_
      refine XP_pure rfl rfl (c_ruleAtF hI.1 hW hL g0) ?_
      refine XP_n 4 (pc' := 15) (ls' := [.ref (0), .int (r), .int (vv), .int (what), .null, xj, xj, xj, xj, xj, xj, xj, xj, xj, xj]) (st' := [.long (cL (-4611686018427387904))]) (M' := (I, J, Rx R, N, G)) rfl ?_
      exact XP_ret rfl ⟨rfl, _, _, rfl, hI⟩
    · unfold TP
      show XP X _ k_M_drawn 0 [.ref (99), .int (r), .int (vv), .int (what), xj, xj, xj, xj, xj, xj, xj, xj, xj, xj, xj] [] _ _
      refine XP_n 2 (pc' := 2) (ls' := [.ref (99), .int (r), .int (vv), .int (what), xj, xj, xj, xj, xj, xj, xj, xj, xj, xj, xj]) (st' := [.int (r), .ref (99)]) (M' := (I, J, Rx R, N, G)) rfl ?_
      refine XP_pure rfl rfl (m_isRule hI.1 hI.2.1 _) ?_
      refine XP_s rfl ?_
      refine XP_beq (fun b3 => ?_) (fun b3 => absurd b3 g0)
      refine XP_n 1 (pc' := 15) (ls' := [.ref (99), .int (r), .int (vv), .int (what), xj, xj, xj, xj, xj, xj, xj, xj, xj, xj, xj]) (st' := [.long (cL (-4611686018427387904))]) (M' := (I, J, Rx R, N, G)) rfl ?_
      exact XP_ret rfl ⟨rfl, _, _, rfl, hI⟩
  obtain ⟨rn, hrn, rfl, er⟩ := inN_nat g0 (by omega)
  by_cases g1 : iv 0 99999 (vv)
  rotate_left
  · skip
    refine ⟨cL (-4611686018427387904), ?_, fun I J hI => ?_⟩
    · unfold TP
      show XP X _ k_H_drawn 0 [.ref (0), .int (nI (rn)), .int (vv), .int (what), xj, xj, xj, xj, xj, xj, xj, xj, xj, xj, xj] [] _ _
      refine XP_n 2 (pc' := 2) (ls' := [.ref (0), .int (nI (rn)), .int (vv), .int (what), xj, xj, xj, xj, xj, xj, xj, xj, xj, xj, xj]) (st' := [.int (nI (rn)), .ref (0)]) (M' := (I, J, Rx R, N, G)) rfl ?_
      refine XP_pure rfl rfl (c_ruleAtT hI.1 hW hL (show rn < cR s by omega)) ?_
      refine XP_n 6 (pc' := 9) (ls' := [.ref (0), .int (nI (rn)), .int (vv), .int (what), .ref (1000 + 2 * rn), xj, xj, xj, xj, xj, xj, xj, xj, xj, xj]) (st' := [.int (nI (99999)), .int (nI (0)), .int (vv)]) (M' := (I, J, Rx R, N, G)) rfl ?_
      refine XP_pure rfl rfl (w_H X _ _ 0 99999 _) ?_
      refine XP_s rfl ?_
      refine XP_beq (fun b10 => ?_) (fun b10 => absurd b10 g1)
      refine XP_n 1 (pc' := 15) (ls' := [.ref (0), .int (nI (rn)), .int (vv), .int (what), .ref (1000 + 2 * rn), xj, xj, xj, xj, xj, xj, xj, xj, xj, xj]) (st' := [.long (cL (-4611686018427387904))]) (M' := (I, J, Rx R, N, G)) rfl ?_
      exact XP_ret rfl ⟨rfl, _, _, rfl, hI⟩
    · unfold TP
      show XP X _ k_M_drawn 0 [.ref (99), .int (nI (rn)), .int (vv), .int (what), xj, xj, xj, xj, xj, xj, xj, xj, xj, xj, xj] [] _ _
      refine XP_n 2 (pc' := 2) (ls' := [.ref (99), .int (nI (rn)), .int (vv), .int (what), xj, xj, xj, xj, xj, xj, xj, xj, xj, xj, xj]) (st' := [.int (nI (rn)), .ref (99)]) (M' := (I, J, Rx R, N, G)) rfl ?_
      refine XP_pure rfl rfl (m_isRule hI.1 hI.2.1 _) ?_
      refine XP_s rfl ?_
      refine XP_beq (fun b3 => absurd g0 b3) (fun b3 => ?_)
      refine XP_n 3 (pc' := 7) (ls' := [.ref (99), .int (nI (rn)), .int (vv), .int (what), xj, xj, xj, xj, xj, xj, xj, xj, xj, xj, xj]) (st' := [.int (nI (99999)), .int (nI (0)), .int (vv)]) (M' := (I, J, Rx R, N, G)) rfl ?_
      refine XP_pure rfl rfl (w_M X _ _ 0 99999 _) ?_
      refine XP_s rfl ?_
      refine XP_beq (fun b8 => ?_) (fun b8 => absurd b8 g1)
      refine XP_n 1 (pc' := 15) (ls' := [.ref (99), .int (nI (rn)), .int (vv), .int (what), xj, xj, xj, xj, xj, xj, xj, xj, xj, xj, xj]) (st' := [.long (cL (-4611686018427387904))]) (M' := (I, J, Rx R, N, G)) rfl ?_
      exact XP_ret rfl ⟨rfl, _, _, rfl, hI⟩
  obtain ⟨vvn, hvvn0, hvvn, rfl, evv⟩ := iv_nat g1 (by omega) (by omega)
  by_cases g2 : iv 0 1 (what)
  rotate_left
  · skip
    refine ⟨cL (-4611686018427387904), ?_, fun I J hI => ?_⟩
    · unfold TP
      show XP X _ k_H_drawn 0 [.ref (0), .int (nI (rn)), .int (nI (vvn)), .int (what), xj, xj, xj, xj, xj, xj, xj, xj, xj, xj, xj] [] _ _
      refine XP_n 2 (pc' := 2) (ls' := [.ref (0), .int (nI (rn)), .int (nI (vvn)), .int (what), xj, xj, xj, xj, xj, xj, xj, xj, xj, xj, xj]) (st' := [.int (nI (rn)), .ref (0)]) (M' := (I, J, Rx R, N, G)) rfl ?_
      refine XP_pure rfl rfl (c_ruleAtT hI.1 hW hL (show rn < cR s by omega)) ?_
      refine XP_n 6 (pc' := 9) (ls' := [.ref (0), .int (nI (rn)), .int (nI (vvn)), .int (what), .ref (1000 + 2 * rn), xj, xj, xj, xj, xj, xj, xj, xj, xj, xj]) (st' := [.int (nI (99999)), .int (nI (0)), .int (nI (vvn))]) (M' := (I, J, Rx R, N, G)) rfl ?_
      refine XP_pure rfl rfl (w_H X _ _ 0 99999 _) ?_
      refine XP_s rfl ?_
      refine XP_beq (fun b10 => absurd g1 b10) (fun b10 => ?_)
      refine XP_n 1 (pc' := 12) (ls' := [.ref (0), .int (nI (rn)), .int (nI (vvn)), .int (what), .ref (1000 + 2 * rn), xj, xj, xj, xj, xj, xj, xj, xj, xj, xj]) (st' := [.int (what)]) (M' := (I, J, Rx R, N, G)) rfl ?_
      refine XP_pure rfl rfl (t_H_isPart X _ _ _) ?_
      refine XP_s rfl ?_
      refine XP_bne (fun b13 => absurd b13 g2) (fun b13 => ?_)
      refine XP_n 1 (pc' := 15) (ls' := [.ref (0), .int (nI (rn)), .int (nI (vvn)), .int (what), .ref (1000 + 2 * rn), xj, xj, xj, xj, xj, xj, xj, xj, xj, xj]) (st' := [.long (cL (-4611686018427387904))]) (M' := (I, J, Rx R, N, G)) rfl ?_
      exact XP_ret rfl ⟨rfl, _, _, rfl, hI⟩
    · unfold TP
      show XP X _ k_M_drawn 0 [.ref (99), .int (nI (rn)), .int (nI (vvn)), .int (what), xj, xj, xj, xj, xj, xj, xj, xj, xj, xj, xj] [] _ _
      refine XP_n 2 (pc' := 2) (ls' := [.ref (99), .int (nI (rn)), .int (nI (vvn)), .int (what), xj, xj, xj, xj, xj, xj, xj, xj, xj, xj, xj]) (st' := [.int (nI (rn)), .ref (99)]) (M' := (I, J, Rx R, N, G)) rfl ?_
      refine XP_pure rfl rfl (m_isRule hI.1 hI.2.1 _) ?_
      refine XP_s rfl ?_
      refine XP_beq (fun b3 => absurd g0 b3) (fun b3 => ?_)
      refine XP_n 3 (pc' := 7) (ls' := [.ref (99), .int (nI (rn)), .int (nI (vvn)), .int (what), xj, xj, xj, xj, xj, xj, xj, xj, xj, xj, xj]) (st' := [.int (nI (99999)), .int (nI (0)), .int (nI (vvn))]) (M' := (I, J, Rx R, N, G)) rfl ?_
      refine XP_pure rfl rfl (w_M X _ _ 0 99999 _) ?_
      refine XP_s rfl ?_
      refine XP_beq (fun b8 => absurd g1 b8) (fun b8 => ?_)
      refine XP_n 3 (pc' := 12) (ls' := [.ref (99), .int (nI (rn)), .int (nI (vvn)), .int (what), xj, xj, xj, xj, xj, xj, xj, xj, xj, xj, xj]) (st' := [.int (nI (1)), .int (nI (0)), .int (what)]) (M' := (I, J, Rx R, N, G)) rfl ?_
      refine XP_pure rfl rfl (w_M X _ _ 0 1 _) ?_
      refine XP_s rfl ?_
      refine XP_bne (fun b13 => absurd b13 g2) (fun b13 => ?_)
      refine XP_n 1 (pc' := 15) (ls' := [.ref (99), .int (nI (rn)), .int (nI (vvn)), .int (what), xj, xj, xj, xj, xj, xj, xj, xj, xj, xj, xj]) (st' := [.long (cL (-4611686018427387904))]) (M' := (I, J, Rx R, N, G)) rfl ?_
      exact XP_ret rfl ⟨rfl, _, _, rfl, hI⟩
  obtain ⟨whatn, hwhatn0, hwhatn, rfl, ewhat⟩ := iv_nat g2 (by omega) (by omega)
  have hwa1 := cWA_le hW
  by_cases h0 : cP s = 0
  · have hz0 := hcw0 h0
    refine ⟨lN 0, ?_, fun I J hI => ?_⟩
    · unfold TP
      show XP X _ k_H_drawn 0 [.ref (0), .int (nI (rn)), .int (nI (vvn)), .int (nI (whatn)), xj, xj, xj, xj, xj, xj, xj, xj, xj, xj, xj] [] _ _
      refine XP_n 2 (pc' := 2) (ls' := [.ref (0), .int (nI (rn)), .int (nI (vvn)), .int (nI (whatn)), xj, xj, xj, xj, xj, xj, xj, xj, xj, xj, xj]) (st' := [.int (nI (rn)), .ref (0)]) (M' := (I, J, Rx R, N, G)) rfl ?_
      refine XP_pure rfl rfl (c_ruleAtT hI.1 hW hL (show rn < cR s by omega)) ?_
      refine XP_n 6 (pc' := 9) (ls' := [.ref (0), .int (nI (rn)), .int (nI (vvn)), .int (nI (whatn)), .ref (1000 + 2 * rn), xj, xj, xj, xj, xj, xj, xj, xj, xj, xj]) (st' := [.int (nI (99999)), .int (nI (0)), .int (nI (vvn))]) (M' := (I, J, Rx R, N, G)) rfl ?_
      refine XP_pure rfl rfl (w_H X _ _ 0 99999 _) ?_
      refine XP_s rfl ?_
      refine XP_beq (fun b10 => absurd g1 b10) (fun b10 => ?_)
      refine XP_n 1 (pc' := 12) (ls' := [.ref (0), .int (nI (rn)), .int (nI (vvn)), .int (nI (whatn)), .ref (1000 + 2 * rn), xj, xj, xj, xj, xj, xj, xj, xj, xj, xj]) (st' := [.int (nI (whatn))]) (M' := (I, J, Rx R, N, G)) rfl ?_
      refine XP_pure rfl rfl (t_H_isPart X _ _ _) ?_
      refine XP_s rfl ?_
      refine XP_bne (fun b13 => ?_) (fun b13 => absurd g2 b13)
      refine XP_n 2 (pc' := 18) (ls' := [.ref (0), .int (nI (rn)), .int (nI (vvn)), .int (nI (whatn)), .ref (1000 + 2 * rn), xj, xj, xj, xj, xj, xj, xj, xj, xj, xj]) (st' := [.ref (1)]) (M' := (I, J, Rx R, N, G)) rfl ?_
      refine XP_pure rfl rfl (c_wAll hI.1 hW) ?_
      refine XP_n 2 (pc' := 21) (ls' := [.ref (0), .int (nI (rn)), .int (nI (vvn)), .int (nI (whatn)), .ref (1000 + 2 * rn), .int (nI (cWA s)), xj, xj, xj, xj, xj, xj, xj, xj, xj]) (st' := [.int (nI (cWA s))]) (M' := (I, J, Rx R, N, G)) rfl ?_
      refine XP_ifN (x := cWA s)  rfl (by omega) (fun (b21 : 0 < cWA s) => absurd b21 (by omega)) (fun (b21 : cWA s ≤ 0) => ?_)
      refine XP_n 1 (pc' := 23) (ls' := [.ref (0), .int (nI (rn)), .int (nI (vvn)), .int (nI (whatn)), .ref (1000 + 2 * rn), .int (nI (cWA s)), xj, xj, xj, xj, xj, xj, xj, xj, xj]) (st' := [.long (lN (0))]) (M' := (I, J, Rx R, N, G)) rfl ?_
      exact XP_ret rfl ⟨rfl, _, _, rfl, hI⟩
    · unfold TP
      show XP X _ k_M_drawn 0 [.ref (99), .int (nI (rn)), .int (nI (vvn)), .int (nI (whatn)), xj, xj, xj, xj, xj, xj, xj, xj, xj, xj, xj] [] _ _
      refine XP_n 2 (pc' := 2) (ls' := [.ref (99), .int (nI (rn)), .int (nI (vvn)), .int (nI (whatn)), xj, xj, xj, xj, xj, xj, xj, xj, xj, xj, xj]) (st' := [.int (nI (rn)), .ref (99)]) (M' := (I, J, Rx R, N, G)) rfl ?_
      refine XP_pure rfl rfl (m_isRule hI.1 hI.2.1 _) ?_
      refine XP_s rfl ?_
      refine XP_beq (fun b3 => absurd g0 b3) (fun b3 => ?_)
      refine XP_n 3 (pc' := 7) (ls' := [.ref (99), .int (nI (rn)), .int (nI (vvn)), .int (nI (whatn)), xj, xj, xj, xj, xj, xj, xj, xj, xj, xj, xj]) (st' := [.int (nI (99999)), .int (nI (0)), .int (nI (vvn))]) (M' := (I, J, Rx R, N, G)) rfl ?_
      refine XP_pure rfl rfl (w_M X _ _ 0 99999 _) ?_
      refine XP_s rfl ?_
      refine XP_beq (fun b8 => absurd g1 b8) (fun b8 => ?_)
      refine XP_n 3 (pc' := 12) (ls' := [.ref (99), .int (nI (rn)), .int (nI (vvn)), .int (nI (whatn)), xj, xj, xj, xj, xj, xj, xj, xj, xj, xj, xj]) (st' := [.int (nI (1)), .int (nI (0)), .int (nI (whatn))]) (M' := (I, J, Rx R, N, G)) rfl ?_
      refine XP_pure rfl rfl (w_M X _ _ 0 1 _) ?_
      refine XP_s rfl ?_
      refine XP_bne (fun b13 => ?_) (fun b13 => absurd g2 b13)
      refine XP_n 1 (pc' := 17) (ls' := [.ref (99), .int (nI (rn)), .int (nI (vvn)), .int (nI (whatn)), xj, xj, xj, xj, xj, xj, xj, xj, xj, xj, xj]) (st' := [.ref (99)]) (M' := (I, J, Rx R, N, G)) rfl ?_
      refine XP_geti hI.1 rfl rfl rfl ?_
      rw [hW.p.1]
      refine XP_ifN (x := cP s)  rfl (by omega) (fun (b18 : ¬ cP s = 0) => absurd b18 (by omega)) (fun (b18 : cP s = 0) => ?_)
      refine XP_n 1 (pc' := 20) (ls' := [.ref (99), .int (nI (rn)), .int (nI (vvn)), .int (nI (whatn)), xj, xj, xj, xj, xj, xj, xj, xj, xj, xj, xj]) (st' := [.long (lN (0))]) (M' := (I, J, Rx R, N, G)) rfl ?_
      exact XP_ret rfl ⟨rfl, _, _, rfl, hI⟩
  · have hz0 := hcw1 h0
    obtain ⟨lot, el⟩ : ∃ z, z = drL (vvn + 1) := ⟨_, rfl⟩
    have hlt : lot < 2147483647 := by rw [el]; exact Nat.mod_lt _ (by omega)
    obtain ⟨x, ex⟩ : ∃ z, z = lot % cWA s := ⟨_, rfl⟩
    have hx : x < cWA s := by rw [ex]; exact Nat.mod_lt _ (by omega)
    obtain ⟨p, ep⟩ : ∃ z, z = fiB (rWt s) x (cP s) 0 := ⟨_, rfl⟩
    have hpl : p < cP s := by rw [ep]; exact fiB_lt hx (cP s) 0 (by omega) (Nat.zero_le _)
    have hfv : fiV (rWt s) x (cP s) (cP s) 0 = nI p := by
      unfold fiV
      rw [← ep]
      exact if_pos hpl
    refine ⟨lN (dOut whatn (dRun s rn p (cY s) 0 lot 0 0)), ?_, fun I J hI => ?_⟩
    · unfold TP
      show XP X _ k_H_drawn 0 [.ref (0), .int (nI (rn)), .int (nI (vvn)), .int (nI (whatn)), xj, xj, xj, xj, xj, xj, xj, xj, xj, xj, xj] [] _ _
      refine XP_n 2 (pc' := 2) (ls' := [.ref (0), .int (nI (rn)), .int (nI (vvn)), .int (nI (whatn)), xj, xj, xj, xj, xj, xj, xj, xj, xj, xj, xj]) (st' := [.int (nI (rn)), .ref (0)]) (M' := (I, J, Rx R, N, G)) rfl ?_
      refine XP_pure rfl rfl (c_ruleAtT hI.1 hW hL (show rn < cR s by omega)) ?_
      refine XP_n 6 (pc' := 9) (ls' := [.ref (0), .int (nI (rn)), .int (nI (vvn)), .int (nI (whatn)), .ref (1000 + 2 * rn), xj, xj, xj, xj, xj, xj, xj, xj, xj, xj]) (st' := [.int (nI (99999)), .int (nI (0)), .int (nI (vvn))]) (M' := (I, J, Rx R, N, G)) rfl ?_
      refine XP_pure rfl rfl (w_H X _ _ 0 99999 _) ?_
      refine XP_s rfl ?_
      refine XP_beq (fun b10 => absurd g1 b10) (fun b10 => ?_)
      refine XP_n 1 (pc' := 12) (ls' := [.ref (0), .int (nI (rn)), .int (nI (vvn)), .int (nI (whatn)), .ref (1000 + 2 * rn), xj, xj, xj, xj, xj, xj, xj, xj, xj, xj]) (st' := [.int (nI (whatn))]) (M' := (I, J, Rx R, N, G)) rfl ?_
      refine XP_pure rfl rfl (t_H_isPart X _ _ _) ?_
      refine XP_s rfl ?_
      refine XP_bne (fun b13 => ?_) (fun b13 => absurd g2 b13)
      refine XP_n 2 (pc' := 18) (ls' := [.ref (0), .int (nI (rn)), .int (nI (vvn)), .int (nI (whatn)), .ref (1000 + 2 * rn), xj, xj, xj, xj, xj, xj, xj, xj, xj, xj]) (st' := [.ref (1)]) (M' := (I, J, Rx R, N, G)) rfl ?_
      refine XP_pure rfl rfl (c_wAll hI.1 hW) ?_
      refine XP_n 2 (pc' := 21) (ls' := [.ref (0), .int (nI (rn)), .int (nI (vvn)), .int (nI (whatn)), .ref (1000 + 2 * rn), .int (nI (cWA s)), xj, xj, xj, xj, xj, xj, xj, xj, xj]) (st' := [.int (nI (cWA s))]) (M' := (I, J, Rx R, N, G)) rfl ?_
      refine XP_ifN (x := cWA s)  rfl (by omega) (fun (b21 : 0 < cWA s) => ?_) (fun (b21 : cWA s ≤ 0) => absurd b21 (by omega))
      refine XP_n 4 (pc' := 28) (ls' := [.ref (0), .int (nI (rn)), .int (nI (vvn)), .int (nI (whatn)), .ref (1000 + 2 * rn), .int (nI (cWA s)), xj, xj, xj, xj, xj, xj, xj, xj, xj]) (st' := [.long (((nI (vvn)) + (nI (1))).toInt64)]) (M' := (I, J, Rx R, N, G)) rfl ?_
      rw [show ((nI (vvn)) + (nI (1))).toInt64 = lN (vvn + 1) from nI_lE (nI_addE (rfl) (rfl)) (by omega)]
      refine XP_pure rfl rfl (c_lot (show vvn + 1 < 2147483648 by omega)) ?_
      rw [← el]
      refine XP_n 6 (pc' := 35) (ls' := [.ref (0), .int (nI (rn)), .int (nI (vvn)), .int (nI (whatn)), .ref (1000 + 2 * rn), .int (nI (cWA s)), .long (lN (lot)), xj, xj, xj, xj, xj, xj, xj, xj]) (st' := [.long ((nI (cWA s)).toInt64), .long (lN (lot)), .ref (1)]) (M' := (I, J, Rx R, N, G)) rfl ?_
      rw [show (nI (cWA s)).toInt64 = lN (cWA s) from nI_lE (rfl) (by omega)]
      refine XP_lremN (a := lot) (b := cWA s) rfl (by omega) (by omega) (by omega) ?_
      refine XP_n 1 (pc' := 37) (ls' := [.ref (0), .int (nI (rn)), .int (nI (vvn)), .int (nI (whatn)), .ref (1000 + 2 * rn), .int (nI (cWA s)), .long (lN (lot)), xj, xj, xj, xj, xj, xj, xj, xj]) (st' := [.int ((lN ((lot) % (cWA s))).toInt32), .ref (1)]) (M' := (I, J, Rx R, N, G)) rfl ?_
      rw [show (lN ((lot) % (cWA s))).toInt32 = nI ((lot) % (cWA s)) from lN_iE (rfl)]
      refine XP_pure rfl rfl (c_pbl hI.1 hW (show lot % cWA s < 1000 by omega)) ?_
      rw [← ex, hfv]
      refine XP_n 7 (pc' := 45) (ls' := [.ref (0), .int (nI (rn)), .int (nI (vvn)), .int (nI (whatn)), .ref (1000 + 2 * rn), .int (nI (cWA s)), .long (lN (lot)), xj, .int (nI (p)), xj, xj, xj, xj, xj, xj]) (st' := [.int (nI (p)), .ref (1000 + 2 * rn), .ref (1), .ref (16)]) (M' := (I, J, Rx R, N, G)) rfl ?_
      refine XP_call rfl rfl (q_C_follow hI (show rn < cR s by omega) (show p < cP s by omega)) ?_
      rintro v21 M21 ⟨rfl, I21, J21, rfl, hI21, hrw21, hja21, hjb21⟩
      refine XP_n 6 (pc' := 52) (ls' := [.ref (0), .int (nI (rn)), .int (nI (vvn)), .int (nI (whatn)), .ref (1000 + 2 * rn), .int (nI (cWA s)), .long (lN (lot)), xj, .int (nI (p)), .int (nI (0)), .long (lN (0)), xj, .int (nI (0)), xj, xj]) (st' := []) (M' := (I21, J21, Rx R, N, G)) rfl ?_
      exact l_H_dr (d := d + 2) hW hrn hpl hwhatn (cY s) 0 lot 0 0 _ _ _ _ (by omega) (by omega) hlt hI21 hrw21
    · unfold TP
      show XP X _ k_M_drawn 0 [.ref (99), .int (nI (rn)), .int (nI (vvn)), .int (nI (whatn)), xj, xj, xj, xj, xj, xj, xj, xj, xj, xj, xj] [] _ _
      refine XP_n 2 (pc' := 2) (ls' := [.ref (99), .int (nI (rn)), .int (nI (vvn)), .int (nI (whatn)), xj, xj, xj, xj, xj, xj, xj, xj, xj, xj, xj]) (st' := [.int (nI (rn)), .ref (99)]) (M' := (I, J, Rx R, N, G)) rfl ?_
      refine XP_pure rfl rfl (m_isRule hI.1 hI.2.1 _) ?_
      refine XP_s rfl ?_
      refine XP_beq (fun b3 => absurd g0 b3) (fun b3 => ?_)
      refine XP_n 3 (pc' := 7) (ls' := [.ref (99), .int (nI (rn)), .int (nI (vvn)), .int (nI (whatn)), xj, xj, xj, xj, xj, xj, xj, xj, xj, xj, xj]) (st' := [.int (nI (99999)), .int (nI (0)), .int (nI (vvn))]) (M' := (I, J, Rx R, N, G)) rfl ?_
      refine XP_pure rfl rfl (w_M X _ _ 0 99999 _) ?_
      refine XP_s rfl ?_
      refine XP_beq (fun b8 => absurd g1 b8) (fun b8 => ?_)
      refine XP_n 3 (pc' := 12) (ls' := [.ref (99), .int (nI (rn)), .int (nI (vvn)), .int (nI (whatn)), xj, xj, xj, xj, xj, xj, xj, xj, xj, xj, xj]) (st' := [.int (nI (1)), .int (nI (0)), .int (nI (whatn))]) (M' := (I, J, Rx R, N, G)) rfl ?_
      refine XP_pure rfl rfl (w_M X _ _ 0 1 _) ?_
      refine XP_s rfl ?_
      refine XP_bne (fun b13 => ?_) (fun b13 => absurd g2 b13)
      refine XP_n 1 (pc' := 17) (ls' := [.ref (99), .int (nI (rn)), .int (nI (vvn)), .int (nI (whatn)), xj, xj, xj, xj, xj, xj, xj, xj, xj, xj, xj]) (st' := [.ref (99)]) (M' := (I, J, Rx R, N, G)) rfl ?_
      refine XP_geti hI.1 rfl rfl rfl ?_
      rw [hW.p.1]
      refine XP_ifN (x := cP s)  rfl (by omega) (fun (b18 : ¬ cP s = 0) => ?_) (fun (b18 : cP s = 0) => absurd b18 (by omega))
      refine XP_n 7 (pc' := 28) (ls' := [.ref (99), .int (nI (rn)), .int (nI (vvn)), .int (nI (whatn)), xj, xj, xj, xj, xj, xj, xj, xj, xj, xj, xj]) (st' := [.long (lN (2147483647)), .long ((((nI (vvn)).toInt64) + (lN (1))) * (lN (48271)))]) (M' := (I, J, Rx R, N, G)) rfl ?_
      rw [show (((nI (vvn)).toInt64) + (lN (1))) * (lN (48271)) = lN ((vvn + 1) * (48271)) from lN_mulE (lN_addE (nI_lE (rfl) (by omega)) (rfl)) (rfl)]
      refine XP_lremN (a := (vvn + 1) * (48271)) (b := 2147483647) rfl (by omega) (by omega) (by omega) ?_
      rw [show lN (((vvn + 1) * (48271)) % (2147483647)) = lN (lot) from congrArg lN el.symm]
      refine XP_n 3 (pc' := 32) (ls' := [.ref (99), .int (nI (rn)), .int (nI (vvn)), .int (nI (whatn)), .long (lN (lot)), xj, xj, xj, xj, xj, xj, xj, xj, xj, xj]) (st' := [.long (lN (lot)), .ref (99)]) (M' := (I, J, Rx R, N, G)) rfl ?_
      refine XP_pure rfl rfl (m_pathBy hI.1 hW (by omega) (by omega)) ?_
      rw [← ex, ← ep]
      refine XP_n 4 (pc' := 37) (ls' := [.ref (99), .int (nI (rn)), .int (nI (vvn)), .int (nI (whatn)), .long (lN (lot)), xj, .int (nI (p)), xj, xj, xj, xj, xj, xj, xj, xj]) (st' := [.int (nI (p)), .int (nI (rn)), .ref (99)]) (M' := (I, J, Rx R, N, G)) rfl ?_
      refine XP_call rfl rfl (m_tot hI.1 hW (show rn < cR s by omega) (show p < cP s by omega)) ?_
      rintro v22 M22 ⟨rfl, I22, J22, rfl, hO22, hJ22, hrw22, hja22⟩
      have hI22 := hI.m (hO22.sub (by simp)) (hJ22.sub (by simp))
      refine XP_n 7 (pc' := 45) (ls' := [.ref (99), .int (nI (rn)), .int (nI (vvn)), .int (nI (whatn)), .long (lN (lot)), xj, .int (nI (p)), .int (nI (0)), .long (lN (0)), xj, .int (nI (0)), xj, xj, xj, xj]) (st' := []) (M' := (I22, J22, Rx R, N, G)) rfl ?_
      exact l_M_dr (d := d + 2) hW hrn hpl hwhatn (cY s) 0 lot 0 0 _ _ _ _ _ (by omega) (by omega) hlt hI22 hrw22
end
