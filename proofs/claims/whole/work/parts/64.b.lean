/-! faces: rules told, streets, what lies where -/
section
variable {X : hX} {d : Nat} {s I : Nat → Nat → Int32} {J : Nat → Nat → Int64} {R : Nat → Nat → Option Nat} {N : Nat → Nat} {G : hG}
theorem f_ruleTold (hI : Inv s R N I J) (r : Int32) (what : Int32) : ∃ v, TP X (d + 12) n_H_ruleTold [.ref 0, .int r, .int what] (I, J, Rx R, N, G) (QP s R N G (.int v)) ∧ ∀ I J, Inv s R N I J → TP X (d + 12) n_M_ruleTold [.ref 99, .int r, .int what] (I, J, Rx R, N, G) (QP s R N G (.int v)) := by
  have hI0 := hI
  obtain ⟨hS, hW, hL, hC, hch⟩ := hI0
  have hy16 := hW.y.2
  have hp4 := hW.p.2
  have hs6 := hW.ns.2
  have hr8 := hW.r.2
  have hst8 := hW.st.2
  have ht3 := hW.t.2
  have hw60 := hW.w.2
  have hcwa := cWA_le hW
  by_cases g0 : inN (r) (cR s)
  rotate_left
  · skip
    refine ⟨cI (-5), ?_, fun I J hI => ?_⟩
    · unfold TP
      show XP X _ k_H_ruleTold 0 [.ref (0), .int (r), .int (what), xj] [] _ _
      refine XP_n 2 (pc' := 2) (ls' := [.ref (0), .int (r), .int (what), xj]) (st' := [.int (r), .ref (0)]) (M' := (I, J, Rx R, N, G)) rfl ?_
      refine XP_pure rfl rfl (c_ruleAtF hI.1 hW hL g0) ?_
      refine XP_n 4 (pc' := 7) (ls' := [.ref (0), .int (r), .int (what), .null]) (st' := [.int (cI (-5))]) (M' := (I, J, Rx R, N, G)) rfl ?_
      exact XP_ret rfl ⟨rfl, _, _, rfl, hI⟩
    · unfold TP
      show XP X _ k_M_ruleTold 0 [.ref (99), .int (r), .int (what)] [] _ _
      refine XP_n 2 (pc' := 2) (ls' := [.ref (99), .int (r), .int (what)]) (st' := [.int (r), .ref (99)]) (M' := (I, J, Rx R, N, G)) rfl ?_
      refine XP_pure rfl rfl (m_isRule hI.1 hI.2.1 _) ?_
      refine XP_s rfl ?_
      refine XP_bne (fun b3 => absurd b3 g0) (fun b3 => ?_)
      refine XP_n 1 (pc' := 5) (ls' := [.ref (99), .int (r), .int (what)]) (st' := [.int (cI (-5))]) (M' := (I, J, Rx R, N, G)) rfl ?_
      exact XP_ret rfl ⟨rfl, _, _, rfl, hI⟩
  obtain ⟨rn, hrn, rfl, er⟩ := inN_nat g0 (by omega)
  by_cases g1 : iv 0 19 (what)
  rotate_left
  · skip
    have h7 : (isO (1000 + 2 * rn) 7 && true) = true := by rw [rul_o (by omega)]; rfl
    have h419 : ¬ iv 4 19 what := fun z => g1 ⟨Int32.le_trans ((nI_leI (by omega) (by omega)).mpr (by omega)) z.1, z.2⟩
    refine ⟨cI (-7), ?_, fun I J hI => ?_⟩
    · unfold TP
      show XP X _ k_H_ruleTold 0 [.ref (0), .int (nI (rn)), .int (what), xj] [] _ _
      refine XP_n 2 (pc' := 2) (ls' := [.ref (0), .int (nI (rn)), .int (what), xj]) (st' := [.int (nI (rn)), .ref (0)]) (M' := (I, J, Rx R, N, G)) rfl ?_
      refine XP_pure rfl rfl (c_ruleAtT hI.1 hW hL (show rn < cR s by omega)) ?_
      refine XP_n 4 (pc' := 9) (ls' := [.ref (0), .int (nI (rn)), .int (what), .ref (1000 + 2 * rn)]) (st' := [.int (what)]) (M' := (I, J, Rx R, N, G)) rfl ?_
      refine XP_tabO 0 3 22 rfl (by omega) (by omega) rfl rfl (fun z => g1 ⟨z.1, Int32.le_trans z.2 ((nI_leI (by omega) (by omega)).mpr (by omega))⟩) rfl ?_
      refine XP_n 3 (pc' := 25) (ls' := [.ref (0), .int (nI (rn)), .int (what), .ref (1000 + 2 * rn)]) (st' := [.int (nI (19)), .int (nI (4)), .int (what)]) (M' := (I, J, Rx R, N, G)) rfl ?_
      refine XP_pure rfl rfl (w_H X _ _ 4 19 _) ?_
      refine XP_s rfl ?_
      refine XP_beq (fun b26 => ?_) (fun b26 => absurd b26 h419)
      refine XP_n 1 (pc' := 34) (ls' := [.ref (0), .int (nI (rn)), .int (what), .ref (1000 + 2 * rn)]) (st' := [.int (cI (-7))]) (M' := (I, J, Rx R, N, G)) rfl ?_
      exact XP_ret rfl ⟨rfl, _, _, rfl, hI⟩
    · unfold TP
      show XP X _ k_M_ruleTold 0 [.ref (99), .int (nI (rn)), .int (what)] [] _ _
      refine XP_n 2 (pc' := 2) (ls' := [.ref (99), .int (nI (rn)), .int (what)]) (st' := [.int (nI (rn)), .ref (99)]) (M' := (I, J, Rx R, N, G)) rfl ?_
      refine XP_pure rfl rfl (m_isRule hI.1 hI.2.1 _) ?_
      refine XP_s rfl ?_
      refine XP_bne (fun b3 => ?_) (fun b3 => absurd g0 b3)
      refine XP_n 1 (pc' := 7) (ls' := [.ref (99), .int (nI (rn)), .int (what)]) (st' := [.int (what)]) (M' := (I, J, Rx R, N, G)) rfl ?_
      refine XP_tabO 0 3 28 rfl (by omega) (by omega) rfl rfl (fun z => g1 ⟨z.1, Int32.le_trans z.2 ((nI_leI (by omega) (by omega)).mpr (by omega))⟩) rfl ?_
      refine XP_n 3 (pc' := 31) (ls' := [.ref (99), .int (nI (rn)), .int (what)]) (st' := [.int (nI (19)), .int (nI (4)), .int (what)]) (M' := (I, J, Rx R, N, G)) rfl ?_
      refine XP_pure rfl rfl (w_M X _ _ 4 19 _) ?_
      refine XP_s rfl ?_
      refine XP_beq (fun b32 => ?_) (fun b32 => absurd b32 h419)
      refine XP_n 1 (pc' := 45) (ls' := [.ref (99), .int (nI (rn)), .int (what)]) (st' := [.int (cI (-7))]) (M' := (I, J, Rx R, N, G)) rfl ?_
      exact XP_ret rfl ⟨rfl, _, _, rfl, hI⟩
  obtain ⟨whatn, hwhatn0, hwhatn, rfl, ewhat⟩ := iv_nat g1 (by omega) (by omega)
  have h7 : (isO (1000 + 2 * rn) 7 && true) = true := by rw [rul_o (by omega)]; rfl
  by_cases h4 : whatn < 4
  · have hx : whatn = 0 ∨ whatn = 1 ∨ whatn = 2 ∨ whatn = 3 := by omega
    clear hwhatn hwhatn0 ewhat h4
    rcases hx with rfl | rfl | rfl | rfl
    · skip
      refine ⟨s 107 rn, ?_, fun I J hI => ?_⟩
      · unfold TP
        show XP X _ k_H_ruleTold 0 [.ref (0), .int (nI (rn)), .int (nI (0)), xj] [] _ _
        refine XP_n 2 (pc' := 2) (ls' := [.ref (0), .int (nI (rn)), .int (nI (0)), xj]) (st' := [.int (nI (rn)), .ref (0)]) (M' := (I, J, Rx R, N, G)) rfl ?_
        refine XP_pure rfl rfl (c_ruleAtT hI.1 hW hL (show rn < cR s by omega)) ?_
        refine XP_n 4 (pc' := 9) (ls' := [.ref (0), .int (nI (rn)), .int (nI (0)), .ref (1000 + 2 * rn)]) (st' := [.int (nI (0))]) (M' := (I, J, Rx R, N, G)) rfl ?_
        refine XP_tab 0 0 3 10 rfl (by omega) rfl rfl (by omega) (by omega) rfl ?_
        refine XP_n 1 (pc' := 11) (ls' := [.ref (0), .int (nI (rn)), .int (nI (0)), .ref (1000 + 2 * rn)]) (st' := [.ref (1000 + 2 * rn)]) (M' := (I, J, Rx R, N, G)) rfl ?_
        refine XP_getw rfl (h7) ?_
        show XP X _ k_H_ruleTold 12 [.ref (0), .int (nI (rn)), .int (nI (0)), .ref (1000 + 2 * rn)] [.int (I (1000 + 2 * rn) 0)] _ _
        rw [hI.1 _ _ _ _ (rul_m (show rn < 1000 by omega)).1]
        exact XP_ret rfl ⟨rfl, _, _, rfl, hI⟩
      · unfold TP
        show XP X _ k_M_ruleTold 0 [.ref (99), .int (nI (rn)), .int (nI (0))] [] _ _
        refine XP_n 2 (pc' := 2) (ls' := [.ref (99), .int (nI (rn)), .int (nI (0))]) (st' := [.int (nI (rn)), .ref (99)]) (M' := (I, J, Rx R, N, G)) rfl ?_
        refine XP_pure rfl rfl (m_isRule hI.1 hI.2.1 _) ?_
        refine XP_s rfl ?_
        refine XP_bne (fun b3 => ?_) (fun b3 => absurd g0 b3)
        refine XP_n 1 (pc' := 7) (ls' := [.ref (99), .int (nI (rn)), .int (nI (0))]) (st' := [.int (nI (0))]) (M' := (I, J, Rx R, N, G)) rfl ?_
        refine XP_tab 0 0 3 8 rfl (by omega) rfl rfl (by omega) (by omega) rfl ?_
        refine XP_n 3 (pc' := 11) (ls' := [.ref (99), .int (nI (rn)), .int (nI (0))]) (st' := [.int (nI (rn)), .ref (107)]) (M' := (I, J, Rx R, N, G)) rfl ?_
        refine XP_iald hI.1 rfl rfl (show rn < 8 by omega) rfl (by omega) rfl ?_
        exact XP_ret rfl ⟨rfl, _, _, rfl, hI⟩
    · skip
      refine ⟨s 108 rn, ?_, fun I J hI => ?_⟩
      · unfold TP
        show XP X _ k_H_ruleTold 0 [.ref (0), .int (nI (rn)), .int (nI (1)), xj] [] _ _
        refine XP_n 2 (pc' := 2) (ls' := [.ref (0), .int (nI (rn)), .int (nI (1)), xj]) (st' := [.int (nI (rn)), .ref (0)]) (M' := (I, J, Rx R, N, G)) rfl ?_
        refine XP_pure rfl rfl (c_ruleAtT hI.1 hW hL (show rn < cR s by omega)) ?_
        refine XP_n 4 (pc' := 9) (ls' := [.ref (0), .int (nI (rn)), .int (nI (1)), .ref (1000 + 2 * rn)]) (st' := [.int (nI (1))]) (M' := (I, J, Rx R, N, G)) rfl ?_
        refine XP_tab 1 0 3 13 rfl (by omega) rfl rfl (by omega) (by omega) rfl ?_
        refine XP_n 1 (pc' := 14) (ls' := [.ref (0), .int (nI (rn)), .int (nI (1)), .ref (1000 + 2 * rn)]) (st' := [.ref (1000 + 2 * rn)]) (M' := (I, J, Rx R, N, G)) rfl ?_
        refine XP_getw rfl (h7) ?_
        show XP X _ k_H_ruleTold 15 [.ref (0), .int (nI (rn)), .int (nI (1)), .ref (1000 + 2 * rn)] [.int (I (1000 + 2 * rn) 1)] _ _
        rw [hI.1 _ _ _ _ (rul_m (show rn < 1000 by omega)).2.1]
        exact XP_ret rfl ⟨rfl, _, _, rfl, hI⟩
      · unfold TP
        show XP X _ k_M_ruleTold 0 [.ref (99), .int (nI (rn)), .int (nI (1))] [] _ _
        refine XP_n 2 (pc' := 2) (ls' := [.ref (99), .int (nI (rn)), .int (nI (1))]) (st' := [.int (nI (rn)), .ref (99)]) (M' := (I, J, Rx R, N, G)) rfl ?_
        refine XP_pure rfl rfl (m_isRule hI.1 hI.2.1 _) ?_
        refine XP_s rfl ?_
        refine XP_bne (fun b3 => ?_) (fun b3 => absurd g0 b3)
        refine XP_n 1 (pc' := 7) (ls' := [.ref (99), .int (nI (rn)), .int (nI (1))]) (st' := [.int (nI (1))]) (M' := (I, J, Rx R, N, G)) rfl ?_
        refine XP_tab 1 0 3 13 rfl (by omega) rfl rfl (by omega) (by omega) rfl ?_
        refine XP_n 3 (pc' := 16) (ls' := [.ref (99), .int (nI (rn)), .int (nI (1))]) (st' := [.int (nI (rn)), .ref (108)]) (M' := (I, J, Rx R, N, G)) rfl ?_
        refine XP_iald hI.1 rfl rfl (show rn < 8 by omega) rfl (by omega) rfl ?_
        exact XP_ret rfl ⟨rfl, _, _, rfl, hI⟩
    · skip
      refine ⟨s 109 rn, ?_, fun I J hI => ?_⟩
      · unfold TP
        show XP X _ k_H_ruleTold 0 [.ref (0), .int (nI (rn)), .int (nI (2)), xj] [] _ _
        refine XP_n 2 (pc' := 2) (ls' := [.ref (0), .int (nI (rn)), .int (nI (2)), xj]) (st' := [.int (nI (rn)), .ref (0)]) (M' := (I, J, Rx R, N, G)) rfl ?_
        refine XP_pure rfl rfl (c_ruleAtT hI.1 hW hL (show rn < cR s by omega)) ?_
        refine XP_n 4 (pc' := 9) (ls' := [.ref (0), .int (nI (rn)), .int (nI (2)), .ref (1000 + 2 * rn)]) (st' := [.int (nI (2))]) (M' := (I, J, Rx R, N, G)) rfl ?_
        refine XP_tab 2 0 3 16 rfl (by omega) rfl rfl (by omega) (by omega) rfl ?_
        refine XP_n 1 (pc' := 17) (ls' := [.ref (0), .int (nI (rn)), .int (nI (2)), .ref (1000 + 2 * rn)]) (st' := [.ref (1000 + 2 * rn)]) (M' := (I, J, Rx R, N, G)) rfl ?_
        refine XP_getw rfl (h7) ?_
        show XP X _ k_H_ruleTold 18 [.ref (0), .int (nI (rn)), .int (nI (2)), .ref (1000 + 2 * rn)] [.int (I (1000 + 2 * rn) 2)] _ _
        rw [hI.1 _ _ _ _ (rul_m (show rn < 1000 by omega)).2.2.1]
        exact XP_ret rfl ⟨rfl, _, _, rfl, hI⟩
      · unfold TP
        show XP X _ k_M_ruleTold 0 [.ref (99), .int (nI (rn)), .int (nI (2))] [] _ _
        refine XP_n 2 (pc' := 2) (ls' := [.ref (99), .int (nI (rn)), .int (nI (2))]) (st' := [.int (nI (rn)), .ref (99)]) (M' := (I, J, Rx R, N, G)) rfl ?_
        refine XP_pure rfl rfl (m_isRule hI.1 hI.2.1 _) ?_
        refine XP_s rfl ?_
        refine XP_bne (fun b3 => ?_) (fun b3 => absurd g0 b3)
        refine XP_n 1 (pc' := 7) (ls' := [.ref (99), .int (nI (rn)), .int (nI (2))]) (st' := [.int (nI (2))]) (M' := (I, J, Rx R, N, G)) rfl ?_
        refine XP_tab 2 0 3 18 rfl (by omega) rfl rfl (by omega) (by omega) rfl ?_
        refine XP_n 3 (pc' := 21) (ls' := [.ref (99), .int (nI (rn)), .int (nI (2))]) (st' := [.int (nI (rn)), .ref (109)]) (M' := (I, J, Rx R, N, G)) rfl ?_
        refine XP_iald hI.1 rfl rfl (show rn < 8 by omega) rfl (by omega) rfl ?_
        exact XP_ret rfl ⟨rfl, _, _, rfl, hI⟩
    · skip
      refine ⟨s 110 rn, ?_, fun I J hI => ?_⟩
      · unfold TP
        show XP X _ k_H_ruleTold 0 [.ref (0), .int (nI (rn)), .int (nI (3)), xj] [] _ _
        refine XP_n 2 (pc' := 2) (ls' := [.ref (0), .int (nI (rn)), .int (nI (3)), xj]) (st' := [.int (nI (rn)), .ref (0)]) (M' := (I, J, Rx R, N, G)) rfl ?_
        refine XP_pure rfl rfl (c_ruleAtT hI.1 hW hL (show rn < cR s by omega)) ?_
        refine XP_n 4 (pc' := 9) (ls' := [.ref (0), .int (nI (rn)), .int (nI (3)), .ref (1000 + 2 * rn)]) (st' := [.int (nI (3))]) (M' := (I, J, Rx R, N, G)) rfl ?_
        refine XP_tab 3 0 3 19 rfl (by omega) rfl rfl (by omega) (by omega) rfl ?_
        refine XP_n 1 (pc' := 20) (ls' := [.ref (0), .int (nI (rn)), .int (nI (3)), .ref (1000 + 2 * rn)]) (st' := [.ref (1000 + 2 * rn)]) (M' := (I, J, Rx R, N, G)) rfl ?_
        refine XP_getw rfl (h7) ?_
        show XP X _ k_H_ruleTold 21 [.ref (0), .int (nI (rn)), .int (nI (3)), .ref (1000 + 2 * rn)] [.int (I (1000 + 2 * rn) 3)] _ _
        rw [hI.1 _ _ _ _ (rul_m (show rn < 1000 by omega)).2.2.2]
        exact XP_ret rfl ⟨rfl, _, _, rfl, hI⟩
      · unfold TP
        show XP X _ k_M_ruleTold 0 [.ref (99), .int (nI (rn)), .int (nI (3))] [] _ _
        refine XP_n 2 (pc' := 2) (ls' := [.ref (99), .int (nI (rn)), .int (nI (3))]) (st' := [.int (nI (rn)), .ref (99)]) (M' := (I, J, Rx R, N, G)) rfl ?_
        refine XP_pure rfl rfl (m_isRule hI.1 hI.2.1 _) ?_
        refine XP_s rfl ?_
        refine XP_bne (fun b3 => ?_) (fun b3 => absurd g0 b3)
        refine XP_n 1 (pc' := 7) (ls' := [.ref (99), .int (nI (rn)), .int (nI (3))]) (st' := [.int (nI (3))]) (M' := (I, J, Rx R, N, G)) rfl ?_
        refine XP_tab 3 0 3 23 rfl (by omega) rfl rfl (by omega) (by omega) rfl ?_
        refine XP_n 3 (pc' := 26) (ls' := [.ref (99), .int (nI (rn)), .int (nI (3))]) (st' := [.int (nI (rn)), .ref (110)]) (M' := (I, J, Rx R, N, G)) rfl ?_
        refine XP_iald hI.1 rfl rfl (show rn < 8 by omega) rfl (by omega) rfl ?_
        exact XP_ret rfl ⟨rfl, _, _, rfl, hI⟩
  · have h419 : iv 4 19 (nI whatn) := ⟨(nI_leI (by omega) (by omega)).mpr (by omega), (nI_leI (by omega) (by omega)).mpr (by omega)⟩
    have h03 : ¬ iv 0 3 (nI whatn) := fun z => h4 (by have := (nI_leI (by omega) (by omega)).mp z.2; omega)
    refine ⟨s 111 (16 * rn + (whatn - 4)), ?_, fun I J hI => ?_⟩
    · unfold TP
      show XP X _ k_H_ruleTold 0 [.ref (0), .int (nI (rn)), .int (nI (whatn)), xj] [] _ _
      refine XP_n 2 (pc' := 2) (ls' := [.ref (0), .int (nI (rn)), .int (nI (whatn)), xj]) (st' := [.int (nI (rn)), .ref (0)]) (M' := (I, J, Rx R, N, G)) rfl ?_
      refine XP_pure rfl rfl (c_ruleAtT hI.1 hW hL (show rn < cR s by omega)) ?_
      refine XP_n 4 (pc' := 9) (ls' := [.ref (0), .int (nI (rn)), .int (nI (whatn)), .ref (1000 + 2 * rn)]) (st' := [.int (nI (whatn))]) (M' := (I, J, Rx R, N, G)) rfl ?_
      refine XP_tabO 0 3 22 rfl (by omega) (by omega) rfl rfl h03 rfl ?_
      refine XP_n 3 (pc' := 25) (ls' := [.ref (0), .int (nI (rn)), .int (nI (whatn)), .ref (1000 + 2 * rn)]) (st' := [.int (nI (19)), .int (nI (4)), .int (nI (whatn))]) (M' := (I, J, Rx R, N, G)) rfl ?_
      refine XP_pure rfl rfl (w_H X _ _ 4 19 _) ?_
      refine XP_s rfl ?_
      refine XP_beq (fun b26 => absurd h419 b26) (fun b26 => ?_)
      refine XP_n 4 (pc' := 31) (ls' := [.ref (0), .int (nI (rn)), .int (nI (whatn)), .ref (1000 + 2 * rn)]) (st' := [.int ((nI (whatn)) - (nI (4))), .ref (1000 + 2 * rn)]) (M' := (I, J, Rx R, N, G)) rfl ?_
      rw [show (nI (whatn)) - (nI (4)) = nI (whatn - 4) from nI_subE (rfl) (rfl) (by omega)]
      refine XP_pure rfl (show (isO (1000 + 2 * rn) 7 || false) = true by rw [rul_o (by omega)]; rfl) (t_toldFor X _ hI.1 (by omega) (hL.2.2.2.1 rn hrn).2 (by omega)) ?_
      refine XP_n 1 (pc' := 34) (ls' := [.ref (0), .int (nI (rn)), .int (nI (whatn)), .ref (1000 + 2 * rn)]) (st' := [.int (s 111 (16 * rn + (whatn - 4)))]) (M' := (I, J, Rx R, N, G)) rfl ?_
      exact XP_ret rfl ⟨rfl, _, _, rfl, hI⟩
    · unfold TP
      show XP X _ k_M_ruleTold 0 [.ref (99), .int (nI (rn)), .int (nI (whatn))] [] _ _
      refine XP_n 2 (pc' := 2) (ls' := [.ref (99), .int (nI (rn)), .int (nI (whatn))]) (st' := [.int (nI (rn)), .ref (99)]) (M' := (I, J, Rx R, N, G)) rfl ?_
      refine XP_pure rfl rfl (m_isRule hI.1 hI.2.1 _) ?_
      refine XP_s rfl ?_
      refine XP_bne (fun b3 => ?_) (fun b3 => absurd g0 b3)
      refine XP_n 1 (pc' := 7) (ls' := [.ref (99), .int (nI (rn)), .int (nI (whatn))]) (st' := [.int (nI (whatn))]) (M' := (I, J, Rx R, N, G)) rfl ?_
      refine XP_tabO 0 3 28 rfl (by omega) (by omega) rfl rfl h03 rfl ?_
      refine XP_n 3 (pc' := 31) (ls' := [.ref (99), .int (nI (rn)), .int (nI (whatn))]) (st' := [.int (nI (19)), .int (nI (4)), .int (nI (whatn))]) (M' := (I, J, Rx R, N, G)) rfl ?_
      refine XP_pure rfl rfl (w_M X _ _ 4 19 _) ?_
      refine XP_s rfl ?_
      refine XP_beq (fun b32 => absurd h419 b32) (fun b32 => ?_)
      refine XP_n 9 (pc' := 42) (ls' := [.ref (99), .int (nI (rn)), .int (nI (whatn))]) (st' := [.int ((((nI (16)) * (nI (rn))) + (nI (whatn))) - (nI (4))), .ref (111)]) (M' := (I, J, Rx R, N, G)) rfl ?_
      rw [show (((nI (16)) * (nI (rn))) + (nI (whatn))) - (nI (4)) = nI ((16) * (rn) + whatn - 4) from nI_subE (nI_addE (nI_mulE (rfl) (rfl)) (rfl)) (rfl) (by omega)]
      refine XP_iald hI.1 rfl rfl (show (16) * (rn) + whatn - 4 < 128 by omega) rfl (by omega) rfl ?_
      refine XP_n 1 (pc' := 45) (ls' := [.ref (99), .int (nI (rn)), .int (nI (whatn))]) (st' := [.int (s 111 ((16) * (rn) + whatn - 4))]) (M' := (I, J, Rx R, N, G)) rfl ?_
      exact XP_ret rfl ⟨by rw [show 16 * rn + whatn - 4 = 16 * rn + (whatn - 4) by omega], _, _, rfl, hI⟩
theorem c_hasStreet (hS : St s I) (hW : Wf s) (v : Int32) : TP X d n_H_hasStreet [.ref 0, .int v] (I, J, Rx R, N, G) (Ret (.int (b2i (inN v (cSt s)))) (I, J, Rx R, N, G)) := by
  have hst8 := hW.st.2
  by_cases h : inN v (cSt s)
  · rw [show b2i (inN v (cSt s)) = nI 1 from b2i_t h]
    obtain ⟨j, hj, rfl, -⟩ := inN_nat h (by omega)
    unfold TP
    show XP X _ k_H_hasStreet 0 [.ref (0), .int (nI (j))] [] _ _
    refine XP_n 1 (pc' := 1) (ls' := [.ref (0), .int (nI (j))]) (st' := [.int (nI (j))]) (M' := (I, J, Rx R, N, G)) rfl ?_
    refine XP_ifN (x := j)  rfl (by omega) (fun (b1 : j < 0) => absurd b1 (by omega)) (fun (b1 : 0 ≤ j) => ?_)
    refine XP_n 2 (pc' := 4) (ls' := [.ref (0), .int (nI (j))]) (st' := [.ref (0), .int (nI (j))]) (M' := (I, J, Rx R, N, G)) rfl ?_
    refine XP_geti hS rfl rfl rfl ?_
    rw [hW.st.1]
    refine XP_icN (x := j) (y := cSt s) rfl (by omega) (by omega) (fun (b5 : cSt s ≤ j) => absurd b5 (by omega)) (fun (b5 : j < cSt s) => ?_)
    refine XP_n 4 (pc' := 10) (ls' := [.ref (0), .int (nI (j))]) (st' := [.int (nI (8)), .int (nI (j))]) (M' := (I, J, Rx R, N, G)) rfl ?_
    refine XP_icN (x := j) (y := 8) rfl (by omega) (by omega) (fun (b10 : 8 ≤ j) => absurd b10 (by omega)) (fun (b10 : j < 8) => ?_)
    refine XP_n 4 (pc' := 15) (ls' := [.ref (0), .int (nI (j))]) (st' := [.int (nI (8)), .int (nI (j))]) (M' := (I, J, Rx R, N, G)) rfl ?_
    refine XP_icN (x := j) (y := 8) rfl (by omega) (by omega) (fun (b15 : 8 ≤ j) => absurd b15 (by omega)) (fun (b15 : j < 8) => ?_)
    refine XP_n 2 (pc' := 19) (ls' := [.ref (0), .int (nI (j))]) (st' := [.int (nI (1))]) (M' := (I, J, Rx R, N, G)) rfl ?_
    exact XP_ret rfl ⟨rfl, rfl⟩
  · rw [show b2i (inN v (cSt s)) = nI 0 from b2i_f h]
    unfold TP
    show XP X _ k_H_hasStreet 0 [.ref (0), .int (v)] [] _ _
    refine XP_n 1 (pc' := 1) (ls' := [.ref (0), .int (v)]) (st' := [.int (v)]) (M' := (I, J, Rx R, N, G)) rfl ?_
    refine XP_ifD rfl (fun (b1 : v < 0) => ?_) (fun (b1 : 0 ≤ v) => ?_)
    · have n1 := Int32.not_le.mpr b1
      refine XP_n 1 (pc' := 19) (ls' := [.ref (0), .int (v)]) (st' := [.int (nI (0))]) (M' := (I, J, Rx R, N, G)) rfl ?_
      exact XP_ret rfl ⟨rfl, rfl⟩
    · have n1 := Int32.not_lt.mpr b1
      refine XP_n 2 (pc' := 4) (ls' := [.ref (0), .int (v)]) (st' := [.ref (0), .int (v)]) (M' := (I, J, Rx R, N, G)) rfl ?_
      refine XP_geti hS rfl rfl rfl ?_
      rw [hW.st.1]
      refine XP_icD rfl (fun (b5 : nI (cSt s) ≤ v) => ?_) (fun (b5 : v < nI (cSt s)) => absurd ((lt_iff (by omega)).mp ⟨Int32.not_lt.mpr b1, b5⟩) h)
      have n5 := Int32.not_lt.mpr b5
      refine XP_n 1 (pc' := 19) (ls' := [.ref (0), .int (v)]) (st' := [.int (nI (0))]) (M' := (I, J, Rx R, N, G)) rfl ?_
      exact XP_ret rfl ⟨rfl, rfl⟩
def sWh (s : Nat → Nat → Int32) (h p : Nat) (m : Int32) : Nat → Nat → Int32
  | 0, _ => cI (-1)
  | n + 1, y => if m < gFl s (nI (nLv s p y)) (nI h) then nI y else sWh s h p m n (y + 1)
theorem sWh_or (s : Nat → Nat → Int32) (h p : Nat) (m : Int32) : ∀ n y, sWh s h p m n y = cI (-1) ∨ ∃ k, k < y + n ∧ sWh s h p m n y = nI k
  | 0, _ => Or.inl rfl
  | n + 1, y => by
    unfold sWh
    split
    · exact Or.inr ⟨y, by omega, rfl⟩
    · rcases sWh_or s h p m n (y + 1) with e | ⟨k, hk, e⟩
      · exact Or.inl e
      · exact Or.inr ⟨k, by omega, e⟩
theorem l_H_left (hS : St s I) (hW : Wf s) {t : Int32} {h : Nat} {p : Nat} (hp : p < cP s) (m : Int32) : ∀ (n i : Nat), i + n = cY s → XP X (d + 1) k_H_leftIn 13 [.ref (0), .int (t), .int (nI (p)), .int (m), .int (nI (h)), .int (nI (i))] [] (I, J, Rx R, N, G) (Ret (.int (sWh s h p m n i)) (I, J, Rx R, N, G)) := by
  have hy16 := hW.y.2
  have hst8 := hW.st.2
  intro n
  induction n with
  | zero =>
    rintro i hi
    obtain rfl : i = cY s := by omega
    refine XP_n 3 (pc' := 16) (ls' := [.ref (0), .int (t), .int (nI (p)), .int (m), .int (nI (h)), .int (nI (cY s))]) (st' := [.ref (1), .int (nI (cY s))]) (M' := (I, J, Rx R, N, G)) rfl ?_
    refine XP_geti hS rfl rfl rfl ?_
    rw [hW.y.1]
    refine XP_icN (x := cY s) (y := cY s) rfl (by omega) (by omega) (fun (b17 : cY s ≤ cY s) => ?_) (fun (b17 : cY s < cY s) => absurd b17 (by omega))
    refine XP_n 1 (pc' := 34) (ls' := [.ref (0), .int (t), .int (nI (p)), .int (m), .int (nI (h)), .int (nI (cY s))]) (st' := [.int (cI (-1))]) (M' := (I, J, Rx R, N, G)) rfl ?_
    exact XP_ret rfl ⟨rfl, rfl⟩
  | succ n ih =>
    rintro i hi
    unfold sWh
    refine XP_n 3 (pc' := 16) (ls' := [.ref (0), .int (t), .int (nI (p)), .int (m), .int (nI (h)), .int (nI (i))]) (st' := [.ref (1), .int (nI (i))]) (M' := (I, J, Rx R, N, G)) rfl ?_
    refine XP_geti hS rfl rfl rfl ?_
    rw [hW.y.1]
    refine XP_icN (x := i) (y := cY s) rfl (by omega) (by omega) (fun (b17 : cY s ≤ i) => absurd b17 (by omega)) (fun (b17 : i < cY s) => ?_)
    refine XP_n 7 (pc' := 25) (ls' := [.ref (0), .int (t), .int (nI (p)), .int (m), .int (nI (h)), .int (nI (i))]) (st' := [.int (nI (i)), .int (nI (p)), .ref (1), .int (nI (h)), .ref (1)]) (M' := (I, J, Rx R, N, G)) rfl ?_
    refine XP_pure rfl rfl (c_lv hS hW (show p < cP s by omega) (by omega)) ?_
    have hlv21 := (nLv_ok hW (show p < cP s by omega) (show i ≤ 15 by omega)).2
    refine XP_pure rfl rfl (c_fl hS hW _ _) ?_
    refine XP_n 1 (pc' := 28) (ls' := [.ref (0), .int (t), .int (nI (p)), .int (m), .int (nI (h)), .int (nI (i))]) (st' := [.int (m), .int (gFl s (nI (nLv s (p) (i))) (nI (h)))]) (M' := (I, J, Rx R, N, G)) rfl ?_
    refine XP_icD rfl (fun (b28 : gFl s (nI (nLv s (p) (i))) (nI (h)) ≤ m) => ?_) (fun (b28 : m < gFl s (nI (nLv s (p) (i))) (nI (h))) => ?_)
    · have n28 := Int32.not_lt.mpr b28
      refine XP_n 1 (pc' := 32) (ls' := [.ref (0), .int (t), .int (nI (p)), .int (m), .int (nI (h)), .int (nI (i) + nI (1))]) (st' := []) (M' := (I, J, Rx R, N, G)) rfl ?_
      rw [show nI (i) + nI (1) = nI (i + 1) from nI_addE (rfl) rfl]
      refine XP_n 1 (pc' := 13) (ls' := [.ref (0), .int (t), .int (nI (p)), .int (m), .int (nI (h)), .int (nI (i + 1))]) (st' := []) (M' := (I, J, Rx R, N, G)) rfl ?_
      rw [if_neg (Int32.not_lt.mpr b28)]
      exact ih (i + 1) (by omega)
    · have n28 := Int32.not_le.mpr b28
      refine XP_n 1 (pc' := 30) (ls' := [.ref (0), .int (t), .int (nI (p)), .int (m), .int (nI (h)), .int (nI (i))]) (st' := [.int (nI (i))]) (M' := (I, J, Rx R, N, G)) rfl ?_
      rw [if_pos b28]
      exact XP_ret rfl ⟨rfl, rfl⟩
theorem c_leftIn (hS : St s I) (hW : Wf s) {t p : Nat} (ht : t < cSt s) (hp : p < cP s) (m : Int32) : TP X (d + 1) n_H_leftIn [.ref 0, .int (nI t), .int (nI p), .int m] (I, J, Rx R, N, G) (Ret (.int (sWh s (rSH s t) p m (cY s) 0)) (I, J, Rx R, N, G)) := by
  have hst8 := hW.st.2
  have hp4 := hW.p.2
  have hin : inN (nI t) (cSt s) := nI_inN ht (by omega)
  unfold TP
  show XP X _ k_H_leftIn 0 [.ref (0), .int (nI (t)), .int (nI (p)), .int (m), xj, xj] [] _ _
  refine XP_n 2 (pc' := 2) (ls' := [.ref (0), .int (nI (t)), .int (nI (p)), .int (m), xj, xj]) (st' := [.int (nI (t)), .ref (0)]) (M' := (I, J, Rx R, N, G)) rfl ?_
  refine XP_pure rfl rfl (c_hasStreet hS hW _) ?_
  refine XP_s rfl ?_
  refine XP_beq (fun b3 => absurd hin b3) (fun b3 => ?_)
  refine XP_n 3 (pc' := 7) (ls' := [.ref (0), .int (nI (t)), .int (nI (p)), .int (m), xj, xj]) (st' := [.int (nI (t)), .ref (78)]) (M' := (I, J, Rx R, N, G)) rfl ?_
  refine XP_iald hS rfl rfl (show t < 8 by omega) rfl (by omega) rfl ?_
  obtain ⟨hq22, hr22⟩ := hW.sth (show t < cSt s by omega)
  rw [hq22]
  refine XP_n 4 (pc' := 13) (ls' := [.ref (0), .int (nI (t)), .int (nI (p)), .int (m), .int (nI (rSH s t)), .int (nI (0))]) (st' := []) (M' := (I, J, Rx R, N, G)) rfl ?_
  exact l_H_left hS hW hp m (cY s) 0 (by omega)
theorem l_M_when (hS : St s I) (hW : Wf s) {t : Nat} (ht : t < cSt s) {p : Nat} (hp : p < cP s) (m : Int32) : ∀ (n i : Nat), i + n = cY s → XP X (d + 1) k_M_whenOf 2 [.ref (99), .int (nI (t)), .int (nI (p)), .int (m), .int (nI (i))] [] (I, J, Rx R, N, G) (Ret (.int (sWh s (rSH s t) p m n i)) (I, J, Rx R, N, G)) := by
  have hy16 := hW.y.2
  have hst8 := hW.st.2
  intro n
  induction n with
  | zero =>
    rintro i hi
    obtain rfl : i = cY s := by omega
    refine XP_n 2 (pc' := 4) (ls' := [.ref (99), .int (nI (t)), .int (nI (p)), .int (m), .int (nI (cY s))]) (st' := [.ref (99), .int (nI (cY s))]) (M' := (I, J, Rx R, N, G)) rfl ?_
    refine XP_geti hS rfl rfl rfl ?_
    rw [hW.y.1]
    refine XP_icN (x := cY s) (y := cY s) rfl (by omega) (by omega) (fun (b5 : cY s ≤ cY s) => ?_) (fun (b5 : cY s < cY s) => absurd b5 (by omega))
    refine XP_n 1 (pc' := 23) (ls' := [.ref (99), .int (nI (t)), .int (nI (p)), .int (m), .int (nI (cY s))]) (st' := [.int (cI (-1))]) (M' := (I, J, Rx R, N, G)) rfl ?_
    exact XP_ret rfl ⟨rfl, rfl⟩
  | succ n ih =>
    rintro i hi
    unfold sWh
    refine XP_n 2 (pc' := 4) (ls' := [.ref (99), .int (nI (t)), .int (nI (p)), .int (m), .int (nI (i))]) (st' := [.ref (99), .int (nI (i))]) (M' := (I, J, Rx R, N, G)) rfl ?_
    refine XP_geti hS rfl rfl rfl ?_
    rw [hW.y.1]
    refine XP_icN (x := i) (y := cY s) rfl (by omega) (by omega) (fun (b5 : cY s ≤ i) => absurd b5 (by omega)) (fun (b5 : i < cY s) => ?_)
    refine XP_n 4 (pc' := 10) (ls' := [.ref (99), .int (nI (t)), .int (nI (p)), .int (m), .int (nI (i))]) (st' := [.int (nI (i)), .int (nI (p)), .ref (99), .ref (99)]) (M' := (I, J, Rx R, N, G)) rfl ?_
    refine XP_pure rfl rfl (m_lv hS hW (show p < cP s by omega) (by omega)) ?_
    have hlv23 := (nLv_ok hW (show p < cP s by omega) (show i ≤ 15 by omega)).2
    refine XP_n 3 (pc' := 14) (ls' := [.ref (99), .int (nI (t)), .int (nI (p)), .int (m), .int (nI (i))]) (st' := [.int (nI (t)), .ref (112), .int (nI (nLv s (p) (i))), .ref (99)]) (M' := (I, J, Rx R, N, G)) rfl ?_
    refine XP_iald hS rfl rfl (show t < 8 by omega) rfl (by omega) rfl ?_
    obtain ⟨hq24, hr24⟩ := hW.sth (show t < cSt s by omega)
    rw [hq24]
    refine XP_pure rfl rfl (m_fl hS hW _ _) ?_
    refine XP_n 1 (pc' := 17) (ls' := [.ref (99), .int (nI (t)), .int (nI (p)), .int (m), .int (nI (i))]) (st' := [.int (m), .int (gFl s (nI (nLv s (p) (i))) (nI (rSH s t)))]) (M' := (I, J, Rx R, N, G)) rfl ?_
    refine XP_icD rfl (fun (b17 : gFl s (nI (nLv s (p) (i))) (nI (rSH s t)) ≤ m) => ?_) (fun (b17 : m < gFl s (nI (nLv s (p) (i))) (nI (rSH s t))) => ?_)
    · have n17 := Int32.not_lt.mpr b17
      refine XP_n 1 (pc' := 21) (ls' := [.ref (99), .int (nI (t)), .int (nI (p)), .int (m), .int (nI (i) + nI (1))]) (st' := []) (M' := (I, J, Rx R, N, G)) rfl ?_
      rw [show nI (i) + nI (1) = nI (i + 1) from nI_addE (rfl) rfl]
      refine XP_n 1 (pc' := 2) (ls' := [.ref (99), .int (nI (t)), .int (nI (p)), .int (m), .int (nI (i + 1))]) (st' := []) (M' := (I, J, Rx R, N, G)) rfl ?_
      rw [if_neg (Int32.not_lt.mpr b17)]
      exact ih (i + 1) (by omega)
    · have n17 := Int32.not_le.mpr b17
      refine XP_n 1 (pc' := 19) (ls' := [.ref (99), .int (nI (t)), .int (nI (p)), .int (m), .int (nI (i))]) (st' := [.int (nI (i))]) (M' := (I, J, Rx R, N, G)) rfl ?_
      rw [if_pos b17]
      exact XP_ret rfl ⟨rfl, rfl⟩
theorem m_whenOf (hS : St s I) (hW : Wf s) {t p : Nat} (ht : t < cSt s) (hp : p < cP s) (m : Int32) : TP X (d + 1) n_M_whenOf [.ref 99, .int (nI t), .int (nI p), .int m] (I, J, Rx R, N, G) (Ret (.int (sWh s (rSH s t) p m (cY s) 0)) (I, J, Rx R, N, G)) := by
  unfold TP
  show XP X _ k_M_whenOf 0 [.ref (99), .int (nI (t)), .int (nI (p)), .int (m), xj] [] _ _
  refine XP_n 2 (pc' := 2) (ls' := [.ref (99), .int (nI (t)), .int (nI (p)), .int (m), .int (nI (0))]) (st' := []) (M' := (I, J, Rx R, N, G)) rfl ?_
  exact l_M_when hS hW ht hp m (cY s) 0 (by omega)
theorem f_when (hI : Inv s R N I J) (t : Int32) (p : Int32) (m : Int32) : ∃ v, TP X (d + 12) n_H_when [.ref 0, .int t, .int p, .int m] (I, J, Rx R, N, G) (QP s R N G (.int v)) ∧ ∀ I J, Inv s R N I J → TP X (d + 12) n_M_when [.ref 99, .int t, .int p, .int m] (I, J, Rx R, N, G) (QP s R N G (.int v)) := by
  have hI0 := hI
  obtain ⟨hS, hW, hL, hC, hch⟩ := hI0
  have hy16 := hW.y.2
  have hp4 := hW.p.2
  have hs6 := hW.ns.2
  have hr8 := hW.r.2
  have hst8 := hW.st.2
  have ht3 := hW.t.2
  have hw60 := hW.w.2
  have hcwa := cWA_le hW
  by_cases g0 : inN (t) (cSt s)
  rotate_left
  · skip
    refine ⟨cI (-5), ?_, fun I J hI => ?_⟩
    · unfold TP
      show XP X _ k_H_when 0 [.ref (0), .int (t), .int (p), .int (m)] [] _ _
      refine XP_n 2 (pc' := 2) (ls' := [.ref (0), .int (t), .int (p), .int (m)]) (st' := [.int (t), .ref (0)]) (M' := (I, J, Rx R, N, G)) rfl ?_
      refine XP_pure rfl rfl (c_hasStreet hI.1 hW _) ?_
      refine XP_s rfl ?_
      refine XP_beq (fun b3 => ?_) (fun b3 => absurd b3 g0)
      refine XP_n 1 (pc' := 10) (ls' := [.ref (0), .int (t), .int (p), .int (m)]) (st' := [.int (cI (-5))]) (M' := (I, J, Rx R, N, G)) rfl ?_
      exact XP_ret rfl ⟨rfl, _, _, rfl, hI⟩
    · unfold TP
      show XP X _ k_M_when 0 [.ref (99), .int (t), .int (p), .int (m)] [] _ _
      refine XP_n 3 (pc' := 3) (ls' := [.ref (99), .int (t), .int (p), .int (m)]) (st' := [.ref (99), .int (nI (0)), .int (t)]) (M' := (I, J, Rx R, N, G)) rfl ?_
      refine XP_geti hI.1 rfl rfl rfl ?_
      rw [hW.st.1]
      refine XP_n 2 (pc' := 6) (ls' := [.ref (99), .int (t), .int (p), .int (m)]) (st' := [.int ((nI (cSt s)) - (nI (1))), .int (nI (0)), .int (t)]) (M' := (I, J, Rx R, N, G)) rfl ?_
      refine XP_pure rfl rfl (t_M_in X _ _ (nI 0) (nI (cSt s) - nI 1) _) ?_
      rw [show b2i (nI 0 ≤ t ∧ t ≤ nI (cSt s) - nI 1) = b2i (inN (t) (cSt s)) from b2i_congr (in_n (by omega))]
      refine XP_s rfl ?_
      refine XP_beq (fun b7 => ?_) (fun b7 => absurd b7 g0)
      refine XP_n 1 (pc' := 13) (ls' := [.ref (99), .int (t), .int (p), .int (m)]) (st' := [.int (cI (-5))]) (M' := (I, J, Rx R, N, G)) rfl ?_
      exact XP_ret rfl ⟨rfl, _, _, rfl, hI⟩
  obtain ⟨tn, htn, rfl, et⟩ := inN_nat g0 (by omega)
  by_cases g1 : inN (p) (cP s)
  rotate_left
  · skip
    refine ⟨cI (-5), ?_, fun I J hI => ?_⟩
    · unfold TP
      show XP X _ k_H_when 0 [.ref (0), .int (nI (tn)), .int (p), .int (m)] [] _ _
      refine XP_n 2 (pc' := 2) (ls' := [.ref (0), .int (nI (tn)), .int (p), .int (m)]) (st' := [.int (nI (tn)), .ref (0)]) (M' := (I, J, Rx R, N, G)) rfl ?_
      refine XP_pure rfl rfl (c_hasStreet hI.1 hW _) ?_
      refine XP_s rfl ?_
      refine XP_beq (fun b3 => absurd g0 b3) (fun b3 => ?_)
      refine XP_n 3 (pc' := 7) (ls' := [.ref (0), .int (nI (tn)), .int (p), .int (m)]) (st' := [.int (p), .ref (1)]) (M' := (I, J, Rx R, N, G)) rfl ?_
      refine XP_pure rfl rfl (c_hasPath hI.1 hI.2.1 _) ?_
      refine XP_s rfl ?_
      refine XP_bne (fun b8 => absurd b8 g1) (fun b8 => ?_)
      refine XP_n 1 (pc' := 10) (ls' := [.ref (0), .int (nI (tn)), .int (p), .int (m)]) (st' := [.int (cI (-5))]) (M' := (I, J, Rx R, N, G)) rfl ?_
      exact XP_ret rfl ⟨rfl, _, _, rfl, hI⟩
    · unfold TP
      show XP X _ k_M_when 0 [.ref (99), .int (nI (tn)), .int (p), .int (m)] [] _ _
      refine XP_n 3 (pc' := 3) (ls' := [.ref (99), .int (nI (tn)), .int (p), .int (m)]) (st' := [.ref (99), .int (nI (0)), .int (nI (tn))]) (M' := (I, J, Rx R, N, G)) rfl ?_
      refine XP_geti hI.1 rfl rfl rfl ?_
      rw [hW.st.1]
      refine XP_n 2 (pc' := 6) (ls' := [.ref (99), .int (nI (tn)), .int (p), .int (m)]) (st' := [.int ((nI (cSt s)) - (nI (1))), .int (nI (0)), .int (nI (tn))]) (M' := (I, J, Rx R, N, G)) rfl ?_
      refine XP_pure rfl rfl (t_M_in X _ _ (nI 0) (nI (cSt s) - nI 1) _) ?_
      rw [show b2i (nI 0 ≤ nI (tn) ∧ nI (tn) ≤ nI (cSt s) - nI 1) = b2i (inN (nI (tn)) (cSt s)) from b2i_congr (in_n (by omega))]
      refine XP_s rfl ?_
      refine XP_beq (fun b7 => absurd g0 b7) (fun b7 => ?_)
      refine XP_n 2 (pc' := 10) (ls' := [.ref (99), .int (nI (tn)), .int (p), .int (m)]) (st' := [.int (p), .ref (99)]) (M' := (I, J, Rx R, N, G)) rfl ?_
      refine XP_pure rfl rfl (m_isPath hI.1 hI.2.1 _) ?_
      refine XP_s rfl ?_
      refine XP_bne (fun b11 => absurd b11 g1) (fun b11 => ?_)
      refine XP_n 1 (pc' := 13) (ls' := [.ref (99), .int (nI (tn)), .int (p), .int (m)]) (st' := [.int (cI (-5))]) (M' := (I, J, Rx R, N, G)) rfl ?_
      exact XP_ret rfl ⟨rfl, _, _, rfl, hI⟩
  obtain ⟨pn, hpn, rfl, ep⟩ := inN_nat g1 (by omega)
  by_cases g2 : iv 0 1000 (m)
  rotate_left
  · skip
    refine ⟨cI (-7), ?_, fun I J hI => ?_⟩
    · unfold TP
      show XP X _ k_H_when 0 [.ref (0), .int (nI (tn)), .int (nI (pn)), .int (m)] [] _ _
      refine XP_n 2 (pc' := 2) (ls' := [.ref (0), .int (nI (tn)), .int (nI (pn)), .int (m)]) (st' := [.int (nI (tn)), .ref (0)]) (M' := (I, J, Rx R, N, G)) rfl ?_
      refine XP_pure rfl rfl (c_hasStreet hI.1 hW _) ?_
      refine XP_s rfl ?_
      refine XP_beq (fun b3 => absurd g0 b3) (fun b3 => ?_)
      refine XP_n 3 (pc' := 7) (ls' := [.ref (0), .int (nI (tn)), .int (nI (pn)), .int (m)]) (st' := [.int (nI (pn)), .ref (1)]) (M' := (I, J, Rx R, N, G)) rfl ?_
      refine XP_pure rfl rfl (c_hasPath hI.1 hI.2.1 _) ?_
      refine XP_s rfl ?_
      refine XP_bne (fun b8 => ?_) (fun b8 => absurd g1 b8)
      refine XP_n 1 (pc' := 12) (ls' := [.ref (0), .int (nI (tn)), .int (nI (pn)), .int (m)]) (st' := [.int (m)]) (M' := (I, J, Rx R, N, G)) rfl ?_
      refine XP_pure rfl rfl (t_H_isMany X _ _ _) ?_
      refine XP_s rfl ?_
      refine XP_beq (fun b13 => ?_) (fun b13 => absurd b13 g2)
      refine XP_n 1 (pc' := 21) (ls' := [.ref (0), .int (nI (tn)), .int (nI (pn)), .int (m)]) (st' := [.int (cI (-7))]) (M' := (I, J, Rx R, N, G)) rfl ?_
      exact XP_ret rfl ⟨rfl, _, _, rfl, hI⟩
    · unfold TP
      show XP X _ k_M_when 0 [.ref (99), .int (nI (tn)), .int (nI (pn)), .int (m)] [] _ _
      refine XP_n 3 (pc' := 3) (ls' := [.ref (99), .int (nI (tn)), .int (nI (pn)), .int (m)]) (st' := [.ref (99), .int (nI (0)), .int (nI (tn))]) (M' := (I, J, Rx R, N, G)) rfl ?_
      refine XP_geti hI.1 rfl rfl rfl ?_
      rw [hW.st.1]
      refine XP_n 2 (pc' := 6) (ls' := [.ref (99), .int (nI (tn)), .int (nI (pn)), .int (m)]) (st' := [.int ((nI (cSt s)) - (nI (1))), .int (nI (0)), .int (nI (tn))]) (M' := (I, J, Rx R, N, G)) rfl ?_
      refine XP_pure rfl rfl (t_M_in X _ _ (nI 0) (nI (cSt s) - nI 1) _) ?_
      rw [show b2i (nI 0 ≤ nI (tn) ∧ nI (tn) ≤ nI (cSt s) - nI 1) = b2i (inN (nI (tn)) (cSt s)) from b2i_congr (in_n (by omega))]
      refine XP_s rfl ?_
      refine XP_beq (fun b7 => absurd g0 b7) (fun b7 => ?_)
      refine XP_n 2 (pc' := 10) (ls' := [.ref (99), .int (nI (tn)), .int (nI (pn)), .int (m)]) (st' := [.int (nI (pn)), .ref (99)]) (M' := (I, J, Rx R, N, G)) rfl ?_
      refine XP_pure rfl rfl (m_isPath hI.1 hI.2.1 _) ?_
      refine XP_s rfl ?_
      refine XP_bne (fun b11 => ?_) (fun b11 => absurd g1 b11)
      refine XP_n 3 (pc' := 17) (ls' := [.ref (99), .int (nI (tn)), .int (nI (pn)), .int (m)]) (st' := [.int (nI (1000)), .int (nI (0)), .int (m)]) (M' := (I, J, Rx R, N, G)) rfl ?_
      refine XP_pure rfl rfl (w_M X _ _ 0 1000 _) ?_
      refine XP_s rfl ?_
      refine XP_beq (fun b18 => ?_) (fun b18 => absurd b18 g2)
      refine XP_n 1 (pc' := 26) (ls' := [.ref (99), .int (nI (tn)), .int (nI (pn)), .int (m)]) (st' := [.int (cI (-7))]) (M' := (I, J, Rx R, N, G)) rfl ?_
      exact XP_ret rfl ⟨rfl, _, _, rfl, hI⟩
  obtain ⟨mn, hmn0, hmn, rfl, em⟩ := iv_nat g2 (by omega) (by omega)
  refine ⟨sWh s (rSH s tn) pn (nI mn) (cY s) 0, ?_, fun I J hI => ?_⟩
  · unfold TP
    show XP X _ k_H_when 0 [.ref (0), .int (nI (tn)), .int (nI (pn)), .int (nI (mn))] [] _ _
    refine XP_n 2 (pc' := 2) (ls' := [.ref (0), .int (nI (tn)), .int (nI (pn)), .int (nI (mn))]) (st' := [.int (nI (tn)), .ref (0)]) (M' := (I, J, Rx R, N, G)) rfl ?_
    refine XP_pure rfl rfl (c_hasStreet hI.1 hW _) ?_
    refine XP_s rfl ?_
    refine XP_beq (fun b3 => absurd g0 b3) (fun b3 => ?_)
    refine XP_n 3 (pc' := 7) (ls' := [.ref (0), .int (nI (tn)), .int (nI (pn)), .int (nI (mn))]) (st' := [.int (nI (pn)), .ref (1)]) (M' := (I, J, Rx R, N, G)) rfl ?_
    refine XP_pure rfl rfl (c_hasPath hI.1 hI.2.1 _) ?_
    refine XP_s rfl ?_
    refine XP_bne (fun b8 => ?_) (fun b8 => absurd g1 b8)
    refine XP_n 1 (pc' := 12) (ls' := [.ref (0), .int (nI (tn)), .int (nI (pn)), .int (nI (mn))]) (st' := [.int (nI (mn))]) (M' := (I, J, Rx R, N, G)) rfl ?_
    refine XP_pure rfl rfl (t_H_isMany X _ _ _) ?_
    refine XP_s rfl ?_
    refine XP_beq (fun b13 => absurd g2 b13) (fun b13 => ?_)
    refine XP_n 4 (pc' := 18) (ls' := [.ref (0), .int (nI (tn)), .int (nI (pn)), .int (nI (mn))]) (st' := [.int (nI (mn)), .int (nI (pn)), .int (nI (tn)), .ref (0)]) (M' := (I, J, Rx R, N, G)) rfl ?_
    refine XP_pure rfl rfl (c_leftIn hI.1 hW (show tn < cSt s by omega) (show pn < cP s by omega) _) ?_
    refine XP_n 1 (pc' := 21) (ls' := [.ref (0), .int (nI (tn)), .int (nI (pn)), .int (nI (mn))]) (st' := [.int (sWh s (rSH s tn) (pn) (nI (mn)) (cY s) 0)]) (M' := (I, J, Rx R, N, G)) rfl ?_
    exact XP_ret rfl ⟨rfl, _, _, rfl, hI⟩
  · unfold TP
    show XP X _ k_M_when 0 [.ref (99), .int (nI (tn)), .int (nI (pn)), .int (nI (mn))] [] _ _
    refine XP_n 3 (pc' := 3) (ls' := [.ref (99), .int (nI (tn)), .int (nI (pn)), .int (nI (mn))]) (st' := [.ref (99), .int (nI (0)), .int (nI (tn))]) (M' := (I, J, Rx R, N, G)) rfl ?_
    refine XP_geti hI.1 rfl rfl rfl ?_
    rw [hW.st.1]
    refine XP_n 2 (pc' := 6) (ls' := [.ref (99), .int (nI (tn)), .int (nI (pn)), .int (nI (mn))]) (st' := [.int ((nI (cSt s)) - (nI (1))), .int (nI (0)), .int (nI (tn))]) (M' := (I, J, Rx R, N, G)) rfl ?_
    refine XP_pure rfl rfl (t_M_in X _ _ (nI 0) (nI (cSt s) - nI 1) _) ?_
    rw [show b2i (nI 0 ≤ nI (tn) ∧ nI (tn) ≤ nI (cSt s) - nI 1) = b2i (inN (nI (tn)) (cSt s)) from b2i_congr (in_n (by omega))]
    refine XP_s rfl ?_
    refine XP_beq (fun b7 => absurd g0 b7) (fun b7 => ?_)
    refine XP_n 2 (pc' := 10) (ls' := [.ref (99), .int (nI (tn)), .int (nI (pn)), .int (nI (mn))]) (st' := [.int (nI (pn)), .ref (99)]) (M' := (I, J, Rx R, N, G)) rfl ?_
    refine XP_pure rfl rfl (m_isPath hI.1 hI.2.1 _) ?_
    refine XP_s rfl ?_
    refine XP_bne (fun b11 => ?_) (fun b11 => absurd g1 b11)
    refine XP_n 3 (pc' := 17) (ls' := [.ref (99), .int (nI (tn)), .int (nI (pn)), .int (nI (mn))]) (st' := [.int (nI (1000)), .int (nI (0)), .int (nI (mn))]) (M' := (I, J, Rx R, N, G)) rfl ?_
    refine XP_pure rfl rfl (w_M X _ _ 0 1000 _) ?_
    refine XP_s rfl ?_
    refine XP_beq (fun b18 => absurd g2 b18) (fun b18 => ?_)
    refine XP_n 4 (pc' := 23) (ls' := [.ref (99), .int (nI (tn)), .int (nI (pn)), .int (nI (mn))]) (st' := [.int (nI (mn)), .int (nI (pn)), .int (nI (tn)), .ref (99)]) (M' := (I, J, Rx R, N, G)) rfl ?_
    refine XP_pure rfl rfl (m_whenOf hI.1 hW (show tn < cSt s by omega) (show pn < cP s by omega) _) ?_
    refine XP_n 1 (pc' := 26) (ls' := [.ref (99), .int (nI (tn)), .int (nI (pn)), .int (nI (mn))]) (st' := [.int (sWh s (rSH s tn) (pn) (nI (mn)) (cY s) 0)]) (M' := (I, J, Rx R, N, G)) rfl ?_
    exact XP_ret rfl ⟨rfl, _, _, rfl, hI⟩
def awB (s : Nat → Nat → Int32) (p y m t : Nat) : Bool := (decide (nI 0 ≤ sWh s (rSH s t) p (nI m) (cY s) 0) && decide (sWh s (rSH s t) p (nI m) (cY s) 0 ≤ nI y))
def awR (s : Nat → Nat → Int32) (p y m t : Nat) : Nat := if awB s p y m t = true then 0 else rSW s t
theorem aw_no {s : Nat → Nat → Int32} {p y m t : Nat} (h : sWh s (rSH s t) p (nI m) (cY s) 0 = cI (-1)) : awB s p y m t = false := by
  unfold awB
  rw [h, show decide (nI 0 ≤ cI (-1)) = false by decide]
  rfl
theorem aw_k {s : Nat → Nat → Int32} {p y m t k : Nat} (h : sWh s (rSH s t) p (nI m) (cY s) 0 = nI k) (hk : k < 2147483648) (hy : y < 2147483648) : awB s p y m t = decide (k ≤ y) := by
  unfold awB
  rw [h]
  simp [nI_leI, hk, hy]
theorem nI_m1 {k : Nat} (h : k < 2147483648) : ¬ nI k = cI (-1) := fun z => by
  have := nI_pos (n := k) (by omega)
  rw [z] at this
  exact this (by decide)
theorem awR_le {s : Nat → Nat → Int32} (hW : Wf s) {p y m : Nat} {n : Nat} (hn : n ≤ cSt s) : sumN (awR s p y m) n ≤ 7992 := by
  have h8 := hW.st.2
  have h1 := sumN_le (f := awR s p y m) (n := n) (c := 999) (fun i hi => by
    have := (hW.stw (show i < cSt s by omega)).2
    unfold awR
    split <;> omega)
  omega
theorem l_H_away {Q : Option Value → hM → Prop} (hI : Inv s R N I J) (hW : Wf s) {p y m w : Nat} (hp : p < cP s) (hy : y < cY s) (hm : m ≤ 1000) (hw : w ≤ 1) (kk : ∀ w8 : Value, XP X (d + 2) k_H_away 61 [.ref (0), .int (nI (p)), .int (nI (y)), .int (nI (m)), .int (nI (w)), .int (nI (mkN (awB s p y m) (cSt s))), .int (nI (sumN (awR s p y m) (cSt s))), .int (nI (cSt s)), w8] [] (I, J, Rx R, N, G) Q) : ∀ (n i : Nat) (w8 : Value), i + n = cSt s → XP X (d + 2) k_H_away 25 [.ref (0), .int (nI (p)), .int (nI (y)), .int (nI (m)), .int (nI (w)), .int (nI (mkN (awB s p y m) (i))), .int (nI (sumN (awR s p y m) (i))), .int (nI (i)), w8] [] (I, J, Rx R, N, G) Q := by
  have hS := hI.1
  have hy16 := hW.y.2
  have hst8 := hW.st.2
  have hp4 := hW.p.2
  intro n
  induction n with
  | zero =>
    rintro i w8 hi
    obtain rfl : i = cSt s := by omega
    refine XP_n 2 (pc' := 27) (ls' := [.ref (0), .int (nI (p)), .int (nI (y)), .int (nI (m)), .int (nI (w)), .int (nI (mkN (awB s p y m) (cSt s))), .int (nI (sumN (awR s p y m) (cSt s))), .int (nI (cSt s)), w8]) (st' := [.ref (0), .int (nI (cSt s))]) (M' := (I, J, Rx R, N, G)) rfl ?_
    refine XP_geti hS rfl rfl rfl ?_
    rw [hW.st.1]
    refine XP_icN (x := cSt s) (y := cSt s) rfl (by omega) (by omega) (fun (b28 : cSt s ≤ cSt s) => ?_) (fun (b28 : cSt s < cSt s) => absurd b28 (by omega))
    exact kk _
  | succ n ih =>
    rintro i w8 hi
    have hrl := awR_le hW (p := p) (y := y) (m := m) (show i ≤ cSt s by omega)
    have hsw := (hW.stw (show i < cSt s by omega)).2
    rcases sWh_or s (rSH s i) p (nI m) (cY s) 0 with e | ⟨k, hk, e⟩
    · have ea := aw_no (y := y) e
      have er : awR s p y m i = rSW s i := by unfold awR; rw [ea]; rfl
      refine XP_n 2 (pc' := 27) (ls' := [.ref (0), .int (nI (p)), .int (nI (y)), .int (nI (m)), .int (nI (w)), .int (nI (mkN (awB s p y m) (i))), .int (nI (sumN (awR s p y m) (i))), .int (nI (i)), w8]) (st' := [.ref (0), .int (nI (i))]) (M' := (I, J, Rx R, N, G)) rfl ?_
      refine XP_geti hS rfl rfl rfl ?_
      rw [hW.st.1]
      refine XP_icN (x := i) (y := cSt s) rfl (by omega) (by omega) (fun (b28 : cSt s ≤ i) => absurd b28 (by omega)) (fun (b28 : i < cSt s) => ?_)
      refine XP_n 4 (pc' := 33) (ls' := [.ref (0), .int (nI (p)), .int (nI (y)), .int (nI (m)), .int (nI (w)), .int (nI (mkN (awB s p y m) (i))), .int (nI (sumN (awR s p y m) (i))), .int (nI (i)), w8]) (st' := [.int (nI (8)), .int (nI (i))]) (M' := (I, J, Rx R, N, G)) rfl ?_
      refine XP_icN (x := i) (y := 8) rfl (by omega) (by omega) (fun (b33 : 8 ≤ i) => absurd b33 (by omega)) (fun (b33 : i < 8) => ?_)
      refine XP_n 4 (pc' := 38) (ls' := [.ref (0), .int (nI (p)), .int (nI (y)), .int (nI (m)), .int (nI (w)), .int (nI (mkN (awB s p y m) (i))), .int (nI (sumN (awR s p y m) (i))), .int (nI (i)), w8]) (st' := [.int (nI (m)), .int (nI (p)), .int (nI (i)), .ref (0)]) (M' := (I, J, Rx R, N, G)) rfl ?_
      refine XP_pure rfl rfl (c_leftIn hS hW (show i < cSt s by omega) (show p < cP s by omega) _) ?_
      rw [e]
      refine XP_n 2 (pc' := 41) (ls' := [.ref (0), .int (nI (p)), .int (nI (y)), .int (nI (m)), .int (nI (w)), .int (nI (mkN (awB s p y m) (i))), .int (nI (sumN (awR s p y m) (i))), .int (nI (i)), .int (cI (-1))]) (st' := [.int (cI (-1))]) (M' := (I, J, Rx R, N, G)) rfl ?_
      refine XP_ifD rfl (fun (b41 : cI (-1) < 0) => ?_) (fun (b41 : 0 ≤ cI (-1)) => absurd b41 (by decide))
      have n41 := Int32.not_le.mpr b41
      refine XP_n 4 (pc' := 56) (ls' := [.ref (0), .int (nI (p)), .int (nI (y)), .int (nI (m)), .int (nI (w)), .int (nI (mkN (awB s p y m) (i))), .int (nI (sumN (awR s p y m) (i))), .int (nI (i)), .int (cI (-1))]) (st' := [.int (nI (i)), .ref (79), .int (nI (sumN (awR s p y m) (i)))]) (M' := (I, J, Rx R, N, G)) rfl ?_
      refine XP_iald hS rfl rfl (show i < 8 by omega) rfl (by omega) rfl ?_
      obtain ⟨hq25, hr25⟩ := hW.stw (show i < cSt s by omega)
      rw [hq25]
      refine XP_n 2 (pc' := 59) (ls' := [.ref (0), .int (nI (p)), .int (nI (y)), .int (nI (m)), .int (nI (w)), .int (nI (mkN (awB s p y m) (i))), .int ((nI (sumN (awR s p y m) (i))) + (nI (rSW s i))), .int (nI (i)), .int (cI (-1))]) (st' := []) (M' := (I, J, Rx R, N, G)) rfl ?_
      rw [show (nI (sumN (awR s p y m) (i))) + (nI (rSW s i)) = nI (sumN (awR s p y m) (i) + rSW s i) from nI_addE (rfl) (rfl)]
      refine XP_n 1 (pc' := 60) (ls' := [.ref (0), .int (nI (p)), .int (nI (y)), .int (nI (m)), .int (nI (w)), .int (nI (mkN (awB s p y m) (i))), .int (nI (sumN (awR s p y m) (i) + rSW s i)), .int (nI (i) + nI (1)), .int (cI (-1))]) (st' := []) (M' := (I, J, Rx R, N, G)) rfl ?_
      rw [show nI (i) + nI (1) = nI (i + 1) from nI_addE (rfl) rfl]
      refine XP_n 1 (pc' := 25) (ls' := [.ref (0), .int (nI (p)), .int (nI (y)), .int (nI (m)), .int (nI (w)), .int (nI (mkN (awB s p y m) (i))), .int (nI (sumN (awR s p y m) (i) + rSW s i)), .int (nI (i + 1)), .int (cI (-1))]) (st' := []) (M' := (I, J, Rx R, N, G)) rfl ?_
      have e2 : mkN (awB s p y m) (i + 1) = mkN (awB s p y m) i := by simp [mkN, sumN, ea]
      have e3 : sumN (awR s p y m) (i + 1) = sumN (awR s p y m) i + rSW s i := by show sumN (awR s p y m) i + awR s p y m i = _; rw [er]
      have ih2 := ih (i + 1) (.int (cI (-1))) (by omega)
      rw [e3, e2] at ih2
      exact ih2
    · by_cases hky : k ≤ y
      · have ea : awB s p y m i = true := by rw [aw_k e (by omega) (by omega)]; exact decide_eq_true hky
        have er : awR s p y m i = 0 := by unfold awR; rw [ea]; rfl
        refine XP_n 2 (pc' := 27) (ls' := [.ref (0), .int (nI (p)), .int (nI (y)), .int (nI (m)), .int (nI (w)), .int (nI (mkN (awB s p y m) (i))), .int (nI (sumN (awR s p y m) (i))), .int (nI (i)), w8]) (st' := [.ref (0), .int (nI (i))]) (M' := (I, J, Rx R, N, G)) rfl ?_
        refine XP_geti hS rfl rfl rfl ?_
        rw [hW.st.1]
        refine XP_icN (x := i) (y := cSt s) rfl (by omega) (by omega) (fun (b28 : cSt s ≤ i) => absurd b28 (by omega)) (fun (b28 : i < cSt s) => ?_)
        refine XP_n 4 (pc' := 33) (ls' := [.ref (0), .int (nI (p)), .int (nI (y)), .int (nI (m)), .int (nI (w)), .int (nI (mkN (awB s p y m) (i))), .int (nI (sumN (awR s p y m) (i))), .int (nI (i)), w8]) (st' := [.int (nI (8)), .int (nI (i))]) (M' := (I, J, Rx R, N, G)) rfl ?_
        refine XP_icN (x := i) (y := 8) rfl (by omega) (by omega) (fun (b33 : 8 ≤ i) => absurd b33 (by omega)) (fun (b33 : i < 8) => ?_)
        refine XP_n 4 (pc' := 38) (ls' := [.ref (0), .int (nI (p)), .int (nI (y)), .int (nI (m)), .int (nI (w)), .int (nI (mkN (awB s p y m) (i))), .int (nI (sumN (awR s p y m) (i))), .int (nI (i)), w8]) (st' := [.int (nI (m)), .int (nI (p)), .int (nI (i)), .ref (0)]) (M' := (I, J, Rx R, N, G)) rfl ?_
        refine XP_pure rfl rfl (c_leftIn hS hW (show i < cSt s by omega) (show p < cP s by omega) _) ?_
        rw [e]
        refine XP_n 2 (pc' := 41) (ls' := [.ref (0), .int (nI (p)), .int (nI (y)), .int (nI (m)), .int (nI (w)), .int (nI (mkN (awB s p y m) (i))), .int (nI (sumN (awR s p y m) (i))), .int (nI (i)), .int (nI (k))]) (st' := [.int (nI (k))]) (M' := (I, J, Rx R, N, G)) rfl ?_
        refine XP_ifN (x := k)  rfl (by omega) (fun (b41 : k < 0) => absurd b41 (by omega)) (fun (b41 : 0 ≤ k) => ?_)
        refine XP_n 2 (pc' := 44) (ls' := [.ref (0), .int (nI (p)), .int (nI (y)), .int (nI (m)), .int (nI (w)), .int (nI (mkN (awB s p y m) (i))), .int (nI (sumN (awR s p y m) (i))), .int (nI (i)), .int (nI (k))]) (st' := [.int (nI (y)), .int (nI (k))]) (M' := (I, J, Rx R, N, G)) rfl ?_
        refine XP_icN (x := k) (y := y) rfl (by omega) (by omega) (fun (b44 : y < k) => absurd b44 (by omega)) (fun (b44 : k ≤ y) => ?_)
        refine XP_n 8 (pc' := 60) (ls' := [.ref (0), .int (nI (p)), .int (nI (y)), .int (nI (m)), .int (nI (w)), .int ((nI (mkN (awB s p y m) (i))) ||| ((nI (1)) <<< ((nI (i)) &&& 31))), .int (nI (sumN (awR s p y m) (i))), .int (nI (i) + nI (1)), .int (nI (k))]) (st' := []) (M' := (I, J, Rx R, N, G)) rfl ?_
        rw [show nI (i) + nI (1) = nI (i + 1) from nI_addE (rfl) rfl]
        refine XP_n 1 (pc' := 25) (ls' := [.ref (0), .int (nI (p)), .int (nI (y)), .int (nI (m)), .int (nI (w)), .int ((nI (mkN (awB s p y m) (i))) ||| ((nI (1)) <<< ((nI (i)) &&& 31))), .int (nI (sumN (awR s p y m) (i))), .int (nI (i + 1)), .int (nI (k))]) (st' := []) (M' := (I, J, Rx R, N, G)) rfl ?_
        have e2 : nI (mkN (awB s p y m) i) ||| (nI 1 <<< (nI i &&& 31)) = nI (mkN (awB s p y m) (i + 1)) := by
          rw [b_or i (by omega) _ (mkN_lt _ i)]
          simp [mkN, sumN, ea]
        have e3 : sumN (awR s p y m) (i + 1) = sumN (awR s p y m) i := by show sumN (awR s p y m) i + awR s p y m i = _; rw [er]; rfl
        have ih2 := ih (i + 1) (.int (nI (k))) (by omega)
        rw [e3, ← e2] at ih2
        exact ih2
      · have ea : awB s p y m i = false := by rw [aw_k e (by omega) (by omega)]; exact decide_eq_false hky
        have er : awR s p y m i = rSW s i := by unfold awR; rw [ea]; rfl
        refine XP_n 2 (pc' := 27) (ls' := [.ref (0), .int (nI (p)), .int (nI (y)), .int (nI (m)), .int (nI (w)), .int (nI (mkN (awB s p y m) (i))), .int (nI (sumN (awR s p y m) (i))), .int (nI (i)), w8]) (st' := [.ref (0), .int (nI (i))]) (M' := (I, J, Rx R, N, G)) rfl ?_
        refine XP_geti hS rfl rfl rfl ?_
        rw [hW.st.1]
        refine XP_icN (x := i) (y := cSt s) rfl (by omega) (by omega) (fun (b28 : cSt s ≤ i) => absurd b28 (by omega)) (fun (b28 : i < cSt s) => ?_)
        refine XP_n 4 (pc' := 33) (ls' := [.ref (0), .int (nI (p)), .int (nI (y)), .int (nI (m)), .int (nI (w)), .int (nI (mkN (awB s p y m) (i))), .int (nI (sumN (awR s p y m) (i))), .int (nI (i)), w8]) (st' := [.int (nI (8)), .int (nI (i))]) (M' := (I, J, Rx R, N, G)) rfl ?_
        refine XP_icN (x := i) (y := 8) rfl (by omega) (by omega) (fun (b33 : 8 ≤ i) => absurd b33 (by omega)) (fun (b33 : i < 8) => ?_)
        refine XP_n 4 (pc' := 38) (ls' := [.ref (0), .int (nI (p)), .int (nI (y)), .int (nI (m)), .int (nI (w)), .int (nI (mkN (awB s p y m) (i))), .int (nI (sumN (awR s p y m) (i))), .int (nI (i)), w8]) (st' := [.int (nI (m)), .int (nI (p)), .int (nI (i)), .ref (0)]) (M' := (I, J, Rx R, N, G)) rfl ?_
        refine XP_pure rfl rfl (c_leftIn hS hW (show i < cSt s by omega) (show p < cP s by omega) _) ?_
        rw [e]
        refine XP_n 2 (pc' := 41) (ls' := [.ref (0), .int (nI (p)), .int (nI (y)), .int (nI (m)), .int (nI (w)), .int (nI (mkN (awB s p y m) (i))), .int (nI (sumN (awR s p y m) (i))), .int (nI (i)), .int (nI (k))]) (st' := [.int (nI (k))]) (M' := (I, J, Rx R, N, G)) rfl ?_
        refine XP_ifN (x := k)  rfl (by omega) (fun (b41 : k < 0) => absurd b41 (by omega)) (fun (b41 : 0 ≤ k) => ?_)
        refine XP_n 2 (pc' := 44) (ls' := [.ref (0), .int (nI (p)), .int (nI (y)), .int (nI (m)), .int (nI (w)), .int (nI (mkN (awB s p y m) (i))), .int (nI (sumN (awR s p y m) (i))), .int (nI (i)), .int (nI (k))]) (st' := [.int (nI (y)), .int (nI (k))]) (M' := (I, J, Rx R, N, G)) rfl ?_
        refine XP_icN (x := k) (y := y) rfl (by omega) (by omega) (fun (b44 : y < k) => ?_) (fun (b44 : k ≤ y) => absurd b44 (by omega))
        refine XP_n 4 (pc' := 56) (ls' := [.ref (0), .int (nI (p)), .int (nI (y)), .int (nI (m)), .int (nI (w)), .int (nI (mkN (awB s p y m) (i))), .int (nI (sumN (awR s p y m) (i))), .int (nI (i)), .int (nI (k))]) (st' := [.int (nI (i)), .ref (79), .int (nI (sumN (awR s p y m) (i)))]) (M' := (I, J, Rx R, N, G)) rfl ?_
        refine XP_iald hS rfl rfl (show i < 8 by omega) rfl (by omega) rfl ?_
        obtain ⟨hq26, hr26⟩ := hW.stw (show i < cSt s by omega)
        rw [hq26]
        refine XP_n 2 (pc' := 59) (ls' := [.ref (0), .int (nI (p)), .int (nI (y)), .int (nI (m)), .int (nI (w)), .int (nI (mkN (awB s p y m) (i))), .int ((nI (sumN (awR s p y m) (i))) + (nI (rSW s i))), .int (nI (i)), .int (nI (k))]) (st' := []) (M' := (I, J, Rx R, N, G)) rfl ?_
        rw [show (nI (sumN (awR s p y m) (i))) + (nI (rSW s i)) = nI (sumN (awR s p y m) (i) + rSW s i) from nI_addE (rfl) (rfl)]
        refine XP_n 1 (pc' := 60) (ls' := [.ref (0), .int (nI (p)), .int (nI (y)), .int (nI (m)), .int (nI (w)), .int (nI (mkN (awB s p y m) (i))), .int (nI (sumN (awR s p y m) (i) + rSW s i)), .int (nI (i) + nI (1)), .int (nI (k))]) (st' := []) (M' := (I, J, Rx R, N, G)) rfl ?_
        rw [show nI (i) + nI (1) = nI (i + 1) from nI_addE (rfl) rfl]
        refine XP_n 1 (pc' := 25) (ls' := [.ref (0), .int (nI (p)), .int (nI (y)), .int (nI (m)), .int (nI (w)), .int (nI (mkN (awB s p y m) (i))), .int (nI (sumN (awR s p y m) (i) + rSW s i)), .int (nI (i + 1)), .int (nI (k))]) (st' := []) (M' := (I, J, Rx R, N, G)) rfl ?_
        have e2 : mkN (awB s p y m) (i + 1) = mkN (awB s p y m) i := by simp [mkN, sumN, ea]
        have e3 : sumN (awR s p y m) (i + 1) = sumN (awR s p y m) i + rSW s i := by show sumN (awR s p y m) i + awR s p y m i = _; rw [er]
        have ih2 := ih (i + 1) (.int (nI (k))) (by omega)
        rw [e3, e2] at ih2
        exact ih2
theorem l_M_away {Q : Option Value → hM → Prop} (hI : Inv s R N I J) (hW : Wf s) {p y m w : Nat} (hp : p < cP s) (hy : y < cY s) (hm : m ≤ 1000) (hw : w ≤ 1) (kk : ∀ w8 w9 : Value, XP X (d + 2) k_M_away 71 [.ref (99), .int (nI (p)), .int (nI (y)), .int (nI (m)), .int (nI (w)), .int (nI (mkN (awB s p y m) (cSt s))), .int (nI (sumN (awR s p y m) (cSt s))), .int (nI (cSt s)), w8, w9] [] (I, J, Rx R, N, G) Q) : ∀ (n i : Nat) (w8 w9 : Value), i + n = cSt s → XP X (d + 2) k_M_away 28 [.ref (99), .int (nI (p)), .int (nI (y)), .int (nI (m)), .int (nI (w)), .int (nI (mkN (awB s p y m) (i))), .int (nI (sumN (awR s p y m) (i))), .int (nI (i)), w8, w9] [] (I, J, Rx R, N, G) Q := by
  have hS := hI.1
  have hy16 := hW.y.2
  have hst8 := hW.st.2
  have hp4 := hW.p.2
  intro n
  induction n with
  | zero =>
    rintro i w8 w9 hi
    obtain rfl : i = cSt s := by omega
    refine XP_n 2 (pc' := 30) (ls' := [.ref (99), .int (nI (p)), .int (nI (y)), .int (nI (m)), .int (nI (w)), .int (nI (mkN (awB s p y m) (cSt s))), .int (nI (sumN (awR s p y m) (cSt s))), .int (nI (cSt s)), w8, w9]) (st' := [.ref (99), .int (nI (cSt s))]) (M' := (I, J, Rx R, N, G)) rfl ?_
    refine XP_geti hS rfl rfl rfl ?_
    rw [hW.st.1]
    refine XP_icN (x := cSt s) (y := cSt s) rfl (by omega) (by omega) (fun (b31 : cSt s ≤ cSt s) => ?_) (fun (b31 : cSt s < cSt s) => absurd b31 (by omega))
    exact kk _ _
  | succ n ih =>
    rintro i w8 w9 hi
    have hrl := awR_le hW (p := p) (y := y) (m := m) (show i ≤ cSt s by omega)
    have hsw := (hW.stw (show i < cSt s by omega)).2
    rcases sWh_or s (rSH s i) p (nI m) (cY s) 0 with e | ⟨k, hk, e⟩
    · have ea := aw_no (y := y) e
      have er : awR s p y m i = rSW s i := by unfold awR; rw [ea]; rfl
      refine XP_n 2 (pc' := 30) (ls' := [.ref (99), .int (nI (p)), .int (nI (y)), .int (nI (m)), .int (nI (w)), .int (nI (mkN (awB s p y m) (i))), .int (nI (sumN (awR s p y m) (i))), .int (nI (i)), w8, w9]) (st' := [.ref (99), .int (nI (i))]) (M' := (I, J, Rx R, N, G)) rfl ?_
      refine XP_geti hS rfl rfl rfl ?_
      rw [hW.st.1]
      refine XP_icN (x := i) (y := cSt s) rfl (by omega) (by omega) (fun (b31 : cSt s ≤ i) => absurd b31 (by omega)) (fun (b31 : i < cSt s) => ?_)
      refine XP_n 4 (pc' := 36) (ls' := [.ref (99), .int (nI (p)), .int (nI (y)), .int (nI (m)), .int (nI (w)), .int (nI (mkN (awB s p y m) (i))), .int (nI (sumN (awR s p y m) (i))), .int (nI (i)), w8, w9]) (st' := [.int (nI (m)), .int (nI (p)), .int (nI (i)), .ref (99)]) (M' := (I, J, Rx R, N, G)) rfl ?_
      refine XP_pure rfl rfl (m_whenOf hS hW (show i < cSt s by omega) (show p < cP s by omega) _) ?_
      rw [e]
      refine XP_n 3 (pc' := 40) (ls' := [.ref (99), .int (nI (p)), .int (nI (y)), .int (nI (m)), .int (nI (w)), .int (nI (mkN (awB s p y m) (i))), .int (nI (sumN (awR s p y m) (i))), .int (nI (i)), .int (cI (-1)), w9]) (st' := [.int (cI (-1)), .int (cI (-1))]) (M' := (I, J, Rx R, N, G)) rfl ?_
      refine XP_icD rfl (fun (b40 : cI (-1) = cI (-1)) => ?_) (fun (b40 : ¬ cI (-1) = cI (-1)) => absurd b40 (by exact fun z => z rfl))
      refine XP_n 4 (pc' := 50) (ls' := [.ref (99), .int (nI (p)), .int (nI (y)), .int (nI (m)), .int (nI (w)), .int (nI (mkN (awB s p y m) (i))), .int (nI (sumN (awR s p y m) (i))), .int (nI (i)), .int (cI (-1)), .int (nI (0))]) (st' := [.int (nI (0)), .int (nI (mkN (awB s p y m) (i)))]) (M' := (I, J, Rx R, N, G)) rfl ?_
      refine XP_ifN (x := 0)  rfl (by omega) (fun (b50 : 0 = 0) => ?_) (fun (b50 : ¬ 0 = 0) => absurd b50 (by omega))
      refine XP_n 5 (pc' := 60) (ls' := [.ref (99), .int (nI (p)), .int (nI (y)), .int (nI (m)), .int (nI (w)), .int ((nI (mkN (awB s p y m) (i))) ||| (nI (0))), .int (nI (sumN (awR s p y m) (i))), .int (nI (i)), .int (cI (-1)), .int (nI (0))]) (st' := [.int (nI (0)), .int (nI (sumN (awR s p y m) (i)))]) (M' := (I, J, Rx R, N, G)) rfl ?_
      refine XP_ifN (x := 0)  rfl (by omega) (fun (b60 : 0 = 0) => ?_) (fun (b60 : ¬ 0 = 0) => absurd b60 (by omega))
      refine XP_n 3 (pc' := 66) (ls' := [.ref (99), .int (nI (p)), .int (nI (y)), .int (nI (m)), .int (nI (w)), .int ((nI (mkN (awB s p y m) (i))) ||| (nI (0))), .int (nI (sumN (awR s p y m) (i))), .int (nI (i)), .int (cI (-1)), .int (nI (0))]) (st' := [.int (nI (i)), .ref (113), .int (nI (sumN (awR s p y m) (i)))]) (M' := (I, J, Rx R, N, G)) rfl ?_
      refine XP_iald hS rfl rfl (show i < 8 by omega) rfl (by omega) rfl ?_
      obtain ⟨hq27, hr27⟩ := hW.stw (show i < cSt s by omega)
      rw [hq27]
      refine XP_n 2 (pc' := 69) (ls' := [.ref (99), .int (nI (p)), .int (nI (y)), .int (nI (m)), .int (nI (w)), .int ((nI (mkN (awB s p y m) (i))) ||| (nI (0))), .int ((nI (sumN (awR s p y m) (i))) + (nI (rSW s i))), .int (nI (i)), .int (cI (-1)), .int (nI (0))]) (st' := []) (M' := (I, J, Rx R, N, G)) rfl ?_
      rw [show (nI (sumN (awR s p y m) (i))) + (nI (rSW s i)) = nI (sumN (awR s p y m) (i) + rSW s i) from nI_addE (rfl) (rfl)]
      refine XP_n 1 (pc' := 70) (ls' := [.ref (99), .int (nI (p)), .int (nI (y)), .int (nI (m)), .int (nI (w)), .int ((nI (mkN (awB s p y m) (i))) ||| (nI (0))), .int (nI (sumN (awR s p y m) (i) + rSW s i)), .int (nI (i) + nI (1)), .int (cI (-1)), .int (nI (0))]) (st' := []) (M' := (I, J, Rx R, N, G)) rfl ?_
      rw [show nI (i) + nI (1) = nI (i + 1) from nI_addE (rfl) rfl]
      refine XP_n 1 (pc' := 28) (ls' := [.ref (99), .int (nI (p)), .int (nI (y)), .int (nI (m)), .int (nI (w)), .int ((nI (mkN (awB s p y m) (i))) ||| (nI (0))), .int (nI (sumN (awR s p y m) (i) + rSW s i)), .int (nI (i + 1)), .int (cI (-1)), .int (nI (0))]) (st' := []) (M' := (I, J, Rx R, N, G)) rfl ?_
      have e2 : mkN (awB s p y m) (i + 1) = mkN (awB s p y m) i := by simp [mkN, sumN, ea]
      have e3 : sumN (awR s p y m) (i + 1) = sumN (awR s p y m) i + rSW s i := by show sumN (awR s p y m) i + awR s p y m i = _; rw [er]
      have ih2 := ih (i + 1) (.int (cI (-1))) (.int (nI (0))) (by omega)
      rw [e3, e2] at ih2
      rw [or_0]
      exact ih2
    · by_cases hky : k ≤ y
      · have ea : awB s p y m i = true := by rw [aw_k e (by omega) (by omega)]; exact decide_eq_true hky
        have er : awR s p y m i = 0 := by unfold awR; rw [ea]; rfl
        refine XP_n 2 (pc' := 30) (ls' := [.ref (99), .int (nI (p)), .int (nI (y)), .int (nI (m)), .int (nI (w)), .int (nI (mkN (awB s p y m) (i))), .int (nI (sumN (awR s p y m) (i))), .int (nI (i)), w8, w9]) (st' := [.ref (99), .int (nI (i))]) (M' := (I, J, Rx R, N, G)) rfl ?_
        refine XP_geti hS rfl rfl rfl ?_
        rw [hW.st.1]
        refine XP_icN (x := i) (y := cSt s) rfl (by omega) (by omega) (fun (b31 : cSt s ≤ i) => absurd b31 (by omega)) (fun (b31 : i < cSt s) => ?_)
        refine XP_n 4 (pc' := 36) (ls' := [.ref (99), .int (nI (p)), .int (nI (y)), .int (nI (m)), .int (nI (w)), .int (nI (mkN (awB s p y m) (i))), .int (nI (sumN (awR s p y m) (i))), .int (nI (i)), w8, w9]) (st' := [.int (nI (m)), .int (nI (p)), .int (nI (i)), .ref (99)]) (M' := (I, J, Rx R, N, G)) rfl ?_
        refine XP_pure rfl rfl (m_whenOf hS hW (show i < cSt s by omega) (show p < cP s by omega) _) ?_
        rw [e]
        refine XP_n 3 (pc' := 40) (ls' := [.ref (99), .int (nI (p)), .int (nI (y)), .int (nI (m)), .int (nI (w)), .int (nI (mkN (awB s p y m) (i))), .int (nI (sumN (awR s p y m) (i))), .int (nI (i)), .int (nI (k)), w9]) (st' := [.int (cI (-1)), .int (nI (k))]) (M' := (I, J, Rx R, N, G)) rfl ?_
        refine XP_icD rfl (fun (b40 : nI (k) = cI (-1)) => absurd b40 (by exact nI_m1 (by omega))) (fun (b40 : ¬ nI (k) = cI (-1)) => ?_)
        refine XP_n 2 (pc' := 43) (ls' := [.ref (99), .int (nI (p)), .int (nI (y)), .int (nI (m)), .int (nI (w)), .int (nI (mkN (awB s p y m) (i))), .int (nI (sumN (awR s p y m) (i))), .int (nI (i)), .int (nI (k)), w9]) (st' := [.int (nI (y)), .int (nI (k))]) (M' := (I, J, Rx R, N, G)) rfl ?_
        refine XP_icN (x := k) (y := y) rfl (by omega) (by omega) (fun (b43 : y < k) => absurd b43 (by omega)) (fun (b43 : k ≤ y) => ?_)
        refine XP_n 5 (pc' := 50) (ls' := [.ref (99), .int (nI (p)), .int (nI (y)), .int (nI (m)), .int (nI (w)), .int (nI (mkN (awB s p y m) (i))), .int (nI (sumN (awR s p y m) (i))), .int (nI (i)), .int (nI (k)), .int (nI (1))]) (st' := [.int (nI (1)), .int (nI (mkN (awB s p y m) (i)))]) (M' := (I, J, Rx R, N, G)) rfl ?_
        refine XP_ifN (x := 1)  rfl (by omega) (fun (b50 : 1 = 0) => absurd b50 (by omega)) (fun (b50 : ¬ 1 = 0) => ?_)
        refine XP_n 8 (pc' := 60) (ls' := [.ref (99), .int (nI (p)), .int (nI (y)), .int (nI (m)), .int (nI (w)), .int ((nI (mkN (awB s p y m) (i))) ||| ((nI (1)) <<< ((nI (i)) &&& 31))), .int (nI (sumN (awR s p y m) (i))), .int (nI (i)), .int (nI (k)), .int (nI (1))]) (st' := [.int (nI (1)), .int (nI (sumN (awR s p y m) (i)))]) (M' := (I, J, Rx R, N, G)) rfl ?_
        refine XP_ifN (x := 1)  rfl (by omega) (fun (b60 : 1 = 0) => absurd b60 (by omega)) (fun (b60 : ¬ 1 = 0) => ?_)
        refine XP_n 4 (pc' := 69) (ls' := [.ref (99), .int (nI (p)), .int (nI (y)), .int (nI (m)), .int (nI (w)), .int ((nI (mkN (awB s p y m) (i))) ||| ((nI (1)) <<< ((nI (i)) &&& 31))), .int ((nI (sumN (awR s p y m) (i))) + (nI (0))), .int (nI (i)), .int (nI (k)), .int (nI (1))]) (st' := []) (M' := (I, J, Rx R, N, G)) rfl ?_
        rw [show (nI (sumN (awR s p y m) (i))) + (nI (0)) = nI (sumN (awR s p y m) (i) + 0) from nI_addE (rfl) (rfl)]
        refine XP_n 1 (pc' := 70) (ls' := [.ref (99), .int (nI (p)), .int (nI (y)), .int (nI (m)), .int (nI (w)), .int ((nI (mkN (awB s p y m) (i))) ||| ((nI (1)) <<< ((nI (i)) &&& 31))), .int (nI (sumN (awR s p y m) (i) + 0)), .int (nI (i) + nI (1)), .int (nI (k)), .int (nI (1))]) (st' := []) (M' := (I, J, Rx R, N, G)) rfl ?_
        rw [show nI (i) + nI (1) = nI (i + 1) from nI_addE (rfl) rfl]
        refine XP_n 1 (pc' := 28) (ls' := [.ref (99), .int (nI (p)), .int (nI (y)), .int (nI (m)), .int (nI (w)), .int ((nI (mkN (awB s p y m) (i))) ||| ((nI (1)) <<< ((nI (i)) &&& 31))), .int (nI (sumN (awR s p y m) (i) + 0)), .int (nI (i + 1)), .int (nI (k)), .int (nI (1))]) (st' := []) (M' := (I, J, Rx R, N, G)) rfl ?_
        have e2 : nI (mkN (awB s p y m) i) ||| (nI 1 <<< (nI i &&& 31)) = nI (mkN (awB s p y m) (i + 1)) := by
          rw [b_or i (by omega) _ (mkN_lt _ i)]
          simp [mkN, sumN, ea]
        have e3 : sumN (awR s p y m) (i + 1) = sumN (awR s p y m) i := by show sumN (awR s p y m) i + awR s p y m i = _; rw [er]; rfl
        have ih2 := ih (i + 1) (.int (nI (k))) (.int (nI (1))) (by omega)
        rw [e3, ← e2] at ih2
        exact ih2
      · have ea : awB s p y m i = false := by rw [aw_k e (by omega) (by omega)]; exact decide_eq_false hky
        have er : awR s p y m i = rSW s i := by unfold awR; rw [ea]; rfl
        refine XP_n 2 (pc' := 30) (ls' := [.ref (99), .int (nI (p)), .int (nI (y)), .int (nI (m)), .int (nI (w)), .int (nI (mkN (awB s p y m) (i))), .int (nI (sumN (awR s p y m) (i))), .int (nI (i)), w8, w9]) (st' := [.ref (99), .int (nI (i))]) (M' := (I, J, Rx R, N, G)) rfl ?_
        refine XP_geti hS rfl rfl rfl ?_
        rw [hW.st.1]
        refine XP_icN (x := i) (y := cSt s) rfl (by omega) (by omega) (fun (b31 : cSt s ≤ i) => absurd b31 (by omega)) (fun (b31 : i < cSt s) => ?_)
        refine XP_n 4 (pc' := 36) (ls' := [.ref (99), .int (nI (p)), .int (nI (y)), .int (nI (m)), .int (nI (w)), .int (nI (mkN (awB s p y m) (i))), .int (nI (sumN (awR s p y m) (i))), .int (nI (i)), w8, w9]) (st' := [.int (nI (m)), .int (nI (p)), .int (nI (i)), .ref (99)]) (M' := (I, J, Rx R, N, G)) rfl ?_
        refine XP_pure rfl rfl (m_whenOf hS hW (show i < cSt s by omega) (show p < cP s by omega) _) ?_
        rw [e]
        refine XP_n 3 (pc' := 40) (ls' := [.ref (99), .int (nI (p)), .int (nI (y)), .int (nI (m)), .int (nI (w)), .int (nI (mkN (awB s p y m) (i))), .int (nI (sumN (awR s p y m) (i))), .int (nI (i)), .int (nI (k)), w9]) (st' := [.int (cI (-1)), .int (nI (k))]) (M' := (I, J, Rx R, N, G)) rfl ?_
        refine XP_icD rfl (fun (b40 : nI (k) = cI (-1)) => absurd b40 (by exact nI_m1 (by omega))) (fun (b40 : ¬ nI (k) = cI (-1)) => ?_)
        refine XP_n 2 (pc' := 43) (ls' := [.ref (99), .int (nI (p)), .int (nI (y)), .int (nI (m)), .int (nI (w)), .int (nI (mkN (awB s p y m) (i))), .int (nI (sumN (awR s p y m) (i))), .int (nI (i)), .int (nI (k)), w9]) (st' := [.int (nI (y)), .int (nI (k))]) (M' := (I, J, Rx R, N, G)) rfl ?_
        refine XP_icN (x := k) (y := y) rfl (by omega) (by omega) (fun (b43 : y < k) => ?_) (fun (b43 : k ≤ y) => absurd b43 (by omega))
        refine XP_n 4 (pc' := 50) (ls' := [.ref (99), .int (nI (p)), .int (nI (y)), .int (nI (m)), .int (nI (w)), .int (nI (mkN (awB s p y m) (i))), .int (nI (sumN (awR s p y m) (i))), .int (nI (i)), .int (nI (k)), .int (nI (0))]) (st' := [.int (nI (0)), .int (nI (mkN (awB s p y m) (i)))]) (M' := (I, J, Rx R, N, G)) rfl ?_
        refine XP_ifN (x := 0)  rfl (by omega) (fun (b50 : 0 = 0) => ?_) (fun (b50 : ¬ 0 = 0) => absurd b50 (by omega))
        refine XP_n 5 (pc' := 60) (ls' := [.ref (99), .int (nI (p)), .int (nI (y)), .int (nI (m)), .int (nI (w)), .int ((nI (mkN (awB s p y m) (i))) ||| (nI (0))), .int (nI (sumN (awR s p y m) (i))), .int (nI (i)), .int (nI (k)), .int (nI (0))]) (st' := [.int (nI (0)), .int (nI (sumN (awR s p y m) (i)))]) (M' := (I, J, Rx R, N, G)) rfl ?_
        refine XP_ifN (x := 0)  rfl (by omega) (fun (b60 : 0 = 0) => ?_) (fun (b60 : ¬ 0 = 0) => absurd b60 (by omega))
        refine XP_n 3 (pc' := 66) (ls' := [.ref (99), .int (nI (p)), .int (nI (y)), .int (nI (m)), .int (nI (w)), .int ((nI (mkN (awB s p y m) (i))) ||| (nI (0))), .int (nI (sumN (awR s p y m) (i))), .int (nI (i)), .int (nI (k)), .int (nI (0))]) (st' := [.int (nI (i)), .ref (113), .int (nI (sumN (awR s p y m) (i)))]) (M' := (I, J, Rx R, N, G)) rfl ?_
        refine XP_iald hS rfl rfl (show i < 8 by omega) rfl (by omega) rfl ?_
        obtain ⟨hq28, hr28⟩ := hW.stw (show i < cSt s by omega)
        rw [hq28]
        refine XP_n 2 (pc' := 69) (ls' := [.ref (99), .int (nI (p)), .int (nI (y)), .int (nI (m)), .int (nI (w)), .int ((nI (mkN (awB s p y m) (i))) ||| (nI (0))), .int ((nI (sumN (awR s p y m) (i))) + (nI (rSW s i))), .int (nI (i)), .int (nI (k)), .int (nI (0))]) (st' := []) (M' := (I, J, Rx R, N, G)) rfl ?_
        rw [show (nI (sumN (awR s p y m) (i))) + (nI (rSW s i)) = nI (sumN (awR s p y m) (i) + rSW s i) from nI_addE (rfl) (rfl)]
        refine XP_n 1 (pc' := 70) (ls' := [.ref (99), .int (nI (p)), .int (nI (y)), .int (nI (m)), .int (nI (w)), .int ((nI (mkN (awB s p y m) (i))) ||| (nI (0))), .int (nI (sumN (awR s p y m) (i) + rSW s i)), .int (nI (i) + nI (1)), .int (nI (k)), .int (nI (0))]) (st' := []) (M' := (I, J, Rx R, N, G)) rfl ?_
        rw [show nI (i) + nI (1) = nI (i + 1) from nI_addE (rfl) rfl]
        refine XP_n 1 (pc' := 28) (ls' := [.ref (99), .int (nI (p)), .int (nI (y)), .int (nI (m)), .int (nI (w)), .int ((nI (mkN (awB s p y m) (i))) ||| (nI (0))), .int (nI (sumN (awR s p y m) (i) + rSW s i)), .int (nI (i + 1)), .int (nI (k)), .int (nI (0))]) (st' := []) (M' := (I, J, Rx R, N, G)) rfl ?_
        have e2 : mkN (awB s p y m) (i + 1) = mkN (awB s p y m) i := by simp [mkN, sumN, ea]
        have e3 : sumN (awR s p y m) (i + 1) = sumN (awR s p y m) i + rSW s i := by show sumN (awR s p y m) i + awR s p y m i = _; rw [er]
        have ih2 := ih (i + 1) (.int (nI (k))) (.int (nI (0))) (by omega)
        rw [e3, e2] at ih2
        rw [or_0]
        exact ih2
theorem f_away (hI : Inv s R N I J) (p : Int32) (y : Int32) (m : Int32) (what : Int32) : ∃ v, TP X (d + 12) n_H_away [.ref 0, .int p, .int y, .int m, .int what] (I, J, Rx R, N, G) (QP s R N G (.int v)) ∧ ∀ I J, Inv s R N I J → TP X (d + 12) n_M_away [.ref 99, .int p, .int y, .int m, .int what] (I, J, Rx R, N, G) (QP s R N G (.int v)) := by
  have hI0 := hI
  obtain ⟨hS, hW, hL, hC, hch⟩ := hI0
  have hy16 := hW.y.2
  have hp4 := hW.p.2
  have hs6 := hW.ns.2
  have hr8 := hW.r.2
  have hst8 := hW.st.2
  have ht3 := hW.t.2
  have hw60 := hW.w.2
  have hcwa := cWA_le hW
  by_cases g0 : inN (p) (cP s)
  rotate_left
  · skip
    refine ⟨cI (-5), ?_, fun I J hI => ?_⟩
    · unfold TP
      show XP X _ k_H_away 0 [.ref (0), .int (p), .int (y), .int (m), .int (what), xj, xj, xj, xj] [] _ _
      refine XP_n 3 (pc' := 3) (ls' := [.ref (0), .int (p), .int (y), .int (m), .int (what), xj, xj, xj, xj]) (st' := [.int (p), .ref (1)]) (M' := (I, J, Rx R, N, G)) rfl ?_
      refine XP_pure rfl rfl (c_hasPath hI.1 hI.2.1 _) ?_
      refine XP_s rfl ?_
      refine XP_bne (fun b4 => absurd b4 g0) (fun b4 => ?_)
      refine XP_n 1 (pc' := 6) (ls' := [.ref (0), .int (p), .int (y), .int (m), .int (what), xj, xj, xj, xj]) (st' := [.int (cI (-5))]) (M' := (I, J, Rx R, N, G)) rfl ?_
      exact XP_ret rfl ⟨rfl, _, _, rfl, hI⟩
    · unfold TP
      show XP X _ k_M_away 0 [.ref (99), .int (p), .int (y), .int (m), .int (what), xj, xj, xj, xj, xj] [] _ _
      refine XP_n 2 (pc' := 2) (ls' := [.ref (99), .int (p), .int (y), .int (m), .int (what), xj, xj, xj, xj, xj]) (st' := [.int (p), .ref (99)]) (M' := (I, J, Rx R, N, G)) rfl ?_
      refine XP_pure rfl rfl (m_isPath hI.1 hI.2.1 _) ?_
      refine XP_s rfl ?_
      refine XP_bne (fun b3 => absurd b3 g0) (fun b3 => ?_)
      refine XP_n 1 (pc' := 5) (ls' := [.ref (99), .int (p), .int (y), .int (m), .int (what), xj, xj, xj, xj, xj]) (st' := [.int (cI (-5))]) (M' := (I, J, Rx R, N, G)) rfl ?_
      exact XP_ret rfl ⟨rfl, _, _, rfl, hI⟩
  obtain ⟨pn, hpn, rfl, ep⟩ := inN_nat g0 (by omega)
  by_cases g1 : inN (y) (cY s)
  rotate_left
  · skip
    refine ⟨cI (-7), ?_, fun I J hI => ?_⟩
    · unfold TP
      show XP X _ k_H_away 0 [.ref (0), .int (nI (pn)), .int (y), .int (m), .int (what), xj, xj, xj, xj] [] _ _
      refine XP_n 3 (pc' := 3) (ls' := [.ref (0), .int (nI (pn)), .int (y), .int (m), .int (what), xj, xj, xj, xj]) (st' := [.int (nI (pn)), .ref (1)]) (M' := (I, J, Rx R, N, G)) rfl ?_
      refine XP_pure rfl rfl (c_hasPath hI.1 hI.2.1 _) ?_
      refine XP_s rfl ?_
      refine XP_bne (fun b4 => ?_) (fun b4 => absurd g0 b4)
      refine XP_n 2 (pc' := 9) (ls' := [.ref (0), .int (nI (pn)), .int (y), .int (m), .int (what), xj, xj, xj, xj]) (st' := [.int (y), .ref (0)]) (M' := (I, J, Rx R, N, G)) rfl ?_
      refine XP_pure rfl rfl (h_isYear hI.1 hI.2.1 _) ?_
      refine XP_s rfl ?_
      refine XP_beq (fun b10 => ?_) (fun b10 => absurd b10 g1)
      refine XP_n 1 (pc' := 18) (ls' := [.ref (0), .int (nI (pn)), .int (y), .int (m), .int (what), xj, xj, xj, xj]) (st' := [.int (cI (-7))]) (M' := (I, J, Rx R, N, G)) rfl ?_
      exact XP_ret rfl ⟨rfl, _, _, rfl, hI⟩
    · unfold TP
      show XP X _ k_M_away 0 [.ref (99), .int (nI (pn)), .int (y), .int (m), .int (what), xj, xj, xj, xj, xj] [] _ _
      refine XP_n 2 (pc' := 2) (ls' := [.ref (99), .int (nI (pn)), .int (y), .int (m), .int (what), xj, xj, xj, xj, xj]) (st' := [.int (nI (pn)), .ref (99)]) (M' := (I, J, Rx R, N, G)) rfl ?_
      refine XP_pure rfl rfl (m_isPath hI.1 hI.2.1 _) ?_
      refine XP_s rfl ?_
      refine XP_bne (fun b3 => ?_) (fun b3 => absurd g0 b3)
      refine XP_n 2 (pc' := 8) (ls' := [.ref (99), .int (nI (pn)), .int (y), .int (m), .int (what), xj, xj, xj, xj, xj]) (st' := [.int (y), .ref (99)]) (M' := (I, J, Rx R, N, G)) rfl ?_
      refine XP_pure rfl rfl (m_isYear hI.1 hI.2.1 _) ?_
      refine XP_s rfl ?_
      refine XP_beq (fun b9 => ?_) (fun b9 => absurd b9 g1)
      refine XP_n 1 (pc' := 21) (ls' := [.ref (99), .int (nI (pn)), .int (y), .int (m), .int (what), xj, xj, xj, xj, xj]) (st' := [.int (cI (-7))]) (M' := (I, J, Rx R, N, G)) rfl ?_
      exact XP_ret rfl ⟨rfl, _, _, rfl, hI⟩
  obtain ⟨yn, hyn, rfl, ey⟩ := inN_nat g1 (by omega)
  by_cases g2 : iv 0 1000 (m)
  rotate_left
  · skip
    refine ⟨cI (-7), ?_, fun I J hI => ?_⟩
    · unfold TP
      show XP X _ k_H_away 0 [.ref (0), .int (nI (pn)), .int (nI (yn)), .int (m), .int (what), xj, xj, xj, xj] [] _ _
      refine XP_n 3 (pc' := 3) (ls' := [.ref (0), .int (nI (pn)), .int (nI (yn)), .int (m), .int (what), xj, xj, xj, xj]) (st' := [.int (nI (pn)), .ref (1)]) (M' := (I, J, Rx R, N, G)) rfl ?_
      refine XP_pure rfl rfl (c_hasPath hI.1 hI.2.1 _) ?_
      refine XP_s rfl ?_
      refine XP_bne (fun b4 => ?_) (fun b4 => absurd g0 b4)
      refine XP_n 2 (pc' := 9) (ls' := [.ref (0), .int (nI (pn)), .int (nI (yn)), .int (m), .int (what), xj, xj, xj, xj]) (st' := [.int (nI (yn)), .ref (0)]) (M' := (I, J, Rx R, N, G)) rfl ?_
      refine XP_pure rfl rfl (h_isYear hI.1 hI.2.1 _) ?_
      refine XP_s rfl ?_
      refine XP_beq (fun b10 => absurd g1 b10) (fun b10 => ?_)
      refine XP_n 1 (pc' := 12) (ls' := [.ref (0), .int (nI (pn)), .int (nI (yn)), .int (m), .int (what), xj, xj, xj, xj]) (st' := [.int (m)]) (M' := (I, J, Rx R, N, G)) rfl ?_
      refine XP_pure rfl rfl (t_H_isMany X _ _ _) ?_
      refine XP_s rfl ?_
      refine XP_beq (fun b13 => ?_) (fun b13 => absurd b13 g2)
      refine XP_n 1 (pc' := 18) (ls' := [.ref (0), .int (nI (pn)), .int (nI (yn)), .int (m), .int (what), xj, xj, xj, xj]) (st' := [.int (cI (-7))]) (M' := (I, J, Rx R, N, G)) rfl ?_
      exact XP_ret rfl ⟨rfl, _, _, rfl, hI⟩
    · unfold TP
      show XP X _ k_M_away 0 [.ref (99), .int (nI (pn)), .int (nI (yn)), .int (m), .int (what), xj, xj, xj, xj, xj] [] _ _
      refine XP_n 2 (pc' := 2) (ls' := [.ref (99), .int (nI (pn)), .int (nI (yn)), .int (m), .int (what), xj, xj, xj, xj, xj]) (st' := [.int (nI (pn)), .ref (99)]) (M' := (I, J, Rx R, N, G)) rfl ?_
      refine XP_pure rfl rfl (m_isPath hI.1 hI.2.1 _) ?_
      refine XP_s rfl ?_
      refine XP_bne (fun b3 => ?_) (fun b3 => absurd g0 b3)
      refine XP_n 2 (pc' := 8) (ls' := [.ref (99), .int (nI (pn)), .int (nI (yn)), .int (m), .int (what), xj, xj, xj, xj, xj]) (st' := [.int (nI (yn)), .ref (99)]) (M' := (I, J, Rx R, N, G)) rfl ?_
      refine XP_pure rfl rfl (m_isYear hI.1 hI.2.1 _) ?_
      refine XP_s rfl ?_
      refine XP_beq (fun b9 => absurd g1 b9) (fun b9 => ?_)
      refine XP_n 3 (pc' := 13) (ls' := [.ref (99), .int (nI (pn)), .int (nI (yn)), .int (m), .int (what), xj, xj, xj, xj, xj]) (st' := [.int (nI (1000)), .int (nI (0)), .int (m)]) (M' := (I, J, Rx R, N, G)) rfl ?_
      refine XP_pure rfl rfl (w_M X _ _ 0 1000 _) ?_
      refine XP_s rfl ?_
      refine XP_beq (fun b14 => ?_) (fun b14 => absurd b14 g2)
      refine XP_n 1 (pc' := 21) (ls' := [.ref (99), .int (nI (pn)), .int (nI (yn)), .int (m), .int (what), xj, xj, xj, xj, xj]) (st' := [.int (cI (-7))]) (M' := (I, J, Rx R, N, G)) rfl ?_
      exact XP_ret rfl ⟨rfl, _, _, rfl, hI⟩
  obtain ⟨mn, hmn0, hmn, rfl, em⟩ := iv_nat g2 (by omega) (by omega)
  by_cases g3 : iv 0 1 (what)
  rotate_left
  · skip
    refine ⟨cI (-7), ?_, fun I J hI => ?_⟩
    · unfold TP
      show XP X _ k_H_away 0 [.ref (0), .int (nI (pn)), .int (nI (yn)), .int (nI (mn)), .int (what), xj, xj, xj, xj] [] _ _
      refine XP_n 3 (pc' := 3) (ls' := [.ref (0), .int (nI (pn)), .int (nI (yn)), .int (nI (mn)), .int (what), xj, xj, xj, xj]) (st' := [.int (nI (pn)), .ref (1)]) (M' := (I, J, Rx R, N, G)) rfl ?_
      refine XP_pure rfl rfl (c_hasPath hI.1 hI.2.1 _) ?_
      refine XP_s rfl ?_
      refine XP_bne (fun b4 => ?_) (fun b4 => absurd g0 b4)
      refine XP_n 2 (pc' := 9) (ls' := [.ref (0), .int (nI (pn)), .int (nI (yn)), .int (nI (mn)), .int (what), xj, xj, xj, xj]) (st' := [.int (nI (yn)), .ref (0)]) (M' := (I, J, Rx R, N, G)) rfl ?_
      refine XP_pure rfl rfl (h_isYear hI.1 hI.2.1 _) ?_
      refine XP_s rfl ?_
      refine XP_beq (fun b10 => absurd g1 b10) (fun b10 => ?_)
      refine XP_n 1 (pc' := 12) (ls' := [.ref (0), .int (nI (pn)), .int (nI (yn)), .int (nI (mn)), .int (what), xj, xj, xj, xj]) (st' := [.int (nI (mn))]) (M' := (I, J, Rx R, N, G)) rfl ?_
      refine XP_pure rfl rfl (t_H_isMany X _ _ _) ?_
      refine XP_s rfl ?_
      refine XP_beq (fun b13 => absurd g2 b13) (fun b13 => ?_)
      refine XP_n 1 (pc' := 15) (ls' := [.ref (0), .int (nI (pn)), .int (nI (yn)), .int (nI (mn)), .int (what), xj, xj, xj, xj]) (st' := [.int (what)]) (M' := (I, J, Rx R, N, G)) rfl ?_
      refine XP_pure rfl rfl (t_H_isPart X _ _ _) ?_
      refine XP_s rfl ?_
      refine XP_bne (fun b16 => absurd b16 g3) (fun b16 => ?_)
      refine XP_n 1 (pc' := 18) (ls' := [.ref (0), .int (nI (pn)), .int (nI (yn)), .int (nI (mn)), .int (what), xj, xj, xj, xj]) (st' := [.int (cI (-7))]) (M' := (I, J, Rx R, N, G)) rfl ?_
      exact XP_ret rfl ⟨rfl, _, _, rfl, hI⟩
    · unfold TP
      show XP X _ k_M_away 0 [.ref (99), .int (nI (pn)), .int (nI (yn)), .int (nI (mn)), .int (what), xj, xj, xj, xj, xj] [] _ _
      refine XP_n 2 (pc' := 2) (ls' := [.ref (99), .int (nI (pn)), .int (nI (yn)), .int (nI (mn)), .int (what), xj, xj, xj, xj, xj]) (st' := [.int (nI (pn)), .ref (99)]) (M' := (I, J, Rx R, N, G)) rfl ?_
      refine XP_pure rfl rfl (m_isPath hI.1 hI.2.1 _) ?_
      refine XP_s rfl ?_
      refine XP_bne (fun b3 => ?_) (fun b3 => absurd g0 b3)
      refine XP_n 2 (pc' := 8) (ls' := [.ref (99), .int (nI (pn)), .int (nI (yn)), .int (nI (mn)), .int (what), xj, xj, xj, xj, xj]) (st' := [.int (nI (yn)), .ref (99)]) (M' := (I, J, Rx R, N, G)) rfl ?_
      refine XP_pure rfl rfl (m_isYear hI.1 hI.2.1 _) ?_
      refine XP_s rfl ?_
      refine XP_beq (fun b9 => absurd g1 b9) (fun b9 => ?_)
      refine XP_n 3 (pc' := 13) (ls' := [.ref (99), .int (nI (pn)), .int (nI (yn)), .int (nI (mn)), .int (what), xj, xj, xj, xj, xj]) (st' := [.int (nI (1000)), .int (nI (0)), .int (nI (mn))]) (M' := (I, J, Rx R, N, G)) rfl ?_
      refine XP_pure rfl rfl (w_M X _ _ 0 1000 _) ?_
      refine XP_s rfl ?_
      refine XP_beq (fun b14 => absurd g2 b14) (fun b14 => ?_)
      refine XP_n 3 (pc' := 18) (ls' := [.ref (99), .int (nI (pn)), .int (nI (yn)), .int (nI (mn)), .int (what), xj, xj, xj, xj, xj]) (st' := [.int (nI (1)), .int (nI (0)), .int (what)]) (M' := (I, J, Rx R, N, G)) rfl ?_
      refine XP_pure rfl rfl (w_M X _ _ 0 1 _) ?_
      refine XP_s rfl ?_
      refine XP_bne (fun b19 => absurd b19 g3) (fun b19 => ?_)
      refine XP_n 1 (pc' := 21) (ls' := [.ref (99), .int (nI (pn)), .int (nI (yn)), .int (nI (mn)), .int (what), xj, xj, xj, xj, xj]) (st' := [.int (cI (-7))]) (M' := (I, J, Rx R, N, G)) rfl ?_
      exact XP_ret rfl ⟨rfl, _, _, rfl, hI⟩
  obtain ⟨whatn, hwhatn0, hwhatn, rfl, ewhat⟩ := iv_nat g3 (by omega) (by omega)
  have hx : whatn = 0 ∨ whatn = 1 := by omega
  clear ewhat
  rcases hx with rfl | rfl
  · have hrl := awR_le hW (p := pn) (y := yn) (m := mn) (Nat.le_refl (cSt s))
    refine ⟨nI (mkN (awB s pn yn mn) (cSt s)), ?_, fun I J hI => ?_⟩
    · unfold TP
      show XP X _ k_H_away 0 [.ref (0), .int (nI (pn)), .int (nI (yn)), .int (nI (mn)), .int (nI (0)), xj, xj, xj, xj] [] _ _
      refine XP_n 3 (pc' := 3) (ls' := [.ref (0), .int (nI (pn)), .int (nI (yn)), .int (nI (mn)), .int (nI (0)), xj, xj, xj, xj]) (st' := [.int (nI (pn)), .ref (1)]) (M' := (I, J, Rx R, N, G)) rfl ?_
      refine XP_pure rfl rfl (c_hasPath hI.1 hI.2.1 _) ?_
      refine XP_s rfl ?_
      refine XP_bne (fun b4 => ?_) (fun b4 => absurd g0 b4)
      refine XP_n 2 (pc' := 9) (ls' := [.ref (0), .int (nI (pn)), .int (nI (yn)), .int (nI (mn)), .int (nI (0)), xj, xj, xj, xj]) (st' := [.int (nI (yn)), .ref (0)]) (M' := (I, J, Rx R, N, G)) rfl ?_
      refine XP_pure rfl rfl (h_isYear hI.1 hI.2.1 _) ?_
      refine XP_s rfl ?_
      refine XP_beq (fun b10 => absurd g1 b10) (fun b10 => ?_)
      refine XP_n 1 (pc' := 12) (ls' := [.ref (0), .int (nI (pn)), .int (nI (yn)), .int (nI (mn)), .int (nI (0)), xj, xj, xj, xj]) (st' := [.int (nI (mn))]) (M' := (I, J, Rx R, N, G)) rfl ?_
      refine XP_pure rfl rfl (t_H_isMany X _ _ _) ?_
      refine XP_s rfl ?_
      refine XP_beq (fun b13 => absurd g2 b13) (fun b13 => ?_)
      refine XP_n 1 (pc' := 15) (ls' := [.ref (0), .int (nI (pn)), .int (nI (yn)), .int (nI (mn)), .int (nI (0)), xj, xj, xj, xj]) (st' := [.int (nI (0))]) (M' := (I, J, Rx R, N, G)) rfl ?_
      refine XP_pure rfl rfl (t_H_isPart X _ _ _) ?_
      refine XP_s rfl ?_
      refine XP_bne (fun b16 => ?_) (fun b16 => absurd g3 b16)
      refine XP_n 6 (pc' := 25) (ls' := [.ref (0), .int (nI (pn)), .int (nI (yn)), .int (nI (mn)), .int (nI (0)), .int (nI (0)), .int (nI (0)), .int (nI (0)), xj]) (st' := []) (M' := (I, J, Rx R, N, G)) rfl ?_
      refine l_H_away hI hW hpn hyn hmn (by omega) ?_ (cSt s) 0 _ (by omega)
      intro w8
      refine XP_n 1 (pc' := 62) (ls' := [.ref (0), .int (nI (pn)), .int (nI (yn)), .int (nI (mn)), .int (nI (0)), .int (nI (mkN (awB s pn yn mn) (cSt s))), .int (nI (sumN (awR s pn yn mn) (cSt s))), .int (nI (cSt s)), w8]) (st' := [.int (nI (0))]) (M' := (I, J, Rx R, N, G)) rfl ?_
      refine XP_ifN (x := 0)  rfl (by omega) (fun (b62 : ¬ 0 = 0) => absurd b62 (by omega)) (fun (b62 : 0 = 0) => ?_)
      refine XP_n 2 (pc' := 66) (ls' := [.ref (0), .int (nI (pn)), .int (nI (yn)), .int (nI (mn)), .int (nI (0)), .int (nI (mkN (awB s pn yn mn) (cSt s))), .int (nI (sumN (awR s pn yn mn) (cSt s))), .int (nI (cSt s)), w8]) (st' := [.int (nI (mkN (awB s pn yn mn) (cSt s)))]) (M' := (I, J, Rx R, N, G)) rfl ?_
      exact XP_ret rfl ⟨rfl, _, _, rfl, hI⟩
    · unfold TP
      show XP X _ k_M_away 0 [.ref (99), .int (nI (pn)), .int (nI (yn)), .int (nI (mn)), .int (nI (0)), xj, xj, xj, xj, xj] [] _ _
      refine XP_n 2 (pc' := 2) (ls' := [.ref (99), .int (nI (pn)), .int (nI (yn)), .int (nI (mn)), .int (nI (0)), xj, xj, xj, xj, xj]) (st' := [.int (nI (pn)), .ref (99)]) (M' := (I, J, Rx R, N, G)) rfl ?_
      refine XP_pure rfl rfl (m_isPath hI.1 hI.2.1 _) ?_
      refine XP_s rfl ?_
      refine XP_bne (fun b3 => ?_) (fun b3 => absurd g0 b3)
      refine XP_n 2 (pc' := 8) (ls' := [.ref (99), .int (nI (pn)), .int (nI (yn)), .int (nI (mn)), .int (nI (0)), xj, xj, xj, xj, xj]) (st' := [.int (nI (yn)), .ref (99)]) (M' := (I, J, Rx R, N, G)) rfl ?_
      refine XP_pure rfl rfl (m_isYear hI.1 hI.2.1 _) ?_
      refine XP_s rfl ?_
      refine XP_beq (fun b9 => absurd g1 b9) (fun b9 => ?_)
      refine XP_n 3 (pc' := 13) (ls' := [.ref (99), .int (nI (pn)), .int (nI (yn)), .int (nI (mn)), .int (nI (0)), xj, xj, xj, xj, xj]) (st' := [.int (nI (1000)), .int (nI (0)), .int (nI (mn))]) (M' := (I, J, Rx R, N, G)) rfl ?_
      refine XP_pure rfl rfl (w_M X _ _ 0 1000 _) ?_
      refine XP_s rfl ?_
      refine XP_beq (fun b14 => absurd g2 b14) (fun b14 => ?_)
      refine XP_n 3 (pc' := 18) (ls' := [.ref (99), .int (nI (pn)), .int (nI (yn)), .int (nI (mn)), .int (nI (0)), xj, xj, xj, xj, xj]) (st' := [.int (nI (1)), .int (nI (0)), .int (nI (0))]) (M' := (I, J, Rx R, N, G)) rfl ?_
      refine XP_pure rfl rfl (w_M X _ _ 0 1 _) ?_
      refine XP_s rfl ?_
      refine XP_bne (fun b19 => ?_) (fun b19 => absurd g3 b19)
      refine XP_n 6 (pc' := 28) (ls' := [.ref (99), .int (nI (pn)), .int (nI (yn)), .int (nI (mn)), .int (nI (0)), .int (nI (0)), .int (nI (0)), .int (nI (0)), xj, xj]) (st' := []) (M' := (I, J, Rx R, N, G)) rfl ?_
      refine l_M_away hI hW hpn hyn hmn (by omega) ?_ (cSt s) 0 _ _ (by omega)
      intro w8 w9
      refine XP_n 1 (pc' := 72) (ls' := [.ref (99), .int (nI (pn)), .int (nI (yn)), .int (nI (mn)), .int (nI (0)), .int (nI (mkN (awB s pn yn mn) (cSt s))), .int (nI (sumN (awR s pn yn mn) (cSt s))), .int (nI (cSt s)), w8, w9]) (st' := [.int (nI (0))]) (M' := (I, J, Rx R, N, G)) rfl ?_
      refine XP_ifN (x := 0)  rfl (by omega) (fun (b72 : ¬ 0 = 0) => absurd b72 (by omega)) (fun (b72 : 0 = 0) => ?_)
      refine XP_n 2 (pc' := 76) (ls' := [.ref (99), .int (nI (pn)), .int (nI (yn)), .int (nI (mn)), .int (nI (0)), .int (nI (mkN (awB s pn yn mn) (cSt s))), .int (nI (sumN (awR s pn yn mn) (cSt s))), .int (nI (cSt s)), w8, w9]) (st' := [.int (nI (mkN (awB s pn yn mn) (cSt s)))]) (M' := (I, J, Rx R, N, G)) rfl ?_
      exact XP_ret rfl ⟨rfl, _, _, rfl, hI⟩
  · have hrl := awR_le hW (p := pn) (y := yn) (m := mn) (Nat.le_refl (cSt s))
    refine ⟨nI (sumN (awR s pn yn mn) (cSt s)), ?_, fun I J hI => ?_⟩
    · unfold TP
      show XP X _ k_H_away 0 [.ref (0), .int (nI (pn)), .int (nI (yn)), .int (nI (mn)), .int (nI (1)), xj, xj, xj, xj] [] _ _
      refine XP_n 3 (pc' := 3) (ls' := [.ref (0), .int (nI (pn)), .int (nI (yn)), .int (nI (mn)), .int (nI (1)), xj, xj, xj, xj]) (st' := [.int (nI (pn)), .ref (1)]) (M' := (I, J, Rx R, N, G)) rfl ?_
      refine XP_pure rfl rfl (c_hasPath hI.1 hI.2.1 _) ?_
      refine XP_s rfl ?_
      refine XP_bne (fun b4 => ?_) (fun b4 => absurd g0 b4)
      refine XP_n 2 (pc' := 9) (ls' := [.ref (0), .int (nI (pn)), .int (nI (yn)), .int (nI (mn)), .int (nI (1)), xj, xj, xj, xj]) (st' := [.int (nI (yn)), .ref (0)]) (M' := (I, J, Rx R, N, G)) rfl ?_
      refine XP_pure rfl rfl (h_isYear hI.1 hI.2.1 _) ?_
      refine XP_s rfl ?_
      refine XP_beq (fun b10 => absurd g1 b10) (fun b10 => ?_)
      refine XP_n 1 (pc' := 12) (ls' := [.ref (0), .int (nI (pn)), .int (nI (yn)), .int (nI (mn)), .int (nI (1)), xj, xj, xj, xj]) (st' := [.int (nI (mn))]) (M' := (I, J, Rx R, N, G)) rfl ?_
      refine XP_pure rfl rfl (t_H_isMany X _ _ _) ?_
      refine XP_s rfl ?_
      refine XP_beq (fun b13 => absurd g2 b13) (fun b13 => ?_)
      refine XP_n 1 (pc' := 15) (ls' := [.ref (0), .int (nI (pn)), .int (nI (yn)), .int (nI (mn)), .int (nI (1)), xj, xj, xj, xj]) (st' := [.int (nI (1))]) (M' := (I, J, Rx R, N, G)) rfl ?_
      refine XP_pure rfl rfl (t_H_isPart X _ _ _) ?_
      refine XP_s rfl ?_
      refine XP_bne (fun b16 => ?_) (fun b16 => absurd g3 b16)
      refine XP_n 6 (pc' := 25) (ls' := [.ref (0), .int (nI (pn)), .int (nI (yn)), .int (nI (mn)), .int (nI (1)), .int (nI (0)), .int (nI (0)), .int (nI (0)), xj]) (st' := []) (M' := (I, J, Rx R, N, G)) rfl ?_
      refine l_H_away hI hW hpn hyn hmn (by omega) ?_ (cSt s) 0 _ (by omega)
      intro w8
      refine XP_n 1 (pc' := 62) (ls' := [.ref (0), .int (nI (pn)), .int (nI (yn)), .int (nI (mn)), .int (nI (1)), .int (nI (mkN (awB s pn yn mn) (cSt s))), .int (nI (sumN (awR s pn yn mn) (cSt s))), .int (nI (cSt s)), w8]) (st' := [.int (nI (1))]) (M' := (I, J, Rx R, N, G)) rfl ?_
      refine XP_ifN (x := 1)  rfl (by omega) (fun (b62 : ¬ 1 = 0) => ?_) (fun (b62 : 1 = 0) => absurd b62 (by omega))
      refine XP_n 1 (pc' := 66) (ls' := [.ref (0), .int (nI (pn)), .int (nI (yn)), .int (nI (mn)), .int (nI (1)), .int (nI (mkN (awB s pn yn mn) (cSt s))), .int (nI (sumN (awR s pn yn mn) (cSt s))), .int (nI (cSt s)), w8]) (st' := [.int (nI (sumN (awR s pn yn mn) (cSt s)))]) (M' := (I, J, Rx R, N, G)) rfl ?_
      exact XP_ret rfl ⟨rfl, _, _, rfl, hI⟩
    · unfold TP
      show XP X _ k_M_away 0 [.ref (99), .int (nI (pn)), .int (nI (yn)), .int (nI (mn)), .int (nI (1)), xj, xj, xj, xj, xj] [] _ _
      refine XP_n 2 (pc' := 2) (ls' := [.ref (99), .int (nI (pn)), .int (nI (yn)), .int (nI (mn)), .int (nI (1)), xj, xj, xj, xj, xj]) (st' := [.int (nI (pn)), .ref (99)]) (M' := (I, J, Rx R, N, G)) rfl ?_
      refine XP_pure rfl rfl (m_isPath hI.1 hI.2.1 _) ?_
      refine XP_s rfl ?_
      refine XP_bne (fun b3 => ?_) (fun b3 => absurd g0 b3)
      refine XP_n 2 (pc' := 8) (ls' := [.ref (99), .int (nI (pn)), .int (nI (yn)), .int (nI (mn)), .int (nI (1)), xj, xj, xj, xj, xj]) (st' := [.int (nI (yn)), .ref (99)]) (M' := (I, J, Rx R, N, G)) rfl ?_
      refine XP_pure rfl rfl (m_isYear hI.1 hI.2.1 _) ?_
      refine XP_s rfl ?_
      refine XP_beq (fun b9 => absurd g1 b9) (fun b9 => ?_)
      refine XP_n 3 (pc' := 13) (ls' := [.ref (99), .int (nI (pn)), .int (nI (yn)), .int (nI (mn)), .int (nI (1)), xj, xj, xj, xj, xj]) (st' := [.int (nI (1000)), .int (nI (0)), .int (nI (mn))]) (M' := (I, J, Rx R, N, G)) rfl ?_
      refine XP_pure rfl rfl (w_M X _ _ 0 1000 _) ?_
      refine XP_s rfl ?_
      refine XP_beq (fun b14 => absurd g2 b14) (fun b14 => ?_)
      refine XP_n 3 (pc' := 18) (ls' := [.ref (99), .int (nI (pn)), .int (nI (yn)), .int (nI (mn)), .int (nI (1)), xj, xj, xj, xj, xj]) (st' := [.int (nI (1)), .int (nI (0)), .int (nI (1))]) (M' := (I, J, Rx R, N, G)) rfl ?_
      refine XP_pure rfl rfl (w_M X _ _ 0 1 _) ?_
      refine XP_s rfl ?_
      refine XP_bne (fun b19 => ?_) (fun b19 => absurd g3 b19)
      refine XP_n 6 (pc' := 28) (ls' := [.ref (99), .int (nI (pn)), .int (nI (yn)), .int (nI (mn)), .int (nI (1)), .int (nI (0)), .int (nI (0)), .int (nI (0)), xj, xj]) (st' := []) (M' := (I, J, Rx R, N, G)) rfl ?_
      refine l_M_away hI hW hpn hyn hmn (by omega) ?_ (cSt s) 0 _ _ (by omega)
      intro w8 w9
      refine XP_n 1 (pc' := 72) (ls' := [.ref (99), .int (nI (pn)), .int (nI (yn)), .int (nI (mn)), .int (nI (1)), .int (nI (mkN (awB s pn yn mn) (cSt s))), .int (nI (sumN (awR s pn yn mn) (cSt s))), .int (nI (cSt s)), w8, w9]) (st' := [.int (nI (1))]) (M' := (I, J, Rx R, N, G)) rfl ?_
      refine XP_ifN (x := 1)  rfl (by omega) (fun (b72 : ¬ 1 = 0) => ?_) (fun (b72 : 1 = 0) => absurd b72 (by omega))
      refine XP_n 1 (pc' := 76) (ls' := [.ref (99), .int (nI (pn)), .int (nI (yn)), .int (nI (mn)), .int (nI (1)), .int (nI (mkN (awB s pn yn mn) (cSt s))), .int (nI (sumN (awR s pn yn mn) (cSt s))), .int (nI (cSt s)), w8, w9]) (st' := [.int (nI (sumN (awR s pn yn mn) (cSt s)))]) (M' := (I, J, Rx R, N, G)) rfl ?_
      exact XP_ret rfl ⟨rfl, _, _, rfl, hI⟩
end
