/-! face: broadWorth -/
theorem rw2_k {f : Nat → Nat → Int32} {x : Int32} {k : Nat} (h : k ≠ 99) : rw2 f 99 3 x k = f k := by
  funext b
  unfold rw2
  rw [if_neg h]
section
variable {X : hX} {d : Nat} {s I : Nat → Nat → Int32} {J : Nat → Nat → Int64} {R : Nat → Nat → Option Nat} {N : Nat → Nat} {G : hG}
theorem f_broadWorth (hI : Inv s R N I J) (part : Int32) : ∃ v, TP X (d + 12) n_H_broadWorth [.ref 0, .int part] (I, J, Rx R, N, G) (QP s R N G (.long v)) ∧ ∀ I J, Inv s R N I J → TP X (d + 12) n_M_broadWorth [.ref 99, .int part] (I, J, Rx R, N, G) (QP s R N G (.long v)) := by
  have hI0 := hI
  obtain ⟨hS, hW, hL, hC, hch⟩ := hI0
  have hy16 := hW.y.2
  have hp4 := hW.p.2
  have hs6 := hW.ns.2
  have hr8 := hW.r.2
  have hst8 := hW.st.2
  have ht3 := hW.t.2
  have hw60 := hW.w.2
  have hcwa := cWA_le hW
  have hcw0 : cP s = 0 → cWA s = 0 := (cWA_0 hW).mpr
  have hcw1 : ¬ cP s = 0 → ¬ cWA s = 0 := fun h z => h ((cWA_0 hW).mp z)
  have hpbA := pL_b hW 0 (nI (0)) 0 (cY s) 0 (by omega)
  rw [show pL s 0 (nI (0)) 0 (cY s) 0 = pBest s 0 (nI (0)) 0 from rfl] at hpbA
  have hpbB := pL_b hW 0 (nI (1)) 0 (cY s) 0 (by omega)
  rw [show pL s 0 (nI (1)) 0 (cY s) 0 = pBest s 0 (nI (1)) 0 from rfl] at hpbB
  by_cases g0 : iv 0 1 (part)
  rotate_left
  · skip
    refine ⟨cL (-4611686018427387904), ?_, fun I J hI => ?_⟩
    · unfold TP
      show XP X _ k_H_broadWorth 0 [.ref (0), .int (part)] [] _ _
      refine XP_n 1 (pc' := 1) (ls' := [.ref (0), .int (part)]) (st' := [.int (part)]) (M' := (I, J, Rx R, N, G)) rfl ?_
      refine XP_pure rfl rfl (t_H_isPart X _ _ _) ?_
      refine XP_s rfl ?_
      refine XP_bne (fun b2 => absurd b2 g0) (fun b2 => ?_)
      refine XP_n 1 (pc' := 4) (ls' := [.ref (0), .int (part)]) (st' := [.long (cL (-4611686018427387904))]) (M' := (I, J, Rx R, N, G)) rfl ?_
      exact XP_ret rfl ⟨rfl, _, _, rfl, hI⟩
    · unfold TP
      show XP X _ k_M_broadWorth 0 [.ref (99), .int (part), xj, xj, xj] [] _ _
      refine XP_n 3 (pc' := 3) (ls' := [.ref (99), .int (part), xj, xj, xj]) (st' := [.int (nI (1)), .int (nI (0)), .int (part)]) (M' := (I, J, Rx R, N, G)) rfl ?_
      refine XP_pure rfl rfl (w_M X _ _ 0 1 _) ?_
      refine XP_s rfl ?_
      refine XP_bne (fun b4 => absurd b4 g0) (fun b4 => ?_)
      refine XP_n 1 (pc' := 6) (ls' := [.ref (99), .int (part), xj, xj, xj]) (st' := [.long (cL (-4611686018427387904))]) (M' := (I, J, Rx R, N, G)) rfl ?_
      exact XP_ret rfl ⟨rfl, _, _, rfl, hI⟩
  obtain ⟨partn, hpartn0, hpartn, rfl, epart⟩ := iv_nat g0 (by omega) (by omega)
  refine ⟨gMB s (lN (pBest s 0 (nI (0)) 0) - lN (pBest s 0 (nI (1)) 0)) partn, ?_, fun I J hI => ?_⟩
  · unfold TP
    show XP X _ k_H_broadWorth 0 [.ref (0), .int (nI (partn))] [] _ _
    refine XP_n 1 (pc' := 1) (ls' := [.ref (0), .int (nI (partn))]) (st' := [.int (nI (partn))]) (M' := (I, J, Rx R, N, G)) rfl ?_
    refine XP_pure rfl rfl (t_H_isPart X _ _ _) ?_
    refine XP_s rfl ?_
    refine XP_bne (fun b2 => ?_) (fun b2 => absurd g0 b2)
    refine XP_n 5 (pc' := 10) (ls' := [.ref (0), .int (nI (partn))]) (st' := [.int (nI (0)), .int (nI (0)), .ref (21), .ref (0)]) (M' := (I, J, Rx R, N, G)) rfl ?_
    refine XP_call rfl (rfl) (q_C_least hI (by omega)) ?_
    rintro v21 M21 ⟨rfl, I21, J21, rfl, hI21⟩
    have hpb21 := pL_b hI21.2.1 0 (nI (0)) 0 (cY s) 0 (by omega)
    rw [show pL s 0 (nI (0)) 0 (cY s) 0 = pBest s 0 (nI (0)) 0 from rfl] at hpb21
    refine XP_n 4 (pc' := 15) (ls' := [.ref (0), .int (nI (partn))]) (st' := [.int (nI (1)), .int (nI (0)), .ref (21), .long (lN (pBest s 0 (nI (0)) 0)), .ref (0)]) (M' := (I21, J21, Rx R, N, G)) rfl ?_
    refine XP_call rfl (rfl) (q_C_least hI21 (by omega)) ?_
    rintro v22 M22 ⟨rfl, I22, J22, rfl, hI22⟩
    have hpb22 := pL_b hI22.2.1 0 (nI (1)) 0 (cY s) 0 (by omega)
    rw [show pL s 0 (nI (1)) 0 (cY s) 0 = pBest s 0 (nI (1)) 0 from rfl] at hpb22
    refine XP_n 2 (pc' := 18) (ls' := [.ref (0), .int (nI (partn))]) (st' := [.int (nI (partn)), .long ((lN (pBest s 0 (nI (0)) 0)) - (lN (pBest s 0 (nI (1)) 0))), .ref (0)]) (M' := (I22, J22, Rx R, N, G)) rfl ?_
    refine XP_pure rfl rfl (c_meanBy hI22.1 hW (l_min2 (by omega) (by omega)) (by omega)) ?_
    exact XP_ret rfl ⟨rfl, _, _, rfl, hI22⟩
  · unfold TP
    show XP X _ k_M_broadWorth 0 [.ref (99), .int (nI (partn)), xj, xj, xj] [] _ _
    refine XP_n 3 (pc' := 3) (ls' := [.ref (99), .int (nI (partn)), xj, xj, xj]) (st' := [.int (nI (1)), .int (nI (0)), .int (nI (partn))]) (M' := (I, J, Rx R, N, G)) rfl ?_
    refine XP_pure rfl rfl (w_M X _ _ 0 1 _) ?_
    refine XP_s rfl ?_
    refine XP_bne (fun b4 => ?_) (fun b4 => absurd g0 b4)
    refine XP_n 1 (pc' := 8) (ls' := [.ref (99), .int (nI (partn)), xj, xj, xj]) (st' := [.ref (99)]) (M' := (I, J, Rx R, N, G)) rfl ?_
    refine XP_geti hI.1 rfl rfl rfl ?_
    rw [hW.p.1]
    refine XP_ifN (x := cP s)  rfl (by omega) (fun (b9 : ¬ cP s = 0) => ?_) (fun (b9 : cP s = 0) => ?_)
    · refine XP_n 1 (pc' := 14) (ls' := [.ref (99), .int (nI (partn)), xj, xj, xj]) (st' := [.ref (99)]) (M' := (I, J, Rx R, N, G)) rfl ?_
      refine XP_geti hI.1 rfl rfl rfl ?_
      refine XP_n 1 (pc' := 16) (ls' := [.ref (99), .int (nI (partn)), .int (s 99 3), xj, xj]) (st' := []) (M' := (I, J, Rx R, N, G)) rfl ?_
      refine XP_n 6 (pc' := 22) (ls' := [.ref (99), .int (nI (partn)), .int (s 99 3), xj, xj]) (st' := [.int (nI 0), .int (cI (-1)), .ref 99]) (M' := (rw2 I 99 3 (nI 0), J, Rx R, N, G)) rfl ?_
      refine XP_call rfl rfl (m_bestX (nI 0) (St_b _ hI.1) hW ⟨0, Nat.zero_le _, by omega, rfl⟩) ?_
      rintro v1 M1 ⟨rfl, I1, J1, rfl, hO1, hJ1, hSa⟩
      refine XP_n 8 (pc' := 31) (ls' := [.ref (99), .int (nI (partn)), .int (s 99 3), .long (lN (pBest s 0 (nI (0)) 0)), xj]) (st' := [.int (nI 0), .int (cI (-1)), .ref 99, .long (lN (pBest s 0 (nI (0)) 0))]) (M' := (rw2 I1 99 3 (nI 1), J1, Rx R, N, G)) rfl ?_
      have hSb := St_b (nI 1) hSa
      rw [rw2_rw2] at hSb
      refine XP_call rfl rfl (m_bestX (nI 1) hSb hW ⟨1, by omega, by omega, rfl⟩) ?_
      rintro v2 M2 ⟨rfl, I2, J2, rfl, hO2, hJ2, hSc⟩
      have hSd := St_b (s 99 3) hSc
      rw [rw2_rw2, rw2_id] at hSd
      refine XP_n 5 (pc' := 37) (ls' := [.ref (99), .int (nI (partn)), .int (s 99 3), .long (lN (pBest s 0 (nI (0)) 0) - lN (pBest s 0 (nI (1)) 0)), xj]) (st' := []) (M' := (rw2 I2 99 3 (s 99 3), J2, Rx R, N, G)) rfl ?_
      obtain ⟨I3, eI3⟩ : ∃ z, z = rw2 I2 99 3 (s 99 3) := ⟨_, rfl⟩
      rw [← eI3] at hSd ⊢
      have hI3 : Inv s R N I3 J2 := hI.of hSd (fun k h1 h2 => by rw [eI3, rw2_k (by omega), hO2 k (by simp; omega), rw2_k (by omega), hO1 k (by simp; omega), rw2_k (by omega)]) (fun k h1 h2 => (hJ2 k (by simp; omega)).trans (hJ1 k (by simp; omega)))
      refine XP_n 3 (pc' := 40) (ls' := [.ref (99), .int (nI (partn)), .int (s 99 3), .long (lN (pBest s 0 (nI (0)) 0) - lN (pBest s 0 (nI (1)) 0)), xj]) (st' := [.ref (99), .long (lN (1000)), .long (lN (pBest s 0 (nI (0)) 0) - lN (pBest s 0 (nI (1)) 0))]) (M' := (I3, J2, Rx R, N, G)) rfl ?_
      refine XP_pure rfl rfl (m_weights hI3.1 hW) ?_
      refine XP_n 2 (pc' := 43) (ls' := [.ref (99), .int (nI (partn)), .int (s 99 3), .long (lN (pBest s 0 (nI (0)) 0) - lN (pBest s 0 (nI (1)) 0)), xj]) (st' := [.int (nI (partn)), .long ((lN (1000)) * (lN (cWA s))), .long (lN (pBest s 0 (nI (0)) 0) - lN (pBest s 0 (nI (1)) 0))]) (M' := (I3, J2, Rx R, N, G)) rfl ?_
      rw [show (lN (1000)) * (lN (cWA s)) = lN ((1000) * (cWA s)) from lN_mulE (rfl) (rfl)]
      refine XP_pure rfl rfl (m_low (by omega) (by intro _; omega) (by omega) (l_min2 (by omega) (by omega))) ?_
      exact XP_ret rfl ⟨by unfold gMB; rw [if_neg (hcw1 (by omega))], _, _, rfl, hI3⟩
    · refine XP_n 2 (pc' := 12) (ls' := [.ref (99), .int (nI (partn)), xj, xj, xj]) (st' := [.long ((nI (partn)).toInt64)]) (M' := (I, J, Rx R, N, G)) rfl ?_
      rw [show (nI (partn)).toInt64 = lN (partn) from nI_lE (rfl) (by omega)]
      exact XP_ret rfl ⟨by unfold gMB; rw [if_pos (hcw0 (by omega))], _, _, rfl, hI⟩
end
