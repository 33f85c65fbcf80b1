/-! setter: town -/
theorem Wf_to {s : Nat → Nat → Int32} {h v : Int32} (hW : Wf s) (h8 : cT s < 3) (hh : iN 0 60 h) (hv : iN 0 999 v) : Wf (rw2 (rw2 (rw2 s 114 (cT s) h) 115 (cT s) v) 99 22 (nI (cT s + 1))) :=
  ⟨⟨hW.1.1, hW.1.2.1, ⟨⟨cT s + 1, Nat.zero_le _, h8, rfl⟩, hW.1.2.2.1.2⟩, hW.1.2.2.2⟩, hW.2.1, hW.2.2.1, hW.2.2.2.1, hW.2.2.2.2.1, fun t ht => by
    have e : cT (rw2 (rw2 (rw2 s 114 (cT s) h) 115 (cT s) v) 99 22 (nI (cT s + 1))) = cT s + 1 := by
      show wN (nI (cT s + 1)) = _
      exact wN_nI (by omega)
    rw [e] at ht
    show iN 0 60 (rw2 s 114 (cT s) h 114 t) ∧ iN 0 999 (rw2 (rw2 s 114 (cT s) h) 115 (cT s) v 115 t)
    by_cases e2 : t = cT s
    · subst e2
      rw [rw2_on, rw2_on]
      exact ⟨hh, hv⟩
    · rw [rw2_off (fun z => e2 z.2), rw2_off (fun z => e2 z.2)]
      exact hW.2.2.2.2.2.1 t (by omega), hW.2.2.2.2.2.2⟩
theorem AgrL_to (s : Nat → Nat → Int32) (h v : Int32) : AgrL s (rw2 (rw2 (rw2 s 114 (cT s) h) 115 (cT s) v) 99 22 (nI (cT s + 1))) := ⟨fun k hk => by rw [rw2_ro (by omega), rw2_ro (by omega), rw2_ro (by omega)], rfl, rfl, rfl, rfl, rfl, rfl, rfl, rfl⟩
theorem Agr_to (s : Nat → Nat → Int32) (h v : Int32) : Agr s (rw2 (rw2 (rw2 s 114 (cT s) h) 115 (cT s) v) 99 22 (nI (cT s + 1))) := ⟨fun k h1 h2 => by rw [rw2_ro (by omega), rw2_ro (by omega), rw2_ro (by omega)], rfl, rfl, fun j hj => by rw [rw2_off (by omega), rw2_ro (by omega), rw2_ro (by omega)], rfl, rfl⟩
section
variable {X : hX} {d : Nat} {s I : Nat → Nat → Int32} {J : Nat → Nat → Int64} {R : Nat → Nat → Option Nat} {N : Nat → Nat} {G : hG}
theorem c_addF (h3 : 3 ≤ cT s) (k0 : I 80 3 = nI (cT s)) (h v : Int32) (hb : cT s ≤ 3 := by omega) : TP X d n_Bay_addTown [.ref 80, .int h, .int v] (I, J, Rx R, N, G) (Ret (.int (cI (-4))) (I, J, Rx R, N, G)) := by
  unfold TP
  show XP X _ k_Bay_addTown 0 [.ref (80), .int (h), .int (v), xj] [] _ _
  refine XP_n 2 (pc' := 2) (ls' := [.ref (80), .int (h), .int (v), xj]) (st' := [.int (I 80 3)]) (M' := (I, J, Rx R, N, G)) rfl ?_
  rw [k0]
  refine XP_n 2 (pc' := 4) (ls' := [.ref (80), .int (h), .int (v), .int (nI (cT s))]) (st' := [.int (nI (cT s))]) (M' := (I, J, Rx R, N, G)) rfl ?_
  refine XP_ifN (x := cT s)  rfl (by omega) (fun (b4 : cT s < 0) => absurd b4 (by omega)) (fun (b4 : 0 ≤ cT s) => ?_)
  refine XP_n 2 (pc' := 7) (ls' := [.ref (80), .int (h), .int (v), .int (nI (cT s))]) (st' := [.int (nI (3)), .int (nI (cT s))]) (M' := (I, J, Rx R, N, G)) rfl ?_
  refine XP_icN (x := cT s) (y := 3) rfl (by omega) (by omega) (fun (b7 : cT s < 3) => absurd b7 (by omega)) (fun (b7 : 3 ≤ cT s) => ?_)
  refine XP_n 1 (pc' := 9) (ls' := [.ref (80), .int (h), .int (v), .int (nI (cT s))]) (st' := [.int (cI (-4))]) (M' := (I, J, Rx R, N, G)) rfl ?_
  exact XP_ret rfl ⟨rfl, rfl⟩
theorem c_addT (h3 : cT s < 3) (k0 : I 80 3 = nI (cT s)) (h v : Int32) : TP X d n_Bay_addTown [.ref 80, .int h, .int v] (I, J, Rx R, N, G) (fun w M' => w = some (.int (nI (cT s))) ∧ M' = ((rw2 (rw2 (rw2 I 81 (cT s) h) 82 (cT s) v) 80 3 (nI (cT s + 1))), J, Rx R, N, G)) := by
  unfold TP
  show XP X _ k_Bay_addTown 0 [.ref (80), .int (h), .int (v), xj] [] _ _
  refine XP_n 2 (pc' := 2) (ls' := [.ref (80), .int (h), .int (v), xj]) (st' := [.int (I 80 3)]) (M' := (I, J, Rx R, N, G)) rfl ?_
  rw [k0]
  refine XP_n 2 (pc' := 4) (ls' := [.ref (80), .int (h), .int (v), .int (nI (cT s))]) (st' := [.int (nI (cT s))]) (M' := (I, J, Rx R, N, G)) rfl ?_
  refine XP_ifN (x := cT s)  rfl (by omega) (fun (b4 : cT s < 0) => absurd b4 (by omega)) (fun (b4 : 0 ≤ cT s) => ?_)
  refine XP_n 2 (pc' := 7) (ls' := [.ref (80), .int (h), .int (v), .int (nI (cT s))]) (st' := [.int (nI (3)), .int (nI (cT s))]) (M' := (I, J, Rx R, N, G)) rfl ?_
  refine XP_icN (x := cT s) (y := 3) rfl (by omega) (by omega) (fun (b7 : cT s < 3) => ?_) (fun (b7 : 3 ≤ cT s) => absurd b7 (by omega))
  refine XP_n 4 (pc' := 14) (ls' := [.ref (80), .int (h), .int (v), .int (nI (cT s))]) (st' := [.int (h), .int (nI (cT s)), .ref (81)]) (M' := (I, J, Rx R, N, G)) rfl ?_
  refine XP_iast rfl rfl (show cT s < 3 by omega) rfl (by omega) ?_
  refine XP_n 4 (pc' := 19) (ls' := [.ref (80), .int (h), .int (v), .int (nI (cT s))]) (st' := [.int (v), .int (nI (cT s)), .ref (82)]) (M' := ((rw2 I 81 (cT s) (h)), J, Rx R, N, G)) rfl ?_
  refine XP_iast rfl rfl (show cT s < 3 by omega) rfl (by omega) ?_
  refine XP_n 3 (pc' := 23) (ls' := [.ref (80), .int (h), .int (v), .int (nI (cT s))]) (st' := [.int (I 80 3), .ref (80)]) (M' := ((rw2 (rw2 I 81 (cT s) (h)) 82 (cT s) (v)), J, Rx R, N, G)) rfl ?_
  rw [k0]
  refine XP_n 2 (pc' := 25) (ls' := [.ref (80), .int (h), .int (v), .int (nI (cT s))]) (st' := [.int ((nI (cT s)) + (nI (1))), .ref (80)]) (M' := ((rw2 (rw2 I 81 (cT s) (h)) 82 (cT s) (v)), J, Rx R, N, G)) rfl ?_
  rw [show (nI (cT s)) + (nI (1)) = nI (cT s + 1) from nI_addE (rfl) (rfl)]
  refine XP_n 2 (pc' := 27) (ls' := [.ref (80), .int (h), .int (v), .int (nI (cT s))]) (st' := [.int (nI (cT s))]) (M' := ((rw2 (rw2 (rw2 I 81 (cT s) (h)) 82 (cT s) (v)) 80 3 (nI (cT s + 1))), J, Rx R, N, G)) rfl ?_
  exact XP_ret rfl ⟨rfl, rfl⟩
theorem g_town (hI : Inv s R N I J) (h v : Int32) : ∃ w s', TP X (d + 12) n_H_town [.ref 0, .int h, .int v] (I, J, Rx R, N, G) (QM s s' R N G (.int w)) ∧ ∀ I J, Mid s s' R N I J → TP X (d + 12) n_M_town [.ref 99, .int h, .int v] (I, J, Rx R, N, G) (QP s' R N G (.int w)) := by
  have hI0 := hI
  obtain ⟨hS, hW, hL, hC, hch⟩ := hI0
  have ht3 := hW.t.2
  have k0 : I 80 3 = nI (cT s) := (hS 80 3 99 22 rfl).trans hW.t.1
  by_cases g0 : iv 0 60 h
  rotate_left
  · skip
    refine ⟨cI (-2), s, ?_, fun I J hm => ?_⟩
    · unfold TP
      show XP X _ k_H_town 0 [.ref (0), .int (h), .int (v)] [] _ _
      refine XP_n 1 (pc' := 1) (ls' := [.ref (0), .int (h), .int (v)]) (st' := [.int (h)]) (M' := (I, J, Rx R, N, G)) rfl ?_
      refine XP_pure rfl rfl (t_H_isHeight X _ _ _) ?_
      refine XP_s rfl ?_
      refine XP_beq (fun b2 => ?_) (fun b2 => absurd b2 g0)
      refine XP_n 1 (pc' := 13) (ls' := [.ref (0), .int (h), .int (v)]) (st' := [.int (cI (-2))]) (M' := (I, J, Rx R, N, G)) rfl ?_
      exact XP_ret rfl ⟨rfl, _, _, rfl, Mid_id hI⟩
    · have k9 : I 99 22 = nI (cT s) := (hm.2.1 99 22 99 22 rfl).trans hW.t.1
      unfold TP
      show XP X _ k_M_town 0 [.ref (99), .int (h), .int (v)] [] _ _
      refine XP_n 3 (pc' := 3) (ls' := [.ref (99), .int (h), .int (v)]) (st' := [.int (nI (60)), .int (nI (0)), .int (h)]) (M' := (I, J, Rx R, N, G)) rfl ?_
      refine XP_pure rfl rfl (w_M X _ _ 0 60 _) ?_
      refine XP_s rfl ?_
      refine XP_beq (fun b4 => ?_) (fun b4 => absurd b4 g0)
      refine XP_n 1 (pc' := 11) (ls' := [.ref (99), .int (h), .int (v)]) (st' := [.int (cI (-2))]) (M' := (I, J, Rx R, N, G)) rfl ?_
      exact XP_ret rfl ⟨rfl, _, _, rfl, Mid_inv hm⟩
  by_cases g1 : iv 0 999 v
  rotate_left
  · skip
    refine ⟨cI (-2), s, ?_, fun I J hm => ?_⟩
    · unfold TP
      show XP X _ k_H_town 0 [.ref (0), .int (h), .int (v)] [] _ _
      refine XP_n 1 (pc' := 1) (ls' := [.ref (0), .int (h), .int (v)]) (st' := [.int (h)]) (M' := (I, J, Rx R, N, G)) rfl ?_
      refine XP_pure rfl rfl (t_H_isHeight X _ _ _) ?_
      refine XP_s rfl ?_
      refine XP_beq (fun b2 => absurd g0 b2) (fun b2 => ?_)
      refine XP_n 1 (pc' := 4) (ls' := [.ref (0), .int (h), .int (v)]) (st' := [.int (v)]) (M' := (I, J, Rx R, N, G)) rfl ?_
      refine XP_pure rfl rfl (t_H_isWorth X _ _ _) ?_
      refine XP_s rfl ?_
      refine XP_beq (fun b5 => ?_) (fun b5 => absurd b5 g1)
      refine XP_n 1 (pc' := 13) (ls' := [.ref (0), .int (h), .int (v)]) (st' := [.int (cI (-2))]) (M' := (I, J, Rx R, N, G)) rfl ?_
      exact XP_ret rfl ⟨rfl, _, _, rfl, Mid_id hI⟩
    · have k9 : I 99 22 = nI (cT s) := (hm.2.1 99 22 99 22 rfl).trans hW.t.1
      unfold TP
      show XP X _ k_M_town 0 [.ref (99), .int (h), .int (v)] [] _ _
      refine XP_n 3 (pc' := 3) (ls' := [.ref (99), .int (h), .int (v)]) (st' := [.int (nI (60)), .int (nI (0)), .int (h)]) (M' := (I, J, Rx R, N, G)) rfl ?_
      refine XP_pure rfl rfl (w_M X _ _ 0 60 _) ?_
      refine XP_s rfl ?_
      refine XP_beq (fun b4 => absurd g0 b4) (fun b4 => ?_)
      refine XP_n 3 (pc' := 8) (ls' := [.ref (99), .int (h), .int (v)]) (st' := [.int (nI (999)), .int (nI (0)), .int (v)]) (M' := (I, J, Rx R, N, G)) rfl ?_
      refine XP_pure rfl rfl (w_M X _ _ 0 999 _) ?_
      refine XP_s rfl ?_
      refine XP_bne (fun b9 => absurd b9 g1) (fun b9 => ?_)
      refine XP_n 1 (pc' := 11) (ls' := [.ref (99), .int (h), .int (v)]) (st' := [.int (cI (-2))]) (M' := (I, J, Rx R, N, G)) rfl ?_
      exact XP_ret rfl ⟨rfl, _, _, rfl, Mid_inv hm⟩
  have hh : iN 0 60 h := by
    obtain ⟨n, a, b, c, -⟩ := iv_nat g0 (by omega) (by omega)
    exact ⟨n, a, b, c⟩
  have hv : iN 0 999 v := by
    obtain ⟨n, a, b, c, -⟩ := iv_nat g1 (by omega) (by omega)
    exact ⟨n, a, b, c⟩
  by_cases g2 : cT s < 3
  rotate_left
  · skip
    refine ⟨cI (-4), s, ?_, fun I J hm => ?_⟩
    · unfold TP
      show XP X _ k_H_town 0 [.ref (0), .int (h), .int (v)] [] _ _
      refine XP_n 1 (pc' := 1) (ls' := [.ref (0), .int (h), .int (v)]) (st' := [.int (h)]) (M' := (I, J, Rx R, N, G)) rfl ?_
      refine XP_pure rfl rfl (t_H_isHeight X _ _ _) ?_
      refine XP_s rfl ?_
      refine XP_beq (fun b2 => absurd g0 b2) (fun b2 => ?_)
      refine XP_n 1 (pc' := 4) (ls' := [.ref (0), .int (h), .int (v)]) (st' := [.int (v)]) (M' := (I, J, Rx R, N, G)) rfl ?_
      refine XP_pure rfl rfl (t_H_isWorth X _ _ _) ?_
      refine XP_s rfl ?_
      refine XP_beq (fun b5 => absurd g1 b5) (fun b5 => ?_)
      refine XP_n 4 (pc' := 10) (ls' := [.ref (0), .int (h), .int (v)]) (st' := [.int (v), .int (h), .ref (80)]) (M' := (I, J, Rx R, N, G)) rfl ?_
      refine XP_pure rfl rfl (c_addF (by omega) k0 _ _) ?_
      refine XP_n 1 (pc' := 13) (ls' := [.ref (0), .int (h), .int (v)]) (st' := [.int (cI (-4))]) (M' := (I, J, Rx R, N, G)) rfl ?_
      exact XP_ret rfl ⟨rfl, _, _, rfl, Mid_id hI⟩
    · have k9 : I 99 22 = nI (cT s) := (hm.2.1 99 22 99 22 rfl).trans hW.t.1
      unfold TP
      show XP X _ k_M_town 0 [.ref (99), .int (h), .int (v)] [] _ _
      refine XP_n 3 (pc' := 3) (ls' := [.ref (99), .int (h), .int (v)]) (st' := [.int (nI (60)), .int (nI (0)), .int (h)]) (M' := (I, J, Rx R, N, G)) rfl ?_
      refine XP_pure rfl rfl (w_M X _ _ 0 60 _) ?_
      refine XP_s rfl ?_
      refine XP_beq (fun b4 => absurd g0 b4) (fun b4 => ?_)
      refine XP_n 3 (pc' := 8) (ls' := [.ref (99), .int (h), .int (v)]) (st' := [.int (nI (999)), .int (nI (0)), .int (v)]) (M' := (I, J, Rx R, N, G)) rfl ?_
      refine XP_pure rfl rfl (w_M X _ _ 0 999 _) ?_
      refine XP_s rfl ?_
      refine XP_bne (fun b9 => ?_) (fun b9 => absurd g1 b9)
      refine XP_n 2 (pc' := 14) (ls' := [.ref (99), .int (h), .int (v)]) (st' := [.int (I 99 22)]) (M' := (I, J, Rx R, N, G)) rfl ?_
      rw [k9]
      refine XP_n 1 (pc' := 15) (ls' := [.ref (99), .int (h), .int (v)]) (st' := [.int (nI (3)), .int (nI (cT s))]) (M' := (I, J, Rx R, N, G)) rfl ?_
      refine XP_icN (x := cT s) (y := 3) rfl (by omega) (by omega) (fun (b15 : ¬ cT s = 3) => absurd b15 (by omega)) (fun (b15 : cT s = 3) => ?_)
      refine XP_n 1 (pc' := 17) (ls' := [.ref (99), .int (h), .int (v)]) (st' := [.int (cI (-4))]) (M' := (I, J, Rx R, N, G)) rfl ?_
      exact XP_ret rfl ⟨rfl, _, _, rfl, Mid_inv hm⟩
  · skip
    refine ⟨nI (cT s), (rw2 (rw2 (rw2 s 114 (cT s) h) 115 (cT s) v) 99 22 (nI (cT s + 1))), ?_, fun I J hm => ?_⟩
    · unfold TP
      show XP X _ k_H_town 0 [.ref (0), .int (h), .int (v)] [] _ _
      refine XP_n 1 (pc' := 1) (ls' := [.ref (0), .int (h), .int (v)]) (st' := [.int (h)]) (M' := (I, J, Rx R, N, G)) rfl ?_
      refine XP_pure rfl rfl (t_H_isHeight X _ _ _) ?_
      refine XP_s rfl ?_
      refine XP_beq (fun b2 => absurd g0 b2) (fun b2 => ?_)
      refine XP_n 1 (pc' := 4) (ls' := [.ref (0), .int (h), .int (v)]) (st' := [.int (v)]) (M' := (I, J, Rx R, N, G)) rfl ?_
      refine XP_pure rfl rfl (t_H_isWorth X _ _ _) ?_
      refine XP_s rfl ?_
      refine XP_beq (fun b5 => absurd g1 b5) (fun b5 => ?_)
      refine XP_n 4 (pc' := 10) (ls' := [.ref (0), .int (h), .int (v)]) (st' := [.int (v), .int (h), .ref (80)]) (M' := (I, J, Rx R, N, G)) rfl ?_
      refine XP_call rfl rfl (c_addT g2 k0 _ _) ?_
      rintro v1 M1 ⟨rfl, rfl⟩
      refine XP_n 1 (pc' := 13) (ls' := [.ref (0), .int (h), .int (v)]) (st' := [.int (nI (cT s))]) (M' := ((rw2 (rw2 (rw2 I 81 (cT s) (h)) 82 (cT s) (v)) 80 3 (nI (cT s + 1))), J, Rx R, N, G)) rfl ?_
      exact XP_ret rfl ⟨rfl, _, _, rfl, StC_w (StC_w (StC_w hI.1.C rfl) rfl) rfl, StM_o hI.1.M (fun k hk => (rw2_ro (fun z => by subst z; cases hk)).trans ((rw2_ro (fun z => by subst z; cases hk)).trans (rw2_ro (fun z => by subst z; cases hk)))), Wf_to hW (by omega) hh hv, agrl_Lk (AgrL_to s h v) hL, agr_Cch (Agr_to s h v) (hC.of (fun k h1 h2 => by rw [rw2_ro (by omega), rw2_ro (by omega), rw2_ro (by omega)]) (fun _ _ _ => rfl) hW.p.2), hch⟩
    · have k9 : I 99 22 = nI (cT s) := (hm.2.1 99 22 99 22 rfl).trans hW.t.1
      unfold TP
      show XP X _ k_M_town 0 [.ref (99), .int (h), .int (v)] [] _ _
      refine XP_n 3 (pc' := 3) (ls' := [.ref (99), .int (h), .int (v)]) (st' := [.int (nI (60)), .int (nI (0)), .int (h)]) (M' := (I, J, Rx R, N, G)) rfl ?_
      refine XP_pure rfl rfl (w_M X _ _ 0 60 _) ?_
      refine XP_s rfl ?_
      refine XP_beq (fun b4 => absurd g0 b4) (fun b4 => ?_)
      refine XP_n 3 (pc' := 8) (ls' := [.ref (99), .int (h), .int (v)]) (st' := [.int (nI (999)), .int (nI (0)), .int (v)]) (M' := (I, J, Rx R, N, G)) rfl ?_
      refine XP_pure rfl rfl (w_M X _ _ 0 999 _) ?_
      refine XP_s rfl ?_
      refine XP_bne (fun b9 => ?_) (fun b9 => absurd g1 b9)
      refine XP_n 2 (pc' := 14) (ls' := [.ref (99), .int (h), .int (v)]) (st' := [.int (I 99 22)]) (M' := (I, J, Rx R, N, G)) rfl ?_
      rw [k9]
      refine XP_n 1 (pc' := 15) (ls' := [.ref (99), .int (h), .int (v)]) (st' := [.int (nI (3)), .int (nI (cT s))]) (M' := (I, J, Rx R, N, G)) rfl ?_
      refine XP_icN (x := cT s) (y := 3) rfl (by omega) (by omega) (fun (b15 : ¬ cT s = 3) => ?_) (fun (b15 : cT s = 3) => absurd b15 (by omega))
      refine XP_n 4 (pc' := 22) (ls' := [.ref (99), .int (h), .int (v)]) (st' := [.int (I 99 22), .ref (114)]) (M' := (I, J, Rx R, N, G)) rfl ?_
      rw [k9]
      refine XP_n 1 (pc' := 23) (ls' := [.ref (99), .int (h), .int (v)]) (st' := [.int (h), .int (nI (cT s)), .ref (114)]) (M' := (I, J, Rx R, N, G)) rfl ?_
      refine XP_iast rfl rfl (show cT s < 3 by omega) rfl (by omega) ?_
      refine XP_n 4 (pc' := 28) (ls' := [.ref (99), .int (h), .int (v)]) (st' := [.int (I 99 22), .ref (115)]) (M' := ((rw2 I 114 (cT s) (h)), J, Rx R, N, G)) rfl ?_
      rw [k9]
      refine XP_n 1 (pc' := 29) (ls' := [.ref (99), .int (h), .int (v)]) (st' := [.int (v), .int (nI (cT s)), .ref (115)]) (M' := ((rw2 I 114 (cT s) (h)), J, Rx R, N, G)) rfl ?_
      refine XP_iast rfl rfl (show cT s < 3 by omega) rfl (by omega) ?_
      refine XP_n 3 (pc' := 33) (ls' := [.ref (99), .int (h), .int (v)]) (st' := [.int (I 99 22), .ref (99)]) (M' := ((rw2 (rw2 I 114 (cT s) (h)) 115 (cT s) (v)), J, Rx R, N, G)) rfl ?_
      rw [k9]
      refine XP_n 2 (pc' := 35) (ls' := [.ref (99), .int (h), .int (v)]) (st' := [.int ((nI (cT s)) + (nI (1))), .ref (99)]) (M' := ((rw2 (rw2 I 114 (cT s) (h)) 115 (cT s) (v)), J, Rx R, N, G)) rfl ?_
      rw [show (nI (cT s)) + (nI (1)) = nI (cT s + 1) from nI_addE (rfl) (rfl)]
      refine XP_n 5 (pc' := 40) (ls' := [.ref (99), .int (h), .int (v)]) (st' := [.int ((nI (cT s + 1)) - (nI (1)))]) (M' := ((rw2 (rw2 (rw2 I 114 (cT s) (h)) 115 (cT s) (v)) 99 22 (nI (cT s + 1))), J, Rx R, N, G)) rfl ?_
      rw [show (nI (cT s + 1)) - (nI (1)) = nI (cT s + 1 - 1) from nI_subE (rfl) (rfl) (by omega)]
      exact XP_ret rfl ⟨rfl, _, _, rfl, St_of (StC_o hm.1 (fun k hk => (rw2_ro (fun z => by subst z; cases hk)).trans ((rw2_ro (fun z => by subst z; cases hk)).trans (rw2_ro (fun z => by subst z; cases hk))))) (StM_w (StM_w (StM_w hm.2.1 rfl) rfl) rfl), hm.2.2.1, hm.2.2.2.1, hm.2.2.2.2.1.of (fun k h1 h2 => by rw [rw2_ro (by omega), rw2_ro (by omega), rw2_ro (by omega)]) (fun _ _ _ => rfl) hm.2.2.1.p.2, hm.2.2.2.2.2⟩
end
