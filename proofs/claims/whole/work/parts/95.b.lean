/-! setters: storm, as a step of both halves -/
/-- what a storm leaves, with what does not change by it -/
def StepC (b n y z : Nat) (as : List Value) (s : Nat → Nat → Int32) : Prop := ∃ w s', Wf s' ∧ Up b s s' ∧ (∀ k, 120 ≤ k → k ≤ 122 → s' k = s k) ∧ (∀ (X : hX) (d : Nat) (I : Nat → Nat → Int32) (J : Nat → Nat → Int64) (R : Nat → Nat → Option Nat) (N : Nat → Nat) (G : hG), StC s I → Lk s R N → Cch s I J → TP X (d + n) y (.ref 0 :: as) (I, J, Rx R, N, G) (QH s' R N G J I (.int w))) ∧
  ∀ (X : hX) (d : Nat) (I : Nat → Nat → Int32) (J : Nat → Nat → Int64) (R : Nat → Nat → Option Nat) (N : Nat → Nat) (G : hG), StM s I → TP X (d + n) z (.ref 99 :: as) (I, J, Rx R, N, G) (QS s' R N G J I (.int w))
theorem s_stormC {s : Nat → Nat → Int32} (hW : Wf s) (hch : iN 0 1000000 (s 1 15)) (h v : Int32) : StepC 1 4 n_H_storm n_M_storm [.int h, .int v] s := by
  obtain ⟨hc1, hc2⟩ := ch_n hch
  have hs6 := hW.ns.2
  by_cases g0 : iv 0 40 h
  rotate_left
  · skip
    refine ⟨cI (-2), s, hW, Up.rf hch, fun _ _ _ => rfl, fun X d I J R N G hc hl hk => ?_, fun X d I J R N G hS => ?_⟩
    · have hL := hl
      unfold TP
      show XP X _ k_H_storm 0 [.ref (0), .int (h), .int (v)] [] _ _
      refine XP_n 3 (pc' := 3) (ls' := [.ref (0), .int (h), .int (v)]) (st' := [.int (nI (40)), .int (nI (0)), .int (h)]) (M' := (I, J, Rx R, N, G)) rfl ?_
      refine XP_pure rfl rfl (w_H X _ _ 0 40 _) ?_
      refine XP_s rfl ?_
      refine XP_beq (fun b4 => ?_) (fun b4 => absurd b4 g0)
      refine XP_n 1 (pc' := 11) (ls' := [.ref (0), .int (h), .int (v)]) (st' := [.int (cI (-2))]) (M' := (I, J, Rx R, N, G)) rfl ?_
      exact XP_ret rfl ⟨rfl, _, rfl, hc, hl, hk, FrM.rf⟩
    · unfold TP
      show XP X _ k_M_storm 0 [.ref (99), .int (h), .int (v)] [] _ _
      refine XP_n 3 (pc' := 3) (ls' := [.ref (99), .int (h), .int (v)]) (st' := [.int (nI (40)), .int (nI (0)), .int (h)]) (M' := (I, J, Rx R, N, G)) rfl ?_
      refine XP_pure rfl rfl (w_M X _ _ 0 40 _) ?_
      refine XP_s rfl ?_
      refine XP_beq (fun b4 => ?_) (fun b4 => absurd b4 g0)
      refine XP_n 1 (pc' := 11) (ls' := [.ref (99), .int (h), .int (v)]) (st' := [.int (cI (-2))]) (M' := (I, J, Rx R, N, G)) rfl ?_
      exact XP_ret rfl ⟨rfl, _, rfl, hS, FrC.rf⟩
  by_cases g1 : iv 1 1000 v
  rotate_left
  · skip
    refine ⟨cI (-2), s, hW, Up.rf hch, fun _ _ _ => rfl, fun X d I J R N G hc hl hk => ?_, fun X d I J R N G hS => ?_⟩
    · have hL := hl
      unfold TP
      show XP X _ k_H_storm 0 [.ref (0), .int (h), .int (v)] [] _ _
      refine XP_n 3 (pc' := 3) (ls' := [.ref (0), .int (h), .int (v)]) (st' := [.int (nI (40)), .int (nI (0)), .int (h)]) (M' := (I, J, Rx R, N, G)) rfl ?_
      refine XP_pure rfl rfl (w_H X _ _ 0 40 _) ?_
      refine XP_s rfl ?_
      refine XP_beq (fun b4 => absurd g0 b4) (fun b4 => ?_)
      refine XP_n 3 (pc' := 8) (ls' := [.ref (0), .int (h), .int (v)]) (st' := [.int (nI (1000)), .int (nI (1)), .int (v)]) (M' := (I, J, Rx R, N, G)) rfl ?_
      refine XP_pure rfl rfl (w_H X _ _ 1 1000 _) ?_
      refine XP_s rfl ?_
      refine XP_bne (fun b9 => absurd b9 g1) (fun b9 => ?_)
      refine XP_n 1 (pc' := 11) (ls' := [.ref (0), .int (h), .int (v)]) (st' := [.int (cI (-2))]) (M' := (I, J, Rx R, N, G)) rfl ?_
      exact XP_ret rfl ⟨rfl, _, rfl, hc, hl, hk, FrM.rf⟩
    · unfold TP
      show XP X _ k_M_storm 0 [.ref (99), .int (h), .int (v)] [] _ _
      refine XP_n 3 (pc' := 3) (ls' := [.ref (99), .int (h), .int (v)]) (st' := [.int (nI (40)), .int (nI (0)), .int (h)]) (M' := (I, J, Rx R, N, G)) rfl ?_
      refine XP_pure rfl rfl (w_M X _ _ 0 40 _) ?_
      refine XP_s rfl ?_
      refine XP_beq (fun b4 => absurd g0 b4) (fun b4 => ?_)
      refine XP_n 3 (pc' := 8) (ls' := [.ref (99), .int (h), .int (v)]) (st' := [.int (nI (1000)), .int (nI (1)), .int (v)]) (M' := (I, J, Rx R, N, G)) rfl ?_
      refine XP_pure rfl rfl (w_M X _ _ 1 1000 _) ?_
      refine XP_s rfl ?_
      refine XP_bne (fun b9 => absurd b9 g1) (fun b9 => ?_)
      refine XP_n 1 (pc' := 11) (ls' := [.ref (99), .int (h), .int (v)]) (st' := [.int (cI (-2))]) (M' := (I, J, Rx R, N, G)) rfl ?_
      exact XP_ret rfl ⟨rfl, _, rfl, hS, FrC.rf⟩
  have hh : iN 0 40 h := by
    obtain ⟨n, a, b, c, -⟩ := iv_nat g0 (by omega) (by omega)
    exact ⟨n, a, b, c⟩
  obtain ⟨n, hn1, hn2, rfl, -⟩ := iv_nat g1 (by omega) (by omega)
  have hss := hW.ssum
  by_cases g2 : sumN (rOf s) (cS s) + n ≤ 1000
  rotate_left
  · skip
    refine ⟨cI (-3), s, hW, Up.rf hch, fun _ _ _ => rfl, fun X d I J R N G hc hl hk => ?_, fun X d I J R N G hS => ?_⟩
    · have hL := hl
      unfold TP
      show XP X _ k_H_storm 0 [.ref (0), .int (h), .int (nI (n))] [] _ _
      refine XP_n 3 (pc' := 3) (ls' := [.ref (0), .int (h), .int (nI (n))]) (st' := [.int (nI (40)), .int (nI (0)), .int (h)]) (M' := (I, J, Rx R, N, G)) rfl ?_
      refine XP_pure rfl rfl (w_H X _ _ 0 40 _) ?_
      refine XP_s rfl ?_
      refine XP_beq (fun b4 => absurd g0 b4) (fun b4 => ?_)
      refine XP_n 3 (pc' := 8) (ls' := [.ref (0), .int (h), .int (nI (n))]) (st' := [.int (nI (1000)), .int (nI (1)), .int (nI (n))]) (M' := (I, J, Rx R, N, G)) rfl ?_
      refine XP_pure rfl rfl (w_H X _ _ 1 1000 _) ?_
      refine XP_s rfl ?_
      refine XP_bne (fun b9 => ?_) (fun b9 => absurd g1 b9)
      refine XP_n 2 (pc' := 14) (ls' := [.ref (0), .int (h), .int (nI (n))]) (st' := [.ref (1)]) (M' := (I, J, Rx R, N, G)) rfl ?_
      refine XP_pure rfl rfl (c_allC hc hW) ?_
      refine XP_n 3 (pc' := 18) (ls' := [.ref (0), .int (h), .int (nI (n))]) (st' := [.int (nI (1000)), .int ((nI (sumN (rOf s) (cS s))) + (nI (n)))]) (M' := (I, J, Rx R, N, G)) rfl ?_
      rw [show (nI (sumN (rOf s) (cS s))) + (nI (n)) = nI (sumN (rOf s) (cS s) + n) from nI_addE (rfl) (rfl)]
      refine XP_icN (x := sumN (rOf s) (cS s) + n) (y := 1000) rfl (by omega) (by omega) (fun (b18 : sumN (rOf s) (cS s) + n ≤ 1000) => absurd b18 (by omega)) (fun (b18 : 1000 < sumN (rOf s) (cS s) + n) => ?_)
      refine XP_n 1 (pc' := 20) (ls' := [.ref (0), .int (h), .int (nI (n))]) (st' := [.int (cI (-3))]) (M' := (I, J, Rx R, N, G)) rfl ?_
      exact XP_ret rfl ⟨rfl, _, rfl, hc, hl, hk, FrM.rf⟩
    · unfold TP
      show XP X _ k_M_storm 0 [.ref (99), .int (h), .int (nI (n))] [] _ _
      refine XP_n 3 (pc' := 3) (ls' := [.ref (99), .int (h), .int (nI (n))]) (st' := [.int (nI (40)), .int (nI (0)), .int (h)]) (M' := (I, J, Rx R, N, G)) rfl ?_
      refine XP_pure rfl rfl (w_M X _ _ 0 40 _) ?_
      refine XP_s rfl ?_
      refine XP_beq (fun b4 => absurd g0 b4) (fun b4 => ?_)
      refine XP_n 3 (pc' := 8) (ls' := [.ref (99), .int (h), .int (nI (n))]) (st' := [.int (nI (1000)), .int (nI (1)), .int (nI (n))]) (M' := (I, J, Rx R, N, G)) rfl ?_
      refine XP_pure rfl rfl (w_M X _ _ 1 1000 _) ?_
      refine XP_s rfl ?_
      refine XP_bne (fun b9 => ?_) (fun b9 => absurd g1 b9)
      refine XP_n 1 (pc' := 13) (ls' := [.ref (99), .int (h), .int (nI (n))]) (st' := [.ref (99)]) (M' := (I, J, Rx R, N, G)) rfl ?_
      refine XP_pure rfl rfl (m_allM hS hW) ?_
      refine XP_n 3 (pc' := 17) (ls' := [.ref (99), .int (h), .int (nI (n))]) (st' := [.int (nI (1000)), .int ((nI (sumN (rOf s) (cS s))) + (nI (n)))]) (M' := (I, J, Rx R, N, G)) rfl ?_
      rw [show (nI (sumN (rOf s) (cS s))) + (nI (n)) = nI (sumN (rOf s) (cS s) + n) from nI_addE (rfl) (rfl)]
      refine XP_icN (x := sumN (rOf s) (cS s) + n) (y := 1000) rfl (by omega) (by omega) (fun (b17 : sumN (rOf s) (cS s) + n ≤ 1000) => absurd b17 (by omega)) (fun (b17 : 1000 < sumN (rOf s) (cS s) + n) => ?_)
      refine XP_n 1 (pc' := 19) (ls' := [.ref (99), .int (h), .int (nI (n))]) (st' := [.int (cI (-3))]) (M' := (I, J, Rx R, N, G)) rfl ?_
      exact XP_ret rfl ⟨rfl, _, rfl, hS, FrC.rf⟩
  by_cases g3 : cS s < 6
  rotate_left
  · skip
    refine ⟨cI (-4), s, hW, Up.rf hch, fun _ _ _ => rfl, fun X d I J R N G hc hl hk => ?_, fun X d I J R N G hS => ?_⟩
    · have hL := hl
      have k10 : I 1 10 = nI (cS s) := (hc 1 10 99 10 rfl).trans hW.ns.1
      unfold TP
      show XP X _ k_H_storm 0 [.ref (0), .int (h), .int (nI (n))] [] _ _
      refine XP_n 3 (pc' := 3) (ls' := [.ref (0), .int (h), .int (nI (n))]) (st' := [.int (nI (40)), .int (nI (0)), .int (h)]) (M' := (I, J, Rx R, N, G)) rfl ?_
      refine XP_pure rfl rfl (w_H X _ _ 0 40 _) ?_
      refine XP_s rfl ?_
      refine XP_beq (fun b4 => absurd g0 b4) (fun b4 => ?_)
      refine XP_n 3 (pc' := 8) (ls' := [.ref (0), .int (h), .int (nI (n))]) (st' := [.int (nI (1000)), .int (nI (1)), .int (nI (n))]) (M' := (I, J, Rx R, N, G)) rfl ?_
      refine XP_pure rfl rfl (w_H X _ _ 1 1000 _) ?_
      refine XP_s rfl ?_
      refine XP_bne (fun b9 => ?_) (fun b9 => absurd g1 b9)
      refine XP_n 2 (pc' := 14) (ls' := [.ref (0), .int (h), .int (nI (n))]) (st' := [.ref (1)]) (M' := (I, J, Rx R, N, G)) rfl ?_
      refine XP_pure rfl rfl (c_allC hc hW) ?_
      refine XP_n 3 (pc' := 18) (ls' := [.ref (0), .int (h), .int (nI (n))]) (st' := [.int (nI (1000)), .int ((nI (sumN (rOf s) (cS s))) + (nI (n)))]) (M' := (I, J, Rx R, N, G)) rfl ?_
      rw [show (nI (sumN (rOf s) (cS s))) + (nI (n)) = nI (sumN (rOf s) (cS s) + n) from nI_addE (rfl) (rfl)]
      refine XP_icN (x := sumN (rOf s) (cS s) + n) (y := 1000) rfl (by omega) (by omega) (fun (b18 : sumN (rOf s) (cS s) + n ≤ 1000) => ?_) (fun (b18 : 1000 < sumN (rOf s) (cS s) + n) => absurd b18 (by omega))
      refine XP_n 4 (pc' := 25) (ls' := [.ref (0), .int (h), .int (nI (n))]) (st' := [.int (nI (n)), .int (h), .ref (1)]) (M' := (I, J, Rx R, N, G)) rfl ?_
      refine XP_pure rfl rfl (c_addSF (by omega) k10 _ _) ?_
      exact XP_ret rfl ⟨rfl, _, rfl, hc, hl, hk, FrM.rf⟩
    · have k10 : I 99 10 = nI (cS s) := (hS 99 10 99 10 rfl).trans hW.ns.1
      unfold TP
      show XP X _ k_M_storm 0 [.ref (99), .int (h), .int (nI (n))] [] _ _
      refine XP_n 3 (pc' := 3) (ls' := [.ref (99), .int (h), .int (nI (n))]) (st' := [.int (nI (40)), .int (nI (0)), .int (h)]) (M' := (I, J, Rx R, N, G)) rfl ?_
      refine XP_pure rfl rfl (w_M X _ _ 0 40 _) ?_
      refine XP_s rfl ?_
      refine XP_beq (fun b4 => absurd g0 b4) (fun b4 => ?_)
      refine XP_n 3 (pc' := 8) (ls' := [.ref (99), .int (h), .int (nI (n))]) (st' := [.int (nI (1000)), .int (nI (1)), .int (nI (n))]) (M' := (I, J, Rx R, N, G)) rfl ?_
      refine XP_pure rfl rfl (w_M X _ _ 1 1000 _) ?_
      refine XP_s rfl ?_
      refine XP_bne (fun b9 => ?_) (fun b9 => absurd g1 b9)
      refine XP_n 1 (pc' := 13) (ls' := [.ref (99), .int (h), .int (nI (n))]) (st' := [.ref (99)]) (M' := (I, J, Rx R, N, G)) rfl ?_
      refine XP_pure rfl rfl (m_allM hS hW) ?_
      refine XP_n 3 (pc' := 17) (ls' := [.ref (99), .int (h), .int (nI (n))]) (st' := [.int (nI (1000)), .int ((nI (sumN (rOf s) (cS s))) + (nI (n)))]) (M' := (I, J, Rx R, N, G)) rfl ?_
      rw [show (nI (sumN (rOf s) (cS s))) + (nI (n)) = nI (sumN (rOf s) (cS s) + n) from nI_addE (rfl) (rfl)]
      refine XP_icN (x := sumN (rOf s) (cS s) + n) (y := 1000) rfl (by omega) (by omega) (fun (b17 : sumN (rOf s) (cS s) + n ≤ 1000) => ?_) (fun (b17 : 1000 < sumN (rOf s) (cS s) + n) => absurd b17 (by omega))
      refine XP_n 2 (pc' := 22) (ls' := [.ref (99), .int (h), .int (nI (n))]) (st' := [.int (I 99 10)]) (M' := (I, J, Rx R, N, G)) rfl ?_
      rw [k10]
      refine XP_n 1 (pc' := 23) (ls' := [.ref (99), .int (h), .int (nI (n))]) (st' := [.int (nI (6)), .int (nI (cS s))]) (M' := (I, J, Rx R, N, G)) rfl ?_
      refine XP_icN (x := cS s) (y := 6) rfl (by omega) (by omega) (fun (b23 : ¬ cS s = 6) => absurd b23 (by omega)) (fun (b23 : cS s = 6) => ?_)
      refine XP_n 1 (pc' := 25) (ls' := [.ref (99), .int (h), .int (nI (n))]) (st' := [.int (cI (-4))]) (M' := (I, J, Rx R, N, G)) rfl ?_
      exact XP_ret rfl ⟨rfl, _, rfl, hS, FrC.rf⟩
  refine ⟨nI (cS s), (rw2 (rw2 (rw2 (rw2 s 105 (cS s) (h)) 106 (cS s) (nI (n))) 99 10 (nI (cS s + 1))) 1 15 (nI (wN (s 1 15) + 1))), Wf_storm _ hW g3 hh ⟨n, hn1, hn2, rfl⟩ (by rw [wN_nI (by omega)]; exact g2), ⟨_, rfl, Nat.le_succ _, Nat.le_refl _, rfl, rfl⟩, fun k h1 h2 => by rw [rw2_ro (by omega), rw2_ro (by omega), rw2_ro (by omega), rw2_ro (by omega)], fun X d I J R N G hc hl hk => ?_, fun X d I J R N G hS => ?_⟩
  · have hL := hl
    have k10 : I 1 10 = nI (cS s) := (hc 1 10 99 10 rfl).trans hW.ns.1
    have k15 : I 1 15 = nI (wN (s 1 15)) := (hc 1 15 1 15 rfl).trans hc1
    unfold TP
    show XP X _ k_H_storm 0 [.ref (0), .int (h), .int (nI (n))] [] _ _
    refine XP_n 3 (pc' := 3) (ls' := [.ref (0), .int (h), .int (nI (n))]) (st' := [.int (nI (40)), .int (nI (0)), .int (h)]) (M' := (I, J, Rx R, N, G)) rfl ?_
    refine XP_pure rfl rfl (w_H X _ _ 0 40 _) ?_
    refine XP_s rfl ?_
    refine XP_beq (fun b4 => absurd g0 b4) (fun b4 => ?_)
    refine XP_n 3 (pc' := 8) (ls' := [.ref (0), .int (h), .int (nI (n))]) (st' := [.int (nI (1000)), .int (nI (1)), .int (nI (n))]) (M' := (I, J, Rx R, N, G)) rfl ?_
    refine XP_pure rfl rfl (w_H X _ _ 1 1000 _) ?_
    refine XP_s rfl ?_
    refine XP_bne (fun b9 => ?_) (fun b9 => absurd g1 b9)
    refine XP_n 2 (pc' := 14) (ls' := [.ref (0), .int (h), .int (nI (n))]) (st' := [.ref (1)]) (M' := (I, J, Rx R, N, G)) rfl ?_
    refine XP_pure rfl rfl (c_allC hc hW) ?_
    refine XP_n 3 (pc' := 18) (ls' := [.ref (0), .int (h), .int (nI (n))]) (st' := [.int (nI (1000)), .int ((nI (sumN (rOf s) (cS s))) + (nI (n)))]) (M' := (I, J, Rx R, N, G)) rfl ?_
    rw [show (nI (sumN (rOf s) (cS s))) + (nI (n)) = nI (sumN (rOf s) (cS s) + n) from nI_addE (rfl) (rfl)]
    refine XP_icN (x := sumN (rOf s) (cS s) + n) (y := 1000) rfl (by omega) (by omega) (fun (b18 : sumN (rOf s) (cS s) + n ≤ 1000) => ?_) (fun (b18 : 1000 < sumN (rOf s) (cS s) + n) => absurd b18 (by omega))
    refine XP_n 4 (pc' := 25) (ls' := [.ref (0), .int (h), .int (nI (n))]) (st' := [.int (nI (n)), .int (h), .ref (1)]) (M' := (I, J, Rx R, N, G)) rfl ?_
    refine XP_call rfl rfl (c_addS g3 k10 k15 _ _) ?_
    rintro v1 M1 ⟨rfl, rfl⟩
    exact XP_ret rfl ⟨rfl, _, rfl, (StC_w (StC_w (StC_w (StC_w hc rfl) rfl) rfl) rfl), agrl_Lk (s := s) ⟨fun k hk => by rw [rw2_ro (by omega), rw2_ro (by omega), rw2_ro (by omega), rw2_ro (by omega)], rfl, rfl, rfl, fun e => e, rfl, rfl, rfl⟩ hl, (Cch.new (Cch.w (Cch.w (Cch.w (Cch.w hk hW.p.2 (by omega)) hW.p.2 (by omega)) hW.p.2 (by omega)) hW.p.2 (by omega)) hW.p.2 rfl (Nat.lt_succ_self _) (by omega)), (FrM.w (FrM.w (FrM.w (FrM.w FrM.rf rfl) rfl) rfl) rfl)⟩
  · have k10 : I 99 10 = nI (cS s) := (hS 99 10 99 10 rfl).trans hW.ns.1
    unfold TP
    show XP X _ k_M_storm 0 [.ref (99), .int (h), .int (nI (n))] [] _ _
    refine XP_n 3 (pc' := 3) (ls' := [.ref (99), .int (h), .int (nI (n))]) (st' := [.int (nI (40)), .int (nI (0)), .int (h)]) (M' := (I, J, Rx R, N, G)) rfl ?_
    refine XP_pure rfl rfl (w_M X _ _ 0 40 _) ?_
    refine XP_s rfl ?_
    refine XP_beq (fun b4 => absurd g0 b4) (fun b4 => ?_)
    refine XP_n 3 (pc' := 8) (ls' := [.ref (99), .int (h), .int (nI (n))]) (st' := [.int (nI (1000)), .int (nI (1)), .int (nI (n))]) (M' := (I, J, Rx R, N, G)) rfl ?_
    refine XP_pure rfl rfl (w_M X _ _ 1 1000 _) ?_
    refine XP_s rfl ?_
    refine XP_bne (fun b9 => ?_) (fun b9 => absurd g1 b9)
    refine XP_n 1 (pc' := 13) (ls' := [.ref (99), .int (h), .int (nI (n))]) (st' := [.ref (99)]) (M' := (I, J, Rx R, N, G)) rfl ?_
    refine XP_pure rfl rfl (m_allM hS hW) ?_
    refine XP_n 3 (pc' := 17) (ls' := [.ref (99), .int (h), .int (nI (n))]) (st' := [.int (nI (1000)), .int ((nI (sumN (rOf s) (cS s))) + (nI (n)))]) (M' := (I, J, Rx R, N, G)) rfl ?_
    rw [show (nI (sumN (rOf s) (cS s))) + (nI (n)) = nI (sumN (rOf s) (cS s) + n) from nI_addE (rfl) (rfl)]
    refine XP_icN (x := sumN (rOf s) (cS s) + n) (y := 1000) rfl (by omega) (by omega) (fun (b17 : sumN (rOf s) (cS s) + n ≤ 1000) => ?_) (fun (b17 : 1000 < sumN (rOf s) (cS s) + n) => absurd b17 (by omega))
    refine XP_n 2 (pc' := 22) (ls' := [.ref (99), .int (h), .int (nI (n))]) (st' := [.int (I 99 10)]) (M' := (I, J, Rx R, N, G)) rfl ?_
    rw [k10]
    refine XP_n 1 (pc' := 23) (ls' := [.ref (99), .int (h), .int (nI (n))]) (st' := [.int (nI (6)), .int (nI (cS s))]) (M' := (I, J, Rx R, N, G)) rfl ?_
    refine XP_icN (x := cS s) (y := 6) rfl (by omega) (by omega) (fun (b23 : ¬ cS s = 6) => ?_) (fun (b23 : cS s = 6) => absurd b23 (by omega))
    refine XP_n 4 (pc' := 30) (ls' := [.ref (99), .int (h), .int (nI (n))]) (st' := [.int (I 99 10), .ref (105)]) (M' := (I, J, Rx R, N, G)) rfl ?_
    rw [k10]
    refine XP_n 1 (pc' := 31) (ls' := [.ref (99), .int (h), .int (nI (n))]) (st' := [.int (h), .int (nI (cS s)), .ref (105)]) (M' := (I, J, Rx R, N, G)) rfl ?_
    refine XP_iast rfl rfl (show cS s < 6 by omega) rfl (by omega) ?_
    refine XP_n 4 (pc' := 36) (ls' := [.ref (99), .int (h), .int (nI (n))]) (st' := [.int (I 99 10), .ref (106)]) (M' := ((rw2 I 105 (cS s) (h)), J, Rx R, N, G)) rfl ?_
    rw [k10]
    refine XP_n 1 (pc' := 37) (ls' := [.ref (99), .int (h), .int (nI (n))]) (st' := [.int (nI (n)), .int (nI (cS s)), .ref (106)]) (M' := ((rw2 I 105 (cS s) (h)), J, Rx R, N, G)) rfl ?_
    refine XP_iast rfl rfl (show cS s < 6 by omega) rfl (by omega) ?_
    refine XP_n 3 (pc' := 41) (ls' := [.ref (99), .int (h), .int (nI (n))]) (st' := [.int (I 99 10), .ref (99)]) (M' := ((rw2 (rw2 I 105 (cS s) (h)) 106 (cS s) (nI (n))), J, Rx R, N, G)) rfl ?_
    rw [k10]
    refine XP_n 2 (pc' := 43) (ls' := [.ref (99), .int (h), .int (nI (n))]) (st' := [.int ((nI (cS s)) + (nI (1))), .ref (99)]) (M' := ((rw2 (rw2 I 105 (cS s) (h)) 106 (cS s) (nI (n))), J, Rx R, N, G)) rfl ?_
    rw [show (nI (cS s)) + (nI (1)) = nI (cS s + 1) from nI_addE (rfl) (rfl)]
    refine XP_n 5 (pc' := 48) (ls' := [.ref (99), .int (h), .int (nI (n))]) (st' := [.int ((nI (cS s + 1)) - (nI (1)))]) (M' := ((rw2 (rw2 (rw2 I 105 (cS s) (h)) 106 (cS s) (nI (n))) 99 10 (nI (cS s + 1))), J, Rx R, N, G)) rfl ?_
    rw [show (nI (cS s + 1)) - (nI (1)) = nI (cS s + 1 - 1) from nI_subE (rfl) (rfl) (by omega)]
    exact XP_ret rfl ⟨rfl, _, rfl, (StM_sC (StM_w (StM_w (StM_w hS rfl) rfl) rfl) rfl), (FrC.w (FrC.w (FrC.w FrC.rf rfl) rfl) rfl)⟩
theorem StepC.set {b y z : Nat} {as : List Value} {s : Nat → Nat → Int32} (h : StepC b 4 y z as s) (hb : b ≤ 20) : SetOk 20 y z as s := by
  obtain ⟨w, s', h1, ⟨c, h2, h3, h4, h7⟩, -, h5, h6⟩ := h
  exact ⟨w, s', h1, ⟨c, h2, h3, by omega, h7⟩, fun X d I J R N G hI => h5 X (d + 8) I J R N G hI.1.C hI.2.2.1 hI.2.2.2.1, fun X d I J R N G hS => h6 X (d + 8) I J R N G hS⟩
