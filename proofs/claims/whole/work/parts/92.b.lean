/-! setters: push, street -/
theorem s_push {s : Nat → Nat → Int32} (hW : Wf s) (hch : iN 0 1000000 (s 1 15)) (v : Int32) : SetOk 20 n_H_push n_M_push [.int v] s := by
  by_cases g0 : iv 0 9 v
  rotate_left
  · skip
    refine ⟨cI (-2), s, hW, Up.rf hch, fun X d I J R N G hI => ?_, fun X d I J R N G hS => ?_⟩
    · have hL := hI.2.2.1
      unfold TP
      show XP X _ k_H_push 0 [.ref (0), .int (v), xj] [] _ _
      refine XP_n 3 (pc' := 3) (ls' := [.ref (0), .int (v), xj]) (st' := [.int (nI (9)), .int (nI (0)), .int (v)]) (M' := (I, J, Rx R, N, G)) rfl ?_
      refine XP_pure rfl rfl (w_H X _ _ 0 9 _) ?_
      refine XP_s rfl ?_
      refine XP_bne (fun b4 => absurd b4 g0) (fun b4 => ?_)
      refine XP_n 1 (pc' := 6) (ls' := [.ref (0), .int (v), xj]) (st' := [.int (cI (-2))]) (M' := (I, J, Rx R, N, G)) rfl ?_
      exact XP_ret rfl ⟨rfl, _, rfl, hI.1.C, hI.2.2.1, hI.2.2.2.1, FrM.rf⟩
    · unfold TP
      show XP X _ k_M_push 0 [.ref (99), .int (v), xj] [] _ _
      refine XP_n 3 (pc' := 3) (ls' := [.ref (99), .int (v), xj]) (st' := [.int (nI (9)), .int (nI (0)), .int (v)]) (M' := (I, J, Rx R, N, G)) rfl ?_
      refine XP_pure rfl rfl (w_M X _ _ 0 9 _) ?_
      refine XP_s rfl ?_
      refine XP_bne (fun b4 => absurd b4 g0) (fun b4 => ?_)
      refine XP_n 1 (pc' := 6) (ls' := [.ref (99), .int (v), xj]) (st' := [.int (cI (-2))]) (M' := (I, J, Rx R, N, G)) rfl ?_
      exact XP_ret rfl ⟨rfl, _, rfl, hS, FrC.rf⟩
  have hv : iN 0 9 v := by
    obtain ⟨n, a, b, c, -⟩ := iv_nat g0 (by omega) (by omega)
    exact ⟨n, a, b, c⟩
  refine ⟨nI (cPu s), (rw2 s 99 25 (v)), Wf_pu hW hv, Up.rf hch, fun X d I J R N G hI => ?_, fun X d I J R N G hS => ?_⟩
  · have hL := hI.2.2.1
    unfold TP
    show XP X _ k_H_push 0 [.ref (0), .int (v), xj] [] _ _
    refine XP_n 3 (pc' := 3) (ls' := [.ref (0), .int (v), xj]) (st' := [.int (nI (9)), .int (nI (0)), .int (v)]) (M' := (I, J, Rx R, N, G)) rfl ?_
    refine XP_pure rfl rfl (w_H X _ _ 0 9 _) ?_
    refine XP_s rfl ?_
    refine XP_bne (fun b4 => ?_) (fun b4 => absurd g0 b4)
    refine XP_n 2 (pc' := 9) (ls' := [.ref (0), .int (v), xj]) (st' := [.ref (80)]) (M' := (I, J, Rx R, N, G)) rfl ?_
    refine XP_geti hI.1 rfl rfl rfl ?_
    rw [hW.pu.1]
    refine XP_n 6 (pc' := 16) (ls' := [.ref (0), .int (v), .int (nI (cPu s))]) (st' := [.int (nI (cPu s))]) (M' := ((rw2 I 80 4 (v)), J, Rx R, N, G)) rfl ?_
    exact XP_ret rfl ⟨rfl, _, rfl, (StC_w hI.1.C rfl), agrl_Lk (s := s) ⟨fun k hk => by rw [rw2_ro (by omega)], rfl, rfl, rfl, fun e => e, rfl, rfl, rfl⟩ hI.2.2.1, agr_Cch (s := s) ⟨fun k h1 h2 => by rw [rw2_ro (by omega)], rfl, rfl, fun j hj => by rw [rw2_off (by omega)], rfl, rfl⟩ (Cch.w hI.2.2.2.1 hW.p.2 (by omega)), (FrM.w FrM.rf rfl)⟩
  · unfold TP
    show XP X _ k_M_push 0 [.ref (99), .int (v), xj] [] _ _
    refine XP_n 3 (pc' := 3) (ls' := [.ref (99), .int (v), xj]) (st' := [.int (nI (9)), .int (nI (0)), .int (v)]) (M' := (I, J, Rx R, N, G)) rfl ?_
    refine XP_pure rfl rfl (w_M X _ _ 0 9 _) ?_
    refine XP_s rfl ?_
    refine XP_bne (fun b4 => ?_) (fun b4 => absurd g0 b4)
    refine XP_n 1 (pc' := 8) (ls' := [.ref (99), .int (v), xj]) (st' := [.ref (99)]) (M' := (I, J, Rx R, N, G)) rfl ?_
    refine XP_getiM hS rfl rfl rfl ?_
    rw [hW.pu.1]
    refine XP_n 5 (pc' := 14) (ls' := [.ref (99), .int (v), .int (nI (cPu s))]) (st' := [.int (nI (cPu s))]) (M' := ((rw2 I 99 25 (v)), J, Rx R, N, G)) rfl ?_
    exact XP_ret rfl ⟨rfl, _, rfl, (StM_w hS rfl), (FrC.w FrC.rf rfl)⟩
theorem Wf_st {s : Nat → Nat → Int32} {h v : Int32} (hW : Wf s) (h8 : cSt s < 8) (hh : iN 0 60 h) (hv : iN 0 999 v) : Wf (rw2 (rw2 (rw2 s 112 (cSt s) (h)) 113 (cSt s) (v)) 99 19 (nI (cSt s + 1))) :=
  ⟨⟨hW.1.1, ⟨hW.1.2.1.1, hW.1.2.1.2.1, hW.1.2.1.2.2.1, ⟨cSt s + 1, Nat.zero_le _, h8, rfl⟩⟩, hW.1.2.2⟩, hW.2.1, hW.2.2.1, hW.2.2.2.1, fun t ht => by
    have e : cSt (rw2 (rw2 (rw2 s 112 (cSt s) (h)) 113 (cSt s) (v)) 99 19 (nI (cSt s + 1))) = cSt s + 1 := by
      show wN (nI (cSt s + 1)) = _
      exact wN_nI (by omega)
    rw [e] at ht
    show iN 0 60 (rw2 s 112 (cSt s) h 112 t) ∧ iN 0 999 (rw2 (rw2 s 112 (cSt s) h) 113 (cSt s) v 113 t)
    by_cases e2 : t = cSt s
    · subst e2
      rw [rw2_on, rw2_on]
      exact ⟨hh, hv⟩
    · rw [rw2_off (fun z => e2 z.2), rw2_off (fun z => e2 z.2)]
      exact hW.2.2.2.2.1 t (by omega), hW.2.2.2.2.2⟩
theorem s_street {s : Nat → Nat → Int32} (hW : Wf s) (hch : iN 0 1000000 (s 1 15)) (h : Int32) (v : Int32) : SetOk 20 n_H_street n_M_street [.int h, .int v] s := by
  have hst8 := hW.st.2
  by_cases g0 : iv 0 60 h
  rotate_left
  · skip
    refine ⟨cI (-2), s, hW, Up.rf hch, fun X d I J R N G hI => ?_, fun X d I J R N G hS => ?_⟩
    · have hL := hI.2.2.1
      have k0 : I 0 11 = nI (cSt s) := (hI.1 0 11 99 19 rfl).trans hW.st.1
      unfold TP
      show XP X _ k_H_street 0 [.ref (0), .int (h), .int (v)] [] _ _
      refine XP_n 1 (pc' := 1) (ls' := [.ref (0), .int (h), .int (v)]) (st' := [.int (h)]) (M' := (I, J, Rx R, N, G)) rfl ?_
      refine XP_pure rfl rfl (t_H_isHeight X _ _ _) ?_
      refine XP_s rfl ?_
      refine XP_beq (fun b2 => ?_) (fun b2 => absurd b2 g0)
      refine XP_n 1 (pc' := 7) (ls' := [.ref (0), .int (h), .int (v)]) (st' := [.int (cI (-2))]) (M' := (I, J, Rx R, N, G)) rfl ?_
      exact XP_ret rfl ⟨rfl, _, rfl, hI.1.C, hI.2.2.1, hI.2.2.2.1, FrM.rf⟩
    · have k9 : I 99 19 = nI (cSt s) := (hS 99 19 99 19 rfl).trans hW.st.1
      unfold TP
      show XP X _ k_M_street 0 [.ref (99), .int (h), .int (v)] [] _ _
      refine XP_n 3 (pc' := 3) (ls' := [.ref (99), .int (h), .int (v)]) (st' := [.int (nI (60)), .int (nI (0)), .int (h)]) (M' := (I, J, Rx R, N, G)) rfl ?_
      refine XP_pure rfl rfl (w_M X _ _ 0 60 _) ?_
      refine XP_s rfl ?_
      refine XP_beq (fun b4 => ?_) (fun b4 => absurd b4 g0)
      refine XP_n 1 (pc' := 11) (ls' := [.ref (99), .int (h), .int (v)]) (st' := [.int (cI (-2))]) (M' := (I, J, Rx R, N, G)) rfl ?_
      exact XP_ret rfl ⟨rfl, _, rfl, hS, FrC.rf⟩
  by_cases g1 : iv 0 999 v
  rotate_left
  · skip
    refine ⟨cI (-2), s, hW, Up.rf hch, fun X d I J R N G hI => ?_, fun X d I J R N G hS => ?_⟩
    · have hL := hI.2.2.1
      have k0 : I 0 11 = nI (cSt s) := (hI.1 0 11 99 19 rfl).trans hW.st.1
      unfold TP
      show XP X _ k_H_street 0 [.ref (0), .int (h), .int (v)] [] _ _
      refine XP_n 1 (pc' := 1) (ls' := [.ref (0), .int (h), .int (v)]) (st' := [.int (h)]) (M' := (I, J, Rx R, N, G)) rfl ?_
      refine XP_pure rfl rfl (t_H_isHeight X _ _ _) ?_
      refine XP_s rfl ?_
      refine XP_beq (fun b2 => absurd g0 b2) (fun b2 => ?_)
      refine XP_n 1 (pc' := 4) (ls' := [.ref (0), .int (h), .int (v)]) (st' := [.int (v)]) (M' := (I, J, Rx R, N, G)) rfl ?_
      refine XP_pure rfl rfl (t_H_isWorth X _ _ _) ?_
      refine XP_s rfl ?_
      refine XP_bne (fun b5 => absurd b5 g1) (fun b5 => ?_)
      refine XP_n 1 (pc' := 7) (ls' := [.ref (0), .int (h), .int (v)]) (st' := [.int (cI (-2))]) (M' := (I, J, Rx R, N, G)) rfl ?_
      exact XP_ret rfl ⟨rfl, _, rfl, hI.1.C, hI.2.2.1, hI.2.2.2.1, FrM.rf⟩
    · have k9 : I 99 19 = nI (cSt s) := (hS 99 19 99 19 rfl).trans hW.st.1
      unfold TP
      show XP X _ k_M_street 0 [.ref (99), .int (h), .int (v)] [] _ _
      refine XP_n 3 (pc' := 3) (ls' := [.ref (99), .int (h), .int (v)]) (st' := [.int (nI (60)), .int (nI (0)), .int (h)]) (M' := (I, J, Rx R, N, G)) rfl ?_
      refine XP_pure rfl rfl (w_M X _ _ 0 60 _) ?_
      refine XP_s rfl ?_
      refine XP_beq (fun b4 => absurd g0 b4) (fun b4 => ?_)
      refine XP_n 3 (pc' := 8) (ls' := [.ref (99), .int (h), .int (v)]) (st' := [.int (nI (999)), .int (nI (0)), .int (v)]) (M' := (I, J, Rx R, N, G)) rfl ?_
      refine XP_pure rfl rfl (w_M X _ _ 0 999 _) ?_
      refine XP_s rfl ?_
      refine XP_bne (fun b9 => absurd b9 g1) (fun b9 => ?_)
      refine XP_n 1 (pc' := 11) (ls' := [.ref (99), .int (h), .int (v)]) (st' := [.int (cI (-2))]) (M' := (I, J, Rx R, N, G)) rfl ?_
      exact XP_ret rfl ⟨rfl, _, rfl, hS, FrC.rf⟩
  have hh : iN 0 60 h := by
    obtain ⟨n, a, b, c, -⟩ := iv_nat g0 (by omega) (by omega)
    exact ⟨n, a, b, c⟩
  have hv : iN 0 999 v := by
    obtain ⟨n, a, b, c, -⟩ := iv_nat g1 (by omega) (by omega)
    exact ⟨n, a, b, c⟩
  by_cases g2 : cSt s < 8
  rotate_left
  · skip
    refine ⟨cI (-4), s, hW, Up.rf hch, fun X d I J R N G hI => ?_, fun X d I J R N G hS => ?_⟩
    · have hL := hI.2.2.1
      have k0 : I 0 11 = nI (cSt s) := (hI.1 0 11 99 19 rfl).trans hW.st.1
      unfold TP
      show XP X _ k_H_street 0 [.ref (0), .int (h), .int (v)] [] _ _
      refine XP_n 1 (pc' := 1) (ls' := [.ref (0), .int (h), .int (v)]) (st' := [.int (h)]) (M' := (I, J, Rx R, N, G)) rfl ?_
      refine XP_pure rfl rfl (t_H_isHeight X _ _ _) ?_
      refine XP_s rfl ?_
      refine XP_beq (fun b2 => absurd g0 b2) (fun b2 => ?_)
      refine XP_n 1 (pc' := 4) (ls' := [.ref (0), .int (h), .int (v)]) (st' := [.int (v)]) (M' := (I, J, Rx R, N, G)) rfl ?_
      refine XP_pure rfl rfl (t_H_isWorth X _ _ _) ?_
      refine XP_s rfl ?_
      refine XP_bne (fun b5 => ?_) (fun b5 => absurd g1 b5)
      refine XP_n 2 (pc' := 10) (ls' := [.ref (0), .int (h), .int (v)]) (st' := [.int (I 0 11)]) (M' := (I, J, Rx R, N, G)) rfl ?_
      rw [k0]
      refine XP_ifN (x := cSt s)  rfl (by omega) (fun (b10 : cSt s < 0) => absurd b10 (by omega)) (fun (b10 : 0 ≤ cSt s) => ?_)
      refine XP_n 2 (pc' := 13) (ls' := [.ref (0), .int (h), .int (v)]) (st' := [.int (I 0 11)]) (M' := (I, J, Rx R, N, G)) rfl ?_
      rw [k0]
      refine XP_n 3 (pc' := 16) (ls' := [.ref (0), .int (h), .int (v)]) (st' := [.int (nI (8)), .int (nI (cSt s))]) (M' := (I, J, Rx R, N, G)) rfl ?_
      refine XP_icN (x := cSt s) (y := 8) rfl (by omega) (by omega) (fun (b16 : 8 ≤ cSt s) => ?_) (fun (b16 : cSt s < 8) => absurd b16 (by omega))
      refine XP_n 1 (pc' := 24) (ls' := [.ref (0), .int (h), .int (v)]) (st' := [.int (cI (-4))]) (M' := (I, J, Rx R, N, G)) rfl ?_
      exact XP_ret rfl ⟨rfl, _, rfl, hI.1.C, hI.2.2.1, hI.2.2.2.1, FrM.rf⟩
    · have k9 : I 99 19 = nI (cSt s) := (hS 99 19 99 19 rfl).trans hW.st.1
      unfold TP
      show XP X _ k_M_street 0 [.ref (99), .int (h), .int (v)] [] _ _
      refine XP_n 3 (pc' := 3) (ls' := [.ref (99), .int (h), .int (v)]) (st' := [.int (nI (60)), .int (nI (0)), .int (h)]) (M' := (I, J, Rx R, N, G)) rfl ?_
      refine XP_pure rfl rfl (w_M X _ _ 0 60 _) ?_
      refine XP_s rfl ?_
      refine XP_beq (fun b4 => absurd g0 b4) (fun b4 => ?_)
      refine XP_n 3 (pc' := 8) (ls' := [.ref (99), .int (h), .int (v)]) (st' := [.int (nI (999)), .int (nI (0)), .int (v)]) (M' := (I, J, Rx R, N, G)) rfl ?_
      refine XP_pure rfl rfl (w_M X _ _ 0 999 _) ?_
      refine XP_s rfl ?_
      refine XP_bne (fun b9 => ?_) (fun b9 => absurd g1 b9)
      refine XP_n 2 (pc' := 14) (ls' := [.ref (99), .int (h), .int (v)]) (st' := [.int (I 99 19)]) (M' := (I, J, Rx R, N, G)) rfl ?_
      rw [k9]
      refine XP_n 1 (pc' := 15) (ls' := [.ref (99), .int (h), .int (v)]) (st' := [.int (nI (8)), .int (nI (cSt s))]) (M' := (I, J, Rx R, N, G)) rfl ?_
      refine XP_icN (x := cSt s) (y := 8) rfl (by omega) (by omega) (fun (b15 : ¬ cSt s = 8) => absurd b15 (by omega)) (fun (b15 : cSt s = 8) => ?_)
      refine XP_n 1 (pc' := 17) (ls' := [.ref (99), .int (h), .int (v)]) (st' := [.int (cI (-4))]) (M' := (I, J, Rx R, N, G)) rfl ?_
      exact XP_ret rfl ⟨rfl, _, rfl, hS, FrC.rf⟩
  refine ⟨nI (cSt s), (rw2 (rw2 (rw2 s 112 (cSt s) (h)) 113 (cSt s) (v)) 99 19 (nI (cSt s + 1))), Wf_st hW (by omega) hh hv, Up.rf hch, fun X d I J R N G hI => ?_, fun X d I J R N G hS => ?_⟩
  · have hL := hI.2.2.1
    have k0 : I 0 11 = nI (cSt s) := (hI.1 0 11 99 19 rfl).trans hW.st.1
    unfold TP
    show XP X _ k_H_street 0 [.ref (0), .int (h), .int (v)] [] _ _
    refine XP_n 1 (pc' := 1) (ls' := [.ref (0), .int (h), .int (v)]) (st' := [.int (h)]) (M' := (I, J, Rx R, N, G)) rfl ?_
    refine XP_pure rfl rfl (t_H_isHeight X _ _ _) ?_
    refine XP_s rfl ?_
    refine XP_beq (fun b2 => absurd g0 b2) (fun b2 => ?_)
    refine XP_n 1 (pc' := 4) (ls' := [.ref (0), .int (h), .int (v)]) (st' := [.int (v)]) (M' := (I, J, Rx R, N, G)) rfl ?_
    refine XP_pure rfl rfl (t_H_isWorth X _ _ _) ?_
    refine XP_s rfl ?_
    refine XP_bne (fun b5 => ?_) (fun b5 => absurd g1 b5)
    refine XP_n 2 (pc' := 10) (ls' := [.ref (0), .int (h), .int (v)]) (st' := [.int (I 0 11)]) (M' := (I, J, Rx R, N, G)) rfl ?_
    rw [k0]
    refine XP_ifN (x := cSt s)  rfl (by omega) (fun (b10 : cSt s < 0) => absurd b10 (by omega)) (fun (b10 : 0 ≤ cSt s) => ?_)
    refine XP_n 2 (pc' := 13) (ls' := [.ref (0), .int (h), .int (v)]) (st' := [.int (I 0 11)]) (M' := (I, J, Rx R, N, G)) rfl ?_
    rw [k0]
    refine XP_n 3 (pc' := 16) (ls' := [.ref (0), .int (h), .int (v)]) (st' := [.int (nI (8)), .int (nI (cSt s))]) (M' := (I, J, Rx R, N, G)) rfl ?_
    refine XP_icN (x := cSt s) (y := 8) rfl (by omega) (by omega) (fun (b16 : 8 ≤ cSt s) => absurd b16 (by omega)) (fun (b16 : cSt s < 8) => ?_)
    refine XP_n 2 (pc' := 19) (ls' := [.ref (0), .int (h), .int (v)]) (st' := [.int (I 0 11)]) (M' := (I, J, Rx R, N, G)) rfl ?_
    rw [k0]
    refine XP_n 3 (pc' := 22) (ls' := [.ref (0), .int (h), .int (v)]) (st' := [.int (nI (8)), .int (nI (cSt s))]) (M' := (I, J, Rx R, N, G)) rfl ?_
    refine XP_icN (x := cSt s) (y := 8) rfl (by omega) (by omega) (fun (b22 : cSt s < 8) => ?_) (fun (b22 : 8 ≤ cSt s) => absurd b22 (by omega))
    refine XP_n 4 (pc' := 29) (ls' := [.ref (0), .int (h), .int (v)]) (st' := [.int (I 0 11), .ref (78)]) (M' := (I, J, Rx R, N, G)) rfl ?_
    rw [k0]
    refine XP_n 1 (pc' := 30) (ls' := [.ref (0), .int (h), .int (v)]) (st' := [.int (h), .int (nI (cSt s)), .ref (78)]) (M' := (I, J, Rx R, N, G)) rfl ?_
    refine XP_iast rfl rfl (show cSt s < 8 by omega) rfl (by omega) ?_
    refine XP_n 4 (pc' := 35) (ls' := [.ref (0), .int (h), .int (v)]) (st' := [.int (I 0 11), .ref (79)]) (M' := ((rw2 I 78 (cSt s) (h)), J, Rx R, N, G)) rfl ?_
    rw [k0]
    refine XP_n 1 (pc' := 36) (ls' := [.ref (0), .int (h), .int (v)]) (st' := [.int (v), .int (nI (cSt s)), .ref (79)]) (M' := ((rw2 I 78 (cSt s) (h)), J, Rx R, N, G)) rfl ?_
    refine XP_iast rfl rfl (show cSt s < 8 by omega) rfl (by omega) ?_
    refine XP_n 3 (pc' := 40) (ls' := [.ref (0), .int (h), .int (v)]) (st' := [.int (I 0 11), .ref (0)]) (M' := ((rw2 (rw2 I 78 (cSt s) (h)) 79 (cSt s) (v)), J, Rx R, N, G)) rfl ?_
    rw [k0]
    refine XP_n 3 (pc' := 43) (ls' := [.ref (0), .int (h), .int (v)]) (st' := [.int ((nI (cSt s)) + (nI (1))), .ref (0), .int (nI (cSt s))]) (M' := ((rw2 (rw2 I 78 (cSt s) (h)) 79 (cSt s) (v)), J, Rx R, N, G)) rfl ?_
    rw [show (nI (cSt s)) + (nI (1)) = nI (cSt s + 1) from nI_addE (rfl) (rfl)]
    refine XP_n 1 (pc' := 44) (ls' := [.ref (0), .int (h), .int (v)]) (st' := [.int (nI (cSt s))]) (M' := ((rw2 (rw2 (rw2 I 78 (cSt s) (h)) 79 (cSt s) (v)) 0 11 (nI (cSt s + 1))), J, Rx R, N, G)) rfl ?_
    exact XP_ret rfl ⟨rfl, _, rfl, (StC_w (StC_w (StC_w hI.1.C rfl) rfl) rfl), agrl_Lk (s := s) ⟨fun k hk => by rw [rw2_ro (by omega), rw2_ro (by omega), rw2_ro (by omega)], rfl, rfl, rfl, fun e => e, rfl, rfl, rfl⟩ hI.2.2.1, agr_Cch (s := s) ⟨fun k h1 h2 => by rw [rw2_ro (by omega), rw2_ro (by omega), rw2_ro (by omega)], rfl, rfl, fun j hj => by rw [rw2_off (by omega), rw2_ro (by omega), rw2_ro (by omega)], rfl, rfl⟩ (Cch.w (Cch.w (Cch.w hI.2.2.2.1 hW.p.2 (by omega)) hW.p.2 (by omega)) hW.p.2 (by omega)), (FrM.w (FrM.w (FrM.w FrM.rf rfl) rfl) rfl)⟩
  · have k9 : I 99 19 = nI (cSt s) := (hS 99 19 99 19 rfl).trans hW.st.1
    unfold TP
    show XP X _ k_M_street 0 [.ref (99), .int (h), .int (v)] [] _ _
    refine XP_n 3 (pc' := 3) (ls' := [.ref (99), .int (h), .int (v)]) (st' := [.int (nI (60)), .int (nI (0)), .int (h)]) (M' := (I, J, Rx R, N, G)) rfl ?_
    refine XP_pure rfl rfl (w_M X _ _ 0 60 _) ?_
    refine XP_s rfl ?_
    refine XP_beq (fun b4 => absurd g0 b4) (fun b4 => ?_)
    refine XP_n 3 (pc' := 8) (ls' := [.ref (99), .int (h), .int (v)]) (st' := [.int (nI (999)), .int (nI (0)), .int (v)]) (M' := (I, J, Rx R, N, G)) rfl ?_
    refine XP_pure rfl rfl (w_M X _ _ 0 999 _) ?_
    refine XP_s rfl ?_
    refine XP_bne (fun b9 => ?_) (fun b9 => absurd g1 b9)
    refine XP_n 2 (pc' := 14) (ls' := [.ref (99), .int (h), .int (v)]) (st' := [.int (I 99 19)]) (M' := (I, J, Rx R, N, G)) rfl ?_
    rw [k9]
    refine XP_n 1 (pc' := 15) (ls' := [.ref (99), .int (h), .int (v)]) (st' := [.int (nI (8)), .int (nI (cSt s))]) (M' := (I, J, Rx R, N, G)) rfl ?_
    refine XP_icN (x := cSt s) (y := 8) rfl (by omega) (by omega) (fun (b15 : ¬ cSt s = 8) => ?_) (fun (b15 : cSt s = 8) => absurd b15 (by omega))
    refine XP_n 4 (pc' := 22) (ls' := [.ref (99), .int (h), .int (v)]) (st' := [.int (I 99 19), .ref (112)]) (M' := (I, J, Rx R, N, G)) rfl ?_
    rw [k9]
    refine XP_n 1 (pc' := 23) (ls' := [.ref (99), .int (h), .int (v)]) (st' := [.int (h), .int (nI (cSt s)), .ref (112)]) (M' := (I, J, Rx R, N, G)) rfl ?_
    refine XP_iast rfl rfl (show cSt s < 8 by omega) rfl (by omega) ?_
    refine XP_n 4 (pc' := 28) (ls' := [.ref (99), .int (h), .int (v)]) (st' := [.int (I 99 19), .ref (113)]) (M' := ((rw2 I 112 (cSt s) (h)), J, Rx R, N, G)) rfl ?_
    rw [k9]
    refine XP_n 1 (pc' := 29) (ls' := [.ref (99), .int (h), .int (v)]) (st' := [.int (v), .int (nI (cSt s)), .ref (113)]) (M' := ((rw2 I 112 (cSt s) (h)), J, Rx R, N, G)) rfl ?_
    refine XP_iast rfl rfl (show cSt s < 8 by omega) rfl (by omega) ?_
    refine XP_n 3 (pc' := 33) (ls' := [.ref (99), .int (h), .int (v)]) (st' := [.int (I 99 19), .ref (99)]) (M' := ((rw2 (rw2 I 112 (cSt s) (h)) 113 (cSt s) (v)), J, Rx R, N, G)) rfl ?_
    rw [k9]
    refine XP_n 2 (pc' := 35) (ls' := [.ref (99), .int (h), .int (v)]) (st' := [.int ((nI (cSt s)) + (nI (1))), .ref (99)]) (M' := ((rw2 (rw2 I 112 (cSt s) (h)) 113 (cSt s) (v)), J, Rx R, N, G)) rfl ?_
    rw [show (nI (cSt s)) + (nI (1)) = nI (cSt s + 1) from nI_addE (rfl) (rfl)]
    refine XP_n 5 (pc' := 40) (ls' := [.ref (99), .int (h), .int (v)]) (st' := [.int ((nI (cSt s + 1)) - (nI (1)))]) (M' := ((rw2 (rw2 (rw2 I 112 (cSt s) (h)) 113 (cSt s) (v)) 99 19 (nI (cSt s + 1))), J, Rx R, N, G)) rfl ?_
    rw [show (nI (cSt s + 1)) - (nI (1)) = nI (cSt s + 1 - 1) from nI_subE (rfl) (rfl) (by omega)]
    exact XP_ret rfl ⟨rfl, _, rfl, (StM_w (StM_w (StM_w hS rfl) rfl) rfl), (FrC.w (FrC.w (FrC.w FrC.rf rfl) rfl) rfl)⟩
