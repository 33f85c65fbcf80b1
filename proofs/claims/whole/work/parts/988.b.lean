/-! setters: rule, whole -/
theorem s_rule {s : Nat → Nat → Int32} (hW : Wf s) (hch : iN 0 1000000 (s 1 15)) (k mo re sh : Int32) : SetG 20 n_H_rule n_M_rule [.int k, .int mo, .int re, .int sh] s := by
  obtain ⟨hc1, hc2⟩ := ch_n hch
  have hr8 := hW.r.2
  by_cases g3 : ¬ re < 0
  rotate_left
  · skip
    refine ⟨cI (-2), s, hW, ⟨_, hc1, Nat.le_refl _, by omega⟩, fun X d I J R N G hI hG => ?_, fun X d I J R N G hS hD => ?_⟩
    · unfold TP
      show XP X _ k_H_rule 0 [.ref (0), .int (k), .int (mo), .int (re), .int (sh), xj] [] _ _
      refine XP_n 3 (pc' := 3) (ls' := [.ref (0), .int (k), .int (mo), .int (re), .int (sh), xj]) (st' := [.int (nI (5)), .int (nI (0)), .int (k)]) (M' := (I, J, Rx R, N, G)) rfl ?_
      refine XP_pure rfl rfl (w_H X _ _ 0 5 _) ?_
      refine XP_s rfl ?_
      refine XP_beq (fun (b4 : ¬ (iv 0 5 (k))) => ?_) (fun (b4 : iv 0 5 (k)) => ?_)
      · refine XP_n 1 (pc' := 13) (ls' := [.ref (0), .int (k), .int (mo), .int (re), .int (sh), xj]) (st' := [.int (cI (-2))]) (M' := (I, J, Rx R, N, G)) rfl ?_
        exact XP_ret rfl ⟨rfl, _, _, _, _, _, rfl, hI.1.C, hI.2.2.1, hI.2.2.2.1, FrM.rf, hG⟩
      · refine XP_n 3 (pc' := 8) (ls' := [.ref (0), .int (k), .int (mo), .int (re), .int (sh), xj]) (st' := [.int (nI (1000)), .int (nI (0)), .int (mo)]) (M' := (I, J, Rx R, N, G)) rfl ?_
        refine XP_pure rfl rfl (w_H X _ _ 0 1000 _) ?_
        refine XP_s rfl ?_
        refine XP_beq (fun (b9 : ¬ (iv 0 1000 (mo))) => ?_) (fun (b9 : iv 0 1000 (mo)) => ?_)
        · refine XP_n 1 (pc' := 13) (ls' := [.ref (0), .int (k), .int (mo), .int (re), .int (sh), xj]) (st' := [.int (cI (-2))]) (M' := (I, J, Rx R, N, G)) rfl ?_
          exact XP_ret rfl ⟨rfl, _, _, _, _, _, rfl, hI.1.C, hI.2.2.1, hI.2.2.2.1, FrM.rf, hG⟩
        · refine XP_n 1 (pc' := 11) (ls' := [.ref (0), .int (k), .int (mo), .int (re), .int (sh), xj]) (st' := [.int (re)]) (M' := (I, J, Rx R, N, G)) rfl ?_
          refine XP_ifD rfl (fun (b11 : 0 ≤ re) => absurd b11 (by first | exact (Classical.not_not.mp g3) | exact fun z => z (Classical.not_not.mp g3) | exact Int32.not_le.mpr (Classical.not_not.mp g3) | exact Int32.not_lt.mpr (Int32.not_lt.mp (Classical.not_not.mp g3)) | omega)) (fun (b11 : re < 0) => ?_)
          have n11 := Int32.not_le.mpr b11
          refine XP_n 1 (pc' := 13) (ls' := [.ref (0), .int (k), .int (mo), .int (re), .int (sh), xj]) (st' := [.int (cI (-2))]) (M' := (I, J, Rx R, N, G)) rfl ?_
          exact XP_ret rfl ⟨rfl, _, _, _, _, _, rfl, hI.1.C, hI.2.2.1, hI.2.2.2.1, FrM.rf, hG⟩
    · unfold TP
      show XP X _ k_M_rule 0 [.ref (99), .int (k), .int (mo), .int (re), .int (sh), xj, xj, xj] [] _ _
      refine XP_n 1 (pc' := 1) (ls' := [.ref (99), .int (k), .int (mo), .int (re), .int (sh), xj, xj, xj]) (st' := [.int (re)]) (M' := (I, J, Rx R, N, G)) rfl ?_
      refine XP_ifD rfl (fun (b1 : re < 0) => ?_) (fun (b1 : 0 ≤ re) => absurd b1 (by first | exact (Classical.not_not.mp g3) | exact fun z => z (Classical.not_not.mp g3) | exact Int32.not_le.mpr (Classical.not_not.mp g3) | exact Int32.not_lt.mpr (Int32.not_lt.mp (Classical.not_not.mp g3)) | omega))
      have n1 := Int32.not_le.mpr b1
      refine XP_n 5 (pc' := 19) (ls' := [.ref (99), .int (k), .int (mo), .int (re), .int (sh), .int (nI (0)), xj, xj]) (st' := [.int (nI (5)), .int (nI (0)), .int (k)]) (M' := (I, J, Rx R, N, G)) rfl ?_
      refine XP_pure rfl rfl (w_M X _ _ 0 5 _) ?_
      refine XP_s rfl ?_
      refine XP_beq (fun (b20 : ¬ (iv 0 5 (k))) => ?_) (fun (b20 : iv 0 5 (k)) => ?_)
      · refine XP_n 1 (pc' := 37) (ls' := [.ref (99), .int (k), .int (mo), .int (re), .int (sh), .int (nI (0)), xj, xj]) (st' := [.int (cI (-2))]) (M' := (I, J, Rx R, N, G)) rfl ?_
        exact XP_ret rfl ⟨rfl, _, rfl, hS, FrC.rf⟩
      · refine XP_n 3 (pc' := 24) (ls' := [.ref (99), .int (k), .int (mo), .int (re), .int (sh), .int (nI (0)), xj, xj]) (st' := [.int (nI (1000)), .int (nI (0)), .int (mo)]) (M' := (I, J, Rx R, N, G)) rfl ?_
        refine XP_pure rfl rfl (w_M X _ _ 0 1000 _) ?_
        refine XP_s rfl ?_
        refine XP_beq (fun (b25 : ¬ (iv 0 1000 (mo))) => ?_) (fun (b25 : iv 0 1000 (mo)) => ?_)
        · refine XP_n 1 (pc' := 37) (ls' := [.ref (99), .int (k), .int (mo), .int (re), .int (sh), .int (nI (0)), xj, xj]) (st' := [.int (cI (-2))]) (M' := (I, J, Rx R, N, G)) rfl ?_
          exact XP_ret rfl ⟨rfl, _, rfl, hS, FrC.rf⟩
        · refine XP_n 1 (pc' := 27) (ls' := [.ref (99), .int (k), .int (mo), .int (re), .int (sh), .int (nI (0)), xj, xj]) (st' := [.int (nI (0))]) (M' := (I, J, Rx R, N, G)) rfl ?_
          refine XP_ifN (x := 0)  rfl (by omega) (fun (b27 : 0 = 0) => ?_) (fun (b27 : ¬ 0 = 0) => absurd b27 (by omega))
          refine XP_n 1 (pc' := 37) (ls' := [.ref (99), .int (k), .int (mo), .int (re), .int (sh), .int (nI (0)), xj, xj]) (st' := [.int (cI (-2))]) (M' := (I, J, Rx R, N, G)) rfl ?_
          exact XP_ret rfl ⟨rfl, _, rfl, hS, FrC.rf⟩
  obtain ⟨re, hre, rfl⟩ := nn_nat g3
  by_cases g4 : re / 100 ≤ 9
  rotate_left
  · skip
    refine ⟨cI (-2), s, hW, ⟨_, hc1, Nat.le_refl _, by omega⟩, fun X d I J R N G hI hG => ?_, fun X d I J R N G hS hD => ?_⟩
    · unfold TP
      show XP X _ k_H_rule 0 [.ref (0), .int (k), .int (mo), .int (nI (re)), .int (sh), xj] [] _ _
      refine XP_n 3 (pc' := 3) (ls' := [.ref (0), .int (k), .int (mo), .int (nI (re)), .int (sh), xj]) (st' := [.int (nI (5)), .int (nI (0)), .int (k)]) (M' := (I, J, Rx R, N, G)) rfl ?_
      refine XP_pure rfl rfl (w_H X _ _ 0 5 _) ?_
      refine XP_s rfl ?_
      refine XP_beq (fun (b4 : ¬ (iv 0 5 (k))) => ?_) (fun (b4 : iv 0 5 (k)) => ?_)
      · refine XP_n 1 (pc' := 13) (ls' := [.ref (0), .int (k), .int (mo), .int (nI (re)), .int (sh), xj]) (st' := [.int (cI (-2))]) (M' := (I, J, Rx R, N, G)) rfl ?_
        exact XP_ret rfl ⟨rfl, _, _, _, _, _, rfl, hI.1.C, hI.2.2.1, hI.2.2.2.1, FrM.rf, hG⟩
      · refine XP_n 3 (pc' := 8) (ls' := [.ref (0), .int (k), .int (mo), .int (nI (re)), .int (sh), xj]) (st' := [.int (nI (1000)), .int (nI (0)), .int (mo)]) (M' := (I, J, Rx R, N, G)) rfl ?_
        refine XP_pure rfl rfl (w_H X _ _ 0 1000 _) ?_
        refine XP_s rfl ?_
        refine XP_beq (fun (b9 : ¬ (iv 0 1000 (mo))) => ?_) (fun (b9 : iv 0 1000 (mo)) => ?_)
        · refine XP_n 1 (pc' := 13) (ls' := [.ref (0), .int (k), .int (mo), .int (nI (re)), .int (sh), xj]) (st' := [.int (cI (-2))]) (M' := (I, J, Rx R, N, G)) rfl ?_
          exact XP_ret rfl ⟨rfl, _, _, _, _, _, rfl, hI.1.C, hI.2.2.1, hI.2.2.2.1, FrM.rf, hG⟩
        · refine XP_n 1 (pc' := 11) (ls' := [.ref (0), .int (k), .int (mo), .int (nI (re)), .int (sh), xj]) (st' := [.int (nI (re))]) (M' := (I, J, Rx R, N, G)) rfl ?_
          refine XP_ifN (x := re)  rfl (by omega) (fun (b11 : 0 ≤ re) => ?_) (fun (b11 : re < 0) => absurd b11 (by omega))
          refine XP_n 2 (pc' := 16) (ls' := [.ref (0), .int (k), .int (mo), .int (nI (re)), .int (sh), xj]) (st' := [.int (nI (100)), .int (nI (re))]) (M' := (I, J, Rx R, N, G)) rfl ?_
          refine XP_idivN (a := re) (b := 100) rfl (by omega) (by omega) (by omega) ?_
          refine XP_n 1 (pc' := 18) (ls' := [.ref (0), .int (k), .int (mo), .int (nI (re)), .int (sh), xj]) (st' := [.int (nI (9)), .int (nI ((re) / (100)))]) (M' := (I, J, Rx R, N, G)) rfl ?_
          refine XP_icN (x := (re) / (100)) (y := 9) rfl (by omega) (by omega) (fun (b18 : 9 < (re) / (100)) => ?_) (fun (b18 : (re) / (100) ≤ 9) => absurd b18 (by omega))
          refine XP_n 1 (pc' := 25) (ls' := [.ref (0), .int (k), .int (mo), .int (nI (re)), .int (sh), xj]) (st' := [.int (cI (-2))]) (M' := (I, J, Rx R, N, G)) rfl ?_
          exact XP_ret rfl ⟨rfl, _, _, _, _, _, rfl, hI.1.C, hI.2.2.1, hI.2.2.2.1, FrM.rf, hG⟩
    · unfold TP
      show XP X _ k_M_rule 0 [.ref (99), .int (k), .int (mo), .int (nI (re)), .int (sh), xj, xj, xj] [] _ _
      refine XP_n 1 (pc' := 1) (ls' := [.ref (99), .int (k), .int (mo), .int (nI (re)), .int (sh), xj, xj, xj]) (st' := [.int (nI (re))]) (M' := (I, J, Rx R, N, G)) rfl ?_
      refine XP_ifN (x := re)  rfl (by omega) (fun (b1 : re < 0) => absurd b1 (by omega)) (fun (b1 : 0 ≤ re) => ?_)
      refine XP_n 2 (pc' := 4) (ls' := [.ref (99), .int (k), .int (mo), .int (nI (re)), .int (sh), xj, xj, xj]) (st' := [.int (nI (100)), .int (nI (re))]) (M' := (I, J, Rx R, N, G)) rfl ?_
      refine XP_idivN (a := re) (b := 100) rfl (by omega) (by omega) (by omega) ?_
      refine XP_n 1 (pc' := 6) (ls' := [.ref (99), .int (k), .int (mo), .int (nI (re)), .int (sh), xj, xj, xj]) (st' := [.int (nI (9)), .int (nI ((re) / (100)))]) (M' := (I, J, Rx R, N, G)) rfl ?_
      refine XP_icN (x := (re) / (100)) (y := 9) rfl (by omega) (by omega) (fun (b6 : 9 < (re) / (100)) => ?_) (fun (b6 : (re) / (100) ≤ 9) => absurd b6 (by omega))
      refine XP_n 5 (pc' := 19) (ls' := [.ref (99), .int (k), .int (mo), .int (nI (re)), .int (sh), .int (nI (0)), xj, xj]) (st' := [.int (nI (5)), .int (nI (0)), .int (k)]) (M' := (I, J, Rx R, N, G)) rfl ?_
      refine XP_pure rfl rfl (w_M X _ _ 0 5 _) ?_
      refine XP_s rfl ?_
      refine XP_beq (fun (b20 : ¬ (iv 0 5 (k))) => ?_) (fun (b20 : iv 0 5 (k)) => ?_)
      · refine XP_n 1 (pc' := 37) (ls' := [.ref (99), .int (k), .int (mo), .int (nI (re)), .int (sh), .int (nI (0)), xj, xj]) (st' := [.int (cI (-2))]) (M' := (I, J, Rx R, N, G)) rfl ?_
        exact XP_ret rfl ⟨rfl, _, rfl, hS, FrC.rf⟩
      · refine XP_n 3 (pc' := 24) (ls' := [.ref (99), .int (k), .int (mo), .int (nI (re)), .int (sh), .int (nI (0)), xj, xj]) (st' := [.int (nI (1000)), .int (nI (0)), .int (mo)]) (M' := (I, J, Rx R, N, G)) rfl ?_
        refine XP_pure rfl rfl (w_M X _ _ 0 1000 _) ?_
        refine XP_s rfl ?_
        refine XP_beq (fun (b25 : ¬ (iv 0 1000 (mo))) => ?_) (fun (b25 : iv 0 1000 (mo)) => ?_)
        · refine XP_n 1 (pc' := 37) (ls' := [.ref (99), .int (k), .int (mo), .int (nI (re)), .int (sh), .int (nI (0)), xj, xj]) (st' := [.int (cI (-2))]) (M' := (I, J, Rx R, N, G)) rfl ?_
          exact XP_ret rfl ⟨rfl, _, rfl, hS, FrC.rf⟩
        · refine XP_n 1 (pc' := 27) (ls' := [.ref (99), .int (k), .int (mo), .int (nI (re)), .int (sh), .int (nI (0)), xj, xj]) (st' := [.int (nI (0))]) (M' := (I, J, Rx R, N, G)) rfl ?_
          refine XP_ifN (x := 0)  rfl (by omega) (fun (b27 : 0 = 0) => ?_) (fun (b27 : ¬ 0 = 0) => absurd b27 (by omega))
          refine XP_n 1 (pc' := 37) (ls' := [.ref (99), .int (k), .int (mo), .int (nI (re)), .int (sh), .int (nI (0)), xj, xj]) (st' := [.int (cI (-2))]) (M' := (I, J, Rx R, N, G)) rfl ?_
          exact XP_ret rfl ⟨rfl, _, rfl, hS, FrC.rf⟩
  by_cases g5 : re % 100 ≤ 20
  rotate_left
  · skip
    refine ⟨cI (-2), s, hW, ⟨_, hc1, Nat.le_refl _, by omega⟩, fun X d I J R N G hI hG => ?_, fun X d I J R N G hS hD => ?_⟩
    · unfold TP
      show XP X _ k_H_rule 0 [.ref (0), .int (k), .int (mo), .int (nI (re)), .int (sh), xj] [] _ _
      refine XP_n 3 (pc' := 3) (ls' := [.ref (0), .int (k), .int (mo), .int (nI (re)), .int (sh), xj]) (st' := [.int (nI (5)), .int (nI (0)), .int (k)]) (M' := (I, J, Rx R, N, G)) rfl ?_
      refine XP_pure rfl rfl (w_H X _ _ 0 5 _) ?_
      refine XP_s rfl ?_
      refine XP_beq (fun (b4 : ¬ (iv 0 5 (k))) => ?_) (fun (b4 : iv 0 5 (k)) => ?_)
      · refine XP_n 1 (pc' := 13) (ls' := [.ref (0), .int (k), .int (mo), .int (nI (re)), .int (sh), xj]) (st' := [.int (cI (-2))]) (M' := (I, J, Rx R, N, G)) rfl ?_
        exact XP_ret rfl ⟨rfl, _, _, _, _, _, rfl, hI.1.C, hI.2.2.1, hI.2.2.2.1, FrM.rf, hG⟩
      · refine XP_n 3 (pc' := 8) (ls' := [.ref (0), .int (k), .int (mo), .int (nI (re)), .int (sh), xj]) (st' := [.int (nI (1000)), .int (nI (0)), .int (mo)]) (M' := (I, J, Rx R, N, G)) rfl ?_
        refine XP_pure rfl rfl (w_H X _ _ 0 1000 _) ?_
        refine XP_s rfl ?_
        refine XP_beq (fun (b9 : ¬ (iv 0 1000 (mo))) => ?_) (fun (b9 : iv 0 1000 (mo)) => ?_)
        · refine XP_n 1 (pc' := 13) (ls' := [.ref (0), .int (k), .int (mo), .int (nI (re)), .int (sh), xj]) (st' := [.int (cI (-2))]) (M' := (I, J, Rx R, N, G)) rfl ?_
          exact XP_ret rfl ⟨rfl, _, _, _, _, _, rfl, hI.1.C, hI.2.2.1, hI.2.2.2.1, FrM.rf, hG⟩
        · refine XP_n 1 (pc' := 11) (ls' := [.ref (0), .int (k), .int (mo), .int (nI (re)), .int (sh), xj]) (st' := [.int (nI (re))]) (M' := (I, J, Rx R, N, G)) rfl ?_
          refine XP_ifN (x := re)  rfl (by omega) (fun (b11 : 0 ≤ re) => ?_) (fun (b11 : re < 0) => absurd b11 (by omega))
          refine XP_n 2 (pc' := 16) (ls' := [.ref (0), .int (k), .int (mo), .int (nI (re)), .int (sh), xj]) (st' := [.int (nI (100)), .int (nI (re))]) (M' := (I, J, Rx R, N, G)) rfl ?_
          refine XP_idivN (a := re) (b := 100) rfl (by omega) (by omega) (by omega) ?_
          refine XP_n 1 (pc' := 18) (ls' := [.ref (0), .int (k), .int (mo), .int (nI (re)), .int (sh), xj]) (st' := [.int (nI (9)), .int (nI ((re) / (100)))]) (M' := (I, J, Rx R, N, G)) rfl ?_
          refine XP_icN (x := (re) / (100)) (y := 9) rfl (by omega) (by omega) (fun (b18 : 9 < (re) / (100)) => absurd b18 (by omega)) (fun (b18 : (re) / (100) ≤ 9) => ?_)
          refine XP_n 2 (pc' := 21) (ls' := [.ref (0), .int (k), .int (mo), .int (nI (re)), .int (sh), xj]) (st' := [.int (nI (100)), .int (nI (re))]) (M' := (I, J, Rx R, N, G)) rfl ?_
          refine XP_iremN (a := re) (b := 100) rfl (by omega) (by omega) (by omega) ?_
          refine XP_n 1 (pc' := 23) (ls' := [.ref (0), .int (k), .int (mo), .int (nI (re)), .int (sh), xj]) (st' := [.int (nI (20)), .int (nI ((re) % (100)))]) (M' := (I, J, Rx R, N, G)) rfl ?_
          refine XP_icN (x := (re) % (100)) (y := 20) rfl (by omega) (by omega) (fun (b23 : (re) % (100) ≤ 20) => absurd b23 (by omega)) (fun (b23 : 20 < (re) % (100)) => ?_)
          refine XP_n 1 (pc' := 25) (ls' := [.ref (0), .int (k), .int (mo), .int (nI (re)), .int (sh), xj]) (st' := [.int (cI (-2))]) (M' := (I, J, Rx R, N, G)) rfl ?_
          exact XP_ret rfl ⟨rfl, _, _, _, _, _, rfl, hI.1.C, hI.2.2.1, hI.2.2.2.1, FrM.rf, hG⟩
    · unfold TP
      show XP X _ k_M_rule 0 [.ref (99), .int (k), .int (mo), .int (nI (re)), .int (sh), xj, xj, xj] [] _ _
      refine XP_n 1 (pc' := 1) (ls' := [.ref (99), .int (k), .int (mo), .int (nI (re)), .int (sh), xj, xj, xj]) (st' := [.int (nI (re))]) (M' := (I, J, Rx R, N, G)) rfl ?_
      refine XP_ifN (x := re)  rfl (by omega) (fun (b1 : re < 0) => absurd b1 (by omega)) (fun (b1 : 0 ≤ re) => ?_)
      refine XP_n 2 (pc' := 4) (ls' := [.ref (99), .int (k), .int (mo), .int (nI (re)), .int (sh), xj, xj, xj]) (st' := [.int (nI (100)), .int (nI (re))]) (M' := (I, J, Rx R, N, G)) rfl ?_
      refine XP_idivN (a := re) (b := 100) rfl (by omega) (by omega) (by omega) ?_
      refine XP_n 1 (pc' := 6) (ls' := [.ref (99), .int (k), .int (mo), .int (nI (re)), .int (sh), xj, xj, xj]) (st' := [.int (nI (9)), .int (nI ((re) / (100)))]) (M' := (I, J, Rx R, N, G)) rfl ?_
      refine XP_icN (x := (re) / (100)) (y := 9) rfl (by omega) (by omega) (fun (b6 : 9 < (re) / (100)) => absurd b6 (by omega)) (fun (b6 : (re) / (100) ≤ 9) => ?_)
      refine XP_n 2 (pc' := 9) (ls' := [.ref (99), .int (k), .int (mo), .int (nI (re)), .int (sh), xj, xj, xj]) (st' := [.int (nI (100)), .int (nI (re))]) (M' := (I, J, Rx R, N, G)) rfl ?_
      refine XP_iremN (a := re) (b := 100) rfl (by omega) (by omega) (by omega) ?_
      refine XP_n 1 (pc' := 11) (ls' := [.ref (99), .int (k), .int (mo), .int (nI (re)), .int (sh), xj, xj, xj]) (st' := [.int (nI (20)), .int (nI ((re) % (100)))]) (M' := (I, J, Rx R, N, G)) rfl ?_
      refine XP_icN (x := (re) % (100)) (y := 20) rfl (by omega) (by omega) (fun (b11 : 20 < (re) % (100)) => ?_) (fun (b11 : (re) % (100) ≤ 20) => absurd b11 (by omega))
      refine XP_n 5 (pc' := 19) (ls' := [.ref (99), .int (k), .int (mo), .int (nI (re)), .int (sh), .int (nI (0)), xj, xj]) (st' := [.int (nI (5)), .int (nI (0)), .int (k)]) (M' := (I, J, Rx R, N, G)) rfl ?_
      refine XP_pure rfl rfl (w_M X _ _ 0 5 _) ?_
      refine XP_s rfl ?_
      refine XP_beq (fun (b20 : ¬ (iv 0 5 (k))) => ?_) (fun (b20 : iv 0 5 (k)) => ?_)
      · refine XP_n 1 (pc' := 37) (ls' := [.ref (99), .int (k), .int (mo), .int (nI (re)), .int (sh), .int (nI (0)), xj, xj]) (st' := [.int (cI (-2))]) (M' := (I, J, Rx R, N, G)) rfl ?_
        exact XP_ret rfl ⟨rfl, _, rfl, hS, FrC.rf⟩
      · refine XP_n 3 (pc' := 24) (ls' := [.ref (99), .int (k), .int (mo), .int (nI (re)), .int (sh), .int (nI (0)), xj, xj]) (st' := [.int (nI (1000)), .int (nI (0)), .int (mo)]) (M' := (I, J, Rx R, N, G)) rfl ?_
        refine XP_pure rfl rfl (w_M X _ _ 0 1000 _) ?_
        refine XP_s rfl ?_
        refine XP_beq (fun (b25 : ¬ (iv 0 1000 (mo))) => ?_) (fun (b25 : iv 0 1000 (mo)) => ?_)
        · refine XP_n 1 (pc' := 37) (ls' := [.ref (99), .int (k), .int (mo), .int (nI (re)), .int (sh), .int (nI (0)), xj, xj]) (st' := [.int (cI (-2))]) (M' := (I, J, Rx R, N, G)) rfl ?_
          exact XP_ret rfl ⟨rfl, _, rfl, hS, FrC.rf⟩
        · refine XP_n 1 (pc' := 27) (ls' := [.ref (99), .int (k), .int (mo), .int (nI (re)), .int (sh), .int (nI (0)), xj, xj]) (st' := [.int (nI (0))]) (M' := (I, J, Rx R, N, G)) rfl ?_
          refine XP_ifN (x := 0)  rfl (by omega) (fun (b27 : 0 = 0) => ?_) (fun (b27 : ¬ 0 = 0) => absurd b27 (by omega))
          refine XP_n 1 (pc' := 37) (ls' := [.ref (99), .int (k), .int (mo), .int (nI (re)), .int (sh), .int (nI (0)), xj, xj]) (st' := [.int (cI (-2))]) (M' := (I, J, Rx R, N, G)) rfl ?_
          exact XP_ret rfl ⟨rfl, _, rfl, hS, FrC.rf⟩
  by_cases g0 : iv 0 5 k
  rotate_left
  · skip
    refine ⟨cI (-2), s, hW, ⟨_, hc1, Nat.le_refl _, by omega⟩, fun X d I J R N G hI hG => ?_, fun X d I J R N G hS hD => ?_⟩
    · unfold TP
      show XP X _ k_H_rule 0 [.ref (0), .int (k), .int (mo), .int (nI (re)), .int (sh), xj] [] _ _
      refine XP_n 3 (pc' := 3) (ls' := [.ref (0), .int (k), .int (mo), .int (nI (re)), .int (sh), xj]) (st' := [.int (nI (5)), .int (nI (0)), .int (k)]) (M' := (I, J, Rx R, N, G)) rfl ?_
      refine XP_pure rfl rfl (w_H X _ _ 0 5 _) ?_
      refine XP_s rfl ?_
      refine XP_beq (fun b4 => ?_) (fun b4 => absurd b4 g0)
      refine XP_n 1 (pc' := 13) (ls' := [.ref (0), .int (k), .int (mo), .int (nI (re)), .int (sh), xj]) (st' := [.int (cI (-2))]) (M' := (I, J, Rx R, N, G)) rfl ?_
      exact XP_ret rfl ⟨rfl, _, _, _, _, _, rfl, hI.1.C, hI.2.2.1, hI.2.2.2.1, FrM.rf, hG⟩
    · unfold TP
      show XP X _ k_M_rule 0 [.ref (99), .int (k), .int (mo), .int (nI (re)), .int (sh), xj, xj, xj] [] _ _
      refine XP_n 1 (pc' := 1) (ls' := [.ref (99), .int (k), .int (mo), .int (nI (re)), .int (sh), xj, xj, xj]) (st' := [.int (nI (re))]) (M' := (I, J, Rx R, N, G)) rfl ?_
      refine XP_ifN (x := re)  rfl (by omega) (fun (b1 : re < 0) => absurd b1 (by omega)) (fun (b1 : 0 ≤ re) => ?_)
      refine XP_n 2 (pc' := 4) (ls' := [.ref (99), .int (k), .int (mo), .int (nI (re)), .int (sh), xj, xj, xj]) (st' := [.int (nI (100)), .int (nI (re))]) (M' := (I, J, Rx R, N, G)) rfl ?_
      refine XP_idivN (a := re) (b := 100) rfl (by omega) (by omega) (by omega) ?_
      refine XP_n 1 (pc' := 6) (ls' := [.ref (99), .int (k), .int (mo), .int (nI (re)), .int (sh), xj, xj, xj]) (st' := [.int (nI (9)), .int (nI ((re) / (100)))]) (M' := (I, J, Rx R, N, G)) rfl ?_
      refine XP_icN (x := (re) / (100)) (y := 9) rfl (by omega) (by omega) (fun (b6 : 9 < (re) / (100)) => absurd b6 (by omega)) (fun (b6 : (re) / (100) ≤ 9) => ?_)
      refine XP_n 2 (pc' := 9) (ls' := [.ref (99), .int (k), .int (mo), .int (nI (re)), .int (sh), xj, xj, xj]) (st' := [.int (nI (100)), .int (nI (re))]) (M' := (I, J, Rx R, N, G)) rfl ?_
      refine XP_iremN (a := re) (b := 100) rfl (by omega) (by omega) (by omega) ?_
      refine XP_n 1 (pc' := 11) (ls' := [.ref (99), .int (k), .int (mo), .int (nI (re)), .int (sh), xj, xj, xj]) (st' := [.int (nI (20)), .int (nI ((re) % (100)))]) (M' := (I, J, Rx R, N, G)) rfl ?_
      refine XP_icN (x := (re) % (100)) (y := 20) rfl (by omega) (by omega) (fun (b11 : 20 < (re) % (100)) => absurd b11 (by omega)) (fun (b11 : (re) % (100) ≤ 20) => ?_)
      refine XP_n 6 (pc' := 19) (ls' := [.ref (99), .int (k), .int (mo), .int (nI (re)), .int (sh), .int (nI (1)), xj, xj]) (st' := [.int (nI (5)), .int (nI (0)), .int (k)]) (M' := (I, J, Rx R, N, G)) rfl ?_
      refine XP_pure rfl rfl (w_M X _ _ 0 5 _) ?_
      refine XP_s rfl ?_
      refine XP_beq (fun b20 => ?_) (fun b20 => absurd b20 g0)
      refine XP_n 1 (pc' := 37) (ls' := [.ref (99), .int (k), .int (mo), .int (nI (re)), .int (sh), .int (nI (1)), xj, xj]) (st' := [.int (cI (-2))]) (M' := (I, J, Rx R, N, G)) rfl ?_
      exact XP_ret rfl ⟨rfl, _, rfl, hS, FrC.rf⟩
  obtain ⟨kn, -, hkn, rfl, -⟩ := iv_nat g0 (by omega) (by omega)
  by_cases g1 : iv 0 1000 mo
  rotate_left
  · skip
    refine ⟨cI (-2), s, hW, ⟨_, hc1, Nat.le_refl _, by omega⟩, fun X d I J R N G hI hG => ?_, fun X d I J R N G hS hD => ?_⟩
    · unfold TP
      show XP X _ k_H_rule 0 [.ref (0), .int (nI (kn)), .int (mo), .int (nI (re)), .int (sh), xj] [] _ _
      refine XP_n 3 (pc' := 3) (ls' := [.ref (0), .int (nI (kn)), .int (mo), .int (nI (re)), .int (sh), xj]) (st' := [.int (nI (5)), .int (nI (0)), .int (nI (kn))]) (M' := (I, J, Rx R, N, G)) rfl ?_
      refine XP_pure rfl rfl (w_H X _ _ 0 5 _) ?_
      refine XP_s rfl ?_
      refine XP_beq (fun b4 => absurd g0 b4) (fun b4 => ?_)
      refine XP_n 3 (pc' := 8) (ls' := [.ref (0), .int (nI (kn)), .int (mo), .int (nI (re)), .int (sh), xj]) (st' := [.int (nI (1000)), .int (nI (0)), .int (mo)]) (M' := (I, J, Rx R, N, G)) rfl ?_
      refine XP_pure rfl rfl (w_H X _ _ 0 1000 _) ?_
      refine XP_s rfl ?_
      refine XP_beq (fun b9 => ?_) (fun b9 => absurd b9 g1)
      refine XP_n 1 (pc' := 13) (ls' := [.ref (0), .int (nI (kn)), .int (mo), .int (nI (re)), .int (sh), xj]) (st' := [.int (cI (-2))]) (M' := (I, J, Rx R, N, G)) rfl ?_
      exact XP_ret rfl ⟨rfl, _, _, _, _, _, rfl, hI.1.C, hI.2.2.1, hI.2.2.2.1, FrM.rf, hG⟩
    · unfold TP
      show XP X _ k_M_rule 0 [.ref (99), .int (nI (kn)), .int (mo), .int (nI (re)), .int (sh), xj, xj, xj] [] _ _
      refine XP_n 1 (pc' := 1) (ls' := [.ref (99), .int (nI (kn)), .int (mo), .int (nI (re)), .int (sh), xj, xj, xj]) (st' := [.int (nI (re))]) (M' := (I, J, Rx R, N, G)) rfl ?_
      refine XP_ifN (x := re)  rfl (by omega) (fun (b1 : re < 0) => absurd b1 (by omega)) (fun (b1 : 0 ≤ re) => ?_)
      refine XP_n 2 (pc' := 4) (ls' := [.ref (99), .int (nI (kn)), .int (mo), .int (nI (re)), .int (sh), xj, xj, xj]) (st' := [.int (nI (100)), .int (nI (re))]) (M' := (I, J, Rx R, N, G)) rfl ?_
      refine XP_idivN (a := re) (b := 100) rfl (by omega) (by omega) (by omega) ?_
      refine XP_n 1 (pc' := 6) (ls' := [.ref (99), .int (nI (kn)), .int (mo), .int (nI (re)), .int (sh), xj, xj, xj]) (st' := [.int (nI (9)), .int (nI ((re) / (100)))]) (M' := (I, J, Rx R, N, G)) rfl ?_
      refine XP_icN (x := (re) / (100)) (y := 9) rfl (by omega) (by omega) (fun (b6 : 9 < (re) / (100)) => absurd b6 (by omega)) (fun (b6 : (re) / (100) ≤ 9) => ?_)
      refine XP_n 2 (pc' := 9) (ls' := [.ref (99), .int (nI (kn)), .int (mo), .int (nI (re)), .int (sh), xj, xj, xj]) (st' := [.int (nI (100)), .int (nI (re))]) (M' := (I, J, Rx R, N, G)) rfl ?_
      refine XP_iremN (a := re) (b := 100) rfl (by omega) (by omega) (by omega) ?_
      refine XP_n 1 (pc' := 11) (ls' := [.ref (99), .int (nI (kn)), .int (mo), .int (nI (re)), .int (sh), xj, xj, xj]) (st' := [.int (nI (20)), .int (nI ((re) % (100)))]) (M' := (I, J, Rx R, N, G)) rfl ?_
      refine XP_icN (x := (re) % (100)) (y := 20) rfl (by omega) (by omega) (fun (b11 : 20 < (re) % (100)) => absurd b11 (by omega)) (fun (b11 : (re) % (100) ≤ 20) => ?_)
      refine XP_n 6 (pc' := 19) (ls' := [.ref (99), .int (nI (kn)), .int (mo), .int (nI (re)), .int (sh), .int (nI (1)), xj, xj]) (st' := [.int (nI (5)), .int (nI (0)), .int (nI (kn))]) (M' := (I, J, Rx R, N, G)) rfl ?_
      refine XP_pure rfl rfl (w_M X _ _ 0 5 _) ?_
      refine XP_s rfl ?_
      refine XP_beq (fun b20 => absurd g0 b20) (fun b20 => ?_)
      refine XP_n 3 (pc' := 24) (ls' := [.ref (99), .int (nI (kn)), .int (mo), .int (nI (re)), .int (sh), .int (nI (1)), xj, xj]) (st' := [.int (nI (1000)), .int (nI (0)), .int (mo)]) (M' := (I, J, Rx R, N, G)) rfl ?_
      refine XP_pure rfl rfl (w_M X _ _ 0 1000 _) ?_
      refine XP_s rfl ?_
      refine XP_beq (fun b25 => ?_) (fun b25 => absurd b25 g1)
      refine XP_n 1 (pc' := 37) (ls' := [.ref (99), .int (nI (kn)), .int (mo), .int (nI (re)), .int (sh), .int (nI (1)), xj, xj]) (st' := [.int (cI (-2))]) (M' := (I, J, Rx R, N, G)) rfl ?_
      exact XP_ret rfl ⟨rfl, _, rfl, hS, FrC.rf⟩
  have hmo : iN 0 1000 mo := by
    obtain ⟨n, a, b, c, -⟩ := iv_nat g1 (by omega) (by omega)
    exact ⟨n, a, b, c⟩
  by_cases g7 : kn = 4
  rotate_left
  · by_cases g8 : cR s < 8
    rotate_left
    · skip
      refine ⟨cI (-4), s, hW, ⟨_, hc1, Nat.le_refl _, by omega⟩, fun X d I J R N G hI hG => ?_, fun X d I J R N G hS hD => ?_⟩
      · unfold TP
        show XP X _ k_H_rule 0 [.ref (0), .int (nI (kn)), .int (mo), .int (nI (re)), .int (sh), xj] [] _ _
        refine XP_n 3 (pc' := 3) (ls' := [.ref (0), .int (nI (kn)), .int (mo), .int (nI (re)), .int (sh), xj]) (st' := [.int (nI (5)), .int (nI (0)), .int (nI (kn))]) (M' := (I, J, Rx R, N, G)) rfl ?_
        refine XP_pure rfl rfl (w_H X _ _ 0 5 _) ?_
        refine XP_s rfl ?_
        refine XP_beq (fun b4 => absurd g0 b4) (fun b4 => ?_)
        refine XP_n 3 (pc' := 8) (ls' := [.ref (0), .int (nI (kn)), .int (mo), .int (nI (re)), .int (sh), xj]) (st' := [.int (nI (1000)), .int (nI (0)), .int (mo)]) (M' := (I, J, Rx R, N, G)) rfl ?_
        refine XP_pure rfl rfl (w_H X _ _ 0 1000 _) ?_
        refine XP_s rfl ?_
        refine XP_beq (fun b9 => absurd g1 b9) (fun b9 => ?_)
        refine XP_n 1 (pc' := 11) (ls' := [.ref (0), .int (nI (kn)), .int (mo), .int (nI (re)), .int (sh), xj]) (st' := [.int (nI (re))]) (M' := (I, J, Rx R, N, G)) rfl ?_
        refine XP_ifN (x := re)  rfl (by omega) (fun (b11 : 0 ≤ re) => ?_) (fun (b11 : re < 0) => absurd b11 (by omega))
        refine XP_n 2 (pc' := 16) (ls' := [.ref (0), .int (nI (kn)), .int (mo), .int (nI (re)), .int (sh), xj]) (st' := [.int (nI (100)), .int (nI (re))]) (M' := (I, J, Rx R, N, G)) rfl ?_
        refine XP_idivN (a := re) (b := 100) rfl (by omega) (by omega) (by omega) ?_
        refine XP_n 1 (pc' := 18) (ls' := [.ref (0), .int (nI (kn)), .int (mo), .int (nI (re)), .int (sh), xj]) (st' := [.int (nI (9)), .int (nI ((re) / (100)))]) (M' := (I, J, Rx R, N, G)) rfl ?_
        refine XP_icN (x := (re) / (100)) (y := 9) rfl (by omega) (by omega) (fun (b18 : 9 < (re) / (100)) => absurd b18 (by omega)) (fun (b18 : (re) / (100) ≤ 9) => ?_)
        refine XP_n 2 (pc' := 21) (ls' := [.ref (0), .int (nI (kn)), .int (mo), .int (nI (re)), .int (sh), xj]) (st' := [.int (nI (100)), .int (nI (re))]) (M' := (I, J, Rx R, N, G)) rfl ?_
        refine XP_iremN (a := re) (b := 100) rfl (by omega) (by omega) (by omega) ?_
        refine XP_n 1 (pc' := 23) (ls' := [.ref (0), .int (nI (kn)), .int (mo), .int (nI (re)), .int (sh), xj]) (st' := [.int (nI (20)), .int (nI ((re) % (100)))]) (M' := (I, J, Rx R, N, G)) rfl ?_
        refine XP_icN (x := (re) % (100)) (y := 20) rfl (by omega) (by omega) (fun (b23 : (re) % (100) ≤ 20) => ?_) (fun (b23 : 20 < (re) % (100)) => absurd b23 (by omega))
        refine XP_n 2 (pc' := 28) (ls' := [.ref (0), .int (nI (kn)), .int (mo), .int (nI (re)), .int (sh), xj]) (st' := [.int (nI (4)), .int (nI (kn))]) (M' := (I, J, Rx R, N, G)) rfl ?_
        refine XP_icN (x := kn) (y := 4) rfl (by omega) (by omega) (fun (b28 : ¬ kn = 4) => ?_) (fun (b28 : kn = 4) => absurd b28 (by omega))
        refine XP_n 1 (pc' := 41) (ls' := [.ref (0), .int (nI (kn)), .int (mo), .int (nI (re)), .int (sh), xj]) (st' := [.ref (0)]) (M' := (I, J, Rx R, N, G)) rfl ?_
        refine XP_geti hI.1 rfl rfl rfl ?_
        rw [hW.r.1]
        refine XP_ifN (x := cR s)  rfl (by omega) (fun (b42 : cR s < 0) => absurd b42 (by omega)) (fun (b42 : 0 ≤ cR s) => ?_)
        refine XP_n 1 (pc' := 44) (ls' := [.ref (0), .int (nI (kn)), .int (mo), .int (nI (re)), .int (sh), xj]) (st' := [.ref (0)]) (M' := (I, J, Rx R, N, G)) rfl ?_
        refine XP_geti hI.1 rfl rfl rfl ?_
        rw [hW.r.1]
        refine XP_n 3 (pc' := 48) (ls' := [.ref (0), .int (nI (kn)), .int (mo), .int (nI (re)), .int (sh), xj]) (st' := [.int (nI (8)), .int (nI (cR s))]) (M' := (I, J, Rx R, N, G)) rfl ?_
        refine XP_icN (x := cR s) (y := 8) rfl (by omega) (by omega) (fun (b48 : cR s < 8) => absurd b48 (by omega)) (fun (b48 : 8 ≤ cR s) => ?_)
        refine XP_n 1 (pc' := 50) (ls' := [.ref (0), .int (nI (kn)), .int (mo), .int (nI (re)), .int (sh), xj]) (st' := [.int (cI (-4))]) (M' := (I, J, Rx R, N, G)) rfl ?_
        exact XP_ret rfl ⟨rfl, _, _, _, _, _, rfl, hI.1.C, hI.2.2.1, hI.2.2.2.1, FrM.rf, hG⟩
      · have k13 : I 99 13 = nI (cR s) := (hS 99 13 99 13 rfl).trans hW.r.1
        have l47 : ∀ x6 : Int32, XP X (d + 100) k_M_rule 47 [.ref 99, .int (nI kn), .int mo, .int (nI re), .int sh, .int (nI 1), .int x6, xj] [] (I, J, Rx R, N, G) (QS s R N G J I (.int (cI (-4)))) := by
          intro x6
          refine XP_n 2 (pc' := 49) (ls' := [.ref (99), .int (nI (kn)), .int (mo), .int (nI (re)), .int (sh), .int (nI (1)), .int (x6), xj]) (st' := [.int (nI (4)), .int (nI (kn))]) (M' := (I, J, Rx R, N, G)) rfl ?_
          refine XP_icN (x := kn) (y := 4) rfl (by omega) (by omega) (fun (b49 : ¬ kn = 4) => ?_) (fun (b49 : kn = 4) => absurd b49 (by omega))
          refine XP_n 2 (pc' := 60) (ls' := [.ref (99), .int (nI (kn)), .int (mo), .int (nI (re)), .int (sh), .int (nI (1)), .int (x6), xj]) (st' := [.int (nI (4)), .int (nI (kn))]) (M' := (I, J, Rx R, N, G)) rfl ?_
          refine XP_icN (x := kn) (y := 4) rfl (by omega) (by omega) (fun (b60 : ¬ kn = 4) => ?_) (fun (b60 : kn = 4) => absurd b60 (by omega))
          refine XP_n 7 (pc' := 75) (ls' := [.ref (99), .int (nI (kn)), .int (mo), .int (nI (re)), .int (sh), .int (nI (1)), .int (x6), .int (nI (0))]) (st' := [.int (nI (16)), .int (nI (0))]) (M' := (I, J, Rx R, N, G)) rfl ?_
          refine XP_icN (x := 0) (y := 16) rfl (by omega) (by omega) (fun (b75 : 16 ≤ 0) => absurd b75 (by omega)) (fun (b75 : 0 < 16) => ?_)
          refine XP_n 1 (pc' := 77) (ls' := [.ref (99), .int (nI (kn)), .int (mo), .int (nI (re)), .int (sh), .int (nI (1)), .int (x6), .int (nI (0))]) (st' := [.int (nI (1))]) (M' := (I, J, Rx R, N, G)) rfl ?_
          refine XP_ifN (x := 1)  rfl (by omega) (fun (b77 : 1 = 0) => absurd b77 (by omega)) (fun (b77 : ¬ 1 = 0) => ?_)
          refine XP_n 2 (pc' := 80) (ls' := [.ref (99), .int (nI (kn)), .int (mo), .int (nI (re)), .int (sh), .int (nI (1)), .int (x6), .int (nI (0))]) (st' := [.int (nI (4)), .int (nI (kn))]) (M' := (I, J, Rx R, N, G)) rfl ?_
          refine XP_icN (x := kn) (y := 4) rfl (by omega) (by omega) (fun (b80 : ¬ kn = 4) => ?_) (fun (b80 : kn = 4) => absurd b80 (by omega))
          refine XP_n 1 (pc' := 96) (ls' := [.ref (99), .int (nI (kn)), .int (mo), .int (nI (re)), .int (sh), .int (nI (1)), .int (x6), .int (nI (0))]) (st' := [.int (nI (1))]) (M' := (I, J, Rx R, N, G)) rfl ?_
          refine XP_ifN (x := 1)  rfl (by omega) (fun (b96 : ¬ 1 = 0) => ?_) (fun (b96 : 1 = 0) => absurd b96 (by omega))
          refine XP_n 2 (pc' := 101) (ls' := [.ref (99), .int (nI (kn)), .int (mo), .int (nI (re)), .int (sh), .int (nI (1)), .int (x6), .int (nI (0))]) (st' := [.int (I 99 13)]) (M' := (I, J, Rx R, N, G)) rfl ?_
          rw [k13]
          refine XP_n 1 (pc' := 102) (ls' := [.ref (99), .int (nI (kn)), .int (mo), .int (nI (re)), .int (sh), .int (nI (1)), .int (x6), .int (nI (0))]) (st' := [.int (nI (8)), .int (nI (cR s))]) (M' := (I, J, Rx R, N, G)) rfl ?_
          refine XP_icN (x := cR s) (y := 8) rfl (by omega) (by omega) (fun (b102 : ¬ cR s = 8) => absurd b102 (by omega)) (fun (b102 : cR s = 8) => ?_)
          refine XP_n 1 (pc' := 104) (ls' := [.ref (99), .int (nI (kn)), .int (mo), .int (nI (re)), .int (sh), .int (nI (1)), .int (x6), .int (nI (0))]) (st' := [.int (cI (-4))]) (M' := (I, J, Rx R, N, G)) rfl ?_
          exact XP_ret rfl ⟨rfl, _, rfl, hS, FrC.rf⟩
        unfold TP
        show XP X _ k_M_rule 0 [.ref (99), .int (nI (kn)), .int (mo), .int (nI (re)), .int (sh), xj, xj, xj] [] _ _
        refine XP_n 1 (pc' := 1) (ls' := [.ref (99), .int (nI (kn)), .int (mo), .int (nI (re)), .int (sh), xj, xj, xj]) (st' := [.int (nI (re))]) (M' := (I, J, Rx R, N, G)) rfl ?_
        refine XP_ifN (x := re)  rfl (by omega) (fun (b1 : re < 0) => absurd b1 (by omega)) (fun (b1 : 0 ≤ re) => ?_)
        refine XP_n 2 (pc' := 4) (ls' := [.ref (99), .int (nI (kn)), .int (mo), .int (nI (re)), .int (sh), xj, xj, xj]) (st' := [.int (nI (100)), .int (nI (re))]) (M' := (I, J, Rx R, N, G)) rfl ?_
        refine XP_idivN (a := re) (b := 100) rfl (by omega) (by omega) (by omega) ?_
        refine XP_n 1 (pc' := 6) (ls' := [.ref (99), .int (nI (kn)), .int (mo), .int (nI (re)), .int (sh), xj, xj, xj]) (st' := [.int (nI (9)), .int (nI ((re) / (100)))]) (M' := (I, J, Rx R, N, G)) rfl ?_
        refine XP_icN (x := (re) / (100)) (y := 9) rfl (by omega) (by omega) (fun (b6 : 9 < (re) / (100)) => absurd b6 (by omega)) (fun (b6 : (re) / (100) ≤ 9) => ?_)
        refine XP_n 2 (pc' := 9) (ls' := [.ref (99), .int (nI (kn)), .int (mo), .int (nI (re)), .int (sh), xj, xj, xj]) (st' := [.int (nI (100)), .int (nI (re))]) (M' := (I, J, Rx R, N, G)) rfl ?_
        refine XP_iremN (a := re) (b := 100) rfl (by omega) (by omega) (by omega) ?_
        refine XP_n 1 (pc' := 11) (ls' := [.ref (99), .int (nI (kn)), .int (mo), .int (nI (re)), .int (sh), xj, xj, xj]) (st' := [.int (nI (20)), .int (nI ((re) % (100)))]) (M' := (I, J, Rx R, N, G)) rfl ?_
        refine XP_icN (x := (re) % (100)) (y := 20) rfl (by omega) (by omega) (fun (b11 : 20 < (re) % (100)) => absurd b11 (by omega)) (fun (b11 : (re) % (100) ≤ 20) => ?_)
        refine XP_n 6 (pc' := 19) (ls' := [.ref (99), .int (nI (kn)), .int (mo), .int (nI (re)), .int (sh), .int (nI (1)), xj, xj]) (st' := [.int (nI (5)), .int (nI (0)), .int (nI (kn))]) (M' := (I, J, Rx R, N, G)) rfl ?_
        refine XP_pure rfl rfl (w_M X _ _ 0 5 _) ?_
        refine XP_s rfl ?_
        refine XP_beq (fun b20 => absurd g0 b20) (fun b20 => ?_)
        refine XP_n 3 (pc' := 24) (ls' := [.ref (99), .int (nI (kn)), .int (mo), .int (nI (re)), .int (sh), .int (nI (1)), xj, xj]) (st' := [.int (nI (1000)), .int (nI (0)), .int (mo)]) (M' := (I, J, Rx R, N, G)) rfl ?_
        refine XP_pure rfl rfl (w_M X _ _ 0 1000 _) ?_
        refine XP_s rfl ?_
        refine XP_beq (fun b25 => absurd g1 b25) (fun b25 => ?_)
        refine XP_n 1 (pc' := 27) (ls' := [.ref (99), .int (nI (kn)), .int (mo), .int (nI (re)), .int (sh), .int (nI (1)), xj, xj]) (st' := [.int (nI (1))]) (M' := (I, J, Rx R, N, G)) rfl ?_
        refine XP_ifN (x := 1)  rfl (by omega) (fun (b27 : 1 = 0) => absurd b27 (by omega)) (fun (b27 : ¬ 1 = 0) => ?_)
        refine XP_n 2 (pc' := 30) (ls' := [.ref (99), .int (nI (kn)), .int (mo), .int (nI (re)), .int (sh), .int (nI (1)), xj, xj]) (st' := [.int (nI (4)), .int (nI (kn))]) (M' := (I, J, Rx R, N, G)) rfl ?_
        refine XP_icN (x := kn) (y := 4) rfl (by omega) (by omega) (fun (b30 : ¬ kn = 4) => ?_) (fun (b30 : kn = 4) => absurd b30 (by omega))
        refine XP_n 3 (pc' := 41) (ls' := [.ref (99), .int (nI (kn)), .int (mo), .int (nI (re)), .int (sh), .int (nI (1)), xj, xj]) (st' := [.int (nI (3)), .int (nI (0)), .int (sh)]) (M' := (I, J, Rx R, N, G)) rfl ?_
        refine XP_pure rfl rfl (w_M X _ _ 0 3 _) ?_
        refine XP_s rfl ?_
        refine XP_beq (fun (b42 : ¬ (iv 0 3 (sh))) => ?_) (fun (b42 : iv 0 3 (sh)) => ?_)
        · refine XP_n 2 (pc' := 47) (ls' := [.ref (99), .int (nI (kn)), .int (mo), .int (nI (re)), .int (sh), .int (nI (1)), .int (nI (0)), xj]) (st' := []) (M' := (I, J, Rx R, N, G)) rfl ?_
          exact l47 _
        · refine XP_n 3 (pc' := 47) (ls' := [.ref (99), .int (nI (kn)), .int (mo), .int (nI (re)), .int (sh), .int (nI (1)), .int (sh), xj]) (st' := []) (M' := (I, J, Rx R, N, G)) rfl ?_
          exact l47 _
    · skip
      refine ⟨nI (cR s), (blk (rw2 (rw2 (rw2 (rw2 (rw2 s 107 ((cR s)) (nI kn)) 108 ((cR s)) (mo)) 109 ((cR s)) (nI (re / 100))) 110 ((cR s)) (nI (re % 100))) 99 13 (nI (cR s + 1))) 111 (16 * cR s) 16 (fun _ => nI 0)), Wf_rule hW g8 hkn hmo g4 g5 (fun y hy => ⟨⟨0, by omega, by omega, rfl⟩, fun _ => rfl⟩), ⟨_, hc1, Nat.le_refl _, by omega⟩, fun X d I J R N G hI hG => ?_, fun X d I J R N G hS hD => ?_⟩
      · obtain ⟨z, c1, c2, nt, sl⟩ := G
        obtain ⟨hG1, hG2, hG3, hG4⟩ := hG
        have hG1 : c1 = 133 := hG1
        have hG2 : c2 = 2 * cR s := hG2
        have hG3 : nt = 4 * (cTx s - 1) := hG3
        have hG4 : sl ≤ 20000 + 21 * cR s + 400 * cTx s := hG4
        subst hG1 hG2
        unfold TP
        show XP X _ k_H_rule 0 [.ref (0), .int (nI (kn)), .int (mo), .int (nI (re)), .int (sh), xj] [] _ _
        refine XP_n 3 (pc' := 3) (ls' := [.ref (0), .int (nI (kn)), .int (mo), .int (nI (re)), .int (sh), xj]) (st' := [.int (nI (5)), .int (nI (0)), .int (nI (kn))]) (M' := (I, J, Rx R, N, (z, 133, 2 * cR s, nt, sl))) rfl ?_
        refine XP_pure rfl rfl (w_H X _ _ 0 5 _) ?_
        refine XP_s rfl ?_
        refine XP_beq (fun b4 => absurd g0 b4) (fun b4 => ?_)
        refine XP_n 3 (pc' := 8) (ls' := [.ref (0), .int (nI (kn)), .int (mo), .int (nI (re)), .int (sh), xj]) (st' := [.int (nI (1000)), .int (nI (0)), .int (mo)]) (M' := (I, J, Rx R, N, (z, 133, 2 * cR s, nt, sl))) rfl ?_
        refine XP_pure rfl rfl (w_H X _ _ 0 1000 _) ?_
        refine XP_s rfl ?_
        refine XP_beq (fun b9 => absurd g1 b9) (fun b9 => ?_)
        refine XP_n 1 (pc' := 11) (ls' := [.ref (0), .int (nI (kn)), .int (mo), .int (nI (re)), .int (sh), xj]) (st' := [.int (nI (re))]) (M' := (I, J, Rx R, N, (z, 133, 2 * cR s, nt, sl))) rfl ?_
        refine XP_ifN (x := re)  rfl (by omega) (fun (b11 : 0 ≤ re) => ?_) (fun (b11 : re < 0) => absurd b11 (by omega))
        refine XP_n 2 (pc' := 16) (ls' := [.ref (0), .int (nI (kn)), .int (mo), .int (nI (re)), .int (sh), xj]) (st' := [.int (nI (100)), .int (nI (re))]) (M' := (I, J, Rx R, N, (z, 133, 2 * cR s, nt, sl))) rfl ?_
        refine XP_idivN (a := re) (b := 100) rfl (by omega) (by omega) (by omega) ?_
        refine XP_n 1 (pc' := 18) (ls' := [.ref (0), .int (nI (kn)), .int (mo), .int (nI (re)), .int (sh), xj]) (st' := [.int (nI (9)), .int (nI ((re) / (100)))]) (M' := (I, J, Rx R, N, (z, 133, 2 * cR s, nt, sl))) rfl ?_
        refine XP_icN (x := (re) / (100)) (y := 9) rfl (by omega) (by omega) (fun (b18 : 9 < (re) / (100)) => absurd b18 (by omega)) (fun (b18 : (re) / (100) ≤ 9) => ?_)
        refine XP_n 2 (pc' := 21) (ls' := [.ref (0), .int (nI (kn)), .int (mo), .int (nI (re)), .int (sh), xj]) (st' := [.int (nI (100)), .int (nI (re))]) (M' := (I, J, Rx R, N, (z, 133, 2 * cR s, nt, sl))) rfl ?_
        refine XP_iremN (a := re) (b := 100) rfl (by omega) (by omega) (by omega) ?_
        refine XP_n 1 (pc' := 23) (ls' := [.ref (0), .int (nI (kn)), .int (mo), .int (nI (re)), .int (sh), xj]) (st' := [.int (nI (20)), .int (nI ((re) % (100)))]) (M' := (I, J, Rx R, N, (z, 133, 2 * cR s, nt, sl))) rfl ?_
        refine XP_icN (x := (re) % (100)) (y := 20) rfl (by omega) (by omega) (fun (b23 : (re) % (100) ≤ 20) => ?_) (fun (b23 : 20 < (re) % (100)) => absurd b23 (by omega))
        refine XP_n 2 (pc' := 28) (ls' := [.ref (0), .int (nI (kn)), .int (mo), .int (nI (re)), .int (sh), xj]) (st' := [.int (nI (4)), .int (nI (kn))]) (M' := (I, J, Rx R, N, (z, 133, 2 * cR s, nt, sl))) rfl ?_
        refine XP_icN (x := kn) (y := 4) rfl (by omega) (by omega) (fun (b28 : ¬ kn = 4) => ?_) (fun (b28 : kn = 4) => absurd b28 (by omega))
        refine XP_n 1 (pc' := 41) (ls' := [.ref (0), .int (nI (kn)), .int (mo), .int (nI (re)), .int (sh), xj]) (st' := [.ref (0)]) (M' := (I, J, Rx R, N, (z, 133, 2 * cR s, nt, sl))) rfl ?_
        refine XP_geti hI.1 rfl rfl rfl ?_
        rw [hW.r.1]
        refine XP_ifN (x := cR s)  rfl (by omega) (fun (b42 : cR s < 0) => absurd b42 (by omega)) (fun (b42 : 0 ≤ cR s) => ?_)
        refine XP_n 1 (pc' := 44) (ls' := [.ref (0), .int (nI (kn)), .int (mo), .int (nI (re)), .int (sh), xj]) (st' := [.ref (0)]) (M' := (I, J, Rx R, N, (z, 133, 2 * cR s, nt, sl))) rfl ?_
        refine XP_geti hI.1 rfl rfl rfl ?_
        rw [hW.r.1]
        refine XP_n 3 (pc' := 48) (ls' := [.ref (0), .int (nI (kn)), .int (mo), .int (nI (re)), .int (sh), xj]) (st' := [.int (nI (8)), .int (nI (cR s))]) (M' := (I, J, Rx R, N, (z, 133, 2 * cR s, nt, sl))) rfl ?_
        refine XP_icN (x := cR s) (y := 8) rfl (by omega) (by omega) (fun (b48 : cR s < 8) => ?_) (fun (b48 : 8 ≤ cR s) => absurd b48 (by omega))
        refine XP_new (lab := 1000 + 2 * cR s) rfl (by show Nat.ble (2 * cR s + 1) 2000 = true; exact Nat.ble_eq.mpr (by omega)) rfl (rul_o (by omega)) (fun j => rS_big (by omega) j) ?_
        show XP X _ k_H_rule 52 [.ref (0), .int (nI (kn)), .int (mo), .int (nI (re)), .int (sh), xj] [.ref (1000 + 2 * cR s)] ((rwR I (1000 + 2 * cR s) (fun _ => 0)), (rwR J (1000 + 2 * cR s) (fun _ => 0)), Rx (rwR R (1000 + 2 * cR s) (fun _ => none)), N, (1, 133, 2 * cR s + 1, nt, sl + 5)) _
        refine XP_n 4 (pc' := 56) (ls' := [.ref (0), .int (nI (kn)), .int (mo), .int (nI (re)), .int (sh), xj]) (st' := [.int (nI (re)), .int (mo), .int (nI (kn)), .ref (1000 + 2 * cR s), .ref (1000 + 2 * cR s)]) (M' := ((rwR I (1000 + 2 * cR s) (fun _ => 0)), (rwR J (1000 + 2 * cR s) (fun _ => 0)), Rx (rwR R (1000 + 2 * cR s) (fun _ => none)), N, (1, 133, 2 * cR s + 1, nt, sl + 5))) rfl ?_
        refine XP_call rfl rfl (c_rInit2 (by omega) _ _ hre) ?_
        rintro v1 M1 ⟨rfl, I2, rfl, t1, t2, t3⟩
        have q0 : ∀ q, q ≠ 1000 + 2 * cR s → q ≠ 1001 + 2 * cR s → I2 q = I q := fun q h1 h2 => by rw [t1 q h1 h2, rwR_n2 h1]
        have q05 : I2 0 5 = nI (cR s) := by rw [q0 0 (by omega) (by omega)]; exact (hI.1 0 5 99 13 rfl).trans hW.r.1
        refine XP_n 3 (pc' := 60) (ls' := [.ref (0), .int (nI (kn)), .int (mo), .int (nI (re)), .int (sh), .ref (1000 + 2 * cR s)]) (st' := [.int (nI (4)), .int (nI (kn))]) (M' := (I2, (rwR (rwR J (1000 + 2 * cR s) (fun _ => 0)) (1001 + 2 * cR s) (fun _ => 0)), Rx (rw2 (rwR ((rwR R (1000 + 2 * cR s) (fun _ => none))) (1001 + 2 * cR s) (fun _ => none)) (1000 + 2 * cR s) 4 (some (1001 + 2 * cR s))), N, (1, 133, 2 * cR s + 2, nt, sl + 5 + 16))) rfl ?_
        refine XP_icN (x := kn) (y := 4) rfl (by omega) (by omega) (fun (b60 : ¬ kn = 4) => ?_) (fun (b60 : kn = 4) => absurd b60 (by omega))
        refine XP_n 4 (pc' := 70) (ls' := [.ref (0), .int (nI (kn)), .int (mo), .int (nI (re)), .int (sh), .ref (1000 + 2 * cR s)]) (st' := [.int (I2 0 5), .ref (13)]) (M' := (I2, (rwR (rwR J (1000 + 2 * cR s) (fun _ => 0)) (1001 + 2 * cR s) (fun _ => 0)), Rx (rw2 (rwR ((rwR R (1000 + 2 * cR s) (fun _ => none))) (1001 + 2 * cR s) (fun _ => none)) (1000 + 2 * cR s) 4 (some (1001 + 2 * cR s))), N, (1, 133, 2 * cR s + 2, nt, sl + 5 + 16))) rfl ?_
        rw [q05]
        refine XP_n 1 (pc' := 71) (ls' := [.ref (0), .int (nI (kn)), .int (mo), .int (nI (re)), .int (sh), .ref (1000 + 2 * cR s)]) (st' := [.ref (1000 + 2 * cR s), .int (nI (cR s)), .ref (13)]) (M' := (I2, (rwR (rwR J (1000 + 2 * cR s) (fun _ => 0)) (1001 + 2 * cR s) (fun _ => 0)), Rx (rw2 (rwR ((rwR R (1000 + 2 * cR s) (fun _ => none))) (1001 + 2 * cR s) (fun _ => none)) (1000 + 2 * cR s) 4 (some (1001 + 2 * cR s))), N, (1, 133, 2 * cR s + 2, nt, sl + 5 + 16))) rfl ?_
        refine XP_aast (j := cR s) rfl (t := 4) (c := 7) rfl (rul_k (by omega)) rfl (show cR s < 8 by omega) rfl (by omega) (by omega) (rS_13 _ (by omega)) ?_
        show XP X _ k_H_rule 72 [.ref (0), .int (nI (kn)), .int (mo), .int (nI (re)), .int (sh), .ref (1000 + 2 * cR s)] [] (I2, (rwR (rwR J (1000 + 2 * cR s) (fun _ => 0)) (1001 + 2 * cR s) (fun _ => 0)), Rx (rw2 ((rw2 (rwR ((rwR R (1000 + 2 * cR s) (fun _ => none))) (1001 + 2 * cR s) (fun _ => none)) (1000 + 2 * cR s) 4 (some (1001 + 2 * cR s)))) 13 (cR s) (some (1000 + 2 * cR s))), N, (1, 133, 2 * cR s + 2, nt, sl + 5 + 16)) _
        refine XP_n 3 (pc' := 75) (ls' := [.ref (0), .int (nI (kn)), .int (mo), .int (nI (re)), .int (sh), .ref (1000 + 2 * cR s)]) (st' := [.int (I2 0 5), .ref (0)]) (M' := (I2, (rwR (rwR J (1000 + 2 * cR s) (fun _ => 0)) (1001 + 2 * cR s) (fun _ => 0)), Rx (rw2 ((rw2 (rwR ((rwR R (1000 + 2 * cR s) (fun _ => none))) (1001 + 2 * cR s) (fun _ => none)) (1000 + 2 * cR s) 4 (some (1001 + 2 * cR s)))) 13 (cR s) (some (1000 + 2 * cR s))), N, (1, 133, 2 * cR s + 2, nt, sl + 5 + 16))) rfl ?_
        rw [q05]
        refine XP_n 3 (pc' := 78) (ls' := [.ref (0), .int (nI (kn)), .int (mo), .int (nI (re)), .int (sh), .ref (1000 + 2 * cR s)]) (st' := [.int ((nI (cR s)) + (nI (1))), .ref (0), .int (nI (cR s))]) (M' := (I2, (rwR (rwR J (1000 + 2 * cR s) (fun _ => 0)) (1001 + 2 * cR s) (fun _ => 0)), Rx (rw2 ((rw2 (rwR ((rwR R (1000 + 2 * cR s) (fun _ => none))) (1001 + 2 * cR s) (fun _ => none)) (1000 + 2 * cR s) 4 (some (1001 + 2 * cR s)))) 13 (cR s) (some (1000 + 2 * cR s))), N, (1, 133, 2 * cR s + 2, nt, sl + 5 + 16))) rfl ?_
        rw [show (nI (cR s)) + (nI (1)) = nI (cR s + 1) from nI_addE (rfl) (rfl)]
        refine XP_n 1 (pc' := 79) (ls' := [.ref (0), .int (nI (kn)), .int (mo), .int (nI (re)), .int (sh), .ref (1000 + 2 * cR s)]) (st' := [.int (nI (cR s))]) (M' := ((rw2 I2 0 5 (nI (cR s + 1))), (rwR (rwR J (1000 + 2 * cR s) (fun _ => 0)) (1001 + 2 * cR s) (fun _ => 0)), Rx (rw2 ((rw2 (rwR ((rwR R (1000 + 2 * cR s) (fun _ => none))) (1001 + 2 * cR s) (fun _ => none)) (1000 + 2 * cR s) 4 (some (1001 + 2 * cR s)))) 13 (cR s) (some (1000 + 2 * cR s))), N, (1, 133, 2 * cR s + 2, nt, sl + 5 + 16))) rfl ?_
        refine XP_ret rfl ⟨rfl, _, _, _, _, _, rfl, StC_rule hI.1.C (by omega) (fun q h1 h2 h3 => ?_) (fun j => ?_) (fun j hj => ?_) (fun j hj => ?_) (fun a b h1 h2 h3 => ?_) (by rfl), Lk_rule hI.2.2.1 (by omega) (fun q hq => ?_) rfl rfl rfl hI.2.2.1.2.2.2.2.2.2 (by show wN (nI (cR s + 1)) = _; exact wN_nI (by omega)) rfl rfl, agr_Cch (s := s) ⟨fun q h1 h2 => ?_, rfl, rfl, fun j hj => ?_, rfl, rfl⟩ (hI.2.2.2.1.of (fun q h1 h2 => ?_) (fun q h1 h2 => ?_) hW.p.2), fun q hq => ?_, ⟨rfl, ?_, hG3, ?_⟩⟩
        · rw [rw2_ro h3]
          exact (q0 q h1 h2)
        · rw [rw2_c]
          by_cases e : j = 5
          · rw [if_pos e, if_pos e]
          · rw [if_neg e, if_neg e, q0 0 (by omega) (by omega)]
        · have hj4 : j = 0 ∨ j = 1 ∨ j = 2 ∨ j = 3 := by omega
          rw [rw2_ro (by omega)]
          rcases hj4 with rfl | rfl | rfl | rfl
          · show _ = rw2 s 107 (cR s) (nI kn) 107 (cR s)
            rw [rw2_on]
            exact t2.1
          · show _ = rw2 s 108 (cR s) (mo) 108 (cR s)
            rw [rw2_on]
            exact t2.2.1
          · show _ = rw2 s 109 (cR s) (nI (re / 100)) 109 (cR s)
            rw [rw2_on]
            exact t2.2.2.1
          · show _ = rw2 s 110 (cR s) (nI (re % 100)) 110 (cR s)
            rw [rw2_on]
            exact t2.2.2.2
        · rw [rw2_ro (by omega), blk_on hj]
          exact t3 j
        · rw [blk_off h3]
          by_cases e : a = 99
          · subst e
            exact rw2_off (fun z => h1 z)
          · rw [rw2_ro e, rw2_off (fun z => h2 ⟨by omega, by omega, z.2⟩), rw2_off (fun z => h2 ⟨by omega, by omega, z.2⟩), rw2_off (fun z => h2 ⟨by omega, by omega, z.2⟩), rw2_off (fun z => h2 ⟨by omega, by omega, z.2⟩)]
        · rw [blk_ro (by omega), rw2_ro (by omega), rw2_ro (by omega), rw2_ro (by omega), rw2_ro (by omega), rw2_ro (by omega)]
        · rw [blk_ro (by omega), rw2_ro (by omega), rw2_ro (by omega), rw2_ro (by omega), rw2_ro (by omega), rw2_ro (by omega)]
        · rw [blk_ro (by omega), rw2_off (by omega), rw2_ro (by omega), rw2_ro (by omega), rw2_ro (by omega), rw2_ro (by omega)]
        · rw [rw2_ro (by omega)]
          exact (q0 q (by omega) (by omega))
        · rw [rwR_n2 (by omega), rwR_n2 (by omega)]
        · have := isC_f hq
          rw [rw2_ro (by omega)]
          exact (q0 q (by omega) (by omega))
        · show 2 * cR s + 2 = 2 * wN (nI (cR s + 1))
          rw [wN_nI (by omega)]
          omega
        · show sl + 5 + 16 ≤ 20000 + 21 * wN (nI (cR s + 1)) + 400 * cTx s
          rw [wN_nI (by omega)]
          omega
      · have k13 : I 99 13 = nI (cR s) := (hS 99 13 99 13 rfl).trans hW.r.1
        have l47 : ∀ x6 : Int32, XP X (d + 100) k_M_rule 47 [.ref 99, .int (nI kn), .int mo, .int (nI re), .int sh, .int (nI 1), .int x6, xj] [] (I, J, Rx R, N, G) (QS (blk (rw2 (rw2 (rw2 (rw2 (rw2 s 107 ((cR s)) (nI kn)) 108 ((cR s)) (mo)) 109 ((cR s)) (nI (re / 100))) 110 ((cR s)) (nI (re % 100))) 99 13 (nI (cR s + 1))) 111 (16 * cR s) 16 (fun _ => nI 0)) R N G J I (.int (nI (cR s)))) := by
          intro x6
          refine XP_n 2 (pc' := 49) (ls' := [.ref (99), .int (nI (kn)), .int (mo), .int (nI (re)), .int (sh), .int (nI (1)), .int (x6), xj]) (st' := [.int (nI (4)), .int (nI (kn))]) (M' := (I, J, Rx R, N, G)) rfl ?_
          refine XP_icN (x := kn) (y := 4) rfl (by omega) (by omega) (fun (b49 : ¬ kn = 4) => ?_) (fun (b49 : kn = 4) => absurd b49 (by omega))
          refine XP_n 2 (pc' := 60) (ls' := [.ref (99), .int (nI (kn)), .int (mo), .int (nI (re)), .int (sh), .int (nI (1)), .int (x6), xj]) (st' := [.int (nI (4)), .int (nI (kn))]) (M' := (I, J, Rx R, N, G)) rfl ?_
          refine XP_icN (x := kn) (y := 4) rfl (by omega) (by omega) (fun (b60 : ¬ kn = 4) => ?_) (fun (b60 : kn = 4) => absurd b60 (by omega))
          refine XP_n 7 (pc' := 75) (ls' := [.ref (99), .int (nI (kn)), .int (mo), .int (nI (re)), .int (sh), .int (nI (1)), .int (x6), .int (nI (0))]) (st' := [.int (nI (16)), .int (nI (0))]) (M' := (I, J, Rx R, N, G)) rfl ?_
          refine XP_icN (x := 0) (y := 16) rfl (by omega) (by omega) (fun (b75 : 16 ≤ 0) => absurd b75 (by omega)) (fun (b75 : 0 < 16) => ?_)
          refine XP_n 1 (pc' := 77) (ls' := [.ref (99), .int (nI (kn)), .int (mo), .int (nI (re)), .int (sh), .int (nI (1)), .int (x6), .int (nI (0))]) (st' := [.int (nI (1))]) (M' := (I, J, Rx R, N, G)) rfl ?_
          refine XP_ifN (x := 1)  rfl (by omega) (fun (b77 : 1 = 0) => absurd b77 (by omega)) (fun (b77 : ¬ 1 = 0) => ?_)
          refine XP_n 2 (pc' := 80) (ls' := [.ref (99), .int (nI (kn)), .int (mo), .int (nI (re)), .int (sh), .int (nI (1)), .int (x6), .int (nI (0))]) (st' := [.int (nI (4)), .int (nI (kn))]) (M' := (I, J, Rx R, N, G)) rfl ?_
          refine XP_icN (x := kn) (y := 4) rfl (by omega) (by omega) (fun (b80 : ¬ kn = 4) => ?_) (fun (b80 : kn = 4) => absurd b80 (by omega))
          refine XP_n 1 (pc' := 96) (ls' := [.ref (99), .int (nI (kn)), .int (mo), .int (nI (re)), .int (sh), .int (nI (1)), .int (x6), .int (nI (0))]) (st' := [.int (nI (1))]) (M' := (I, J, Rx R, N, G)) rfl ?_
          refine XP_ifN (x := 1)  rfl (by omega) (fun (b96 : ¬ 1 = 0) => ?_) (fun (b96 : 1 = 0) => absurd b96 (by omega))
          refine XP_n 2 (pc' := 101) (ls' := [.ref (99), .int (nI (kn)), .int (mo), .int (nI (re)), .int (sh), .int (nI (1)), .int (x6), .int (nI (0))]) (st' := [.int (I 99 13)]) (M' := (I, J, Rx R, N, G)) rfl ?_
          rw [k13]
          refine XP_n 1 (pc' := 102) (ls' := [.ref (99), .int (nI (kn)), .int (mo), .int (nI (re)), .int (sh), .int (nI (1)), .int (x6), .int (nI (0))]) (st' := [.int (nI (8)), .int (nI (cR s))]) (M' := (I, J, Rx R, N, G)) rfl ?_
          refine XP_icN (x := cR s) (y := 8) rfl (by omega) (by omega) (fun (b102 : ¬ cR s = 8) => ?_) (fun (b102 : cR s = 8) => absurd b102 (by omega))
          refine XP_n 4 (pc' := 109) (ls' := [.ref (99), .int (nI (kn)), .int (mo), .int (nI (re)), .int (sh), .int (nI (1)), .int (x6), .int (nI (0))]) (st' := [.int (I 99 13), .ref (107)]) (M' := (I, J, Rx R, N, G)) rfl ?_
          rw [k13]
          refine XP_n 1 (pc' := 110) (ls' := [.ref (99), .int (nI (kn)), .int (mo), .int (nI (re)), .int (sh), .int (nI (1)), .int (x6), .int (nI (0))]) (st' := [.int (nI (kn)), .int (nI (cR s)), .ref (107)]) (M' := (I, J, Rx R, N, G)) rfl ?_
          refine XP_iast rfl rfl (show cR s < 8 by omega) rfl (by omega) ?_
          refine XP_n 4 (pc' := 115) (ls' := [.ref (99), .int (nI (kn)), .int (mo), .int (nI (re)), .int (sh), .int (nI (1)), .int (x6), .int (nI (0))]) (st' := [.int (I 99 13), .ref (108)]) (M' := ((rw2 I 107 (cR s) (nI (kn))), J, Rx R, N, G)) rfl ?_
          rw [k13]
          refine XP_n 1 (pc' := 116) (ls' := [.ref (99), .int (nI (kn)), .int (mo), .int (nI (re)), .int (sh), .int (nI (1)), .int (x6), .int (nI (0))]) (st' := [.int (mo), .int (nI (cR s)), .ref (108)]) (M' := ((rw2 I 107 (cR s) (nI (kn))), J, Rx R, N, G)) rfl ?_
          refine XP_iast rfl rfl (show cR s < 8 by omega) rfl (by omega) ?_
          refine XP_n 4 (pc' := 121) (ls' := [.ref (99), .int (nI (kn)), .int (mo), .int (nI (re)), .int (sh), .int (nI (1)), .int (x6), .int (nI (0))]) (st' := [.int (I 99 13), .ref (109)]) (M' := ((rw2 (rw2 I 107 (cR s) (nI (kn))) 108 (cR s) (mo)), J, Rx R, N, G)) rfl ?_
          rw [k13]
          refine XP_n 2 (pc' := 123) (ls' := [.ref (99), .int (nI (kn)), .int (mo), .int (nI (re)), .int (sh), .int (nI (1)), .int (x6), .int (nI (0))]) (st' := [.int (nI (100)), .int (nI (re)), .int (nI (cR s)), .ref (109)]) (M' := ((rw2 (rw2 I 107 (cR s) (nI (kn))) 108 (cR s) (mo)), J, Rx R, N, G)) rfl ?_
          refine XP_idivN (a := re) (b := 100) rfl (by omega) (by omega) (by omega) ?_
          refine XP_iast rfl rfl (show cR s < 8 by omega) rfl (by omega) ?_
          refine XP_n 4 (pc' := 129) (ls' := [.ref (99), .int (nI (kn)), .int (mo), .int (nI (re)), .int (sh), .int (nI (1)), .int (x6), .int (nI (0))]) (st' := [.int (I 99 13), .ref (110)]) (M' := ((rw2 (rw2 (rw2 I 107 (cR s) (nI (kn))) 108 (cR s) (mo)) 109 (cR s) (nI ((re) / (100)))), J, Rx R, N, G)) rfl ?_
          rw [k13]
          refine XP_n 2 (pc' := 131) (ls' := [.ref (99), .int (nI (kn)), .int (mo), .int (nI (re)), .int (sh), .int (nI (1)), .int (x6), .int (nI (0))]) (st' := [.int (nI (100)), .int (nI (re)), .int (nI (cR s)), .ref (110)]) (M' := ((rw2 (rw2 (rw2 I 107 (cR s) (nI (kn))) 108 (cR s) (mo)) 109 (cR s) (nI ((re) / (100)))), J, Rx R, N, G)) rfl ?_
          refine XP_iremN (a := re) (b := 100) rfl (by omega) (by omega) (by omega) ?_
          refine XP_iast rfl rfl (show cR s < 8 by omega) rfl (by omega) ?_
          refine XP_n 2 (pc' := 135) (ls' := [.ref (99), .int (nI (kn)), .int (mo), .int (nI (re)), .int (sh), .int (nI (1)), .int (x6), .int (nI (0))]) (st' := []) (M' := ((rw2 (rw2 (rw2 (rw2 I 107 (cR s) (nI (kn))) 108 (cR s) (mo)) 109 (cR s) (nI ((re) / (100)))) 110 (cR s) (nI ((re) % (100)))), J, Rx R, N, G)) rfl ?_
          exact l_M_rw0 (sn := 0) (d := d + 99) (Iz := (rw2 (rw2 (rw2 (rw2 I 107 ((cR s)) (nI kn)) 108 ((cR s)) (mo)) 109 ((cR s)) (nI (re / 100))) 110 ((cR s)) (nI (re % 100)))) hkn g7 g8 k13 (fun I1 h1 h2 => ⟨rfl, _, rfl, by
                rw [blk_rw2 (by omega)]
                refine StM_w (StM_row (StM_w (StM_w (StM_w (StM_w hS rfl) rfl) rfl) rfl) h1 (fun a ha => blk_ro ha) (fun b => ?_)) rfl
                rw [h2 b]
                unfold blk
                by_cases g : 16 * cR s ≤ b ∧ b < 16 * cR s + 16
                · rw [if_pos ⟨rfl, g⟩, if_pos ⟨rfl, g⟩]
                · rw [if_neg (fun z => g z.2), if_neg (fun z => g z.2)]
                  exact hS 111 b 111 b rfl, fun q hq => by
                have := isC_t hq
                rw [rw2_ro (by omega), h1 q (by omega), rw2_ro (by omega), rw2_ro (by omega), rw2_ro (by omega), rw2_ro (by omega)]⟩) 16 0 _ (by omega) (fun _ _ => rfl) (fun j => (blk_off (by omega)).symm)
        unfold TP
        show XP X _ k_M_rule 0 [.ref (99), .int (nI (kn)), .int (mo), .int (nI (re)), .int (sh), xj, xj, xj] [] _ _
        refine XP_n 1 (pc' := 1) (ls' := [.ref (99), .int (nI (kn)), .int (mo), .int (nI (re)), .int (sh), xj, xj, xj]) (st' := [.int (nI (re))]) (M' := (I, J, Rx R, N, G)) rfl ?_
        refine XP_ifN (x := re)  rfl (by omega) (fun (b1 : re < 0) => absurd b1 (by omega)) (fun (b1 : 0 ≤ re) => ?_)
        refine XP_n 2 (pc' := 4) (ls' := [.ref (99), .int (nI (kn)), .int (mo), .int (nI (re)), .int (sh), xj, xj, xj]) (st' := [.int (nI (100)), .int (nI (re))]) (M' := (I, J, Rx R, N, G)) rfl ?_
        refine XP_idivN (a := re) (b := 100) rfl (by omega) (by omega) (by omega) ?_
        refine XP_n 1 (pc' := 6) (ls' := [.ref (99), .int (nI (kn)), .int (mo), .int (nI (re)), .int (sh), xj, xj, xj]) (st' := [.int (nI (9)), .int (nI ((re) / (100)))]) (M' := (I, J, Rx R, N, G)) rfl ?_
        refine XP_icN (x := (re) / (100)) (y := 9) rfl (by omega) (by omega) (fun (b6 : 9 < (re) / (100)) => absurd b6 (by omega)) (fun (b6 : (re) / (100) ≤ 9) => ?_)
        refine XP_n 2 (pc' := 9) (ls' := [.ref (99), .int (nI (kn)), .int (mo), .int (nI (re)), .int (sh), xj, xj, xj]) (st' := [.int (nI (100)), .int (nI (re))]) (M' := (I, J, Rx R, N, G)) rfl ?_
        refine XP_iremN (a := re) (b := 100) rfl (by omega) (by omega) (by omega) ?_
        refine XP_n 1 (pc' := 11) (ls' := [.ref (99), .int (nI (kn)), .int (mo), .int (nI (re)), .int (sh), xj, xj, xj]) (st' := [.int (nI (20)), .int (nI ((re) % (100)))]) (M' := (I, J, Rx R, N, G)) rfl ?_
        refine XP_icN (x := (re) % (100)) (y := 20) rfl (by omega) (by omega) (fun (b11 : 20 < (re) % (100)) => absurd b11 (by omega)) (fun (b11 : (re) % (100) ≤ 20) => ?_)
        refine XP_n 6 (pc' := 19) (ls' := [.ref (99), .int (nI (kn)), .int (mo), .int (nI (re)), .int (sh), .int (nI (1)), xj, xj]) (st' := [.int (nI (5)), .int (nI (0)), .int (nI (kn))]) (M' := (I, J, Rx R, N, G)) rfl ?_
        refine XP_pure rfl rfl (w_M X _ _ 0 5 _) ?_
        refine XP_s rfl ?_
        refine XP_beq (fun b20 => absurd g0 b20) (fun b20 => ?_)
        refine XP_n 3 (pc' := 24) (ls' := [.ref (99), .int (nI (kn)), .int (mo), .int (nI (re)), .int (sh), .int (nI (1)), xj, xj]) (st' := [.int (nI (1000)), .int (nI (0)), .int (mo)]) (M' := (I, J, Rx R, N, G)) rfl ?_
        refine XP_pure rfl rfl (w_M X _ _ 0 1000 _) ?_
        refine XP_s rfl ?_
        refine XP_beq (fun b25 => absurd g1 b25) (fun b25 => ?_)
        refine XP_n 1 (pc' := 27) (ls' := [.ref (99), .int (nI (kn)), .int (mo), .int (nI (re)), .int (sh), .int (nI (1)), xj, xj]) (st' := [.int (nI (1))]) (M' := (I, J, Rx R, N, G)) rfl ?_
        refine XP_ifN (x := 1)  rfl (by omega) (fun (b27 : 1 = 0) => absurd b27 (by omega)) (fun (b27 : ¬ 1 = 0) => ?_)
        refine XP_n 2 (pc' := 30) (ls' := [.ref (99), .int (nI (kn)), .int (mo), .int (nI (re)), .int (sh), .int (nI (1)), xj, xj]) (st' := [.int (nI (4)), .int (nI (kn))]) (M' := (I, J, Rx R, N, G)) rfl ?_
        refine XP_icN (x := kn) (y := 4) rfl (by omega) (by omega) (fun (b30 : ¬ kn = 4) => ?_) (fun (b30 : kn = 4) => absurd b30 (by omega))
        refine XP_n 3 (pc' := 41) (ls' := [.ref (99), .int (nI (kn)), .int (mo), .int (nI (re)), .int (sh), .int (nI (1)), xj, xj]) (st' := [.int (nI (3)), .int (nI (0)), .int (sh)]) (M' := (I, J, Rx R, N, G)) rfl ?_
        refine XP_pure rfl rfl (w_M X _ _ 0 3 _) ?_
        refine XP_s rfl ?_
        refine XP_beq (fun (b42 : ¬ (iv 0 3 (sh))) => ?_) (fun (b42 : iv 0 3 (sh)) => ?_)
        · refine XP_n 2 (pc' := 47) (ls' := [.ref (99), .int (nI (kn)), .int (mo), .int (nI (re)), .int (sh), .int (nI (1)), .int (nI (0)), xj]) (st' := []) (M' := (I, J, Rx R, N, G)) rfl ?_
          exact l47 _
        · refine XP_n 3 (pc' := 47) (ls' := [.ref (99), .int (nI (kn)), .int (mo), .int (nI (re)), .int (sh), .int (nI (1)), .int (sh), xj]) (st' := []) (M' := (I, J, Rx R, N, G)) rfl ?_
          exact l47 _
  subst g7
  by_cases g9 : iv 0 3 sh
  rotate_left
  · skip
    refine ⟨cI (-2), s, hW, ⟨_, hc1, Nat.le_refl _, by omega⟩, fun X d I J R N G hI hG => ?_, fun X d I J R N G hS hD => ?_⟩
    · unfold TP
      show XP X _ k_H_rule 0 [.ref (0), .int (nI (4)), .int (mo), .int (nI (re)), .int (sh), xj] [] _ _
      refine XP_n 3 (pc' := 3) (ls' := [.ref (0), .int (nI (4)), .int (mo), .int (nI (re)), .int (sh), xj]) (st' := [.int (nI (5)), .int (nI (0)), .int (nI (4))]) (M' := (I, J, Rx R, N, G)) rfl ?_
      refine XP_pure rfl rfl (w_H X _ _ 0 5 _) ?_
      refine XP_s rfl ?_
      refine XP_beq (fun b4 => absurd g0 b4) (fun b4 => ?_)
      refine XP_n 3 (pc' := 8) (ls' := [.ref (0), .int (nI (4)), .int (mo), .int (nI (re)), .int (sh), xj]) (st' := [.int (nI (1000)), .int (nI (0)), .int (mo)]) (M' := (I, J, Rx R, N, G)) rfl ?_
      refine XP_pure rfl rfl (w_H X _ _ 0 1000 _) ?_
      refine XP_s rfl ?_
      refine XP_beq (fun b9 => absurd g1 b9) (fun b9 => ?_)
      refine XP_n 1 (pc' := 11) (ls' := [.ref (0), .int (nI (4)), .int (mo), .int (nI (re)), .int (sh), xj]) (st' := [.int (nI (re))]) (M' := (I, J, Rx R, N, G)) rfl ?_
      refine XP_ifN (x := re)  rfl (by omega) (fun (b11 : 0 ≤ re) => ?_) (fun (b11 : re < 0) => absurd b11 (by omega))
      refine XP_n 2 (pc' := 16) (ls' := [.ref (0), .int (nI (4)), .int (mo), .int (nI (re)), .int (sh), xj]) (st' := [.int (nI (100)), .int (nI (re))]) (M' := (I, J, Rx R, N, G)) rfl ?_
      refine XP_idivN (a := re) (b := 100) rfl (by omega) (by omega) (by omega) ?_
      refine XP_n 1 (pc' := 18) (ls' := [.ref (0), .int (nI (4)), .int (mo), .int (nI (re)), .int (sh), xj]) (st' := [.int (nI (9)), .int (nI ((re) / (100)))]) (M' := (I, J, Rx R, N, G)) rfl ?_
      refine XP_icN (x := (re) / (100)) (y := 9) rfl (by omega) (by omega) (fun (b18 : 9 < (re) / (100)) => absurd b18 (by omega)) (fun (b18 : (re) / (100) ≤ 9) => ?_)
      refine XP_n 2 (pc' := 21) (ls' := [.ref (0), .int (nI (4)), .int (mo), .int (nI (re)), .int (sh), xj]) (st' := [.int (nI (100)), .int (nI (re))]) (M' := (I, J, Rx R, N, G)) rfl ?_
      refine XP_iremN (a := re) (b := 100) rfl (by omega) (by omega) (by omega) ?_
      refine XP_n 1 (pc' := 23) (ls' := [.ref (0), .int (nI (4)), .int (mo), .int (nI (re)), .int (sh), xj]) (st' := [.int (nI (20)), .int (nI ((re) % (100)))]) (M' := (I, J, Rx R, N, G)) rfl ?_
      refine XP_icN (x := (re) % (100)) (y := 20) rfl (by omega) (by omega) (fun (b23 : (re) % (100) ≤ 20) => ?_) (fun (b23 : 20 < (re) % (100)) => absurd b23 (by omega))
      refine XP_n 2 (pc' := 28) (ls' := [.ref (0), .int (nI (4)), .int (mo), .int (nI (re)), .int (sh), xj]) (st' := [.int (nI (4)), .int (nI (4))]) (M' := (I, J, Rx R, N, G)) rfl ?_
      refine XP_icN (x := 4) (y := 4) rfl (by omega) (by omega) (fun (b28 : ¬ 4 = 4) => absurd b28 (by omega)) (fun (b28 : 4 = 4) => ?_)
      refine XP_n 2 (pc' := 31) (ls' := [.ref (0), .int (nI (4)), .int (mo), .int (nI (re)), .int (sh), xj]) (st' := [.int (sh), .ref (0)]) (M' := (I, J, Rx R, N, G)) rfl ?_
      refine XP_pure rfl rfl (c_sheetAtF g9) ?_
      refine XP_n 2 (pc' := 34) (ls' := [.ref (0), .int (nI (4)), .int (mo), .int (nI (re)), .int (sh), xj]) (st' := [.int (nI (20)), .int (nI (16)), .null]) (M' := (I, J, Rx R, N, G)) rfl ?_
      refine XP_pure rfl rfl (c_refNull _ _) ?_
      refine XP_n 2 (pc' := 37) (ls' := [.ref (0), .int (nI (4)), .int (mo), .int (nI (re)), .int (sh), .int (cI (-2))]) (st' := [.int (cI (-2))]) (M' := (I, J, Rx R, N, G)) rfl ?_
      refine XP_ifD rfl (fun (b37 : cI (-2) = 0) => absurd b37 (by decide)) (fun (b37 : ¬ cI (-2) = 0) => ?_)
      refine XP_n 1 (pc' := 39) (ls' := [.ref (0), .int (nI (4)), .int (mo), .int (nI (re)), .int (sh), .int (cI (-2))]) (st' := [.int (cI (-2))]) (M' := (I, J, Rx R, N, G)) rfl ?_
      exact XP_ret rfl ⟨rfl, _, _, _, _, _, rfl, hI.1.C, hI.2.2.1, hI.2.2.2.1, FrM.rf, hG⟩
    · unfold TP
      show XP X _ k_M_rule 0 [.ref (99), .int (nI (4)), .int (mo), .int (nI (re)), .int (sh), xj, xj, xj] [] _ _
      refine XP_n 1 (pc' := 1) (ls' := [.ref (99), .int (nI (4)), .int (mo), .int (nI (re)), .int (sh), xj, xj, xj]) (st' := [.int (nI (re))]) (M' := (I, J, Rx R, N, G)) rfl ?_
      refine XP_ifN (x := re)  rfl (by omega) (fun (b1 : re < 0) => absurd b1 (by omega)) (fun (b1 : 0 ≤ re) => ?_)
      refine XP_n 2 (pc' := 4) (ls' := [.ref (99), .int (nI (4)), .int (mo), .int (nI (re)), .int (sh), xj, xj, xj]) (st' := [.int (nI (100)), .int (nI (re))]) (M' := (I, J, Rx R, N, G)) rfl ?_
      refine XP_idivN (a := re) (b := 100) rfl (by omega) (by omega) (by omega) ?_
      refine XP_n 1 (pc' := 6) (ls' := [.ref (99), .int (nI (4)), .int (mo), .int (nI (re)), .int (sh), xj, xj, xj]) (st' := [.int (nI (9)), .int (nI ((re) / (100)))]) (M' := (I, J, Rx R, N, G)) rfl ?_
      refine XP_icN (x := (re) / (100)) (y := 9) rfl (by omega) (by omega) (fun (b6 : 9 < (re) / (100)) => absurd b6 (by omega)) (fun (b6 : (re) / (100) ≤ 9) => ?_)
      refine XP_n 2 (pc' := 9) (ls' := [.ref (99), .int (nI (4)), .int (mo), .int (nI (re)), .int (sh), xj, xj, xj]) (st' := [.int (nI (100)), .int (nI (re))]) (M' := (I, J, Rx R, N, G)) rfl ?_
      refine XP_iremN (a := re) (b := 100) rfl (by omega) (by omega) (by omega) ?_
      refine XP_n 1 (pc' := 11) (ls' := [.ref (99), .int (nI (4)), .int (mo), .int (nI (re)), .int (sh), xj, xj, xj]) (st' := [.int (nI (20)), .int (nI ((re) % (100)))]) (M' := (I, J, Rx R, N, G)) rfl ?_
      refine XP_icN (x := (re) % (100)) (y := 20) rfl (by omega) (by omega) (fun (b11 : 20 < (re) % (100)) => absurd b11 (by omega)) (fun (b11 : (re) % (100) ≤ 20) => ?_)
      refine XP_n 6 (pc' := 19) (ls' := [.ref (99), .int (nI (4)), .int (mo), .int (nI (re)), .int (sh), .int (nI (1)), xj, xj]) (st' := [.int (nI (5)), .int (nI (0)), .int (nI (4))]) (M' := (I, J, Rx R, N, G)) rfl ?_
      refine XP_pure rfl rfl (w_M X _ _ 0 5 _) ?_
      refine XP_s rfl ?_
      refine XP_beq (fun b20 => absurd g0 b20) (fun b20 => ?_)
      refine XP_n 3 (pc' := 24) (ls' := [.ref (99), .int (nI (4)), .int (mo), .int (nI (re)), .int (sh), .int (nI (1)), xj, xj]) (st' := [.int (nI (1000)), .int (nI (0)), .int (mo)]) (M' := (I, J, Rx R, N, G)) rfl ?_
      refine XP_pure rfl rfl (w_M X _ _ 0 1000 _) ?_
      refine XP_s rfl ?_
      refine XP_beq (fun b25 => absurd g1 b25) (fun b25 => ?_)
      refine XP_n 1 (pc' := 27) (ls' := [.ref (99), .int (nI (4)), .int (mo), .int (nI (re)), .int (sh), .int (nI (1)), xj, xj]) (st' := [.int (nI (1))]) (M' := (I, J, Rx R, N, G)) rfl ?_
      refine XP_ifN (x := 1)  rfl (by omega) (fun (b27 : 1 = 0) => absurd b27 (by omega)) (fun (b27 : ¬ 1 = 0) => ?_)
      refine XP_n 2 (pc' := 30) (ls' := [.ref (99), .int (nI (4)), .int (mo), .int (nI (re)), .int (sh), .int (nI (1)), xj, xj]) (st' := [.int (nI (4)), .int (nI (4))]) (M' := (I, J, Rx R, N, G)) rfl ?_
      refine XP_icN (x := 4) (y := 4) rfl (by omega) (by omega) (fun (b30 : ¬ 4 = 4) => absurd b30 (by omega)) (fun (b30 : 4 = 4) => ?_)
      refine XP_n 3 (pc' := 34) (ls' := [.ref (99), .int (nI (4)), .int (mo), .int (nI (re)), .int (sh), .int (nI (1)), xj, xj]) (st' := [.int (nI (3)), .int (nI (0)), .int (sh)]) (M' := (I, J, Rx R, N, G)) rfl ?_
      refine XP_pure rfl rfl (w_M X _ _ 0 3 _) ?_
      refine XP_s rfl ?_
      refine XP_bne (fun b35 => absurd b35 g9) (fun b35 => ?_)
      refine XP_n 1 (pc' := 37) (ls' := [.ref (99), .int (nI (4)), .int (mo), .int (nI (re)), .int (sh), .int (nI (1)), xj, xj]) (st' := [.int (cI (-2))]) (M' := (I, J, Rx R, N, G)) rfl ?_
      exact XP_ret rfl ⟨rfl, _, rfl, hS, FrC.rf⟩
  obtain ⟨sn, -, hsn, rfl, -⟩ := iv_nat g9 (by omega) (by omega)
  have hsn : sn < 4 := by omega
  have hsz0 := (hW.sz1 hsn).2
  by_cases g10 : ¬ s 120 sn = cI (-1)
  rotate_left
  · skip
    refine ⟨cI (-11), s, hW, ⟨_, hc1, Nat.le_refl _, by omega⟩, fun X d I J R N G hI hG => ?_, fun X d I J R N G hS hD => ?_⟩
    · unfold TP
      show XP X _ k_H_rule 0 [.ref (0), .int (nI (4)), .int (mo), .int (nI (re)), .int (nI (sn)), xj] [] _ _
      refine XP_n 3 (pc' := 3) (ls' := [.ref (0), .int (nI (4)), .int (mo), .int (nI (re)), .int (nI (sn)), xj]) (st' := [.int (nI (5)), .int (nI (0)), .int (nI (4))]) (M' := (I, J, Rx R, N, G)) rfl ?_
      refine XP_pure rfl rfl (w_H X _ _ 0 5 _) ?_
      refine XP_s rfl ?_
      refine XP_beq (fun b4 => absurd g0 b4) (fun b4 => ?_)
      refine XP_n 3 (pc' := 8) (ls' := [.ref (0), .int (nI (4)), .int (mo), .int (nI (re)), .int (nI (sn)), xj]) (st' := [.int (nI (1000)), .int (nI (0)), .int (mo)]) (M' := (I, J, Rx R, N, G)) rfl ?_
      refine XP_pure rfl rfl (w_H X _ _ 0 1000 _) ?_
      refine XP_s rfl ?_
      refine XP_beq (fun b9 => absurd g1 b9) (fun b9 => ?_)
      refine XP_n 1 (pc' := 11) (ls' := [.ref (0), .int (nI (4)), .int (mo), .int (nI (re)), .int (nI (sn)), xj]) (st' := [.int (nI (re))]) (M' := (I, J, Rx R, N, G)) rfl ?_
      refine XP_ifN (x := re)  rfl (by omega) (fun (b11 : 0 ≤ re) => ?_) (fun (b11 : re < 0) => absurd b11 (by omega))
      refine XP_n 2 (pc' := 16) (ls' := [.ref (0), .int (nI (4)), .int (mo), .int (nI (re)), .int (nI (sn)), xj]) (st' := [.int (nI (100)), .int (nI (re))]) (M' := (I, J, Rx R, N, G)) rfl ?_
      refine XP_idivN (a := re) (b := 100) rfl (by omega) (by omega) (by omega) ?_
      refine XP_n 1 (pc' := 18) (ls' := [.ref (0), .int (nI (4)), .int (mo), .int (nI (re)), .int (nI (sn)), xj]) (st' := [.int (nI (9)), .int (nI ((re) / (100)))]) (M' := (I, J, Rx R, N, G)) rfl ?_
      refine XP_icN (x := (re) / (100)) (y := 9) rfl (by omega) (by omega) (fun (b18 : 9 < (re) / (100)) => absurd b18 (by omega)) (fun (b18 : (re) / (100) ≤ 9) => ?_)
      refine XP_n 2 (pc' := 21) (ls' := [.ref (0), .int (nI (4)), .int (mo), .int (nI (re)), .int (nI (sn)), xj]) (st' := [.int (nI (100)), .int (nI (re))]) (M' := (I, J, Rx R, N, G)) rfl ?_
      refine XP_iremN (a := re) (b := 100) rfl (by omega) (by omega) (by omega) ?_
      refine XP_n 1 (pc' := 23) (ls' := [.ref (0), .int (nI (4)), .int (mo), .int (nI (re)), .int (nI (sn)), xj]) (st' := [.int (nI (20)), .int (nI ((re) % (100)))]) (M' := (I, J, Rx R, N, G)) rfl ?_
      refine XP_icN (x := (re) % (100)) (y := 20) rfl (by omega) (by omega) (fun (b23 : (re) % (100) ≤ 20) => ?_) (fun (b23 : 20 < (re) % (100)) => absurd b23 (by omega))
      refine XP_n 2 (pc' := 28) (ls' := [.ref (0), .int (nI (4)), .int (mo), .int (nI (re)), .int (nI (sn)), xj]) (st' := [.int (nI (4)), .int (nI (4))]) (M' := (I, J, Rx R, N, G)) rfl ?_
      refine XP_icN (x := 4) (y := 4) rfl (by omega) (by omega) (fun (b28 : ¬ 4 = 4) => absurd b28 (by omega)) (fun (b28 : 4 = 4) => ?_)
      refine XP_n 2 (pc' := 31) (ls' := [.ref (0), .int (nI (4)), .int (mo), .int (nI (re)), .int (nI (sn)), xj]) (st' := [.int (nI (sn)), .ref (0)]) (M' := (I, J, Rx R, N, G)) rfl ?_
      refine XP_pure rfl rfl (c_sheetAtT (show sn < 4 by omega)) ?_
      refine XP_n 2 (pc' := 34) (ls' := [.ref (0), .int (nI (4)), .int (mo), .int (nI (re)), .int (nI (sn)), xj]) (st' := [.int (nI (20)), .int (nI (16)), .ref (87 + 2 * sn)]) (M' := (I, J, Rx R, N, G)) rfl ?_
      refine XP_pure rfl rfl (c_refM hI.1 hW (show sn < 4 by omega) (Classical.not_not.mp g10)) ?_
      refine XP_n 2 (pc' := 37) (ls' := [.ref (0), .int (nI (4)), .int (mo), .int (nI (re)), .int (nI (sn)), .int (cI (-11))]) (st' := [.int (cI (-11))]) (M' := (I, J, Rx R, N, G)) rfl ?_
      refine XP_ifD rfl (fun (b37 : cI (-11) = 0) => absurd b37 (by decide)) (fun (b37 : ¬ cI (-11) = 0) => ?_)
      refine XP_n 1 (pc' := 39) (ls' := [.ref (0), .int (nI (4)), .int (mo), .int (nI (re)), .int (nI (sn)), .int (cI (-11))]) (st' := [.int (cI (-11))]) (M' := (I, J, Rx R, N, G)) rfl ?_
      exact XP_ret rfl ⟨rfl, _, _, _, _, _, rfl, hI.1.C, hI.2.2.1, hI.2.2.2.1, FrM.rf, hG⟩
    · unfold TP
      show XP X _ k_M_rule 0 [.ref (99), .int (nI (4)), .int (mo), .int (nI (re)), .int (nI (sn)), xj, xj, xj] [] _ _
      refine XP_n 1 (pc' := 1) (ls' := [.ref (99), .int (nI (4)), .int (mo), .int (nI (re)), .int (nI (sn)), xj, xj, xj]) (st' := [.int (nI (re))]) (M' := (I, J, Rx R, N, G)) rfl ?_
      refine XP_ifN (x := re)  rfl (by omega) (fun (b1 : re < 0) => absurd b1 (by omega)) (fun (b1 : 0 ≤ re) => ?_)
      refine XP_n 2 (pc' := 4) (ls' := [.ref (99), .int (nI (4)), .int (mo), .int (nI (re)), .int (nI (sn)), xj, xj, xj]) (st' := [.int (nI (100)), .int (nI (re))]) (M' := (I, J, Rx R, N, G)) rfl ?_
      refine XP_idivN (a := re) (b := 100) rfl (by omega) (by omega) (by omega) ?_
      refine XP_n 1 (pc' := 6) (ls' := [.ref (99), .int (nI (4)), .int (mo), .int (nI (re)), .int (nI (sn)), xj, xj, xj]) (st' := [.int (nI (9)), .int (nI ((re) / (100)))]) (M' := (I, J, Rx R, N, G)) rfl ?_
      refine XP_icN (x := (re) / (100)) (y := 9) rfl (by omega) (by omega) (fun (b6 : 9 < (re) / (100)) => absurd b6 (by omega)) (fun (b6 : (re) / (100) ≤ 9) => ?_)
      refine XP_n 2 (pc' := 9) (ls' := [.ref (99), .int (nI (4)), .int (mo), .int (nI (re)), .int (nI (sn)), xj, xj, xj]) (st' := [.int (nI (100)), .int (nI (re))]) (M' := (I, J, Rx R, N, G)) rfl ?_
      refine XP_iremN (a := re) (b := 100) rfl (by omega) (by omega) (by omega) ?_
      refine XP_n 1 (pc' := 11) (ls' := [.ref (99), .int (nI (4)), .int (mo), .int (nI (re)), .int (nI (sn)), xj, xj, xj]) (st' := [.int (nI (20)), .int (nI ((re) % (100)))]) (M' := (I, J, Rx R, N, G)) rfl ?_
      refine XP_icN (x := (re) % (100)) (y := 20) rfl (by omega) (by omega) (fun (b11 : 20 < (re) % (100)) => absurd b11 (by omega)) (fun (b11 : (re) % (100) ≤ 20) => ?_)
      refine XP_n 6 (pc' := 19) (ls' := [.ref (99), .int (nI (4)), .int (mo), .int (nI (re)), .int (nI (sn)), .int (nI (1)), xj, xj]) (st' := [.int (nI (5)), .int (nI (0)), .int (nI (4))]) (M' := (I, J, Rx R, N, G)) rfl ?_
      refine XP_pure rfl rfl (w_M X _ _ 0 5 _) ?_
      refine XP_s rfl ?_
      refine XP_beq (fun b20 => absurd g0 b20) (fun b20 => ?_)
      refine XP_n 3 (pc' := 24) (ls' := [.ref (99), .int (nI (4)), .int (mo), .int (nI (re)), .int (nI (sn)), .int (nI (1)), xj, xj]) (st' := [.int (nI (1000)), .int (nI (0)), .int (mo)]) (M' := (I, J, Rx R, N, G)) rfl ?_
      refine XP_pure rfl rfl (w_M X _ _ 0 1000 _) ?_
      refine XP_s rfl ?_
      refine XP_beq (fun b25 => absurd g1 b25) (fun b25 => ?_)
      refine XP_n 1 (pc' := 27) (ls' := [.ref (99), .int (nI (4)), .int (mo), .int (nI (re)), .int (nI (sn)), .int (nI (1)), xj, xj]) (st' := [.int (nI (1))]) (M' := (I, J, Rx R, N, G)) rfl ?_
      refine XP_ifN (x := 1)  rfl (by omega) (fun (b27 : 1 = 0) => absurd b27 (by omega)) (fun (b27 : ¬ 1 = 0) => ?_)
      refine XP_n 2 (pc' := 30) (ls' := [.ref (99), .int (nI (4)), .int (mo), .int (nI (re)), .int (nI (sn)), .int (nI (1)), xj, xj]) (st' := [.int (nI (4)), .int (nI (4))]) (M' := (I, J, Rx R, N, G)) rfl ?_
      refine XP_icN (x := 4) (y := 4) rfl (by omega) (by omega) (fun (b30 : ¬ 4 = 4) => absurd b30 (by omega)) (fun (b30 : 4 = 4) => ?_)
      refine XP_n 3 (pc' := 34) (ls' := [.ref (99), .int (nI (4)), .int (mo), .int (nI (re)), .int (nI (sn)), .int (nI (1)), xj, xj]) (st' := [.int (nI (3)), .int (nI (0)), .int (nI (sn))]) (M' := (I, J, Rx R, N, G)) rfl ?_
      refine XP_pure rfl rfl (w_M X _ _ 0 3 _) ?_
      refine XP_s rfl ?_
      refine XP_bne (fun b35 => ?_) (fun b35 => absurd g9 b35)
      refine XP_n 3 (pc' := 41) (ls' := [.ref (99), .int (nI (4)), .int (mo), .int (nI (re)), .int (nI (sn)), .int (nI (1)), xj, xj]) (st' := [.int (nI (3)), .int (nI (0)), .int (nI (sn))]) (M' := (I, J, Rx R, N, G)) rfl ?_
      refine XP_pure rfl rfl (w_M X _ _ 0 3 _) ?_
      refine XP_s rfl ?_
      refine XP_beq (fun b42 => absurd g9 b42) (fun b42 => ?_)
      refine XP_n 5 (pc' := 49) (ls' := [.ref (99), .int (nI (4)), .int (mo), .int (nI (re)), .int (nI (sn)), .int (nI (1)), .int (nI (sn)), xj]) (st' := [.int (nI (4)), .int (nI (4))]) (M' := (I, J, Rx R, N, G)) rfl ?_
      refine XP_icN (x := 4) (y := 4) rfl (by omega) (by omega) (fun (b49 : ¬ 4 = 4) => absurd b49 (by omega)) (fun (b49 : 4 = 4) => ?_)
      refine XP_n 3 (pc' := 53) (ls' := [.ref (99), .int (nI (4)), .int (mo), .int (nI (re)), .int (nI (sn)), .int (nI (1)), .int (nI (sn)), xj]) (st' := [.int (nI (sn)), .ref (120)]) (M' := (I, J, Rx R, N, G)) rfl ?_
      refine XP_ialdM hS rfl rfl (show sn < 4 by omega) rfl (by omega) rfl ?_
      refine XP_n 1 (pc' := 55) (ls' := [.ref (99), .int (nI (4)), .int (mo), .int (nI (re)), .int (nI (sn)), .int (nI (1)), .int (nI (sn)), xj]) (st' := [.int (cI (-1)), .int (s 120 sn)]) (M' := (I, J, Rx R, N, G)) rfl ?_
      refine XP_icD rfl (fun (b55 : ¬ s 120 sn = cI (-1)) => absurd b55 (by first | exact g10 | exact fun z => z g10 | exact Int32.not_le.mpr g10 | exact Int32.not_lt.mpr (Int32.not_lt.mp g10) | omega)) (fun (b55 : s 120 sn = cI (-1)) => ?_)
      refine XP_n 1 (pc' := 57) (ls' := [.ref (99), .int (nI (4)), .int (mo), .int (nI (re)), .int (nI (sn)), .int (nI (1)), .int (nI (sn)), xj]) (st' := [.int (cI (-11))]) (M' := (I, J, Rx R, N, G)) rfl ?_
      exact XP_ret rfl ⟨rfl, _, rfl, hS, FrC.rf⟩
  by_cases g11 : shOk s sn 16 20
  rotate_left
  · skip
    by_cases g12 : sz s sn = 16
    · have hbad : ∃ j, 0 ≤ j ∧ j < 16 ∧ ¬ iv 0 20 (s 122 (40 * sn + j)) := by
        by_cases hx : ∃ j, 0 ≤ j ∧ j < 16 ∧ ¬ iv 0 20 (s 122 (40 * sn + j))
        · exact hx
        · exact absurd ⟨g12, fun i hi => Classical.byContradiction (fun z => hx ⟨i, Nat.zero_le _, hi, z⟩)⟩ g11
      refine ⟨cI (-2), s, hW, ⟨_, hc1, Nat.le_refl _, by omega⟩, fun X d I J R N G hI hG => ?_, fun X d I J R N G hS hD => ?_⟩
      · unfold TP
        show XP X _ k_H_rule 0 [.ref (0), .int (nI (4)), .int (mo), .int (nI (re)), .int (nI (sn)), xj] [] _ _
        refine XP_n 3 (pc' := 3) (ls' := [.ref (0), .int (nI (4)), .int (mo), .int (nI (re)), .int (nI (sn)), xj]) (st' := [.int (nI (5)), .int (nI (0)), .int (nI (4))]) (M' := (I, J, Rx R, N, G)) rfl ?_
        refine XP_pure rfl rfl (w_H X _ _ 0 5 _) ?_
        refine XP_s rfl ?_
        refine XP_beq (fun b4 => absurd g0 b4) (fun b4 => ?_)
        refine XP_n 3 (pc' := 8) (ls' := [.ref (0), .int (nI (4)), .int (mo), .int (nI (re)), .int (nI (sn)), xj]) (st' := [.int (nI (1000)), .int (nI (0)), .int (mo)]) (M' := (I, J, Rx R, N, G)) rfl ?_
        refine XP_pure rfl rfl (w_H X _ _ 0 1000 _) ?_
        refine XP_s rfl ?_
        refine XP_beq (fun b9 => absurd g1 b9) (fun b9 => ?_)
        refine XP_n 1 (pc' := 11) (ls' := [.ref (0), .int (nI (4)), .int (mo), .int (nI (re)), .int (nI (sn)), xj]) (st' := [.int (nI (re))]) (M' := (I, J, Rx R, N, G)) rfl ?_
        refine XP_ifN (x := re)  rfl (by omega) (fun (b11 : 0 ≤ re) => ?_) (fun (b11 : re < 0) => absurd b11 (by omega))
        refine XP_n 2 (pc' := 16) (ls' := [.ref (0), .int (nI (4)), .int (mo), .int (nI (re)), .int (nI (sn)), xj]) (st' := [.int (nI (100)), .int (nI (re))]) (M' := (I, J, Rx R, N, G)) rfl ?_
        refine XP_idivN (a := re) (b := 100) rfl (by omega) (by omega) (by omega) ?_
        refine XP_n 1 (pc' := 18) (ls' := [.ref (0), .int (nI (4)), .int (mo), .int (nI (re)), .int (nI (sn)), xj]) (st' := [.int (nI (9)), .int (nI ((re) / (100)))]) (M' := (I, J, Rx R, N, G)) rfl ?_
        refine XP_icN (x := (re) / (100)) (y := 9) rfl (by omega) (by omega) (fun (b18 : 9 < (re) / (100)) => absurd b18 (by omega)) (fun (b18 : (re) / (100) ≤ 9) => ?_)
        refine XP_n 2 (pc' := 21) (ls' := [.ref (0), .int (nI (4)), .int (mo), .int (nI (re)), .int (nI (sn)), xj]) (st' := [.int (nI (100)), .int (nI (re))]) (M' := (I, J, Rx R, N, G)) rfl ?_
        refine XP_iremN (a := re) (b := 100) rfl (by omega) (by omega) (by omega) ?_
        refine XP_n 1 (pc' := 23) (ls' := [.ref (0), .int (nI (4)), .int (mo), .int (nI (re)), .int (nI (sn)), xj]) (st' := [.int (nI (20)), .int (nI ((re) % (100)))]) (M' := (I, J, Rx R, N, G)) rfl ?_
        refine XP_icN (x := (re) % (100)) (y := 20) rfl (by omega) (by omega) (fun (b23 : (re) % (100) ≤ 20) => ?_) (fun (b23 : 20 < (re) % (100)) => absurd b23 (by omega))
        refine XP_n 2 (pc' := 28) (ls' := [.ref (0), .int (nI (4)), .int (mo), .int (nI (re)), .int (nI (sn)), xj]) (st' := [.int (nI (4)), .int (nI (4))]) (M' := (I, J, Rx R, N, G)) rfl ?_
        refine XP_icN (x := 4) (y := 4) rfl (by omega) (by omega) (fun (b28 : ¬ 4 = 4) => absurd b28 (by omega)) (fun (b28 : 4 = 4) => ?_)
        refine XP_n 2 (pc' := 31) (ls' := [.ref (0), .int (nI (4)), .int (mo), .int (nI (re)), .int (nI (sn)), xj]) (st' := [.int (nI (sn)), .ref (0)]) (M' := (I, J, Rx R, N, G)) rfl ?_
        refine XP_pure rfl rfl (c_sheetAtT (show sn < 4 by omega)) ?_
        refine XP_n 2 (pc' := 34) (ls' := [.ref (0), .int (nI (4)), .int (mo), .int (nI (re)), .int (nI (sn)), xj]) (st' := [.int (nI (20)), .int (nI (16)), .ref (87 + 2 * sn)]) (M' := (I, J, Rx R, N, G)) rfl ?_
        refine XP_pure rfl rfl (c_refB hI.1 hW (show sn < 4 by omega) g10 g11) ?_
        refine XP_n 2 (pc' := 37) (ls' := [.ref (0), .int (nI (4)), .int (mo), .int (nI (re)), .int (nI (sn)), .int (cI (-2))]) (st' := [.int (cI (-2))]) (M' := (I, J, Rx R, N, G)) rfl ?_
        refine XP_ifD rfl (fun (b37 : cI (-2) = 0) => absurd b37 (by decide)) (fun (b37 : ¬ cI (-2) = 0) => ?_)
        refine XP_n 1 (pc' := 39) (ls' := [.ref (0), .int (nI (4)), .int (mo), .int (nI (re)), .int (nI (sn)), .int (cI (-2))]) (st' := [.int (cI (-2))]) (M' := (I, J, Rx R, N, G)) rfl ?_
        exact XP_ret rfl ⟨rfl, _, _, _, _, _, rfl, hI.1.C, hI.2.2.1, hI.2.2.2.1, FrM.rf, hG⟩
      · unfold TP
        show XP X _ k_M_rule 0 [.ref (99), .int (nI (4)), .int (mo), .int (nI (re)), .int (nI (sn)), xj, xj, xj] [] _ _
        refine XP_n 1 (pc' := 1) (ls' := [.ref (99), .int (nI (4)), .int (mo), .int (nI (re)), .int (nI (sn)), xj, xj, xj]) (st' := [.int (nI (re))]) (M' := (I, J, Rx R, N, G)) rfl ?_
        refine XP_ifN (x := re)  rfl (by omega) (fun (b1 : re < 0) => absurd b1 (by omega)) (fun (b1 : 0 ≤ re) => ?_)
        refine XP_n 2 (pc' := 4) (ls' := [.ref (99), .int (nI (4)), .int (mo), .int (nI (re)), .int (nI (sn)), xj, xj, xj]) (st' := [.int (nI (100)), .int (nI (re))]) (M' := (I, J, Rx R, N, G)) rfl ?_
        refine XP_idivN (a := re) (b := 100) rfl (by omega) (by omega) (by omega) ?_
        refine XP_n 1 (pc' := 6) (ls' := [.ref (99), .int (nI (4)), .int (mo), .int (nI (re)), .int (nI (sn)), xj, xj, xj]) (st' := [.int (nI (9)), .int (nI ((re) / (100)))]) (M' := (I, J, Rx R, N, G)) rfl ?_
        refine XP_icN (x := (re) / (100)) (y := 9) rfl (by omega) (by omega) (fun (b6 : 9 < (re) / (100)) => absurd b6 (by omega)) (fun (b6 : (re) / (100) ≤ 9) => ?_)
        refine XP_n 2 (pc' := 9) (ls' := [.ref (99), .int (nI (4)), .int (mo), .int (nI (re)), .int (nI (sn)), xj, xj, xj]) (st' := [.int (nI (100)), .int (nI (re))]) (M' := (I, J, Rx R, N, G)) rfl ?_
        refine XP_iremN (a := re) (b := 100) rfl (by omega) (by omega) (by omega) ?_
        refine XP_n 1 (pc' := 11) (ls' := [.ref (99), .int (nI (4)), .int (mo), .int (nI (re)), .int (nI (sn)), xj, xj, xj]) (st' := [.int (nI (20)), .int (nI ((re) % (100)))]) (M' := (I, J, Rx R, N, G)) rfl ?_
        refine XP_icN (x := (re) % (100)) (y := 20) rfl (by omega) (by omega) (fun (b11 : 20 < (re) % (100)) => absurd b11 (by omega)) (fun (b11 : (re) % (100) ≤ 20) => ?_)
        refine XP_n 6 (pc' := 19) (ls' := [.ref (99), .int (nI (4)), .int (mo), .int (nI (re)), .int (nI (sn)), .int (nI (1)), xj, xj]) (st' := [.int (nI (5)), .int (nI (0)), .int (nI (4))]) (M' := (I, J, Rx R, N, G)) rfl ?_
        refine XP_pure rfl rfl (w_M X _ _ 0 5 _) ?_
        refine XP_s rfl ?_
        refine XP_beq (fun b20 => absurd g0 b20) (fun b20 => ?_)
        refine XP_n 3 (pc' := 24) (ls' := [.ref (99), .int (nI (4)), .int (mo), .int (nI (re)), .int (nI (sn)), .int (nI (1)), xj, xj]) (st' := [.int (nI (1000)), .int (nI (0)), .int (mo)]) (M' := (I, J, Rx R, N, G)) rfl ?_
        refine XP_pure rfl rfl (w_M X _ _ 0 1000 _) ?_
        refine XP_s rfl ?_
        refine XP_beq (fun b25 => absurd g1 b25) (fun b25 => ?_)
        refine XP_n 1 (pc' := 27) (ls' := [.ref (99), .int (nI (4)), .int (mo), .int (nI (re)), .int (nI (sn)), .int (nI (1)), xj, xj]) (st' := [.int (nI (1))]) (M' := (I, J, Rx R, N, G)) rfl ?_
        refine XP_ifN (x := 1)  rfl (by omega) (fun (b27 : 1 = 0) => absurd b27 (by omega)) (fun (b27 : ¬ 1 = 0) => ?_)
        refine XP_n 2 (pc' := 30) (ls' := [.ref (99), .int (nI (4)), .int (mo), .int (nI (re)), .int (nI (sn)), .int (nI (1)), xj, xj]) (st' := [.int (nI (4)), .int (nI (4))]) (M' := (I, J, Rx R, N, G)) rfl ?_
        refine XP_icN (x := 4) (y := 4) rfl (by omega) (by omega) (fun (b30 : ¬ 4 = 4) => absurd b30 (by omega)) (fun (b30 : 4 = 4) => ?_)
        refine XP_n 3 (pc' := 34) (ls' := [.ref (99), .int (nI (4)), .int (mo), .int (nI (re)), .int (nI (sn)), .int (nI (1)), xj, xj]) (st' := [.int (nI (3)), .int (nI (0)), .int (nI (sn))]) (M' := (I, J, Rx R, N, G)) rfl ?_
        refine XP_pure rfl rfl (w_M X _ _ 0 3 _) ?_
        refine XP_s rfl ?_
        refine XP_bne (fun b35 => ?_) (fun b35 => absurd g9 b35)
        refine XP_n 3 (pc' := 41) (ls' := [.ref (99), .int (nI (4)), .int (mo), .int (nI (re)), .int (nI (sn)), .int (nI (1)), xj, xj]) (st' := [.int (nI (3)), .int (nI (0)), .int (nI (sn))]) (M' := (I, J, Rx R, N, G)) rfl ?_
        refine XP_pure rfl rfl (w_M X _ _ 0 3 _) ?_
        refine XP_s rfl ?_
        refine XP_beq (fun b42 => absurd g9 b42) (fun b42 => ?_)
        refine XP_n 5 (pc' := 49) (ls' := [.ref (99), .int (nI (4)), .int (mo), .int (nI (re)), .int (nI (sn)), .int (nI (1)), .int (nI (sn)), xj]) (st' := [.int (nI (4)), .int (nI (4))]) (M' := (I, J, Rx R, N, G)) rfl ?_
        refine XP_icN (x := 4) (y := 4) rfl (by omega) (by omega) (fun (b49 : ¬ 4 = 4) => absurd b49 (by omega)) (fun (b49 : 4 = 4) => ?_)
        refine XP_n 3 (pc' := 53) (ls' := [.ref (99), .int (nI (4)), .int (mo), .int (nI (re)), .int (nI (sn)), .int (nI (1)), .int (nI (sn)), xj]) (st' := [.int (nI (sn)), .ref (120)]) (M' := (I, J, Rx R, N, G)) rfl ?_
        refine XP_ialdM hS rfl rfl (show sn < 4 by omega) rfl (by omega) rfl ?_
        refine XP_n 1 (pc' := 55) (ls' := [.ref (99), .int (nI (4)), .int (mo), .int (nI (re)), .int (nI (sn)), .int (nI (1)), .int (nI (sn)), xj]) (st' := [.int (cI (-1)), .int (s 120 sn)]) (M' := (I, J, Rx R, N, G)) rfl ?_
        refine XP_icD rfl (fun (b55 : ¬ s 120 sn = cI (-1)) => ?_) (fun (b55 : s 120 sn = cI (-1)) => absurd b55 (by first | exact g10 | exact fun z => z g10 | exact Int32.not_le.mpr g10 | exact Int32.not_lt.mpr (Int32.not_lt.mp g10) | omega))
        refine XP_n 2 (pc' := 60) (ls' := [.ref (99), .int (nI (4)), .int (mo), .int (nI (re)), .int (nI (sn)), .int (nI (1)), .int (nI (sn)), xj]) (st' := [.int (nI (4)), .int (nI (4))]) (M' := (I, J, Rx R, N, G)) rfl ?_
        refine XP_icN (x := 4) (y := 4) rfl (by omega) (by omega) (fun (b60 : ¬ 4 = 4) => absurd b60 (by omega)) (fun (b60 : 4 = 4) => ?_)
        refine XP_n 3 (pc' := 64) (ls' := [.ref (99), .int (nI (4)), .int (mo), .int (nI (re)), .int (nI (sn)), .int (nI (1)), .int (nI (sn)), xj]) (st' := [.int (nI (sn)), .ref (121)]) (M' := (I, J, Rx R, N, G)) rfl ?_
        refine XP_ialdM hS rfl rfl (show sn < 4 by omega) rfl (by omega) rfl ?_
        rw [(hW.sz1 hsn).1]
        refine XP_n 1 (pc' := 66) (ls' := [.ref (99), .int (nI (4)), .int (mo), .int (nI (re)), .int (nI (sn)), .int (nI (1)), .int (nI (sn)), xj]) (st' := [.int (nI (16)), .int (nI (sz s sn))]) (M' := (I, J, Rx R, N, G)) rfl ?_
        refine XP_icN (x := sz s sn) (y := 16) rfl (by omega) (by omega) (fun (b66 : ¬ sz s sn = 16) => absurd b66 (by omega)) (fun (b66 : sz s sn = 16) => ?_)
        refine XP_n 5 (pc' := 73) (ls' := [.ref (99), .int (nI (4)), .int (mo), .int (nI (re)), .int (nI (sn)), .int (nI (1)), .int (nI (sn)), .int (nI (0))]) (st' := []) (M' := (I, J, Rx R, N, G)) rfl ?_
        exact l_M_rgF hS hsn ⟨rfl, _, rfl, hS, FrC.rf⟩ 16 0 (by omega) hbad
    · skip
      refine ⟨cI (-2), s, hW, ⟨_, hc1, Nat.le_refl _, by omega⟩, fun X d I J R N G hI hG => ?_, fun X d I J R N G hS hD => ?_⟩
      · unfold TP
        show XP X _ k_H_rule 0 [.ref (0), .int (nI (4)), .int (mo), .int (nI (re)), .int (nI (sn)), xj] [] _ _
        refine XP_n 3 (pc' := 3) (ls' := [.ref (0), .int (nI (4)), .int (mo), .int (nI (re)), .int (nI (sn)), xj]) (st' := [.int (nI (5)), .int (nI (0)), .int (nI (4))]) (M' := (I, J, Rx R, N, G)) rfl ?_
        refine XP_pure rfl rfl (w_H X _ _ 0 5 _) ?_
        refine XP_s rfl ?_
        refine XP_beq (fun b4 => absurd g0 b4) (fun b4 => ?_)
        refine XP_n 3 (pc' := 8) (ls' := [.ref (0), .int (nI (4)), .int (mo), .int (nI (re)), .int (nI (sn)), xj]) (st' := [.int (nI (1000)), .int (nI (0)), .int (mo)]) (M' := (I, J, Rx R, N, G)) rfl ?_
        refine XP_pure rfl rfl (w_H X _ _ 0 1000 _) ?_
        refine XP_s rfl ?_
        refine XP_beq (fun b9 => absurd g1 b9) (fun b9 => ?_)
        refine XP_n 1 (pc' := 11) (ls' := [.ref (0), .int (nI (4)), .int (mo), .int (nI (re)), .int (nI (sn)), xj]) (st' := [.int (nI (re))]) (M' := (I, J, Rx R, N, G)) rfl ?_
        refine XP_ifN (x := re)  rfl (by omega) (fun (b11 : 0 ≤ re) => ?_) (fun (b11 : re < 0) => absurd b11 (by omega))
        refine XP_n 2 (pc' := 16) (ls' := [.ref (0), .int (nI (4)), .int (mo), .int (nI (re)), .int (nI (sn)), xj]) (st' := [.int (nI (100)), .int (nI (re))]) (M' := (I, J, Rx R, N, G)) rfl ?_
        refine XP_idivN (a := re) (b := 100) rfl (by omega) (by omega) (by omega) ?_
        refine XP_n 1 (pc' := 18) (ls' := [.ref (0), .int (nI (4)), .int (mo), .int (nI (re)), .int (nI (sn)), xj]) (st' := [.int (nI (9)), .int (nI ((re) / (100)))]) (M' := (I, J, Rx R, N, G)) rfl ?_
        refine XP_icN (x := (re) / (100)) (y := 9) rfl (by omega) (by omega) (fun (b18 : 9 < (re) / (100)) => absurd b18 (by omega)) (fun (b18 : (re) / (100) ≤ 9) => ?_)
        refine XP_n 2 (pc' := 21) (ls' := [.ref (0), .int (nI (4)), .int (mo), .int (nI (re)), .int (nI (sn)), xj]) (st' := [.int (nI (100)), .int (nI (re))]) (M' := (I, J, Rx R, N, G)) rfl ?_
        refine XP_iremN (a := re) (b := 100) rfl (by omega) (by omega) (by omega) ?_
        refine XP_n 1 (pc' := 23) (ls' := [.ref (0), .int (nI (4)), .int (mo), .int (nI (re)), .int (nI (sn)), xj]) (st' := [.int (nI (20)), .int (nI ((re) % (100)))]) (M' := (I, J, Rx R, N, G)) rfl ?_
        refine XP_icN (x := (re) % (100)) (y := 20) rfl (by omega) (by omega) (fun (b23 : (re) % (100) ≤ 20) => ?_) (fun (b23 : 20 < (re) % (100)) => absurd b23 (by omega))
        refine XP_n 2 (pc' := 28) (ls' := [.ref (0), .int (nI (4)), .int (mo), .int (nI (re)), .int (nI (sn)), xj]) (st' := [.int (nI (4)), .int (nI (4))]) (M' := (I, J, Rx R, N, G)) rfl ?_
        refine XP_icN (x := 4) (y := 4) rfl (by omega) (by omega) (fun (b28 : ¬ 4 = 4) => absurd b28 (by omega)) (fun (b28 : 4 = 4) => ?_)
        refine XP_n 2 (pc' := 31) (ls' := [.ref (0), .int (nI (4)), .int (mo), .int (nI (re)), .int (nI (sn)), xj]) (st' := [.int (nI (sn)), .ref (0)]) (M' := (I, J, Rx R, N, G)) rfl ?_
        refine XP_pure rfl rfl (c_sheetAtT (show sn < 4 by omega)) ?_
        refine XP_n 2 (pc' := 34) (ls' := [.ref (0), .int (nI (4)), .int (mo), .int (nI (re)), .int (nI (sn)), xj]) (st' := [.int (nI (20)), .int (nI (16)), .ref (87 + 2 * sn)]) (M' := (I, J, Rx R, N, G)) rfl ?_
        refine XP_pure rfl rfl (c_refB hI.1 hW (show sn < 4 by omega) g10 g11) ?_
        refine XP_n 2 (pc' := 37) (ls' := [.ref (0), .int (nI (4)), .int (mo), .int (nI (re)), .int (nI (sn)), .int (cI (-2))]) (st' := [.int (cI (-2))]) (M' := (I, J, Rx R, N, G)) rfl ?_
        refine XP_ifD rfl (fun (b37 : cI (-2) = 0) => absurd b37 (by decide)) (fun (b37 : ¬ cI (-2) = 0) => ?_)
        refine XP_n 1 (pc' := 39) (ls' := [.ref (0), .int (nI (4)), .int (mo), .int (nI (re)), .int (nI (sn)), .int (cI (-2))]) (st' := [.int (cI (-2))]) (M' := (I, J, Rx R, N, G)) rfl ?_
        exact XP_ret rfl ⟨rfl, _, _, _, _, _, rfl, hI.1.C, hI.2.2.1, hI.2.2.2.1, FrM.rf, hG⟩
      · unfold TP
        show XP X _ k_M_rule 0 [.ref (99), .int (nI (4)), .int (mo), .int (nI (re)), .int (nI (sn)), xj, xj, xj] [] _ _
        refine XP_n 1 (pc' := 1) (ls' := [.ref (99), .int (nI (4)), .int (mo), .int (nI (re)), .int (nI (sn)), xj, xj, xj]) (st' := [.int (nI (re))]) (M' := (I, J, Rx R, N, G)) rfl ?_
        refine XP_ifN (x := re)  rfl (by omega) (fun (b1 : re < 0) => absurd b1 (by omega)) (fun (b1 : 0 ≤ re) => ?_)
        refine XP_n 2 (pc' := 4) (ls' := [.ref (99), .int (nI (4)), .int (mo), .int (nI (re)), .int (nI (sn)), xj, xj, xj]) (st' := [.int (nI (100)), .int (nI (re))]) (M' := (I, J, Rx R, N, G)) rfl ?_
        refine XP_idivN (a := re) (b := 100) rfl (by omega) (by omega) (by omega) ?_
        refine XP_n 1 (pc' := 6) (ls' := [.ref (99), .int (nI (4)), .int (mo), .int (nI (re)), .int (nI (sn)), xj, xj, xj]) (st' := [.int (nI (9)), .int (nI ((re) / (100)))]) (M' := (I, J, Rx R, N, G)) rfl ?_
        refine XP_icN (x := (re) / (100)) (y := 9) rfl (by omega) (by omega) (fun (b6 : 9 < (re) / (100)) => absurd b6 (by omega)) (fun (b6 : (re) / (100) ≤ 9) => ?_)
        refine XP_n 2 (pc' := 9) (ls' := [.ref (99), .int (nI (4)), .int (mo), .int (nI (re)), .int (nI (sn)), xj, xj, xj]) (st' := [.int (nI (100)), .int (nI (re))]) (M' := (I, J, Rx R, N, G)) rfl ?_
        refine XP_iremN (a := re) (b := 100) rfl (by omega) (by omega) (by omega) ?_
        refine XP_n 1 (pc' := 11) (ls' := [.ref (99), .int (nI (4)), .int (mo), .int (nI (re)), .int (nI (sn)), xj, xj, xj]) (st' := [.int (nI (20)), .int (nI ((re) % (100)))]) (M' := (I, J, Rx R, N, G)) rfl ?_
        refine XP_icN (x := (re) % (100)) (y := 20) rfl (by omega) (by omega) (fun (b11 : 20 < (re) % (100)) => absurd b11 (by omega)) (fun (b11 : (re) % (100) ≤ 20) => ?_)
        refine XP_n 6 (pc' := 19) (ls' := [.ref (99), .int (nI (4)), .int (mo), .int (nI (re)), .int (nI (sn)), .int (nI (1)), xj, xj]) (st' := [.int (nI (5)), .int (nI (0)), .int (nI (4))]) (M' := (I, J, Rx R, N, G)) rfl ?_
        refine XP_pure rfl rfl (w_M X _ _ 0 5 _) ?_
        refine XP_s rfl ?_
        refine XP_beq (fun b20 => absurd g0 b20) (fun b20 => ?_)
        refine XP_n 3 (pc' := 24) (ls' := [.ref (99), .int (nI (4)), .int (mo), .int (nI (re)), .int (nI (sn)), .int (nI (1)), xj, xj]) (st' := [.int (nI (1000)), .int (nI (0)), .int (mo)]) (M' := (I, J, Rx R, N, G)) rfl ?_
        refine XP_pure rfl rfl (w_M X _ _ 0 1000 _) ?_
        refine XP_s rfl ?_
        refine XP_beq (fun b25 => absurd g1 b25) (fun b25 => ?_)
        refine XP_n 1 (pc' := 27) (ls' := [.ref (99), .int (nI (4)), .int (mo), .int (nI (re)), .int (nI (sn)), .int (nI (1)), xj, xj]) (st' := [.int (nI (1))]) (M' := (I, J, Rx R, N, G)) rfl ?_
        refine XP_ifN (x := 1)  rfl (by omega) (fun (b27 : 1 = 0) => absurd b27 (by omega)) (fun (b27 : ¬ 1 = 0) => ?_)
        refine XP_n 2 (pc' := 30) (ls' := [.ref (99), .int (nI (4)), .int (mo), .int (nI (re)), .int (nI (sn)), .int (nI (1)), xj, xj]) (st' := [.int (nI (4)), .int (nI (4))]) (M' := (I, J, Rx R, N, G)) rfl ?_
        refine XP_icN (x := 4) (y := 4) rfl (by omega) (by omega) (fun (b30 : ¬ 4 = 4) => absurd b30 (by omega)) (fun (b30 : 4 = 4) => ?_)
        refine XP_n 3 (pc' := 34) (ls' := [.ref (99), .int (nI (4)), .int (mo), .int (nI (re)), .int (nI (sn)), .int (nI (1)), xj, xj]) (st' := [.int (nI (3)), .int (nI (0)), .int (nI (sn))]) (M' := (I, J, Rx R, N, G)) rfl ?_
        refine XP_pure rfl rfl (w_M X _ _ 0 3 _) ?_
        refine XP_s rfl ?_
        refine XP_bne (fun b35 => ?_) (fun b35 => absurd g9 b35)
        refine XP_n 3 (pc' := 41) (ls' := [.ref (99), .int (nI (4)), .int (mo), .int (nI (re)), .int (nI (sn)), .int (nI (1)), xj, xj]) (st' := [.int (nI (3)), .int (nI (0)), .int (nI (sn))]) (M' := (I, J, Rx R, N, G)) rfl ?_
        refine XP_pure rfl rfl (w_M X _ _ 0 3 _) ?_
        refine XP_s rfl ?_
        refine XP_beq (fun b42 => absurd g9 b42) (fun b42 => ?_)
        refine XP_n 5 (pc' := 49) (ls' := [.ref (99), .int (nI (4)), .int (mo), .int (nI (re)), .int (nI (sn)), .int (nI (1)), .int (nI (sn)), xj]) (st' := [.int (nI (4)), .int (nI (4))]) (M' := (I, J, Rx R, N, G)) rfl ?_
        refine XP_icN (x := 4) (y := 4) rfl (by omega) (by omega) (fun (b49 : ¬ 4 = 4) => absurd b49 (by omega)) (fun (b49 : 4 = 4) => ?_)
        refine XP_n 3 (pc' := 53) (ls' := [.ref (99), .int (nI (4)), .int (mo), .int (nI (re)), .int (nI (sn)), .int (nI (1)), .int (nI (sn)), xj]) (st' := [.int (nI (sn)), .ref (120)]) (M' := (I, J, Rx R, N, G)) rfl ?_
        refine XP_ialdM hS rfl rfl (show sn < 4 by omega) rfl (by omega) rfl ?_
        refine XP_n 1 (pc' := 55) (ls' := [.ref (99), .int (nI (4)), .int (mo), .int (nI (re)), .int (nI (sn)), .int (nI (1)), .int (nI (sn)), xj]) (st' := [.int (cI (-1)), .int (s 120 sn)]) (M' := (I, J, Rx R, N, G)) rfl ?_
        refine XP_icD rfl (fun (b55 : ¬ s 120 sn = cI (-1)) => ?_) (fun (b55 : s 120 sn = cI (-1)) => absurd b55 (by first | exact g10 | exact fun z => z g10 | exact Int32.not_le.mpr g10 | exact Int32.not_lt.mpr (Int32.not_lt.mp g10) | omega))
        refine XP_n 2 (pc' := 60) (ls' := [.ref (99), .int (nI (4)), .int (mo), .int (nI (re)), .int (nI (sn)), .int (nI (1)), .int (nI (sn)), xj]) (st' := [.int (nI (4)), .int (nI (4))]) (M' := (I, J, Rx R, N, G)) rfl ?_
        refine XP_icN (x := 4) (y := 4) rfl (by omega) (by omega) (fun (b60 : ¬ 4 = 4) => absurd b60 (by omega)) (fun (b60 : 4 = 4) => ?_)
        refine XP_n 3 (pc' := 64) (ls' := [.ref (99), .int (nI (4)), .int (mo), .int (nI (re)), .int (nI (sn)), .int (nI (1)), .int (nI (sn)), xj]) (st' := [.int (nI (sn)), .ref (121)]) (M' := (I, J, Rx R, N, G)) rfl ?_
        refine XP_ialdM hS rfl rfl (show sn < 4 by omega) rfl (by omega) rfl ?_
        rw [(hW.sz1 hsn).1]
        refine XP_n 1 (pc' := 66) (ls' := [.ref (99), .int (nI (4)), .int (mo), .int (nI (re)), .int (nI (sn)), .int (nI (1)), .int (nI (sn)), xj]) (st' := [.int (nI (16)), .int (nI (sz s sn))]) (M' := (I, J, Rx R, N, G)) rfl ?_
        refine XP_icN (x := sz s sn) (y := 16) rfl (by omega) (by omega) (fun (b66 : ¬ sz s sn = 16) => ?_) (fun (b66 : sz s sn = 16) => absurd b66 (by omega))
        refine XP_n 6 (pc' := 75) (ls' := [.ref (99), .int (nI (4)), .int (mo), .int (nI (re)), .int (nI (sn)), .int (nI (0)), .int (nI (sn)), .int (nI (0))]) (st' := [.int (nI (16)), .int (nI (0))]) (M' := (I, J, Rx R, N, G)) rfl ?_
        refine XP_icN (x := 0) (y := 16) rfl (by omega) (by omega) (fun (b75 : 16 ≤ 0) => absurd b75 (by omega)) (fun (b75 : 0 < 16) => ?_)
        refine XP_n 1 (pc' := 77) (ls' := [.ref (99), .int (nI (4)), .int (mo), .int (nI (re)), .int (nI (sn)), .int (nI (0)), .int (nI (sn)), .int (nI (0))]) (st' := [.int (nI (0))]) (M' := (I, J, Rx R, N, G)) rfl ?_
        refine XP_ifN (x := 0)  rfl (by omega) (fun (b77 : 0 = 0) => ?_) (fun (b77 : ¬ 0 = 0) => absurd b77 (by omega))
        refine XP_n 1 (pc' := 96) (ls' := [.ref (99), .int (nI (4)), .int (mo), .int (nI (re)), .int (nI (sn)), .int (nI (0)), .int (nI (sn)), .int (nI (0))]) (st' := [.int (nI (0))]) (M' := (I, J, Rx R, N, G)) rfl ?_
        refine XP_ifN (x := 0)  rfl (by omega) (fun (b96 : ¬ 0 = 0) => absurd b96 (by omega)) (fun (b96 : 0 = 0) => ?_)
        refine XP_n 1 (pc' := 98) (ls' := [.ref (99), .int (nI (4)), .int (mo), .int (nI (re)), .int (nI (sn)), .int (nI (0)), .int (nI (sn)), .int (nI (0))]) (st' := [.int (cI (-2))]) (M' := (I, J, Rx R, N, G)) rfl ?_
        exact XP_ret rfl ⟨rfl, _, rfl, hS, FrC.rf⟩
  have g111 : sz s sn = 16 := g11.1
  by_cases g8 : cR s < 8
  rotate_left
  · skip
    refine ⟨cI (-4), s, hW, ⟨_, hc1, Nat.le_refl _, by omega⟩, fun X d I J R N G hI hG => ?_, fun X d I J R N G hS hD => ?_⟩
    · unfold TP
      show XP X _ k_H_rule 0 [.ref (0), .int (nI (4)), .int (mo), .int (nI (re)), .int (nI (sn)), xj] [] _ _
      refine XP_n 3 (pc' := 3) (ls' := [.ref (0), .int (nI (4)), .int (mo), .int (nI (re)), .int (nI (sn)), xj]) (st' := [.int (nI (5)), .int (nI (0)), .int (nI (4))]) (M' := (I, J, Rx R, N, G)) rfl ?_
      refine XP_pure rfl rfl (w_H X _ _ 0 5 _) ?_
      refine XP_s rfl ?_
      refine XP_beq (fun b4 => absurd g0 b4) (fun b4 => ?_)
      refine XP_n 3 (pc' := 8) (ls' := [.ref (0), .int (nI (4)), .int (mo), .int (nI (re)), .int (nI (sn)), xj]) (st' := [.int (nI (1000)), .int (nI (0)), .int (mo)]) (M' := (I, J, Rx R, N, G)) rfl ?_
      refine XP_pure rfl rfl (w_H X _ _ 0 1000 _) ?_
      refine XP_s rfl ?_
      refine XP_beq (fun b9 => absurd g1 b9) (fun b9 => ?_)
      refine XP_n 1 (pc' := 11) (ls' := [.ref (0), .int (nI (4)), .int (mo), .int (nI (re)), .int (nI (sn)), xj]) (st' := [.int (nI (re))]) (M' := (I, J, Rx R, N, G)) rfl ?_
      refine XP_ifN (x := re)  rfl (by omega) (fun (b11 : 0 ≤ re) => ?_) (fun (b11 : re < 0) => absurd b11 (by omega))
      refine XP_n 2 (pc' := 16) (ls' := [.ref (0), .int (nI (4)), .int (mo), .int (nI (re)), .int (nI (sn)), xj]) (st' := [.int (nI (100)), .int (nI (re))]) (M' := (I, J, Rx R, N, G)) rfl ?_
      refine XP_idivN (a := re) (b := 100) rfl (by omega) (by omega) (by omega) ?_
      refine XP_n 1 (pc' := 18) (ls' := [.ref (0), .int (nI (4)), .int (mo), .int (nI (re)), .int (nI (sn)), xj]) (st' := [.int (nI (9)), .int (nI ((re) / (100)))]) (M' := (I, J, Rx R, N, G)) rfl ?_
      refine XP_icN (x := (re) / (100)) (y := 9) rfl (by omega) (by omega) (fun (b18 : 9 < (re) / (100)) => absurd b18 (by omega)) (fun (b18 : (re) / (100) ≤ 9) => ?_)
      refine XP_n 2 (pc' := 21) (ls' := [.ref (0), .int (nI (4)), .int (mo), .int (nI (re)), .int (nI (sn)), xj]) (st' := [.int (nI (100)), .int (nI (re))]) (M' := (I, J, Rx R, N, G)) rfl ?_
      refine XP_iremN (a := re) (b := 100) rfl (by omega) (by omega) (by omega) ?_
      refine XP_n 1 (pc' := 23) (ls' := [.ref (0), .int (nI (4)), .int (mo), .int (nI (re)), .int (nI (sn)), xj]) (st' := [.int (nI (20)), .int (nI ((re) % (100)))]) (M' := (I, J, Rx R, N, G)) rfl ?_
      refine XP_icN (x := (re) % (100)) (y := 20) rfl (by omega) (by omega) (fun (b23 : (re) % (100) ≤ 20) => ?_) (fun (b23 : 20 < (re) % (100)) => absurd b23 (by omega))
      refine XP_n 2 (pc' := 28) (ls' := [.ref (0), .int (nI (4)), .int (mo), .int (nI (re)), .int (nI (sn)), xj]) (st' := [.int (nI (4)), .int (nI (4))]) (M' := (I, J, Rx R, N, G)) rfl ?_
      refine XP_icN (x := 4) (y := 4) rfl (by omega) (by omega) (fun (b28 : ¬ 4 = 4) => absurd b28 (by omega)) (fun (b28 : 4 = 4) => ?_)
      refine XP_n 2 (pc' := 31) (ls' := [.ref (0), .int (nI (4)), .int (mo), .int (nI (re)), .int (nI (sn)), xj]) (st' := [.int (nI (sn)), .ref (0)]) (M' := (I, J, Rx R, N, G)) rfl ?_
      refine XP_pure rfl rfl (c_sheetAtT (show sn < 4 by omega)) ?_
      refine XP_n 2 (pc' := 34) (ls' := [.ref (0), .int (nI (4)), .int (mo), .int (nI (re)), .int (nI (sn)), xj]) (st' := [.int (nI (20)), .int (nI (16)), .ref (87 + 2 * sn)]) (M' := (I, J, Rx R, N, G)) rfl ?_
      refine XP_pure rfl rfl (c_refT hI.1 hW (show sn < 4 by omega) g10 g11) ?_
      refine XP_n 2 (pc' := 37) (ls' := [.ref (0), .int (nI (4)), .int (mo), .int (nI (re)), .int (nI (sn)), .int (nI (0))]) (st' := [.int (nI (0))]) (M' := (I, J, Rx R, N, G)) rfl ?_
      refine XP_ifN (x := 0)  rfl (by omega) (fun (b37 : 0 = 0) => ?_) (fun (b37 : ¬ 0 = 0) => absurd b37 (by omega))
      refine XP_n 1 (pc' := 41) (ls' := [.ref (0), .int (nI (4)), .int (mo), .int (nI (re)), .int (nI (sn)), .int (nI (0))]) (st' := [.ref (0)]) (M' := (I, J, Rx R, N, G)) rfl ?_
      refine XP_geti hI.1 rfl rfl rfl ?_
      rw [hW.r.1]
      refine XP_ifN (x := cR s)  rfl (by omega) (fun (b42 : cR s < 0) => absurd b42 (by omega)) (fun (b42 : 0 ≤ cR s) => ?_)
      refine XP_n 1 (pc' := 44) (ls' := [.ref (0), .int (nI (4)), .int (mo), .int (nI (re)), .int (nI (sn)), .int (nI (0))]) (st' := [.ref (0)]) (M' := (I, J, Rx R, N, G)) rfl ?_
      refine XP_geti hI.1 rfl rfl rfl ?_
      rw [hW.r.1]
      refine XP_n 3 (pc' := 48) (ls' := [.ref (0), .int (nI (4)), .int (mo), .int (nI (re)), .int (nI (sn)), .int (nI (0))]) (st' := [.int (nI (8)), .int (nI (cR s))]) (M' := (I, J, Rx R, N, G)) rfl ?_
      refine XP_icN (x := cR s) (y := 8) rfl (by omega) (by omega) (fun (b48 : cR s < 8) => absurd b48 (by omega)) (fun (b48 : 8 ≤ cR s) => ?_)
      refine XP_n 1 (pc' := 50) (ls' := [.ref (0), .int (nI (4)), .int (mo), .int (nI (re)), .int (nI (sn)), .int (nI (0))]) (st' := [.int (cI (-4))]) (M' := (I, J, Rx R, N, G)) rfl ?_
      exact XP_ret rfl ⟨rfl, _, _, _, _, _, rfl, hI.1.C, hI.2.2.1, hI.2.2.2.1, FrM.rf, hG⟩
    · have k13 : I 99 13 = nI (cR s) := (hS 99 13 99 13 rfl).trans hW.r.1
      have l99 : XP X (d + 100) k_M_rule 99 [.ref 99, .int (nI 4), .int mo, .int (nI re), .int (nI sn), .int (nI 1), .int (nI sn), .int (nI 16)] [] (I, J, Rx R, N, G) (QS s R N G J I (.int (cI (-4)))) := by
        refine XP_n 2 (pc' := 101) (ls' := [.ref (99), .int (nI (4)), .int (mo), .int (nI (re)), .int (nI (sn)), .int (nI (1)), .int (nI (sn)), .int (nI (16))]) (st' := [.int (I 99 13)]) (M' := (I, J, Rx R, N, G)) rfl ?_
        rw [k13]
        refine XP_n 1 (pc' := 102) (ls' := [.ref (99), .int (nI (4)), .int (mo), .int (nI (re)), .int (nI (sn)), .int (nI (1)), .int (nI (sn)), .int (nI (16))]) (st' := [.int (nI (8)), .int (nI (cR s))]) (M' := (I, J, Rx R, N, G)) rfl ?_
        refine XP_icN (x := cR s) (y := 8) rfl (by omega) (by omega) (fun (b102 : ¬ cR s = 8) => absurd b102 (by omega)) (fun (b102 : cR s = 8) => ?_)
        refine XP_n 1 (pc' := 104) (ls' := [.ref (99), .int (nI (4)), .int (mo), .int (nI (re)), .int (nI (sn)), .int (nI (1)), .int (nI (sn)), .int (nI (16))]) (st' := [.int (cI (-4))]) (M' := (I, J, Rx R, N, G)) rfl ?_
        exact XP_ret rfl ⟨rfl, _, rfl, hS, FrC.rf⟩
      unfold TP
      show XP X _ k_M_rule 0 [.ref (99), .int (nI (4)), .int (mo), .int (nI (re)), .int (nI (sn)), xj, xj, xj] [] _ _
      refine XP_n 1 (pc' := 1) (ls' := [.ref (99), .int (nI (4)), .int (mo), .int (nI (re)), .int (nI (sn)), xj, xj, xj]) (st' := [.int (nI (re))]) (M' := (I, J, Rx R, N, G)) rfl ?_
      refine XP_ifN (x := re)  rfl (by omega) (fun (b1 : re < 0) => absurd b1 (by omega)) (fun (b1 : 0 ≤ re) => ?_)
      refine XP_n 2 (pc' := 4) (ls' := [.ref (99), .int (nI (4)), .int (mo), .int (nI (re)), .int (nI (sn)), xj, xj, xj]) (st' := [.int (nI (100)), .int (nI (re))]) (M' := (I, J, Rx R, N, G)) rfl ?_
      refine XP_idivN (a := re) (b := 100) rfl (by omega) (by omega) (by omega) ?_
      refine XP_n 1 (pc' := 6) (ls' := [.ref (99), .int (nI (4)), .int (mo), .int (nI (re)), .int (nI (sn)), xj, xj, xj]) (st' := [.int (nI (9)), .int (nI ((re) / (100)))]) (M' := (I, J, Rx R, N, G)) rfl ?_
      refine XP_icN (x := (re) / (100)) (y := 9) rfl (by omega) (by omega) (fun (b6 : 9 < (re) / (100)) => absurd b6 (by omega)) (fun (b6 : (re) / (100) ≤ 9) => ?_)
      refine XP_n 2 (pc' := 9) (ls' := [.ref (99), .int (nI (4)), .int (mo), .int (nI (re)), .int (nI (sn)), xj, xj, xj]) (st' := [.int (nI (100)), .int (nI (re))]) (M' := (I, J, Rx R, N, G)) rfl ?_
      refine XP_iremN (a := re) (b := 100) rfl (by omega) (by omega) (by omega) ?_
      refine XP_n 1 (pc' := 11) (ls' := [.ref (99), .int (nI (4)), .int (mo), .int (nI (re)), .int (nI (sn)), xj, xj, xj]) (st' := [.int (nI (20)), .int (nI ((re) % (100)))]) (M' := (I, J, Rx R, N, G)) rfl ?_
      refine XP_icN (x := (re) % (100)) (y := 20) rfl (by omega) (by omega) (fun (b11 : 20 < (re) % (100)) => absurd b11 (by omega)) (fun (b11 : (re) % (100) ≤ 20) => ?_)
      refine XP_n 6 (pc' := 19) (ls' := [.ref (99), .int (nI (4)), .int (mo), .int (nI (re)), .int (nI (sn)), .int (nI (1)), xj, xj]) (st' := [.int (nI (5)), .int (nI (0)), .int (nI (4))]) (M' := (I, J, Rx R, N, G)) rfl ?_
      refine XP_pure rfl rfl (w_M X _ _ 0 5 _) ?_
      refine XP_s rfl ?_
      refine XP_beq (fun b20 => absurd g0 b20) (fun b20 => ?_)
      refine XP_n 3 (pc' := 24) (ls' := [.ref (99), .int (nI (4)), .int (mo), .int (nI (re)), .int (nI (sn)), .int (nI (1)), xj, xj]) (st' := [.int (nI (1000)), .int (nI (0)), .int (mo)]) (M' := (I, J, Rx R, N, G)) rfl ?_
      refine XP_pure rfl rfl (w_M X _ _ 0 1000 _) ?_
      refine XP_s rfl ?_
      refine XP_beq (fun b25 => absurd g1 b25) (fun b25 => ?_)
      refine XP_n 1 (pc' := 27) (ls' := [.ref (99), .int (nI (4)), .int (mo), .int (nI (re)), .int (nI (sn)), .int (nI (1)), xj, xj]) (st' := [.int (nI (1))]) (M' := (I, J, Rx R, N, G)) rfl ?_
      refine XP_ifN (x := 1)  rfl (by omega) (fun (b27 : 1 = 0) => absurd b27 (by omega)) (fun (b27 : ¬ 1 = 0) => ?_)
      refine XP_n 2 (pc' := 30) (ls' := [.ref (99), .int (nI (4)), .int (mo), .int (nI (re)), .int (nI (sn)), .int (nI (1)), xj, xj]) (st' := [.int (nI (4)), .int (nI (4))]) (M' := (I, J, Rx R, N, G)) rfl ?_
      refine XP_icN (x := 4) (y := 4) rfl (by omega) (by omega) (fun (b30 : ¬ 4 = 4) => absurd b30 (by omega)) (fun (b30 : 4 = 4) => ?_)
      refine XP_n 3 (pc' := 34) (ls' := [.ref (99), .int (nI (4)), .int (mo), .int (nI (re)), .int (nI (sn)), .int (nI (1)), xj, xj]) (st' := [.int (nI (3)), .int (nI (0)), .int (nI (sn))]) (M' := (I, J, Rx R, N, G)) rfl ?_
      refine XP_pure rfl rfl (w_M X _ _ 0 3 _) ?_
      refine XP_s rfl ?_
      refine XP_bne (fun b35 => ?_) (fun b35 => absurd g9 b35)
      refine XP_n 3 (pc' := 41) (ls' := [.ref (99), .int (nI (4)), .int (mo), .int (nI (re)), .int (nI (sn)), .int (nI (1)), xj, xj]) (st' := [.int (nI (3)), .int (nI (0)), .int (nI (sn))]) (M' := (I, J, Rx R, N, G)) rfl ?_
      refine XP_pure rfl rfl (w_M X _ _ 0 3 _) ?_
      refine XP_s rfl ?_
      refine XP_beq (fun b42 => absurd g9 b42) (fun b42 => ?_)
      refine XP_n 5 (pc' := 49) (ls' := [.ref (99), .int (nI (4)), .int (mo), .int (nI (re)), .int (nI (sn)), .int (nI (1)), .int (nI (sn)), xj]) (st' := [.int (nI (4)), .int (nI (4))]) (M' := (I, J, Rx R, N, G)) rfl ?_
      refine XP_icN (x := 4) (y := 4) rfl (by omega) (by omega) (fun (b49 : ¬ 4 = 4) => absurd b49 (by omega)) (fun (b49 : 4 = 4) => ?_)
      refine XP_n 3 (pc' := 53) (ls' := [.ref (99), .int (nI (4)), .int (mo), .int (nI (re)), .int (nI (sn)), .int (nI (1)), .int (nI (sn)), xj]) (st' := [.int (nI (sn)), .ref (120)]) (M' := (I, J, Rx R, N, G)) rfl ?_
      refine XP_ialdM hS rfl rfl (show sn < 4 by omega) rfl (by omega) rfl ?_
      refine XP_n 1 (pc' := 55) (ls' := [.ref (99), .int (nI (4)), .int (mo), .int (nI (re)), .int (nI (sn)), .int (nI (1)), .int (nI (sn)), xj]) (st' := [.int (cI (-1)), .int (s 120 sn)]) (M' := (I, J, Rx R, N, G)) rfl ?_
      refine XP_icD rfl (fun (b55 : ¬ s 120 sn = cI (-1)) => ?_) (fun (b55 : s 120 sn = cI (-1)) => absurd b55 (by first | exact g10 | exact fun z => z g10 | exact Int32.not_le.mpr g10 | exact Int32.not_lt.mpr (Int32.not_lt.mp g10) | omega))
      refine XP_n 2 (pc' := 60) (ls' := [.ref (99), .int (nI (4)), .int (mo), .int (nI (re)), .int (nI (sn)), .int (nI (1)), .int (nI (sn)), xj]) (st' := [.int (nI (4)), .int (nI (4))]) (M' := (I, J, Rx R, N, G)) rfl ?_
      refine XP_icN (x := 4) (y := 4) rfl (by omega) (by omega) (fun (b60 : ¬ 4 = 4) => absurd b60 (by omega)) (fun (b60 : 4 = 4) => ?_)
      refine XP_n 3 (pc' := 64) (ls' := [.ref (99), .int (nI (4)), .int (mo), .int (nI (re)), .int (nI (sn)), .int (nI (1)), .int (nI (sn)), xj]) (st' := [.int (nI (sn)), .ref (121)]) (M' := (I, J, Rx R, N, G)) rfl ?_
      refine XP_ialdM hS rfl rfl (show sn < 4 by omega) rfl (by omega) rfl ?_
      rw [(hW.sz1 hsn).1]
      refine XP_n 1 (pc' := 66) (ls' := [.ref (99), .int (nI (4)), .int (mo), .int (nI (re)), .int (nI (sn)), .int (nI (1)), .int (nI (sn)), xj]) (st' := [.int (nI (16)), .int (nI (sz s sn))]) (M' := (I, J, Rx R, N, G)) rfl ?_
      refine XP_icN (x := sz s sn) (y := 16) rfl (by omega) (by omega) (fun (b66 : ¬ sz s sn = 16) => absurd b66 (by omega)) (fun (b66 : sz s sn = 16) => ?_)
      refine XP_n 5 (pc' := 73) (ls' := [.ref (99), .int (nI (4)), .int (mo), .int (nI (re)), .int (nI (sn)), .int (nI (1)), .int (nI (sn)), .int (nI (0))]) (st' := []) (M' := (I, J, Rx R, N, G)) rfl ?_
      exact l_M_rgT hS hsn g11.2 l99 16 0 (by omega)
  · skip
    refine ⟨nI (cR s), (blk (rw2 (rw2 (rw2 (rw2 (rw2 s 107 ((cR s)) (nI 4)) 108 ((cR s)) (mo)) 109 ((cR s)) (nI (re / 100))) 110 ((cR s)) (nI (re % 100))) 99 13 (nI (cR s + 1))) 111 (16 * cR s) 16 (fun y => s 122 (40 * sn + y))), Wf_rule (kn := 4) hW g8 (by omega) hmo g4 g5 (fun y hy => ⟨by obtain ⟨n, a, b, c, -⟩ := iv_nat (g11.2 y hy) (by omega) (by omega); exact ⟨n, a, b, c⟩, fun z => absurd rfl z⟩), ⟨_, hc1, Nat.le_refl _, by omega⟩, fun X d I J R N G hI hG => ?_, fun X d I J R N G hS hD => ?_⟩
    · obtain ⟨z, c1, c2, nt, sl⟩ := G
      obtain ⟨hG1, hG2, hG3, hG4⟩ := hG
      have hG1 : c1 = 133 := hG1
      have hG2 : c2 = 2 * cR s := hG2
      have hG3 : nt = 4 * (cTx s - 1) := hG3
      have hG4 : sl ≤ 20000 + 21 * cR s + 400 * cTx s := hG4
      subst hG1 hG2
      unfold TP
      show XP X _ k_H_rule 0 [.ref (0), .int (nI (4)), .int (mo), .int (nI (re)), .int (nI (sn)), xj] [] _ _
      refine XP_n 3 (pc' := 3) (ls' := [.ref (0), .int (nI (4)), .int (mo), .int (nI (re)), .int (nI (sn)), xj]) (st' := [.int (nI (5)), .int (nI (0)), .int (nI (4))]) (M' := (I, J, Rx R, N, (z, 133, 2 * cR s, nt, sl))) rfl ?_
      refine XP_pure rfl rfl (w_H X _ _ 0 5 _) ?_
      refine XP_s rfl ?_
      refine XP_beq (fun b4 => absurd g0 b4) (fun b4 => ?_)
      refine XP_n 3 (pc' := 8) (ls' := [.ref (0), .int (nI (4)), .int (mo), .int (nI (re)), .int (nI (sn)), xj]) (st' := [.int (nI (1000)), .int (nI (0)), .int (mo)]) (M' := (I, J, Rx R, N, (z, 133, 2 * cR s, nt, sl))) rfl ?_
      refine XP_pure rfl rfl (w_H X _ _ 0 1000 _) ?_
      refine XP_s rfl ?_
      refine XP_beq (fun b9 => absurd g1 b9) (fun b9 => ?_)
      refine XP_n 1 (pc' := 11) (ls' := [.ref (0), .int (nI (4)), .int (mo), .int (nI (re)), .int (nI (sn)), xj]) (st' := [.int (nI (re))]) (M' := (I, J, Rx R, N, (z, 133, 2 * cR s, nt, sl))) rfl ?_
      refine XP_ifN (x := re)  rfl (by omega) (fun (b11 : 0 ≤ re) => ?_) (fun (b11 : re < 0) => absurd b11 (by omega))
      refine XP_n 2 (pc' := 16) (ls' := [.ref (0), .int (nI (4)), .int (mo), .int (nI (re)), .int (nI (sn)), xj]) (st' := [.int (nI (100)), .int (nI (re))]) (M' := (I, J, Rx R, N, (z, 133, 2 * cR s, nt, sl))) rfl ?_
      refine XP_idivN (a := re) (b := 100) rfl (by omega) (by omega) (by omega) ?_
      refine XP_n 1 (pc' := 18) (ls' := [.ref (0), .int (nI (4)), .int (mo), .int (nI (re)), .int (nI (sn)), xj]) (st' := [.int (nI (9)), .int (nI ((re) / (100)))]) (M' := (I, J, Rx R, N, (z, 133, 2 * cR s, nt, sl))) rfl ?_
      refine XP_icN (x := (re) / (100)) (y := 9) rfl (by omega) (by omega) (fun (b18 : 9 < (re) / (100)) => absurd b18 (by omega)) (fun (b18 : (re) / (100) ≤ 9) => ?_)
      refine XP_n 2 (pc' := 21) (ls' := [.ref (0), .int (nI (4)), .int (mo), .int (nI (re)), .int (nI (sn)), xj]) (st' := [.int (nI (100)), .int (nI (re))]) (M' := (I, J, Rx R, N, (z, 133, 2 * cR s, nt, sl))) rfl ?_
      refine XP_iremN (a := re) (b := 100) rfl (by omega) (by omega) (by omega) ?_
      refine XP_n 1 (pc' := 23) (ls' := [.ref (0), .int (nI (4)), .int (mo), .int (nI (re)), .int (nI (sn)), xj]) (st' := [.int (nI (20)), .int (nI ((re) % (100)))]) (M' := (I, J, Rx R, N, (z, 133, 2 * cR s, nt, sl))) rfl ?_
      refine XP_icN (x := (re) % (100)) (y := 20) rfl (by omega) (by omega) (fun (b23 : (re) % (100) ≤ 20) => ?_) (fun (b23 : 20 < (re) % (100)) => absurd b23 (by omega))
      refine XP_n 2 (pc' := 28) (ls' := [.ref (0), .int (nI (4)), .int (mo), .int (nI (re)), .int (nI (sn)), xj]) (st' := [.int (nI (4)), .int (nI (4))]) (M' := (I, J, Rx R, N, (z, 133, 2 * cR s, nt, sl))) rfl ?_
      refine XP_icN (x := 4) (y := 4) rfl (by omega) (by omega) (fun (b28 : ¬ 4 = 4) => absurd b28 (by omega)) (fun (b28 : 4 = 4) => ?_)
      refine XP_n 2 (pc' := 31) (ls' := [.ref (0), .int (nI (4)), .int (mo), .int (nI (re)), .int (nI (sn)), xj]) (st' := [.int (nI (sn)), .ref (0)]) (M' := (I, J, Rx R, N, (z, 133, 2 * cR s, nt, sl))) rfl ?_
      refine XP_pure rfl rfl (c_sheetAtT (show sn < 4 by omega)) ?_
      refine XP_n 2 (pc' := 34) (ls' := [.ref (0), .int (nI (4)), .int (mo), .int (nI (re)), .int (nI (sn)), xj]) (st' := [.int (nI (20)), .int (nI (16)), .ref (87 + 2 * sn)]) (M' := (I, J, Rx R, N, (z, 133, 2 * cR s, nt, sl))) rfl ?_
      refine XP_pure rfl rfl (c_refT hI.1 hW (show sn < 4 by omega) g10 g11) ?_
      refine XP_n 2 (pc' := 37) (ls' := [.ref (0), .int (nI (4)), .int (mo), .int (nI (re)), .int (nI (sn)), .int (nI (0))]) (st' := [.int (nI (0))]) (M' := (I, J, Rx R, N, (z, 133, 2 * cR s, nt, sl))) rfl ?_
      refine XP_ifN (x := 0)  rfl (by omega) (fun (b37 : 0 = 0) => ?_) (fun (b37 : ¬ 0 = 0) => absurd b37 (by omega))
      refine XP_n 1 (pc' := 41) (ls' := [.ref (0), .int (nI (4)), .int (mo), .int (nI (re)), .int (nI (sn)), .int (nI (0))]) (st' := [.ref (0)]) (M' := (I, J, Rx R, N, (z, 133, 2 * cR s, nt, sl))) rfl ?_
      refine XP_geti hI.1 rfl rfl rfl ?_
      rw [hW.r.1]
      refine XP_ifN (x := cR s)  rfl (by omega) (fun (b42 : cR s < 0) => absurd b42 (by omega)) (fun (b42 : 0 ≤ cR s) => ?_)
      refine XP_n 1 (pc' := 44) (ls' := [.ref (0), .int (nI (4)), .int (mo), .int (nI (re)), .int (nI (sn)), .int (nI (0))]) (st' := [.ref (0)]) (M' := (I, J, Rx R, N, (z, 133, 2 * cR s, nt, sl))) rfl ?_
      refine XP_geti hI.1 rfl rfl rfl ?_
      rw [hW.r.1]
      refine XP_n 3 (pc' := 48) (ls' := [.ref (0), .int (nI (4)), .int (mo), .int (nI (re)), .int (nI (sn)), .int (nI (0))]) (st' := [.int (nI (8)), .int (nI (cR s))]) (M' := (I, J, Rx R, N, (z, 133, 2 * cR s, nt, sl))) rfl ?_
      refine XP_icN (x := cR s) (y := 8) rfl (by omega) (by omega) (fun (b48 : cR s < 8) => ?_) (fun (b48 : 8 ≤ cR s) => absurd b48 (by omega))
      refine XP_new (lab := 1000 + 2 * cR s) rfl (by show Nat.ble (2 * cR s + 1) 2000 = true; exact Nat.ble_eq.mpr (by omega)) rfl (rul_o (by omega)) (fun j => rS_big (by omega) j) ?_
      show XP X _ k_H_rule 52 [.ref (0), .int (nI (4)), .int (mo), .int (nI (re)), .int (nI (sn)), .int (nI (0))] [.ref (1000 + 2 * cR s)] ((rwR I (1000 + 2 * cR s) (fun _ => 0)), (rwR J (1000 + 2 * cR s) (fun _ => 0)), Rx (rwR R (1000 + 2 * cR s) (fun _ => none)), N, (1, 133, 2 * cR s + 1, nt, sl + 5)) _
      refine XP_n 4 (pc' := 56) (ls' := [.ref (0), .int (nI (4)), .int (mo), .int (nI (re)), .int (nI (sn)), .int (nI (0))]) (st' := [.int (nI (re)), .int (mo), .int (nI (4)), .ref (1000 + 2 * cR s), .ref (1000 + 2 * cR s)]) (M' := ((rwR I (1000 + 2 * cR s) (fun _ => 0)), (rwR J (1000 + 2 * cR s) (fun _ => 0)), Rx (rwR R (1000 + 2 * cR s) (fun _ => none)), N, (1, 133, 2 * cR s + 1, nt, sl + 5))) rfl ?_
      refine XP_call rfl rfl (c_rInit2 (by omega) _ _ hre) ?_
      rintro v1 M1 ⟨rfl, I2, rfl, t1, t2, t3⟩
      have q0 : ∀ q, q ≠ 1000 + 2 * cR s → q ≠ 1001 + 2 * cR s → I2 q = I q := fun q h1 h2 => by rw [t1 q h1 h2, rwR_n2 h1]
      have q05 : I2 0 5 = nI (cR s) := by rw [q0 0 (by omega) (by omega)]; exact (hI.1 0 5 99 13 rfl).trans hW.r.1
      refine XP_n 3 (pc' := 60) (ls' := [.ref (0), .int (nI (4)), .int (mo), .int (nI (re)), .int (nI (sn)), .ref (1000 + 2 * cR s)]) (st' := [.int (nI (4)), .int (nI (4))]) (M' := (I2, (rwR (rwR J (1000 + 2 * cR s) (fun _ => 0)) (1001 + 2 * cR s) (fun _ => 0)), Rx (rw2 (rwR ((rwR R (1000 + 2 * cR s) (fun _ => none))) (1001 + 2 * cR s) (fun _ => none)) (1000 + 2 * cR s) 4 (some (1001 + 2 * cR s))), N, (1, 133, 2 * cR s + 2, nt, sl + 5 + 16))) rfl ?_
      refine XP_icN (x := 4) (y := 4) rfl (by omega) (by omega) (fun (b60 : ¬ 4 = 4) => absurd b60 (by omega)) (fun (b60 : 4 = 4) => ?_)
      refine XP_n 3 (pc' := 64) (ls' := [.ref (0), .int (nI (4)), .int (mo), .int (nI (re)), .int (nI (sn)), .ref (1000 + 2 * cR s)]) (st' := [.int (nI (sn)), .ref (0), .ref (1000 + 2 * cR s)]) (M' := (I2, (rwR (rwR J (1000 + 2 * cR s) (fun _ => 0)) (1001 + 2 * cR s) (fun _ => 0)), Rx (rw2 (rwR ((rwR R (1000 + 2 * cR s) (fun _ => none))) (1001 + 2 * cR s) (fun _ => none)) (1000 + 2 * cR s) 4 (some (1001 + 2 * cR s))), N, (1, 133, 2 * cR s + 2, nt, sl + 5 + 16))) rfl ?_
      refine XP_pure rfl rfl (c_sheetAtT (show sn < 4 by omega)) ?_
      have hR4 : Rx (rw2 (rwR ((rwR R (1000 + 2 * cR s) (fun _ => none))) (1001 + 2 * cR s) (fun _ => none)) (1000 + 2 * cR s) 4 (some (1001 + 2 * cR s))) (1000 + 2 * cR s) 4 = some (1001 + 2 * cR s) := by
        rw [← Rx_w (rS_big (by omega) _)]
        exact rw2_on'
      refine XP_call rfl (by show (isO (1000 + 2 * cR s) 7 || false) = true; rw [rul_o (show cR s < 1000 by omega)]; rfl) (c_tell (f := (fun y => s 122 (40 * sn + y))) g8 hsn hR4 (by rw [q0 _ (by omega) (by omega)]; exact ((hI.1 _ _ _ _ (sh_m1 hsn)).trans (hW.sz1 hsn).1).trans (by rw [g11.1])) (fun j hj => by rw [q0 _ (by omega) (by omega)]; exact hI.1 _ _ _ _ (sh_c hsn (by omega)))) ?_
      rintro v2 M2 ⟨rfl, I3, rfl, r1, r2⟩
      have q055 : I3 0 5 = nI (cR s) := by rw [r1 0 (by omega)]; exact q05
      refine XP_n 4 (pc' := 70) (ls' := [.ref (0), .int (nI (4)), .int (mo), .int (nI (re)), .int (nI (sn)), .ref (1000 + 2 * cR s)]) (st' := [.int (I3 0 5), .ref (13)]) (M' := (I3, (rwR (rwR J (1000 + 2 * cR s) (fun _ => 0)) (1001 + 2 * cR s) (fun _ => 0)), Rx (rw2 (rwR ((rwR R (1000 + 2 * cR s) (fun _ => none))) (1001 + 2 * cR s) (fun _ => none)) (1000 + 2 * cR s) 4 (some (1001 + 2 * cR s))), N, (1, 133, 2 * cR s + 2, nt, sl + 5 + 16))) rfl ?_
      rw [q055]
      refine XP_n 1 (pc' := 71) (ls' := [.ref (0), .int (nI (4)), .int (mo), .int (nI (re)), .int (nI (sn)), .ref (1000 + 2 * cR s)]) (st' := [.ref (1000 + 2 * cR s), .int (nI (cR s)), .ref (13)]) (M' := (I3, (rwR (rwR J (1000 + 2 * cR s) (fun _ => 0)) (1001 + 2 * cR s) (fun _ => 0)), Rx (rw2 (rwR ((rwR R (1000 + 2 * cR s) (fun _ => none))) (1001 + 2 * cR s) (fun _ => none)) (1000 + 2 * cR s) 4 (some (1001 + 2 * cR s))), N, (1, 133, 2 * cR s + 2, nt, sl + 5 + 16))) rfl ?_
      refine XP_aast (j := cR s) rfl (t := 4) (c := 7) rfl (rul_k (by omega)) rfl (show cR s < 8 by omega) rfl (by omega) (by omega) (rS_13 _ (by omega)) ?_
      show XP X _ k_H_rule 72 [.ref (0), .int (nI (4)), .int (mo), .int (nI (re)), .int (nI (sn)), .ref (1000 + 2 * cR s)] [] (I3, (rwR (rwR J (1000 + 2 * cR s) (fun _ => 0)) (1001 + 2 * cR s) (fun _ => 0)), Rx (rw2 ((rw2 (rwR ((rwR R (1000 + 2 * cR s) (fun _ => none))) (1001 + 2 * cR s) (fun _ => none)) (1000 + 2 * cR s) 4 (some (1001 + 2 * cR s)))) 13 (cR s) (some (1000 + 2 * cR s))), N, (1, 133, 2 * cR s + 2, nt, sl + 5 + 16)) _
      refine XP_n 3 (pc' := 75) (ls' := [.ref (0), .int (nI (4)), .int (mo), .int (nI (re)), .int (nI (sn)), .ref (1000 + 2 * cR s)]) (st' := [.int (I3 0 5), .ref (0)]) (M' := (I3, (rwR (rwR J (1000 + 2 * cR s) (fun _ => 0)) (1001 + 2 * cR s) (fun _ => 0)), Rx (rw2 ((rw2 (rwR ((rwR R (1000 + 2 * cR s) (fun _ => none))) (1001 + 2 * cR s) (fun _ => none)) (1000 + 2 * cR s) 4 (some (1001 + 2 * cR s)))) 13 (cR s) (some (1000 + 2 * cR s))), N, (1, 133, 2 * cR s + 2, nt, sl + 5 + 16))) rfl ?_
      rw [q055]
      refine XP_n 3 (pc' := 78) (ls' := [.ref (0), .int (nI (4)), .int (mo), .int (nI (re)), .int (nI (sn)), .ref (1000 + 2 * cR s)]) (st' := [.int ((nI (cR s)) + (nI (1))), .ref (0), .int (nI (cR s))]) (M' := (I3, (rwR (rwR J (1000 + 2 * cR s) (fun _ => 0)) (1001 + 2 * cR s) (fun _ => 0)), Rx (rw2 ((rw2 (rwR ((rwR R (1000 + 2 * cR s) (fun _ => none))) (1001 + 2 * cR s) (fun _ => none)) (1000 + 2 * cR s) 4 (some (1001 + 2 * cR s)))) 13 (cR s) (some (1000 + 2 * cR s))), N, (1, 133, 2 * cR s + 2, nt, sl + 5 + 16))) rfl ?_
      rw [show (nI (cR s)) + (nI (1)) = nI (cR s + 1) from nI_addE (rfl) (rfl)]
      refine XP_n 1 (pc' := 79) (ls' := [.ref (0), .int (nI (4)), .int (mo), .int (nI (re)), .int (nI (sn)), .ref (1000 + 2 * cR s)]) (st' := [.int (nI (cR s))]) (M' := ((rw2 I3 0 5 (nI (cR s + 1))), (rwR (rwR J (1000 + 2 * cR s) (fun _ => 0)) (1001 + 2 * cR s) (fun _ => 0)), Rx (rw2 ((rw2 (rwR ((rwR R (1000 + 2 * cR s) (fun _ => none))) (1001 + 2 * cR s) (fun _ => none)) (1000 + 2 * cR s) 4 (some (1001 + 2 * cR s)))) 13 (cR s) (some (1000 + 2 * cR s))), N, (1, 133, 2 * cR s + 2, nt, sl + 5 + 16))) rfl ?_
      refine XP_ret rfl ⟨rfl, _, _, _, _, _, rfl, StC_rule hI.1.C (by omega) (fun q h1 h2 h3 => ?_) (fun j => ?_) (fun j hj => ?_) (fun j hj => ?_) (fun a b h1 h2 h3 => ?_) (by rfl), Lk_rule hI.2.2.1 (by omega) (fun q hq => ?_) rfl rfl rfl hI.2.2.1.2.2.2.2.2.2 (by show wN (nI (cR s + 1)) = _; exact wN_nI (by omega)) rfl rfl, agr_Cch (s := s) ⟨fun q h1 h2 => ?_, rfl, rfl, fun j hj => ?_, rfl, rfl⟩ (hI.2.2.2.1.of (fun q h1 h2 => ?_) (fun q h1 h2 => ?_) hW.p.2), fun q hq => ?_, ⟨rfl, ?_, hG3, ?_⟩⟩
      · rw [rw2_ro h3]
        exact ((r1 q h2).trans (q0 q h1 h2))
      · rw [rw2_c]
        by_cases e : j = 5
        · rw [if_pos e, if_pos e]
        · rw [if_neg e, if_neg e, r1 0 (by omega), q0 0 (by omega) (by omega)]
      · have hj4 : j = 0 ∨ j = 1 ∨ j = 2 ∨ j = 3 := by omega
        rw [rw2_ro (by omega)]
        rcases hj4 with rfl | rfl | rfl | rfl
        · show _ = rw2 s 107 (cR s) (nI 4) 107 (cR s)
          rw [rw2_on]
          exact (show I3 (1000 + 2 * cR s) 0 = _ ∧ I3 (1000 + 2 * cR s) 1 = _ ∧ I3 (1000 + 2 * cR s) 2 = _ ∧ I3 (1000 + 2 * cR s) 3 = _ by rw [r1 _ (by omega)]; exact t2).1
        · show _ = rw2 s 108 (cR s) (mo) 108 (cR s)
          rw [rw2_on]
          exact (show I3 (1000 + 2 * cR s) 0 = _ ∧ I3 (1000 + 2 * cR s) 1 = _ ∧ I3 (1000 + 2 * cR s) 2 = _ ∧ I3 (1000 + 2 * cR s) 3 = _ by rw [r1 _ (by omega)]; exact t2).2.1
        · show _ = rw2 s 109 (cR s) (nI (re / 100)) 109 (cR s)
          rw [rw2_on]
          exact (show I3 (1000 + 2 * cR s) 0 = _ ∧ I3 (1000 + 2 * cR s) 1 = _ ∧ I3 (1000 + 2 * cR s) 2 = _ ∧ I3 (1000 + 2 * cR s) 3 = _ by rw [r1 _ (by omega)]; exact t2).2.2.1
        · show _ = rw2 s 110 (cR s) (nI (re % 100)) 110 (cR s)
          rw [rw2_on]
          exact (show I3 (1000 + 2 * cR s) 0 = _ ∧ I3 (1000 + 2 * cR s) 1 = _ ∧ I3 (1000 + 2 * cR s) 2 = _ ∧ I3 (1000 + 2 * cR s) 3 = _ by rw [r1 _ (by omega)]; exact t2).2.2.2
      · rw [rw2_ro (by omega), blk_on hj]
        exact r2 j hj
      · rw [blk_off h3]
        by_cases e : a = 99
        · subst e
          exact rw2_off (fun z => h1 z)
        · rw [rw2_ro e, rw2_off (fun z => h2 ⟨by omega, by omega, z.2⟩), rw2_off (fun z => h2 ⟨by omega, by omega, z.2⟩), rw2_off (fun z => h2 ⟨by omega, by omega, z.2⟩), rw2_off (fun z => h2 ⟨by omega, by omega, z.2⟩)]
      · rw [blk_ro (by omega), rw2_ro (by omega), rw2_ro (by omega), rw2_ro (by omega), rw2_ro (by omega), rw2_ro (by omega)]
      · rw [blk_ro (by omega), rw2_ro (by omega), rw2_ro (by omega), rw2_ro (by omega), rw2_ro (by omega), rw2_ro (by omega)]
      · rw [blk_ro (by omega), rw2_off (by omega), rw2_ro (by omega), rw2_ro (by omega), rw2_ro (by omega), rw2_ro (by omega)]
      · rw [rw2_ro (by omega)]
        exact ((r1 q (by omega)).trans (q0 q (by omega) (by omega)))
      · rw [rwR_n2 (by omega), rwR_n2 (by omega)]
      · have := isC_f hq
        rw [rw2_ro (by omega)]
        exact ((r1 q (by omega)).trans (q0 q (by omega) (by omega)))
      · show 2 * cR s + 2 = 2 * wN (nI (cR s + 1))
        rw [wN_nI (by omega)]
        omega
      · show sl + 5 + 16 ≤ 20000 + 21 * wN (nI (cR s + 1)) + 400 * cTx s
        rw [wN_nI (by omega)]
        omega
    · have k13 : I 99 13 = nI (cR s) := (hS 99 13 99 13 rfl).trans hW.r.1
      have l99 : XP X (d + 100) k_M_rule 99 [.ref 99, .int (nI 4), .int mo, .int (nI re), .int (nI sn), .int (nI 1), .int (nI sn), .int (nI 16)] [] (I, J, Rx R, N, G) (QS (blk (rw2 (rw2 (rw2 (rw2 (rw2 s 107 ((cR s)) (nI 4)) 108 ((cR s)) (mo)) 109 ((cR s)) (nI (re / 100))) 110 ((cR s)) (nI (re % 100))) 99 13 (nI (cR s + 1))) 111 (16 * cR s) 16 (fun y => s 122 (40 * sn + y))) R N G J I (.int (nI (cR s)))) := by
        refine XP_n 2 (pc' := 101) (ls' := [.ref (99), .int (nI (4)), .int (mo), .int (nI (re)), .int (nI (sn)), .int (nI (1)), .int (nI (sn)), .int (nI (16))]) (st' := [.int (I 99 13)]) (M' := (I, J, Rx R, N, G)) rfl ?_
        rw [k13]
        refine XP_n 1 (pc' := 102) (ls' := [.ref (99), .int (nI (4)), .int (mo), .int (nI (re)), .int (nI (sn)), .int (nI (1)), .int (nI (sn)), .int (nI (16))]) (st' := [.int (nI (8)), .int (nI (cR s))]) (M' := (I, J, Rx R, N, G)) rfl ?_
        refine XP_icN (x := cR s) (y := 8) rfl (by omega) (by omega) (fun (b102 : ¬ cR s = 8) => ?_) (fun (b102 : cR s = 8) => absurd b102 (by omega))
        refine XP_n 4 (pc' := 109) (ls' := [.ref (99), .int (nI (4)), .int (mo), .int (nI (re)), .int (nI (sn)), .int (nI (1)), .int (nI (sn)), .int (nI (16))]) (st' := [.int (I 99 13), .ref (107)]) (M' := (I, J, Rx R, N, G)) rfl ?_
        rw [k13]
        refine XP_n 1 (pc' := 110) (ls' := [.ref (99), .int (nI (4)), .int (mo), .int (nI (re)), .int (nI (sn)), .int (nI (1)), .int (nI (sn)), .int (nI (16))]) (st' := [.int (nI (4)), .int (nI (cR s)), .ref (107)]) (M' := (I, J, Rx R, N, G)) rfl ?_
        refine XP_iast rfl rfl (show cR s < 8 by omega) rfl (by omega) ?_
        refine XP_n 4 (pc' := 115) (ls' := [.ref (99), .int (nI (4)), .int (mo), .int (nI (re)), .int (nI (sn)), .int (nI (1)), .int (nI (sn)), .int (nI (16))]) (st' := [.int (I 99 13), .ref (108)]) (M' := ((rw2 I 107 (cR s) (nI (4))), J, Rx R, N, G)) rfl ?_
        rw [k13]
        refine XP_n 1 (pc' := 116) (ls' := [.ref (99), .int (nI (4)), .int (mo), .int (nI (re)), .int (nI (sn)), .int (nI (1)), .int (nI (sn)), .int (nI (16))]) (st' := [.int (mo), .int (nI (cR s)), .ref (108)]) (M' := ((rw2 I 107 (cR s) (nI (4))), J, Rx R, N, G)) rfl ?_
        refine XP_iast rfl rfl (show cR s < 8 by omega) rfl (by omega) ?_
        refine XP_n 4 (pc' := 121) (ls' := [.ref (99), .int (nI (4)), .int (mo), .int (nI (re)), .int (nI (sn)), .int (nI (1)), .int (nI (sn)), .int (nI (16))]) (st' := [.int (I 99 13), .ref (109)]) (M' := ((rw2 (rw2 I 107 (cR s) (nI (4))) 108 (cR s) (mo)), J, Rx R, N, G)) rfl ?_
        rw [k13]
        refine XP_n 2 (pc' := 123) (ls' := [.ref (99), .int (nI (4)), .int (mo), .int (nI (re)), .int (nI (sn)), .int (nI (1)), .int (nI (sn)), .int (nI (16))]) (st' := [.int (nI (100)), .int (nI (re)), .int (nI (cR s)), .ref (109)]) (M' := ((rw2 (rw2 I 107 (cR s) (nI (4))) 108 (cR s) (mo)), J, Rx R, N, G)) rfl ?_
        refine XP_idivN (a := re) (b := 100) rfl (by omega) (by omega) (by omega) ?_
        refine XP_iast rfl rfl (show cR s < 8 by omega) rfl (by omega) ?_
        refine XP_n 4 (pc' := 129) (ls' := [.ref (99), .int (nI (4)), .int (mo), .int (nI (re)), .int (nI (sn)), .int (nI (1)), .int (nI (sn)), .int (nI (16))]) (st' := [.int (I 99 13), .ref (110)]) (M' := ((rw2 (rw2 (rw2 I 107 (cR s) (nI (4))) 108 (cR s) (mo)) 109 (cR s) (nI ((re) / (100)))), J, Rx R, N, G)) rfl ?_
        rw [k13]
        refine XP_n 2 (pc' := 131) (ls' := [.ref (99), .int (nI (4)), .int (mo), .int (nI (re)), .int (nI (sn)), .int (nI (1)), .int (nI (sn)), .int (nI (16))]) (st' := [.int (nI (100)), .int (nI (re)), .int (nI (cR s)), .ref (110)]) (M' := ((rw2 (rw2 (rw2 I 107 (cR s) (nI (4))) 108 (cR s) (mo)) 109 (cR s) (nI ((re) / (100)))), J, Rx R, N, G)) rfl ?_
        refine XP_iremN (a := re) (b := 100) rfl (by omega) (by omega) (by omega) ?_
        refine XP_iast rfl rfl (show cR s < 8 by omega) rfl (by omega) ?_
        refine XP_n 2 (pc' := 135) (ls' := [.ref (99), .int (nI (4)), .int (mo), .int (nI (re)), .int (nI (sn)), .int (nI (1)), .int (nI (sn)), .int (nI (0))]) (st' := []) (M' := ((rw2 (rw2 (rw2 (rw2 I 107 (cR s) (nI (4))) 108 (cR s) (mo)) 109 (cR s) (nI ((re) / (100)))) 110 (cR s) (nI ((re) % (100)))), J, Rx R, N, G)) rfl ?_
        exact l_M_rw4 (kn := 0) (x6 := nI 0) (d := d + 99) (Iz := (rw2 (rw2 (rw2 (rw2 I 107 ((cR s)) (nI 4)) 108 ((cR s)) (mo)) 109 ((cR s)) (nI (re / 100))) 110 ((cR s)) (nI (re % 100)))) hsn g8 k13 (fun j => hS 122 j 122 j rfl) (fun I1 h1 h2 => ⟨rfl, _, rfl, by
              rw [blk_rw2 (by omega)]
              refine StM_w (StM_row (StM_w (StM_w (StM_w (StM_w hS rfl) rfl) rfl) rfl) h1 (fun a ha => blk_ro ha) (fun b => ?_)) rfl
              rw [h2 b]
              unfold blk
              by_cases g : 16 * cR s ≤ b ∧ b < 16 * cR s + 16
              · rw [if_pos ⟨rfl, g⟩, if_pos ⟨rfl, g⟩]
              · rw [if_neg (fun z => g z.2), if_neg (fun z => g z.2)]
                exact hS 111 b 111 b rfl, fun q hq => by
              have := isC_t hq
              rw [rw2_ro (by omega), h1 q (by omega), rw2_ro (by omega), rw2_ro (by omega), rw2_ro (by omega), rw2_ro (by omega)]⟩) 16 0 _ (by omega) (fun _ _ => rfl) (fun j => (blk_off (by omega)).symm)
      unfold TP
      show XP X _ k_M_rule 0 [.ref (99), .int (nI (4)), .int (mo), .int (nI (re)), .int (nI (sn)), xj, xj, xj] [] _ _
      refine XP_n 1 (pc' := 1) (ls' := [.ref (99), .int (nI (4)), .int (mo), .int (nI (re)), .int (nI (sn)), xj, xj, xj]) (st' := [.int (nI (re))]) (M' := (I, J, Rx R, N, G)) rfl ?_
      refine XP_ifN (x := re)  rfl (by omega) (fun (b1 : re < 0) => absurd b1 (by omega)) (fun (b1 : 0 ≤ re) => ?_)
      refine XP_n 2 (pc' := 4) (ls' := [.ref (99), .int (nI (4)), .int (mo), .int (nI (re)), .int (nI (sn)), xj, xj, xj]) (st' := [.int (nI (100)), .int (nI (re))]) (M' := (I, J, Rx R, N, G)) rfl ?_
      refine XP_idivN (a := re) (b := 100) rfl (by omega) (by omega) (by omega) ?_
      refine XP_n 1 (pc' := 6) (ls' := [.ref (99), .int (nI (4)), .int (mo), .int (nI (re)), .int (nI (sn)), xj, xj, xj]) (st' := [.int (nI (9)), .int (nI ((re) / (100)))]) (M' := (I, J, Rx R, N, G)) rfl ?_
      refine XP_icN (x := (re) / (100)) (y := 9) rfl (by omega) (by omega) (fun (b6 : 9 < (re) / (100)) => absurd b6 (by omega)) (fun (b6 : (re) / (100) ≤ 9) => ?_)
      refine XP_n 2 (pc' := 9) (ls' := [.ref (99), .int (nI (4)), .int (mo), .int (nI (re)), .int (nI (sn)), xj, xj, xj]) (st' := [.int (nI (100)), .int (nI (re))]) (M' := (I, J, Rx R, N, G)) rfl ?_
      refine XP_iremN (a := re) (b := 100) rfl (by omega) (by omega) (by omega) ?_
      refine XP_n 1 (pc' := 11) (ls' := [.ref (99), .int (nI (4)), .int (mo), .int (nI (re)), .int (nI (sn)), xj, xj, xj]) (st' := [.int (nI (20)), .int (nI ((re) % (100)))]) (M' := (I, J, Rx R, N, G)) rfl ?_
      refine XP_icN (x := (re) % (100)) (y := 20) rfl (by omega) (by omega) (fun (b11 : 20 < (re) % (100)) => absurd b11 (by omega)) (fun (b11 : (re) % (100) ≤ 20) => ?_)
      refine XP_n 6 (pc' := 19) (ls' := [.ref (99), .int (nI (4)), .int (mo), .int (nI (re)), .int (nI (sn)), .int (nI (1)), xj, xj]) (st' := [.int (nI (5)), .int (nI (0)), .int (nI (4))]) (M' := (I, J, Rx R, N, G)) rfl ?_
      refine XP_pure rfl rfl (w_M X _ _ 0 5 _) ?_
      refine XP_s rfl ?_
      refine XP_beq (fun b20 => absurd g0 b20) (fun b20 => ?_)
      refine XP_n 3 (pc' := 24) (ls' := [.ref (99), .int (nI (4)), .int (mo), .int (nI (re)), .int (nI (sn)), .int (nI (1)), xj, xj]) (st' := [.int (nI (1000)), .int (nI (0)), .int (mo)]) (M' := (I, J, Rx R, N, G)) rfl ?_
      refine XP_pure rfl rfl (w_M X _ _ 0 1000 _) ?_
      refine XP_s rfl ?_
      refine XP_beq (fun b25 => absurd g1 b25) (fun b25 => ?_)
      refine XP_n 1 (pc' := 27) (ls' := [.ref (99), .int (nI (4)), .int (mo), .int (nI (re)), .int (nI (sn)), .int (nI (1)), xj, xj]) (st' := [.int (nI (1))]) (M' := (I, J, Rx R, N, G)) rfl ?_
      refine XP_ifN (x := 1)  rfl (by omega) (fun (b27 : 1 = 0) => absurd b27 (by omega)) (fun (b27 : ¬ 1 = 0) => ?_)
      refine XP_n 2 (pc' := 30) (ls' := [.ref (99), .int (nI (4)), .int (mo), .int (nI (re)), .int (nI (sn)), .int (nI (1)), xj, xj]) (st' := [.int (nI (4)), .int (nI (4))]) (M' := (I, J, Rx R, N, G)) rfl ?_
      refine XP_icN (x := 4) (y := 4) rfl (by omega) (by omega) (fun (b30 : ¬ 4 = 4) => absurd b30 (by omega)) (fun (b30 : 4 = 4) => ?_)
      refine XP_n 3 (pc' := 34) (ls' := [.ref (99), .int (nI (4)), .int (mo), .int (nI (re)), .int (nI (sn)), .int (nI (1)), xj, xj]) (st' := [.int (nI (3)), .int (nI (0)), .int (nI (sn))]) (M' := (I, J, Rx R, N, G)) rfl ?_
      refine XP_pure rfl rfl (w_M X _ _ 0 3 _) ?_
      refine XP_s rfl ?_
      refine XP_bne (fun b35 => ?_) (fun b35 => absurd g9 b35)
      refine XP_n 3 (pc' := 41) (ls' := [.ref (99), .int (nI (4)), .int (mo), .int (nI (re)), .int (nI (sn)), .int (nI (1)), xj, xj]) (st' := [.int (nI (3)), .int (nI (0)), .int (nI (sn))]) (M' := (I, J, Rx R, N, G)) rfl ?_
      refine XP_pure rfl rfl (w_M X _ _ 0 3 _) ?_
      refine XP_s rfl ?_
      refine XP_beq (fun b42 => absurd g9 b42) (fun b42 => ?_)
      refine XP_n 5 (pc' := 49) (ls' := [.ref (99), .int (nI (4)), .int (mo), .int (nI (re)), .int (nI (sn)), .int (nI (1)), .int (nI (sn)), xj]) (st' := [.int (nI (4)), .int (nI (4))]) (M' := (I, J, Rx R, N, G)) rfl ?_
      refine XP_icN (x := 4) (y := 4) rfl (by omega) (by omega) (fun (b49 : ¬ 4 = 4) => absurd b49 (by omega)) (fun (b49 : 4 = 4) => ?_)
      refine XP_n 3 (pc' := 53) (ls' := [.ref (99), .int (nI (4)), .int (mo), .int (nI (re)), .int (nI (sn)), .int (nI (1)), .int (nI (sn)), xj]) (st' := [.int (nI (sn)), .ref (120)]) (M' := (I, J, Rx R, N, G)) rfl ?_
      refine XP_ialdM hS rfl rfl (show sn < 4 by omega) rfl (by omega) rfl ?_
      refine XP_n 1 (pc' := 55) (ls' := [.ref (99), .int (nI (4)), .int (mo), .int (nI (re)), .int (nI (sn)), .int (nI (1)), .int (nI (sn)), xj]) (st' := [.int (cI (-1)), .int (s 120 sn)]) (M' := (I, J, Rx R, N, G)) rfl ?_
      refine XP_icD rfl (fun (b55 : ¬ s 120 sn = cI (-1)) => ?_) (fun (b55 : s 120 sn = cI (-1)) => absurd b55 (by first | exact g10 | exact fun z => z g10 | exact Int32.not_le.mpr g10 | exact Int32.not_lt.mpr (Int32.not_lt.mp g10) | omega))
      refine XP_n 2 (pc' := 60) (ls' := [.ref (99), .int (nI (4)), .int (mo), .int (nI (re)), .int (nI (sn)), .int (nI (1)), .int (nI (sn)), xj]) (st' := [.int (nI (4)), .int (nI (4))]) (M' := (I, J, Rx R, N, G)) rfl ?_
      refine XP_icN (x := 4) (y := 4) rfl (by omega) (by omega) (fun (b60 : ¬ 4 = 4) => absurd b60 (by omega)) (fun (b60 : 4 = 4) => ?_)
      refine XP_n 3 (pc' := 64) (ls' := [.ref (99), .int (nI (4)), .int (mo), .int (nI (re)), .int (nI (sn)), .int (nI (1)), .int (nI (sn)), xj]) (st' := [.int (nI (sn)), .ref (121)]) (M' := (I, J, Rx R, N, G)) rfl ?_
      refine XP_ialdM hS rfl rfl (show sn < 4 by omega) rfl (by omega) rfl ?_
      rw [(hW.sz1 hsn).1]
      refine XP_n 1 (pc' := 66) (ls' := [.ref (99), .int (nI (4)), .int (mo), .int (nI (re)), .int (nI (sn)), .int (nI (1)), .int (nI (sn)), xj]) (st' := [.int (nI (16)), .int (nI (sz s sn))]) (M' := (I, J, Rx R, N, G)) rfl ?_
      refine XP_icN (x := sz s sn) (y := 16) rfl (by omega) (by omega) (fun (b66 : ¬ sz s sn = 16) => absurd b66 (by omega)) (fun (b66 : sz s sn = 16) => ?_)
      refine XP_n 5 (pc' := 73) (ls' := [.ref (99), .int (nI (4)), .int (mo), .int (nI (re)), .int (nI (sn)), .int (nI (1)), .int (nI (sn)), .int (nI (0))]) (st' := []) (M' := (I, J, Rx R, N, G)) rfl ?_
      exact l_M_rgT hS hsn g11.2 l99 16 0 (by omega)
