/-! faces: means -/
section
variable {X : hX} {d : Nat} {s I : Nat → Nat → Int32} {J : Nat → Nat → Int64} {R : Nat → Nat → Option Nat} {N : Nat → Nat} {G : hG}
theorem l_M_wts (hS : St s I) (hW : Wf s) : ∀ (n i : Nat) (acc : Int64), i + n = cP s → acc = lN (sumN (rWt s) (i)) → XP X (d) k_M_weights 4 [.ref (99), .long (acc), xj, .int (nI (i))] [] (I, J, Rx R, N, G) (Ret (.long (lN (cWA s))) (I, J, Rx R, N, G)) := by
  have hp4 := hW.p.2
  intro n
  induction n with
  | zero =>
    rintro i _ hi rfl
    obtain rfl : i = cP s := by omega
    refine XP_n 2 (pc' := 6) (ls' := [.ref (99), .long (lN (sumN (rWt s) (cP s))), xj, .int (nI (cP s))]) (st' := [.ref (99), .int (nI (cP s))]) (M' := (I, J, Rx R, N, G)) rfl ?_
    refine XP_geti hS rfl rfl rfl ?_
    rw [hW.p.1]
    refine XP_icN (x := cP s) (y := cP s) rfl (by omega) (by omega) (fun (b7 : cP s ≤ cP s) => ?_) (fun (b7 : cP s < cP s) => absurd b7 (by omega))
    refine XP_n 1 (pc' := 19) (ls' := [.ref (99), .long (lN (sumN (rWt s) (cP s))), xj, .int (nI (cP s))]) (st' := [.long (lN (sumN (rWt s) (cP s)))]) (M' := (I, J, Rx R, N, G)) rfl ?_
    exact XP_ret rfl ⟨rfl, rfl⟩
  | succ n ih =>
    rintro i _ hi rfl
    have hrw := (hW.pw (show i < cP s by omega)).2
    refine XP_n 2 (pc' := 6) (ls' := [.ref (99), .long (lN (sumN (rWt s) (i))), xj, .int (nI (i))]) (st' := [.ref (99), .int (nI (i))]) (M' := (I, J, Rx R, N, G)) rfl ?_
    refine XP_geti hS rfl rfl rfl ?_
    rw [hW.p.1]
    refine XP_icN (x := i) (y := cP s) rfl (by omega) (by omega) (fun (b7 : cP s ≤ i) => absurd b7 (by omega)) (fun (b7 : i < cP s) => ?_)
    refine XP_n 4 (pc' := 12) (ls' := [.ref (99), .long (lN (sumN (rWt s) (i))), xj, .int (nI (i))]) (st' := [.int (nI (i)), .ref (100), .long (lN (sumN (rWt s) (i)))]) (M' := (I, J, Rx R, N, G)) rfl ?_
    refine XP_iald hS rfl rfl (show i < 4 by omega) rfl (by omega) rfl ?_
    obtain ⟨hq21, hr21⟩ := hW.pw (show i < cP s by omega)
    rw [hq21]
    refine XP_n 3 (pc' := 16) (ls' := [.ref (99), .long ((lN (sumN (rWt s) (i))) + ((nI (rWt s i)).toInt64)), xj, .int (nI (i))]) (st' := []) (M' := (I, J, Rx R, N, G)) rfl ?_
    rw [show (lN (sumN (rWt s) (i))) + ((nI (rWt s i)).toInt64) = lN (sumN (rWt s) (i) + rWt s i) from lN_addE (rfl) (nI_lE (rfl) (by omega))]
    refine XP_n 1 (pc' := 17) (ls' := [.ref (99), .long (lN (sumN (rWt s) (i) + rWt s i)), xj, .int (nI (i) + nI (1))]) (st' := []) (M' := (I, J, Rx R, N, G)) rfl ?_
    rw [show nI (i) + nI (1) = nI (i + 1) from nI_addE (rfl) rfl]
    refine XP_n 1 (pc' := 4) (ls' := [.ref (99), .long (lN (sumN (rWt s) (i) + rWt s i)), xj, .int (nI (i + 1))]) (st' := []) (M' := (I, J, Rx R, N, G)) rfl ?_
    exact ih (i + 1) _ (by omega) rfl
theorem m_weights (hS : St s I) (hW : Wf s) : TP X d n_M_weights [.ref 99] (I, J, Rx R, N, G) (Ret (.long (lN (cWA s))) (I, J, Rx R, N, G)) := by
  unfold TP
  show XP X _ k_M_weights 0 [.ref (99), xj, xj, xj] [] _ _
  refine XP_n 4 (pc' := 4) (ls' := [.ref (99), .long (lN (0)), xj, .int (nI (0))]) (st' := []) (M' := (I, J, Rx R, N, G)) rfl ?_
  exact l_M_wts hS hW (cP s) 0 _ (by omega) rfl
theorem l_M_mean (hW : Wf s) {r : Nat} (hr : r < cR s) : ∀ (n i : Nat) (I : Nat → Nat → Int32) (J : Nat → Nat → Int64), i + n = cP s → Inv s R N I J → XP X (d + 5) k_M_meanOf 4 [.ref (99), .int (nI (r)), .long (lN (sumN (fun p => rWt s p * nTot s r p) (i))), xj, .int (nI (i))] [] (I, J, Rx R, N, G) (QP s R N G (.long (lN (gMn s r)))) := by
  have hp4 := hW.p.2
  have hr8 := hW.r.2
  intro n
  induction n with
  | zero =>
    rintro i I J hi hI
    obtain rfl : i = cP s := by omega
    have hL := hI.2.2.1
    refine XP_n 2 (pc' := 6) (ls' := [.ref (99), .int (nI (r)), .long (lN (sumN (fun p => rWt s p * nTot s r p) (cP s))), xj, .int (nI (cP s))]) (st' := [.ref (99), .int (nI (cP s))]) (M' := (I, J, Rx R, N, G)) rfl ?_
    refine XP_geti hI.1 rfl rfl rfl ?_
    rw [hW.p.1]
    refine XP_icN (x := cP s) (y := cP s) rfl (by omega) (by omega) (fun (b7 : cP s ≤ cP s) => ?_) (fun (b7 : cP s < cP s) => absurd b7 (by omega))
    refine XP_n 1 (pc' := 24) (ls' := [.ref (99), .int (nI (r)), .long (lN (sumN (fun p => rWt s p * nTot s r p) (cP s))), xj, .int (nI (cP s))]) (st' := [.long (lN (sumN (fun p => rWt s p * nTot s r p) (cP s)))]) (M' := (I, J, Rx R, N, G)) rfl ?_
    exact XP_ret rfl ⟨rfl, _, _, rfl, hI⟩
  | succ n ih =>
    rintro i I J hi hI
    have hL := hI.2.2.1
    have hle := gM_le hW (f := fun p => nTot s r p) (fun p => (nTot_ok hW r p).2) (show i ≤ cP s by omega)
    refine XP_n 2 (pc' := 6) (ls' := [.ref (99), .int (nI (r)), .long (lN (sumN (fun p => rWt s p * nTot s r p) (i))), xj, .int (nI (i))]) (st' := [.ref (99), .int (nI (i))]) (M' := (I, J, Rx R, N, G)) rfl ?_
    refine XP_geti hI.1 rfl rfl rfl ?_
    rw [hW.p.1]
    refine XP_icN (x := i) (y := cP s) rfl (by omega) (by omega) (fun (b7 : cP s ≤ i) => absurd b7 (by omega)) (fun (b7 : i < cP s) => ?_)
    refine XP_n 4 (pc' := 12) (ls' := [.ref (99), .int (nI (r)), .long (lN (sumN (fun p => rWt s p * nTot s r p) (i))), xj, .int (nI (i))]) (st' := [.int (nI (i)), .ref (100), .long (lN (sumN (fun p => rWt s p * nTot s r p) (i)))]) (M' := (I, J, Rx R, N, G)) rfl ?_
    refine XP_iald hI.1 rfl rfl (show i < 4 by omega) rfl (by omega) rfl ?_
    obtain ⟨hq22, hr22⟩ := hW.pw (show i < cP s by omega)
    rw [hq22]
    refine XP_n 4 (pc' := 17) (ls' := [.ref (99), .int (nI (r)), .long (lN (sumN (fun p => rWt s p * nTot s r p) (i))), xj, .int (nI (i))]) (st' := [.int (nI (i)), .int (nI (r)), .ref (99), .long ((nI (rWt s i)).toInt64), .long (lN (sumN (fun p => rWt s p * nTot s r p) (i)))]) (M' := (I, J, Rx R, N, G)) rfl ?_
    rw [show (nI (rWt s i)).toInt64 = lN (rWt s i) from nI_lE (rfl) (by omega)]
    refine XP_call rfl (rfl) (q_M_tot hI (show r < cR s by omega) (show i < cP s by omega)) ?_
    rintro v23 M23 ⟨rfl, I23, J23, rfl, hI23⟩
    rw [(nTot_ok hW r (i)).1]
    have htt23 := (nTot_ok hW r (i)).2
    refine XP_n 3 (pc' := 21) (ls' := [.ref (99), .int (nI (r)), .long ((lN (sumN (fun p => rWt s p * nTot s r p) (i))) + ((lN (rWt s i)) * (lN (nTot s r (i))))), xj, .int (nI (i))]) (st' := []) (M' := (I23, J23, Rx R, N, G)) rfl ?_
    rw [show (lN (sumN (fun p => rWt s p * nTot s r p) (i))) + ((lN (rWt s i)) * (lN (nTot s r (i)))) = lN (sumN (fun p => rWt s p * nTot s r p) (i) + ((rWt s i) * (nTot s r (i)))) from lN_addE (rfl) (lN_mulE (rfl) (rfl))]
    refine XP_n 1 (pc' := 22) (ls' := [.ref (99), .int (nI (r)), .long (lN (sumN (fun p => rWt s p * nTot s r p) (i) + ((rWt s i) * (nTot s r (i))))), xj, .int (nI (i) + nI (1))]) (st' := []) (M' := (I23, J23, Rx R, N, G)) rfl ?_
    rw [show nI (i) + nI (1) = nI (i + 1) from nI_addE (rfl) rfl]
    refine XP_n 1 (pc' := 4) (ls' := [.ref (99), .int (nI (r)), .long (lN (sumN (fun p => rWt s p * nTot s r p) (i) + ((rWt s i) * (nTot s r (i))))), xj, .int (nI (i + 1))]) (st' := []) (M' := (I23, J23, Rx R, N, G)) rfl ?_
    exact ih (i + 1) _ _ (by omega) hI23
theorem m_meanOf (hI : Inv s R N I J) {r : Nat} (hr : r < cR s) : TP X (d + 5) n_M_meanOf [.ref 99, .int (nI r)] (I, J, Rx R, N, G) (QP s R N G (.long (lN (gMn s r)))) := by
  unfold TP
  show XP X _ k_M_meanOf 0 [.ref (99), .int (nI (r)), xj, xj, xj] [] _ _
  refine XP_n 4 (pc' := 4) (ls' := [.ref (99), .int (nI (r)), .long (lN (0)), xj, .int (nI (0))]) (st' := []) (M' := (I, J, Rx R, N, G)) rfl ?_
  exact l_M_mean hI.2.1 hr (cP s) 0 _ _ (by omega) hI
theorem l_M_meanA (hW : Wf s) {m : Nat} (hm2 : m ≤ 1000) : ∀ (n i : Nat) (I : Nat → Nat → Int32) (J : Nat → Nat → Int64), i + n = cP s → Inv s R N I J → XP X (d + 5) k_M_meanByLaw 4 [.ref (99), .int (nI (m)), .long (lN (sumN (fun p => rWt s p * nTotA s m p) (i))), xj, .int (nI (i))] [] (I, J, Rx R, N, G) (QP s R N G (.long (lN (gMnA s m)))) := by
  have hp4 := hW.p.2
  have hr8 := hW.r.2
  intro n
  induction n with
  | zero =>
    rintro i I J hi hI
    obtain rfl : i = cP s := by omega
    have hL := hI.2.2.1
    refine XP_n 2 (pc' := 6) (ls' := [.ref (99), .int (nI (m)), .long (lN (sumN (fun p => rWt s p * nTotA s m p) (cP s))), xj, .int (nI (cP s))]) (st' := [.ref (99), .int (nI (cP s))]) (M' := (I, J, Rx R, N, G)) rfl ?_
    refine XP_geti hI.1 rfl rfl rfl ?_
    rw [hW.p.1]
    refine XP_icN (x := cP s) (y := cP s) rfl (by omega) (by omega) (fun (b7 : cP s ≤ cP s) => ?_) (fun (b7 : cP s < cP s) => absurd b7 (by omega))
    refine XP_n 1 (pc' := 35) (ls' := [.ref (99), .int (nI (m)), .long (lN (sumN (fun p => rWt s p * nTotA s m p) (cP s))), xj, .int (nI (cP s))]) (st' := [.long (lN (sumN (fun p => rWt s p * nTotA s m p) (cP s)))]) (M' := (I, J, Rx R, N, G)) rfl ?_
    exact XP_ret rfl ⟨rfl, _, _, rfl, hI⟩
  | succ n ih =>
    rintro i I J hi hI
    have hL := hI.2.2.1
    have hle := gM_le hW (f := fun p => nTotA s m p) (fun p => (nTotA_ok hW m p).2) (show i ≤ cP s by omega)
    refine XP_n 2 (pc' := 6) (ls' := [.ref (99), .int (nI (m)), .long (lN (sumN (fun p => rWt s p * nTotA s m p) (i))), xj, .int (nI (i))]) (st' := [.ref (99), .int (nI (i))]) (M' := (I, J, Rx R, N, G)) rfl ?_
    refine XP_geti hI.1 rfl rfl rfl ?_
    rw [hW.p.1]
    refine XP_icN (x := i) (y := cP s) rfl (by omega) (by omega) (fun (b7 : cP s ≤ i) => absurd b7 (by omega)) (fun (b7 : i < cP s) => ?_)
    refine XP_n 7 (pc' := 15) (ls' := [.ref (99), .int (nI (m)), .long (lN (sumN (fun p => rWt s p * nTotA s m p) (i))), xj, .int (nI (i))]) (st' := [.int (nI (i)), .int (nI (0)), .int (nI (0)), .int (nI (0)), .int (nI (m)), .int (nI (1)), .ref (99)]) (M' := (I, J, Rx R, N, G)) rfl ?_
    refine XP_call rfl rfl (m_goesA hI.1 hW hm2 (show i < cP s by omega)) ?_
    rintro v24 M24 ⟨rfl, I24, J24, rfl, hO24, hJ24, hrw24, hja24, hjb24⟩
    have hI24 := hI.m (hO24.sub (by simp)) (hJ24.sub (by simp))
    have htt24 := (nTotA_ok hW m (i)).2
    refine XP_n 4 (pc' := 20) (ls' := [.ref (99), .int (nI (m)), .long (lN (sumN (fun p => rWt s p * nTotA s m p) (i))), xj, .int (nI (i))]) (st' := [.int (nI (i)), .ref (100), .long (lN (sumN (fun p => rWt s p * nTotA s m p) (i)))]) (M' := (I24, J24, Rx R, N, G)) rfl ?_
    refine XP_iald hI24.1 rfl rfl (show i < 4 by omega) rfl (by omega) rfl ?_
    obtain ⟨hq25, hr25⟩ := hW.pw (show i < cP s by omega)
    rw [hq25]
    refine XP_n 4 (pc' := 25) (ls' := [.ref (99), .int (nI (m)), .long (lN (sumN (fun p => rWt s p * nTotA s m p) (i))), xj, .int (nI (i))]) (st' := [.long (J24 99 59), .long (lN (1000)), .long ((nI (rWt s i)).toInt64), .long (lN (sumN (fun p => rWt s p * nTotA s m p) (i)))]) (M' := (I24, J24, Rx R, N, G)) rfl ?_
    rw [hja24]
    rw [show (nI (rWt s i)).toInt64 = lN (rWt s i) from nI_lE (rfl) (by omega)]
    refine XP_n 3 (pc' := 28) (ls' := [.ref (99), .int (nI (m)), .long (lN (sumN (fun p => rWt s p * nTotA s m p) (i))), xj, .int (nI (i))]) (st' := [.long (J24 99 60), .long ((lN (1000)) * ((gS s (decide (1 = 5)) (nRa s m) (i) (cY s)).2.2.2.1)), .long (lN (rWt s i)), .long (lN (sumN (fun p => rWt s p * nTotA s m p) (i)))]) (M' := (I24, J24, Rx R, N, G)) rfl ?_
    rw [hjb24]
    refine XP_n 1 (pc' := 29) (ls' := [.ref (99), .int (nI (m)), .long (lN (sumN (fun p => rWt s p * nTotA s m p) (i))), xj, .int (nI (i))]) (st' := [.long (((lN (1000)) * ((gS s (decide (1 = 5)) (nRa s m) (i) (cY s)).2.2.2.1)) + ((gS s (decide (1 = 5)) (nRa s m) (i) (cY s)).2.2.2.2)), .long (lN (rWt s i)), .long (lN (sumN (fun p => rWt s p * nTotA s m p) (i)))]) (M' := (I24, J24, Rx R, N, G)) rfl ?_
    rw [show ((lN (1000)) * ((gS s (decide (1 = 5)) (nRa s m) (i) (cY s)).2.2.2.1)) + ((gS s (decide (1 = 5)) (nRa s m) (i) (cY s)).2.2.2.2) = lN (nTotA s m (i)) from (nTotA_ok hW m (i)).1]
    refine XP_n 3 (pc' := 32) (ls' := [.ref (99), .int (nI (m)), .long ((lN (sumN (fun p => rWt s p * nTotA s m p) (i))) + ((lN (rWt s i)) * (lN (nTotA s m (i))))), xj, .int (nI (i))]) (st' := []) (M' := (I24, J24, Rx R, N, G)) rfl ?_
    rw [show (lN (sumN (fun p => rWt s p * nTotA s m p) (i))) + ((lN (rWt s i)) * (lN (nTotA s m (i)))) = lN (sumN (fun p => rWt s p * nTotA s m p) (i) + ((rWt s i) * (nTotA s m (i)))) from lN_addE (rfl) (lN_mulE (rfl) (rfl))]
    refine XP_n 1 (pc' := 33) (ls' := [.ref (99), .int (nI (m)), .long (lN (sumN (fun p => rWt s p * nTotA s m p) (i) + ((rWt s i) * (nTotA s m (i))))), xj, .int (nI (i) + nI (1))]) (st' := []) (M' := (I24, J24, Rx R, N, G)) rfl ?_
    rw [show nI (i) + nI (1) = nI (i + 1) from nI_addE (rfl) rfl]
    refine XP_n 1 (pc' := 4) (ls' := [.ref (99), .int (nI (m)), .long (lN (sumN (fun p => rWt s p * nTotA s m p) (i) + ((rWt s i) * (nTotA s m (i))))), xj, .int (nI (i + 1))]) (st' := []) (M' := (I24, J24, Rx R, N, G)) rfl ?_
    exact ih (i + 1) _ _ (by omega) hI24
theorem m_meanA (hI : Inv s R N I J) {m : Nat} (hm2 : m ≤ 1000) : TP X (d + 5) n_M_meanByLaw [.ref 99, .int (nI m)] (I, J, Rx R, N, G) (QP s R N G (.long (lN (gMnA s m)))) := by
  unfold TP
  show XP X _ k_M_meanByLaw 0 [.ref (99), .int (nI (m)), xj, xj, xj] [] _ _
  refine XP_n 4 (pc' := 4) (ls' := [.ref (99), .int (nI (m)), .long (lN (0)), xj, .int (nI (0))]) (st' := []) (M' := (I, J, Rx R, N, G)) rfl ?_
  exact l_M_meanA hI.2.1 hm2 (cP s) 0 _ _ (by omega) hI
theorem l_H_ws (hW : Wf s) {r : Nat} (hr : r < cR s) : ∀ (n i : Nat) (I : Nat → Nat → Int32) (J : Nat → Nat → Int64), i + n = cP s → Inv s R N I J → XP X (d + 7) k_H_weighedSum 4 [.ref (0), .ref (1000 + 2 * r), .long (lN (sumN (fun p => rWt s p * nTot s r p) (i))), xj, .int (nI (i))] [] (I, J, Rx R, N, G) (QP s R N G (.long (lN (gMn s r)))) := by
  have hp4 := hW.p.2
  have hr8 := hW.r.2
  intro n
  induction n with
  | zero =>
    rintro i I J hi hI
    obtain rfl : i = cP s := by omega
    have hL := hI.2.2.1
    refine XP_n 3 (pc' := 7) (ls' := [.ref (0), .ref (1000 + 2 * r), .long (lN (sumN (fun p => rWt s p * nTot s r p) (cP s))), xj, .int (nI (cP s))]) (st' := [.ref (1), .int (nI (cP s))]) (M' := (I, J, Rx R, N, G)) rfl ?_
    refine XP_geti hI.1 rfl rfl rfl ?_
    rw [hW.p.1]
    refine XP_icN (x := cP s) (y := cP s) rfl (by omega) (by omega) (fun (b8 : cP s ≤ cP s) => ?_) (fun (b8 : cP s < cP s) => absurd b8 (by omega))
    refine XP_n 1 (pc' := 33) (ls' := [.ref (0), .ref (1000 + 2 * r), .long (lN (sumN (fun p => rWt s p * nTot s r p) (cP s))), xj, .int (nI (cP s))]) (st' := [.long (lN (sumN (fun p => rWt s p * nTot s r p) (cP s)))]) (M' := (I, J, Rx R, N, G)) rfl ?_
    exact XP_ret rfl ⟨rfl, _, _, rfl, hI⟩
  | succ n ih =>
    rintro i I J hi hI
    have hL := hI.2.2.1
    have hle := gM_le hW (f := fun p => nTot s r p) (fun p => (nTot_ok hW r p).2) (show i ≤ cP s by omega)
    refine XP_n 3 (pc' := 7) (ls' := [.ref (0), .ref (1000 + 2 * r), .long (lN (sumN (fun p => rWt s p * nTot s r p) (i))), xj, .int (nI (i))]) (st' := [.ref (1), .int (nI (i))]) (M' := (I, J, Rx R, N, G)) rfl ?_
    refine XP_geti hI.1 rfl rfl rfl ?_
    rw [hW.p.1]
    refine XP_icN (x := i) (y := cP s) rfl (by omega) (by omega) (fun (b8 : cP s ≤ i) => absurd b8 (by omega)) (fun (b8 : i < cP s) => ?_)
    refine XP_n 6 (pc' := 15) (ls' := [.ref (0), .ref (1000 + 2 * r), .long (lN (sumN (fun p => rWt s p * nTot s r p) (i))), xj, .int (nI (i))]) (st' := [.int (nI (i)), .ref (1000 + 2 * r), .ref (1), .ref (16)]) (M' := (I, J, Rx R, N, G)) rfl ?_
    refine XP_call rfl rfl (q_C_follow hI (show r < cR s by omega) (show i < cP s by omega)) ?_
    rintro v26 M26 ⟨rfl, I26, J26, rfl, hI26, hrw26, hja26, hjb26⟩
    refine XP_n 6 (pc' := 22) (ls' := [.ref (0), .ref (1000 + 2 * r), .long (lN (sumN (fun p => rWt s p * nTot s r p) (i))), xj, .int (nI (i))]) (st' := [.int ((nI (1)) <<< ((nI (i)) &&& 31)), .ref (1), .long (lN (sumN (fun p => rWt s p * nTot s r p) (i)))]) (M' := (I26, J26, Rx R, N, G)) rfl ?_
    refine XP_pure rfl rfl (c_wOne hI26.1 hW (show i < cP s by omega)) ?_
    have hrw := (hW.pw (show i < cP s by omega)).2
    refine XP_n 3 (pc' := 26) (ls' := [.ref (0), .ref (1000 + 2 * r), .long (lN (sumN (fun p => rWt s p * nTot s r p) (i))), xj, .int (nI (i))]) (st' := [.ref (16), .long ((nI (rWt s i)).toInt64), .long (lN (sumN (fun p => rWt s p * nTot s r p) (i)))]) (M' := (I26, J26, Rx R, N, G)) rfl ?_
    rw [show (nI (rWt s i)).toInt64 = lN (rWt s i) from nI_lE (rfl) (by omega)]
    refine XP_pure rfl rfl (c_sum hja26 hjb26) ?_
    rw [show gTo _ = lN (nTot s r (i)) from (nTot_ok hW r (i)).1]
    have htt26 := (nTot_ok hW r (i)).2
    refine XP_n 3 (pc' := 30) (ls' := [.ref (0), .ref (1000 + 2 * r), .long ((lN (sumN (fun p => rWt s p * nTot s r p) (i))) + ((lN (rWt s i)) * (lN (nTot s r (i))))), xj, .int (nI (i))]) (st' := []) (M' := (I26, J26, Rx R, N, G)) rfl ?_
    rw [show (lN (sumN (fun p => rWt s p * nTot s r p) (i))) + ((lN (rWt s i)) * (lN (nTot s r (i)))) = lN (sumN (fun p => rWt s p * nTot s r p) (i) + ((rWt s i) * (nTot s r (i)))) from lN_addE (rfl) (lN_mulE (rfl) (rfl))]
    refine XP_n 1 (pc' := 31) (ls' := [.ref (0), .ref (1000 + 2 * r), .long (lN (sumN (fun p => rWt s p * nTot s r p) (i) + ((rWt s i) * (nTot s r (i))))), xj, .int (nI (i) + nI (1))]) (st' := []) (M' := (I26, J26, Rx R, N, G)) rfl ?_
    rw [show nI (i) + nI (1) = nI (i + 1) from nI_addE (rfl) rfl]
    refine XP_n 1 (pc' := 4) (ls' := [.ref (0), .ref (1000 + 2 * r), .long (lN (sumN (fun p => rWt s p * nTot s r p) (i) + ((rWt s i) * (nTot s r (i))))), xj, .int (nI (i + 1))]) (st' := []) (M' := (I26, J26, Rx R, N, G)) rfl ?_
    exact ih (i + 1) _ _ (by omega) hI26
theorem c_ws (hI : Inv s R N I J) {r : Nat} (hr : r < cR s) : TP X (d + 7) n_H_weighedSum [.ref 0, .ref (1000 + 2 * r)] (I, J, Rx R, N, G) (QP s R N G (.long (lN (gMn s r)))) := by
  unfold TP
  show XP X _ k_H_weighedSum 0 [.ref (0), .ref (1000 + 2 * r), xj, xj, xj] [] _ _
  refine XP_n 4 (pc' := 4) (ls' := [.ref (0), .ref (1000 + 2 * r), .long (lN (0)), xj, .int (nI (0))]) (st' := []) (M' := (I, J, Rx R, N, G)) rfl ?_
  exact l_H_ws hI.2.1 hr (cP s) 0 _ _ (by omega) hI
theorem l_H_wsA (hW : Wf s) {m : Nat} (hm2 : m ≤ 1000) : ∀ (n i : Nat) (I : Nat → Nat → Int32) (J : Nat → Nat → Int64), i + n = cP s → Inv s R N I J → I 14 1 = nI m → XP X (d + 7) k_H_weighedSum 4 [.ref (0), .ref (14), .long (lN (sumN (fun p => rWt s p * nTotA s m p) (i))), xj, .int (nI (i))] [] (I, J, Rx R, N, G) (QP s R N G (.long (lN (gMnA s m)))) := by
  have hp4 := hW.p.2
  have hr8 := hW.r.2
  intro n
  induction n with
  | zero =>
    rintro i I J hi hI hm
    obtain rfl : i = cP s := by omega
    have hL := hI.2.2.1
    refine XP_n 3 (pc' := 7) (ls' := [.ref (0), .ref (14), .long (lN (sumN (fun p => rWt s p * nTotA s m p) (cP s))), xj, .int (nI (cP s))]) (st' := [.ref (1), .int (nI (cP s))]) (M' := (I, J, Rx R, N, G)) rfl ?_
    refine XP_geti hI.1 rfl rfl rfl ?_
    rw [hW.p.1]
    refine XP_icN (x := cP s) (y := cP s) rfl (by omega) (by omega) (fun (b8 : cP s ≤ cP s) => ?_) (fun (b8 : cP s < cP s) => absurd b8 (by omega))
    refine XP_n 1 (pc' := 33) (ls' := [.ref (0), .ref (14), .long (lN (sumN (fun p => rWt s p * nTotA s m p) (cP s))), xj, .int (nI (cP s))]) (st' := [.long (lN (sumN (fun p => rWt s p * nTotA s m p) (cP s)))]) (M' := (I, J, Rx R, N, G)) rfl ?_
    exact XP_ret rfl ⟨rfl, _, _, rfl, hI⟩
  | succ n ih =>
    rintro i I J hi hI hm
    have hL := hI.2.2.1
    have hle := gM_le hW (f := fun p => nTotA s m p) (fun p => (nTotA_ok hW m p).2) (show i ≤ cP s by omega)
    refine XP_n 3 (pc' := 7) (ls' := [.ref (0), .ref (14), .long (lN (sumN (fun p => rWt s p * nTotA s m p) (i))), xj, .int (nI (i))]) (st' := [.ref (1), .int (nI (i))]) (M' := (I, J, Rx R, N, G)) rfl ?_
    refine XP_geti hI.1 rfl rfl rfl ?_
    rw [hW.p.1]
    refine XP_icN (x := i) (y := cP s) rfl (by omega) (by omega) (fun (b8 : cP s ≤ i) => absurd b8 (by omega)) (fun (b8 : i < cP s) => ?_)
    refine XP_n 6 (pc' := 15) (ls' := [.ref (0), .ref (14), .long (lN (sumN (fun p => rWt s p * nTotA s m p) (i))), xj, .int (nI (i))]) (st' := [.int (nI (i)), .ref (14), .ref (1), .ref (16)]) (M' := (I, J, Rx R, N, G)) rfl ?_
    refine XP_call rfl rfl (q_C_followA hI hm hm2 (show i < cP s by omega)) ?_
    rintro v27 M27 ⟨rfl, I27, J27, rfl, hI27, hma27, hja27, hjb27⟩
    refine XP_n 6 (pc' := 22) (ls' := [.ref (0), .ref (14), .long (lN (sumN (fun p => rWt s p * nTotA s m p) (i))), xj, .int (nI (i))]) (st' := [.int ((nI (1)) <<< ((nI (i)) &&& 31)), .ref (1), .long (lN (sumN (fun p => rWt s p * nTotA s m p) (i)))]) (M' := (I27, J27, Rx R, N, G)) rfl ?_
    refine XP_pure rfl rfl (c_wOne hI27.1 hW (show i < cP s by omega)) ?_
    have hrw := (hW.pw (show i < cP s by omega)).2
    refine XP_n 3 (pc' := 26) (ls' := [.ref (0), .ref (14), .long (lN (sumN (fun p => rWt s p * nTotA s m p) (i))), xj, .int (nI (i))]) (st' := [.ref (16), .long ((nI (rWt s i)).toInt64), .long (lN (sumN (fun p => rWt s p * nTotA s m p) (i)))]) (M' := (I27, J27, Rx R, N, G)) rfl ?_
    rw [show (nI (rWt s i)).toInt64 = lN (rWt s i) from nI_lE (rfl) (by omega)]
    refine XP_pure rfl rfl (c_sum hja27 hjb27) ?_
    rw [show gTo _ = lN (nTotA s m (i)) from (nTotA_ok hW m (i)).1]
    have htt27 := (nTotA_ok hW m (i)).2
    refine XP_n 3 (pc' := 30) (ls' := [.ref (0), .ref (14), .long ((lN (sumN (fun p => rWt s p * nTotA s m p) (i))) + ((lN (rWt s i)) * (lN (nTotA s m (i))))), xj, .int (nI (i))]) (st' := []) (M' := (I27, J27, Rx R, N, G)) rfl ?_
    rw [show (lN (sumN (fun p => rWt s p * nTotA s m p) (i))) + ((lN (rWt s i)) * (lN (nTotA s m (i)))) = lN (sumN (fun p => rWt s p * nTotA s m p) (i) + ((rWt s i) * (nTotA s m (i)))) from lN_addE (rfl) (lN_mulE (rfl) (rfl))]
    refine XP_n 1 (pc' := 31) (ls' := [.ref (0), .ref (14), .long (lN (sumN (fun p => rWt s p * nTotA s m p) (i) + ((rWt s i) * (nTotA s m (i))))), xj, .int (nI (i) + nI (1))]) (st' := []) (M' := (I27, J27, Rx R, N, G)) rfl ?_
    rw [show nI (i) + nI (1) = nI (i + 1) from nI_addE (rfl) rfl]
    refine XP_n 1 (pc' := 4) (ls' := [.ref (0), .ref (14), .long (lN (sumN (fun p => rWt s p * nTotA s m p) (i) + ((rWt s i) * (nTotA s m (i))))), xj, .int (nI (i + 1))]) (st' := []) (M' := (I27, J27, Rx R, N, G)) rfl ?_
    exact ih (i + 1) _ _ (by omega) hI27 hma27
theorem c_wsA (hI : Inv s R N I J) {m : Nat} (hm2 : m ≤ 1000) (hm : I 14 1 = nI m) : TP X (d + 7) n_H_weighedSum [.ref 0, .ref 14] (I, J, Rx R, N, G) (QP s R N G (.long (lN (gMnA s m)))) := by
  unfold TP
  show XP X _ k_H_weighedSum 0 [.ref (0), .ref (14), xj, xj, xj] [] _ _
  refine XP_n 4 (pc' := 4) (ls' := [.ref (0), .ref (14), .long (lN (0)), xj, .int (nI (0))]) (st' := []) (M' := (I, J, Rx R, N, G)) rfl ?_
  exact l_H_wsA hI.2.1 hm2 (cP s) 0 _ _ (by omega) hI hm
theorem c_meanBy (hS : St s I) (hW : Wf s) {a : Int64} {part : Nat} (ha : a ≠ Int64.minValue) (hpart : part ≤ 1) : TP X (d + 2) n_H_meanBy [.ref 0, .long a, .int (nI part)] (I, J, Rx R, N, G) (Ret (.long (gMB s a part)) (I, J, Rx R, N, G)) := by
  have hcwa := cWA_le hW
  unfold TP
  show XP X _ k_H_meanBy 0 [.ref (0), .long (a), xj, .int (nI (part)), xj] [] _ _
  refine XP_n 2 (pc' := 2) (ls' := [.ref (0), .long (a), xj, .int (nI (part)), xj]) (st' := [.ref (1)]) (M' := (I, J, Rx R, N, G)) rfl ?_
  refine XP_pure rfl rfl (c_wAll hS hW) ?_
  refine XP_n 2 (pc' := 5) (ls' := [.ref (0), .long (a), xj, .int (nI (part)), .int (nI (cWA s))]) (st' := [.int (nI (cWA s))]) (M' := (I, J, Rx R, N, G)) rfl ?_
  refine XP_ifN (x := cWA s)  rfl (by omega) (fun (b5 : 0 < cWA s) => ?_) (fun (b5 : cWA s ≤ 0) => ?_)
  · refine XP_n 6 (pc' := 17) (ls' := [.ref (0), .long (a), xj, .int (nI (part)), .int (nI (cWA s))]) (st' := [.int (nI (part)), .long ((lN (1000)) * ((nI (cWA s)).toInt64)), .long (a)]) (M' := (I, J, Rx R, N, G)) rfl ?_
    rw [show (lN (1000)) * ((nI (cWA s)).toInt64) = lN ((1000) * (cWA s)) from lN_mulE (rfl) (nI_lE (rfl) (by omega))]
    refine XP_pure rfl rfl (h_low (by omega) (by omega) (by omega) (ha)) ?_
    exact XP_ret rfl ⟨by unfold gMB; rw [if_neg (by omega)], rfl⟩
  · refine XP_n 3 (pc' := 9) (ls' := [.ref (0), .long (a), xj, .int (nI (part)), .int (nI (cWA s))]) (st' := [.int (nI (part)), .long (lN (1)), .long (lN (0))]) (M' := (I, J, Rx R, N, G)) rfl ?_
    refine XP_pure rfl rfl (h_low (by omega) (by omega) (by omega) (l_min (by omega))) ?_
    refine XP_n 1 (pc' := 18) (ls' := [.ref (0), .long (a), xj, .int (nI (part)), .int (nI (cWA s))]) (st' := [.long (gLow (lN (0)) (1) (part))]) (M' := (I, J, Rx R, N, G)) rfl ?_
    exact XP_ret rfl ⟨by unfold gMB; rw [if_pos (by omega), gLow_0], rfl⟩
theorem c_meanOf (hI : Inv s R N I J) {r : Nat} (hr : r < cR s) {part : Int32} : TP X (d + 9) n_H_meanOf [.ref 0, .ref (1000 + 2 * r), .int part] (I, J, Rx R, N, G) (QP s R N G (.long (if iv 0 1 part then gMB s (lN (gMn s r)) (wN part) else cL (-4611686018427387904)))) := by
  obtain ⟨hS, hW, hL, hC, hch⟩ := id hI
  have hle := gM_le hW (f := fun p => nTot s r p) (fun p => (nTot_ok hW r p).2) (Nat.le_refl (cP s))
  have hle2 : gMn s r ≤ 198000000000 := hle
  by_cases g0 : iv 0 1 part
  · rw [if_pos g0]
    obtain ⟨pn, hpn0, hpn, rfl, ep⟩ := iv_nat g0 (by omega) (by omega)
    rw [ep]
    unfold TP
    show XP X _ k_H_meanOf 0 [.ref (0), .ref (1000 + 2 * r), .int (nI (pn))] [] _ _
    refine XP_n 1 (pc' := 1) (ls' := [.ref (0), .ref (1000 + 2 * r), .int (nI (pn))]) (st' := [.int (nI (pn))]) (M' := (I, J, Rx R, N, G)) rfl ?_
    refine XP_pure rfl rfl (t_H_isPart X _ _ _) ?_
    refine XP_s rfl ?_
    refine XP_beq (fun b2 => absurd g0 b2) (fun b2 => ?_)
    refine XP_n 3 (pc' := 6) (ls' := [.ref (0), .ref (1000 + 2 * r), .int (nI (pn))]) (st' := [.ref (1000 + 2 * r), .ref (0), .ref (0)]) (M' := (I, J, Rx R, N, G)) rfl ?_
    refine XP_call rfl (rfl) (c_ws hI (show r < cR s by omega)) ?_
    rintro v28 M28 ⟨rfl, I28, J28, rfl, hI28⟩
    refine XP_n 1 (pc' := 8) (ls' := [.ref (0), .ref (1000 + 2 * r), .int (nI (pn))]) (st' := [.int (nI (pn)), .long (lN (gMn s r)), .ref (0)]) (M' := (I28, J28, Rx R, N, G)) rfl ?_
    refine XP_pure rfl rfl (c_meanBy hI28.1 hW (l_min (by omega)) (by omega)) ?_
    refine XP_n 1 (pc' := 11) (ls' := [.ref (0), .ref (1000 + 2 * r), .int (nI (pn))]) (st' := [.long (gMB s (lN (gMn s r)) (pn))]) (M' := (I28, J28, Rx R, N, G)) rfl ?_
    exact XP_ret rfl ⟨rfl, _, _, rfl, hI28⟩
  · rw [if_neg g0]
    unfold TP
    show XP X _ k_H_meanOf 0 [.ref (0), .ref (1000 + 2 * r), .int (part)] [] _ _
    refine XP_n 1 (pc' := 1) (ls' := [.ref (0), .ref (1000 + 2 * r), .int (part)]) (st' := [.int (part)]) (M' := (I, J, Rx R, N, G)) rfl ?_
    refine XP_pure rfl rfl (t_H_isPart X _ _ _) ?_
    refine XP_s rfl ?_
    refine XP_beq (fun b2 => ?_) (fun b2 => absurd b2 g0)
    refine XP_n 1 (pc' := 11) (ls' := [.ref (0), .ref (1000 + 2 * r), .int (part)]) (st' := [.long (cL (-4611686018427387904))]) (M' := (I, J, Rx R, N, G)) rfl ?_
    exact XP_ret rfl ⟨rfl, _, _, rfl, hI⟩
theorem c_meanOfA (hI : Inv s R N I J) {m : Nat} (hm2 : m ≤ 1000) (hm : I 14 1 = nI m) {part : Int32} : TP X (d + 9) n_H_meanOf [.ref 0, .ref (14), .int part] (I, J, Rx R, N, G) (QP s R N G (.long (if iv 0 1 part then gMB s (lN (gMnA s m)) (wN part) else cL (-4611686018427387904)))) := by
  obtain ⟨hS, hW, hL, hC, hch⟩ := id hI
  have hle := gM_le hW (f := fun p => nTotA s m p) (fun p => (nTotA_ok hW m p).2) (Nat.le_refl (cP s))
  have hle2 : gMnA s m ≤ 198000000000 := hle
  by_cases g0 : iv 0 1 part
  · rw [if_pos g0]
    obtain ⟨pn, hpn0, hpn, rfl, ep⟩ := iv_nat g0 (by omega) (by omega)
    rw [ep]
    unfold TP
    show XP X _ k_H_meanOf 0 [.ref (0), .ref (14), .int (nI (pn))] [] _ _
    refine XP_n 1 (pc' := 1) (ls' := [.ref (0), .ref (14), .int (nI (pn))]) (st' := [.int (nI (pn))]) (M' := (I, J, Rx R, N, G)) rfl ?_
    refine XP_pure rfl rfl (t_H_isPart X _ _ _) ?_
    refine XP_s rfl ?_
    refine XP_beq (fun b2 => absurd g0 b2) (fun b2 => ?_)
    refine XP_n 3 (pc' := 6) (ls' := [.ref (0), .ref (14), .int (nI (pn))]) (st' := [.ref (14), .ref (0), .ref (0)]) (M' := (I, J, Rx R, N, G)) rfl ?_
    refine XP_call rfl (rfl) (c_wsA hI (by omega) (hm)) ?_
    rintro v29 M29 ⟨rfl, I29, J29, rfl, hI29⟩
    refine XP_n 1 (pc' := 8) (ls' := [.ref (0), .ref (14), .int (nI (pn))]) (st' := [.int (nI (pn)), .long (lN (gMnA s m)), .ref (0)]) (M' := (I29, J29, Rx R, N, G)) rfl ?_
    refine XP_pure rfl rfl (c_meanBy hI29.1 hW (l_min (by omega)) (by omega)) ?_
    refine XP_n 1 (pc' := 11) (ls' := [.ref (0), .ref (14), .int (nI (pn))]) (st' := [.long (gMB s (lN (gMnA s m)) (pn))]) (M' := (I29, J29, Rx R, N, G)) rfl ?_
    exact XP_ret rfl ⟨rfl, _, _, rfl, hI29⟩
  · rw [if_neg g0]
    unfold TP
    show XP X _ k_H_meanOf 0 [.ref (0), .ref (14), .int (part)] [] _ _
    refine XP_n 1 (pc' := 1) (ls' := [.ref (0), .ref (14), .int (part)]) (st' := [.int (part)]) (M' := (I, J, Rx R, N, G)) rfl ?_
    refine XP_pure rfl rfl (t_H_isPart X _ _ _) ?_
    refine XP_s rfl ?_
    refine XP_beq (fun b2 => ?_) (fun b2 => absurd b2 g0)
    refine XP_n 1 (pc' := 11) (ls' := [.ref (0), .ref (14), .int (part)]) (st' := [.long (cL (-4611686018427387904))]) (M' := (I, J, Rx R, N, G)) rfl ?_
    exact XP_ret rfl ⟨rfl, _, _, rfl, hI⟩
theorem f_mean (hI : Inv s R N I J) (r : Int32) (part : Int32) : ∃ v, TP X (d + 12) n_H_mean [.ref 0, .int r, .int part] (I, J, Rx R, N, G) (QP s R N G (.long v)) ∧ ∀ I J, Inv s R N I J → TP X (d + 12) n_M_mean [.ref 99, .int r, .int part] (I, J, Rx R, N, G) (QP s R N G (.long v)) := by
  have hI0 := hI
  obtain ⟨hS, hW, hL, hC, hch⟩ := hI0
  have hy16 := hW.y.2
  have hp4 := hW.p.2
  have hs6 := hW.ns.2
  have hr8 := hW.r.2
  have hst8 := hW.st.2
  have ht3 := hW.t.2
  have hw60 := hW.w.2
  have hcwa := cWA_le hW
  have hgl := fun r => gM_le hW (f := fun p => nTot s r p) (fun p => (nTot_ok hW r p).2) (Nat.le_refl (cP s))
  have hgla := fun m => gM_le hW (f := fun p => nTotA s m p) (fun p => (nTotA_ok hW m p).2) (Nat.le_refl (cP s))
  by_cases g0 : inN (r) (cR s)
  rotate_left
  · skip
    refine ⟨cL (-4611686018427387904), ?_, fun I J hI => ?_⟩
    · unfold TP
      show XP X _ k_H_mean 0 [.ref (0), .int (r), .int (part), xj] [] _ _
      refine XP_n 2 (pc' := 2) (ls' := [.ref (0), .int (r), .int (part), xj]) (st' := [.int (r), .ref (0)]) (M' := (I, J, Rx R, N, G)) rfl ?_
      refine XP_pure rfl rfl (c_ruleAtF hI.1 hW hL g0) ?_
      refine XP_n 5 (pc' := 12) (ls' := [.ref (0), .int (r), .int (part), .null]) (st' := [.long (cL (-4611686018427387904))]) (M' := (I, J, Rx R, N, G)) rfl ?_
      exact XP_ret rfl ⟨rfl, _, _, rfl, hI⟩
    · unfold TP
      show XP X _ k_M_mean 0 [.ref (99), .int (r), .int (part)] [] _ _
      refine XP_n 2 (pc' := 2) (ls' := [.ref (99), .int (r), .int (part)]) (st' := [.int (r), .ref (99)]) (M' := (I, J, Rx R, N, G)) rfl ?_
      refine XP_pure rfl rfl (m_isRule hI.1 hI.2.1 _) ?_
      refine XP_s rfl ?_
      refine XP_beq (fun b3 => ?_) (fun b3 => absurd b3 g0)
      refine XP_n 1 (pc' := 20) (ls' := [.ref (99), .int (r), .int (part)]) (st' := [.long (cL (-4611686018427387904))]) (M' := (I, J, Rx R, N, G)) rfl ?_
      exact XP_ret rfl ⟨rfl, _, _, rfl, hI⟩
  obtain ⟨rn, hrn, rfl, er⟩ := inN_nat g0 (by omega)
  by_cases g1 : iv 0 1 (part)
  rotate_left
  · skip
    refine ⟨cL (-4611686018427387904), ?_, fun I J hI => ?_⟩
    · unfold TP
      show XP X _ k_H_mean 0 [.ref (0), .int (nI (rn)), .int (part), xj] [] _ _
      refine XP_n 2 (pc' := 2) (ls' := [.ref (0), .int (nI (rn)), .int (part), xj]) (st' := [.int (nI (rn)), .ref (0)]) (M' := (I, J, Rx R, N, G)) rfl ?_
      refine XP_pure rfl rfl (c_ruleAtT hI.1 hW hL (show rn < cR s by omega)) ?_
      refine XP_n 6 (pc' := 11) (ls' := [.ref (0), .int (nI (rn)), .int (part), .ref (1000 + 2 * rn)]) (st' := [.int (part), .ref (1000 + 2 * rn), .ref (0)]) (M' := (I, J, Rx R, N, G)) rfl ?_
      refine XP_call rfl (rfl) (c_meanOf hI (show rn < cR s by omega)) ?_
      rintro v30 M30 ⟨rfl, I30, J30, rfl, hI30⟩
      rw [if_neg g1]
      exact XP_ret rfl ⟨rfl, _, _, rfl, hI30⟩
    · unfold TP
      show XP X _ k_M_mean 0 [.ref (99), .int (nI (rn)), .int (part)] [] _ _
      refine XP_n 2 (pc' := 2) (ls' := [.ref (99), .int (nI (rn)), .int (part)]) (st' := [.int (nI (rn)), .ref (99)]) (M' := (I, J, Rx R, N, G)) rfl ?_
      refine XP_pure rfl rfl (m_isRule hI.1 hI.2.1 _) ?_
      refine XP_s rfl ?_
      refine XP_beq (fun b3 => absurd g0 b3) (fun b3 => ?_)
      refine XP_n 3 (pc' := 7) (ls' := [.ref (99), .int (nI (rn)), .int (part)]) (st' := [.int (nI (1)), .int (nI (0)), .int (part)]) (M' := (I, J, Rx R, N, G)) rfl ?_
      refine XP_pure rfl rfl (w_M X _ _ 0 1 _) ?_
      refine XP_s rfl ?_
      refine XP_beq (fun b8 => ?_) (fun b8 => absurd b8 g1)
      refine XP_n 1 (pc' := 20) (ls' := [.ref (99), .int (nI (rn)), .int (part)]) (st' := [.long (cL (-4611686018427387904))]) (M' := (I, J, Rx R, N, G)) rfl ?_
      exact XP_ret rfl ⟨rfl, _, _, rfl, hI⟩
  obtain ⟨partn, hpartn0, hpartn, rfl, epart⟩ := iv_nat g1 (by omega) (by omega)
  refine ⟨gMB s (lN (gMn s rn)) partn, ?_, fun I J hI => ?_⟩
  · have hgl2 : gMn s rn ≤ 198000000000 := hgl rn
    unfold TP
    show XP X _ k_H_mean 0 [.ref (0), .int (nI (rn)), .int (nI (partn)), xj] [] _ _
    refine XP_n 2 (pc' := 2) (ls' := [.ref (0), .int (nI (rn)), .int (nI (partn)), xj]) (st' := [.int (nI (rn)), .ref (0)]) (M' := (I, J, Rx R, N, G)) rfl ?_
    refine XP_pure rfl rfl (c_ruleAtT hI.1 hW hL (show rn < cR s by omega)) ?_
    refine XP_n 6 (pc' := 11) (ls' := [.ref (0), .int (nI (rn)), .int (nI (partn)), .ref (1000 + 2 * rn)]) (st' := [.int (nI (partn)), .ref (1000 + 2 * rn), .ref (0)]) (M' := (I, J, Rx R, N, G)) rfl ?_
    refine XP_call rfl (rfl) (c_meanOf hI (show rn < cR s by omega)) ?_
    rintro v31 M31 ⟨rfl, I31, J31, rfl, hI31⟩
    rw [if_pos g1, wN_nI (by omega)]
    exact XP_ret rfl ⟨rfl, _, _, rfl, hI31⟩
  · have hgl2 : gMn s rn ≤ 198000000000 := hgl rn
    unfold TP
    show XP X _ k_M_mean 0 [.ref (99), .int (nI (rn)), .int (nI (partn))] [] _ _
    refine XP_n 2 (pc' := 2) (ls' := [.ref (99), .int (nI (rn)), .int (nI (partn))]) (st' := [.int (nI (rn)), .ref (99)]) (M' := (I, J, Rx R, N, G)) rfl ?_
    refine XP_pure rfl rfl (m_isRule hI.1 hI.2.1 _) ?_
    refine XP_s rfl ?_
    refine XP_beq (fun b3 => absurd g0 b3) (fun b3 => ?_)
    refine XP_n 3 (pc' := 7) (ls' := [.ref (99), .int (nI (rn)), .int (nI (partn))]) (st' := [.int (nI (1)), .int (nI (0)), .int (nI (partn))]) (M' := (I, J, Rx R, N, G)) rfl ?_
    refine XP_pure rfl rfl (w_M X _ _ 0 1 _) ?_
    refine XP_s rfl ?_
    refine XP_beq (fun b8 => absurd g1 b8) (fun b8 => ?_)
    refine XP_n 2 (pc' := 11) (ls' := [.ref (99), .int (nI (rn)), .int (nI (partn))]) (st' := [.int (nI (rn)), .ref (99)]) (M' := (I, J, Rx R, N, G)) rfl ?_
    refine XP_call rfl (rfl) (m_meanOf hI (show rn < cR s by omega)) ?_
    rintro v32 M32 ⟨rfl, I32, J32, rfl, hI32⟩
    refine XP_n 2 (pc' := 14) (ls' := [.ref (99), .int (nI (rn)), .int (nI (partn))]) (st' := [.ref (99), .long (lN (1000)), .long (lN (gMn s rn))]) (M' := (I32, J32, Rx R, N, G)) rfl ?_
    refine XP_pure rfl rfl (m_weights hI32.1 hW) ?_
    refine XP_n 2 (pc' := 17) (ls' := [.ref (99), .int (nI (rn)), .int (nI (partn))]) (st' := [.int (nI (partn)), .long ((lN (1000)) * (lN (cWA s))), .long (lN (gMn s rn))]) (M' := (I32, J32, Rx R, N, G)) rfl ?_
    rw [show (lN (1000)) * (lN (cWA s)) = lN ((1000) * (cWA s)) from lN_mulE (rfl) (rfl)]
    refine XP_pure rfl rfl (m_low (by omega) (by first | (intro h; have hz : ¬ cWA s = 0 := fun z => h (by unfold gMn; rw [(cWA_0 hW).mp z]; rfl); omega)) (by omega) (l_min (by omega))) ?_
    refine XP_n 1 (pc' := 20) (ls' := [.ref (99), .int (nI (rn)), .int (nI (partn))]) (st' := [.long (gLow (lN (gMn s rn)) ((1000) * (cWA s)) (partn))]) (M' := (I32, J32, Rx R, N, G)) rfl ?_
    exact XP_ret rfl ⟨by rw [gMB_eq (fun h => by unfold gMn; rw [(cWA_0 hW).mp h]; rfl)], _, _, rfl, hI32⟩
end
