/-! setters: stormsBy -/
section
variable {X : hX} {d : Nat} {s I : Nat → Nat → Int32} {J : Nat → Nat → Int64} {R : Nat → Nat → Option Nat} {N : Nat → Nat} {G : hG}
theorem add_0 (x : Int32) : x + nI 0 = x := by
  show x + 0 = x
  exact Int32.add_zero x
theorem c_shatC (hS : StC s I) (hW : Wf s) {sn i : Nat} (hsn : sn < 4) (hi : i < sz s sn) : TP X d n_Sheet_at [.ref (87 + 2 * sn), .int (nI i)] (I, J, Rx R, N, G) (Ret (.int (s 122 (40 * sn + i))) (I, J, Rx R, N, G)) := by
  have hsz0 := (hW.sz1 hsn).2
  unfold TP
  show XP X _ k_Sheet_at 0 [.ref (87 + 2 * sn), .int (nI (i))] [] _ _
  refine XP_n 1 (pc' := 1) (ls' := [.ref (87 + 2 * sn), .int (nI (i))]) (st' := [.int (nI (i))]) (M' := (I, J, Rx R, N, G)) rfl ?_
  refine XP_ifN (x := i)  rfl (by omega) (fun (b1 : i < 0) => absurd b1 (by omega)) (fun (b1 : 0 ≤ i) => ?_)
  refine XP_n 2 (pc' := 4) (ls' := [.ref (87 + 2 * sn), .int (nI (i))]) (st' := [.ref (87 + 2 * sn), .int (nI (i))]) (M' := (I, J, Rx R, N, G)) rfl ?_
  refine XP_getw rfl (by rw [sh_o (show sn < 4 by omega)]; rfl) ?_
  show XP X _ k_Sheet_at 5 [.ref (87 + 2 * sn), .int (nI (i))] [.int (I (87 + 2 * sn) 1), .int (nI (i))] _ _
  rw [show I (87 + 2 * sn) 1 = s 121 sn from hS _ _ _ _ (mpC_s1 (show sn < 4 by omega))]
  rw [(hW.sz1 hsn).1]
  refine XP_icN (x := i) (y := sz s sn) rfl (by omega) (by omega) (fun (b5 : sz s sn ≤ i) => absurd b5 (by omega)) (fun (b5 : i < sz s sn) => ?_)
  refine XP_n 2 (pc' := 8) (ls' := [.ref (87 + 2 * sn), .int (nI (i))]) (st' := [.ref (87 + 2 * sn), .int (nI (i))]) (M' := (I, J, Rx R, N, G)) rfl ?_
  refine XP_getr rfl (by rw [sh_o (show sn < 4 by omega)]; rfl) (sh_r R (show sn < 4 by omega))  ?_
  refine XP_len rfl (sh_a (show sn < 4 by omega)) (sh_l N (show sn < 4 by omega)) ?_
  refine XP_icN (x := i) (y := 40) rfl (by omega) (by omega) (fun (b10 : 40 ≤ i) => absurd b10 (by omega)) (fun (b10 : i < 40) => ?_)
  refine XP_n 1 (pc' := 12) (ls' := [.ref (87 + 2 * sn), .int (nI (i))]) (st' := [.ref (87 + 2 * sn)]) (M' := (I, J, Rx R, N, G)) rfl ?_
  refine XP_getr rfl (by rw [sh_o (show sn < 4 by omega)]; rfl) (sh_r R (show sn < 4 by omega))  ?_
  refine XP_n 1 (pc' := 14) (ls' := [.ref (87 + 2 * sn), .int (nI (i))]) (st' := [.int (nI (i)), .ref (88 + 2 * sn)]) (M' := (I, J, Rx R, N, G)) rfl ?_
  refine XP_iraw rfl (sh_a (show sn < 4 by omega)) (show i < 40 by omega) (sh_l N (show sn < 4 by omega)) (by omega) ?_
  rw [show I (88 + 2 * sn) i = s 122 (40 * sn + (i)) from hS _ _ _ _ (mpC_sh (show sn < 4 by omega) (show i < 40 by omega))]
  refine XP_n 1 (pc' := 17) (ls' := [.ref (87 + 2 * sn), .int (nI (i))]) (st' := [.int (s 122 (40 * sn + (i)))]) (M' := (I, J, Rx R, N, G)) rfl ?_
  exact XP_ret rfl ⟨rfl, rfl⟩
theorem rc_C {i z : Nat} (hi : i < 100) (hz : z ≤ 40) : nI z - nI 2 < nI i ↔ ¬ i + 2 ≤ z := rc_iff (by omega) (by omega) hz
theorem c_reCT (hS : StC s I) (hW : Wf s) {sn i : Nat} (hsn : sn < 4) (hi : i < 100) (h : i + 2 ≤ sz s sn) : TP X d n_Sheet_reaches [.ref (87 + 2 * sn), .int (nI i), .int (nI 2)] (I, J, Rx R, N, G) (Ret (.int (nI 1)) (I, J, Rx R, N, G)) := by
  have hsz0 := (hW.sz1 hsn).2
  have hrc : ¬ (nI (sz s sn)) - (nI (2)) < nI i := fun z => (rc_C hi hsz0).mp z h
  unfold TP
  show XP X _ k_Sheet_reaches 0 [.ref (87 + 2 * sn), .int (nI (i)), .int (nI (2))] [] _ _
  refine XP_n 1 (pc' := 1) (ls' := [.ref (87 + 2 * sn), .int (nI (i)), .int (nI (2))]) (st' := [.int (nI (i))]) (M' := (I, J, Rx R, N, G)) rfl ?_
  refine XP_ifN (x := i)  rfl (by omega) (fun (b1 : i < 0) => absurd b1 (by omega)) (fun (b1 : 0 ≤ i) => ?_)
  refine XP_n 1 (pc' := 3) (ls' := [.ref (87 + 2 * sn), .int (nI (i)), .int (nI (2))]) (st' := [.int (nI (2))]) (M' := (I, J, Rx R, N, G)) rfl ?_
  refine XP_ifN (x := 2)  rfl (by omega) (fun (b3 : 2 < 0) => absurd b3 (by omega)) (fun (b3 : 0 ≤ 2) => ?_)
  refine XP_n 2 (pc' := 6) (ls' := [.ref (87 + 2 * sn), .int (nI (i)), .int (nI (2))]) (st' := [.ref (87 + 2 * sn), .int (nI (i))]) (M' := (I, J, Rx R, N, G)) rfl ?_
  refine XP_getw rfl (by rw [sh_o (show sn < 4 by omega)]; rfl) ?_
  show XP X _ k_Sheet_reaches 7 [.ref (87 + 2 * sn), .int (nI (i)), .int (nI (2))] [.int (I (87 + 2 * sn) 1), .int (nI (i))] _ _
  rw [show I (87 + 2 * sn) 1 = s 121 sn from hS _ _ _ _ (mpC_s1 (show sn < 4 by omega))]
  rw [(hW.sz1 hsn).1]
  refine XP_n 2 (pc' := 9) (ls' := [.ref (87 + 2 * sn), .int (nI (i)), .int (nI (2))]) (st' := [.int ((nI (sz s sn)) - (nI (2))), .int (nI (i))]) (M' := (I, J, Rx R, N, G)) rfl ?_
  refine XP_icD rfl (fun (b9 : (nI (sz s sn)) - (nI (2)) < nI (i)) => absurd b9 (by first | exact hrc | exact fun z => z hrc | exact Int32.not_le.mpr hrc | exact Int32.not_lt.mpr (Int32.not_lt.mp hrc) | omega)) (fun (b9 : nI (i) ≤ (nI (sz s sn)) - (nI (2))) => ?_)
  have n9 := Int32.not_lt.mpr b9
  refine XP_n 1 (pc' := 11) (ls' := [.ref (87 + 2 * sn), .int (nI (i)), .int (nI (2))]) (st' := [.ref (87 + 2 * sn)]) (M' := (I, J, Rx R, N, G)) rfl ?_
  refine XP_getw rfl (by rw [sh_o (show sn < 4 by omega)]; rfl) ?_
  show XP X _ k_Sheet_reaches 12 [.ref (87 + 2 * sn), .int (nI (i)), .int (nI (2))] [.int (I (87 + 2 * sn) 1)] _ _
  rw [show I (87 + 2 * sn) 1 = s 121 sn from hS _ _ _ _ (mpC_s1 (show sn < 4 by omega))]
  rw [(hW.sz1 hsn).1]
  refine XP_n 1 (pc' := 13) (ls' := [.ref (87 + 2 * sn), .int (nI (i)), .int (nI (2))]) (st' := [.ref (87 + 2 * sn), .int (nI (sz s sn))]) (M' := (I, J, Rx R, N, G)) rfl ?_
  refine XP_getr rfl (by rw [sh_o (show sn < 4 by omega)]; rfl) (sh_r R (show sn < 4 by omega))  ?_
  refine XP_len rfl (sh_a (show sn < 4 by omega)) (sh_l N (show sn < 4 by omega)) ?_
  refine XP_icN (x := sz s sn) (y := 40) rfl (by omega) (by omega) (fun (b15 : 40 < sz s sn) => absurd b15 (by omega)) (fun (b15 : sz s sn ≤ 40) => ?_)
  refine XP_n 2 (pc' := 19) (ls' := [.ref (87 + 2 * sn), .int (nI (i)), .int (nI (2))]) (st' := [.int (nI (1))]) (M' := (I, J, Rx R, N, G)) rfl ?_
  exact XP_ret rfl ⟨rfl, rfl⟩
theorem c_reCF (hS : StC s I) (hW : Wf s) {sn i : Nat} (hsn : sn < 4) (hi : i < 100) (h : ¬ i + 2 ≤ sz s sn) : TP X d n_Sheet_reaches [.ref (87 + 2 * sn), .int (nI i), .int (nI 2)] (I, J, Rx R, N, G) (Ret (.int (nI 0)) (I, J, Rx R, N, G)) := by
  have hsz0 := (hW.sz1 hsn).2
  have hrc :  (nI (sz s sn)) - (nI (2)) < nI i := (rc_C hi hsz0).mpr h
  unfold TP
  show XP X _ k_Sheet_reaches 0 [.ref (87 + 2 * sn), .int (nI (i)), .int (nI (2))] [] _ _
  refine XP_n 1 (pc' := 1) (ls' := [.ref (87 + 2 * sn), .int (nI (i)), .int (nI (2))]) (st' := [.int (nI (i))]) (M' := (I, J, Rx R, N, G)) rfl ?_
  refine XP_ifN (x := i)  rfl (by omega) (fun (b1 : i < 0) => absurd b1 (by omega)) (fun (b1 : 0 ≤ i) => ?_)
  refine XP_n 1 (pc' := 3) (ls' := [.ref (87 + 2 * sn), .int (nI (i)), .int (nI (2))]) (st' := [.int (nI (2))]) (M' := (I, J, Rx R, N, G)) rfl ?_
  refine XP_ifN (x := 2)  rfl (by omega) (fun (b3 : 2 < 0) => absurd b3 (by omega)) (fun (b3 : 0 ≤ 2) => ?_)
  refine XP_n 2 (pc' := 6) (ls' := [.ref (87 + 2 * sn), .int (nI (i)), .int (nI (2))]) (st' := [.ref (87 + 2 * sn), .int (nI (i))]) (M' := (I, J, Rx R, N, G)) rfl ?_
  refine XP_getw rfl (by rw [sh_o (show sn < 4 by omega)]; rfl) ?_
  show XP X _ k_Sheet_reaches 7 [.ref (87 + 2 * sn), .int (nI (i)), .int (nI (2))] [.int (I (87 + 2 * sn) 1), .int (nI (i))] _ _
  rw [show I (87 + 2 * sn) 1 = s 121 sn from hS _ _ _ _ (mpC_s1 (show sn < 4 by omega))]
  rw [(hW.sz1 hsn).1]
  refine XP_n 2 (pc' := 9) (ls' := [.ref (87 + 2 * sn), .int (nI (i)), .int (nI (2))]) (st' := [.int ((nI (sz s sn)) - (nI (2))), .int (nI (i))]) (M' := (I, J, Rx R, N, G)) rfl ?_
  refine XP_icD rfl (fun (b9 : (nI (sz s sn)) - (nI (2)) < nI (i)) => ?_) (fun (b9 : nI (i) ≤ (nI (sz s sn)) - (nI (2))) => absurd b9 (by first | exact hrc | exact fun z => z hrc | exact Int32.not_le.mpr hrc | exact Int32.not_lt.mpr (Int32.not_lt.mp hrc) | omega))
  have n9 := Int32.not_le.mpr b9
  refine XP_n 1 (pc' := 19) (ls' := [.ref (87 + 2 * sn), .int (nI (i)), .int (nI (2))]) (st' := [.int (nI (0))]) (M' := (I, J, Rx R, N, G)) rfl ?_
  exact XP_ret rfl ⟨rfl, rfl⟩
end
theorem l_sb {sn f n : Nat} (hsn : sn < 4) (hf : f ≤ 40) (hn : n ≤ 6) (so : Int32) : ∀ (m k : Nat) (cm : Int32) (s : Nat → Nat → Int32), k + m = n → Wf s → iN 0 1000000 (s 1 15) → wN (s 1 15) + m ≤ 1000000 → ∃ w s', Wf s' ∧ Up m s s' ∧
    (∀ (X : hX) (d : Nat) (I : Nat → Nat → Int32) (J : Nat → Nat → Int64) (R : Nat → Nat → Option Nat) (N : Nat → Nat) (G : hG), StC s I → Lk s R N → Cch s I J → XP X (d + 5) k_H_stormsBy 33 [.ref (0), .int (nI (sn)), .int (so), .int (nI (f)), .int (nI (n)), .ref (87 + 2 * sn), .int (cm), .int (nI (k))] [] (I, J, Rx R, N, G) (QH s' R N G J I (.int w))) ∧
    ∀ (X : hX) (d : Nat) (I : Nat → Nat → Int32) (J : Nat → Nat → Int64) (R : Nat → Nat → Option Nat) (N : Nat → Nat) (G : hG) (w7 w8 : Value), StM s I → XP X (d + 5) k_M_stormsBy 37 [.ref (99), .int (nI (sn)), .int (so), .int (nI (f)), .int (nI (n)), .int (cm), .int (nI (k)), w7, w8] [] (I, J, Rx R, N, G) (QS s' R N G J I (.int w)) := by
  intro m
  induction m with
  | zero =>
    rintro k cm s hk hW hch hb
    obtain rfl : k = n := by omega
    refine ⟨cm, s, hW, Up.rf hch, fun X d I J R N G hc hl hC => ?_, fun X d I J R N G w7 w8 hS => ?_⟩
    · refine XP_n 2 (pc' := 35) (ls' := [.ref (0), .int (nI (sn)), .int (so), .int (nI (f)), .int (nI (k)), .ref (87 + 2 * sn), .int (cm), .int (nI (k))]) (st' := [.int (nI (k)), .int (nI (k))]) (M' := (I, J, Rx R, N, G)) rfl ?_
      refine XP_icN (x := k) (y := k) rfl (by omega) (by omega) (fun (b35 : k ≤ k) => ?_) (fun (b35 : k < k) => absurd b35 (by omega))
      refine XP_n 1 (pc' := 75) (ls' := [.ref (0), .int (nI (sn)), .int (so), .int (nI (f)), .int (nI (k)), .ref (87 + 2 * sn), .int (cm), .int (nI (k))]) (st' := [.int (cm)]) (M' := (I, J, Rx R, N, G)) rfl ?_
      exact XP_ret rfl ⟨rfl, _, rfl, hc, hl, hC, FrM.rf⟩
    · refine XP_n 2 (pc' := 39) (ls' := [.ref (99), .int (nI (sn)), .int (so), .int (nI (f)), .int (nI (k)), .int (cm), .int (nI (k)), w7, w8]) (st' := [.int (nI (k)), .int (nI (k))]) (M' := (I, J, Rx R, N, G)) rfl ?_
      refine XP_icN (x := k) (y := k) rfl (by omega) (by omega) (fun (b39 : k ≤ k) => ?_) (fun (b39 : k < k) => absurd b39 (by omega))
      refine XP_n 1 (pc' := 89) (ls' := [.ref (99), .int (nI (sn)), .int (so), .int (nI (f)), .int (nI (k)), .int (cm), .int (nI (k)), w7, w8]) (st' := [.int (cm)]) (M' := (I, J, Rx R, N, G)) rfl ?_
      exact XP_ret rfl ⟨rfl, _, rfl, hS, FrC.rf⟩
  | succ m ih =>
    rintro k cm s hk hW hch hb
    have hsz0 := (hW.sz1 hsn).2
    have hf4 : iv 0 40 (nI f) := ⟨(nI_leI (by omega) (by omega)).mpr (Nat.zero_le _), (nI_leI (by omega) (by omega)).mpr hf⟩
    by_cases hz : f + (2) * (k) + 2 ≤ sz s sn
    rotate_left
    · refine ⟨cI (-12), s, hW, Up.rf hch, fun X d I J R N G hc hl hC => ?_, fun X d I J R N G w7 w8 hS => ?_⟩
      · refine XP_n 2 (pc' := 35) (ls' := [.ref (0), .int (nI (sn)), .int (so), .int (nI (f)), .int (nI (n)), .ref (87 + 2 * sn), .int (cm), .int (nI (k))]) (st' := [.int (nI (n)), .int (nI (k))]) (M' := (I, J, Rx R, N, G)) rfl ?_
        refine XP_icN (x := k) (y := n) rfl (by omega) (by omega) (fun (b35 : n ≤ k) => absurd b35 (by omega)) (fun (b35 : k < n) => ?_)
        refine XP_n 3 (pc' := 39) (ls' := [.ref (0), .int (nI (sn)), .int (so), .int (nI (f)), .int (nI (n)), .ref (87 + 2 * sn), .int (cm), .int (nI (k))]) (st' := [.int (nI (40)), .int (nI (0)), .int (nI (f))]) (M' := (I, J, Rx R, N, G)) rfl ?_
        refine XP_pure rfl rfl (w_H X _ _ 0 40 _) ?_
        refine XP_s rfl ?_
        refine XP_beq (fun b40 => absurd hf4 b40) (fun b40 => ?_)
        refine XP_n 7 (pc' := 48) (ls' := [.ref (0), .int (nI (sn)), .int (so), .int (nI (f)), .int (nI (n)), .ref (87 + 2 * sn), .int (cm), .int (nI (k))]) (st' := [.int (nI (2)), .int ((nI (f)) + ((nI (2)) * (nI (k)))), .ref (87 + 2 * sn)]) (M' := (I, J, Rx R, N, G)) rfl ?_
        rw [show (nI (f)) + ((nI (2)) * (nI (k))) = nI (f + ((2) * (k))) from nI_addE (rfl) (nI_mulE (rfl) (rfl))]
        refine XP_pure rfl (by show (isO (87 + 2 * sn) 8 || false) = true; rw [sh_o hsn]; rfl) (c_reCF hc hW hsn (by omega) hz) ?_
        refine XP_ifN (x := 0)  rfl (by omega) (fun (b49 : ¬ 0 = 0) => absurd b49 (by omega)) (fun (b49 : 0 = 0) => ?_)
        refine XP_n 1 (pc' := 51) (ls' := [.ref (0), .int (nI (sn)), .int (so), .int (nI (f)), .int (nI (n)), .ref (87 + 2 * sn), .int (cm), .int (nI (k))]) (st' := [.int (cI (-12))]) (M' := (I, J, Rx R, N, G)) rfl ?_
        exact XP_ret rfl ⟨rfl, _, rfl, hc, hl, hC, FrM.rf⟩
      · refine XP_n 2 (pc' := 39) (ls' := [.ref (99), .int (nI (sn)), .int (so), .int (nI (f)), .int (nI (n)), .int (cm), .int (nI (k)), w7, w8]) (st' := [.int (nI (n)), .int (nI (k))]) (M' := (I, J, Rx R, N, G)) rfl ?_
        refine XP_icN (x := k) (y := n) rfl (by omega) (by omega) (fun (b39 : n ≤ k) => absurd b39 (by omega)) (fun (b39 : k < n) => ?_)
        refine XP_n 6 (pc' := 46) (ls' := [.ref (99), .int (nI (sn)), .int (so), .int (nI (f)), .int (nI (n)), .int (cm), .int (nI (k)), .int ((nI (f)) + ((nI (2)) * (nI (k)))), w8]) (st' := []) (M' := (I, J, Rx R, N, G)) rfl ?_
        rw [show (nI (f)) + ((nI (2)) * (nI (k))) = nI (f + ((2) * (k))) from nI_addE (rfl) (nI_mulE (rfl) (rfl))]
        refine XP_n 1 (pc' := 47) (ls' := [.ref (99), .int (nI (sn)), .int (so), .int (nI (f)), .int (nI (n)), .int (cm), .int (nI (k)), .int (nI (f + ((2) * (k)))), w8]) (st' := [.int (nI (f))]) (M' := (I, J, Rx R, N, G)) rfl ?_
        refine XP_ifN (x := f)  rfl (by omega) (fun (b47 : f < 0) => absurd b47 (by omega)) (fun (b47 : 0 ≤ f) => ?_)
        refine XP_n 2 (pc' := 50) (ls' := [.ref (99), .int (nI (sn)), .int (so), .int (nI (f)), .int (nI (n)), .int (cm), .int (nI (k)), .int (nI (f + ((2) * (k)))), w8]) (st' := [.int (nI (f)), .int (nI (f + ((2) * (k))))]) (M' := (I, J, Rx R, N, G)) rfl ?_
        refine XP_icN (x := f + ((2) * (k))) (y := f) rfl (by omega) (by omega) (fun (b50 : f + ((2) * (k)) < f) => absurd b50 (by omega)) (fun (b50 : f ≤ f + ((2) * (k))) => ?_)
        refine XP_n 4 (pc' := 55) (ls' := [.ref (99), .int (nI (sn)), .int (so), .int (nI (f)), .int (nI (n)), .int (cm), .int (nI (k)), .int (nI (f + ((2) * (k)))), w8]) (st' := [.int (nI (sn)), .ref (121), .int (nI (f + ((2) * (k))))]) (M' := (I, J, Rx R, N, G)) rfl ?_
        refine XP_ialdM hS rfl rfl (show sn < 4 by omega) rfl (by omega) rfl ?_
        rw [(hW.sz1 hsn).1]
        refine XP_n 2 (pc' := 58) (ls' := [.ref (99), .int (nI (sn)), .int (so), .int (nI (f)), .int (nI (n)), .int (cm), .int (nI (k)), .int (nI (f + ((2) * (k)))), w8]) (st' := [.int ((nI (sz s sn)) - (nI (2))), .int (nI (f + ((2) * (k))))]) (M' := (I, J, Rx R, N, G)) rfl ?_
        refine XP_icD rfl (fun (b58 : nI (f + ((2) * (k))) ≤ (nI (sz s sn)) - (nI (2))) => absurd b58 (by first | exact ((rc_C (by omega) hsz0).mpr hz) | exact fun z => z ((rc_C (by omega) hsz0).mpr hz) | exact Int32.not_le.mpr ((rc_C (by omega) hsz0).mpr hz) | exact Int32.not_lt.mpr (Int32.not_lt.mp ((rc_C (by omega) hsz0).mpr hz)) | omega)) (fun (b58 : (nI (sz s sn)) - (nI (2)) < nI (f + ((2) * (k)))) => ?_)
        have n58 := Int32.not_le.mpr b58
        refine XP_n 1 (pc' := 60) (ls' := [.ref (99), .int (nI (sn)), .int (so), .int (nI (f)), .int (nI (n)), .int (cm), .int (nI (k)), .int (nI (f + ((2) * (k)))), w8]) (st' := [.int (cI (-12))]) (M' := (I, J, Rx R, N, G)) rfl ?_
        exact XP_ret rfl ⟨rfl, _, rfl, hS, FrC.rf⟩
    obtain ⟨w1, s1, hW1, ⟨c1, u1, u2, u3, u4, u5⟩, ag1, hc1, hm1⟩ := s_stormC hW hch (s 122 (40 * sn + (f + (2) * (k)))) (s 122 (40 * sn + (f + (2) * (k) + 1)))
    have hch1 : iN 0 1000000 (s1 1 15) := ⟨c1, Nat.zero_le _, by omega, u1⟩
    have hcw : wN (s1 1 15) = c1 := by rw [u1, wN_nI (by omega)]
    have hup : ∀ s', Up m s1 s' → Up (m + 1) s s' := fun s' ⟨c, e1, e2, e3, e4, e5⟩ => ⟨c, e1, by omega, by omega, e4.trans u4, e5.trans u5⟩
    by_cases hw : w1 < 0
    · obtain ⟨w, s', e1, e2, e3, e4⟩ := ih (k + 1) (cm) s1 (by omega) hW1 hch1 (by omega)
      refine ⟨w, s', e1, hup s' e2, fun X d I J R N G hc hl hC => ?_, fun X d I J R N G w7 w8 hS => ?_⟩
      · refine XP_n 2 (pc' := 35) (ls' := [.ref (0), .int (nI (sn)), .int (so), .int (nI (f)), .int (nI (n)), .ref (87 + 2 * sn), .int (cm), .int (nI (k))]) (st' := [.int (nI (n)), .int (nI (k))]) (M' := (I, J, Rx R, N, G)) rfl ?_
        refine XP_icN (x := k) (y := n) rfl (by omega) (by omega) (fun (b35 : n ≤ k) => absurd b35 (by omega)) (fun (b35 : k < n) => ?_)
        refine XP_n 3 (pc' := 39) (ls' := [.ref (0), .int (nI (sn)), .int (so), .int (nI (f)), .int (nI (n)), .ref (87 + 2 * sn), .int (cm), .int (nI (k))]) (st' := [.int (nI (40)), .int (nI (0)), .int (nI (f))]) (M' := (I, J, Rx R, N, G)) rfl ?_
        refine XP_pure rfl rfl (w_H X _ _ 0 40 _) ?_
        refine XP_s rfl ?_
        refine XP_beq (fun b40 => absurd hf4 b40) (fun b40 => ?_)
        refine XP_n 7 (pc' := 48) (ls' := [.ref (0), .int (nI (sn)), .int (so), .int (nI (f)), .int (nI (n)), .ref (87 + 2 * sn), .int (cm), .int (nI (k))]) (st' := [.int (nI (2)), .int ((nI (f)) + ((nI (2)) * (nI (k)))), .ref (87 + 2 * sn)]) (M' := (I, J, Rx R, N, G)) rfl ?_
        rw [show (nI (f)) + ((nI (2)) * (nI (k))) = nI (f + ((2) * (k))) from nI_addE (rfl) (nI_mulE (rfl) (rfl))]
        refine XP_pure rfl (by show (isO (87 + 2 * sn) 8 || false) = true; rw [sh_o hsn]; rfl) (c_reCT hc hW hsn (by omega) hz) ?_
        refine XP_ifN (x := 1)  rfl (by omega) (fun (b49 : ¬ 1 = 0) => ?_) (fun (b49 : 1 = 0) => absurd b49 (by omega))
        refine XP_n 7 (pc' := 59) (ls' := [.ref (0), .int (nI (sn)), .int (so), .int (nI (f)), .int (nI (n)), .ref (87 + 2 * sn), .int (cm), .int (nI (k))]) (st' := [.int ((nI (f)) + ((nI (2)) * (nI (k)))), .ref (87 + 2 * sn), .ref (0)]) (M' := (I, J, Rx R, N, G)) rfl ?_
        rw [show (nI (f)) + ((nI (2)) * (nI (k))) = nI (f + ((2) * (k))) from nI_addE (rfl) (nI_mulE (rfl) (rfl))]
        refine XP_pure rfl (by show (isO (87 + 2 * sn) 8 || false) = true; rw [sh_o hsn]; rfl) (c_shatC hc hW hsn (show f + ((2) * (k)) < sz s sn by omega)) ?_
        refine XP_n 8 (pc' := 68) (ls' := [.ref (0), .int (nI (sn)), .int (so), .int (nI (f)), .int (nI (n)), .ref (87 + 2 * sn), .int (cm), .int (nI (k))]) (st' := [.int (((nI (f)) + ((nI (2)) * (nI (k)))) + (nI (1))), .ref (87 + 2 * sn), .int (s 122 (40 * sn + (f + ((2) * (k))))), .ref (0)]) (M' := (I, J, Rx R, N, G)) rfl ?_
        rw [show ((nI (f)) + ((nI (2)) * (nI (k)))) + (nI (1)) = nI (f + ((2) * (k)) + 1) from nI_addE (nI_addE (rfl) (nI_mulE (rfl) (rfl))) (rfl)]
        refine XP_pure rfl (by show (isO (87 + 2 * sn) 8 || false) = true; rw [sh_o hsn]; rfl) (c_shatC hc hW hsn (show f + ((2) * (k)) + 1 < sz s sn by omega)) ?_
        refine XP_call rfl rfl (hc1 X d I J R N G hc hl hC) ?_
        rintro v1 M1 ⟨rfl, I1, rfl, hcx, hlx, hCx, hfx⟩
        refine XP_ifD rfl (fun (b70 : w1 < 0) => ?_) (fun (b70 : 0 ≤ w1) => absurd b70 (by first | exact hw | exact fun z => z hw | exact Int32.not_le.mpr hw | exact Int32.not_lt.mpr (Int32.not_lt.mp hw) | omega))
        have n70 := Int32.not_le.mpr b70
        refine XP_n 1 (pc' := 73) (ls' := [.ref (0), .int (nI (sn)), .int (so), .int (nI (f)), .int (nI (n)), .ref (87 + 2 * sn), .int (cm), .int (nI (k) + nI (1))]) (st' := []) (M' := (I1, J, Rx R, N, G)) rfl ?_
        rw [show nI (k) + nI (1) = nI (k + 1) from nI_addE (rfl) rfl]
        refine XP_n 1 (pc' := 33) (ls' := [.ref (0), .int (nI (sn)), .int (so), .int (nI (f)), .int (nI (n)), .ref (87 + 2 * sn), .int (cm), .int (nI (k + 1))]) (st' := []) (M' := (I1, J, Rx R, N, G)) rfl ?_
        exact XP_mono (e3 X d I1 J R N G hcx hlx hCx) (fun v M' ⟨q1, I2, q2, q3, q4, q5, q6⟩ => ⟨q1, I2, q2, q3, q4, q5, hfx.tr q6⟩)
      · refine XP_n 2 (pc' := 39) (ls' := [.ref (99), .int (nI (sn)), .int (so), .int (nI (f)), .int (nI (n)), .int (cm), .int (nI (k)), w7, w8]) (st' := [.int (nI (n)), .int (nI (k))]) (M' := (I, J, Rx R, N, G)) rfl ?_
        refine XP_icN (x := k) (y := n) rfl (by omega) (by omega) (fun (b39 : n ≤ k) => absurd b39 (by omega)) (fun (b39 : k < n) => ?_)
        refine XP_n 6 (pc' := 46) (ls' := [.ref (99), .int (nI (sn)), .int (so), .int (nI (f)), .int (nI (n)), .int (cm), .int (nI (k)), .int ((nI (f)) + ((nI (2)) * (nI (k)))), w8]) (st' := []) (M' := (I, J, Rx R, N, G)) rfl ?_
        rw [show (nI (f)) + ((nI (2)) * (nI (k))) = nI (f + ((2) * (k))) from nI_addE (rfl) (nI_mulE (rfl) (rfl))]
        refine XP_n 1 (pc' := 47) (ls' := [.ref (99), .int (nI (sn)), .int (so), .int (nI (f)), .int (nI (n)), .int (cm), .int (nI (k)), .int (nI (f + ((2) * (k)))), w8]) (st' := [.int (nI (f))]) (M' := (I, J, Rx R, N, G)) rfl ?_
        refine XP_ifN (x := f)  rfl (by omega) (fun (b47 : f < 0) => absurd b47 (by omega)) (fun (b47 : 0 ≤ f) => ?_)
        refine XP_n 2 (pc' := 50) (ls' := [.ref (99), .int (nI (sn)), .int (so), .int (nI (f)), .int (nI (n)), .int (cm), .int (nI (k)), .int (nI (f + ((2) * (k)))), w8]) (st' := [.int (nI (f)), .int (nI (f + ((2) * (k))))]) (M' := (I, J, Rx R, N, G)) rfl ?_
        refine XP_icN (x := f + ((2) * (k))) (y := f) rfl (by omega) (by omega) (fun (b50 : f + ((2) * (k)) < f) => absurd b50 (by omega)) (fun (b50 : f ≤ f + ((2) * (k))) => ?_)
        refine XP_n 4 (pc' := 55) (ls' := [.ref (99), .int (nI (sn)), .int (so), .int (nI (f)), .int (nI (n)), .int (cm), .int (nI (k)), .int (nI (f + ((2) * (k)))), w8]) (st' := [.int (nI (sn)), .ref (121), .int (nI (f + ((2) * (k))))]) (M' := (I, J, Rx R, N, G)) rfl ?_
        refine XP_ialdM hS rfl rfl (show sn < 4 by omega) rfl (by omega) rfl ?_
        rw [(hW.sz1 hsn).1]
        refine XP_n 2 (pc' := 58) (ls' := [.ref (99), .int (nI (sn)), .int (so), .int (nI (f)), .int (nI (n)), .int (cm), .int (nI (k)), .int (nI (f + ((2) * (k)))), w8]) (st' := [.int ((nI (sz s sn)) - (nI (2))), .int (nI (f + ((2) * (k))))]) (M' := (I, J, Rx R, N, G)) rfl ?_
        refine XP_icD rfl (fun (b58 : nI (f + ((2) * (k))) ≤ (nI (sz s sn)) - (nI (2))) => ?_) (fun (b58 : (nI (sz s sn)) - (nI (2)) < nI (f + ((2) * (k)))) => absurd b58 (by first | exact (fun z => (rc_C (by omega) hsz0).mp z hz) | exact fun z => z (fun z => (rc_C (by omega) hsz0).mp z hz) | exact Int32.not_le.mpr (fun z => (rc_C (by omega) hsz0).mp z hz) | exact Int32.not_lt.mpr (Int32.not_lt.mp (fun z => (rc_C (by omega) hsz0).mp z hz)) | omega))
        have n58 := Int32.not_lt.mpr b58
        refine XP_n 6 (pc' := 67) (ls' := [.ref (99), .int (nI (sn)), .int (so), .int (nI (f)), .int (nI (n)), .int (cm), .int (nI (k)), .int (nI (f + ((2) * (k)))), .int (((nI (40)) * (nI (sn))) + (nI (f + ((2) * (k)))))]) (st' := []) (M' := (I, J, Rx R, N, G)) rfl ?_
        rw [show ((nI (40)) * (nI (sn))) + (nI (f + ((2) * (k)))) = nI ((40) * (sn) + (f + ((2) * (k)))) from nI_addE (nI_mulE (rfl) (rfl)) (rfl)]
        refine XP_n 5 (pc' := 72) (ls' := [.ref (99), .int (nI (sn)), .int (so), .int (nI (f)), .int (nI (n)), .int (cm), .int (nI (k)), .int (nI (f + ((2) * (k)))), .int (nI ((40) * (sn) + (f + ((2) * (k)))))]) (st' := [.int (nI ((40) * (sn) + (f + ((2) * (k))))), .ref (122), .ref (99), .int (cm)]) (M' := (I, J, Rx R, N, G)) rfl ?_
        refine XP_ialdM hS rfl rfl (show (40) * (sn) + (f + ((2) * (k))) < 160 by omega) rfl (by omega) rfl ?_
        refine XP_n 5 (pc' := 78) (ls' := [.ref (99), .int (nI (sn)), .int (so), .int (nI (f)), .int (nI (n)), .int (cm), .int (nI (k)), .int (nI (f + ((2) * (k)))), .int (nI ((40) * (sn) + (f + ((2) * (k)))))]) (st' := [.int ((nI ((40) * (sn) + (f + ((2) * (k))))) + (nI (1))), .ref (122), .int (s 122 ((40) * (sn) + (f + ((2) * (k))))), .ref (99), .int (cm)]) (M' := (I, J, Rx R, N, G)) rfl ?_
        rw [show (nI ((40) * (sn) + (f + ((2) * (k))))) + (nI (1)) = nI ((40) * (sn) + (f + ((2) * (k))) + 1) from nI_addE (rfl) (rfl)]
        refine XP_ialdM hS rfl rfl (show (40) * (sn) + (f + ((2) * (k))) + 1 < 160 by omega) rfl (by omega) rfl ?_
        refine XP_call rfl rfl (hm1 X d I J R N G hS) ?_
        rintro v1 M1 ⟨rfl, I1, rfl, hSx, hfx⟩
        refine XP_ifD rfl (fun (b80 : w1 < 0) => ?_) (fun (b80 : 0 ≤ w1) => absurd b80 (by first | exact hw | exact fun z => z hw | exact Int32.not_le.mpr hw | exact Int32.not_lt.mpr (Int32.not_lt.mp hw) | omega))
        have n80 := Int32.not_le.mpr b80
        refine XP_n 3 (pc' := 86) (ls' := [.ref (99), .int (nI (sn)), .int (so), .int (nI (f)), .int (nI (n)), .int ((cm) + (nI (0))), .int (nI (k)), .int (nI (f + ((2) * (k)))), .int (nI ((40) * (sn) + (f + ((2) * (k)))))]) (st' := []) (M' := (I1, J, Rx R, N, G)) rfl ?_
        rw [add_0 cm]
        refine XP_n 1 (pc' := 87) (ls' := [.ref (99), .int (nI (sn)), .int (so), .int (nI (f)), .int (nI (n)), .int (cm), .int (nI (k) + nI (1)), .int (nI (f + ((2) * (k)))), .int (nI ((40) * (sn) + (f + ((2) * (k)))))]) (st' := []) (M' := (I1, J, Rx R, N, G)) rfl ?_
        rw [show nI (k) + nI (1) = nI (k + 1) from nI_addE (rfl) rfl]
        refine XP_n 1 (pc' := 37) (ls' := [.ref (99), .int (nI (sn)), .int (so), .int (nI (f)), .int (nI (n)), .int (cm), .int (nI (k + 1)), .int (nI (f + ((2) * (k)))), .int (nI ((40) * (sn) + (f + ((2) * (k)))))]) (st' := []) (M' := (I1, J, Rx R, N, G)) rfl ?_
        exact XP_mono (e4 X d I1 J R N G _ _ hSx) (fun v M' ⟨q1, I2, q2, q3, q4⟩ => ⟨q1, I2, q2, q3, hfx.tr q4⟩)
    · obtain ⟨w, s', e1, e2, e3, e4⟩ := ih (k + 1) (cm + nI (1)) s1 (by omega) hW1 hch1 (by omega)
      refine ⟨w, s', e1, hup s' e2, fun X d I J R N G hc hl hC => ?_, fun X d I J R N G w7 w8 hS => ?_⟩
      · refine XP_n 2 (pc' := 35) (ls' := [.ref (0), .int (nI (sn)), .int (so), .int (nI (f)), .int (nI (n)), .ref (87 + 2 * sn), .int (cm), .int (nI (k))]) (st' := [.int (nI (n)), .int (nI (k))]) (M' := (I, J, Rx R, N, G)) rfl ?_
        refine XP_icN (x := k) (y := n) rfl (by omega) (by omega) (fun (b35 : n ≤ k) => absurd b35 (by omega)) (fun (b35 : k < n) => ?_)
        refine XP_n 3 (pc' := 39) (ls' := [.ref (0), .int (nI (sn)), .int (so), .int (nI (f)), .int (nI (n)), .ref (87 + 2 * sn), .int (cm), .int (nI (k))]) (st' := [.int (nI (40)), .int (nI (0)), .int (nI (f))]) (M' := (I, J, Rx R, N, G)) rfl ?_
        refine XP_pure rfl rfl (w_H X _ _ 0 40 _) ?_
        refine XP_s rfl ?_
        refine XP_beq (fun b40 => absurd hf4 b40) (fun b40 => ?_)
        refine XP_n 7 (pc' := 48) (ls' := [.ref (0), .int (nI (sn)), .int (so), .int (nI (f)), .int (nI (n)), .ref (87 + 2 * sn), .int (cm), .int (nI (k))]) (st' := [.int (nI (2)), .int ((nI (f)) + ((nI (2)) * (nI (k)))), .ref (87 + 2 * sn)]) (M' := (I, J, Rx R, N, G)) rfl ?_
        rw [show (nI (f)) + ((nI (2)) * (nI (k))) = nI (f + ((2) * (k))) from nI_addE (rfl) (nI_mulE (rfl) (rfl))]
        refine XP_pure rfl (by show (isO (87 + 2 * sn) 8 || false) = true; rw [sh_o hsn]; rfl) (c_reCT hc hW hsn (by omega) hz) ?_
        refine XP_ifN (x := 1)  rfl (by omega) (fun (b49 : ¬ 1 = 0) => ?_) (fun (b49 : 1 = 0) => absurd b49 (by omega))
        refine XP_n 7 (pc' := 59) (ls' := [.ref (0), .int (nI (sn)), .int (so), .int (nI (f)), .int (nI (n)), .ref (87 + 2 * sn), .int (cm), .int (nI (k))]) (st' := [.int ((nI (f)) + ((nI (2)) * (nI (k)))), .ref (87 + 2 * sn), .ref (0)]) (M' := (I, J, Rx R, N, G)) rfl ?_
        rw [show (nI (f)) + ((nI (2)) * (nI (k))) = nI (f + ((2) * (k))) from nI_addE (rfl) (nI_mulE (rfl) (rfl))]
        refine XP_pure rfl (by show (isO (87 + 2 * sn) 8 || false) = true; rw [sh_o hsn]; rfl) (c_shatC hc hW hsn (show f + ((2) * (k)) < sz s sn by omega)) ?_
        refine XP_n 8 (pc' := 68) (ls' := [.ref (0), .int (nI (sn)), .int (so), .int (nI (f)), .int (nI (n)), .ref (87 + 2 * sn), .int (cm), .int (nI (k))]) (st' := [.int (((nI (f)) + ((nI (2)) * (nI (k)))) + (nI (1))), .ref (87 + 2 * sn), .int (s 122 (40 * sn + (f + ((2) * (k))))), .ref (0)]) (M' := (I, J, Rx R, N, G)) rfl ?_
        rw [show ((nI (f)) + ((nI (2)) * (nI (k)))) + (nI (1)) = nI (f + ((2) * (k)) + 1) from nI_addE (nI_addE (rfl) (nI_mulE (rfl) (rfl))) (rfl)]
        refine XP_pure rfl (by show (isO (87 + 2 * sn) 8 || false) = true; rw [sh_o hsn]; rfl) (c_shatC hc hW hsn (show f + ((2) * (k)) + 1 < sz s sn by omega)) ?_
        refine XP_call rfl rfl (hc1 X d I J R N G hc hl hC) ?_
        rintro v1 M1 ⟨rfl, I1, rfl, hcx, hlx, hCx, hfx⟩
        refine XP_ifD rfl (fun (b70 : w1 < 0) => absurd b70 (by first | exact hw | exact fun z => z hw | exact Int32.not_le.mpr hw | exact Int32.not_lt.mpr (Int32.not_lt.mp hw) | omega)) (fun (b70 : 0 ≤ w1) => ?_)
        have n70 := Int32.not_lt.mpr b70
        refine XP_n 2 (pc' := 73) (ls' := [.ref (0), .int (nI (sn)), .int (so), .int (nI (f)), .int (nI (n)), .ref (87 + 2 * sn), .int (cm + nI (1)), .int (nI (k) + nI (1))]) (st' := []) (M' := (I1, J, Rx R, N, G)) rfl ?_
        rw [show nI (k) + nI (1) = nI (k + 1) from nI_addE (rfl) rfl]
        refine XP_n 1 (pc' := 33) (ls' := [.ref (0), .int (nI (sn)), .int (so), .int (nI (f)), .int (nI (n)), .ref (87 + 2 * sn), .int (cm + nI (1)), .int (nI (k + 1))]) (st' := []) (M' := (I1, J, Rx R, N, G)) rfl ?_
        exact XP_mono (e3 X d I1 J R N G hcx hlx hCx) (fun v M' ⟨q1, I2, q2, q3, q4, q5, q6⟩ => ⟨q1, I2, q2, q3, q4, q5, hfx.tr q6⟩)
      · refine XP_n 2 (pc' := 39) (ls' := [.ref (99), .int (nI (sn)), .int (so), .int (nI (f)), .int (nI (n)), .int (cm), .int (nI (k)), w7, w8]) (st' := [.int (nI (n)), .int (nI (k))]) (M' := (I, J, Rx R, N, G)) rfl ?_
        refine XP_icN (x := k) (y := n) rfl (by omega) (by omega) (fun (b39 : n ≤ k) => absurd b39 (by omega)) (fun (b39 : k < n) => ?_)
        refine XP_n 6 (pc' := 46) (ls' := [.ref (99), .int (nI (sn)), .int (so), .int (nI (f)), .int (nI (n)), .int (cm), .int (nI (k)), .int ((nI (f)) + ((nI (2)) * (nI (k)))), w8]) (st' := []) (M' := (I, J, Rx R, N, G)) rfl ?_
        rw [show (nI (f)) + ((nI (2)) * (nI (k))) = nI (f + ((2) * (k))) from nI_addE (rfl) (nI_mulE (rfl) (rfl))]
        refine XP_n 1 (pc' := 47) (ls' := [.ref (99), .int (nI (sn)), .int (so), .int (nI (f)), .int (nI (n)), .int (cm), .int (nI (k)), .int (nI (f + ((2) * (k)))), w8]) (st' := [.int (nI (f))]) (M' := (I, J, Rx R, N, G)) rfl ?_
        refine XP_ifN (x := f)  rfl (by omega) (fun (b47 : f < 0) => absurd b47 (by omega)) (fun (b47 : 0 ≤ f) => ?_)
        refine XP_n 2 (pc' := 50) (ls' := [.ref (99), .int (nI (sn)), .int (so), .int (nI (f)), .int (nI (n)), .int (cm), .int (nI (k)), .int (nI (f + ((2) * (k)))), w8]) (st' := [.int (nI (f)), .int (nI (f + ((2) * (k))))]) (M' := (I, J, Rx R, N, G)) rfl ?_
        refine XP_icN (x := f + ((2) * (k))) (y := f) rfl (by omega) (by omega) (fun (b50 : f + ((2) * (k)) < f) => absurd b50 (by omega)) (fun (b50 : f ≤ f + ((2) * (k))) => ?_)
        refine XP_n 4 (pc' := 55) (ls' := [.ref (99), .int (nI (sn)), .int (so), .int (nI (f)), .int (nI (n)), .int (cm), .int (nI (k)), .int (nI (f + ((2) * (k)))), w8]) (st' := [.int (nI (sn)), .ref (121), .int (nI (f + ((2) * (k))))]) (M' := (I, J, Rx R, N, G)) rfl ?_
        refine XP_ialdM hS rfl rfl (show sn < 4 by omega) rfl (by omega) rfl ?_
        rw [(hW.sz1 hsn).1]
        refine XP_n 2 (pc' := 58) (ls' := [.ref (99), .int (nI (sn)), .int (so), .int (nI (f)), .int (nI (n)), .int (cm), .int (nI (k)), .int (nI (f + ((2) * (k)))), w8]) (st' := [.int ((nI (sz s sn)) - (nI (2))), .int (nI (f + ((2) * (k))))]) (M' := (I, J, Rx R, N, G)) rfl ?_
        refine XP_icD rfl (fun (b58 : nI (f + ((2) * (k))) ≤ (nI (sz s sn)) - (nI (2))) => ?_) (fun (b58 : (nI (sz s sn)) - (nI (2)) < nI (f + ((2) * (k)))) => absurd b58 (by first | exact (fun z => (rc_C (by omega) hsz0).mp z hz) | exact fun z => z (fun z => (rc_C (by omega) hsz0).mp z hz) | exact Int32.not_le.mpr (fun z => (rc_C (by omega) hsz0).mp z hz) | exact Int32.not_lt.mpr (Int32.not_lt.mp (fun z => (rc_C (by omega) hsz0).mp z hz)) | omega))
        have n58 := Int32.not_lt.mpr b58
        refine XP_n 6 (pc' := 67) (ls' := [.ref (99), .int (nI (sn)), .int (so), .int (nI (f)), .int (nI (n)), .int (cm), .int (nI (k)), .int (nI (f + ((2) * (k)))), .int (((nI (40)) * (nI (sn))) + (nI (f + ((2) * (k)))))]) (st' := []) (M' := (I, J, Rx R, N, G)) rfl ?_
        rw [show ((nI (40)) * (nI (sn))) + (nI (f + ((2) * (k)))) = nI ((40) * (sn) + (f + ((2) * (k)))) from nI_addE (nI_mulE (rfl) (rfl)) (rfl)]
        refine XP_n 5 (pc' := 72) (ls' := [.ref (99), .int (nI (sn)), .int (so), .int (nI (f)), .int (nI (n)), .int (cm), .int (nI (k)), .int (nI (f + ((2) * (k)))), .int (nI ((40) * (sn) + (f + ((2) * (k)))))]) (st' := [.int (nI ((40) * (sn) + (f + ((2) * (k))))), .ref (122), .ref (99), .int (cm)]) (M' := (I, J, Rx R, N, G)) rfl ?_
        refine XP_ialdM hS rfl rfl (show (40) * (sn) + (f + ((2) * (k))) < 160 by omega) rfl (by omega) rfl ?_
        refine XP_n 5 (pc' := 78) (ls' := [.ref (99), .int (nI (sn)), .int (so), .int (nI (f)), .int (nI (n)), .int (cm), .int (nI (k)), .int (nI (f + ((2) * (k)))), .int (nI ((40) * (sn) + (f + ((2) * (k)))))]) (st' := [.int ((nI ((40) * (sn) + (f + ((2) * (k))))) + (nI (1))), .ref (122), .int (s 122 ((40) * (sn) + (f + ((2) * (k))))), .ref (99), .int (cm)]) (M' := (I, J, Rx R, N, G)) rfl ?_
        rw [show (nI ((40) * (sn) + (f + ((2) * (k))))) + (nI (1)) = nI ((40) * (sn) + (f + ((2) * (k))) + 1) from nI_addE (rfl) (rfl)]
        refine XP_ialdM hS rfl rfl (show (40) * (sn) + (f + ((2) * (k))) + 1 < 160 by omega) rfl (by omega) rfl ?_
        refine XP_call rfl rfl (hm1 X d I J R N G hS) ?_
        rintro v1 M1 ⟨rfl, I1, rfl, hSx, hfx⟩
        refine XP_ifD rfl (fun (b80 : w1 < 0) => absurd b80 (by first | exact hw | exact fun z => z hw | exact Int32.not_le.mpr hw | exact Int32.not_lt.mpr (Int32.not_lt.mp hw) | omega)) (fun (b80 : 0 ≤ w1) => ?_)
        have n80 := Int32.not_lt.mpr b80
        refine XP_n 5 (pc' := 87) (ls' := [.ref (99), .int (nI (sn)), .int (so), .int (nI (f)), .int (nI (n)), .int ((cm) + (nI (1))), .int (nI (k) + nI (1)), .int (nI (f + ((2) * (k)))), .int (nI ((40) * (sn) + (f + ((2) * (k)))))]) (st' := []) (M' := (I1, J, Rx R, N, G)) rfl ?_
        rw [show nI (k) + nI (1) = nI (k + 1) from nI_addE (rfl) rfl]
        refine XP_n 1 (pc' := 37) (ls' := [.ref (99), .int (nI (sn)), .int (so), .int (nI (f)), .int (nI (n)), .int ((cm) + (nI (1))), .int (nI (k + 1)), .int (nI (f + ((2) * (k)))), .int (nI ((40) * (sn) + (f + ((2) * (k)))))]) (st' := []) (M' := (I1, J, Rx R, N, G)) rfl ?_
        exact XP_mono (e4 X d I1 J R N G _ _ hSx) (fun v M' ⟨q1, I2, q2, q3, q4⟩ => ⟨q1, I2, q2, q3, hfx.tr q4⟩)
theorem s_stormsBy {s : Nat → Nat → Int32} (hW : Wf s) (hch : iN 0 1000000 (s 1 15)) (hb : wN (s 1 15) + 20 ≤ 1000000) (sh so at_ n : Int32) : SetOk 20 n_H_stormsBy n_M_stormsBy [.int sh, .int so, .int at_, .int n] s := by
  by_cases g0 : iv 0 3 sh
  rotate_left
  · skip
    refine ⟨cI (-2), s, hW, Up.rf hch, fun X d I J R N G hI => ?_, fun X d I J R N G hS => ?_⟩
    · have hL := hI.2.2.1
      unfold TP
      show XP X _ k_H_stormsBy 0 [.ref (0), .int (sh), .int (so), .int (at_), .int (n), xj, xj, xj] [] _ _
      refine XP_n 2 (pc' := 2) (ls' := [.ref (0), .int (sh), .int (so), .int (at_), .int (n), xj, xj, xj]) (st' := [.int (sh), .ref (0)]) (M' := (I, J, Rx R, N, G)) rfl ?_
      refine XP_pure rfl rfl (c_sheetAtF g0) ?_
      refine XP_n 4 (pc' := 17) (ls' := [.ref (0), .int (sh), .int (so), .int (at_), .int (n), .null, xj, xj]) (st' := [.int (cI (-2))]) (M' := (I, J, Rx R, N, G)) rfl ?_
      exact XP_ret rfl ⟨rfl, _, rfl, hI.1.C, hI.2.2.1, hI.2.2.2.1, FrM.rf⟩
    · unfold TP
      show XP X _ k_M_stormsBy 0 [.ref (99), .int (sh), .int (so), .int (at_), .int (n), xj, xj, xj, xj] [] _ _
      refine XP_n 3 (pc' := 3) (ls' := [.ref (99), .int (sh), .int (so), .int (at_), .int (n), xj, xj, xj, xj]) (st' := [.int (nI (3)), .int (nI (0)), .int (sh)]) (M' := (I, J, Rx R, N, G)) rfl ?_
      refine XP_pure rfl rfl (w_M X _ _ 0 3 _) ?_
      refine XP_s rfl ?_
      refine XP_beq (fun b4 => ?_) (fun b4 => absurd b4 g0)
      refine XP_n 1 (pc' := 16) (ls' := [.ref (99), .int (sh), .int (so), .int (at_), .int (n), xj, xj, xj, xj]) (st' := [.int (cI (-2))]) (M' := (I, J, Rx R, N, G)) rfl ?_
      exact XP_ret rfl ⟨rfl, _, rfl, hS, FrC.rf⟩
  obtain ⟨sn, -, hsn, rfl, -⟩ := iv_nat g0 (by omega) (by omega)
  have hsn : sn < 4 := by omega
  have hsz0 := (hW.sz1 hsn).2
  by_cases g1 : iv 0 2 so
  rotate_left
  · skip
    refine ⟨cI (-2), s, hW, Up.rf hch, fun X d I J R N G hI => ?_, fun X d I J R N G hS => ?_⟩
    · have hL := hI.2.2.1
      unfold TP
      show XP X _ k_H_stormsBy 0 [.ref (0), .int (nI (sn)), .int (so), .int (at_), .int (n), xj, xj, xj] [] _ _
      refine XP_n 2 (pc' := 2) (ls' := [.ref (0), .int (nI (sn)), .int (so), .int (at_), .int (n), xj, xj, xj]) (st' := [.int (nI (sn)), .ref (0)]) (M' := (I, J, Rx R, N, G)) rfl ?_
      refine XP_pure rfl rfl (c_sheetAtT (show sn < 4 by omega)) ?_
      refine XP_n 6 (pc' := 9) (ls' := [.ref (0), .int (nI (sn)), .int (so), .int (at_), .int (n), .ref (87 + 2 * sn), xj, xj]) (st' := [.int (nI (2)), .int (nI (0)), .int (so)]) (M' := (I, J, Rx R, N, G)) rfl ?_
      refine XP_pure rfl rfl (w_H X _ _ 0 2 _) ?_
      refine XP_s rfl ?_
      refine XP_beq (fun b10 => ?_) (fun b10 => absurd b10 g1)
      refine XP_n 1 (pc' := 17) (ls' := [.ref (0), .int (nI (sn)), .int (so), .int (at_), .int (n), .ref (87 + 2 * sn), xj, xj]) (st' := [.int (cI (-2))]) (M' := (I, J, Rx R, N, G)) rfl ?_
      exact XP_ret rfl ⟨rfl, _, rfl, hI.1.C, hI.2.2.1, hI.2.2.2.1, FrM.rf⟩
    · unfold TP
      show XP X _ k_M_stormsBy 0 [.ref (99), .int (nI (sn)), .int (so), .int (at_), .int (n), xj, xj, xj, xj] [] _ _
      refine XP_n 3 (pc' := 3) (ls' := [.ref (99), .int (nI (sn)), .int (so), .int (at_), .int (n), xj, xj, xj, xj]) (st' := [.int (nI (3)), .int (nI (0)), .int (nI (sn))]) (M' := (I, J, Rx R, N, G)) rfl ?_
      refine XP_pure rfl rfl (w_M X _ _ 0 3 _) ?_
      refine XP_s rfl ?_
      refine XP_beq (fun b4 => absurd g0 b4) (fun b4 => ?_)
      refine XP_n 3 (pc' := 8) (ls' := [.ref (99), .int (nI (sn)), .int (so), .int (at_), .int (n), xj, xj, xj, xj]) (st' := [.int (nI (2)), .int (nI (0)), .int (so)]) (M' := (I, J, Rx R, N, G)) rfl ?_
      refine XP_pure rfl rfl (w_M X _ _ 0 2 _) ?_
      refine XP_s rfl ?_
      refine XP_beq (fun b9 => ?_) (fun b9 => absurd b9 g1)
      refine XP_n 1 (pc' := 16) (ls' := [.ref (99), .int (nI (sn)), .int (so), .int (at_), .int (n), xj, xj, xj, xj]) (st' := [.int (cI (-2))]) (M' := (I, J, Rx R, N, G)) rfl ?_
      exact XP_ret rfl ⟨rfl, _, rfl, hS, FrC.rf⟩
  by_cases g2 : iv 0 6 n
  rotate_left
  · skip
    refine ⟨cI (-2), s, hW, Up.rf hch, fun X d I J R N G hI => ?_, fun X d I J R N G hS => ?_⟩
    · have hL := hI.2.2.1
      unfold TP
      show XP X _ k_H_stormsBy 0 [.ref (0), .int (nI (sn)), .int (so), .int (at_), .int (n), xj, xj, xj] [] _ _
      refine XP_n 2 (pc' := 2) (ls' := [.ref (0), .int (nI (sn)), .int (so), .int (at_), .int (n), xj, xj, xj]) (st' := [.int (nI (sn)), .ref (0)]) (M' := (I, J, Rx R, N, G)) rfl ?_
      refine XP_pure rfl rfl (c_sheetAtT (show sn < 4 by omega)) ?_
      refine XP_n 6 (pc' := 9) (ls' := [.ref (0), .int (nI (sn)), .int (so), .int (at_), .int (n), .ref (87 + 2 * sn), xj, xj]) (st' := [.int (nI (2)), .int (nI (0)), .int (so)]) (M' := (I, J, Rx R, N, G)) rfl ?_
      refine XP_pure rfl rfl (w_H X _ _ 0 2 _) ?_
      refine XP_s rfl ?_
      refine XP_beq (fun b10 => absurd g1 b10) (fun b10 => ?_)
      refine XP_n 3 (pc' := 14) (ls' := [.ref (0), .int (nI (sn)), .int (so), .int (at_), .int (n), .ref (87 + 2 * sn), xj, xj]) (st' := [.int (nI (6)), .int (nI (0)), .int (n)]) (M' := (I, J, Rx R, N, G)) rfl ?_
      refine XP_pure rfl rfl (w_H X _ _ 0 6 _) ?_
      refine XP_s rfl ?_
      refine XP_bne (fun b15 => absurd b15 g2) (fun b15 => ?_)
      refine XP_n 1 (pc' := 17) (ls' := [.ref (0), .int (nI (sn)), .int (so), .int (at_), .int (n), .ref (87 + 2 * sn), xj, xj]) (st' := [.int (cI (-2))]) (M' := (I, J, Rx R, N, G)) rfl ?_
      exact XP_ret rfl ⟨rfl, _, rfl, hI.1.C, hI.2.2.1, hI.2.2.2.1, FrM.rf⟩
    · unfold TP
      show XP X _ k_M_stormsBy 0 [.ref (99), .int (nI (sn)), .int (so), .int (at_), .int (n), xj, xj, xj, xj] [] _ _
      refine XP_n 3 (pc' := 3) (ls' := [.ref (99), .int (nI (sn)), .int (so), .int (at_), .int (n), xj, xj, xj, xj]) (st' := [.int (nI (3)), .int (nI (0)), .int (nI (sn))]) (M' := (I, J, Rx R, N, G)) rfl ?_
      refine XP_pure rfl rfl (w_M X _ _ 0 3 _) ?_
      refine XP_s rfl ?_
      refine XP_beq (fun b4 => absurd g0 b4) (fun b4 => ?_)
      refine XP_n 3 (pc' := 8) (ls' := [.ref (99), .int (nI (sn)), .int (so), .int (at_), .int (n), xj, xj, xj, xj]) (st' := [.int (nI (2)), .int (nI (0)), .int (so)]) (M' := (I, J, Rx R, N, G)) rfl ?_
      refine XP_pure rfl rfl (w_M X _ _ 0 2 _) ?_
      refine XP_s rfl ?_
      refine XP_beq (fun b9 => absurd g1 b9) (fun b9 => ?_)
      refine XP_n 3 (pc' := 13) (ls' := [.ref (99), .int (nI (sn)), .int (so), .int (at_), .int (n), xj, xj, xj, xj]) (st' := [.int (nI (6)), .int (nI (0)), .int (n)]) (M' := (I, J, Rx R, N, G)) rfl ?_
      refine XP_pure rfl rfl (w_M X _ _ 0 6 _) ?_
      refine XP_s rfl ?_
      refine XP_bne (fun b14 => absurd b14 g2) (fun b14 => ?_)
      refine XP_n 1 (pc' := 16) (ls' := [.ref (99), .int (nI (sn)), .int (so), .int (at_), .int (n), xj, xj, xj, xj]) (st' := [.int (cI (-2))]) (M' := (I, J, Rx R, N, G)) rfl ?_
      exact XP_ret rfl ⟨rfl, _, rfl, hS, FrC.rf⟩
  by_cases g3 : ¬ s 120 sn = cI (-1)
  rotate_left
  · skip
    refine ⟨cI (-11), s, hW, Up.rf hch, fun X d I J R N G hI => ?_, fun X d I J R N G hS => ?_⟩
    · have hL := hI.2.2.1
      unfold TP
      show XP X _ k_H_stormsBy 0 [.ref (0), .int (nI (sn)), .int (so), .int (at_), .int (n), xj, xj, xj] [] _ _
      refine XP_n 2 (pc' := 2) (ls' := [.ref (0), .int (nI (sn)), .int (so), .int (at_), .int (n), xj, xj, xj]) (st' := [.int (nI (sn)), .ref (0)]) (M' := (I, J, Rx R, N, G)) rfl ?_
      refine XP_pure rfl rfl (c_sheetAtT (show sn < 4 by omega)) ?_
      refine XP_n 6 (pc' := 9) (ls' := [.ref (0), .int (nI (sn)), .int (so), .int (at_), .int (n), .ref (87 + 2 * sn), xj, xj]) (st' := [.int (nI (2)), .int (nI (0)), .int (so)]) (M' := (I, J, Rx R, N, G)) rfl ?_
      refine XP_pure rfl rfl (w_H X _ _ 0 2 _) ?_
      refine XP_s rfl ?_
      refine XP_beq (fun b10 => absurd g1 b10) (fun b10 => ?_)
      refine XP_n 3 (pc' := 14) (ls' := [.ref (0), .int (nI (sn)), .int (so), .int (at_), .int (n), .ref (87 + 2 * sn), xj, xj]) (st' := [.int (nI (6)), .int (nI (0)), .int (n)]) (M' := (I, J, Rx R, N, G)) rfl ?_
      refine XP_pure rfl rfl (w_H X _ _ 0 6 _) ?_
      refine XP_s rfl ?_
      refine XP_bne (fun b15 => ?_) (fun b15 => absurd g2 b15)
      refine XP_n 1 (pc' := 19) (ls' := [.ref (0), .int (nI (sn)), .int (so), .int (at_), .int (n), .ref (87 + 2 * sn), xj, xj]) (st' := [.ref (87 + 2 * sn)]) (M' := (I, J, Rx R, N, G)) rfl ?_
      refine XP_pure rfl (by show (isO (87 + 2 * sn) 8 || false) = true; rw [sh_o hsn]; rfl) (c_missT hI.1 hsn (Classical.not_not.mp g3)) ?_
      refine XP_ifN (x := 1)  rfl (by omega) (fun (b20 : 1 = 0) => absurd b20 (by omega)) (fun (b20 : ¬ 1 = 0) => ?_)
      refine XP_n 1 (pc' := 22) (ls' := [.ref (0), .int (nI (sn)), .int (so), .int (at_), .int (n), .ref (87 + 2 * sn), xj, xj]) (st' := [.int (cI (-11))]) (M' := (I, J, Rx R, N, G)) rfl ?_
      exact XP_ret rfl ⟨rfl, _, rfl, hI.1.C, hI.2.2.1, hI.2.2.2.1, FrM.rf⟩
    · unfold TP
      show XP X _ k_M_stormsBy 0 [.ref (99), .int (nI (sn)), .int (so), .int (at_), .int (n), xj, xj, xj, xj] [] _ _
      refine XP_n 3 (pc' := 3) (ls' := [.ref (99), .int (nI (sn)), .int (so), .int (at_), .int (n), xj, xj, xj, xj]) (st' := [.int (nI (3)), .int (nI (0)), .int (nI (sn))]) (M' := (I, J, Rx R, N, G)) rfl ?_
      refine XP_pure rfl rfl (w_M X _ _ 0 3 _) ?_
      refine XP_s rfl ?_
      refine XP_beq (fun b4 => absurd g0 b4) (fun b4 => ?_)
      refine XP_n 3 (pc' := 8) (ls' := [.ref (99), .int (nI (sn)), .int (so), .int (at_), .int (n), xj, xj, xj, xj]) (st' := [.int (nI (2)), .int (nI (0)), .int (so)]) (M' := (I, J, Rx R, N, G)) rfl ?_
      refine XP_pure rfl rfl (w_M X _ _ 0 2 _) ?_
      refine XP_s rfl ?_
      refine XP_beq (fun b9 => absurd g1 b9) (fun b9 => ?_)
      refine XP_n 3 (pc' := 13) (ls' := [.ref (99), .int (nI (sn)), .int (so), .int (at_), .int (n), xj, xj, xj, xj]) (st' := [.int (nI (6)), .int (nI (0)), .int (n)]) (M' := (I, J, Rx R, N, G)) rfl ?_
      refine XP_pure rfl rfl (w_M X _ _ 0 6 _) ?_
      refine XP_s rfl ?_
      refine XP_bne (fun b14 => ?_) (fun b14 => absurd g2 b14)
      refine XP_n 3 (pc' := 20) (ls' := [.ref (99), .int (nI (sn)), .int (so), .int (at_), .int (n), xj, xj, xj, xj]) (st' := [.int (nI (sn)), .ref (120)]) (M' := (I, J, Rx R, N, G)) rfl ?_
      refine XP_ialdM hS rfl rfl (show sn < 4 by omega) rfl (by omega) rfl ?_
      refine XP_n 1 (pc' := 22) (ls' := [.ref (99), .int (nI (sn)), .int (so), .int (at_), .int (n), xj, xj, xj, xj]) (st' := [.int (cI (-1)), .int (s 120 sn)]) (M' := (I, J, Rx R, N, G)) rfl ?_
      refine XP_icD rfl (fun (b22 : ¬ s 120 sn = cI (-1)) => absurd b22 (by first | exact (Classical.not_not.mp g3) | exact fun z => z (Classical.not_not.mp g3) | exact Int32.not_le.mpr (Classical.not_not.mp g3) | exact Int32.not_lt.mpr (Int32.not_lt.mp (Classical.not_not.mp g3)) | omega)) (fun (b22 : s 120 sn = cI (-1)) => ?_)
      refine XP_n 1 (pc' := 24) (ls' := [.ref (99), .int (nI (sn)), .int (so), .int (at_), .int (n), xj, xj, xj, xj]) (st' := [.int (cI (-11))]) (M' := (I, J, Rx R, N, G)) rfl ?_
      exact XP_ret rfl ⟨rfl, _, rfl, hS, FrC.rf⟩
  by_cases g4 : s 120 sn = so
  rotate_left
  · skip
    refine ⟨cI (-13), s, hW, Up.rf hch, fun X d I J R N G hI => ?_, fun X d I J R N G hS => ?_⟩
    · have hL := hI.2.2.1
      unfold TP
      show XP X _ k_H_stormsBy 0 [.ref (0), .int (nI (sn)), .int (so), .int (at_), .int (n), xj, xj, xj] [] _ _
      refine XP_n 2 (pc' := 2) (ls' := [.ref (0), .int (nI (sn)), .int (so), .int (at_), .int (n), xj, xj, xj]) (st' := [.int (nI (sn)), .ref (0)]) (M' := (I, J, Rx R, N, G)) rfl ?_
      refine XP_pure rfl rfl (c_sheetAtT (show sn < 4 by omega)) ?_
      refine XP_n 6 (pc' := 9) (ls' := [.ref (0), .int (nI (sn)), .int (so), .int (at_), .int (n), .ref (87 + 2 * sn), xj, xj]) (st' := [.int (nI (2)), .int (nI (0)), .int (so)]) (M' := (I, J, Rx R, N, G)) rfl ?_
      refine XP_pure rfl rfl (w_H X _ _ 0 2 _) ?_
      refine XP_s rfl ?_
      refine XP_beq (fun b10 => absurd g1 b10) (fun b10 => ?_)
      refine XP_n 3 (pc' := 14) (ls' := [.ref (0), .int (nI (sn)), .int (so), .int (at_), .int (n), .ref (87 + 2 * sn), xj, xj]) (st' := [.int (nI (6)), .int (nI (0)), .int (n)]) (M' := (I, J, Rx R, N, G)) rfl ?_
      refine XP_pure rfl rfl (w_H X _ _ 0 6 _) ?_
      refine XP_s rfl ?_
      refine XP_bne (fun b15 => ?_) (fun b15 => absurd g2 b15)
      refine XP_n 1 (pc' := 19) (ls' := [.ref (0), .int (nI (sn)), .int (so), .int (at_), .int (n), .ref (87 + 2 * sn), xj, xj]) (st' := [.ref (87 + 2 * sn)]) (M' := (I, J, Rx R, N, G)) rfl ?_
      refine XP_pure rfl (by show (isO (87 + 2 * sn) 8 || false) = true; rw [sh_o hsn]; rfl) (c_missF hI.1 hsn g3) ?_
      refine XP_ifN (x := 0)  rfl (by omega) (fun (b20 : 0 = 0) => ?_) (fun (b20 : ¬ 0 = 0) => absurd b20 (by omega))
      refine XP_n 1 (pc' := 24) (ls' := [.ref (0), .int (nI (sn)), .int (so), .int (at_), .int (n), .ref (87 + 2 * sn), xj, xj]) (st' := [.ref (87 + 2 * sn)]) (M' := (I, J, Rx R, N, G)) rfl ?_
      refine XP_getw rfl (by rw [sh_o (show sn < 4 by omega)]; rfl) ?_
      show XP X _ k_H_stormsBy 25 [.ref (0), .int (nI (sn)), .int (so), .int (at_), .int (n), .ref (87 + 2 * sn), xj, xj] [.int (I (87 + 2 * sn) 0)] _ _
      rw [show I (87 + 2 * sn) 0 = s 120 sn from hI.1 _ _ _ _ (sh_m0 (show sn < 4 by omega))]
      refine XP_n 1 (pc' := 26) (ls' := [.ref (0), .int (nI (sn)), .int (so), .int (at_), .int (n), .ref (87 + 2 * sn), xj, xj]) (st' := [.int (so), .int (s 120 sn)]) (M' := (I, J, Rx R, N, G)) rfl ?_
      refine XP_icD rfl (fun (b26 : s 120 sn = so) => absurd b26 (by first | exact g4 | exact fun z => z g4 | exact Int32.not_le.mpr g4 | exact Int32.not_lt.mpr (Int32.not_lt.mp g4) | omega)) (fun (b26 : ¬ s 120 sn = so) => ?_)
      refine XP_n 1 (pc' := 28) (ls' := [.ref (0), .int (nI (sn)), .int (so), .int (at_), .int (n), .ref (87 + 2 * sn), xj, xj]) (st' := [.int (cI (-13))]) (M' := (I, J, Rx R, N, G)) rfl ?_
      exact XP_ret rfl ⟨rfl, _, rfl, hI.1.C, hI.2.2.1, hI.2.2.2.1, FrM.rf⟩
    · unfold TP
      show XP X _ k_M_stormsBy 0 [.ref (99), .int (nI (sn)), .int (so), .int (at_), .int (n), xj, xj, xj, xj] [] _ _
      refine XP_n 3 (pc' := 3) (ls' := [.ref (99), .int (nI (sn)), .int (so), .int (at_), .int (n), xj, xj, xj, xj]) (st' := [.int (nI (3)), .int (nI (0)), .int (nI (sn))]) (M' := (I, J, Rx R, N, G)) rfl ?_
      refine XP_pure rfl rfl (w_M X _ _ 0 3 _) ?_
      refine XP_s rfl ?_
      refine XP_beq (fun b4 => absurd g0 b4) (fun b4 => ?_)
      refine XP_n 3 (pc' := 8) (ls' := [.ref (99), .int (nI (sn)), .int (so), .int (at_), .int (n), xj, xj, xj, xj]) (st' := [.int (nI (2)), .int (nI (0)), .int (so)]) (M' := (I, J, Rx R, N, G)) rfl ?_
      refine XP_pure rfl rfl (w_M X _ _ 0 2 _) ?_
      refine XP_s rfl ?_
      refine XP_beq (fun b9 => absurd g1 b9) (fun b9 => ?_)
      refine XP_n 3 (pc' := 13) (ls' := [.ref (99), .int (nI (sn)), .int (so), .int (at_), .int (n), xj, xj, xj, xj]) (st' := [.int (nI (6)), .int (nI (0)), .int (n)]) (M' := (I, J, Rx R, N, G)) rfl ?_
      refine XP_pure rfl rfl (w_M X _ _ 0 6 _) ?_
      refine XP_s rfl ?_
      refine XP_bne (fun b14 => ?_) (fun b14 => absurd g2 b14)
      refine XP_n 3 (pc' := 20) (ls' := [.ref (99), .int (nI (sn)), .int (so), .int (at_), .int (n), xj, xj, xj, xj]) (st' := [.int (nI (sn)), .ref (120)]) (M' := (I, J, Rx R, N, G)) rfl ?_
      refine XP_ialdM hS rfl rfl (show sn < 4 by omega) rfl (by omega) rfl ?_
      refine XP_n 1 (pc' := 22) (ls' := [.ref (99), .int (nI (sn)), .int (so), .int (at_), .int (n), xj, xj, xj, xj]) (st' := [.int (cI (-1)), .int (s 120 sn)]) (M' := (I, J, Rx R, N, G)) rfl ?_
      refine XP_icD rfl (fun (b22 : ¬ s 120 sn = cI (-1)) => ?_) (fun (b22 : s 120 sn = cI (-1)) => absurd b22 (by first | exact g3 | exact fun z => z g3 | exact Int32.not_le.mpr g3 | exact Int32.not_lt.mpr (Int32.not_lt.mp g3) | omega))
      refine XP_n 3 (pc' := 28) (ls' := [.ref (99), .int (nI (sn)), .int (so), .int (at_), .int (n), xj, xj, xj, xj]) (st' := [.int (nI (sn)), .ref (120)]) (M' := (I, J, Rx R, N, G)) rfl ?_
      refine XP_ialdM hS rfl rfl (show sn < 4 by omega) rfl (by omega) rfl ?_
      refine XP_n 1 (pc' := 30) (ls' := [.ref (99), .int (nI (sn)), .int (so), .int (at_), .int (n), xj, xj, xj, xj]) (st' := [.int (so), .int (s 120 sn)]) (M' := (I, J, Rx R, N, G)) rfl ?_
      refine XP_icD rfl (fun (b30 : s 120 sn = so) => absurd b30 (by first | exact g4 | exact fun z => z g4 | exact Int32.not_le.mpr g4 | exact Int32.not_lt.mpr (Int32.not_lt.mp g4) | omega)) (fun (b30 : ¬ s 120 sn = so) => ?_)
      refine XP_n 1 (pc' := 32) (ls' := [.ref (99), .int (nI (sn)), .int (so), .int (at_), .int (n), xj, xj, xj, xj]) (st' := [.int (cI (-13))]) (M' := (I, J, Rx R, N, G)) rfl ?_
      exact XP_ret rfl ⟨rfl, _, rfl, hS, FrC.rf⟩
  obtain ⟨n, -, hn, rfl, -⟩ := iv_nat g2 (by omega) (by omega)
  by_cases g5 : n = 0
  · subst g5
    refine ⟨nI 0, s, hW, Up.rf hch, fun X d I J R N G hI => ?_, fun X d I J R N G hS => ?_⟩
    · have hL := hI.2.2.1
      unfold TP
      show XP X _ k_H_stormsBy 0 [.ref (0), .int (nI (sn)), .int (so), .int (at_), .int (nI (0)), xj, xj, xj] [] _ _
      refine XP_n 2 (pc' := 2) (ls' := [.ref (0), .int (nI (sn)), .int (so), .int (at_), .int (nI (0)), xj, xj, xj]) (st' := [.int (nI (sn)), .ref (0)]) (M' := (I, J, Rx R, N, G)) rfl ?_
      refine XP_pure rfl rfl (c_sheetAtT (show sn < 4 by omega)) ?_
      refine XP_n 6 (pc' := 9) (ls' := [.ref (0), .int (nI (sn)), .int (so), .int (at_), .int (nI (0)), .ref (87 + 2 * sn), xj, xj]) (st' := [.int (nI (2)), .int (nI (0)), .int (so)]) (M' := (I, J, Rx R, N, G)) rfl ?_
      refine XP_pure rfl rfl (w_H X _ _ 0 2 _) ?_
      refine XP_s rfl ?_
      refine XP_beq (fun b10 => absurd g1 b10) (fun b10 => ?_)
      refine XP_n 3 (pc' := 14) (ls' := [.ref (0), .int (nI (sn)), .int (so), .int (at_), .int (nI (0)), .ref (87 + 2 * sn), xj, xj]) (st' := [.int (nI (6)), .int (nI (0)), .int (nI (0))]) (M' := (I, J, Rx R, N, G)) rfl ?_
      refine XP_pure rfl rfl (w_H X _ _ 0 6 _) ?_
      refine XP_s rfl ?_
      refine XP_bne (fun b15 => ?_) (fun b15 => absurd g2 b15)
      refine XP_n 1 (pc' := 19) (ls' := [.ref (0), .int (nI (sn)), .int (so), .int (at_), .int (nI (0)), .ref (87 + 2 * sn), xj, xj]) (st' := [.ref (87 + 2 * sn)]) (M' := (I, J, Rx R, N, G)) rfl ?_
      refine XP_pure rfl (by show (isO (87 + 2 * sn) 8 || false) = true; rw [sh_o hsn]; rfl) (c_missF hI.1 hsn g3) ?_
      refine XP_ifN (x := 0)  rfl (by omega) (fun (b20 : 0 = 0) => ?_) (fun (b20 : ¬ 0 = 0) => absurd b20 (by omega))
      refine XP_n 1 (pc' := 24) (ls' := [.ref (0), .int (nI (sn)), .int (so), .int (at_), .int (nI (0)), .ref (87 + 2 * sn), xj, xj]) (st' := [.ref (87 + 2 * sn)]) (M' := (I, J, Rx R, N, G)) rfl ?_
      refine XP_getw rfl (by rw [sh_o (show sn < 4 by omega)]; rfl) ?_
      show XP X _ k_H_stormsBy 25 [.ref (0), .int (nI (sn)), .int (so), .int (at_), .int (nI (0)), .ref (87 + 2 * sn), xj, xj] [.int (I (87 + 2 * sn) 0)] _ _
      rw [show I (87 + 2 * sn) 0 = s 120 sn from hI.1 _ _ _ _ (sh_m0 (show sn < 4 by omega))]
      refine XP_n 1 (pc' := 26) (ls' := [.ref (0), .int (nI (sn)), .int (so), .int (at_), .int (nI (0)), .ref (87 + 2 * sn), xj, xj]) (st' := [.int (so), .int (s 120 sn)]) (M' := (I, J, Rx R, N, G)) rfl ?_
      refine XP_icD rfl (fun (b26 : s 120 sn = so) => ?_) (fun (b26 : ¬ s 120 sn = so) => absurd b26 (by first | exact g4 | exact fun z => z g4 | exact Int32.not_le.mpr g4 | exact Int32.not_lt.mpr (Int32.not_lt.mp g4) | omega))
      refine XP_n 6 (pc' := 35) (ls' := [.ref (0), .int (nI (sn)), .int (so), .int (at_), .int (nI (0)), .ref (87 + 2 * sn), .int (nI (0)), .int (nI (0))]) (st' := [.int (nI (0)), .int (nI (0))]) (M' := (I, J, Rx R, N, G)) rfl ?_
      refine XP_icN (x := 0) (y := 0) rfl (by omega) (by omega) (fun (b35 : 0 ≤ 0) => ?_) (fun (b35 : 0 < 0) => absurd b35 (by omega))
      refine XP_n 1 (pc' := 75) (ls' := [.ref (0), .int (nI (sn)), .int (so), .int (at_), .int (nI (0)), .ref (87 + 2 * sn), .int (nI (0)), .int (nI (0))]) (st' := [.int (nI (0))]) (M' := (I, J, Rx R, N, G)) rfl ?_
      exact XP_ret rfl ⟨rfl, _, rfl, hI.1.C, hI.2.2.1, hI.2.2.2.1, FrM.rf⟩
    · unfold TP
      show XP X _ k_M_stormsBy 0 [.ref (99), .int (nI (sn)), .int (so), .int (at_), .int (nI (0)), xj, xj, xj, xj] [] _ _
      refine XP_n 3 (pc' := 3) (ls' := [.ref (99), .int (nI (sn)), .int (so), .int (at_), .int (nI (0)), xj, xj, xj, xj]) (st' := [.int (nI (3)), .int (nI (0)), .int (nI (sn))]) (M' := (I, J, Rx R, N, G)) rfl ?_
      refine XP_pure rfl rfl (w_M X _ _ 0 3 _) ?_
      refine XP_s rfl ?_
      refine XP_beq (fun b4 => absurd g0 b4) (fun b4 => ?_)
      refine XP_n 3 (pc' := 8) (ls' := [.ref (99), .int (nI (sn)), .int (so), .int (at_), .int (nI (0)), xj, xj, xj, xj]) (st' := [.int (nI (2)), .int (nI (0)), .int (so)]) (M' := (I, J, Rx R, N, G)) rfl ?_
      refine XP_pure rfl rfl (w_M X _ _ 0 2 _) ?_
      refine XP_s rfl ?_
      refine XP_beq (fun b9 => absurd g1 b9) (fun b9 => ?_)
      refine XP_n 3 (pc' := 13) (ls' := [.ref (99), .int (nI (sn)), .int (so), .int (at_), .int (nI (0)), xj, xj, xj, xj]) (st' := [.int (nI (6)), .int (nI (0)), .int (nI (0))]) (M' := (I, J, Rx R, N, G)) rfl ?_
      refine XP_pure rfl rfl (w_M X _ _ 0 6 _) ?_
      refine XP_s rfl ?_
      refine XP_bne (fun b14 => ?_) (fun b14 => absurd g2 b14)
      refine XP_n 3 (pc' := 20) (ls' := [.ref (99), .int (nI (sn)), .int (so), .int (at_), .int (nI (0)), xj, xj, xj, xj]) (st' := [.int (nI (sn)), .ref (120)]) (M' := (I, J, Rx R, N, G)) rfl ?_
      refine XP_ialdM hS rfl rfl (show sn < 4 by omega) rfl (by omega) rfl ?_
      refine XP_n 1 (pc' := 22) (ls' := [.ref (99), .int (nI (sn)), .int (so), .int (at_), .int (nI (0)), xj, xj, xj, xj]) (st' := [.int (cI (-1)), .int (s 120 sn)]) (M' := (I, J, Rx R, N, G)) rfl ?_
      refine XP_icD rfl (fun (b22 : ¬ s 120 sn = cI (-1)) => ?_) (fun (b22 : s 120 sn = cI (-1)) => absurd b22 (by first | exact g3 | exact fun z => z g3 | exact Int32.not_le.mpr g3 | exact Int32.not_lt.mpr (Int32.not_lt.mp g3) | omega))
      refine XP_n 3 (pc' := 28) (ls' := [.ref (99), .int (nI (sn)), .int (so), .int (at_), .int (nI (0)), xj, xj, xj, xj]) (st' := [.int (nI (sn)), .ref (120)]) (M' := (I, J, Rx R, N, G)) rfl ?_
      refine XP_ialdM hS rfl rfl (show sn < 4 by omega) rfl (by omega) rfl ?_
      refine XP_n 1 (pc' := 30) (ls' := [.ref (99), .int (nI (sn)), .int (so), .int (at_), .int (nI (0)), xj, xj, xj, xj]) (st' := [.int (so), .int (s 120 sn)]) (M' := (I, J, Rx R, N, G)) rfl ?_
      refine XP_icD rfl (fun (b30 : s 120 sn = so) => ?_) (fun (b30 : ¬ s 120 sn = so) => absurd b30 (by first | exact g4 | exact fun z => z g4 | exact Int32.not_le.mpr g4 | exact Int32.not_lt.mpr (Int32.not_lt.mp g4) | omega))
      refine XP_n 6 (pc' := 39) (ls' := [.ref (99), .int (nI (sn)), .int (so), .int (at_), .int (nI (0)), .int (nI (0)), .int (nI (0)), xj, xj]) (st' := [.int (nI (0)), .int (nI (0))]) (M' := (I, J, Rx R, N, G)) rfl ?_
      refine XP_icN (x := 0) (y := 0) rfl (by omega) (by omega) (fun (b39 : 0 ≤ 0) => ?_) (fun (b39 : 0 < 0) => absurd b39 (by omega))
      refine XP_n 1 (pc' := 89) (ls' := [.ref (99), .int (nI (sn)), .int (so), .int (at_), .int (nI (0)), .int (nI (0)), .int (nI (0)), xj, xj]) (st' := [.int (nI (0))]) (M' := (I, J, Rx R, N, G)) rfl ?_
      exact XP_ret rfl ⟨rfl, _, rfl, hS, FrC.rf⟩
  by_cases g6 : iv 0 40 at_
  rotate_left
  · have g7 : at_ < 0 ∨ ∃ f, 40 < f ∧ f < 2147483648 ∧ at_ = nI f := by
      by_cases e : at_ < 0
      · exact Or.inl e
      · obtain ⟨f, hf, rfl⟩ := nn_nat e
        refine Or.inr ⟨f, ?_, hf, rfl⟩
        refine Nat.lt_of_not_le (fun z => g6 ⟨(nI_leI (by omega) (by omega)).mpr (Nat.zero_le _), (nI_leI (by omega) (by omega)).mpr z⟩)
    rcases g7 with g7 | ⟨f, hf, hf2, rfl⟩
    · skip
      refine ⟨cI (-12), s, hW, Up.rf hch, fun X d I J R N G hI => ?_, fun X d I J R N G hS => ?_⟩
      · have hL := hI.2.2.1
        unfold TP
        show XP X _ k_H_stormsBy 0 [.ref (0), .int (nI (sn)), .int (so), .int (at_), .int (nI (n)), xj, xj, xj] [] _ _
        refine XP_n 2 (pc' := 2) (ls' := [.ref (0), .int (nI (sn)), .int (so), .int (at_), .int (nI (n)), xj, xj, xj]) (st' := [.int (nI (sn)), .ref (0)]) (M' := (I, J, Rx R, N, G)) rfl ?_
        refine XP_pure rfl rfl (c_sheetAtT (show sn < 4 by omega)) ?_
        refine XP_n 6 (pc' := 9) (ls' := [.ref (0), .int (nI (sn)), .int (so), .int (at_), .int (nI (n)), .ref (87 + 2 * sn), xj, xj]) (st' := [.int (nI (2)), .int (nI (0)), .int (so)]) (M' := (I, J, Rx R, N, G)) rfl ?_
        refine XP_pure rfl rfl (w_H X _ _ 0 2 _) ?_
        refine XP_s rfl ?_
        refine XP_beq (fun b10 => absurd g1 b10) (fun b10 => ?_)
        refine XP_n 3 (pc' := 14) (ls' := [.ref (0), .int (nI (sn)), .int (so), .int (at_), .int (nI (n)), .ref (87 + 2 * sn), xj, xj]) (st' := [.int (nI (6)), .int (nI (0)), .int (nI (n))]) (M' := (I, J, Rx R, N, G)) rfl ?_
        refine XP_pure rfl rfl (w_H X _ _ 0 6 _) ?_
        refine XP_s rfl ?_
        refine XP_bne (fun b15 => ?_) (fun b15 => absurd g2 b15)
        refine XP_n 1 (pc' := 19) (ls' := [.ref (0), .int (nI (sn)), .int (so), .int (at_), .int (nI (n)), .ref (87 + 2 * sn), xj, xj]) (st' := [.ref (87 + 2 * sn)]) (M' := (I, J, Rx R, N, G)) rfl ?_
        refine XP_pure rfl (by show (isO (87 + 2 * sn) 8 || false) = true; rw [sh_o hsn]; rfl) (c_missF hI.1 hsn g3) ?_
        refine XP_ifN (x := 0)  rfl (by omega) (fun (b20 : 0 = 0) => ?_) (fun (b20 : ¬ 0 = 0) => absurd b20 (by omega))
        refine XP_n 1 (pc' := 24) (ls' := [.ref (0), .int (nI (sn)), .int (so), .int (at_), .int (nI (n)), .ref (87 + 2 * sn), xj, xj]) (st' := [.ref (87 + 2 * sn)]) (M' := (I, J, Rx R, N, G)) rfl ?_
        refine XP_getw rfl (by rw [sh_o (show sn < 4 by omega)]; rfl) ?_
        show XP X _ k_H_stormsBy 25 [.ref (0), .int (nI (sn)), .int (so), .int (at_), .int (nI (n)), .ref (87 + 2 * sn), xj, xj] [.int (I (87 + 2 * sn) 0)] _ _
        rw [show I (87 + 2 * sn) 0 = s 120 sn from hI.1 _ _ _ _ (sh_m0 (show sn < 4 by omega))]
        refine XP_n 1 (pc' := 26) (ls' := [.ref (0), .int (nI (sn)), .int (so), .int (at_), .int (nI (n)), .ref (87 + 2 * sn), xj, xj]) (st' := [.int (so), .int (s 120 sn)]) (M' := (I, J, Rx R, N, G)) rfl ?_
        refine XP_icD rfl (fun (b26 : s 120 sn = so) => ?_) (fun (b26 : ¬ s 120 sn = so) => absurd b26 (by first | exact g4 | exact fun z => z g4 | exact Int32.not_le.mpr g4 | exact Int32.not_lt.mpr (Int32.not_lt.mp g4) | omega))
        refine XP_n 6 (pc' := 35) (ls' := [.ref (0), .int (nI (sn)), .int (so), .int (at_), .int (nI (n)), .ref (87 + 2 * sn), .int (nI (0)), .int (nI (0))]) (st' := [.int (nI (n)), .int (nI (0))]) (M' := (I, J, Rx R, N, G)) rfl ?_
        refine XP_icN (x := 0) (y := n) rfl (by omega) (by omega) (fun (b35 : n ≤ 0) => absurd b35 (by omega)) (fun (b35 : 0 < n) => ?_)
        refine XP_n 3 (pc' := 39) (ls' := [.ref (0), .int (nI (sn)), .int (so), .int (at_), .int (nI (n)), .ref (87 + 2 * sn), .int (nI (0)), .int (nI (0))]) (st' := [.int (nI (40)), .int (nI (0)), .int (at_)]) (M' := (I, J, Rx R, N, G)) rfl ?_
        refine XP_pure rfl rfl (w_H X _ _ 0 40 _) ?_
        refine XP_s rfl ?_
        refine XP_beq (fun b40 => ?_) (fun b40 => absurd b40 g6)
        refine XP_n 1 (pc' := 51) (ls' := [.ref (0), .int (nI (sn)), .int (so), .int (at_), .int (nI (n)), .ref (87 + 2 * sn), .int (nI (0)), .int (nI (0))]) (st' := [.int (cI (-12))]) (M' := (I, J, Rx R, N, G)) rfl ?_
        exact XP_ret rfl ⟨rfl, _, rfl, hI.1.C, hI.2.2.1, hI.2.2.2.1, FrM.rf⟩
      · unfold TP
        show XP X _ k_M_stormsBy 0 [.ref (99), .int (nI (sn)), .int (so), .int (at_), .int (nI (n)), xj, xj, xj, xj] [] _ _
        refine XP_n 3 (pc' := 3) (ls' := [.ref (99), .int (nI (sn)), .int (so), .int (at_), .int (nI (n)), xj, xj, xj, xj]) (st' := [.int (nI (3)), .int (nI (0)), .int (nI (sn))]) (M' := (I, J, Rx R, N, G)) rfl ?_
        refine XP_pure rfl rfl (w_M X _ _ 0 3 _) ?_
        refine XP_s rfl ?_
        refine XP_beq (fun b4 => absurd g0 b4) (fun b4 => ?_)
        refine XP_n 3 (pc' := 8) (ls' := [.ref (99), .int (nI (sn)), .int (so), .int (at_), .int (nI (n)), xj, xj, xj, xj]) (st' := [.int (nI (2)), .int (nI (0)), .int (so)]) (M' := (I, J, Rx R, N, G)) rfl ?_
        refine XP_pure rfl rfl (w_M X _ _ 0 2 _) ?_
        refine XP_s rfl ?_
        refine XP_beq (fun b9 => absurd g1 b9) (fun b9 => ?_)
        refine XP_n 3 (pc' := 13) (ls' := [.ref (99), .int (nI (sn)), .int (so), .int (at_), .int (nI (n)), xj, xj, xj, xj]) (st' := [.int (nI (6)), .int (nI (0)), .int (nI (n))]) (M' := (I, J, Rx R, N, G)) rfl ?_
        refine XP_pure rfl rfl (w_M X _ _ 0 6 _) ?_
        refine XP_s rfl ?_
        refine XP_bne (fun b14 => ?_) (fun b14 => absurd g2 b14)
        refine XP_n 3 (pc' := 20) (ls' := [.ref (99), .int (nI (sn)), .int (so), .int (at_), .int (nI (n)), xj, xj, xj, xj]) (st' := [.int (nI (sn)), .ref (120)]) (M' := (I, J, Rx R, N, G)) rfl ?_
        refine XP_ialdM hS rfl rfl (show sn < 4 by omega) rfl (by omega) rfl ?_
        refine XP_n 1 (pc' := 22) (ls' := [.ref (99), .int (nI (sn)), .int (so), .int (at_), .int (nI (n)), xj, xj, xj, xj]) (st' := [.int (cI (-1)), .int (s 120 sn)]) (M' := (I, J, Rx R, N, G)) rfl ?_
        refine XP_icD rfl (fun (b22 : ¬ s 120 sn = cI (-1)) => ?_) (fun (b22 : s 120 sn = cI (-1)) => absurd b22 (by first | exact g3 | exact fun z => z g3 | exact Int32.not_le.mpr g3 | exact Int32.not_lt.mpr (Int32.not_lt.mp g3) | omega))
        refine XP_n 3 (pc' := 28) (ls' := [.ref (99), .int (nI (sn)), .int (so), .int (at_), .int (nI (n)), xj, xj, xj, xj]) (st' := [.int (nI (sn)), .ref (120)]) (M' := (I, J, Rx R, N, G)) rfl ?_
        refine XP_ialdM hS rfl rfl (show sn < 4 by omega) rfl (by omega) rfl ?_
        refine XP_n 1 (pc' := 30) (ls' := [.ref (99), .int (nI (sn)), .int (so), .int (at_), .int (nI (n)), xj, xj, xj, xj]) (st' := [.int (so), .int (s 120 sn)]) (M' := (I, J, Rx R, N, G)) rfl ?_
        refine XP_icD rfl (fun (b30 : s 120 sn = so) => ?_) (fun (b30 : ¬ s 120 sn = so) => absurd b30 (by first | exact g4 | exact fun z => z g4 | exact Int32.not_le.mpr g4 | exact Int32.not_lt.mpr (Int32.not_lt.mp g4) | omega))
        refine XP_n 6 (pc' := 39) (ls' := [.ref (99), .int (nI (sn)), .int (so), .int (at_), .int (nI (n)), .int (nI (0)), .int (nI (0)), xj, xj]) (st' := [.int (nI (n)), .int (nI (0))]) (M' := (I, J, Rx R, N, G)) rfl ?_
        refine XP_icN (x := 0) (y := n) rfl (by omega) (by omega) (fun (b39 : n ≤ 0) => absurd b39 (by omega)) (fun (b39 : 0 < n) => ?_)
        refine XP_n 7 (pc' := 47) (ls' := [.ref (99), .int (nI (sn)), .int (so), .int (at_), .int (nI (n)), .int (nI (0)), .int (nI (0)), .int ((at_) + ((nI (2)) * (nI (0)))), xj]) (st' := [.int (at_)]) (M' := (I, J, Rx R, N, G)) rfl ?_
        refine XP_ifD rfl (fun (b47 : at_ < 0) => ?_) (fun (b47 : 0 ≤ at_) => absurd b47 (by first | exact g7 | exact fun z => z g7 | exact Int32.not_le.mpr g7 | exact Int32.not_lt.mpr (Int32.not_lt.mp g7) | omega))
        have n47 := Int32.not_le.mpr b47
        refine XP_n 1 (pc' := 60) (ls' := [.ref (99), .int (nI (sn)), .int (so), .int (at_), .int (nI (n)), .int (nI (0)), .int (nI (0)), .int ((at_) + ((nI (2)) * (nI (0)))), xj]) (st' := [.int (cI (-12))]) (M' := (I, J, Rx R, N, G)) rfl ?_
        exact XP_ret rfl ⟨rfl, _, rfl, hS, FrC.rf⟩
    · have hrc : (nI (sz s sn)) - (nI (2)) < nI (f + ((2) * (0))) := (rc_iff (by omega) (by omega) hsz0).mpr (by omega)
      refine ⟨cI (-12), s, hW, Up.rf hch, fun X d I J R N G hI => ?_, fun X d I J R N G hS => ?_⟩
      · have hL := hI.2.2.1
        unfold TP
        show XP X _ k_H_stormsBy 0 [.ref (0), .int (nI (sn)), .int (so), .int (nI (f)), .int (nI (n)), xj, xj, xj] [] _ _
        refine XP_n 2 (pc' := 2) (ls' := [.ref (0), .int (nI (sn)), .int (so), .int (nI (f)), .int (nI (n)), xj, xj, xj]) (st' := [.int (nI (sn)), .ref (0)]) (M' := (I, J, Rx R, N, G)) rfl ?_
        refine XP_pure rfl rfl (c_sheetAtT (show sn < 4 by omega)) ?_
        refine XP_n 6 (pc' := 9) (ls' := [.ref (0), .int (nI (sn)), .int (so), .int (nI (f)), .int (nI (n)), .ref (87 + 2 * sn), xj, xj]) (st' := [.int (nI (2)), .int (nI (0)), .int (so)]) (M' := (I, J, Rx R, N, G)) rfl ?_
        refine XP_pure rfl rfl (w_H X _ _ 0 2 _) ?_
        refine XP_s rfl ?_
        refine XP_beq (fun b10 => absurd g1 b10) (fun b10 => ?_)
        refine XP_n 3 (pc' := 14) (ls' := [.ref (0), .int (nI (sn)), .int (so), .int (nI (f)), .int (nI (n)), .ref (87 + 2 * sn), xj, xj]) (st' := [.int (nI (6)), .int (nI (0)), .int (nI (n))]) (M' := (I, J, Rx R, N, G)) rfl ?_
        refine XP_pure rfl rfl (w_H X _ _ 0 6 _) ?_
        refine XP_s rfl ?_
        refine XP_bne (fun b15 => ?_) (fun b15 => absurd g2 b15)
        refine XP_n 1 (pc' := 19) (ls' := [.ref (0), .int (nI (sn)), .int (so), .int (nI (f)), .int (nI (n)), .ref (87 + 2 * sn), xj, xj]) (st' := [.ref (87 + 2 * sn)]) (M' := (I, J, Rx R, N, G)) rfl ?_
        refine XP_pure rfl (by show (isO (87 + 2 * sn) 8 || false) = true; rw [sh_o hsn]; rfl) (c_missF hI.1 hsn g3) ?_
        refine XP_ifN (x := 0)  rfl (by omega) (fun (b20 : 0 = 0) => ?_) (fun (b20 : ¬ 0 = 0) => absurd b20 (by omega))
        refine XP_n 1 (pc' := 24) (ls' := [.ref (0), .int (nI (sn)), .int (so), .int (nI (f)), .int (nI (n)), .ref (87 + 2 * sn), xj, xj]) (st' := [.ref (87 + 2 * sn)]) (M' := (I, J, Rx R, N, G)) rfl ?_
        refine XP_getw rfl (by rw [sh_o (show sn < 4 by omega)]; rfl) ?_
        show XP X _ k_H_stormsBy 25 [.ref (0), .int (nI (sn)), .int (so), .int (nI (f)), .int (nI (n)), .ref (87 + 2 * sn), xj, xj] [.int (I (87 + 2 * sn) 0)] _ _
        rw [show I (87 + 2 * sn) 0 = s 120 sn from hI.1 _ _ _ _ (sh_m0 (show sn < 4 by omega))]
        refine XP_n 1 (pc' := 26) (ls' := [.ref (0), .int (nI (sn)), .int (so), .int (nI (f)), .int (nI (n)), .ref (87 + 2 * sn), xj, xj]) (st' := [.int (so), .int (s 120 sn)]) (M' := (I, J, Rx R, N, G)) rfl ?_
        refine XP_icD rfl (fun (b26 : s 120 sn = so) => ?_) (fun (b26 : ¬ s 120 sn = so) => absurd b26 (by first | exact g4 | exact fun z => z g4 | exact Int32.not_le.mpr g4 | exact Int32.not_lt.mpr (Int32.not_lt.mp g4) | omega))
        refine XP_n 6 (pc' := 35) (ls' := [.ref (0), .int (nI (sn)), .int (so), .int (nI (f)), .int (nI (n)), .ref (87 + 2 * sn), .int (nI (0)), .int (nI (0))]) (st' := [.int (nI (n)), .int (nI (0))]) (M' := (I, J, Rx R, N, G)) rfl ?_
        refine XP_icN (x := 0) (y := n) rfl (by omega) (by omega) (fun (b35 : n ≤ 0) => absurd b35 (by omega)) (fun (b35 : 0 < n) => ?_)
        refine XP_n 3 (pc' := 39) (ls' := [.ref (0), .int (nI (sn)), .int (so), .int (nI (f)), .int (nI (n)), .ref (87 + 2 * sn), .int (nI (0)), .int (nI (0))]) (st' := [.int (nI (40)), .int (nI (0)), .int (nI (f))]) (M' := (I, J, Rx R, N, G)) rfl ?_
        refine XP_pure rfl rfl (w_H X _ _ 0 40 _) ?_
        refine XP_s rfl ?_
        refine XP_beq (fun b40 => ?_) (fun b40 => absurd b40 g6)
        refine XP_n 1 (pc' := 51) (ls' := [.ref (0), .int (nI (sn)), .int (so), .int (nI (f)), .int (nI (n)), .ref (87 + 2 * sn), .int (nI (0)), .int (nI (0))]) (st' := [.int (cI (-12))]) (M' := (I, J, Rx R, N, G)) rfl ?_
        exact XP_ret rfl ⟨rfl, _, rfl, hI.1.C, hI.2.2.1, hI.2.2.2.1, FrM.rf⟩
      · unfold TP
        show XP X _ k_M_stormsBy 0 [.ref (99), .int (nI (sn)), .int (so), .int (nI (f)), .int (nI (n)), xj, xj, xj, xj] [] _ _
        refine XP_n 3 (pc' := 3) (ls' := [.ref (99), .int (nI (sn)), .int (so), .int (nI (f)), .int (nI (n)), xj, xj, xj, xj]) (st' := [.int (nI (3)), .int (nI (0)), .int (nI (sn))]) (M' := (I, J, Rx R, N, G)) rfl ?_
        refine XP_pure rfl rfl (w_M X _ _ 0 3 _) ?_
        refine XP_s rfl ?_
        refine XP_beq (fun b4 => absurd g0 b4) (fun b4 => ?_)
        refine XP_n 3 (pc' := 8) (ls' := [.ref (99), .int (nI (sn)), .int (so), .int (nI (f)), .int (nI (n)), xj, xj, xj, xj]) (st' := [.int (nI (2)), .int (nI (0)), .int (so)]) (M' := (I, J, Rx R, N, G)) rfl ?_
        refine XP_pure rfl rfl (w_M X _ _ 0 2 _) ?_
        refine XP_s rfl ?_
        refine XP_beq (fun b9 => absurd g1 b9) (fun b9 => ?_)
        refine XP_n 3 (pc' := 13) (ls' := [.ref (99), .int (nI (sn)), .int (so), .int (nI (f)), .int (nI (n)), xj, xj, xj, xj]) (st' := [.int (nI (6)), .int (nI (0)), .int (nI (n))]) (M' := (I, J, Rx R, N, G)) rfl ?_
        refine XP_pure rfl rfl (w_M X _ _ 0 6 _) ?_
        refine XP_s rfl ?_
        refine XP_bne (fun b14 => ?_) (fun b14 => absurd g2 b14)
        refine XP_n 3 (pc' := 20) (ls' := [.ref (99), .int (nI (sn)), .int (so), .int (nI (f)), .int (nI (n)), xj, xj, xj, xj]) (st' := [.int (nI (sn)), .ref (120)]) (M' := (I, J, Rx R, N, G)) rfl ?_
        refine XP_ialdM hS rfl rfl (show sn < 4 by omega) rfl (by omega) rfl ?_
        refine XP_n 1 (pc' := 22) (ls' := [.ref (99), .int (nI (sn)), .int (so), .int (nI (f)), .int (nI (n)), xj, xj, xj, xj]) (st' := [.int (cI (-1)), .int (s 120 sn)]) (M' := (I, J, Rx R, N, G)) rfl ?_
        refine XP_icD rfl (fun (b22 : ¬ s 120 sn = cI (-1)) => ?_) (fun (b22 : s 120 sn = cI (-1)) => absurd b22 (by first | exact g3 | exact fun z => z g3 | exact Int32.not_le.mpr g3 | exact Int32.not_lt.mpr (Int32.not_lt.mp g3) | omega))
        refine XP_n 3 (pc' := 28) (ls' := [.ref (99), .int (nI (sn)), .int (so), .int (nI (f)), .int (nI (n)), xj, xj, xj, xj]) (st' := [.int (nI (sn)), .ref (120)]) (M' := (I, J, Rx R, N, G)) rfl ?_
        refine XP_ialdM hS rfl rfl (show sn < 4 by omega) rfl (by omega) rfl ?_
        refine XP_n 1 (pc' := 30) (ls' := [.ref (99), .int (nI (sn)), .int (so), .int (nI (f)), .int (nI (n)), xj, xj, xj, xj]) (st' := [.int (so), .int (s 120 sn)]) (M' := (I, J, Rx R, N, G)) rfl ?_
        refine XP_icD rfl (fun (b30 : s 120 sn = so) => ?_) (fun (b30 : ¬ s 120 sn = so) => absurd b30 (by first | exact g4 | exact fun z => z g4 | exact Int32.not_le.mpr g4 | exact Int32.not_lt.mpr (Int32.not_lt.mp g4) | omega))
        refine XP_n 6 (pc' := 39) (ls' := [.ref (99), .int (nI (sn)), .int (so), .int (nI (f)), .int (nI (n)), .int (nI (0)), .int (nI (0)), xj, xj]) (st' := [.int (nI (n)), .int (nI (0))]) (M' := (I, J, Rx R, N, G)) rfl ?_
        refine XP_icN (x := 0) (y := n) rfl (by omega) (by omega) (fun (b39 : n ≤ 0) => absurd b39 (by omega)) (fun (b39 : 0 < n) => ?_)
        refine XP_n 6 (pc' := 46) (ls' := [.ref (99), .int (nI (sn)), .int (so), .int (nI (f)), .int (nI (n)), .int (nI (0)), .int (nI (0)), .int ((nI (f)) + ((nI (2)) * (nI (0)))), xj]) (st' := []) (M' := (I, J, Rx R, N, G)) rfl ?_
        rw [show (nI (f)) + ((nI (2)) * (nI (0))) = nI (f + ((2) * (0))) from nI_addE (rfl) (nI_mulE (rfl) (rfl))]
        refine XP_n 1 (pc' := 47) (ls' := [.ref (99), .int (nI (sn)), .int (so), .int (nI (f)), .int (nI (n)), .int (nI (0)), .int (nI (0)), .int (nI (f + ((2) * (0)))), xj]) (st' := [.int (nI (f))]) (M' := (I, J, Rx R, N, G)) rfl ?_
        refine XP_ifN (x := f)  rfl (by omega) (fun (b47 : f < 0) => absurd b47 (by omega)) (fun (b47 : 0 ≤ f) => ?_)
        refine XP_n 2 (pc' := 50) (ls' := [.ref (99), .int (nI (sn)), .int (so), .int (nI (f)), .int (nI (n)), .int (nI (0)), .int (nI (0)), .int (nI (f + ((2) * (0)))), xj]) (st' := [.int (nI (f)), .int (nI (f + ((2) * (0))))]) (M' := (I, J, Rx R, N, G)) rfl ?_
        refine XP_icN (x := f + ((2) * (0))) (y := f) rfl (by omega) (by omega) (fun (b50 : f + ((2) * (0)) < f) => absurd b50 (by omega)) (fun (b50 : f ≤ f + ((2) * (0))) => ?_)
        refine XP_n 4 (pc' := 55) (ls' := [.ref (99), .int (nI (sn)), .int (so), .int (nI (f)), .int (nI (n)), .int (nI (0)), .int (nI (0)), .int (nI (f + ((2) * (0)))), xj]) (st' := [.int (nI (sn)), .ref (121), .int (nI (f + ((2) * (0))))]) (M' := (I, J, Rx R, N, G)) rfl ?_
        refine XP_ialdM hS rfl rfl (show sn < 4 by omega) rfl (by omega) rfl ?_
        rw [(hW.sz1 hsn).1]
        refine XP_n 2 (pc' := 58) (ls' := [.ref (99), .int (nI (sn)), .int (so), .int (nI (f)), .int (nI (n)), .int (nI (0)), .int (nI (0)), .int (nI (f + ((2) * (0)))), xj]) (st' := [.int ((nI (sz s sn)) - (nI (2))), .int (nI (f + ((2) * (0))))]) (M' := (I, J, Rx R, N, G)) rfl ?_
        refine XP_icD rfl (fun (b58 : nI (f + ((2) * (0))) ≤ (nI (sz s sn)) - (nI (2))) => absurd b58 (by first | exact hrc | exact fun z => z hrc | exact Int32.not_le.mpr hrc | exact Int32.not_lt.mpr (Int32.not_lt.mp hrc) | omega)) (fun (b58 : (nI (sz s sn)) - (nI (2)) < nI (f + ((2) * (0)))) => ?_)
        have n58 := Int32.not_le.mpr b58
        refine XP_n 1 (pc' := 60) (ls' := [.ref (99), .int (nI (sn)), .int (so), .int (nI (f)), .int (nI (n)), .int (nI (0)), .int (nI (0)), .int (nI (f + ((2) * (0)))), xj]) (st' := [.int (cI (-12))]) (M' := (I, J, Rx R, N, G)) rfl ?_
        exact XP_ret rfl ⟨rfl, _, rfl, hS, FrC.rf⟩
  obtain ⟨f, -, hf, rfl, -⟩ := iv_nat g6 (by omega) (by omega)
  obtain ⟨w, s', e1, ⟨c, e2, e3, e4, e7, e8⟩, e5, e6⟩ := l_sb hsn hf hn so n 0 (nI 0) s (by omega) hW hch (by omega)
  refine ⟨w, s', e1, ⟨c, e2, e3, by omega, e7, e8⟩, fun X d I J R N G hI => ?_, fun X d I J R N G hS => ?_⟩
  · have hL := hI.2.2.1
    unfold TP
    show XP X _ k_H_stormsBy 0 [.ref (0), .int (nI (sn)), .int (so), .int (nI (f)), .int (nI (n)), xj, xj, xj] [] _ _
    refine XP_n 2 (pc' := 2) (ls' := [.ref (0), .int (nI (sn)), .int (so), .int (nI (f)), .int (nI (n)), xj, xj, xj]) (st' := [.int (nI (sn)), .ref (0)]) (M' := (I, J, Rx R, N, G)) rfl ?_
    refine XP_pure rfl rfl (c_sheetAtT (show sn < 4 by omega)) ?_
    refine XP_n 6 (pc' := 9) (ls' := [.ref (0), .int (nI (sn)), .int (so), .int (nI (f)), .int (nI (n)), .ref (87 + 2 * sn), xj, xj]) (st' := [.int (nI (2)), .int (nI (0)), .int (so)]) (M' := (I, J, Rx R, N, G)) rfl ?_
    refine XP_pure rfl rfl (w_H X _ _ 0 2 _) ?_
    refine XP_s rfl ?_
    refine XP_beq (fun b10 => absurd g1 b10) (fun b10 => ?_)
    refine XP_n 3 (pc' := 14) (ls' := [.ref (0), .int (nI (sn)), .int (so), .int (nI (f)), .int (nI (n)), .ref (87 + 2 * sn), xj, xj]) (st' := [.int (nI (6)), .int (nI (0)), .int (nI (n))]) (M' := (I, J, Rx R, N, G)) rfl ?_
    refine XP_pure rfl rfl (w_H X _ _ 0 6 _) ?_
    refine XP_s rfl ?_
    refine XP_bne (fun b15 => ?_) (fun b15 => absurd g2 b15)
    refine XP_n 1 (pc' := 19) (ls' := [.ref (0), .int (nI (sn)), .int (so), .int (nI (f)), .int (nI (n)), .ref (87 + 2 * sn), xj, xj]) (st' := [.ref (87 + 2 * sn)]) (M' := (I, J, Rx R, N, G)) rfl ?_
    refine XP_pure rfl (by show (isO (87 + 2 * sn) 8 || false) = true; rw [sh_o hsn]; rfl) (c_missF hI.1 hsn g3) ?_
    refine XP_ifN (x := 0)  rfl (by omega) (fun (b20 : 0 = 0) => ?_) (fun (b20 : ¬ 0 = 0) => absurd b20 (by omega))
    refine XP_n 1 (pc' := 24) (ls' := [.ref (0), .int (nI (sn)), .int (so), .int (nI (f)), .int (nI (n)), .ref (87 + 2 * sn), xj, xj]) (st' := [.ref (87 + 2 * sn)]) (M' := (I, J, Rx R, N, G)) rfl ?_
    refine XP_getw rfl (by rw [sh_o (show sn < 4 by omega)]; rfl) ?_
    show XP X _ k_H_stormsBy 25 [.ref (0), .int (nI (sn)), .int (so), .int (nI (f)), .int (nI (n)), .ref (87 + 2 * sn), xj, xj] [.int (I (87 + 2 * sn) 0)] _ _
    rw [show I (87 + 2 * sn) 0 = s 120 sn from hI.1 _ _ _ _ (sh_m0 (show sn < 4 by omega))]
    refine XP_n 1 (pc' := 26) (ls' := [.ref (0), .int (nI (sn)), .int (so), .int (nI (f)), .int (nI (n)), .ref (87 + 2 * sn), xj, xj]) (st' := [.int (so), .int (s 120 sn)]) (M' := (I, J, Rx R, N, G)) rfl ?_
    refine XP_icD rfl (fun (b26 : s 120 sn = so) => ?_) (fun (b26 : ¬ s 120 sn = so) => absurd b26 (by first | exact g4 | exact fun z => z g4 | exact Int32.not_le.mpr g4 | exact Int32.not_lt.mpr (Int32.not_lt.mp g4) | omega))
    refine XP_n 4 (pc' := 33) (ls' := [.ref (0), .int (nI (sn)), .int (so), .int (nI (f)), .int (nI (n)), .ref (87 + 2 * sn), .int (nI (0)), .int (nI (0))]) (st' := []) (M' := (I, J, Rx R, N, G)) rfl ?_
    exact e5 X (d + 7) I J R N G hI.1.C hL hI.2.2.2.1
  · unfold TP
    show XP X _ k_M_stormsBy 0 [.ref (99), .int (nI (sn)), .int (so), .int (nI (f)), .int (nI (n)), xj, xj, xj, xj] [] _ _
    refine XP_n 3 (pc' := 3) (ls' := [.ref (99), .int (nI (sn)), .int (so), .int (nI (f)), .int (nI (n)), xj, xj, xj, xj]) (st' := [.int (nI (3)), .int (nI (0)), .int (nI (sn))]) (M' := (I, J, Rx R, N, G)) rfl ?_
    refine XP_pure rfl rfl (w_M X _ _ 0 3 _) ?_
    refine XP_s rfl ?_
    refine XP_beq (fun b4 => absurd g0 b4) (fun b4 => ?_)
    refine XP_n 3 (pc' := 8) (ls' := [.ref (99), .int (nI (sn)), .int (so), .int (nI (f)), .int (nI (n)), xj, xj, xj, xj]) (st' := [.int (nI (2)), .int (nI (0)), .int (so)]) (M' := (I, J, Rx R, N, G)) rfl ?_
    refine XP_pure rfl rfl (w_M X _ _ 0 2 _) ?_
    refine XP_s rfl ?_
    refine XP_beq (fun b9 => absurd g1 b9) (fun b9 => ?_)
    refine XP_n 3 (pc' := 13) (ls' := [.ref (99), .int (nI (sn)), .int (so), .int (nI (f)), .int (nI (n)), xj, xj, xj, xj]) (st' := [.int (nI (6)), .int (nI (0)), .int (nI (n))]) (M' := (I, J, Rx R, N, G)) rfl ?_
    refine XP_pure rfl rfl (w_M X _ _ 0 6 _) ?_
    refine XP_s rfl ?_
    refine XP_bne (fun b14 => ?_) (fun b14 => absurd g2 b14)
    refine XP_n 3 (pc' := 20) (ls' := [.ref (99), .int (nI (sn)), .int (so), .int (nI (f)), .int (nI (n)), xj, xj, xj, xj]) (st' := [.int (nI (sn)), .ref (120)]) (M' := (I, J, Rx R, N, G)) rfl ?_
    refine XP_ialdM hS rfl rfl (show sn < 4 by omega) rfl (by omega) rfl ?_
    refine XP_n 1 (pc' := 22) (ls' := [.ref (99), .int (nI (sn)), .int (so), .int (nI (f)), .int (nI (n)), xj, xj, xj, xj]) (st' := [.int (cI (-1)), .int (s 120 sn)]) (M' := (I, J, Rx R, N, G)) rfl ?_
    refine XP_icD rfl (fun (b22 : ¬ s 120 sn = cI (-1)) => ?_) (fun (b22 : s 120 sn = cI (-1)) => absurd b22 (by first | exact g3 | exact fun z => z g3 | exact Int32.not_le.mpr g3 | exact Int32.not_lt.mpr (Int32.not_lt.mp g3) | omega))
    refine XP_n 3 (pc' := 28) (ls' := [.ref (99), .int (nI (sn)), .int (so), .int (nI (f)), .int (nI (n)), xj, xj, xj, xj]) (st' := [.int (nI (sn)), .ref (120)]) (M' := (I, J, Rx R, N, G)) rfl ?_
    refine XP_ialdM hS rfl rfl (show sn < 4 by omega) rfl (by omega) rfl ?_
    refine XP_n 1 (pc' := 30) (ls' := [.ref (99), .int (nI (sn)), .int (so), .int (nI (f)), .int (nI (n)), xj, xj, xj, xj]) (st' := [.int (so), .int (s 120 sn)]) (M' := (I, J, Rx R, N, G)) rfl ?_
    refine XP_icD rfl (fun (b30 : s 120 sn = so) => ?_) (fun (b30 : ¬ s 120 sn = so) => absurd b30 (by first | exact g4 | exact fun z => z g4 | exact Int32.not_le.mpr g4 | exact Int32.not_lt.mpr (Int32.not_lt.mp g4) | omega))
    refine XP_n 4 (pc' := 37) (ls' := [.ref (99), .int (nI (sn)), .int (so), .int (nI (f)), .int (nI (n)), .int (nI (0)), .int (nI (0)), xj, xj]) (st' := []) (M' := (I, J, Rx R, N, G)) rfl ?_
    exact e6 X (d + 7) I J R N G _ _ hS
