/-! drawn: the harm of one storm -/
def dTm (s : Nat → Nat → Int32) (l w y : Nat) (rich : Int32) (over : Nat) : Int32 := hTerm (tQ s (cLw s)) (tK1 s (cLw s)) (nI over) rich (nI w) (nI l) (nI y)
def dTn (s : Nat → Nat → Int32) (l w y : Nat) (rich : Int32) (over : Nat) : Nat := wN (dTm s l w y rich over)
theorem dTm_ok (s : Nat → Nat → Int32) (l w y : Nat) (rich : Int32) (over : Nat) : dTm s l w y rich over = nI (dTn s l w y rich over) ∧ dTn s l w y rich over ≤ 9999 := by
  have h : iN 0 9999 (dTm s l w y rich over) := bnd_nat 9999 (by omega) _
  obtain ⟨h1, _, h2⟩ := h.nat (by omega)
  exact ⟨h1, h2⟩
section
variable {X : hX} {d : Nat} {s I : Nat → Nat → Int32} {J : Nat → Nat → Int64} {R : Nat → Nat → Option Nat} {N : Nat → Nat} {G : hG}
theorem c_hby (hS : St s I) (hW : Wf s) (hL : Lk s R N) (x1 x2 x3 x4 x5 : Int32) : TP X (d + 2) n_Text_harmBy [.ref (oT (cLw s)), .int x1, .int x2, .int x3, .int x4, .int x5] (I, J, Rx R, N, G) (fun v M' => v = some (.int (hTerm (tQ s (cLw s)) (tK1 s (cLw s)) x1 x2 x3 x4 x5)) ∧ ∃ I', M' = (I', J, Rx R, N, G) ∧ Only [oT (cLw s) + 3, oT (cLw s) + 2] I I') := by
  obtain ⟨t6, e0, e1, e2, e3, l1, l2, l3, hq, hW1, hW2, hW3⟩ := hW.lwt
  obtain ⟨hC1, c1, c2, cq⟩ := hL.lw hW
  exact t_harmBy X d (k1 := tK1 s (cLw s)) hC1 (fun j hj => (hS _ _ _ _ (oT_s j _ t6)).trans (cq j hj)) ((hS _ _ _ _ (oT_1 _ t6)).trans c1) (by omega) hW1 x1 x2 x3 x4 x5
theorem c_hasSt (hS : St s I) (hW : Wf s) (v : Int32) : TP X d n_Coast_hasStorm [.ref 1, .int v] (I, J, Rx R, N, G) (Ret (.int (b2i (inN v (cS s)))) (I, J, Rx R, N, G)) := by
  have hn6 := hW.ns.2
  by_cases h : inN v (cS s)
  · rw [show b2i (inN v (cS s)) = nI 1 from b2i_t h]
    obtain ⟨j, hj, rfl, -⟩ := inN_nat h (by omega)
    unfold TP
    show XP X _ k_Coast_hasStorm 0 [.ref (1), .int (nI (j))] [] _ _
    refine XP_n 1 (pc' := 1) (ls' := [.ref (1), .int (nI (j))]) (st' := [.int (nI (j))]) (M' := (I, J, Rx R, N, G)) rfl ?_
    refine XP_ifN (x := j)  rfl (by omega) (fun (b1 : j < 0) => absurd b1 (by omega)) (fun (b1 : 0 ≤ j) => ?_)
    refine XP_n 2 (pc' := 4) (ls' := [.ref (1), .int (nI (j))]) (st' := [.ref (1), .int (nI (j))]) (M' := (I, J, Rx R, N, G)) rfl ?_
    refine XP_geti hS rfl rfl rfl ?_
    rw [hW.ns.1]
    refine XP_icN (x := j) (y := cS s) rfl (by omega) (by omega) (fun (b5 : cS s ≤ j) => absurd b5 (by omega)) (fun (b5 : j < cS s) => ?_)
    refine XP_n 2 (pc' := 8) (ls' := [.ref (1), .int (nI (j))]) (st' := [.int (nI (6)), .int (nI (j))]) (M' := (I, J, Rx R, N, G)) rfl ?_
    refine XP_icN (x := j) (y := 6) rfl (by omega) (by omega) (fun (b8 : 6 ≤ j) => absurd b8 (by omega)) (fun (b8 : j < 6) => ?_)
    refine XP_n 2 (pc' := 12) (ls' := [.ref (1), .int (nI (j))]) (st' := [.int (nI (1))]) (M' := (I, J, Rx R, N, G)) rfl ?_
    exact XP_ret rfl ⟨rfl, rfl⟩
  · rw [show b2i (inN v (cS s)) = nI 0 from b2i_f h]
    unfold TP
    show XP X _ k_Coast_hasStorm 0 [.ref (1), .int (v)] [] _ _
    refine XP_n 1 (pc' := 1) (ls' := [.ref (1), .int (v)]) (st' := [.int (v)]) (M' := (I, J, Rx R, N, G)) rfl ?_
    refine XP_ifD rfl (fun (b1 : v < 0) => ?_) (fun (b1 : 0 ≤ v) => ?_)
    · have n1 := Int32.not_le.mpr b1
      refine XP_n 1 (pc' := 12) (ls' := [.ref (1), .int (v)]) (st' := [.int (nI (0))]) (M' := (I, J, Rx R, N, G)) rfl ?_
      exact XP_ret rfl ⟨rfl, rfl⟩
    · have n1 := Int32.not_lt.mpr b1
      refine XP_n 2 (pc' := 4) (ls' := [.ref (1), .int (v)]) (st' := [.ref (1), .int (v)]) (M' := (I, J, Rx R, N, G)) rfl ?_
      refine XP_geti hS rfl rfl rfl ?_
      rw [hW.ns.1]
      refine XP_icD rfl (fun (b5 : nI (cS s) ≤ v) => ?_) (fun (b5 : v < nI (cS s)) => absurd ((lt_iff (by omega)).mp ⟨Int32.not_lt.mpr b1, b5⟩) h)
      have n5 := Int32.not_lt.mpr b5
      refine XP_n 1 (pc' := 12) (ls' := [.ref (1), .int (v)]) (st' := [.int (nI (0))]) (M' := (I, J, Rx R, N, G)) rfl ?_
      exact XP_ret rfl ⟨rfl, rfl⟩
theorem c_hooT (hI : Inv s R N I J) (hW : Wf s) {k l w y : Nat} {rich : Int32} (hk : k < cS s) (hl : l ≤ 1000) (hw : w < l + rHt s k) : TP X (d + 3) n_Coast_harmOfOne [.ref 1, .int (nI k), .int (nI l), .int (nI w), .int (nI y), .int rich] (I, J, Rx R, N, G) (fun v M' => v = some (.int (dTm s l w y rich (l + rHt s k - w))) ∧ ∃ I', M' = (I', J, Rx R, N, G) ∧ Inv s R N I' J ∧ Only [oT (cLw s) + 3, oT (cLw s) + 2] I I') := by
  have hS := hI.1
  have hL := hI.2.2.1
  have hn6 := hW.ns.2
  have hsh := (hW.sh hk).2
  unfold TP
  show XP X _ k_Coast_harmOfOne 0 [.ref (1), .int (nI (k)), .int (nI (l)), .int (nI (w)), .int (nI (y)), .int (rich), xj] [] _ _
  refine XP_n 2 (pc' := 2) (ls' := [.ref (1), .int (nI (k)), .int (nI (l)), .int (nI (w)), .int (nI (y)), .int (rich), xj]) (st' := [.int (nI (k)), .ref (1)]) (M' := (I, J, Rx R, N, G)) rfl ?_
  refine XP_pure rfl rfl (c_hasSt hS hW _) ?_
  refine XP_s rfl ?_
  refine XP_beq (fun b3 => absurd (nI_inN hk (by omega)) b3) (fun b3 => ?_)
  refine XP_n 1 (pc' := 5) (ls' := [.ref (1), .int (nI (k)), .int (nI (l)), .int (nI (w)), .int (nI (y)), .int (rich), xj]) (st' := [.ref (1)]) (M' := (I, J, Rx R, N, G)) rfl ?_
  refine XP_getr rfl rfl hL.1  ?_
  refine XP_n 5 (pc' := 13) (ls' := [.ref (1), .int (nI (k)), .int (nI (l)), .int (nI (w)), .int (nI (y)), .int (rich), xj]) (st' := [.int (nI (k)), .ref (7), .int (nI (l))]) (M' := (I, J, Rx R, N, G)) rfl ?_
  refine XP_iald hS rfl rfl (show k < 6 by omega) rfl (by omega) rfl ?_
  obtain ⟨hq21, hr21⟩ := hW.sh (show k < cS s by omega)
  rw [hq21]
  refine XP_n 4 (pc' := 18) (ls' := [.ref (1), .int (nI (k)), .int (nI (l)), .int (nI (w)), .int (nI (y)), .int (rich), .int (((nI (l)) + (nI (rHt s k))) - (nI (w)))]) (st' := []) (M' := (I, J, Rx R, N, G)) rfl ?_
  rw [show ((nI (l)) + (nI (rHt s k))) - (nI (w)) = nI (l + rHt s k - w) from nI_subE (nI_addE (rfl) (rfl)) (rfl) (by omega)]
  refine XP_n 1 (pc' := 19) (ls' := [.ref (1), .int (nI (k)), .int (nI (l)), .int (nI (w)), .int (nI (y)), .int (rich), .int (nI (l + rHt s k - w))]) (st' := [.int (nI (l + rHt s k - w))]) (M' := (I, J, Rx R, N, G)) rfl ?_
  refine XP_ifN (x := l + rHt s k - w)  rfl (by omega) (fun (b19 : l + rHt s k - w ≤ 0) => absurd b19 (by omega)) (fun (b19 : 0 < l + rHt s k - w) => ?_)
  refine XP_n 1 (pc' := 21) (ls' := [.ref (1), .int (nI (k)), .int (nI (l)), .int (nI (w)), .int (nI (y)), .int (rich), .int (nI (l + rHt s k - w))]) (st' := [.ref (1)]) (M' := (I, J, Rx R, N, G)) rfl ?_
  refine XP_getr rfl rfl hL.1  ?_
  refine XP_n 5 (pc' := 27) (ls' := [.ref (1), .int (nI (k)), .int (nI (l)), .int (nI (w)), .int (nI (y)), .int (rich), .int (nI (l + rHt s k - w))]) (st' := [.int (nI (y)), .int (nI (l)), .int (nI (w)), .int (rich), .int (nI (l + rHt s k - w)), .ref (oT (cLw s))]) (M' := (I, J, Rx R, N, G)) rfl ?_
  refine XP_call rfl (by show (isO (oT (cLw s)) 9 || false) = true; rw [oT_o9 (hL.lw hW)]; rfl) (c_hby hS hW hL _ _ _ _ _) ?_
  rintro v22 M22 ⟨rfl, I22, rfl, hO22⟩
  have hS22 : St s I22 := St_only hS hO22 (lw_scr hW)
  have hn22 : Only [oT (cLw s) + 3, oT (cLw s) + 2] I I22 := Only.c Only.rf hO22 (by simp)
  have hI22 : Inv s R N I22 J := hI.c (hO22.sub (by simp)) OnlyJ.rf
  refine XP_n 1 (pc' := 30) (ls' := [.ref (1), .int (nI (k)), .int (nI (l)), .int (nI (w)), .int (nI (y)), .int (rich), .int (nI (l + rHt s k - w))]) (st' := [.int (hTerm (tQ s (cLw s)) (tK1 s (cLw s)) (nI (l + rHt s k - w)) (rich) (nI (w)) (nI (l)) (nI (y)))]) (M' := (I22, J, Rx R, N, G)) rfl ?_
  exact XP_ret rfl ⟨rfl, _, rfl, hI22, hn22⟩
theorem c_hooW (hI : Inv s R N I J) (hW : Wf s) {k l w y : Nat} {rich : Int32} (hk : k < cS s) (hl : l ≤ 1000) (hw1 : w ≤ 1000) (hw : ¬ w < l + rHt s k) : TP X (d + 3) n_Coast_harmOfOne [.ref 1, .int (nI k), .int (nI l), .int (nI w), .int (nI y), .int rich] (I, J, Rx R, N, G) (Ret (.int (cI (-1))) (I, J, Rx R, N, G)) := by
  have hS := hI.1
  have hL := hI.2.2.1
  have hn6 := hW.ns.2
  have hsh := (hW.sh hk).2
  have hov : nI l + nI (rHt s k) - nI w ≤ nI 0 := by
    rw [nI_add]
    exact (over_iff (by omega) (by omega)).mpr ((nI_leI (by omega) (by omega)).mpr (by omega))
  unfold TP
  show XP X _ k_Coast_harmOfOne 0 [.ref (1), .int (nI (k)), .int (nI (l)), .int (nI (w)), .int (nI (y)), .int (rich), xj] [] _ _
  refine XP_n 2 (pc' := 2) (ls' := [.ref (1), .int (nI (k)), .int (nI (l)), .int (nI (w)), .int (nI (y)), .int (rich), xj]) (st' := [.int (nI (k)), .ref (1)]) (M' := (I, J, Rx R, N, G)) rfl ?_
  refine XP_pure rfl rfl (c_hasSt hS hW _) ?_
  refine XP_s rfl ?_
  refine XP_beq (fun b3 => absurd (nI_inN hk (by omega)) b3) (fun b3 => ?_)
  refine XP_n 1 (pc' := 5) (ls' := [.ref (1), .int (nI (k)), .int (nI (l)), .int (nI (w)), .int (nI (y)), .int (rich), xj]) (st' := [.ref (1)]) (M' := (I, J, Rx R, N, G)) rfl ?_
  refine XP_getr rfl rfl hL.1  ?_
  refine XP_n 5 (pc' := 13) (ls' := [.ref (1), .int (nI (k)), .int (nI (l)), .int (nI (w)), .int (nI (y)), .int (rich), xj]) (st' := [.int (nI (k)), .ref (7), .int (nI (l))]) (M' := (I, J, Rx R, N, G)) rfl ?_
  refine XP_iald hS rfl rfl (show k < 6 by omega) rfl (by omega) rfl ?_
  obtain ⟨hq23, hr23⟩ := hW.sh (show k < cS s by omega)
  rw [hq23]
  refine XP_n 5 (pc' := 19) (ls' := [.ref (1), .int (nI (k)), .int (nI (l)), .int (nI (w)), .int (nI (y)), .int (rich), .int (((nI (l)) + (nI (rHt s k))) - (nI (w)))]) (st' := [.int (((nI (l)) + (nI (rHt s k))) - (nI (w)))]) (M' := (I, J, Rx R, N, G)) rfl ?_
  refine XP_ifD rfl (fun (b19 : ((nI (l)) + (nI (rHt s k))) - (nI (w)) ≤ 0) => ?_) (fun (b19 : 0 < ((nI (l)) + (nI (rHt s k))) - (nI (w))) => absurd b19 (by exact Int32.not_lt.mpr hov))
  have n19 := Int32.not_lt.mpr b19
  refine XP_n 1 (pc' := 30) (ls' := [.ref (1), .int (nI (k)), .int (nI (l)), .int (nI (w)), .int (nI (y)), .int (rich), .int (((nI (l)) + (nI (rHt s k))) - (nI (w)))]) (st' := [.int (cI (-1))]) (M' := (I, J, Rx R, N, G)) rfl ?_
  exact XP_ret rfl ⟨rfl, rfl⟩
theorem c_hooN (hI : Inv s R N I J) (hW : Wf s) {v : Int32} {l w y : Nat} {rich : Int32} (hk : ¬ inN v (cS s)) : TP X (d + 3) n_Coast_harmOfOne [.ref 1, .int v, .int (nI l), .int (nI w), .int (nI y), .int rich] (I, J, Rx R, N, G) (Ret (.int (cI (-1))) (I, J, Rx R, N, G)) := by
  have hS := hI.1
  have hL := hI.2.2.1
  have hn6 := hW.ns.2
  unfold TP
  show XP X _ k_Coast_harmOfOne 0 [.ref (1), .int (v), .int (nI (l)), .int (nI (w)), .int (nI (y)), .int (rich), xj] [] _ _
  refine XP_n 2 (pc' := 2) (ls' := [.ref (1), .int (v), .int (nI (l)), .int (nI (w)), .int (nI (y)), .int (rich), xj]) (st' := [.int (v), .ref (1)]) (M' := (I, J, Rx R, N, G)) rfl ?_
  refine XP_pure rfl rfl (c_hasSt hS hW _) ?_
  refine XP_s rfl ?_
  refine XP_beq (fun b3 => ?_) (fun b3 => absurd b3 hk)
  refine XP_n 1 (pc' := 8) (ls' := [.ref (1), .int (v), .int (nI (l)), .int (nI (w)), .int (nI (y)), .int (rich), xj]) (st' := [.int (cI (-1))]) (M' := (I, J, Rx R, N, G)) rfl ?_
  exact XP_ret rfl ⟨rfl, rfl⟩
theorem c_hosL (hI : Inv s R N I J) (hW : Wf s) {p w y : Nat} {rich : Int32} (hp : p < cP s) (hy : y < cY s) (hw1 : w ≤ 99) (h17 : I 17 y = nI w) (h19 : I 19 y = rich) {v : Int32} (h20 : I 20 y = nI 1) : TP X (d + 4) n_Course_harmOfStorm [.ref 16, .ref 1, .int (nI p), .int (nI y), .int (v)] (I, J, Rx R, N, G) (Ret (.int (cI (-1))) (I, J, Rx R, N, G)) := by
  have hS := hI.1
  have hL := hI.2.2.1
  have hn6 := hW.ns.2
  have hy16 := hW.y.2
  have hp4 := hW.p.2
  have hlv := (nLv_ok hW hp (show y ≤ 15 by omega)).2
  unfold TP
  show XP X _ k_Course_harmOfStorm 0 [.ref (16), .ref (1), .int (nI (p)), .int (nI (y)), .int (v)] [] _ _
  refine XP_n 1 (pc' := 1) (ls' := [.ref (16), .ref (1), .int (nI (p)), .int (nI (y)), .int (v)]) (st' := [.int (nI (y))]) (M' := (I, J, Rx R, N, G)) rfl ?_
  refine XP_ifN (x := y)  rfl (by omega) (fun (b1 : y < 0) => absurd b1 (by omega)) (fun (b1 : 0 ≤ y) => ?_)
  refine XP_n 2 (pc' := 4) (ls' := [.ref (16), .ref (1), .int (nI (p)), .int (nI (y)), .int (v)]) (st' := [.int (nI (16)), .int (nI (y))]) (M' := (I, J, Rx R, N, G)) rfl ?_
  refine XP_icN (x := y) (y := 16) rfl (by omega) (by omega) (fun (b4 : 16 ≤ y) => absurd b4 (by omega)) (fun (b4 : y < 16) => ?_)
  refine XP_n 3 (pc' := 8) (ls' := [.ref (16), .ref (1), .int (nI (p)), .int (nI (y)), .int (v)]) (st' := [.int (nI (y)), .ref (20)]) (M' := (I, J, Rx R, N, G)) rfl ?_
  refine XP_braw rfl rfl (show y < 16 by omega) rfl (by omega) ?_
  rw [show I 20 y = nI (1) from h20]
  refine XP_ifN (x := 1)  rfl (by omega) (fun (b9 : 1 = 0) => absurd b9 (by omega)) (fun (b9 : ¬ 1 = 0) => ?_)
  refine XP_n 1 (pc' := 11) (ls' := [.ref (16), .ref (1), .int (nI (p)), .int (nI (y)), .int (v)]) (st' := [.int (cI (-1))]) (M' := (I, J, Rx R, N, G)) rfl ?_
  exact XP_ret rfl ⟨rfl, rfl⟩
theorem c_hosN (hI : Inv s R N I J) (hW : Wf s) {p w y : Nat} {rich : Int32} (hp : p < cP s) (hy : y < cY s) (hw1 : w ≤ 99) (h17 : I 17 y = nI w) (h19 : I 19 y = rich) {v : Int32} (h20 : I 20 y = nI 0) (hk : ¬ inN v (cS s)) : TP X (d + 4) n_Course_harmOfStorm [.ref 16, .ref 1, .int (nI p), .int (nI y), .int (v)] (I, J, Rx R, N, G) (Ret (.int (cI (-1))) (I, J, Rx R, N, G)) := by
  have hS := hI.1
  have hL := hI.2.2.1
  have hn6 := hW.ns.2
  have hy16 := hW.y.2
  have hp4 := hW.p.2
  have hlv := (nLv_ok hW hp (show y ≤ 15 by omega)).2
  unfold TP
  show XP X _ k_Course_harmOfStorm 0 [.ref (16), .ref (1), .int (nI (p)), .int (nI (y)), .int (v)] [] _ _
  refine XP_n 1 (pc' := 1) (ls' := [.ref (16), .ref (1), .int (nI (p)), .int (nI (y)), .int (v)]) (st' := [.int (nI (y))]) (M' := (I, J, Rx R, N, G)) rfl ?_
  refine XP_ifN (x := y)  rfl (by omega) (fun (b1 : y < 0) => absurd b1 (by omega)) (fun (b1 : 0 ≤ y) => ?_)
  refine XP_n 2 (pc' := 4) (ls' := [.ref (16), .ref (1), .int (nI (p)), .int (nI (y)), .int (v)]) (st' := [.int (nI (16)), .int (nI (y))]) (M' := (I, J, Rx R, N, G)) rfl ?_
  refine XP_icN (x := y) (y := 16) rfl (by omega) (by omega) (fun (b4 : 16 ≤ y) => absurd b4 (by omega)) (fun (b4 : y < 16) => ?_)
  refine XP_n 3 (pc' := 8) (ls' := [.ref (16), .ref (1), .int (nI (p)), .int (nI (y)), .int (v)]) (st' := [.int (nI (y)), .ref (20)]) (M' := (I, J, Rx R, N, G)) rfl ?_
  refine XP_braw rfl rfl (show y < 16 by omega) rfl (by omega) ?_
  rw [show I 20 y = nI (0) from h20]
  refine XP_ifN (x := 0)  rfl (by omega) (fun (b9 : 0 = 0) => ?_) (fun (b9 : ¬ 0 = 0) => absurd b9 (by omega))
  refine XP_n 5 (pc' := 17) (ls' := [.ref (16), .ref (1), .int (nI (p)), .int (nI (y)), .int (v)]) (st' := [.int (nI (y)), .int (nI (p)), .ref (1), .int (v), .ref (1)]) (M' := (I, J, Rx R, N, G)) rfl ?_
  refine XP_pure rfl rfl (c_lv hS hW (show p < cP s by omega) (by omega)) ?_
  have hlv24 := (nLv_ok hW (show p < cP s by omega) (show y ≤ 15 by omega)).2
  refine XP_n 3 (pc' := 21) (ls' := [.ref (16), .ref (1), .int (nI (p)), .int (nI (y)), .int (v)]) (st' := [.int (nI (y)), .ref (17), .int (nI (nLv s (p) (y))), .int (v), .ref (1)]) (M' := (I, J, Rx R, N, G)) rfl ?_
  refine XP_iraw rfl rfl (show y < 16 by omega) rfl (by omega) ?_
  rw [show I 17 y = nI (w) from h17]
  refine XP_n 4 (pc' := 26) (ls' := [.ref (16), .ref (1), .int (nI (p)), .int (nI (y)), .int (v)]) (st' := [.int (nI (y)), .ref (19), .int (nI (y)), .int (nI (w)), .int (nI (nLv s (p) (y))), .int (v), .ref (1)]) (M' := (I, J, Rx R, N, G)) rfl ?_
  refine XP_iraw rfl rfl (show y < 16 by omega) rfl (by omega) ?_
  rw [show I 19 y = rich from h19]
  refine XP_pure rfl rfl (c_hooN hI hW hk) ?_
  exact XP_ret rfl ⟨rfl, rfl⟩
theorem c_hosW (hI : Inv s R N I J) (hW : Wf s) {p w y : Nat} {rich : Int32} (hp : p < cP s) (hy : y < cY s) (hw1 : w ≤ 99) (h17 : I 17 y = nI w) (h19 : I 19 y = rich) {k : Nat} (h20 : I 20 y = nI 0) (hk : k < cS s) (hw : ¬ w < nLv s p y + rHt s k) : TP X (d + 4) n_Course_harmOfStorm [.ref 16, .ref 1, .int (nI p), .int (nI y), .int (nI (k))] (I, J, Rx R, N, G) (Ret (.int (cI (-1))) (I, J, Rx R, N, G)) := by
  have hS := hI.1
  have hL := hI.2.2.1
  have hn6 := hW.ns.2
  have hy16 := hW.y.2
  have hp4 := hW.p.2
  have hlv := (nLv_ok hW hp (show y ≤ 15 by omega)).2
  unfold TP
  show XP X _ k_Course_harmOfStorm 0 [.ref (16), .ref (1), .int (nI (p)), .int (nI (y)), .int (nI (k))] [] _ _
  refine XP_n 1 (pc' := 1) (ls' := [.ref (16), .ref (1), .int (nI (p)), .int (nI (y)), .int (nI (k))]) (st' := [.int (nI (y))]) (M' := (I, J, Rx R, N, G)) rfl ?_
  refine XP_ifN (x := y)  rfl (by omega) (fun (b1 : y < 0) => absurd b1 (by omega)) (fun (b1 : 0 ≤ y) => ?_)
  refine XP_n 2 (pc' := 4) (ls' := [.ref (16), .ref (1), .int (nI (p)), .int (nI (y)), .int (nI (k))]) (st' := [.int (nI (16)), .int (nI (y))]) (M' := (I, J, Rx R, N, G)) rfl ?_
  refine XP_icN (x := y) (y := 16) rfl (by omega) (by omega) (fun (b4 : 16 ≤ y) => absurd b4 (by omega)) (fun (b4 : y < 16) => ?_)
  refine XP_n 3 (pc' := 8) (ls' := [.ref (16), .ref (1), .int (nI (p)), .int (nI (y)), .int (nI (k))]) (st' := [.int (nI (y)), .ref (20)]) (M' := (I, J, Rx R, N, G)) rfl ?_
  refine XP_braw rfl rfl (show y < 16 by omega) rfl (by omega) ?_
  rw [show I 20 y = nI (0) from h20]
  refine XP_ifN (x := 0)  rfl (by omega) (fun (b9 : 0 = 0) => ?_) (fun (b9 : ¬ 0 = 0) => absurd b9 (by omega))
  refine XP_n 5 (pc' := 17) (ls' := [.ref (16), .ref (1), .int (nI (p)), .int (nI (y)), .int (nI (k))]) (st' := [.int (nI (y)), .int (nI (p)), .ref (1), .int (nI (k)), .ref (1)]) (M' := (I, J, Rx R, N, G)) rfl ?_
  refine XP_pure rfl rfl (c_lv hS hW (show p < cP s by omega) (by omega)) ?_
  have hlv25 := (nLv_ok hW (show p < cP s by omega) (show y ≤ 15 by omega)).2
  refine XP_n 3 (pc' := 21) (ls' := [.ref (16), .ref (1), .int (nI (p)), .int (nI (y)), .int (nI (k))]) (st' := [.int (nI (y)), .ref (17), .int (nI (nLv s (p) (y))), .int (nI (k)), .ref (1)]) (M' := (I, J, Rx R, N, G)) rfl ?_
  refine XP_iraw rfl rfl (show y < 16 by omega) rfl (by omega) ?_
  rw [show I 17 y = nI (w) from h17]
  refine XP_n 4 (pc' := 26) (ls' := [.ref (16), .ref (1), .int (nI (p)), .int (nI (y)), .int (nI (k))]) (st' := [.int (nI (y)), .ref (19), .int (nI (y)), .int (nI (w)), .int (nI (nLv s (p) (y))), .int (nI (k)), .ref (1)]) (M' := (I, J, Rx R, N, G)) rfl ?_
  refine XP_iraw rfl rfl (show y < 16 by omega) rfl (by omega) ?_
  rw [show I 19 y = rich from h19]
  refine XP_pure rfl rfl (c_hooW hI hW hk (by omega) (by omega) hw) ?_
  exact XP_ret rfl ⟨rfl, rfl⟩
theorem c_hosT (hI : Inv s R N I J) (hW : Wf s) {p w y : Nat} {rich : Int32} (hp : p < cP s) (hy : y < cY s) (hw1 : w ≤ 99) (h17 : I 17 y = nI w) (h19 : I 19 y = rich) {k : Nat} (h20 : I 20 y = nI 0) (hk : k < cS s) (hw : w < nLv s p y + rHt s k) : TP X (d + 4) n_Course_harmOfStorm [.ref 16, .ref 1, .int (nI p), .int (nI y), .int (nI (k))] (I, J, Rx R, N, G) (fun v M' => v = some (.int (dTm s (nLv s p y) w y rich (nLv s p y + rHt s k - w))) ∧ ∃ I', M' = (I', J, Rx R, N, G) ∧ Inv s R N I' J ∧ Only [oT (cLw s) + 3, oT (cLw s) + 2] I I') := by
  have hS := hI.1
  have hL := hI.2.2.1
  have hn6 := hW.ns.2
  have hy16 := hW.y.2
  have hp4 := hW.p.2
  have hlv := (nLv_ok hW hp (show y ≤ 15 by omega)).2
  unfold TP
  show XP X _ k_Course_harmOfStorm 0 [.ref (16), .ref (1), .int (nI (p)), .int (nI (y)), .int (nI (k))] [] _ _
  refine XP_n 1 (pc' := 1) (ls' := [.ref (16), .ref (1), .int (nI (p)), .int (nI (y)), .int (nI (k))]) (st' := [.int (nI (y))]) (M' := (I, J, Rx R, N, G)) rfl ?_
  refine XP_ifN (x := y)  rfl (by omega) (fun (b1 : y < 0) => absurd b1 (by omega)) (fun (b1 : 0 ≤ y) => ?_)
  refine XP_n 2 (pc' := 4) (ls' := [.ref (16), .ref (1), .int (nI (p)), .int (nI (y)), .int (nI (k))]) (st' := [.int (nI (16)), .int (nI (y))]) (M' := (I, J, Rx R, N, G)) rfl ?_
  refine XP_icN (x := y) (y := 16) rfl (by omega) (by omega) (fun (b4 : 16 ≤ y) => absurd b4 (by omega)) (fun (b4 : y < 16) => ?_)
  refine XP_n 3 (pc' := 8) (ls' := [.ref (16), .ref (1), .int (nI (p)), .int (nI (y)), .int (nI (k))]) (st' := [.int (nI (y)), .ref (20)]) (M' := (I, J, Rx R, N, G)) rfl ?_
  refine XP_braw rfl rfl (show y < 16 by omega) rfl (by omega) ?_
  rw [show I 20 y = nI (0) from h20]
  refine XP_ifN (x := 0)  rfl (by omega) (fun (b9 : 0 = 0) => ?_) (fun (b9 : ¬ 0 = 0) => absurd b9 (by omega))
  refine XP_n 5 (pc' := 17) (ls' := [.ref (16), .ref (1), .int (nI (p)), .int (nI (y)), .int (nI (k))]) (st' := [.int (nI (y)), .int (nI (p)), .ref (1), .int (nI (k)), .ref (1)]) (M' := (I, J, Rx R, N, G)) rfl ?_
  refine XP_pure rfl rfl (c_lv hS hW (show p < cP s by omega) (by omega)) ?_
  have hlv26 := (nLv_ok hW (show p < cP s by omega) (show y ≤ 15 by omega)).2
  refine XP_n 3 (pc' := 21) (ls' := [.ref (16), .ref (1), .int (nI (p)), .int (nI (y)), .int (nI (k))]) (st' := [.int (nI (y)), .ref (17), .int (nI (nLv s (p) (y))), .int (nI (k)), .ref (1)]) (M' := (I, J, Rx R, N, G)) rfl ?_
  refine XP_iraw rfl rfl (show y < 16 by omega) rfl (by omega) ?_
  rw [show I 17 y = nI (w) from h17]
  refine XP_n 4 (pc' := 26) (ls' := [.ref (16), .ref (1), .int (nI (p)), .int (nI (y)), .int (nI (k))]) (st' := [.int (nI (y)), .ref (19), .int (nI (y)), .int (nI (w)), .int (nI (nLv s (p) (y))), .int (nI (k)), .ref (1)]) (M' := (I, J, Rx R, N, G)) rfl ?_
  refine XP_iraw rfl rfl (show y < 16 by omega) rfl (by omega) ?_
  rw [show I 19 y = rich from h19]
  refine XP_call rfl rfl (c_hooT hI hW hk (by omega) hw) ?_
  rintro v27 M27 ⟨rfl, I27, rfl, hI27, hO27⟩
  have hn27 : Only [oT (cLw s) + 3, oT (cLw s) + 2] I I27 := Only.c Only.rf hO27 (by simp)
  exact XP_ret rfl ⟨rfl, _, rfl, hI27, hn27⟩
end
