/-! faces: towns -/
def tAll (s : Nat → Nat → Int32) (p y up m : Nat) : Nat := sumN (tPay s p y up m) (cT s)
theorem tSum_le {s : Nat → Nat → Int32} (hW : Wf s) (p y up m : Nat) {n : Nat} (hn : n ≤ cT s) : sumN (tPay s p y up m) n ≤ 60000000 := by
  have h3 := hW.t.2
  have h1 := sumN_le (f := tPay s p y up m) (n := n) (c := 20000000) (fun i _ => tPay_le hW p y up m i)
  have h5 : n * 20000000 ≤ 3 * 20000000 := Nat.mul_le_mul_right _ (by omega)
  exact Nat.le_trans h1 h5
theorem tAll_le {s : Nat → Nat → Int32} (hW : Wf s) (p y up m : Nat) : tAll s p y up m ≤ 60000000 := tSum_le hW p y up m (Nat.le_refl _)
def tRs (s : Nat → Nat → Int32) (p y up m : Nat) : Nat → Bool
  | 0 => true
  | n + 1 => tRs s p y up m n && decide (tPay s p y up m n ≤ tPay s p y up (xb m n) n)
theorem tRs_f {s : Nat → Nat → Int32} {p y up m i : Nat} (h : ¬ tPay s p y up m i ≤ tPay s p y up (xb m i) i) : ∀ n, i < n → tRs s p y up m n = false
  | 0, hn => by omega
  | n + 1, hn => by
    unfold tRs
    by_cases e : i = n
    · subst e
      rw [decide_eq_false h, Bool.and_false]
    · rw [tRs_f h n (by omega), Bool.false_and]
section
variable {X : hX} {d : Nat} {s I : Nat → Nat → Int32} {J : Nat → Nat → Int64} {R : Nat → Nat → Option Nat} {N : Nat → Nat} {G : hG}
theorem c_look (hI : Inv s R N I J) {p y up : Nat} (hp : p < cP s) (hy : y < cY s) : TP X (d + 1) n_Bay_look [.ref 80, .int (nI p), .int (nI y), .int (nI up)] (I, J, Rx R, N, G) (fun v M' => v = none ∧ ∃ I', M' = (I', J, Rx R, N, G) ∧ Inv s R N I' J ∧ I' 80 5 = nI (nLv s p y) ∧ I' 80 6 = nI y ∧ I' 80 7 = nI up) := by
  obtain ⟨hS, hW, hL, hC, hch⟩ := id hI
  have ht3 := hW.t.2
  have hpu9 := hW.pu.2
  have hp4 := hW.p.2
  have hy16 := hW.y.2
  have h2p : 1 ≤ 2 ^ cT s ∧ 2 ^ cT s ≤ 8 ∧ (0 < cT s → 2 ≤ 2 ^ cT s) := tN_le hW
  unfold TP
  show XP X _ k_Bay_look 0 [.ref (80), .int (nI (p)), .int (nI (y)), .int (nI (up))] [] _ _
  refine XP_n 5 (pc' := 5) (ls' := [.ref (80), .int (nI (p)), .int (nI (y)), .int (nI (up))]) (st' := [.int (nI (y)), .int (nI (p)), .ref (1), .ref (80)]) (M' := (I, J, Rx R, N, G)) rfl ?_
  refine XP_pure rfl rfl (c_lv hI.1 hW (show p < cP s by omega) (by omega)) ?_
  have hlv21 := (nLv_ok hW (show p < cP s by omega) (show y ≤ 15 by omega)).2
  refine XP_n 7 (pc' := 13) (ls' := [.ref (80), .int (nI (p)), .int (nI (y)), .int (nI (up))]) (st' := []) (M' := ((rw2 (rw2 (rw2 I 80 5 (nI (nLv s (p) (y)))) 80 6 (nI (y))) 80 7 (nI (up))), J, Rx R, N, G)) rfl ?_
  exact XP_ret rfl ⟨rfl, _, rfl, hI.of (St_rwp (St_rwp (St_rwp hI.1 rfl) rfl) rfl) (fun k h1 h2 => by rw [rw2_ne _ _ _ (by omega), rw2_ne _ _ _ (by omega), rw2_ne _ _ _ (by omega)]) (fun _ _ _ => rfl), by simp [rw2], by simp [rw2], by simp [rw2]⟩
theorem c_allT (hS : St s I) (hW : Wf s) : TP X d n_Bay_allTowns [.ref 80] (I, J, Rx R, N, G) (Ret (.int (nI (2 ^ cT s - 1))) (I, J, Rx R, N, G)) := by
  have ht3 := hW.t.2
  have hpu9 := hW.pu.2
  have hp4 := hW.p.2
  have hy16 := hW.y.2
  have h2p : 1 ≤ 2 ^ cT s ∧ 2 ^ cT s ≤ 8 ∧ (0 < cT s → 2 ≤ 2 ^ cT s) := tN_le hW
  unfold TP
  show XP X _ k_Bay_allTowns 0 [.ref (80)] [] _ _
  refine XP_n 2 (pc' := 2) (ls' := [.ref (80)]) (st' := [.ref (80), .int (nI (1))]) (M' := (I, J, Rx R, N, G)) rfl ?_
  refine XP_geti hS rfl rfl rfl ?_
  rw [hW.t.1]
  refine XP_n 3 (pc' := 6) (ls' := [.ref (80)]) (st' := [.int (((nI (1)) <<< ((nI (cT s)) &&& 31)) - (nI (1)))]) (M' := (I, J, Rx R, N, G)) rfl ?_
  rw [show ((nI (1)) <<< ((nI (cT s)) &&& 31)) - (nI (1)) = nI (2 ^ (cT s) - 1) from nI_subE (b_pw (show cT s < 8 by omega)) (rfl) (by omega)]
  exact XP_ret rfl ⟨rfl, rfl⟩
theorem c_rzT (hI : Inv s R N I J) {p y up : Int32} (h : inN p (cP s) ∧ inN y (cY s) ∧ iv 1 30 up) : TP X (d + 4) n_H_isRaisedIn [.ref 0, .int p, .int y, .int up] (I, J, Rx R, N, G) (Ret (.int (nI 1)) (I, J, Rx R, N, G)) := by
  obtain ⟨hS, hW, hL, hC, hch⟩ := id hI
  obtain ⟨g0, g1, g2⟩ := h
  unfold TP
  show XP X _ k_H_isRaisedIn 0 [.ref (0), .int (p), .int (y), .int (up)] [] _ _
  refine XP_n 3 (pc' := 3) (ls' := [.ref (0), .int (p), .int (y), .int (up)]) (st' := [.int (p), .ref (1)]) (M' := (I, J, Rx R, N, G)) rfl ?_
  refine XP_pure rfl rfl (c_hasPath hI.1 hI.2.1 _) ?_
  refine XP_s rfl ?_
  refine XP_beq (fun b4 => absurd g0 b4) (fun b4 => ?_)
  refine XP_n 2 (pc' := 7) (ls' := [.ref (0), .int (p), .int (y), .int (up)]) (st' := [.int (y), .ref (0)]) (M' := (I, J, Rx R, N, G)) rfl ?_
  refine XP_pure rfl rfl (h_isYear hI.1 hI.2.1 _) ?_
  refine XP_s rfl ?_
  refine XP_beq (fun b8 => absurd g1 b8) (fun b8 => ?_)
  refine XP_n 3 (pc' := 12) (ls' := [.ref (0), .int (p), .int (y), .int (up)]) (st' := [.int (nI (30)), .int (nI (1)), .int (up)]) (M' := (I, J, Rx R, N, G)) rfl ?_
  refine XP_pure rfl rfl (w_H X _ _ 1 30 _) ?_
  refine XP_s rfl ?_
  refine XP_beq (fun b13 => absurd g2 b13) (fun b13 => ?_)
  refine XP_n 2 (pc' := 17) (ls' := [.ref (0), .int (p), .int (y), .int (up)]) (st' := [.int (nI (1))]) (M' := (I, J, Rx R, N, G)) rfl ?_
  exact XP_ret rfl ⟨rfl, rfl⟩
theorem c_rzF (hI : Inv s R N I J) {p y up : Int32} (h : ¬ (inN p (cP s) ∧ inN y (cY s) ∧ iv 1 30 up)) : TP X (d + 4) n_H_isRaisedIn [.ref 0, .int p, .int y, .int up] (I, J, Rx R, N, G) (Ret (.int (nI 0)) (I, J, Rx R, N, G)) := by
  obtain ⟨hS, hW, hL, hC, hch⟩ := id hI
  unfold TP
  show XP X _ k_H_isRaisedIn 0 [.ref (0), .int (p), .int (y), .int (up)] [] _ _
  refine XP_n 3 (pc' := 3) (ls' := [.ref (0), .int (p), .int (y), .int (up)]) (st' := [.int (p), .ref (1)]) (M' := (I, J, Rx R, N, G)) rfl ?_
  refine XP_pure rfl rfl (c_hasPath hI.1 hI.2.1 _) ?_
  refine XP_s rfl ?_
  refine XP_beq (fun (b4 : ¬ (inN (p) (cP s))) => ?_) (fun (b4 : inN (p) (cP s)) => ?_)
  · refine XP_n 1 (pc' := 17) (ls' := [.ref (0), .int (p), .int (y), .int (up)]) (st' := [.int (nI (0))]) (M' := (I, J, Rx R, N, G)) rfl ?_
    exact XP_ret rfl ⟨rfl, rfl⟩
  · refine XP_n 2 (pc' := 7) (ls' := [.ref (0), .int (p), .int (y), .int (up)]) (st' := [.int (y), .ref (0)]) (M' := (I, J, Rx R, N, G)) rfl ?_
    refine XP_pure rfl rfl (h_isYear hI.1 hI.2.1 _) ?_
    refine XP_s rfl ?_
    refine XP_beq (fun (b8 : ¬ (inN (y) (cY s))) => ?_) (fun (b8 : inN (y) (cY s)) => ?_)
    · refine XP_n 1 (pc' := 17) (ls' := [.ref (0), .int (p), .int (y), .int (up)]) (st' := [.int (nI (0))]) (M' := (I, J, Rx R, N, G)) rfl ?_
      exact XP_ret rfl ⟨rfl, rfl⟩
    · refine XP_n 3 (pc' := 12) (ls' := [.ref (0), .int (p), .int (y), .int (up)]) (st' := [.int (nI (30)), .int (nI (1)), .int (up)]) (M' := (I, J, Rx R, N, G)) rfl ?_
      refine XP_pure rfl rfl (w_H X _ _ 1 30 _) ?_
      refine XP_s rfl ?_
      refine XP_beq (fun (b13 : ¬ (iv 1 30 (up))) => ?_) (fun (b13 : iv 1 30 (up)) => ?_)
      · refine XP_n 1 (pc' := 17) (ls' := [.ref (0), .int (p), .int (y), .int (up)]) (st' := [.int (nI (0))]) (M' := (I, J, Rx R, N, G)) rfl ?_
        exact XP_ret rfl ⟨rfl, rfl⟩
      · refine XP_n 2 (pc' := 17) (ls' := [.ref (0), .int (p), .int (y), .int (up)]) (st' := [.int (nI (1))]) (M' := (I, J, Rx R, N, G)) rfl ?_
        exact absurd ⟨b4, b8, b13⟩ h
theorem m_rzT (hI : Inv s R N I J) {p y up : Int32} (h : inN p (cP s) ∧ inN y (cY s) ∧ iv 1 30 up) : TP X (d + 4) n_M_isAsked [.ref 99, .int p, .int y, .int up] (I, J, Rx R, N, G) (Ret (.int (nI 1)) (I, J, Rx R, N, G)) := by
  obtain ⟨hS, hW, hL, hC, hch⟩ := id hI
  obtain ⟨g0, g1, g2⟩ := h
  unfold TP
  show XP X _ k_M_isAsked 0 [.ref (99), .int (p), .int (y), .int (up)] [] _ _
  refine XP_n 2 (pc' := 2) (ls' := [.ref (99), .int (p), .int (y), .int (up)]) (st' := [.int (p), .ref (99)]) (M' := (I, J, Rx R, N, G)) rfl ?_
  refine XP_pure rfl rfl (m_isPath hI.1 hI.2.1 _) ?_
  refine XP_s rfl ?_
  refine XP_beq (fun b3 => absurd g0 b3) (fun b3 => ?_)
  refine XP_n 2 (pc' := 6) (ls' := [.ref (99), .int (p), .int (y), .int (up)]) (st' := [.int (y), .ref (99)]) (M' := (I, J, Rx R, N, G)) rfl ?_
  refine XP_pure rfl rfl (m_isYear hI.1 hI.2.1 _) ?_
  refine XP_s rfl ?_
  refine XP_beq (fun b7 => absurd g1 b7) (fun b7 => ?_)
  refine XP_n 3 (pc' := 11) (ls' := [.ref (99), .int (p), .int (y), .int (up)]) (st' := [.int (nI (30)), .int (nI (1)), .int (up)]) (M' := (I, J, Rx R, N, G)) rfl ?_
  refine XP_pure rfl rfl (w_M X _ _ 1 30 _) ?_
  refine XP_s rfl ?_
  refine XP_beq (fun b12 => absurd g2 b12) (fun b12 => ?_)
  refine XP_n 2 (pc' := 16) (ls' := [.ref (99), .int (p), .int (y), .int (up)]) (st' := [.int (nI (1))]) (M' := (I, J, Rx R, N, G)) rfl ?_
  exact XP_ret rfl ⟨rfl, rfl⟩
theorem m_rzF (hI : Inv s R N I J) {p y up : Int32} (h : ¬ (inN p (cP s) ∧ inN y (cY s) ∧ iv 1 30 up)) : TP X (d + 4) n_M_isAsked [.ref 99, .int p, .int y, .int up] (I, J, Rx R, N, G) (Ret (.int (nI 0)) (I, J, Rx R, N, G)) := by
  obtain ⟨hS, hW, hL, hC, hch⟩ := id hI
  unfold TP
  show XP X _ k_M_isAsked 0 [.ref (99), .int (p), .int (y), .int (up)] [] _ _
  refine XP_n 2 (pc' := 2) (ls' := [.ref (99), .int (p), .int (y), .int (up)]) (st' := [.int (p), .ref (99)]) (M' := (I, J, Rx R, N, G)) rfl ?_
  refine XP_pure rfl rfl (m_isPath hI.1 hI.2.1 _) ?_
  refine XP_s rfl ?_
  refine XP_beq (fun (b3 : ¬ (inN (p) (cP s))) => ?_) (fun (b3 : inN (p) (cP s)) => ?_)
  · refine XP_n 1 (pc' := 16) (ls' := [.ref (99), .int (p), .int (y), .int (up)]) (st' := [.int (nI (0))]) (M' := (I, J, Rx R, N, G)) rfl ?_
    exact XP_ret rfl ⟨rfl, rfl⟩
  · refine XP_n 2 (pc' := 6) (ls' := [.ref (99), .int (p), .int (y), .int (up)]) (st' := [.int (y), .ref (99)]) (M' := (I, J, Rx R, N, G)) rfl ?_
    refine XP_pure rfl rfl (m_isYear hI.1 hI.2.1 _) ?_
    refine XP_s rfl ?_
    refine XP_beq (fun (b7 : ¬ (inN (y) (cY s))) => ?_) (fun (b7 : inN (y) (cY s)) => ?_)
    · refine XP_n 1 (pc' := 16) (ls' := [.ref (99), .int (p), .int (y), .int (up)]) (st' := [.int (nI (0))]) (M' := (I, J, Rx R, N, G)) rfl ?_
      exact XP_ret rfl ⟨rfl, rfl⟩
    · refine XP_n 3 (pc' := 11) (ls' := [.ref (99), .int (p), .int (y), .int (up)]) (st' := [.int (nI (30)), .int (nI (1)), .int (up)]) (M' := (I, J, Rx R, N, G)) rfl ?_
      refine XP_pure rfl rfl (w_M X _ _ 1 30 _) ?_
      refine XP_s rfl ?_
      refine XP_beq (fun (b12 : ¬ (iv 1 30 (up))) => ?_) (fun (b12 : iv 1 30 (up)) => ?_)
      · refine XP_n 1 (pc' := 16) (ls' := [.ref (99), .int (p), .int (y), .int (up)]) (st' := [.int (nI (0))]) (M' := (I, J, Rx R, N, G)) rfl ?_
        exact XP_ret rfl ⟨rfl, rfl⟩
      · refine XP_n 2 (pc' := 16) (ls' := [.ref (99), .int (p), .int (y), .int (up)]) (st' := [.int (nI (1))]) (M' := (I, J, Rx R, N, G)) rfl ?_
        exact absurd ⟨b3, b7, b12⟩ h
theorem m_areT (hS : St s I) (hW : Wf s) (v : Int32) : TP X (d + 1) n_M_areTowns [.ref 99, .int v] (I, J, Rx R, N, G) (Ret (.int (b2i (iv 0 (2 ^ cT s - 1) v))) (I, J, Rx R, N, G)) := by
  have ht3 := hW.t.2
  have hpu9 := hW.pu.2
  have hp4 := hW.p.2
  have hy16 := hW.y.2
  have h2p : 1 ≤ 2 ^ cT s ∧ 2 ^ cT s ≤ 8 ∧ (0 < cT s → 2 ≤ 2 ^ cT s) := tN_le hW
  unfold TP
  show XP X _ k_M_areTowns 0 [.ref (99), .int (v)] [] _ _
  refine XP_n 4 (pc' := 4) (ls' := [.ref (99), .int (v)]) (st' := [.ref (99), .int (nI (1)), .int (nI (0)), .int (v)]) (M' := (I, J, Rx R, N, G)) rfl ?_
  refine XP_geti hS rfl rfl rfl ?_
  rw [hW.t.1]
  refine XP_n 3 (pc' := 8) (ls' := [.ref (99), .int (v)]) (st' := [.int (((nI (1)) <<< ((nI (cT s)) &&& 31)) - (nI (1))), .int (nI (0)), .int (v)]) (M' := (I, J, Rx R, N, G)) rfl ?_
  rw [show ((nI (1)) <<< ((nI (cT s)) &&& 31)) - (nI (1)) = nI (2 ^ (cT s) - 1) from nI_subE (b_pw (show cT s < 8 by omega)) (rfl) (by omega)]
  refine XP_pure rfl rfl (w_M X _ _ 0 (2 ^ (cT s) - 1) _) ?_
  exact ret_b rfl ⟨rfl, rfl⟩
theorem f_pays (hI : Inv s R N I J) (t : Int32) (p : Int32) (y : Int32) (up : Int32) (set : Int32) : ∃ v, TP X (d + 12) n_H_pays [.ref 0, .int t, .int p, .int y, .int up, .int set] (I, J, Rx R, N, G) (QP s R N G (.long v)) ∧ ∀ I J, Inv s R N I J → TP X (d + 12) n_M_pays [.ref 99, .int t, .int p, .int y, .int up, .int set] (I, J, Rx R, N, G) (QP s R N G (.long v)) := by
  have hI0 := hI
  obtain ⟨hS, hW, hL, hC, hch⟩ := hI0
  have hy16 := hW.y.2
  have hp4 := hW.p.2
  have hs6 := hW.ns.2
  have hr8 := hW.r.2
  have hst8 := hW.st.2
  have ht3 := hW.t.2
  have hw60 := hW.w.2
  have hcwa := cWA_le hW
  have hpu9 := hW.pu.2
  have h2p : 1 ≤ 2 ^ cT s ∧ 2 ^ cT s ≤ 8 ∧ (0 < cT s → 2 ≤ 2 ^ cT s) := tN_le hW
  by_cases g0 : inN (t) (cT s)
  rotate_left
  · skip
    refine ⟨cL (-4611686018427387904), ?_, fun I J hI => ?_⟩
    · unfold TP
      show XP X _ k_H_pays 0 [.ref (0), .int (t), .int (p), .int (y), .int (up), .int (set)] [] _ _
      refine XP_n 3 (pc' := 3) (ls' := [.ref (0), .int (t), .int (p), .int (y), .int (up), .int (set)]) (st' := [.int (t), .ref (80)]) (M' := (I, J, Rx R, N, G)) rfl ?_
      refine XP_pure rfl rfl (c_hasTown hI.1 hW _) ?_
      refine XP_s rfl ?_
      refine XP_beq (fun b4 => ?_) (fun b4 => absurd b4 g0)
      refine XP_n 1 (pc' := 19) (ls' := [.ref (0), .int (t), .int (p), .int (y), .int (up), .int (set)]) (st' := [.long (cL (-4611686018427387904))]) (M' := (I, J, Rx R, N, G)) rfl ?_
      exact XP_ret rfl ⟨rfl, _, _, rfl, hI⟩
    · unfold TP
      show XP X _ k_M_pays 0 [.ref (99), .int (t), .int (p), .int (y), .int (up), .int (set)] [] _ _
      refine XP_n 3 (pc' := 3) (ls' := [.ref (99), .int (t), .int (p), .int (y), .int (up), .int (set)]) (st' := [.ref (99), .int (nI (0)), .int (t)]) (M' := (I, J, Rx R, N, G)) rfl ?_
      refine XP_geti hI.1 rfl rfl rfl ?_
      rw [hW.t.1]
      refine XP_n 2 (pc' := 6) (ls' := [.ref (99), .int (t), .int (p), .int (y), .int (up), .int (set)]) (st' := [.int ((nI (cT s)) - (nI (1))), .int (nI (0)), .int (t)]) (M' := (I, J, Rx R, N, G)) rfl ?_
      refine XP_pure rfl rfl (t_M_in X _ _ (nI 0) (nI (cT s) - nI 1) _) ?_
      rw [show b2i (nI 0 ≤ t ∧ t ≤ nI (cT s) - nI 1) = b2i (inN (t) (cT s)) from b2i_congr (in_n (by omega))]
      refine XP_s rfl ?_
      refine XP_beq (fun b7 => ?_) (fun b7 => absurd b7 g0)
      refine XP_n 1 (pc' := 27) (ls' := [.ref (99), .int (t), .int (p), .int (y), .int (up), .int (set)]) (st' := [.long (cL (-4611686018427387904))]) (M' := (I, J, Rx R, N, G)) rfl ?_
      exact XP_ret rfl ⟨rfl, _, _, rfl, hI⟩
  obtain ⟨tn, htn, rfl, et⟩ := inN_nat g0 (by omega)
  by_cases g1 : inN (p) (cP s)
  rotate_left
  · skip
    refine ⟨cL (-4611686018427387904), ?_, fun I J hI => ?_⟩
    · unfold TP
      show XP X _ k_H_pays 0 [.ref (0), .int (nI (tn)), .int (p), .int (y), .int (up), .int (set)] [] _ _
      refine XP_n 3 (pc' := 3) (ls' := [.ref (0), .int (nI (tn)), .int (p), .int (y), .int (up), .int (set)]) (st' := [.int (nI (tn)), .ref (80)]) (M' := (I, J, Rx R, N, G)) rfl ?_
      refine XP_pure rfl rfl (c_hasTown hI.1 hW _) ?_
      refine XP_s rfl ?_
      refine XP_beq (fun b4 => absurd g0 b4) (fun b4 => ?_)
      refine XP_n 4 (pc' := 9) (ls' := [.ref (0), .int (nI (tn)), .int (p), .int (y), .int (up), .int (set)]) (st' := [.int (up), .int (y), .int (p), .ref (0)]) (M' := (I, J, Rx R, N, G)) rfl ?_
      refine XP_pure rfl rfl (c_rzF hI (fun z => g1 z.1)) ?_
      refine XP_ifN (x := 0)  rfl (by omega) (fun (b10 : 0 = 0) => ?_) (fun (b10 : ¬ 0 = 0) => absurd b10 (by omega))
      refine XP_n 1 (pc' := 19) (ls' := [.ref (0), .int (nI (tn)), .int (p), .int (y), .int (up), .int (set)]) (st' := [.long (cL (-4611686018427387904))]) (M' := (I, J, Rx R, N, G)) rfl ?_
      exact XP_ret rfl ⟨rfl, _, _, rfl, hI⟩
    · unfold TP
      show XP X _ k_M_pays 0 [.ref (99), .int (nI (tn)), .int (p), .int (y), .int (up), .int (set)] [] _ _
      refine XP_n 3 (pc' := 3) (ls' := [.ref (99), .int (nI (tn)), .int (p), .int (y), .int (up), .int (set)]) (st' := [.ref (99), .int (nI (0)), .int (nI (tn))]) (M' := (I, J, Rx R, N, G)) rfl ?_
      refine XP_geti hI.1 rfl rfl rfl ?_
      rw [hW.t.1]
      refine XP_n 2 (pc' := 6) (ls' := [.ref (99), .int (nI (tn)), .int (p), .int (y), .int (up), .int (set)]) (st' := [.int ((nI (cT s)) - (nI (1))), .int (nI (0)), .int (nI (tn))]) (M' := (I, J, Rx R, N, G)) rfl ?_
      refine XP_pure rfl rfl (t_M_in X _ _ (nI 0) (nI (cT s) - nI 1) _) ?_
      rw [show b2i (nI 0 ≤ nI (tn) ∧ nI (tn) ≤ nI (cT s) - nI 1) = b2i (inN (nI (tn)) (cT s)) from b2i_congr (in_n (by omega))]
      refine XP_s rfl ?_
      refine XP_beq (fun b7 => absurd g0 b7) (fun b7 => ?_)
      refine XP_n 4 (pc' := 12) (ls' := [.ref (99), .int (nI (tn)), .int (p), .int (y), .int (up), .int (set)]) (st' := [.int (up), .int (y), .int (p), .ref (99)]) (M' := (I, J, Rx R, N, G)) rfl ?_
      refine XP_pure rfl rfl (m_rzF hI (fun z => g1 z.1)) ?_
      refine XP_ifN (x := 0)  rfl (by omega) (fun (b13 : 0 = 0) => ?_) (fun (b13 : ¬ 0 = 0) => absurd b13 (by omega))
      refine XP_n 1 (pc' := 27) (ls' := [.ref (99), .int (nI (tn)), .int (p), .int (y), .int (up), .int (set)]) (st' := [.long (cL (-4611686018427387904))]) (M' := (I, J, Rx R, N, G)) rfl ?_
      exact XP_ret rfl ⟨rfl, _, _, rfl, hI⟩
  obtain ⟨pn, hpn, rfl, ep⟩ := inN_nat g1 (by omega)
  by_cases g2 : inN (y) (cY s)
  rotate_left
  · skip
    refine ⟨cL (-4611686018427387904), ?_, fun I J hI => ?_⟩
    · unfold TP
      show XP X _ k_H_pays 0 [.ref (0), .int (nI (tn)), .int (nI (pn)), .int (y), .int (up), .int (set)] [] _ _
      refine XP_n 3 (pc' := 3) (ls' := [.ref (0), .int (nI (tn)), .int (nI (pn)), .int (y), .int (up), .int (set)]) (st' := [.int (nI (tn)), .ref (80)]) (M' := (I, J, Rx R, N, G)) rfl ?_
      refine XP_pure rfl rfl (c_hasTown hI.1 hW _) ?_
      refine XP_s rfl ?_
      refine XP_beq (fun b4 => absurd g0 b4) (fun b4 => ?_)
      refine XP_n 4 (pc' := 9) (ls' := [.ref (0), .int (nI (tn)), .int (nI (pn)), .int (y), .int (up), .int (set)]) (st' := [.int (up), .int (y), .int (nI (pn)), .ref (0)]) (M' := (I, J, Rx R, N, G)) rfl ?_
      refine XP_pure rfl rfl (c_rzF hI (fun z => g2 z.2.1)) ?_
      refine XP_ifN (x := 0)  rfl (by omega) (fun (b10 : 0 = 0) => ?_) (fun (b10 : ¬ 0 = 0) => absurd b10 (by omega))
      refine XP_n 1 (pc' := 19) (ls' := [.ref (0), .int (nI (tn)), .int (nI (pn)), .int (y), .int (up), .int (set)]) (st' := [.long (cL (-4611686018427387904))]) (M' := (I, J, Rx R, N, G)) rfl ?_
      exact XP_ret rfl ⟨rfl, _, _, rfl, hI⟩
    · unfold TP
      show XP X _ k_M_pays 0 [.ref (99), .int (nI (tn)), .int (nI (pn)), .int (y), .int (up), .int (set)] [] _ _
      refine XP_n 3 (pc' := 3) (ls' := [.ref (99), .int (nI (tn)), .int (nI (pn)), .int (y), .int (up), .int (set)]) (st' := [.ref (99), .int (nI (0)), .int (nI (tn))]) (M' := (I, J, Rx R, N, G)) rfl ?_
      refine XP_geti hI.1 rfl rfl rfl ?_
      rw [hW.t.1]
      refine XP_n 2 (pc' := 6) (ls' := [.ref (99), .int (nI (tn)), .int (nI (pn)), .int (y), .int (up), .int (set)]) (st' := [.int ((nI (cT s)) - (nI (1))), .int (nI (0)), .int (nI (tn))]) (M' := (I, J, Rx R, N, G)) rfl ?_
      refine XP_pure rfl rfl (t_M_in X _ _ (nI 0) (nI (cT s) - nI 1) _) ?_
      rw [show b2i (nI 0 ≤ nI (tn) ∧ nI (tn) ≤ nI (cT s) - nI 1) = b2i (inN (nI (tn)) (cT s)) from b2i_congr (in_n (by omega))]
      refine XP_s rfl ?_
      refine XP_beq (fun b7 => absurd g0 b7) (fun b7 => ?_)
      refine XP_n 4 (pc' := 12) (ls' := [.ref (99), .int (nI (tn)), .int (nI (pn)), .int (y), .int (up), .int (set)]) (st' := [.int (up), .int (y), .int (nI (pn)), .ref (99)]) (M' := (I, J, Rx R, N, G)) rfl ?_
      refine XP_pure rfl rfl (m_rzF hI (fun z => g2 z.2.1)) ?_
      refine XP_ifN (x := 0)  rfl (by omega) (fun (b13 : 0 = 0) => ?_) (fun (b13 : ¬ 0 = 0) => absurd b13 (by omega))
      refine XP_n 1 (pc' := 27) (ls' := [.ref (99), .int (nI (tn)), .int (nI (pn)), .int (y), .int (up), .int (set)]) (st' := [.long (cL (-4611686018427387904))]) (M' := (I, J, Rx R, N, G)) rfl ?_
      exact XP_ret rfl ⟨rfl, _, _, rfl, hI⟩
  obtain ⟨yn, hyn, rfl, ey⟩ := inN_nat g2 (by omega)
  by_cases g3 : iv 1 30 (up)
  rotate_left
  · skip
    refine ⟨cL (-4611686018427387904), ?_, fun I J hI => ?_⟩
    · unfold TP
      show XP X _ k_H_pays 0 [.ref (0), .int (nI (tn)), .int (nI (pn)), .int (nI (yn)), .int (up), .int (set)] [] _ _
      refine XP_n 3 (pc' := 3) (ls' := [.ref (0), .int (nI (tn)), .int (nI (pn)), .int (nI (yn)), .int (up), .int (set)]) (st' := [.int (nI (tn)), .ref (80)]) (M' := (I, J, Rx R, N, G)) rfl ?_
      refine XP_pure rfl rfl (c_hasTown hI.1 hW _) ?_
      refine XP_s rfl ?_
      refine XP_beq (fun b4 => absurd g0 b4) (fun b4 => ?_)
      refine XP_n 4 (pc' := 9) (ls' := [.ref (0), .int (nI (tn)), .int (nI (pn)), .int (nI (yn)), .int (up), .int (set)]) (st' := [.int (up), .int (nI (yn)), .int (nI (pn)), .ref (0)]) (M' := (I, J, Rx R, N, G)) rfl ?_
      refine XP_pure rfl rfl (c_rzF hI (fun z => g3 z.2.2)) ?_
      refine XP_ifN (x := 0)  rfl (by omega) (fun (b10 : 0 = 0) => ?_) (fun (b10 : ¬ 0 = 0) => absurd b10 (by omega))
      refine XP_n 1 (pc' := 19) (ls' := [.ref (0), .int (nI (tn)), .int (nI (pn)), .int (nI (yn)), .int (up), .int (set)]) (st' := [.long (cL (-4611686018427387904))]) (M' := (I, J, Rx R, N, G)) rfl ?_
      exact XP_ret rfl ⟨rfl, _, _, rfl, hI⟩
    · unfold TP
      show XP X _ k_M_pays 0 [.ref (99), .int (nI (tn)), .int (nI (pn)), .int (nI (yn)), .int (up), .int (set)] [] _ _
      refine XP_n 3 (pc' := 3) (ls' := [.ref (99), .int (nI (tn)), .int (nI (pn)), .int (nI (yn)), .int (up), .int (set)]) (st' := [.ref (99), .int (nI (0)), .int (nI (tn))]) (M' := (I, J, Rx R, N, G)) rfl ?_
      refine XP_geti hI.1 rfl rfl rfl ?_
      rw [hW.t.1]
      refine XP_n 2 (pc' := 6) (ls' := [.ref (99), .int (nI (tn)), .int (nI (pn)), .int (nI (yn)), .int (up), .int (set)]) (st' := [.int ((nI (cT s)) - (nI (1))), .int (nI (0)), .int (nI (tn))]) (M' := (I, J, Rx R, N, G)) rfl ?_
      refine XP_pure rfl rfl (t_M_in X _ _ (nI 0) (nI (cT s) - nI 1) _) ?_
      rw [show b2i (nI 0 ≤ nI (tn) ∧ nI (tn) ≤ nI (cT s) - nI 1) = b2i (inN (nI (tn)) (cT s)) from b2i_congr (in_n (by omega))]
      refine XP_s rfl ?_
      refine XP_beq (fun b7 => absurd g0 b7) (fun b7 => ?_)
      refine XP_n 4 (pc' := 12) (ls' := [.ref (99), .int (nI (tn)), .int (nI (pn)), .int (nI (yn)), .int (up), .int (set)]) (st' := [.int (up), .int (nI (yn)), .int (nI (pn)), .ref (99)]) (M' := (I, J, Rx R, N, G)) rfl ?_
      refine XP_pure rfl rfl (m_rzF hI (fun z => g3 z.2.2)) ?_
      refine XP_ifN (x := 0)  rfl (by omega) (fun (b13 : 0 = 0) => ?_) (fun (b13 : ¬ 0 = 0) => absurd b13 (by omega))
      refine XP_n 1 (pc' := 27) (ls' := [.ref (99), .int (nI (tn)), .int (nI (pn)), .int (nI (yn)), .int (up), .int (set)]) (st' := [.long (cL (-4611686018427387904))]) (M' := (I, J, Rx R, N, G)) rfl ?_
      exact XP_ret rfl ⟨rfl, _, _, rfl, hI⟩
  obtain ⟨upn, hupn0, hupn, rfl, eup⟩ := iv_nat g3 (by omega) (by omega)
  by_cases g4 : iv 0 (2 ^ cT s - 1) (set)
  rotate_left
  · skip
    refine ⟨cL (-4611686018427387904), ?_, fun I J hI => ?_⟩
    · unfold TP
      show XP X _ k_H_pays 0 [.ref (0), .int (nI (tn)), .int (nI (pn)), .int (nI (yn)), .int (nI (upn)), .int (set)] [] _ _
      refine XP_n 3 (pc' := 3) (ls' := [.ref (0), .int (nI (tn)), .int (nI (pn)), .int (nI (yn)), .int (nI (upn)), .int (set)]) (st' := [.int (nI (tn)), .ref (80)]) (M' := (I, J, Rx R, N, G)) rfl ?_
      refine XP_pure rfl rfl (c_hasTown hI.1 hW _) ?_
      refine XP_s rfl ?_
      refine XP_beq (fun b4 => absurd g0 b4) (fun b4 => ?_)
      refine XP_n 4 (pc' := 9) (ls' := [.ref (0), .int (nI (tn)), .int (nI (pn)), .int (nI (yn)), .int (nI (upn)), .int (set)]) (st' := [.int (nI (upn)), .int (nI (yn)), .int (nI (pn)), .ref (0)]) (M' := (I, J, Rx R, N, G)) rfl ?_
      refine XP_pure rfl rfl (c_rzT hI ⟨g1, g2, g3⟩) ?_
      refine XP_ifN (x := 1)  rfl (by omega) (fun (b10 : 1 = 0) => absurd b10 (by omega)) (fun (b10 : ¬ 1 = 0) => ?_)
      refine XP_n 4 (pc' := 15) (ls' := [.ref (0), .int (nI (tn)), .int (nI (pn)), .int (nI (yn)), .int (nI (upn)), .int (set)]) (st' := [.ref (80), .int (nI (0)), .int (set)]) (M' := (I, J, Rx R, N, G)) rfl ?_
      refine XP_pure rfl rfl (c_allT hI.1 hW) ?_
      refine XP_pure rfl rfl (w_H X _ _ 0 (2 ^ cT s - 1) _) ?_
      refine XP_s rfl ?_
      refine XP_bne (fun b17 => absurd b17 g4) (fun b17 => ?_)
      refine XP_n 1 (pc' := 19) (ls' := [.ref (0), .int (nI (tn)), .int (nI (pn)), .int (nI (yn)), .int (nI (upn)), .int (set)]) (st' := [.long (cL (-4611686018427387904))]) (M' := (I, J, Rx R, N, G)) rfl ?_
      exact XP_ret rfl ⟨rfl, _, _, rfl, hI⟩
    · unfold TP
      show XP X _ k_M_pays 0 [.ref (99), .int (nI (tn)), .int (nI (pn)), .int (nI (yn)), .int (nI (upn)), .int (set)] [] _ _
      refine XP_n 3 (pc' := 3) (ls' := [.ref (99), .int (nI (tn)), .int (nI (pn)), .int (nI (yn)), .int (nI (upn)), .int (set)]) (st' := [.ref (99), .int (nI (0)), .int (nI (tn))]) (M' := (I, J, Rx R, N, G)) rfl ?_
      refine XP_geti hI.1 rfl rfl rfl ?_
      rw [hW.t.1]
      refine XP_n 2 (pc' := 6) (ls' := [.ref (99), .int (nI (tn)), .int (nI (pn)), .int (nI (yn)), .int (nI (upn)), .int (set)]) (st' := [.int ((nI (cT s)) - (nI (1))), .int (nI (0)), .int (nI (tn))]) (M' := (I, J, Rx R, N, G)) rfl ?_
      refine XP_pure rfl rfl (t_M_in X _ _ (nI 0) (nI (cT s) - nI 1) _) ?_
      rw [show b2i (nI 0 ≤ nI (tn) ∧ nI (tn) ≤ nI (cT s) - nI 1) = b2i (inN (nI (tn)) (cT s)) from b2i_congr (in_n (by omega))]
      refine XP_s rfl ?_
      refine XP_beq (fun b7 => absurd g0 b7) (fun b7 => ?_)
      refine XP_n 4 (pc' := 12) (ls' := [.ref (99), .int (nI (tn)), .int (nI (pn)), .int (nI (yn)), .int (nI (upn)), .int (set)]) (st' := [.int (nI (upn)), .int (nI (yn)), .int (nI (pn)), .ref (99)]) (M' := (I, J, Rx R, N, G)) rfl ?_
      refine XP_pure rfl rfl (m_rzT hI ⟨g1, g2, g3⟩) ?_
      refine XP_ifN (x := 1)  rfl (by omega) (fun (b13 : 1 = 0) => absurd b13 (by omega)) (fun (b13 : ¬ 1 = 0) => ?_)
      refine XP_n 2 (pc' := 16) (ls' := [.ref (99), .int (nI (tn)), .int (nI (pn)), .int (nI (yn)), .int (nI (upn)), .int (set)]) (st' := [.int (set), .ref (99)]) (M' := (I, J, Rx R, N, G)) rfl ?_
      refine XP_pure rfl rfl (m_areT hI.1 hW _) ?_
      refine XP_s rfl ?_
      refine XP_beq (fun b17 => ?_) (fun b17 => absurd b17 g4)
      refine XP_n 1 (pc' := 27) (ls' := [.ref (99), .int (nI (tn)), .int (nI (pn)), .int (nI (yn)), .int (nI (upn)), .int (set)]) (st' := [.long (cL (-4611686018427387904))]) (M' := (I, J, Rx R, N, G)) rfl ?_
      exact XP_ret rfl ⟨rfl, _, _, rfl, hI⟩
  obtain ⟨setn, hsetn0, hsetn, rfl, eset⟩ := iv_nat g4 (by omega) (by omega)
  refine ⟨lN (tPay s pn yn upn setn tn), ?_, fun I J hI => ?_⟩
  · have hy := hyn
    have hp := hpn
    have hup := hupn
    have hlv := (nLv_ok hW hpn (show yn ≤ 15 by omega)).2
    unfold TP
    show XP X _ k_H_pays 0 [.ref (0), .int (nI (tn)), .int (nI (pn)), .int (nI (yn)), .int (nI (upn)), .int (nI (setn))] [] _ _
    refine XP_n 3 (pc' := 3) (ls' := [.ref (0), .int (nI (tn)), .int (nI (pn)), .int (nI (yn)), .int (nI (upn)), .int (nI (setn))]) (st' := [.int (nI (tn)), .ref (80)]) (M' := (I, J, Rx R, N, G)) rfl ?_
    refine XP_pure rfl rfl (c_hasTown hI.1 hW _) ?_
    refine XP_s rfl ?_
    refine XP_beq (fun b4 => absurd g0 b4) (fun b4 => ?_)
    refine XP_n 4 (pc' := 9) (ls' := [.ref (0), .int (nI (tn)), .int (nI (pn)), .int (nI (yn)), .int (nI (upn)), .int (nI (setn))]) (st' := [.int (nI (upn)), .int (nI (yn)), .int (nI (pn)), .ref (0)]) (M' := (I, J, Rx R, N, G)) rfl ?_
    refine XP_pure rfl rfl (c_rzT hI ⟨g1, g2, g3⟩) ?_
    refine XP_ifN (x := 1)  rfl (by omega) (fun (b10 : 1 = 0) => absurd b10 (by omega)) (fun (b10 : ¬ 1 = 0) => ?_)
    refine XP_n 4 (pc' := 15) (ls' := [.ref (0), .int (nI (tn)), .int (nI (pn)), .int (nI (yn)), .int (nI (upn)), .int (nI (setn))]) (st' := [.ref (80), .int (nI (0)), .int (nI (setn))]) (M' := (I, J, Rx R, N, G)) rfl ?_
    refine XP_pure rfl rfl (c_allT hI.1 hW) ?_
    refine XP_pure rfl rfl (w_H X _ _ 0 (2 ^ cT s - 1) _) ?_
    refine XP_s rfl ?_
    refine XP_bne (fun b17 => ?_) (fun b17 => absurd g4 b17)
    refine XP_n 5 (pc' := 25) (ls' := [.ref (0), .int (nI (tn)), .int (nI (pn)), .int (nI (yn)), .int (nI (upn)), .int (nI (setn))]) (st' := [.int (nI (upn)), .int (nI (yn)), .int (nI (pn)), .ref (80)]) (M' := (I, J, Rx R, N, G)) rfl ?_
    refine XP_call rfl rfl (c_look hI (show pn < cP s by omega) (show yn < cY s by omega) (up := upn)) ?_
    rintro v22 M22 ⟨rfl, I22, rfl, hI22, h5_22, h6_22, h7_22⟩
    refine XP_n 4 (pc' := 30) (ls' := [.ref (0), .int (nI (tn)), .int (nI (pn)), .int (nI (yn)), .int (nI (upn)), .int (nI (setn))]) (st' := [.int (nI (setn)), .int (nI (tn)), .ref (80)]) (M' := (I22, J, Rx R, N, G)) rfl ?_
    refine XP_call rfl rfl (c_payOf hI22 (show setn < 8 by omega) (show tn < cT s by omega) hup hy hlv h5_22 h6_22 h7_22) ?_
    rintro v23 M23 ⟨rfl, I23, rfl, hI23, hO23⟩
    have f23_80_5 : I23 80 5 = nI (nLv s (pn) (yn)) := (congrFun (hO23 80 (by have := oT_ge (cLw s); simp; omega)) 5).trans h5_22
    have f23_80_6 : I23 80 6 = nI (yn) := (congrFun (hO23 80 (by have := oT_ge (cLw s); simp; omega)) 6).trans h6_22
    have f23_80_7 : I23 80 7 = nI (upn) := (congrFun (hO23 80 (by have := oT_ge (cLw s); simp; omega)) 7).trans h7_22
    exact XP_ret rfl ⟨rfl, _, _, rfl, hI23⟩
  · have hy := hyn
    have hp := hpn
    have hup := hupn
    have hlv := (nLv_ok hW hpn (show yn ≤ 15 by omega)).2
    unfold TP
    show XP X _ k_M_pays 0 [.ref (99), .int (nI (tn)), .int (nI (pn)), .int (nI (yn)), .int (nI (upn)), .int (nI (setn))] [] _ _
    refine XP_n 3 (pc' := 3) (ls' := [.ref (99), .int (nI (tn)), .int (nI (pn)), .int (nI (yn)), .int (nI (upn)), .int (nI (setn))]) (st' := [.ref (99), .int (nI (0)), .int (nI (tn))]) (M' := (I, J, Rx R, N, G)) rfl ?_
    refine XP_geti hI.1 rfl rfl rfl ?_
    rw [hW.t.1]
    refine XP_n 2 (pc' := 6) (ls' := [.ref (99), .int (nI (tn)), .int (nI (pn)), .int (nI (yn)), .int (nI (upn)), .int (nI (setn))]) (st' := [.int ((nI (cT s)) - (nI (1))), .int (nI (0)), .int (nI (tn))]) (M' := (I, J, Rx R, N, G)) rfl ?_
    refine XP_pure rfl rfl (t_M_in X _ _ (nI 0) (nI (cT s) - nI 1) _) ?_
    rw [show b2i (nI 0 ≤ nI (tn) ∧ nI (tn) ≤ nI (cT s) - nI 1) = b2i (inN (nI (tn)) (cT s)) from b2i_congr (in_n (by omega))]
    refine XP_s rfl ?_
    refine XP_beq (fun b7 => absurd g0 b7) (fun b7 => ?_)
    refine XP_n 4 (pc' := 12) (ls' := [.ref (99), .int (nI (tn)), .int (nI (pn)), .int (nI (yn)), .int (nI (upn)), .int (nI (setn))]) (st' := [.int (nI (upn)), .int (nI (yn)), .int (nI (pn)), .ref (99)]) (M' := (I, J, Rx R, N, G)) rfl ?_
    refine XP_pure rfl rfl (m_rzT hI ⟨g1, g2, g3⟩) ?_
    refine XP_ifN (x := 1)  rfl (by omega) (fun (b13 : 1 = 0) => absurd b13 (by omega)) (fun (b13 : ¬ 1 = 0) => ?_)
    refine XP_n 2 (pc' := 16) (ls' := [.ref (99), .int (nI (tn)), .int (nI (pn)), .int (nI (yn)), .int (nI (upn)), .int (nI (setn))]) (st' := [.int (nI (setn)), .ref (99)]) (M' := (I, J, Rx R, N, G)) rfl ?_
    refine XP_pure rfl rfl (m_areT hI.1 hW _) ?_
    refine XP_s rfl ?_
    refine XP_beq (fun b17 => absurd g4 b17) (fun b17 => ?_)
    refine XP_n 6 (pc' := 24) (ls' := [.ref (99), .int (nI (tn)), .int (nI (pn)), .int (nI (yn)), .int (nI (upn)), .int (nI (setn))]) (st' := [.int (nI (setn)), .int (nI (upn)), .int (nI (yn)), .int (nI (pn)), .int (nI (tn)), .ref (99)]) (M' := (I, J, Rx R, N, G)) rfl ?_
    refine XP_call rfl (rfl) (m_paysOf hI (show setn < 8 by omega) (show tn < cT s by omega) hup hy hp) ?_
    rintro v24 M24 ⟨rfl, I24, J24, rfl, hI24⟩
    have htp24 := tPay_le hW pn yn upn (setn) (tn)
    refine XP_n 1 (pc' := 27) (ls' := [.ref (99), .int (nI (tn)), .int (nI (pn)), .int (nI (yn)), .int (nI (upn)), .int (nI (setn))]) (st' := [.long (lN (tPay s pn yn upn setn tn))]) (M' := (I24, J24, Rx R, N, G)) rfl ?_
    exact XP_ret rfl ⟨rfl, _, _, rfl, hI24⟩
theorem l_pall (hW : Wf s) {m p y up : Nat} (hm : m < 8) (hup : up ≤ 30) (hy : y < cY s) (hlv : nLv s p y ≤ 150) : ∀ (n i : Nat) (I1 : Nat → Nat → Int32), i + n = cT s → Inv s R N I1 J → Only [oT (cLw s) + 3, oT (cLw s) + 2] I I1 → I1 80 5 = nI (nLv s p y) → I1 80 6 = nI y → I1 80 7 = nI up → XP X (d + 6) k_Bay_payOfAll 4 [.ref (80), .int (nI (m)), .long (lN (sumN (tPay s p y up m) (i))), xj, .int (nI (i))] [] (I1, J, Rx R, N, G) (fun v M' => v = some (.long (lN (tAll s p y up m))) ∧ ∃ I', M' = (I', J, Rx R, N, G) ∧ Inv s R N I' J ∧ Only [oT (cLw s) + 3, oT (cLw s) + 2] I I') := by
  have ht3 := hW.t.2
  have hpu9 := hW.pu.2
  have hp4 := hW.p.2
  have hy16 := hW.y.2
  have h2p : 1 ≤ 2 ^ cT s ∧ 2 ^ cT s ≤ 8 ∧ (0 < cT s → 2 ≤ 2 ^ cT s) := tN_le hW
  intro n
  induction n with
  | zero =>
    rintro i I1 hi hI hO h5 h6 h7
    obtain rfl : i = cT s := by omega
    refine XP_n 2 (pc' := 6) (ls' := [.ref (80), .int (nI (m)), .long (lN (sumN (tPay s p y up m) (cT s))), xj, .int (nI (cT s))]) (st' := [.ref (80), .int (nI (cT s))]) (M' := (I1, J, Rx R, N, G)) rfl ?_
    refine XP_geti hI.1 rfl rfl rfl ?_
    rw [hW.t.1]
    refine XP_icN (x := cT s) (y := cT s) rfl (by omega) (by omega) (fun (b7 : cT s ≤ cT s) => ?_) (fun (b7 : cT s < cT s) => absurd b7 (by omega))
    refine XP_n 1 (pc' := 18) (ls' := [.ref (80), .int (nI (m)), .long (lN (sumN (tPay s p y up m) (cT s))), xj, .int (nI (cT s))]) (st' := [.long (lN (sumN (tPay s p y up m) (cT s)))]) (M' := (I1, J, Rx R, N, G)) rfl ?_
    exact XP_ret rfl ⟨rfl, _, rfl, hI, hO⟩
  | succ n ih =>
    rintro i I1 hi hI hO h5 h6 h7
    have hsl := tSum_le hW p y up m (show i ≤ cT s by omega)
    refine XP_n 2 (pc' := 6) (ls' := [.ref (80), .int (nI (m)), .long (lN (sumN (tPay s p y up m) (i))), xj, .int (nI (i))]) (st' := [.ref (80), .int (nI (i))]) (M' := (I1, J, Rx R, N, G)) rfl ?_
    refine XP_geti hI.1 rfl rfl rfl ?_
    rw [hW.t.1]
    refine XP_icN (x := i) (y := cT s) rfl (by omega) (by omega) (fun (b7 : cT s ≤ i) => absurd b7 (by omega)) (fun (b7 : i < cT s) => ?_)
    refine XP_n 4 (pc' := 12) (ls' := [.ref (80), .int (nI (m)), .long (lN (sumN (tPay s p y up m) (i))), xj, .int (nI (i))]) (st' := [.int (nI (m)), .int (nI (i)), .ref (80), .long (lN (sumN (tPay s p y up m) (i)))]) (M' := (I1, J, Rx R, N, G)) rfl ?_
    refine XP_call rfl rfl (c_payOf hI (show m < 8 by omega) (show i < cT s by omega) hup hy hlv h5 h6 h7) ?_
    rintro v25 M25 ⟨rfl, I25, rfl, hI25, hO25⟩
    have f25_80_5 : I25 80 5 = nI (nLv s p y) := (congrFun (hO25 80 (by have := oT_ge (cLw s); simp; omega)) 5).trans h5
    have f25_80_6 : I25 80 6 = nI (y) := (congrFun (hO25 80 (by have := oT_ge (cLw s); simp; omega)) 6).trans h6
    have f25_80_7 : I25 80 7 = nI (up) := (congrFun (hO25 80 (by have := oT_ge (cLw s); simp; omega)) 7).trans h7
    have hn25 : Only [oT (cLw s) + 3, oT (cLw s) + 2] I I25 := Only.c hO hO25 (by simp)
    have htp25 := tPay_le hW p y up (m) (i)
    refine XP_n 2 (pc' := 15) (ls' := [.ref (80), .int (nI (m)), .long ((lN (sumN (tPay s p y up m) (i))) + (lN (tPay s p y up m i))), xj, .int (nI (i))]) (st' := []) (M' := (I25, J, Rx R, N, G)) rfl ?_
    rw [show (lN (sumN (tPay s p y up m) (i))) + (lN (tPay s p y up m i)) = lN (sumN (tPay s p y up m) (i) + tPay s p y up m i) from lN_addE (rfl) (rfl)]
    refine XP_n 1 (pc' := 16) (ls' := [.ref (80), .int (nI (m)), .long (lN (sumN (tPay s p y up m) (i) + tPay s p y up m i)), xj, .int (nI (i) + nI (1))]) (st' := []) (M' := (I25, J, Rx R, N, G)) rfl ?_
    rw [show nI (i) + nI (1) = nI (i + 1) from nI_addE (rfl) rfl]
    refine XP_n 1 (pc' := 4) (ls' := [.ref (80), .int (nI (m)), .long (lN (sumN (tPay s p y up m) (i) + tPay s p y up m i)), xj, .int (nI (i + 1))]) (st' := []) (M' := (I25, J, Rx R, N, G)) rfl ?_
    exact ih (i + 1) _ (by omega) hI25 hn25 f25_80_5 f25_80_6 f25_80_7
theorem c_payAll (hI : Inv s R N I J) {m p y up : Nat} (hm : m < 8) (hup : up ≤ 30) (hy : y < cY s) (hlv : nLv s p y ≤ 150) (h5 : I 80 5 = nI (nLv s p y)) (h6 : I 80 6 = nI y) (h7 : I 80 7 = nI up) : TP X (d + 6) n_Bay_payOfAll [.ref 80, .int (nI m)] (I, J, Rx R, N, G) (fun v M' => v = some (.long (lN (tAll s p y up m))) ∧ ∃ I', M' = (I', J, Rx R, N, G) ∧ Inv s R N I' J ∧ Only [oT (cLw s) + 3, oT (cLw s) + 2] I I') := by
  unfold TP
  show XP X _ k_Bay_payOfAll 0 [.ref (80), .int (nI (m)), xj, xj, xj] [] _ _
  refine XP_n 4 (pc' := 4) (ls' := [.ref (80), .int (nI (m)), .long (lN (0)), xj, .int (nI (0))]) (st' := []) (M' := (I, J, Rx R, N, G)) rfl ?_
  exact l_pall hI.2.1 hm hup hy hlv (cT s) 0 _ (by omega) hI Only.rf h5 h6 h7
theorem l_rest (hW : Wf s) {m p y up : Nat} (hm2 : m < 2 ^ cT s) (hm : m < 8) (hup : up ≤ 30) (hy : y < cY s) (hlv : nLv s p y ≤ 150) : ∀ (n i : Nat) (I1 : Nat → Nat → Int32), i + n = cT s → Inv s R N I1 J → Only [oT (cLw s) + 3, oT (cLw s) + 2] I I1 → I1 80 5 = nI (nLv s p y) → I1 80 6 = nI y → I1 80 7 = nI up → tRs s p y up m i = true → XP X (d + 6) k_Bay_isRest 2 [.ref (80), .int (nI (m)), .int (nI (i))] [] (I1, J, Rx R, N, G) (fun v M' => v = some (.int (nI (tRs s p y up m (cT s)).toNat)) ∧ ∃ I', M' = (I', J, Rx R, N, G) ∧ Inv s R N I' J ∧ Only [oT (cLw s) + 3, oT (cLw s) + 2] I I') := by
  have ht3 := hW.t.2
  have hpu9 := hW.pu.2
  have hp4 := hW.p.2
  have hy16 := hW.y.2
  have h2p : 1 ≤ 2 ^ cT s ∧ 2 ^ cT s ≤ 8 ∧ (0 < cT s → 2 ≤ 2 ^ cT s) := tN_le hW
  intro n
  induction n with
  | zero =>
    rintro i I1 hi hI hO h5 h6 h7 hr
    obtain rfl : i = cT s := by omega
    refine XP_n 2 (pc' := 4) (ls' := [.ref (80), .int (nI (m)), .int (nI (cT s))]) (st' := [.ref (80), .int (nI (cT s))]) (M' := (I1, J, Rx R, N, G)) rfl ?_
    refine XP_geti hI.1 rfl rfl rfl ?_
    rw [hW.t.1]
    refine XP_icN (x := cT s) (y := cT s) rfl (by omega) (by omega) (fun (b5 : cT s ≤ cT s) => ?_) (fun (b5 : cT s < cT s) => absurd b5 (by omega))
    refine XP_n 1 (pc' := 25) (ls' := [.ref (80), .int (nI (m)), .int (nI (cT s))]) (st' := [.int (nI (1))]) (M' := (I1, J, Rx R, N, G)) rfl ?_
    exact XP_ret rfl ⟨by rw [hr]; rfl, _, rfl, hI, hO⟩
  | succ n ih =>
    rintro i I1 hi hI hO h5 h6 h7 hr
    have hsl := tSum_le hW p y up m (show i ≤ cT s by omega)
    have hxb := xb_lt ht3 hm2 (show i < cT s by omega)
    refine XP_n 2 (pc' := 4) (ls' := [.ref (80), .int (nI (m)), .int (nI (i))]) (st' := [.ref (80), .int (nI (i))]) (M' := (I1, J, Rx R, N, G)) rfl ?_
    refine XP_geti hI.1 rfl rfl rfl ?_
    rw [hW.t.1]
    refine XP_icN (x := i) (y := cT s) rfl (by omega) (by omega) (fun (b5 : cT s ≤ i) => absurd b5 (by omega)) (fun (b5 : i < cT s) => ?_)
    refine XP_n 7 (pc' := 13) (ls' := [.ref (80), .int (nI (m)), .int (nI (i))]) (st' := [.int ((nI (m)) ^^^ ((nI (1)) <<< ((nI (i)) &&& 31))), .int (nI (i)), .ref (80)]) (M' := (I1, J, Rx R, N, G)) rfl ?_
    rw [show (nI (m)) ^^^ ((nI (1)) <<< ((nI (i)) &&& 31)) = nI (xb m i) from b_xb (show m < 8 by omega) (show i < 3 by omega)]
    refine XP_call rfl rfl (c_payOf hI (show xb m i < 8 by omega) (show i < cT s by omega) hup hy hlv h5 h6 h7) ?_
    rintro v26 M26 ⟨rfl, I26, rfl, hI26, hO26⟩
    have f26_80_5 : I26 80 5 = nI (nLv s p y) := (congrFun (hO26 80 (by have := oT_ge (cLw s); simp; omega)) 5).trans h5
    have f26_80_6 : I26 80 6 = nI (y) := (congrFun (hO26 80 (by have := oT_ge (cLw s); simp; omega)) 6).trans h6
    have f26_80_7 : I26 80 7 = nI (up) := (congrFun (hO26 80 (by have := oT_ge (cLw s); simp; omega)) 7).trans h7
    have hn26 : Only [oT (cLw s) + 3, oT (cLw s) + 2] I I26 := Only.c hO hO26 (by simp)
    have htp26 := tPay_le hW p y up (xb m i) (i)
    refine XP_n 3 (pc' := 17) (ls' := [.ref (80), .int (nI (m)), .int (nI (i))]) (st' := [.int (nI (m)), .int (nI (i)), .ref (80), .long (lN (tPay s p y up (xb m i) i))]) (M' := (I26, J, Rx R, N, G)) rfl ?_
    refine XP_call rfl rfl (c_payOf hI26 (show m < 8 by omega) (show i < cT s by omega) hup hy hlv f26_80_5 f26_80_6 f26_80_7) ?_
    rintro v27 M27 ⟨rfl, I27, rfl, hI27, hO27⟩
    have f27_80_5 : I27 80 5 = nI (nLv s p y) := (congrFun (hO27 80 (by have := oT_ge (cLw s); simp; omega)) 5).trans f26_80_5
    have f27_80_6 : I27 80 6 = nI (y) := (congrFun (hO27 80 (by have := oT_ge (cLw s); simp; omega)) 6).trans f26_80_6
    have f27_80_7 : I27 80 7 = nI (up) := (congrFun (hO27 80 (by have := oT_ge (cLw s); simp; omega)) 7).trans f26_80_7
    have hn27 : Only [oT (cLw s) + 3, oT (cLw s) + 2] I I27 := Only.c hn26 hO27 (by simp)
    have htp27 := tPay_le hW p y up (m) (i)
    refine XP_lcN (x := tPay s p y up (xb m i) i) (y := tPay s p y up m i) rfl rfl (by omega) (by omega) (fun (b19 : tPay s p y up m i ≤ tPay s p y up (xb m i) i) => ?_) (fun (b19 : tPay s p y up (xb m i) i < tPay s p y up m i) => ?_)
    · refine XP_n 1 (pc' := 23) (ls' := [.ref (80), .int (nI (m)), .int (nI (i) + nI (1))]) (st' := []) (M' := (I27, J, Rx R, N, G)) rfl ?_
      rw [show nI (i) + nI (1) = nI (i + 1) from nI_addE (rfl) rfl]
      refine XP_n 1 (pc' := 2) (ls' := [.ref (80), .int (nI (m)), .int (nI (i + 1))]) (st' := []) (M' := (I27, J, Rx R, N, G)) rfl ?_
      exact ih (i + 1) _ (by omega) hI27 hn27 f27_80_5 f27_80_6 f27_80_7 (by unfold tRs; rw [hr, decide_eq_true (by omega)]; rfl)
    · refine XP_n 1 (pc' := 21) (ls' := [.ref (80), .int (nI (m)), .int (nI (i))]) (st' := [.int (nI (0))]) (M' := (I27, J, Rx R, N, G)) rfl ?_
      exact XP_ret rfl ⟨by rw [tRs_f (show ¬ tPay s p y up m i ≤ tPay s p y up (xb m i) i by omega) (cT s) (by omega)]; rfl, _, rfl, hI27, hn27⟩
theorem c_isRest (hI : Inv s R N I J) {m p y up : Nat} (hm2 : m < 2 ^ cT s) (hm : m < 8) (hup : up ≤ 30) (hy : y < cY s) (hlv : nLv s p y ≤ 150) (h5 : I 80 5 = nI (nLv s p y)) (h6 : I 80 6 = nI y) (h7 : I 80 7 = nI up) : TP X (d + 6) n_Bay_isRest [.ref 80, .int (nI m)] (I, J, Rx R, N, G) (fun v M' => v = some (.int (nI (tRs s p y up m (cT s)).toNat)) ∧ ∃ I', M' = (I', J, Rx R, N, G) ∧ Inv s R N I' J ∧ Only [oT (cLw s) + 3, oT (cLw s) + 2] I I') := by
  unfold TP
  show XP X _ k_Bay_isRest 0 [.ref (80), .int (nI (m)), xj] [] _ _
  refine XP_n 2 (pc' := 2) (ls' := [.ref (80), .int (nI (m)), .int (nI (0))]) (st' := []) (M' := (I, J, Rx R, N, G)) rfl ?_
  exact l_rest hI.2.1 hm2 hm hup hy hlv (cT s) 0 _ (by omega) hI Only.rf h5 h6 h7 rfl
end
