/-! paths that stand -/
theorem t_C_hasPath (X : hX) (d : Nat) {s I : Nat → Nat → Int32} {J : Nat → Nat → Int64} {R : Nat → Nat → Option Nat} {N : Nat → Nat} {G : hG} (hS : St s I) {np : Nat} (hnp : np ≤ 4) (hp : s 99 4 = nI np) (v : Int32) : TP X d n_Coast_hasPath [.ref 1, .int v] (I, J, Rx R, N, G) (Ret (.int (b2i (inN v np))) (I, J, Rx R, N, G)) := by
  have no : ¬ inN v np → XP X d k_Coast_hasPath 11 [.ref 1, .int v] [] (I, J, Rx R, N, G) (Ret (.int (b2i (inN v np))) (I, J, Rx R, N, G)) := by
    intro hn
    refine XP_s rfl ?_
    rw [show cI 0 = b2i (inN v np) from (b2i_f hn).symm]
    exact ret_b rfl ⟨rfl, rfl⟩
  unfold TP
  refine XP_s rfl ?_
  refine XP_s rfl ?_
  refine XP_dec (P := v < nI 0) (fun h => no (fun z => ((lt_iff (by omega)).mpr z).1 h)) (fun h => ?_)
  refine XP_s rfl ?_
  refine XP_s rfl ?_
  refine XP_geti hS rfl rfl rfl ?_
  rw [hp]
  refine XP_s rfl ?_
  refine XP_dec (P := nI np ≤ v) (fun h1 => no (fun z => absurd ((lt_iff (by omega)).mpr z).2 (Int32.not_lt.mpr h1))) (fun h1 => ?_)
  have h2 := Int32.not_le.mp h1
  have h3 : inN v np := (lt_iff (by omega)).mp ⟨h, h2⟩
  refine XP_s rfl ?_
  refine XP_s rfl ?_
  refine XP_s rfl ?_
  refine XP_dec (P := nI 4 ≤ v) (fun h4 => absurd (Int32.lt_of_lt_of_le h2 ((nI_leI (by omega) (by omega)).mpr hnp)) (Int32.not_lt.mpr h4)) (fun _ => ?_)
  refine XP_s rfl ?_
  refine XP_s rfl ?_
  rw [show cI 1 = b2i (inN v np) from (b2i_t h3).symm]
  exact ret_b rfl ⟨rfl, rfl⟩
theorem t_M_isPath (X : hX) (d : Nat) {s I : Nat → Nat → Int32} {J : Nat → Nat → Int64} {R : Nat → Nat → Option Nat} {N : Nat → Nat} {G : hG} (hS : St s I) {np : Nat} (hnp : np ≤ 4) (h0 : 0 < np) (hp : s 99 4 = nI np) (v : Int32) : TP X (d + 1) n_M_isPath [.ref 99, .int v] (I, J, Rx R, N, G) (Ret (.int (b2i (inN v np))) (I, J, Rx R, N, G)) := by
  unfold TP
  refine XP_s rfl ?_
  refine XP_s rfl ?_
  refine XP_s rfl ?_
  refine XP_geti hS rfl rfl rfl ?_
  rw [hp]
  refine XP_s rfl ?_
  refine XP_s rfl ?_
  rw [cI_1, nI_sub h0]
  refine XP_pure rfl rfl (w_M X d v 0 (np - 1) _) ?_
  rw [show b2i (iv 0 (np - 1) v) = b2i (inN v np) by unfold b2i; simp only [in_iff (x := v) (n := np) (by omega) h0]]
  exact ret_b rfl ⟨rfl, rfl⟩
