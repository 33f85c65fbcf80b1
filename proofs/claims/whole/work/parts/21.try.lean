theorem t_M_in (X : hX) (d : Nat) (v lo hi : Int32) (M : hM) : TP X d n_M_in [.int v, .int lo, .int hi] M (Ret (.int (b2i (lo ≤ v ∧ v ≤ hi))) M) := by
  unfold TP
  refine XP_s rfl ?_
  refine XP_s rfl ?_
  refine XP_s rfl ?_
  refine XP_dec (fun h => ?_) (fun h => ?_)
  · refine XP_s rfl ?_
    refine XP_ret rfl ?_
    sorry
  · sorry
