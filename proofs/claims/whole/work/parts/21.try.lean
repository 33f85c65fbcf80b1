theorem t_M_in (X : hX) (d : Nat) (v lo hi : Int32) (M : hM) : TP X d n_M_in [.int v, .int lo, .int hi] M (Ret (.int (b2i (lo ≤ v ∧ v ≤ hi))) M) := by
  unfold TP
  repeat' (first | refine XP_dec (fun h => ?_) (fun h => ?_) | refine XP_s rfl ?_ | refine XP_ret rfl ?_)
  all_goals skip
  done
theorem t_M_levelOf (X : hX) (d : Nat) (I J R N G) (p y : Int32) : TP X d n_M_levelOf [.ref 99, .int p, .int y] (I, J, Rx R, N, G) (Ret (.int 0) (I, J, Rx R, N, G)) := by
  unfold TP
  repeat' (first | refine XP_dec (fun h => ?_) (fun h => ?_) | refine XP_s rfl ?_ | refine XP_ret rfl ?_)
  done
