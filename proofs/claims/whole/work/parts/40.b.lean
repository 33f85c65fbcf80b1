/-! faces of level -/
def fLevel (s : Nat → Nat → Int32) (np : Nat) (p y : Int32) : Int32 := if inN p np then (if iv 0 15 y then sLevel s p.toInt.toNat y else cI (-7)) else cI (-5)
theorem t_M_level (X : hX) (d : Nat) {s I : Nat → Nat → Int32} {J : Nat → Nat → Int64} {R : Nat → Nat → Option Nat} {N : Nat → Nat} {G : hG} (hS : St s I) {np : Nat} (hnp : np ≤ 4) (h0 : 0 < np) (hp : s 99 4 = nI np) (p y : Int32) : TP X (d + 2) n_M_level [.ref 99, .int p, .int y] (I, J, Rx R, N, G) (Ret (.int (fLevel s np p y)) (I, J, Rx R, N, G)) := by
  unfold TP fLevel
  refine XP_s rfl ?_
  refine XP_s rfl ?_
  refine XP_pure rfl rfl (t_M_isPath X d hS hnp h0 hp p) ?_
  refine XP_s rfl ?_
  refine XP_bne (fun h1 => ?_) (fun h1 => ?_)
  · rw [if_pos h1]
    obtain ⟨j, hj, rfl, e⟩ := inN_of h1 (by omega)
    rw [e]
    refine XP_s rfl ?_
    refine XP_s rfl ?_
    refine XP_s rfl ?_
    refine XP_pure rfl rfl (w_M X (d + 1) y 0 15 _) ?_
    refine XP_s rfl ?_
    refine XP_beq (fun h2 => ?_) (fun h2 => ?_)
    · rw [if_neg h2]
      refine XP_s rfl ?_
      exact XP_ret rfl ⟨rfl, rfl⟩
    · rw [if_pos h2]
      refine XP_s rfl ?_
      refine XP_s rfl ?_
      refine XP_s rfl ?_
      refine XP_pure rfl rfl (t_M_levelOf X (d + 1) hS (p := j) (y := y) (by omega)) ?_
      refine XP_s rfl ?_
      exact XP_ret rfl ⟨rfl, rfl⟩
  · rw [if_neg h1]
    refine XP_s rfl ?_
    refine XP_s rfl ?_
    exact XP_ret rfl ⟨rfl, rfl⟩
theorem t_H_level (X : hX) (d : Nat) {s I : Nat → Nat → Int32} {J : Nat → Nat → Int64} {R : Nat → Nat → Option Nat} {N : Nat → Nat} {G : hG} (hS : St s I) {np : Nat} (hnp : np ≤ 4) (hp : s 99 4 = nI np) (p y : Int32) : TP X (d + 2) n_H_level [.ref 0, .int p, .int y] (I, J, Rx R, N, G) (Ret (.int (fLevel s np p y)) (I, J, Rx R, N, G)) := by
  unfold TP fLevel
  refine XP_s rfl ?_
  refine XP_s rfl ?_
  refine XP_s rfl ?_
  refine XP_pure rfl rfl (t_C_hasPath X (d + 1) hS hnp hp p) ?_
  refine XP_s rfl ?_
  refine XP_bne (fun h1 => ?_) (fun h1 => ?_)
  · rw [if_pos h1]
    obtain ⟨j, hj, rfl, e⟩ := inN_of h1 (by omega)
    rw [e]
    refine XP_s rfl ?_
    refine XP_pure rfl rfl (t_H_isAnyYear X d y _) ?_
    refine XP_s rfl ?_
    refine XP_beq (fun h2 => ?_) (fun h2 => ?_)
    · rw [if_neg h2]
      refine XP_s rfl ?_
      exact XP_ret rfl ⟨rfl, rfl⟩
    · rw [if_pos h2]
      refine XP_s rfl ?_
      refine XP_s rfl ?_
      refine XP_s rfl ?_
      refine XP_s rfl ?_
      refine XP_pure rfl rfl (t_Coast_levelAt X (d + 1) hS (p := j) (y := y) (by omega)) ?_
      refine XP_s rfl ?_
      exact XP_ret rfl ⟨rfl, rfl⟩
  · rw [if_neg h1]
    refine XP_s rfl ?_
    exact XP_ret rfl ⟨rfl, rfl⟩
