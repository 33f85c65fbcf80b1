/-! faces of flood -/
def fFlood (s : Nat → Nat → Int32) (ns np : Nat) (p y h : Int32) : Int32 := if inN p np then (if iv 0 15 y ∧ iv 0 99 h then sFl s (sLevel s p.toInt.toNat y) h ns else cI (-7)) else cI (-5)
theorem t_M_flood (X : hX) (d : Nat) {s I : Nat → Nat → Int32} {J : Nat → Nat → Int64} {R : Nat → Nat → Option Nat} {N : Nat → Nat} {G : hG} (hS : St s I) {ns np : Nat} (hns : ns ≤ 6) (hn : s 99 10 = nI ns) (hnp : np ≤ 4) (h0 : 0 < np) (hp : s 99 4 = nI np) (p y h : Int32) : TP X (d + 2) n_M_flood [.ref 99, .int p, .int y, .int h] (I, J, Rx R, N, G) (Ret (.int (fFlood s ns np p y h)) (I, J, Rx R, N, G)) := by
  unfold TP fFlood
  refine XP_s rfl ?_
  refine XP_s rfl ?_
  refine XP_pure rfl rfl (t_M_isPath X d hS hnp h0 hp p) ?_
  refine XP_s rfl ?_
  refine XP_bne (fun h1 => ?_) (fun h1 => ?_)
  · rw [if_pos h1]
    obtain ⟨j, hj, rfl, e⟩ := inN_of h1 (by omega)
    rw [e]
    refine XP_s rfl ?_
    refine XP_s rfl ?_
    refine XP_s rfl ?_
    refine XP_pure rfl rfl (w_M X (d + 1) y 0 15 _) ?_
    refine XP_s rfl ?_
    refine XP_beq (fun h2 => ?_) (fun h2 => ?_)
    · rw [if_neg (fun z => h2 z.1)]
      refine XP_s rfl ?_
      exact XP_ret rfl ⟨rfl, rfl⟩
    · refine XP_s rfl ?_
      refine XP_s rfl ?_
      refine XP_s rfl ?_
      refine XP_pure rfl rfl (w_M X (d + 1) h 0 99 _) ?_
      refine XP_s rfl ?_
      refine XP_beq (fun h3 => ?_) (fun h3 => ?_)
      · rw [if_neg (fun z => h3 z.2)]
        refine XP_s rfl ?_
        exact XP_ret rfl ⟨rfl, rfl⟩
      · rw [if_pos ⟨h2, h3⟩]
        refine XP_s rfl ?_
        refine XP_s rfl ?_
        refine XP_s rfl ?_
        refine XP_s rfl ?_
        refine XP_pure rfl rfl (t_M_levelOf X (d + 1) hS (p := j) (y := y) (by omega)) ?_
        refine XP_s rfl ?_
        refine XP_pure rfl rfl (t_M_floods X (d + 1) hS hns hn) ?_
        refine XP_s rfl ?_
        exact XP_ret rfl ⟨rfl, rfl⟩
  · rw [if_neg h1]
    refine XP_s rfl ?_
    refine XP_s rfl ?_
    exact XP_ret rfl ⟨rfl, rfl⟩
