/-! faces of the law: cost -/
abbrev iv (lo hi : Nat) (v : Int32) : Prop := nI lo ≤ v ∧ v ≤ nI hi
theorem w_M (X : hX) (d : Nat) (v : Int32) (lo hi : Nat) (M : hM) : TP X d n_M_in [.int v, .int (nI lo), .int (nI hi)] M (Ret (.int (b2i (iv lo hi v))) M) := t_M_in X d v (nI lo) (nI hi) M
theorem w_H (X : hX) (d : Nat) (v : Int32) (lo hi : Nat) (M : hM) : TP X d n_H_within [.int v, .int (nI lo), .int (nI hi)] M (Ret (.int (b2i (iv lo hi v))) M) := t_H_within X d v (nI lo) (nI hi) M
theorem t_H_isWall (X : hX) (d : Nat) (v : Int32) (M : hM) : TP X (d + 1) n_H_isWall [.int v] M (Ret (.int (b2i (iv 0 99 v))) M) := by
  unfold TP
  refine XP_s rfl ?_
  refine XP_s rfl ?_
  refine XP_s rfl ?_
  refine XP_pure rfl rfl (w_H X d v 0 99 M) ?_
  exact ret_b rfl ⟨rfl, rfl⟩
theorem t_H_isAnyYear (X : hX) (d : Nat) (v : Int32) (M : hM) : TP X (d + 1) n_H_isAnyYear [.int v] M (Ret (.int (b2i (iv 0 15 v))) M) := by
  unfold TP
  refine XP_s rfl ?_
  refine XP_s rfl ?_
  refine XP_s rfl ?_
  refine XP_pure rfl rfl (w_H X d v 0 15 M) ?_
  exact ret_b rfl ⟨rfl, rfl⟩
theorem t_H_isRich (X : hX) (d : Nat) (v : Int32) (M : hM) : TP X (d + 1) n_H_isRich [.int v] M (Ret (.int (b2i (iv 0 9999 v))) M) := by
  unfold TP
  refine XP_s rfl ?_
  refine XP_s rfl ?_
  refine XP_s rfl ?_
  refine XP_pure rfl rfl (w_H X d v 0 9999 M) ?_
  exact ret_b rfl ⟨rfl, rfl⟩
def fCost (q : Nat → Nat) (k1 m : Nat) (broad up h y rich : Int32) : Int32 := if iv 0 99 up ∧ iv 0 99 h ∧ iv 0 15 y ∧ iv 0 9999 rich then sCost q k1 m broad up h y rich else cI (-2)
theorem t_M_cost (X : hX) (d : Nat) {s I : Nat → Nat → Int32} {J : Nat → Nat → Int64} {R : Nat → Nat → Option Nat} {N : Nat → Nat} {G : hG} (hS : St s I) {t k1 k2 L : Nat} {q : Nat → Nat} (ht : s 99 31 = nI t) (hT : TxM s t k1 k2 L q) (up h y rich : Int32) :
    TP X (d + 3) n_M_cost [.ref 99, .int up, .int h, .int y, .int rich] (I, J, Rx R, N, G) (fun v M' => v = some (.int (fCost q k1 (k2 - k1) (s 99 3) up h y rich)) ∧ ∃ I', M' = (I', J, Rx R, N, G) ∧ Only [125, 126] I I') := by
  have no : ¬ (iv 0 99 up ∧ iv 0 99 h ∧ iv 0 15 y ∧ iv 0 9999 rich) → XP X (d + 3) k_M_cost 27 [.ref 99, .int up, .int h, .int y, .int rich] [] (I, J, Rx R, N, G) (fun v M' => v = some (.int (fCost q k1 (k2 - k1) (s 99 3) up h y rich)) ∧ ∃ I', M' = (I', J, Rx R, N, G) ∧ Only [125, 126] I I') := by
    intro hn
    unfold fCost
    rw [if_neg hn]
    refine XP_s rfl ?_
    exact XP_ret rfl ⟨rfl, I, rfl, Only.rf⟩
  unfold TP
  refine XP_s rfl ?_
  refine XP_s rfl ?_
  refine XP_s rfl ?_
  refine XP_pure rfl rfl (w_M X (d + 2) up 0 99 _) ?_
  refine XP_s rfl ?_
  refine XP_beq (fun h1 => no (fun z => h1 z.1)) (fun h1 => ?_)
  refine XP_s rfl ?_
  refine XP_s rfl ?_
  refine XP_s rfl ?_
  refine XP_pure rfl rfl (w_M X (d + 2) h 0 99 _) ?_
  refine XP_s rfl ?_
  refine XP_beq (fun h2 => no (fun z => h2 z.2.1)) (fun h2 => ?_)
  refine XP_s rfl ?_
  refine XP_s rfl ?_
  refine XP_s rfl ?_
  refine XP_pure rfl rfl (w_M X (d + 2) y 0 15 _) ?_
  refine XP_s rfl ?_
  refine XP_beq (fun h3 => no (fun z => h3 z.2.2.1)) (fun h3 => ?_)
  refine XP_s rfl ?_
  refine XP_s rfl ?_
  refine XP_s rfl ?_
  refine XP_pure rfl rfl (w_M X (d + 2) rich 0 9999 _) ?_
  refine XP_s rfl ?_
  refine XP_beq (fun h4 => no (fun z => h4 z.2.2.2)) (fun h4 => ?_)
  unfold fCost
  rw [if_pos ⟨h1, h2, h3, h4⟩]
  refine XP_s rfl ?_
  refine XP_s rfl ?_
  refine XP_s rfl ?_
  refine XP_s rfl ?_
  refine XP_s rfl ?_
  refine XP_call rfl rfl (t_M_costOf X d hS ht hT up h y rich) ?_
  rintro v M1 ⟨rfl, I1, rfl, hO1⟩
  refine XP_s rfl ?_
  exact XP_ret rfl ⟨rfl, I1, rfl, hO1⟩
