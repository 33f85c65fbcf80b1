/-! the face of harm, class -/
theorem t_H_harm (X : hX) (d : Nat) {s I : Nat → Nat → Int32} {J : Nat → Nat → Int64} {R : Nat → Nat → Option Nat} {N : Nat → Nat} {G : hG} (hS : St s I) {t k1 k2 L ns np : Nat} {q : Nat → Nat} (hR : Rx R 1 13 = some (oT t)) (hT : TxM s t k1 k2 L q) (hC : TxC s R N t k1 k2 L q) (hns : ns ≤ 6) (hn : s 99 10 = nI ns) (hnp : np ≤ 4) (hp : s 99 4 = nI np) (p y h rich : Int32)
    (hov : ∀ p', p' < np → iv 0 15 y → iv 0 99 h → ∀ j, j < ns → (sLevel s p' y + s 105 j - h ≤ nI 0 ↔ sLevel s p' y + s 105 j ≤ h)) :
    TP X (d + 4) n_H_harm [.ref 0, .int p, .int y, .int h, .int rich] (I, J, Rx R, N, G) (fun v M' => v = some (.long (fHarm s q k1 ns np p y h rich)) ∧ ∃ I', M' = (I', J, Rx R, N, G) ∧ Only [oT t + 3, oT t + 2] I I') := by
  have no : ¬ (inN p np ∧ iv 0 15 y ∧ iv 0 99 h ∧ iv 0 9999 rich) → XP X (d + 4) k_H_harm 14 [.ref 0, .int p, .int y, .int h, .int rich] [] (I, J, Rx R, N, G) (fun v M' => v = some (.long (fHarm s q k1 ns np p y h rich)) ∧ ∃ I', M' = (I', J, Rx R, N, G) ∧ Only [oT t + 3, oT t + 2] I I') := by
    intro hn
    unfold fHarm
    rw [if_neg hn]
    refine XP_s rfl ?_
    exact XP_ret rfl ⟨rfl, I, rfl, Only.rf⟩
  unfold TP
  refine XP_s rfl ?_
  refine XP_s rfl ?_
  refine XP_s rfl ?_
  refine XP_pure rfl rfl (t_C_hasPath X (d + 3) hS hnp hp p) ?_
  refine XP_s rfl ?_
  refine XP_beq (fun h1 => no (fun z => h1 z.1)) (fun h1 => ?_)
  refine XP_s rfl ?_
  refine XP_pure rfl rfl (t_H_isAnyYear X (d + 2) y _) ?_
  refine XP_s rfl ?_
  refine XP_beq (fun h2 => no (fun z => h2 z.2.1)) (fun h2 => ?_)
  refine XP_s rfl ?_
  refine XP_pure rfl rfl (t_H_isWall X (d + 2) h _) ?_
  refine XP_s rfl ?_
  refine XP_beq (fun h3 => no (fun z => h3 z.2.2.1)) (fun h3 => ?_)
  refine XP_s rfl ?_
  refine XP_pure rfl rfl (t_H_isRich X (d + 2) rich _) ?_
  refine XP_s rfl ?_
  refine XP_bne (fun h4 => ?_) (fun h4 => no (fun z => h4 z.2.2.2))
  unfold fHarm
  rw [if_pos ⟨h1, h2, h3, h4⟩]
  clear no
  obtain ⟨j, hj, rfl, e⟩ := inN_of h1 (by omega)
  rw [e]
  refine XP_s rfl ?_
  refine XP_s rfl ?_
  refine XP_s rfl ?_
  refine XP_s rfl ?_
  refine XP_s rfl ?_
  refine XP_s rfl ?_
  refine XP_pure rfl rfl (t_Coast_levelAt X (d + 3) hS (p := j) (y := y) (by omega)) ?_
  refine XP_s rfl ?_
  refine XP_s rfl ?_
  refine XP_s rfl ?_
  refine XP_call rfl rfl (t_C_harmAt X d hS hR hT hC hns hn (sLevel s j y) h y rich (hov j hj h2 h3)) ?_
  rintro v M1 ⟨rfl, I1, rfl, hO1⟩
  exact XP_ret rfl ⟨rfl, I1, rfl, hO1⟩
