/-! faces of the law: harm -/
def fHarm (s : Nat → Nat → Int32) (q : Nat → Nat) (k1 ns np : Nat) (p y h rich : Int32) : Int64 := if inN p np ∧ iv 0 15 y ∧ iv 0 99 h ∧ iv 0 9999 rich then sHarm s q k1 (sLevel s p.toInt.toNat y) h y rich ns else cL (-4611686018427387904)
theorem inN_of {v : Int32} {n : Nat} (h : inN v n) (hn : n < 2147483648) : ∃ j, j < n ∧ v = nI j ∧ v.toInt.toNat = j := by
  obtain ⟨j, h1, rfl⟩ := inN_nI h hn
  exact ⟨j, h1, rfl, by rw [nI_toInt (by omega)]; rfl⟩
theorem t_M_harm (X : hX) (d : Nat) {s I : Nat → Nat → Int32} {J : Nat → Nat → Int64} {R : Nat → Nat → Option Nat} {N : Nat → Nat} {G : hG} (hS : St s I) {t k1 k2 L ns np : Nat} {q : Nat → Nat} (ht : s 99 31 = nI t) (hT : TxM s t k1 k2 L q) (hns : ns ≤ 6) (hn : s 99 10 = nI ns) (hnp : np ≤ 4) (h0 : 0 < np) (hp : s 99 4 = nI np) (p y h rich : Int32) :
    TP X (d + 3) n_M_harm [.ref 99, .int p, .int y, .int h, .int rich] (I, J, Rx R, N, G) (fun v M' => v = some (.long (fHarm s q k1 ns np p y h rich)) ∧ ∃ I', M' = (I', J, Rx R, N, G) ∧ Only [125, 126] I I') := by
  have no : ¬ (inN p np ∧ iv 0 15 y ∧ iv 0 99 h ∧ iv 0 9999 rich) → XP X (d + 3) k_M_harm 29 [.ref 99, .int p, .int y, .int h, .int rich] [] (I, J, Rx R, N, G) (fun v M' => v = some (.long (fHarm s q k1 ns np p y h rich)) ∧ ∃ I', M' = (I', J, Rx R, N, G) ∧ Only [125, 126] I I') := by
    intro hn
    unfold fHarm
    rw [if_neg hn]
    refine XP_s rfl ?_
    exact XP_ret rfl ⟨rfl, I, rfl, Only.rf⟩
  unfold TP
  refine XP_s rfl ?_
  refine XP_s rfl ?_
  refine XP_pure rfl rfl (t_M_isPath X (d + 1) hS hnp h0 hp p) ?_
  refine XP_s rfl ?_
  refine XP_beq (fun h1 => no (fun z => h1 z.1)) (fun h1 => ?_)
  refine XP_s rfl ?_
  refine XP_s rfl ?_
  refine XP_s rfl ?_
  refine XP_pure rfl rfl (w_M X (d + 2) y 0 15 _) ?_
  refine XP_s rfl ?_
  refine XP_beq (fun h2 => no (fun z => h2 z.2.1)) (fun h2 => ?_)
  refine XP_s rfl ?_
  refine XP_s rfl ?_
  refine XP_s rfl ?_
  refine XP_pure rfl rfl (w_M X (d + 2) h 0 99 _) ?_
  refine XP_s rfl ?_
  refine XP_beq (fun h3 => no (fun z => h3 z.2.2.1)) (fun h3 => ?_)
  refine XP_s rfl ?_
  refine XP_s rfl ?_
  refine XP_s rfl ?_
  refine XP_pure rfl rfl (w_M X (d + 2) rich 0 9999 _) ?_
  refine XP_s rfl ?_
  refine XP_beq (fun h4 => no (fun z => h4 z.2.2.2)) (fun h4 => ?_)
  unfold fHarm
  rw [if_pos ⟨h1, h2, h3, h4⟩]
  clear no
  obtain ⟨j, hj, rfl, e⟩ := inN_of h1 (by omega)
  rw [e]
  refine XP_s rfl ?_
  refine XP_s rfl ?_
  refine XP_s rfl ?_
  refine XP_s rfl ?_
  refine XP_pure rfl rfl (t_M_levelOf X (d + 2) hS (p := j) (y := y) (by omega)) ?_
  refine XP_s rfl ?_
  refine XP_s rfl ?_
  refine XP_s rfl ?_
  refine XP_call rfl rfl (t_M_harmOf X d hS ht hT hns hn (sLevel s j y) h y rich) ?_
  rintro v M1 ⟨rfl, I1, rfl, hO1⟩
  refine XP_s rfl ?_
  exact XP_ret rfl ⟨rfl, I1, rfl, hO1⟩
