/-! harm of a wall: whole methods -/
theorem t_M_harmOf (X : hX) (d : Nat) {s I : Nat → Nat → Int32} {J : Nat → Nat → Int64} {R : Nat → Nat → Option Nat} {N : Nat → Nat} {G : hG} (hS : St s I) {t k1 k2 L ns : Nat} {q : Nat → Nat} (ht : s 99 31 = nI t) (hT : TxM s t k1 k2 L q) (hns : ns ≤ 6) (hn : s 99 10 = nI ns) (l h y rich : Int32) :
    TP X (d + 2) n_M_harmOf [.ref 99, .int l, .int y, .int h, .int rich] (I, J, Rx R, N, G) (fun v M' => v = some (.long (sHarm s q k1 l h y rich ns)) ∧ ∃ I', M' = (I', J, Rx R, N, G) ∧ Only [125, 126] I I') := by
  unfold TP
  refine XP_s rfl ?_
  refine XP_s rfl ?_
  refine XP_s rfl ?_
  refine XP_s rfl ?_
  exact l_M_harm X d hS ht hT hns hn l h y rich ns 0 I (Nat.zero_add _) Only.rf
theorem oT_o9 {s : Nat → Nat → Int32} {R : Nat → Nat → Option Nat} {N : Nat → Nat} {t k1 k2 L : Nat} {q : Nat → Nat} (hC : TxC s R N t k1 k2 L q) : isO (oT t) 9 = true := (Bool.and_true _).symm.trans hC.1.1
theorem l_C_harm (X : hX) (d : Nat) {s I0 : Nat → Nat → Int32} {J : Nat → Nat → Int64} {R : Nat → Nat → Option Nat} {N : Nat → Nat} {G : hG} (hS0 : St s I0) {t k1 k2 L ns : Nat} {q : Nat → Nat} (hR : Rx R 1 13 = some (oT t)) (hT : TxM s t k1 k2 L q) (hC : TxC s R N t k1 k2 L q) (hns : ns ≤ 6) (hn : s 99 10 = nI ns) (l h y rich : Int32) (hov : ∀ j, j < ns → (l + s 105 j - h ≤ nI 0 ↔ l + s 105 j ≤ h)) :
    ∀ (n i : Nat) (I : Nat → Nat → Int32) (w8 : Value), i + n = ns → Only [oT t + 3, oT t + 2] I0 I →
      XP X (d + 3) k_Coast_harmAt 4 [.ref 1, .int l, .int h, .int y, .int rich, .long (sHarm s q k1 l h y rich i), xj, .int (nI i), w8] [] (I, J, Rx R, N, G) (fun v M' => v = some (.long (sHarm s q k1 l h y rich ns)) ∧ ∃ I', M' = (I', J, Rx R, N, G) ∧ Only [oT t + 3, oT t + 2] I0 I') := by
  have hT' := hT
  obtain ⟨t6, e0, e1, e2, e3, l1, l2, l3, hq, hW1, hW2, hW3⟩ := hT'
  have h9 := oT_o9 hC
  obtain ⟨hC1, c1, c2, cq⟩ := hC
  intro n
  induction n with
  | zero =>
    intro i I w8 hi hO
    have hS : St s I := St_only hS0 hO (oT_scr t t6)
    obtain rfl : i = ns := by omega
    refine XP_s rfl ?_
    refine XP_s rfl ?_
    refine XP_geti hS rfl rfl rfl ?_
    rw [hn]
    refine XP_s rfl ?_
    refine XP_dle (by omega) (by omega) (fun _ => ?_) (fun z => absurd z (by omega))
    refine XP_s rfl ?_
    exact XP_ret rfl ⟨rfl, I, rfl, hO⟩
  | succ n ih =>
    intro i I w8 hi hO
    have hS : St s I := St_only hS0 hO (oT_scr t t6)
    have ih' := fun I1 w8 h1 => ih (i + 1) I1 w8 (by omega) h1
    simp only [sHarm] at ih'
    rw [← nI_1] at ih'
    refine XP_s rfl ?_
    refine XP_s rfl ?_
    refine XP_geti hS rfl rfl rfl ?_
    rw [hn]
    refine XP_s rfl ?_
    refine XP_dle (by omega) (by omega) (fun z => absurd z (by omega)) (fun _ => ?_)
    refine XP_s rfl ?_
    refine XP_s rfl ?_
    rw [cI_6]
    refine XP_s rfl ?_
    refine XP_dle (x := 6) (by omega) (by omega) (fun z => absurd z (by omega)) (fun _ => ?_)
    refine XP_s rfl ?_
    refine XP_s rfl ?_
    refine XP_s rfl ?_
    refine XP_s rfl ?_
    refine XP_ialdE i rfl hS rfl rfl rfl (show _ < 6 by omega) (Nat.le_of_ble_eq_true rfl) rfl ?_
    refine XP_s rfl ?_
    refine XP_s rfl ?_
    refine XP_s rfl ?_
    refine XP_s rfl ?_
    refine XP_s rfl ?_
    refine XP_s rfl ?_
    refine XP_dec (P := l + s 105 i - h ≤ nI 0) (fun hb => ?_) (fun hb => ?_)
    · rw [if_neg (Int32.not_lt.mpr ((hov i (by omega)).mp hb))] at ih'
      refine XP_s rfl ?_
      refine XP_s rfl ?_
      exact ih' I _ hO
    · rw [if_pos (Int32.not_le.mp (fun z => hb ((hov i (by omega)).mpr z)))] at ih'
      refine XP_s rfl ?_
      refine XP_getr rfl rfl hR ?_
      refine XP_s rfl ?_
      refine XP_s rfl ?_
      refine XP_s rfl ?_
      refine XP_s rfl ?_
      refine XP_s rfl ?_
      refine XP_ialdE i rfl hS rfl rfl rfl (show _ < 6 by omega) (Nat.le_of_ble_eq_true rfl) rfl ?_
      refine XP_s rfl ?_
      refine XP_s rfl ?_
      refine XP_getr rfl rfl hR ?_
      refine XP_s rfl ?_
      refine XP_s rfl ?_
      refine XP_s rfl ?_
      refine XP_s rfl ?_
      refine XP_s rfl ?_
      refine XP_call rfl (by show (isO (oT t) 9 || false) = true; rw [h9]; rfl) (t_harmBy X d (k1 := k1) hC1 (fun j hj => (hS _ _ _ _ (oT_s j t t6)).trans (cq j hj)) ((hS _ _ _ _ (oT_1 t t6)).trans c1) (by omega) hW1 (l + s 105 i - h) rich h l y) ?_
      rintro v M1 ⟨rfl, I1, rfl, hO1⟩
      refine XP_s rfl ?_
      refine XP_s rfl ?_
      refine XP_s rfl ?_
      refine XP_s rfl ?_
      refine XP_s rfl ?_
      refine XP_s rfl ?_
      exact ih' I1 _ (hO.tr hO1)
theorem t_C_harmAt (X : hX) (d : Nat) {s I : Nat → Nat → Int32} {J : Nat → Nat → Int64} {R : Nat → Nat → Option Nat} {N : Nat → Nat} {G : hG} (hS : St s I) {t k1 k2 L ns : Nat} {q : Nat → Nat} (hR : Rx R 1 13 = some (oT t)) (hT : TxM s t k1 k2 L q) (hC : TxC s R N t k1 k2 L q) (hns : ns ≤ 6) (hn : s 99 10 = nI ns) (l h y rich : Int32) (hov : ∀ j, j < ns → (l + s 105 j - h ≤ nI 0 ↔ l + s 105 j ≤ h)) :
    TP X (d + 3) n_Coast_harmAt [.ref 1, .int l, .int h, .int y, .int rich] (I, J, Rx R, N, G) (fun v M' => v = some (.long (sHarm s q k1 l h y rich ns)) ∧ ∃ I', M' = (I', J, Rx R, N, G) ∧ Only [oT t + 3, oT t + 2] I I') := by
  unfold TP
  refine XP_s rfl ?_
  refine XP_s rfl ?_
  refine XP_s rfl ?_
  refine XP_s rfl ?_
  exact l_C_harm X d hS hR hT hC hns hn l h y rich hov ns 0 I _ (Nat.zero_add _) Only.rf
/-- the only place where the two laws of harm are written apart -/
theorem over_iff {x h : Nat} (hx : x < 1000000000) (hh : h < 1000000000) : (nI x - nI h ≤ nI 0 ↔ nI x ≤ nI h) := by
  rcases Nat.lt_or_ge x h with g | g
  · have e : nI x - nI h = -(nI (h - x)) := by
      rw [← nI_sub (Nat.le_of_lt g), Int32.neg_sub]
    rw [e]
    refine ⟨fun _ => (nI_leI (by omega) (by omega)).mpr (Nat.le_of_lt g), fun _ => ?_⟩
    rw [Int32.le_iff_toInt_le, Int32.toInt_neg, nI_toInt (by omega), nI_toInt (by omega)]
    simp [Int.bmod]
    omega
  · rw [nI_sub g, nI_leI (by omega) (by omega), nI_leI (by omega) (by omega)]
    omega
