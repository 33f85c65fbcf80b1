/-! cost and growth, both sides -/
def sCost (q : Nat → Nat) (k1 m : Nat) (broad up h y rich : Int32) : Int32 := if up = 0 then cI 0 else bnd (nI 0) (nI 9999) (sW (nmV broad rich h (cI 0) y up) q k1 m)
def sGrown (q : Nat → Nat) (k2 m : Nat) (rich y : Int32) : Int32 := bnd (nI 0) (nI 9999) (rich + bnd (-(nI 999)) (nI 999) (sW (nmV (cI 0) rich (cI 0) (cI 0) y (cI 0)) q k2 m))
theorem clamp (g : Int32) : (if cI 0 < (if g < cI 9999 then g else cI 9999) then (if g < cI 9999 then g else cI 9999) else cI 0) = bnd (nI 0) (nI 9999) g := by
  rw [cI_0, cI_9999]
  unfold bnd
  have h0 : nI 0 < nI 9999 := (nI_ltI (by omega) (by omega)).mpr (by omega)
  by_cases h1 : g < nI 0
  · rw [if_pos h1, if_pos (Int32.lt_trans h1 h0), if_neg (Int32.not_lt.mpr (Int32.le_of_lt h1))]
  · rw [if_neg h1]
    by_cases h2 : nI 9999 < g
    · rw [if_pos h2, if_neg (Int32.not_lt.mpr (Int32.le_of_lt h2)), if_pos h0]
    · rw [if_neg h2]
      by_cases h3 : g < nI 9999
      · rw [if_pos h3]
        by_cases h4 : nI 0 < g
        · rw [if_pos h4]
        · rw [if_neg h4]
          exact Int32.le_antisymm (Int32.not_lt.mp h1) (Int32.not_lt.mp h4)
      · rw [if_neg h3, if_pos h0]
        exact Int32.le_antisymm (Int32.not_lt.mp h3) (Int32.not_lt.mp h2)
theorem t_M_costOf (X : hX) (d : Nat) {s I : Nat → Nat → Int32} {J : Nat → Nat → Int64} {R : Nat → Nat → Option Nat} {N : Nat → Nat} {G : hG} (hS : St s I) {t k1 k2 L : Nat} {q : Nat → Nat} (ht : s 99 31 = nI t) (hT : TxM s t k1 k2 L q) (up h y rich : Int32) :
    TP X (d + 2) n_M_costOf [.ref 99, .int up, .int h, .int y, .int rich] (I, J, Rx R, N, G) (fun v M' => v = some (.int (sCost q k1 (k2 - k1) (s 99 3) up h y rich)) ∧ ∃ I', M' = (I', J, Rx R, N, G) ∧ Only [125, 126] I I') := by
  obtain ⟨t6, e0, e1, e2, e3, l1, l2, l3, hq, hW1, hW2, hW3⟩ := hT
  unfold TP sCost
  refine XP_s rfl ?_
  refine XP_s rfl ?_
  refine XP_dec (P := ¬ up = 0) (fun hb => ?_) (fun hb => ?_)
  · rw [if_neg hb]
    refine XP_s rfl ?_
    refine XP_s rfl ?_
    refine XP_geti hS rfl rfl rfl ?_
    refine XP_s rfl ?_
    refine XP_s rfl ?_
    refine XP_s rfl ?_
    refine XP_s rfl ?_
    refine XP_s rfl ?_
    refine XP_call rfl rfl (t_M_names X (d + 1) (s 99 3) rich h (cI 0) y up) ?_
    rintro v M1 ⟨rfl, I1, rfl, hO1, hV1⟩
    have hS1 : St s I1 := St_only hS hO1 (by decide +kernel)
    refine XP_s rfl ?_
    refine XP_s rfl ?_
    refine XP_s rfl ?_
    refine XP_s rfl ?_
    refine XP_call rfl rfl (t_M_worth X d (part := 1) (k0 := k1) (m := k2 - k1) hS1 (nI 0) (nI 9999) ht t6 (by omega) e1 (by rw [Nat.add_sub_cancel' l1]; exact e2) (by omega) (fun j hj => hq j (by omega)) hW2 hV1) ?_
    rintro v M2 ⟨rfl, I2, rfl, hO2⟩
    exact XP_ret rfl ⟨rfl, I2, rfl, (hO1.sub (by simp)).tr (hO2.sub (by simp))⟩
  · rw [if_pos (Classical.not_not.mp hb)]
    refine XP_s rfl ?_
    exact XP_ret rfl ⟨rfl, I, rfl, Only.rf⟩
theorem t_C_costAt (X : hX) (d : Nat) {s I : Nat → Nat → Int32} {J : Nat → Nat → Int64} {R : Nat → Nat → Option Nat} {N : Nat → Nat} {G : hG} (hS : St s I) {t k1 k2 L : Nat} {q : Nat → Nat} (hR : Rx R 1 13 = some (oT t)) (hT : TxM s t k1 k2 L q) (hC : TxC s R N t k1 k2 L q) (up h y rich broad : Int32) :
    TP X (d + 3) n_Coast_costAt [.ref 1, .int up, .int h, .int y, .int rich, .int broad] (I, J, Rx R, N, G) (fun v M' => v = some (.int (sCost q k1 (k2 - k1) broad up h y rich)) ∧ ∃ I', M' = (I', J, Rx R, N, G) ∧ Only [oT t + 3, oT t + 2] I I') := by
  obtain ⟨t6, e0, e1, e2, e3, l1, l2, l3, hq, hW1, hW2, hW3⟩ := hT
  have h9 := oT_o9 hC
  obtain ⟨hC1, c1, c2, cq⟩ := hC
  unfold TP sCost
  refine XP_s rfl ?_
  refine XP_s rfl ?_
  refine XP_dec (P := up = 0) (fun hb => ?_) (fun hb => ?_)
  · rw [if_pos hb]
    refine XP_s rfl ?_
    refine XP_s rfl ?_
    exact XP_ret rfl ⟨rfl, I, rfl, Only.rf⟩
  · rw [if_neg hb]
    refine XP_s rfl ?_
    refine XP_getr rfl rfl hR ?_
    refine XP_s rfl ?_
    refine XP_s rfl ?_
    refine XP_getr rfl rfl hR ?_
    refine XP_s rfl ?_
    refine XP_s rfl ?_
    refine XP_s rfl ?_
    refine XP_s rfl ?_
    refine XP_s rfl ?_
    refine XP_call rfl (by show (isO (oT t) 9 || false) = true; rw [h9]; rfl) (t_costBy X d (k1 := k1) (m := k2 - k1) hC1 (fun j hj => (hS _ _ _ _ (oT_s j t t6)).trans (cq j hj)) ((hS _ _ _ _ (oT_1 t t6)).trans c1) (by rw [Nat.add_sub_cancel' l1]; exact (hS _ _ _ _ (oT_2 t t6)).trans c2) (by omega) hW2 up h y rich broad) ?_
    rintro v M1 ⟨rfl, I1, rfl, hO1⟩
    exact XP_ret rfl ⟨rfl, I1, rfl, hO1⟩
theorem t_M_grown (X : hX) (d : Nat) {s I : Nat → Nat → Int32} {J : Nat → Nat → Int64} {R : Nat → Nat → Option Nat} {N : Nat → Nat} {G : hG} (hS : St s I) {t k1 k2 L : Nat} {q : Nat → Nat} (ht : s 99 31 = nI t) (hT : TxM s t k1 k2 L q) (rich y : Int32) :
    TP X (d + 2) n_M_grown [.ref 99, .int rich, .int y] (I, J, Rx R, N, G) (fun v M' => v = some (.int (sGrown q k2 (L - k2) rich y)) ∧ ∃ I', M' = (I', J, Rx R, N, G) ∧ Only [125, 126] I I') := by
  obtain ⟨t6, e0, e1, e2, e3, l1, l2, l3, hq, hW1, hW2, hW3⟩ := hT
  unfold TP sGrown
  refine XP_s rfl ?_
  refine XP_s rfl ?_
  refine XP_s rfl ?_
  refine XP_s rfl ?_
  refine XP_s rfl ?_
  refine XP_s rfl ?_
  refine XP_s rfl ?_
  refine XP_call rfl rfl (t_M_names X (d + 1) (cI 0) rich (cI 0) (cI 0) y (cI 0)) ?_
  rintro v M1 ⟨rfl, I1, rfl, hO1, hV1⟩
  have hS1 : St s I1 := St_only hS hO1 (by decide +kernel)
  refine XP_s rfl ?_
  refine XP_s rfl ?_
  refine XP_s rfl ?_
  refine XP_s rfl ?_
  refine XP_s rfl ?_
  refine XP_call rfl rfl (t_M_worth X d (part := 2) (k0 := k2) (m := L - k2) hS1 (-(nI 999)) (nI 999) ht t6 (by omega) e2 (by rw [Nat.add_sub_cancel' l2]; exact e3) (by omega) (fun j hj => hq j (by omega)) hW3 hV1) ?_
  rintro v M2 ⟨rfl, I2, rfl, hO2⟩
  have hO : Only [125, 126] I I2 := (hO1.sub (by simp)).tr (hO2.sub (by simp))
  refine XP_s rfl ?_
  generalize rich + bnd (-(nI 999)) (nI 999) (sW (nmV (cI 0) rich (cI 0) (cI 0) y (cI 0)) q k2 (L - k2)) = g
  unfold bnd
  refine XP_s rfl ?_
  refine XP_s rfl ?_
  refine XP_s rfl ?_
  refine XP_dec (P := nI 0 ≤ g) (fun h1 => ?_) (fun h1 => ?_)
  · rw [if_neg (Int32.not_lt.mpr h1)]
    refine XP_s rfl ?_
    refine XP_s rfl ?_
    refine XP_s rfl ?_
    refine XP_dec (P := g ≤ nI 9999) (fun h2 => ?_) (fun h2 => ?_)
    · rw [if_neg (Int32.not_lt.mpr h2)]
      refine XP_s rfl ?_
      exact XP_ret rfl ⟨rfl, I2, rfl, hO⟩
    · rw [if_pos (Int32.not_le.mp h2)]
      refine XP_s rfl ?_
      refine XP_s rfl ?_
      exact XP_ret rfl ⟨rfl, I2, rfl, hO⟩
  · rw [if_pos (Int32.not_le.mp h1)]
    refine XP_s rfl ?_
    refine XP_s rfl ?_
    exact XP_ret rfl ⟨rfl, I2, rfl, hO⟩
theorem t_C_grown (X : hX) (d : Nat) {s I : Nat → Nat → Int32} {J : Nat → Nat → Int64} {R : Nat → Nat → Option Nat} {N : Nat → Nat} {G : hG} (hS : St s I) {t k1 k2 L : Nat} {q : Nat → Nat} (hR : Rx R 1 13 = some (oT t)) (hT : TxM s t k1 k2 L q) (hC : TxC s R N t k1 k2 L q) (rich y : Int32) :
    TP X (d + 3) n_Coast_grown [.ref 1, .int rich, .int y] (I, J, Rx R, N, G) (fun v M' => v = some (.int (sGrown q k2 (L - k2) rich y)) ∧ ∃ I', M' = (I', J, Rx R, N, G) ∧ Only [oT t + 3, oT t + 2] I I') := by
  obtain ⟨t6, e0, e1, e2, e3, l1, l2, l3, hq, hW1, hW2, hW3⟩ := hT
  have h9 := oT_o9 hC
  obtain ⟨hC1, c1, c2, cq⟩ := hC
  unfold TP sGrown
  refine XP_s rfl ?_
  refine XP_getr rfl rfl hR ?_
  refine XP_s rfl ?_
  refine XP_s rfl ?_
  refine XP_s rfl ?_
  refine XP_s rfl ?_
  refine XP_s rfl ?_
  refine XP_getr rfl rfl hR ?_
  refine XP_s rfl ?_
  refine XP_s rfl ?_
  refine XP_call rfl (by show (isO (oT t) 9 || false) = true; rw [h9]; rfl) (t_growthBy X d (k1 := k2) (m := L - k2) hC1 (fun j hj => (hS _ _ _ _ (oT_s j t t6)).trans (cq j hj)) ((hS _ _ _ _ (oT_2 t t6)).trans c2) (by omega) hW3 rich y) ?_
  rintro v M1 ⟨rfl, I1, rfl, hO1⟩
  refine XP_s rfl ?_
  refine XP_s rfl ?_
  refine XP_s rfl ?_
  refine XP_ret rfl ⟨?_, I1, rfl, hO1⟩
  exact congrArg (fun z => some (Value.int z)) (clamp _)
