/-! the three laws of a text, both sides -/
theorem TxL_o {R : Nat → Nat → Option Nat} {N : Nat → Nat} {o sg sk nl L : Nat} (hT : TxL R N o sg sk nl L) : o ≠ nl ∧ o ≠ sk ∧ o ≠ sg := by
  obtain ⟨to9, tr0, tr3, tr4, ta0, ta3, ta4, _⟩ := hT
  have key : ∀ k, isA k 0 = true → o ≠ k := by
    rintro k hk rfl
    rw [Bool.and_true] at to9
    unfold isO at to9
    unfold isA at hk
    cases h : kd o with
    | inl c => rw [h] at hk; cases hk
    | inr c => rw [h] at to9; cases to9
  exact ⟨key nl ta4, key sk ta3, key sg ta0⟩
def six (I : Nat → Nat → Int32) (k : Nat) (a b c y e f : Int32) : Nat → Nat → Int32 := rw2 (rw2 (rw2 (rw2 (rw2 (rw2 I k 0 a) k 1 b) k 2 c) k 3 y) k 4 e) k 5 f
theorem six_o (I : Nat → Nat → Int32) (k : Nat) (a b c y e f : Int32) : Only [k] I (six I k a b c y e f) := by
  intro k' hk
  have : k' ≠ k := fun z => hk (z ▸ List.mem_cons_self)
  funext j
  simp [six, rw2, this]
theorem six_v (I : Nat → Nat → Int32) (k : Nat) (a b c y e f : Int32) : ∀ j, j < 6 → six I k a b c y e f k j = nmV a b c y e f j := by
  intro j hj
  match j, hj with
  | 0, _ => simp [six, rw2, nmV]
  | 1, _ => simp [six, rw2, nmV]
  | 2, _ => simp [six, rw2, nmV]
  | 3, _ => simp [six, rw2, nmV]
  | 4, _ => simp [six, rw2, nmV]
  | 5, _ => simp [six, rw2, nmV]
theorem t_harmBy (X : hX) (d : Nat) {I : Nat → Nat → Int32} {J : Nat → Nat → Int64} {R : Nat → Nat → Option Nat} {N : Nat → Nat} {G : hG} {o sg sk nl L : Nat} (hT : TxL R N o sg sk nl L) {q : Nat → Nat} (hq : ∀ j, j < L → I sg j = nI (trS (q j))) {k1 : Nat} (h1 : I o 1 = nI k1) (hk : k1 ≤ L) (hW : WFp q 0 k1) (x1 x2 x3 x4 x5 : Int32) : TP X (d + 2) n_Text_harmBy [.ref o, .int x1, .int x2, .int x3, .int x4, .int x5] (I, J, Rx R, N, G) (fun v M' => v = some (.int (bnd (nI 0) (nI 9999) (sW (nmV x1 x2 x3 x4 x5 (cI 0)) q 0 k1))) ∧ ∃ I', M' = (I', J, Rx R, N, G) ∧ Only [sk, nl] I I') := by
  have hT' := hT
  obtain ⟨to9, tr0, tr3, tr4, ta0, ta3, ta4, tl0, tl3, tl4, tn1, tn2, tn3, tle⟩ := hT'
  obtain ⟨ho1, ho2, ho3⟩ := TxL_o hT
  have hoo : isO o 9 = true := (Bool.and_true _).symm.trans to9
  unfold TP
  refine XP_s rfl ?_
  refine XP_getr rfl to9 tr4 ?_
  refine XP_s rfl ?_
  refine XP_s rfl ?_
  refine XP_iastE 0 rfl rfl ta4 tl4 (by omega) (by omega) ?_
  refine XP_s rfl ?_
  refine XP_getr rfl to9 tr4 ?_
  refine XP_s rfl ?_
  refine XP_s rfl ?_
  refine XP_iastE 1 rfl rfl ta4 tl4 (by omega) (by omega) ?_
  refine XP_s rfl ?_
  refine XP_getr rfl to9 tr4 ?_
  refine XP_s rfl ?_
  refine XP_s rfl ?_
  refine XP_iastE 2 rfl rfl ta4 tl4 (by omega) (by omega) ?_
  refine XP_s rfl ?_
  refine XP_getr rfl to9 tr4 ?_
  refine XP_s rfl ?_
  refine XP_s rfl ?_
  refine XP_iastE 3 rfl rfl ta4 tl4 (by omega) (by omega) ?_
  refine XP_s rfl ?_
  refine XP_getr rfl to9 tr4 ?_
  refine XP_s rfl ?_
  refine XP_s rfl ?_
  refine XP_iastE 4 rfl rfl ta4 tl4 (by omega) (by omega) ?_
  refine XP_s rfl ?_
  refine XP_getr rfl to9 tr4 ?_
  refine XP_s rfl ?_
  refine XP_s rfl ?_
  refine XP_iastE 5 rfl rfl ta4 tl4 (by omega) (by omega) ?_
  show XP X (d + 2) _ 30 _ _ (six I nl x1 x2 x3 x4 x5 (cI 0), _) _
  have hO := six_o I nl x1 x2 x3 x4 x5 (cI 0)
  have hV := six_v I nl x1 x2 x3 x4 x5 (cI 0)
  have hq' : ∀ j, j < L → six I nl x1 x2 x3 x4 x5 (cI 0) sg j = nI (trS (q j)) := fun j hj => (congrFun (hO sg (by simp; exact tn3.symm)) j).trans (hq j hj)
  have ho : ∀ j, six I nl x1 x2 x3 x4 x5 (cI 0) o j = I o j := fun j => congrFun (hO o (by simp; exact ho1)) j
  generalize six I nl x1 x2 x3 x4 x5 (cI 0) = I6 at hO hV hq' ho ⊢
  refine XP_s rfl ?_
  refine XP_s rfl ?_
  refine XP_s rfl ?_
  refine XP_getw rfl to9 ?_
  show XP X (d + 2) _ _ _ (.int (I6 o 1) :: _) _ _
  rw [ho, h1, show nI k1 = nI (0 + k1) by rw [Nat.zero_add]]
  refine XP_call rfl (by show (isO o 9 || false) = true; rw [hoo]; rfl) (t_value X d (k0 := 0) (m := k1) hT (by omega) hq' hW hV) ?_
  rintro v M1 ⟨rfl, I7, rfl, hO7⟩
  refine XP_s rfl ?_
  refine XP_s rfl ?_
  refine XP_pure rfl rfl (t_bounded X (d + 1) _ _ _ _) ?_
  exact XP_ret rfl ⟨rfl, I7, rfl, (hO.sub (by simp)).tr (hO7.sub (by simp))⟩
theorem t_costBy (X : hX) (d : Nat) {I : Nat → Nat → Int32} {J : Nat → Nat → Int64} {R : Nat → Nat → Option Nat} {N : Nat → Nat} {G : hG} {o sg sk nl L : Nat} (hT : TxL R N o sg sk nl L) {q : Nat → Nat} (hq : ∀ j, j < L → I sg j = nI (trS (q j))) {k1 m : Nat} (h1 : I o 1 = nI k1) (h2 : I o 2 = nI (k1 + m)) (hk : k1 + m ≤ L) (hW : WFp q k1 m) (x1 x2 x3 x4 x5 : Int32) : TP X (d + 2) n_Text_costBy [.ref o, .int x1, .int x2, .int x3, .int x4, .int x5] (I, J, Rx R, N, G) (fun v M' => v = some (.int (bnd (nI 0) (nI 9999) (sW (nmV x5 x4 x2 (cI 0) x3 x1) q k1 m))) ∧ ∃ I', M' = (I', J, Rx R, N, G) ∧ Only [sk, nl] I I') := by
  have hT' := hT
  obtain ⟨to9, tr0, tr3, tr4, ta0, ta3, ta4, tl0, tl3, tl4, tn1, tn2, tn3, tle⟩ := hT'
  obtain ⟨ho1, ho2, ho3⟩ := TxL_o hT
  have hoo : isO o 9 = true := (Bool.and_true _).symm.trans to9
  unfold TP
  refine XP_s rfl ?_
  refine XP_getr rfl to9 tr4 ?_
  refine XP_s rfl ?_
  refine XP_s rfl ?_
  refine XP_iastE 0 rfl rfl ta4 tl4 (by omega) (by omega) ?_
  refine XP_s rfl ?_
  refine XP_getr rfl to9 tr4 ?_
  refine XP_s rfl ?_
  refine XP_s rfl ?_
  refine XP_iastE 1 rfl rfl ta4 tl4 (by omega) (by omega) ?_
  refine XP_s rfl ?_
  refine XP_getr rfl to9 tr4 ?_
  refine XP_s rfl ?_
  refine XP_s rfl ?_
  refine XP_iastE 2 rfl rfl ta4 tl4 (by omega) (by omega) ?_
  refine XP_s rfl ?_
  refine XP_getr rfl to9 tr4 ?_
  refine XP_s rfl ?_
  refine XP_s rfl ?_
  refine XP_iastE 3 rfl rfl ta4 tl4 (by omega) (by omega) ?_
  refine XP_s rfl ?_
  refine XP_getr rfl to9 tr4 ?_
  refine XP_s rfl ?_
  refine XP_s rfl ?_
  refine XP_iastE 4 rfl rfl ta4 tl4 (by omega) (by omega) ?_
  refine XP_s rfl ?_
  refine XP_getr rfl to9 tr4 ?_
  refine XP_s rfl ?_
  refine XP_s rfl ?_
  refine XP_iastE 5 rfl rfl ta4 tl4 (by omega) (by omega) ?_
  show XP X (d + 2) _ 30 _ _ (six I nl x5 x4 x2 (cI 0) x3 x1, _) _
  have hO := six_o I nl x5 x4 x2 (cI 0) x3 x1
  have hV := six_v I nl x5 x4 x2 (cI 0) x3 x1
  have hq' : ∀ j, j < L → six I nl x5 x4 x2 (cI 0) x3 x1 sg j = nI (trS (q j)) := fun j hj => (congrFun (hO sg (by simp; exact tn3.symm)) j).trans (hq j hj)
  have ho : ∀ j, six I nl x5 x4 x2 (cI 0) x3 x1 o j = I o j := fun j => congrFun (hO o (by simp; exact ho1)) j
  generalize six I nl x5 x4 x2 (cI 0) x3 x1 = I6 at hO hV hq' ho ⊢
  refine XP_s rfl ?_
  refine XP_s rfl ?_
  refine XP_getw rfl to9 ?_
  show XP X (d + 2) _ _ _ (.int (I6 o 1) :: _) _ _
  rw [ho, h1]
  refine XP_s rfl ?_
  refine XP_getw rfl to9 ?_
  show XP X (d + 2) _ _ _ (.int (I6 o 2) :: _) _ _
  rw [ho, h2]
  refine XP_call rfl (by show (isO o 9 || false) = true; rw [hoo]; rfl) (t_value X d (k0 := k1) (m := m) hT (by omega) hq' hW hV) ?_
  rintro v M1 ⟨rfl, I7, rfl, hO7⟩
  refine XP_s rfl ?_
  refine XP_s rfl ?_
  refine XP_pure rfl rfl (t_bounded X (d + 1) _ _ _ _) ?_
  exact XP_ret rfl ⟨rfl, I7, rfl, (hO.sub (by simp)).tr (hO7.sub (by simp))⟩
theorem t_growthBy (X : hX) (d : Nat) {I : Nat → Nat → Int32} {J : Nat → Nat → Int64} {R : Nat → Nat → Option Nat} {N : Nat → Nat} {G : hG} {o sg sk nl L : Nat} (hT : TxL R N o sg sk nl L) {q : Nat → Nat} (hq : ∀ j, j < L → I sg j = nI (trS (q j))) {k1 m : Nat} (h2 : I o 2 = nI k1) (hk : k1 + m = L) (hW : WFp q k1 m) (x1 x2 : Int32) : TP X (d + 2) n_Text_growthBy [.ref o, .int x1, .int x2] (I, J, Rx R, N, G) (fun v M' => v = some (.int (bnd (-(nI 999)) (nI 999) (sW (nmV (cI 0) x1 (cI 0) (cI 0) x2 (cI 0)) q k1 m))) ∧ ∃ I', M' = (I', J, Rx R, N, G) ∧ Only [sk, nl] I I') := by
  have hT' := hT
  obtain ⟨to9, tr0, tr3, tr4, ta0, ta3, ta4, tl0, tl3, tl4, tn1, tn2, tn3, tle⟩ := hT'
  obtain ⟨ho1, ho2, ho3⟩ := TxL_o hT
  have hoo : isO o 9 = true := (Bool.and_true _).symm.trans to9
  unfold TP
  refine XP_s rfl ?_
  refine XP_getr rfl to9 tr4 ?_
  refine XP_s rfl ?_
  refine XP_s rfl ?_
  refine XP_iastE 0 rfl rfl ta4 tl4 (by omega) (by omega) ?_
  refine XP_s rfl ?_
  refine XP_getr rfl to9 tr4 ?_
  refine XP_s rfl ?_
  refine XP_s rfl ?_
  refine XP_iastE 1 rfl rfl ta4 tl4 (by omega) (by omega) ?_
  refine XP_s rfl ?_
  refine XP_getr rfl to9 tr4 ?_
  refine XP_s rfl ?_
  refine XP_s rfl ?_
  refine XP_iastE 2 rfl rfl ta4 tl4 (by omega) (by omega) ?_
  refine XP_s rfl ?_
  refine XP_getr rfl to9 tr4 ?_
  refine XP_s rfl ?_
  refine XP_s rfl ?_
  refine XP_iastE 3 rfl rfl ta4 tl4 (by omega) (by omega) ?_
  refine XP_s rfl ?_
  refine XP_getr rfl to9 tr4 ?_
  refine XP_s rfl ?_
  refine XP_s rfl ?_
  refine XP_iastE 4 rfl rfl ta4 tl4 (by omega) (by omega) ?_
  refine XP_s rfl ?_
  refine XP_getr rfl to9 tr4 ?_
  refine XP_s rfl ?_
  refine XP_s rfl ?_
  refine XP_iastE 5 rfl rfl ta4 tl4 (by omega) (by omega) ?_
  show XP X (d + 2) _ 30 _ _ (six I nl (cI 0) x1 (cI 0) (cI 0) x2 (cI 0), _) _
  have hO := six_o I nl (cI 0) x1 (cI 0) (cI 0) x2 (cI 0)
  have hV := six_v I nl (cI 0) x1 (cI 0) (cI 0) x2 (cI 0)
  have hq' : ∀ j, j < L → six I nl (cI 0) x1 (cI 0) (cI 0) x2 (cI 0) sg j = nI (trS (q j)) := fun j hj => (congrFun (hO sg (by simp; exact tn3.symm)) j).trans (hq j hj)
  have ho : ∀ j, six I nl (cI 0) x1 (cI 0) (cI 0) x2 (cI 0) o j = I o j := fun j => congrFun (hO o (by simp; exact ho1)) j
  generalize six I nl (cI 0) x1 (cI 0) (cI 0) x2 (cI 0) = I6 at hO hV hq' ho ⊢
  refine XP_s rfl ?_
  refine XP_s rfl ?_
  refine XP_getw rfl to9 ?_
  show XP X (d + 2) _ _ _ (.int (I6 o 2) :: _) _ _
  rw [ho, h2]
  refine XP_s rfl ?_
  refine XP_getr rfl to9 tr0 ?_
  refine XP_len rfl ta0 tl0 ?_
  rw [← hk]
  refine XP_call rfl (by show (isO o 9 || false) = true; rw [hoo]; rfl) (t_value X d (k0 := k1) (m := m) hT (by omega) hq' hW hV) ?_
  rintro v M1 ⟨rfl, I7, rfl, hO7⟩
  refine XP_s rfl ?_
  refine XP_s rfl ?_
  refine XP_pure rfl rfl (t_bounded X (d + 1) _ _ _ _) ?_
  exact XP_ret rfl ⟨rfl, I7, rfl, (hO.sub (by simp)).tr (hO7.sub (by simp))⟩
theorem t_M_worth (X : hX) (d : Nat) {s I : Nat → Nat → Int32} {J : Nat → Nat → Int64} {R : Nat → Nat → Option Nat} {N : Nat → Nat} {G : hG} (hS : St s I) {t part k0 m : Nat} {q : Nat → Nat} {nm : Nat → Int32} (lo hi : Int32) (ht : s 99 31 = nI t) (ht6 : t < 6) (hp : part < 3) (he0 : s 118 (4 * t + part) = nI k0) (he1 : s 118 (4 * t + part + 1) = nI (k0 + m)) (hk : k0 + m ≤ 200) (hq : ∀ j, j < k0 + m → s 117 (200 * t + j) = nI (q j)) (hW : WFp q k0 m) (hnm : ∀ j, j < 6 → I 126 j = nm j) :
    TP X (d + 1) n_M_worth [.ref 99, .int (nI part), .int lo, .int hi] (I, J, Rx R, N, G) (fun v M' => v = some (.int (bnd lo hi (sW nm q k0 m))) ∧ ∃ I', M' = (I', J, Rx R, N, G) ∧ Only [125] I I') := by
  unfold TP
  repeat (first
    | refine XP_geti hS rfl rfl rfl ?_
    | refine XP_s rfl ?_)
  refine XP_ialdE (4 * t + part) (by rw [ht]; simp only [cI_m999, cI_m100, cI_m14, cI_m13, cI_m12, cI_m11, cI_m7, cI_m5, cI_m4, cI_m3, cI_m2, cI_m1, cI_0, cI_1, cI_2, cI_3, cI_4, cI_5, cI_6, cI_7, cI_8, cI_9, cI_10, cI_11, cI_12, cI_13, cI_14, cI_15, cI_16, cI_17, cI_18, cI_19, cI_20, cI_24, cI_30, cI_31, cI_32, cI_40, cI_41, cI_42, cI_43, cI_45, cI_48, cI_49, cI_50, cI_57, cI_59, cI_60, cI_61, cI_63, cI_97, cI_99, cI_100, cI_122, cI_128, cI_160, cI_200, cI_255, cI_784, cI_833, cI_999, cI_1000, cI_1001, cI_1002, cI_1003, cI_1004, cI_1005, cI_1006, cI_1007, cI_1008, cI_1009, cI_1010, cI_1011, cI_1200, cI_2000, cI_2001, cI_2002, cI_9999, cI_10000, cI_10006, cI_10010, cI_10011, cI_10012, cI_10013, cI_10014, cI_10015, cI_10016, cI_10017, cI_10018, cI_99999, cI_100000, cI_100009, cI_100020, cI_999999, nI_mul, nI_add]) hS rfl rfl rfl (show _ < 24 by omega) (Nat.le_of_ble_eq_true rfl) rfl ?_
  rw [he0]
  refine XP_s rfl ?_
  exact l_M_worth X d hS ht ht6 hp he1 hk hq hW hnm m 0 I _ _ _ (Nat.zero_add m) Only.rf (fun j hj => absurd hj (Nat.not_lt_zero j)) rfl rfl
