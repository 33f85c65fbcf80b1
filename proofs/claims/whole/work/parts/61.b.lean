/-! contracts at the level of what holds between calls -/
section
variable {X : hX} {d : Nat} {s I : Nat → Nat → Int32} {J : Nat → Nat → Int64} {R : Nat → Nat → Option Nat} {N : Nat → Nat} {G : hG}
theorem t_H_isMany (X : hX) (d : Nat) (v : Int32) (M : hM) : TP X (d + 1) n_H_isMany [.int v] M (Ret (.int (b2i (iv 0 1000 v))) M) := by
  unfold TP
  refine XP_s rfl ?_
  refine XP_s rfl ?_
  refine XP_s rfl ?_
  refine XP_pure rfl rfl (w_H X d v 0 1000 M) ?_
  exact ret_b rfl ⟨rfl, rfl⟩
theorem t_H_isPart (X : hX) (d : Nat) (v : Int32) (M : hM) : TP X (d + 1) n_H_isPart [.int v] M (Ret (.int (b2i (iv 0 1 v))) M) := by
  unfold TP
  refine XP_s rfl ?_
  refine XP_s rfl ?_
  refine XP_s rfl ?_
  refine XP_pure rfl rfl (w_H X d v 0 1 M) ?_
  exact ret_b rfl ⟨rfl, rfl⟩
theorem t_H_isHeight (X : hX) (d : Nat) (v : Int32) (M : hM) : TP X (d + 1) n_H_isHeight [.int v] M (Ret (.int (b2i (iv 0 60 v))) M) := by
  unfold TP
  refine XP_s rfl ?_
  refine XP_s rfl ?_
  refine XP_s rfl ?_
  refine XP_pure rfl rfl (w_H X d v 0 60 M) ?_
  exact ret_b rfl ⟨rfl, rfl⟩
theorem t_H_isWorth (X : hX) (d : Nat) (v : Int32) (M : hM) : TP X (d + 1) n_H_isWorth [.int v] M (Ret (.int (b2i (iv 0 999 v))) M) := by
  unfold TP
  refine XP_s rfl ?_
  refine XP_s rfl ?_
  refine XP_s rfl ?_
  refine XP_pure rfl rfl (w_H X d v 0 999 M) ?_
  exact ret_b rfl ⟨rfl, rfl⟩
theorem t_H_isWeight (X : hX) (d : Nat) (v : Int32) (M : hM) : TP X (d + 1) n_H_isWeight [.int v] M (Ret (.int (b2i (iv 1 99 v))) M) := by
  unfold TP
  refine XP_s rfl ?_
  refine XP_s rfl ?_
  refine XP_s rfl ?_
  refine XP_pure rfl rfl (w_H X d v 1 99 M) ?_
  exact ret_b rfl ⟨rfl, rfl⟩
theorem q_M_harm (hI : Inv s R N I J) (l h y rich : Int32) : TP X (d + 2) n_M_harmOf [.ref 99, .int l, .int y, .int h, .int rich] (I, J, Rx R, N, G) (QP s R N G (.long (gHarm s l h y rich))) :=
  TP_mono (m_harm hI.1 hI.2.1 l h y rich) (fun v M' ⟨a, I', b, c⟩ => ⟨a, I', J, b, hI.m (c.sub (by simp)) OnlyJ.rf⟩)
theorem q_M_cost (hI : Inv s R N I J) (up h y rich : Int32) : TP X (d + 2) n_M_costOf [.ref 99, .int up, .int h, .int y, .int rich] (I, J, Rx R, N, G) (QP s R N G (.int (gCost s (s 99 3) up h y rich))) :=
  TP_mono (m_cost hI.1 hI.2.1 up h y rich) (fun v M' ⟨a, I', b, c⟩ => ⟨a, I', J, b, hI.m (c.sub (by simp)) OnlyJ.rf⟩)
theorem q_M_grow (hI : Inv s R N I J) (rich y : Int32) : TP X (d + 2) n_M_grown [.ref 99, .int rich, .int y] (I, J, Rx R, N, G) (QP s R N G (.int (gGrow s rich y))) :=
  TP_mono (m_grow hI.1 hI.2.1 rich y) (fun v M' ⟨a, I', b, c⟩ => ⟨a, I', J, b, hI.m (c.sub (by simp)) OnlyJ.rf⟩)
theorem q_C_harm (hI : Inv s R N I J) {l h : Nat} (hl : l < 100000000) (hh : h < 100000000) (y rich : Int32) : TP X (d + 3) n_Coast_harmAt [.ref 1, .int (nI l), .int (nI h), .int y, .int rich] (I, J, Rx R, N, G) (QP s R N G (.long (gHarm s (nI l) (nI h) y rich))) :=
  TP_mono (c_harm hI.1 hI.2.1 hI.2.2.1 hl hh y rich) (fun v M' ⟨a, I', b, c⟩ => ⟨a, I', J, b, hI.c (c.sub (by simp)) OnlyJ.rf⟩)
theorem q_C_cost (hI : Inv s R N I J) (up h y rich broad : Int32) : TP X (d + 3) n_Coast_costAt [.ref 1, .int up, .int h, .int y, .int rich, .int broad] (I, J, Rx R, N, G) (QP s R N G (.int (gCost s broad up h y rich))) :=
  TP_mono (c_cost hI.1 hI.2.1 hI.2.2.1 up h y rich broad) (fun v M' ⟨a, I', b, c⟩ => ⟨a, I', J, b, hI.c (c.sub (by simp)) OnlyJ.rf⟩)
theorem q_C_grow (hI : Inv s R N I J) (rich y : Int32) : TP X (d + 3) n_Coast_grown [.ref 1, .int rich, .int y] (I, J, Rx R, N, G) (QP s R N G (.int (gGrow s rich y))) :=
  TP_mono (c_grow hI.1 hI.2.1 hI.2.2.1 rich y) (fun v M' ⟨a, I', b, c⟩ => ⟨a, I', J, b, hI.c (c.sub (by simp)) OnlyJ.rf⟩)
theorem q_M_tot (hI : Inv s R N I J) {r p : Nat} (hr : r < cR s) (hp : p < cP s) : TP X (d + 4) n_M_totalOf [.ref 99, .int (nI r), .int (nI p)] (I, J, Rx R, N, G) (QP s R N G (.long (gTot s r p))) :=
  TP_mono (m_tot hI.1 hI.2.1 hr hp) (fun v M' ⟨a, I', J', b, c, e, _⟩ => ⟨a, I', J', b, hI.m (c.sub (by simp)) (e.sub (by simp))⟩)
theorem q_M_best (hI : Inv s R N I J) {q no : Nat} (hq : q ≤ cP s) (hno : no ≤ 16) : TP X (d + 4) n_M_bestOf [.ref 99, .int (qP q), .int (nI no)] (I, J, Rx R, N, G) (QP s R N G (.long (lN (pBest s q (s 99 3) no)))) :=
  TP_mono (m_best hI.1 hI.2.1 hq hno) (fun v M' ⟨a, I', J', b, c, e, _⟩ => ⟨a, I', J', b, hI.m (c.sub (by simp)) (e.sub (by simp))⟩)
theorem q_C_best (hI : Inv s R N I J) {q : Nat} (hq : q ≤ cP s) : TP X (d + 7) n_Planner_bestOn [.ref 21, .int (qP q)] (I, J, Rx R, N, G) (fun v M' => v = some (.ref (68 + 2 * q)) ∧ ∃ I' J', M' = (I', J', Rx R, N, G) ∧ Inv s R N I' J' ∧ PlOk s q I' J' ∧ ∀ k, k < 21 ∨ 77 < k → (k ≠ oT (cLw s) + 3 → k ≠ oT (cLw s) + 2 → I' k = I k) ∧ J' k = J k) :=
  TP_mono (c_bestOn hI.1 hI.2.1 hI.2.2.1 hq hI.2.2.2.1 hI.2.2.2.2) (fun v M' ⟨a, I', J', b, c, e, f, g⟩ => ⟨a, I', J', b, ⟨St_P hI.2.1 hI.1 f, hI.2.1, hI.2.2.1, c, hI.2.2.2.2⟩, e, fun k hk => ⟨f k hk, g k hk⟩⟩)
theorem q_C_least (hI : Inv s R N I J) {no : Nat} {br : Int32} (hno : no ≤ 16) : TP X (d + 7) n_Planner_leastIf [.ref 21, .int (nI no), .int br] (I, J, Rx R, N, G) (QP s R N G (.long (lN (pBest s 0 br no)))) :=
  TP_mono (c_leastIf hI.1 hI.2.1 hI.2.2.1 hno hI.2.2.2.1 hI.2.2.2.2) (fun v M' ⟨a, I', J', b, c, f, g⟩ => ⟨a, I', J', b, St_P hI.2.1 hI.1 f, hI.2.1, hI.2.2.1, c, hI.2.2.2.2⟩)
theorem in_n {v : Int32} {n : Nat} (hn : n < 2147483648) : (nI 0 ≤ v ∧ v ≤ nI n - nI 1) ↔ inN v n := by
  rcases Nat.eq_zero_or_pos n with h | h
  · subst h
    refine ⟨fun z => absurd (Int32.le_trans z.1 z.2) (by decide), fun z => by unfold inN at z; omega⟩
  · rw [nI_sub h]
    exact in_iff (by omega) h
theorem m_isRule (hS : St s I) (hW : Wf s) (v : Int32) : TP X (d + 1) n_M_isRule [.ref 99, .int v] (I, J, Rx R, N, G) (Ret (.int (b2i (inN v (cR s)))) (I, J, Rx R, N, G)) := by
  have hy16 := hW.y.2
  have hr8 := hW.r.2
  unfold TP
  show XP X _ k_M_isRule 0 [.ref (99), .int (v)] [] _ _
  refine XP_n 3 (pc' := 3) (ls' := [.ref (99), .int (v)]) (st' := [.ref (99), .int (nI (0)), .int (v)]) (M' := (I, J, Rx R, N, G)) rfl ?_
  refine XP_geti hS rfl rfl rfl ?_
  rw [hW.r.1]
  refine XP_n 2 (pc' := 6) (ls' := [.ref (99), .int (v)]) (st' := [.int ((nI (cR s)) - (nI (1))), .int (nI (0)), .int (v)]) (M' := (I, J, Rx R, N, G)) rfl ?_
  refine XP_pure rfl rfl (t_M_in X d v (nI 0) (nI (cR s) - nI 1) _) ?_
  rw [show b2i (nI 0 ≤ v ∧ v ≤ nI (cR s) - nI 1) = b2i (inN v (cR s)) from b2i_congr (in_n (by omega))]
  exact ret_b rfl ⟨rfl, rfl⟩
theorem m_isYear (hS : St s I) (hW : Wf s) (v : Int32) : TP X (d + 1) n_M_isYear [.ref 99, .int v] (I, J, Rx R, N, G) (Ret (.int (b2i (inN v (cY s)))) (I, J, Rx R, N, G)) := by
  have hy16 := hW.y.2
  have hr8 := hW.r.2
  unfold TP
  show XP X _ k_M_isYear 0 [.ref (99), .int (v)] [] _ _
  refine XP_n 3 (pc' := 3) (ls' := [.ref (99), .int (v)]) (st' := [.ref (99), .int (nI (0)), .int (v)]) (M' := (I, J, Rx R, N, G)) rfl ?_
  refine XP_geti hS rfl rfl rfl ?_
  rw [hW.y.1]
  refine XP_n 2 (pc' := 6) (ls' := [.ref (99), .int (v)]) (st' := [.int ((nI (cY s)) - (nI (1))), .int (nI (0)), .int (v)]) (M' := (I, J, Rx R, N, G)) rfl ?_
  refine XP_pure rfl rfl (t_M_in X d v (nI 0) (nI (cY s) - nI 1) _) ?_
  rw [show b2i (nI 0 ≤ v ∧ v ≤ nI (cY s) - nI 1) = b2i (inN v (cY s)) from b2i_congr (in_n (by omega))]
  exact ret_b rfl ⟨rfl, rfl⟩
theorem h_isYear (hS : St s I) (hW : Wf s) (v : Int32) : TP X (d + 1) n_H_isYear [.ref 0, .int v] (I, J, Rx R, N, G) (Ret (.int (b2i (inN v (cY s)))) (I, J, Rx R, N, G)) := by
  have hy16 := hW.y.2
  have hr8 := hW.r.2
  unfold TP
  show XP X _ k_H_isYear 0 [.ref (0), .int (v)] [] _ _
  refine XP_n 4 (pc' := 4) (ls' := [.ref (0), .int (v)]) (st' := [.ref (1), .int (nI (0)), .int (v)]) (M' := (I, J, Rx R, N, G)) rfl ?_
  refine XP_geti hS rfl rfl rfl ?_
  rw [hW.y.1]
  refine XP_n 2 (pc' := 7) (ls' := [.ref (0), .int (v)]) (st' := [.int ((nI (cY s)) - (nI (1))), .int (nI (0)), .int (v)]) (M' := (I, J, Rx R, N, G)) rfl ?_
  refine XP_pure rfl rfl (t_H_within X d v (nI 0) (nI (cY s) - nI 1) _) ?_
  rw [show b2i (nI 0 ≤ v ∧ v ≤ nI (cY s) - nI 1) = b2i (inN v (cY s)) from b2i_congr (in_n (by omega))]
  exact ret_b rfl ⟨rfl, rfl⟩
end
theorem gRich_ok {s : Nat → Nat → Int32} (rich y : Int32) : iN 0 9999 (gGrow s rich y) := bnd_nat 9999 (by omega) _
theorem gS_nat {s : Nat → Nat → Int32} (hW : Wf s) (k5 : Bool) (nR : Nat → Nat → Nat → Nat) (p : Nat) : ∀ y, iN 0 9999 (gS s k5 nR p y).2.1 ∧ (∃ a, (gS s k5 nR p y).2.2.2.1 = lN a ∧ a ≤ y * 20000) ∧ ∃ b, (gS s k5 nR p y).2.2.2.2 = lN b ∧ b ≤ y * 9999000
  | 0 => by
    obtain ⟨e, h⟩ := hW.b
    exact ⟨⟨_, Nat.zero_le _, by omega, e⟩, ⟨0, rfl, by omega⟩, ⟨0, rfl, by omega⟩⟩
  | y + 1 => by
    obtain ⟨⟨z, _, hz, ez⟩, ⟨a, ea, ha⟩, ⟨b, eb, hb⟩⟩ := gS_nat hW k5 nR p y
    unfold gS gN
    split
    · exact ⟨⟨z, Nat.zero_le _, hz, ez⟩, ⟨a, ea, Nat.le_trans ha (Nat.mul_le_mul_right _ (Nat.le_succ y))⟩, ⟨b, eb, Nat.le_trans hb (Nat.mul_le_mul_right _ (Nat.le_succ y))⟩⟩
    · split
      · refine ⟨⟨0, Nat.zero_le _, by omega, rfl⟩, ⟨a + z, ?_, by omega⟩, ⟨b, eb, Nat.le_trans hb (Nat.mul_le_mul_right _ (Nat.le_succ y))⟩⟩
        show (gS s k5 nR p y).2.2.2.1 + (gS s k5 nR p y).2.1.toInt64 = _
        rw [ea, ez, nI_l (by omega), lN_add]
      · have hc := nCost_ok (s := s) (s 99 3) (gUp nR (nLv s p y) (gS s k5 nR p y).1 y) (gS s k5 nR p y).1 y (gS s k5 nR p y).2.1
        have hh := nHarm_ok hW (nLv s p y) ((gS s k5 nR p y).1 + gUp nR (nLv s p y) (gS s k5 nR p y).1 y) y (gS s k5 nR p y).2.1
        refine ⟨gRich_ok _ _, ⟨_, by show _ + Int32.toInt64 _ = _; rw [ea, hc.1, nI_l (by omega), lN_add], by omega⟩, ⟨_, by show _ + _ = _; rw [eb, hh.1, lN_add], by omega⟩⟩
def nTo (q : gT) : Nat := (gTo q).toInt.toNat
theorem gTo_nat {s : Nat → Nat → Int32} (hW : Wf s) (k5 : Bool) (nR : Nat → Nat → Nat → Nat) (p : Nat) : gTo (gS s k5 nR p (cY s)) = lN (nTo (gS s k5 nR p (cY s))) ∧ nTo (gS s k5 nR p (cY s)) ≤ 500000000 := by
  obtain ⟨_, ⟨a, ea, ha⟩, ⟨b, eb, hb⟩⟩ := gS_nat hW k5 nR p (cY s)
  have hy := hW.y.2.2
  have ha2 : a ≤ 16 * 20000 := Nat.le_trans ha (Nat.mul_le_mul_right _ hy)
  have hb2 : b ≤ 16 * 9999000 := Nat.le_trans hb (Nat.mul_le_mul_right _ hy)
  have e : gTo (gS s k5 nR p (cY s)) = lN (1000 * a + b) := by
    unfold gTo
    rw [ea, eb, lN_mul, lN_add]
  have e2 : nTo (gS s k5 nR p (cY s)) = 1000 * a + b := by
    unfold nTo
    rw [e, pk_lT (by omega)]
    rfl
  rw [e2]
  exact ⟨e, by omega⟩
def nTot (s : Nat → Nat → Int32) (r p : Nat) : Nat := nTo (gS s (k5 s r) (nRr s r) p (cY s))
def nTotA (s : Nat → Nat → Int32) (m p : Nat) : Nat := nTo (gS s (decide (1 = 5)) (nRa s m) p (cY s))
theorem nTot_ok {s : Nat → Nat → Int32} (hW : Wf s) (r p : Nat) : gTot s r p = lN (nTot s r p) ∧ nTot s r p ≤ 500000000 := gTo_nat hW _ _ _
theorem nTotA_ok {s : Nat → Nat → Int32} (hW : Wf s) (m p : Nat) : gTotA s m p = lN (nTotA s m p) ∧ nTotA s m p ≤ 500000000 := gTo_nat hW _ _ _
theorem l_min {a : Nat} (h : a < 9223372036854775808) : lN a ≠ Int64.minValue := fun z => by
  have := congrArg Int64.toInt z
  rw [pk_lT (by omega)] at this
  have e : Int64.minValue.toInt = -9223372036854775808 := by decide
  omega
theorem l_min2 {a b : Nat} (h : a < 4611686018427387904) (h2 : b < 4611686018427387904) : lN a - lN b ≠ Int64.minValue := fun z => by
  have := congrArg Int64.toInt z
  rw [Int64.toInt_sub, pk_lT (by omega), pk_lT (by omega)] at this
  have e : Int64.minValue.toInt = -9223372036854775808 := by decide
  rw [e] at this
  simp [Int.bmod] at this
  omega
