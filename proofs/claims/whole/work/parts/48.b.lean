/-! rules on paths: totals, both sides -/
theorem XP_aaldS {X : hX} {I : Nat → Nat → Int32} {d pc n k j a : Nat} {C : List Instr} {ls r : List Value} {J : Nat → Nat → Int64} {R : Nat → Nat → Option Nat} {N : Nat → Nat} {G : hG} {Q : Option Value → hM → Prop} (hC : C.getD pc .nop = .aaload) (hA : (match kd k with | .inr t => Nat.ble 3 t | .inl _ => false) = true) (hj : j < n) (hn : alen N k = n) (h31 : n < 2147483648) (hv : R k j = some a)
    (kk : XP X d C (pc + 1) ls (.ref a :: r) (I, J, R, N, G) Q) : XP X d C pc ls (.int (nI j) :: .ref k :: r) (I, J, R, N, G) Q := by
  refine XP_s (M' := (I, J, R, N, G)) ?_ kk
  rw [hC]
  revert hA
  show (match kd k with | .inr t => Nat.ble 3 t | .inl _ => false) = true → (match kd k with
      | .inr t => bif Nat.ble 3 t && inB (nI j) (alen N k) then some (pc + 1, ls, va_rf (R k (nI j).toNatClampNeg) :: r, (I, J, R, N, G)) else none
      | .inl _ => none) = _
  cases kd k with
  | inl c => intro h; cases h
  | inr c =>
    intro h
    show (bif Nat.ble 3 c && inB (nI j) (alen N k) then _ else _) = _
    rw [show Nat.ble 3 c = true from h, hn, inB_nI hj h31, nI_clamp (by omega), hv]
    rfl
theorem XP_aaldN {X : hX} {I : Nat → Nat → Int32} {d pc n k j : Nat} {C : List Instr} {ls r : List Value} {J : Nat → Nat → Int64} {R : Nat → Nat → Option Nat} {N : Nat → Nat} {G : hG} {Q : Option Value → hM → Prop} (hC : C.getD pc .nop = .aaload) (hA : (match kd k with | .inr t => Nat.ble 3 t | .inl _ => false) = true) (hj : j < n) (hn : alen N k = n) (h31 : n < 2147483648) (hv : R k j = none)
    (kk : XP X d C (pc + 1) ls (.null :: r) (I, J, R, N, G) Q) : XP X d C pc ls (.int (nI j) :: .ref k :: r) (I, J, R, N, G) Q := by
  refine XP_s (M' := (I, J, R, N, G)) ?_ kk
  rw [hC]
  revert hA
  show (match kd k with | .inr t => Nat.ble 3 t | .inl _ => false) = true → (match kd k with
      | .inr t => bif Nat.ble 3 t && inB (nI j) (alen N k) then some (pc + 1, ls, va_rf (R k (nI j).toNatClampNeg) :: r, (I, J, R, N, G)) else none
      | .inl _ => none) = _
  cases kd k with
  | inl c => intro h; cases h
  | inr c =>
    intro h
    show (bif Nat.ble 3 c && inB (nI j) (alen N k) then _ else _) = _
    rw [show Nat.ble 3 c = true from h, hn, inB_nI hj h31, nI_clamp (by omega), hv]
    rfl
theorem sNeed_le (s : Nat → Nat → Int32) (ns : Nat) (l h most : Int32) : ∀ n u, sNeed s ns l h most n u ≤ u + n
  | 0, u => Nat.le_refl _
  | n + 1, u => by
    unfold sNeed
    have := sNeed_le s ns l h most n (u + 1)
    split <;> omega
theorem small_nat {x : Int32} (h : iN 0 1000 x) : x = nI (min 1000 (wN x)) := by
  obtain ⟨e, _, h2⟩ := h.nat (by omega)
  rw [Nat.min_eq_right h2]
  exact e
/-- what a rule raises, as a number -/
def nRr (s : Nat → Nat → Int32) (r l w y : Nat) : Nat := min 1000 (wN (sRaise s (cS s) (rKd s r) (rMo s r) r (nI l) (nI w) y))
/-- what the law that is asked about raises -/
def nRa (s : Nat → Nat → Int32) (m l w _y : Nat) : Nat := gNeed s (nI l) (nI w) (nI m)
theorem nRr_le (s : Nat → Nat → Int32) (r : Nat) : ∀ l w y, nRr s r l w y ≤ 1000 := fun _ _ _ => Nat.min_le_left _ _
theorem nRa_le (s : Nat → Nat → Int32) (m : Nat) : ∀ l w y, nRa s m l w y ≤ 1000 := fun l w _ => by
  have := sNeed_le s (cS s) (nI l) (nI w) (nI m) 20 0
  unfold nRa gNeed
  omega
theorem sRaise_nat {s : Nat → Nat → Int32} (hW : Wf s) {r : Nat} (hr : r < cR s) (l w : Nat) {y : Nat} (hy : y < 16) : sRaise s (cS s) (rKd s r) (rMo s r) r (nI l) (nI w) y = nI (nRr s r l w y) := by
  refine small_nat ?_
  have hst : iN 0 1000 (sStep (rMo s r) (s 109 r) y) := by
    obtain ⟨e, h⟩ := hW.rs hr
    have h1 : iN 0 1000 (s 109 r) := ⟨_, Nat.zero_le _, by omega, e⟩
    unfold sStep
    split
    · exact h1
    · split
      · exact h1
      · exact ⟨0, by omega, by omega, rfl⟩
  have h0 : iN 0 1000 (cI 0) := ⟨0, by omega, by omega, rfl⟩
  unfold sRaise
  split
  · exact ⟨_, Nat.zero_le _, by have := sNeed_le s (cS s) (nI l) (nI w) (nI (rMo s r)) 20 0; omega, rfl⟩
  · split
    · obtain ⟨e, h⟩ := hW.rt hr hy
      exact ⟨_, Nat.zero_le _, by omega, e⟩
    · split
      · exact hst
      · split
        · split
          · exact hst
          · exact h0
        · exact h0
abbrev k5 (s : Nat → Nat → Int32) (r : Nat) : Bool := decide (rKd s r = 5)
def gTo (q : gT) : Int64 := lN 1000 * q.2.2.2.1 + q.2.2.2.2
def gTot (s : Nat → Nat → Int32) (r p : Nat) : Int64 := gTo (gS s (k5 s r) (nRr s r) p (cY s))
def gTotA (s : Nat → Nat → Int32) (m p : Nat) : Int64 := gTo (gS s (decide (1 = 5)) (nRa s m) p (cY s))
section
variable {X : hX} {d : Nat} {s I : Nat → Nat → Int32} {J : Nat → Nat → Int64} {R : Nat → Nat → Option Nat} {N : Nat → Nat} {G : hG}
theorem m_goes (hS : St s I) (hW : Wf s) {r p : Nat} (hr : r < cR s) (hp : p < cP s) : TP X (d + 3) n_M_goes [.ref 99, .int (nI (rKd s r)), .int (nI (rMo s r)), .int (s 109 r), .int (s 110 r), .int (nI r), .int (nI p)] (I, J, Rx R, N, G) (fun v M' => v = none ∧ ∃ I' J', M' = (I', J', Rx R, N, G) ∧ Only [125, 126, 127, 128, 129, 130] I I' ∧ OnlyJ [99] J J' ∧ gRows s (k5 s r) (nRr s r) p (cY s) 127 128 129 130 I' ∧ J' 99 59 = (gS s (k5 s r) (nRr s r) p (cY s)).2.2.2.1 ∧ J' 99 60 = (gS s (k5 s r) (nRr s r) p (cY s)).2.2.2.2) := by
  have hk := hW.rk hr
  have hm := hW.rm hr
  refine t_M_goes X d hS hW (nI (rMo s r)) (s 109 r) (s 110 r) (nI r) (by omega) hp (nRr_le s r) (fun I' J' hS' l w y hy hl hw => ?_)
  rw [← sRaise_nat hW hr l w hy]
  exact t_M_raises X d hS' hW.ns.2 hW.ns.1 (by have := hW.r.2; omega) (by omega) (by omega) hy _ _
theorem m_goesA (hS : St s I) (hW : Wf s) {m p : Nat} (hm : m ≤ 1000) (hp : p < cP s) : TP X (d + 3) n_M_goes [.ref 99, .int (nI 1), .int (nI m), .int (nI 0), .int (nI 0), .int (nI 0), .int (nI p)] (I, J, Rx R, N, G) (fun v M' => v = none ∧ ∃ I' J', M' = (I', J', Rx R, N, G) ∧ Only [125, 126, 127, 128, 129, 130] I I' ∧ OnlyJ [99] J J' ∧ gRows s (decide (1 = 5)) (nRa s m) p (cY s) 127 128 129 130 I' ∧ J' 99 59 = (gS s (decide (1 = 5)) (nRa s m) p (cY s)).2.2.2.1 ∧ J' 99 60 = (gS s (decide (1 = 5)) (nRa s m) p (cY s)).2.2.2.2) := by
  refine t_M_goes X d hS hW (nI m) (nI 0) (nI 0) (nI 0) (by omega) hp (nRa_le s m) (fun I' J' hS' l w y hy hl hw => ?_)
  unfold TP
  show XP X _ k_M_raises 0 [.ref (99), .int (nI (1)), .int (nI (m)), .int (nI (0)), .int (nI (0)), .int (nI (y)), .int (nI (l)), .int (nI (w)), .int (nI (0)), xj] [] _ _
  refine XP_n 2 (pc' := 2) (ls' := [.ref (99), .int (nI (1)), .int (nI (m)), .int (nI (0)), .int (nI (0)), .int (nI (y)), .int (nI (l)), .int (nI (w)), .int (nI (0)), xj]) (st' := [.int (nI (1)), .int (nI (1))]) (M' := (I', J', Rx R, N, G)) rfl ?_
  refine XP_icN (x := 1) (y := 1) rfl (by omega) (by omega) (fun (b2 : ¬ 1 = 1) => absurd b2 (by omega)) (fun (b2 : 1 = 1) => ?_)
  refine XP_n 4 (pc' := 7) (ls' := [.ref (99), .int (nI (1)), .int (nI (m)), .int (nI (0)), .int (nI (0)), .int (nI (y)), .int (nI (l)), .int (nI (w)), .int (nI (0)), xj]) (st' := [.int (nI (m)), .int (nI (w)), .int (nI (l)), .ref (99)]) (M' := (I', J', Rx R, N, G)) rfl ?_
  refine XP_pure rfl rfl (m_need hS' hW _ _ _) ?_
  exact XP_ret rfl ⟨rfl, rfl⟩
theorem m_tot (hS : St s I) (hW : Wf s) {r p : Nat} (hr : r < cR s) (hp : p < cP s) : TP X (d + 4) n_M_totalOf [.ref 99, .int (nI r), .int (nI p)] (I, J, Rx R, N, G) (fun v M' => v = some (.long (gTot s r p)) ∧ ∃ I' J', M' = (I', J', Rx R, N, G) ∧ Only [125, 126, 127, 128, 129, 130] I I' ∧ OnlyJ [99] J J' ∧ gRows s (k5 s r) (nRr s r) p (cY s) 127 128 129 130 I' ∧ J' 99 59 = (gS s (k5 s r) (nRr s r) p (cY s)).2.2.2.1) := by
  have hr8 := hW.r.2
  unfold TP
  show XP X _ k_M_totalOf 0 [.ref (99), .int (nI (r)), .int (nI (p))] [] _ _
  refine XP_n 4 (pc' := 4) (ls' := [.ref (99), .int (nI (r)), .int (nI (p))]) (st' := [.int (nI (r)), .ref (107), .ref (99)]) (M' := (I, J, Rx R, N, G)) rfl ?_
  refine XP_iald hS rfl rfl (show r < 8 by omega) rfl (by omega) rfl ?_
  obtain ⟨hq21, hr21⟩ := hW.rk (show r < cR s by omega)
  rw [hq21]
  refine XP_n 3 (pc' := 8) (ls' := [.ref (99), .int (nI (r)), .int (nI (p))]) (st' := [.int (nI (r)), .ref (108), .int (nI (rKd s r)), .ref (99)]) (M' := (I, J, Rx R, N, G)) rfl ?_
  refine XP_iald hS rfl rfl (show r < 8 by omega) rfl (by omega) rfl ?_
  obtain ⟨hq22, hr22⟩ := hW.rm (show r < cR s by omega)
  rw [hq22]
  refine XP_n 3 (pc' := 12) (ls' := [.ref (99), .int (nI (r)), .int (nI (p))]) (st' := [.int (nI (r)), .ref (109), .int (nI (rMo s r)), .int (nI (rKd s r)), .ref (99)]) (M' := (I, J, Rx R, N, G)) rfl ?_
  refine XP_iald hS rfl rfl (show r < 8 by omega) rfl (by omega) rfl ?_
  refine XP_n 3 (pc' := 16) (ls' := [.ref (99), .int (nI (r)), .int (nI (p))]) (st' := [.int (nI (r)), .ref (110), .int (s 109 r), .int (nI (rMo s r)), .int (nI (rKd s r)), .ref (99)]) (M' := (I, J, Rx R, N, G)) rfl ?_
  refine XP_iald hS rfl rfl (show r < 8 by omega) rfl (by omega) rfl ?_
  refine XP_n 2 (pc' := 19) (ls' := [.ref (99), .int (nI (r)), .int (nI (p))]) (st' := [.int (nI (p)), .int (nI (r)), .int (s 110 r), .int (s 109 r), .int (nI (rMo s r)), .int (nI (rKd s r)), .ref (99)]) (M' := (I, J, Rx R, N, G)) rfl ?_
  refine XP_call rfl rfl (m_goes hS hW hr hp) ?_
  rintro v23 M23 ⟨rfl, I23, J23, rfl, hO23, hOJ23, hRw23, hJa23, hJb23⟩
  refine XP_n 3 (pc' := 23) (ls' := [.ref (99), .int (nI (r)), .int (nI (p))]) (st' := [.long (J23 99 59), .long (lN (1000))]) (M' := (I23, J23, Rx R, N, G)) rfl ?_
  rw [hJa23]
  refine XP_n 3 (pc' := 26) (ls' := [.ref (99), .int (nI (r)), .int (nI (p))]) (st' := [.long (J23 99 60), .long ((lN (1000)) * ((gS s (k5 s r) (nRr s r) p (cY s)).2.2.2.1))]) (M' := (I23, J23, Rx R, N, G)) rfl ?_
  rw [hJb23]
  refine XP_n 1 (pc' := 27) (ls' := [.ref (99), .int (nI (r)), .int (nI (p))]) (st' := [.long (((lN (1000)) * ((gS s (k5 s r) (nRr s r) p (cY s)).2.2.2.1)) + ((gS s (k5 s r) (nRr s r) p (cY s)).2.2.2.2))]) (M' := (I23, J23, Rx R, N, G)) rfl ?_
  exact XP_ret rfl ⟨rfl, _, _, rfl, hO23, hOJ23, hRw23, hJa23⟩
theorem c_leaves (hS : St s I) (hW : Wf s) {r : Nat} (hr : r < cR s) {l w : Nat} (hl : l ≤ 150) (hw : w ≤ 99) : TP X d n_Rule_leaves [.ref (1000 + 2 * r), .int (nI l), .int (nI w)] (I, J, Rx R, N, G) (Ret (.int (b2i (rKd s r = 5 ∧ w ≤ l))) (I, J, Rx R, N, G)) := by
  have hr8 := hW.r.2
  have hk := hW.rk hr
  have h7 : (isO (1000 + 2 * r) 7 && true) = true := by rw [rul_o (by omega)]; rfl
  have m0 : I (1000 + 2 * r) 0 = nI (rKd s r) := (hS _ _ _ _ (rul_m (by omega)).1).trans hk.1
  unfold TP
  show XP X _ k_Rule_leaves 0 [.ref (1000 + 2 * r), .int (nI (l)), .int (nI (w))] [] _ _
  refine XP_n 1 (pc' := 1) (ls' := [.ref (1000 + 2 * r), .int (nI (l)), .int (nI (w))]) (st' := [.ref (1000 + 2 * r)]) (M' := (I, J, Rx R, N, G)) rfl ?_
  refine XP_getw rfl (h7) ?_
  show XP X _ k_Rule_leaves 2 [.ref (1000 + 2 * r), .int (nI (l)), .int (nI (w))] [.int (I (1000 + 2 * r) 0)] _ _
  rw [m0]
  refine XP_n 1 (pc' := 3) (ls' := [.ref (1000 + 2 * r), .int (nI (l)), .int (nI (w))]) (st' := [.int (nI (5)), .int (nI (rKd s r))]) (M' := (I, J, Rx R, N, G)) rfl ?_
  refine XP_icN (x := rKd s r) (y := 5) rfl (by omega) (by omega) (fun (b3 : ¬ rKd s r = 5) => ?_) (fun (b3 : rKd s r = 5) => ?_)
  · refine XP_n 1 (pc' := 10) (ls' := [.ref (1000 + 2 * r), .int (nI (l)), .int (nI (w))]) (st' := [.int (nI (0))]) (M' := (I, J, Rx R, N, G)) rfl ?_
    rw [show nI (0) = b2i (rKd s r = 5 ∧ w ≤ l) from (b2i_f (fun z => by omega)).symm]
    exact ret_b rfl ⟨rfl, rfl⟩
  · refine XP_n 2 (pc' := 6) (ls' := [.ref (1000 + 2 * r), .int (nI (l)), .int (nI (w))]) (st' := [.int (nI (w)), .int (nI (l))]) (M' := (I, J, Rx R, N, G)) rfl ?_
    refine XP_icN (x := l) (y := w) rfl (by omega) (by omega) (fun (b6 : l < w) => ?_) (fun (b6 : w ≤ l) => ?_)
    · refine XP_n 1 (pc' := 10) (ls' := [.ref (1000 + 2 * r), .int (nI (l)), .int (nI (w))]) (st' := [.int (nI (0))]) (M' := (I, J, Rx R, N, G)) rfl ?_
      rw [show nI (0) = b2i (rKd s r = 5 ∧ w ≤ l) from (b2i_f (fun z => by omega)).symm]
      exact ret_b rfl ⟨rfl, rfl⟩
    · refine XP_n 2 (pc' := 10) (ls' := [.ref (1000 + 2 * r), .int (nI (l)), .int (nI (w))]) (st' := [.int (nI (1))]) (M' := (I, J, Rx R, N, G)) rfl ?_
      rw [show nI (1) = b2i (rKd s r = 5 ∧ w ≤ l) from (b2i_t ⟨b3, b6⟩).symm]
      exact ret_b rfl ⟨rfl, rfl⟩
theorem ro_no {s : Nat → Nat → Int32} {r : Nat} (hr : r < 8) : 1000 + 2 * r ∉ [16, 17, 18, 19, 20, oT (cLw s) + 3, oT (cLw s) + 2] := by
  intro hk
  have := oT_rg (cLw s)
  simp only [List.mem_cons, List.not_mem_nil, or_false] at hk
  omega
theorem ak_no {s : Nat → Nat → Int32} : 14 ∉ [16, 17, 18, 19, 20, oT (cLw s) + 3, oT (cLw s) + 2] := by
  intro hk
  have := oT_rg (cLw s)
  simp only [List.mem_cons, List.not_mem_nil, or_false] at hk
  omega
theorem c_follow (hS : St s I) (hW : Wf s) (hL : Lk s R N) {r p : Nat} (hr : r < cR s) (hp : p < cP s) : TP X (d + 5) n_Course_follow [.ref 16, .ref 1, .ref (1000 + 2 * r), .int (nI p)] (I, J, Rx R, N, G) (fun v M' => v = none ∧ ∃ I' J', M' = (I', J', Rx R, N, G) ∧ Only [16, 17, 18, 19, 20, oT (cLw s) + 3, oT (cLw s) + 2] I I' ∧ OnlyJ [16] J J' ∧ gRows s (k5 s r) (nRr s r) p (cY s) 17 18 19 20 I' ∧ J' 16 4 = (gS s (k5 s r) (nRr s r) p (cY s)).2.2.2.1 ∧ J' 16 5 = (gS s (k5 s r) (nRr s r) p (cY s)).2.2.2.2) := by
  have hr8 := hW.r.2
  have hk := hW.rk hr
  have hm := hW.rm hr
  refine t_follow X d hS hW hL (ro := 1000 + 2 * r) (by omega) hp (nRr_le s r) (ro_no (by omega)) (rul_o (by omega)) (fun I' J' hS' _ l w y hy hl hw => ?_) (fun I' J' hS' _ l w hl hw => c_leaves hS' hW hr hl hw)
  rw [← sRaise_nat hW hr l w hy]
  exact t_raiseOf X (d + 2) hS' hW.ns.2 hW.ns.1 (by omega) hk.1 (by omega) hm.1 (by omega) (hL.2.2.2.1 r hr).2 hy _ _
theorem c_followA (hS : St s I) (hW : Wf s) (hL : Lk s R N) {m p : Nat} (hI : I 14 1 = nI m) (hm : m ≤ 1000) (hp : p < cP s) : TP X (d + 5) n_Course_follow [.ref 16, .ref 1, .ref 14, .int (nI p)] (I, J, Rx R, N, G) (fun v M' => v = none ∧ ∃ I' J', M' = (I', J', Rx R, N, G) ∧ Only [16, 17, 18, 19, 20, oT (cLw s) + 3, oT (cLw s) + 2] I I' ∧ OnlyJ [16] J J' ∧ gRows s (decide (1 = 5)) (nRa s m) p (cY s) 17 18 19 20 I' ∧ J' 16 4 = (gS s (decide (1 = 5)) (nRa s m) p (cY s)).2.2.2.1 ∧ J' 16 5 = (gS s (decide (1 = 5)) (nRa s m) p (cY s)).2.2.2.2) := by
  refine t_follow X d hS hW hL (ro := 14) (by omega) hp (nRa_le s m) ak_no rfl (fun I' J' hS' hi l w y hy hl hw => ?_) (fun I' J' hS' hi l w hl hw => ?_)
  · have m0 : s 14 0 = nI 1 := hL.2.2.2.2.2.1
    have m1 : I' 14 1 = nI m := (congrFun hi 1).trans hI
    unfold TP
    show XP X _ k_Rule_raiseOf 0 [.ref (14), .ref (1), .int (nI (l)), .int (nI (w)), .int (nI (y))] [] _ _
    refine XP_n 1 (pc' := 1) (ls' := [.ref (14), .ref (1), .int (nI (l)), .int (nI (w)), .int (nI (y))]) (st' := [.ref (14)]) (M' := (I', J', Rx R, N, G)) rfl ?_
    refine XP_geti hS' rfl rfl rfl ?_
    rw [m0]
    refine XP_tab 1 1 5 3 rfl (by omega) rfl rfl (by omega) (by omega) rfl ?_
    refine XP_n 5 (pc' := 8) (ls' := [.ref (14), .ref (1), .int (nI (l)), .int (nI (w)), .int (nI (y))]) (st' := [.int (I' 14 1), .int (nI (l)), .int (nI (w)), .ref (1)]) (M' := (I', J', Rx R, N, G)) rfl ?_
    rw [m1]
    refine XP_pure rfl rfl (c_need hS' hW _ _ _) ?_
    exact XP_ret rfl ⟨rfl, rfl⟩
  · have m0 : s 14 0 = nI 1 := hL.2.2.2.2.2.1
    unfold TP
    show XP X _ k_Rule_leaves 0 [.ref (14), .int (nI (l)), .int (nI (w))] [] _ _
    refine XP_n 1 (pc' := 1) (ls' := [.ref (14), .int (nI (l)), .int (nI (w))]) (st' := [.ref (14)]) (M' := (I', J', Rx R, N, G)) rfl ?_
    refine XP_geti hS' rfl rfl rfl ?_
    rw [m0]
    refine XP_n 1 (pc' := 3) (ls' := [.ref (14), .int (nI (l)), .int (nI (w))]) (st' := [.int (nI (5)), .int (nI (1))]) (M' := (I', J', Rx R, N, G)) rfl ?_
    refine XP_icN (x := 1) (y := 5) rfl (by omega) (by omega) (fun (b3 : ¬ 1 = 5) => ?_) (fun (b3 : 1 = 5) => absurd b3 (by omega))
    refine XP_n 1 (pc' := 10) (ls' := [.ref (14), .int (nI (l)), .int (nI (w))]) (st' := [.int (nI (0))]) (M' := (I', J', Rx R, N, G)) rfl ?_
    rw [show nI (0) = b2i (1 = 5 ∧ w ≤ l) from (b2i_f (fun z => by omega)).symm]
    exact ret_b rfl ⟨rfl, rfl⟩
theorem c_sum {q : gT} (h4 : J 16 4 = q.2.2.2.1) (h5 : J 16 5 = q.2.2.2.2) : TP X d n_Course_sum [.ref 16] (I, J, Rx R, N, G) (Ret (.long (gTo q)) (I, J, Rx R, N, G)) := by
  unfold TP
  show XP X _ k_Course_sum 0 [.ref (16)] [] _ _
  refine XP_n 3 (pc' := 3) (ls' := [.ref (16)]) (st' := [.long (J 16 4), .long (lN (1000))]) (M' := (I, J, Rx R, N, G)) rfl ?_
  rw [h4]
  refine XP_n 3 (pc' := 6) (ls' := [.ref (16)]) (st' := [.long (J 16 5), .long ((lN (1000)) * (q.2.2.2.1))]) (M' := (I, J, Rx R, N, G)) rfl ?_
  rw [h5]
  refine XP_n 1 (pc' := 7) (ls' := [.ref (16)]) (st' := [.long (((lN (1000)) * (q.2.2.2.1)) + (q.2.2.2.2))]) (M' := (I, J, Rx R, N, G)) rfl ?_
  exact XP_ret rfl ⟨rfl, rfl⟩
theorem c_ruleAtT (hS : St s I) (hW : Wf s) (hL : Lk s R N) {r : Nat} (hr : r < cR s) : TP X d n_H_ruleAt [.ref 0, .int (nI r)] (I, J, Rx R, N, G) (Ret (.ref (1000 + 2 * r)) (I, J, Rx R, N, G)) := by
  have hr8 := hW.r.2
  unfold TP
  show XP X _ k_H_ruleAt 0 [.ref (0), .int (nI (r))] [] _ _
  refine XP_n 1 (pc' := 1) (ls' := [.ref (0), .int (nI (r))]) (st' := [.int (nI (r))]) (M' := (I, J, Rx R, N, G)) rfl ?_
  refine XP_ifN (x := r)  rfl (by omega) (fun (b1 : r < 0) => absurd b1 (by omega)) (fun (b1 : 0 ≤ r) => ?_)
  refine XP_n 4 (pc' := 6) (ls' := [.ref (0), .int (nI (r))]) (st' := [.int (nI (8)), .int (nI (r))]) (M' := (I, J, Rx R, N, G)) rfl ?_
  refine XP_icN (x := r) (y := 8) rfl (by omega) (by omega) (fun (b6 : 8 ≤ r) => absurd b6 (by omega)) (fun (b6 : r < 8) => ?_)
  refine XP_n 3 (pc' := 10) (ls' := [.ref (0), .int (nI (r))]) (st' := [.int (nI (r)), .ref (13)]) (M' := (I, J, Rx R, N, G)) rfl ?_
  refine XP_aaldS (a := 1000 + 2 * r) rfl rfl (show r < 8 by omega) rfl (by omega) ((hL.2.2.2.1 r hr).1) ?_
  refine XP_n 1 (pc' := 13) (ls' := [.ref (0), .int (nI (r))]) (st' := [.ref (1000 + 2 * r)]) (M' := (I, J, Rx R, N, G)) rfl ?_
  exact XP_ret rfl ⟨rfl, rfl⟩
theorem c_ruleAtF (hS : St s I) (hW : Wf s) (hL : Lk s R N) {v : Int32} (hv : ¬ inN v (cR s)) : TP X d n_H_ruleAt [.ref 0, .int v] (I, J, Rx R, N, G) (Ret .null (I, J, Rx R, N, G)) := by
  have hr8 := hW.r.2
  by_cases h8 : inN v 8
  · obtain ⟨j, hj, rfl, -⟩ := inN_nat h8 (by omega)
    have hc : cR s ≤ j := Nat.not_lt.mp (fun z => hv (nI_inN z (by omega)))
    unfold TP
    show XP X _ k_H_ruleAt 0 [.ref (0), .int (nI (j))] [] _ _
    refine XP_n 1 (pc' := 1) (ls' := [.ref (0), .int (nI (j))]) (st' := [.int (nI (j))]) (M' := (I, J, Rx R, N, G)) rfl ?_
    refine XP_ifN (x := j)  rfl (by omega) (fun (b1 : j < 0) => absurd b1 (by omega)) (fun (b1 : 0 ≤ j) => ?_)
    refine XP_n 4 (pc' := 6) (ls' := [.ref (0), .int (nI (j))]) (st' := [.int (nI (8)), .int (nI (j))]) (M' := (I, J, Rx R, N, G)) rfl ?_
    refine XP_icN (x := j) (y := 8) rfl (by omega) (by omega) (fun (b6 : 8 ≤ j) => absurd b6 (by omega)) (fun (b6 : j < 8) => ?_)
    refine XP_n 3 (pc' := 10) (ls' := [.ref (0), .int (nI (j))]) (st' := [.int (nI (j)), .ref (13)]) (M' := (I, J, Rx R, N, G)) rfl ?_
    refine XP_aaldN rfl rfl (show j < 8 by omega) rfl (by omega) (hL.2.2.2.2.1 j hc hj) ?_
    refine XP_n 1 (pc' := 13) (ls' := [.ref (0), .int (nI (j))]) (st' := [.null]) (M' := (I, J, Rx R, N, G)) rfl ?_
    exact XP_ret rfl ⟨rfl, rfl⟩
  · skip
    unfold TP
    show XP X _ k_H_ruleAt 0 [.ref (0), .int (v)] [] _ _
    refine XP_n 1 (pc' := 1) (ls' := [.ref (0), .int (v)]) (st' := [.int (v)]) (M' := (I, J, Rx R, N, G)) rfl ?_
    refine XP_ifD rfl (fun (b1 : v < 0) => ?_) (fun (b1 : 0 ≤ v) => ?_)
    · have n1 := Int32.not_le.mpr b1
      refine XP_n 1 (pc' := 13) (ls' := [.ref (0), .int (v)]) (st' := [.null]) (M' := (I, J, Rx R, N, G)) rfl ?_
      exact XP_ret rfl ⟨rfl, rfl⟩
    · have n1 := Int32.not_lt.mpr b1
      refine XP_n 4 (pc' := 6) (ls' := [.ref (0), .int (v)]) (st' := [.int (nI (8)), .int (v)]) (M' := (I, J, Rx R, N, G)) rfl ?_
      refine XP_icD rfl (fun (b6 : nI (8) ≤ v) => ?_) (fun (b6 : v < nI (8)) => absurd ((lt_iff (by omega)).mp ⟨Int32.not_lt.mpr b1, b6⟩) h8)
      have n6 := Int32.not_lt.mpr b6
      refine XP_n 1 (pc' := 13) (ls' := [.ref (0), .int (v)]) (st' := [.null]) (M' := (I, J, Rx R, N, G)) rfl ?_
      exact XP_ret rfl ⟨rfl, rfl⟩
end
