/-! the best plans and their cache; what holds between calls -/
def Stq (s : Nat → Nat → Int32) (x : Int32) : Prop := x = cI (-1) ∨ ∃ c, c ≤ wN (s 1 15) ∧ x = nI c
def PlOk (s : Nat → Nat → Int32) (q : Nat) (I : Nat → Nat → Int32) (J : Nat → Nat → Int64) : Prop := J (68 + 2 * q) 1 = lN (pBest s q (s 99 3) 0) ∧ ∀ y, y < cY s → I (69 + 2 * q) y = nI (pU s q (s 99 3) 0 y)
/-- the words that the model's reader looks up -/
def wdL : List Int64 := [lN 1751216749, lN 1668248436, lN 1735552887, lN 1870030194, lN 108187682958948, lN 2002873452, lN 465558725996, lN 2036687218, lN 30064, lN 28530, lN 6385252, lN 7237492]
def WD (J : Nat → Nat → Int64) : Prop := ∀ k, k < 12 → J 123 k = wdL.getD k 0
def Cch (s : Nat → Nat → Int32) (I : Nat → Nat → Int32) (J : Nat → Nat → Int64) : Prop := CchH s I J ∧ (∀ q, q ≤ cP s → I (68 + 2 * q) 2 = s 1 15 → PlOk s q I J) ∧ (∀ o, o < 4 → Stq s (I 31 o)) ∧ (∀ q, q < 5 → Stq s (I (68 + 2 * q) 2)) ∧ WD J
/-- between calls, on both sides -/
def Inv (s : Nat → Nat → Int32) (R : Nat → Nat → Option Nat) (N : Nat → Nat) (I : Nat → Nat → Int32) (J : Nat → Nat → Int64) : Prop := St s I ∧ Wf s ∧ Lk s R N ∧ Cch s I J ∧ iN 0 1000000 (s 1 15)
abbrev QP (s : Nat → Nat → Int32) (R : Nat → Nat → Option Nat) (N : Nat → Nat) (G : hG) (v : Value) : Option Value → hM → Prop := fun v' M' => v' = some v ∧ ∃ I' J', M' = (I', J', Rx R, N, G) ∧ Inv s R N I' J'
theorem Cch.of {s : Nat → Nat → Int32} {I I' : Nat → Nat → Int32} {J J' : Nat → Nat → Int64} (h : Cch s I J) (hI : ∀ k, 21 ≤ k → k ≤ 77 → I' k = I k) (hJ : ∀ k, 21 ≤ k → k ≤ 77 ∨ k = 123 → J' k = J k) (hp : cP s ≤ 4) : Cch s I' J' := by
  obtain ⟨h1, h2, h3, h4, h5⟩ := h
  refine ⟨fun p hp' he => HP_of (hJ _ (by omega) (by omega)) (h1 p hp' (by rw [← hI 31 (by omega) (by omega)]; exact he)), fun q hq he => ?_, fun o ho => by rw [hI 31 (by omega) (by omega)]; exact h3 o ho, fun q hq => by rw [hI _ (by omega) (by omega)]; exact h4 q hq, fun k hk => by rw [hJ 123 (by omega) (by omega)]; exact h5 k hk⟩
  rw [hI _ (by omega) (by omega)] at he
  obtain ⟨a, b⟩ := h2 q hq he
  exact ⟨by rw [hJ _ (by omega) (by omega)]; exact a, fun y hy => by rw [hI _ (by omega) (by omega)]; exact b y hy⟩
theorem Inv.of {s : Nat → Nat → Int32} {R : Nat → Nat → Option Nat} {N : Nat → Nat} {I I' : Nat → Nat → Int32} {J J' : Nat → Nat → Int64} (h : Inv s R N I J) (hS : St s I') (hI : ∀ k, 21 ≤ k → k ≤ 77 → I' k = I k) (hJ : ∀ k, 21 ≤ k → k ≤ 77 ∨ k = 123 → J' k = J k) : Inv s R N I' J' := ⟨hS, h.2.1, h.2.2.1, h.2.2.2.1.of hI hJ h.2.1.p.2, h.2.2.2.2⟩
theorem Inv.m {s : Nat → Nat → Int32} {R : Nat → Nat → Option Nat} {N : Nat → Nat} {I I' : Nat → Nat → Int32} {J J' : Nat → Nat → Int64} (h : Inv s R N I J) (hI : Only [123, 124, 125, 126, 127, 128, 129, 130, 132] I I') (hJ : OnlyJ [99, 131] J J') : Inv s R N I' J' :=
  h.of (St_only h.1 hI (by decide +kernel)) (fun k h1 h2 => hI k (by simp; omega)) (fun k h1 h2 => hJ k (by simp; omega))
theorem Inv.c {s : Nat → Nat → Int32} {R : Nat → Nat → Option Nat} {N : Nat → Nat} {I I' : Nat → Nat → Int32} {J J' : Nat → Nat → Int64} (h : Inv s R N I J) (hI : Only [16, 17, 18, 19, 20, oT (cLw s) + 3, oT (cLw s) + 2] I I') (hJ : OnlyJ [16] J J') : Inv s R N I' J' :=
  h.of (St_fo2 h.1 hI h.2.1) (fun k h1 h2 => hI k (by have := oT_rg (cLw s); simp; omega)) (fun k h1 h2 => hJ k (by simp; omega))
theorem plq (R : Nat → Nat → Option Nat) (N : Nat → Nat) {q : Nat} (hq : q < 5) : PlL R N (68 + 2 * q) (69 + 2 * q) := by
  have h1 : ∀ q, q < 5 → isO (68 + 2 * q) 4 = true ∧ rS (68 + 2 * q) 0 = some (69 + 2 * q) ∧ isA (69 + 2 * q) 0 = true ∧ slen (69 + 2 * q) = 16 := by decide +kernel
  obtain ⟨a, b, c, e⟩ := h1 q hq
  refine ⟨a, ?_, c, ?_, Or.inr ⟨by omega, by omega, by omega⟩⟩
  · unfold Rx
    rw [b]
  · unfold alen
    rw [blt_t (by omega)]
    exact e
theorem pl23 (R : Nat → Nat → Option Nat) (N : Nat → Nat) : PlL R N 23 24 := ⟨rfl, rfl, rfl, rfl, Or.inl ⟨rfl, rfl⟩⟩
theorem Stq.ch {s : Nat → Nat → Int32} (h : iN 0 1000000 (s 1 15)) : Stq s (s 1 15) := Or.inr ⟨_, Nat.le_refl _, (h.nat (by omega)).1⟩
section
variable {X : hX} {d : Nat} {s I : Nat → Nat → Int32} {J : Nat → Nat → Int64} {R : Nat → Nat → Option Nat} {N : Nat → Nat} {G : hG} {Q : Option Value → hM → Prop}
theorem c_bestOn (hS : St s I) (hW : Wf s) (hL : Lk s R N) {q : Nat} (hq : q ≤ cP s) (hC : Cch s I J) (hch : iN 0 1000000 (s 1 15)) : TP X (d + 7) n_Planner_bestOn [.ref 21, .int (qP q)] (I, J, Rx R, N, G) (fun v M' => v = some (.ref (68 + 2 * q)) ∧ ∃ I' J', M' = (I', J', Rx R, N, G) ∧ Cch s I' J' ∧ PlOk s q I' J' ∧ (∀ k, k < 21 ∨ 77 < k → k ≠ oT (cLw s) + 3 → k ≠ oT (cLw s) + 2 → I' k = I k) ∧ (∀ k, k < 21 ∨ 77 < k → J' k = J k)) := by
  have hy16 := hW.y.2.2
  have hp4 := hW.p.2
  have hw60 := hW.w.2
  have hoT := oT_rg (cLw s)
  have h68 := (plq R N (show q < 5 by omega)).1
  have h68' : (isO (68 + 2 * q) 4 && true) = true := by rw [h68]; rfl
  have hqn : ¬ qP q < cI (-1) := by
    unfold qP
    by_cases e : q = 0
    · rw [if_pos e]
      exact Int32.lt_irrefl
    · rw [if_neg e]
      exact Int32.not_lt.mpr (Int32.le_trans (show cI (-1) ≤ 0 by decide) (nI_pos' (by omega)))
  unfold TP
  show XP X _ k_Planner_bestOn 0 [.ref (21), .int (qP q), xj] [] _ _
  refine XP_n 2 (pc' := 2) (ls' := [.ref (21), .int (qP q), xj]) (st' := [.int (cI (-1)), .int (qP q)]) (M' := (I, J, Rx R, N, G)) rfl ?_
  refine XP_icD rfl (fun (b2 : qP q < cI (-1)) => absurd b2 hqn) (fun (b2 : cI (-1) ≤ qP q) => ?_)
  have n2 := Int32.not_lt.mpr b2
  refine XP_n 6 (pc' := 9) (ls' := [.ref (21), .int (qP q), xj]) (st' := [.int (nI (5)), .int ((qP q) + (nI (1)))]) (M' := (I, J, Rx R, N, G)) rfl ?_
  rw [qP_1 q]
  refine XP_icN (x := q) (y := 5) rfl (by omega) (by omega) (fun (b9 : 5 ≤ q) => absurd b9 (by omega)) (fun (b9 : q < 5) => ?_)
  refine XP_n 5 (pc' := 15) (ls' := [.ref (21), .int (qP q), xj]) (st' := [.int ((qP q) + (nI (1))), .ref (22)]) (M' := (I, J, Rx R, N, G)) rfl ?_
  rw [qP_1 q]
  refine XP_aaldS (a := 68 + 2 * q) rfl rfl (show q < 5 by omega) rfl (by omega) (rx22 R (by omega)) ?_
  refine XP_n 6 (pc' := 25) (ls' := [.ref (21), .int (qP q), xj]) (st' := [.int ((qP q) + (nI (1))), .ref (22)]) (M' := (I, J, Rx R, N, G)) rfl ?_
  rw [qP_1 q]
  refine XP_aaldS (a := 68 + 2 * q) rfl rfl (show q < 5 by omega) rfl (by omega) (rx22 R (by omega)) ?_
  refine XP_n 2 (pc' := 28) (ls' := [.ref (21), .int (qP q), .ref (68 + 2 * q)]) (st' := [.ref (68 + 2 * q)]) (M' := (I, J, Rx R, N, G)) rfl ?_
  refine XP_getw rfl (h68') ?_
  show XP X _ k_Planner_bestOn 29 [.ref (21), .int (qP q), .ref (68 + 2 * q)] [.int (I (68 + 2 * q) 2)] _ _
  refine XP_n 2 (pc' := 31) (ls' := [.ref (21), .int (qP q), .ref (68 + 2 * q)]) (st' := [.ref (1), .int (I (68 + 2 * q) 2)]) (M' := (I, J, Rx R, N, G)) rfl ?_
  refine XP_geti hS rfl rfl rfl ?_
  refine XP_icD rfl (fun (b32 : I (68 + 2 * q) 2 = s 1 15) => ?_) (fun (b32 : ¬ I (68 + 2 * q) 2 = s 1 15) => ?_)
  · refine XP_n 1 (pc' := 51) (ls' := [.ref (21), .int (qP q), .ref (68 + 2 * q)]) (st' := [.ref (68 + 2 * q)]) (M' := (I, J, Rx R, N, G)) rfl ?_
    exact XP_ret rfl ⟨rfl, _, _, rfl, hC, hC.2.1 q hq b32, fun _ _ _ _ => rfl, fun _ _ => rfl⟩
  · refine XP_n 6 (pc' := 39) (ls' := [.ref (21), .int (qP q), .ref (68 + 2 * q)]) (st' := [.ref (1), .ref (21)]) (M' := ((rw2 I 21 9 (nI (0))), J, Rx R, N, G)) rfl ?_
    refine XP_geti (St_rwp hS rfl) rfl rfl rfl ?_
    rw [hL.2.2.2.2.2.2]
    refine XP_n 4 (pc' := 44) (ls' := [.ref (21), .int (qP q), .ref (68 + 2 * q)]) (st' := [.int (qP q), .ref (68 + 2 * q), .ref (21)]) (M' := ((rw2 (rw2 I 21 9 (nI (0))) 21 10 (s 99 3)), J, Rx R, N, G)) rfl ?_
    obtain ⟨I21, eI21⟩ : ∃ z, z = (rw2 (rw2 I 21 9 (nI (0))) 21 10 (s 99 3)) := ⟨_, rfl⟩
    rw [← eI21]
    have hS21 : St s I21 := by rw [eI21]; exact (St_rwp (St_rwp hS rfl) rfl)
    have f21_21_9 : I21 21 9 = nI (0) := by rw [eI21]; rfl
    have f21_21_10 : I21 21 10 = s 99 3 := by rw [eI21]; rfl
    have e21 : ∀ k, k ≠ 21 → I21 k = I k := fun k hk => by rw [eI21, rw2_ne _ _ _ hk, rw2_ne _ _ _ hk]
    have hCa : CchH s I21 J := fun p hp he => hC.1 p hp (by rw [← he, e21 31 (by omega)])
    refine XP_call rfl rfl (c_solve hS21 hW hL hq (Nat.zero_le 16) (plq R N (by omega)) f21_21_9 f21_21_10 hCa) ?_
    rintro vf Mf ⟨rfl, If, Jf, rfl, f1, f2, f3, f4, f5, f6, f7, f8⟩
    have hSf : St s If := St_P hW hS (fun k h1 h2 h3 => (f1 k h1 h2 h3).trans (e21 k (by omega)))
    refine XP_n 3 (pc' := 48) (ls' := [.ref (21), .int (qP q), .ref (68 + 2 * q)]) (st' := [.ref (1), .ref (68 + 2 * q)]) (M' := (If, Jf, Rx R, N, G)) rfl ?_
    refine XP_geti hSf rfl rfl rfl ?_
    refine XP_putw rfl (h68') ?_
    show XP X _ k_Planner_bestOn 50 [.ref (21), .int (qP q), .ref (68 + 2 * q)] [] ((rw2 If (68 + 2 * q) 2 (s 1 15)), Jf, Rx R, N, G) _
    refine XP_n 1 (pc' := 51) (ls' := [.ref (21), .int (qP q), .ref (68 + 2 * q)]) (st' := [.ref (68 + 2 * q)]) (M' := ((rw2 If (68 + 2 * q) 2 (s 1 15)), Jf, Rx R, N, G)) rfl ?_
    refine XP_ret rfl ⟨rfl, _, _, rfl, ⟨fun p hp he => f5 p hp (by rw [← he, rw2_ne _ _ _ (by omega)]), fun q' hq' he => ?_, fun o ho => ?_, fun q' hq' => ?_, fun k hk => by rw [f2 123 (by omega)]; exact hC.2.2.2.2 k hk⟩, ⟨f3, fun y hy => by rw [rw2_ne _ _ _ (by omega)]; exact f4 y hy⟩, fun k h1 h2 h3 => ?_, f2⟩
    · by_cases e : q' = q
      · subst e
        exact ⟨f3, fun y hy => by rw [rw2_ne _ _ _ (by omega)]; exact f4 y hy⟩
      · rw [rw2_ne _ _ _ (by omega), f7 _ (by omega) (by omega) (by omega), e21 _ (by omega)] at he
        obtain ⟨a, b⟩ := hC.2.1 q' hq' he
        refine ⟨by rw [f8 _ (by omega) (by omega) (by omega)]; exact a, fun y hy => ?_⟩
        rw [rw2_ne _ _ _ (by omega), f7 _ (by omega) (by omega) (by omega), e21 _ (by omega)]
        exact b y hy
    · rw [rw2_ne _ _ _ (by omega)]
      rcases f6 o with h | h
      · rw [h, e21 31 (by omega)]
        exact hC.2.2.1 o ho
      · rw [h]
        exact Stq.ch hch
    · by_cases e : q' = q
      · subst e
        rw [rw2_at]
        exact Stq.ch hch
      · rw [rw2_ne _ _ _ (by omega), f7 _ (by omega) (by omega) (by omega), e21 _ (by omega)]
        exact hC.2.2.2.1 q' hq'
    · rw [rw2_ne _ _ _ (by omega), f1 k h1 h2 h3, e21 k (by omega)]
theorem c_leastIf (hS : St s I) (hW : Wf s) (hL : Lk s R N) {no : Nat} {br : Int32} (hno : no ≤ 16) (hC : Cch s I J) (hch : iN 0 1000000 (s 1 15)) : TP X (d + 7) n_Planner_leastIf [.ref 21, .int (nI no), .int br] (I, J, Rx R, N, G) (fun v M' => v = some (.long (lN (pBest s 0 br no))) ∧ ∃ I' J', M' = (I', J', Rx R, N, G) ∧ Cch s I' J' ∧ (∀ k, k < 21 ∨ 77 < k → k ≠ oT (cLw s) + 3 → k ≠ oT (cLw s) + 2 → I' k = I k) ∧ (∀ k, k < 21 ∨ 77 < k → J' k = J k)) := by
  have hy16 := hW.y.2.2
  have hp4 := hW.p.2
  have hw60 := hW.w.2
  have hoT := oT_rg (cLw s)
  unfold TP
  show XP X _ k_Planner_leastIf 0 [.ref (21), .int (nI (no)), .int (br)] [] _ _
  refine XP_n 10 (pc' := 10) (ls' := [.ref (21), .int (nI (no)), .int (br)]) (st' := [.int (cI (-1)), .ref (23), .ref (21)]) (M' := ((rw2 (rw2 I 21 9 (nI (no))) 21 10 (br)), J, Rx R, N, G)) rfl ?_
  obtain ⟨I23, eI23⟩ : ∃ z, z = (rw2 (rw2 I 21 9 (nI (no))) 21 10 (br)) := ⟨_, rfl⟩
  rw [← eI23]
  have hS23 : St s I23 := by rw [eI23]; exact (St_rwp (St_rwp hS rfl) rfl)
  have f23_21_9 : I23 21 9 = nI (no) := by rw [eI23]; rfl
  have f23_21_10 : I23 21 10 = br := by rw [eI23]; rfl
  have e21 : ∀ k, k ≠ 21 → I23 k = I k := fun k hk => by rw [eI23, rw2_ne _ _ _ hk, rw2_ne _ _ _ hk]
  have hCa : CchH s I23 J := fun p hp he => hC.1 p hp (by rw [← he, e21 31 (by omega)])
  refine XP_call rfl rfl (c_solve hS23 hW hL (q := 0) (Nat.zero_le _) hno (pl23 R N) f23_21_9 f23_21_10 hCa) ?_
  rintro vf Mf ⟨rfl, If, Jf, rfl, f1, f2, f3, f4, f5, f6, f7, f8⟩
  refine XP_n 3 (pc' := 14) (ls' := [.ref (21), .int (nI (no)), .int (br)]) (st' := [.long (Jf 23 1)]) (M' := (If, Jf, Rx R, N, G)) rfl ?_
  rw [f3]
  refine XP_ret rfl ⟨rfl, _, _, rfl, ⟨f5, fun q' hq' he => ?_, fun o ho => ?_, fun q' hq' => ?_, fun k hk => by rw [f2 123 (by omega)]; exact hC.2.2.2.2 k hk⟩, fun k h1 h2 h3 => ?_, f2⟩
  · rw [f7 _ (by omega) (by omega) (by omega), e21 _ (by omega)] at he
    obtain ⟨a, b⟩ := hC.2.1 q' hq' he
    refine ⟨by rw [f8 _ (by omega) (by omega) (by omega)]; exact a, fun y hy => ?_⟩
    rw [f7 _ (by omega) (by omega) (by omega), e21 _ (by omega)]
    exact b y hy
  · rcases f6 o with h | h
    · rw [h, e21 31 (by omega)]
      exact hC.2.2.1 o ho
    · rw [h]
      exact Stq.ch hch
  · rw [f7 _ (by omega) (by omega) (by omega), e21 _ (by omega)]
    exact hC.2.2.2.1 q' hq'
  · rw [f1 k h1 h2 h3, e21 k (by omega)]
end
