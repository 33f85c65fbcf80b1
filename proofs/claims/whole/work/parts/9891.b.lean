/-- the class's tape -/
def Tp (I : Nat → Nat → Int32) (b : Nat → Nat) (L : Nat) : Prop := I 9 1 = nI L ∧ ∀ i, i < L → I 10 i = nI (b i)
section
variable {X : hX} {d : Nat} {s I : Nat → Nat → Int32} {J : Nat → Nat → Int64} {R : Nat → Nat → Option Nat} {N : Nat → Nat} {G : hG} {b : Nat → Nat} {L : Nat}
theorem rw2_2 {α : Type} {f : Nat → Nat → α} {k j : Nat} {x y : α} : rw2 (rw2 f k j x) k j y = rw2 f k j y := by
  funext p q
  unfold rw2
  repeat' split
  all_goals first
    | rfl
    | (exfalso; omega)
theorem c_byteAt (hT : Tp I b L) (hL : L ≤ 160) {i : Nat} (hi : i < L) : TP X d n_Reader_byteAt [.ref 9, .int (nI i)] (I, J, Rx R, N, G) (Ret (.int (nI (b i))) (I, J, Rx R, N, G)) := by
  unfold TP
  show XP X _ k_Reader_byteAt 0 [.ref (9), .int (nI (i))] [] _ _
  refine XP_n 1 (pc' := 1) (ls' := [.ref (9), .int (nI (i))]) (st' := [.int (nI (i))]) (M' := (I, J, Rx R, N, G)) rfl ?_
  refine XP_ifN (x := i)  rfl (by omega) (fun (b1 : i < 0) => absurd b1 (by omega)) (fun (b1 : 0 ≤ i) => ?_)
  refine XP_n 3 (pc' := 5) (ls' := [.ref (9), .int (nI (i))]) (st' := [.int (I 9 1), .int (nI (i))]) (M' := (I, J, Rx R, N, G)) rfl ?_
  rw [hT.1]
  refine XP_icN (x := i) (y := L) rfl (by omega) (by omega) (fun (b5 : L ≤ i) => absurd b5 (by omega)) (fun (b5 : i < L) => ?_)
  refine XP_n 4 (pc' := 10) (ls' := [.ref (9), .int (nI (i))]) (st' := [.int (nI (160)), .int (nI (i))]) (M' := (I, J, Rx R, N, G)) rfl ?_
  refine XP_icN (x := i) (y := 160) rfl (by omega) (by omega) (fun (b10 : 160 ≤ i) => absurd b10 (by omega)) (fun (b10 : i < 160) => ?_)
  refine XP_n 3 (pc' := 14) (ls' := [.ref (9), .int (nI (i))]) (st' := [.int (nI (i)), .ref (10)]) (M' := (I, J, Rx R, N, G)) rfl ?_
  refine XP_iraw rfl rfl (show i < 160 by omega) rfl (by omega) ?_
  rw [show I 10 i = nI (b i) from hT.2 i hi]
  refine XP_n 1 (pc' := 17) (ls' := [.ref (9), .int (nI (i))]) (st' := [.int (nI (b i))]) (M' := (I, J, Rx R, N, G)) rfl ?_
  exact XP_ret rfl ⟨rfl, rfl⟩
theorem c_spT1 (hT : Tp I b L) (hL : L ≤ 160) {q e : Nat} (hqe : q ≤ e) (he : e ≤ L) (h : mW b q e 3) : TP X (d + 8) n_Reader_spells [.ref 9, .int (nI q), .int (nI e), .ref 9002] (I, J, Rx R, N, G) (Ret (.int (nI 1)) (I, J, Rx R, N, G)) := by
  have hl : e - q = 4 := h.1
  have h0 : b (q + 0) = 111 := h.2 0 (by decide)
  have h1 : b (q + 1) = 118 := h.2 1 (by decide)
  have h2 : b (q + 2) = 101 := h.2 2 (by decide)
  have h3 : b (q + 3) = 114 := h.2 3 (by decide)
  unfold TP
  show XP X _ k_Reader_spells 0 [.ref (9), .int (nI (q)), .int (nI (e)), .ref (9002), xj] [] _ _
  refine XP_n 4 (pc' := 4) (ls' := [.ref (9), .int (nI (q)), .int (nI (e)), .ref (9002), xj]) (st' := [.ref (9002), .int ((nI (e)) - (nI (q)))]) (M' := (I, J, Rx R, N, G)) rfl ?_
  rw [show (nI (e)) - (nI (q)) = nI (e - q) from nI_subE (rfl) (rfl) (by omega)]
  refine XP_pure rfl rfl tl_1 ?_
  refine XP_icN (x := e - q) (y := 4) rfl (by omega) (by omega) (fun (b5 : e - q = 4) => ?_) (fun (b5 : ¬ e - q = 4) => absurd b5 (by omega))
  refine XP_n 4 (pc' := 12) (ls' := [.ref (9), .int (nI (q)), .int (nI (e)), .ref (9002), .int (nI (0))]) (st' := [.ref (9002), .int (nI (0))]) (M' := (I, J, Rx R, N, G)) rfl ?_
  refine XP_pure rfl rfl tl_1 ?_
  refine XP_icN (x := 0) (y := 4) rfl (by omega) (by omega) (fun (b13 : 4 ≤ 0) => absurd b13 (by omega)) (fun (b13 : 0 < 4) => ?_)
  refine XP_n 4 (pc' := 18) (ls' := [.ref (9), .int (nI (q)), .int (nI (e)), .ref (9002), .int (nI (0))]) (st' := [.int ((nI (q)) + (nI (0))), .ref (9)]) (M' := (I, J, Rx R, N, G)) rfl ?_
  rw [show (nI (q)) + (nI (0)) = nI (q + 0) from nI_addE (rfl) (rfl)]
  refine XP_pure rfl rfl (c_byteAt hT hL (show q + 0 < L by omega)) ?_
  refine XP_n 2 (pc' := 21) (ls' := [.ref (9), .int (nI (q)), .int (nI (e)), .ref (9002), .int (nI (0))]) (st' := [.int (nI (0)), .ref (9002), .int (nI (b (q + 0)))]) (M' := (I, J, Rx R, N, G)) rfl ?_
  refine XP_pure rfl rfl tc_1_0 ?_
  refine XP_icN (x := b (q + 0)) (y := 111) rfl (by omega) (by omega) (fun (b22 : b (q + 0) = 111) => ?_) (fun (b22 : ¬ b (q + 0) = 111) => absurd b22 (by omega))
  refine XP_n 1 (pc' := 26) (ls' := [.ref (9), .int (nI (q)), .int (nI (e)), .ref (9002), .int (nI (0) + nI (1))]) (st' := []) (M' := (I, J, Rx R, N, G)) rfl ?_
  rw [show nI (0) + nI (1) = nI (1) from nI_addE (rfl) rfl]
  refine XP_n 3 (pc' := 12) (ls' := [.ref (9), .int (nI (q)), .int (nI (e)), .ref (9002), .int (nI (1))]) (st' := [.ref (9002), .int (nI (1))]) (M' := (I, J, Rx R, N, G)) rfl ?_
  refine XP_pure rfl rfl tl_1 ?_
  refine XP_icN (x := 1) (y := 4) rfl (by omega) (by omega) (fun (b13 : 4 ≤ 1) => absurd b13 (by omega)) (fun (b13 : 1 < 4) => ?_)
  refine XP_n 4 (pc' := 18) (ls' := [.ref (9), .int (nI (q)), .int (nI (e)), .ref (9002), .int (nI (1))]) (st' := [.int ((nI (q)) + (nI (1))), .ref (9)]) (M' := (I, J, Rx R, N, G)) rfl ?_
  rw [show (nI (q)) + (nI (1)) = nI (q + 1) from nI_addE (rfl) (rfl)]
  refine XP_pure rfl rfl (c_byteAt hT hL (show q + 1 < L by omega)) ?_
  refine XP_n 2 (pc' := 21) (ls' := [.ref (9), .int (nI (q)), .int (nI (e)), .ref (9002), .int (nI (1))]) (st' := [.int (nI (1)), .ref (9002), .int (nI (b (q + 1)))]) (M' := (I, J, Rx R, N, G)) rfl ?_
  refine XP_pure rfl rfl tc_1_1 ?_
  refine XP_icN (x := b (q + 1)) (y := 118) rfl (by omega) (by omega) (fun (b22 : b (q + 1) = 118) => ?_) (fun (b22 : ¬ b (q + 1) = 118) => absurd b22 (by omega))
  refine XP_n 1 (pc' := 26) (ls' := [.ref (9), .int (nI (q)), .int (nI (e)), .ref (9002), .int (nI (1) + nI (1))]) (st' := []) (M' := (I, J, Rx R, N, G)) rfl ?_
  rw [show nI (1) + nI (1) = nI (2) from nI_addE (rfl) rfl]
  refine XP_n 3 (pc' := 12) (ls' := [.ref (9), .int (nI (q)), .int (nI (e)), .ref (9002), .int (nI (2))]) (st' := [.ref (9002), .int (nI (2))]) (M' := (I, J, Rx R, N, G)) rfl ?_
  refine XP_pure rfl rfl tl_1 ?_
  refine XP_icN (x := 2) (y := 4) rfl (by omega) (by omega) (fun (b13 : 4 ≤ 2) => absurd b13 (by omega)) (fun (b13 : 2 < 4) => ?_)
  refine XP_n 4 (pc' := 18) (ls' := [.ref (9), .int (nI (q)), .int (nI (e)), .ref (9002), .int (nI (2))]) (st' := [.int ((nI (q)) + (nI (2))), .ref (9)]) (M' := (I, J, Rx R, N, G)) rfl ?_
  rw [show (nI (q)) + (nI (2)) = nI (q + 2) from nI_addE (rfl) (rfl)]
  refine XP_pure rfl rfl (c_byteAt hT hL (show q + 2 < L by omega)) ?_
  refine XP_n 2 (pc' := 21) (ls' := [.ref (9), .int (nI (q)), .int (nI (e)), .ref (9002), .int (nI (2))]) (st' := [.int (nI (2)), .ref (9002), .int (nI (b (q + 2)))]) (M' := (I, J, Rx R, N, G)) rfl ?_
  refine XP_pure rfl rfl tc_1_2 ?_
  refine XP_icN (x := b (q + 2)) (y := 101) rfl (by omega) (by omega) (fun (b22 : b (q + 2) = 101) => ?_) (fun (b22 : ¬ b (q + 2) = 101) => absurd b22 (by omega))
  refine XP_n 1 (pc' := 26) (ls' := [.ref (9), .int (nI (q)), .int (nI (e)), .ref (9002), .int (nI (2) + nI (1))]) (st' := []) (M' := (I, J, Rx R, N, G)) rfl ?_
  rw [show nI (2) + nI (1) = nI (3) from nI_addE (rfl) rfl]
  refine XP_n 3 (pc' := 12) (ls' := [.ref (9), .int (nI (q)), .int (nI (e)), .ref (9002), .int (nI (3))]) (st' := [.ref (9002), .int (nI (3))]) (M' := (I, J, Rx R, N, G)) rfl ?_
  refine XP_pure rfl rfl tl_1 ?_
  refine XP_icN (x := 3) (y := 4) rfl (by omega) (by omega) (fun (b13 : 4 ≤ 3) => absurd b13 (by omega)) (fun (b13 : 3 < 4) => ?_)
  refine XP_n 4 (pc' := 18) (ls' := [.ref (9), .int (nI (q)), .int (nI (e)), .ref (9002), .int (nI (3))]) (st' := [.int ((nI (q)) + (nI (3))), .ref (9)]) (M' := (I, J, Rx R, N, G)) rfl ?_
  rw [show (nI (q)) + (nI (3)) = nI (q + 3) from nI_addE (rfl) (rfl)]
  refine XP_pure rfl rfl (c_byteAt hT hL (show q + 3 < L by omega)) ?_
  refine XP_n 2 (pc' := 21) (ls' := [.ref (9), .int (nI (q)), .int (nI (e)), .ref (9002), .int (nI (3))]) (st' := [.int (nI (3)), .ref (9002), .int (nI (b (q + 3)))]) (M' := (I, J, Rx R, N, G)) rfl ?_
  refine XP_pure rfl rfl tc_1_3 ?_
  refine XP_icN (x := b (q + 3)) (y := 114) rfl (by omega) (by omega) (fun (b22 : b (q + 3) = 114) => ?_) (fun (b22 : ¬ b (q + 3) = 114) => absurd b22 (by omega))
  refine XP_n 1 (pc' := 26) (ls' := [.ref (9), .int (nI (q)), .int (nI (e)), .ref (9002), .int (nI (3) + nI (1))]) (st' := []) (M' := (I, J, Rx R, N, G)) rfl ?_
  rw [show nI (3) + nI (1) = nI (4) from nI_addE (rfl) rfl]
  refine XP_n 3 (pc' := 12) (ls' := [.ref (9), .int (nI (q)), .int (nI (e)), .ref (9002), .int (nI (4))]) (st' := [.ref (9002), .int (nI (4))]) (M' := (I, J, Rx R, N, G)) rfl ?_
  refine XP_pure rfl rfl tl_1 ?_
  refine XP_icN (x := 4) (y := 4) rfl (by omega) (by omega) (fun (b13 : 4 ≤ 4) => ?_) (fun (b13 : 4 < 4) => absurd b13 (by omega))
  refine XP_n 1 (pc' := 28) (ls' := [.ref (9), .int (nI (q)), .int (nI (e)), .ref (9002), .int (nI (4))]) (st' := [.int (nI (1))]) (M' := (I, J, Rx R, N, G)) rfl ?_
  exact XP_ret rfl ⟨rfl, rfl⟩
theorem c_spF1 (hT : Tp I b L) (hL : L ≤ 160) (hb : ∀ i, i < L → b i ≤ 255) {q e : Nat} (hqe : q ≤ e) (he : e ≤ L) (h : ¬ mW b q e 3) : TP X (d + 8) n_Reader_spells [.ref 9, .int (nI q), .int (nI e), .ref 9002] (I, J, Rx R, N, G) (Ret (.int (nI 0)) (I, J, Rx R, N, G)) := by
  by_cases hl : e - q = 4
  rotate_left
  · skip
    unfold TP
    show XP X _ k_Reader_spells 0 [.ref (9), .int (nI (q)), .int (nI (e)), .ref (9002), xj] [] _ _
    refine XP_n 4 (pc' := 4) (ls' := [.ref (9), .int (nI (q)), .int (nI (e)), .ref (9002), xj]) (st' := [.ref (9002), .int ((nI (e)) - (nI (q)))]) (M' := (I, J, Rx R, N, G)) rfl ?_
    rw [show (nI (e)) - (nI (q)) = nI (e - q) from nI_subE (rfl) (rfl) (by omega)]
    refine XP_pure rfl rfl tl_1 ?_
    refine XP_icN (x := e - q) (y := 4) rfl (by omega) (by omega) (fun (b5 : e - q = 4) => absurd b5 (by omega)) (fun (b5 : ¬ e - q = 4) => ?_)
    refine XP_n 1 (pc' := 7) (ls' := [.ref (9), .int (nI (q)), .int (nI (e)), .ref (9002), xj]) (st' := [.int (nI (0))]) (M' := (I, J, Rx R, N, G)) rfl ?_
    exact XP_ret rfl ⟨rfl, rfl⟩
  have q0 := hb (q + 0) (by omega)
  have q1 := hb (q + 1) (by omega)
  have q2 := hb (q + 2) (by omega)
  have q3 := hb (q + 3) (by omega)
  by_cases h0 : b (q + 0) = 111
  rotate_left
  · skip
    unfold TP
    show XP X _ k_Reader_spells 0 [.ref (9), .int (nI (q)), .int (nI (e)), .ref (9002), xj] [] _ _
    refine XP_n 4 (pc' := 4) (ls' := [.ref (9), .int (nI (q)), .int (nI (e)), .ref (9002), xj]) (st' := [.ref (9002), .int ((nI (e)) - (nI (q)))]) (M' := (I, J, Rx R, N, G)) rfl ?_
    rw [show (nI (e)) - (nI (q)) = nI (e - q) from nI_subE (rfl) (rfl) (by omega)]
    refine XP_pure rfl rfl tl_1 ?_
    refine XP_icN (x := e - q) (y := 4) rfl (by omega) (by omega) (fun (b5 : e - q = 4) => ?_) (fun (b5 : ¬ e - q = 4) => absurd b5 (by omega))
    refine XP_n 4 (pc' := 12) (ls' := [.ref (9), .int (nI (q)), .int (nI (e)), .ref (9002), .int (nI (0))]) (st' := [.ref (9002), .int (nI (0))]) (M' := (I, J, Rx R, N, G)) rfl ?_
    refine XP_pure rfl rfl tl_1 ?_
    refine XP_icN (x := 0) (y := 4) rfl (by omega) (by omega) (fun (b13 : 4 ≤ 0) => absurd b13 (by omega)) (fun (b13 : 0 < 4) => ?_)
    refine XP_n 4 (pc' := 18) (ls' := [.ref (9), .int (nI (q)), .int (nI (e)), .ref (9002), .int (nI (0))]) (st' := [.int ((nI (q)) + (nI (0))), .ref (9)]) (M' := (I, J, Rx R, N, G)) rfl ?_
    rw [show (nI (q)) + (nI (0)) = nI (q + 0) from nI_addE (rfl) (rfl)]
    refine XP_pure rfl rfl (c_byteAt hT hL (show q + 0 < L by omega)) ?_
    refine XP_n 2 (pc' := 21) (ls' := [.ref (9), .int (nI (q)), .int (nI (e)), .ref (9002), .int (nI (0))]) (st' := [.int (nI (0)), .ref (9002), .int (nI (b (q + 0)))]) (M' := (I, J, Rx R, N, G)) rfl ?_
    refine XP_pure rfl rfl tc_1_0 ?_
    refine XP_icN (x := b (q + 0)) (y := 111) rfl (by omega) (by omega) (fun (b22 : b (q + 0) = 111) => absurd b22 (by omega)) (fun (b22 : ¬ b (q + 0) = 111) => ?_)
    refine XP_n 1 (pc' := 24) (ls' := [.ref (9), .int (nI (q)), .int (nI (e)), .ref (9002), .int (nI (0))]) (st' := [.int (nI (0))]) (M' := (I, J, Rx R, N, G)) rfl ?_
    exact XP_ret rfl ⟨rfl, rfl⟩
  by_cases h1 : b (q + 1) = 118
  rotate_left
  · skip
    unfold TP
    show XP X _ k_Reader_spells 0 [.ref (9), .int (nI (q)), .int (nI (e)), .ref (9002), xj] [] _ _
    refine XP_n 4 (pc' := 4) (ls' := [.ref (9), .int (nI (q)), .int (nI (e)), .ref (9002), xj]) (st' := [.ref (9002), .int ((nI (e)) - (nI (q)))]) (M' := (I, J, Rx R, N, G)) rfl ?_
    rw [show (nI (e)) - (nI (q)) = nI (e - q) from nI_subE (rfl) (rfl) (by omega)]
    refine XP_pure rfl rfl tl_1 ?_
    refine XP_icN (x := e - q) (y := 4) rfl (by omega) (by omega) (fun (b5 : e - q = 4) => ?_) (fun (b5 : ¬ e - q = 4) => absurd b5 (by omega))
    refine XP_n 4 (pc' := 12) (ls' := [.ref (9), .int (nI (q)), .int (nI (e)), .ref (9002), .int (nI (0))]) (st' := [.ref (9002), .int (nI (0))]) (M' := (I, J, Rx R, N, G)) rfl ?_
    refine XP_pure rfl rfl tl_1 ?_
    refine XP_icN (x := 0) (y := 4) rfl (by omega) (by omega) (fun (b13 : 4 ≤ 0) => absurd b13 (by omega)) (fun (b13 : 0 < 4) => ?_)
    refine XP_n 4 (pc' := 18) (ls' := [.ref (9), .int (nI (q)), .int (nI (e)), .ref (9002), .int (nI (0))]) (st' := [.int ((nI (q)) + (nI (0))), .ref (9)]) (M' := (I, J, Rx R, N, G)) rfl ?_
    rw [show (nI (q)) + (nI (0)) = nI (q + 0) from nI_addE (rfl) (rfl)]
    refine XP_pure rfl rfl (c_byteAt hT hL (show q + 0 < L by omega)) ?_
    refine XP_n 2 (pc' := 21) (ls' := [.ref (9), .int (nI (q)), .int (nI (e)), .ref (9002), .int (nI (0))]) (st' := [.int (nI (0)), .ref (9002), .int (nI (b (q + 0)))]) (M' := (I, J, Rx R, N, G)) rfl ?_
    refine XP_pure rfl rfl tc_1_0 ?_
    refine XP_icN (x := b (q + 0)) (y := 111) rfl (by omega) (by omega) (fun (b22 : b (q + 0) = 111) => ?_) (fun (b22 : ¬ b (q + 0) = 111) => absurd b22 (by omega))
    refine XP_n 1 (pc' := 26) (ls' := [.ref (9), .int (nI (q)), .int (nI (e)), .ref (9002), .int (nI (0) + nI (1))]) (st' := []) (M' := (I, J, Rx R, N, G)) rfl ?_
    rw [show nI (0) + nI (1) = nI (1) from nI_addE (rfl) rfl]
    refine XP_n 3 (pc' := 12) (ls' := [.ref (9), .int (nI (q)), .int (nI (e)), .ref (9002), .int (nI (1))]) (st' := [.ref (9002), .int (nI (1))]) (M' := (I, J, Rx R, N, G)) rfl ?_
    refine XP_pure rfl rfl tl_1 ?_
    refine XP_icN (x := 1) (y := 4) rfl (by omega) (by omega) (fun (b13 : 4 ≤ 1) => absurd b13 (by omega)) (fun (b13 : 1 < 4) => ?_)
    refine XP_n 4 (pc' := 18) (ls' := [.ref (9), .int (nI (q)), .int (nI (e)), .ref (9002), .int (nI (1))]) (st' := [.int ((nI (q)) + (nI (1))), .ref (9)]) (M' := (I, J, Rx R, N, G)) rfl ?_
    rw [show (nI (q)) + (nI (1)) = nI (q + 1) from nI_addE (rfl) (rfl)]
    refine XP_pure rfl rfl (c_byteAt hT hL (show q + 1 < L by omega)) ?_
    refine XP_n 2 (pc' := 21) (ls' := [.ref (9), .int (nI (q)), .int (nI (e)), .ref (9002), .int (nI (1))]) (st' := [.int (nI (1)), .ref (9002), .int (nI (b (q + 1)))]) (M' := (I, J, Rx R, N, G)) rfl ?_
    refine XP_pure rfl rfl tc_1_1 ?_
    refine XP_icN (x := b (q + 1)) (y := 118) rfl (by omega) (by omega) (fun (b22 : b (q + 1) = 118) => absurd b22 (by omega)) (fun (b22 : ¬ b (q + 1) = 118) => ?_)
    refine XP_n 1 (pc' := 24) (ls' := [.ref (9), .int (nI (q)), .int (nI (e)), .ref (9002), .int (nI (1))]) (st' := [.int (nI (0))]) (M' := (I, J, Rx R, N, G)) rfl ?_
    exact XP_ret rfl ⟨rfl, rfl⟩
  by_cases h2 : b (q + 2) = 101
  rotate_left
  · skip
    unfold TP
    show XP X _ k_Reader_spells 0 [.ref (9), .int (nI (q)), .int (nI (e)), .ref (9002), xj] [] _ _
    refine XP_n 4 (pc' := 4) (ls' := [.ref (9), .int (nI (q)), .int (nI (e)), .ref (9002), xj]) (st' := [.ref (9002), .int ((nI (e)) - (nI (q)))]) (M' := (I, J, Rx R, N, G)) rfl ?_
    rw [show (nI (e)) - (nI (q)) = nI (e - q) from nI_subE (rfl) (rfl) (by omega)]
    refine XP_pure rfl rfl tl_1 ?_
    refine XP_icN (x := e - q) (y := 4) rfl (by omega) (by omega) (fun (b5 : e - q = 4) => ?_) (fun (b5 : ¬ e - q = 4) => absurd b5 (by omega))
    refine XP_n 4 (pc' := 12) (ls' := [.ref (9), .int (nI (q)), .int (nI (e)), .ref (9002), .int (nI (0))]) (st' := [.ref (9002), .int (nI (0))]) (M' := (I, J, Rx R, N, G)) rfl ?_
    refine XP_pure rfl rfl tl_1 ?_
    refine XP_icN (x := 0) (y := 4) rfl (by omega) (by omega) (fun (b13 : 4 ≤ 0) => absurd b13 (by omega)) (fun (b13 : 0 < 4) => ?_)
    refine XP_n 4 (pc' := 18) (ls' := [.ref (9), .int (nI (q)), .int (nI (e)), .ref (9002), .int (nI (0))]) (st' := [.int ((nI (q)) + (nI (0))), .ref (9)]) (M' := (I, J, Rx R, N, G)) rfl ?_
    rw [show (nI (q)) + (nI (0)) = nI (q + 0) from nI_addE (rfl) (rfl)]
    refine XP_pure rfl rfl (c_byteAt hT hL (show q + 0 < L by omega)) ?_
    refine XP_n 2 (pc' := 21) (ls' := [.ref (9), .int (nI (q)), .int (nI (e)), .ref (9002), .int (nI (0))]) (st' := [.int (nI (0)), .ref (9002), .int (nI (b (q + 0)))]) (M' := (I, J, Rx R, N, G)) rfl ?_
    refine XP_pure rfl rfl tc_1_0 ?_
    refine XP_icN (x := b (q + 0)) (y := 111) rfl (by omega) (by omega) (fun (b22 : b (q + 0) = 111) => ?_) (fun (b22 : ¬ b (q + 0) = 111) => absurd b22 (by omega))
    refine XP_n 1 (pc' := 26) (ls' := [.ref (9), .int (nI (q)), .int (nI (e)), .ref (9002), .int (nI (0) + nI (1))]) (st' := []) (M' := (I, J, Rx R, N, G)) rfl ?_
    rw [show nI (0) + nI (1) = nI (1) from nI_addE (rfl) rfl]
    refine XP_n 3 (pc' := 12) (ls' := [.ref (9), .int (nI (q)), .int (nI (e)), .ref (9002), .int (nI (1))]) (st' := [.ref (9002), .int (nI (1))]) (M' := (I, J, Rx R, N, G)) rfl ?_
    refine XP_pure rfl rfl tl_1 ?_
    refine XP_icN (x := 1) (y := 4) rfl (by omega) (by omega) (fun (b13 : 4 ≤ 1) => absurd b13 (by omega)) (fun (b13 : 1 < 4) => ?_)
    refine XP_n 4 (pc' := 18) (ls' := [.ref (9), .int (nI (q)), .int (nI (e)), .ref (9002), .int (nI (1))]) (st' := [.int ((nI (q)) + (nI (1))), .ref (9)]) (M' := (I, J, Rx R, N, G)) rfl ?_
    rw [show (nI (q)) + (nI (1)) = nI (q + 1) from nI_addE (rfl) (rfl)]
    refine XP_pure rfl rfl (c_byteAt hT hL (show q + 1 < L by omega)) ?_
    refine XP_n 2 (pc' := 21) (ls' := [.ref (9), .int (nI (q)), .int (nI (e)), .ref (9002), .int (nI (1))]) (st' := [.int (nI (1)), .ref (9002), .int (nI (b (q + 1)))]) (M' := (I, J, Rx R, N, G)) rfl ?_
    refine XP_pure rfl rfl tc_1_1 ?_
    refine XP_icN (x := b (q + 1)) (y := 118) rfl (by omega) (by omega) (fun (b22 : b (q + 1) = 118) => ?_) (fun (b22 : ¬ b (q + 1) = 118) => absurd b22 (by omega))
    refine XP_n 1 (pc' := 26) (ls' := [.ref (9), .int (nI (q)), .int (nI (e)), .ref (9002), .int (nI (1) + nI (1))]) (st' := []) (M' := (I, J, Rx R, N, G)) rfl ?_
    rw [show nI (1) + nI (1) = nI (2) from nI_addE (rfl) rfl]
    refine XP_n 3 (pc' := 12) (ls' := [.ref (9), .int (nI (q)), .int (nI (e)), .ref (9002), .int (nI (2))]) (st' := [.ref (9002), .int (nI (2))]) (M' := (I, J, Rx R, N, G)) rfl ?_
    refine XP_pure rfl rfl tl_1 ?_
    refine XP_icN (x := 2) (y := 4) rfl (by omega) (by omega) (fun (b13 : 4 ≤ 2) => absurd b13 (by omega)) (fun (b13 : 2 < 4) => ?_)
    refine XP_n 4 (pc' := 18) (ls' := [.ref (9), .int (nI (q)), .int (nI (e)), .ref (9002), .int (nI (2))]) (st' := [.int ((nI (q)) + (nI (2))), .ref (9)]) (M' := (I, J, Rx R, N, G)) rfl ?_
    rw [show (nI (q)) + (nI (2)) = nI (q + 2) from nI_addE (rfl) (rfl)]
    refine XP_pure rfl rfl (c_byteAt hT hL (show q + 2 < L by omega)) ?_
    refine XP_n 2 (pc' := 21) (ls' := [.ref (9), .int (nI (q)), .int (nI (e)), .ref (9002), .int (nI (2))]) (st' := [.int (nI (2)), .ref (9002), .int (nI (b (q + 2)))]) (M' := (I, J, Rx R, N, G)) rfl ?_
    refine XP_pure rfl rfl tc_1_2 ?_
    refine XP_icN (x := b (q + 2)) (y := 101) rfl (by omega) (by omega) (fun (b22 : b (q + 2) = 101) => absurd b22 (by omega)) (fun (b22 : ¬ b (q + 2) = 101) => ?_)
    refine XP_n 1 (pc' := 24) (ls' := [.ref (9), .int (nI (q)), .int (nI (e)), .ref (9002), .int (nI (2))]) (st' := [.int (nI (0))]) (M' := (I, J, Rx R, N, G)) rfl ?_
    exact XP_ret rfl ⟨rfl, rfl⟩
  by_cases h3 : b (q + 3) = 114
  rotate_left
  · skip
    unfold TP
    show XP X _ k_Reader_spells 0 [.ref (9), .int (nI (q)), .int (nI (e)), .ref (9002), xj] [] _ _
    refine XP_n 4 (pc' := 4) (ls' := [.ref (9), .int (nI (q)), .int (nI (e)), .ref (9002), xj]) (st' := [.ref (9002), .int ((nI (e)) - (nI (q)))]) (M' := (I, J, Rx R, N, G)) rfl ?_
    rw [show (nI (e)) - (nI (q)) = nI (e - q) from nI_subE (rfl) (rfl) (by omega)]
    refine XP_pure rfl rfl tl_1 ?_
    refine XP_icN (x := e - q) (y := 4) rfl (by omega) (by omega) (fun (b5 : e - q = 4) => ?_) (fun (b5 : ¬ e - q = 4) => absurd b5 (by omega))
    refine XP_n 4 (pc' := 12) (ls' := [.ref (9), .int (nI (q)), .int (nI (e)), .ref (9002), .int (nI (0))]) (st' := [.ref (9002), .int (nI (0))]) (M' := (I, J, Rx R, N, G)) rfl ?_
    refine XP_pure rfl rfl tl_1 ?_
    refine XP_icN (x := 0) (y := 4) rfl (by omega) (by omega) (fun (b13 : 4 ≤ 0) => absurd b13 (by omega)) (fun (b13 : 0 < 4) => ?_)
    refine XP_n 4 (pc' := 18) (ls' := [.ref (9), .int (nI (q)), .int (nI (e)), .ref (9002), .int (nI (0))]) (st' := [.int ((nI (q)) + (nI (0))), .ref (9)]) (M' := (I, J, Rx R, N, G)) rfl ?_
    rw [show (nI (q)) + (nI (0)) = nI (q + 0) from nI_addE (rfl) (rfl)]
    refine XP_pure rfl rfl (c_byteAt hT hL (show q + 0 < L by omega)) ?_
    refine XP_n 2 (pc' := 21) (ls' := [.ref (9), .int (nI (q)), .int (nI (e)), .ref (9002), .int (nI (0))]) (st' := [.int (nI (0)), .ref (9002), .int (nI (b (q + 0)))]) (M' := (I, J, Rx R, N, G)) rfl ?_
    refine XP_pure rfl rfl tc_1_0 ?_
    refine XP_icN (x := b (q + 0)) (y := 111) rfl (by omega) (by omega) (fun (b22 : b (q + 0) = 111) => ?_) (fun (b22 : ¬ b (q + 0) = 111) => absurd b22 (by omega))
    refine XP_n 1 (pc' := 26) (ls' := [.ref (9), .int (nI (q)), .int (nI (e)), .ref (9002), .int (nI (0) + nI (1))]) (st' := []) (M' := (I, J, Rx R, N, G)) rfl ?_
    rw [show nI (0) + nI (1) = nI (1) from nI_addE (rfl) rfl]
    refine XP_n 3 (pc' := 12) (ls' := [.ref (9), .int (nI (q)), .int (nI (e)), .ref (9002), .int (nI (1))]) (st' := [.ref (9002), .int (nI (1))]) (M' := (I, J, Rx R, N, G)) rfl ?_
    refine XP_pure rfl rfl tl_1 ?_
    refine XP_icN (x := 1) (y := 4) rfl (by omega) (by omega) (fun (b13 : 4 ≤ 1) => absurd b13 (by omega)) (fun (b13 : 1 < 4) => ?_)
    refine XP_n 4 (pc' := 18) (ls' := [.ref (9), .int (nI (q)), .int (nI (e)), .ref (9002), .int (nI (1))]) (st' := [.int ((nI (q)) + (nI (1))), .ref (9)]) (M' := (I, J, Rx R, N, G)) rfl ?_
    rw [show (nI (q)) + (nI (1)) = nI (q + 1) from nI_addE (rfl) (rfl)]
    refine XP_pure rfl rfl (c_byteAt hT hL (show q + 1 < L by omega)) ?_
    refine XP_n 2 (pc' := 21) (ls' := [.ref (9), .int (nI (q)), .int (nI (e)), .ref (9002), .int (nI (1))]) (st' := [.int (nI (1)), .ref (9002), .int (nI (b (q + 1)))]) (M' := (I, J, Rx R, N, G)) rfl ?_
    refine XP_pure rfl rfl tc_1_1 ?_
    refine XP_icN (x := b (q + 1)) (y := 118) rfl (by omega) (by omega) (fun (b22 : b (q + 1) = 118) => ?_) (fun (b22 : ¬ b (q + 1) = 118) => absurd b22 (by omega))
    refine XP_n 1 (pc' := 26) (ls' := [.ref (9), .int (nI (q)), .int (nI (e)), .ref (9002), .int (nI (1) + nI (1))]) (st' := []) (M' := (I, J, Rx R, N, G)) rfl ?_
    rw [show nI (1) + nI (1) = nI (2) from nI_addE (rfl) rfl]
    refine XP_n 3 (pc' := 12) (ls' := [.ref (9), .int (nI (q)), .int (nI (e)), .ref (9002), .int (nI (2))]) (st' := [.ref (9002), .int (nI (2))]) (M' := (I, J, Rx R, N, G)) rfl ?_
    refine XP_pure rfl rfl tl_1 ?_
    refine XP_icN (x := 2) (y := 4) rfl (by omega) (by omega) (fun (b13 : 4 ≤ 2) => absurd b13 (by omega)) (fun (b13 : 2 < 4) => ?_)
    refine XP_n 4 (pc' := 18) (ls' := [.ref (9), .int (nI (q)), .int (nI (e)), .ref (9002), .int (nI (2))]) (st' := [.int ((nI (q)) + (nI (2))), .ref (9)]) (M' := (I, J, Rx R, N, G)) rfl ?_
    rw [show (nI (q)) + (nI (2)) = nI (q + 2) from nI_addE (rfl) (rfl)]
    refine XP_pure rfl rfl (c_byteAt hT hL (show q + 2 < L by omega)) ?_
    refine XP_n 2 (pc' := 21) (ls' := [.ref (9), .int (nI (q)), .int (nI (e)), .ref (9002), .int (nI (2))]) (st' := [.int (nI (2)), .ref (9002), .int (nI (b (q + 2)))]) (M' := (I, J, Rx R, N, G)) rfl ?_
    refine XP_pure rfl rfl tc_1_2 ?_
    refine XP_icN (x := b (q + 2)) (y := 101) rfl (by omega) (by omega) (fun (b22 : b (q + 2) = 101) => ?_) (fun (b22 : ¬ b (q + 2) = 101) => absurd b22 (by omega))
    refine XP_n 1 (pc' := 26) (ls' := [.ref (9), .int (nI (q)), .int (nI (e)), .ref (9002), .int (nI (2) + nI (1))]) (st' := []) (M' := (I, J, Rx R, N, G)) rfl ?_
    rw [show nI (2) + nI (1) = nI (3) from nI_addE (rfl) rfl]
    refine XP_n 3 (pc' := 12) (ls' := [.ref (9), .int (nI (q)), .int (nI (e)), .ref (9002), .int (nI (3))]) (st' := [.ref (9002), .int (nI (3))]) (M' := (I, J, Rx R, N, G)) rfl ?_
    refine XP_pure rfl rfl tl_1 ?_
    refine XP_icN (x := 3) (y := 4) rfl (by omega) (by omega) (fun (b13 : 4 ≤ 3) => absurd b13 (by omega)) (fun (b13 : 3 < 4) => ?_)
    refine XP_n 4 (pc' := 18) (ls' := [.ref (9), .int (nI (q)), .int (nI (e)), .ref (9002), .int (nI (3))]) (st' := [.int ((nI (q)) + (nI (3))), .ref (9)]) (M' := (I, J, Rx R, N, G)) rfl ?_
    rw [show (nI (q)) + (nI (3)) = nI (q + 3) from nI_addE (rfl) (rfl)]
    refine XP_pure rfl rfl (c_byteAt hT hL (show q + 3 < L by omega)) ?_
    refine XP_n 2 (pc' := 21) (ls' := [.ref (9), .int (nI (q)), .int (nI (e)), .ref (9002), .int (nI (3))]) (st' := [.int (nI (3)), .ref (9002), .int (nI (b (q + 3)))]) (M' := (I, J, Rx R, N, G)) rfl ?_
    refine XP_pure rfl rfl tc_1_3 ?_
    refine XP_icN (x := b (q + 3)) (y := 114) rfl (by omega) (by omega) (fun (b22 : b (q + 3) = 114) => absurd b22 (by omega)) (fun (b22 : ¬ b (q + 3) = 114) => ?_)
    refine XP_n 1 (pc' := 24) (ls' := [.ref (9), .int (nI (q)), .int (nI (e)), .ref (9002), .int (nI (3))]) (st' := [.int (nI (0))]) (M' := (I, J, Rx R, N, G)) rfl ?_
    exact XP_ret rfl ⟨rfl, rfl⟩
  refine absurd ⟨hl, fun j hj => ?_⟩ h
  have hj : j < 4 := hj
  have hc : j = 0 ∨ j = 1 ∨ j = 2 ∨ j = 3 := by omega
  rcases hc with rfl | rfl | rfl | rfl
  · exact h0
  · exact h1
  · exact h2
  · exact h3
theorem c_spT2 (hT : Tp I b L) (hL : L ≤ 160) {q e : Nat} (hqe : q ≤ e) (he : e ≤ L) (h : mW b q e 4) : TP X (d + 8) n_Reader_spells [.ref 9, .int (nI q), .int (nI e), .ref 9004] (I, J, Rx R, N, G) (Ret (.int (nI 1)) (I, J, Rx R, N, G)) := by
  have hl : e - q = 6 := h.1
  have h0 : b (q + 0) = 98 := h.2 0 (by decide)
  have h1 : b (q + 1) = 101 := h.2 1 (by decide)
  have h2 : b (q + 2) = 104 := h.2 2 (by decide)
  have h3 : b (q + 3) = 105 := h.2 3 (by decide)
  have h4 : b (q + 4) = 110 := h.2 4 (by decide)
  have h5 : b (q + 5) = 100 := h.2 5 (by decide)
  unfold TP
  show XP X _ k_Reader_spells 0 [.ref (9), .int (nI (q)), .int (nI (e)), .ref (9004), xj] [] _ _
  refine XP_n 4 (pc' := 4) (ls' := [.ref (9), .int (nI (q)), .int (nI (e)), .ref (9004), xj]) (st' := [.ref (9004), .int ((nI (e)) - (nI (q)))]) (M' := (I, J, Rx R, N, G)) rfl ?_
  rw [show (nI (e)) - (nI (q)) = nI (e - q) from nI_subE (rfl) (rfl) (by omega)]
  refine XP_pure rfl rfl tl_2 ?_
  refine XP_icN (x := e - q) (y := 6) rfl (by omega) (by omega) (fun (b5 : e - q = 6) => ?_) (fun (b5 : ¬ e - q = 6) => absurd b5 (by omega))
  refine XP_n 4 (pc' := 12) (ls' := [.ref (9), .int (nI (q)), .int (nI (e)), .ref (9004), .int (nI (0))]) (st' := [.ref (9004), .int (nI (0))]) (M' := (I, J, Rx R, N, G)) rfl ?_
  refine XP_pure rfl rfl tl_2 ?_
  refine XP_icN (x := 0) (y := 6) rfl (by omega) (by omega) (fun (b13 : 6 ≤ 0) => absurd b13 (by omega)) (fun (b13 : 0 < 6) => ?_)
  refine XP_n 4 (pc' := 18) (ls' := [.ref (9), .int (nI (q)), .int (nI (e)), .ref (9004), .int (nI (0))]) (st' := [.int ((nI (q)) + (nI (0))), .ref (9)]) (M' := (I, J, Rx R, N, G)) rfl ?_
  rw [show (nI (q)) + (nI (0)) = nI (q + 0) from nI_addE (rfl) (rfl)]
  refine XP_pure rfl rfl (c_byteAt hT hL (show q + 0 < L by omega)) ?_
  refine XP_n 2 (pc' := 21) (ls' := [.ref (9), .int (nI (q)), .int (nI (e)), .ref (9004), .int (nI (0))]) (st' := [.int (nI (0)), .ref (9004), .int (nI (b (q + 0)))]) (M' := (I, J, Rx R, N, G)) rfl ?_
  refine XP_pure rfl rfl tc_2_0 ?_
  refine XP_icN (x := b (q + 0)) (y := 98) rfl (by omega) (by omega) (fun (b22 : b (q + 0) = 98) => ?_) (fun (b22 : ¬ b (q + 0) = 98) => absurd b22 (by omega))
  refine XP_n 1 (pc' := 26) (ls' := [.ref (9), .int (nI (q)), .int (nI (e)), .ref (9004), .int (nI (0) + nI (1))]) (st' := []) (M' := (I, J, Rx R, N, G)) rfl ?_
  rw [show nI (0) + nI (1) = nI (1) from nI_addE (rfl) rfl]
  refine XP_n 3 (pc' := 12) (ls' := [.ref (9), .int (nI (q)), .int (nI (e)), .ref (9004), .int (nI (1))]) (st' := [.ref (9004), .int (nI (1))]) (M' := (I, J, Rx R, N, G)) rfl ?_
  refine XP_pure rfl rfl tl_2 ?_
  refine XP_icN (x := 1) (y := 6) rfl (by omega) (by omega) (fun (b13 : 6 ≤ 1) => absurd b13 (by omega)) (fun (b13 : 1 < 6) => ?_)
  refine XP_n 4 (pc' := 18) (ls' := [.ref (9), .int (nI (q)), .int (nI (e)), .ref (9004), .int (nI (1))]) (st' := [.int ((nI (q)) + (nI (1))), .ref (9)]) (M' := (I, J, Rx R, N, G)) rfl ?_
  rw [show (nI (q)) + (nI (1)) = nI (q + 1) from nI_addE (rfl) (rfl)]
  refine XP_pure rfl rfl (c_byteAt hT hL (show q + 1 < L by omega)) ?_
  refine XP_n 2 (pc' := 21) (ls' := [.ref (9), .int (nI (q)), .int (nI (e)), .ref (9004), .int (nI (1))]) (st' := [.int (nI (1)), .ref (9004), .int (nI (b (q + 1)))]) (M' := (I, J, Rx R, N, G)) rfl ?_
  refine XP_pure rfl rfl tc_2_1 ?_
  refine XP_icN (x := b (q + 1)) (y := 101) rfl (by omega) (by omega) (fun (b22 : b (q + 1) = 101) => ?_) (fun (b22 : ¬ b (q + 1) = 101) => absurd b22 (by omega))
  refine XP_n 1 (pc' := 26) (ls' := [.ref (9), .int (nI (q)), .int (nI (e)), .ref (9004), .int (nI (1) + nI (1))]) (st' := []) (M' := (I, J, Rx R, N, G)) rfl ?_
  rw [show nI (1) + nI (1) = nI (2) from nI_addE (rfl) rfl]
  refine XP_n 3 (pc' := 12) (ls' := [.ref (9), .int (nI (q)), .int (nI (e)), .ref (9004), .int (nI (2))]) (st' := [.ref (9004), .int (nI (2))]) (M' := (I, J, Rx R, N, G)) rfl ?_
  refine XP_pure rfl rfl tl_2 ?_
  refine XP_icN (x := 2) (y := 6) rfl (by omega) (by omega) (fun (b13 : 6 ≤ 2) => absurd b13 (by omega)) (fun (b13 : 2 < 6) => ?_)
  refine XP_n 4 (pc' := 18) (ls' := [.ref (9), .int (nI (q)), .int (nI (e)), .ref (9004), .int (nI (2))]) (st' := [.int ((nI (q)) + (nI (2))), .ref (9)]) (M' := (I, J, Rx R, N, G)) rfl ?_
  rw [show (nI (q)) + (nI (2)) = nI (q + 2) from nI_addE (rfl) (rfl)]
  refine XP_pure rfl rfl (c_byteAt hT hL (show q + 2 < L by omega)) ?_
  refine XP_n 2 (pc' := 21) (ls' := [.ref (9), .int (nI (q)), .int (nI (e)), .ref (9004), .int (nI (2))]) (st' := [.int (nI (2)), .ref (9004), .int (nI (b (q + 2)))]) (M' := (I, J, Rx R, N, G)) rfl ?_
  refine XP_pure rfl rfl tc_2_2 ?_
  refine XP_icN (x := b (q + 2)) (y := 104) rfl (by omega) (by omega) (fun (b22 : b (q + 2) = 104) => ?_) (fun (b22 : ¬ b (q + 2) = 104) => absurd b22 (by omega))
  refine XP_n 1 (pc' := 26) (ls' := [.ref (9), .int (nI (q)), .int (nI (e)), .ref (9004), .int (nI (2) + nI (1))]) (st' := []) (M' := (I, J, Rx R, N, G)) rfl ?_
  rw [show nI (2) + nI (1) = nI (3) from nI_addE (rfl) rfl]
  refine XP_n 3 (pc' := 12) (ls' := [.ref (9), .int (nI (q)), .int (nI (e)), .ref (9004), .int (nI (3))]) (st' := [.ref (9004), .int (nI (3))]) (M' := (I, J, Rx R, N, G)) rfl ?_
  refine XP_pure rfl rfl tl_2 ?_
  refine XP_icN (x := 3) (y := 6) rfl (by omega) (by omega) (fun (b13 : 6 ≤ 3) => absurd b13 (by omega)) (fun (b13 : 3 < 6) => ?_)
  refine XP_n 4 (pc' := 18) (ls' := [.ref (9), .int (nI (q)), .int (nI (e)), .ref (9004), .int (nI (3))]) (st' := [.int ((nI (q)) + (nI (3))), .ref (9)]) (M' := (I, J, Rx R, N, G)) rfl ?_
  rw [show (nI (q)) + (nI (3)) = nI (q + 3) from nI_addE (rfl) (rfl)]
  refine XP_pure rfl rfl (c_byteAt hT hL (show q + 3 < L by omega)) ?_
  refine XP_n 2 (pc' := 21) (ls' := [.ref (9), .int (nI (q)), .int (nI (e)), .ref (9004), .int (nI (3))]) (st' := [.int (nI (3)), .ref (9004), .int (nI (b (q + 3)))]) (M' := (I, J, Rx R, N, G)) rfl ?_
  refine XP_pure rfl rfl tc_2_3 ?_
  refine XP_icN (x := b (q + 3)) (y := 105) rfl (by omega) (by omega) (fun (b22 : b (q + 3) = 105) => ?_) (fun (b22 : ¬ b (q + 3) = 105) => absurd b22 (by omega))
  refine XP_n 1 (pc' := 26) (ls' := [.ref (9), .int (nI (q)), .int (nI (e)), .ref (9004), .int (nI (3) + nI (1))]) (st' := []) (M' := (I, J, Rx R, N, G)) rfl ?_
  rw [show nI (3) + nI (1) = nI (4) from nI_addE (rfl) rfl]
  refine XP_n 3 (pc' := 12) (ls' := [.ref (9), .int (nI (q)), .int (nI (e)), .ref (9004), .int (nI (4))]) (st' := [.ref (9004), .int (nI (4))]) (M' := (I, J, Rx R, N, G)) rfl ?_
  refine XP_pure rfl rfl tl_2 ?_
  refine XP_icN (x := 4) (y := 6) rfl (by omega) (by omega) (fun (b13 : 6 ≤ 4) => absurd b13 (by omega)) (fun (b13 : 4 < 6) => ?_)
  refine XP_n 4 (pc' := 18) (ls' := [.ref (9), .int (nI (q)), .int (nI (e)), .ref (9004), .int (nI (4))]) (st' := [.int ((nI (q)) + (nI (4))), .ref (9)]) (M' := (I, J, Rx R, N, G)) rfl ?_
  rw [show (nI (q)) + (nI (4)) = nI (q + 4) from nI_addE (rfl) (rfl)]
  refine XP_pure rfl rfl (c_byteAt hT hL (show q + 4 < L by omega)) ?_
  refine XP_n 2 (pc' := 21) (ls' := [.ref (9), .int (nI (q)), .int (nI (e)), .ref (9004), .int (nI (4))]) (st' := [.int (nI (4)), .ref (9004), .int (nI (b (q + 4)))]) (M' := (I, J, Rx R, N, G)) rfl ?_
  refine XP_pure rfl rfl tc_2_4 ?_
  refine XP_icN (x := b (q + 4)) (y := 110) rfl (by omega) (by omega) (fun (b22 : b (q + 4) = 110) => ?_) (fun (b22 : ¬ b (q + 4) = 110) => absurd b22 (by omega))
  refine XP_n 1 (pc' := 26) (ls' := [.ref (9), .int (nI (q)), .int (nI (e)), .ref (9004), .int (nI (4) + nI (1))]) (st' := []) (M' := (I, J, Rx R, N, G)) rfl ?_
  rw [show nI (4) + nI (1) = nI (5) from nI_addE (rfl) rfl]
  refine XP_n 3 (pc' := 12) (ls' := [.ref (9), .int (nI (q)), .int (nI (e)), .ref (9004), .int (nI (5))]) (st' := [.ref (9004), .int (nI (5))]) (M' := (I, J, Rx R, N, G)) rfl ?_
  refine XP_pure rfl rfl tl_2 ?_
  refine XP_icN (x := 5) (y := 6) rfl (by omega) (by omega) (fun (b13 : 6 ≤ 5) => absurd b13 (by omega)) (fun (b13 : 5 < 6) => ?_)
  refine XP_n 4 (pc' := 18) (ls' := [.ref (9), .int (nI (q)), .int (nI (e)), .ref (9004), .int (nI (5))]) (st' := [.int ((nI (q)) + (nI (5))), .ref (9)]) (M' := (I, J, Rx R, N, G)) rfl ?_
  rw [show (nI (q)) + (nI (5)) = nI (q + 5) from nI_addE (rfl) (rfl)]
  refine XP_pure rfl rfl (c_byteAt hT hL (show q + 5 < L by omega)) ?_
  refine XP_n 2 (pc' := 21) (ls' := [.ref (9), .int (nI (q)), .int (nI (e)), .ref (9004), .int (nI (5))]) (st' := [.int (nI (5)), .ref (9004), .int (nI (b (q + 5)))]) (M' := (I, J, Rx R, N, G)) rfl ?_
  refine XP_pure rfl rfl tc_2_5 ?_
  refine XP_icN (x := b (q + 5)) (y := 100) rfl (by omega) (by omega) (fun (b22 : b (q + 5) = 100) => ?_) (fun (b22 : ¬ b (q + 5) = 100) => absurd b22 (by omega))
  refine XP_n 1 (pc' := 26) (ls' := [.ref (9), .int (nI (q)), .int (nI (e)), .ref (9004), .int (nI (5) + nI (1))]) (st' := []) (M' := (I, J, Rx R, N, G)) rfl ?_
  rw [show nI (5) + nI (1) = nI (6) from nI_addE (rfl) rfl]
  refine XP_n 3 (pc' := 12) (ls' := [.ref (9), .int (nI (q)), .int (nI (e)), .ref (9004), .int (nI (6))]) (st' := [.ref (9004), .int (nI (6))]) (M' := (I, J, Rx R, N, G)) rfl ?_
  refine XP_pure rfl rfl tl_2 ?_
  refine XP_icN (x := 6) (y := 6) rfl (by omega) (by omega) (fun (b13 : 6 ≤ 6) => ?_) (fun (b13 : 6 < 6) => absurd b13 (by omega))
  refine XP_n 1 (pc' := 28) (ls' := [.ref (9), .int (nI (q)), .int (nI (e)), .ref (9004), .int (nI (6))]) (st' := [.int (nI (1))]) (M' := (I, J, Rx R, N, G)) rfl ?_
  exact XP_ret rfl ⟨rfl, rfl⟩
theorem c_spF2 (hT : Tp I b L) (hL : L ≤ 160) (hb : ∀ i, i < L → b i ≤ 255) {q e : Nat} (hqe : q ≤ e) (he : e ≤ L) (h : ¬ mW b q e 4) : TP X (d + 8) n_Reader_spells [.ref 9, .int (nI q), .int (nI e), .ref 9004] (I, J, Rx R, N, G) (Ret (.int (nI 0)) (I, J, Rx R, N, G)) := by
  by_cases hl : e - q = 6
  rotate_left
  · skip
    unfold TP
    show XP X _ k_Reader_spells 0 [.ref (9), .int (nI (q)), .int (nI (e)), .ref (9004), xj] [] _ _
    refine XP_n 4 (pc' := 4) (ls' := [.ref (9), .int (nI (q)), .int (nI (e)), .ref (9004), xj]) (st' := [.ref (9004), .int ((nI (e)) - (nI (q)))]) (M' := (I, J, Rx R, N, G)) rfl ?_
    rw [show (nI (e)) - (nI (q)) = nI (e - q) from nI_subE (rfl) (rfl) (by omega)]
    refine XP_pure rfl rfl tl_2 ?_
    refine XP_icN (x := e - q) (y := 6) rfl (by omega) (by omega) (fun (b5 : e - q = 6) => absurd b5 (by omega)) (fun (b5 : ¬ e - q = 6) => ?_)
    refine XP_n 1 (pc' := 7) (ls' := [.ref (9), .int (nI (q)), .int (nI (e)), .ref (9004), xj]) (st' := [.int (nI (0))]) (M' := (I, J, Rx R, N, G)) rfl ?_
    exact XP_ret rfl ⟨rfl, rfl⟩
  have q0 := hb (q + 0) (by omega)
  have q1 := hb (q + 1) (by omega)
  have q2 := hb (q + 2) (by omega)
  have q3 := hb (q + 3) (by omega)
  have q4 := hb (q + 4) (by omega)
  have q5 := hb (q + 5) (by omega)
  by_cases h0 : b (q + 0) = 98
  rotate_left
  · skip
    unfold TP
    show XP X _ k_Reader_spells 0 [.ref (9), .int (nI (q)), .int (nI (e)), .ref (9004), xj] [] _ _
    refine XP_n 4 (pc' := 4) (ls' := [.ref (9), .int (nI (q)), .int (nI (e)), .ref (9004), xj]) (st' := [.ref (9004), .int ((nI (e)) - (nI (q)))]) (M' := (I, J, Rx R, N, G)) rfl ?_
    rw [show (nI (e)) - (nI (q)) = nI (e - q) from nI_subE (rfl) (rfl) (by omega)]
    refine XP_pure rfl rfl tl_2 ?_
    refine XP_icN (x := e - q) (y := 6) rfl (by omega) (by omega) (fun (b5 : e - q = 6) => ?_) (fun (b5 : ¬ e - q = 6) => absurd b5 (by omega))
    refine XP_n 4 (pc' := 12) (ls' := [.ref (9), .int (nI (q)), .int (nI (e)), .ref (9004), .int (nI (0))]) (st' := [.ref (9004), .int (nI (0))]) (M' := (I, J, Rx R, N, G)) rfl ?_
    refine XP_pure rfl rfl tl_2 ?_
    refine XP_icN (x := 0) (y := 6) rfl (by omega) (by omega) (fun (b13 : 6 ≤ 0) => absurd b13 (by omega)) (fun (b13 : 0 < 6) => ?_)
    refine XP_n 4 (pc' := 18) (ls' := [.ref (9), .int (nI (q)), .int (nI (e)), .ref (9004), .int (nI (0))]) (st' := [.int ((nI (q)) + (nI (0))), .ref (9)]) (M' := (I, J, Rx R, N, G)) rfl ?_
    rw [show (nI (q)) + (nI (0)) = nI (q + 0) from nI_addE (rfl) (rfl)]
    refine XP_pure rfl rfl (c_byteAt hT hL (show q + 0 < L by omega)) ?_
    refine XP_n 2 (pc' := 21) (ls' := [.ref (9), .int (nI (q)), .int (nI (e)), .ref (9004), .int (nI (0))]) (st' := [.int (nI (0)), .ref (9004), .int (nI (b (q + 0)))]) (M' := (I, J, Rx R, N, G)) rfl ?_
    refine XP_pure rfl rfl tc_2_0 ?_
    refine XP_icN (x := b (q + 0)) (y := 98) rfl (by omega) (by omega) (fun (b22 : b (q + 0) = 98) => absurd b22 (by omega)) (fun (b22 : ¬ b (q + 0) = 98) => ?_)
    refine XP_n 1 (pc' := 24) (ls' := [.ref (9), .int (nI (q)), .int (nI (e)), .ref (9004), .int (nI (0))]) (st' := [.int (nI (0))]) (M' := (I, J, Rx R, N, G)) rfl ?_
    exact XP_ret rfl ⟨rfl, rfl⟩
  by_cases h1 : b (q + 1) = 101
  rotate_left
  · skip
    unfold TP
    show XP X _ k_Reader_spells 0 [.ref (9), .int (nI (q)), .int (nI (e)), .ref (9004), xj] [] _ _
    refine XP_n 4 (pc' := 4) (ls' := [.ref (9), .int (nI (q)), .int (nI (e)), .ref (9004), xj]) (st' := [.ref (9004), .int ((nI (e)) - (nI (q)))]) (M' := (I, J, Rx R, N, G)) rfl ?_
    rw [show (nI (e)) - (nI (q)) = nI (e - q) from nI_subE (rfl) (rfl) (by omega)]
    refine XP_pure rfl rfl tl_2 ?_
    refine XP_icN (x := e - q) (y := 6) rfl (by omega) (by omega) (fun (b5 : e - q = 6) => ?_) (fun (b5 : ¬ e - q = 6) => absurd b5 (by omega))
    refine XP_n 4 (pc' := 12) (ls' := [.ref (9), .int (nI (q)), .int (nI (e)), .ref (9004), .int (nI (0))]) (st' := [.ref (9004), .int (nI (0))]) (M' := (I, J, Rx R, N, G)) rfl ?_
    refine XP_pure rfl rfl tl_2 ?_
    refine XP_icN (x := 0) (y := 6) rfl (by omega) (by omega) (fun (b13 : 6 ≤ 0) => absurd b13 (by omega)) (fun (b13 : 0 < 6) => ?_)
    refine XP_n 4 (pc' := 18) (ls' := [.ref (9), .int (nI (q)), .int (nI (e)), .ref (9004), .int (nI (0))]) (st' := [.int ((nI (q)) + (nI (0))), .ref (9)]) (M' := (I, J, Rx R, N, G)) rfl ?_
    rw [show (nI (q)) + (nI (0)) = nI (q + 0) from nI_addE (rfl) (rfl)]
    refine XP_pure rfl rfl (c_byteAt hT hL (show q + 0 < L by omega)) ?_
    refine XP_n 2 (pc' := 21) (ls' := [.ref (9), .int (nI (q)), .int (nI (e)), .ref (9004), .int (nI (0))]) (st' := [.int (nI (0)), .ref (9004), .int (nI (b (q + 0)))]) (M' := (I, J, Rx R, N, G)) rfl ?_
    refine XP_pure rfl rfl tc_2_0 ?_
    refine XP_icN (x := b (q + 0)) (y := 98) rfl (by omega) (by omega) (fun (b22 : b (q + 0) = 98) => ?_) (fun (b22 : ¬ b (q + 0) = 98) => absurd b22 (by omega))
    refine XP_n 1 (pc' := 26) (ls' := [.ref (9), .int (nI (q)), .int (nI (e)), .ref (9004), .int (nI (0) + nI (1))]) (st' := []) (M' := (I, J, Rx R, N, G)) rfl ?_
    rw [show nI (0) + nI (1) = nI (1) from nI_addE (rfl) rfl]
    refine XP_n 3 (pc' := 12) (ls' := [.ref (9), .int (nI (q)), .int (nI (e)), .ref (9004), .int (nI (1))]) (st' := [.ref (9004), .int (nI (1))]) (M' := (I, J, Rx R, N, G)) rfl ?_
    refine XP_pure rfl rfl tl_2 ?_
    refine XP_icN (x := 1) (y := 6) rfl (by omega) (by omega) (fun (b13 : 6 ≤ 1) => absurd b13 (by omega)) (fun (b13 : 1 < 6) => ?_)
    refine XP_n 4 (pc' := 18) (ls' := [.ref (9), .int (nI (q)), .int (nI (e)), .ref (9004), .int (nI (1))]) (st' := [.int ((nI (q)) + (nI (1))), .ref (9)]) (M' := (I, J, Rx R, N, G)) rfl ?_
    rw [show (nI (q)) + (nI (1)) = nI (q + 1) from nI_addE (rfl) (rfl)]
    refine XP_pure rfl rfl (c_byteAt hT hL (show q + 1 < L by omega)) ?_
    refine XP_n 2 (pc' := 21) (ls' := [.ref (9), .int (nI (q)), .int (nI (e)), .ref (9004), .int (nI (1))]) (st' := [.int (nI (1)), .ref (9004), .int (nI (b (q + 1)))]) (M' := (I, J, Rx R, N, G)) rfl ?_
    refine XP_pure rfl rfl tc_2_1 ?_
    refine XP_icN (x := b (q + 1)) (y := 101) rfl (by omega) (by omega) (fun (b22 : b (q + 1) = 101) => absurd b22 (by omega)) (fun (b22 : ¬ b (q + 1) = 101) => ?_)
    refine XP_n 1 (pc' := 24) (ls' := [.ref (9), .int (nI (q)), .int (nI (e)), .ref (9004), .int (nI (1))]) (st' := [.int (nI (0))]) (M' := (I, J, Rx R, N, G)) rfl ?_
    exact XP_ret rfl ⟨rfl, rfl⟩
  by_cases h2 : b (q + 2) = 104
  rotate_left
  · skip
    unfold TP
    show XP X _ k_Reader_spells 0 [.ref (9), .int (nI (q)), .int (nI (e)), .ref (9004), xj] [] _ _
    refine XP_n 4 (pc' := 4) (ls' := [.ref (9), .int (nI (q)), .int (nI (e)), .ref (9004), xj]) (st' := [.ref (9004), .int ((nI (e)) - (nI (q)))]) (M' := (I, J, Rx R, N, G)) rfl ?_
    rw [show (nI (e)) - (nI (q)) = nI (e - q) from nI_subE (rfl) (rfl) (by omega)]
    refine XP_pure rfl rfl tl_2 ?_
    refine XP_icN (x := e - q) (y := 6) rfl (by omega) (by omega) (fun (b5 : e - q = 6) => ?_) (fun (b5 : ¬ e - q = 6) => absurd b5 (by omega))
    refine XP_n 4 (pc' := 12) (ls' := [.ref (9), .int (nI (q)), .int (nI (e)), .ref (9004), .int (nI (0))]) (st' := [.ref (9004), .int (nI (0))]) (M' := (I, J, Rx R, N, G)) rfl ?_
    refine XP_pure rfl rfl tl_2 ?_
    refine XP_icN (x := 0) (y := 6) rfl (by omega) (by omega) (fun (b13 : 6 ≤ 0) => absurd b13 (by omega)) (fun (b13 : 0 < 6) => ?_)
    refine XP_n 4 (pc' := 18) (ls' := [.ref (9), .int (nI (q)), .int (nI (e)), .ref (9004), .int (nI (0))]) (st' := [.int ((nI (q)) + (nI (0))), .ref (9)]) (M' := (I, J, Rx R, N, G)) rfl ?_
    rw [show (nI (q)) + (nI (0)) = nI (q + 0) from nI_addE (rfl) (rfl)]
    refine XP_pure rfl rfl (c_byteAt hT hL (show q + 0 < L by omega)) ?_
    refine XP_n 2 (pc' := 21) (ls' := [.ref (9), .int (nI (q)), .int (nI (e)), .ref (9004), .int (nI (0))]) (st' := [.int (nI (0)), .ref (9004), .int (nI (b (q + 0)))]) (M' := (I, J, Rx R, N, G)) rfl ?_
    refine XP_pure rfl rfl tc_2_0 ?_
    refine XP_icN (x := b (q + 0)) (y := 98) rfl (by omega) (by omega) (fun (b22 : b (q + 0) = 98) => ?_) (fun (b22 : ¬ b (q + 0) = 98) => absurd b22 (by omega))
    refine XP_n 1 (pc' := 26) (ls' := [.ref (9), .int (nI (q)), .int (nI (e)), .ref (9004), .int (nI (0) + nI (1))]) (st' := []) (M' := (I, J, Rx R, N, G)) rfl ?_
    rw [show nI (0) + nI (1) = nI (1) from nI_addE (rfl) rfl]
    refine XP_n 3 (pc' := 12) (ls' := [.ref (9), .int (nI (q)), .int (nI (e)), .ref (9004), .int (nI (1))]) (st' := [.ref (9004), .int (nI (1))]) (M' := (I, J, Rx R, N, G)) rfl ?_
    refine XP_pure rfl rfl tl_2 ?_
    refine XP_icN (x := 1) (y := 6) rfl (by omega) (by omega) (fun (b13 : 6 ≤ 1) => absurd b13 (by omega)) (fun (b13 : 1 < 6) => ?_)
    refine XP_n 4 (pc' := 18) (ls' := [.ref (9), .int (nI (q)), .int (nI (e)), .ref (9004), .int (nI (1))]) (st' := [.int ((nI (q)) + (nI (1))), .ref (9)]) (M' := (I, J, Rx R, N, G)) rfl ?_
    rw [show (nI (q)) + (nI (1)) = nI (q + 1) from nI_addE (rfl) (rfl)]
    refine XP_pure rfl rfl (c_byteAt hT hL (show q + 1 < L by omega)) ?_
    refine XP_n 2 (pc' := 21) (ls' := [.ref (9), .int (nI (q)), .int (nI (e)), .ref (9004), .int (nI (1))]) (st' := [.int (nI (1)), .ref (9004), .int (nI (b (q + 1)))]) (M' := (I, J, Rx R, N, G)) rfl ?_
    refine XP_pure rfl rfl tc_2_1 ?_
    refine XP_icN (x := b (q + 1)) (y := 101) rfl (by omega) (by omega) (fun (b22 : b (q + 1) = 101) => ?_) (fun (b22 : ¬ b (q + 1) = 101) => absurd b22 (by omega))
    refine XP_n 1 (pc' := 26) (ls' := [.ref (9), .int (nI (q)), .int (nI (e)), .ref (9004), .int (nI (1) + nI (1))]) (st' := []) (M' := (I, J, Rx R, N, G)) rfl ?_
    rw [show nI (1) + nI (1) = nI (2) from nI_addE (rfl) rfl]
    refine XP_n 3 (pc' := 12) (ls' := [.ref (9), .int (nI (q)), .int (nI (e)), .ref (9004), .int (nI (2))]) (st' := [.ref (9004), .int (nI (2))]) (M' := (I, J, Rx R, N, G)) rfl ?_
    refine XP_pure rfl rfl tl_2 ?_
    refine XP_icN (x := 2) (y := 6) rfl (by omega) (by omega) (fun (b13 : 6 ≤ 2) => absurd b13 (by omega)) (fun (b13 : 2 < 6) => ?_)
    refine XP_n 4 (pc' := 18) (ls' := [.ref (9), .int (nI (q)), .int (nI (e)), .ref (9004), .int (nI (2))]) (st' := [.int ((nI (q)) + (nI (2))), .ref (9)]) (M' := (I, J, Rx R, N, G)) rfl ?_
    rw [show (nI (q)) + (nI (2)) = nI (q + 2) from nI_addE (rfl) (rfl)]
    refine XP_pure rfl rfl (c_byteAt hT hL (show q + 2 < L by omega)) ?_
    refine XP_n 2 (pc' := 21) (ls' := [.ref (9), .int (nI (q)), .int (nI (e)), .ref (9004), .int (nI (2))]) (st' := [.int (nI (2)), .ref (9004), .int (nI (b (q + 2)))]) (M' := (I, J, Rx R, N, G)) rfl ?_
    refine XP_pure rfl rfl tc_2_2 ?_
    refine XP_icN (x := b (q + 2)) (y := 104) rfl (by omega) (by omega) (fun (b22 : b (q + 2) = 104) => absurd b22 (by omega)) (fun (b22 : ¬ b (q + 2) = 104) => ?_)
    refine XP_n 1 (pc' := 24) (ls' := [.ref (9), .int (nI (q)), .int (nI (e)), .ref (9004), .int (nI (2))]) (st' := [.int (nI (0))]) (M' := (I, J, Rx R, N, G)) rfl ?_
    exact XP_ret rfl ⟨rfl, rfl⟩
  by_cases h3 : b (q + 3) = 105
  rotate_left
  · skip
    unfold TP
    show XP X _ k_Reader_spells 0 [.ref (9), .int (nI (q)), .int (nI (e)), .ref (9004), xj] [] _ _
    refine XP_n 4 (pc' := 4) (ls' := [.ref (9), .int (nI (q)), .int (nI (e)), .ref (9004), xj]) (st' := [.ref (9004), .int ((nI (e)) - (nI (q)))]) (M' := (I, J, Rx R, N, G)) rfl ?_
    rw [show (nI (e)) - (nI (q)) = nI (e - q) from nI_subE (rfl) (rfl) (by omega)]
    refine XP_pure rfl rfl tl_2 ?_
    refine XP_icN (x := e - q) (y := 6) rfl (by omega) (by omega) (fun (b5 : e - q = 6) => ?_) (fun (b5 : ¬ e - q = 6) => absurd b5 (by omega))
    refine XP_n 4 (pc' := 12) (ls' := [.ref (9), .int (nI (q)), .int (nI (e)), .ref (9004), .int (nI (0))]) (st' := [.ref (9004), .int (nI (0))]) (M' := (I, J, Rx R, N, G)) rfl ?_
    refine XP_pure rfl rfl tl_2 ?_
    refine XP_icN (x := 0) (y := 6) rfl (by omega) (by omega) (fun (b13 : 6 ≤ 0) => absurd b13 (by omega)) (fun (b13 : 0 < 6) => ?_)
    refine XP_n 4 (pc' := 18) (ls' := [.ref (9), .int (nI (q)), .int (nI (e)), .ref (9004), .int (nI (0))]) (st' := [.int ((nI (q)) + (nI (0))), .ref (9)]) (M' := (I, J, Rx R, N, G)) rfl ?_
    rw [show (nI (q)) + (nI (0)) = nI (q + 0) from nI_addE (rfl) (rfl)]
    refine XP_pure rfl rfl (c_byteAt hT hL (show q + 0 < L by omega)) ?_
    refine XP_n 2 (pc' := 21) (ls' := [.ref (9), .int (nI (q)), .int (nI (e)), .ref (9004), .int (nI (0))]) (st' := [.int (nI (0)), .ref (9004), .int (nI (b (q + 0)))]) (M' := (I, J, Rx R, N, G)) rfl ?_
    refine XP_pure rfl rfl tc_2_0 ?_
    refine XP_icN (x := b (q + 0)) (y := 98) rfl (by omega) (by omega) (fun (b22 : b (q + 0) = 98) => ?_) (fun (b22 : ¬ b (q + 0) = 98) => absurd b22 (by omega))
    refine XP_n 1 (pc' := 26) (ls' := [.ref (9), .int (nI (q)), .int (nI (e)), .ref (9004), .int (nI (0) + nI (1))]) (st' := []) (M' := (I, J, Rx R, N, G)) rfl ?_
    rw [show nI (0) + nI (1) = nI (1) from nI_addE (rfl) rfl]
    refine XP_n 3 (pc' := 12) (ls' := [.ref (9), .int (nI (q)), .int (nI (e)), .ref (9004), .int (nI (1))]) (st' := [.ref (9004), .int (nI (1))]) (M' := (I, J, Rx R, N, G)) rfl ?_
    refine XP_pure rfl rfl tl_2 ?_
    refine XP_icN (x := 1) (y := 6) rfl (by omega) (by omega) (fun (b13 : 6 ≤ 1) => absurd b13 (by omega)) (fun (b13 : 1 < 6) => ?_)
    refine XP_n 4 (pc' := 18) (ls' := [.ref (9), .int (nI (q)), .int (nI (e)), .ref (9004), .int (nI (1))]) (st' := [.int ((nI (q)) + (nI (1))), .ref (9)]) (M' := (I, J, Rx R, N, G)) rfl ?_
    rw [show (nI (q)) + (nI (1)) = nI (q + 1) from nI_addE (rfl) (rfl)]
    refine XP_pure rfl rfl (c_byteAt hT hL (show q + 1 < L by omega)) ?_
    refine XP_n 2 (pc' := 21) (ls' := [.ref (9), .int (nI (q)), .int (nI (e)), .ref (9004), .int (nI (1))]) (st' := [.int (nI (1)), .ref (9004), .int (nI (b (q + 1)))]) (M' := (I, J, Rx R, N, G)) rfl ?_
    refine XP_pure rfl rfl tc_2_1 ?_
    refine XP_icN (x := b (q + 1)) (y := 101) rfl (by omega) (by omega) (fun (b22 : b (q + 1) = 101) => ?_) (fun (b22 : ¬ b (q + 1) = 101) => absurd b22 (by omega))
    refine XP_n 1 (pc' := 26) (ls' := [.ref (9), .int (nI (q)), .int (nI (e)), .ref (9004), .int (nI (1) + nI (1))]) (st' := []) (M' := (I, J, Rx R, N, G)) rfl ?_
    rw [show nI (1) + nI (1) = nI (2) from nI_addE (rfl) rfl]
    refine XP_n 3 (pc' := 12) (ls' := [.ref (9), .int (nI (q)), .int (nI (e)), .ref (9004), .int (nI (2))]) (st' := [.ref (9004), .int (nI (2))]) (M' := (I, J, Rx R, N, G)) rfl ?_
    refine XP_pure rfl rfl tl_2 ?_
    refine XP_icN (x := 2) (y := 6) rfl (by omega) (by omega) (fun (b13 : 6 ≤ 2) => absurd b13 (by omega)) (fun (b13 : 2 < 6) => ?_)
    refine XP_n 4 (pc' := 18) (ls' := [.ref (9), .int (nI (q)), .int (nI (e)), .ref (9004), .int (nI (2))]) (st' := [.int ((nI (q)) + (nI (2))), .ref (9)]) (M' := (I, J, Rx R, N, G)) rfl ?_
    rw [show (nI (q)) + (nI (2)) = nI (q + 2) from nI_addE (rfl) (rfl)]
    refine XP_pure rfl rfl (c_byteAt hT hL (show q + 2 < L by omega)) ?_
    refine XP_n 2 (pc' := 21) (ls' := [.ref (9), .int (nI (q)), .int (nI (e)), .ref (9004), .int (nI (2))]) (st' := [.int (nI (2)), .ref (9004), .int (nI (b (q + 2)))]) (M' := (I, J, Rx R, N, G)) rfl ?_
    refine XP_pure rfl rfl tc_2_2 ?_
    refine XP_icN (x := b (q + 2)) (y := 104) rfl (by omega) (by omega) (fun (b22 : b (q + 2) = 104) => ?_) (fun (b22 : ¬ b (q + 2) = 104) => absurd b22 (by omega))
    refine XP_n 1 (pc' := 26) (ls' := [.ref (9), .int (nI (q)), .int (nI (e)), .ref (9004), .int (nI (2) + nI (1))]) (st' := []) (M' := (I, J, Rx R, N, G)) rfl ?_
    rw [show nI (2) + nI (1) = nI (3) from nI_addE (rfl) rfl]
    refine XP_n 3 (pc' := 12) (ls' := [.ref (9), .int (nI (q)), .int (nI (e)), .ref (9004), .int (nI (3))]) (st' := [.ref (9004), .int (nI (3))]) (M' := (I, J, Rx R, N, G)) rfl ?_
    refine XP_pure rfl rfl tl_2 ?_
    refine XP_icN (x := 3) (y := 6) rfl (by omega) (by omega) (fun (b13 : 6 ≤ 3) => absurd b13 (by omega)) (fun (b13 : 3 < 6) => ?_)
    refine XP_n 4 (pc' := 18) (ls' := [.ref (9), .int (nI (q)), .int (nI (e)), .ref (9004), .int (nI (3))]) (st' := [.int ((nI (q)) + (nI (3))), .ref (9)]) (M' := (I, J, Rx R, N, G)) rfl ?_
    rw [show (nI (q)) + (nI (3)) = nI (q + 3) from nI_addE (rfl) (rfl)]
    refine XP_pure rfl rfl (c_byteAt hT hL (show q + 3 < L by omega)) ?_
    refine XP_n 2 (pc' := 21) (ls' := [.ref (9), .int (nI (q)), .int (nI (e)), .ref (9004), .int (nI (3))]) (st' := [.int (nI (3)), .ref (9004), .int (nI (b (q + 3)))]) (M' := (I, J, Rx R, N, G)) rfl ?_
    refine XP_pure rfl rfl tc_2_3 ?_
    refine XP_icN (x := b (q + 3)) (y := 105) rfl (by omega) (by omega) (fun (b22 : b (q + 3) = 105) => absurd b22 (by omega)) (fun (b22 : ¬ b (q + 3) = 105) => ?_)
    refine XP_n 1 (pc' := 24) (ls' := [.ref (9), .int (nI (q)), .int (nI (e)), .ref (9004), .int (nI (3))]) (st' := [.int (nI (0))]) (M' := (I, J, Rx R, N, G)) rfl ?_
    exact XP_ret rfl ⟨rfl, rfl⟩
  by_cases h4 : b (q + 4) = 110
  rotate_left
  · skip
    unfold TP
    show XP X _ k_Reader_spells 0 [.ref (9), .int (nI (q)), .int (nI (e)), .ref (9004), xj] [] _ _
    refine XP_n 4 (pc' := 4) (ls' := [.ref (9), .int (nI (q)), .int (nI (e)), .ref (9004), xj]) (st' := [.ref (9004), .int ((nI (e)) - (nI (q)))]) (M' := (I, J, Rx R, N, G)) rfl ?_
    rw [show (nI (e)) - (nI (q)) = nI (e - q) from nI_subE (rfl) (rfl) (by omega)]
    refine XP_pure rfl rfl tl_2 ?_
    refine XP_icN (x := e - q) (y := 6) rfl (by omega) (by omega) (fun (b5 : e - q = 6) => ?_) (fun (b5 : ¬ e - q = 6) => absurd b5 (by omega))
    refine XP_n 4 (pc' := 12) (ls' := [.ref (9), .int (nI (q)), .int (nI (e)), .ref (9004), .int (nI (0))]) (st' := [.ref (9004), .int (nI (0))]) (M' := (I, J, Rx R, N, G)) rfl ?_
    refine XP_pure rfl rfl tl_2 ?_
    refine XP_icN (x := 0) (y := 6) rfl (by omega) (by omega) (fun (b13 : 6 ≤ 0) => absurd b13 (by omega)) (fun (b13 : 0 < 6) => ?_)
    refine XP_n 4 (pc' := 18) (ls' := [.ref (9), .int (nI (q)), .int (nI (e)), .ref (9004), .int (nI (0))]) (st' := [.int ((nI (q)) + (nI (0))), .ref (9)]) (M' := (I, J, Rx R, N, G)) rfl ?_
    rw [show (nI (q)) + (nI (0)) = nI (q + 0) from nI_addE (rfl) (rfl)]
    refine XP_pure rfl rfl (c_byteAt hT hL (show q + 0 < L by omega)) ?_
    refine XP_n 2 (pc' := 21) (ls' := [.ref (9), .int (nI (q)), .int (nI (e)), .ref (9004), .int (nI (0))]) (st' := [.int (nI (0)), .ref (9004), .int (nI (b (q + 0)))]) (M' := (I, J, Rx R, N, G)) rfl ?_
    refine XP_pure rfl rfl tc_2_0 ?_
    refine XP_icN (x := b (q + 0)) (y := 98) rfl (by omega) (by omega) (fun (b22 : b (q + 0) = 98) => ?_) (fun (b22 : ¬ b (q + 0) = 98) => absurd b22 (by omega))
    refine XP_n 1 (pc' := 26) (ls' := [.ref (9), .int (nI (q)), .int (nI (e)), .ref (9004), .int (nI (0) + nI (1))]) (st' := []) (M' := (I, J, Rx R, N, G)) rfl ?_
    rw [show nI (0) + nI (1) = nI (1) from nI_addE (rfl) rfl]
    refine XP_n 3 (pc' := 12) (ls' := [.ref (9), .int (nI (q)), .int (nI (e)), .ref (9004), .int (nI (1))]) (st' := [.ref (9004), .int (nI (1))]) (M' := (I, J, Rx R, N, G)) rfl ?_
    refine XP_pure rfl rfl tl_2 ?_
    refine XP_icN (x := 1) (y := 6) rfl (by omega) (by omega) (fun (b13 : 6 ≤ 1) => absurd b13 (by omega)) (fun (b13 : 1 < 6) => ?_)
    refine XP_n 4 (pc' := 18) (ls' := [.ref (9), .int (nI (q)), .int (nI (e)), .ref (9004), .int (nI (1))]) (st' := [.int ((nI (q)) + (nI (1))), .ref (9)]) (M' := (I, J, Rx R, N, G)) rfl ?_
    rw [show (nI (q)) + (nI (1)) = nI (q + 1) from nI_addE (rfl) (rfl)]
    refine XP_pure rfl rfl (c_byteAt hT hL (show q + 1 < L by omega)) ?_
    refine XP_n 2 (pc' := 21) (ls' := [.ref (9), .int (nI (q)), .int (nI (e)), .ref (9004), .int (nI (1))]) (st' := [.int (nI (1)), .ref (9004), .int (nI (b (q + 1)))]) (M' := (I, J, Rx R, N, G)) rfl ?_
    refine XP_pure rfl rfl tc_2_1 ?_
    refine XP_icN (x := b (q + 1)) (y := 101) rfl (by omega) (by omega) (fun (b22 : b (q + 1) = 101) => ?_) (fun (b22 : ¬ b (q + 1) = 101) => absurd b22 (by omega))
    refine XP_n 1 (pc' := 26) (ls' := [.ref (9), .int (nI (q)), .int (nI (e)), .ref (9004), .int (nI (1) + nI (1))]) (st' := []) (M' := (I, J, Rx R, N, G)) rfl ?_
    rw [show nI (1) + nI (1) = nI (2) from nI_addE (rfl) rfl]
    refine XP_n 3 (pc' := 12) (ls' := [.ref (9), .int (nI (q)), .int (nI (e)), .ref (9004), .int (nI (2))]) (st' := [.ref (9004), .int (nI (2))]) (M' := (I, J, Rx R, N, G)) rfl ?_
    refine XP_pure rfl rfl tl_2 ?_
    refine XP_icN (x := 2) (y := 6) rfl (by omega) (by omega) (fun (b13 : 6 ≤ 2) => absurd b13 (by omega)) (fun (b13 : 2 < 6) => ?_)
    refine XP_n 4 (pc' := 18) (ls' := [.ref (9), .int (nI (q)), .int (nI (e)), .ref (9004), .int (nI (2))]) (st' := [.int ((nI (q)) + (nI (2))), .ref (9)]) (M' := (I, J, Rx R, N, G)) rfl ?_
    rw [show (nI (q)) + (nI (2)) = nI (q + 2) from nI_addE (rfl) (rfl)]
    refine XP_pure rfl rfl (c_byteAt hT hL (show q + 2 < L by omega)) ?_
    refine XP_n 2 (pc' := 21) (ls' := [.ref (9), .int (nI (q)), .int (nI (e)), .ref (9004), .int (nI (2))]) (st' := [.int (nI (2)), .ref (9004), .int (nI (b (q + 2)))]) (M' := (I, J, Rx R, N, G)) rfl ?_
    refine XP_pure rfl rfl tc_2_2 ?_
    refine XP_icN (x := b (q + 2)) (y := 104) rfl (by omega) (by omega) (fun (b22 : b (q + 2) = 104) => ?_) (fun (b22 : ¬ b (q + 2) = 104) => absurd b22 (by omega))
    refine XP_n 1 (pc' := 26) (ls' := [.ref (9), .int (nI (q)), .int (nI (e)), .ref (9004), .int (nI (2) + nI (1))]) (st' := []) (M' := (I, J, Rx R, N, G)) rfl ?_
    rw [show nI (2) + nI (1) = nI (3) from nI_addE (rfl) rfl]
    refine XP_n 3 (pc' := 12) (ls' := [.ref (9), .int (nI (q)), .int (nI (e)), .ref (9004), .int (nI (3))]) (st' := [.ref (9004), .int (nI (3))]) (M' := (I, J, Rx R, N, G)) rfl ?_
    refine XP_pure rfl rfl tl_2 ?_
    refine XP_icN (x := 3) (y := 6) rfl (by omega) (by omega) (fun (b13 : 6 ≤ 3) => absurd b13 (by omega)) (fun (b13 : 3 < 6) => ?_)
    refine XP_n 4 (pc' := 18) (ls' := [.ref (9), .int (nI (q)), .int (nI (e)), .ref (9004), .int (nI (3))]) (st' := [.int ((nI (q)) + (nI (3))), .ref (9)]) (M' := (I, J, Rx R, N, G)) rfl ?_
    rw [show (nI (q)) + (nI (3)) = nI (q + 3) from nI_addE (rfl) (rfl)]
    refine XP_pure rfl rfl (c_byteAt hT hL (show q + 3 < L by omega)) ?_
    refine XP_n 2 (pc' := 21) (ls' := [.ref (9), .int (nI (q)), .int (nI (e)), .ref (9004), .int (nI (3))]) (st' := [.int (nI (3)), .ref (9004), .int (nI (b (q + 3)))]) (M' := (I, J, Rx R, N, G)) rfl ?_
    refine XP_pure rfl rfl tc_2_3 ?_
    refine XP_icN (x := b (q + 3)) (y := 105) rfl (by omega) (by omega) (fun (b22 : b (q + 3) = 105) => ?_) (fun (b22 : ¬ b (q + 3) = 105) => absurd b22 (by omega))
    refine XP_n 1 (pc' := 26) (ls' := [.ref (9), .int (nI (q)), .int (nI (e)), .ref (9004), .int (nI (3) + nI (1))]) (st' := []) (M' := (I, J, Rx R, N, G)) rfl ?_
    rw [show nI (3) + nI (1) = nI (4) from nI_addE (rfl) rfl]
    refine XP_n 3 (pc' := 12) (ls' := [.ref (9), .int (nI (q)), .int (nI (e)), .ref (9004), .int (nI (4))]) (st' := [.ref (9004), .int (nI (4))]) (M' := (I, J, Rx R, N, G)) rfl ?_
    refine XP_pure rfl rfl tl_2 ?_
    refine XP_icN (x := 4) (y := 6) rfl (by omega) (by omega) (fun (b13 : 6 ≤ 4) => absurd b13 (by omega)) (fun (b13 : 4 < 6) => ?_)
    refine XP_n 4 (pc' := 18) (ls' := [.ref (9), .int (nI (q)), .int (nI (e)), .ref (9004), .int (nI (4))]) (st' := [.int ((nI (q)) + (nI (4))), .ref (9)]) (M' := (I, J, Rx R, N, G)) rfl ?_
    rw [show (nI (q)) + (nI (4)) = nI (q + 4) from nI_addE (rfl) (rfl)]
    refine XP_pure rfl rfl (c_byteAt hT hL (show q + 4 < L by omega)) ?_
    refine XP_n 2 (pc' := 21) (ls' := [.ref (9), .int (nI (q)), .int (nI (e)), .ref (9004), .int (nI (4))]) (st' := [.int (nI (4)), .ref (9004), .int (nI (b (q + 4)))]) (M' := (I, J, Rx R, N, G)) rfl ?_
    refine XP_pure rfl rfl tc_2_4 ?_
    refine XP_icN (x := b (q + 4)) (y := 110) rfl (by omega) (by omega) (fun (b22 : b (q + 4) = 110) => absurd b22 (by omega)) (fun (b22 : ¬ b (q + 4) = 110) => ?_)
    refine XP_n 1 (pc' := 24) (ls' := [.ref (9), .int (nI (q)), .int (nI (e)), .ref (9004), .int (nI (4))]) (st' := [.int (nI (0))]) (M' := (I, J, Rx R, N, G)) rfl ?_
    exact XP_ret rfl ⟨rfl, rfl⟩
  by_cases h5 : b (q + 5) = 100
  rotate_left
  · skip
    unfold TP
    show XP X _ k_Reader_spells 0 [.ref (9), .int (nI (q)), .int (nI (e)), .ref (9004), xj] [] _ _
    refine XP_n 4 (pc' := 4) (ls' := [.ref (9), .int (nI (q)), .int (nI (e)), .ref (9004), xj]) (st' := [.ref (9004), .int ((nI (e)) - (nI (q)))]) (M' := (I, J, Rx R, N, G)) rfl ?_
    rw [show (nI (e)) - (nI (q)) = nI (e - q) from nI_subE (rfl) (rfl) (by omega)]
    refine XP_pure rfl rfl tl_2 ?_
    refine XP_icN (x := e - q) (y := 6) rfl (by omega) (by omega) (fun (b5 : e - q = 6) => ?_) (fun (b5 : ¬ e - q = 6) => absurd b5 (by omega))
    refine XP_n 4 (pc' := 12) (ls' := [.ref (9), .int (nI (q)), .int (nI (e)), .ref (9004), .int (nI (0))]) (st' := [.ref (9004), .int (nI (0))]) (M' := (I, J, Rx R, N, G)) rfl ?_
    refine XP_pure rfl rfl tl_2 ?_
    refine XP_icN (x := 0) (y := 6) rfl (by omega) (by omega) (fun (b13 : 6 ≤ 0) => absurd b13 (by omega)) (fun (b13 : 0 < 6) => ?_)
    refine XP_n 4 (pc' := 18) (ls' := [.ref (9), .int (nI (q)), .int (nI (e)), .ref (9004), .int (nI (0))]) (st' := [.int ((nI (q)) + (nI (0))), .ref (9)]) (M' := (I, J, Rx R, N, G)) rfl ?_
    rw [show (nI (q)) + (nI (0)) = nI (q + 0) from nI_addE (rfl) (rfl)]
    refine XP_pure rfl rfl (c_byteAt hT hL (show q + 0 < L by omega)) ?_
    refine XP_n 2 (pc' := 21) (ls' := [.ref (9), .int (nI (q)), .int (nI (e)), .ref (9004), .int (nI (0))]) (st' := [.int (nI (0)), .ref (9004), .int (nI (b (q + 0)))]) (M' := (I, J, Rx R, N, G)) rfl ?_
    refine XP_pure rfl rfl tc_2_0 ?_
    refine XP_icN (x := b (q + 0)) (y := 98) rfl (by omega) (by omega) (fun (b22 : b (q + 0) = 98) => ?_) (fun (b22 : ¬ b (q + 0) = 98) => absurd b22 (by omega))
    refine XP_n 1 (pc' := 26) (ls' := [.ref (9), .int (nI (q)), .int (nI (e)), .ref (9004), .int (nI (0) + nI (1))]) (st' := []) (M' := (I, J, Rx R, N, G)) rfl ?_
    rw [show nI (0) + nI (1) = nI (1) from nI_addE (rfl) rfl]
    refine XP_n 3 (pc' := 12) (ls' := [.ref (9), .int (nI (q)), .int (nI (e)), .ref (9004), .int (nI (1))]) (st' := [.ref (9004), .int (nI (1))]) (M' := (I, J, Rx R, N, G)) rfl ?_
    refine XP_pure rfl rfl tl_2 ?_
    refine XP_icN (x := 1) (y := 6) rfl (by omega) (by omega) (fun (b13 : 6 ≤ 1) => absurd b13 (by omega)) (fun (b13 : 1 < 6) => ?_)
    refine XP_n 4 (pc' := 18) (ls' := [.ref (9), .int (nI (q)), .int (nI (e)), .ref (9004), .int (nI (1))]) (st' := [.int ((nI (q)) + (nI (1))), .ref (9)]) (M' := (I, J, Rx R, N, G)) rfl ?_
    rw [show (nI (q)) + (nI (1)) = nI (q + 1) from nI_addE (rfl) (rfl)]
    refine XP_pure rfl rfl (c_byteAt hT hL (show q + 1 < L by omega)) ?_
    refine XP_n 2 (pc' := 21) (ls' := [.ref (9), .int (nI (q)), .int (nI (e)), .ref (9004), .int (nI (1))]) (st' := [.int (nI (1)), .ref (9004), .int (nI (b (q + 1)))]) (M' := (I, J, Rx R, N, G)) rfl ?_
    refine XP_pure rfl rfl tc_2_1 ?_
    refine XP_icN (x := b (q + 1)) (y := 101) rfl (by omega) (by omega) (fun (b22 : b (q + 1) = 101) => ?_) (fun (b22 : ¬ b (q + 1) = 101) => absurd b22 (by omega))
    refine XP_n 1 (pc' := 26) (ls' := [.ref (9), .int (nI (q)), .int (nI (e)), .ref (9004), .int (nI (1) + nI (1))]) (st' := []) (M' := (I, J, Rx R, N, G)) rfl ?_
    rw [show nI (1) + nI (1) = nI (2) from nI_addE (rfl) rfl]
    refine XP_n 3 (pc' := 12) (ls' := [.ref (9), .int (nI (q)), .int (nI (e)), .ref (9004), .int (nI (2))]) (st' := [.ref (9004), .int (nI (2))]) (M' := (I, J, Rx R, N, G)) rfl ?_
    refine XP_pure rfl rfl tl_2 ?_
    refine XP_icN (x := 2) (y := 6) rfl (by omega) (by omega) (fun (b13 : 6 ≤ 2) => absurd b13 (by omega)) (fun (b13 : 2 < 6) => ?_)
    refine XP_n 4 (pc' := 18) (ls' := [.ref (9), .int (nI (q)), .int (nI (e)), .ref (9004), .int (nI (2))]) (st' := [.int ((nI (q)) + (nI (2))), .ref (9)]) (M' := (I, J, Rx R, N, G)) rfl ?_
    rw [show (nI (q)) + (nI (2)) = nI (q + 2) from nI_addE (rfl) (rfl)]
    refine XP_pure rfl rfl (c_byteAt hT hL (show q + 2 < L by omega)) ?_
    refine XP_n 2 (pc' := 21) (ls' := [.ref (9), .int (nI (q)), .int (nI (e)), .ref (9004), .int (nI (2))]) (st' := [.int (nI (2)), .ref (9004), .int (nI (b (q + 2)))]) (M' := (I, J, Rx R, N, G)) rfl ?_
    refine XP_pure rfl rfl tc_2_2 ?_
    refine XP_icN (x := b (q + 2)) (y := 104) rfl (by omega) (by omega) (fun (b22 : b (q + 2) = 104) => ?_) (fun (b22 : ¬ b (q + 2) = 104) => absurd b22 (by omega))
    refine XP_n 1 (pc' := 26) (ls' := [.ref (9), .int (nI (q)), .int (nI (e)), .ref (9004), .int (nI (2) + nI (1))]) (st' := []) (M' := (I, J, Rx R, N, G)) rfl ?_
    rw [show nI (2) + nI (1) = nI (3) from nI_addE (rfl) rfl]
    refine XP_n 3 (pc' := 12) (ls' := [.ref (9), .int (nI (q)), .int (nI (e)), .ref (9004), .int (nI (3))]) (st' := [.ref (9004), .int (nI (3))]) (M' := (I, J, Rx R, N, G)) rfl ?_
    refine XP_pure rfl rfl tl_2 ?_
    refine XP_icN (x := 3) (y := 6) rfl (by omega) (by omega) (fun (b13 : 6 ≤ 3) => absurd b13 (by omega)) (fun (b13 : 3 < 6) => ?_)
    refine XP_n 4 (pc' := 18) (ls' := [.ref (9), .int (nI (q)), .int (nI (e)), .ref (9004), .int (nI (3))]) (st' := [.int ((nI (q)) + (nI (3))), .ref (9)]) (M' := (I, J, Rx R, N, G)) rfl ?_
    rw [show (nI (q)) + (nI (3)) = nI (q + 3) from nI_addE (rfl) (rfl)]
    refine XP_pure rfl rfl (c_byteAt hT hL (show q + 3 < L by omega)) ?_
    refine XP_n 2 (pc' := 21) (ls' := [.ref (9), .int (nI (q)), .int (nI (e)), .ref (9004), .int (nI (3))]) (st' := [.int (nI (3)), .ref (9004), .int (nI (b (q + 3)))]) (M' := (I, J, Rx R, N, G)) rfl ?_
    refine XP_pure rfl rfl tc_2_3 ?_
    refine XP_icN (x := b (q + 3)) (y := 105) rfl (by omega) (by omega) (fun (b22 : b (q + 3) = 105) => ?_) (fun (b22 : ¬ b (q + 3) = 105) => absurd b22 (by omega))
    refine XP_n 1 (pc' := 26) (ls' := [.ref (9), .int (nI (q)), .int (nI (e)), .ref (9004), .int (nI (3) + nI (1))]) (st' := []) (M' := (I, J, Rx R, N, G)) rfl ?_
    rw [show nI (3) + nI (1) = nI (4) from nI_addE (rfl) rfl]
    refine XP_n 3 (pc' := 12) (ls' := [.ref (9), .int (nI (q)), .int (nI (e)), .ref (9004), .int (nI (4))]) (st' := [.ref (9004), .int (nI (4))]) (M' := (I, J, Rx R, N, G)) rfl ?_
    refine XP_pure rfl rfl tl_2 ?_
    refine XP_icN (x := 4) (y := 6) rfl (by omega) (by omega) (fun (b13 : 6 ≤ 4) => absurd b13 (by omega)) (fun (b13 : 4 < 6) => ?_)
    refine XP_n 4 (pc' := 18) (ls' := [.ref (9), .int (nI (q)), .int (nI (e)), .ref (9004), .int (nI (4))]) (st' := [.int ((nI (q)) + (nI (4))), .ref (9)]) (M' := (I, J, Rx R, N, G)) rfl ?_
    rw [show (nI (q)) + (nI (4)) = nI (q + 4) from nI_addE (rfl) (rfl)]
    refine XP_pure rfl rfl (c_byteAt hT hL (show q + 4 < L by omega)) ?_
    refine XP_n 2 (pc' := 21) (ls' := [.ref (9), .int (nI (q)), .int (nI (e)), .ref (9004), .int (nI (4))]) (st' := [.int (nI (4)), .ref (9004), .int (nI (b (q + 4)))]) (M' := (I, J, Rx R, N, G)) rfl ?_
    refine XP_pure rfl rfl tc_2_4 ?_
    refine XP_icN (x := b (q + 4)) (y := 110) rfl (by omega) (by omega) (fun (b22 : b (q + 4) = 110) => ?_) (fun (b22 : ¬ b (q + 4) = 110) => absurd b22 (by omega))
    refine XP_n 1 (pc' := 26) (ls' := [.ref (9), .int (nI (q)), .int (nI (e)), .ref (9004), .int (nI (4) + nI (1))]) (st' := []) (M' := (I, J, Rx R, N, G)) rfl ?_
    rw [show nI (4) + nI (1) = nI (5) from nI_addE (rfl) rfl]
    refine XP_n 3 (pc' := 12) (ls' := [.ref (9), .int (nI (q)), .int (nI (e)), .ref (9004), .int (nI (5))]) (st' := [.ref (9004), .int (nI (5))]) (M' := (I, J, Rx R, N, G)) rfl ?_
    refine XP_pure rfl rfl tl_2 ?_
    refine XP_icN (x := 5) (y := 6) rfl (by omega) (by omega) (fun (b13 : 6 ≤ 5) => absurd b13 (by omega)) (fun (b13 : 5 < 6) => ?_)
    refine XP_n 4 (pc' := 18) (ls' := [.ref (9), .int (nI (q)), .int (nI (e)), .ref (9004), .int (nI (5))]) (st' := [.int ((nI (q)) + (nI (5))), .ref (9)]) (M' := (I, J, Rx R, N, G)) rfl ?_
    rw [show (nI (q)) + (nI (5)) = nI (q + 5) from nI_addE (rfl) (rfl)]
    refine XP_pure rfl rfl (c_byteAt hT hL (show q + 5 < L by omega)) ?_
    refine XP_n 2 (pc' := 21) (ls' := [.ref (9), .int (nI (q)), .int (nI (e)), .ref (9004), .int (nI (5))]) (st' := [.int (nI (5)), .ref (9004), .int (nI (b (q + 5)))]) (M' := (I, J, Rx R, N, G)) rfl ?_
    refine XP_pure rfl rfl tc_2_5 ?_
    refine XP_icN (x := b (q + 5)) (y := 100) rfl (by omega) (by omega) (fun (b22 : b (q + 5) = 100) => absurd b22 (by omega)) (fun (b22 : ¬ b (q + 5) = 100) => ?_)
    refine XP_n 1 (pc' := 24) (ls' := [.ref (9), .int (nI (q)), .int (nI (e)), .ref (9004), .int (nI (5))]) (st' := [.int (nI (0))]) (M' := (I, J, Rx R, N, G)) rfl ?_
    exact XP_ret rfl ⟨rfl, rfl⟩
  refine absurd ⟨hl, fun j hj => ?_⟩ h
  have hj : j < 6 := hj
  have hc : j = 0 ∨ j = 1 ∨ j = 2 ∨ j = 3 ∨ j = 4 ∨ j = 5 := by omega
  rcases hc with rfl | rfl | rfl | rfl | rfl | rfl
  · exact h0
  · exact h1
  · exact h2
  · exact h3
  · exact h4
  · exact h5
theorem c_spT3 (hT : Tp I b L) (hL : L ≤ 160) {q e : Nat} (hqe : q ≤ e) (he : e ≤ L) (h : mW b q e 5) : TP X (d + 8) n_Reader_spells [.ref 9, .int (nI q), .int (nI e), .ref 9006] (I, J, Rx R, N, G) (Ret (.int (nI 1)) (I, J, Rx R, N, G)) := by
  have hl : e - q = 4 := h.1
  have h0 : b (q + 0) = 119 := h.2 0 (by decide)
  have h1 : b (q + 1) = 97 := h.2 1 (by decide)
  have h2 : b (q + 2) = 108 := h.2 2 (by decide)
  have h3 : b (q + 3) = 108 := h.2 3 (by decide)
  unfold TP
  show XP X _ k_Reader_spells 0 [.ref (9), .int (nI (q)), .int (nI (e)), .ref (9006), xj] [] _ _
  refine XP_n 4 (pc' := 4) (ls' := [.ref (9), .int (nI (q)), .int (nI (e)), .ref (9006), xj]) (st' := [.ref (9006), .int ((nI (e)) - (nI (q)))]) (M' := (I, J, Rx R, N, G)) rfl ?_
  rw [show (nI (e)) - (nI (q)) = nI (e - q) from nI_subE (rfl) (rfl) (by omega)]
  refine XP_pure rfl rfl tl_3 ?_
  refine XP_icN (x := e - q) (y := 4) rfl (by omega) (by omega) (fun (b5 : e - q = 4) => ?_) (fun (b5 : ¬ e - q = 4) => absurd b5 (by omega))
  refine XP_n 4 (pc' := 12) (ls' := [.ref (9), .int (nI (q)), .int (nI (e)), .ref (9006), .int (nI (0))]) (st' := [.ref (9006), .int (nI (0))]) (M' := (I, J, Rx R, N, G)) rfl ?_
  refine XP_pure rfl rfl tl_3 ?_
  refine XP_icN (x := 0) (y := 4) rfl (by omega) (by omega) (fun (b13 : 4 ≤ 0) => absurd b13 (by omega)) (fun (b13 : 0 < 4) => ?_)
  refine XP_n 4 (pc' := 18) (ls' := [.ref (9), .int (nI (q)), .int (nI (e)), .ref (9006), .int (nI (0))]) (st' := [.int ((nI (q)) + (nI (0))), .ref (9)]) (M' := (I, J, Rx R, N, G)) rfl ?_
  rw [show (nI (q)) + (nI (0)) = nI (q + 0) from nI_addE (rfl) (rfl)]
  refine XP_pure rfl rfl (c_byteAt hT hL (show q + 0 < L by omega)) ?_
  refine XP_n 2 (pc' := 21) (ls' := [.ref (9), .int (nI (q)), .int (nI (e)), .ref (9006), .int (nI (0))]) (st' := [.int (nI (0)), .ref (9006), .int (nI (b (q + 0)))]) (M' := (I, J, Rx R, N, G)) rfl ?_
  refine XP_pure rfl rfl tc_3_0 ?_
  refine XP_icN (x := b (q + 0)) (y := 119) rfl (by omega) (by omega) (fun (b22 : b (q + 0) = 119) => ?_) (fun (b22 : ¬ b (q + 0) = 119) => absurd b22 (by omega))
  refine XP_n 1 (pc' := 26) (ls' := [.ref (9), .int (nI (q)), .int (nI (e)), .ref (9006), .int (nI (0) + nI (1))]) (st' := []) (M' := (I, J, Rx R, N, G)) rfl ?_
  rw [show nI (0) + nI (1) = nI (1) from nI_addE (rfl) rfl]
  refine XP_n 3 (pc' := 12) (ls' := [.ref (9), .int (nI (q)), .int (nI (e)), .ref (9006), .int (nI (1))]) (st' := [.ref (9006), .int (nI (1))]) (M' := (I, J, Rx R, N, G)) rfl ?_
  refine XP_pure rfl rfl tl_3 ?_
  refine XP_icN (x := 1) (y := 4) rfl (by omega) (by omega) (fun (b13 : 4 ≤ 1) => absurd b13 (by omega)) (fun (b13 : 1 < 4) => ?_)
  refine XP_n 4 (pc' := 18) (ls' := [.ref (9), .int (nI (q)), .int (nI (e)), .ref (9006), .int (nI (1))]) (st' := [.int ((nI (q)) + (nI (1))), .ref (9)]) (M' := (I, J, Rx R, N, G)) rfl ?_
  rw [show (nI (q)) + (nI (1)) = nI (q + 1) from nI_addE (rfl) (rfl)]
  refine XP_pure rfl rfl (c_byteAt hT hL (show q + 1 < L by omega)) ?_
  refine XP_n 2 (pc' := 21) (ls' := [.ref (9), .int (nI (q)), .int (nI (e)), .ref (9006), .int (nI (1))]) (st' := [.int (nI (1)), .ref (9006), .int (nI (b (q + 1)))]) (M' := (I, J, Rx R, N, G)) rfl ?_
  refine XP_pure rfl rfl tc_3_1 ?_
  refine XP_icN (x := b (q + 1)) (y := 97) rfl (by omega) (by omega) (fun (b22 : b (q + 1) = 97) => ?_) (fun (b22 : ¬ b (q + 1) = 97) => absurd b22 (by omega))
  refine XP_n 1 (pc' := 26) (ls' := [.ref (9), .int (nI (q)), .int (nI (e)), .ref (9006), .int (nI (1) + nI (1))]) (st' := []) (M' := (I, J, Rx R, N, G)) rfl ?_
  rw [show nI (1) + nI (1) = nI (2) from nI_addE (rfl) rfl]
  refine XP_n 3 (pc' := 12) (ls' := [.ref (9), .int (nI (q)), .int (nI (e)), .ref (9006), .int (nI (2))]) (st' := [.ref (9006), .int (nI (2))]) (M' := (I, J, Rx R, N, G)) rfl ?_
  refine XP_pure rfl rfl tl_3 ?_
  refine XP_icN (x := 2) (y := 4) rfl (by omega) (by omega) (fun (b13 : 4 ≤ 2) => absurd b13 (by omega)) (fun (b13 : 2 < 4) => ?_)
  refine XP_n 4 (pc' := 18) (ls' := [.ref (9), .int (nI (q)), .int (nI (e)), .ref (9006), .int (nI (2))]) (st' := [.int ((nI (q)) + (nI (2))), .ref (9)]) (M' := (I, J, Rx R, N, G)) rfl ?_
  rw [show (nI (q)) + (nI (2)) = nI (q + 2) from nI_addE (rfl) (rfl)]
  refine XP_pure rfl rfl (c_byteAt hT hL (show q + 2 < L by omega)) ?_
  refine XP_n 2 (pc' := 21) (ls' := [.ref (9), .int (nI (q)), .int (nI (e)), .ref (9006), .int (nI (2))]) (st' := [.int (nI (2)), .ref (9006), .int (nI (b (q + 2)))]) (M' := (I, J, Rx R, N, G)) rfl ?_
  refine XP_pure rfl rfl tc_3_2 ?_
  refine XP_icN (x := b (q + 2)) (y := 108) rfl (by omega) (by omega) (fun (b22 : b (q + 2) = 108) => ?_) (fun (b22 : ¬ b (q + 2) = 108) => absurd b22 (by omega))
  refine XP_n 1 (pc' := 26) (ls' := [.ref (9), .int (nI (q)), .int (nI (e)), .ref (9006), .int (nI (2) + nI (1))]) (st' := []) (M' := (I, J, Rx R, N, G)) rfl ?_
  rw [show nI (2) + nI (1) = nI (3) from nI_addE (rfl) rfl]
  refine XP_n 3 (pc' := 12) (ls' := [.ref (9), .int (nI (q)), .int (nI (e)), .ref (9006), .int (nI (3))]) (st' := [.ref (9006), .int (nI (3))]) (M' := (I, J, Rx R, N, G)) rfl ?_
  refine XP_pure rfl rfl tl_3 ?_
  refine XP_icN (x := 3) (y := 4) rfl (by omega) (by omega) (fun (b13 : 4 ≤ 3) => absurd b13 (by omega)) (fun (b13 : 3 < 4) => ?_)
  refine XP_n 4 (pc' := 18) (ls' := [.ref (9), .int (nI (q)), .int (nI (e)), .ref (9006), .int (nI (3))]) (st' := [.int ((nI (q)) + (nI (3))), .ref (9)]) (M' := (I, J, Rx R, N, G)) rfl ?_
  rw [show (nI (q)) + (nI (3)) = nI (q + 3) from nI_addE (rfl) (rfl)]
  refine XP_pure rfl rfl (c_byteAt hT hL (show q + 3 < L by omega)) ?_
  refine XP_n 2 (pc' := 21) (ls' := [.ref (9), .int (nI (q)), .int (nI (e)), .ref (9006), .int (nI (3))]) (st' := [.int (nI (3)), .ref (9006), .int (nI (b (q + 3)))]) (M' := (I, J, Rx R, N, G)) rfl ?_
  refine XP_pure rfl rfl tc_3_3 ?_
  refine XP_icN (x := b (q + 3)) (y := 108) rfl (by omega) (by omega) (fun (b22 : b (q + 3) = 108) => ?_) (fun (b22 : ¬ b (q + 3) = 108) => absurd b22 (by omega))
  refine XP_n 1 (pc' := 26) (ls' := [.ref (9), .int (nI (q)), .int (nI (e)), .ref (9006), .int (nI (3) + nI (1))]) (st' := []) (M' := (I, J, Rx R, N, G)) rfl ?_
  rw [show nI (3) + nI (1) = nI (4) from nI_addE (rfl) rfl]
  refine XP_n 3 (pc' := 12) (ls' := [.ref (9), .int (nI (q)), .int (nI (e)), .ref (9006), .int (nI (4))]) (st' := [.ref (9006), .int (nI (4))]) (M' := (I, J, Rx R, N, G)) rfl ?_
  refine XP_pure rfl rfl tl_3 ?_
  refine XP_icN (x := 4) (y := 4) rfl (by omega) (by omega) (fun (b13 : 4 ≤ 4) => ?_) (fun (b13 : 4 < 4) => absurd b13 (by omega))
  refine XP_n 1 (pc' := 28) (ls' := [.ref (9), .int (nI (q)), .int (nI (e)), .ref (9006), .int (nI (4))]) (st' := [.int (nI (1))]) (M' := (I, J, Rx R, N, G)) rfl ?_
  exact XP_ret rfl ⟨rfl, rfl⟩
theorem c_spF3 (hT : Tp I b L) (hL : L ≤ 160) (hb : ∀ i, i < L → b i ≤ 255) {q e : Nat} (hqe : q ≤ e) (he : e ≤ L) (h : ¬ mW b q e 5) : TP X (d + 8) n_Reader_spells [.ref 9, .int (nI q), .int (nI e), .ref 9006] (I, J, Rx R, N, G) (Ret (.int (nI 0)) (I, J, Rx R, N, G)) := by
  by_cases hl : e - q = 4
  rotate_left
  · skip
    unfold TP
    show XP X _ k_Reader_spells 0 [.ref (9), .int (nI (q)), .int (nI (e)), .ref (9006), xj] [] _ _
    refine XP_n 4 (pc' := 4) (ls' := [.ref (9), .int (nI (q)), .int (nI (e)), .ref (9006), xj]) (st' := [.ref (9006), .int ((nI (e)) - (nI (q)))]) (M' := (I, J, Rx R, N, G)) rfl ?_
    rw [show (nI (e)) - (nI (q)) = nI (e - q) from nI_subE (rfl) (rfl) (by omega)]
    refine XP_pure rfl rfl tl_3 ?_
    refine XP_icN (x := e - q) (y := 4) rfl (by omega) (by omega) (fun (b5 : e - q = 4) => absurd b5 (by omega)) (fun (b5 : ¬ e - q = 4) => ?_)
    refine XP_n 1 (pc' := 7) (ls' := [.ref (9), .int (nI (q)), .int (nI (e)), .ref (9006), xj]) (st' := [.int (nI (0))]) (M' := (I, J, Rx R, N, G)) rfl ?_
    exact XP_ret rfl ⟨rfl, rfl⟩
  have q0 := hb (q + 0) (by omega)
  have q1 := hb (q + 1) (by omega)
  have q2 := hb (q + 2) (by omega)
  have q3 := hb (q + 3) (by omega)
  by_cases h0 : b (q + 0) = 119
  rotate_left
  · skip
    unfold TP
    show XP X _ k_Reader_spells 0 [.ref (9), .int (nI (q)), .int (nI (e)), .ref (9006), xj] [] _ _
    refine XP_n 4 (pc' := 4) (ls' := [.ref (9), .int (nI (q)), .int (nI (e)), .ref (9006), xj]) (st' := [.ref (9006), .int ((nI (e)) - (nI (q)))]) (M' := (I, J, Rx R, N, G)) rfl ?_
    rw [show (nI (e)) - (nI (q)) = nI (e - q) from nI_subE (rfl) (rfl) (by omega)]
    refine XP_pure rfl rfl tl_3 ?_
    refine XP_icN (x := e - q) (y := 4) rfl (by omega) (by omega) (fun (b5 : e - q = 4) => ?_) (fun (b5 : ¬ e - q = 4) => absurd b5 (by omega))
    refine XP_n 4 (pc' := 12) (ls' := [.ref (9), .int (nI (q)), .int (nI (e)), .ref (9006), .int (nI (0))]) (st' := [.ref (9006), .int (nI (0))]) (M' := (I, J, Rx R, N, G)) rfl ?_
    refine XP_pure rfl rfl tl_3 ?_
    refine XP_icN (x := 0) (y := 4) rfl (by omega) (by omega) (fun (b13 : 4 ≤ 0) => absurd b13 (by omega)) (fun (b13 : 0 < 4) => ?_)
    refine XP_n 4 (pc' := 18) (ls' := [.ref (9), .int (nI (q)), .int (nI (e)), .ref (9006), .int (nI (0))]) (st' := [.int ((nI (q)) + (nI (0))), .ref (9)]) (M' := (I, J, Rx R, N, G)) rfl ?_
    rw [show (nI (q)) + (nI (0)) = nI (q + 0) from nI_addE (rfl) (rfl)]
    refine XP_pure rfl rfl (c_byteAt hT hL (show q + 0 < L by omega)) ?_
    refine XP_n 2 (pc' := 21) (ls' := [.ref (9), .int (nI (q)), .int (nI (e)), .ref (9006), .int (nI (0))]) (st' := [.int (nI (0)), .ref (9006), .int (nI (b (q + 0)))]) (M' := (I, J, Rx R, N, G)) rfl ?_
    refine XP_pure rfl rfl tc_3_0 ?_
    refine XP_icN (x := b (q + 0)) (y := 119) rfl (by omega) (by omega) (fun (b22 : b (q + 0) = 119) => absurd b22 (by omega)) (fun (b22 : ¬ b (q + 0) = 119) => ?_)
    refine XP_n 1 (pc' := 24) (ls' := [.ref (9), .int (nI (q)), .int (nI (e)), .ref (9006), .int (nI (0))]) (st' := [.int (nI (0))]) (M' := (I, J, Rx R, N, G)) rfl ?_
    exact XP_ret rfl ⟨rfl, rfl⟩
  by_cases h1 : b (q + 1) = 97
  rotate_left
  · skip
    unfold TP
    show XP X _ k_Reader_spells 0 [.ref (9), .int (nI (q)), .int (nI (e)), .ref (9006), xj] [] _ _
    refine XP_n 4 (pc' := 4) (ls' := [.ref (9), .int (nI (q)), .int (nI (e)), .ref (9006), xj]) (st' := [.ref (9006), .int ((nI (e)) - (nI (q)))]) (M' := (I, J, Rx R, N, G)) rfl ?_
    rw [show (nI (e)) - (nI (q)) = nI (e - q) from nI_subE (rfl) (rfl) (by omega)]
    refine XP_pure rfl rfl tl_3 ?_
    refine XP_icN (x := e - q) (y := 4) rfl (by omega) (by omega) (fun (b5 : e - q = 4) => ?_) (fun (b5 : ¬ e - q = 4) => absurd b5 (by omega))
    refine XP_n 4 (pc' := 12) (ls' := [.ref (9), .int (nI (q)), .int (nI (e)), .ref (9006), .int (nI (0))]) (st' := [.ref (9006), .int (nI (0))]) (M' := (I, J, Rx R, N, G)) rfl ?_
    refine XP_pure rfl rfl tl_3 ?_
    refine XP_icN (x := 0) (y := 4) rfl (by omega) (by omega) (fun (b13 : 4 ≤ 0) => absurd b13 (by omega)) (fun (b13 : 0 < 4) => ?_)
    refine XP_n 4 (pc' := 18) (ls' := [.ref (9), .int (nI (q)), .int (nI (e)), .ref (9006), .int (nI (0))]) (st' := [.int ((nI (q)) + (nI (0))), .ref (9)]) (M' := (I, J, Rx R, N, G)) rfl ?_
    rw [show (nI (q)) + (nI (0)) = nI (q + 0) from nI_addE (rfl) (rfl)]
    refine XP_pure rfl rfl (c_byteAt hT hL (show q + 0 < L by omega)) ?_
    refine XP_n 2 (pc' := 21) (ls' := [.ref (9), .int (nI (q)), .int (nI (e)), .ref (9006), .int (nI (0))]) (st' := [.int (nI (0)), .ref (9006), .int (nI (b (q + 0)))]) (M' := (I, J, Rx R, N, G)) rfl ?_
    refine XP_pure rfl rfl tc_3_0 ?_
    refine XP_icN (x := b (q + 0)) (y := 119) rfl (by omega) (by omega) (fun (b22 : b (q + 0) = 119) => ?_) (fun (b22 : ¬ b (q + 0) = 119) => absurd b22 (by omega))
    refine XP_n 1 (pc' := 26) (ls' := [.ref (9), .int (nI (q)), .int (nI (e)), .ref (9006), .int (nI (0) + nI (1))]) (st' := []) (M' := (I, J, Rx R, N, G)) rfl ?_
    rw [show nI (0) + nI (1) = nI (1) from nI_addE (rfl) rfl]
    refine XP_n 3 (pc' := 12) (ls' := [.ref (9), .int (nI (q)), .int (nI (e)), .ref (9006), .int (nI (1))]) (st' := [.ref (9006), .int (nI (1))]) (M' := (I, J, Rx R, N, G)) rfl ?_
    refine XP_pure rfl rfl tl_3 ?_
    refine XP_icN (x := 1) (y := 4) rfl (by omega) (by omega) (fun (b13 : 4 ≤ 1) => absurd b13 (by omega)) (fun (b13 : 1 < 4) => ?_)
    refine XP_n 4 (pc' := 18) (ls' := [.ref (9), .int (nI (q)), .int (nI (e)), .ref (9006), .int (nI (1))]) (st' := [.int ((nI (q)) + (nI (1))), .ref (9)]) (M' := (I, J, Rx R, N, G)) rfl ?_
    rw [show (nI (q)) + (nI (1)) = nI (q + 1) from nI_addE (rfl) (rfl)]
    refine XP_pure rfl rfl (c_byteAt hT hL (show q + 1 < L by omega)) ?_
    refine XP_n 2 (pc' := 21) (ls' := [.ref (9), .int (nI (q)), .int (nI (e)), .ref (9006), .int (nI (1))]) (st' := [.int (nI (1)), .ref (9006), .int (nI (b (q + 1)))]) (M' := (I, J, Rx R, N, G)) rfl ?_
    refine XP_pure rfl rfl tc_3_1 ?_
    refine XP_icN (x := b (q + 1)) (y := 97) rfl (by omega) (by omega) (fun (b22 : b (q + 1) = 97) => absurd b22 (by omega)) (fun (b22 : ¬ b (q + 1) = 97) => ?_)
    refine XP_n 1 (pc' := 24) (ls' := [.ref (9), .int (nI (q)), .int (nI (e)), .ref (9006), .int (nI (1))]) (st' := [.int (nI (0))]) (M' := (I, J, Rx R, N, G)) rfl ?_
    exact XP_ret rfl ⟨rfl, rfl⟩
  by_cases h2 : b (q + 2) = 108
  rotate_left
  · skip
    unfold TP
    show XP X _ k_Reader_spells 0 [.ref (9), .int (nI (q)), .int (nI (e)), .ref (9006), xj] [] _ _
    refine XP_n 4 (pc' := 4) (ls' := [.ref (9), .int (nI (q)), .int (nI (e)), .ref (9006), xj]) (st' := [.ref (9006), .int ((nI (e)) - (nI (q)))]) (M' := (I, J, Rx R, N, G)) rfl ?_
    rw [show (nI (e)) - (nI (q)) = nI (e - q) from nI_subE (rfl) (rfl) (by omega)]
    refine XP_pure rfl rfl tl_3 ?_
    refine XP_icN (x := e - q) (y := 4) rfl (by omega) (by omega) (fun (b5 : e - q = 4) => ?_) (fun (b5 : ¬ e - q = 4) => absurd b5 (by omega))
    refine XP_n 4 (pc' := 12) (ls' := [.ref (9), .int (nI (q)), .int (nI (e)), .ref (9006), .int (nI (0))]) (st' := [.ref (9006), .int (nI (0))]) (M' := (I, J, Rx R, N, G)) rfl ?_
    refine XP_pure rfl rfl tl_3 ?_
    refine XP_icN (x := 0) (y := 4) rfl (by omega) (by omega) (fun (b13 : 4 ≤ 0) => absurd b13 (by omega)) (fun (b13 : 0 < 4) => ?_)
    refine XP_n 4 (pc' := 18) (ls' := [.ref (9), .int (nI (q)), .int (nI (e)), .ref (9006), .int (nI (0))]) (st' := [.int ((nI (q)) + (nI (0))), .ref (9)]) (M' := (I, J, Rx R, N, G)) rfl ?_
    rw [show (nI (q)) + (nI (0)) = nI (q + 0) from nI_addE (rfl) (rfl)]
    refine XP_pure rfl rfl (c_byteAt hT hL (show q + 0 < L by omega)) ?_
    refine XP_n 2 (pc' := 21) (ls' := [.ref (9), .int (nI (q)), .int (nI (e)), .ref (9006), .int (nI (0))]) (st' := [.int (nI (0)), .ref (9006), .int (nI (b (q + 0)))]) (M' := (I, J, Rx R, N, G)) rfl ?_
    refine XP_pure rfl rfl tc_3_0 ?_
    refine XP_icN (x := b (q + 0)) (y := 119) rfl (by omega) (by omega) (fun (b22 : b (q + 0) = 119) => ?_) (fun (b22 : ¬ b (q + 0) = 119) => absurd b22 (by omega))
    refine XP_n 1 (pc' := 26) (ls' := [.ref (9), .int (nI (q)), .int (nI (e)), .ref (9006), .int (nI (0) + nI (1))]) (st' := []) (M' := (I, J, Rx R, N, G)) rfl ?_
    rw [show nI (0) + nI (1) = nI (1) from nI_addE (rfl) rfl]
    refine XP_n 3 (pc' := 12) (ls' := [.ref (9), .int (nI (q)), .int (nI (e)), .ref (9006), .int (nI (1))]) (st' := [.ref (9006), .int (nI (1))]) (M' := (I, J, Rx R, N, G)) rfl ?_
    refine XP_pure rfl rfl tl_3 ?_
    refine XP_icN (x := 1) (y := 4) rfl (by omega) (by omega) (fun (b13 : 4 ≤ 1) => absurd b13 (by omega)) (fun (b13 : 1 < 4) => ?_)
    refine XP_n 4 (pc' := 18) (ls' := [.ref (9), .int (nI (q)), .int (nI (e)), .ref (9006), .int (nI (1))]) (st' := [.int ((nI (q)) + (nI (1))), .ref (9)]) (M' := (I, J, Rx R, N, G)) rfl ?_
    rw [show (nI (q)) + (nI (1)) = nI (q + 1) from nI_addE (rfl) (rfl)]
    refine XP_pure rfl rfl (c_byteAt hT hL (show q + 1 < L by omega)) ?_
    refine XP_n 2 (pc' := 21) (ls' := [.ref (9), .int (nI (q)), .int (nI (e)), .ref (9006), .int (nI (1))]) (st' := [.int (nI (1)), .ref (9006), .int (nI (b (q + 1)))]) (M' := (I, J, Rx R, N, G)) rfl ?_
    refine XP_pure rfl rfl tc_3_1 ?_
    refine XP_icN (x := b (q + 1)) (y := 97) rfl (by omega) (by omega) (fun (b22 : b (q + 1) = 97) => ?_) (fun (b22 : ¬ b (q + 1) = 97) => absurd b22 (by omega))
    refine XP_n 1 (pc' := 26) (ls' := [.ref (9), .int (nI (q)), .int (nI (e)), .ref (9006), .int (nI (1) + nI (1))]) (st' := []) (M' := (I, J, Rx R, N, G)) rfl ?_
    rw [show nI (1) + nI (1) = nI (2) from nI_addE (rfl) rfl]
    refine XP_n 3 (pc' := 12) (ls' := [.ref (9), .int (nI (q)), .int (nI (e)), .ref (9006), .int (nI (2))]) (st' := [.ref (9006), .int (nI (2))]) (M' := (I, J, Rx R, N, G)) rfl ?_
    refine XP_pure rfl rfl tl_3 ?_
    refine XP_icN (x := 2) (y := 4) rfl (by omega) (by omega) (fun (b13 : 4 ≤ 2) => absurd b13 (by omega)) (fun (b13 : 2 < 4) => ?_)
    refine XP_n 4 (pc' := 18) (ls' := [.ref (9), .int (nI (q)), .int (nI (e)), .ref (9006), .int (nI (2))]) (st' := [.int ((nI (q)) + (nI (2))), .ref (9)]) (M' := (I, J, Rx R, N, G)) rfl ?_
    rw [show (nI (q)) + (nI (2)) = nI (q + 2) from nI_addE (rfl) (rfl)]
    refine XP_pure rfl rfl (c_byteAt hT hL (show q + 2 < L by omega)) ?_
    refine XP_n 2 (pc' := 21) (ls' := [.ref (9), .int (nI (q)), .int (nI (e)), .ref (9006), .int (nI (2))]) (st' := [.int (nI (2)), .ref (9006), .int (nI (b (q + 2)))]) (M' := (I, J, Rx R, N, G)) rfl ?_
    refine XP_pure rfl rfl tc_3_2 ?_
    refine XP_icN (x := b (q + 2)) (y := 108) rfl (by omega) (by omega) (fun (b22 : b (q + 2) = 108) => absurd b22 (by omega)) (fun (b22 : ¬ b (q + 2) = 108) => ?_)
    refine XP_n 1 (pc' := 24) (ls' := [.ref (9), .int (nI (q)), .int (nI (e)), .ref (9006), .int (nI (2))]) (st' := [.int (nI (0))]) (M' := (I, J, Rx R, N, G)) rfl ?_
    exact XP_ret rfl ⟨rfl, rfl⟩
  by_cases h3 : b (q + 3) = 108
  rotate_left
  · skip
    unfold TP
    show XP X _ k_Reader_spells 0 [.ref (9), .int (nI (q)), .int (nI (e)), .ref (9006), xj] [] _ _
    refine XP_n 4 (pc' := 4) (ls' := [.ref (9), .int (nI (q)), .int (nI (e)), .ref (9006), xj]) (st' := [.ref (9006), .int ((nI (e)) - (nI (q)))]) (M' := (I, J, Rx R, N, G)) rfl ?_
    rw [show (nI (e)) - (nI (q)) = nI (e - q) from nI_subE (rfl) (rfl) (by omega)]
    refine XP_pure rfl rfl tl_3 ?_
    refine XP_icN (x := e - q) (y := 4) rfl (by omega) (by omega) (fun (b5 : e - q = 4) => ?_) (fun (b5 : ¬ e - q = 4) => absurd b5 (by omega))
    refine XP_n 4 (pc' := 12) (ls' := [.ref (9), .int (nI (q)), .int (nI (e)), .ref (9006), .int (nI (0))]) (st' := [.ref (9006), .int (nI (0))]) (M' := (I, J, Rx R, N, G)) rfl ?_
    refine XP_pure rfl rfl tl_3 ?_
    refine XP_icN (x := 0) (y := 4) rfl (by omega) (by omega) (fun (b13 : 4 ≤ 0) => absurd b13 (by omega)) (fun (b13 : 0 < 4) => ?_)
    refine XP_n 4 (pc' := 18) (ls' := [.ref (9), .int (nI (q)), .int (nI (e)), .ref (9006), .int (nI (0))]) (st' := [.int ((nI (q)) + (nI (0))), .ref (9)]) (M' := (I, J, Rx R, N, G)) rfl ?_
    rw [show (nI (q)) + (nI (0)) = nI (q + 0) from nI_addE (rfl) (rfl)]
    refine XP_pure rfl rfl (c_byteAt hT hL (show q + 0 < L by omega)) ?_
    refine XP_n 2 (pc' := 21) (ls' := [.ref (9), .int (nI (q)), .int (nI (e)), .ref (9006), .int (nI (0))]) (st' := [.int (nI (0)), .ref (9006), .int (nI (b (q + 0)))]) (M' := (I, J, Rx R, N, G)) rfl ?_
    refine XP_pure rfl rfl tc_3_0 ?_
    refine XP_icN (x := b (q + 0)) (y := 119) rfl (by omega) (by omega) (fun (b22 : b (q + 0) = 119) => ?_) (fun (b22 : ¬ b (q + 0) = 119) => absurd b22 (by omega))
    refine XP_n 1 (pc' := 26) (ls' := [.ref (9), .int (nI (q)), .int (nI (e)), .ref (9006), .int (nI (0) + nI (1))]) (st' := []) (M' := (I, J, Rx R, N, G)) rfl ?_
    rw [show nI (0) + nI (1) = nI (1) from nI_addE (rfl) rfl]
    refine XP_n 3 (pc' := 12) (ls' := [.ref (9), .int (nI (q)), .int (nI (e)), .ref (9006), .int (nI (1))]) (st' := [.ref (9006), .int (nI (1))]) (M' := (I, J, Rx R, N, G)) rfl ?_
    refine XP_pure rfl rfl tl_3 ?_
    refine XP_icN (x := 1) (y := 4) rfl (by omega) (by omega) (fun (b13 : 4 ≤ 1) => absurd b13 (by omega)) (fun (b13 : 1 < 4) => ?_)
    refine XP_n 4 (pc' := 18) (ls' := [.ref (9), .int (nI (q)), .int (nI (e)), .ref (9006), .int (nI (1))]) (st' := [.int ((nI (q)) + (nI (1))), .ref (9)]) (M' := (I, J, Rx R, N, G)) rfl ?_
    rw [show (nI (q)) + (nI (1)) = nI (q + 1) from nI_addE (rfl) (rfl)]
    refine XP_pure rfl rfl (c_byteAt hT hL (show q + 1 < L by omega)) ?_
    refine XP_n 2 (pc' := 21) (ls' := [.ref (9), .int (nI (q)), .int (nI (e)), .ref (9006), .int (nI (1))]) (st' := [.int (nI (1)), .ref (9006), .int (nI (b (q + 1)))]) (M' := (I, J, Rx R, N, G)) rfl ?_
    refine XP_pure rfl rfl tc_3_1 ?_
    refine XP_icN (x := b (q + 1)) (y := 97) rfl (by omega) (by omega) (fun (b22 : b (q + 1) = 97) => ?_) (fun (b22 : ¬ b (q + 1) = 97) => absurd b22 (by omega))
    refine XP_n 1 (pc' := 26) (ls' := [.ref (9), .int (nI (q)), .int (nI (e)), .ref (9006), .int (nI (1) + nI (1))]) (st' := []) (M' := (I, J, Rx R, N, G)) rfl ?_
    rw [show nI (1) + nI (1) = nI (2) from nI_addE (rfl) rfl]
    refine XP_n 3 (pc' := 12) (ls' := [.ref (9), .int (nI (q)), .int (nI (e)), .ref (9006), .int (nI (2))]) (st' := [.ref (9006), .int (nI (2))]) (M' := (I, J, Rx R, N, G)) rfl ?_
    refine XP_pure rfl rfl tl_3 ?_
    refine XP_icN (x := 2) (y := 4) rfl (by omega) (by omega) (fun (b13 : 4 ≤ 2) => absurd b13 (by omega)) (fun (b13 : 2 < 4) => ?_)
    refine XP_n 4 (pc' := 18) (ls' := [.ref (9), .int (nI (q)), .int (nI (e)), .ref (9006), .int (nI (2))]) (st' := [.int ((nI (q)) + (nI (2))), .ref (9)]) (M' := (I, J, Rx R, N, G)) rfl ?_
    rw [show (nI (q)) + (nI (2)) = nI (q + 2) from nI_addE (rfl) (rfl)]
    refine XP_pure rfl rfl (c_byteAt hT hL (show q + 2 < L by omega)) ?_
    refine XP_n 2 (pc' := 21) (ls' := [.ref (9), .int (nI (q)), .int (nI (e)), .ref (9006), .int (nI (2))]) (st' := [.int (nI (2)), .ref (9006), .int (nI (b (q + 2)))]) (M' := (I, J, Rx R, N, G)) rfl ?_
    refine XP_pure rfl rfl tc_3_2 ?_
    refine XP_icN (x := b (q + 2)) (y := 108) rfl (by omega) (by omega) (fun (b22 : b (q + 2) = 108) => ?_) (fun (b22 : ¬ b (q + 2) = 108) => absurd b22 (by omega))
    refine XP_n 1 (pc' := 26) (ls' := [.ref (9), .int (nI (q)), .int (nI (e)), .ref (9006), .int (nI (2) + nI (1))]) (st' := []) (M' := (I, J, Rx R, N, G)) rfl ?_
    rw [show nI (2) + nI (1) = nI (3) from nI_addE (rfl) rfl]
    refine XP_n 3 (pc' := 12) (ls' := [.ref (9), .int (nI (q)), .int (nI (e)), .ref (9006), .int (nI (3))]) (st' := [.ref (9006), .int (nI (3))]) (M' := (I, J, Rx R, N, G)) rfl ?_
    refine XP_pure rfl rfl tl_3 ?_
    refine XP_icN (x := 3) (y := 4) rfl (by omega) (by omega) (fun (b13 : 4 ≤ 3) => absurd b13 (by omega)) (fun (b13 : 3 < 4) => ?_)
    refine XP_n 4 (pc' := 18) (ls' := [.ref (9), .int (nI (q)), .int (nI (e)), .ref (9006), .int (nI (3))]) (st' := [.int ((nI (q)) + (nI (3))), .ref (9)]) (M' := (I, J, Rx R, N, G)) rfl ?_
    rw [show (nI (q)) + (nI (3)) = nI (q + 3) from nI_addE (rfl) (rfl)]
    refine XP_pure rfl rfl (c_byteAt hT hL (show q + 3 < L by omega)) ?_
    refine XP_n 2 (pc' := 21) (ls' := [.ref (9), .int (nI (q)), .int (nI (e)), .ref (9006), .int (nI (3))]) (st' := [.int (nI (3)), .ref (9006), .int (nI (b (q + 3)))]) (M' := (I, J, Rx R, N, G)) rfl ?_
    refine XP_pure rfl rfl tc_3_3 ?_
    refine XP_icN (x := b (q + 3)) (y := 108) rfl (by omega) (by omega) (fun (b22 : b (q + 3) = 108) => absurd b22 (by omega)) (fun (b22 : ¬ b (q + 3) = 108) => ?_)
    refine XP_n 1 (pc' := 24) (ls' := [.ref (9), .int (nI (q)), .int (nI (e)), .ref (9006), .int (nI (3))]) (st' := [.int (nI (0))]) (M' := (I, J, Rx R, N, G)) rfl ?_
    exact XP_ret rfl ⟨rfl, rfl⟩
  refine absurd ⟨hl, fun j hj => ?_⟩ h
  have hj : j < 4 := hj
  have hc : j = 0 ∨ j = 1 ∨ j = 2 ∨ j = 3 := by omega
  rcases hc with rfl | rfl | rfl | rfl
  · exact h0
  · exact h1
  · exact h2
  · exact h3
theorem c_spT4 (hT : Tp I b L) (hL : L ≤ 160) {q e : Nat} (hqe : q ≤ e) (he : e ≤ L) (h : mW b q e 6) : TP X (d + 8) n_Reader_spells [.ref 9, .int (nI q), .int (nI e), .ref 9008] (I, J, Rx R, N, G) (Ret (.int (nI 1)) (I, J, Rx R, N, G)) := by
  have hl : e - q = 5 := h.1
  have h0 : b (q + 0) = 108 := h.2 0 (by decide)
  have h1 : b (q + 1) = 101 := h.2 1 (by decide)
  have h2 : b (q + 2) = 118 := h.2 2 (by decide)
  have h3 : b (q + 3) = 101 := h.2 3 (by decide)
  have h4 : b (q + 4) = 108 := h.2 4 (by decide)
  unfold TP
  show XP X _ k_Reader_spells 0 [.ref (9), .int (nI (q)), .int (nI (e)), .ref (9008), xj] [] _ _
  refine XP_n 4 (pc' := 4) (ls' := [.ref (9), .int (nI (q)), .int (nI (e)), .ref (9008), xj]) (st' := [.ref (9008), .int ((nI (e)) - (nI (q)))]) (M' := (I, J, Rx R, N, G)) rfl ?_
  rw [show (nI (e)) - (nI (q)) = nI (e - q) from nI_subE (rfl) (rfl) (by omega)]
  refine XP_pure rfl rfl tl_4 ?_
  refine XP_icN (x := e - q) (y := 5) rfl (by omega) (by omega) (fun (b5 : e - q = 5) => ?_) (fun (b5 : ¬ e - q = 5) => absurd b5 (by omega))
  refine XP_n 4 (pc' := 12) (ls' := [.ref (9), .int (nI (q)), .int (nI (e)), .ref (9008), .int (nI (0))]) (st' := [.ref (9008), .int (nI (0))]) (M' := (I, J, Rx R, N, G)) rfl ?_
  refine XP_pure rfl rfl tl_4 ?_
  refine XP_icN (x := 0) (y := 5) rfl (by omega) (by omega) (fun (b13 : 5 ≤ 0) => absurd b13 (by omega)) (fun (b13 : 0 < 5) => ?_)
  refine XP_n 4 (pc' := 18) (ls' := [.ref (9), .int (nI (q)), .int (nI (e)), .ref (9008), .int (nI (0))]) (st' := [.int ((nI (q)) + (nI (0))), .ref (9)]) (M' := (I, J, Rx R, N, G)) rfl ?_
  rw [show (nI (q)) + (nI (0)) = nI (q + 0) from nI_addE (rfl) (rfl)]
  refine XP_pure rfl rfl (c_byteAt hT hL (show q + 0 < L by omega)) ?_
  refine XP_n 2 (pc' := 21) (ls' := [.ref (9), .int (nI (q)), .int (nI (e)), .ref (9008), .int (nI (0))]) (st' := [.int (nI (0)), .ref (9008), .int (nI (b (q + 0)))]) (M' := (I, J, Rx R, N, G)) rfl ?_
  refine XP_pure rfl rfl tc_4_0 ?_
  refine XP_icN (x := b (q + 0)) (y := 108) rfl (by omega) (by omega) (fun (b22 : b (q + 0) = 108) => ?_) (fun (b22 : ¬ b (q + 0) = 108) => absurd b22 (by omega))
  refine XP_n 1 (pc' := 26) (ls' := [.ref (9), .int (nI (q)), .int (nI (e)), .ref (9008), .int (nI (0) + nI (1))]) (st' := []) (M' := (I, J, Rx R, N, G)) rfl ?_
  rw [show nI (0) + nI (1) = nI (1) from nI_addE (rfl) rfl]
  refine XP_n 3 (pc' := 12) (ls' := [.ref (9), .int (nI (q)), .int (nI (e)), .ref (9008), .int (nI (1))]) (st' := [.ref (9008), .int (nI (1))]) (M' := (I, J, Rx R, N, G)) rfl ?_
  refine XP_pure rfl rfl tl_4 ?_
  refine XP_icN (x := 1) (y := 5) rfl (by omega) (by omega) (fun (b13 : 5 ≤ 1) => absurd b13 (by omega)) (fun (b13 : 1 < 5) => ?_)
  refine XP_n 4 (pc' := 18) (ls' := [.ref (9), .int (nI (q)), .int (nI (e)), .ref (9008), .int (nI (1))]) (st' := [.int ((nI (q)) + (nI (1))), .ref (9)]) (M' := (I, J, Rx R, N, G)) rfl ?_
  rw [show (nI (q)) + (nI (1)) = nI (q + 1) from nI_addE (rfl) (rfl)]
  refine XP_pure rfl rfl (c_byteAt hT hL (show q + 1 < L by omega)) ?_
  refine XP_n 2 (pc' := 21) (ls' := [.ref (9), .int (nI (q)), .int (nI (e)), .ref (9008), .int (nI (1))]) (st' := [.int (nI (1)), .ref (9008), .int (nI (b (q + 1)))]) (M' := (I, J, Rx R, N, G)) rfl ?_
  refine XP_pure rfl rfl tc_4_1 ?_
  refine XP_icN (x := b (q + 1)) (y := 101) rfl (by omega) (by omega) (fun (b22 : b (q + 1) = 101) => ?_) (fun (b22 : ¬ b (q + 1) = 101) => absurd b22 (by omega))
  refine XP_n 1 (pc' := 26) (ls' := [.ref (9), .int (nI (q)), .int (nI (e)), .ref (9008), .int (nI (1) + nI (1))]) (st' := []) (M' := (I, J, Rx R, N, G)) rfl ?_
  rw [show nI (1) + nI (1) = nI (2) from nI_addE (rfl) rfl]
  refine XP_n 3 (pc' := 12) (ls' := [.ref (9), .int (nI (q)), .int (nI (e)), .ref (9008), .int (nI (2))]) (st' := [.ref (9008), .int (nI (2))]) (M' := (I, J, Rx R, N, G)) rfl ?_
  refine XP_pure rfl rfl tl_4 ?_
  refine XP_icN (x := 2) (y := 5) rfl (by omega) (by omega) (fun (b13 : 5 ≤ 2) => absurd b13 (by omega)) (fun (b13 : 2 < 5) => ?_)
  refine XP_n 4 (pc' := 18) (ls' := [.ref (9), .int (nI (q)), .int (nI (e)), .ref (9008), .int (nI (2))]) (st' := [.int ((nI (q)) + (nI (2))), .ref (9)]) (M' := (I, J, Rx R, N, G)) rfl ?_
  rw [show (nI (q)) + (nI (2)) = nI (q + 2) from nI_addE (rfl) (rfl)]
  refine XP_pure rfl rfl (c_byteAt hT hL (show q + 2 < L by omega)) ?_
  refine XP_n 2 (pc' := 21) (ls' := [.ref (9), .int (nI (q)), .int (nI (e)), .ref (9008), .int (nI (2))]) (st' := [.int (nI (2)), .ref (9008), .int (nI (b (q + 2)))]) (M' := (I, J, Rx R, N, G)) rfl ?_
  refine XP_pure rfl rfl tc_4_2 ?_
  refine XP_icN (x := b (q + 2)) (y := 118) rfl (by omega) (by omega) (fun (b22 : b (q + 2) = 118) => ?_) (fun (b22 : ¬ b (q + 2) = 118) => absurd b22 (by omega))
  refine XP_n 1 (pc' := 26) (ls' := [.ref (9), .int (nI (q)), .int (nI (e)), .ref (9008), .int (nI (2) + nI (1))]) (st' := []) (M' := (I, J, Rx R, N, G)) rfl ?_
  rw [show nI (2) + nI (1) = nI (3) from nI_addE (rfl) rfl]
  refine XP_n 3 (pc' := 12) (ls' := [.ref (9), .int (nI (q)), .int (nI (e)), .ref (9008), .int (nI (3))]) (st' := [.ref (9008), .int (nI (3))]) (M' := (I, J, Rx R, N, G)) rfl ?_
  refine XP_pure rfl rfl tl_4 ?_
  refine XP_icN (x := 3) (y := 5) rfl (by omega) (by omega) (fun (b13 : 5 ≤ 3) => absurd b13 (by omega)) (fun (b13 : 3 < 5) => ?_)
  refine XP_n 4 (pc' := 18) (ls' := [.ref (9), .int (nI (q)), .int (nI (e)), .ref (9008), .int (nI (3))]) (st' := [.int ((nI (q)) + (nI (3))), .ref (9)]) (M' := (I, J, Rx R, N, G)) rfl ?_
  rw [show (nI (q)) + (nI (3)) = nI (q + 3) from nI_addE (rfl) (rfl)]
  refine XP_pure rfl rfl (c_byteAt hT hL (show q + 3 < L by omega)) ?_
  refine XP_n 2 (pc' := 21) (ls' := [.ref (9), .int (nI (q)), .int (nI (e)), .ref (9008), .int (nI (3))]) (st' := [.int (nI (3)), .ref (9008), .int (nI (b (q + 3)))]) (M' := (I, J, Rx R, N, G)) rfl ?_
  refine XP_pure rfl rfl tc_4_3 ?_
  refine XP_icN (x := b (q + 3)) (y := 101) rfl (by omega) (by omega) (fun (b22 : b (q + 3) = 101) => ?_) (fun (b22 : ¬ b (q + 3) = 101) => absurd b22 (by omega))
  refine XP_n 1 (pc' := 26) (ls' := [.ref (9), .int (nI (q)), .int (nI (e)), .ref (9008), .int (nI (3) + nI (1))]) (st' := []) (M' := (I, J, Rx R, N, G)) rfl ?_
  rw [show nI (3) + nI (1) = nI (4) from nI_addE (rfl) rfl]
  refine XP_n 3 (pc' := 12) (ls' := [.ref (9), .int (nI (q)), .int (nI (e)), .ref (9008), .int (nI (4))]) (st' := [.ref (9008), .int (nI (4))]) (M' := (I, J, Rx R, N, G)) rfl ?_
  refine XP_pure rfl rfl tl_4 ?_
  refine XP_icN (x := 4) (y := 5) rfl (by omega) (by omega) (fun (b13 : 5 ≤ 4) => absurd b13 (by omega)) (fun (b13 : 4 < 5) => ?_)
  refine XP_n 4 (pc' := 18) (ls' := [.ref (9), .int (nI (q)), .int (nI (e)), .ref (9008), .int (nI (4))]) (st' := [.int ((nI (q)) + (nI (4))), .ref (9)]) (M' := (I, J, Rx R, N, G)) rfl ?_
  rw [show (nI (q)) + (nI (4)) = nI (q + 4) from nI_addE (rfl) (rfl)]
  refine XP_pure rfl rfl (c_byteAt hT hL (show q + 4 < L by omega)) ?_
  refine XP_n 2 (pc' := 21) (ls' := [.ref (9), .int (nI (q)), .int (nI (e)), .ref (9008), .int (nI (4))]) (st' := [.int (nI (4)), .ref (9008), .int (nI (b (q + 4)))]) (M' := (I, J, Rx R, N, G)) rfl ?_
  refine XP_pure rfl rfl tc_4_4 ?_
  refine XP_icN (x := b (q + 4)) (y := 108) rfl (by omega) (by omega) (fun (b22 : b (q + 4) = 108) => ?_) (fun (b22 : ¬ b (q + 4) = 108) => absurd b22 (by omega))
  refine XP_n 1 (pc' := 26) (ls' := [.ref (9), .int (nI (q)), .int (nI (e)), .ref (9008), .int (nI (4) + nI (1))]) (st' := []) (M' := (I, J, Rx R, N, G)) rfl ?_
  rw [show nI (4) + nI (1) = nI (5) from nI_addE (rfl) rfl]
  refine XP_n 3 (pc' := 12) (ls' := [.ref (9), .int (nI (q)), .int (nI (e)), .ref (9008), .int (nI (5))]) (st' := [.ref (9008), .int (nI (5))]) (M' := (I, J, Rx R, N, G)) rfl ?_
  refine XP_pure rfl rfl tl_4 ?_
  refine XP_icN (x := 5) (y := 5) rfl (by omega) (by omega) (fun (b13 : 5 ≤ 5) => ?_) (fun (b13 : 5 < 5) => absurd b13 (by omega))
  refine XP_n 1 (pc' := 28) (ls' := [.ref (9), .int (nI (q)), .int (nI (e)), .ref (9008), .int (nI (5))]) (st' := [.int (nI (1))]) (M' := (I, J, Rx R, N, G)) rfl ?_
  exact XP_ret rfl ⟨rfl, rfl⟩
theorem c_spF4 (hT : Tp I b L) (hL : L ≤ 160) (hb : ∀ i, i < L → b i ≤ 255) {q e : Nat} (hqe : q ≤ e) (he : e ≤ L) (h : ¬ mW b q e 6) : TP X (d + 8) n_Reader_spells [.ref 9, .int (nI q), .int (nI e), .ref 9008] (I, J, Rx R, N, G) (Ret (.int (nI 0)) (I, J, Rx R, N, G)) := by
  by_cases hl : e - q = 5
  rotate_left
  · skip
    unfold TP
    show XP X _ k_Reader_spells 0 [.ref (9), .int (nI (q)), .int (nI (e)), .ref (9008), xj] [] _ _
    refine XP_n 4 (pc' := 4) (ls' := [.ref (9), .int (nI (q)), .int (nI (e)), .ref (9008), xj]) (st' := [.ref (9008), .int ((nI (e)) - (nI (q)))]) (M' := (I, J, Rx R, N, G)) rfl ?_
    rw [show (nI (e)) - (nI (q)) = nI (e - q) from nI_subE (rfl) (rfl) (by omega)]
    refine XP_pure rfl rfl tl_4 ?_
    refine XP_icN (x := e - q) (y := 5) rfl (by omega) (by omega) (fun (b5 : e - q = 5) => absurd b5 (by omega)) (fun (b5 : ¬ e - q = 5) => ?_)
    refine XP_n 1 (pc' := 7) (ls' := [.ref (9), .int (nI (q)), .int (nI (e)), .ref (9008), xj]) (st' := [.int (nI (0))]) (M' := (I, J, Rx R, N, G)) rfl ?_
    exact XP_ret rfl ⟨rfl, rfl⟩
  have q0 := hb (q + 0) (by omega)
  have q1 := hb (q + 1) (by omega)
  have q2 := hb (q + 2) (by omega)
  have q3 := hb (q + 3) (by omega)
  have q4 := hb (q + 4) (by omega)
  by_cases h0 : b (q + 0) = 108
  rotate_left
  · skip
    unfold TP
    show XP X _ k_Reader_spells 0 [.ref (9), .int (nI (q)), .int (nI (e)), .ref (9008), xj] [] _ _
    refine XP_n 4 (pc' := 4) (ls' := [.ref (9), .int (nI (q)), .int (nI (e)), .ref (9008), xj]) (st' := [.ref (9008), .int ((nI (e)) - (nI (q)))]) (M' := (I, J, Rx R, N, G)) rfl ?_
    rw [show (nI (e)) - (nI (q)) = nI (e - q) from nI_subE (rfl) (rfl) (by omega)]
    refine XP_pure rfl rfl tl_4 ?_
    refine XP_icN (x := e - q) (y := 5) rfl (by omega) (by omega) (fun (b5 : e - q = 5) => ?_) (fun (b5 : ¬ e - q = 5) => absurd b5 (by omega))
    refine XP_n 4 (pc' := 12) (ls' := [.ref (9), .int (nI (q)), .int (nI (e)), .ref (9008), .int (nI (0))]) (st' := [.ref (9008), .int (nI (0))]) (M' := (I, J, Rx R, N, G)) rfl ?_
    refine XP_pure rfl rfl tl_4 ?_
    refine XP_icN (x := 0) (y := 5) rfl (by omega) (by omega) (fun (b13 : 5 ≤ 0) => absurd b13 (by omega)) (fun (b13 : 0 < 5) => ?_)
    refine XP_n 4 (pc' := 18) (ls' := [.ref (9), .int (nI (q)), .int (nI (e)), .ref (9008), .int (nI (0))]) (st' := [.int ((nI (q)) + (nI (0))), .ref (9)]) (M' := (I, J, Rx R, N, G)) rfl ?_
    rw [show (nI (q)) + (nI (0)) = nI (q + 0) from nI_addE (rfl) (rfl)]
    refine XP_pure rfl rfl (c_byteAt hT hL (show q + 0 < L by omega)) ?_
    refine XP_n 2 (pc' := 21) (ls' := [.ref (9), .int (nI (q)), .int (nI (e)), .ref (9008), .int (nI (0))]) (st' := [.int (nI (0)), .ref (9008), .int (nI (b (q + 0)))]) (M' := (I, J, Rx R, N, G)) rfl ?_
    refine XP_pure rfl rfl tc_4_0 ?_
    refine XP_icN (x := b (q + 0)) (y := 108) rfl (by omega) (by omega) (fun (b22 : b (q + 0) = 108) => absurd b22 (by omega)) (fun (b22 : ¬ b (q + 0) = 108) => ?_)
    refine XP_n 1 (pc' := 24) (ls' := [.ref (9), .int (nI (q)), .int (nI (e)), .ref (9008), .int (nI (0))]) (st' := [.int (nI (0))]) (M' := (I, J, Rx R, N, G)) rfl ?_
    exact XP_ret rfl ⟨rfl, rfl⟩
  by_cases h1 : b (q + 1) = 101
  rotate_left
  · skip
    unfold TP
    show XP X _ k_Reader_spells 0 [.ref (9), .int (nI (q)), .int (nI (e)), .ref (9008), xj] [] _ _
    refine XP_n 4 (pc' := 4) (ls' := [.ref (9), .int (nI (q)), .int (nI (e)), .ref (9008), xj]) (st' := [.ref (9008), .int ((nI (e)) - (nI (q)))]) (M' := (I, J, Rx R, N, G)) rfl ?_
    rw [show (nI (e)) - (nI (q)) = nI (e - q) from nI_subE (rfl) (rfl) (by omega)]
    refine XP_pure rfl rfl tl_4 ?_
    refine XP_icN (x := e - q) (y := 5) rfl (by omega) (by omega) (fun (b5 : e - q = 5) => ?_) (fun (b5 : ¬ e - q = 5) => absurd b5 (by omega))
    refine XP_n 4 (pc' := 12) (ls' := [.ref (9), .int (nI (q)), .int (nI (e)), .ref (9008), .int (nI (0))]) (st' := [.ref (9008), .int (nI (0))]) (M' := (I, J, Rx R, N, G)) rfl ?_
    refine XP_pure rfl rfl tl_4 ?_
    refine XP_icN (x := 0) (y := 5) rfl (by omega) (by omega) (fun (b13 : 5 ≤ 0) => absurd b13 (by omega)) (fun (b13 : 0 < 5) => ?_)
    refine XP_n 4 (pc' := 18) (ls' := [.ref (9), .int (nI (q)), .int (nI (e)), .ref (9008), .int (nI (0))]) (st' := [.int ((nI (q)) + (nI (0))), .ref (9)]) (M' := (I, J, Rx R, N, G)) rfl ?_
    rw [show (nI (q)) + (nI (0)) = nI (q + 0) from nI_addE (rfl) (rfl)]
    refine XP_pure rfl rfl (c_byteAt hT hL (show q + 0 < L by omega)) ?_
    refine XP_n 2 (pc' := 21) (ls' := [.ref (9), .int (nI (q)), .int (nI (e)), .ref (9008), .int (nI (0))]) (st' := [.int (nI (0)), .ref (9008), .int (nI (b (q + 0)))]) (M' := (I, J, Rx R, N, G)) rfl ?_
    refine XP_pure rfl rfl tc_4_0 ?_
    refine XP_icN (x := b (q + 0)) (y := 108) rfl (by omega) (by omega) (fun (b22 : b (q + 0) = 108) => ?_) (fun (b22 : ¬ b (q + 0) = 108) => absurd b22 (by omega))
    refine XP_n 1 (pc' := 26) (ls' := [.ref (9), .int (nI (q)), .int (nI (e)), .ref (9008), .int (nI (0) + nI (1))]) (st' := []) (M' := (I, J, Rx R, N, G)) rfl ?_
    rw [show nI (0) + nI (1) = nI (1) from nI_addE (rfl) rfl]
    refine XP_n 3 (pc' := 12) (ls' := [.ref (9), .int (nI (q)), .int (nI (e)), .ref (9008), .int (nI (1))]) (st' := [.ref (9008), .int (nI (1))]) (M' := (I, J, Rx R, N, G)) rfl ?_
    refine XP_pure rfl rfl tl_4 ?_
    refine XP_icN (x := 1) (y := 5) rfl (by omega) (by omega) (fun (b13 : 5 ≤ 1) => absurd b13 (by omega)) (fun (b13 : 1 < 5) => ?_)
    refine XP_n 4 (pc' := 18) (ls' := [.ref (9), .int (nI (q)), .int (nI (e)), .ref (9008), .int (nI (1))]) (st' := [.int ((nI (q)) + (nI (1))), .ref (9)]) (M' := (I, J, Rx R, N, G)) rfl ?_
    rw [show (nI (q)) + (nI (1)) = nI (q + 1) from nI_addE (rfl) (rfl)]
    refine XP_pure rfl rfl (c_byteAt hT hL (show q + 1 < L by omega)) ?_
    refine XP_n 2 (pc' := 21) (ls' := [.ref (9), .int (nI (q)), .int (nI (e)), .ref (9008), .int (nI (1))]) (st' := [.int (nI (1)), .ref (9008), .int (nI (b (q + 1)))]) (M' := (I, J, Rx R, N, G)) rfl ?_
    refine XP_pure rfl rfl tc_4_1 ?_
    refine XP_icN (x := b (q + 1)) (y := 101) rfl (by omega) (by omega) (fun (b22 : b (q + 1) = 101) => absurd b22 (by omega)) (fun (b22 : ¬ b (q + 1) = 101) => ?_)
    refine XP_n 1 (pc' := 24) (ls' := [.ref (9), .int (nI (q)), .int (nI (e)), .ref (9008), .int (nI (1))]) (st' := [.int (nI (0))]) (M' := (I, J, Rx R, N, G)) rfl ?_
    exact XP_ret rfl ⟨rfl, rfl⟩
  by_cases h2 : b (q + 2) = 118
  rotate_left
  · skip
    unfold TP
    show XP X _ k_Reader_spells 0 [.ref (9), .int (nI (q)), .int (nI (e)), .ref (9008), xj] [] _ _
    refine XP_n 4 (pc' := 4) (ls' := [.ref (9), .int (nI (q)), .int (nI (e)), .ref (9008), xj]) (st' := [.ref (9008), .int ((nI (e)) - (nI (q)))]) (M' := (I, J, Rx R, N, G)) rfl ?_
    rw [show (nI (e)) - (nI (q)) = nI (e - q) from nI_subE (rfl) (rfl) (by omega)]
    refine XP_pure rfl rfl tl_4 ?_
    refine XP_icN (x := e - q) (y := 5) rfl (by omega) (by omega) (fun (b5 : e - q = 5) => ?_) (fun (b5 : ¬ e - q = 5) => absurd b5 (by omega))
    refine XP_n 4 (pc' := 12) (ls' := [.ref (9), .int (nI (q)), .int (nI (e)), .ref (9008), .int (nI (0))]) (st' := [.ref (9008), .int (nI (0))]) (M' := (I, J, Rx R, N, G)) rfl ?_
    refine XP_pure rfl rfl tl_4 ?_
    refine XP_icN (x := 0) (y := 5) rfl (by omega) (by omega) (fun (b13 : 5 ≤ 0) => absurd b13 (by omega)) (fun (b13 : 0 < 5) => ?_)
    refine XP_n 4 (pc' := 18) (ls' := [.ref (9), .int (nI (q)), .int (nI (e)), .ref (9008), .int (nI (0))]) (st' := [.int ((nI (q)) + (nI (0))), .ref (9)]) (M' := (I, J, Rx R, N, G)) rfl ?_
    rw [show (nI (q)) + (nI (0)) = nI (q + 0) from nI_addE (rfl) (rfl)]
    refine XP_pure rfl rfl (c_byteAt hT hL (show q + 0 < L by omega)) ?_
    refine XP_n 2 (pc' := 21) (ls' := [.ref (9), .int (nI (q)), .int (nI (e)), .ref (9008), .int (nI (0))]) (st' := [.int (nI (0)), .ref (9008), .int (nI (b (q + 0)))]) (M' := (I, J, Rx R, N, G)) rfl ?_
    refine XP_pure rfl rfl tc_4_0 ?_
    refine XP_icN (x := b (q + 0)) (y := 108) rfl (by omega) (by omega) (fun (b22 : b (q + 0) = 108) => ?_) (fun (b22 : ¬ b (q + 0) = 108) => absurd b22 (by omega))
    refine XP_n 1 (pc' := 26) (ls' := [.ref (9), .int (nI (q)), .int (nI (e)), .ref (9008), .int (nI (0) + nI (1))]) (st' := []) (M' := (I, J, Rx R, N, G)) rfl ?_
    rw [show nI (0) + nI (1) = nI (1) from nI_addE (rfl) rfl]
    refine XP_n 3 (pc' := 12) (ls' := [.ref (9), .int (nI (q)), .int (nI (e)), .ref (9008), .int (nI (1))]) (st' := [.ref (9008), .int (nI (1))]) (M' := (I, J, Rx R, N, G)) rfl ?_
    refine XP_pure rfl rfl tl_4 ?_
    refine XP_icN (x := 1) (y := 5) rfl (by omega) (by omega) (fun (b13 : 5 ≤ 1) => absurd b13 (by omega)) (fun (b13 : 1 < 5) => ?_)
    refine XP_n 4 (pc' := 18) (ls' := [.ref (9), .int (nI (q)), .int (nI (e)), .ref (9008), .int (nI (1))]) (st' := [.int ((nI (q)) + (nI (1))), .ref (9)]) (M' := (I, J, Rx R, N, G)) rfl ?_
    rw [show (nI (q)) + (nI (1)) = nI (q + 1) from nI_addE (rfl) (rfl)]
    refine XP_pure rfl rfl (c_byteAt hT hL (show q + 1 < L by omega)) ?_
    refine XP_n 2 (pc' := 21) (ls' := [.ref (9), .int (nI (q)), .int (nI (e)), .ref (9008), .int (nI (1))]) (st' := [.int (nI (1)), .ref (9008), .int (nI (b (q + 1)))]) (M' := (I, J, Rx R, N, G)) rfl ?_
    refine XP_pure rfl rfl tc_4_1 ?_
    refine XP_icN (x := b (q + 1)) (y := 101) rfl (by omega) (by omega) (fun (b22 : b (q + 1) = 101) => ?_) (fun (b22 : ¬ b (q + 1) = 101) => absurd b22 (by omega))
    refine XP_n 1 (pc' := 26) (ls' := [.ref (9), .int (nI (q)), .int (nI (e)), .ref (9008), .int (nI (1) + nI (1))]) (st' := []) (M' := (I, J, Rx R, N, G)) rfl ?_
    rw [show nI (1) + nI (1) = nI (2) from nI_addE (rfl) rfl]
    refine XP_n 3 (pc' := 12) (ls' := [.ref (9), .int (nI (q)), .int (nI (e)), .ref (9008), .int (nI (2))]) (st' := [.ref (9008), .int (nI (2))]) (M' := (I, J, Rx R, N, G)) rfl ?_
    refine XP_pure rfl rfl tl_4 ?_
    refine XP_icN (x := 2) (y := 5) rfl (by omega) (by omega) (fun (b13 : 5 ≤ 2) => absurd b13 (by omega)) (fun (b13 : 2 < 5) => ?_)
    refine XP_n 4 (pc' := 18) (ls' := [.ref (9), .int (nI (q)), .int (nI (e)), .ref (9008), .int (nI (2))]) (st' := [.int ((nI (q)) + (nI (2))), .ref (9)]) (M' := (I, J, Rx R, N, G)) rfl ?_
    rw [show (nI (q)) + (nI (2)) = nI (q + 2) from nI_addE (rfl) (rfl)]
    refine XP_pure rfl rfl (c_byteAt hT hL (show q + 2 < L by omega)) ?_
    refine XP_n 2 (pc' := 21) (ls' := [.ref (9), .int (nI (q)), .int (nI (e)), .ref (9008), .int (nI (2))]) (st' := [.int (nI (2)), .ref (9008), .int (nI (b (q + 2)))]) (M' := (I, J, Rx R, N, G)) rfl ?_
    refine XP_pure rfl rfl tc_4_2 ?_
    refine XP_icN (x := b (q + 2)) (y := 118) rfl (by omega) (by omega) (fun (b22 : b (q + 2) = 118) => absurd b22 (by omega)) (fun (b22 : ¬ b (q + 2) = 118) => ?_)
    refine XP_n 1 (pc' := 24) (ls' := [.ref (9), .int (nI (q)), .int (nI (e)), .ref (9008), .int (nI (2))]) (st' := [.int (nI (0))]) (M' := (I, J, Rx R, N, G)) rfl ?_
    exact XP_ret rfl ⟨rfl, rfl⟩
  by_cases h3 : b (q + 3) = 101
  rotate_left
  · skip
    unfold TP
    show XP X _ k_Reader_spells 0 [.ref (9), .int (nI (q)), .int (nI (e)), .ref (9008), xj] [] _ _
    refine XP_n 4 (pc' := 4) (ls' := [.ref (9), .int (nI (q)), .int (nI (e)), .ref (9008), xj]) (st' := [.ref (9008), .int ((nI (e)) - (nI (q)))]) (M' := (I, J, Rx R, N, G)) rfl ?_
    rw [show (nI (e)) - (nI (q)) = nI (e - q) from nI_subE (rfl) (rfl) (by omega)]
    refine XP_pure rfl rfl tl_4 ?_
    refine XP_icN (x := e - q) (y := 5) rfl (by omega) (by omega) (fun (b5 : e - q = 5) => ?_) (fun (b5 : ¬ e - q = 5) => absurd b5 (by omega))
    refine XP_n 4 (pc' := 12) (ls' := [.ref (9), .int (nI (q)), .int (nI (e)), .ref (9008), .int (nI (0))]) (st' := [.ref (9008), .int (nI (0))]) (M' := (I, J, Rx R, N, G)) rfl ?_
    refine XP_pure rfl rfl tl_4 ?_
    refine XP_icN (x := 0) (y := 5) rfl (by omega) (by omega) (fun (b13 : 5 ≤ 0) => absurd b13 (by omega)) (fun (b13 : 0 < 5) => ?_)
    refine XP_n 4 (pc' := 18) (ls' := [.ref (9), .int (nI (q)), .int (nI (e)), .ref (9008), .int (nI (0))]) (st' := [.int ((nI (q)) + (nI (0))), .ref (9)]) (M' := (I, J, Rx R, N, G)) rfl ?_
    rw [show (nI (q)) + (nI (0)) = nI (q + 0) from nI_addE (rfl) (rfl)]
    refine XP_pure rfl rfl (c_byteAt hT hL (show q + 0 < L by omega)) ?_
    refine XP_n 2 (pc' := 21) (ls' := [.ref (9), .int (nI (q)), .int (nI (e)), .ref (9008), .int (nI (0))]) (st' := [.int (nI (0)), .ref (9008), .int (nI (b (q + 0)))]) (M' := (I, J, Rx R, N, G)) rfl ?_
    refine XP_pure rfl rfl tc_4_0 ?_
    refine XP_icN (x := b (q + 0)) (y := 108) rfl (by omega) (by omega) (fun (b22 : b (q + 0) = 108) => ?_) (fun (b22 : ¬ b (q + 0) = 108) => absurd b22 (by omega))
    refine XP_n 1 (pc' := 26) (ls' := [.ref (9), .int (nI (q)), .int (nI (e)), .ref (9008), .int (nI (0) + nI (1))]) (st' := []) (M' := (I, J, Rx R, N, G)) rfl ?_
    rw [show nI (0) + nI (1) = nI (1) from nI_addE (rfl) rfl]
    refine XP_n 3 (pc' := 12) (ls' := [.ref (9), .int (nI (q)), .int (nI (e)), .ref (9008), .int (nI (1))]) (st' := [.ref (9008), .int (nI (1))]) (M' := (I, J, Rx R, N, G)) rfl ?_
    refine XP_pure rfl rfl tl_4 ?_
    refine XP_icN (x := 1) (y := 5) rfl (by omega) (by omega) (fun (b13 : 5 ≤ 1) => absurd b13 (by omega)) (fun (b13 : 1 < 5) => ?_)
    refine XP_n 4 (pc' := 18) (ls' := [.ref (9), .int (nI (q)), .int (nI (e)), .ref (9008), .int (nI (1))]) (st' := [.int ((nI (q)) + (nI (1))), .ref (9)]) (M' := (I, J, Rx R, N, G)) rfl ?_
    rw [show (nI (q)) + (nI (1)) = nI (q + 1) from nI_addE (rfl) (rfl)]
    refine XP_pure rfl rfl (c_byteAt hT hL (show q + 1 < L by omega)) ?_
    refine XP_n 2 (pc' := 21) (ls' := [.ref (9), .int (nI (q)), .int (nI (e)), .ref (9008), .int (nI (1))]) (st' := [.int (nI (1)), .ref (9008), .int (nI (b (q + 1)))]) (M' := (I, J, Rx R, N, G)) rfl ?_
    refine XP_pure rfl rfl tc_4_1 ?_
    refine XP_icN (x := b (q + 1)) (y := 101) rfl (by omega) (by omega) (fun (b22 : b (q + 1) = 101) => ?_) (fun (b22 : ¬ b (q + 1) = 101) => absurd b22 (by omega))
    refine XP_n 1 (pc' := 26) (ls' := [.ref (9), .int (nI (q)), .int (nI (e)), .ref (9008), .int (nI (1) + nI (1))]) (st' := []) (M' := (I, J, Rx R, N, G)) rfl ?_
    rw [show nI (1) + nI (1) = nI (2) from nI_addE (rfl) rfl]
    refine XP_n 3 (pc' := 12) (ls' := [.ref (9), .int (nI (q)), .int (nI (e)), .ref (9008), .int (nI (2))]) (st' := [.ref (9008), .int (nI (2))]) (M' := (I, J, Rx R, N, G)) rfl ?_
    refine XP_pure rfl rfl tl_4 ?_
    refine XP_icN (x := 2) (y := 5) rfl (by omega) (by omega) (fun (b13 : 5 ≤ 2) => absurd b13 (by omega)) (fun (b13 : 2 < 5) => ?_)
    refine XP_n 4 (pc' := 18) (ls' := [.ref (9), .int (nI (q)), .int (nI (e)), .ref (9008), .int (nI (2))]) (st' := [.int ((nI (q)) + (nI (2))), .ref (9)]) (M' := (I, J, Rx R, N, G)) rfl ?_
    rw [show (nI (q)) + (nI (2)) = nI (q + 2) from nI_addE (rfl) (rfl)]
    refine XP_pure rfl rfl (c_byteAt hT hL (show q + 2 < L by omega)) ?_
    refine XP_n 2 (pc' := 21) (ls' := [.ref (9), .int (nI (q)), .int (nI (e)), .ref (9008), .int (nI (2))]) (st' := [.int (nI (2)), .ref (9008), .int (nI (b (q + 2)))]) (M' := (I, J, Rx R, N, G)) rfl ?_
    refine XP_pure rfl rfl tc_4_2 ?_
    refine XP_icN (x := b (q + 2)) (y := 118) rfl (by omega) (by omega) (fun (b22 : b (q + 2) = 118) => ?_) (fun (b22 : ¬ b (q + 2) = 118) => absurd b22 (by omega))
    refine XP_n 1 (pc' := 26) (ls' := [.ref (9), .int (nI (q)), .int (nI (e)), .ref (9008), .int (nI (2) + nI (1))]) (st' := []) (M' := (I, J, Rx R, N, G)) rfl ?_
    rw [show nI (2) + nI (1) = nI (3) from nI_addE (rfl) rfl]
    refine XP_n 3 (pc' := 12) (ls' := [.ref (9), .int (nI (q)), .int (nI (e)), .ref (9008), .int (nI (3))]) (st' := [.ref (9008), .int (nI (3))]) (M' := (I, J, Rx R, N, G)) rfl ?_
    refine XP_pure rfl rfl tl_4 ?_
    refine XP_icN (x := 3) (y := 5) rfl (by omega) (by omega) (fun (b13 : 5 ≤ 3) => absurd b13 (by omega)) (fun (b13 : 3 < 5) => ?_)
    refine XP_n 4 (pc' := 18) (ls' := [.ref (9), .int (nI (q)), .int (nI (e)), .ref (9008), .int (nI (3))]) (st' := [.int ((nI (q)) + (nI (3))), .ref (9)]) (M' := (I, J, Rx R, N, G)) rfl ?_
    rw [show (nI (q)) + (nI (3)) = nI (q + 3) from nI_addE (rfl) (rfl)]
    refine XP_pure rfl rfl (c_byteAt hT hL (show q + 3 < L by omega)) ?_
    refine XP_n 2 (pc' := 21) (ls' := [.ref (9), .int (nI (q)), .int (nI (e)), .ref (9008), .int (nI (3))]) (st' := [.int (nI (3)), .ref (9008), .int (nI (b (q + 3)))]) (M' := (I, J, Rx R, N, G)) rfl ?_
    refine XP_pure rfl rfl tc_4_3 ?_
    refine XP_icN (x := b (q + 3)) (y := 101) rfl (by omega) (by omega) (fun (b22 : b (q + 3) = 101) => absurd b22 (by omega)) (fun (b22 : ¬ b (q + 3) = 101) => ?_)
    refine XP_n 1 (pc' := 24) (ls' := [.ref (9), .int (nI (q)), .int (nI (e)), .ref (9008), .int (nI (3))]) (st' := [.int (nI (0))]) (M' := (I, J, Rx R, N, G)) rfl ?_
    exact XP_ret rfl ⟨rfl, rfl⟩
  by_cases h4 : b (q + 4) = 108
  rotate_left
  · skip
    unfold TP
    show XP X _ k_Reader_spells 0 [.ref (9), .int (nI (q)), .int (nI (e)), .ref (9008), xj] [] _ _
    refine XP_n 4 (pc' := 4) (ls' := [.ref (9), .int (nI (q)), .int (nI (e)), .ref (9008), xj]) (st' := [.ref (9008), .int ((nI (e)) - (nI (q)))]) (M' := (I, J, Rx R, N, G)) rfl ?_
    rw [show (nI (e)) - (nI (q)) = nI (e - q) from nI_subE (rfl) (rfl) (by omega)]
    refine XP_pure rfl rfl tl_4 ?_
    refine XP_icN (x := e - q) (y := 5) rfl (by omega) (by omega) (fun (b5 : e - q = 5) => ?_) (fun (b5 : ¬ e - q = 5) => absurd b5 (by omega))
    refine XP_n 4 (pc' := 12) (ls' := [.ref (9), .int (nI (q)), .int (nI (e)), .ref (9008), .int (nI (0))]) (st' := [.ref (9008), .int (nI (0))]) (M' := (I, J, Rx R, N, G)) rfl ?_
    refine XP_pure rfl rfl tl_4 ?_
    refine XP_icN (x := 0) (y := 5) rfl (by omega) (by omega) (fun (b13 : 5 ≤ 0) => absurd b13 (by omega)) (fun (b13 : 0 < 5) => ?_)
    refine XP_n 4 (pc' := 18) (ls' := [.ref (9), .int (nI (q)), .int (nI (e)), .ref (9008), .int (nI (0))]) (st' := [.int ((nI (q)) + (nI (0))), .ref (9)]) (M' := (I, J, Rx R, N, G)) rfl ?_
    rw [show (nI (q)) + (nI (0)) = nI (q + 0) from nI_addE (rfl) (rfl)]
    refine XP_pure rfl rfl (c_byteAt hT hL (show q + 0 < L by omega)) ?_
    refine XP_n 2 (pc' := 21) (ls' := [.ref (9), .int (nI (q)), .int (nI (e)), .ref (9008), .int (nI (0))]) (st' := [.int (nI (0)), .ref (9008), .int (nI (b (q + 0)))]) (M' := (I, J, Rx R, N, G)) rfl ?_
    refine XP_pure rfl rfl tc_4_0 ?_
    refine XP_icN (x := b (q + 0)) (y := 108) rfl (by omega) (by omega) (fun (b22 : b (q + 0) = 108) => ?_) (fun (b22 : ¬ b (q + 0) = 108) => absurd b22 (by omega))
    refine XP_n 1 (pc' := 26) (ls' := [.ref (9), .int (nI (q)), .int (nI (e)), .ref (9008), .int (nI (0) + nI (1))]) (st' := []) (M' := (I, J, Rx R, N, G)) rfl ?_
    rw [show nI (0) + nI (1) = nI (1) from nI_addE (rfl) rfl]
    refine XP_n 3 (pc' := 12) (ls' := [.ref (9), .int (nI (q)), .int (nI (e)), .ref (9008), .int (nI (1))]) (st' := [.ref (9008), .int (nI (1))]) (M' := (I, J, Rx R, N, G)) rfl ?_
    refine XP_pure rfl rfl tl_4 ?_
    refine XP_icN (x := 1) (y := 5) rfl (by omega) (by omega) (fun (b13 : 5 ≤ 1) => absurd b13 (by omega)) (fun (b13 : 1 < 5) => ?_)
    refine XP_n 4 (pc' := 18) (ls' := [.ref (9), .int (nI (q)), .int (nI (e)), .ref (9008), .int (nI (1))]) (st' := [.int ((nI (q)) + (nI (1))), .ref (9)]) (M' := (I, J, Rx R, N, G)) rfl ?_
    rw [show (nI (q)) + (nI (1)) = nI (q + 1) from nI_addE (rfl) (rfl)]
    refine XP_pure rfl rfl (c_byteAt hT hL (show q + 1 < L by omega)) ?_
    refine XP_n 2 (pc' := 21) (ls' := [.ref (9), .int (nI (q)), .int (nI (e)), .ref (9008), .int (nI (1))]) (st' := [.int (nI (1)), .ref (9008), .int (nI (b (q + 1)))]) (M' := (I, J, Rx R, N, G)) rfl ?_
    refine XP_pure rfl rfl tc_4_1 ?_
    refine XP_icN (x := b (q + 1)) (y := 101) rfl (by omega) (by omega) (fun (b22 : b (q + 1) = 101) => ?_) (fun (b22 : ¬ b (q + 1) = 101) => absurd b22 (by omega))
    refine XP_n 1 (pc' := 26) (ls' := [.ref (9), .int (nI (q)), .int (nI (e)), .ref (9008), .int (nI (1) + nI (1))]) (st' := []) (M' := (I, J, Rx R, N, G)) rfl ?_
    rw [show nI (1) + nI (1) = nI (2) from nI_addE (rfl) rfl]
    refine XP_n 3 (pc' := 12) (ls' := [.ref (9), .int (nI (q)), .int (nI (e)), .ref (9008), .int (nI (2))]) (st' := [.ref (9008), .int (nI (2))]) (M' := (I, J, Rx R, N, G)) rfl ?_
    refine XP_pure rfl rfl tl_4 ?_
    refine XP_icN (x := 2) (y := 5) rfl (by omega) (by omega) (fun (b13 : 5 ≤ 2) => absurd b13 (by omega)) (fun (b13 : 2 < 5) => ?_)
    refine XP_n 4 (pc' := 18) (ls' := [.ref (9), .int (nI (q)), .int (nI (e)), .ref (9008), .int (nI (2))]) (st' := [.int ((nI (q)) + (nI (2))), .ref (9)]) (M' := (I, J, Rx R, N, G)) rfl ?_
    rw [show (nI (q)) + (nI (2)) = nI (q + 2) from nI_addE (rfl) (rfl)]
    refine XP_pure rfl rfl (c_byteAt hT hL (show q + 2 < L by omega)) ?_
    refine XP_n 2 (pc' := 21) (ls' := [.ref (9), .int (nI (q)), .int (nI (e)), .ref (9008), .int (nI (2))]) (st' := [.int (nI (2)), .ref (9008), .int (nI (b (q + 2)))]) (M' := (I, J, Rx R, N, G)) rfl ?_
    refine XP_pure rfl rfl tc_4_2 ?_
    refine XP_icN (x := b (q + 2)) (y := 118) rfl (by omega) (by omega) (fun (b22 : b (q + 2) = 118) => ?_) (fun (b22 : ¬ b (q + 2) = 118) => absurd b22 (by omega))
    refine XP_n 1 (pc' := 26) (ls' := [.ref (9), .int (nI (q)), .int (nI (e)), .ref (9008), .int (nI (2) + nI (1))]) (st' := []) (M' := (I, J, Rx R, N, G)) rfl ?_
    rw [show nI (2) + nI (1) = nI (3) from nI_addE (rfl) rfl]
    refine XP_n 3 (pc' := 12) (ls' := [.ref (9), .int (nI (q)), .int (nI (e)), .ref (9008), .int (nI (3))]) (st' := [.ref (9008), .int (nI (3))]) (M' := (I, J, Rx R, N, G)) rfl ?_
    refine XP_pure rfl rfl tl_4 ?_
    refine XP_icN (x := 3) (y := 5) rfl (by omega) (by omega) (fun (b13 : 5 ≤ 3) => absurd b13 (by omega)) (fun (b13 : 3 < 5) => ?_)
    refine XP_n 4 (pc' := 18) (ls' := [.ref (9), .int (nI (q)), .int (nI (e)), .ref (9008), .int (nI (3))]) (st' := [.int ((nI (q)) + (nI (3))), .ref (9)]) (M' := (I, J, Rx R, N, G)) rfl ?_
    rw [show (nI (q)) + (nI (3)) = nI (q + 3) from nI_addE (rfl) (rfl)]
    refine XP_pure rfl rfl (c_byteAt hT hL (show q + 3 < L by omega)) ?_
    refine XP_n 2 (pc' := 21) (ls' := [.ref (9), .int (nI (q)), .int (nI (e)), .ref (9008), .int (nI (3))]) (st' := [.int (nI (3)), .ref (9008), .int (nI (b (q + 3)))]) (M' := (I, J, Rx R, N, G)) rfl ?_
    refine XP_pure rfl rfl tc_4_3 ?_
    refine XP_icN (x := b (q + 3)) (y := 101) rfl (by omega) (by omega) (fun (b22 : b (q + 3) = 101) => ?_) (fun (b22 : ¬ b (q + 3) = 101) => absurd b22 (by omega))
    refine XP_n 1 (pc' := 26) (ls' := [.ref (9), .int (nI (q)), .int (nI (e)), .ref (9008), .int (nI (3) + nI (1))]) (st' := []) (M' := (I, J, Rx R, N, G)) rfl ?_
    rw [show nI (3) + nI (1) = nI (4) from nI_addE (rfl) rfl]
    refine XP_n 3 (pc' := 12) (ls' := [.ref (9), .int (nI (q)), .int (nI (e)), .ref (9008), .int (nI (4))]) (st' := [.ref (9008), .int (nI (4))]) (M' := (I, J, Rx R, N, G)) rfl ?_
    refine XP_pure rfl rfl tl_4 ?_
    refine XP_icN (x := 4) (y := 5) rfl (by omega) (by omega) (fun (b13 : 5 ≤ 4) => absurd b13 (by omega)) (fun (b13 : 4 < 5) => ?_)
    refine XP_n 4 (pc' := 18) (ls' := [.ref (9), .int (nI (q)), .int (nI (e)), .ref (9008), .int (nI (4))]) (st' := [.int ((nI (q)) + (nI (4))), .ref (9)]) (M' := (I, J, Rx R, N, G)) rfl ?_
    rw [show (nI (q)) + (nI (4)) = nI (q + 4) from nI_addE (rfl) (rfl)]
    refine XP_pure rfl rfl (c_byteAt hT hL (show q + 4 < L by omega)) ?_
    refine XP_n 2 (pc' := 21) (ls' := [.ref (9), .int (nI (q)), .int (nI (e)), .ref (9008), .int (nI (4))]) (st' := [.int (nI (4)), .ref (9008), .int (nI (b (q + 4)))]) (M' := (I, J, Rx R, N, G)) rfl ?_
    refine XP_pure rfl rfl tc_4_4 ?_
    refine XP_icN (x := b (q + 4)) (y := 108) rfl (by omega) (by omega) (fun (b22 : b (q + 4) = 108) => absurd b22 (by omega)) (fun (b22 : ¬ b (q + 4) = 108) => ?_)
    refine XP_n 1 (pc' := 24) (ls' := [.ref (9), .int (nI (q)), .int (nI (e)), .ref (9008), .int (nI (4))]) (st' := [.int (nI (0))]) (M' := (I, J, Rx R, N, G)) rfl ?_
    exact XP_ret rfl ⟨rfl, rfl⟩
  refine absurd ⟨hl, fun j hj => ?_⟩ h
  have hj : j < 5 := hj
  have hc : j = 0 ∨ j = 1 ∨ j = 2 ∨ j = 3 ∨ j = 4 := by omega
  rcases hc with rfl | rfl | rfl | rfl | rfl
  · exact h0
  · exact h1
  · exact h2
  · exact h3
  · exact h4
theorem c_spT5 (hT : Tp I b L) (hL : L ≤ 160) {q e : Nat} (hqe : q ≤ e) (he : e ≤ L) (h : mW b q e 7) : TP X (d + 8) n_Reader_spells [.ref 9, .int (nI q), .int (nI e), .ref 9010] (I, J, Rx R, N, G) (Ret (.int (nI 1)) (I, J, Rx R, N, G)) := by
  have hl : e - q = 4 := h.1
  have h0 : b (q + 0) = 121 := h.2 0 (by decide)
  have h1 : b (q + 1) = 101 := h.2 1 (by decide)
  have h2 : b (q + 2) = 97 := h.2 2 (by decide)
  have h3 : b (q + 3) = 114 := h.2 3 (by decide)
  unfold TP
  show XP X _ k_Reader_spells 0 [.ref (9), .int (nI (q)), .int (nI (e)), .ref (9010), xj] [] _ _
  refine XP_n 4 (pc' := 4) (ls' := [.ref (9), .int (nI (q)), .int (nI (e)), .ref (9010), xj]) (st' := [.ref (9010), .int ((nI (e)) - (nI (q)))]) (M' := (I, J, Rx R, N, G)) rfl ?_
  rw [show (nI (e)) - (nI (q)) = nI (e - q) from nI_subE (rfl) (rfl) (by omega)]
  refine XP_pure rfl rfl tl_5 ?_
  refine XP_icN (x := e - q) (y := 4) rfl (by omega) (by omega) (fun (b5 : e - q = 4) => ?_) (fun (b5 : ¬ e - q = 4) => absurd b5 (by omega))
  refine XP_n 4 (pc' := 12) (ls' := [.ref (9), .int (nI (q)), .int (nI (e)), .ref (9010), .int (nI (0))]) (st' := [.ref (9010), .int (nI (0))]) (M' := (I, J, Rx R, N, G)) rfl ?_
  refine XP_pure rfl rfl tl_5 ?_
  refine XP_icN (x := 0) (y := 4) rfl (by omega) (by omega) (fun (b13 : 4 ≤ 0) => absurd b13 (by omega)) (fun (b13 : 0 < 4) => ?_)
  refine XP_n 4 (pc' := 18) (ls' := [.ref (9), .int (nI (q)), .int (nI (e)), .ref (9010), .int (nI (0))]) (st' := [.int ((nI (q)) + (nI (0))), .ref (9)]) (M' := (I, J, Rx R, N, G)) rfl ?_
  rw [show (nI (q)) + (nI (0)) = nI (q + 0) from nI_addE (rfl) (rfl)]
  refine XP_pure rfl rfl (c_byteAt hT hL (show q + 0 < L by omega)) ?_
  refine XP_n 2 (pc' := 21) (ls' := [.ref (9), .int (nI (q)), .int (nI (e)), .ref (9010), .int (nI (0))]) (st' := [.int (nI (0)), .ref (9010), .int (nI (b (q + 0)))]) (M' := (I, J, Rx R, N, G)) rfl ?_
  refine XP_pure rfl rfl tc_5_0 ?_
  refine XP_icN (x := b (q + 0)) (y := 121) rfl (by omega) (by omega) (fun (b22 : b (q + 0) = 121) => ?_) (fun (b22 : ¬ b (q + 0) = 121) => absurd b22 (by omega))
  refine XP_n 1 (pc' := 26) (ls' := [.ref (9), .int (nI (q)), .int (nI (e)), .ref (9010), .int (nI (0) + nI (1))]) (st' := []) (M' := (I, J, Rx R, N, G)) rfl ?_
  rw [show nI (0) + nI (1) = nI (1) from nI_addE (rfl) rfl]
  refine XP_n 3 (pc' := 12) (ls' := [.ref (9), .int (nI (q)), .int (nI (e)), .ref (9010), .int (nI (1))]) (st' := [.ref (9010), .int (nI (1))]) (M' := (I, J, Rx R, N, G)) rfl ?_
  refine XP_pure rfl rfl tl_5 ?_
  refine XP_icN (x := 1) (y := 4) rfl (by omega) (by omega) (fun (b13 : 4 ≤ 1) => absurd b13 (by omega)) (fun (b13 : 1 < 4) => ?_)
  refine XP_n 4 (pc' := 18) (ls' := [.ref (9), .int (nI (q)), .int (nI (e)), .ref (9010), .int (nI (1))]) (st' := [.int ((nI (q)) + (nI (1))), .ref (9)]) (M' := (I, J, Rx R, N, G)) rfl ?_
  rw [show (nI (q)) + (nI (1)) = nI (q + 1) from nI_addE (rfl) (rfl)]
  refine XP_pure rfl rfl (c_byteAt hT hL (show q + 1 < L by omega)) ?_
  refine XP_n 2 (pc' := 21) (ls' := [.ref (9), .int (nI (q)), .int (nI (e)), .ref (9010), .int (nI (1))]) (st' := [.int (nI (1)), .ref (9010), .int (nI (b (q + 1)))]) (M' := (I, J, Rx R, N, G)) rfl ?_
  refine XP_pure rfl rfl tc_5_1 ?_
  refine XP_icN (x := b (q + 1)) (y := 101) rfl (by omega) (by omega) (fun (b22 : b (q + 1) = 101) => ?_) (fun (b22 : ¬ b (q + 1) = 101) => absurd b22 (by omega))
  refine XP_n 1 (pc' := 26) (ls' := [.ref (9), .int (nI (q)), .int (nI (e)), .ref (9010), .int (nI (1) + nI (1))]) (st' := []) (M' := (I, J, Rx R, N, G)) rfl ?_
  rw [show nI (1) + nI (1) = nI (2) from nI_addE (rfl) rfl]
  refine XP_n 3 (pc' := 12) (ls' := [.ref (9), .int (nI (q)), .int (nI (e)), .ref (9010), .int (nI (2))]) (st' := [.ref (9010), .int (nI (2))]) (M' := (I, J, Rx R, N, G)) rfl ?_
  refine XP_pure rfl rfl tl_5 ?_
  refine XP_icN (x := 2) (y := 4) rfl (by omega) (by omega) (fun (b13 : 4 ≤ 2) => absurd b13 (by omega)) (fun (b13 : 2 < 4) => ?_)
  refine XP_n 4 (pc' := 18) (ls' := [.ref (9), .int (nI (q)), .int (nI (e)), .ref (9010), .int (nI (2))]) (st' := [.int ((nI (q)) + (nI (2))), .ref (9)]) (M' := (I, J, Rx R, N, G)) rfl ?_
  rw [show (nI (q)) + (nI (2)) = nI (q + 2) from nI_addE (rfl) (rfl)]
  refine XP_pure rfl rfl (c_byteAt hT hL (show q + 2 < L by omega)) ?_
  refine XP_n 2 (pc' := 21) (ls' := [.ref (9), .int (nI (q)), .int (nI (e)), .ref (9010), .int (nI (2))]) (st' := [.int (nI (2)), .ref (9010), .int (nI (b (q + 2)))]) (M' := (I, J, Rx R, N, G)) rfl ?_
  refine XP_pure rfl rfl tc_5_2 ?_
  refine XP_icN (x := b (q + 2)) (y := 97) rfl (by omega) (by omega) (fun (b22 : b (q + 2) = 97) => ?_) (fun (b22 : ¬ b (q + 2) = 97) => absurd b22 (by omega))
  refine XP_n 1 (pc' := 26) (ls' := [.ref (9), .int (nI (q)), .int (nI (e)), .ref (9010), .int (nI (2) + nI (1))]) (st' := []) (M' := (I, J, Rx R, N, G)) rfl ?_
  rw [show nI (2) + nI (1) = nI (3) from nI_addE (rfl) rfl]
  refine XP_n 3 (pc' := 12) (ls' := [.ref (9), .int (nI (q)), .int (nI (e)), .ref (9010), .int (nI (3))]) (st' := [.ref (9010), .int (nI (3))]) (M' := (I, J, Rx R, N, G)) rfl ?_
  refine XP_pure rfl rfl tl_5 ?_
  refine XP_icN (x := 3) (y := 4) rfl (by omega) (by omega) (fun (b13 : 4 ≤ 3) => absurd b13 (by omega)) (fun (b13 : 3 < 4) => ?_)
  refine XP_n 4 (pc' := 18) (ls' := [.ref (9), .int (nI (q)), .int (nI (e)), .ref (9010), .int (nI (3))]) (st' := [.int ((nI (q)) + (nI (3))), .ref (9)]) (M' := (I, J, Rx R, N, G)) rfl ?_
  rw [show (nI (q)) + (nI (3)) = nI (q + 3) from nI_addE (rfl) (rfl)]
  refine XP_pure rfl rfl (c_byteAt hT hL (show q + 3 < L by omega)) ?_
  refine XP_n 2 (pc' := 21) (ls' := [.ref (9), .int (nI (q)), .int (nI (e)), .ref (9010), .int (nI (3))]) (st' := [.int (nI (3)), .ref (9010), .int (nI (b (q + 3)))]) (M' := (I, J, Rx R, N, G)) rfl ?_
  refine XP_pure rfl rfl tc_5_3 ?_
  refine XP_icN (x := b (q + 3)) (y := 114) rfl (by omega) (by omega) (fun (b22 : b (q + 3) = 114) => ?_) (fun (b22 : ¬ b (q + 3) = 114) => absurd b22 (by omega))
  refine XP_n 1 (pc' := 26) (ls' := [.ref (9), .int (nI (q)), .int (nI (e)), .ref (9010), .int (nI (3) + nI (1))]) (st' := []) (M' := (I, J, Rx R, N, G)) rfl ?_
  rw [show nI (3) + nI (1) = nI (4) from nI_addE (rfl) rfl]
  refine XP_n 3 (pc' := 12) (ls' := [.ref (9), .int (nI (q)), .int (nI (e)), .ref (9010), .int (nI (4))]) (st' := [.ref (9010), .int (nI (4))]) (M' := (I, J, Rx R, N, G)) rfl ?_
  refine XP_pure rfl rfl tl_5 ?_
  refine XP_icN (x := 4) (y := 4) rfl (by omega) (by omega) (fun (b13 : 4 ≤ 4) => ?_) (fun (b13 : 4 < 4) => absurd b13 (by omega))
  refine XP_n 1 (pc' := 28) (ls' := [.ref (9), .int (nI (q)), .int (nI (e)), .ref (9010), .int (nI (4))]) (st' := [.int (nI (1))]) (M' := (I, J, Rx R, N, G)) rfl ?_
  exact XP_ret rfl ⟨rfl, rfl⟩
theorem c_spF5 (hT : Tp I b L) (hL : L ≤ 160) (hb : ∀ i, i < L → b i ≤ 255) {q e : Nat} (hqe : q ≤ e) (he : e ≤ L) (h : ¬ mW b q e 7) : TP X (d + 8) n_Reader_spells [.ref 9, .int (nI q), .int (nI e), .ref 9010] (I, J, Rx R, N, G) (Ret (.int (nI 0)) (I, J, Rx R, N, G)) := by
  by_cases hl : e - q = 4
  rotate_left
  · skip
    unfold TP
    show XP X _ k_Reader_spells 0 [.ref (9), .int (nI (q)), .int (nI (e)), .ref (9010), xj] [] _ _
    refine XP_n 4 (pc' := 4) (ls' := [.ref (9), .int (nI (q)), .int (nI (e)), .ref (9010), xj]) (st' := [.ref (9010), .int ((nI (e)) - (nI (q)))]) (M' := (I, J, Rx R, N, G)) rfl ?_
    rw [show (nI (e)) - (nI (q)) = nI (e - q) from nI_subE (rfl) (rfl) (by omega)]
    refine XP_pure rfl rfl tl_5 ?_
    refine XP_icN (x := e - q) (y := 4) rfl (by omega) (by omega) (fun (b5 : e - q = 4) => absurd b5 (by omega)) (fun (b5 : ¬ e - q = 4) => ?_)
    refine XP_n 1 (pc' := 7) (ls' := [.ref (9), .int (nI (q)), .int (nI (e)), .ref (9010), xj]) (st' := [.int (nI (0))]) (M' := (I, J, Rx R, N, G)) rfl ?_
    exact XP_ret rfl ⟨rfl, rfl⟩
  have q0 := hb (q + 0) (by omega)
  have q1 := hb (q + 1) (by omega)
  have q2 := hb (q + 2) (by omega)
  have q3 := hb (q + 3) (by omega)
  by_cases h0 : b (q + 0) = 121
  rotate_left
  · skip
    unfold TP
    show XP X _ k_Reader_spells 0 [.ref (9), .int (nI (q)), .int (nI (e)), .ref (9010), xj] [] _ _
    refine XP_n 4 (pc' := 4) (ls' := [.ref (9), .int (nI (q)), .int (nI (e)), .ref (9010), xj]) (st' := [.ref (9010), .int ((nI (e)) - (nI (q)))]) (M' := (I, J, Rx R, N, G)) rfl ?_
    rw [show (nI (e)) - (nI (q)) = nI (e - q) from nI_subE (rfl) (rfl) (by omega)]
    refine XP_pure rfl rfl tl_5 ?_
    refine XP_icN (x := e - q) (y := 4) rfl (by omega) (by omega) (fun (b5 : e - q = 4) => ?_) (fun (b5 : ¬ e - q = 4) => absurd b5 (by omega))
    refine XP_n 4 (pc' := 12) (ls' := [.ref (9), .int (nI (q)), .int (nI (e)), .ref (9010), .int (nI (0))]) (st' := [.ref (9010), .int (nI (0))]) (M' := (I, J, Rx R, N, G)) rfl ?_
    refine XP_pure rfl rfl tl_5 ?_
    refine XP_icN (x := 0) (y := 4) rfl (by omega) (by omega) (fun (b13 : 4 ≤ 0) => absurd b13 (by omega)) (fun (b13 : 0 < 4) => ?_)
    refine XP_n 4 (pc' := 18) (ls' := [.ref (9), .int (nI (q)), .int (nI (e)), .ref (9010), .int (nI (0))]) (st' := [.int ((nI (q)) + (nI (0))), .ref (9)]) (M' := (I, J, Rx R, N, G)) rfl ?_
    rw [show (nI (q)) + (nI (0)) = nI (q + 0) from nI_addE (rfl) (rfl)]
    refine XP_pure rfl rfl (c_byteAt hT hL (show q + 0 < L by omega)) ?_
    refine XP_n 2 (pc' := 21) (ls' := [.ref (9), .int (nI (q)), .int (nI (e)), .ref (9010), .int (nI (0))]) (st' := [.int (nI (0)), .ref (9010), .int (nI (b (q + 0)))]) (M' := (I, J, Rx R, N, G)) rfl ?_
    refine XP_pure rfl rfl tc_5_0 ?_
    refine XP_icN (x := b (q + 0)) (y := 121) rfl (by omega) (by omega) (fun (b22 : b (q + 0) = 121) => absurd b22 (by omega)) (fun (b22 : ¬ b (q + 0) = 121) => ?_)
    refine XP_n 1 (pc' := 24) (ls' := [.ref (9), .int (nI (q)), .int (nI (e)), .ref (9010), .int (nI (0))]) (st' := [.int (nI (0))]) (M' := (I, J, Rx R, N, G)) rfl ?_
    exact XP_ret rfl ⟨rfl, rfl⟩
  by_cases h1 : b (q + 1) = 101
  rotate_left
  · skip
    unfold TP
    show XP X _ k_Reader_spells 0 [.ref (9), .int (nI (q)), .int (nI (e)), .ref (9010), xj] [] _ _
    refine XP_n 4 (pc' := 4) (ls' := [.ref (9), .int (nI (q)), .int (nI (e)), .ref (9010), xj]) (st' := [.ref (9010), .int ((nI (e)) - (nI (q)))]) (M' := (I, J, Rx R, N, G)) rfl ?_
    rw [show (nI (e)) - (nI (q)) = nI (e - q) from nI_subE (rfl) (rfl) (by omega)]
    refine XP_pure rfl rfl tl_5 ?_
    refine XP_icN (x := e - q) (y := 4) rfl (by omega) (by omega) (fun (b5 : e - q = 4) => ?_) (fun (b5 : ¬ e - q = 4) => absurd b5 (by omega))
    refine XP_n 4 (pc' := 12) (ls' := [.ref (9), .int (nI (q)), .int (nI (e)), .ref (9010), .int (nI (0))]) (st' := [.ref (9010), .int (nI (0))]) (M' := (I, J, Rx R, N, G)) rfl ?_
    refine XP_pure rfl rfl tl_5 ?_
    refine XP_icN (x := 0) (y := 4) rfl (by omega) (by omega) (fun (b13 : 4 ≤ 0) => absurd b13 (by omega)) (fun (b13 : 0 < 4) => ?_)
    refine XP_n 4 (pc' := 18) (ls' := [.ref (9), .int (nI (q)), .int (nI (e)), .ref (9010), .int (nI (0))]) (st' := [.int ((nI (q)) + (nI (0))), .ref (9)]) (M' := (I, J, Rx R, N, G)) rfl ?_
    rw [show (nI (q)) + (nI (0)) = nI (q + 0) from nI_addE (rfl) (rfl)]
    refine XP_pure rfl rfl (c_byteAt hT hL (show q + 0 < L by omega)) ?_
    refine XP_n 2 (pc' := 21) (ls' := [.ref (9), .int (nI (q)), .int (nI (e)), .ref (9010), .int (nI (0))]) (st' := [.int (nI (0)), .ref (9010), .int (nI (b (q + 0)))]) (M' := (I, J, Rx R, N, G)) rfl ?_
    refine XP_pure rfl rfl tc_5_0 ?_
    refine XP_icN (x := b (q + 0)) (y := 121) rfl (by omega) (by omega) (fun (b22 : b (q + 0) = 121) => ?_) (fun (b22 : ¬ b (q + 0) = 121) => absurd b22 (by omega))
    refine XP_n 1 (pc' := 26) (ls' := [.ref (9), .int (nI (q)), .int (nI (e)), .ref (9010), .int (nI (0) + nI (1))]) (st' := []) (M' := (I, J, Rx R, N, G)) rfl ?_
    rw [show nI (0) + nI (1) = nI (1) from nI_addE (rfl) rfl]
    refine XP_n 3 (pc' := 12) (ls' := [.ref (9), .int (nI (q)), .int (nI (e)), .ref (9010), .int (nI (1))]) (st' := [.ref (9010), .int (nI (1))]) (M' := (I, J, Rx R, N, G)) rfl ?_
    refine XP_pure rfl rfl tl_5 ?_
    refine XP_icN (x := 1) (y := 4) rfl (by omega) (by omega) (fun (b13 : 4 ≤ 1) => absurd b13 (by omega)) (fun (b13 : 1 < 4) => ?_)
    refine XP_n 4 (pc' := 18) (ls' := [.ref (9), .int (nI (q)), .int (nI (e)), .ref (9010), .int (nI (1))]) (st' := [.int ((nI (q)) + (nI (1))), .ref (9)]) (M' := (I, J, Rx R, N, G)) rfl ?_
    rw [show (nI (q)) + (nI (1)) = nI (q + 1) from nI_addE (rfl) (rfl)]
    refine XP_pure rfl rfl (c_byteAt hT hL (show q + 1 < L by omega)) ?_
    refine XP_n 2 (pc' := 21) (ls' := [.ref (9), .int (nI (q)), .int (nI (e)), .ref (9010), .int (nI (1))]) (st' := [.int (nI (1)), .ref (9010), .int (nI (b (q + 1)))]) (M' := (I, J, Rx R, N, G)) rfl ?_
    refine XP_pure rfl rfl tc_5_1 ?_
    refine XP_icN (x := b (q + 1)) (y := 101) rfl (by omega) (by omega) (fun (b22 : b (q + 1) = 101) => absurd b22 (by omega)) (fun (b22 : ¬ b (q + 1) = 101) => ?_)
    refine XP_n 1 (pc' := 24) (ls' := [.ref (9), .int (nI (q)), .int (nI (e)), .ref (9010), .int (nI (1))]) (st' := [.int (nI (0))]) (M' := (I, J, Rx R, N, G)) rfl ?_
    exact XP_ret rfl ⟨rfl, rfl⟩
  by_cases h2 : b (q + 2) = 97
  rotate_left
  · skip
    unfold TP
    show XP X _ k_Reader_spells 0 [.ref (9), .int (nI (q)), .int (nI (e)), .ref (9010), xj] [] _ _
    refine XP_n 4 (pc' := 4) (ls' := [.ref (9), .int (nI (q)), .int (nI (e)), .ref (9010), xj]) (st' := [.ref (9010), .int ((nI (e)) - (nI (q)))]) (M' := (I, J, Rx R, N, G)) rfl ?_
    rw [show (nI (e)) - (nI (q)) = nI (e - q) from nI_subE (rfl) (rfl) (by omega)]
    refine XP_pure rfl rfl tl_5 ?_
    refine XP_icN (x := e - q) (y := 4) rfl (by omega) (by omega) (fun (b5 : e - q = 4) => ?_) (fun (b5 : ¬ e - q = 4) => absurd b5 (by omega))
    refine XP_n 4 (pc' := 12) (ls' := [.ref (9), .int (nI (q)), .int (nI (e)), .ref (9010), .int (nI (0))]) (st' := [.ref (9010), .int (nI (0))]) (M' := (I, J, Rx R, N, G)) rfl ?_
    refine XP_pure rfl rfl tl_5 ?_
    refine XP_icN (x := 0) (y := 4) rfl (by omega) (by omega) (fun (b13 : 4 ≤ 0) => absurd b13 (by omega)) (fun (b13 : 0 < 4) => ?_)
    refine XP_n 4 (pc' := 18) (ls' := [.ref (9), .int (nI (q)), .int (nI (e)), .ref (9010), .int (nI (0))]) (st' := [.int ((nI (q)) + (nI (0))), .ref (9)]) (M' := (I, J, Rx R, N, G)) rfl ?_
    rw [show (nI (q)) + (nI (0)) = nI (q + 0) from nI_addE (rfl) (rfl)]
    refine XP_pure rfl rfl (c_byteAt hT hL (show q + 0 < L by omega)) ?_
    refine XP_n 2 (pc' := 21) (ls' := [.ref (9), .int (nI (q)), .int (nI (e)), .ref (9010), .int (nI (0))]) (st' := [.int (nI (0)), .ref (9010), .int (nI (b (q + 0)))]) (M' := (I, J, Rx R, N, G)) rfl ?_
    refine XP_pure rfl rfl tc_5_0 ?_
    refine XP_icN (x := b (q + 0)) (y := 121) rfl (by omega) (by omega) (fun (b22 : b (q + 0) = 121) => ?_) (fun (b22 : ¬ b (q + 0) = 121) => absurd b22 (by omega))
    refine XP_n 1 (pc' := 26) (ls' := [.ref (9), .int (nI (q)), .int (nI (e)), .ref (9010), .int (nI (0) + nI (1))]) (st' := []) (M' := (I, J, Rx R, N, G)) rfl ?_
    rw [show nI (0) + nI (1) = nI (1) from nI_addE (rfl) rfl]
    refine XP_n 3 (pc' := 12) (ls' := [.ref (9), .int (nI (q)), .int (nI (e)), .ref (9010), .int (nI (1))]) (st' := [.ref (9010), .int (nI (1))]) (M' := (I, J, Rx R, N, G)) rfl ?_
    refine XP_pure rfl rfl tl_5 ?_
    refine XP_icN (x := 1) (y := 4) rfl (by omega) (by omega) (fun (b13 : 4 ≤ 1) => absurd b13 (by omega)) (fun (b13 : 1 < 4) => ?_)
    refine XP_n 4 (pc' := 18) (ls' := [.ref (9), .int (nI (q)), .int (nI (e)), .ref (9010), .int (nI (1))]) (st' := [.int ((nI (q)) + (nI (1))), .ref (9)]) (M' := (I, J, Rx R, N, G)) rfl ?_
    rw [show (nI (q)) + (nI (1)) = nI (q + 1) from nI_addE (rfl) (rfl)]
    refine XP_pure rfl rfl (c_byteAt hT hL (show q + 1 < L by omega)) ?_
    refine XP_n 2 (pc' := 21) (ls' := [.ref (9), .int (nI (q)), .int (nI (e)), .ref (9010), .int (nI (1))]) (st' := [.int (nI (1)), .ref (9010), .int (nI (b (q + 1)))]) (M' := (I, J, Rx R, N, G)) rfl ?_
    refine XP_pure rfl rfl tc_5_1 ?_
    refine XP_icN (x := b (q + 1)) (y := 101) rfl (by omega) (by omega) (fun (b22 : b (q + 1) = 101) => ?_) (fun (b22 : ¬ b (q + 1) = 101) => absurd b22 (by omega))
    refine XP_n 1 (pc' := 26) (ls' := [.ref (9), .int (nI (q)), .int (nI (e)), .ref (9010), .int (nI (1) + nI (1))]) (st' := []) (M' := (I, J, Rx R, N, G)) rfl ?_
    rw [show nI (1) + nI (1) = nI (2) from nI_addE (rfl) rfl]
    refine XP_n 3 (pc' := 12) (ls' := [.ref (9), .int (nI (q)), .int (nI (e)), .ref (9010), .int (nI (2))]) (st' := [.ref (9010), .int (nI (2))]) (M' := (I, J, Rx R, N, G)) rfl ?_
    refine XP_pure rfl rfl tl_5 ?_
    refine XP_icN (x := 2) (y := 4) rfl (by omega) (by omega) (fun (b13 : 4 ≤ 2) => absurd b13 (by omega)) (fun (b13 : 2 < 4) => ?_)
    refine XP_n 4 (pc' := 18) (ls' := [.ref (9), .int (nI (q)), .int (nI (e)), .ref (9010), .int (nI (2))]) (st' := [.int ((nI (q)) + (nI (2))), .ref (9)]) (M' := (I, J, Rx R, N, G)) rfl ?_
    rw [show (nI (q)) + (nI (2)) = nI (q + 2) from nI_addE (rfl) (rfl)]
    refine XP_pure rfl rfl (c_byteAt hT hL (show q + 2 < L by omega)) ?_
    refine XP_n 2 (pc' := 21) (ls' := [.ref (9), .int (nI (q)), .int (nI (e)), .ref (9010), .int (nI (2))]) (st' := [.int (nI (2)), .ref (9010), .int (nI (b (q + 2)))]) (M' := (I, J, Rx R, N, G)) rfl ?_
    refine XP_pure rfl rfl tc_5_2 ?_
    refine XP_icN (x := b (q + 2)) (y := 97) rfl (by omega) (by omega) (fun (b22 : b (q + 2) = 97) => absurd b22 (by omega)) (fun (b22 : ¬ b (q + 2) = 97) => ?_)
    refine XP_n 1 (pc' := 24) (ls' := [.ref (9), .int (nI (q)), .int (nI (e)), .ref (9010), .int (nI (2))]) (st' := [.int (nI (0))]) (M' := (I, J, Rx R, N, G)) rfl ?_
    exact XP_ret rfl ⟨rfl, rfl⟩
  by_cases h3 : b (q + 3) = 114
  rotate_left
  · skip
    unfold TP
    show XP X _ k_Reader_spells 0 [.ref (9), .int (nI (q)), .int (nI (e)), .ref (9010), xj] [] _ _
    refine XP_n 4 (pc' := 4) (ls' := [.ref (9), .int (nI (q)), .int (nI (e)), .ref (9010), xj]) (st' := [.ref (9010), .int ((nI (e)) - (nI (q)))]) (M' := (I, J, Rx R, N, G)) rfl ?_
    rw [show (nI (e)) - (nI (q)) = nI (e - q) from nI_subE (rfl) (rfl) (by omega)]
    refine XP_pure rfl rfl tl_5 ?_
    refine XP_icN (x := e - q) (y := 4) rfl (by omega) (by omega) (fun (b5 : e - q = 4) => ?_) (fun (b5 : ¬ e - q = 4) => absurd b5 (by omega))
    refine XP_n 4 (pc' := 12) (ls' := [.ref (9), .int (nI (q)), .int (nI (e)), .ref (9010), .int (nI (0))]) (st' := [.ref (9010), .int (nI (0))]) (M' := (I, J, Rx R, N, G)) rfl ?_
    refine XP_pure rfl rfl tl_5 ?_
    refine XP_icN (x := 0) (y := 4) rfl (by omega) (by omega) (fun (b13 : 4 ≤ 0) => absurd b13 (by omega)) (fun (b13 : 0 < 4) => ?_)
    refine XP_n 4 (pc' := 18) (ls' := [.ref (9), .int (nI (q)), .int (nI (e)), .ref (9010), .int (nI (0))]) (st' := [.int ((nI (q)) + (nI (0))), .ref (9)]) (M' := (I, J, Rx R, N, G)) rfl ?_
    rw [show (nI (q)) + (nI (0)) = nI (q + 0) from nI_addE (rfl) (rfl)]
    refine XP_pure rfl rfl (c_byteAt hT hL (show q + 0 < L by omega)) ?_
    refine XP_n 2 (pc' := 21) (ls' := [.ref (9), .int (nI (q)), .int (nI (e)), .ref (9010), .int (nI (0))]) (st' := [.int (nI (0)), .ref (9010), .int (nI (b (q + 0)))]) (M' := (I, J, Rx R, N, G)) rfl ?_
    refine XP_pure rfl rfl tc_5_0 ?_
    refine XP_icN (x := b (q + 0)) (y := 121) rfl (by omega) (by omega) (fun (b22 : b (q + 0) = 121) => ?_) (fun (b22 : ¬ b (q + 0) = 121) => absurd b22 (by omega))
    refine XP_n 1 (pc' := 26) (ls' := [.ref (9), .int (nI (q)), .int (nI (e)), .ref (9010), .int (nI (0) + nI (1))]) (st' := []) (M' := (I, J, Rx R, N, G)) rfl ?_
    rw [show nI (0) + nI (1) = nI (1) from nI_addE (rfl) rfl]
    refine XP_n 3 (pc' := 12) (ls' := [.ref (9), .int (nI (q)), .int (nI (e)), .ref (9010), .int (nI (1))]) (st' := [.ref (9010), .int (nI (1))]) (M' := (I, J, Rx R, N, G)) rfl ?_
    refine XP_pure rfl rfl tl_5 ?_
    refine XP_icN (x := 1) (y := 4) rfl (by omega) (by omega) (fun (b13 : 4 ≤ 1) => absurd b13 (by omega)) (fun (b13 : 1 < 4) => ?_)
    refine XP_n 4 (pc' := 18) (ls' := [.ref (9), .int (nI (q)), .int (nI (e)), .ref (9010), .int (nI (1))]) (st' := [.int ((nI (q)) + (nI (1))), .ref (9)]) (M' := (I, J, Rx R, N, G)) rfl ?_
    rw [show (nI (q)) + (nI (1)) = nI (q + 1) from nI_addE (rfl) (rfl)]
    refine XP_pure rfl rfl (c_byteAt hT hL (show q + 1 < L by omega)) ?_
    refine XP_n 2 (pc' := 21) (ls' := [.ref (9), .int (nI (q)), .int (nI (e)), .ref (9010), .int (nI (1))]) (st' := [.int (nI (1)), .ref (9010), .int (nI (b (q + 1)))]) (M' := (I, J, Rx R, N, G)) rfl ?_
    refine XP_pure rfl rfl tc_5_1 ?_
    refine XP_icN (x := b (q + 1)) (y := 101) rfl (by omega) (by omega) (fun (b22 : b (q + 1) = 101) => ?_) (fun (b22 : ¬ b (q + 1) = 101) => absurd b22 (by omega))
    refine XP_n 1 (pc' := 26) (ls' := [.ref (9), .int (nI (q)), .int (nI (e)), .ref (9010), .int (nI (1) + nI (1))]) (st' := []) (M' := (I, J, Rx R, N, G)) rfl ?_
    rw [show nI (1) + nI (1) = nI (2) from nI_addE (rfl) rfl]
    refine XP_n 3 (pc' := 12) (ls' := [.ref (9), .int (nI (q)), .int (nI (e)), .ref (9010), .int (nI (2))]) (st' := [.ref (9010), .int (nI (2))]) (M' := (I, J, Rx R, N, G)) rfl ?_
    refine XP_pure rfl rfl tl_5 ?_
    refine XP_icN (x := 2) (y := 4) rfl (by omega) (by omega) (fun (b13 : 4 ≤ 2) => absurd b13 (by omega)) (fun (b13 : 2 < 4) => ?_)
    refine XP_n 4 (pc' := 18) (ls' := [.ref (9), .int (nI (q)), .int (nI (e)), .ref (9010), .int (nI (2))]) (st' := [.int ((nI (q)) + (nI (2))), .ref (9)]) (M' := (I, J, Rx R, N, G)) rfl ?_
    rw [show (nI (q)) + (nI (2)) = nI (q + 2) from nI_addE (rfl) (rfl)]
    refine XP_pure rfl rfl (c_byteAt hT hL (show q + 2 < L by omega)) ?_
    refine XP_n 2 (pc' := 21) (ls' := [.ref (9), .int (nI (q)), .int (nI (e)), .ref (9010), .int (nI (2))]) (st' := [.int (nI (2)), .ref (9010), .int (nI (b (q + 2)))]) (M' := (I, J, Rx R, N, G)) rfl ?_
    refine XP_pure rfl rfl tc_5_2 ?_
    refine XP_icN (x := b (q + 2)) (y := 97) rfl (by omega) (by omega) (fun (b22 : b (q + 2) = 97) => ?_) (fun (b22 : ¬ b (q + 2) = 97) => absurd b22 (by omega))
    refine XP_n 1 (pc' := 26) (ls' := [.ref (9), .int (nI (q)), .int (nI (e)), .ref (9010), .int (nI (2) + nI (1))]) (st' := []) (M' := (I, J, Rx R, N, G)) rfl ?_
    rw [show nI (2) + nI (1) = nI (3) from nI_addE (rfl) rfl]
    refine XP_n 3 (pc' := 12) (ls' := [.ref (9), .int (nI (q)), .int (nI (e)), .ref (9010), .int (nI (3))]) (st' := [.ref (9010), .int (nI (3))]) (M' := (I, J, Rx R, N, G)) rfl ?_
    refine XP_pure rfl rfl tl_5 ?_
    refine XP_icN (x := 3) (y := 4) rfl (by omega) (by omega) (fun (b13 : 4 ≤ 3) => absurd b13 (by omega)) (fun (b13 : 3 < 4) => ?_)
    refine XP_n 4 (pc' := 18) (ls' := [.ref (9), .int (nI (q)), .int (nI (e)), .ref (9010), .int (nI (3))]) (st' := [.int ((nI (q)) + (nI (3))), .ref (9)]) (M' := (I, J, Rx R, N, G)) rfl ?_
    rw [show (nI (q)) + (nI (3)) = nI (q + 3) from nI_addE (rfl) (rfl)]
    refine XP_pure rfl rfl (c_byteAt hT hL (show q + 3 < L by omega)) ?_
    refine XP_n 2 (pc' := 21) (ls' := [.ref (9), .int (nI (q)), .int (nI (e)), .ref (9010), .int (nI (3))]) (st' := [.int (nI (3)), .ref (9010), .int (nI (b (q + 3)))]) (M' := (I, J, Rx R, N, G)) rfl ?_
    refine XP_pure rfl rfl tc_5_3 ?_
    refine XP_icN (x := b (q + 3)) (y := 114) rfl (by omega) (by omega) (fun (b22 : b (q + 3) = 114) => absurd b22 (by omega)) (fun (b22 : ¬ b (q + 3) = 114) => ?_)
    refine XP_n 1 (pc' := 24) (ls' := [.ref (9), .int (nI (q)), .int (nI (e)), .ref (9010), .int (nI (3))]) (st' := [.int (nI (0))]) (M' := (I, J, Rx R, N, G)) rfl ?_
    exact XP_ret rfl ⟨rfl, rfl⟩
  refine absurd ⟨hl, fun j hj => ?_⟩ h
  have hj : j < 4 := hj
  have hc : j = 0 ∨ j = 1 ∨ j = 2 ∨ j = 3 := by omega
  rcases hc with rfl | rfl | rfl | rfl
  · exact h0
  · exact h1
  · exact h2
  · exact h3
theorem c_spT6 (hT : Tp I b L) (hL : L ≤ 160) {q e : Nat} (hqe : q ≤ e) (he : e ≤ L) (h : mW b q e 8) : TP X (d + 8) n_Reader_spells [.ref 9, .int (nI q), .int (nI e), .ref 9012] (I, J, Rx R, N, G) (Ret (.int (nI 1)) (I, J, Rx R, N, G)) := by
  have hl : e - q = 2 := h.1
  have h0 : b (q + 0) = 117 := h.2 0 (by decide)
  have h1 : b (q + 1) = 112 := h.2 1 (by decide)
  unfold TP
  show XP X _ k_Reader_spells 0 [.ref (9), .int (nI (q)), .int (nI (e)), .ref (9012), xj] [] _ _
  refine XP_n 4 (pc' := 4) (ls' := [.ref (9), .int (nI (q)), .int (nI (e)), .ref (9012), xj]) (st' := [.ref (9012), .int ((nI (e)) - (nI (q)))]) (M' := (I, J, Rx R, N, G)) rfl ?_
  rw [show (nI (e)) - (nI (q)) = nI (e - q) from nI_subE (rfl) (rfl) (by omega)]
  refine XP_pure rfl rfl tl_6 ?_
  refine XP_icN (x := e - q) (y := 2) rfl (by omega) (by omega) (fun (b5 : e - q = 2) => ?_) (fun (b5 : ¬ e - q = 2) => absurd b5 (by omega))
  refine XP_n 4 (pc' := 12) (ls' := [.ref (9), .int (nI (q)), .int (nI (e)), .ref (9012), .int (nI (0))]) (st' := [.ref (9012), .int (nI (0))]) (M' := (I, J, Rx R, N, G)) rfl ?_
  refine XP_pure rfl rfl tl_6 ?_
  refine XP_icN (x := 0) (y := 2) rfl (by omega) (by omega) (fun (b13 : 2 ≤ 0) => absurd b13 (by omega)) (fun (b13 : 0 < 2) => ?_)
  refine XP_n 4 (pc' := 18) (ls' := [.ref (9), .int (nI (q)), .int (nI (e)), .ref (9012), .int (nI (0))]) (st' := [.int ((nI (q)) + (nI (0))), .ref (9)]) (M' := (I, J, Rx R, N, G)) rfl ?_
  rw [show (nI (q)) + (nI (0)) = nI (q + 0) from nI_addE (rfl) (rfl)]
  refine XP_pure rfl rfl (c_byteAt hT hL (show q + 0 < L by omega)) ?_
  refine XP_n 2 (pc' := 21) (ls' := [.ref (9), .int (nI (q)), .int (nI (e)), .ref (9012), .int (nI (0))]) (st' := [.int (nI (0)), .ref (9012), .int (nI (b (q + 0)))]) (M' := (I, J, Rx R, N, G)) rfl ?_
  refine XP_pure rfl rfl tc_6_0 ?_
  refine XP_icN (x := b (q + 0)) (y := 117) rfl (by omega) (by omega) (fun (b22 : b (q + 0) = 117) => ?_) (fun (b22 : ¬ b (q + 0) = 117) => absurd b22 (by omega))
  refine XP_n 1 (pc' := 26) (ls' := [.ref (9), .int (nI (q)), .int (nI (e)), .ref (9012), .int (nI (0) + nI (1))]) (st' := []) (M' := (I, J, Rx R, N, G)) rfl ?_
  rw [show nI (0) + nI (1) = nI (1) from nI_addE (rfl) rfl]
  refine XP_n 3 (pc' := 12) (ls' := [.ref (9), .int (nI (q)), .int (nI (e)), .ref (9012), .int (nI (1))]) (st' := [.ref (9012), .int (nI (1))]) (M' := (I, J, Rx R, N, G)) rfl ?_
  refine XP_pure rfl rfl tl_6 ?_
  refine XP_icN (x := 1) (y := 2) rfl (by omega) (by omega) (fun (b13 : 2 ≤ 1) => absurd b13 (by omega)) (fun (b13 : 1 < 2) => ?_)
  refine XP_n 4 (pc' := 18) (ls' := [.ref (9), .int (nI (q)), .int (nI (e)), .ref (9012), .int (nI (1))]) (st' := [.int ((nI (q)) + (nI (1))), .ref (9)]) (M' := (I, J, Rx R, N, G)) rfl ?_
  rw [show (nI (q)) + (nI (1)) = nI (q + 1) from nI_addE (rfl) (rfl)]
  refine XP_pure rfl rfl (c_byteAt hT hL (show q + 1 < L by omega)) ?_
  refine XP_n 2 (pc' := 21) (ls' := [.ref (9), .int (nI (q)), .int (nI (e)), .ref (9012), .int (nI (1))]) (st' := [.int (nI (1)), .ref (9012), .int (nI (b (q + 1)))]) (M' := (I, J, Rx R, N, G)) rfl ?_
  refine XP_pure rfl rfl tc_6_1 ?_
  refine XP_icN (x := b (q + 1)) (y := 112) rfl (by omega) (by omega) (fun (b22 : b (q + 1) = 112) => ?_) (fun (b22 : ¬ b (q + 1) = 112) => absurd b22 (by omega))
  refine XP_n 1 (pc' := 26) (ls' := [.ref (9), .int (nI (q)), .int (nI (e)), .ref (9012), .int (nI (1) + nI (1))]) (st' := []) (M' := (I, J, Rx R, N, G)) rfl ?_
  rw [show nI (1) + nI (1) = nI (2) from nI_addE (rfl) rfl]
  refine XP_n 3 (pc' := 12) (ls' := [.ref (9), .int (nI (q)), .int (nI (e)), .ref (9012), .int (nI (2))]) (st' := [.ref (9012), .int (nI (2))]) (M' := (I, J, Rx R, N, G)) rfl ?_
  refine XP_pure rfl rfl tl_6 ?_
  refine XP_icN (x := 2) (y := 2) rfl (by omega) (by omega) (fun (b13 : 2 ≤ 2) => ?_) (fun (b13 : 2 < 2) => absurd b13 (by omega))
  refine XP_n 1 (pc' := 28) (ls' := [.ref (9), .int (nI (q)), .int (nI (e)), .ref (9012), .int (nI (2))]) (st' := [.int (nI (1))]) (M' := (I, J, Rx R, N, G)) rfl ?_
  exact XP_ret rfl ⟨rfl, rfl⟩
theorem c_spF6 (hT : Tp I b L) (hL : L ≤ 160) (hb : ∀ i, i < L → b i ≤ 255) {q e : Nat} (hqe : q ≤ e) (he : e ≤ L) (h : ¬ mW b q e 8) : TP X (d + 8) n_Reader_spells [.ref 9, .int (nI q), .int (nI e), .ref 9012] (I, J, Rx R, N, G) (Ret (.int (nI 0)) (I, J, Rx R, N, G)) := by
  by_cases hl : e - q = 2
  rotate_left
  · skip
    unfold TP
    show XP X _ k_Reader_spells 0 [.ref (9), .int (nI (q)), .int (nI (e)), .ref (9012), xj] [] _ _
    refine XP_n 4 (pc' := 4) (ls' := [.ref (9), .int (nI (q)), .int (nI (e)), .ref (9012), xj]) (st' := [.ref (9012), .int ((nI (e)) - (nI (q)))]) (M' := (I, J, Rx R, N, G)) rfl ?_
    rw [show (nI (e)) - (nI (q)) = nI (e - q) from nI_subE (rfl) (rfl) (by omega)]
    refine XP_pure rfl rfl tl_6 ?_
    refine XP_icN (x := e - q) (y := 2) rfl (by omega) (by omega) (fun (b5 : e - q = 2) => absurd b5 (by omega)) (fun (b5 : ¬ e - q = 2) => ?_)
    refine XP_n 1 (pc' := 7) (ls' := [.ref (9), .int (nI (q)), .int (nI (e)), .ref (9012), xj]) (st' := [.int (nI (0))]) (M' := (I, J, Rx R, N, G)) rfl ?_
    exact XP_ret rfl ⟨rfl, rfl⟩
  have q0 := hb (q + 0) (by omega)
  have q1 := hb (q + 1) (by omega)
  by_cases h0 : b (q + 0) = 117
  rotate_left
  · skip
    unfold TP
    show XP X _ k_Reader_spells 0 [.ref (9), .int (nI (q)), .int (nI (e)), .ref (9012), xj] [] _ _
    refine XP_n 4 (pc' := 4) (ls' := [.ref (9), .int (nI (q)), .int (nI (e)), .ref (9012), xj]) (st' := [.ref (9012), .int ((nI (e)) - (nI (q)))]) (M' := (I, J, Rx R, N, G)) rfl ?_
    rw [show (nI (e)) - (nI (q)) = nI (e - q) from nI_subE (rfl) (rfl) (by omega)]
    refine XP_pure rfl rfl tl_6 ?_
    refine XP_icN (x := e - q) (y := 2) rfl (by omega) (by omega) (fun (b5 : e - q = 2) => ?_) (fun (b5 : ¬ e - q = 2) => absurd b5 (by omega))
    refine XP_n 4 (pc' := 12) (ls' := [.ref (9), .int (nI (q)), .int (nI (e)), .ref (9012), .int (nI (0))]) (st' := [.ref (9012), .int (nI (0))]) (M' := (I, J, Rx R, N, G)) rfl ?_
    refine XP_pure rfl rfl tl_6 ?_
    refine XP_icN (x := 0) (y := 2) rfl (by omega) (by omega) (fun (b13 : 2 ≤ 0) => absurd b13 (by omega)) (fun (b13 : 0 < 2) => ?_)
    refine XP_n 4 (pc' := 18) (ls' := [.ref (9), .int (nI (q)), .int (nI (e)), .ref (9012), .int (nI (0))]) (st' := [.int ((nI (q)) + (nI (0))), .ref (9)]) (M' := (I, J, Rx R, N, G)) rfl ?_
    rw [show (nI (q)) + (nI (0)) = nI (q + 0) from nI_addE (rfl) (rfl)]
    refine XP_pure rfl rfl (c_byteAt hT hL (show q + 0 < L by omega)) ?_
    refine XP_n 2 (pc' := 21) (ls' := [.ref (9), .int (nI (q)), .int (nI (e)), .ref (9012), .int (nI (0))]) (st' := [.int (nI (0)), .ref (9012), .int (nI (b (q + 0)))]) (M' := (I, J, Rx R, N, G)) rfl ?_
    refine XP_pure rfl rfl tc_6_0 ?_
    refine XP_icN (x := b (q + 0)) (y := 117) rfl (by omega) (by omega) (fun (b22 : b (q + 0) = 117) => absurd b22 (by omega)) (fun (b22 : ¬ b (q + 0) = 117) => ?_)
    refine XP_n 1 (pc' := 24) (ls' := [.ref (9), .int (nI (q)), .int (nI (e)), .ref (9012), .int (nI (0))]) (st' := [.int (nI (0))]) (M' := (I, J, Rx R, N, G)) rfl ?_
    exact XP_ret rfl ⟨rfl, rfl⟩
  by_cases h1 : b (q + 1) = 112
  rotate_left
  · skip
    unfold TP
    show XP X _ k_Reader_spells 0 [.ref (9), .int (nI (q)), .int (nI (e)), .ref (9012), xj] [] _ _
    refine XP_n 4 (pc' := 4) (ls' := [.ref (9), .int (nI (q)), .int (nI (e)), .ref (9012), xj]) (st' := [.ref (9012), .int ((nI (e)) - (nI (q)))]) (M' := (I, J, Rx R, N, G)) rfl ?_
    rw [show (nI (e)) - (nI (q)) = nI (e - q) from nI_subE (rfl) (rfl) (by omega)]
    refine XP_pure rfl rfl tl_6 ?_
    refine XP_icN (x := e - q) (y := 2) rfl (by omega) (by omega) (fun (b5 : e - q = 2) => ?_) (fun (b5 : ¬ e - q = 2) => absurd b5 (by omega))
    refine XP_n 4 (pc' := 12) (ls' := [.ref (9), .int (nI (q)), .int (nI (e)), .ref (9012), .int (nI (0))]) (st' := [.ref (9012), .int (nI (0))]) (M' := (I, J, Rx R, N, G)) rfl ?_
    refine XP_pure rfl rfl tl_6 ?_
    refine XP_icN (x := 0) (y := 2) rfl (by omega) (by omega) (fun (b13 : 2 ≤ 0) => absurd b13 (by omega)) (fun (b13 : 0 < 2) => ?_)
    refine XP_n 4 (pc' := 18) (ls' := [.ref (9), .int (nI (q)), .int (nI (e)), .ref (9012), .int (nI (0))]) (st' := [.int ((nI (q)) + (nI (0))), .ref (9)]) (M' := (I, J, Rx R, N, G)) rfl ?_
    rw [show (nI (q)) + (nI (0)) = nI (q + 0) from nI_addE (rfl) (rfl)]
    refine XP_pure rfl rfl (c_byteAt hT hL (show q + 0 < L by omega)) ?_
    refine XP_n 2 (pc' := 21) (ls' := [.ref (9), .int (nI (q)), .int (nI (e)), .ref (9012), .int (nI (0))]) (st' := [.int (nI (0)), .ref (9012), .int (nI (b (q + 0)))]) (M' := (I, J, Rx R, N, G)) rfl ?_
    refine XP_pure rfl rfl tc_6_0 ?_
    refine XP_icN (x := b (q + 0)) (y := 117) rfl (by omega) (by omega) (fun (b22 : b (q + 0) = 117) => ?_) (fun (b22 : ¬ b (q + 0) = 117) => absurd b22 (by omega))
    refine XP_n 1 (pc' := 26) (ls' := [.ref (9), .int (nI (q)), .int (nI (e)), .ref (9012), .int (nI (0) + nI (1))]) (st' := []) (M' := (I, J, Rx R, N, G)) rfl ?_
    rw [show nI (0) + nI (1) = nI (1) from nI_addE (rfl) rfl]
    refine XP_n 3 (pc' := 12) (ls' := [.ref (9), .int (nI (q)), .int (nI (e)), .ref (9012), .int (nI (1))]) (st' := [.ref (9012), .int (nI (1))]) (M' := (I, J, Rx R, N, G)) rfl ?_
    refine XP_pure rfl rfl tl_6 ?_
    refine XP_icN (x := 1) (y := 2) rfl (by omega) (by omega) (fun (b13 : 2 ≤ 1) => absurd b13 (by omega)) (fun (b13 : 1 < 2) => ?_)
    refine XP_n 4 (pc' := 18) (ls' := [.ref (9), .int (nI (q)), .int (nI (e)), .ref (9012), .int (nI (1))]) (st' := [.int ((nI (q)) + (nI (1))), .ref (9)]) (M' := (I, J, Rx R, N, G)) rfl ?_
    rw [show (nI (q)) + (nI (1)) = nI (q + 1) from nI_addE (rfl) (rfl)]
    refine XP_pure rfl rfl (c_byteAt hT hL (show q + 1 < L by omega)) ?_
    refine XP_n 2 (pc' := 21) (ls' := [.ref (9), .int (nI (q)), .int (nI (e)), .ref (9012), .int (nI (1))]) (st' := [.int (nI (1)), .ref (9012), .int (nI (b (q + 1)))]) (M' := (I, J, Rx R, N, G)) rfl ?_
    refine XP_pure rfl rfl tc_6_1 ?_
    refine XP_icN (x := b (q + 1)) (y := 112) rfl (by omega) (by omega) (fun (b22 : b (q + 1) = 112) => absurd b22 (by omega)) (fun (b22 : ¬ b (q + 1) = 112) => ?_)
    refine XP_n 1 (pc' := 24) (ls' := [.ref (9), .int (nI (q)), .int (nI (e)), .ref (9012), .int (nI (1))]) (st' := [.int (nI (0))]) (M' := (I, J, Rx R, N, G)) rfl ?_
    exact XP_ret rfl ⟨rfl, rfl⟩
  refine absurd ⟨hl, fun j hj => ?_⟩ h
  have hj : j < 2 := hj
  have hc : j = 0 ∨ j = 1 := by omega
  rcases hc with rfl | rfl
  · exact h0
  · exact h1
theorem c_spT7 (hT : Tp I b L) (hL : L ≤ 160) {q e : Nat} (hqe : q ≤ e) (he : e ≤ L) (h : mW b q e 0) : TP X (d + 8) n_Reader_spells [.ref 9, .int (nI q), .int (nI e), .ref 9014] (I, J, Rx R, N, G) (Ret (.int (nI 1)) (I, J, Rx R, N, G)) := by
  have hl : e - q = 4 := h.1
  have h0 : b (q + 0) = 104 := h.2 0 (by decide)
  have h1 : b (q + 1) = 97 := h.2 1 (by decide)
  have h2 : b (q + 2) = 114 := h.2 2 (by decide)
  have h3 : b (q + 3) = 109 := h.2 3 (by decide)
  unfold TP
  show XP X _ k_Reader_spells 0 [.ref (9), .int (nI (q)), .int (nI (e)), .ref (9014), xj] [] _ _
  refine XP_n 4 (pc' := 4) (ls' := [.ref (9), .int (nI (q)), .int (nI (e)), .ref (9014), xj]) (st' := [.ref (9014), .int ((nI (e)) - (nI (q)))]) (M' := (I, J, Rx R, N, G)) rfl ?_
  rw [show (nI (e)) - (nI (q)) = nI (e - q) from nI_subE (rfl) (rfl) (by omega)]
  refine XP_pure rfl rfl tl_7 ?_
  refine XP_icN (x := e - q) (y := 4) rfl (by omega) (by omega) (fun (b5 : e - q = 4) => ?_) (fun (b5 : ¬ e - q = 4) => absurd b5 (by omega))
  refine XP_n 4 (pc' := 12) (ls' := [.ref (9), .int (nI (q)), .int (nI (e)), .ref (9014), .int (nI (0))]) (st' := [.ref (9014), .int (nI (0))]) (M' := (I, J, Rx R, N, G)) rfl ?_
  refine XP_pure rfl rfl tl_7 ?_
  refine XP_icN (x := 0) (y := 4) rfl (by omega) (by omega) (fun (b13 : 4 ≤ 0) => absurd b13 (by omega)) (fun (b13 : 0 < 4) => ?_)
  refine XP_n 4 (pc' := 18) (ls' := [.ref (9), .int (nI (q)), .int (nI (e)), .ref (9014), .int (nI (0))]) (st' := [.int ((nI (q)) + (nI (0))), .ref (9)]) (M' := (I, J, Rx R, N, G)) rfl ?_
  rw [show (nI (q)) + (nI (0)) = nI (q + 0) from nI_addE (rfl) (rfl)]
  refine XP_pure rfl rfl (c_byteAt hT hL (show q + 0 < L by omega)) ?_
  refine XP_n 2 (pc' := 21) (ls' := [.ref (9), .int (nI (q)), .int (nI (e)), .ref (9014), .int (nI (0))]) (st' := [.int (nI (0)), .ref (9014), .int (nI (b (q + 0)))]) (M' := (I, J, Rx R, N, G)) rfl ?_
  refine XP_pure rfl rfl tc_7_0 ?_
  refine XP_icN (x := b (q + 0)) (y := 104) rfl (by omega) (by omega) (fun (b22 : b (q + 0) = 104) => ?_) (fun (b22 : ¬ b (q + 0) = 104) => absurd b22 (by omega))
  refine XP_n 1 (pc' := 26) (ls' := [.ref (9), .int (nI (q)), .int (nI (e)), .ref (9014), .int (nI (0) + nI (1))]) (st' := []) (M' := (I, J, Rx R, N, G)) rfl ?_
  rw [show nI (0) + nI (1) = nI (1) from nI_addE (rfl) rfl]
  refine XP_n 3 (pc' := 12) (ls' := [.ref (9), .int (nI (q)), .int (nI (e)), .ref (9014), .int (nI (1))]) (st' := [.ref (9014), .int (nI (1))]) (M' := (I, J, Rx R, N, G)) rfl ?_
  refine XP_pure rfl rfl tl_7 ?_
  refine XP_icN (x := 1) (y := 4) rfl (by omega) (by omega) (fun (b13 : 4 ≤ 1) => absurd b13 (by omega)) (fun (b13 : 1 < 4) => ?_)
  refine XP_n 4 (pc' := 18) (ls' := [.ref (9), .int (nI (q)), .int (nI (e)), .ref (9014), .int (nI (1))]) (st' := [.int ((nI (q)) + (nI (1))), .ref (9)]) (M' := (I, J, Rx R, N, G)) rfl ?_
  rw [show (nI (q)) + (nI (1)) = nI (q + 1) from nI_addE (rfl) (rfl)]
  refine XP_pure rfl rfl (c_byteAt hT hL (show q + 1 < L by omega)) ?_
  refine XP_n 2 (pc' := 21) (ls' := [.ref (9), .int (nI (q)), .int (nI (e)), .ref (9014), .int (nI (1))]) (st' := [.int (nI (1)), .ref (9014), .int (nI (b (q + 1)))]) (M' := (I, J, Rx R, N, G)) rfl ?_
  refine XP_pure rfl rfl tc_7_1 ?_
  refine XP_icN (x := b (q + 1)) (y := 97) rfl (by omega) (by omega) (fun (b22 : b (q + 1) = 97) => ?_) (fun (b22 : ¬ b (q + 1) = 97) => absurd b22 (by omega))
  refine XP_n 1 (pc' := 26) (ls' := [.ref (9), .int (nI (q)), .int (nI (e)), .ref (9014), .int (nI (1) + nI (1))]) (st' := []) (M' := (I, J, Rx R, N, G)) rfl ?_
  rw [show nI (1) + nI (1) = nI (2) from nI_addE (rfl) rfl]
  refine XP_n 3 (pc' := 12) (ls' := [.ref (9), .int (nI (q)), .int (nI (e)), .ref (9014), .int (nI (2))]) (st' := [.ref (9014), .int (nI (2))]) (M' := (I, J, Rx R, N, G)) rfl ?_
  refine XP_pure rfl rfl tl_7 ?_
  refine XP_icN (x := 2) (y := 4) rfl (by omega) (by omega) (fun (b13 : 4 ≤ 2) => absurd b13 (by omega)) (fun (b13 : 2 < 4) => ?_)
  refine XP_n 4 (pc' := 18) (ls' := [.ref (9), .int (nI (q)), .int (nI (e)), .ref (9014), .int (nI (2))]) (st' := [.int ((nI (q)) + (nI (2))), .ref (9)]) (M' := (I, J, Rx R, N, G)) rfl ?_
  rw [show (nI (q)) + (nI (2)) = nI (q + 2) from nI_addE (rfl) (rfl)]
  refine XP_pure rfl rfl (c_byteAt hT hL (show q + 2 < L by omega)) ?_
  refine XP_n 2 (pc' := 21) (ls' := [.ref (9), .int (nI (q)), .int (nI (e)), .ref (9014), .int (nI (2))]) (st' := [.int (nI (2)), .ref (9014), .int (nI (b (q + 2)))]) (M' := (I, J, Rx R, N, G)) rfl ?_
  refine XP_pure rfl rfl tc_7_2 ?_
  refine XP_icN (x := b (q + 2)) (y := 114) rfl (by omega) (by omega) (fun (b22 : b (q + 2) = 114) => ?_) (fun (b22 : ¬ b (q + 2) = 114) => absurd b22 (by omega))
  refine XP_n 1 (pc' := 26) (ls' := [.ref (9), .int (nI (q)), .int (nI (e)), .ref (9014), .int (nI (2) + nI (1))]) (st' := []) (M' := (I, J, Rx R, N, G)) rfl ?_
  rw [show nI (2) + nI (1) = nI (3) from nI_addE (rfl) rfl]
  refine XP_n 3 (pc' := 12) (ls' := [.ref (9), .int (nI (q)), .int (nI (e)), .ref (9014), .int (nI (3))]) (st' := [.ref (9014), .int (nI (3))]) (M' := (I, J, Rx R, N, G)) rfl ?_
  refine XP_pure rfl rfl tl_7 ?_
  refine XP_icN (x := 3) (y := 4) rfl (by omega) (by omega) (fun (b13 : 4 ≤ 3) => absurd b13 (by omega)) (fun (b13 : 3 < 4) => ?_)
  refine XP_n 4 (pc' := 18) (ls' := [.ref (9), .int (nI (q)), .int (nI (e)), .ref (9014), .int (nI (3))]) (st' := [.int ((nI (q)) + (nI (3))), .ref (9)]) (M' := (I, J, Rx R, N, G)) rfl ?_
  rw [show (nI (q)) + (nI (3)) = nI (q + 3) from nI_addE (rfl) (rfl)]
  refine XP_pure rfl rfl (c_byteAt hT hL (show q + 3 < L by omega)) ?_
  refine XP_n 2 (pc' := 21) (ls' := [.ref (9), .int (nI (q)), .int (nI (e)), .ref (9014), .int (nI (3))]) (st' := [.int (nI (3)), .ref (9014), .int (nI (b (q + 3)))]) (M' := (I, J, Rx R, N, G)) rfl ?_
  refine XP_pure rfl rfl tc_7_3 ?_
  refine XP_icN (x := b (q + 3)) (y := 109) rfl (by omega) (by omega) (fun (b22 : b (q + 3) = 109) => ?_) (fun (b22 : ¬ b (q + 3) = 109) => absurd b22 (by omega))
  refine XP_n 1 (pc' := 26) (ls' := [.ref (9), .int (nI (q)), .int (nI (e)), .ref (9014), .int (nI (3) + nI (1))]) (st' := []) (M' := (I, J, Rx R, N, G)) rfl ?_
  rw [show nI (3) + nI (1) = nI (4) from nI_addE (rfl) rfl]
  refine XP_n 3 (pc' := 12) (ls' := [.ref (9), .int (nI (q)), .int (nI (e)), .ref (9014), .int (nI (4))]) (st' := [.ref (9014), .int (nI (4))]) (M' := (I, J, Rx R, N, G)) rfl ?_
  refine XP_pure rfl rfl tl_7 ?_
  refine XP_icN (x := 4) (y := 4) rfl (by omega) (by omega) (fun (b13 : 4 ≤ 4) => ?_) (fun (b13 : 4 < 4) => absurd b13 (by omega))
  refine XP_n 1 (pc' := 28) (ls' := [.ref (9), .int (nI (q)), .int (nI (e)), .ref (9014), .int (nI (4))]) (st' := [.int (nI (1))]) (M' := (I, J, Rx R, N, G)) rfl ?_
  exact XP_ret rfl ⟨rfl, rfl⟩
theorem c_spF7 (hT : Tp I b L) (hL : L ≤ 160) (hb : ∀ i, i < L → b i ≤ 255) {q e : Nat} (hqe : q ≤ e) (he : e ≤ L) (h : ¬ mW b q e 0) : TP X (d + 8) n_Reader_spells [.ref 9, .int (nI q), .int (nI e), .ref 9014] (I, J, Rx R, N, G) (Ret (.int (nI 0)) (I, J, Rx R, N, G)) := by
  by_cases hl : e - q = 4
  rotate_left
  · skip
    unfold TP
    show XP X _ k_Reader_spells 0 [.ref (9), .int (nI (q)), .int (nI (e)), .ref (9014), xj] [] _ _
    refine XP_n 4 (pc' := 4) (ls' := [.ref (9), .int (nI (q)), .int (nI (e)), .ref (9014), xj]) (st' := [.ref (9014), .int ((nI (e)) - (nI (q)))]) (M' := (I, J, Rx R, N, G)) rfl ?_
    rw [show (nI (e)) - (nI (q)) = nI (e - q) from nI_subE (rfl) (rfl) (by omega)]
    refine XP_pure rfl rfl tl_7 ?_
    refine XP_icN (x := e - q) (y := 4) rfl (by omega) (by omega) (fun (b5 : e - q = 4) => absurd b5 (by omega)) (fun (b5 : ¬ e - q = 4) => ?_)
    refine XP_n 1 (pc' := 7) (ls' := [.ref (9), .int (nI (q)), .int (nI (e)), .ref (9014), xj]) (st' := [.int (nI (0))]) (M' := (I, J, Rx R, N, G)) rfl ?_
    exact XP_ret rfl ⟨rfl, rfl⟩
  have q0 := hb (q + 0) (by omega)
  have q1 := hb (q + 1) (by omega)
  have q2 := hb (q + 2) (by omega)
  have q3 := hb (q + 3) (by omega)
  by_cases h0 : b (q + 0) = 104
  rotate_left
  · skip
    unfold TP
    show XP X _ k_Reader_spells 0 [.ref (9), .int (nI (q)), .int (nI (e)), .ref (9014), xj] [] _ _
    refine XP_n 4 (pc' := 4) (ls' := [.ref (9), .int (nI (q)), .int (nI (e)), .ref (9014), xj]) (st' := [.ref (9014), .int ((nI (e)) - (nI (q)))]) (M' := (I, J, Rx R, N, G)) rfl ?_
    rw [show (nI (e)) - (nI (q)) = nI (e - q) from nI_subE (rfl) (rfl) (by omega)]
    refine XP_pure rfl rfl tl_7 ?_
    refine XP_icN (x := e - q) (y := 4) rfl (by omega) (by omega) (fun (b5 : e - q = 4) => ?_) (fun (b5 : ¬ e - q = 4) => absurd b5 (by omega))
    refine XP_n 4 (pc' := 12) (ls' := [.ref (9), .int (nI (q)), .int (nI (e)), .ref (9014), .int (nI (0))]) (st' := [.ref (9014), .int (nI (0))]) (M' := (I, J, Rx R, N, G)) rfl ?_
    refine XP_pure rfl rfl tl_7 ?_
    refine XP_icN (x := 0) (y := 4) rfl (by omega) (by omega) (fun (b13 : 4 ≤ 0) => absurd b13 (by omega)) (fun (b13 : 0 < 4) => ?_)
    refine XP_n 4 (pc' := 18) (ls' := [.ref (9), .int (nI (q)), .int (nI (e)), .ref (9014), .int (nI (0))]) (st' := [.int ((nI (q)) + (nI (0))), .ref (9)]) (M' := (I, J, Rx R, N, G)) rfl ?_
    rw [show (nI (q)) + (nI (0)) = nI (q + 0) from nI_addE (rfl) (rfl)]
    refine XP_pure rfl rfl (c_byteAt hT hL (show q + 0 < L by omega)) ?_
    refine XP_n 2 (pc' := 21) (ls' := [.ref (9), .int (nI (q)), .int (nI (e)), .ref (9014), .int (nI (0))]) (st' := [.int (nI (0)), .ref (9014), .int (nI (b (q + 0)))]) (M' := (I, J, Rx R, N, G)) rfl ?_
    refine XP_pure rfl rfl tc_7_0 ?_
    refine XP_icN (x := b (q + 0)) (y := 104) rfl (by omega) (by omega) (fun (b22 : b (q + 0) = 104) => absurd b22 (by omega)) (fun (b22 : ¬ b (q + 0) = 104) => ?_)
    refine XP_n 1 (pc' := 24) (ls' := [.ref (9), .int (nI (q)), .int (nI (e)), .ref (9014), .int (nI (0))]) (st' := [.int (nI (0))]) (M' := (I, J, Rx R, N, G)) rfl ?_
    exact XP_ret rfl ⟨rfl, rfl⟩
  by_cases h1 : b (q + 1) = 97
  rotate_left
  · skip
    unfold TP
    show XP X _ k_Reader_spells 0 [.ref (9), .int (nI (q)), .int (nI (e)), .ref (9014), xj] [] _ _
    refine XP_n 4 (pc' := 4) (ls' := [.ref (9), .int (nI (q)), .int (nI (e)), .ref (9014), xj]) (st' := [.ref (9014), .int ((nI (e)) - (nI (q)))]) (M' := (I, J, Rx R, N, G)) rfl ?_
    rw [show (nI (e)) - (nI (q)) = nI (e - q) from nI_subE (rfl) (rfl) (by omega)]
    refine XP_pure rfl rfl tl_7 ?_
    refine XP_icN (x := e - q) (y := 4) rfl (by omega) (by omega) (fun (b5 : e - q = 4) => ?_) (fun (b5 : ¬ e - q = 4) => absurd b5 (by omega))
    refine XP_n 4 (pc' := 12) (ls' := [.ref (9), .int (nI (q)), .int (nI (e)), .ref (9014), .int (nI (0))]) (st' := [.ref (9014), .int (nI (0))]) (M' := (I, J, Rx R, N, G)) rfl ?_
    refine XP_pure rfl rfl tl_7 ?_
    refine XP_icN (x := 0) (y := 4) rfl (by omega) (by omega) (fun (b13 : 4 ≤ 0) => absurd b13 (by omega)) (fun (b13 : 0 < 4) => ?_)
    refine XP_n 4 (pc' := 18) (ls' := [.ref (9), .int (nI (q)), .int (nI (e)), .ref (9014), .int (nI (0))]) (st' := [.int ((nI (q)) + (nI (0))), .ref (9)]) (M' := (I, J, Rx R, N, G)) rfl ?_
    rw [show (nI (q)) + (nI (0)) = nI (q + 0) from nI_addE (rfl) (rfl)]
    refine XP_pure rfl rfl (c_byteAt hT hL (show q + 0 < L by omega)) ?_
    refine XP_n 2 (pc' := 21) (ls' := [.ref (9), .int (nI (q)), .int (nI (e)), .ref (9014), .int (nI (0))]) (st' := [.int (nI (0)), .ref (9014), .int (nI (b (q + 0)))]) (M' := (I, J, Rx R, N, G)) rfl ?_
    refine XP_pure rfl rfl tc_7_0 ?_
    refine XP_icN (x := b (q + 0)) (y := 104) rfl (by omega) (by omega) (fun (b22 : b (q + 0) = 104) => ?_) (fun (b22 : ¬ b (q + 0) = 104) => absurd b22 (by omega))
    refine XP_n 1 (pc' := 26) (ls' := [.ref (9), .int (nI (q)), .int (nI (e)), .ref (9014), .int (nI (0) + nI (1))]) (st' := []) (M' := (I, J, Rx R, N, G)) rfl ?_
    rw [show nI (0) + nI (1) = nI (1) from nI_addE (rfl) rfl]
    refine XP_n 3 (pc' := 12) (ls' := [.ref (9), .int (nI (q)), .int (nI (e)), .ref (9014), .int (nI (1))]) (st' := [.ref (9014), .int (nI (1))]) (M' := (I, J, Rx R, N, G)) rfl ?_
    refine XP_pure rfl rfl tl_7 ?_
    refine XP_icN (x := 1) (y := 4) rfl (by omega) (by omega) (fun (b13 : 4 ≤ 1) => absurd b13 (by omega)) (fun (b13 : 1 < 4) => ?_)
    refine XP_n 4 (pc' := 18) (ls' := [.ref (9), .int (nI (q)), .int (nI (e)), .ref (9014), .int (nI (1))]) (st' := [.int ((nI (q)) + (nI (1))), .ref (9)]) (M' := (I, J, Rx R, N, G)) rfl ?_
    rw [show (nI (q)) + (nI (1)) = nI (q + 1) from nI_addE (rfl) (rfl)]
    refine XP_pure rfl rfl (c_byteAt hT hL (show q + 1 < L by omega)) ?_
    refine XP_n 2 (pc' := 21) (ls' := [.ref (9), .int (nI (q)), .int (nI (e)), .ref (9014), .int (nI (1))]) (st' := [.int (nI (1)), .ref (9014), .int (nI (b (q + 1)))]) (M' := (I, J, Rx R, N, G)) rfl ?_
    refine XP_pure rfl rfl tc_7_1 ?_
    refine XP_icN (x := b (q + 1)) (y := 97) rfl (by omega) (by omega) (fun (b22 : b (q + 1) = 97) => absurd b22 (by omega)) (fun (b22 : ¬ b (q + 1) = 97) => ?_)
    refine XP_n 1 (pc' := 24) (ls' := [.ref (9), .int (nI (q)), .int (nI (e)), .ref (9014), .int (nI (1))]) (st' := [.int (nI (0))]) (M' := (I, J, Rx R, N, G)) rfl ?_
    exact XP_ret rfl ⟨rfl, rfl⟩
  by_cases h2 : b (q + 2) = 114
  rotate_left
  · skip
    unfold TP
    show XP X _ k_Reader_spells 0 [.ref (9), .int (nI (q)), .int (nI (e)), .ref (9014), xj] [] _ _
    refine XP_n 4 (pc' := 4) (ls' := [.ref (9), .int (nI (q)), .int (nI (e)), .ref (9014), xj]) (st' := [.ref (9014), .int ((nI (e)) - (nI (q)))]) (M' := (I, J, Rx R, N, G)) rfl ?_
    rw [show (nI (e)) - (nI (q)) = nI (e - q) from nI_subE (rfl) (rfl) (by omega)]
    refine XP_pure rfl rfl tl_7 ?_
    refine XP_icN (x := e - q) (y := 4) rfl (by omega) (by omega) (fun (b5 : e - q = 4) => ?_) (fun (b5 : ¬ e - q = 4) => absurd b5 (by omega))
    refine XP_n 4 (pc' := 12) (ls' := [.ref (9), .int (nI (q)), .int (nI (e)), .ref (9014), .int (nI (0))]) (st' := [.ref (9014), .int (nI (0))]) (M' := (I, J, Rx R, N, G)) rfl ?_
    refine XP_pure rfl rfl tl_7 ?_
    refine XP_icN (x := 0) (y := 4) rfl (by omega) (by omega) (fun (b13 : 4 ≤ 0) => absurd b13 (by omega)) (fun (b13 : 0 < 4) => ?_)
    refine XP_n 4 (pc' := 18) (ls' := [.ref (9), .int (nI (q)), .int (nI (e)), .ref (9014), .int (nI (0))]) (st' := [.int ((nI (q)) + (nI (0))), .ref (9)]) (M' := (I, J, Rx R, N, G)) rfl ?_
    rw [show (nI (q)) + (nI (0)) = nI (q + 0) from nI_addE (rfl) (rfl)]
    refine XP_pure rfl rfl (c_byteAt hT hL (show q + 0 < L by omega)) ?_
    refine XP_n 2 (pc' := 21) (ls' := [.ref (9), .int (nI (q)), .int (nI (e)), .ref (9014), .int (nI (0))]) (st' := [.int (nI (0)), .ref (9014), .int (nI (b (q + 0)))]) (M' := (I, J, Rx R, N, G)) rfl ?_
    refine XP_pure rfl rfl tc_7_0 ?_
    refine XP_icN (x := b (q + 0)) (y := 104) rfl (by omega) (by omega) (fun (b22 : b (q + 0) = 104) => ?_) (fun (b22 : ¬ b (q + 0) = 104) => absurd b22 (by omega))
    refine XP_n 1 (pc' := 26) (ls' := [.ref (9), .int (nI (q)), .int (nI (e)), .ref (9014), .int (nI (0) + nI (1))]) (st' := []) (M' := (I, J, Rx R, N, G)) rfl ?_
    rw [show nI (0) + nI (1) = nI (1) from nI_addE (rfl) rfl]
    refine XP_n 3 (pc' := 12) (ls' := [.ref (9), .int (nI (q)), .int (nI (e)), .ref (9014), .int (nI (1))]) (st' := [.ref (9014), .int (nI (1))]) (M' := (I, J, Rx R, N, G)) rfl ?_
    refine XP_pure rfl rfl tl_7 ?_
    refine XP_icN (x := 1) (y := 4) rfl (by omega) (by omega) (fun (b13 : 4 ≤ 1) => absurd b13 (by omega)) (fun (b13 : 1 < 4) => ?_)
    refine XP_n 4 (pc' := 18) (ls' := [.ref (9), .int (nI (q)), .int (nI (e)), .ref (9014), .int (nI (1))]) (st' := [.int ((nI (q)) + (nI (1))), .ref (9)]) (M' := (I, J, Rx R, N, G)) rfl ?_
    rw [show (nI (q)) + (nI (1)) = nI (q + 1) from nI_addE (rfl) (rfl)]
    refine XP_pure rfl rfl (c_byteAt hT hL (show q + 1 < L by omega)) ?_
    refine XP_n 2 (pc' := 21) (ls' := [.ref (9), .int (nI (q)), .int (nI (e)), .ref (9014), .int (nI (1))]) (st' := [.int (nI (1)), .ref (9014), .int (nI (b (q + 1)))]) (M' := (I, J, Rx R, N, G)) rfl ?_
    refine XP_pure rfl rfl tc_7_1 ?_
    refine XP_icN (x := b (q + 1)) (y := 97) rfl (by omega) (by omega) (fun (b22 : b (q + 1) = 97) => ?_) (fun (b22 : ¬ b (q + 1) = 97) => absurd b22 (by omega))
    refine XP_n 1 (pc' := 26) (ls' := [.ref (9), .int (nI (q)), .int (nI (e)), .ref (9014), .int (nI (1) + nI (1))]) (st' := []) (M' := (I, J, Rx R, N, G)) rfl ?_
    rw [show nI (1) + nI (1) = nI (2) from nI_addE (rfl) rfl]
    refine XP_n 3 (pc' := 12) (ls' := [.ref (9), .int (nI (q)), .int (nI (e)), .ref (9014), .int (nI (2))]) (st' := [.ref (9014), .int (nI (2))]) (M' := (I, J, Rx R, N, G)) rfl ?_
    refine XP_pure rfl rfl tl_7 ?_
    refine XP_icN (x := 2) (y := 4) rfl (by omega) (by omega) (fun (b13 : 4 ≤ 2) => absurd b13 (by omega)) (fun (b13 : 2 < 4) => ?_)
    refine XP_n 4 (pc' := 18) (ls' := [.ref (9), .int (nI (q)), .int (nI (e)), .ref (9014), .int (nI (2))]) (st' := [.int ((nI (q)) + (nI (2))), .ref (9)]) (M' := (I, J, Rx R, N, G)) rfl ?_
    rw [show (nI (q)) + (nI (2)) = nI (q + 2) from nI_addE (rfl) (rfl)]
    refine XP_pure rfl rfl (c_byteAt hT hL (show q + 2 < L by omega)) ?_
    refine XP_n 2 (pc' := 21) (ls' := [.ref (9), .int (nI (q)), .int (nI (e)), .ref (9014), .int (nI (2))]) (st' := [.int (nI (2)), .ref (9014), .int (nI (b (q + 2)))]) (M' := (I, J, Rx R, N, G)) rfl ?_
    refine XP_pure rfl rfl tc_7_2 ?_
    refine XP_icN (x := b (q + 2)) (y := 114) rfl (by omega) (by omega) (fun (b22 : b (q + 2) = 114) => absurd b22 (by omega)) (fun (b22 : ¬ b (q + 2) = 114) => ?_)
    refine XP_n 1 (pc' := 24) (ls' := [.ref (9), .int (nI (q)), .int (nI (e)), .ref (9014), .int (nI (2))]) (st' := [.int (nI (0))]) (M' := (I, J, Rx R, N, G)) rfl ?_
    exact XP_ret rfl ⟨rfl, rfl⟩
  by_cases h3 : b (q + 3) = 109
  rotate_left
  · skip
    unfold TP
    show XP X _ k_Reader_spells 0 [.ref (9), .int (nI (q)), .int (nI (e)), .ref (9014), xj] [] _ _
    refine XP_n 4 (pc' := 4) (ls' := [.ref (9), .int (nI (q)), .int (nI (e)), .ref (9014), xj]) (st' := [.ref (9014), .int ((nI (e)) - (nI (q)))]) (M' := (I, J, Rx R, N, G)) rfl ?_
    rw [show (nI (e)) - (nI (q)) = nI (e - q) from nI_subE (rfl) (rfl) (by omega)]
    refine XP_pure rfl rfl tl_7 ?_
    refine XP_icN (x := e - q) (y := 4) rfl (by omega) (by omega) (fun (b5 : e - q = 4) => ?_) (fun (b5 : ¬ e - q = 4) => absurd b5 (by omega))
    refine XP_n 4 (pc' := 12) (ls' := [.ref (9), .int (nI (q)), .int (nI (e)), .ref (9014), .int (nI (0))]) (st' := [.ref (9014), .int (nI (0))]) (M' := (I, J, Rx R, N, G)) rfl ?_
    refine XP_pure rfl rfl tl_7 ?_
    refine XP_icN (x := 0) (y := 4) rfl (by omega) (by omega) (fun (b13 : 4 ≤ 0) => absurd b13 (by omega)) (fun (b13 : 0 < 4) => ?_)
    refine XP_n 4 (pc' := 18) (ls' := [.ref (9), .int (nI (q)), .int (nI (e)), .ref (9014), .int (nI (0))]) (st' := [.int ((nI (q)) + (nI (0))), .ref (9)]) (M' := (I, J, Rx R, N, G)) rfl ?_
    rw [show (nI (q)) + (nI (0)) = nI (q + 0) from nI_addE (rfl) (rfl)]
    refine XP_pure rfl rfl (c_byteAt hT hL (show q + 0 < L by omega)) ?_
    refine XP_n 2 (pc' := 21) (ls' := [.ref (9), .int (nI (q)), .int (nI (e)), .ref (9014), .int (nI (0))]) (st' := [.int (nI (0)), .ref (9014), .int (nI (b (q + 0)))]) (M' := (I, J, Rx R, N, G)) rfl ?_
    refine XP_pure rfl rfl tc_7_0 ?_
    refine XP_icN (x := b (q + 0)) (y := 104) rfl (by omega) (by omega) (fun (b22 : b (q + 0) = 104) => ?_) (fun (b22 : ¬ b (q + 0) = 104) => absurd b22 (by omega))
    refine XP_n 1 (pc' := 26) (ls' := [.ref (9), .int (nI (q)), .int (nI (e)), .ref (9014), .int (nI (0) + nI (1))]) (st' := []) (M' := (I, J, Rx R, N, G)) rfl ?_
    rw [show nI (0) + nI (1) = nI (1) from nI_addE (rfl) rfl]
    refine XP_n 3 (pc' := 12) (ls' := [.ref (9), .int (nI (q)), .int (nI (e)), .ref (9014), .int (nI (1))]) (st' := [.ref (9014), .int (nI (1))]) (M' := (I, J, Rx R, N, G)) rfl ?_
    refine XP_pure rfl rfl tl_7 ?_
    refine XP_icN (x := 1) (y := 4) rfl (by omega) (by omega) (fun (b13 : 4 ≤ 1) => absurd b13 (by omega)) (fun (b13 : 1 < 4) => ?_)
    refine XP_n 4 (pc' := 18) (ls' := [.ref (9), .int (nI (q)), .int (nI (e)), .ref (9014), .int (nI (1))]) (st' := [.int ((nI (q)) + (nI (1))), .ref (9)]) (M' := (I, J, Rx R, N, G)) rfl ?_
    rw [show (nI (q)) + (nI (1)) = nI (q + 1) from nI_addE (rfl) (rfl)]
    refine XP_pure rfl rfl (c_byteAt hT hL (show q + 1 < L by omega)) ?_
    refine XP_n 2 (pc' := 21) (ls' := [.ref (9), .int (nI (q)), .int (nI (e)), .ref (9014), .int (nI (1))]) (st' := [.int (nI (1)), .ref (9014), .int (nI (b (q + 1)))]) (M' := (I, J, Rx R, N, G)) rfl ?_
    refine XP_pure rfl rfl tc_7_1 ?_
    refine XP_icN (x := b (q + 1)) (y := 97) rfl (by omega) (by omega) (fun (b22 : b (q + 1) = 97) => ?_) (fun (b22 : ¬ b (q + 1) = 97) => absurd b22 (by omega))
    refine XP_n 1 (pc' := 26) (ls' := [.ref (9), .int (nI (q)), .int (nI (e)), .ref (9014), .int (nI (1) + nI (1))]) (st' := []) (M' := (I, J, Rx R, N, G)) rfl ?_
    rw [show nI (1) + nI (1) = nI (2) from nI_addE (rfl) rfl]
    refine XP_n 3 (pc' := 12) (ls' := [.ref (9), .int (nI (q)), .int (nI (e)), .ref (9014), .int (nI (2))]) (st' := [.ref (9014), .int (nI (2))]) (M' := (I, J, Rx R, N, G)) rfl ?_
    refine XP_pure rfl rfl tl_7 ?_
    refine XP_icN (x := 2) (y := 4) rfl (by omega) (by omega) (fun (b13 : 4 ≤ 2) => absurd b13 (by omega)) (fun (b13 : 2 < 4) => ?_)
    refine XP_n 4 (pc' := 18) (ls' := [.ref (9), .int (nI (q)), .int (nI (e)), .ref (9014), .int (nI (2))]) (st' := [.int ((nI (q)) + (nI (2))), .ref (9)]) (M' := (I, J, Rx R, N, G)) rfl ?_
    rw [show (nI (q)) + (nI (2)) = nI (q + 2) from nI_addE (rfl) (rfl)]
    refine XP_pure rfl rfl (c_byteAt hT hL (show q + 2 < L by omega)) ?_
    refine XP_n 2 (pc' := 21) (ls' := [.ref (9), .int (nI (q)), .int (nI (e)), .ref (9014), .int (nI (2))]) (st' := [.int (nI (2)), .ref (9014), .int (nI (b (q + 2)))]) (M' := (I, J, Rx R, N, G)) rfl ?_
    refine XP_pure rfl rfl tc_7_2 ?_
    refine XP_icN (x := b (q + 2)) (y := 114) rfl (by omega) (by omega) (fun (b22 : b (q + 2) = 114) => ?_) (fun (b22 : ¬ b (q + 2) = 114) => absurd b22 (by omega))
    refine XP_n 1 (pc' := 26) (ls' := [.ref (9), .int (nI (q)), .int (nI (e)), .ref (9014), .int (nI (2) + nI (1))]) (st' := []) (M' := (I, J, Rx R, N, G)) rfl ?_
    rw [show nI (2) + nI (1) = nI (3) from nI_addE (rfl) rfl]
    refine XP_n 3 (pc' := 12) (ls' := [.ref (9), .int (nI (q)), .int (nI (e)), .ref (9014), .int (nI (3))]) (st' := [.ref (9014), .int (nI (3))]) (M' := (I, J, Rx R, N, G)) rfl ?_
    refine XP_pure rfl rfl tl_7 ?_
    refine XP_icN (x := 3) (y := 4) rfl (by omega) (by omega) (fun (b13 : 4 ≤ 3) => absurd b13 (by omega)) (fun (b13 : 3 < 4) => ?_)
    refine XP_n 4 (pc' := 18) (ls' := [.ref (9), .int (nI (q)), .int (nI (e)), .ref (9014), .int (nI (3))]) (st' := [.int ((nI (q)) + (nI (3))), .ref (9)]) (M' := (I, J, Rx R, N, G)) rfl ?_
    rw [show (nI (q)) + (nI (3)) = nI (q + 3) from nI_addE (rfl) (rfl)]
    refine XP_pure rfl rfl (c_byteAt hT hL (show q + 3 < L by omega)) ?_
    refine XP_n 2 (pc' := 21) (ls' := [.ref (9), .int (nI (q)), .int (nI (e)), .ref (9014), .int (nI (3))]) (st' := [.int (nI (3)), .ref (9014), .int (nI (b (q + 3)))]) (M' := (I, J, Rx R, N, G)) rfl ?_
    refine XP_pure rfl rfl tc_7_3 ?_
    refine XP_icN (x := b (q + 3)) (y := 109) rfl (by omega) (by omega) (fun (b22 : b (q + 3) = 109) => absurd b22 (by omega)) (fun (b22 : ¬ b (q + 3) = 109) => ?_)
    refine XP_n 1 (pc' := 24) (ls' := [.ref (9), .int (nI (q)), .int (nI (e)), .ref (9014), .int (nI (3))]) (st' := [.int (nI (0))]) (M' := (I, J, Rx R, N, G)) rfl ?_
    exact XP_ret rfl ⟨rfl, rfl⟩
  refine absurd ⟨hl, fun j hj => ?_⟩ h
  have hj : j < 4 := hj
  have hc : j = 0 ∨ j = 1 ∨ j = 2 ∨ j = 3 := by omega
  rcases hc with rfl | rfl | rfl | rfl
  · exact h0
  · exact h1
  · exact h2
  · exact h3
theorem c_spT8 (hT : Tp I b L) (hL : L ≤ 160) {q e : Nat} (hqe : q ≤ e) (he : e ≤ L) (h : mW b q e 1) : TP X (d + 8) n_Reader_spells [.ref 9, .int (nI q), .int (nI e), .ref 9016] (I, J, Rx R, N, G) (Ret (.int (nI 1)) (I, J, Rx R, N, G)) := by
  have hl : e - q = 4 := h.1
  have h0 : b (q + 0) = 99 := h.2 0 (by decide)
  have h1 : b (q + 1) = 111 := h.2 1 (by decide)
  have h2 : b (q + 2) = 115 := h.2 2 (by decide)
  have h3 : b (q + 3) = 116 := h.2 3 (by decide)
  unfold TP
  show XP X _ k_Reader_spells 0 [.ref (9), .int (nI (q)), .int (nI (e)), .ref (9016), xj] [] _ _
  refine XP_n 4 (pc' := 4) (ls' := [.ref (9), .int (nI (q)), .int (nI (e)), .ref (9016), xj]) (st' := [.ref (9016), .int ((nI (e)) - (nI (q)))]) (M' := (I, J, Rx R, N, G)) rfl ?_
  rw [show (nI (e)) - (nI (q)) = nI (e - q) from nI_subE (rfl) (rfl) (by omega)]
  refine XP_pure rfl rfl tl_8 ?_
  refine XP_icN (x := e - q) (y := 4) rfl (by omega) (by omega) (fun (b5 : e - q = 4) => ?_) (fun (b5 : ¬ e - q = 4) => absurd b5 (by omega))
  refine XP_n 4 (pc' := 12) (ls' := [.ref (9), .int (nI (q)), .int (nI (e)), .ref (9016), .int (nI (0))]) (st' := [.ref (9016), .int (nI (0))]) (M' := (I, J, Rx R, N, G)) rfl ?_
  refine XP_pure rfl rfl tl_8 ?_
  refine XP_icN (x := 0) (y := 4) rfl (by omega) (by omega) (fun (b13 : 4 ≤ 0) => absurd b13 (by omega)) (fun (b13 : 0 < 4) => ?_)
  refine XP_n 4 (pc' := 18) (ls' := [.ref (9), .int (nI (q)), .int (nI (e)), .ref (9016), .int (nI (0))]) (st' := [.int ((nI (q)) + (nI (0))), .ref (9)]) (M' := (I, J, Rx R, N, G)) rfl ?_
  rw [show (nI (q)) + (nI (0)) = nI (q + 0) from nI_addE (rfl) (rfl)]
  refine XP_pure rfl rfl (c_byteAt hT hL (show q + 0 < L by omega)) ?_
  refine XP_n 2 (pc' := 21) (ls' := [.ref (9), .int (nI (q)), .int (nI (e)), .ref (9016), .int (nI (0))]) (st' := [.int (nI (0)), .ref (9016), .int (nI (b (q + 0)))]) (M' := (I, J, Rx R, N, G)) rfl ?_
  refine XP_pure rfl rfl tc_8_0 ?_
  refine XP_icN (x := b (q + 0)) (y := 99) rfl (by omega) (by omega) (fun (b22 : b (q + 0) = 99) => ?_) (fun (b22 : ¬ b (q + 0) = 99) => absurd b22 (by omega))
  refine XP_n 1 (pc' := 26) (ls' := [.ref (9), .int (nI (q)), .int (nI (e)), .ref (9016), .int (nI (0) + nI (1))]) (st' := []) (M' := (I, J, Rx R, N, G)) rfl ?_
  rw [show nI (0) + nI (1) = nI (1) from nI_addE (rfl) rfl]
  refine XP_n 3 (pc' := 12) (ls' := [.ref (9), .int (nI (q)), .int (nI (e)), .ref (9016), .int (nI (1))]) (st' := [.ref (9016), .int (nI (1))]) (M' := (I, J, Rx R, N, G)) rfl ?_
  refine XP_pure rfl rfl tl_8 ?_
  refine XP_icN (x := 1) (y := 4) rfl (by omega) (by omega) (fun (b13 : 4 ≤ 1) => absurd b13 (by omega)) (fun (b13 : 1 < 4) => ?_)
  refine XP_n 4 (pc' := 18) (ls' := [.ref (9), .int (nI (q)), .int (nI (e)), .ref (9016), .int (nI (1))]) (st' := [.int ((nI (q)) + (nI (1))), .ref (9)]) (M' := (I, J, Rx R, N, G)) rfl ?_
  rw [show (nI (q)) + (nI (1)) = nI (q + 1) from nI_addE (rfl) (rfl)]
  refine XP_pure rfl rfl (c_byteAt hT hL (show q + 1 < L by omega)) ?_
  refine XP_n 2 (pc' := 21) (ls' := [.ref (9), .int (nI (q)), .int (nI (e)), .ref (9016), .int (nI (1))]) (st' := [.int (nI (1)), .ref (9016), .int (nI (b (q + 1)))]) (M' := (I, J, Rx R, N, G)) rfl ?_
  refine XP_pure rfl rfl tc_8_1 ?_
  refine XP_icN (x := b (q + 1)) (y := 111) rfl (by omega) (by omega) (fun (b22 : b (q + 1) = 111) => ?_) (fun (b22 : ¬ b (q + 1) = 111) => absurd b22 (by omega))
  refine XP_n 1 (pc' := 26) (ls' := [.ref (9), .int (nI (q)), .int (nI (e)), .ref (9016), .int (nI (1) + nI (1))]) (st' := []) (M' := (I, J, Rx R, N, G)) rfl ?_
  rw [show nI (1) + nI (1) = nI (2) from nI_addE (rfl) rfl]
  refine XP_n 3 (pc' := 12) (ls' := [.ref (9), .int (nI (q)), .int (nI (e)), .ref (9016), .int (nI (2))]) (st' := [.ref (9016), .int (nI (2))]) (M' := (I, J, Rx R, N, G)) rfl ?_
  refine XP_pure rfl rfl tl_8 ?_
  refine XP_icN (x := 2) (y := 4) rfl (by omega) (by omega) (fun (b13 : 4 ≤ 2) => absurd b13 (by omega)) (fun (b13 : 2 < 4) => ?_)
  refine XP_n 4 (pc' := 18) (ls' := [.ref (9), .int (nI (q)), .int (nI (e)), .ref (9016), .int (nI (2))]) (st' := [.int ((nI (q)) + (nI (2))), .ref (9)]) (M' := (I, J, Rx R, N, G)) rfl ?_
  rw [show (nI (q)) + (nI (2)) = nI (q + 2) from nI_addE (rfl) (rfl)]
  refine XP_pure rfl rfl (c_byteAt hT hL (show q + 2 < L by omega)) ?_
  refine XP_n 2 (pc' := 21) (ls' := [.ref (9), .int (nI (q)), .int (nI (e)), .ref (9016), .int (nI (2))]) (st' := [.int (nI (2)), .ref (9016), .int (nI (b (q + 2)))]) (M' := (I, J, Rx R, N, G)) rfl ?_
  refine XP_pure rfl rfl tc_8_2 ?_
  refine XP_icN (x := b (q + 2)) (y := 115) rfl (by omega) (by omega) (fun (b22 : b (q + 2) = 115) => ?_) (fun (b22 : ¬ b (q + 2) = 115) => absurd b22 (by omega))
  refine XP_n 1 (pc' := 26) (ls' := [.ref (9), .int (nI (q)), .int (nI (e)), .ref (9016), .int (nI (2) + nI (1))]) (st' := []) (M' := (I, J, Rx R, N, G)) rfl ?_
  rw [show nI (2) + nI (1) = nI (3) from nI_addE (rfl) rfl]
  refine XP_n 3 (pc' := 12) (ls' := [.ref (9), .int (nI (q)), .int (nI (e)), .ref (9016), .int (nI (3))]) (st' := [.ref (9016), .int (nI (3))]) (M' := (I, J, Rx R, N, G)) rfl ?_
  refine XP_pure rfl rfl tl_8 ?_
  refine XP_icN (x := 3) (y := 4) rfl (by omega) (by omega) (fun (b13 : 4 ≤ 3) => absurd b13 (by omega)) (fun (b13 : 3 < 4) => ?_)
  refine XP_n 4 (pc' := 18) (ls' := [.ref (9), .int (nI (q)), .int (nI (e)), .ref (9016), .int (nI (3))]) (st' := [.int ((nI (q)) + (nI (3))), .ref (9)]) (M' := (I, J, Rx R, N, G)) rfl ?_
  rw [show (nI (q)) + (nI (3)) = nI (q + 3) from nI_addE (rfl) (rfl)]
  refine XP_pure rfl rfl (c_byteAt hT hL (show q + 3 < L by omega)) ?_
  refine XP_n 2 (pc' := 21) (ls' := [.ref (9), .int (nI (q)), .int (nI (e)), .ref (9016), .int (nI (3))]) (st' := [.int (nI (3)), .ref (9016), .int (nI (b (q + 3)))]) (M' := (I, J, Rx R, N, G)) rfl ?_
  refine XP_pure rfl rfl tc_8_3 ?_
  refine XP_icN (x := b (q + 3)) (y := 116) rfl (by omega) (by omega) (fun (b22 : b (q + 3) = 116) => ?_) (fun (b22 : ¬ b (q + 3) = 116) => absurd b22 (by omega))
  refine XP_n 1 (pc' := 26) (ls' := [.ref (9), .int (nI (q)), .int (nI (e)), .ref (9016), .int (nI (3) + nI (1))]) (st' := []) (M' := (I, J, Rx R, N, G)) rfl ?_
  rw [show nI (3) + nI (1) = nI (4) from nI_addE (rfl) rfl]
  refine XP_n 3 (pc' := 12) (ls' := [.ref (9), .int (nI (q)), .int (nI (e)), .ref (9016), .int (nI (4))]) (st' := [.ref (9016), .int (nI (4))]) (M' := (I, J, Rx R, N, G)) rfl ?_
  refine XP_pure rfl rfl tl_8 ?_
  refine XP_icN (x := 4) (y := 4) rfl (by omega) (by omega) (fun (b13 : 4 ≤ 4) => ?_) (fun (b13 : 4 < 4) => absurd b13 (by omega))
  refine XP_n 1 (pc' := 28) (ls' := [.ref (9), .int (nI (q)), .int (nI (e)), .ref (9016), .int (nI (4))]) (st' := [.int (nI (1))]) (M' := (I, J, Rx R, N, G)) rfl ?_
  exact XP_ret rfl ⟨rfl, rfl⟩
theorem c_spF8 (hT : Tp I b L) (hL : L ≤ 160) (hb : ∀ i, i < L → b i ≤ 255) {q e : Nat} (hqe : q ≤ e) (he : e ≤ L) (h : ¬ mW b q e 1) : TP X (d + 8) n_Reader_spells [.ref 9, .int (nI q), .int (nI e), .ref 9016] (I, J, Rx R, N, G) (Ret (.int (nI 0)) (I, J, Rx R, N, G)) := by
  by_cases hl : e - q = 4
  rotate_left
  · skip
    unfold TP
    show XP X _ k_Reader_spells 0 [.ref (9), .int (nI (q)), .int (nI (e)), .ref (9016), xj] [] _ _
    refine XP_n 4 (pc' := 4) (ls' := [.ref (9), .int (nI (q)), .int (nI (e)), .ref (9016), xj]) (st' := [.ref (9016), .int ((nI (e)) - (nI (q)))]) (M' := (I, J, Rx R, N, G)) rfl ?_
    rw [show (nI (e)) - (nI (q)) = nI (e - q) from nI_subE (rfl) (rfl) (by omega)]
    refine XP_pure rfl rfl tl_8 ?_
    refine XP_icN (x := e - q) (y := 4) rfl (by omega) (by omega) (fun (b5 : e - q = 4) => absurd b5 (by omega)) (fun (b5 : ¬ e - q = 4) => ?_)
    refine XP_n 1 (pc' := 7) (ls' := [.ref (9), .int (nI (q)), .int (nI (e)), .ref (9016), xj]) (st' := [.int (nI (0))]) (M' := (I, J, Rx R, N, G)) rfl ?_
    exact XP_ret rfl ⟨rfl, rfl⟩
  have q0 := hb (q + 0) (by omega)
  have q1 := hb (q + 1) (by omega)
  have q2 := hb (q + 2) (by omega)
  have q3 := hb (q + 3) (by omega)
  by_cases h0 : b (q + 0) = 99
  rotate_left
  · skip
    unfold TP
    show XP X _ k_Reader_spells 0 [.ref (9), .int (nI (q)), .int (nI (e)), .ref (9016), xj] [] _ _
    refine XP_n 4 (pc' := 4) (ls' := [.ref (9), .int (nI (q)), .int (nI (e)), .ref (9016), xj]) (st' := [.ref (9016), .int ((nI (e)) - (nI (q)))]) (M' := (I, J, Rx R, N, G)) rfl ?_
    rw [show (nI (e)) - (nI (q)) = nI (e - q) from nI_subE (rfl) (rfl) (by omega)]
    refine XP_pure rfl rfl tl_8 ?_
    refine XP_icN (x := e - q) (y := 4) rfl (by omega) (by omega) (fun (b5 : e - q = 4) => ?_) (fun (b5 : ¬ e - q = 4) => absurd b5 (by omega))
    refine XP_n 4 (pc' := 12) (ls' := [.ref (9), .int (nI (q)), .int (nI (e)), .ref (9016), .int (nI (0))]) (st' := [.ref (9016), .int (nI (0))]) (M' := (I, J, Rx R, N, G)) rfl ?_
    refine XP_pure rfl rfl tl_8 ?_
    refine XP_icN (x := 0) (y := 4) rfl (by omega) (by omega) (fun (b13 : 4 ≤ 0) => absurd b13 (by omega)) (fun (b13 : 0 < 4) => ?_)
    refine XP_n 4 (pc' := 18) (ls' := [.ref (9), .int (nI (q)), .int (nI (e)), .ref (9016), .int (nI (0))]) (st' := [.int ((nI (q)) + (nI (0))), .ref (9)]) (M' := (I, J, Rx R, N, G)) rfl ?_
    rw [show (nI (q)) + (nI (0)) = nI (q + 0) from nI_addE (rfl) (rfl)]
    refine XP_pure rfl rfl (c_byteAt hT hL (show q + 0 < L by omega)) ?_
    refine XP_n 2 (pc' := 21) (ls' := [.ref (9), .int (nI (q)), .int (nI (e)), .ref (9016), .int (nI (0))]) (st' := [.int (nI (0)), .ref (9016), .int (nI (b (q + 0)))]) (M' := (I, J, Rx R, N, G)) rfl ?_
    refine XP_pure rfl rfl tc_8_0 ?_
    refine XP_icN (x := b (q + 0)) (y := 99) rfl (by omega) (by omega) (fun (b22 : b (q + 0) = 99) => absurd b22 (by omega)) (fun (b22 : ¬ b (q + 0) = 99) => ?_)
    refine XP_n 1 (pc' := 24) (ls' := [.ref (9), .int (nI (q)), .int (nI (e)), .ref (9016), .int (nI (0))]) (st' := [.int (nI (0))]) (M' := (I, J, Rx R, N, G)) rfl ?_
    exact XP_ret rfl ⟨rfl, rfl⟩
  by_cases h1 : b (q + 1) = 111
  rotate_left
  · skip
    unfold TP
    show XP X _ k_Reader_spells 0 [.ref (9), .int (nI (q)), .int (nI (e)), .ref (9016), xj] [] _ _
    refine XP_n 4 (pc' := 4) (ls' := [.ref (9), .int (nI (q)), .int (nI (e)), .ref (9016), xj]) (st' := [.ref (9016), .int ((nI (e)) - (nI (q)))]) (M' := (I, J, Rx R, N, G)) rfl ?_
    rw [show (nI (e)) - (nI (q)) = nI (e - q) from nI_subE (rfl) (rfl) (by omega)]
    refine XP_pure rfl rfl tl_8 ?_
    refine XP_icN (x := e - q) (y := 4) rfl (by omega) (by omega) (fun (b5 : e - q = 4) => ?_) (fun (b5 : ¬ e - q = 4) => absurd b5 (by omega))
    refine XP_n 4 (pc' := 12) (ls' := [.ref (9), .int (nI (q)), .int (nI (e)), .ref (9016), .int (nI (0))]) (st' := [.ref (9016), .int (nI (0))]) (M' := (I, J, Rx R, N, G)) rfl ?_
    refine XP_pure rfl rfl tl_8 ?_
    refine XP_icN (x := 0) (y := 4) rfl (by omega) (by omega) (fun (b13 : 4 ≤ 0) => absurd b13 (by omega)) (fun (b13 : 0 < 4) => ?_)
    refine XP_n 4 (pc' := 18) (ls' := [.ref (9), .int (nI (q)), .int (nI (e)), .ref (9016), .int (nI (0))]) (st' := [.int ((nI (q)) + (nI (0))), .ref (9)]) (M' := (I, J, Rx R, N, G)) rfl ?_
    rw [show (nI (q)) + (nI (0)) = nI (q + 0) from nI_addE (rfl) (rfl)]
    refine XP_pure rfl rfl (c_byteAt hT hL (show q + 0 < L by omega)) ?_
    refine XP_n 2 (pc' := 21) (ls' := [.ref (9), .int (nI (q)), .int (nI (e)), .ref (9016), .int (nI (0))]) (st' := [.int (nI (0)), .ref (9016), .int (nI (b (q + 0)))]) (M' := (I, J, Rx R, N, G)) rfl ?_
    refine XP_pure rfl rfl tc_8_0 ?_
    refine XP_icN (x := b (q + 0)) (y := 99) rfl (by omega) (by omega) (fun (b22 : b (q + 0) = 99) => ?_) (fun (b22 : ¬ b (q + 0) = 99) => absurd b22 (by omega))
    refine XP_n 1 (pc' := 26) (ls' := [.ref (9), .int (nI (q)), .int (nI (e)), .ref (9016), .int (nI (0) + nI (1))]) (st' := []) (M' := (I, J, Rx R, N, G)) rfl ?_
    rw [show nI (0) + nI (1) = nI (1) from nI_addE (rfl) rfl]
    refine XP_n 3 (pc' := 12) (ls' := [.ref (9), .int (nI (q)), .int (nI (e)), .ref (9016), .int (nI (1))]) (st' := [.ref (9016), .int (nI (1))]) (M' := (I, J, Rx R, N, G)) rfl ?_
    refine XP_pure rfl rfl tl_8 ?_
    refine XP_icN (x := 1) (y := 4) rfl (by omega) (by omega) (fun (b13 : 4 ≤ 1) => absurd b13 (by omega)) (fun (b13 : 1 < 4) => ?_)
    refine XP_n 4 (pc' := 18) (ls' := [.ref (9), .int (nI (q)), .int (nI (e)), .ref (9016), .int (nI (1))]) (st' := [.int ((nI (q)) + (nI (1))), .ref (9)]) (M' := (I, J, Rx R, N, G)) rfl ?_
    rw [show (nI (q)) + (nI (1)) = nI (q + 1) from nI_addE (rfl) (rfl)]
    refine XP_pure rfl rfl (c_byteAt hT hL (show q + 1 < L by omega)) ?_
    refine XP_n 2 (pc' := 21) (ls' := [.ref (9), .int (nI (q)), .int (nI (e)), .ref (9016), .int (nI (1))]) (st' := [.int (nI (1)), .ref (9016), .int (nI (b (q + 1)))]) (M' := (I, J, Rx R, N, G)) rfl ?_
    refine XP_pure rfl rfl tc_8_1 ?_
    refine XP_icN (x := b (q + 1)) (y := 111) rfl (by omega) (by omega) (fun (b22 : b (q + 1) = 111) => absurd b22 (by omega)) (fun (b22 : ¬ b (q + 1) = 111) => ?_)
    refine XP_n 1 (pc' := 24) (ls' := [.ref (9), .int (nI (q)), .int (nI (e)), .ref (9016), .int (nI (1))]) (st' := [.int (nI (0))]) (M' := (I, J, Rx R, N, G)) rfl ?_
    exact XP_ret rfl ⟨rfl, rfl⟩
  by_cases h2 : b (q + 2) = 115
  rotate_left
  · skip
    unfold TP
    show XP X _ k_Reader_spells 0 [.ref (9), .int (nI (q)), .int (nI (e)), .ref (9016), xj] [] _ _
    refine XP_n 4 (pc' := 4) (ls' := [.ref (9), .int (nI (q)), .int (nI (e)), .ref (9016), xj]) (st' := [.ref (9016), .int ((nI (e)) - (nI (q)))]) (M' := (I, J, Rx R, N, G)) rfl ?_
    rw [show (nI (e)) - (nI (q)) = nI (e - q) from nI_subE (rfl) (rfl) (by omega)]
    refine XP_pure rfl rfl tl_8 ?_
    refine XP_icN (x := e - q) (y := 4) rfl (by omega) (by omega) (fun (b5 : e - q = 4) => ?_) (fun (b5 : ¬ e - q = 4) => absurd b5 (by omega))
    refine XP_n 4 (pc' := 12) (ls' := [.ref (9), .int (nI (q)), .int (nI (e)), .ref (9016), .int (nI (0))]) (st' := [.ref (9016), .int (nI (0))]) (M' := (I, J, Rx R, N, G)) rfl ?_
    refine XP_pure rfl rfl tl_8 ?_
    refine XP_icN (x := 0) (y := 4) rfl (by omega) (by omega) (fun (b13 : 4 ≤ 0) => absurd b13 (by omega)) (fun (b13 : 0 < 4) => ?_)
    refine XP_n 4 (pc' := 18) (ls' := [.ref (9), .int (nI (q)), .int (nI (e)), .ref (9016), .int (nI (0))]) (st' := [.int ((nI (q)) + (nI (0))), .ref (9)]) (M' := (I, J, Rx R, N, G)) rfl ?_
    rw [show (nI (q)) + (nI (0)) = nI (q + 0) from nI_addE (rfl) (rfl)]
    refine XP_pure rfl rfl (c_byteAt hT hL (show q + 0 < L by omega)) ?_
    refine XP_n 2 (pc' := 21) (ls' := [.ref (9), .int (nI (q)), .int (nI (e)), .ref (9016), .int (nI (0))]) (st' := [.int (nI (0)), .ref (9016), .int (nI (b (q + 0)))]) (M' := (I, J, Rx R, N, G)) rfl ?_
    refine XP_pure rfl rfl tc_8_0 ?_
    refine XP_icN (x := b (q + 0)) (y := 99) rfl (by omega) (by omega) (fun (b22 : b (q + 0) = 99) => ?_) (fun (b22 : ¬ b (q + 0) = 99) => absurd b22 (by omega))
    refine XP_n 1 (pc' := 26) (ls' := [.ref (9), .int (nI (q)), .int (nI (e)), .ref (9016), .int (nI (0) + nI (1))]) (st' := []) (M' := (I, J, Rx R, N, G)) rfl ?_
    rw [show nI (0) + nI (1) = nI (1) from nI_addE (rfl) rfl]
    refine XP_n 3 (pc' := 12) (ls' := [.ref (9), .int (nI (q)), .int (nI (e)), .ref (9016), .int (nI (1))]) (st' := [.ref (9016), .int (nI (1))]) (M' := (I, J, Rx R, N, G)) rfl ?_
    refine XP_pure rfl rfl tl_8 ?_
    refine XP_icN (x := 1) (y := 4) rfl (by omega) (by omega) (fun (b13 : 4 ≤ 1) => absurd b13 (by omega)) (fun (b13 : 1 < 4) => ?_)
    refine XP_n 4 (pc' := 18) (ls' := [.ref (9), .int (nI (q)), .int (nI (e)), .ref (9016), .int (nI (1))]) (st' := [.int ((nI (q)) + (nI (1))), .ref (9)]) (M' := (I, J, Rx R, N, G)) rfl ?_
    rw [show (nI (q)) + (nI (1)) = nI (q + 1) from nI_addE (rfl) (rfl)]
    refine XP_pure rfl rfl (c_byteAt hT hL (show q + 1 < L by omega)) ?_
    refine XP_n 2 (pc' := 21) (ls' := [.ref (9), .int (nI (q)), .int (nI (e)), .ref (9016), .int (nI (1))]) (st' := [.int (nI (1)), .ref (9016), .int (nI (b (q + 1)))]) (M' := (I, J, Rx R, N, G)) rfl ?_
    refine XP_pure rfl rfl tc_8_1 ?_
    refine XP_icN (x := b (q + 1)) (y := 111) rfl (by omega) (by omega) (fun (b22 : b (q + 1) = 111) => ?_) (fun (b22 : ¬ b (q + 1) = 111) => absurd b22 (by omega))
    refine XP_n 1 (pc' := 26) (ls' := [.ref (9), .int (nI (q)), .int (nI (e)), .ref (9016), .int (nI (1) + nI (1))]) (st' := []) (M' := (I, J, Rx R, N, G)) rfl ?_
    rw [show nI (1) + nI (1) = nI (2) from nI_addE (rfl) rfl]
    refine XP_n 3 (pc' := 12) (ls' := [.ref (9), .int (nI (q)), .int (nI (e)), .ref (9016), .int (nI (2))]) (st' := [.ref (9016), .int (nI (2))]) (M' := (I, J, Rx R, N, G)) rfl ?_
    refine XP_pure rfl rfl tl_8 ?_
    refine XP_icN (x := 2) (y := 4) rfl (by omega) (by omega) (fun (b13 : 4 ≤ 2) => absurd b13 (by omega)) (fun (b13 : 2 < 4) => ?_)
    refine XP_n 4 (pc' := 18) (ls' := [.ref (9), .int (nI (q)), .int (nI (e)), .ref (9016), .int (nI (2))]) (st' := [.int ((nI (q)) + (nI (2))), .ref (9)]) (M' := (I, J, Rx R, N, G)) rfl ?_
    rw [show (nI (q)) + (nI (2)) = nI (q + 2) from nI_addE (rfl) (rfl)]
    refine XP_pure rfl rfl (c_byteAt hT hL (show q + 2 < L by omega)) ?_
    refine XP_n 2 (pc' := 21) (ls' := [.ref (9), .int (nI (q)), .int (nI (e)), .ref (9016), .int (nI (2))]) (st' := [.int (nI (2)), .ref (9016), .int (nI (b (q + 2)))]) (M' := (I, J, Rx R, N, G)) rfl ?_
    refine XP_pure rfl rfl tc_8_2 ?_
    refine XP_icN (x := b (q + 2)) (y := 115) rfl (by omega) (by omega) (fun (b22 : b (q + 2) = 115) => absurd b22 (by omega)) (fun (b22 : ¬ b (q + 2) = 115) => ?_)
    refine XP_n 1 (pc' := 24) (ls' := [.ref (9), .int (nI (q)), .int (nI (e)), .ref (9016), .int (nI (2))]) (st' := [.int (nI (0))]) (M' := (I, J, Rx R, N, G)) rfl ?_
    exact XP_ret rfl ⟨rfl, rfl⟩
  by_cases h3 : b (q + 3) = 116
  rotate_left
  · skip
    unfold TP
    show XP X _ k_Reader_spells 0 [.ref (9), .int (nI (q)), .int (nI (e)), .ref (9016), xj] [] _ _
    refine XP_n 4 (pc' := 4) (ls' := [.ref (9), .int (nI (q)), .int (nI (e)), .ref (9016), xj]) (st' := [.ref (9016), .int ((nI (e)) - (nI (q)))]) (M' := (I, J, Rx R, N, G)) rfl ?_
    rw [show (nI (e)) - (nI (q)) = nI (e - q) from nI_subE (rfl) (rfl) (by omega)]
    refine XP_pure rfl rfl tl_8 ?_
    refine XP_icN (x := e - q) (y := 4) rfl (by omega) (by omega) (fun (b5 : e - q = 4) => ?_) (fun (b5 : ¬ e - q = 4) => absurd b5 (by omega))
    refine XP_n 4 (pc' := 12) (ls' := [.ref (9), .int (nI (q)), .int (nI (e)), .ref (9016), .int (nI (0))]) (st' := [.ref (9016), .int (nI (0))]) (M' := (I, J, Rx R, N, G)) rfl ?_
    refine XP_pure rfl rfl tl_8 ?_
    refine XP_icN (x := 0) (y := 4) rfl (by omega) (by omega) (fun (b13 : 4 ≤ 0) => absurd b13 (by omega)) (fun (b13 : 0 < 4) => ?_)
    refine XP_n 4 (pc' := 18) (ls' := [.ref (9), .int (nI (q)), .int (nI (e)), .ref (9016), .int (nI (0))]) (st' := [.int ((nI (q)) + (nI (0))), .ref (9)]) (M' := (I, J, Rx R, N, G)) rfl ?_
    rw [show (nI (q)) + (nI (0)) = nI (q + 0) from nI_addE (rfl) (rfl)]
    refine XP_pure rfl rfl (c_byteAt hT hL (show q + 0 < L by omega)) ?_
    refine XP_n 2 (pc' := 21) (ls' := [.ref (9), .int (nI (q)), .int (nI (e)), .ref (9016), .int (nI (0))]) (st' := [.int (nI (0)), .ref (9016), .int (nI (b (q + 0)))]) (M' := (I, J, Rx R, N, G)) rfl ?_
    refine XP_pure rfl rfl tc_8_0 ?_
    refine XP_icN (x := b (q + 0)) (y := 99) rfl (by omega) (by omega) (fun (b22 : b (q + 0) = 99) => ?_) (fun (b22 : ¬ b (q + 0) = 99) => absurd b22 (by omega))
    refine XP_n 1 (pc' := 26) (ls' := [.ref (9), .int (nI (q)), .int (nI (e)), .ref (9016), .int (nI (0) + nI (1))]) (st' := []) (M' := (I, J, Rx R, N, G)) rfl ?_
    rw [show nI (0) + nI (1) = nI (1) from nI_addE (rfl) rfl]
    refine XP_n 3 (pc' := 12) (ls' := [.ref (9), .int (nI (q)), .int (nI (e)), .ref (9016), .int (nI (1))]) (st' := [.ref (9016), .int (nI (1))]) (M' := (I, J, Rx R, N, G)) rfl ?_
    refine XP_pure rfl rfl tl_8 ?_
    refine XP_icN (x := 1) (y := 4) rfl (by omega) (by omega) (fun (b13 : 4 ≤ 1) => absurd b13 (by omega)) (fun (b13 : 1 < 4) => ?_)
    refine XP_n 4 (pc' := 18) (ls' := [.ref (9), .int (nI (q)), .int (nI (e)), .ref (9016), .int (nI (1))]) (st' := [.int ((nI (q)) + (nI (1))), .ref (9)]) (M' := (I, J, Rx R, N, G)) rfl ?_
    rw [show (nI (q)) + (nI (1)) = nI (q + 1) from nI_addE (rfl) (rfl)]
    refine XP_pure rfl rfl (c_byteAt hT hL (show q + 1 < L by omega)) ?_
    refine XP_n 2 (pc' := 21) (ls' := [.ref (9), .int (nI (q)), .int (nI (e)), .ref (9016), .int (nI (1))]) (st' := [.int (nI (1)), .ref (9016), .int (nI (b (q + 1)))]) (M' := (I, J, Rx R, N, G)) rfl ?_
    refine XP_pure rfl rfl tc_8_1 ?_
    refine XP_icN (x := b (q + 1)) (y := 111) rfl (by omega) (by omega) (fun (b22 : b (q + 1) = 111) => ?_) (fun (b22 : ¬ b (q + 1) = 111) => absurd b22 (by omega))
    refine XP_n 1 (pc' := 26) (ls' := [.ref (9), .int (nI (q)), .int (nI (e)), .ref (9016), .int (nI (1) + nI (1))]) (st' := []) (M' := (I, J, Rx R, N, G)) rfl ?_
    rw [show nI (1) + nI (1) = nI (2) from nI_addE (rfl) rfl]
    refine XP_n 3 (pc' := 12) (ls' := [.ref (9), .int (nI (q)), .int (nI (e)), .ref (9016), .int (nI (2))]) (st' := [.ref (9016), .int (nI (2))]) (M' := (I, J, Rx R, N, G)) rfl ?_
    refine XP_pure rfl rfl tl_8 ?_
    refine XP_icN (x := 2) (y := 4) rfl (by omega) (by omega) (fun (b13 : 4 ≤ 2) => absurd b13 (by omega)) (fun (b13 : 2 < 4) => ?_)
    refine XP_n 4 (pc' := 18) (ls' := [.ref (9), .int (nI (q)), .int (nI (e)), .ref (9016), .int (nI (2))]) (st' := [.int ((nI (q)) + (nI (2))), .ref (9)]) (M' := (I, J, Rx R, N, G)) rfl ?_
    rw [show (nI (q)) + (nI (2)) = nI (q + 2) from nI_addE (rfl) (rfl)]
    refine XP_pure rfl rfl (c_byteAt hT hL (show q + 2 < L by omega)) ?_
    refine XP_n 2 (pc' := 21) (ls' := [.ref (9), .int (nI (q)), .int (nI (e)), .ref (9016), .int (nI (2))]) (st' := [.int (nI (2)), .ref (9016), .int (nI (b (q + 2)))]) (M' := (I, J, Rx R, N, G)) rfl ?_
    refine XP_pure rfl rfl tc_8_2 ?_
    refine XP_icN (x := b (q + 2)) (y := 115) rfl (by omega) (by omega) (fun (b22 : b (q + 2) = 115) => ?_) (fun (b22 : ¬ b (q + 2) = 115) => absurd b22 (by omega))
    refine XP_n 1 (pc' := 26) (ls' := [.ref (9), .int (nI (q)), .int (nI (e)), .ref (9016), .int (nI (2) + nI (1))]) (st' := []) (M' := (I, J, Rx R, N, G)) rfl ?_
    rw [show nI (2) + nI (1) = nI (3) from nI_addE (rfl) rfl]
    refine XP_n 3 (pc' := 12) (ls' := [.ref (9), .int (nI (q)), .int (nI (e)), .ref (9016), .int (nI (3))]) (st' := [.ref (9016), .int (nI (3))]) (M' := (I, J, Rx R, N, G)) rfl ?_
    refine XP_pure rfl rfl tl_8 ?_
    refine XP_icN (x := 3) (y := 4) rfl (by omega) (by omega) (fun (b13 : 4 ≤ 3) => absurd b13 (by omega)) (fun (b13 : 3 < 4) => ?_)
    refine XP_n 4 (pc' := 18) (ls' := [.ref (9), .int (nI (q)), .int (nI (e)), .ref (9016), .int (nI (3))]) (st' := [.int ((nI (q)) + (nI (3))), .ref (9)]) (M' := (I, J, Rx R, N, G)) rfl ?_
    rw [show (nI (q)) + (nI (3)) = nI (q + 3) from nI_addE (rfl) (rfl)]
    refine XP_pure rfl rfl (c_byteAt hT hL (show q + 3 < L by omega)) ?_
    refine XP_n 2 (pc' := 21) (ls' := [.ref (9), .int (nI (q)), .int (nI (e)), .ref (9016), .int (nI (3))]) (st' := [.int (nI (3)), .ref (9016), .int (nI (b (q + 3)))]) (M' := (I, J, Rx R, N, G)) rfl ?_
    refine XP_pure rfl rfl tc_8_3 ?_
    refine XP_icN (x := b (q + 3)) (y := 116) rfl (by omega) (by omega) (fun (b22 : b (q + 3) = 116) => absurd b22 (by omega)) (fun (b22 : ¬ b (q + 3) = 116) => ?_)
    refine XP_n 1 (pc' := 24) (ls' := [.ref (9), .int (nI (q)), .int (nI (e)), .ref (9016), .int (nI (3))]) (st' := [.int (nI (0))]) (M' := (I, J, Rx R, N, G)) rfl ?_
    exact XP_ret rfl ⟨rfl, rfl⟩
  refine absurd ⟨hl, fun j hj => ?_⟩ h
  have hj : j < 4 := hj
  have hc : j = 0 ∨ j = 1 ∨ j = 2 ∨ j = 3 := by omega
  rcases hc with rfl | rfl | rfl | rfl
  · exact h0
  · exact h1
  · exact h2
  · exact h3
theorem c_spT9 (hT : Tp I b L) (hL : L ≤ 160) {q e : Nat} (hqe : q ≤ e) (he : e ≤ L) (h : mW b q e 2) : TP X (d + 8) n_Reader_spells [.ref 9, .int (nI q), .int (nI e), .ref 9018] (I, J, Rx R, N, G) (Ret (.int (nI 1)) (I, J, Rx R, N, G)) := by
  have hl : e - q = 4 := h.1
  have h0 : b (q + 0) = 103 := h.2 0 (by decide)
  have h1 : b (q + 1) = 114 := h.2 1 (by decide)
  have h2 : b (q + 2) = 111 := h.2 2 (by decide)
  have h3 : b (q + 3) = 119 := h.2 3 (by decide)
  unfold TP
  show XP X _ k_Reader_spells 0 [.ref (9), .int (nI (q)), .int (nI (e)), .ref (9018), xj] [] _ _
  refine XP_n 4 (pc' := 4) (ls' := [.ref (9), .int (nI (q)), .int (nI (e)), .ref (9018), xj]) (st' := [.ref (9018), .int ((nI (e)) - (nI (q)))]) (M' := (I, J, Rx R, N, G)) rfl ?_
  rw [show (nI (e)) - (nI (q)) = nI (e - q) from nI_subE (rfl) (rfl) (by omega)]
  refine XP_pure rfl rfl tl_9 ?_
  refine XP_icN (x := e - q) (y := 4) rfl (by omega) (by omega) (fun (b5 : e - q = 4) => ?_) (fun (b5 : ¬ e - q = 4) => absurd b5 (by omega))
  refine XP_n 4 (pc' := 12) (ls' := [.ref (9), .int (nI (q)), .int (nI (e)), .ref (9018), .int (nI (0))]) (st' := [.ref (9018), .int (nI (0))]) (M' := (I, J, Rx R, N, G)) rfl ?_
  refine XP_pure rfl rfl tl_9 ?_
  refine XP_icN (x := 0) (y := 4) rfl (by omega) (by omega) (fun (b13 : 4 ≤ 0) => absurd b13 (by omega)) (fun (b13 : 0 < 4) => ?_)
  refine XP_n 4 (pc' := 18) (ls' := [.ref (9), .int (nI (q)), .int (nI (e)), .ref (9018), .int (nI (0))]) (st' := [.int ((nI (q)) + (nI (0))), .ref (9)]) (M' := (I, J, Rx R, N, G)) rfl ?_
  rw [show (nI (q)) + (nI (0)) = nI (q + 0) from nI_addE (rfl) (rfl)]
  refine XP_pure rfl rfl (c_byteAt hT hL (show q + 0 < L by omega)) ?_
  refine XP_n 2 (pc' := 21) (ls' := [.ref (9), .int (nI (q)), .int (nI (e)), .ref (9018), .int (nI (0))]) (st' := [.int (nI (0)), .ref (9018), .int (nI (b (q + 0)))]) (M' := (I, J, Rx R, N, G)) rfl ?_
  refine XP_pure rfl rfl tc_9_0 ?_
  refine XP_icN (x := b (q + 0)) (y := 103) rfl (by omega) (by omega) (fun (b22 : b (q + 0) = 103) => ?_) (fun (b22 : ¬ b (q + 0) = 103) => absurd b22 (by omega))
  refine XP_n 1 (pc' := 26) (ls' := [.ref (9), .int (nI (q)), .int (nI (e)), .ref (9018), .int (nI (0) + nI (1))]) (st' := []) (M' := (I, J, Rx R, N, G)) rfl ?_
  rw [show nI (0) + nI (1) = nI (1) from nI_addE (rfl) rfl]
  refine XP_n 3 (pc' := 12) (ls' := [.ref (9), .int (nI (q)), .int (nI (e)), .ref (9018), .int (nI (1))]) (st' := [.ref (9018), .int (nI (1))]) (M' := (I, J, Rx R, N, G)) rfl ?_
  refine XP_pure rfl rfl tl_9 ?_
  refine XP_icN (x := 1) (y := 4) rfl (by omega) (by omega) (fun (b13 : 4 ≤ 1) => absurd b13 (by omega)) (fun (b13 : 1 < 4) => ?_)
  refine XP_n 4 (pc' := 18) (ls' := [.ref (9), .int (nI (q)), .int (nI (e)), .ref (9018), .int (nI (1))]) (st' := [.int ((nI (q)) + (nI (1))), .ref (9)]) (M' := (I, J, Rx R, N, G)) rfl ?_
  rw [show (nI (q)) + (nI (1)) = nI (q + 1) from nI_addE (rfl) (rfl)]
  refine XP_pure rfl rfl (c_byteAt hT hL (show q + 1 < L by omega)) ?_
  refine XP_n 2 (pc' := 21) (ls' := [.ref (9), .int (nI (q)), .int (nI (e)), .ref (9018), .int (nI (1))]) (st' := [.int (nI (1)), .ref (9018), .int (nI (b (q + 1)))]) (M' := (I, J, Rx R, N, G)) rfl ?_
  refine XP_pure rfl rfl tc_9_1 ?_
  refine XP_icN (x := b (q + 1)) (y := 114) rfl (by omega) (by omega) (fun (b22 : b (q + 1) = 114) => ?_) (fun (b22 : ¬ b (q + 1) = 114) => absurd b22 (by omega))
  refine XP_n 1 (pc' := 26) (ls' := [.ref (9), .int (nI (q)), .int (nI (e)), .ref (9018), .int (nI (1) + nI (1))]) (st' := []) (M' := (I, J, Rx R, N, G)) rfl ?_
  rw [show nI (1) + nI (1) = nI (2) from nI_addE (rfl) rfl]
  refine XP_n 3 (pc' := 12) (ls' := [.ref (9), .int (nI (q)), .int (nI (e)), .ref (9018), .int (nI (2))]) (st' := [.ref (9018), .int (nI (2))]) (M' := (I, J, Rx R, N, G)) rfl ?_
  refine XP_pure rfl rfl tl_9 ?_
  refine XP_icN (x := 2) (y := 4) rfl (by omega) (by omega) (fun (b13 : 4 ≤ 2) => absurd b13 (by omega)) (fun (b13 : 2 < 4) => ?_)
  refine XP_n 4 (pc' := 18) (ls' := [.ref (9), .int (nI (q)), .int (nI (e)), .ref (9018), .int (nI (2))]) (st' := [.int ((nI (q)) + (nI (2))), .ref (9)]) (M' := (I, J, Rx R, N, G)) rfl ?_
  rw [show (nI (q)) + (nI (2)) = nI (q + 2) from nI_addE (rfl) (rfl)]
  refine XP_pure rfl rfl (c_byteAt hT hL (show q + 2 < L by omega)) ?_
  refine XP_n 2 (pc' := 21) (ls' := [.ref (9), .int (nI (q)), .int (nI (e)), .ref (9018), .int (nI (2))]) (st' := [.int (nI (2)), .ref (9018), .int (nI (b (q + 2)))]) (M' := (I, J, Rx R, N, G)) rfl ?_
  refine XP_pure rfl rfl tc_9_2 ?_
  refine XP_icN (x := b (q + 2)) (y := 111) rfl (by omega) (by omega) (fun (b22 : b (q + 2) = 111) => ?_) (fun (b22 : ¬ b (q + 2) = 111) => absurd b22 (by omega))
  refine XP_n 1 (pc' := 26) (ls' := [.ref (9), .int (nI (q)), .int (nI (e)), .ref (9018), .int (nI (2) + nI (1))]) (st' := []) (M' := (I, J, Rx R, N, G)) rfl ?_
  rw [show nI (2) + nI (1) = nI (3) from nI_addE (rfl) rfl]
  refine XP_n 3 (pc' := 12) (ls' := [.ref (9), .int (nI (q)), .int (nI (e)), .ref (9018), .int (nI (3))]) (st' := [.ref (9018), .int (nI (3))]) (M' := (I, J, Rx R, N, G)) rfl ?_
  refine XP_pure rfl rfl tl_9 ?_
  refine XP_icN (x := 3) (y := 4) rfl (by omega) (by omega) (fun (b13 : 4 ≤ 3) => absurd b13 (by omega)) (fun (b13 : 3 < 4) => ?_)
  refine XP_n 4 (pc' := 18) (ls' := [.ref (9), .int (nI (q)), .int (nI (e)), .ref (9018), .int (nI (3))]) (st' := [.int ((nI (q)) + (nI (3))), .ref (9)]) (M' := (I, J, Rx R, N, G)) rfl ?_
  rw [show (nI (q)) + (nI (3)) = nI (q + 3) from nI_addE (rfl) (rfl)]
  refine XP_pure rfl rfl (c_byteAt hT hL (show q + 3 < L by omega)) ?_
  refine XP_n 2 (pc' := 21) (ls' := [.ref (9), .int (nI (q)), .int (nI (e)), .ref (9018), .int (nI (3))]) (st' := [.int (nI (3)), .ref (9018), .int (nI (b (q + 3)))]) (M' := (I, J, Rx R, N, G)) rfl ?_
  refine XP_pure rfl rfl tc_9_3 ?_
  refine XP_icN (x := b (q + 3)) (y := 119) rfl (by omega) (by omega) (fun (b22 : b (q + 3) = 119) => ?_) (fun (b22 : ¬ b (q + 3) = 119) => absurd b22 (by omega))
  refine XP_n 1 (pc' := 26) (ls' := [.ref (9), .int (nI (q)), .int (nI (e)), .ref (9018), .int (nI (3) + nI (1))]) (st' := []) (M' := (I, J, Rx R, N, G)) rfl ?_
  rw [show nI (3) + nI (1) = nI (4) from nI_addE (rfl) rfl]
  refine XP_n 3 (pc' := 12) (ls' := [.ref (9), .int (nI (q)), .int (nI (e)), .ref (9018), .int (nI (4))]) (st' := [.ref (9018), .int (nI (4))]) (M' := (I, J, Rx R, N, G)) rfl ?_
  refine XP_pure rfl rfl tl_9 ?_
  refine XP_icN (x := 4) (y := 4) rfl (by omega) (by omega) (fun (b13 : 4 ≤ 4) => ?_) (fun (b13 : 4 < 4) => absurd b13 (by omega))
  refine XP_n 1 (pc' := 28) (ls' := [.ref (9), .int (nI (q)), .int (nI (e)), .ref (9018), .int (nI (4))]) (st' := [.int (nI (1))]) (M' := (I, J, Rx R, N, G)) rfl ?_
  exact XP_ret rfl ⟨rfl, rfl⟩
theorem c_spF9 (hT : Tp I b L) (hL : L ≤ 160) (hb : ∀ i, i < L → b i ≤ 255) {q e : Nat} (hqe : q ≤ e) (he : e ≤ L) (h : ¬ mW b q e 2) : TP X (d + 8) n_Reader_spells [.ref 9, .int (nI q), .int (nI e), .ref 9018] (I, J, Rx R, N, G) (Ret (.int (nI 0)) (I, J, Rx R, N, G)) := by
  by_cases hl : e - q = 4
  rotate_left
  · skip
    unfold TP
    show XP X _ k_Reader_spells 0 [.ref (9), .int (nI (q)), .int (nI (e)), .ref (9018), xj] [] _ _
    refine XP_n 4 (pc' := 4) (ls' := [.ref (9), .int (nI (q)), .int (nI (e)), .ref (9018), xj]) (st' := [.ref (9018), .int ((nI (e)) - (nI (q)))]) (M' := (I, J, Rx R, N, G)) rfl ?_
    rw [show (nI (e)) - (nI (q)) = nI (e - q) from nI_subE (rfl) (rfl) (by omega)]
    refine XP_pure rfl rfl tl_9 ?_
    refine XP_icN (x := e - q) (y := 4) rfl (by omega) (by omega) (fun (b5 : e - q = 4) => absurd b5 (by omega)) (fun (b5 : ¬ e - q = 4) => ?_)
    refine XP_n 1 (pc' := 7) (ls' := [.ref (9), .int (nI (q)), .int (nI (e)), .ref (9018), xj]) (st' := [.int (nI (0))]) (M' := (I, J, Rx R, N, G)) rfl ?_
    exact XP_ret rfl ⟨rfl, rfl⟩
  have q0 := hb (q + 0) (by omega)
  have q1 := hb (q + 1) (by omega)
  have q2 := hb (q + 2) (by omega)
  have q3 := hb (q + 3) (by omega)
  by_cases h0 : b (q + 0) = 103
  rotate_left
  · skip
    unfold TP
    show XP X _ k_Reader_spells 0 [.ref (9), .int (nI (q)), .int (nI (e)), .ref (9018), xj] [] _ _
    refine XP_n 4 (pc' := 4) (ls' := [.ref (9), .int (nI (q)), .int (nI (e)), .ref (9018), xj]) (st' := [.ref (9018), .int ((nI (e)) - (nI (q)))]) (M' := (I, J, Rx R, N, G)) rfl ?_
    rw [show (nI (e)) - (nI (q)) = nI (e - q) from nI_subE (rfl) (rfl) (by omega)]
    refine XP_pure rfl rfl tl_9 ?_
    refine XP_icN (x := e - q) (y := 4) rfl (by omega) (by omega) (fun (b5 : e - q = 4) => ?_) (fun (b5 : ¬ e - q = 4) => absurd b5 (by omega))
    refine XP_n 4 (pc' := 12) (ls' := [.ref (9), .int (nI (q)), .int (nI (e)), .ref (9018), .int (nI (0))]) (st' := [.ref (9018), .int (nI (0))]) (M' := (I, J, Rx R, N, G)) rfl ?_
    refine XP_pure rfl rfl tl_9 ?_
    refine XP_icN (x := 0) (y := 4) rfl (by omega) (by omega) (fun (b13 : 4 ≤ 0) => absurd b13 (by omega)) (fun (b13 : 0 < 4) => ?_)
    refine XP_n 4 (pc' := 18) (ls' := [.ref (9), .int (nI (q)), .int (nI (e)), .ref (9018), .int (nI (0))]) (st' := [.int ((nI (q)) + (nI (0))), .ref (9)]) (M' := (I, J, Rx R, N, G)) rfl ?_
    rw [show (nI (q)) + (nI (0)) = nI (q + 0) from nI_addE (rfl) (rfl)]
    refine XP_pure rfl rfl (c_byteAt hT hL (show q + 0 < L by omega)) ?_
    refine XP_n 2 (pc' := 21) (ls' := [.ref (9), .int (nI (q)), .int (nI (e)), .ref (9018), .int (nI (0))]) (st' := [.int (nI (0)), .ref (9018), .int (nI (b (q + 0)))]) (M' := (I, J, Rx R, N, G)) rfl ?_
    refine XP_pure rfl rfl tc_9_0 ?_
    refine XP_icN (x := b (q + 0)) (y := 103) rfl (by omega) (by omega) (fun (b22 : b (q + 0) = 103) => absurd b22 (by omega)) (fun (b22 : ¬ b (q + 0) = 103) => ?_)
    refine XP_n 1 (pc' := 24) (ls' := [.ref (9), .int (nI (q)), .int (nI (e)), .ref (9018), .int (nI (0))]) (st' := [.int (nI (0))]) (M' := (I, J, Rx R, N, G)) rfl ?_
    exact XP_ret rfl ⟨rfl, rfl⟩
  by_cases h1 : b (q + 1) = 114
  rotate_left
  · skip
    unfold TP
    show XP X _ k_Reader_spells 0 [.ref (9), .int (nI (q)), .int (nI (e)), .ref (9018), xj] [] _ _
    refine XP_n 4 (pc' := 4) (ls' := [.ref (9), .int (nI (q)), .int (nI (e)), .ref (9018), xj]) (st' := [.ref (9018), .int ((nI (e)) - (nI (q)))]) (M' := (I, J, Rx R, N, G)) rfl ?_
    rw [show (nI (e)) - (nI (q)) = nI (e - q) from nI_subE (rfl) (rfl) (by omega)]
    refine XP_pure rfl rfl tl_9 ?_
    refine XP_icN (x := e - q) (y := 4) rfl (by omega) (by omega) (fun (b5 : e - q = 4) => ?_) (fun (b5 : ¬ e - q = 4) => absurd b5 (by omega))
    refine XP_n 4 (pc' := 12) (ls' := [.ref (9), .int (nI (q)), .int (nI (e)), .ref (9018), .int (nI (0))]) (st' := [.ref (9018), .int (nI (0))]) (M' := (I, J, Rx R, N, G)) rfl ?_
    refine XP_pure rfl rfl tl_9 ?_
    refine XP_icN (x := 0) (y := 4) rfl (by omega) (by omega) (fun (b13 : 4 ≤ 0) => absurd b13 (by omega)) (fun (b13 : 0 < 4) => ?_)
    refine XP_n 4 (pc' := 18) (ls' := [.ref (9), .int (nI (q)), .int (nI (e)), .ref (9018), .int (nI (0))]) (st' := [.int ((nI (q)) + (nI (0))), .ref (9)]) (M' := (I, J, Rx R, N, G)) rfl ?_
    rw [show (nI (q)) + (nI (0)) = nI (q + 0) from nI_addE (rfl) (rfl)]
    refine XP_pure rfl rfl (c_byteAt hT hL (show q + 0 < L by omega)) ?_
    refine XP_n 2 (pc' := 21) (ls' := [.ref (9), .int (nI (q)), .int (nI (e)), .ref (9018), .int (nI (0))]) (st' := [.int (nI (0)), .ref (9018), .int (nI (b (q + 0)))]) (M' := (I, J, Rx R, N, G)) rfl ?_
    refine XP_pure rfl rfl tc_9_0 ?_
    refine XP_icN (x := b (q + 0)) (y := 103) rfl (by omega) (by omega) (fun (b22 : b (q + 0) = 103) => ?_) (fun (b22 : ¬ b (q + 0) = 103) => absurd b22 (by omega))
    refine XP_n 1 (pc' := 26) (ls' := [.ref (9), .int (nI (q)), .int (nI (e)), .ref (9018), .int (nI (0) + nI (1))]) (st' := []) (M' := (I, J, Rx R, N, G)) rfl ?_
    rw [show nI (0) + nI (1) = nI (1) from nI_addE (rfl) rfl]
    refine XP_n 3 (pc' := 12) (ls' := [.ref (9), .int (nI (q)), .int (nI (e)), .ref (9018), .int (nI (1))]) (st' := [.ref (9018), .int (nI (1))]) (M' := (I, J, Rx R, N, G)) rfl ?_
    refine XP_pure rfl rfl tl_9 ?_
    refine XP_icN (x := 1) (y := 4) rfl (by omega) (by omega) (fun (b13 : 4 ≤ 1) => absurd b13 (by omega)) (fun (b13 : 1 < 4) => ?_)
    refine XP_n 4 (pc' := 18) (ls' := [.ref (9), .int (nI (q)), .int (nI (e)), .ref (9018), .int (nI (1))]) (st' := [.int ((nI (q)) + (nI (1))), .ref (9)]) (M' := (I, J, Rx R, N, G)) rfl ?_
    rw [show (nI (q)) + (nI (1)) = nI (q + 1) from nI_addE (rfl) (rfl)]
    refine XP_pure rfl rfl (c_byteAt hT hL (show q + 1 < L by omega)) ?_
    refine XP_n 2 (pc' := 21) (ls' := [.ref (9), .int (nI (q)), .int (nI (e)), .ref (9018), .int (nI (1))]) (st' := [.int (nI (1)), .ref (9018), .int (nI (b (q + 1)))]) (M' := (I, J, Rx R, N, G)) rfl ?_
    refine XP_pure rfl rfl tc_9_1 ?_
    refine XP_icN (x := b (q + 1)) (y := 114) rfl (by omega) (by omega) (fun (b22 : b (q + 1) = 114) => absurd b22 (by omega)) (fun (b22 : ¬ b (q + 1) = 114) => ?_)
    refine XP_n 1 (pc' := 24) (ls' := [.ref (9), .int (nI (q)), .int (nI (e)), .ref (9018), .int (nI (1))]) (st' := [.int (nI (0))]) (M' := (I, J, Rx R, N, G)) rfl ?_
    exact XP_ret rfl ⟨rfl, rfl⟩
  by_cases h2 : b (q + 2) = 111
  rotate_left
  · skip
    unfold TP
    show XP X _ k_Reader_spells 0 [.ref (9), .int (nI (q)), .int (nI (e)), .ref (9018), xj] [] _ _
    refine XP_n 4 (pc' := 4) (ls' := [.ref (9), .int (nI (q)), .int (nI (e)), .ref (9018), xj]) (st' := [.ref (9018), .int ((nI (e)) - (nI (q)))]) (M' := (I, J, Rx R, N, G)) rfl ?_
    rw [show (nI (e)) - (nI (q)) = nI (e - q) from nI_subE (rfl) (rfl) (by omega)]
    refine XP_pure rfl rfl tl_9 ?_
    refine XP_icN (x := e - q) (y := 4) rfl (by omega) (by omega) (fun (b5 : e - q = 4) => ?_) (fun (b5 : ¬ e - q = 4) => absurd b5 (by omega))
    refine XP_n 4 (pc' := 12) (ls' := [.ref (9), .int (nI (q)), .int (nI (e)), .ref (9018), .int (nI (0))]) (st' := [.ref (9018), .int (nI (0))]) (M' := (I, J, Rx R, N, G)) rfl ?_
    refine XP_pure rfl rfl tl_9 ?_
    refine XP_icN (x := 0) (y := 4) rfl (by omega) (by omega) (fun (b13 : 4 ≤ 0) => absurd b13 (by omega)) (fun (b13 : 0 < 4) => ?_)
    refine XP_n 4 (pc' := 18) (ls' := [.ref (9), .int (nI (q)), .int (nI (e)), .ref (9018), .int (nI (0))]) (st' := [.int ((nI (q)) + (nI (0))), .ref (9)]) (M' := (I, J, Rx R, N, G)) rfl ?_
    rw [show (nI (q)) + (nI (0)) = nI (q + 0) from nI_addE (rfl) (rfl)]
    refine XP_pure rfl rfl (c_byteAt hT hL (show q + 0 < L by omega)) ?_
    refine XP_n 2 (pc' := 21) (ls' := [.ref (9), .int (nI (q)), .int (nI (e)), .ref (9018), .int (nI (0))]) (st' := [.int (nI (0)), .ref (9018), .int (nI (b (q + 0)))]) (M' := (I, J, Rx R, N, G)) rfl ?_
    refine XP_pure rfl rfl tc_9_0 ?_
    refine XP_icN (x := b (q + 0)) (y := 103) rfl (by omega) (by omega) (fun (b22 : b (q + 0) = 103) => ?_) (fun (b22 : ¬ b (q + 0) = 103) => absurd b22 (by omega))
    refine XP_n 1 (pc' := 26) (ls' := [.ref (9), .int (nI (q)), .int (nI (e)), .ref (9018), .int (nI (0) + nI (1))]) (st' := []) (M' := (I, J, Rx R, N, G)) rfl ?_
    rw [show nI (0) + nI (1) = nI (1) from nI_addE (rfl) rfl]
    refine XP_n 3 (pc' := 12) (ls' := [.ref (9), .int (nI (q)), .int (nI (e)), .ref (9018), .int (nI (1))]) (st' := [.ref (9018), .int (nI (1))]) (M' := (I, J, Rx R, N, G)) rfl ?_
    refine XP_pure rfl rfl tl_9 ?_
    refine XP_icN (x := 1) (y := 4) rfl (by omega) (by omega) (fun (b13 : 4 ≤ 1) => absurd b13 (by omega)) (fun (b13 : 1 < 4) => ?_)
    refine XP_n 4 (pc' := 18) (ls' := [.ref (9), .int (nI (q)), .int (nI (e)), .ref (9018), .int (nI (1))]) (st' := [.int ((nI (q)) + (nI (1))), .ref (9)]) (M' := (I, J, Rx R, N, G)) rfl ?_
    rw [show (nI (q)) + (nI (1)) = nI (q + 1) from nI_addE (rfl) (rfl)]
    refine XP_pure rfl rfl (c_byteAt hT hL (show q + 1 < L by omega)) ?_
    refine XP_n 2 (pc' := 21) (ls' := [.ref (9), .int (nI (q)), .int (nI (e)), .ref (9018), .int (nI (1))]) (st' := [.int (nI (1)), .ref (9018), .int (nI (b (q + 1)))]) (M' := (I, J, Rx R, N, G)) rfl ?_
    refine XP_pure rfl rfl tc_9_1 ?_
    refine XP_icN (x := b (q + 1)) (y := 114) rfl (by omega) (by omega) (fun (b22 : b (q + 1) = 114) => ?_) (fun (b22 : ¬ b (q + 1) = 114) => absurd b22 (by omega))
    refine XP_n 1 (pc' := 26) (ls' := [.ref (9), .int (nI (q)), .int (nI (e)), .ref (9018), .int (nI (1) + nI (1))]) (st' := []) (M' := (I, J, Rx R, N, G)) rfl ?_
    rw [show nI (1) + nI (1) = nI (2) from nI_addE (rfl) rfl]
    refine XP_n 3 (pc' := 12) (ls' := [.ref (9), .int (nI (q)), .int (nI (e)), .ref (9018), .int (nI (2))]) (st' := [.ref (9018), .int (nI (2))]) (M' := (I, J, Rx R, N, G)) rfl ?_
    refine XP_pure rfl rfl tl_9 ?_
    refine XP_icN (x := 2) (y := 4) rfl (by omega) (by omega) (fun (b13 : 4 ≤ 2) => absurd b13 (by omega)) (fun (b13 : 2 < 4) => ?_)
    refine XP_n 4 (pc' := 18) (ls' := [.ref (9), .int (nI (q)), .int (nI (e)), .ref (9018), .int (nI (2))]) (st' := [.int ((nI (q)) + (nI (2))), .ref (9)]) (M' := (I, J, Rx R, N, G)) rfl ?_
    rw [show (nI (q)) + (nI (2)) = nI (q + 2) from nI_addE (rfl) (rfl)]
    refine XP_pure rfl rfl (c_byteAt hT hL (show q + 2 < L by omega)) ?_
    refine XP_n 2 (pc' := 21) (ls' := [.ref (9), .int (nI (q)), .int (nI (e)), .ref (9018), .int (nI (2))]) (st' := [.int (nI (2)), .ref (9018), .int (nI (b (q + 2)))]) (M' := (I, J, Rx R, N, G)) rfl ?_
    refine XP_pure rfl rfl tc_9_2 ?_
    refine XP_icN (x := b (q + 2)) (y := 111) rfl (by omega) (by omega) (fun (b22 : b (q + 2) = 111) => absurd b22 (by omega)) (fun (b22 : ¬ b (q + 2) = 111) => ?_)
    refine XP_n 1 (pc' := 24) (ls' := [.ref (9), .int (nI (q)), .int (nI (e)), .ref (9018), .int (nI (2))]) (st' := [.int (nI (0))]) (M' := (I, J, Rx R, N, G)) rfl ?_
    exact XP_ret rfl ⟨rfl, rfl⟩
  by_cases h3 : b (q + 3) = 119
  rotate_left
  · skip
    unfold TP
    show XP X _ k_Reader_spells 0 [.ref (9), .int (nI (q)), .int (nI (e)), .ref (9018), xj] [] _ _
    refine XP_n 4 (pc' := 4) (ls' := [.ref (9), .int (nI (q)), .int (nI (e)), .ref (9018), xj]) (st' := [.ref (9018), .int ((nI (e)) - (nI (q)))]) (M' := (I, J, Rx R, N, G)) rfl ?_
    rw [show (nI (e)) - (nI (q)) = nI (e - q) from nI_subE (rfl) (rfl) (by omega)]
    refine XP_pure rfl rfl tl_9 ?_
    refine XP_icN (x := e - q) (y := 4) rfl (by omega) (by omega) (fun (b5 : e - q = 4) => ?_) (fun (b5 : ¬ e - q = 4) => absurd b5 (by omega))
    refine XP_n 4 (pc' := 12) (ls' := [.ref (9), .int (nI (q)), .int (nI (e)), .ref (9018), .int (nI (0))]) (st' := [.ref (9018), .int (nI (0))]) (M' := (I, J, Rx R, N, G)) rfl ?_
    refine XP_pure rfl rfl tl_9 ?_
    refine XP_icN (x := 0) (y := 4) rfl (by omega) (by omega) (fun (b13 : 4 ≤ 0) => absurd b13 (by omega)) (fun (b13 : 0 < 4) => ?_)
    refine XP_n 4 (pc' := 18) (ls' := [.ref (9), .int (nI (q)), .int (nI (e)), .ref (9018), .int (nI (0))]) (st' := [.int ((nI (q)) + (nI (0))), .ref (9)]) (M' := (I, J, Rx R, N, G)) rfl ?_
    rw [show (nI (q)) + (nI (0)) = nI (q + 0) from nI_addE (rfl) (rfl)]
    refine XP_pure rfl rfl (c_byteAt hT hL (show q + 0 < L by omega)) ?_
    refine XP_n 2 (pc' := 21) (ls' := [.ref (9), .int (nI (q)), .int (nI (e)), .ref (9018), .int (nI (0))]) (st' := [.int (nI (0)), .ref (9018), .int (nI (b (q + 0)))]) (M' := (I, J, Rx R, N, G)) rfl ?_
    refine XP_pure rfl rfl tc_9_0 ?_
    refine XP_icN (x := b (q + 0)) (y := 103) rfl (by omega) (by omega) (fun (b22 : b (q + 0) = 103) => ?_) (fun (b22 : ¬ b (q + 0) = 103) => absurd b22 (by omega))
    refine XP_n 1 (pc' := 26) (ls' := [.ref (9), .int (nI (q)), .int (nI (e)), .ref (9018), .int (nI (0) + nI (1))]) (st' := []) (M' := (I, J, Rx R, N, G)) rfl ?_
    rw [show nI (0) + nI (1) = nI (1) from nI_addE (rfl) rfl]
    refine XP_n 3 (pc' := 12) (ls' := [.ref (9), .int (nI (q)), .int (nI (e)), .ref (9018), .int (nI (1))]) (st' := [.ref (9018), .int (nI (1))]) (M' := (I, J, Rx R, N, G)) rfl ?_
    refine XP_pure rfl rfl tl_9 ?_
    refine XP_icN (x := 1) (y := 4) rfl (by omega) (by omega) (fun (b13 : 4 ≤ 1) => absurd b13 (by omega)) (fun (b13 : 1 < 4) => ?_)
    refine XP_n 4 (pc' := 18) (ls' := [.ref (9), .int (nI (q)), .int (nI (e)), .ref (9018), .int (nI (1))]) (st' := [.int ((nI (q)) + (nI (1))), .ref (9)]) (M' := (I, J, Rx R, N, G)) rfl ?_
    rw [show (nI (q)) + (nI (1)) = nI (q + 1) from nI_addE (rfl) (rfl)]
    refine XP_pure rfl rfl (c_byteAt hT hL (show q + 1 < L by omega)) ?_
    refine XP_n 2 (pc' := 21) (ls' := [.ref (9), .int (nI (q)), .int (nI (e)), .ref (9018), .int (nI (1))]) (st' := [.int (nI (1)), .ref (9018), .int (nI (b (q + 1)))]) (M' := (I, J, Rx R, N, G)) rfl ?_
    refine XP_pure rfl rfl tc_9_1 ?_
    refine XP_icN (x := b (q + 1)) (y := 114) rfl (by omega) (by omega) (fun (b22 : b (q + 1) = 114) => ?_) (fun (b22 : ¬ b (q + 1) = 114) => absurd b22 (by omega))
    refine XP_n 1 (pc' := 26) (ls' := [.ref (9), .int (nI (q)), .int (nI (e)), .ref (9018), .int (nI (1) + nI (1))]) (st' := []) (M' := (I, J, Rx R, N, G)) rfl ?_
    rw [show nI (1) + nI (1) = nI (2) from nI_addE (rfl) rfl]
    refine XP_n 3 (pc' := 12) (ls' := [.ref (9), .int (nI (q)), .int (nI (e)), .ref (9018), .int (nI (2))]) (st' := [.ref (9018), .int (nI (2))]) (M' := (I, J, Rx R, N, G)) rfl ?_
    refine XP_pure rfl rfl tl_9 ?_
    refine XP_icN (x := 2) (y := 4) rfl (by omega) (by omega) (fun (b13 : 4 ≤ 2) => absurd b13 (by omega)) (fun (b13 : 2 < 4) => ?_)
    refine XP_n 4 (pc' := 18) (ls' := [.ref (9), .int (nI (q)), .int (nI (e)), .ref (9018), .int (nI (2))]) (st' := [.int ((nI (q)) + (nI (2))), .ref (9)]) (M' := (I, J, Rx R, N, G)) rfl ?_
    rw [show (nI (q)) + (nI (2)) = nI (q + 2) from nI_addE (rfl) (rfl)]
    refine XP_pure rfl rfl (c_byteAt hT hL (show q + 2 < L by omega)) ?_
    refine XP_n 2 (pc' := 21) (ls' := [.ref (9), .int (nI (q)), .int (nI (e)), .ref (9018), .int (nI (2))]) (st' := [.int (nI (2)), .ref (9018), .int (nI (b (q + 2)))]) (M' := (I, J, Rx R, N, G)) rfl ?_
    refine XP_pure rfl rfl tc_9_2 ?_
    refine XP_icN (x := b (q + 2)) (y := 111) rfl (by omega) (by omega) (fun (b22 : b (q + 2) = 111) => ?_) (fun (b22 : ¬ b (q + 2) = 111) => absurd b22 (by omega))
    refine XP_n 1 (pc' := 26) (ls' := [.ref (9), .int (nI (q)), .int (nI (e)), .ref (9018), .int (nI (2) + nI (1))]) (st' := []) (M' := (I, J, Rx R, N, G)) rfl ?_
    rw [show nI (2) + nI (1) = nI (3) from nI_addE (rfl) rfl]
    refine XP_n 3 (pc' := 12) (ls' := [.ref (9), .int (nI (q)), .int (nI (e)), .ref (9018), .int (nI (3))]) (st' := [.ref (9018), .int (nI (3))]) (M' := (I, J, Rx R, N, G)) rfl ?_
    refine XP_pure rfl rfl tl_9 ?_
    refine XP_icN (x := 3) (y := 4) rfl (by omega) (by omega) (fun (b13 : 4 ≤ 3) => absurd b13 (by omega)) (fun (b13 : 3 < 4) => ?_)
    refine XP_n 4 (pc' := 18) (ls' := [.ref (9), .int (nI (q)), .int (nI (e)), .ref (9018), .int (nI (3))]) (st' := [.int ((nI (q)) + (nI (3))), .ref (9)]) (M' := (I, J, Rx R, N, G)) rfl ?_
    rw [show (nI (q)) + (nI (3)) = nI (q + 3) from nI_addE (rfl) (rfl)]
    refine XP_pure rfl rfl (c_byteAt hT hL (show q + 3 < L by omega)) ?_
    refine XP_n 2 (pc' := 21) (ls' := [.ref (9), .int (nI (q)), .int (nI (e)), .ref (9018), .int (nI (3))]) (st' := [.int (nI (3)), .ref (9018), .int (nI (b (q + 3)))]) (M' := (I, J, Rx R, N, G)) rfl ?_
    refine XP_pure rfl rfl tc_9_3 ?_
    refine XP_icN (x := b (q + 3)) (y := 119) rfl (by omega) (by omega) (fun (b22 : b (q + 3) = 119) => absurd b22 (by omega)) (fun (b22 : ¬ b (q + 3) = 119) => ?_)
    refine XP_n 1 (pc' := 24) (ls' := [.ref (9), .int (nI (q)), .int (nI (e)), .ref (9018), .int (nI (3))]) (st' := [.int (nI (0))]) (M' := (I, J, Rx R, N, G)) rfl ?_
    exact XP_ret rfl ⟨rfl, rfl⟩
  refine absurd ⟨hl, fun j hj => ?_⟩ h
  have hj : j < 4 := hj
  have hc : j = 0 ∨ j = 1 ∨ j = 2 ∨ j = 3 := by omega
  rcases hc with rfl | rfl | rfl | rfl
  · exact h0
  · exact h1
  · exact h2
  · exact h3
theorem c_spT10 (hT : Tp I b L) (hL : L ≤ 160) {q e : Nat} (hqe : q ≤ e) (he : e ≤ L) (h : mW b q e 9) : TP X (d + 8) n_Reader_spells [.ref 9, .int (nI q), .int (nI e), .ref 9020] (I, J, Rx R, N, G) (Ret (.int (nI 1)) (I, J, Rx R, N, G)) := by
  have hl : e - q = 2 := h.1
  have h0 : b (q + 0) = 111 := h.2 0 (by decide)
  have h1 : b (q + 1) = 114 := h.2 1 (by decide)
  unfold TP
  show XP X _ k_Reader_spells 0 [.ref (9), .int (nI (q)), .int (nI (e)), .ref (9020), xj] [] _ _
  refine XP_n 4 (pc' := 4) (ls' := [.ref (9), .int (nI (q)), .int (nI (e)), .ref (9020), xj]) (st' := [.ref (9020), .int ((nI (e)) - (nI (q)))]) (M' := (I, J, Rx R, N, G)) rfl ?_
  rw [show (nI (e)) - (nI (q)) = nI (e - q) from nI_subE (rfl) (rfl) (by omega)]
  refine XP_pure rfl rfl tl_10 ?_
  refine XP_icN (x := e - q) (y := 2) rfl (by omega) (by omega) (fun (b5 : e - q = 2) => ?_) (fun (b5 : ¬ e - q = 2) => absurd b5 (by omega))
  refine XP_n 4 (pc' := 12) (ls' := [.ref (9), .int (nI (q)), .int (nI (e)), .ref (9020), .int (nI (0))]) (st' := [.ref (9020), .int (nI (0))]) (M' := (I, J, Rx R, N, G)) rfl ?_
  refine XP_pure rfl rfl tl_10 ?_
  refine XP_icN (x := 0) (y := 2) rfl (by omega) (by omega) (fun (b13 : 2 ≤ 0) => absurd b13 (by omega)) (fun (b13 : 0 < 2) => ?_)
  refine XP_n 4 (pc' := 18) (ls' := [.ref (9), .int (nI (q)), .int (nI (e)), .ref (9020), .int (nI (0))]) (st' := [.int ((nI (q)) + (nI (0))), .ref (9)]) (M' := (I, J, Rx R, N, G)) rfl ?_
  rw [show (nI (q)) + (nI (0)) = nI (q + 0) from nI_addE (rfl) (rfl)]
  refine XP_pure rfl rfl (c_byteAt hT hL (show q + 0 < L by omega)) ?_
  refine XP_n 2 (pc' := 21) (ls' := [.ref (9), .int (nI (q)), .int (nI (e)), .ref (9020), .int (nI (0))]) (st' := [.int (nI (0)), .ref (9020), .int (nI (b (q + 0)))]) (M' := (I, J, Rx R, N, G)) rfl ?_
  refine XP_pure rfl rfl tc_10_0 ?_
  refine XP_icN (x := b (q + 0)) (y := 111) rfl (by omega) (by omega) (fun (b22 : b (q + 0) = 111) => ?_) (fun (b22 : ¬ b (q + 0) = 111) => absurd b22 (by omega))
  refine XP_n 1 (pc' := 26) (ls' := [.ref (9), .int (nI (q)), .int (nI (e)), .ref (9020), .int (nI (0) + nI (1))]) (st' := []) (M' := (I, J, Rx R, N, G)) rfl ?_
  rw [show nI (0) + nI (1) = nI (1) from nI_addE (rfl) rfl]
  refine XP_n 3 (pc' := 12) (ls' := [.ref (9), .int (nI (q)), .int (nI (e)), .ref (9020), .int (nI (1))]) (st' := [.ref (9020), .int (nI (1))]) (M' := (I, J, Rx R, N, G)) rfl ?_
  refine XP_pure rfl rfl tl_10 ?_
  refine XP_icN (x := 1) (y := 2) rfl (by omega) (by omega) (fun (b13 : 2 ≤ 1) => absurd b13 (by omega)) (fun (b13 : 1 < 2) => ?_)
  refine XP_n 4 (pc' := 18) (ls' := [.ref (9), .int (nI (q)), .int (nI (e)), .ref (9020), .int (nI (1))]) (st' := [.int ((nI (q)) + (nI (1))), .ref (9)]) (M' := (I, J, Rx R, N, G)) rfl ?_
  rw [show (nI (q)) + (nI (1)) = nI (q + 1) from nI_addE (rfl) (rfl)]
  refine XP_pure rfl rfl (c_byteAt hT hL (show q + 1 < L by omega)) ?_
  refine XP_n 2 (pc' := 21) (ls' := [.ref (9), .int (nI (q)), .int (nI (e)), .ref (9020), .int (nI (1))]) (st' := [.int (nI (1)), .ref (9020), .int (nI (b (q + 1)))]) (M' := (I, J, Rx R, N, G)) rfl ?_
  refine XP_pure rfl rfl tc_10_1 ?_
  refine XP_icN (x := b (q + 1)) (y := 114) rfl (by omega) (by omega) (fun (b22 : b (q + 1) = 114) => ?_) (fun (b22 : ¬ b (q + 1) = 114) => absurd b22 (by omega))
  refine XP_n 1 (pc' := 26) (ls' := [.ref (9), .int (nI (q)), .int (nI (e)), .ref (9020), .int (nI (1) + nI (1))]) (st' := []) (M' := (I, J, Rx R, N, G)) rfl ?_
  rw [show nI (1) + nI (1) = nI (2) from nI_addE (rfl) rfl]
  refine XP_n 3 (pc' := 12) (ls' := [.ref (9), .int (nI (q)), .int (nI (e)), .ref (9020), .int (nI (2))]) (st' := [.ref (9020), .int (nI (2))]) (M' := (I, J, Rx R, N, G)) rfl ?_
  refine XP_pure rfl rfl tl_10 ?_
  refine XP_icN (x := 2) (y := 2) rfl (by omega) (by omega) (fun (b13 : 2 ≤ 2) => ?_) (fun (b13 : 2 < 2) => absurd b13 (by omega))
  refine XP_n 1 (pc' := 28) (ls' := [.ref (9), .int (nI (q)), .int (nI (e)), .ref (9020), .int (nI (2))]) (st' := [.int (nI (1))]) (M' := (I, J, Rx R, N, G)) rfl ?_
  exact XP_ret rfl ⟨rfl, rfl⟩
theorem c_spF10 (hT : Tp I b L) (hL : L ≤ 160) (hb : ∀ i, i < L → b i ≤ 255) {q e : Nat} (hqe : q ≤ e) (he : e ≤ L) (h : ¬ mW b q e 9) : TP X (d + 8) n_Reader_spells [.ref 9, .int (nI q), .int (nI e), .ref 9020] (I, J, Rx R, N, G) (Ret (.int (nI 0)) (I, J, Rx R, N, G)) := by
  by_cases hl : e - q = 2
  rotate_left
  · skip
    unfold TP
    show XP X _ k_Reader_spells 0 [.ref (9), .int (nI (q)), .int (nI (e)), .ref (9020), xj] [] _ _
    refine XP_n 4 (pc' := 4) (ls' := [.ref (9), .int (nI (q)), .int (nI (e)), .ref (9020), xj]) (st' := [.ref (9020), .int ((nI (e)) - (nI (q)))]) (M' := (I, J, Rx R, N, G)) rfl ?_
    rw [show (nI (e)) - (nI (q)) = nI (e - q) from nI_subE (rfl) (rfl) (by omega)]
    refine XP_pure rfl rfl tl_10 ?_
    refine XP_icN (x := e - q) (y := 2) rfl (by omega) (by omega) (fun (b5 : e - q = 2) => absurd b5 (by omega)) (fun (b5 : ¬ e - q = 2) => ?_)
    refine XP_n 1 (pc' := 7) (ls' := [.ref (9), .int (nI (q)), .int (nI (e)), .ref (9020), xj]) (st' := [.int (nI (0))]) (M' := (I, J, Rx R, N, G)) rfl ?_
    exact XP_ret rfl ⟨rfl, rfl⟩
  have q0 := hb (q + 0) (by omega)
  have q1 := hb (q + 1) (by omega)
  by_cases h0 : b (q + 0) = 111
  rotate_left
  · skip
    unfold TP
    show XP X _ k_Reader_spells 0 [.ref (9), .int (nI (q)), .int (nI (e)), .ref (9020), xj] [] _ _
    refine XP_n 4 (pc' := 4) (ls' := [.ref (9), .int (nI (q)), .int (nI (e)), .ref (9020), xj]) (st' := [.ref (9020), .int ((nI (e)) - (nI (q)))]) (M' := (I, J, Rx R, N, G)) rfl ?_
    rw [show (nI (e)) - (nI (q)) = nI (e - q) from nI_subE (rfl) (rfl) (by omega)]
    refine XP_pure rfl rfl tl_10 ?_
    refine XP_icN (x := e - q) (y := 2) rfl (by omega) (by omega) (fun (b5 : e - q = 2) => ?_) (fun (b5 : ¬ e - q = 2) => absurd b5 (by omega))
    refine XP_n 4 (pc' := 12) (ls' := [.ref (9), .int (nI (q)), .int (nI (e)), .ref (9020), .int (nI (0))]) (st' := [.ref (9020), .int (nI (0))]) (M' := (I, J, Rx R, N, G)) rfl ?_
    refine XP_pure rfl rfl tl_10 ?_
    refine XP_icN (x := 0) (y := 2) rfl (by omega) (by omega) (fun (b13 : 2 ≤ 0) => absurd b13 (by omega)) (fun (b13 : 0 < 2) => ?_)
    refine XP_n 4 (pc' := 18) (ls' := [.ref (9), .int (nI (q)), .int (nI (e)), .ref (9020), .int (nI (0))]) (st' := [.int ((nI (q)) + (nI (0))), .ref (9)]) (M' := (I, J, Rx R, N, G)) rfl ?_
    rw [show (nI (q)) + (nI (0)) = nI (q + 0) from nI_addE (rfl) (rfl)]
    refine XP_pure rfl rfl (c_byteAt hT hL (show q + 0 < L by omega)) ?_
    refine XP_n 2 (pc' := 21) (ls' := [.ref (9), .int (nI (q)), .int (nI (e)), .ref (9020), .int (nI (0))]) (st' := [.int (nI (0)), .ref (9020), .int (nI (b (q + 0)))]) (M' := (I, J, Rx R, N, G)) rfl ?_
    refine XP_pure rfl rfl tc_10_0 ?_
    refine XP_icN (x := b (q + 0)) (y := 111) rfl (by omega) (by omega) (fun (b22 : b (q + 0) = 111) => absurd b22 (by omega)) (fun (b22 : ¬ b (q + 0) = 111) => ?_)
    refine XP_n 1 (pc' := 24) (ls' := [.ref (9), .int (nI (q)), .int (nI (e)), .ref (9020), .int (nI (0))]) (st' := [.int (nI (0))]) (M' := (I, J, Rx R, N, G)) rfl ?_
    exact XP_ret rfl ⟨rfl, rfl⟩
  by_cases h1 : b (q + 1) = 114
  rotate_left
  · skip
    unfold TP
    show XP X _ k_Reader_spells 0 [.ref (9), .int (nI (q)), .int (nI (e)), .ref (9020), xj] [] _ _
    refine XP_n 4 (pc' := 4) (ls' := [.ref (9), .int (nI (q)), .int (nI (e)), .ref (9020), xj]) (st' := [.ref (9020), .int ((nI (e)) - (nI (q)))]) (M' := (I, J, Rx R, N, G)) rfl ?_
    rw [show (nI (e)) - (nI (q)) = nI (e - q) from nI_subE (rfl) (rfl) (by omega)]
    refine XP_pure rfl rfl tl_10 ?_
    refine XP_icN (x := e - q) (y := 2) rfl (by omega) (by omega) (fun (b5 : e - q = 2) => ?_) (fun (b5 : ¬ e - q = 2) => absurd b5 (by omega))
    refine XP_n 4 (pc' := 12) (ls' := [.ref (9), .int (nI (q)), .int (nI (e)), .ref (9020), .int (nI (0))]) (st' := [.ref (9020), .int (nI (0))]) (M' := (I, J, Rx R, N, G)) rfl ?_
    refine XP_pure rfl rfl tl_10 ?_
    refine XP_icN (x := 0) (y := 2) rfl (by omega) (by omega) (fun (b13 : 2 ≤ 0) => absurd b13 (by omega)) (fun (b13 : 0 < 2) => ?_)
    refine XP_n 4 (pc' := 18) (ls' := [.ref (9), .int (nI (q)), .int (nI (e)), .ref (9020), .int (nI (0))]) (st' := [.int ((nI (q)) + (nI (0))), .ref (9)]) (M' := (I, J, Rx R, N, G)) rfl ?_
    rw [show (nI (q)) + (nI (0)) = nI (q + 0) from nI_addE (rfl) (rfl)]
    refine XP_pure rfl rfl (c_byteAt hT hL (show q + 0 < L by omega)) ?_
    refine XP_n 2 (pc' := 21) (ls' := [.ref (9), .int (nI (q)), .int (nI (e)), .ref (9020), .int (nI (0))]) (st' := [.int (nI (0)), .ref (9020), .int (nI (b (q + 0)))]) (M' := (I, J, Rx R, N, G)) rfl ?_
    refine XP_pure rfl rfl tc_10_0 ?_
    refine XP_icN (x := b (q + 0)) (y := 111) rfl (by omega) (by omega) (fun (b22 : b (q + 0) = 111) => ?_) (fun (b22 : ¬ b (q + 0) = 111) => absurd b22 (by omega))
    refine XP_n 1 (pc' := 26) (ls' := [.ref (9), .int (nI (q)), .int (nI (e)), .ref (9020), .int (nI (0) + nI (1))]) (st' := []) (M' := (I, J, Rx R, N, G)) rfl ?_
    rw [show nI (0) + nI (1) = nI (1) from nI_addE (rfl) rfl]
    refine XP_n 3 (pc' := 12) (ls' := [.ref (9), .int (nI (q)), .int (nI (e)), .ref (9020), .int (nI (1))]) (st' := [.ref (9020), .int (nI (1))]) (M' := (I, J, Rx R, N, G)) rfl ?_
    refine XP_pure rfl rfl tl_10 ?_
    refine XP_icN (x := 1) (y := 2) rfl (by omega) (by omega) (fun (b13 : 2 ≤ 1) => absurd b13 (by omega)) (fun (b13 : 1 < 2) => ?_)
    refine XP_n 4 (pc' := 18) (ls' := [.ref (9), .int (nI (q)), .int (nI (e)), .ref (9020), .int (nI (1))]) (st' := [.int ((nI (q)) + (nI (1))), .ref (9)]) (M' := (I, J, Rx R, N, G)) rfl ?_
    rw [show (nI (q)) + (nI (1)) = nI (q + 1) from nI_addE (rfl) (rfl)]
    refine XP_pure rfl rfl (c_byteAt hT hL (show q + 1 < L by omega)) ?_
    refine XP_n 2 (pc' := 21) (ls' := [.ref (9), .int (nI (q)), .int (nI (e)), .ref (9020), .int (nI (1))]) (st' := [.int (nI (1)), .ref (9020), .int (nI (b (q + 1)))]) (M' := (I, J, Rx R, N, G)) rfl ?_
    refine XP_pure rfl rfl tc_10_1 ?_
    refine XP_icN (x := b (q + 1)) (y := 114) rfl (by omega) (by omega) (fun (b22 : b (q + 1) = 114) => absurd b22 (by omega)) (fun (b22 : ¬ b (q + 1) = 114) => ?_)
    refine XP_n 1 (pc' := 24) (ls' := [.ref (9), .int (nI (q)), .int (nI (e)), .ref (9020), .int (nI (1))]) (st' := [.int (nI (0))]) (M' := (I, J, Rx R, N, G)) rfl ?_
    exact XP_ret rfl ⟨rfl, rfl⟩
  refine absurd ⟨hl, fun j hj => ?_⟩ h
  have hj : j < 2 := hj
  have hc : j = 0 ∨ j = 1 := by omega
  rcases hc with rfl | rfl
  · exact h0
  · exact h1
theorem c_spT11 (hT : Tp I b L) (hL : L ≤ 160) {q e : Nat} (hqe : q ≤ e) (he : e ≤ L) (h : mW b q e 10) : TP X (d + 8) n_Reader_spells [.ref 9, .int (nI q), .int (nI e), .ref 9022] (I, J, Rx R, N, G) (Ret (.int (nI 1)) (I, J, Rx R, N, G)) := by
  have hl : e - q = 3 := h.1
  have h0 : b (q + 0) = 97 := h.2 0 (by decide)
  have h1 : b (q + 1) = 110 := h.2 1 (by decide)
  have h2 : b (q + 2) = 100 := h.2 2 (by decide)
  unfold TP
  show XP X _ k_Reader_spells 0 [.ref (9), .int (nI (q)), .int (nI (e)), .ref (9022), xj] [] _ _
  refine XP_n 4 (pc' := 4) (ls' := [.ref (9), .int (nI (q)), .int (nI (e)), .ref (9022), xj]) (st' := [.ref (9022), .int ((nI (e)) - (nI (q)))]) (M' := (I, J, Rx R, N, G)) rfl ?_
  rw [show (nI (e)) - (nI (q)) = nI (e - q) from nI_subE (rfl) (rfl) (by omega)]
  refine XP_pure rfl rfl tl_11 ?_
  refine XP_icN (x := e - q) (y := 3) rfl (by omega) (by omega) (fun (b5 : e - q = 3) => ?_) (fun (b5 : ¬ e - q = 3) => absurd b5 (by omega))
  refine XP_n 4 (pc' := 12) (ls' := [.ref (9), .int (nI (q)), .int (nI (e)), .ref (9022), .int (nI (0))]) (st' := [.ref (9022), .int (nI (0))]) (M' := (I, J, Rx R, N, G)) rfl ?_
  refine XP_pure rfl rfl tl_11 ?_
  refine XP_icN (x := 0) (y := 3) rfl (by omega) (by omega) (fun (b13 : 3 ≤ 0) => absurd b13 (by omega)) (fun (b13 : 0 < 3) => ?_)
  refine XP_n 4 (pc' := 18) (ls' := [.ref (9), .int (nI (q)), .int (nI (e)), .ref (9022), .int (nI (0))]) (st' := [.int ((nI (q)) + (nI (0))), .ref (9)]) (M' := (I, J, Rx R, N, G)) rfl ?_
  rw [show (nI (q)) + (nI (0)) = nI (q + 0) from nI_addE (rfl) (rfl)]
  refine XP_pure rfl rfl (c_byteAt hT hL (show q + 0 < L by omega)) ?_
  refine XP_n 2 (pc' := 21) (ls' := [.ref (9), .int (nI (q)), .int (nI (e)), .ref (9022), .int (nI (0))]) (st' := [.int (nI (0)), .ref (9022), .int (nI (b (q + 0)))]) (M' := (I, J, Rx R, N, G)) rfl ?_
  refine XP_pure rfl rfl tc_11_0 ?_
  refine XP_icN (x := b (q + 0)) (y := 97) rfl (by omega) (by omega) (fun (b22 : b (q + 0) = 97) => ?_) (fun (b22 : ¬ b (q + 0) = 97) => absurd b22 (by omega))
  refine XP_n 1 (pc' := 26) (ls' := [.ref (9), .int (nI (q)), .int (nI (e)), .ref (9022), .int (nI (0) + nI (1))]) (st' := []) (M' := (I, J, Rx R, N, G)) rfl ?_
  rw [show nI (0) + nI (1) = nI (1) from nI_addE (rfl) rfl]
  refine XP_n 3 (pc' := 12) (ls' := [.ref (9), .int (nI (q)), .int (nI (e)), .ref (9022), .int (nI (1))]) (st' := [.ref (9022), .int (nI (1))]) (M' := (I, J, Rx R, N, G)) rfl ?_
  refine XP_pure rfl rfl tl_11 ?_
  refine XP_icN (x := 1) (y := 3) rfl (by omega) (by omega) (fun (b13 : 3 ≤ 1) => absurd b13 (by omega)) (fun (b13 : 1 < 3) => ?_)
  refine XP_n 4 (pc' := 18) (ls' := [.ref (9), .int (nI (q)), .int (nI (e)), .ref (9022), .int (nI (1))]) (st' := [.int ((nI (q)) + (nI (1))), .ref (9)]) (M' := (I, J, Rx R, N, G)) rfl ?_
  rw [show (nI (q)) + (nI (1)) = nI (q + 1) from nI_addE (rfl) (rfl)]
  refine XP_pure rfl rfl (c_byteAt hT hL (show q + 1 < L by omega)) ?_
  refine XP_n 2 (pc' := 21) (ls' := [.ref (9), .int (nI (q)), .int (nI (e)), .ref (9022), .int (nI (1))]) (st' := [.int (nI (1)), .ref (9022), .int (nI (b (q + 1)))]) (M' := (I, J, Rx R, N, G)) rfl ?_
  refine XP_pure rfl rfl tc_11_1 ?_
  refine XP_icN (x := b (q + 1)) (y := 110) rfl (by omega) (by omega) (fun (b22 : b (q + 1) = 110) => ?_) (fun (b22 : ¬ b (q + 1) = 110) => absurd b22 (by omega))
  refine XP_n 1 (pc' := 26) (ls' := [.ref (9), .int (nI (q)), .int (nI (e)), .ref (9022), .int (nI (1) + nI (1))]) (st' := []) (M' := (I, J, Rx R, N, G)) rfl ?_
  rw [show nI (1) + nI (1) = nI (2) from nI_addE (rfl) rfl]
  refine XP_n 3 (pc' := 12) (ls' := [.ref (9), .int (nI (q)), .int (nI (e)), .ref (9022), .int (nI (2))]) (st' := [.ref (9022), .int (nI (2))]) (M' := (I, J, Rx R, N, G)) rfl ?_
  refine XP_pure rfl rfl tl_11 ?_
  refine XP_icN (x := 2) (y := 3) rfl (by omega) (by omega) (fun (b13 : 3 ≤ 2) => absurd b13 (by omega)) (fun (b13 : 2 < 3) => ?_)
  refine XP_n 4 (pc' := 18) (ls' := [.ref (9), .int (nI (q)), .int (nI (e)), .ref (9022), .int (nI (2))]) (st' := [.int ((nI (q)) + (nI (2))), .ref (9)]) (M' := (I, J, Rx R, N, G)) rfl ?_
  rw [show (nI (q)) + (nI (2)) = nI (q + 2) from nI_addE (rfl) (rfl)]
  refine XP_pure rfl rfl (c_byteAt hT hL (show q + 2 < L by omega)) ?_
  refine XP_n 2 (pc' := 21) (ls' := [.ref (9), .int (nI (q)), .int (nI (e)), .ref (9022), .int (nI (2))]) (st' := [.int (nI (2)), .ref (9022), .int (nI (b (q + 2)))]) (M' := (I, J, Rx R, N, G)) rfl ?_
  refine XP_pure rfl rfl tc_11_2 ?_
  refine XP_icN (x := b (q + 2)) (y := 100) rfl (by omega) (by omega) (fun (b22 : b (q + 2) = 100) => ?_) (fun (b22 : ¬ b (q + 2) = 100) => absurd b22 (by omega))
  refine XP_n 1 (pc' := 26) (ls' := [.ref (9), .int (nI (q)), .int (nI (e)), .ref (9022), .int (nI (2) + nI (1))]) (st' := []) (M' := (I, J, Rx R, N, G)) rfl ?_
  rw [show nI (2) + nI (1) = nI (3) from nI_addE (rfl) rfl]
  refine XP_n 3 (pc' := 12) (ls' := [.ref (9), .int (nI (q)), .int (nI (e)), .ref (9022), .int (nI (3))]) (st' := [.ref (9022), .int (nI (3))]) (M' := (I, J, Rx R, N, G)) rfl ?_
  refine XP_pure rfl rfl tl_11 ?_
  refine XP_icN (x := 3) (y := 3) rfl (by omega) (by omega) (fun (b13 : 3 ≤ 3) => ?_) (fun (b13 : 3 < 3) => absurd b13 (by omega))
  refine XP_n 1 (pc' := 28) (ls' := [.ref (9), .int (nI (q)), .int (nI (e)), .ref (9022), .int (nI (3))]) (st' := [.int (nI (1))]) (M' := (I, J, Rx R, N, G)) rfl ?_
  exact XP_ret rfl ⟨rfl, rfl⟩
theorem c_spF11 (hT : Tp I b L) (hL : L ≤ 160) (hb : ∀ i, i < L → b i ≤ 255) {q e : Nat} (hqe : q ≤ e) (he : e ≤ L) (h : ¬ mW b q e 10) : TP X (d + 8) n_Reader_spells [.ref 9, .int (nI q), .int (nI e), .ref 9022] (I, J, Rx R, N, G) (Ret (.int (nI 0)) (I, J, Rx R, N, G)) := by
  by_cases hl : e - q = 3
  rotate_left
  · skip
    unfold TP
    show XP X _ k_Reader_spells 0 [.ref (9), .int (nI (q)), .int (nI (e)), .ref (9022), xj] [] _ _
    refine XP_n 4 (pc' := 4) (ls' := [.ref (9), .int (nI (q)), .int (nI (e)), .ref (9022), xj]) (st' := [.ref (9022), .int ((nI (e)) - (nI (q)))]) (M' := (I, J, Rx R, N, G)) rfl ?_
    rw [show (nI (e)) - (nI (q)) = nI (e - q) from nI_subE (rfl) (rfl) (by omega)]
    refine XP_pure rfl rfl tl_11 ?_
    refine XP_icN (x := e - q) (y := 3) rfl (by omega) (by omega) (fun (b5 : e - q = 3) => absurd b5 (by omega)) (fun (b5 : ¬ e - q = 3) => ?_)
    refine XP_n 1 (pc' := 7) (ls' := [.ref (9), .int (nI (q)), .int (nI (e)), .ref (9022), xj]) (st' := [.int (nI (0))]) (M' := (I, J, Rx R, N, G)) rfl ?_
    exact XP_ret rfl ⟨rfl, rfl⟩
  have q0 := hb (q + 0) (by omega)
  have q1 := hb (q + 1) (by omega)
  have q2 := hb (q + 2) (by omega)
  by_cases h0 : b (q + 0) = 97
  rotate_left
  · skip
    unfold TP
    show XP X _ k_Reader_spells 0 [.ref (9), .int (nI (q)), .int (nI (e)), .ref (9022), xj] [] _ _
    refine XP_n 4 (pc' := 4) (ls' := [.ref (9), .int (nI (q)), .int (nI (e)), .ref (9022), xj]) (st' := [.ref (9022), .int ((nI (e)) - (nI (q)))]) (M' := (I, J, Rx R, N, G)) rfl ?_
    rw [show (nI (e)) - (nI (q)) = nI (e - q) from nI_subE (rfl) (rfl) (by omega)]
    refine XP_pure rfl rfl tl_11 ?_
    refine XP_icN (x := e - q) (y := 3) rfl (by omega) (by omega) (fun (b5 : e - q = 3) => ?_) (fun (b5 : ¬ e - q = 3) => absurd b5 (by omega))
    refine XP_n 4 (pc' := 12) (ls' := [.ref (9), .int (nI (q)), .int (nI (e)), .ref (9022), .int (nI (0))]) (st' := [.ref (9022), .int (nI (0))]) (M' := (I, J, Rx R, N, G)) rfl ?_
    refine XP_pure rfl rfl tl_11 ?_
    refine XP_icN (x := 0) (y := 3) rfl (by omega) (by omega) (fun (b13 : 3 ≤ 0) => absurd b13 (by omega)) (fun (b13 : 0 < 3) => ?_)
    refine XP_n 4 (pc' := 18) (ls' := [.ref (9), .int (nI (q)), .int (nI (e)), .ref (9022), .int (nI (0))]) (st' := [.int ((nI (q)) + (nI (0))), .ref (9)]) (M' := (I, J, Rx R, N, G)) rfl ?_
    rw [show (nI (q)) + (nI (0)) = nI (q + 0) from nI_addE (rfl) (rfl)]
    refine XP_pure rfl rfl (c_byteAt hT hL (show q + 0 < L by omega)) ?_
    refine XP_n 2 (pc' := 21) (ls' := [.ref (9), .int (nI (q)), .int (nI (e)), .ref (9022), .int (nI (0))]) (st' := [.int (nI (0)), .ref (9022), .int (nI (b (q + 0)))]) (M' := (I, J, Rx R, N, G)) rfl ?_
    refine XP_pure rfl rfl tc_11_0 ?_
    refine XP_icN (x := b (q + 0)) (y := 97) rfl (by omega) (by omega) (fun (b22 : b (q + 0) = 97) => absurd b22 (by omega)) (fun (b22 : ¬ b (q + 0) = 97) => ?_)
    refine XP_n 1 (pc' := 24) (ls' := [.ref (9), .int (nI (q)), .int (nI (e)), .ref (9022), .int (nI (0))]) (st' := [.int (nI (0))]) (M' := (I, J, Rx R, N, G)) rfl ?_
    exact XP_ret rfl ⟨rfl, rfl⟩
  by_cases h1 : b (q + 1) = 110
  rotate_left
  · skip
    unfold TP
    show XP X _ k_Reader_spells 0 [.ref (9), .int (nI (q)), .int (nI (e)), .ref (9022), xj] [] _ _
    refine XP_n 4 (pc' := 4) (ls' := [.ref (9), .int (nI (q)), .int (nI (e)), .ref (9022), xj]) (st' := [.ref (9022), .int ((nI (e)) - (nI (q)))]) (M' := (I, J, Rx R, N, G)) rfl ?_
    rw [show (nI (e)) - (nI (q)) = nI (e - q) from nI_subE (rfl) (rfl) (by omega)]
    refine XP_pure rfl rfl tl_11 ?_
    refine XP_icN (x := e - q) (y := 3) rfl (by omega) (by omega) (fun (b5 : e - q = 3) => ?_) (fun (b5 : ¬ e - q = 3) => absurd b5 (by omega))
    refine XP_n 4 (pc' := 12) (ls' := [.ref (9), .int (nI (q)), .int (nI (e)), .ref (9022), .int (nI (0))]) (st' := [.ref (9022), .int (nI (0))]) (M' := (I, J, Rx R, N, G)) rfl ?_
    refine XP_pure rfl rfl tl_11 ?_
    refine XP_icN (x := 0) (y := 3) rfl (by omega) (by omega) (fun (b13 : 3 ≤ 0) => absurd b13 (by omega)) (fun (b13 : 0 < 3) => ?_)
    refine XP_n 4 (pc' := 18) (ls' := [.ref (9), .int (nI (q)), .int (nI (e)), .ref (9022), .int (nI (0))]) (st' := [.int ((nI (q)) + (nI (0))), .ref (9)]) (M' := (I, J, Rx R, N, G)) rfl ?_
    rw [show (nI (q)) + (nI (0)) = nI (q + 0) from nI_addE (rfl) (rfl)]
    refine XP_pure rfl rfl (c_byteAt hT hL (show q + 0 < L by omega)) ?_
    refine XP_n 2 (pc' := 21) (ls' := [.ref (9), .int (nI (q)), .int (nI (e)), .ref (9022), .int (nI (0))]) (st' := [.int (nI (0)), .ref (9022), .int (nI (b (q + 0)))]) (M' := (I, J, Rx R, N, G)) rfl ?_
    refine XP_pure rfl rfl tc_11_0 ?_
    refine XP_icN (x := b (q + 0)) (y := 97) rfl (by omega) (by omega) (fun (b22 : b (q + 0) = 97) => ?_) (fun (b22 : ¬ b (q + 0) = 97) => absurd b22 (by omega))
    refine XP_n 1 (pc' := 26) (ls' := [.ref (9), .int (nI (q)), .int (nI (e)), .ref (9022), .int (nI (0) + nI (1))]) (st' := []) (M' := (I, J, Rx R, N, G)) rfl ?_
    rw [show nI (0) + nI (1) = nI (1) from nI_addE (rfl) rfl]
    refine XP_n 3 (pc' := 12) (ls' := [.ref (9), .int (nI (q)), .int (nI (e)), .ref (9022), .int (nI (1))]) (st' := [.ref (9022), .int (nI (1))]) (M' := (I, J, Rx R, N, G)) rfl ?_
    refine XP_pure rfl rfl tl_11 ?_
    refine XP_icN (x := 1) (y := 3) rfl (by omega) (by omega) (fun (b13 : 3 ≤ 1) => absurd b13 (by omega)) (fun (b13 : 1 < 3) => ?_)
    refine XP_n 4 (pc' := 18) (ls' := [.ref (9), .int (nI (q)), .int (nI (e)), .ref (9022), .int (nI (1))]) (st' := [.int ((nI (q)) + (nI (1))), .ref (9)]) (M' := (I, J, Rx R, N, G)) rfl ?_
    rw [show (nI (q)) + (nI (1)) = nI (q + 1) from nI_addE (rfl) (rfl)]
    refine XP_pure rfl rfl (c_byteAt hT hL (show q + 1 < L by omega)) ?_
    refine XP_n 2 (pc' := 21) (ls' := [.ref (9), .int (nI (q)), .int (nI (e)), .ref (9022), .int (nI (1))]) (st' := [.int (nI (1)), .ref (9022), .int (nI (b (q + 1)))]) (M' := (I, J, Rx R, N, G)) rfl ?_
    refine XP_pure rfl rfl tc_11_1 ?_
    refine XP_icN (x := b (q + 1)) (y := 110) rfl (by omega) (by omega) (fun (b22 : b (q + 1) = 110) => absurd b22 (by omega)) (fun (b22 : ¬ b (q + 1) = 110) => ?_)
    refine XP_n 1 (pc' := 24) (ls' := [.ref (9), .int (nI (q)), .int (nI (e)), .ref (9022), .int (nI (1))]) (st' := [.int (nI (0))]) (M' := (I, J, Rx R, N, G)) rfl ?_
    exact XP_ret rfl ⟨rfl, rfl⟩
  by_cases h2 : b (q + 2) = 100
  rotate_left
  · skip
    unfold TP
    show XP X _ k_Reader_spells 0 [.ref (9), .int (nI (q)), .int (nI (e)), .ref (9022), xj] [] _ _
    refine XP_n 4 (pc' := 4) (ls' := [.ref (9), .int (nI (q)), .int (nI (e)), .ref (9022), xj]) (st' := [.ref (9022), .int ((nI (e)) - (nI (q)))]) (M' := (I, J, Rx R, N, G)) rfl ?_
    rw [show (nI (e)) - (nI (q)) = nI (e - q) from nI_subE (rfl) (rfl) (by omega)]
    refine XP_pure rfl rfl tl_11 ?_
    refine XP_icN (x := e - q) (y := 3) rfl (by omega) (by omega) (fun (b5 : e - q = 3) => ?_) (fun (b5 : ¬ e - q = 3) => absurd b5 (by omega))
    refine XP_n 4 (pc' := 12) (ls' := [.ref (9), .int (nI (q)), .int (nI (e)), .ref (9022), .int (nI (0))]) (st' := [.ref (9022), .int (nI (0))]) (M' := (I, J, Rx R, N, G)) rfl ?_
    refine XP_pure rfl rfl tl_11 ?_
    refine XP_icN (x := 0) (y := 3) rfl (by omega) (by omega) (fun (b13 : 3 ≤ 0) => absurd b13 (by omega)) (fun (b13 : 0 < 3) => ?_)
    refine XP_n 4 (pc' := 18) (ls' := [.ref (9), .int (nI (q)), .int (nI (e)), .ref (9022), .int (nI (0))]) (st' := [.int ((nI (q)) + (nI (0))), .ref (9)]) (M' := (I, J, Rx R, N, G)) rfl ?_
    rw [show (nI (q)) + (nI (0)) = nI (q + 0) from nI_addE (rfl) (rfl)]
    refine XP_pure rfl rfl (c_byteAt hT hL (show q + 0 < L by omega)) ?_
    refine XP_n 2 (pc' := 21) (ls' := [.ref (9), .int (nI (q)), .int (nI (e)), .ref (9022), .int (nI (0))]) (st' := [.int (nI (0)), .ref (9022), .int (nI (b (q + 0)))]) (M' := (I, J, Rx R, N, G)) rfl ?_
    refine XP_pure rfl rfl tc_11_0 ?_
    refine XP_icN (x := b (q + 0)) (y := 97) rfl (by omega) (by omega) (fun (b22 : b (q + 0) = 97) => ?_) (fun (b22 : ¬ b (q + 0) = 97) => absurd b22 (by omega))
    refine XP_n 1 (pc' := 26) (ls' := [.ref (9), .int (nI (q)), .int (nI (e)), .ref (9022), .int (nI (0) + nI (1))]) (st' := []) (M' := (I, J, Rx R, N, G)) rfl ?_
    rw [show nI (0) + nI (1) = nI (1) from nI_addE (rfl) rfl]
    refine XP_n 3 (pc' := 12) (ls' := [.ref (9), .int (nI (q)), .int (nI (e)), .ref (9022), .int (nI (1))]) (st' := [.ref (9022), .int (nI (1))]) (M' := (I, J, Rx R, N, G)) rfl ?_
    refine XP_pure rfl rfl tl_11 ?_
    refine XP_icN (x := 1) (y := 3) rfl (by omega) (by omega) (fun (b13 : 3 ≤ 1) => absurd b13 (by omega)) (fun (b13 : 1 < 3) => ?_)
    refine XP_n 4 (pc' := 18) (ls' := [.ref (9), .int (nI (q)), .int (nI (e)), .ref (9022), .int (nI (1))]) (st' := [.int ((nI (q)) + (nI (1))), .ref (9)]) (M' := (I, J, Rx R, N, G)) rfl ?_
    rw [show (nI (q)) + (nI (1)) = nI (q + 1) from nI_addE (rfl) (rfl)]
    refine XP_pure rfl rfl (c_byteAt hT hL (show q + 1 < L by omega)) ?_
    refine XP_n 2 (pc' := 21) (ls' := [.ref (9), .int (nI (q)), .int (nI (e)), .ref (9022), .int (nI (1))]) (st' := [.int (nI (1)), .ref (9022), .int (nI (b (q + 1)))]) (M' := (I, J, Rx R, N, G)) rfl ?_
    refine XP_pure rfl rfl tc_11_1 ?_
    refine XP_icN (x := b (q + 1)) (y := 110) rfl (by omega) (by omega) (fun (b22 : b (q + 1) = 110) => ?_) (fun (b22 : ¬ b (q + 1) = 110) => absurd b22 (by omega))
    refine XP_n 1 (pc' := 26) (ls' := [.ref (9), .int (nI (q)), .int (nI (e)), .ref (9022), .int (nI (1) + nI (1))]) (st' := []) (M' := (I, J, Rx R, N, G)) rfl ?_
    rw [show nI (1) + nI (1) = nI (2) from nI_addE (rfl) rfl]
    refine XP_n 3 (pc' := 12) (ls' := [.ref (9), .int (nI (q)), .int (nI (e)), .ref (9022), .int (nI (2))]) (st' := [.ref (9022), .int (nI (2))]) (M' := (I, J, Rx R, N, G)) rfl ?_
    refine XP_pure rfl rfl tl_11 ?_
    refine XP_icN (x := 2) (y := 3) rfl (by omega) (by omega) (fun (b13 : 3 ≤ 2) => absurd b13 (by omega)) (fun (b13 : 2 < 3) => ?_)
    refine XP_n 4 (pc' := 18) (ls' := [.ref (9), .int (nI (q)), .int (nI (e)), .ref (9022), .int (nI (2))]) (st' := [.int ((nI (q)) + (nI (2))), .ref (9)]) (M' := (I, J, Rx R, N, G)) rfl ?_
    rw [show (nI (q)) + (nI (2)) = nI (q + 2) from nI_addE (rfl) (rfl)]
    refine XP_pure rfl rfl (c_byteAt hT hL (show q + 2 < L by omega)) ?_
    refine XP_n 2 (pc' := 21) (ls' := [.ref (9), .int (nI (q)), .int (nI (e)), .ref (9022), .int (nI (2))]) (st' := [.int (nI (2)), .ref (9022), .int (nI (b (q + 2)))]) (M' := (I, J, Rx R, N, G)) rfl ?_
    refine XP_pure rfl rfl tc_11_2 ?_
    refine XP_icN (x := b (q + 2)) (y := 100) rfl (by omega) (by omega) (fun (b22 : b (q + 2) = 100) => absurd b22 (by omega)) (fun (b22 : ¬ b (q + 2) = 100) => ?_)
    refine XP_n 1 (pc' := 24) (ls' := [.ref (9), .int (nI (q)), .int (nI (e)), .ref (9022), .int (nI (2))]) (st' := [.int (nI (0))]) (M' := (I, J, Rx R, N, G)) rfl ?_
    exact XP_ret rfl ⟨rfl, rfl⟩
  refine absurd ⟨hl, fun j hj => ?_⟩ h
  have hj : j < 3 := hj
  have hc : j = 0 ∨ j = 1 ∨ j = 2 := by omega
  rcases hc with rfl | rfl | rfl
  · exact h0
  · exact h1
  · exact h2
theorem c_spT12 (hT : Tp I b L) (hL : L ≤ 160) {q e : Nat} (hqe : q ≤ e) (he : e ≤ L) (h : mW b q e 11) : TP X (d + 8) n_Reader_spells [.ref 9, .int (nI q), .int (nI e), .ref 9024] (I, J, Rx R, N, G) (Ret (.int (nI 1)) (I, J, Rx R, N, G)) := by
  have hl : e - q = 3 := h.1
  have h0 : b (q + 0) = 110 := h.2 0 (by decide)
  have h1 : b (q + 1) = 111 := h.2 1 (by decide)
  have h2 : b (q + 2) = 116 := h.2 2 (by decide)
  unfold TP
  show XP X _ k_Reader_spells 0 [.ref (9), .int (nI (q)), .int (nI (e)), .ref (9024), xj] [] _ _
  refine XP_n 4 (pc' := 4) (ls' := [.ref (9), .int (nI (q)), .int (nI (e)), .ref (9024), xj]) (st' := [.ref (9024), .int ((nI (e)) - (nI (q)))]) (M' := (I, J, Rx R, N, G)) rfl ?_
  rw [show (nI (e)) - (nI (q)) = nI (e - q) from nI_subE (rfl) (rfl) (by omega)]
  refine XP_pure rfl rfl tl_12 ?_
  refine XP_icN (x := e - q) (y := 3) rfl (by omega) (by omega) (fun (b5 : e - q = 3) => ?_) (fun (b5 : ¬ e - q = 3) => absurd b5 (by omega))
  refine XP_n 4 (pc' := 12) (ls' := [.ref (9), .int (nI (q)), .int (nI (e)), .ref (9024), .int (nI (0))]) (st' := [.ref (9024), .int (nI (0))]) (M' := (I, J, Rx R, N, G)) rfl ?_
  refine XP_pure rfl rfl tl_12 ?_
  refine XP_icN (x := 0) (y := 3) rfl (by omega) (by omega) (fun (b13 : 3 ≤ 0) => absurd b13 (by omega)) (fun (b13 : 0 < 3) => ?_)
  refine XP_n 4 (pc' := 18) (ls' := [.ref (9), .int (nI (q)), .int (nI (e)), .ref (9024), .int (nI (0))]) (st' := [.int ((nI (q)) + (nI (0))), .ref (9)]) (M' := (I, J, Rx R, N, G)) rfl ?_
  rw [show (nI (q)) + (nI (0)) = nI (q + 0) from nI_addE (rfl) (rfl)]
  refine XP_pure rfl rfl (c_byteAt hT hL (show q + 0 < L by omega)) ?_
  refine XP_n 2 (pc' := 21) (ls' := [.ref (9), .int (nI (q)), .int (nI (e)), .ref (9024), .int (nI (0))]) (st' := [.int (nI (0)), .ref (9024), .int (nI (b (q + 0)))]) (M' := (I, J, Rx R, N, G)) rfl ?_
  refine XP_pure rfl rfl tc_12_0 ?_
  refine XP_icN (x := b (q + 0)) (y := 110) rfl (by omega) (by omega) (fun (b22 : b (q + 0) = 110) => ?_) (fun (b22 : ¬ b (q + 0) = 110) => absurd b22 (by omega))
  refine XP_n 1 (pc' := 26) (ls' := [.ref (9), .int (nI (q)), .int (nI (e)), .ref (9024), .int (nI (0) + nI (1))]) (st' := []) (M' := (I, J, Rx R, N, G)) rfl ?_
  rw [show nI (0) + nI (1) = nI (1) from nI_addE (rfl) rfl]
  refine XP_n 3 (pc' := 12) (ls' := [.ref (9), .int (nI (q)), .int (nI (e)), .ref (9024), .int (nI (1))]) (st' := [.ref (9024), .int (nI (1))]) (M' := (I, J, Rx R, N, G)) rfl ?_
  refine XP_pure rfl rfl tl_12 ?_
  refine XP_icN (x := 1) (y := 3) rfl (by omega) (by omega) (fun (b13 : 3 ≤ 1) => absurd b13 (by omega)) (fun (b13 : 1 < 3) => ?_)
  refine XP_n 4 (pc' := 18) (ls' := [.ref (9), .int (nI (q)), .int (nI (e)), .ref (9024), .int (nI (1))]) (st' := [.int ((nI (q)) + (nI (1))), .ref (9)]) (M' := (I, J, Rx R, N, G)) rfl ?_
  rw [show (nI (q)) + (nI (1)) = nI (q + 1) from nI_addE (rfl) (rfl)]
  refine XP_pure rfl rfl (c_byteAt hT hL (show q + 1 < L by omega)) ?_
  refine XP_n 2 (pc' := 21) (ls' := [.ref (9), .int (nI (q)), .int (nI (e)), .ref (9024), .int (nI (1))]) (st' := [.int (nI (1)), .ref (9024), .int (nI (b (q + 1)))]) (M' := (I, J, Rx R, N, G)) rfl ?_
  refine XP_pure rfl rfl tc_12_1 ?_
  refine XP_icN (x := b (q + 1)) (y := 111) rfl (by omega) (by omega) (fun (b22 : b (q + 1) = 111) => ?_) (fun (b22 : ¬ b (q + 1) = 111) => absurd b22 (by omega))
  refine XP_n 1 (pc' := 26) (ls' := [.ref (9), .int (nI (q)), .int (nI (e)), .ref (9024), .int (nI (1) + nI (1))]) (st' := []) (M' := (I, J, Rx R, N, G)) rfl ?_
  rw [show nI (1) + nI (1) = nI (2) from nI_addE (rfl) rfl]
  refine XP_n 3 (pc' := 12) (ls' := [.ref (9), .int (nI (q)), .int (nI (e)), .ref (9024), .int (nI (2))]) (st' := [.ref (9024), .int (nI (2))]) (M' := (I, J, Rx R, N, G)) rfl ?_
  refine XP_pure rfl rfl tl_12 ?_
  refine XP_icN (x := 2) (y := 3) rfl (by omega) (by omega) (fun (b13 : 3 ≤ 2) => absurd b13 (by omega)) (fun (b13 : 2 < 3) => ?_)
  refine XP_n 4 (pc' := 18) (ls' := [.ref (9), .int (nI (q)), .int (nI (e)), .ref (9024), .int (nI (2))]) (st' := [.int ((nI (q)) + (nI (2))), .ref (9)]) (M' := (I, J, Rx R, N, G)) rfl ?_
  rw [show (nI (q)) + (nI (2)) = nI (q + 2) from nI_addE (rfl) (rfl)]
  refine XP_pure rfl rfl (c_byteAt hT hL (show q + 2 < L by omega)) ?_
  refine XP_n 2 (pc' := 21) (ls' := [.ref (9), .int (nI (q)), .int (nI (e)), .ref (9024), .int (nI (2))]) (st' := [.int (nI (2)), .ref (9024), .int (nI (b (q + 2)))]) (M' := (I, J, Rx R, N, G)) rfl ?_
  refine XP_pure rfl rfl tc_12_2 ?_
  refine XP_icN (x := b (q + 2)) (y := 116) rfl (by omega) (by omega) (fun (b22 : b (q + 2) = 116) => ?_) (fun (b22 : ¬ b (q + 2) = 116) => absurd b22 (by omega))
  refine XP_n 1 (pc' := 26) (ls' := [.ref (9), .int (nI (q)), .int (nI (e)), .ref (9024), .int (nI (2) + nI (1))]) (st' := []) (M' := (I, J, Rx R, N, G)) rfl ?_
  rw [show nI (2) + nI (1) = nI (3) from nI_addE (rfl) rfl]
  refine XP_n 3 (pc' := 12) (ls' := [.ref (9), .int (nI (q)), .int (nI (e)), .ref (9024), .int (nI (3))]) (st' := [.ref (9024), .int (nI (3))]) (M' := (I, J, Rx R, N, G)) rfl ?_
  refine XP_pure rfl rfl tl_12 ?_
  refine XP_icN (x := 3) (y := 3) rfl (by omega) (by omega) (fun (b13 : 3 ≤ 3) => ?_) (fun (b13 : 3 < 3) => absurd b13 (by omega))
  refine XP_n 1 (pc' := 28) (ls' := [.ref (9), .int (nI (q)), .int (nI (e)), .ref (9024), .int (nI (3))]) (st' := [.int (nI (1))]) (M' := (I, J, Rx R, N, G)) rfl ?_
  exact XP_ret rfl ⟨rfl, rfl⟩
theorem c_spF12 (hT : Tp I b L) (hL : L ≤ 160) (hb : ∀ i, i < L → b i ≤ 255) {q e : Nat} (hqe : q ≤ e) (he : e ≤ L) (h : ¬ mW b q e 11) : TP X (d + 8) n_Reader_spells [.ref 9, .int (nI q), .int (nI e), .ref 9024] (I, J, Rx R, N, G) (Ret (.int (nI 0)) (I, J, Rx R, N, G)) := by
  by_cases hl : e - q = 3
  rotate_left
  · skip
    unfold TP
    show XP X _ k_Reader_spells 0 [.ref (9), .int (nI (q)), .int (nI (e)), .ref (9024), xj] [] _ _
    refine XP_n 4 (pc' := 4) (ls' := [.ref (9), .int (nI (q)), .int (nI (e)), .ref (9024), xj]) (st' := [.ref (9024), .int ((nI (e)) - (nI (q)))]) (M' := (I, J, Rx R, N, G)) rfl ?_
    rw [show (nI (e)) - (nI (q)) = nI (e - q) from nI_subE (rfl) (rfl) (by omega)]
    refine XP_pure rfl rfl tl_12 ?_
    refine XP_icN (x := e - q) (y := 3) rfl (by omega) (by omega) (fun (b5 : e - q = 3) => absurd b5 (by omega)) (fun (b5 : ¬ e - q = 3) => ?_)
    refine XP_n 1 (pc' := 7) (ls' := [.ref (9), .int (nI (q)), .int (nI (e)), .ref (9024), xj]) (st' := [.int (nI (0))]) (M' := (I, J, Rx R, N, G)) rfl ?_
    exact XP_ret rfl ⟨rfl, rfl⟩
  have q0 := hb (q + 0) (by omega)
  have q1 := hb (q + 1) (by omega)
  have q2 := hb (q + 2) (by omega)
  by_cases h0 : b (q + 0) = 110
  rotate_left
  · skip
    unfold TP
    show XP X _ k_Reader_spells 0 [.ref (9), .int (nI (q)), .int (nI (e)), .ref (9024), xj] [] _ _
    refine XP_n 4 (pc' := 4) (ls' := [.ref (9), .int (nI (q)), .int (nI (e)), .ref (9024), xj]) (st' := [.ref (9024), .int ((nI (e)) - (nI (q)))]) (M' := (I, J, Rx R, N, G)) rfl ?_
    rw [show (nI (e)) - (nI (q)) = nI (e - q) from nI_subE (rfl) (rfl) (by omega)]
    refine XP_pure rfl rfl tl_12 ?_
    refine XP_icN (x := e - q) (y := 3) rfl (by omega) (by omega) (fun (b5 : e - q = 3) => ?_) (fun (b5 : ¬ e - q = 3) => absurd b5 (by omega))
    refine XP_n 4 (pc' := 12) (ls' := [.ref (9), .int (nI (q)), .int (nI (e)), .ref (9024), .int (nI (0))]) (st' := [.ref (9024), .int (nI (0))]) (M' := (I, J, Rx R, N, G)) rfl ?_
    refine XP_pure rfl rfl tl_12 ?_
    refine XP_icN (x := 0) (y := 3) rfl (by omega) (by omega) (fun (b13 : 3 ≤ 0) => absurd b13 (by omega)) (fun (b13 : 0 < 3) => ?_)
    refine XP_n 4 (pc' := 18) (ls' := [.ref (9), .int (nI (q)), .int (nI (e)), .ref (9024), .int (nI (0))]) (st' := [.int ((nI (q)) + (nI (0))), .ref (9)]) (M' := (I, J, Rx R, N, G)) rfl ?_
    rw [show (nI (q)) + (nI (0)) = nI (q + 0) from nI_addE (rfl) (rfl)]
    refine XP_pure rfl rfl (c_byteAt hT hL (show q + 0 < L by omega)) ?_
    refine XP_n 2 (pc' := 21) (ls' := [.ref (9), .int (nI (q)), .int (nI (e)), .ref (9024), .int (nI (0))]) (st' := [.int (nI (0)), .ref (9024), .int (nI (b (q + 0)))]) (M' := (I, J, Rx R, N, G)) rfl ?_
    refine XP_pure rfl rfl tc_12_0 ?_
    refine XP_icN (x := b (q + 0)) (y := 110) rfl (by omega) (by omega) (fun (b22 : b (q + 0) = 110) => absurd b22 (by omega)) (fun (b22 : ¬ b (q + 0) = 110) => ?_)
    refine XP_n 1 (pc' := 24) (ls' := [.ref (9), .int (nI (q)), .int (nI (e)), .ref (9024), .int (nI (0))]) (st' := [.int (nI (0))]) (M' := (I, J, Rx R, N, G)) rfl ?_
    exact XP_ret rfl ⟨rfl, rfl⟩
  by_cases h1 : b (q + 1) = 111
  rotate_left
  · skip
    unfold TP
    show XP X _ k_Reader_spells 0 [.ref (9), .int (nI (q)), .int (nI (e)), .ref (9024), xj] [] _ _
    refine XP_n 4 (pc' := 4) (ls' := [.ref (9), .int (nI (q)), .int (nI (e)), .ref (9024), xj]) (st' := [.ref (9024), .int ((nI (e)) - (nI (q)))]) (M' := (I, J, Rx R, N, G)) rfl ?_
    rw [show (nI (e)) - (nI (q)) = nI (e - q) from nI_subE (rfl) (rfl) (by omega)]
    refine XP_pure rfl rfl tl_12 ?_
    refine XP_icN (x := e - q) (y := 3) rfl (by omega) (by omega) (fun (b5 : e - q = 3) => ?_) (fun (b5 : ¬ e - q = 3) => absurd b5 (by omega))
    refine XP_n 4 (pc' := 12) (ls' := [.ref (9), .int (nI (q)), .int (nI (e)), .ref (9024), .int (nI (0))]) (st' := [.ref (9024), .int (nI (0))]) (M' := (I, J, Rx R, N, G)) rfl ?_
    refine XP_pure rfl rfl tl_12 ?_
    refine XP_icN (x := 0) (y := 3) rfl (by omega) (by omega) (fun (b13 : 3 ≤ 0) => absurd b13 (by omega)) (fun (b13 : 0 < 3) => ?_)
    refine XP_n 4 (pc' := 18) (ls' := [.ref (9), .int (nI (q)), .int (nI (e)), .ref (9024), .int (nI (0))]) (st' := [.int ((nI (q)) + (nI (0))), .ref (9)]) (M' := (I, J, Rx R, N, G)) rfl ?_
    rw [show (nI (q)) + (nI (0)) = nI (q + 0) from nI_addE (rfl) (rfl)]
    refine XP_pure rfl rfl (c_byteAt hT hL (show q + 0 < L by omega)) ?_
    refine XP_n 2 (pc' := 21) (ls' := [.ref (9), .int (nI (q)), .int (nI (e)), .ref (9024), .int (nI (0))]) (st' := [.int (nI (0)), .ref (9024), .int (nI (b (q + 0)))]) (M' := (I, J, Rx R, N, G)) rfl ?_
    refine XP_pure rfl rfl tc_12_0 ?_
    refine XP_icN (x := b (q + 0)) (y := 110) rfl (by omega) (by omega) (fun (b22 : b (q + 0) = 110) => ?_) (fun (b22 : ¬ b (q + 0) = 110) => absurd b22 (by omega))
    refine XP_n 1 (pc' := 26) (ls' := [.ref (9), .int (nI (q)), .int (nI (e)), .ref (9024), .int (nI (0) + nI (1))]) (st' := []) (M' := (I, J, Rx R, N, G)) rfl ?_
    rw [show nI (0) + nI (1) = nI (1) from nI_addE (rfl) rfl]
    refine XP_n 3 (pc' := 12) (ls' := [.ref (9), .int (nI (q)), .int (nI (e)), .ref (9024), .int (nI (1))]) (st' := [.ref (9024), .int (nI (1))]) (M' := (I, J, Rx R, N, G)) rfl ?_
    refine XP_pure rfl rfl tl_12 ?_
    refine XP_icN (x := 1) (y := 3) rfl (by omega) (by omega) (fun (b13 : 3 ≤ 1) => absurd b13 (by omega)) (fun (b13 : 1 < 3) => ?_)
    refine XP_n 4 (pc' := 18) (ls' := [.ref (9), .int (nI (q)), .int (nI (e)), .ref (9024), .int (nI (1))]) (st' := [.int ((nI (q)) + (nI (1))), .ref (9)]) (M' := (I, J, Rx R, N, G)) rfl ?_
    rw [show (nI (q)) + (nI (1)) = nI (q + 1) from nI_addE (rfl) (rfl)]
    refine XP_pure rfl rfl (c_byteAt hT hL (show q + 1 < L by omega)) ?_
    refine XP_n 2 (pc' := 21) (ls' := [.ref (9), .int (nI (q)), .int (nI (e)), .ref (9024), .int (nI (1))]) (st' := [.int (nI (1)), .ref (9024), .int (nI (b (q + 1)))]) (M' := (I, J, Rx R, N, G)) rfl ?_
    refine XP_pure rfl rfl tc_12_1 ?_
    refine XP_icN (x := b (q + 1)) (y := 111) rfl (by omega) (by omega) (fun (b22 : b (q + 1) = 111) => absurd b22 (by omega)) (fun (b22 : ¬ b (q + 1) = 111) => ?_)
    refine XP_n 1 (pc' := 24) (ls' := [.ref (9), .int (nI (q)), .int (nI (e)), .ref (9024), .int (nI (1))]) (st' := [.int (nI (0))]) (M' := (I, J, Rx R, N, G)) rfl ?_
    exact XP_ret rfl ⟨rfl, rfl⟩
  by_cases h2 : b (q + 2) = 116
  rotate_left
  · skip
    unfold TP
    show XP X _ k_Reader_spells 0 [.ref (9), .int (nI (q)), .int (nI (e)), .ref (9024), xj] [] _ _
    refine XP_n 4 (pc' := 4) (ls' := [.ref (9), .int (nI (q)), .int (nI (e)), .ref (9024), xj]) (st' := [.ref (9024), .int ((nI (e)) - (nI (q)))]) (M' := (I, J, Rx R, N, G)) rfl ?_
    rw [show (nI (e)) - (nI (q)) = nI (e - q) from nI_subE (rfl) (rfl) (by omega)]
    refine XP_pure rfl rfl tl_12 ?_
    refine XP_icN (x := e - q) (y := 3) rfl (by omega) (by omega) (fun (b5 : e - q = 3) => ?_) (fun (b5 : ¬ e - q = 3) => absurd b5 (by omega))
    refine XP_n 4 (pc' := 12) (ls' := [.ref (9), .int (nI (q)), .int (nI (e)), .ref (9024), .int (nI (0))]) (st' := [.ref (9024), .int (nI (0))]) (M' := (I, J, Rx R, N, G)) rfl ?_
    refine XP_pure rfl rfl tl_12 ?_
    refine XP_icN (x := 0) (y := 3) rfl (by omega) (by omega) (fun (b13 : 3 ≤ 0) => absurd b13 (by omega)) (fun (b13 : 0 < 3) => ?_)
    refine XP_n 4 (pc' := 18) (ls' := [.ref (9), .int (nI (q)), .int (nI (e)), .ref (9024), .int (nI (0))]) (st' := [.int ((nI (q)) + (nI (0))), .ref (9)]) (M' := (I, J, Rx R, N, G)) rfl ?_
    rw [show (nI (q)) + (nI (0)) = nI (q + 0) from nI_addE (rfl) (rfl)]
    refine XP_pure rfl rfl (c_byteAt hT hL (show q + 0 < L by omega)) ?_
    refine XP_n 2 (pc' := 21) (ls' := [.ref (9), .int (nI (q)), .int (nI (e)), .ref (9024), .int (nI (0))]) (st' := [.int (nI (0)), .ref (9024), .int (nI (b (q + 0)))]) (M' := (I, J, Rx R, N, G)) rfl ?_
    refine XP_pure rfl rfl tc_12_0 ?_
    refine XP_icN (x := b (q + 0)) (y := 110) rfl (by omega) (by omega) (fun (b22 : b (q + 0) = 110) => ?_) (fun (b22 : ¬ b (q + 0) = 110) => absurd b22 (by omega))
    refine XP_n 1 (pc' := 26) (ls' := [.ref (9), .int (nI (q)), .int (nI (e)), .ref (9024), .int (nI (0) + nI (1))]) (st' := []) (M' := (I, J, Rx R, N, G)) rfl ?_
    rw [show nI (0) + nI (1) = nI (1) from nI_addE (rfl) rfl]
    refine XP_n 3 (pc' := 12) (ls' := [.ref (9), .int (nI (q)), .int (nI (e)), .ref (9024), .int (nI (1))]) (st' := [.ref (9024), .int (nI (1))]) (M' := (I, J, Rx R, N, G)) rfl ?_
    refine XP_pure rfl rfl tl_12 ?_
    refine XP_icN (x := 1) (y := 3) rfl (by omega) (by omega) (fun (b13 : 3 ≤ 1) => absurd b13 (by omega)) (fun (b13 : 1 < 3) => ?_)
    refine XP_n 4 (pc' := 18) (ls' := [.ref (9), .int (nI (q)), .int (nI (e)), .ref (9024), .int (nI (1))]) (st' := [.int ((nI (q)) + (nI (1))), .ref (9)]) (M' := (I, J, Rx R, N, G)) rfl ?_
    rw [show (nI (q)) + (nI (1)) = nI (q + 1) from nI_addE (rfl) (rfl)]
    refine XP_pure rfl rfl (c_byteAt hT hL (show q + 1 < L by omega)) ?_
    refine XP_n 2 (pc' := 21) (ls' := [.ref (9), .int (nI (q)), .int (nI (e)), .ref (9024), .int (nI (1))]) (st' := [.int (nI (1)), .ref (9024), .int (nI (b (q + 1)))]) (M' := (I, J, Rx R, N, G)) rfl ?_
    refine XP_pure rfl rfl tc_12_1 ?_
    refine XP_icN (x := b (q + 1)) (y := 111) rfl (by omega) (by omega) (fun (b22 : b (q + 1) = 111) => ?_) (fun (b22 : ¬ b (q + 1) = 111) => absurd b22 (by omega))
    refine XP_n 1 (pc' := 26) (ls' := [.ref (9), .int (nI (q)), .int (nI (e)), .ref (9024), .int (nI (1) + nI (1))]) (st' := []) (M' := (I, J, Rx R, N, G)) rfl ?_
    rw [show nI (1) + nI (1) = nI (2) from nI_addE (rfl) rfl]
    refine XP_n 3 (pc' := 12) (ls' := [.ref (9), .int (nI (q)), .int (nI (e)), .ref (9024), .int (nI (2))]) (st' := [.ref (9024), .int (nI (2))]) (M' := (I, J, Rx R, N, G)) rfl ?_
    refine XP_pure rfl rfl tl_12 ?_
    refine XP_icN (x := 2) (y := 3) rfl (by omega) (by omega) (fun (b13 : 3 ≤ 2) => absurd b13 (by omega)) (fun (b13 : 2 < 3) => ?_)
    refine XP_n 4 (pc' := 18) (ls' := [.ref (9), .int (nI (q)), .int (nI (e)), .ref (9024), .int (nI (2))]) (st' := [.int ((nI (q)) + (nI (2))), .ref (9)]) (M' := (I, J, Rx R, N, G)) rfl ?_
    rw [show (nI (q)) + (nI (2)) = nI (q + 2) from nI_addE (rfl) (rfl)]
    refine XP_pure rfl rfl (c_byteAt hT hL (show q + 2 < L by omega)) ?_
    refine XP_n 2 (pc' := 21) (ls' := [.ref (9), .int (nI (q)), .int (nI (e)), .ref (9024), .int (nI (2))]) (st' := [.int (nI (2)), .ref (9024), .int (nI (b (q + 2)))]) (M' := (I, J, Rx R, N, G)) rfl ?_
    refine XP_pure rfl rfl tc_12_2 ?_
    refine XP_icN (x := b (q + 2)) (y := 116) rfl (by omega) (by omega) (fun (b22 : b (q + 2) = 116) => absurd b22 (by omega)) (fun (b22 : ¬ b (q + 2) = 116) => ?_)
    refine XP_n 1 (pc' := 24) (ls' := [.ref (9), .int (nI (q)), .int (nI (e)), .ref (9024), .int (nI (2))]) (st' := [.int (nI (0))]) (M' := (I, J, Rx R, N, G)) rfl ?_
    exact XP_ret rfl ⟨rfl, rfl⟩
  refine absurd ⟨hl, fun j hj => ?_⟩ h
  have hj : j < 3 := hj
  have hc : j = 0 ∨ j = 1 ∨ j = 2 := by omega
  rcases hc with rfl | rfl | rfl
  · exact h0
  · exact h1
  · exact h2
theorem c_wordOf (hT : Tp I b L) (hL : L ≤ 160) (hb : ∀ i, i < L → b i ≤ 255) {q e : Nat} (hqe : q ≤ e) (he : e ≤ L) : TP X (d + 9) n_Reader_wordOf [.ref 9, .int (nI q), .int (nI e)] (I, J, Rx R, N, G) (Ret (.int (nI (tw (wk b q e)))) (I, J, Rx R, N, G)) := by
  by_cases hx : ∃ k, k < 12 ∧ mW b q e k
  · obtain ⟨k, hk, hm⟩ := hx
    rw [wk_of hk hm]
    have hc : k = 0 ∨ k = 1 ∨ k = 2 ∨ k = 3 ∨ k = 4 ∨ k = 5 ∨ k = 6 ∨ k = 7 ∨ k = 8 ∨ k = 9 ∨ k = 10 ∨ k = 11 := by omega
    clear hk
    rcases hc with rfl | rfl | rfl | rfl | rfl | rfl | rfl | rfl | rfl | rfl | rfl | rfl
    · unfold TP
      show XP X _ k_Reader_wordOf 0 [.ref (9), .int (nI (q)), .int (nI (e))] [] _ _
      refine XP_n 4 (pc' := 4) (ls' := [.ref (9), .int (nI (q)), .int (nI (e))]) (st' := [.ref (9002), .int (nI (e)), .int (nI (q)), .ref (9)]) (M' := (I, J, Rx R, N, G)) rfl ?_
      refine XP_pure rfl rfl (c_spF1 hT hL hb hqe he (fun z => absurd (mW_un (by omega) (by omega) z hm) (by decide))) ?_
      refine XP_ifN (x := 0)  rfl (by omega) (fun (b5 : 0 = 0) => ?_) (fun (b5 : ¬ 0 = 0) => absurd b5 (by omega))
      refine XP_n 4 (pc' := 12) (ls' := [.ref (9), .int (nI (q)), .int (nI (e))]) (st' := [.ref (9004), .int (nI (e)), .int (nI (q)), .ref (9)]) (M' := (I, J, Rx R, N, G)) rfl ?_
      refine XP_pure rfl rfl (c_spF2 hT hL hb hqe he (fun z => absurd (mW_un (by omega) (by omega) z hm) (by decide))) ?_
      refine XP_ifN (x := 0)  rfl (by omega) (fun (b13 : 0 = 0) => ?_) (fun (b13 : ¬ 0 = 0) => absurd b13 (by omega))
      refine XP_n 4 (pc' := 20) (ls' := [.ref (9), .int (nI (q)), .int (nI (e))]) (st' := [.ref (9006), .int (nI (e)), .int (nI (q)), .ref (9)]) (M' := (I, J, Rx R, N, G)) rfl ?_
      refine XP_pure rfl rfl (c_spF3 hT hL hb hqe he (fun z => absurd (mW_un (by omega) (by omega) z hm) (by decide))) ?_
      refine XP_ifN (x := 0)  rfl (by omega) (fun (b21 : 0 = 0) => ?_) (fun (b21 : ¬ 0 = 0) => absurd b21 (by omega))
      refine XP_n 4 (pc' := 28) (ls' := [.ref (9), .int (nI (q)), .int (nI (e))]) (st' := [.ref (9008), .int (nI (e)), .int (nI (q)), .ref (9)]) (M' := (I, J, Rx R, N, G)) rfl ?_
      refine XP_pure rfl rfl (c_spF4 hT hL hb hqe he (fun z => absurd (mW_un (by omega) (by omega) z hm) (by decide))) ?_
      refine XP_ifN (x := 0)  rfl (by omega) (fun (b29 : 0 = 0) => ?_) (fun (b29 : ¬ 0 = 0) => absurd b29 (by omega))
      refine XP_n 4 (pc' := 36) (ls' := [.ref (9), .int (nI (q)), .int (nI (e))]) (st' := [.ref (9010), .int (nI (e)), .int (nI (q)), .ref (9)]) (M' := (I, J, Rx R, N, G)) rfl ?_
      refine XP_pure rfl rfl (c_spF5 hT hL hb hqe he (fun z => absurd (mW_un (by omega) (by omega) z hm) (by decide))) ?_
      refine XP_ifN (x := 0)  rfl (by omega) (fun (b37 : 0 = 0) => ?_) (fun (b37 : ¬ 0 = 0) => absurd b37 (by omega))
      refine XP_n 4 (pc' := 44) (ls' := [.ref (9), .int (nI (q)), .int (nI (e))]) (st' := [.ref (9012), .int (nI (e)), .int (nI (q)), .ref (9)]) (M' := (I, J, Rx R, N, G)) rfl ?_
      refine XP_pure rfl rfl (c_spF6 hT hL hb hqe he (fun z => absurd (mW_un (by omega) (by omega) z hm) (by decide))) ?_
      refine XP_ifN (x := 0)  rfl (by omega) (fun (b45 : 0 = 0) => ?_) (fun (b45 : ¬ 0 = 0) => absurd b45 (by omega))
      refine XP_n 4 (pc' := 52) (ls' := [.ref (9), .int (nI (q)), .int (nI (e))]) (st' := [.ref (9014), .int (nI (e)), .int (nI (q)), .ref (9)]) (M' := (I, J, Rx R, N, G)) rfl ?_
      refine XP_pure rfl rfl (c_spT7 hT hL hqe he hm) ?_
      refine XP_ifN (x := 1)  rfl (by omega) (fun (b53 : 1 = 0) => absurd b53 (by omega)) (fun (b53 : ¬ 1 = 0) => ?_)
      refine XP_n 1 (pc' := 55) (ls' := [.ref (9), .int (nI (q)), .int (nI (e))]) (st' := [.int (nI (1006))]) (M' := (I, J, Rx R, N, G)) rfl ?_
      exact XP_ret rfl ⟨rfl, rfl⟩
    · unfold TP
      show XP X _ k_Reader_wordOf 0 [.ref (9), .int (nI (q)), .int (nI (e))] [] _ _
      refine XP_n 4 (pc' := 4) (ls' := [.ref (9), .int (nI (q)), .int (nI (e))]) (st' := [.ref (9002), .int (nI (e)), .int (nI (q)), .ref (9)]) (M' := (I, J, Rx R, N, G)) rfl ?_
      refine XP_pure rfl rfl (c_spF1 hT hL hb hqe he (fun z => absurd (mW_un (by omega) (by omega) z hm) (by decide))) ?_
      refine XP_ifN (x := 0)  rfl (by omega) (fun (b5 : 0 = 0) => ?_) (fun (b5 : ¬ 0 = 0) => absurd b5 (by omega))
      refine XP_n 4 (pc' := 12) (ls' := [.ref (9), .int (nI (q)), .int (nI (e))]) (st' := [.ref (9004), .int (nI (e)), .int (nI (q)), .ref (9)]) (M' := (I, J, Rx R, N, G)) rfl ?_
      refine XP_pure rfl rfl (c_spF2 hT hL hb hqe he (fun z => absurd (mW_un (by omega) (by omega) z hm) (by decide))) ?_
      refine XP_ifN (x := 0)  rfl (by omega) (fun (b13 : 0 = 0) => ?_) (fun (b13 : ¬ 0 = 0) => absurd b13 (by omega))
      refine XP_n 4 (pc' := 20) (ls' := [.ref (9), .int (nI (q)), .int (nI (e))]) (st' := [.ref (9006), .int (nI (e)), .int (nI (q)), .ref (9)]) (M' := (I, J, Rx R, N, G)) rfl ?_
      refine XP_pure rfl rfl (c_spF3 hT hL hb hqe he (fun z => absurd (mW_un (by omega) (by omega) z hm) (by decide))) ?_
      refine XP_ifN (x := 0)  rfl (by omega) (fun (b21 : 0 = 0) => ?_) (fun (b21 : ¬ 0 = 0) => absurd b21 (by omega))
      refine XP_n 4 (pc' := 28) (ls' := [.ref (9), .int (nI (q)), .int (nI (e))]) (st' := [.ref (9008), .int (nI (e)), .int (nI (q)), .ref (9)]) (M' := (I, J, Rx R, N, G)) rfl ?_
      refine XP_pure rfl rfl (c_spF4 hT hL hb hqe he (fun z => absurd (mW_un (by omega) (by omega) z hm) (by decide))) ?_
      refine XP_ifN (x := 0)  rfl (by omega) (fun (b29 : 0 = 0) => ?_) (fun (b29 : ¬ 0 = 0) => absurd b29 (by omega))
      refine XP_n 4 (pc' := 36) (ls' := [.ref (9), .int (nI (q)), .int (nI (e))]) (st' := [.ref (9010), .int (nI (e)), .int (nI (q)), .ref (9)]) (M' := (I, J, Rx R, N, G)) rfl ?_
      refine XP_pure rfl rfl (c_spF5 hT hL hb hqe he (fun z => absurd (mW_un (by omega) (by omega) z hm) (by decide))) ?_
      refine XP_ifN (x := 0)  rfl (by omega) (fun (b37 : 0 = 0) => ?_) (fun (b37 : ¬ 0 = 0) => absurd b37 (by omega))
      refine XP_n 4 (pc' := 44) (ls' := [.ref (9), .int (nI (q)), .int (nI (e))]) (st' := [.ref (9012), .int (nI (e)), .int (nI (q)), .ref (9)]) (M' := (I, J, Rx R, N, G)) rfl ?_
      refine XP_pure rfl rfl (c_spF6 hT hL hb hqe he (fun z => absurd (mW_un (by omega) (by omega) z hm) (by decide))) ?_
      refine XP_ifN (x := 0)  rfl (by omega) (fun (b45 : 0 = 0) => ?_) (fun (b45 : ¬ 0 = 0) => absurd b45 (by omega))
      refine XP_n 4 (pc' := 52) (ls' := [.ref (9), .int (nI (q)), .int (nI (e))]) (st' := [.ref (9014), .int (nI (e)), .int (nI (q)), .ref (9)]) (M' := (I, J, Rx R, N, G)) rfl ?_
      refine XP_pure rfl rfl (c_spF7 hT hL hb hqe he (fun z => absurd (mW_un (by omega) (by omega) z hm) (by decide))) ?_
      refine XP_ifN (x := 0)  rfl (by omega) (fun (b53 : 0 = 0) => ?_) (fun (b53 : ¬ 0 = 0) => absurd b53 (by omega))
      refine XP_n 4 (pc' := 60) (ls' := [.ref (9), .int (nI (q)), .int (nI (e))]) (st' := [.ref (9016), .int (nI (e)), .int (nI (q)), .ref (9)]) (M' := (I, J, Rx R, N, G)) rfl ?_
      refine XP_pure rfl rfl (c_spT8 hT hL hqe he hm) ?_
      refine XP_ifN (x := 1)  rfl (by omega) (fun (b61 : 1 = 0) => absurd b61 (by omega)) (fun (b61 : ¬ 1 = 0) => ?_)
      refine XP_n 1 (pc' := 63) (ls' := [.ref (9), .int (nI (q)), .int (nI (e))]) (st' := [.int (nI (1007))]) (M' := (I, J, Rx R, N, G)) rfl ?_
      exact XP_ret rfl ⟨rfl, rfl⟩
    · unfold TP
      show XP X _ k_Reader_wordOf 0 [.ref (9), .int (nI (q)), .int (nI (e))] [] _ _
      refine XP_n 4 (pc' := 4) (ls' := [.ref (9), .int (nI (q)), .int (nI (e))]) (st' := [.ref (9002), .int (nI (e)), .int (nI (q)), .ref (9)]) (M' := (I, J, Rx R, N, G)) rfl ?_
      refine XP_pure rfl rfl (c_spF1 hT hL hb hqe he (fun z => absurd (mW_un (by omega) (by omega) z hm) (by decide))) ?_
      refine XP_ifN (x := 0)  rfl (by omega) (fun (b5 : 0 = 0) => ?_) (fun (b5 : ¬ 0 = 0) => absurd b5 (by omega))
      refine XP_n 4 (pc' := 12) (ls' := [.ref (9), .int (nI (q)), .int (nI (e))]) (st' := [.ref (9004), .int (nI (e)), .int (nI (q)), .ref (9)]) (M' := (I, J, Rx R, N, G)) rfl ?_
      refine XP_pure rfl rfl (c_spF2 hT hL hb hqe he (fun z => absurd (mW_un (by omega) (by omega) z hm) (by decide))) ?_
      refine XP_ifN (x := 0)  rfl (by omega) (fun (b13 : 0 = 0) => ?_) (fun (b13 : ¬ 0 = 0) => absurd b13 (by omega))
      refine XP_n 4 (pc' := 20) (ls' := [.ref (9), .int (nI (q)), .int (nI (e))]) (st' := [.ref (9006), .int (nI (e)), .int (nI (q)), .ref (9)]) (M' := (I, J, Rx R, N, G)) rfl ?_
      refine XP_pure rfl rfl (c_spF3 hT hL hb hqe he (fun z => absurd (mW_un (by omega) (by omega) z hm) (by decide))) ?_
      refine XP_ifN (x := 0)  rfl (by omega) (fun (b21 : 0 = 0) => ?_) (fun (b21 : ¬ 0 = 0) => absurd b21 (by omega))
      refine XP_n 4 (pc' := 28) (ls' := [.ref (9), .int (nI (q)), .int (nI (e))]) (st' := [.ref (9008), .int (nI (e)), .int (nI (q)), .ref (9)]) (M' := (I, J, Rx R, N, G)) rfl ?_
      refine XP_pure rfl rfl (c_spF4 hT hL hb hqe he (fun z => absurd (mW_un (by omega) (by omega) z hm) (by decide))) ?_
      refine XP_ifN (x := 0)  rfl (by omega) (fun (b29 : 0 = 0) => ?_) (fun (b29 : ¬ 0 = 0) => absurd b29 (by omega))
      refine XP_n 4 (pc' := 36) (ls' := [.ref (9), .int (nI (q)), .int (nI (e))]) (st' := [.ref (9010), .int (nI (e)), .int (nI (q)), .ref (9)]) (M' := (I, J, Rx R, N, G)) rfl ?_
      refine XP_pure rfl rfl (c_spF5 hT hL hb hqe he (fun z => absurd (mW_un (by omega) (by omega) z hm) (by decide))) ?_
      refine XP_ifN (x := 0)  rfl (by omega) (fun (b37 : 0 = 0) => ?_) (fun (b37 : ¬ 0 = 0) => absurd b37 (by omega))
      refine XP_n 4 (pc' := 44) (ls' := [.ref (9), .int (nI (q)), .int (nI (e))]) (st' := [.ref (9012), .int (nI (e)), .int (nI (q)), .ref (9)]) (M' := (I, J, Rx R, N, G)) rfl ?_
      refine XP_pure rfl rfl (c_spF6 hT hL hb hqe he (fun z => absurd (mW_un (by omega) (by omega) z hm) (by decide))) ?_
      refine XP_ifN (x := 0)  rfl (by omega) (fun (b45 : 0 = 0) => ?_) (fun (b45 : ¬ 0 = 0) => absurd b45 (by omega))
      refine XP_n 4 (pc' := 52) (ls' := [.ref (9), .int (nI (q)), .int (nI (e))]) (st' := [.ref (9014), .int (nI (e)), .int (nI (q)), .ref (9)]) (M' := (I, J, Rx R, N, G)) rfl ?_
      refine XP_pure rfl rfl (c_spF7 hT hL hb hqe he (fun z => absurd (mW_un (by omega) (by omega) z hm) (by decide))) ?_
      refine XP_ifN (x := 0)  rfl (by omega) (fun (b53 : 0 = 0) => ?_) (fun (b53 : ¬ 0 = 0) => absurd b53 (by omega))
      refine XP_n 4 (pc' := 60) (ls' := [.ref (9), .int (nI (q)), .int (nI (e))]) (st' := [.ref (9016), .int (nI (e)), .int (nI (q)), .ref (9)]) (M' := (I, J, Rx R, N, G)) rfl ?_
      refine XP_pure rfl rfl (c_spF8 hT hL hb hqe he (fun z => absurd (mW_un (by omega) (by omega) z hm) (by decide))) ?_
      refine XP_ifN (x := 0)  rfl (by omega) (fun (b61 : 0 = 0) => ?_) (fun (b61 : ¬ 0 = 0) => absurd b61 (by omega))
      refine XP_n 4 (pc' := 68) (ls' := [.ref (9), .int (nI (q)), .int (nI (e))]) (st' := [.ref (9018), .int (nI (e)), .int (nI (q)), .ref (9)]) (M' := (I, J, Rx R, N, G)) rfl ?_
      refine XP_pure rfl rfl (c_spT9 hT hL hqe he hm) ?_
      refine XP_ifN (x := 1)  rfl (by omega) (fun (b69 : 1 = 0) => absurd b69 (by omega)) (fun (b69 : ¬ 1 = 0) => ?_)
      refine XP_n 1 (pc' := 71) (ls' := [.ref (9), .int (nI (q)), .int (nI (e))]) (st' := [.int (nI (1008))]) (M' := (I, J, Rx R, N, G)) rfl ?_
      exact XP_ret rfl ⟨rfl, rfl⟩
    · unfold TP
      show XP X _ k_Reader_wordOf 0 [.ref (9), .int (nI (q)), .int (nI (e))] [] _ _
      refine XP_n 4 (pc' := 4) (ls' := [.ref (9), .int (nI (q)), .int (nI (e))]) (st' := [.ref (9002), .int (nI (e)), .int (nI (q)), .ref (9)]) (M' := (I, J, Rx R, N, G)) rfl ?_
      refine XP_pure rfl rfl (c_spT1 hT hL hqe he hm) ?_
      refine XP_ifN (x := 1)  rfl (by omega) (fun (b5 : 1 = 0) => absurd b5 (by omega)) (fun (b5 : ¬ 1 = 0) => ?_)
      refine XP_n 1 (pc' := 7) (ls' := [.ref (9), .int (nI (q)), .int (nI (e))]) (st' := [.int (nI (1000))]) (M' := (I, J, Rx R, N, G)) rfl ?_
      exact XP_ret rfl ⟨rfl, rfl⟩
    · unfold TP
      show XP X _ k_Reader_wordOf 0 [.ref (9), .int (nI (q)), .int (nI (e))] [] _ _
      refine XP_n 4 (pc' := 4) (ls' := [.ref (9), .int (nI (q)), .int (nI (e))]) (st' := [.ref (9002), .int (nI (e)), .int (nI (q)), .ref (9)]) (M' := (I, J, Rx R, N, G)) rfl ?_
      refine XP_pure rfl rfl (c_spF1 hT hL hb hqe he (fun z => absurd (mW_un (by omega) (by omega) z hm) (by decide))) ?_
      refine XP_ifN (x := 0)  rfl (by omega) (fun (b5 : 0 = 0) => ?_) (fun (b5 : ¬ 0 = 0) => absurd b5 (by omega))
      refine XP_n 4 (pc' := 12) (ls' := [.ref (9), .int (nI (q)), .int (nI (e))]) (st' := [.ref (9004), .int (nI (e)), .int (nI (q)), .ref (9)]) (M' := (I, J, Rx R, N, G)) rfl ?_
      refine XP_pure rfl rfl (c_spT2 hT hL hqe he hm) ?_
      refine XP_ifN (x := 1)  rfl (by omega) (fun (b13 : 1 = 0) => absurd b13 (by omega)) (fun (b13 : ¬ 1 = 0) => ?_)
      refine XP_n 1 (pc' := 15) (ls' := [.ref (9), .int (nI (q)), .int (nI (e))]) (st' := [.int (nI (1001))]) (M' := (I, J, Rx R, N, G)) rfl ?_
      exact XP_ret rfl ⟨rfl, rfl⟩
    · unfold TP
      show XP X _ k_Reader_wordOf 0 [.ref (9), .int (nI (q)), .int (nI (e))] [] _ _
      refine XP_n 4 (pc' := 4) (ls' := [.ref (9), .int (nI (q)), .int (nI (e))]) (st' := [.ref (9002), .int (nI (e)), .int (nI (q)), .ref (9)]) (M' := (I, J, Rx R, N, G)) rfl ?_
      refine XP_pure rfl rfl (c_spF1 hT hL hb hqe he (fun z => absurd (mW_un (by omega) (by omega) z hm) (by decide))) ?_
      refine XP_ifN (x := 0)  rfl (by omega) (fun (b5 : 0 = 0) => ?_) (fun (b5 : ¬ 0 = 0) => absurd b5 (by omega))
      refine XP_n 4 (pc' := 12) (ls' := [.ref (9), .int (nI (q)), .int (nI (e))]) (st' := [.ref (9004), .int (nI (e)), .int (nI (q)), .ref (9)]) (M' := (I, J, Rx R, N, G)) rfl ?_
      refine XP_pure rfl rfl (c_spF2 hT hL hb hqe he (fun z => absurd (mW_un (by omega) (by omega) z hm) (by decide))) ?_
      refine XP_ifN (x := 0)  rfl (by omega) (fun (b13 : 0 = 0) => ?_) (fun (b13 : ¬ 0 = 0) => absurd b13 (by omega))
      refine XP_n 4 (pc' := 20) (ls' := [.ref (9), .int (nI (q)), .int (nI (e))]) (st' := [.ref (9006), .int (nI (e)), .int (nI (q)), .ref (9)]) (M' := (I, J, Rx R, N, G)) rfl ?_
      refine XP_pure rfl rfl (c_spT3 hT hL hqe he hm) ?_
      refine XP_ifN (x := 1)  rfl (by omega) (fun (b21 : 1 = 0) => absurd b21 (by omega)) (fun (b21 : ¬ 1 = 0) => ?_)
      refine XP_n 1 (pc' := 23) (ls' := [.ref (9), .int (nI (q)), .int (nI (e))]) (st' := [.int (nI (1002))]) (M' := (I, J, Rx R, N, G)) rfl ?_
      exact XP_ret rfl ⟨rfl, rfl⟩
    · unfold TP
      show XP X _ k_Reader_wordOf 0 [.ref (9), .int (nI (q)), .int (nI (e))] [] _ _
      refine XP_n 4 (pc' := 4) (ls' := [.ref (9), .int (nI (q)), .int (nI (e))]) (st' := [.ref (9002), .int (nI (e)), .int (nI (q)), .ref (9)]) (M' := (I, J, Rx R, N, G)) rfl ?_
      refine XP_pure rfl rfl (c_spF1 hT hL hb hqe he (fun z => absurd (mW_un (by omega) (by omega) z hm) (by decide))) ?_
      refine XP_ifN (x := 0)  rfl (by omega) (fun (b5 : 0 = 0) => ?_) (fun (b5 : ¬ 0 = 0) => absurd b5 (by omega))
      refine XP_n 4 (pc' := 12) (ls' := [.ref (9), .int (nI (q)), .int (nI (e))]) (st' := [.ref (9004), .int (nI (e)), .int (nI (q)), .ref (9)]) (M' := (I, J, Rx R, N, G)) rfl ?_
      refine XP_pure rfl rfl (c_spF2 hT hL hb hqe he (fun z => absurd (mW_un (by omega) (by omega) z hm) (by decide))) ?_
      refine XP_ifN (x := 0)  rfl (by omega) (fun (b13 : 0 = 0) => ?_) (fun (b13 : ¬ 0 = 0) => absurd b13 (by omega))
      refine XP_n 4 (pc' := 20) (ls' := [.ref (9), .int (nI (q)), .int (nI (e))]) (st' := [.ref (9006), .int (nI (e)), .int (nI (q)), .ref (9)]) (M' := (I, J, Rx R, N, G)) rfl ?_
      refine XP_pure rfl rfl (c_spF3 hT hL hb hqe he (fun z => absurd (mW_un (by omega) (by omega) z hm) (by decide))) ?_
      refine XP_ifN (x := 0)  rfl (by omega) (fun (b21 : 0 = 0) => ?_) (fun (b21 : ¬ 0 = 0) => absurd b21 (by omega))
      refine XP_n 4 (pc' := 28) (ls' := [.ref (9), .int (nI (q)), .int (nI (e))]) (st' := [.ref (9008), .int (nI (e)), .int (nI (q)), .ref (9)]) (M' := (I, J, Rx R, N, G)) rfl ?_
      refine XP_pure rfl rfl (c_spT4 hT hL hqe he hm) ?_
      refine XP_ifN (x := 1)  rfl (by omega) (fun (b29 : 1 = 0) => absurd b29 (by omega)) (fun (b29 : ¬ 1 = 0) => ?_)
      refine XP_n 1 (pc' := 31) (ls' := [.ref (9), .int (nI (q)), .int (nI (e))]) (st' := [.int (nI (1003))]) (M' := (I, J, Rx R, N, G)) rfl ?_
      exact XP_ret rfl ⟨rfl, rfl⟩
    · unfold TP
      show XP X _ k_Reader_wordOf 0 [.ref (9), .int (nI (q)), .int (nI (e))] [] _ _
      refine XP_n 4 (pc' := 4) (ls' := [.ref (9), .int (nI (q)), .int (nI (e))]) (st' := [.ref (9002), .int (nI (e)), .int (nI (q)), .ref (9)]) (M' := (I, J, Rx R, N, G)) rfl ?_
      refine XP_pure rfl rfl (c_spF1 hT hL hb hqe he (fun z => absurd (mW_un (by omega) (by omega) z hm) (by decide))) ?_
      refine XP_ifN (x := 0)  rfl (by omega) (fun (b5 : 0 = 0) => ?_) (fun (b5 : ¬ 0 = 0) => absurd b5 (by omega))
      refine XP_n 4 (pc' := 12) (ls' := [.ref (9), .int (nI (q)), .int (nI (e))]) (st' := [.ref (9004), .int (nI (e)), .int (nI (q)), .ref (9)]) (M' := (I, J, Rx R, N, G)) rfl ?_
      refine XP_pure rfl rfl (c_spF2 hT hL hb hqe he (fun z => absurd (mW_un (by omega) (by omega) z hm) (by decide))) ?_
      refine XP_ifN (x := 0)  rfl (by omega) (fun (b13 : 0 = 0) => ?_) (fun (b13 : ¬ 0 = 0) => absurd b13 (by omega))
      refine XP_n 4 (pc' := 20) (ls' := [.ref (9), .int (nI (q)), .int (nI (e))]) (st' := [.ref (9006), .int (nI (e)), .int (nI (q)), .ref (9)]) (M' := (I, J, Rx R, N, G)) rfl ?_
      refine XP_pure rfl rfl (c_spF3 hT hL hb hqe he (fun z => absurd (mW_un (by omega) (by omega) z hm) (by decide))) ?_
      refine XP_ifN (x := 0)  rfl (by omega) (fun (b21 : 0 = 0) => ?_) (fun (b21 : ¬ 0 = 0) => absurd b21 (by omega))
      refine XP_n 4 (pc' := 28) (ls' := [.ref (9), .int (nI (q)), .int (nI (e))]) (st' := [.ref (9008), .int (nI (e)), .int (nI (q)), .ref (9)]) (M' := (I, J, Rx R, N, G)) rfl ?_
      refine XP_pure rfl rfl (c_spF4 hT hL hb hqe he (fun z => absurd (mW_un (by omega) (by omega) z hm) (by decide))) ?_
      refine XP_ifN (x := 0)  rfl (by omega) (fun (b29 : 0 = 0) => ?_) (fun (b29 : ¬ 0 = 0) => absurd b29 (by omega))
      refine XP_n 4 (pc' := 36) (ls' := [.ref (9), .int (nI (q)), .int (nI (e))]) (st' := [.ref (9010), .int (nI (e)), .int (nI (q)), .ref (9)]) (M' := (I, J, Rx R, N, G)) rfl ?_
      refine XP_pure rfl rfl (c_spT5 hT hL hqe he hm) ?_
      refine XP_ifN (x := 1)  rfl (by omega) (fun (b37 : 1 = 0) => absurd b37 (by omega)) (fun (b37 : ¬ 1 = 0) => ?_)
      refine XP_n 1 (pc' := 39) (ls' := [.ref (9), .int (nI (q)), .int (nI (e))]) (st' := [.int (nI (1004))]) (M' := (I, J, Rx R, N, G)) rfl ?_
      exact XP_ret rfl ⟨rfl, rfl⟩
    · unfold TP
      show XP X _ k_Reader_wordOf 0 [.ref (9), .int (nI (q)), .int (nI (e))] [] _ _
      refine XP_n 4 (pc' := 4) (ls' := [.ref (9), .int (nI (q)), .int (nI (e))]) (st' := [.ref (9002), .int (nI (e)), .int (nI (q)), .ref (9)]) (M' := (I, J, Rx R, N, G)) rfl ?_
      refine XP_pure rfl rfl (c_spF1 hT hL hb hqe he (fun z => absurd (mW_un (by omega) (by omega) z hm) (by decide))) ?_
      refine XP_ifN (x := 0)  rfl (by omega) (fun (b5 : 0 = 0) => ?_) (fun (b5 : ¬ 0 = 0) => absurd b5 (by omega))
      refine XP_n 4 (pc' := 12) (ls' := [.ref (9), .int (nI (q)), .int (nI (e))]) (st' := [.ref (9004), .int (nI (e)), .int (nI (q)), .ref (9)]) (M' := (I, J, Rx R, N, G)) rfl ?_
      refine XP_pure rfl rfl (c_spF2 hT hL hb hqe he (fun z => absurd (mW_un (by omega) (by omega) z hm) (by decide))) ?_
      refine XP_ifN (x := 0)  rfl (by omega) (fun (b13 : 0 = 0) => ?_) (fun (b13 : ¬ 0 = 0) => absurd b13 (by omega))
      refine XP_n 4 (pc' := 20) (ls' := [.ref (9), .int (nI (q)), .int (nI (e))]) (st' := [.ref (9006), .int (nI (e)), .int (nI (q)), .ref (9)]) (M' := (I, J, Rx R, N, G)) rfl ?_
      refine XP_pure rfl rfl (c_spF3 hT hL hb hqe he (fun z => absurd (mW_un (by omega) (by omega) z hm) (by decide))) ?_
      refine XP_ifN (x := 0)  rfl (by omega) (fun (b21 : 0 = 0) => ?_) (fun (b21 : ¬ 0 = 0) => absurd b21 (by omega))
      refine XP_n 4 (pc' := 28) (ls' := [.ref (9), .int (nI (q)), .int (nI (e))]) (st' := [.ref (9008), .int (nI (e)), .int (nI (q)), .ref (9)]) (M' := (I, J, Rx R, N, G)) rfl ?_
      refine XP_pure rfl rfl (c_spF4 hT hL hb hqe he (fun z => absurd (mW_un (by omega) (by omega) z hm) (by decide))) ?_
      refine XP_ifN (x := 0)  rfl (by omega) (fun (b29 : 0 = 0) => ?_) (fun (b29 : ¬ 0 = 0) => absurd b29 (by omega))
      refine XP_n 4 (pc' := 36) (ls' := [.ref (9), .int (nI (q)), .int (nI (e))]) (st' := [.ref (9010), .int (nI (e)), .int (nI (q)), .ref (9)]) (M' := (I, J, Rx R, N, G)) rfl ?_
      refine XP_pure rfl rfl (c_spF5 hT hL hb hqe he (fun z => absurd (mW_un (by omega) (by omega) z hm) (by decide))) ?_
      refine XP_ifN (x := 0)  rfl (by omega) (fun (b37 : 0 = 0) => ?_) (fun (b37 : ¬ 0 = 0) => absurd b37 (by omega))
      refine XP_n 4 (pc' := 44) (ls' := [.ref (9), .int (nI (q)), .int (nI (e))]) (st' := [.ref (9012), .int (nI (e)), .int (nI (q)), .ref (9)]) (M' := (I, J, Rx R, N, G)) rfl ?_
      refine XP_pure rfl rfl (c_spT6 hT hL hqe he hm) ?_
      refine XP_ifN (x := 1)  rfl (by omega) (fun (b45 : 1 = 0) => absurd b45 (by omega)) (fun (b45 : ¬ 1 = 0) => ?_)
      refine XP_n 1 (pc' := 47) (ls' := [.ref (9), .int (nI (q)), .int (nI (e))]) (st' := [.int (nI (1005))]) (M' := (I, J, Rx R, N, G)) rfl ?_
      exact XP_ret rfl ⟨rfl, rfl⟩
    · unfold TP
      show XP X _ k_Reader_wordOf 0 [.ref (9), .int (nI (q)), .int (nI (e))] [] _ _
      refine XP_n 4 (pc' := 4) (ls' := [.ref (9), .int (nI (q)), .int (nI (e))]) (st' := [.ref (9002), .int (nI (e)), .int (nI (q)), .ref (9)]) (M' := (I, J, Rx R, N, G)) rfl ?_
      refine XP_pure rfl rfl (c_spF1 hT hL hb hqe he (fun z => absurd (mW_un (by omega) (by omega) z hm) (by decide))) ?_
      refine XP_ifN (x := 0)  rfl (by omega) (fun (b5 : 0 = 0) => ?_) (fun (b5 : ¬ 0 = 0) => absurd b5 (by omega))
      refine XP_n 4 (pc' := 12) (ls' := [.ref (9), .int (nI (q)), .int (nI (e))]) (st' := [.ref (9004), .int (nI (e)), .int (nI (q)), .ref (9)]) (M' := (I, J, Rx R, N, G)) rfl ?_
      refine XP_pure rfl rfl (c_spF2 hT hL hb hqe he (fun z => absurd (mW_un (by omega) (by omega) z hm) (by decide))) ?_
      refine XP_ifN (x := 0)  rfl (by omega) (fun (b13 : 0 = 0) => ?_) (fun (b13 : ¬ 0 = 0) => absurd b13 (by omega))
      refine XP_n 4 (pc' := 20) (ls' := [.ref (9), .int (nI (q)), .int (nI (e))]) (st' := [.ref (9006), .int (nI (e)), .int (nI (q)), .ref (9)]) (M' := (I, J, Rx R, N, G)) rfl ?_
      refine XP_pure rfl rfl (c_spF3 hT hL hb hqe he (fun z => absurd (mW_un (by omega) (by omega) z hm) (by decide))) ?_
      refine XP_ifN (x := 0)  rfl (by omega) (fun (b21 : 0 = 0) => ?_) (fun (b21 : ¬ 0 = 0) => absurd b21 (by omega))
      refine XP_n 4 (pc' := 28) (ls' := [.ref (9), .int (nI (q)), .int (nI (e))]) (st' := [.ref (9008), .int (nI (e)), .int (nI (q)), .ref (9)]) (M' := (I, J, Rx R, N, G)) rfl ?_
      refine XP_pure rfl rfl (c_spF4 hT hL hb hqe he (fun z => absurd (mW_un (by omega) (by omega) z hm) (by decide))) ?_
      refine XP_ifN (x := 0)  rfl (by omega) (fun (b29 : 0 = 0) => ?_) (fun (b29 : ¬ 0 = 0) => absurd b29 (by omega))
      refine XP_n 4 (pc' := 36) (ls' := [.ref (9), .int (nI (q)), .int (nI (e))]) (st' := [.ref (9010), .int (nI (e)), .int (nI (q)), .ref (9)]) (M' := (I, J, Rx R, N, G)) rfl ?_
      refine XP_pure rfl rfl (c_spF5 hT hL hb hqe he (fun z => absurd (mW_un (by omega) (by omega) z hm) (by decide))) ?_
      refine XP_ifN (x := 0)  rfl (by omega) (fun (b37 : 0 = 0) => ?_) (fun (b37 : ¬ 0 = 0) => absurd b37 (by omega))
      refine XP_n 4 (pc' := 44) (ls' := [.ref (9), .int (nI (q)), .int (nI (e))]) (st' := [.ref (9012), .int (nI (e)), .int (nI (q)), .ref (9)]) (M' := (I, J, Rx R, N, G)) rfl ?_
      refine XP_pure rfl rfl (c_spF6 hT hL hb hqe he (fun z => absurd (mW_un (by omega) (by omega) z hm) (by decide))) ?_
      refine XP_ifN (x := 0)  rfl (by omega) (fun (b45 : 0 = 0) => ?_) (fun (b45 : ¬ 0 = 0) => absurd b45 (by omega))
      refine XP_n 4 (pc' := 52) (ls' := [.ref (9), .int (nI (q)), .int (nI (e))]) (st' := [.ref (9014), .int (nI (e)), .int (nI (q)), .ref (9)]) (M' := (I, J, Rx R, N, G)) rfl ?_
      refine XP_pure rfl rfl (c_spF7 hT hL hb hqe he (fun z => absurd (mW_un (by omega) (by omega) z hm) (by decide))) ?_
      refine XP_ifN (x := 0)  rfl (by omega) (fun (b53 : 0 = 0) => ?_) (fun (b53 : ¬ 0 = 0) => absurd b53 (by omega))
      refine XP_n 4 (pc' := 60) (ls' := [.ref (9), .int (nI (q)), .int (nI (e))]) (st' := [.ref (9016), .int (nI (e)), .int (nI (q)), .ref (9)]) (M' := (I, J, Rx R, N, G)) rfl ?_
      refine XP_pure rfl rfl (c_spF8 hT hL hb hqe he (fun z => absurd (mW_un (by omega) (by omega) z hm) (by decide))) ?_
      refine XP_ifN (x := 0)  rfl (by omega) (fun (b61 : 0 = 0) => ?_) (fun (b61 : ¬ 0 = 0) => absurd b61 (by omega))
      refine XP_n 4 (pc' := 68) (ls' := [.ref (9), .int (nI (q)), .int (nI (e))]) (st' := [.ref (9018), .int (nI (e)), .int (nI (q)), .ref (9)]) (M' := (I, J, Rx R, N, G)) rfl ?_
      refine XP_pure rfl rfl (c_spF9 hT hL hb hqe he (fun z => absurd (mW_un (by omega) (by omega) z hm) (by decide))) ?_
      refine XP_ifN (x := 0)  rfl (by omega) (fun (b69 : 0 = 0) => ?_) (fun (b69 : ¬ 0 = 0) => absurd b69 (by omega))
      refine XP_n 4 (pc' := 76) (ls' := [.ref (9), .int (nI (q)), .int (nI (e))]) (st' := [.ref (9020), .int (nI (e)), .int (nI (q)), .ref (9)]) (M' := (I, J, Rx R, N, G)) rfl ?_
      refine XP_pure rfl rfl (c_spT10 hT hL hqe he hm) ?_
      refine XP_ifN (x := 1)  rfl (by omega) (fun (b77 : 1 = 0) => absurd b77 (by omega)) (fun (b77 : ¬ 1 = 0) => ?_)
      refine XP_n 1 (pc' := 79) (ls' := [.ref (9), .int (nI (q)), .int (nI (e))]) (st' := [.int (nI (1009))]) (M' := (I, J, Rx R, N, G)) rfl ?_
      exact XP_ret rfl ⟨rfl, rfl⟩
    · unfold TP
      show XP X _ k_Reader_wordOf 0 [.ref (9), .int (nI (q)), .int (nI (e))] [] _ _
      refine XP_n 4 (pc' := 4) (ls' := [.ref (9), .int (nI (q)), .int (nI (e))]) (st' := [.ref (9002), .int (nI (e)), .int (nI (q)), .ref (9)]) (M' := (I, J, Rx R, N, G)) rfl ?_
      refine XP_pure rfl rfl (c_spF1 hT hL hb hqe he (fun z => absurd (mW_un (by omega) (by omega) z hm) (by decide))) ?_
      refine XP_ifN (x := 0)  rfl (by omega) (fun (b5 : 0 = 0) => ?_) (fun (b5 : ¬ 0 = 0) => absurd b5 (by omega))
      refine XP_n 4 (pc' := 12) (ls' := [.ref (9), .int (nI (q)), .int (nI (e))]) (st' := [.ref (9004), .int (nI (e)), .int (nI (q)), .ref (9)]) (M' := (I, J, Rx R, N, G)) rfl ?_
      refine XP_pure rfl rfl (c_spF2 hT hL hb hqe he (fun z => absurd (mW_un (by omega) (by omega) z hm) (by decide))) ?_
      refine XP_ifN (x := 0)  rfl (by omega) (fun (b13 : 0 = 0) => ?_) (fun (b13 : ¬ 0 = 0) => absurd b13 (by omega))
      refine XP_n 4 (pc' := 20) (ls' := [.ref (9), .int (nI (q)), .int (nI (e))]) (st' := [.ref (9006), .int (nI (e)), .int (nI (q)), .ref (9)]) (M' := (I, J, Rx R, N, G)) rfl ?_
      refine XP_pure rfl rfl (c_spF3 hT hL hb hqe he (fun z => absurd (mW_un (by omega) (by omega) z hm) (by decide))) ?_
      refine XP_ifN (x := 0)  rfl (by omega) (fun (b21 : 0 = 0) => ?_) (fun (b21 : ¬ 0 = 0) => absurd b21 (by omega))
      refine XP_n 4 (pc' := 28) (ls' := [.ref (9), .int (nI (q)), .int (nI (e))]) (st' := [.ref (9008), .int (nI (e)), .int (nI (q)), .ref (9)]) (M' := (I, J, Rx R, N, G)) rfl ?_
      refine XP_pure rfl rfl (c_spF4 hT hL hb hqe he (fun z => absurd (mW_un (by omega) (by omega) z hm) (by decide))) ?_
      refine XP_ifN (x := 0)  rfl (by omega) (fun (b29 : 0 = 0) => ?_) (fun (b29 : ¬ 0 = 0) => absurd b29 (by omega))
      refine XP_n 4 (pc' := 36) (ls' := [.ref (9), .int (nI (q)), .int (nI (e))]) (st' := [.ref (9010), .int (nI (e)), .int (nI (q)), .ref (9)]) (M' := (I, J, Rx R, N, G)) rfl ?_
      refine XP_pure rfl rfl (c_spF5 hT hL hb hqe he (fun z => absurd (mW_un (by omega) (by omega) z hm) (by decide))) ?_
      refine XP_ifN (x := 0)  rfl (by omega) (fun (b37 : 0 = 0) => ?_) (fun (b37 : ¬ 0 = 0) => absurd b37 (by omega))
      refine XP_n 4 (pc' := 44) (ls' := [.ref (9), .int (nI (q)), .int (nI (e))]) (st' := [.ref (9012), .int (nI (e)), .int (nI (q)), .ref (9)]) (M' := (I, J, Rx R, N, G)) rfl ?_
      refine XP_pure rfl rfl (c_spF6 hT hL hb hqe he (fun z => absurd (mW_un (by omega) (by omega) z hm) (by decide))) ?_
      refine XP_ifN (x := 0)  rfl (by omega) (fun (b45 : 0 = 0) => ?_) (fun (b45 : ¬ 0 = 0) => absurd b45 (by omega))
      refine XP_n 4 (pc' := 52) (ls' := [.ref (9), .int (nI (q)), .int (nI (e))]) (st' := [.ref (9014), .int (nI (e)), .int (nI (q)), .ref (9)]) (M' := (I, J, Rx R, N, G)) rfl ?_
      refine XP_pure rfl rfl (c_spF7 hT hL hb hqe he (fun z => absurd (mW_un (by omega) (by omega) z hm) (by decide))) ?_
      refine XP_ifN (x := 0)  rfl (by omega) (fun (b53 : 0 = 0) => ?_) (fun (b53 : ¬ 0 = 0) => absurd b53 (by omega))
      refine XP_n 4 (pc' := 60) (ls' := [.ref (9), .int (nI (q)), .int (nI (e))]) (st' := [.ref (9016), .int (nI (e)), .int (nI (q)), .ref (9)]) (M' := (I, J, Rx R, N, G)) rfl ?_
      refine XP_pure rfl rfl (c_spF8 hT hL hb hqe he (fun z => absurd (mW_un (by omega) (by omega) z hm) (by decide))) ?_
      refine XP_ifN (x := 0)  rfl (by omega) (fun (b61 : 0 = 0) => ?_) (fun (b61 : ¬ 0 = 0) => absurd b61 (by omega))
      refine XP_n 4 (pc' := 68) (ls' := [.ref (9), .int (nI (q)), .int (nI (e))]) (st' := [.ref (9018), .int (nI (e)), .int (nI (q)), .ref (9)]) (M' := (I, J, Rx R, N, G)) rfl ?_
      refine XP_pure rfl rfl (c_spF9 hT hL hb hqe he (fun z => absurd (mW_un (by omega) (by omega) z hm) (by decide))) ?_
      refine XP_ifN (x := 0)  rfl (by omega) (fun (b69 : 0 = 0) => ?_) (fun (b69 : ¬ 0 = 0) => absurd b69 (by omega))
      refine XP_n 4 (pc' := 76) (ls' := [.ref (9), .int (nI (q)), .int (nI (e))]) (st' := [.ref (9020), .int (nI (e)), .int (nI (q)), .ref (9)]) (M' := (I, J, Rx R, N, G)) rfl ?_
      refine XP_pure rfl rfl (c_spF10 hT hL hb hqe he (fun z => absurd (mW_un (by omega) (by omega) z hm) (by decide))) ?_
      refine XP_ifN (x := 0)  rfl (by omega) (fun (b77 : 0 = 0) => ?_) (fun (b77 : ¬ 0 = 0) => absurd b77 (by omega))
      refine XP_n 4 (pc' := 84) (ls' := [.ref (9), .int (nI (q)), .int (nI (e))]) (st' := [.ref (9022), .int (nI (e)), .int (nI (q)), .ref (9)]) (M' := (I, J, Rx R, N, G)) rfl ?_
      refine XP_pure rfl rfl (c_spT11 hT hL hqe he hm) ?_
      refine XP_ifN (x := 1)  rfl (by omega) (fun (b85 : 1 = 0) => absurd b85 (by omega)) (fun (b85 : ¬ 1 = 0) => ?_)
      refine XP_n 1 (pc' := 87) (ls' := [.ref (9), .int (nI (q)), .int (nI (e))]) (st' := [.int (nI (1010))]) (M' := (I, J, Rx R, N, G)) rfl ?_
      exact XP_ret rfl ⟨rfl, rfl⟩
    · unfold TP
      show XP X _ k_Reader_wordOf 0 [.ref (9), .int (nI (q)), .int (nI (e))] [] _ _
      refine XP_n 4 (pc' := 4) (ls' := [.ref (9), .int (nI (q)), .int (nI (e))]) (st' := [.ref (9002), .int (nI (e)), .int (nI (q)), .ref (9)]) (M' := (I, J, Rx R, N, G)) rfl ?_
      refine XP_pure rfl rfl (c_spF1 hT hL hb hqe he (fun z => absurd (mW_un (by omega) (by omega) z hm) (by decide))) ?_
      refine XP_ifN (x := 0)  rfl (by omega) (fun (b5 : 0 = 0) => ?_) (fun (b5 : ¬ 0 = 0) => absurd b5 (by omega))
      refine XP_n 4 (pc' := 12) (ls' := [.ref (9), .int (nI (q)), .int (nI (e))]) (st' := [.ref (9004), .int (nI (e)), .int (nI (q)), .ref (9)]) (M' := (I, J, Rx R, N, G)) rfl ?_
      refine XP_pure rfl rfl (c_spF2 hT hL hb hqe he (fun z => absurd (mW_un (by omega) (by omega) z hm) (by decide))) ?_
      refine XP_ifN (x := 0)  rfl (by omega) (fun (b13 : 0 = 0) => ?_) (fun (b13 : ¬ 0 = 0) => absurd b13 (by omega))
      refine XP_n 4 (pc' := 20) (ls' := [.ref (9), .int (nI (q)), .int (nI (e))]) (st' := [.ref (9006), .int (nI (e)), .int (nI (q)), .ref (9)]) (M' := (I, J, Rx R, N, G)) rfl ?_
      refine XP_pure rfl rfl (c_spF3 hT hL hb hqe he (fun z => absurd (mW_un (by omega) (by omega) z hm) (by decide))) ?_
      refine XP_ifN (x := 0)  rfl (by omega) (fun (b21 : 0 = 0) => ?_) (fun (b21 : ¬ 0 = 0) => absurd b21 (by omega))
      refine XP_n 4 (pc' := 28) (ls' := [.ref (9), .int (nI (q)), .int (nI (e))]) (st' := [.ref (9008), .int (nI (e)), .int (nI (q)), .ref (9)]) (M' := (I, J, Rx R, N, G)) rfl ?_
      refine XP_pure rfl rfl (c_spF4 hT hL hb hqe he (fun z => absurd (mW_un (by omega) (by omega) z hm) (by decide))) ?_
      refine XP_ifN (x := 0)  rfl (by omega) (fun (b29 : 0 = 0) => ?_) (fun (b29 : ¬ 0 = 0) => absurd b29 (by omega))
      refine XP_n 4 (pc' := 36) (ls' := [.ref (9), .int (nI (q)), .int (nI (e))]) (st' := [.ref (9010), .int (nI (e)), .int (nI (q)), .ref (9)]) (M' := (I, J, Rx R, N, G)) rfl ?_
      refine XP_pure rfl rfl (c_spF5 hT hL hb hqe he (fun z => absurd (mW_un (by omega) (by omega) z hm) (by decide))) ?_
      refine XP_ifN (x := 0)  rfl (by omega) (fun (b37 : 0 = 0) => ?_) (fun (b37 : ¬ 0 = 0) => absurd b37 (by omega))
      refine XP_n 4 (pc' := 44) (ls' := [.ref (9), .int (nI (q)), .int (nI (e))]) (st' := [.ref (9012), .int (nI (e)), .int (nI (q)), .ref (9)]) (M' := (I, J, Rx R, N, G)) rfl ?_
      refine XP_pure rfl rfl (c_spF6 hT hL hb hqe he (fun z => absurd (mW_un (by omega) (by omega) z hm) (by decide))) ?_
      refine XP_ifN (x := 0)  rfl (by omega) (fun (b45 : 0 = 0) => ?_) (fun (b45 : ¬ 0 = 0) => absurd b45 (by omega))
      refine XP_n 4 (pc' := 52) (ls' := [.ref (9), .int (nI (q)), .int (nI (e))]) (st' := [.ref (9014), .int (nI (e)), .int (nI (q)), .ref (9)]) (M' := (I, J, Rx R, N, G)) rfl ?_
      refine XP_pure rfl rfl (c_spF7 hT hL hb hqe he (fun z => absurd (mW_un (by omega) (by omega) z hm) (by decide))) ?_
      refine XP_ifN (x := 0)  rfl (by omega) (fun (b53 : 0 = 0) => ?_) (fun (b53 : ¬ 0 = 0) => absurd b53 (by omega))
      refine XP_n 4 (pc' := 60) (ls' := [.ref (9), .int (nI (q)), .int (nI (e))]) (st' := [.ref (9016), .int (nI (e)), .int (nI (q)), .ref (9)]) (M' := (I, J, Rx R, N, G)) rfl ?_
      refine XP_pure rfl rfl (c_spF8 hT hL hb hqe he (fun z => absurd (mW_un (by omega) (by omega) z hm) (by decide))) ?_
      refine XP_ifN (x := 0)  rfl (by omega) (fun (b61 : 0 = 0) => ?_) (fun (b61 : ¬ 0 = 0) => absurd b61 (by omega))
      refine XP_n 4 (pc' := 68) (ls' := [.ref (9), .int (nI (q)), .int (nI (e))]) (st' := [.ref (9018), .int (nI (e)), .int (nI (q)), .ref (9)]) (M' := (I, J, Rx R, N, G)) rfl ?_
      refine XP_pure rfl rfl (c_spF9 hT hL hb hqe he (fun z => absurd (mW_un (by omega) (by omega) z hm) (by decide))) ?_
      refine XP_ifN (x := 0)  rfl (by omega) (fun (b69 : 0 = 0) => ?_) (fun (b69 : ¬ 0 = 0) => absurd b69 (by omega))
      refine XP_n 4 (pc' := 76) (ls' := [.ref (9), .int (nI (q)), .int (nI (e))]) (st' := [.ref (9020), .int (nI (e)), .int (nI (q)), .ref (9)]) (M' := (I, J, Rx R, N, G)) rfl ?_
      refine XP_pure rfl rfl (c_spF10 hT hL hb hqe he (fun z => absurd (mW_un (by omega) (by omega) z hm) (by decide))) ?_
      refine XP_ifN (x := 0)  rfl (by omega) (fun (b77 : 0 = 0) => ?_) (fun (b77 : ¬ 0 = 0) => absurd b77 (by omega))
      refine XP_n 4 (pc' := 84) (ls' := [.ref (9), .int (nI (q)), .int (nI (e))]) (st' := [.ref (9022), .int (nI (e)), .int (nI (q)), .ref (9)]) (M' := (I, J, Rx R, N, G)) rfl ?_
      refine XP_pure rfl rfl (c_spF11 hT hL hb hqe he (fun z => absurd (mW_un (by omega) (by omega) z hm) (by decide))) ?_
      refine XP_ifN (x := 0)  rfl (by omega) (fun (b85 : 0 = 0) => ?_) (fun (b85 : ¬ 0 = 0) => absurd b85 (by omega))
      refine XP_n 4 (pc' := 92) (ls' := [.ref (9), .int (nI (q)), .int (nI (e))]) (st' := [.ref (9024), .int (nI (e)), .int (nI (q)), .ref (9)]) (M' := (I, J, Rx R, N, G)) rfl ?_
      refine XP_pure rfl rfl (c_spT12 hT hL hqe he hm) ?_
      refine XP_ifN (x := 1)  rfl (by omega) (fun (b93 : 1 = 0) => absurd b93 (by omega)) (fun (b93 : ¬ 1 = 0) => ?_)
      refine XP_n 2 (pc' := 97) (ls' := [.ref (9), .int (nI (q)), .int (nI (e))]) (st' := [.int (nI (1011))]) (M' := (I, J, Rx R, N, G)) rfl ?_
      exact XP_ret rfl ⟨rfl, rfl⟩
  · rw [wk_no (fun k hk z => hx ⟨k, hk, z⟩)]
    unfold TP
    show XP X _ k_Reader_wordOf 0 [.ref (9), .int (nI (q)), .int (nI (e))] [] _ _
    refine XP_n 4 (pc' := 4) (ls' := [.ref (9), .int (nI (q)), .int (nI (e))]) (st' := [.ref (9002), .int (nI (e)), .int (nI (q)), .ref (9)]) (M' := (I, J, Rx R, N, G)) rfl ?_
    refine XP_pure rfl rfl (c_spF1 hT hL hb hqe he (fun z => hx ⟨3, by omega, z⟩)) ?_
    refine XP_ifN (x := 0)  rfl (by omega) (fun (b5 : 0 = 0) => ?_) (fun (b5 : ¬ 0 = 0) => absurd b5 (by omega))
    refine XP_n 4 (pc' := 12) (ls' := [.ref (9), .int (nI (q)), .int (nI (e))]) (st' := [.ref (9004), .int (nI (e)), .int (nI (q)), .ref (9)]) (M' := (I, J, Rx R, N, G)) rfl ?_
    refine XP_pure rfl rfl (c_spF2 hT hL hb hqe he (fun z => hx ⟨4, by omega, z⟩)) ?_
    refine XP_ifN (x := 0)  rfl (by omega) (fun (b13 : 0 = 0) => ?_) (fun (b13 : ¬ 0 = 0) => absurd b13 (by omega))
    refine XP_n 4 (pc' := 20) (ls' := [.ref (9), .int (nI (q)), .int (nI (e))]) (st' := [.ref (9006), .int (nI (e)), .int (nI (q)), .ref (9)]) (M' := (I, J, Rx R, N, G)) rfl ?_
    refine XP_pure rfl rfl (c_spF3 hT hL hb hqe he (fun z => hx ⟨5, by omega, z⟩)) ?_
    refine XP_ifN (x := 0)  rfl (by omega) (fun (b21 : 0 = 0) => ?_) (fun (b21 : ¬ 0 = 0) => absurd b21 (by omega))
    refine XP_n 4 (pc' := 28) (ls' := [.ref (9), .int (nI (q)), .int (nI (e))]) (st' := [.ref (9008), .int (nI (e)), .int (nI (q)), .ref (9)]) (M' := (I, J, Rx R, N, G)) rfl ?_
    refine XP_pure rfl rfl (c_spF4 hT hL hb hqe he (fun z => hx ⟨6, by omega, z⟩)) ?_
    refine XP_ifN (x := 0)  rfl (by omega) (fun (b29 : 0 = 0) => ?_) (fun (b29 : ¬ 0 = 0) => absurd b29 (by omega))
    refine XP_n 4 (pc' := 36) (ls' := [.ref (9), .int (nI (q)), .int (nI (e))]) (st' := [.ref (9010), .int (nI (e)), .int (nI (q)), .ref (9)]) (M' := (I, J, Rx R, N, G)) rfl ?_
    refine XP_pure rfl rfl (c_spF5 hT hL hb hqe he (fun z => hx ⟨7, by omega, z⟩)) ?_
    refine XP_ifN (x := 0)  rfl (by omega) (fun (b37 : 0 = 0) => ?_) (fun (b37 : ¬ 0 = 0) => absurd b37 (by omega))
    refine XP_n 4 (pc' := 44) (ls' := [.ref (9), .int (nI (q)), .int (nI (e))]) (st' := [.ref (9012), .int (nI (e)), .int (nI (q)), .ref (9)]) (M' := (I, J, Rx R, N, G)) rfl ?_
    refine XP_pure rfl rfl (c_spF6 hT hL hb hqe he (fun z => hx ⟨8, by omega, z⟩)) ?_
    refine XP_ifN (x := 0)  rfl (by omega) (fun (b45 : 0 = 0) => ?_) (fun (b45 : ¬ 0 = 0) => absurd b45 (by omega))
    refine XP_n 4 (pc' := 52) (ls' := [.ref (9), .int (nI (q)), .int (nI (e))]) (st' := [.ref (9014), .int (nI (e)), .int (nI (q)), .ref (9)]) (M' := (I, J, Rx R, N, G)) rfl ?_
    refine XP_pure rfl rfl (c_spF7 hT hL hb hqe he (fun z => hx ⟨0, by omega, z⟩)) ?_
    refine XP_ifN (x := 0)  rfl (by omega) (fun (b53 : 0 = 0) => ?_) (fun (b53 : ¬ 0 = 0) => absurd b53 (by omega))
    refine XP_n 4 (pc' := 60) (ls' := [.ref (9), .int (nI (q)), .int (nI (e))]) (st' := [.ref (9016), .int (nI (e)), .int (nI (q)), .ref (9)]) (M' := (I, J, Rx R, N, G)) rfl ?_
    refine XP_pure rfl rfl (c_spF8 hT hL hb hqe he (fun z => hx ⟨1, by omega, z⟩)) ?_
    refine XP_ifN (x := 0)  rfl (by omega) (fun (b61 : 0 = 0) => ?_) (fun (b61 : ¬ 0 = 0) => absurd b61 (by omega))
    refine XP_n 4 (pc' := 68) (ls' := [.ref (9), .int (nI (q)), .int (nI (e))]) (st' := [.ref (9018), .int (nI (e)), .int (nI (q)), .ref (9)]) (M' := (I, J, Rx R, N, G)) rfl ?_
    refine XP_pure rfl rfl (c_spF9 hT hL hb hqe he (fun z => hx ⟨2, by omega, z⟩)) ?_
    refine XP_ifN (x := 0)  rfl (by omega) (fun (b69 : 0 = 0) => ?_) (fun (b69 : ¬ 0 = 0) => absurd b69 (by omega))
    refine XP_n 4 (pc' := 76) (ls' := [.ref (9), .int (nI (q)), .int (nI (e))]) (st' := [.ref (9020), .int (nI (e)), .int (nI (q)), .ref (9)]) (M' := (I, J, Rx R, N, G)) rfl ?_
    refine XP_pure rfl rfl (c_spF10 hT hL hb hqe he (fun z => hx ⟨9, by omega, z⟩)) ?_
    refine XP_ifN (x := 0)  rfl (by omega) (fun (b77 : 0 = 0) => ?_) (fun (b77 : ¬ 0 = 0) => absurd b77 (by omega))
    refine XP_n 4 (pc' := 84) (ls' := [.ref (9), .int (nI (q)), .int (nI (e))]) (st' := [.ref (9022), .int (nI (e)), .int (nI (q)), .ref (9)]) (M' := (I, J, Rx R, N, G)) rfl ?_
    refine XP_pure rfl rfl (c_spF11 hT hL hb hqe he (fun z => hx ⟨10, by omega, z⟩)) ?_
    refine XP_ifN (x := 0)  rfl (by omega) (fun (b85 : 0 = 0) => ?_) (fun (b85 : ¬ 0 = 0) => absurd b85 (by omega))
    refine XP_n 4 (pc' := 92) (ls' := [.ref (9), .int (nI (q)), .int (nI (e))]) (st' := [.ref (9024), .int (nI (e)), .int (nI (q)), .ref (9)]) (M' := (I, J, Rx R, N, G)) rfl ?_
    refine XP_pure rfl rfl (c_spF12 hT hL hb hqe he (fun z => hx ⟨11, by omega, z⟩)) ?_
    refine XP_ifN (x := 0)  rfl (by omega) (fun (b93 : 0 = 0) => ?_) (fun (b93 : ¬ 0 = 0) => absurd b93 (by omega))
    refine XP_n 1 (pc' := 97) (ls' := [.ref (9), .int (nI (q)), .int (nI (e))]) (st' := [.int (nI (2002))]) (M' := (I, J, Rx R, N, G)) rfl ?_
    exact XP_ret rfl ⟨rfl, rfl⟩
end
