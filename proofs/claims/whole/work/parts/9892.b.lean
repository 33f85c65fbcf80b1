/-! the class's tokens: a step -/
def nvI (b : Nat → Nat) (q : Nat) : Nat → Int32
  | 0 => nI 0
  | n + 1 => nvI b q n * nI 10 + nI (b (q + n)) - nI 48
theorem nvI_n {b : Nat → Nat} {q : Nat} : ∀ n, n ≤ 4 → (∀ j, j < n → 48 ≤ b (q + j) ∧ b (q + j) ≤ 57) → nvI b q n = nI (dv b q n) ∧ dv b q n < 10 ^ n
  | 0, _, _ => ⟨rfl, by show 0 < 1; omega⟩
  | n + 1, h, hd => by
    obtain ⟨h1, h2⟩ := nvI_n n (by omega) (fun j hj => hd j (by omega))
    obtain ⟨h3, h4⟩ := hd n (by omega)
    have e : dv b q (n + 1) = dv b q n * 10 + (b (q + n) - 48) := rfl
    refine ⟨?_, ?_⟩
    · show nvI b q n * nI 10 + nI (b (q + n)) - nI 48 = _
      rw [h1, nI_mul, nI_add, nI_sub (by omega), e, show dv b q n * 10 + b (q + n) - 48 = dv b q n * 10 + (b (q + n) - 48) by omega]
    · rw [e, Nat.pow_succ]
      omega
def Cur (b : Nat → Nat) (L : Nat) (I : Nat → Nat → Int32) (p : Nat) : Prop := Tp I b L ∧ I 9 2 = nI (pl b L p) ∧ I 9 3 = nI (tk b L p) ∧ I 9 5 = nI (nx b L p) ∧ (tk b L p = 2000 → I 9 4 = nI (tv b L p))
section
variable {X : hX} {d : Nat} {s I : Nat → Nat → Int32} {J : Nat → Nat → Int64} {R : Nat → Nat → Option Nat} {N : Nat → Nat} {G : hG} {b : Nat → Nat} {L : Nat}
theorem l_bw (hT : Tp I b L) (hL : L ≤ 160) (hb : ∀ i, i < L → b i ≤ 255) {q : Nat} : ∀ (n i : Nat), L - i = n → i ≤ L → XP X (d + 1) k_Reader_behindWord 2 [.ref 9, .int (nI q), .int (nI i)] [] (I, J, Rx R, N, G) (Ret (.int (nI (scn isLt b L i))) (I, J, Rx R, N, G)) := by
  intro n
  induction n with
  | zero =>
    intro i hn hi
    have e0 : i = L := by omega
    rw [scn_f (by omega)]
    refine XP_n 3 (pc' := 5) (ls' := [.ref (9), .int (nI (q)), .int (nI (i))]) (st' := [.int (I 9 1), .int (nI (i))]) (M' := (I, J, Rx R, N, G)) rfl ?_
    rw [hT.1]
    refine XP_icN (x := i) (y := L) rfl (by omega) (by omega) (fun (b5 : L ≤ i) => ?_) (fun (b5 : i < L) => absurd b5 (by omega))
    refine XP_n 1 (pc' := 14) (ls' := [.ref (9), .int (nI (q)), .int (nI (i))]) (st' := [.int (nI (i))]) (M' := (I, J, Rx R, N, G)) rfl ?_
    exact XP_ret rfl ⟨rfl, rfl⟩
  | succ n ih =>
    intro i hn hi
    have hbi := hb i (by omega)
    by_cases g : isLt (b i) = true
    · rw [scn_t (by omega) g]
      refine XP_n 3 (pc' := 5) (ls' := [.ref (9), .int (nI (q)), .int (nI (i))]) (st' := [.int (I 9 1), .int (nI (i))]) (M' := (I, J, Rx R, N, G)) rfl ?_
      rw [hT.1]
      refine XP_icN (x := i) (y := L) rfl (by omega) (by omega) (fun (b5 : L ≤ i) => absurd b5 (by omega)) (fun (b5 : i < L) => ?_)
      refine XP_n 2 (pc' := 8) (ls' := [.ref (9), .int (nI (q)), .int (nI (i))]) (st' := [.int (nI (i)), .ref (9)]) (M' := (I, J, Rx R, N, G)) rfl ?_
      refine XP_pure rfl rfl (c_byteAt hT hL (show i < L by omega)) ?_
      refine XP_pure rfl rfl (c_isLt (hb ((i)) (by omega))) ?_
      refine XP_s rfl ?_
      refine XP_beq (fun b10 => absurd g b10) (fun b10 => ?_)
      refine XP_n 1 (pc' := 12) (ls' := [.ref (9), .int (nI (q)), .int (nI (i) + nI (1))]) (st' := []) (M' := (I, J, Rx R, N, G)) rfl ?_
      rw [show nI (i) + nI (1) = nI (i + 1) from nI_addE (rfl) rfl]
      refine XP_n 1 (pc' := 2) (ls' := [.ref (9), .int (nI (q)), .int (nI (i + 1))]) (st' := []) (M' := (I, J, Rx R, N, G)) rfl ?_
      exact ih (i + 1) (by omega) (by omega)
    · rw [scn_f (fun z => g z.2)]
      refine XP_n 3 (pc' := 5) (ls' := [.ref (9), .int (nI (q)), .int (nI (i))]) (st' := [.int (I 9 1), .int (nI (i))]) (M' := (I, J, Rx R, N, G)) rfl ?_
      rw [hT.1]
      refine XP_icN (x := i) (y := L) rfl (by omega) (by omega) (fun (b5 : L ≤ i) => absurd b5 (by omega)) (fun (b5 : i < L) => ?_)
      refine XP_n 2 (pc' := 8) (ls' := [.ref (9), .int (nI (q)), .int (nI (i))]) (st' := [.int (nI (i)), .ref (9)]) (M' := (I, J, Rx R, N, G)) rfl ?_
      refine XP_pure rfl rfl (c_byteAt hT hL (show i < L by omega)) ?_
      refine XP_pure rfl rfl (c_isLt (hb ((i)) (by omega))) ?_
      refine XP_s rfl ?_
      refine XP_beq (fun b10 => ?_) (fun b10 => absurd b10 g)
      refine XP_n 1 (pc' := 14) (ls' := [.ref (9), .int (nI (q)), .int (nI (i))]) (st' := [.int (nI (i))]) (M' := (I, J, Rx R, N, G)) rfl ?_
      exact XP_ret rfl ⟨rfl, rfl⟩
theorem c_bw (hT : Tp I b L) (hL : L ≤ 160) (hb : ∀ i, i < L → b i ≤ 255) {q : Nat} (hq : q ≤ L) : TP X (d + 1) n_Reader_behindWord [.ref 9, .int (nI q)] (I, J, Rx R, N, G) (Ret (.int (nI (scn isLt b L q))) (I, J, Rx R, N, G)) := by
  unfold TP
  show XP X _ k_Reader_behindWord 0 [.ref (9), .int (nI (q)), xj] [] _ _
  refine XP_n 2 (pc' := 2) (ls' := [.ref (9), .int (nI (q)), .int (nI (q))]) (st' := []) (M' := (I, J, Rx R, N, G)) rfl ?_
  exact l_bw hT hL hb _ q rfl hq
theorem Tp_4 {x : Int32} (hT : Tp I b L) : Tp (rw2 I 9 4 x) b L := ⟨hT.1, hT.2⟩
theorem l_bn (hT : Tp I b L) (hL : L ≤ 160) (hb : ∀ i, i < L → b i ≤ 255) {q : Nat} : ∀ (n i : Nat), L - i = n → q ≤ i → i ≤ L → XP X (d + 1) k_Reader_behindNumber 5 [.ref 9, .int (nI q), .int (nI i)] [] (rw2 I 9 4 (nvI b q (i - q)), J, Rx R, N, G) (fun v M' => v = some (.int (nI (scn isDg b L i))) ∧ M' = (rw2 I 9 4 (nvI b q (scn isDg b L i - q)), J, Rx R, N, G)) := by
  intro n
  induction n with
  | zero =>
    intro i hn hq hi
    have e0 : i = L := by omega
    rw [scn_f (by omega)]
    refine XP_n 3 (pc' := 8) (ls' := [.ref (9), .int (nI (q)), .int (nI (i))]) (st' := [.int (I 9 1), .int (nI (i))]) (M' := ((rw2 I 9 4 (nvI b q (i - q))), J, Rx R, N, G)) rfl ?_
    rw [hT.1]
    refine XP_icN (x := i) (y := L) rfl (by omega) (by omega) (fun (b8 : L ≤ i) => ?_) (fun (b8 : i < L) => absurd b8 (by omega))
    refine XP_n 1 (pc' := 29) (ls' := [.ref (9), .int (nI (q)), .int (nI (i))]) (st' := [.int (nI (i))]) (M' := ((rw2 I 9 4 (nvI b q (i - q))), J, Rx R, N, G)) rfl ?_
    exact XP_ret rfl ⟨rfl, rfl⟩
  | succ n ih =>
    intro i hn hq hi
    have hbi := hb i (by omega)
    by_cases g : isDg (b i) = true
    · rw [scn_t (by omega) g]
      refine XP_n 3 (pc' := 8) (ls' := [.ref (9), .int (nI (q)), .int (nI (i))]) (st' := [.int (I 9 1), .int (nI (i))]) (M' := ((rw2 I 9 4 (nvI b q (i - q))), J, Rx R, N, G)) rfl ?_
      rw [hT.1]
      refine XP_icN (x := i) (y := L) rfl (by omega) (by omega) (fun (b8 : L ≤ i) => absurd b8 (by omega)) (fun (b8 : i < L) => ?_)
      refine XP_n 2 (pc' := 11) (ls' := [.ref (9), .int (nI (q)), .int (nI (i))]) (st' := [.int (nI (i)), .ref (9)]) (M' := ((rw2 I 9 4 (nvI b q (i - q))), J, Rx R, N, G)) rfl ?_
      refine XP_pure rfl rfl (c_byteAt (Tp_4 hT) hL (show i < L by omega)) ?_
      refine XP_pure rfl rfl (c_isDg (hb ((i)) (by omega))) ?_
      refine XP_s rfl ?_
      refine XP_beq (fun b13 => absurd g b13) (fun b13 => ?_)
      refine XP_n 7 (pc' := 21) (ls' := [.ref (9), .int (nI (q)), .int (nI (i))]) (st' := [.int (nI (i)), .ref (9), .int ((nvI b q (i - q)) * (nI (10))), .ref (9)]) (M' := ((rw2 I 9 4 (nvI b q (i - q))), J, Rx R, N, G)) rfl ?_
      refine XP_pure rfl rfl (c_byteAt (Tp_4 hT) hL (show i < L by omega)) ?_
      refine XP_n 5 (pc' := 27) (ls' := [.ref (9), .int (nI (q)), .int (nI (i) + nI (1))]) (st' := []) (M' := ((rw2 (rw2 I 9 4 (nvI b q (i - q))) 9 4 ((((nvI b q (i - q)) * (nI (10))) + (nI (b (i)))) - (nI (48)))), J, Rx R, N, G)) rfl ?_
      rw [show nI (i) + nI (1) = nI (i + 1) from nI_addE (rfl) rfl]
      refine XP_n 1 (pc' := 5) (ls' := [.ref (9), .int (nI (q)), .int (nI (i + 1))]) (st' := []) (M' := ((rw2 (rw2 I 9 4 (nvI b q (i - q))) 9 4 ((((nvI b q (i - q)) * (nI (10))) + (nI (b (i)))) - (nI (48)))), J, Rx R, N, G)) rfl ?_
      rw [rw2_2]
      have h := ih (i + 1) (by omega) (by omega) (by omega)
      rw [show i + 1 - q = (i - q) + 1 by omega] at h
      have e : nvI b q ((i - q) + 1) = nvI b q (i - q) * nI 10 + nI (b i) - nI 48 := by
        show nvI b q (i - q) * nI 10 + nI (b (q + (i - q))) - nI 48 = _
        rw [show q + (i - q) = i by omega]
      rw [e] at h
      exact h
    · rw [scn_f (fun z => g z.2)]
      refine XP_n 3 (pc' := 8) (ls' := [.ref (9), .int (nI (q)), .int (nI (i))]) (st' := [.int (I 9 1), .int (nI (i))]) (M' := ((rw2 I 9 4 (nvI b q (i - q))), J, Rx R, N, G)) rfl ?_
      rw [hT.1]
      refine XP_icN (x := i) (y := L) rfl (by omega) (by omega) (fun (b8 : L ≤ i) => absurd b8 (by omega)) (fun (b8 : i < L) => ?_)
      refine XP_n 2 (pc' := 11) (ls' := [.ref (9), .int (nI (q)), .int (nI (i))]) (st' := [.int (nI (i)), .ref (9)]) (M' := ((rw2 I 9 4 (nvI b q (i - q))), J, Rx R, N, G)) rfl ?_
      refine XP_pure rfl rfl (c_byteAt (Tp_4 hT) hL (show i < L by omega)) ?_
      refine XP_pure rfl rfl (c_isDg (hb ((i)) (by omega))) ?_
      refine XP_s rfl ?_
      refine XP_beq (fun b13 => ?_) (fun b13 => absurd b13 g)
      refine XP_n 1 (pc' := 29) (ls' := [.ref (9), .int (nI (q)), .int (nI (i))]) (st' := [.int (nI (i))]) (M' := ((rw2 I 9 4 (nvI b q (i - q))), J, Rx R, N, G)) rfl ?_
      exact XP_ret rfl ⟨rfl, rfl⟩
theorem c_bn (hT : Tp I b L) (hL : L ≤ 160) (hb : ∀ i, i < L → b i ≤ 255) {q : Nat} (hq : q ≤ L) : TP X (d + 1) n_Reader_behindNumber [.ref 9, .int (nI q)] (I, J, Rx R, N, G) (fun v M' => v = some (.int (nI (scn isDg b L q))) ∧ M' = (rw2 I 9 4 (nvI b q (scn isDg b L q - q)), J, Rx R, N, G)) := by
  unfold TP
  show XP X _ k_Reader_behindNumber 0 [.ref (9), .int (nI (q)), xj] [] _ _
  refine XP_n 5 (pc' := 5) (ls' := [.ref (9), .int (nI (q)), .int (nI (q))]) (st' := []) (M' := ((rw2 I 9 4 (nI (0))), J, Rx R, N, G)) rfl ?_
  have h := l_bn (X := X) (d := d) (J := J) (R := R) (N := N) (G := G) hT hL hb (q := q) _ q rfl (Nat.le_refl _) hq
  rw [Nat.sub_self] at h
  exact h
theorem Tp_2 {x : Int32} (hT : Tp I b L) : Tp (rw2 I 9 2 x) b L := ⟨hT.1, hT.2⟩
theorem l_step (hT : Tp I b L) (hL : L ≤ 160) (hb : ∀ i, i < L → b i ≤ 255) {p : Nat} (hp : p ≤ L) : XP X (d + 10) k_Reader_step 19 [.ref 9, .int (nI (pl b L p))] [] (I, J, Rx R, N, G) (fun v M' => v = none ∧ ∃ I', M' = (I', J, Rx R, N, G) ∧ Cur b L I' p ∧ (∀ k, k ≠ 9 → I' k = I k) ∧ I' 9 7 = I 9 7) := by
  have h1 := pl_L (b := b) hp
  by_cases g0 : L ≤ pl b L p
  · have et : tk b L p = 2001 := (tk_end p).mpr g0
    have en : nx b L p = pl b L p := if_pos g0
    refine XP_n 6 (pc' := 25) (ls' := [.ref (9), .int (nI (pl b L p))]) (st' := [.int (I 9 1), .int (nI (pl b L p))]) (M' := ((rw2 I 9 2 (nI (pl b L p))), J, Rx R, N, G)) rfl ?_
    rw [hT.1]
    refine XP_icN (x := pl b L p) (y := L) rfl (by omega) (by omega) (fun (b25 : pl b L p < L) => absurd b25 (by omega)) (fun (b25 : L ≤ pl b L p) => ?_)
    refine XP_n 7 (pc' := 84) (ls' := [.ref (9), .int (nI (pl b L p))]) (st' := []) (M' := ((rw2 (rw2 (rw2 I 9 2 (nI (pl b L p))) 9 3 (nI (2001))) 9 5 (nI (pl b L p))), J, Rx R, N, G)) rfl ?_
    exact XP_ret rfl ⟨rfl, _, rfl, ⟨⟨hT.1, hT.2⟩, rfl, by rw [et]; rfl, by rw [en]; rfl, fun z => by omega⟩, fun k hk => by simp only [rw2_ro hk], rfl⟩
  have h2 := hb (pl b L p) (by omega)
  have h3 := scn_L (P := isLt) (b := b) h1
  have h4 := scn_L (P := isDg) (b := b) h1
  have h5 := scn_le (P := isLt) (b := b) (L := L) (pl b L p)
  have h6 := scn_le (P := isDg) (b := b) (L := L) (pl b L p)
  by_cases g1 : isLt (b (pl b L p)) = true
  · have en : nx b L p = scn isLt b L (pl b L p) := by
      unfold nx
      rw [if_neg g0, if_pos g1]
    have et : tk b L p = tw (wk b (pl b L p) (scn isLt b L (pl b L p))) := by
      unfold tk
      rw [if_neg g0, if_pos g1, en]
    have htw := tw_rg _ ((fW_ok (b := b) (q := pl b L p) (e := scn isLt b L (pl b L p)) 12 0 rfl).2.2.1)
    have htk : tk b L p ≠ 2000 := by
      rw [et]
      unfold wk
      omega
    refine XP_n 6 (pc' := 25) (ls' := [.ref (9), .int (nI (pl b L p))]) (st' := [.int (I 9 1), .int (nI (pl b L p))]) (M' := ((rw2 I 9 2 (nI (pl b L p))), J, Rx R, N, G)) rfl ?_
    rw [hT.1]
    refine XP_icN (x := pl b L p) (y := L) rfl (by omega) (by omega) (fun (b25 : pl b L p < L) => ?_) (fun (b25 : L ≤ pl b L p) => absurd b25 (by omega))
    refine XP_n 2 (pc' := 32) (ls' := [.ref (9), .int (nI (pl b L p))]) (st' := [.int (nI (pl b L p)), .ref (9)]) (M' := ((rw2 I 9 2 (nI (pl b L p))), J, Rx R, N, G)) rfl ?_
    refine XP_pure rfl rfl (c_byteAt (Tp_2 hT) hL (show pl b L p < L by omega)) ?_
    refine XP_pure rfl rfl (c_isLt (hb ((pl b L p)) (by omega))) ?_
    refine XP_s rfl ?_
    refine XP_beq (fun b34 => absurd g1 b34) (fun b34 => ?_)
    refine XP_n 2 (pc' := 37) (ls' := [.ref (9), .int (nI (pl b L p))]) (st' := [.int (nI (pl b L p)), .ref (9)]) (M' := ((rw2 I 9 2 (nI (pl b L p))), J, Rx R, N, G)) rfl ?_
    refine XP_pure rfl rfl (c_bw (L := L) (Tp_2 hT) hL hb (show pl b L p ≤ L by omega)) ?_
    refine XP_n 6 (pc' := 44) (ls' := [.ref (9), .int (nI (scn isLt b L (pl b L p)))]) (st' := [.int (nI (scn isLt b L (pl b L p))), .int (nI (pl b L p)), .ref (9), .ref (9)]) (M' := ((rw2 I 9 2 (nI (pl b L p))), J, Rx R, N, G)) rfl ?_
    refine XP_pure rfl rfl (c_wordOf (Tp_2 hT) hL hb (show pl b L p ≤ scn isLt b L (pl b L p) by omega) (show scn isLt b L (pl b L p) ≤ L by omega)) ?_
    refine XP_n 5 (pc' := 84) (ls' := [.ref (9), .int (nI (scn isLt b L (pl b L p)))]) (st' := []) (M' := ((rw2 (rw2 (rw2 I 9 2 (nI (pl b L p))) 9 3 (nI (tw (wk b (pl b L p) (scn isLt b L (pl b L p)))))) 9 5 (nI (scn isLt b L (pl b L p)))), J, Rx R, N, G)) rfl ?_
    exact XP_ret rfl ⟨rfl, _, rfl, ⟨⟨hT.1, hT.2⟩, rfl, by rw [et]; rfl, by rw [en]; rfl, fun z => absurd z htk⟩, fun k hk => by simp only [rw2_ro hk], rfl⟩
  by_cases g2 : isDg (b (pl b L p)) = true
  · have en : nx b L p = scn isDg b L (pl b L p) := by
      unfold nx
      rw [if_neg g0, if_neg g1, if_pos g2]
    by_cases g3 : 4 < scn isDg b L (pl b L p) - pl b L p
    · have et : tk b L p = 2002 := by
        unfold tk
        rw [if_neg g0, if_neg g1, if_pos g2, en, if_pos g3]
      refine XP_n 6 (pc' := 25) (ls' := [.ref (9), .int (nI (pl b L p))]) (st' := [.int (I 9 1), .int (nI (pl b L p))]) (M' := ((rw2 I 9 2 (nI (pl b L p))), J, Rx R, N, G)) rfl ?_
      rw [hT.1]
      refine XP_icN (x := pl b L p) (y := L) rfl (by omega) (by omega) (fun (b25 : pl b L p < L) => ?_) (fun (b25 : L ≤ pl b L p) => absurd b25 (by omega))
      refine XP_n 2 (pc' := 32) (ls' := [.ref (9), .int (nI (pl b L p))]) (st' := [.int (nI (pl b L p)), .ref (9)]) (M' := ((rw2 I 9 2 (nI (pl b L p))), J, Rx R, N, G)) rfl ?_
      refine XP_pure rfl rfl (c_byteAt (Tp_2 hT) hL (show pl b L p < L by omega)) ?_
      refine XP_pure rfl rfl (c_isLt (hb ((pl b L p)) (by omega))) ?_
      refine XP_s rfl ?_
      refine XP_beq (fun b34 => ?_) (fun b34 => absurd b34 g1)
      refine XP_n 2 (pc' := 49) (ls' := [.ref (9), .int (nI (pl b L p))]) (st' := [.int (nI (pl b L p)), .ref (9)]) (M' := ((rw2 I 9 2 (nI (pl b L p))), J, Rx R, N, G)) rfl ?_
      refine XP_pure rfl rfl (c_byteAt (Tp_2 hT) hL (show pl b L p < L by omega)) ?_
      refine XP_pure rfl rfl (c_isDg (hb ((pl b L p)) (by omega))) ?_
      refine XP_s rfl ?_
      refine XP_beq (fun b51 => absurd g2 b51) (fun b51 => ?_)
      refine XP_n 2 (pc' := 54) (ls' := [.ref (9), .int (nI (pl b L p))]) (st' := [.int (nI (pl b L p)), .ref (9)]) (M' := ((rw2 I 9 2 (nI (pl b L p))), J, Rx R, N, G)) rfl ?_
      refine XP_call rfl rfl (c_bn (Tp_2 hT) hL hb (show pl b L p ≤ L by omega)) ?_
      rintro v1 M1 ⟨rfl, rfl⟩
      refine XP_n 7 (pc' := 62) (ls' := [.ref (9), .int (nI (scn isDg b L (pl b L p)))]) (st' := [.int (nI (4)), .int ((nI (scn isDg b L (pl b L p))) - (nI (pl b L p))), .ref (9)]) (M' := ((rw2 (rw2 I 9 2 (nI (pl b L p))) 9 4 (nvI b (pl b L p) (scn isDg b L (pl b L p) - pl b L p))), J, Rx R, N, G)) rfl ?_
      rw [show (nI (scn isDg b L (pl b L p))) - (nI (pl b L p)) = nI (scn isDg b L (pl b L p) - (pl b L p)) from nI_subE (rfl) (rfl) (by omega)]
      refine XP_icN (x := scn isDg b L (pl b L p) - (pl b L p)) (y := 4) rfl (by omega) (by omega) (fun (b62 : scn isDg b L (pl b L p) - (pl b L p) ≤ 4) => absurd b62 (by omega)) (fun (b62 : 4 < scn isDg b L (pl b L p) - (pl b L p)) => ?_)
      refine XP_n 7 (pc' := 84) (ls' := [.ref (9), .int (nI (scn isDg b L (pl b L p)))]) (st' := []) (M' := ((rw2 (rw2 (rw2 (rw2 I 9 2 (nI (pl b L p))) 9 4 (nvI b (pl b L p) (scn isDg b L (pl b L p) - pl b L p))) 9 3 (nI (2002))) 9 5 (nI (scn isDg b L (pl b L p)))), J, Rx R, N, G)) rfl ?_
      exact XP_ret rfl ⟨rfl, _, rfl, ⟨⟨hT.1, hT.2⟩, rfl, by rw [et]; rfl, by rw [en]; rfl, fun z => by omega⟩, fun k hk => by simp only [rw2_ro hk], rfl⟩
    · have et : tk b L p = 2000 := by
        unfold tk
        rw [if_neg g0, if_neg g1, if_pos g2, en, if_neg g3]
      have ev : nvI b (pl b L p) (scn isDg b L (pl b L p) - pl b L p) = nI (tv b L p) := by
        rw [(nvI_n _ (by omega) (fun j hj => ?_)).1]
        · unfold tv
          rw [en]
        · have t := (scn_ok (P := isDg) (b := b) (L := L) _ (pl b L p) rfl).2.2.1 (pl b L p + j) (by omega) (by omega)
          unfold isDg at t
          rw [Bool.and_eq_true] at t
          exact ⟨Nat.le_of_ble_eq_true t.1, Nat.le_of_ble_eq_true t.2⟩
      refine XP_n 6 (pc' := 25) (ls' := [.ref (9), .int (nI (pl b L p))]) (st' := [.int (I 9 1), .int (nI (pl b L p))]) (M' := ((rw2 I 9 2 (nI (pl b L p))), J, Rx R, N, G)) rfl ?_
      rw [hT.1]
      refine XP_icN (x := pl b L p) (y := L) rfl (by omega) (by omega) (fun (b25 : pl b L p < L) => ?_) (fun (b25 : L ≤ pl b L p) => absurd b25 (by omega))
      refine XP_n 2 (pc' := 32) (ls' := [.ref (9), .int (nI (pl b L p))]) (st' := [.int (nI (pl b L p)), .ref (9)]) (M' := ((rw2 I 9 2 (nI (pl b L p))), J, Rx R, N, G)) rfl ?_
      refine XP_pure rfl rfl (c_byteAt (Tp_2 hT) hL (show pl b L p < L by omega)) ?_
      refine XP_pure rfl rfl (c_isLt (hb ((pl b L p)) (by omega))) ?_
      refine XP_s rfl ?_
      refine XP_beq (fun b34 => ?_) (fun b34 => absurd b34 g1)
      refine XP_n 2 (pc' := 49) (ls' := [.ref (9), .int (nI (pl b L p))]) (st' := [.int (nI (pl b L p)), .ref (9)]) (M' := ((rw2 I 9 2 (nI (pl b L p))), J, Rx R, N, G)) rfl ?_
      refine XP_pure rfl rfl (c_byteAt (Tp_2 hT) hL (show pl b L p < L by omega)) ?_
      refine XP_pure rfl rfl (c_isDg (hb ((pl b L p)) (by omega))) ?_
      refine XP_s rfl ?_
      refine XP_beq (fun b51 => absurd g2 b51) (fun b51 => ?_)
      refine XP_n 2 (pc' := 54) (ls' := [.ref (9), .int (nI (pl b L p))]) (st' := [.int (nI (pl b L p)), .ref (9)]) (M' := ((rw2 I 9 2 (nI (pl b L p))), J, Rx R, N, G)) rfl ?_
      refine XP_call rfl rfl (c_bn (Tp_2 hT) hL hb (show pl b L p ≤ L by omega)) ?_
      rintro v1 M1 ⟨rfl, rfl⟩
      refine XP_n 7 (pc' := 62) (ls' := [.ref (9), .int (nI (scn isDg b L (pl b L p)))]) (st' := [.int (nI (4)), .int ((nI (scn isDg b L (pl b L p))) - (nI (pl b L p))), .ref (9)]) (M' := ((rw2 (rw2 I 9 2 (nI (pl b L p))) 9 4 (nvI b (pl b L p) (scn isDg b L (pl b L p) - pl b L p))), J, Rx R, N, G)) rfl ?_
      rw [show (nI (scn isDg b L (pl b L p))) - (nI (pl b L p)) = nI (scn isDg b L (pl b L p) - (pl b L p)) from nI_subE (rfl) (rfl) (by omega)]
      refine XP_icN (x := scn isDg b L (pl b L p) - (pl b L p)) (y := 4) rfl (by omega) (by omega) (fun (b62 : scn isDg b L (pl b L p) - (pl b L p) ≤ 4) => ?_) (fun (b62 : 4 < scn isDg b L (pl b L p) - (pl b L p)) => absurd b62 (by omega))
      refine XP_n 6 (pc' := 84) (ls' := [.ref (9), .int (nI (scn isDg b L (pl b L p)))]) (st' := []) (M' := ((rw2 (rw2 (rw2 (rw2 I 9 2 (nI (pl b L p))) 9 4 (nvI b (pl b L p) (scn isDg b L (pl b L p) - pl b L p))) 9 3 (nI (2000))) 9 5 (nI (scn isDg b L (pl b L p)))), J, Rx R, N, G)) rfl ?_
      exact XP_ret rfl ⟨rfl, _, rfl, ⟨⟨hT.1, hT.2⟩, rfl, by rw [et]; rfl, by rw [en]; rfl, fun _ => ev⟩, fun k hk => by simp only [rw2_ro hk], rfl⟩
  have en : nx b L p = pl b L p + 1 := by
    unfold nx
    rw [if_neg g0, if_neg g1, if_neg g2]
  by_cases g3 : isSg (b (pl b L p)) = true
  · have et : tk b L p = b (pl b L p) := by
      unfold tk
      rw [if_neg g0, if_neg g1, if_neg g2, if_pos g3]
    refine XP_n 6 (pc' := 25) (ls' := [.ref (9), .int (nI (pl b L p))]) (st' := [.int (I 9 1), .int (nI (pl b L p))]) (M' := ((rw2 I 9 2 (nI (pl b L p))), J, Rx R, N, G)) rfl ?_
    rw [hT.1]
    refine XP_icN (x := pl b L p) (y := L) rfl (by omega) (by omega) (fun (b25 : pl b L p < L) => ?_) (fun (b25 : L ≤ pl b L p) => absurd b25 (by omega))
    refine XP_n 2 (pc' := 32) (ls' := [.ref (9), .int (nI (pl b L p))]) (st' := [.int (nI (pl b L p)), .ref (9)]) (M' := ((rw2 I 9 2 (nI (pl b L p))), J, Rx R, N, G)) rfl ?_
    refine XP_pure rfl rfl (c_byteAt (Tp_2 hT) hL (show pl b L p < L by omega)) ?_
    refine XP_pure rfl rfl (c_isLt (hb ((pl b L p)) (by omega))) ?_
    refine XP_s rfl ?_
    refine XP_beq (fun b34 => ?_) (fun b34 => absurd b34 g1)
    refine XP_n 2 (pc' := 49) (ls' := [.ref (9), .int (nI (pl b L p))]) (st' := [.int (nI (pl b L p)), .ref (9)]) (M' := ((rw2 I 9 2 (nI (pl b L p))), J, Rx R, N, G)) rfl ?_
    refine XP_pure rfl rfl (c_byteAt (Tp_2 hT) hL (show pl b L p < L by omega)) ?_
    refine XP_pure rfl rfl (c_isDg (hb ((pl b L p)) (by omega))) ?_
    refine XP_s rfl ?_
    refine XP_beq (fun b51 => ?_) (fun b51 => absurd b51 g2)
    refine XP_n 3 (pc' := 71) (ls' := [.ref (9), .int (nI (pl b L p))]) (st' := [.int (nI (pl b L p)), .ref (9), .ref (9)]) (M' := ((rw2 I 9 2 (nI (pl b L p))), J, Rx R, N, G)) rfl ?_
    refine XP_pure rfl rfl (c_byteAt (Tp_2 hT) hL (show pl b L p < L by omega)) ?_
    refine XP_pure rfl rfl (c_isSg (hb ((pl b L p)) (by omega))) ?_
    refine XP_s rfl ?_
    refine XP_beq (fun b73 => absurd g3 b73) (fun b73 => ?_)
    refine XP_n 2 (pc' := 76) (ls' := [.ref (9), .int (nI (pl b L p))]) (st' := [.int (nI (pl b L p)), .ref (9), .ref (9)]) (M' := ((rw2 I 9 2 (nI (pl b L p))), J, Rx R, N, G)) rfl ?_
    refine XP_pure rfl rfl (c_byteAt (Tp_2 hT) hL (show pl b L p < L by omega)) ?_
    refine XP_n 3 (pc' := 81) (ls' := [.ref (9), .int (nI (pl b L p) + nI (1))]) (st' := []) (M' := ((rw2 (rw2 I 9 2 (nI (pl b L p))) 9 3 (nI (b (pl b L p)))), J, Rx R, N, G)) rfl ?_
    rw [show nI (pl b L p) + nI (1) = nI (pl b L p + 1) from nI_addE (rfl) rfl]
    refine XP_n 3 (pc' := 84) (ls' := [.ref (9), .int (nI (pl b L p + 1))]) (st' := []) (M' := ((rw2 (rw2 (rw2 I 9 2 (nI (pl b L p))) 9 3 (nI (b (pl b L p)))) 9 5 (nI (pl b L p + 1))), J, Rx R, N, G)) rfl ?_
    exact XP_ret rfl ⟨rfl, _, rfl, ⟨⟨hT.1, hT.2⟩, rfl, by rw [et]; rfl, by rw [en]; rfl, fun z => by have := isSg_c g3; omega⟩, fun k hk => by simp only [rw2_ro hk], rfl⟩
  · have et : tk b L p = 2002 := by
      unfold tk
      rw [if_neg g0, if_neg g1, if_neg g2, if_neg g3]
    refine XP_n 6 (pc' := 25) (ls' := [.ref (9), .int (nI (pl b L p))]) (st' := [.int (I 9 1), .int (nI (pl b L p))]) (M' := ((rw2 I 9 2 (nI (pl b L p))), J, Rx R, N, G)) rfl ?_
    rw [hT.1]
    refine XP_icN (x := pl b L p) (y := L) rfl (by omega) (by omega) (fun (b25 : pl b L p < L) => ?_) (fun (b25 : L ≤ pl b L p) => absurd b25 (by omega))
    refine XP_n 2 (pc' := 32) (ls' := [.ref (9), .int (nI (pl b L p))]) (st' := [.int (nI (pl b L p)), .ref (9)]) (M' := ((rw2 I 9 2 (nI (pl b L p))), J, Rx R, N, G)) rfl ?_
    refine XP_pure rfl rfl (c_byteAt (Tp_2 hT) hL (show pl b L p < L by omega)) ?_
    refine XP_pure rfl rfl (c_isLt (hb ((pl b L p)) (by omega))) ?_
    refine XP_s rfl ?_
    refine XP_beq (fun b34 => ?_) (fun b34 => absurd b34 g1)
    refine XP_n 2 (pc' := 49) (ls' := [.ref (9), .int (nI (pl b L p))]) (st' := [.int (nI (pl b L p)), .ref (9)]) (M' := ((rw2 I 9 2 (nI (pl b L p))), J, Rx R, N, G)) rfl ?_
    refine XP_pure rfl rfl (c_byteAt (Tp_2 hT) hL (show pl b L p < L by omega)) ?_
    refine XP_pure rfl rfl (c_isDg (hb ((pl b L p)) (by omega))) ?_
    refine XP_s rfl ?_
    refine XP_beq (fun b51 => ?_) (fun b51 => absurd b51 g2)
    refine XP_n 3 (pc' := 71) (ls' := [.ref (9), .int (nI (pl b L p))]) (st' := [.int (nI (pl b L p)), .ref (9), .ref (9)]) (M' := ((rw2 I 9 2 (nI (pl b L p))), J, Rx R, N, G)) rfl ?_
    refine XP_pure rfl rfl (c_byteAt (Tp_2 hT) hL (show pl b L p < L by omega)) ?_
    refine XP_pure rfl rfl (c_isSg (hb ((pl b L p)) (by omega))) ?_
    refine XP_s rfl ?_
    refine XP_beq (fun b73 => ?_) (fun b73 => absurd b73 g3)
    refine XP_n 3 (pc' := 81) (ls' := [.ref (9), .int (nI (pl b L p) + nI (1))]) (st' := []) (M' := ((rw2 (rw2 I 9 2 (nI (pl b L p))) 9 3 (nI (2002))), J, Rx R, N, G)) rfl ?_
    rw [show nI (pl b L p) + nI (1) = nI (pl b L p + 1) from nI_addE (rfl) rfl]
    refine XP_n 3 (pc' := 84) (ls' := [.ref (9), .int (nI (pl b L p + 1))]) (st' := []) (M' := ((rw2 (rw2 (rw2 I 9 2 (nI (pl b L p))) 9 3 (nI (2002))) 9 5 (nI (pl b L p + 1))), J, Rx R, N, G)) rfl ?_
    exact XP_ret rfl ⟨rfl, _, rfl, ⟨⟨hT.1, hT.2⟩, rfl, by rw [et]; rfl, by rw [en]; rfl, fun z => by omega⟩, fun k hk => by simp only [rw2_ro hk], rfl⟩
theorem l_blk (hT : Tp I b L) (hL : L ≤ 160) (hb : ∀ i, i < L → b i ≤ 255) {p : Nat} (hp : p ≤ L) : ∀ (n i : Nat), L - i = n → i ≤ L → scn isBl b L i = pl b L p → XP X (d + 10) k_Reader_step 3 [.ref 9, .int (nI i)] [] (I, J, Rx R, N, G) (fun v M' => v = none ∧ ∃ I', M' = (I', J, Rx R, N, G) ∧ Cur b L I' p ∧ (∀ k, k ≠ 9 → I' k = I k) ∧ I' 9 7 = I 9 7) := by
  intro n
  induction n with
  | zero =>
    intro i hn hi hs
    have e0 : i = L := by omega
    rw [scn_f (by omega)] at hs
    have hl := l_step (X := X) (d := d) (J := J) (R := R) (N := N) (G := G) hT hL hb hp
    rw [← hs] at hl
    refine XP_n 3 (pc' := 6) (ls' := [.ref (9), .int (nI (i))]) (st' := [.int (I 9 1), .int (nI (i))]) (M' := (I, J, Rx R, N, G)) rfl ?_
    rw [hT.1]
    refine XP_icN (x := i) (y := L) rfl (by omega) (by omega) (fun (b6 : L ≤ i) => ?_) (fun (b6 : i < L) => absurd b6 (by omega))
    exact hl
  | succ n ih =>
    intro i hn hi hs
    have hbi := hb i (by omega)
    by_cases g : isBl (b i) = true
    · rw [scn_t (by omega) g] at hs
      have gb : b i = 32 ∨ b i = 10 := by
        unfold isBl at g
        simpa [Nat.beq_eq] using g
      by_cases g1 : b i = 32
      · skip
        refine XP_n 3 (pc' := 6) (ls' := [.ref (9), .int (nI (i))]) (st' := [.int (I 9 1), .int (nI (i))]) (M' := (I, J, Rx R, N, G)) rfl ?_
        rw [hT.1]
        refine XP_icN (x := i) (y := L) rfl (by omega) (by omega) (fun (b6 : L ≤ i) => absurd b6 (by omega)) (fun (b6 : i < L) => ?_)
        refine XP_n 2 (pc' := 9) (ls' := [.ref (9), .int (nI (i))]) (st' := [.int (nI (i)), .ref (9)]) (M' := (I, J, Rx R, N, G)) rfl ?_
        refine XP_pure rfl rfl (c_byteAt hT hL (show i < L by omega)) ?_
        refine XP_n 1 (pc' := 11) (ls' := [.ref (9), .int (nI (i))]) (st' := [.int (nI (32)), .int (nI (b (i)))]) (M' := (I, J, Rx R, N, G)) rfl ?_
        refine XP_icN (x := b (i)) (y := 32) rfl (by omega) (by omega) (fun (b11 : b (i) = 32) => ?_) (fun (b11 : ¬ b (i) = 32) => absurd b11 (by omega))
        refine XP_n 1 (pc' := 18) (ls' := [.ref (9), .int (nI (i) + nI (1))]) (st' := []) (M' := (I, J, Rx R, N, G)) rfl ?_
        rw [show nI (i) + nI (1) = nI (i + 1) from nI_addE (rfl) rfl]
        refine XP_n 1 (pc' := 3) (ls' := [.ref (9), .int (nI (i + 1))]) (st' := []) (M' := (I, J, Rx R, N, G)) rfl ?_
        exact ih (i + 1) (by omega) (by omega) hs
      · have g2 : b i = 10 := by omega
        refine XP_n 3 (pc' := 6) (ls' := [.ref (9), .int (nI (i))]) (st' := [.int (I 9 1), .int (nI (i))]) (M' := (I, J, Rx R, N, G)) rfl ?_
        rw [hT.1]
        refine XP_icN (x := i) (y := L) rfl (by omega) (by omega) (fun (b6 : L ≤ i) => absurd b6 (by omega)) (fun (b6 : i < L) => ?_)
        refine XP_n 2 (pc' := 9) (ls' := [.ref (9), .int (nI (i))]) (st' := [.int (nI (i)), .ref (9)]) (M' := (I, J, Rx R, N, G)) rfl ?_
        refine XP_pure rfl rfl (c_byteAt hT hL (show i < L by omega)) ?_
        refine XP_n 1 (pc' := 11) (ls' := [.ref (9), .int (nI (i))]) (st' := [.int (nI (32)), .int (nI (b (i)))]) (M' := (I, J, Rx R, N, G)) rfl ?_
        refine XP_icN (x := b (i)) (y := 32) rfl (by omega) (by omega) (fun (b11 : b (i) = 32) => absurd b11 (by omega)) (fun (b11 : ¬ b (i) = 32) => ?_)
        refine XP_n 2 (pc' := 14) (ls' := [.ref (9), .int (nI (i))]) (st' := [.int (nI (i)), .ref (9)]) (M' := (I, J, Rx R, N, G)) rfl ?_
        refine XP_pure rfl rfl (c_byteAt hT hL (show i < L by omega)) ?_
        refine XP_n 1 (pc' := 16) (ls' := [.ref (9), .int (nI (i))]) (st' := [.int (nI (10)), .int (nI (b (i)))]) (M' := (I, J, Rx R, N, G)) rfl ?_
        refine XP_icN (x := b (i)) (y := 10) rfl (by omega) (by omega) (fun (b16 : ¬ b (i) = 10) => absurd b16 (by omega)) (fun (b16 : b (i) = 10) => ?_)
        refine XP_n 1 (pc' := 18) (ls' := [.ref (9), .int (nI (i) + nI (1))]) (st' := []) (M' := (I, J, Rx R, N, G)) rfl ?_
        rw [show nI (i) + nI (1) = nI (i + 1) from nI_addE (rfl) rfl]
        refine XP_n 1 (pc' := 3) (ls' := [.ref (9), .int (nI (i + 1))]) (st' := []) (M' := (I, J, Rx R, N, G)) rfl ?_
        exact ih (i + 1) (by omega) (by omega) hs
    · have gb : b i ≠ 32 ∧ b i ≠ 10 := by
        unfold isBl at g
        simpa [Nat.beq_eq] using g
      rw [scn_f (fun z => g z.2)] at hs
      have hl := l_step (X := X) (d := d) (J := J) (R := R) (N := N) (G := G) hT hL hb hp
      rw [← hs] at hl
      refine XP_n 3 (pc' := 6) (ls' := [.ref (9), .int (nI (i))]) (st' := [.int (I 9 1), .int (nI (i))]) (M' := (I, J, Rx R, N, G)) rfl ?_
      rw [hT.1]
      refine XP_icN (x := i) (y := L) rfl (by omega) (by omega) (fun (b6 : L ≤ i) => absurd b6 (by omega)) (fun (b6 : i < L) => ?_)
      refine XP_n 2 (pc' := 9) (ls' := [.ref (9), .int (nI (i))]) (st' := [.int (nI (i)), .ref (9)]) (M' := (I, J, Rx R, N, G)) rfl ?_
      refine XP_pure rfl rfl (c_byteAt hT hL (show i < L by omega)) ?_
      refine XP_n 1 (pc' := 11) (ls' := [.ref (9), .int (nI (i))]) (st' := [.int (nI (32)), .int (nI (b (i)))]) (M' := (I, J, Rx R, N, G)) rfl ?_
      refine XP_icN (x := b (i)) (y := 32) rfl (by omega) (by omega) (fun (b11 : b (i) = 32) => absurd b11 (by omega)) (fun (b11 : ¬ b (i) = 32) => ?_)
      refine XP_n 2 (pc' := 14) (ls' := [.ref (9), .int (nI (i))]) (st' := [.int (nI (i)), .ref (9)]) (M' := (I, J, Rx R, N, G)) rfl ?_
      refine XP_pure rfl rfl (c_byteAt hT hL (show i < L by omega)) ?_
      refine XP_n 1 (pc' := 16) (ls' := [.ref (9), .int (nI (i))]) (st' := [.int (nI (10)), .int (nI (b (i)))]) (M' := (I, J, Rx R, N, G)) rfl ?_
      refine XP_icN (x := b (i)) (y := 10) rfl (by omega) (by omega) (fun (b16 : ¬ b (i) = 10) => ?_) (fun (b16 : b (i) = 10) => absurd b16 (by omega))
      exact hl
theorem c_step (hT : Tp I b L) (hL : L ≤ 160) (hb : ∀ i, i < L → b i ≤ 255) {p : Nat} (hp : p ≤ L) (h5 : I 9 5 = nI p) : TP X (d + 10) n_Reader_step [.ref 9] (I, J, Rx R, N, G) (fun v M' => v = none ∧ ∃ I', M' = (I', J, Rx R, N, G) ∧ Cur b L I' p ∧ (∀ k, k ≠ 9 → I' k = I k) ∧ I' 9 7 = I 9 7) := by
  unfold TP
  show XP X _ k_Reader_step 0 [.ref (9), xj] [] _ _
  refine XP_n 2 (pc' := 2) (ls' := [.ref (9), xj]) (st' := [.int (I 9 5)]) (M' := (I, J, Rx R, N, G)) rfl ?_
  rw [h5]
  refine XP_n 1 (pc' := 3) (ls' := [.ref (9), .int (nI (p))]) (st' := []) (M' := (I, J, Rx R, N, G)) rfl ?_
  exact l_blk hT hL hb hp _ p rfl hp rfl
theorem c_stT {p : Nat} (hC : Cur b L I p) (hL : L ≤ 160) (hb : ∀ i, i < L → b i ≤ 255) (hp : p ≤ L) {t : Nat} (ht : tk b L p = t) : TP X (d + 11) n_Reader_stood [.ref 9, .int (nI t)] (I, J, Rx R, N, G) (fun v M' => v = some (.int (nI 1)) ∧ ∃ I', M' = (I', J, Rx R, N, G) ∧ Cur b L I' (nx b L p) ∧ (∀ k, k ≠ 9 → I' k = I k) ∧ I' 9 7 = I 9 7) := by
  have hr := tk_rg (b := b) (L := L) p
  unfold TP
  show XP X _ k_Reader_stood 0 [.ref (9), .int (nI (t))] [] _ _
  refine XP_n 2 (pc' := 2) (ls' := [.ref (9), .int (nI (t))]) (st' := [.int (I 9 3)]) (M' := (I, J, Rx R, N, G)) rfl ?_
  rw [hC.2.2.1]
  refine XP_n 1 (pc' := 3) (ls' := [.ref (9), .int (nI (t))]) (st' := [.int (nI (t)), .int (nI (tk b L p))]) (M' := (I, J, Rx R, N, G)) rfl ?_
  refine XP_icN (x := tk b L p) (y := t) rfl (by omega) (by omega) (fun (b3 : tk b L p = t) => ?_) (fun (b3 : ¬ tk b L p = t) => absurd b3 (by omega))
  refine XP_n 1 (pc' := 7) (ls' := [.ref (9), .int (nI (t))]) (st' := [.ref (9)]) (M' := (I, J, Rx R, N, G)) rfl ?_
  refine XP_call rfl rfl (c_step hC.1 hL hb (nx_L hp) hC.2.2.2.1) ?_
  rintro v1 M1 ⟨rfl, I1, rfl, e1, e2, e3⟩
  refine XP_n 1 (pc' := 9) (ls' := [.ref (9), .int (nI (t))]) (st' := [.int (nI (1))]) (M' := (I1, J, Rx R, N, G)) rfl ?_
  exact XP_ret rfl ⟨rfl, _, rfl, e1, e2, e3⟩
theorem c_stF {p : Nat} (hC : Cur b L I p) {t : Nat} (ht : ¬ tk b L p = t) (h31 : t < 2147483648) : TP X d n_Reader_stood [.ref 9, .int (nI t)] (I, J, Rx R, N, G) (Ret (.int (nI 0)) (I, J, Rx R, N, G)) := by
  have hr := tk_rg (b := b) (L := L) p
  unfold TP
  show XP X _ k_Reader_stood 0 [.ref (9), .int (nI (t))] [] _ _
  refine XP_n 2 (pc' := 2) (ls' := [.ref (9), .int (nI (t))]) (st' := [.int (I 9 3)]) (M' := (I, J, Rx R, N, G)) rfl ?_
  rw [hC.2.2.1]
  refine XP_n 1 (pc' := 3) (ls' := [.ref (9), .int (nI (t))]) (st' := [.int (nI (t)), .int (nI (tk b L p))]) (M' := (I, J, Rx R, N, G)) rfl ?_
  refine XP_icN (x := tk b L p) (y := t) rfl (by omega) (by omega) (fun (b3 : tk b L p = t) => absurd b3 (by omega)) (fun (b3 : ¬ tk b L p = t) => ?_)
  refine XP_n 1 (pc' := 5) (ls' := [.ref (9), .int (nI (t))]) (st' := [.int (nI (0))]) (M' := (I, J, Rx R, N, G)) rfl ?_
  exact XP_ret rfl ⟨rfl, rfl⟩
end
