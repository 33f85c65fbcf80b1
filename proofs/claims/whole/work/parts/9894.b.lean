/-! the model's tokens: a step -/
theorem iv_lt {c : Nat} (h : c ≤ 255) : iv 97 122 (nI c) ↔ isLt c = true := by
  unfold iv isLt
  rw [nI_leI (by omega) (by omega), nI_leI (by omega) (by omega), Bool.and_eq_true, Nat.ble_eq, Nat.ble_eq]
theorem iv_dg {c : Nat} (h : c ≤ 255) : iv 48 57 (nI c) ↔ isDg c = true := by
  unfold iv isDg
  rw [nI_leI (by omega) (by omega), nI_leI (by omega) (by omega), Bool.and_eq_true, Nat.ble_eq, Nat.ble_eq]
theorem tw_inj : ∀ k, k < 12 → ∀ k', k' ≤ 12 → tw k' = tw k → k' = k := by decide +kernel
def CurM (b : Nat → Nat) (L : Nat) (I : Nat → Nat → Int32) (p : Nat) : Prop := TpM I b L ∧ I 99 44 = nI (nx b L p) ∧ I 99 45 = nI (pl b L p) ∧ I 99 46 = mT (tk b L p) ∧ (tk b L p = 2000 → I 99 47 = nI (tv b L p)) ∧ ∀ k, k < 9 → tk b L p = tw k → I 99 47 = nI (if k < 3 then k else k - 3)
section
variable {X : hX} {d : Nat} {s I : Nat → Nat → Int32} {J : Nat → Nat → Int64} {R : Nat → Nat → Option Nat} {N : Nat → Nat} {G : hG} {b : Nat → Nat} {L : Nat}
theorem l_let (hT : TpM I b L) (hL : L ≤ 160) (hb : ∀ i, i < L → b i ≤ 255) {q : Nat} : ∀ (n i : Nat), L - i = n → q ≤ i → i ≤ L → XP X (d + 1) k_M_letters 4 [.ref 99, .long (pI b q (i - q)), xj, .int (nI (i - q))] [] (rw2 I 99 44 (nI i), J, Rx R, N, G) (fun v M' => v = some (.long (lw b q (scn isLt b L i - q))) ∧ M' = (rw2 I 99 44 (nI (scn isLt b L i)), J, Rx R, N, G)) := by
  intro n
  induction n with
  | zero =>
    intro i hn hq hi
    have e0 : i = L := by omega
    rw [scn_f (by omega)]
    refine XP_n 4 (pc' := 8) (ls' := [.ref (99), .long (pI b q (i - q)), xj, .int (nI (i - q))]) (st' := [.int (I 99 27), .int (nI (i))]) (M' := ((rw2 I 99 44 (nI (i))), J, Rx R, N, G)) rfl ?_
    rw [hT.1]
    refine XP_icN (x := i) (y := L) rfl (by omega) (by omega) (fun (b8 : L ≤ i) => ?_) (fun (b8 : i < L) => absurd b8 (by omega))
    refine XP_n 2 (pc' := 44) (ls' := [.ref (99), .long (pI b q (i - q)), xj, .int (nI (i - q))]) (st' := [.int (nI (6)), .int (nI (i - q))]) (M' := ((rw2 I 99 44 (nI (i))), J, Rx R, N, G)) rfl ?_
    refine XP_icN (x := i - q) (y := 6) rfl (by omega) (by omega) (fun (b44 : i - q ≤ 6) => ?_) (fun (b44 : 6 < i - q) => ?_)
    · refine XP_n 1 (pc' := 48) (ls' := [.ref (99), .long (pI b q (i - q)), xj, .int (nI (i - q))]) (st' := [.long (pI b q (i - q))]) (M' := ((rw2 I 99 44 (nI (i))), J, Rx R, N, G)) rfl ?_
      exact XP_ret rfl ⟨by unfold lw; first | rw [if_pos (by omega)] | rw [if_neg (by omega)], rfl⟩
    · refine XP_n 2 (pc' := 48) (ls' := [.ref (99), .long (pI b q (i - q)), xj, .int (nI (i - q))]) (st' := [.long (lN (0))]) (M' := ((rw2 I 99 44 (nI (i))), J, Rx R, N, G)) rfl ?_
      exact XP_ret rfl ⟨by unfold lw; first | rw [if_pos (by omega)] | rw [if_neg (by omega)], rfl⟩
  | succ n ih =>
    intro i hn hq hi
    have hbi := hb i (by omega)
    by_cases g : isLt (b i) = true
    · rw [scn_t (by omega) g]
      have gi := (iv_lt hbi).mpr g
      by_cases g8 : i - q < 8
      · skip
        refine XP_n 4 (pc' := 8) (ls' := [.ref (99), .long (pI b q (i - q)), xj, .int (nI (i - q))]) (st' := [.int (I 99 27), .int (nI (i))]) (M' := ((rw2 I 99 44 (nI (i))), J, Rx R, N, G)) rfl ?_
        rw [hT.1]
        refine XP_icN (x := i) (y := L) rfl (by omega) (by omega) (fun (b8 : L ≤ i) => absurd b8 (by omega)) (fun (b8 : i < L) => ?_)
        refine XP_n 4 (pc' := 13) (ls' := [.ref (99), .long (pI b q (i - q)), xj, .int (nI (i - q))]) (st' := [.int (nI (i)), .ref (116)]) (M' := ((rw2 I 99 44 (nI (i))), J, Rx R, N, G)) rfl ?_
        refine XP_iraw rfl rfl (show i < 160 by omega) rfl (by omega) ?_
        rw [show (rw2 I 99 44 (nI (i))) 116 i = nI (b (i)) from hT.2 i (by omega)]
        refine XP_n 2 (pc' := 16) (ls' := [.ref (99), .long (pI b q (i - q)), xj, .int (nI (i - q))]) (st' := [.int (nI (122)), .int (nI (97)), .int (nI (b (i)))]) (M' := ((rw2 I 99 44 (nI (i))), J, Rx R, N, G)) rfl ?_
        refine XP_pure rfl rfl (w_M X _ _ 97 122 _) ?_
        refine XP_s rfl ?_
        refine XP_beq (fun b17 => absurd gi b17) (fun b17 => ?_)
        refine XP_n 2 (pc' := 20) (ls' := [.ref (99), .long (pI b q (i - q)), xj, .int (nI (i - q))]) (st' := [.int (nI (8)), .int (nI (i - q))]) (M' := ((rw2 I 99 44 (nI (i))), J, Rx R, N, G)) rfl ?_
        refine XP_icN (x := i - q) (y := 8) rfl (by omega) (by omega) (fun (b20 : 8 ≤ i - q) => absurd b20 (by omega)) (fun (b20 : i - q < 8) => ?_)
        refine XP_n 7 (pc' := 28) (ls' := [.ref (99), .long (pI b q (i - q)), xj, .int (nI (i - q))]) (st' := [.int (nI (i)), .ref (116), .long ((pI b q (i - q)) <<< ((nI (8)).toInt64 &&& 63))]) (M' := ((rw2 I 99 44 (nI (i))), J, Rx R, N, G)) rfl ?_
        refine XP_iraw rfl rfl (show i < 160 by omega) rfl (by omega) ?_
        rw [show (rw2 I 99 44 (nI (i))) 116 i = nI (b (i)) from hT.2 i (by omega)]
        refine XP_n 5 (pc' := 35) (ls' := [.ref (99), .long (((pI b q (i - q)) <<< ((nI (8)).toInt64 &&& 63)) ||| ((nI (b (i))).toInt64)), xj, .int (nI (i - q) + nI (1))]) (st' := []) (M' := ((rw2 I 99 44 (nI (i))), J, Rx R, N, G)) rfl ?_
        rw [show nI (i - q) + nI (1) = nI (i - q + 1) from nI_addE (rfl) rfl]
        refine XP_n 5 (pc' := 40) (ls' := [.ref (99), .long (((pI b q (i - q)) <<< ((nI (8)).toInt64 &&& 63)) ||| ((nI (b (i))).toInt64)), xj, .int (nI (i - q + 1))]) (st' := [.int ((nI (i)) + (nI (1))), .ref (99)]) (M' := ((rw2 I 99 44 (nI (i))), J, Rx R, N, G)) rfl ?_
        rw [show (nI (i)) + (nI (1)) = nI (i + 1) from nI_addE (rfl) (rfl)]
        refine XP_n 2 (pc' := 4) (ls' := [.ref (99), .long (((pI b q (i - q)) <<< ((nI (8)).toInt64 &&& 63)) ||| ((nI (b (i))).toInt64)), xj, .int (nI (i - q + 1))]) (st' := []) (M' := ((rw2 (rw2 I 99 44 (nI (i))) 99 44 (nI (i + 1))), J, Rx R, N, G)) rfl ?_
        rw [rw2_2]
        have h := ih (i + 1) (by omega) (by omega) (by omega)
        have e : pI b q (i + 1 - q) = (pI b q (i - q) <<< ((nI 8).toInt64 &&& 63)) ||| lN (b i) := by
          rw [show i + 1 - q = (i - q) + 1 by omega]
          show (if i - q < 8 then (pI b q (i - q) <<< ((nI 8).toInt64 &&& 63)) ||| lN (b (q + (i - q))) else _) = _
          rw [if_pos g8, show q + (i - q) = i by omega]
        rw [e, show i + 1 - q = i - q + 1 by omega] at h
        rw [show (nI (b i)).toInt64 = lN (b i) from nI_lE rfl (by omega)]
        exact h
      · skip
        refine XP_n 4 (pc' := 8) (ls' := [.ref (99), .long (pI b q (i - q)), xj, .int (nI (i - q))]) (st' := [.int (I 99 27), .int (nI (i))]) (M' := ((rw2 I 99 44 (nI (i))), J, Rx R, N, G)) rfl ?_
        rw [hT.1]
        refine XP_icN (x := i) (y := L) rfl (by omega) (by omega) (fun (b8 : L ≤ i) => absurd b8 (by omega)) (fun (b8 : i < L) => ?_)
        refine XP_n 4 (pc' := 13) (ls' := [.ref (99), .long (pI b q (i - q)), xj, .int (nI (i - q))]) (st' := [.int (nI (i)), .ref (116)]) (M' := ((rw2 I 99 44 (nI (i))), J, Rx R, N, G)) rfl ?_
        refine XP_iraw rfl rfl (show i < 160 by omega) rfl (by omega) ?_
        rw [show (rw2 I 99 44 (nI (i))) 116 i = nI (b (i)) from hT.2 i (by omega)]
        refine XP_n 2 (pc' := 16) (ls' := [.ref (99), .long (pI b q (i - q)), xj, .int (nI (i - q))]) (st' := [.int (nI (122)), .int (nI (97)), .int (nI (b (i)))]) (M' := ((rw2 I 99 44 (nI (i))), J, Rx R, N, G)) rfl ?_
        refine XP_pure rfl rfl (w_M X _ _ 97 122 _) ?_
        refine XP_s rfl ?_
        refine XP_beq (fun b17 => absurd gi b17) (fun b17 => ?_)
        refine XP_n 2 (pc' := 20) (ls' := [.ref (99), .long (pI b q (i - q)), xj, .int (nI (i - q))]) (st' := [.int (nI (8)), .int (nI (i - q))]) (M' := ((rw2 I 99 44 (nI (i))), J, Rx R, N, G)) rfl ?_
        refine XP_icN (x := i - q) (y := 8) rfl (by omega) (by omega) (fun (b20 : 8 ≤ i - q) => ?_) (fun (b20 : i - q < 8) => absurd b20 (by omega))
        refine XP_n 3 (pc' := 35) (ls' := [.ref (99), .long (pI b q (i - q)), xj, .int (nI (i - q) + nI (1))]) (st' := []) (M' := ((rw2 I 99 44 (nI (i))), J, Rx R, N, G)) rfl ?_
        rw [show nI (i - q) + nI (1) = nI (i - q + 1) from nI_addE (rfl) rfl]
        refine XP_n 5 (pc' := 40) (ls' := [.ref (99), .long (pI b q (i - q)), xj, .int (nI (i - q + 1))]) (st' := [.int ((nI (i)) + (nI (1))), .ref (99)]) (M' := ((rw2 I 99 44 (nI (i))), J, Rx R, N, G)) rfl ?_
        rw [show (nI (i)) + (nI (1)) = nI (i + 1) from nI_addE (rfl) (rfl)]
        refine XP_n 2 (pc' := 4) (ls' := [.ref (99), .long (pI b q (i - q)), xj, .int (nI (i - q + 1))]) (st' := []) (M' := ((rw2 (rw2 I 99 44 (nI (i))) 99 44 (nI (i + 1))), J, Rx R, N, G)) rfl ?_
        rw [rw2_2]
        have h := ih (i + 1) (by omega) (by omega) (by omega)
        have e : pI b q (i + 1 - q) = pI b q (i - q) := by
          rw [show i + 1 - q = (i - q) + 1 by omega]
          exact if_neg g8
        rw [e, show i + 1 - q = i - q + 1 by omega] at h
        exact h
    · rw [scn_f (fun z => g z.2)]
      have gi : ¬ iv 97 122 (nI (b i)) := fun z => g ((iv_lt hbi).mp z)
      refine XP_n 4 (pc' := 8) (ls' := [.ref (99), .long (pI b q (i - q)), xj, .int (nI (i - q))]) (st' := [.int (I 99 27), .int (nI (i))]) (M' := ((rw2 I 99 44 (nI (i))), J, Rx R, N, G)) rfl ?_
      rw [hT.1]
      refine XP_icN (x := i) (y := L) rfl (by omega) (by omega) (fun (b8 : L ≤ i) => absurd b8 (by omega)) (fun (b8 : i < L) => ?_)
      refine XP_n 4 (pc' := 13) (ls' := [.ref (99), .long (pI b q (i - q)), xj, .int (nI (i - q))]) (st' := [.int (nI (i)), .ref (116)]) (M' := ((rw2 I 99 44 (nI (i))), J, Rx R, N, G)) rfl ?_
      refine XP_iraw rfl rfl (show i < 160 by omega) rfl (by omega) ?_
      rw [show (rw2 I 99 44 (nI (i))) 116 i = nI (b (i)) from hT.2 i (by omega)]
      refine XP_n 2 (pc' := 16) (ls' := [.ref (99), .long (pI b q (i - q)), xj, .int (nI (i - q))]) (st' := [.int (nI (122)), .int (nI (97)), .int (nI (b (i)))]) (M' := ((rw2 I 99 44 (nI (i))), J, Rx R, N, G)) rfl ?_
      refine XP_pure rfl rfl (w_M X _ _ 97 122 _) ?_
      refine XP_s rfl ?_
      refine XP_beq (fun b17 => ?_) (fun b17 => absurd b17 gi)
      refine XP_n 2 (pc' := 44) (ls' := [.ref (99), .long (pI b q (i - q)), xj, .int (nI (i - q))]) (st' := [.int (nI (6)), .int (nI (i - q))]) (M' := ((rw2 I 99 44 (nI (i))), J, Rx R, N, G)) rfl ?_
      refine XP_icN (x := i - q) (y := 6) rfl (by omega) (by omega) (fun (b44 : i - q ≤ 6) => ?_) (fun (b44 : 6 < i - q) => ?_)
      · refine XP_n 1 (pc' := 48) (ls' := [.ref (99), .long (pI b q (i - q)), xj, .int (nI (i - q))]) (st' := [.long (pI b q (i - q))]) (M' := ((rw2 I 99 44 (nI (i))), J, Rx R, N, G)) rfl ?_
        exact XP_ret rfl ⟨by unfold lw; first | rw [if_pos (by omega)] | rw [if_neg (by omega)], rfl⟩
      · refine XP_n 2 (pc' := 48) (ls' := [.ref (99), .long (pI b q (i - q)), xj, .int (nI (i - q))]) (st' := [.long (lN (0))]) (M' := ((rw2 I 99 44 (nI (i))), J, Rx R, N, G)) rfl ?_
        exact XP_ret rfl ⟨by unfold lw; first | rw [if_pos (by omega)] | rw [if_neg (by omega)], rfl⟩
theorem c_let (hT : TpM I b L) (hL : L ≤ 160) (hb : ∀ i, i < L → b i ≤ 255) {q : Nat} (hq : q ≤ L) : TP X (d + 1) n_M_letters [.ref 99] (rw2 I 99 44 (nI q), J, Rx R, N, G) (fun v M' => v = some (.long (lw b q (scn isLt b L q - q))) ∧ M' = (rw2 I 99 44 (nI (scn isLt b L q)), J, Rx R, N, G)) := by
  unfold TP
  show XP X _ k_M_letters 0 [.ref (99), xj, xj, xj] [] _ _
  refine XP_n 4 (pc' := 4) (ls' := [.ref (99), .long (lN (0)), xj, .int (nI (0))]) (st' := []) (M' := ((rw2 I 99 44 (nI (q))), J, Rx R, N, G)) rfl ?_
  have h := l_let (X := X) (d := d) (J := J) (R := R) (N := N) (G := G) hT hL hb (q := q) _ q rfl (Nat.le_refl _) hq
  rw [Nat.sub_self] at h
  exact h
theorem l_srch (hD : WD J) {q e : Nat} (hb2 : ∀ j, q ≤ j → j < e → 97 ≤ b j ∧ b j ≤ 122) (c : Int32) {Q : Option Value → hM → Prop} {I1 : Nat → Nat → Int32} (kk : XP X d k_M_next 70 [.ref 99, .int c, .long (lw b q (e - q)), xj, .int (nI (wk b q e))] [] (I1, J, Rx R, N, G) Q) : ∀ (n k : Nat), k + n = wk b q e → XP X d k_M_next 58 [.ref 99, .int c, .long (lw b q (e - q)), xj, .int (nI k)] [] (I1, J, Rx R, N, G) Q := by
  obtain ⟨w1, -, w3, w4⟩ := fW_ok (b := b) (q := q) (e := e) 12 0 rfl
  have w1 : wk b q e < 12 → mW b q e (wk b q e) := w1
  have w3 : wk b q e ≤ 12 := w3
  have w4 : ∀ j, 0 ≤ j → j < wk b q e → ¬ mW b q e j := w4
  intro n
  induction n with
  | zero =>
    intro k hk
    have e0 : k = wk b q e := by omega
    rw [e0]
    by_cases g : wk b q e < 12
    · have hv : J 123 (wk b q e) = lw b q (e - q) := (hD _ g).trans ((lw_iff g hb2).mpr (w1 g))
      refine XP_n 2 (pc' := 60) (ls' := [.ref (99), .int (c), .long (lw b q (e - q)), xj, .int (nI (wk b q e))]) (st' := [.int (nI (12)), .int (nI (wk b q e))]) (M' := (I1, J, Rx R, N, G)) rfl ?_
      refine XP_icN (x := wk b q e) (y := 12) rfl (by omega) (by omega) (fun (b60 : 12 ≤ wk b q e) => absurd b60 (by omega)) (fun (b60 : wk b q e < 12) => ?_)
      refine XP_n 3 (pc' := 64) (ls' := [.ref (99), .int (c), .long (lw b q (e - q)), xj, .int (nI (wk b q e))]) (st' := [.int (nI (wk b q e)), .ref (123)]) (M' := (I1, J, Rx R, N, G)) rfl ?_
      refine XP_lraw rfl rfl (show wk b q e < 12 by omega) rfl (by omega) ?_
      refine XP_n 1 (pc' := 66) (ls' := [.ref (99), .int (c), .long (lw b q (e - q)), xj, .int (nI (wk b q e))]) (st' := [.long (lw b q (e - q)), .long (J 123 (wk b q e))]) (M' := (I1, J, Rx R, N, G)) rfl ?_
      refine XP_lcD rfl rfl (fun (b67 : J 123 (wk b q e) = lw b q (e - q)) => ?_) (fun (b67 : ¬ J 123 (wk b q e) = lw b q (e - q)) => absurd b67 (by first | exact hv | exact fun z => z hv | exact Int32.not_le.mpr hv | exact Int32.not_lt.mpr (Int32.not_lt.mp hv) | omega))
      exact kk
    · skip
      refine XP_n 2 (pc' := 60) (ls' := [.ref (99), .int (c), .long (lw b q (e - q)), xj, .int (nI (wk b q e))]) (st' := [.int (nI (12)), .int (nI (wk b q e))]) (M' := (I1, J, Rx R, N, G)) rfl ?_
      refine XP_icN (x := wk b q e) (y := 12) rfl (by omega) (by omega) (fun (b60 : 12 ≤ wk b q e) => ?_) (fun (b60 : wk b q e < 12) => absurd b60 (by omega))
      exact kk
  | succ n ih =>
    intro k hk
    have hv : ¬ J 123 k = lw b q (e - q) := fun z => w4 k (Nat.zero_le _) (by omega) ((lw_iff (by omega) hb2).mp ((hD _ (by omega)).symm.trans z))
    refine XP_n 2 (pc' := 60) (ls' := [.ref (99), .int (c), .long (lw b q (e - q)), xj, .int (nI (k))]) (st' := [.int (nI (12)), .int (nI (k))]) (M' := (I1, J, Rx R, N, G)) rfl ?_
    refine XP_icN (x := k) (y := 12) rfl (by omega) (by omega) (fun (b60 : 12 ≤ k) => absurd b60 (by omega)) (fun (b60 : k < 12) => ?_)
    refine XP_n 3 (pc' := 64) (ls' := [.ref (99), .int (c), .long (lw b q (e - q)), xj, .int (nI (k))]) (st' := [.int (nI (k)), .ref (123)]) (M' := (I1, J, Rx R, N, G)) rfl ?_
    refine XP_lraw rfl rfl (show k < 12 by omega) rfl (by omega) ?_
    refine XP_n 1 (pc' := 66) (ls' := [.ref (99), .int (c), .long (lw b q (e - q)), xj, .int (nI (k))]) (st' := [.long (lw b q (e - q)), .long (J 123 k)]) (M' := (I1, J, Rx R, N, G)) rfl ?_
    refine XP_lcD rfl rfl (fun (b67 : J 123 k = lw b q (e - q)) => absurd b67 (by first | exact hv | exact fun z => z hv | exact Int32.not_le.mpr hv | exact Int32.not_lt.mpr (Int32.not_lt.mp hv) | omega)) (fun (b67 : ¬ J 123 k = lw b q (e - q)) => ?_)
    refine XP_n 1 (pc' := 69) (ls' := [.ref (99), .int (c), .long (lw b q (e - q)), xj, .int (nI (k) + nI (1))]) (st' := []) (M' := (I1, J, Rx R, N, G)) rfl ?_
    rw [show nI (k) + nI (1) = nI (k + 1) from nI_addE (rfl) rfl]
    refine XP_n 1 (pc' := 58) (ls' := [.ref (99), .int (c), .long (lw b q (e - q)), xj, .int (nI (k + 1))]) (st' := []) (M' := (I1, J, Rx R, N, G)) rfl ?_
    exact ih (k + 1) (by omega)
theorem l_dgs (hT : TpM I b L) (hL : L ≤ 160) (hb : ∀ i, i < L → b i ≤ 255) {q : Nat} (c : Int32) (w3 w4 : Value) {Q : Option Value → hM → Prop} (kk : XP X (d + 1) k_M_next 151 [.ref 99, .int c, .int (nI (scn isDg b L q - q)), w3, w4] [] (rw2 (rw2 I 99 44 (nI (scn isDg b L q))) 99 47 (mvI b q (scn isDg b L q - q)), J, Rx R, N, G) Q) : ∀ (n i : Nat), L - i = n → q ≤ i → i ≤ L → scn isDg b L i = scn isDg b L q → XP X (d + 1) k_M_next 110 [.ref 99, .int c, .int (nI (i - q)), w3, w4] [] (rw2 (rw2 I 99 44 (nI i)) 99 47 (mvI b q (i - q)), J, Rx R, N, G) Q := by
  intro n
  induction n with
  | zero =>
    intro i hn hq hi hs
    have e0 : i = L := by omega
    rw [scn_f (by omega)] at hs
    rw [← hs] at kk
    refine XP_n 4 (pc' := 114) (ls' := [.ref (99), .int (c), .int (nI (i - q)), w3, w4]) (st' := [.int (I 99 27), .int (nI (i))]) (M' := ((rw2 (rw2 I 99 44 (nI (i))) 99 47 (mvI b q (i - q))), J, Rx R, N, G)) rfl ?_
    rw [hT.1]
    refine XP_icN (x := i) (y := L) rfl (by omega) (by omega) (fun (b114 : L ≤ i) => ?_) (fun (b114 : i < L) => absurd b114 (by omega))
    exact kk
  | succ n ih =>
    intro i hn hq hi hs
    have hbi := hb i (by omega)
    have hcm : ∀ (y z w : Int32), rw2 (rw2 (rw2 (rw2 I 99 44 (nI i)) 99 47 y) 99 47 z) 99 44 w = rw2 (rw2 I 99 44 w) 99 47 z := fun y z w => by
      rw [rw2_2, rw2_comm (show ¬ ((99 : Nat) = 99 ∧ (47 : Nat) = 44) by omega), rw2_2]
    by_cases g : isDg (b i) = true
    · rw [scn_t (by omega) g] at hs
      have gi := (iv_dg hbi).mpr g
      have h := ih (i + 1) (by omega) (by omega) (by omega) hs
      by_cases g8 : i - q < 4
      · have e : mvI b q (i + 1 - q) = nI 10 * mvI b q (i - q) + nI (b i) - nI 48 := by
          rw [show i + 1 - q = (i - q) + 1 by omega]
          show (if i - q < 4 then nI 10 * mvI b q (i - q) + nI (b (q + (i - q))) - nI 48 else _) = _
          rw [if_pos g8, show q + (i - q) = i by omega]
        rw [e, show i + 1 - q = i - q + 1 by omega] at h
        refine XP_n 4 (pc' := 114) (ls' := [.ref (99), .int (c), .int (nI (i - q)), w3, w4]) (st' := [.int (I 99 27), .int (nI (i))]) (M' := ((rw2 (rw2 I 99 44 (nI (i))) 99 47 (mvI b q (i - q))), J, Rx R, N, G)) rfl ?_
        rw [hT.1]
        refine XP_icN (x := i) (y := L) rfl (by omega) (by omega) (fun (b114 : L ≤ i) => absurd b114 (by omega)) (fun (b114 : i < L) => ?_)
        refine XP_n 4 (pc' := 119) (ls' := [.ref (99), .int (c), .int (nI (i - q)), w3, w4]) (st' := [.int (nI (i)), .ref (116)]) (M' := ((rw2 (rw2 I 99 44 (nI (i))) 99 47 (mvI b q (i - q))), J, Rx R, N, G)) rfl ?_
        refine XP_iraw rfl rfl (show i < 160 by omega) rfl (by omega) ?_
        rw [show (rw2 (rw2 I 99 44 (nI (i))) 99 47 (mvI b q (i - q))) 116 i = nI (b (i)) from hT.2 i (by omega)]
        refine XP_n 2 (pc' := 122) (ls' := [.ref (99), .int (c), .int (nI (i - q)), w3, w4]) (st' := [.int (nI (57)), .int (nI (48)), .int (nI (b (i)))]) (M' := ((rw2 (rw2 I 99 44 (nI (i))) 99 47 (mvI b q (i - q))), J, Rx R, N, G)) rfl ?_
        refine XP_pure rfl rfl (w_M X _ _ 48 57 _) ?_
        refine XP_s rfl ?_
        refine XP_beq (fun b123 => absurd gi b123) (fun b123 => ?_)
        refine XP_n 3 (pc' := 127) (ls' := [.ref (99), .int (c), .int (nI (i - q)), w3, w4]) (st' := [.int (nI (4)), .int (nI (i - q)), .ref (99)]) (M' := ((rw2 (rw2 I 99 44 (nI (i))) 99 47 (mvI b q (i - q))), J, Rx R, N, G)) rfl ?_
        refine XP_icN (x := i - q) (y := 4) rfl (by omega) (by omega) (fun (b127 : 4 ≤ i - q) => absurd b127 (by omega)) (fun (b127 : i - q < 4) => ?_)
        refine XP_n 8 (pc' := 136) (ls' := [.ref (99), .int (c), .int (nI (i - q)), w3, w4]) (st' := [.int (nI (i)), .ref (116), .int ((nI (10)) * (mvI b q (i - q))), .ref (99)]) (M' := ((rw2 (rw2 I 99 44 (nI (i))) 99 47 (mvI b q (i - q))), J, Rx R, N, G)) rfl ?_
        refine XP_iraw rfl rfl (show i < 160 by omega) rfl (by omega) ?_
        rw [show (rw2 (rw2 I 99 44 (nI (i))) 99 47 (mvI b q (i - q))) 116 i = nI (b (i)) from hT.2 i (by omega)]
        refine XP_n 6 (pc' := 144) (ls' := [.ref (99), .int (c), .int (nI (i - q) + nI (1)), w3, w4]) (st' := []) (M' := ((rw2 (rw2 (rw2 I 99 44 (nI (i))) 99 47 (mvI b q (i - q))) 99 47 ((((nI (10)) * (mvI b q (i - q))) + (nI (b (i)))) - (nI (48)))), J, Rx R, N, G)) rfl ?_
        rw [show nI (i - q) + nI (1) = nI (i - q + 1) from nI_addE (rfl) rfl]
        refine XP_n 5 (pc' := 149) (ls' := [.ref (99), .int (c), .int (nI (i - q + 1)), w3, w4]) (st' := [.int ((nI (i)) + (nI (1))), .ref (99)]) (M' := ((rw2 (rw2 (rw2 I 99 44 (nI (i))) 99 47 (mvI b q (i - q))) 99 47 ((((nI (10)) * (mvI b q (i - q))) + (nI (b (i)))) - (nI (48)))), J, Rx R, N, G)) rfl ?_
        rw [show (nI (i)) + (nI (1)) = nI (i + 1) from nI_addE (rfl) (rfl)]
        refine XP_n 2 (pc' := 110) (ls' := [.ref (99), .int (c), .int (nI (i - q + 1)), w3, w4]) (st' := []) (M' := ((rw2 (rw2 (rw2 (rw2 I 99 44 (nI (i))) 99 47 (mvI b q (i - q))) 99 47 ((((nI (10)) * (mvI b q (i - q))) + (nI (b (i)))) - (nI (48)))) 99 44 (nI (i + 1))), J, Rx R, N, G)) rfl ?_
        rw [hcm]
        exact h
      · have e : mvI b q (i + 1 - q) = nI 0 := by
          rw [show i + 1 - q = (i - q) + 1 by omega]
          exact if_neg g8
        rw [e, show i + 1 - q = i - q + 1 by omega] at h
        refine XP_n 4 (pc' := 114) (ls' := [.ref (99), .int (c), .int (nI (i - q)), w3, w4]) (st' := [.int (I 99 27), .int (nI (i))]) (M' := ((rw2 (rw2 I 99 44 (nI (i))) 99 47 (mvI b q (i - q))), J, Rx R, N, G)) rfl ?_
        rw [hT.1]
        refine XP_icN (x := i) (y := L) rfl (by omega) (by omega) (fun (b114 : L ≤ i) => absurd b114 (by omega)) (fun (b114 : i < L) => ?_)
        refine XP_n 4 (pc' := 119) (ls' := [.ref (99), .int (c), .int (nI (i - q)), w3, w4]) (st' := [.int (nI (i)), .ref (116)]) (M' := ((rw2 (rw2 I 99 44 (nI (i))) 99 47 (mvI b q (i - q))), J, Rx R, N, G)) rfl ?_
        refine XP_iraw rfl rfl (show i < 160 by omega) rfl (by omega) ?_
        rw [show (rw2 (rw2 I 99 44 (nI (i))) 99 47 (mvI b q (i - q))) 116 i = nI (b (i)) from hT.2 i (by omega)]
        refine XP_n 2 (pc' := 122) (ls' := [.ref (99), .int (c), .int (nI (i - q)), w3, w4]) (st' := [.int (nI (57)), .int (nI (48)), .int (nI (b (i)))]) (M' := ((rw2 (rw2 I 99 44 (nI (i))) 99 47 (mvI b q (i - q))), J, Rx R, N, G)) rfl ?_
        refine XP_pure rfl rfl (w_M X _ _ 48 57 _) ?_
        refine XP_s rfl ?_
        refine XP_beq (fun b123 => absurd gi b123) (fun b123 => ?_)
        refine XP_n 3 (pc' := 127) (ls' := [.ref (99), .int (c), .int (nI (i - q)), w3, w4]) (st' := [.int (nI (4)), .int (nI (i - q)), .ref (99)]) (M' := ((rw2 (rw2 I 99 44 (nI (i))) 99 47 (mvI b q (i - q))), J, Rx R, N, G)) rfl ?_
        refine XP_icN (x := i - q) (y := 4) rfl (by omega) (by omega) (fun (b127 : 4 ≤ i - q) => ?_) (fun (b127 : i - q < 4) => absurd b127 (by omega))
        refine XP_n 3 (pc' := 144) (ls' := [.ref (99), .int (c), .int (nI (i - q) + nI (1)), w3, w4]) (st' := []) (M' := ((rw2 (rw2 (rw2 I 99 44 (nI (i))) 99 47 (mvI b q (i - q))) 99 47 (nI (0))), J, Rx R, N, G)) rfl ?_
        rw [show nI (i - q) + nI (1) = nI (i - q + 1) from nI_addE (rfl) rfl]
        refine XP_n 5 (pc' := 149) (ls' := [.ref (99), .int (c), .int (nI (i - q + 1)), w3, w4]) (st' := [.int ((nI (i)) + (nI (1))), .ref (99)]) (M' := ((rw2 (rw2 (rw2 I 99 44 (nI (i))) 99 47 (mvI b q (i - q))) 99 47 (nI (0))), J, Rx R, N, G)) rfl ?_
        rw [show (nI (i)) + (nI (1)) = nI (i + 1) from nI_addE (rfl) (rfl)]
        refine XP_n 2 (pc' := 110) (ls' := [.ref (99), .int (c), .int (nI (i - q + 1)), w3, w4]) (st' := []) (M' := ((rw2 (rw2 (rw2 (rw2 I 99 44 (nI (i))) 99 47 (mvI b q (i - q))) 99 47 (nI (0))) 99 44 (nI (i + 1))), J, Rx R, N, G)) rfl ?_
        rw [hcm]
        exact h
    · rw [scn_f (fun z => g z.2)] at hs
      have gi : ¬ iv 48 57 (nI (b i)) := fun z => g ((iv_dg hbi).mp z)
      rw [← hs] at kk
      refine XP_n 4 (pc' := 114) (ls' := [.ref (99), .int (c), .int (nI (i - q)), w3, w4]) (st' := [.int (I 99 27), .int (nI (i))]) (M' := ((rw2 (rw2 I 99 44 (nI (i))) 99 47 (mvI b q (i - q))), J, Rx R, N, G)) rfl ?_
      rw [hT.1]
      refine XP_icN (x := i) (y := L) rfl (by omega) (by omega) (fun (b114 : L ≤ i) => absurd b114 (by omega)) (fun (b114 : i < L) => ?_)
      refine XP_n 4 (pc' := 119) (ls' := [.ref (99), .int (c), .int (nI (i - q)), w3, w4]) (st' := [.int (nI (i)), .ref (116)]) (M' := ((rw2 (rw2 I 99 44 (nI (i))) 99 47 (mvI b q (i - q))), J, Rx R, N, G)) rfl ?_
      refine XP_iraw rfl rfl (show i < 160 by omega) rfl (by omega) ?_
      rw [show (rw2 (rw2 I 99 44 (nI (i))) 99 47 (mvI b q (i - q))) 116 i = nI (b (i)) from hT.2 i (by omega)]
      refine XP_n 2 (pc' := 122) (ls' := [.ref (99), .int (c), .int (nI (i - q)), w3, w4]) (st' := [.int (nI (57)), .int (nI (48)), .int (nI (b (i)))]) (M' := ((rw2 (rw2 I 99 44 (nI (i))) 99 47 (mvI b q (i - q))), J, Rx R, N, G)) rfl ?_
      refine XP_pure rfl rfl (w_M X _ _ 48 57 _) ?_
      refine XP_s rfl ?_
      refine XP_beq (fun b123 => ?_) (fun b123 => absurd b123 gi)
      exact kk
end
