/-! the class's reading of a text, whole -/
theorem tx_o : ∀ n4, n4 < 5 → isO (3000 + 4 * n4) 9 = true := by decide +kernel
theorem tx_a1 : ∀ n4, n4 < 5 → isA (3001 + 4 * n4) 0 = true := by decide +kernel
theorem tx_a2 : ∀ n4, n4 < 5 → isA (3002 + 4 * n4) 0 = true := by decide +kernel
theorem tx_a3 : ∀ n4, n4 < 5 → isA (3003 + 4 * n4) 0 = true := by decide +kernel
theorem tx_k : ∀ n4, n4 < 5 → kd (3000 + 4 * n4) = .inl 9 := by decide +kernel
theorem alen_j {N : Nat → Nat} {k n : Nat} (hk : 3000 ≤ k) : alen (fun a => if a = k then n else N a) k = n := by
  unfold alen
  rw [blt_f (by omega)]
  show (if k = k then n else N k) = n
  rw [if_pos rfl]
def R2 (R : Nat → Nat → Option Nat) (n4 : Nat) : Nat → Nat → Option Nat := rw2 (rwR (rw2 (rw2 (rwR (rwR (rwR R (3000 + 4 * n4) (fun _ => none)) (3001 + 4 * n4) (fun _ => none)) (3002 + 4 * n4) (fun _ => none)) (3000 + 4 * n4) 4 (some (3002 + 4 * n4))) (3000 + 4 * n4) 0 (some (3001 + 4 * n4))) (3003 + 4 * n4) (fun _ => none)) (3000 + 4 * n4) 3 (some (3003 + 4 * n4))
def N2 (N : Nat → Nat) (n4 n : Nat) : Nat → Nat := fun k => if k = 3003 + 4 * n4 then n else (fun k => if k = 3002 + 4 * n4 then 6 else (fun k => if k = 3001 + 4 * n4 then n else N k) k) k
section
variable {X : hX} {d : Nat} {s I : Nat → Nat → Int32} {J : Nat → Nat → Int64} {R : Nat → Nat → Option Nat} {N : Nat → Nat} {G : hG} {b : Nat → Nat} {L : Nat}
theorem c_copyOf {n4 n c2 sl : Nat} (h4 : n4 < 5) (hn : n < 160) : TP X d n_Arrays_copyOf_59c91 [.ref 11, .int (nI n)] (I, J, Rx R, N, (2, 133, c2, 4 * n4 + 1, sl)) (fun v M' => v = some (.ref (3001 + 4 * n4)) ∧ ∃ I', M' = (I', rwR J (3001 + 4 * n4) (fun _ => 0), Rx (rwR R (3001 + 4 * n4) (fun _ => none)), (fun k => if k = 3001 + 4 * n4 then n else N k), (2, 133, c2, 4 * n4 + 2, sl + n)) ∧ (∀ k, k ≠ 3001 + 4 * n4 → I' k = I k) ∧ ∀ j, j < n → I' (3001 + 4 * n4) j = I 11 j) := by
  unfold TP
  show XP X _ k_Arrays_copyOf_59c91 0 [.ref (11), .int (nI (n)), xj] [] _ _
  refine XP_n 3 (pc' := 3) (ls' := [.ref (11), .int (nI (n)), xj]) (st' := [.int (nI (160)), .int (nI (n))]) (M' := (I, J, Rx R, N, (2, 133, c2, 4 * n4 + 1, sl))) rfl ?_
  refine XP_icN (x := n) (y := 160) rfl (by omega) (by omega) (fun (b3 : ¬ n = 160) => ?_) (fun (b3 : n = 160) => absurd b3 (by omega))
  refine XP_n 1 (pc' := 9) (ls' := [.ref (11), .int (nI (n)), xj]) (st' := [.int (nI (n))]) (M' := (I, J, Rx R, N, (2, 133, c2, 4 * n4 + 1, sl))) rfl ?_
  refine XP_newj (lab := 3001 + 4 * n4) (n := n) rfl (by show Nat.ble (4 * n4 + 1 + 1) 5000 = true; exact Nat.ble_eq.mpr (by omega)) (by show 3000 + (4 * n4 + 1) = 3001 + 4 * n4; omega) (tx_a1 n4 h4) (by omega) (by omega) (fun j => rS_big (by omega) j) ?_
  show XP X _ k_Arrays_copyOf_59c91 10 [.ref (11), .int (nI (n)), xj] [.ref (3001 + 4 * n4)] ((rwR I (3001 + 4 * n4) (fun _ => 0)), (rwR J (3001 + 4 * n4) (fun _ => 0)), Rx (rwR R (3001 + 4 * n4) (fun _ => none)), (fun k => if k = 3001 + 4 * n4 then n else N k), (2, 133, c2, 4 * n4 + 2, sl + n)) _
  refine XP_n 9 (pc' := 19) (ls' := [.ref (11), .int (nI (n)), .ref (3001 + 4 * n4)]) (st' := [.int ((if nI (n) < nI (160) then nI (n) else nI (160))), .int (nI (0)), .ref (3001 + 4 * n4), .int (nI (0)), .ref (11)]) (M' := ((rwR I (3001 + 4 * n4) (fun _ => 0)), (rwR J (3001 + 4 * n4) (fun _ => 0)), Rx (rwR R (3001 + 4 * n4) (fun _ => none)), (fun k => if k = 3001 + 4 * n4 then n else N k), (2, 133, c2, 4 * n4 + 2, sl + n))) rfl ?_
  rw [show (if nI (n) < nI (160) then nI (n) else nI (160)) = nI (n) from (nI_min (by omega) (by omega)).trans (by rw [Nat.min_eq_right (by omega)])]
  refine XP_acopy (l0 := 160) rfl (tx_a1 n4 h4) rfl (alen_j (by omega)) rfl (by omega) (by omega) (by omega) (by omega) rfl ?_
  refine XP_n 1 (pc' := 21) (ls' := [.ref 11, .int (nI n), .ref (3001 + 4 * n4)]) (st' := [.ref (3001 + 4 * n4)]) (M' := (_, rwR J (3001 + 4 * n4) (fun _ => 0), Rx (rwR R (3001 + 4 * n4) (fun _ => none)), (fun k => if k = 3001 + 4 * n4 then n else N k), (2, 133, c2, 4 * n4 + 2, sl + n))) rfl ?_
  refine XP_ret rfl ⟨rfl, _, rfl, fun k hk => by rw [rwR_n2 hk, rwR_n2 hk], fun j hj => ?_⟩
  rw [rwR_a2]
  unfold va_cpy
  rw [if_pos (by omega), rwR_n2 (by omega), show 0 + (j - 0) = j by omega]
theorem c_txInit {n4 n c2 sl : Nat} (h4 : n4 < 5) (hn : n < 160) (hN : N (3001 + 4 * n4) = n) (cf gf : Int32) : TP X d n_Text_init [.ref (3000 + 4 * n4), .ref (3001 + 4 * n4), .int cf, .int gf] (I, J, Rx R, N, (2, 133, c2, 4 * n4 + 2, sl)) (fun v M' => v = none ∧ M' = (rwR (rw2 (rw2 (rwR I (3002 + 4 * n4) (fun _ => 0)) (3000 + 4 * n4) 1 cf) (3000 + 4 * n4) 2 gf) (3003 + 4 * n4) (fun _ => 0), rwR (rwR J (3002 + 4 * n4) (fun _ => 0)) (3003 + 4 * n4) (fun _ => 0), Rx (rw2 (rwR (rw2 (rw2 (rwR R (3002 + 4 * n4) (fun _ => none)) (3000 + 4 * n4) 4 (some (3002 + 4 * n4))) (3000 + 4 * n4) 0 (some (3001 + 4 * n4))) (3003 + 4 * n4) (fun _ => none)) (3000 + 4 * n4) 3 (some (3003 + 4 * n4))), (fun k => if k = 3003 + 4 * n4 then n else (fun k => if k = 3002 + 4 * n4 then 6 else N k) k), (2, 133, c2, 4 * n4 + 4, sl + 6 + n))) := by
  have ho := tx_o n4 h4
  have hal : alen (fun k => if k = 3002 + 4 * n4 then 6 else N k) (3001 + 4 * n4) = n := by
    unfold alen
    rw [blt_f (by omega)]
    show (if 3001 + 4 * n4 = 3002 + 4 * n4 then 6 else N (3001 + 4 * n4)) = n
    rw [if_neg (by omega), hN]
  unfold TP
  show XP X _ k_Text_init 0 [.ref (3000 + 4 * n4), .ref (3001 + 4 * n4), .int (cf), .int (gf)] [] _ _
  refine XP_n 4 (pc' := 4) (ls' := [.ref (3000 + 4 * n4), .ref (3001 + 4 * n4), .int (cf), .int (gf)]) (st' := [.int (nI (6)), .ref (3000 + 4 * n4)]) (M' := (I, J, Rx R, N, (2, 133, c2, 4 * n4 + 2, sl))) rfl ?_
  refine XP_newj (lab := 3002 + 4 * n4) (n := 6) rfl (by show Nat.ble (4 * n4 + 2 + 1) 5000 = true; exact Nat.ble_eq.mpr (by omega)) (by show 3000 + (4 * n4 + 2) = 3002 + 4 * n4; omega) (tx_a2 n4 h4) (by omega) (by omega) (fun j => rS_big (by omega) j) ?_
  show XP X _ k_Text_init 5 [.ref (3000 + 4 * n4), .ref (3001 + 4 * n4), .int (cf), .int (gf)] [.ref (3002 + 4 * n4), .ref (3000 + 4 * n4)] ((rwR I (3002 + 4 * n4) (fun _ => 0)), (rwR J (3002 + 4 * n4) (fun _ => 0)), Rx (rwR R (3002 + 4 * n4) (fun _ => none)), (fun k => if k = 3002 + 4 * n4 then 6 else N k), (2, 133, c2, 4 * n4 + 3, sl + 6)) _
  refine XP_putr rfl (by rw [tx_o n4 h4]; rfl) (show 3002 + 4 * n4 < 8000 by omega) (rS_big (by omega) _) ?_
  show XP X _ k_Text_init 6 [.ref (3000 + 4 * n4), .ref (3001 + 4 * n4), .int (cf), .int (gf)] [] ((rwR I (3002 + 4 * n4) (fun _ => 0)), (rwR J (3002 + 4 * n4) (fun _ => 0)), Rx (rw2 ((rwR R (3002 + 4 * n4) (fun _ => none))) (3000 + 4 * n4) 4 (some (3002 + 4 * n4))), (fun k => if k = 3002 + 4 * n4 then 6 else N k), (2, 133, c2, 4 * n4 + 3, sl + 6)) _
  refine XP_n 2 (pc' := 8) (ls' := [.ref (3000 + 4 * n4), .ref (3001 + 4 * n4), .int (cf), .int (gf)]) (st' := [.ref (3001 + 4 * n4), .ref (3000 + 4 * n4)]) (M' := ((rwR I (3002 + 4 * n4) (fun _ => 0)), (rwR J (3002 + 4 * n4) (fun _ => 0)), Rx (rw2 ((rwR R (3002 + 4 * n4) (fun _ => none))) (3000 + 4 * n4) 4 (some (3002 + 4 * n4))), (fun k => if k = 3002 + 4 * n4 then 6 else N k), (2, 133, c2, 4 * n4 + 3, sl + 6))) rfl ?_
  refine XP_putr rfl (by rw [tx_o n4 h4]; rfl) (show 3001 + 4 * n4 < 8000 by omega) (rS_big (by omega) _) ?_
  show XP X _ k_Text_init 9 [.ref (3000 + 4 * n4), .ref (3001 + 4 * n4), .int (cf), .int (gf)] [] ((rwR I (3002 + 4 * n4) (fun _ => 0)), (rwR J (3002 + 4 * n4) (fun _ => 0)), Rx (rw2 ((rw2 ((rwR R (3002 + 4 * n4) (fun _ => none))) (3000 + 4 * n4) 4 (some (3002 + 4 * n4)))) (3000 + 4 * n4) 0 (some (3001 + 4 * n4))), (fun k => if k = 3002 + 4 * n4 then 6 else N k), (2, 133, c2, 4 * n4 + 3, sl + 6)) _
  refine XP_n 2 (pc' := 11) (ls' := [.ref (3000 + 4 * n4), .ref (3001 + 4 * n4), .int (cf), .int (gf)]) (st' := [.int (cf), .ref (3000 + 4 * n4)]) (M' := ((rwR I (3002 + 4 * n4) (fun _ => 0)), (rwR J (3002 + 4 * n4) (fun _ => 0)), Rx (rw2 ((rw2 ((rwR R (3002 + 4 * n4) (fun _ => none))) (3000 + 4 * n4) 4 (some (3002 + 4 * n4)))) (3000 + 4 * n4) 0 (some (3001 + 4 * n4))), (fun k => if k = 3002 + 4 * n4 then 6 else N k), (2, 133, c2, 4 * n4 + 3, sl + 6))) rfl ?_
  refine XP_putw rfl (by rw [tx_o n4 h4]; rfl) ?_
  show XP X _ k_Text_init 12 [.ref (3000 + 4 * n4), .ref (3001 + 4 * n4), .int (cf), .int (gf)] [] ((rw2 (rwR I (3002 + 4 * n4) (fun _ => 0)) (3000 + 4 * n4) 1 (cf)), (rwR J (3002 + 4 * n4) (fun _ => 0)), Rx (rw2 ((rw2 ((rwR R (3002 + 4 * n4) (fun _ => none))) (3000 + 4 * n4) 4 (some (3002 + 4 * n4)))) (3000 + 4 * n4) 0 (some (3001 + 4 * n4))), (fun k => if k = 3002 + 4 * n4 then 6 else N k), (2, 133, c2, 4 * n4 + 3, sl + 6)) _
  refine XP_n 2 (pc' := 14) (ls' := [.ref (3000 + 4 * n4), .ref (3001 + 4 * n4), .int (cf), .int (gf)]) (st' := [.int (gf), .ref (3000 + 4 * n4)]) (M' := ((rw2 (rwR I (3002 + 4 * n4) (fun _ => 0)) (3000 + 4 * n4) 1 (cf)), (rwR J (3002 + 4 * n4) (fun _ => 0)), Rx (rw2 ((rw2 ((rwR R (3002 + 4 * n4) (fun _ => none))) (3000 + 4 * n4) 4 (some (3002 + 4 * n4)))) (3000 + 4 * n4) 0 (some (3001 + 4 * n4))), (fun k => if k = 3002 + 4 * n4 then 6 else N k), (2, 133, c2, 4 * n4 + 3, sl + 6))) rfl ?_
  refine XP_putw rfl (by rw [tx_o n4 h4]; rfl) ?_
  show XP X _ k_Text_init 15 [.ref (3000 + 4 * n4), .ref (3001 + 4 * n4), .int (cf), .int (gf)] [] ((rw2 (rw2 (rwR I (3002 + 4 * n4) (fun _ => 0)) (3000 + 4 * n4) 1 (cf)) (3000 + 4 * n4) 2 (gf)), (rwR J (3002 + 4 * n4) (fun _ => 0)), Rx (rw2 ((rw2 ((rwR R (3002 + 4 * n4) (fun _ => none))) (3000 + 4 * n4) 4 (some (3002 + 4 * n4)))) (3000 + 4 * n4) 0 (some (3001 + 4 * n4))), (fun k => if k = 3002 + 4 * n4 then 6 else N k), (2, 133, c2, 4 * n4 + 3, sl + 6)) _
  refine XP_n 2 (pc' := 17) (ls' := [.ref (3000 + 4 * n4), .ref (3001 + 4 * n4), .int (cf), .int (gf)]) (st' := [.ref (3001 + 4 * n4), .ref (3000 + 4 * n4)]) (M' := ((rw2 (rw2 (rwR I (3002 + 4 * n4) (fun _ => 0)) (3000 + 4 * n4) 1 (cf)) (3000 + 4 * n4) 2 (gf)), (rwR J (3002 + 4 * n4) (fun _ => 0)), Rx (rw2 ((rw2 ((rwR R (3002 + 4 * n4) (fun _ => none))) (3000 + 4 * n4) 4 (some (3002 + 4 * n4)))) (3000 + 4 * n4) 0 (some (3001 + 4 * n4))), (fun k => if k = 3002 + 4 * n4 then 6 else N k), (2, 133, c2, 4 * n4 + 3, sl + 6))) rfl ?_
  refine XP_len rfl (tx_a1 n4 h4) hal ?_
  refine XP_newj (lab := 3003 + 4 * n4) (n := n) rfl (by show Nat.ble (4 * n4 + 3 + 1) 5000 = true; exact Nat.ble_eq.mpr (by omega)) (by show 3000 + (4 * n4 + 3) = 3003 + 4 * n4; omega) (tx_a3 n4 h4) (by omega) (by omega) (fun j => rS_big (by omega) j) ?_
  show XP X _ k_Text_init 19 [.ref (3000 + 4 * n4), .ref (3001 + 4 * n4), .int (cf), .int (gf)] [.ref (3003 + 4 * n4), .ref (3000 + 4 * n4)] ((rwR ((rw2 (rw2 (rwR I (3002 + 4 * n4) (fun _ => 0)) (3000 + 4 * n4) 1 (cf)) (3000 + 4 * n4) 2 (gf))) (3003 + 4 * n4) (fun _ => 0)), (rwR ((rwR J (3002 + 4 * n4) (fun _ => 0))) (3003 + 4 * n4) (fun _ => 0)), Rx (rwR ((rw2 ((rw2 ((rwR R (3002 + 4 * n4) (fun _ => none))) (3000 + 4 * n4) 4 (some (3002 + 4 * n4)))) (3000 + 4 * n4) 0 (some (3001 + 4 * n4)))) (3003 + 4 * n4) (fun _ => none)), (fun k => if k = 3003 + 4 * n4 then n else (fun k => if k = 3002 + 4 * n4 then 6 else N k) k), (2, 133, c2, 4 * n4 + 4, sl + 6 + n)) _
  refine XP_putr rfl (by rw [tx_o n4 h4]; rfl) (show 3003 + 4 * n4 < 8000 by omega) (rS_big (by omega) _) ?_
  show XP X _ k_Text_init 20 [.ref (3000 + 4 * n4), .ref (3001 + 4 * n4), .int (cf), .int (gf)] [] ((rwR ((rw2 (rw2 (rwR I (3002 + 4 * n4) (fun _ => 0)) (3000 + 4 * n4) 1 (cf)) (3000 + 4 * n4) 2 (gf))) (3003 + 4 * n4) (fun _ => 0)), (rwR ((rwR J (3002 + 4 * n4) (fun _ => 0))) (3003 + 4 * n4) (fun _ => 0)), Rx (rw2 ((rwR ((rw2 ((rw2 ((rwR R (3002 + 4 * n4) (fun _ => none))) (3000 + 4 * n4) 4 (some (3002 + 4 * n4)))) (3000 + 4 * n4) 0 (some (3001 + 4 * n4)))) (3003 + 4 * n4) (fun _ => none))) (3000 + 4 * n4) 3 (some (3003 + 4 * n4))), (fun k => if k = 3003 + 4 * n4 then n else (fun k => if k = 3002 + 4 * n4 then 6 else N k) k), (2, 133, c2, 4 * n4 + 4, sl + 6 + n)) _
  exact XP_ret rfl ⟨rfl, rfl⟩
/-- what reading leaves -/
def QRd (b : Nat → Nat) (L n4 c2 sl : Nat) (I : Nat → Nat → Int32) (J : Nat → Nat → Int64) (R : Nat → Nat → Option Nat) (N : Nat → Nat) (G : hG) : Option Value → hM → Prop := fun v M' =>
  (v = some .null ∧ ∃ I' q, M' = (I', J, Rx R, N, G) ∧ (∀ k, k ≠ 9 → k ≠ 11 → I' k = I k) ∧ Cur b L I' q ∧ TxFail b L q) ∨
  (∃ u1 u2 u3 P3, TxOk b L u1 u2 u3 P3 ∧ tk b L P3 = 2001 ∧ P3 ≤ L ∧ v = some (.ref (3000 + 4 * n4)) ∧ ∃ I' J', M' = (I', J', Rx (R2 R n4), N2 N n4 u3.length, (2, 133, c2, 4 * n4 + 4, sl + 5 + u3.length + 6 + u3.length)) ∧ (∀ k, k < 3000 → J' k = J k) ∧ (∀ k, k ≠ 9 → k ≠ 11 → (k < 3000 + 4 * n4 ∨ 3004 + 4 * n4 ≤ k) → I' k = I k) ∧ I' (3000 + 4 * n4) 1 = nI u1.length ∧ I' (3000 + 4 * n4) 2 = nI u2.length ∧ ∀ j, j < u3.length → I' (3001 + 4 * n4) j = nI (trS (u3.getD j 0)))
theorem c_read (hL : L ≤ 160) (hb : ∀ i, i < L → b i ≤ 255) (hT : Tp I b L) {n4 c2 sl z : Nat} (h4 : n4 < 5) : TP X (d + 80) n_Reader_read [.ref 9] (I, J, Rx R, N, (z, 133, c2, 4 * n4, sl)) (QRd b L n4 c2 sl I J R N (z, 133, c2, 4 * n4, sl)) := by
  generalize hG : (z, 133, c2, 4 * n4, sl) = G
  have kN : ∀ (I1 : Nat → Nat → Int32) (q : Nat) (x1 x2 : Value) (pc : Nat), (pc = 20 ∨ pc = 37 ∨ pc = 58) → TxFail b L q → Cur b L I1 q → (∀ k, k ≠ 9 → k ≠ 11 → I1 k = I k) → XP X (d + 80) k_Reader_read pc [.ref 9, x1, x2] [] (I1, J, Rx R, N, G) (QRd b L n4 c2 sl I J R N G) := by
    rintro I1 q x1 x2 pc hpc hq hC hf
    rcases hpc with rfl | rfl | rfl
    · refine XP_n 1 (pc' := 21) (ls' := [.ref (9), x1, x2]) (st' := [.null]) (M' := (I1, J, Rx R, N, G)) rfl ?_
      exact XP_ret rfl (Or.inl ⟨rfl, _, q, rfl, hf, hC, hq⟩)
    · refine XP_n 1 (pc' := 38) (ls' := [.ref (9), x1, x2]) (st' := [.null]) (M' := (I1, J, Rx R, N, G)) rfl ?_
      exact XP_ret rfl (Or.inl ⟨rfl, _, q, rfl, hf, hC, hq⟩)
    · refine XP_n 1 (pc' := 59) (ls' := [.ref (9), x1, x2]) (st' := [.null]) (M' := (I1, J, Rx R, N, G)) rfl ?_
      exact XP_ret rfl (Or.inl ⟨rfl, _, q, rfl, hf, hC, hq⟩)
  unfold TP
  show XP X _ k_Reader_read 0 [.ref (9), xj, xj] [] _ _
  refine XP_n 7 (pc' := 7) (ls' := [.ref (9), xj, xj]) (st' := [.ref (9)]) (M' := ((rw2 (rw2 I 9 5 (nI (0))) 9 7 (nI (0))), J, Rx R, N, G)) rfl ?_
  refine XP_call rfl rfl (c_step (I := rw2 (rw2 I 9 5 (nI 0)) 9 7 (nI 0)) (b := b) (L := L) (p := 0) ⟨hT.1, hT.2⟩ hL hb (Nat.zero_le L) rfl) ?_
  rintro v0 M0 ⟨rfl, I0, rfl, hC0, hf0, hs0⟩
  have hS0 : Sg I0 [] := ⟨hs0, fun j hj => absurd hj (by simp)⟩
  have g0 : ∀ k, k ≠ 9 → k ≠ 11 → I0 k = I k := fun k h1 h2 => (hf0 k h1).trans (by rw [rw2_ro h1, rw2_ro h1])
  refine l_rp0 hL hb (Nat.zero_le L) (by simp) _ _ hC0 hS0 (fun I1 u1 P1 a1 hC1 hS1 hf1 => ?_) (fun I1 q a1 hC1 hf1 => kN I1 q _ _ 20 (by omega) (Or.inl a1) hC1 (fun k h1 h2 => (hf1 k h1 h2).trans (g0 k h1 h2)))
  have bd1 := a1.bnd (Nat.zero_le L) (by omega)
  have bl1 : u1.length ≤ P1 := by have := bd1.2.1; simp at this; omega
  refine XP_n 2 (pc' := 24) (ls' := [.ref (9), xj, xj]) (st' := [.int (I1 9 7)]) (M' := (I1, J, Rx R, N, G)) rfl ?_
  rw [hS1.1]
  refine XP_n 1 (pc' := 25) (ls' := [.ref (9), .int (nI (u1.length)), xj]) (st' := []) (M' := (I1, J, Rx R, N, G)) rfl ?_
  refine l_rp1 hL hb bd1.1 bl1 _ _ hC1 hS1 (fun I2 u2 P2 a2 hC2 hS2 hf2 => ?_) (fun I2 q a2 hC2 hf2 => kN I2 q _ _ 37 (by omega) (Or.inr ⟨u1, P1, a1, Or.inl a2⟩) hC2 (fun k h1 h2 => (hf2 k h1 h2).trans ((hf1 k h1 h2).trans (g0 k h1 h2))))
  have bd2 := a2.bnd bd1.1 (by omega)
  refine XP_n 2 (pc' := 41) (ls' := [.ref (9), .int (nI (u1.length)), xj]) (st' := [.int (I2 9 7)]) (M' := (I2, J, Rx R, N, G)) rfl ?_
  rw [hS2.1]
  refine XP_n 1 (pc' := 42) (ls' := [.ref (9), .int (nI (u1.length)), .int (nI (u2.length))]) (st' := []) (M' := (I2, J, Rx R, N, G)) rfl ?_
  refine l_rp2 hL hb bd2.1 (by omega) _ _ hC2 hS2 (fun I3 u3 P3 a3 hC3 hS3 hf3 => ?_) (fun I3 q a3 hC3 hf3 => kN I3 q _ _ 58 (by omega) (Or.inr ⟨u1, P1, a1, Or.inr ⟨u2, P2, a2, Or.inl a3⟩⟩) hC3 (fun k h1 h2 => (hf3 k h1 h2).trans ((hf2 k h1 h2).trans ((hf1 k h1 h2).trans (g0 k h1 h2)))))
  have bd3 := a3.bnd bd2.1 (by omega)
  have hr3 := tk_rg (b := b) (L := L) P3
  have h33 : ∀ k, k ≠ 9 → k ≠ 11 → I3 k = I k := fun k h1 h2 => (hf3 k h1 h2).trans ((hf2 k h1 h2).trans ((hf1 k h1 h2).trans (g0 k h1 h2)))
  by_cases ge : tk b L P3 = 2001
  rotate_left
  · refine XP_n 2 (pc' := 56) (ls' := [.ref (9), .int (nI (u1.length)), .int (nI (u2.length))]) (st' := [.int (I3 9 3)]) (M' := (I3, J, Rx R, N, G)) rfl ?_
    rw [hC3.2.2.1]
    refine XP_n 1 (pc' := 57) (ls' := [.ref (9), .int (nI (u1.length)), .int (nI (u2.length))]) (st' := [.int (nI (2001)), .int (nI (tk b L P3))]) (M' := (I3, J, Rx R, N, G)) rfl ?_
    refine XP_icN (x := tk b L P3) (y := 2001) rfl (by omega) (by omega) (fun (b57 : tk b L P3 = 2001) => absurd b57 (by omega)) (fun (b57 : ¬ tk b L P3 = 2001) => ?_)
    exact kN I3 P3 _ _ 58 (by omega) (Or.inr ⟨u1, P1, a1, Or.inr ⟨u2, P2, a2, Or.inr ⟨u3, P3, a3, ge, rfl⟩⟩⟩) hC3 h33
  subst hG
  have hu3 : u3.length < 160 := by omega
  have q97 : (rwR I3 (3000 + 4 * n4) (fun _ => 0)) 9 7 = nI u3.length := by
    rw [rwR_n2 (by omega)]
    exact hS3.1
  refine XP_n 2 (pc' := 56) (ls' := [.ref (9), .int (nI (u1.length)), .int (nI (u2.length))]) (st' := [.int (I3 9 3)]) (M' := (I3, J, Rx R, N, (z, 133, c2, 4 * n4, sl))) rfl ?_
  rw [hC3.2.2.1]
  refine XP_n 1 (pc' := 57) (ls' := [.ref (9), .int (nI (u1.length)), .int (nI (u2.length))]) (st' := [.int (nI (2001)), .int (nI (tk b L P3))]) (M' := (I3, J, Rx R, N, (z, 133, c2, 4 * n4, sl))) rfl ?_
  refine XP_icN (x := tk b L P3) (y := 2001) rfl (by omega) (by omega) (fun (b57 : tk b L P3 = 2001) => ?_) (fun (b57 : ¬ tk b L P3 = 2001) => absurd b57 (by omega))
  refine XP_new (lab := 3000 + 4 * n4) rfl (by show Nat.ble (4 * n4 + 1) 5000 = true; exact Nat.ble_eq.mpr (by omega)) rfl (tx_o n4 h4) (fun j => rS_big (by omega) j) ?_
  show XP X _ k_Reader_read 61 [.ref (9), .int (nI (u1.length)), .int (nI (u2.length))] [.ref (3000 + 4 * n4)] ((rwR I3 (3000 + 4 * n4) (fun _ => 0)), (rwR J (3000 + 4 * n4) (fun _ => 0)), Rx (rwR R (3000 + 4 * n4) (fun _ => none)), N, (2, 133, c2, 4 * n4 + 1, sl + 5)) _
  refine XP_n 4 (pc' := 65) (ls' := [.ref (9), .int (nI (u1.length)), .int (nI (u2.length))]) (st' := [.ref (9), .ref (11), .ref (3000 + 4 * n4), .ref (3000 + 4 * n4)]) (M' := ((rwR I3 (3000 + 4 * n4) (fun _ => 0)), (rwR J (3000 + 4 * n4) (fun _ => 0)), Rx (rwR R (3000 + 4 * n4) (fun _ => none)), N, (2, 133, c2, 4 * n4 + 1, sl + 5))) rfl ?_
  refine XP_n 1 (pc' := 66) (ls' := [.ref (9), .int (nI (u1.length)), .int (nI (u2.length))]) (st' := [.int ((rwR I3 (3000 + 4 * n4) (fun _ => 0)) 9 7), .ref (11), .ref (3000 + 4 * n4), .ref (3000 + 4 * n4)]) (M' := ((rwR I3 (3000 + 4 * n4) (fun _ => 0)), (rwR J (3000 + 4 * n4) (fun _ => 0)), Rx (rwR R (3000 + 4 * n4) (fun _ => none)), N, (2, 133, c2, 4 * n4 + 1, sl + 5))) rfl ?_
  rw [q97]
  refine XP_call rfl rfl (c_copyOf h4 hu3) ?_
  rintro v4 M4 ⟨rfl, I4, rfl, e4, e5⟩
  refine XP_n 2 (pc' := 69) (ls' := [.ref (9), .int (nI (u1.length)), .int (nI (u2.length))]) (st' := [.int (nI (u2.length)), .int (nI (u1.length)), .ref (3001 + 4 * n4), .ref (3000 + 4 * n4), .ref (3000 + 4 * n4)]) (M' := (I4, (rwR (rwR J (3000 + 4 * n4) (fun _ => 0)) (3001 + 4 * n4) (fun _ => 0)), Rx (rwR ((rwR R (3000 + 4 * n4) (fun _ => none))) (3001 + 4 * n4) (fun _ => none)), (fun k => if k = 3001 + 4 * n4 then u3.length else N k), (2, 133, c2, 4 * n4 + 2, sl + 5 + u3.length))) rfl ?_
  refine XP_call rfl rfl (c_txInit (N := fun k => if k = 3001 + 4 * n4 then u3.length else N k) h4 hu3 (if_pos rfl) _ _) ?_
  rintro v5 M5 ⟨rfl, rfl⟩
  refine XP_ret rfl (Or.inr ⟨u1, u2, u3, P3, ⟨P1, P2, a1, a2, a3⟩, ge, bd3.1, rfl, _, _, rfl, fun k hk => ?_, fun k h1 h2 h3 => ?_, ?_, ?_, fun j hj => ?_⟩)
  · rw [rwR_n2 (by omega), rwR_n2 (by omega), rwR_n2 (by omega), rwR_n2 (by omega)]
  · rw [rwR_n2 (by omega), rw2_ro (by omega), rw2_ro (by omega), rwR_n2 (by omega), e4 k (by omega), rwR_n2 (by omega)]
    exact h33 k h1 h2
  · rw [rwR_n2 (by omega), rw2_c, if_neg (by omega), rw2_c, if_pos rfl]
  · rw [rwR_n2 (by omega), rw2_c, if_pos rfl]
  · rw [rwR_n2 (by omega), rw2_ro (by omega), rw2_ro (by omega), rwR_n2 (by omega), e5 j hj, rwR_n2 (by omega)]
    exact hS3.2 j hj
end
