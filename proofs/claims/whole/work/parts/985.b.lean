/-! setters: rule -/
theorem rS_big {k : Nat} (h : 144 ≤ k) (j : Nat) : rS k j = none := by
  unfold rS
  have e : rsL.getD (k / 16) [] = [] := gd_big _ rsL _ (by have : rsL.length = 9 := rfl; omega)
  rw [e]
  rfl
theorem Rx_rwR {R : Nat → Nat → Option Nat} {k : Nat} (h : ∀ j, rS k j = none) : rwR (Rx R) k (fun _ => none) = Rx (rwR R k (fun _ => none)) := by
  funext a b
  unfold rwR Rx
  by_cases e : a = k
  · subst e
    rw [if_pos rfl, h]
    simp
  · rw [if_neg e]
    cases rS a b with
    | none => simp [e]
    | some v => rfl
theorem rwR_n2 {α : Type} {f : Nat → Nat → α} {k a : Nat} {g : Nat → α} (h : a ≠ k) : rwR f k g a = f a := by
  funext b
  unfold rwR
  rw [if_neg h]
theorem rwR_a2 {α : Type} {f : Nat → Nat → α} {k : Nat} {g : Nat → α} : rwR f k g k = g := by
  funext b
  unfold rwR
  rw [if_pos rfl]
section
variable {X : hX} {d : Nat} {s I : Nat → Nat → Int32} {J : Nat → Nat → Int64} {R : Nat → Nat → Option Nat} {N : Nat → Nat} {G : hG}
theorem XP_new {Q : Option Value → hM → Prop} {pc ci lab : Nat} {C : List Instr} {ls r : List Value} (hC : C.getD pc .nop = .new ci) (h1 : okn (zs ci G) 1 = true) (h2 : nxt (zs ci G) = lab) (h3 : isO lab ci = true) (hr : ∀ j, rS lab j = none) (kk : XP X d C (pc + 1) ls (.ref lab :: r) (rwR I lab (fun _ => 0), rwR J lab (fun _ => 0), Rx (rwR R lab (fun _ => none)), N, bmp (zs ci G) 1 (nf ci)) Q) : XP X d C pc ls r (I, J, Rx R, N, G) Q := by
  rw [← Rx_rwR hr] at kk
  refine XP_s (M' := (rwR I lab (fun _ => 0), rwR J lab (fun _ => 0), rwR (Rx R) lab (fun _ => none), N, bmp (zs ci G) 1 (nf ci))) ?_ kk
  rw [hC]
  show (bif okn (zs ci G) 1 && isO (nxt (zs ci G)) ci then some (pc + 1, ls, Value.ref (nxt (zs ci G)) :: r, (rwR I (nxt (zs ci G)) (fun _ => 0), rwR J (nxt (zs ci G)) (fun _ => 0), rwR (Rx R) (nxt (zs ci G)) (fun _ => none), N, bmp (zs ci G) 1 (nf ci))) else none) = _
  rw [h2, h1, h3]
  rfl
theorem XP_newi {Q : Option Value → hM → Prop} {pc n lab : Nat} {C : List Instr} {ls r : List Value} (hC : C.getD pc .nop = .newarray .int) (h1 : okn G 1 = true) (h2 : nxt G = lab) (h3 : isA lab 0 = true) (h4 : lab < 3000) (h5 : slen lab = n) (h6 : n ≤ 65536) (hr : ∀ j, rS lab j = none) (kk : XP X d C (pc + 1) ls (.ref lab :: r) (rwR I lab (fun _ => 0), rwR J lab (fun _ => 0), Rx (rwR R lab (fun _ => none)), N, bmp G 1 n) Q) : XP X d C pc ls (.int (nI n) :: r) (I, J, Rx R, N, G) Q := by
  rw [← Rx_rwR hr] at kk
  refine XP_s (M' := (rwR I lab (fun _ => 0), rwR J lab (fun _ => 0), rwR (Rx R) lab (fun _ => none), N, bmp G 1 n)) ?_ kk
  rw [hC]
  show (bif inB (nI n) 65537 then (match mkA N G 0 (nI n).toNatClampNeg with
      | some (N', G') => some (pc + 1, ls, Value.ref (nxt G) :: r, (rwR I (nxt G) (fun _ => 0), rwR J (nxt G) (fun _ => 0), rwR (Rx R) (nxt G) (fun _ => none), N', G'))
      | none => none) else none) = _
  rw [inB_nI (by omega) (by omega), cond_true, nI_clamp (by omega)]
  unfold mkA
  rw [h2, h1, h3, Nat.ble_eq.mpr h6, blt_t h4, h5, Nat.beq_refl]
  rfl
theorem XP_newj {Q : Option Value → hM → Prop} {pc n lab : Nat} {C : List Instr} {ls r : List Value} (hC : C.getD pc .nop = .newarray .int) (h1 : okn G 1 = true) (h2 : nxt G = lab) (h3 : isA lab 0 = true) (h4 : 3000 ≤ lab) (h6 : n ≤ 65536) (hr : ∀ j, rS lab j = none) (kk : XP X d C (pc + 1) ls (.ref lab :: r) (rwR I lab (fun _ => 0), rwR J lab (fun _ => 0), Rx (rwR R lab (fun _ => none)), fun k => if k = lab then n else N k, bmp G 1 n) Q) : XP X d C pc ls (.int (nI n) :: r) (I, J, Rx R, N, G) Q := by
  rw [← Rx_rwR hr] at kk
  refine XP_s (M' := (rwR I lab (fun _ => 0), rwR J lab (fun _ => 0), rwR (Rx R) lab (fun _ => none), fun k => if k = lab then n else N k, bmp G 1 n)) ?_ kk
  rw [hC]
  show (bif inB (nI n) 65537 then (match mkA N G 0 (nI n).toNatClampNeg with
      | some (N', G') => some (pc + 1, ls, Value.ref (nxt G) :: r, (rwR I (nxt G) (fun _ => 0), rwR J (nxt G) (fun _ => 0), rwR (Rx R) (nxt G) (fun _ => none), N', G'))
      | none => none) else none) = _
  rw [inB_nI (by omega) (by omega), cond_true, nI_clamp (by omega)]
  unfold mkA
  rw [h2, h1, h3, Nat.ble_eq.mpr h6, blt_f (by omega)]
  rfl
theorem XP_aast {Q : Option Value → hM → Prop} {pc k x j n t c : Nat} {C : List Instr} {ls r : List Value} (hC : C.getD pc .nop = .aastore) (hk : kd k = .inr t) (hx : kd x = .inl c) (ha : acl t = c) (hj : j < n) (hn : alen N k = n) (h31 : n < 2147483648) (h8 : x < 8000) (hr : rS k j = none) (kk : XP X d C (pc + 1) ls r (I, J, Rx (rw2 R k j (some x)), N, G) Q) : XP X d C pc ls (.ref x :: .int (nI j) :: .ref k :: r) (I, J, Rx R, N, G) Q := by
  rw [← Rx_w hr] at kk
  refine XP_s (M' := (I, J, rw2 (Rx R) k j (some x), N, G)) ?_ kk
  rw [hC]
  show (match kd k, kd x with
      | .inr t, .inl c => bif Nat.beq (acl t) c && inB (nI j) (alen N k) && Nat.blt x 8000 then some (pc + 1, ls, r, (I, J, rw2 (Rx R) k (nI j).toNatClampNeg (some x), N, G)) else none
      | _, _ => none) = _
  rw [hk, hx]
  show (bif Nat.beq (acl t) c && inB (nI j) (alen N k) && Nat.blt x 8000 then some (pc + 1, ls, r, (I, J, rw2 (Rx R) k (nI j).toNatClampNeg (some x), N, G)) else none) = _
  rw [ha, Nat.beq_refl, hn, inB_nI hj h31, blt_t h8, nI_clamp (by omega)]
  rfl
theorem rul_k {r : Nat} (h : r < 1000) : kd (1000 + 2 * r) = .inl 7 := by
  unfold kd
  rw [blt_f (by omega), blt_t (by omega), show (1000 + 2 * r) % 2 = 0 by omega]
  rfl
theorem rul_s {r : Nat} (h : r < 900) : slen (1001 + 2 * r) = 16 := by
  unfold slen
  rw [blt_f (by omega)]
  rfl
theorem c_rInit {r nt sl : Nat} (hr : r < 8) (k mo : Int32) {re : Nat} (hre : re < 2147483648) : TP X d n_Rule_init [.ref (1000 + 2 * r), .int k, .int mo, .int (nI re)] (I, J, Rx R, N, (1, 133, 2 * r + 1, nt, sl)) (fun v M' => v = none ∧ M' = (rw2 (rw2 (rw2 (rw2 (rwR I (1001 + 2 * r) (fun _ => 0)) (1000 + 2 * r) 0 k) (1000 + 2 * r) 1 mo) (1000 + 2 * r) 2 (nI (re / 100))) (1000 + 2 * r) 3 (nI (re % 100)), rwR J (1001 + 2 * r) (fun _ => 0), Rx (rw2 (rwR R (1001 + 2 * r) (fun _ => none)) (1000 + 2 * r) 4 (some (1001 + 2 * r))), N, (1, 133, 2 * r + 2, nt, sl + 16))) := by
  have ho := rul_o (show r < 1000 by omega)
  have hpw : (isO (1000 + 2 * r) 7 && true) = true := by rw [ho]; rfl
  unfold TP
  show XP X _ k_Rule_init 0 [.ref (1000 + 2 * r), .int (k), .int (mo), .int (nI (re))] [] _ _
  refine XP_n 4 (pc' := 4) (ls' := [.ref (1000 + 2 * r), .int (k), .int (mo), .int (nI (re))]) (st' := [.int (nI (16)), .ref (1000 + 2 * r)]) (M' := (I, J, Rx R, N, (1, 133, 2 * r + 1, nt, sl))) rfl ?_
  refine XP_newi (lab := 1001 + 2 * r) (n := 16) rfl (by show Nat.ble (2 * r + 1 + 1) 2000 = true; exact Nat.ble_eq.mpr (by omega)) (by show 1000 + (2 * r + 1) = 1001 + 2 * r; omega) (rul_a (by omega)) (by omega) (rul_s (by omega)) (by omega) (fun j => rS_big (by omega) j) ?_
  show XP X _ k_Rule_init 5 [.ref (1000 + 2 * r), .int (k), .int (mo), .int (nI (re))] [.ref (1001 + 2 * r), .ref (1000 + 2 * r)] ((rwR I (1001 + 2 * r) (fun _ => 0)), (rwR J (1001 + 2 * r) (fun _ => 0)), Rx (rwR R (1001 + 2 * r) (fun _ => none)), N, (1, 133, 2 * r + 2, nt, sl + 16)) _
  refine XP_putr rfl (by rw [rul_o (show r < 1000 by omega)]; rfl) (show 1001 + 2 * r < 8000 by omega) (rS_big (by omega) _) ?_
  show XP X _ k_Rule_init 6 [.ref (1000 + 2 * r), .int (k), .int (mo), .int (nI (re))] [] ((rwR I (1001 + 2 * r) (fun _ => 0)), (rwR J (1001 + 2 * r) (fun _ => 0)), Rx (rw2 ((rwR R (1001 + 2 * r) (fun _ => none))) (1000 + 2 * r) 4 (some (1001 + 2 * r))), N, (1, 133, 2 * r + 2, nt, sl + 16)) _
  refine XP_n 2 (pc' := 8) (ls' := [.ref (1000 + 2 * r), .int (k), .int (mo), .int (nI (re))]) (st' := [.int (k), .ref (1000 + 2 * r)]) (M' := ((rwR I (1001 + 2 * r) (fun _ => 0)), (rwR J (1001 + 2 * r) (fun _ => 0)), Rx (rw2 ((rwR R (1001 + 2 * r) (fun _ => none))) (1000 + 2 * r) 4 (some (1001 + 2 * r))), N, (1, 133, 2 * r + 2, nt, sl + 16))) rfl ?_
  refine XP_putw rfl (by rw [rul_o (show r < 1000 by omega)]; rfl) ?_
  show XP X _ k_Rule_init 9 [.ref (1000 + 2 * r), .int (k), .int (mo), .int (nI (re))] [] ((rw2 (rwR I (1001 + 2 * r) (fun _ => 0)) (1000 + 2 * r) 0 (k)), (rwR J (1001 + 2 * r) (fun _ => 0)), Rx (rw2 ((rwR R (1001 + 2 * r) (fun _ => none))) (1000 + 2 * r) 4 (some (1001 + 2 * r))), N, (1, 133, 2 * r + 2, nt, sl + 16)) _
  refine XP_n 2 (pc' := 11) (ls' := [.ref (1000 + 2 * r), .int (k), .int (mo), .int (nI (re))]) (st' := [.int (mo), .ref (1000 + 2 * r)]) (M' := ((rw2 (rwR I (1001 + 2 * r) (fun _ => 0)) (1000 + 2 * r) 0 (k)), (rwR J (1001 + 2 * r) (fun _ => 0)), Rx (rw2 ((rwR R (1001 + 2 * r) (fun _ => none))) (1000 + 2 * r) 4 (some (1001 + 2 * r))), N, (1, 133, 2 * r + 2, nt, sl + 16))) rfl ?_
  refine XP_putw rfl (by rw [rul_o (show r < 1000 by omega)]; rfl) ?_
  show XP X _ k_Rule_init 12 [.ref (1000 + 2 * r), .int (k), .int (mo), .int (nI (re))] [] ((rw2 (rw2 (rwR I (1001 + 2 * r) (fun _ => 0)) (1000 + 2 * r) 0 (k)) (1000 + 2 * r) 1 (mo)), (rwR J (1001 + 2 * r) (fun _ => 0)), Rx (rw2 ((rwR R (1001 + 2 * r) (fun _ => none))) (1000 + 2 * r) 4 (some (1001 + 2 * r))), N, (1, 133, 2 * r + 2, nt, sl + 16)) _
  refine XP_n 3 (pc' := 15) (ls' := [.ref (1000 + 2 * r), .int (k), .int (mo), .int (nI (re))]) (st' := [.int (nI (100)), .int (nI (re)), .ref (1000 + 2 * r)]) (M' := ((rw2 (rw2 (rwR I (1001 + 2 * r) (fun _ => 0)) (1000 + 2 * r) 0 (k)) (1000 + 2 * r) 1 (mo)), (rwR J (1001 + 2 * r) (fun _ => 0)), Rx (rw2 ((rwR R (1001 + 2 * r) (fun _ => none))) (1000 + 2 * r) 4 (some (1001 + 2 * r))), N, (1, 133, 2 * r + 2, nt, sl + 16))) rfl ?_
  refine XP_idivN (a := re) (b := 100) rfl (by omega) (by omega) (by omega) ?_
  refine XP_putw rfl (by rw [rul_o (show r < 1000 by omega)]; rfl) ?_
  show XP X _ k_Rule_init 17 [.ref (1000 + 2 * r), .int (k), .int (mo), .int (nI (re))] [] ((rw2 (rw2 (rw2 (rwR I (1001 + 2 * r) (fun _ => 0)) (1000 + 2 * r) 0 (k)) (1000 + 2 * r) 1 (mo)) (1000 + 2 * r) 2 (nI ((re) / (100)))), (rwR J (1001 + 2 * r) (fun _ => 0)), Rx (rw2 ((rwR R (1001 + 2 * r) (fun _ => none))) (1000 + 2 * r) 4 (some (1001 + 2 * r))), N, (1, 133, 2 * r + 2, nt, sl + 16)) _
  refine XP_n 3 (pc' := 20) (ls' := [.ref (1000 + 2 * r), .int (k), .int (mo), .int (nI (re))]) (st' := [.int (nI (100)), .int (nI (re)), .ref (1000 + 2 * r)]) (M' := ((rw2 (rw2 (rw2 (rwR I (1001 + 2 * r) (fun _ => 0)) (1000 + 2 * r) 0 (k)) (1000 + 2 * r) 1 (mo)) (1000 + 2 * r) 2 (nI ((re) / (100)))), (rwR J (1001 + 2 * r) (fun _ => 0)), Rx (rw2 ((rwR R (1001 + 2 * r) (fun _ => none))) (1000 + 2 * r) 4 (some (1001 + 2 * r))), N, (1, 133, 2 * r + 2, nt, sl + 16))) rfl ?_
  refine XP_iremN (a := re) (b := 100) rfl (by omega) (by omega) (by omega) ?_
  refine XP_putw rfl (by rw [rul_o (show r < 1000 by omega)]; rfl) ?_
  show XP X _ k_Rule_init 22 [.ref (1000 + 2 * r), .int (k), .int (mo), .int (nI (re))] [] ((rw2 (rw2 (rw2 (rw2 (rwR I (1001 + 2 * r) (fun _ => 0)) (1000 + 2 * r) 0 (k)) (1000 + 2 * r) 1 (mo)) (1000 + 2 * r) 2 (nI ((re) / (100)))) (1000 + 2 * r) 3 (nI ((re) % (100)))), (rwR J (1001 + 2 * r) (fun _ => 0)), Rx (rw2 ((rwR R (1001 + 2 * r) (fun _ => none))) (1000 + 2 * r) 4 (some (1001 + 2 * r))), N, (1, 133, 2 * r + 2, nt, sl + 16)) _
  exact XP_ret rfl ⟨rfl, rfl⟩
theorem c_shat2 {sn i z : Nat} {x : Int32} (hsn : sn < 4) (hz : I (87 + 2 * sn) 1 = nI z) (hi : i < z) (hz4 : z ≤ 40) (hv : I (88 + 2 * sn) i = x) : TP X d n_Sheet_at [.ref (87 + 2 * sn), .int (nI i)] (I, J, Rx R, N, G) (Ret (.int x) (I, J, Rx R, N, G)) := by
  unfold TP
  show XP X _ k_Sheet_at 0 [.ref (87 + 2 * sn), .int (nI (i))] [] _ _
  refine XP_n 1 (pc' := 1) (ls' := [.ref (87 + 2 * sn), .int (nI (i))]) (st' := [.int (nI (i))]) (M' := (I, J, Rx R, N, G)) rfl ?_
  refine XP_ifN (x := i)  rfl (by omega) (fun (b1 : i < 0) => absurd b1 (by omega)) (fun (b1 : 0 ≤ i) => ?_)
  refine XP_n 2 (pc' := 4) (ls' := [.ref (87 + 2 * sn), .int (nI (i))]) (st' := [.ref (87 + 2 * sn), .int (nI (i))]) (M' := (I, J, Rx R, N, G)) rfl ?_
  refine XP_getw rfl (by rw [sh_o hsn]; rfl) ?_
  show XP X _ k_Sheet_at 5 [.ref (87 + 2 * sn), .int (nI (i))] [.int (I (87 + 2 * sn) 1), .int (nI (i))] _ _
  rw [hz]
  refine XP_icN (x := i) (y := z) rfl (by omega) (by omega) (fun (b5 : z ≤ i) => absurd b5 (by omega)) (fun (b5 : i < z) => ?_)
  refine XP_n 2 (pc' := 8) (ls' := [.ref (87 + 2 * sn), .int (nI (i))]) (st' := [.ref (87 + 2 * sn), .int (nI (i))]) (M' := (I, J, Rx R, N, G)) rfl ?_
  refine XP_getr rfl (by rw [sh_o (show sn < 4 by omega)]; rfl) (sh_r R (show sn < 4 by omega))  ?_
  refine XP_len rfl (sh_a (show sn < 4 by omega)) (sh_l N (show sn < 4 by omega)) ?_
  refine XP_icN (x := i) (y := 40) rfl (by omega) (by omega) (fun (b10 : 40 ≤ i) => absurd b10 (by omega)) (fun (b10 : i < 40) => ?_)
  refine XP_n 1 (pc' := 12) (ls' := [.ref (87 + 2 * sn), .int (nI (i))]) (st' := [.ref (87 + 2 * sn)]) (M' := (I, J, Rx R, N, G)) rfl ?_
  refine XP_getr rfl (by rw [sh_o (show sn < 4 by omega)]; rfl) (sh_r R (show sn < 4 by omega))  ?_
  refine XP_n 1 (pc' := 14) (ls' := [.ref (87 + 2 * sn), .int (nI (i))]) (st' := [.int (nI (i)), .ref (88 + 2 * sn)]) (M' := (I, J, Rx R, N, G)) rfl ?_
  refine XP_iraw rfl (sh_a (show sn < 4 by omega)) (show i < 40 by omega) (sh_l N (show sn < 4 by omega)) (by omega) ?_
  rw [show I (88 + 2 * sn) i = x from hv]
  refine XP_n 1 (pc' := 17) (ls' := [.ref (87 + 2 * sn), .int (nI (i))]) (st' := [.int (x)]) (M' := (I, J, Rx R, N, G)) rfl ?_
  exact XP_ret rfl ⟨rfl, rfl⟩
theorem l_tell {r sn : Nat} {f : Nat → Int32} (hr : r < 8) (hsn : sn < 4) (hR4 : Rx R (1000 + 2 * r) 4 = some (1001 + 2 * r)) (hz : I (87 + 2 * sn) 1 = nI 16) (hv : ∀ j, j < 16 → I (88 + 2 * sn) j = f j) : ∀ (n i : Nat) (I1 : Nat → Nat → Int32), i + n = 16 → (∀ k, k ≠ 1001 + 2 * r → I1 k = I k) → (∀ j, j < i → I1 (1001 + 2 * r) j = f j) → XP X (d + 1) k_Rule_tell 2 [.ref (1000 + 2 * r), .ref (87 + 2 * sn), .int (nI i)] [] (I1, J, Rx R, N, G) (fun v M' => v = none ∧ ∃ I', M' = (I', J, Rx R, N, G) ∧ (∀ k, k ≠ 1001 + 2 * r → I' k = I k) ∧ ∀ j, j < 16 → I' (1001 + 2 * r) j = f j) := by
  intro n
  induction n with
  | zero =>
    rintro i I1 hi h1 h2
    obtain rfl : i = 16 := by omega
    refine XP_n 4 (pc' := 6) (ls' := [.ref (1000 + 2 * r), .ref (87 + 2 * sn), .int (nI (16))]) (st' := [.ref (1000 + 2 * r), .int (nI (16))]) (M' := (I1, J, Rx R, N, G)) rfl ?_
    refine XP_getr rfl (by rw [rul_o (show r < 1000 by omega)]; rfl) hR4  ?_
    refine XP_len rfl (rul_a (show r < 1000 by omega)) (rul_l N (show r < 999 by omega)) ?_
    refine XP_icN (x := 16) (y := 16) rfl (by omega) (by omega) (fun (b8 : 16 ≤ 16) => ?_) (fun (b8 : 16 < 16) => absurd b8 (by omega))
    exact XP_ret rfl ⟨rfl, _, rfl, h1, h2⟩
  | succ n ih =>
    rintro i I1 hi h1 h2
    refine XP_n 4 (pc' := 6) (ls' := [.ref (1000 + 2 * r), .ref (87 + 2 * sn), .int (nI (i))]) (st' := [.ref (1000 + 2 * r), .int (nI (i))]) (M' := (I1, J, Rx R, N, G)) rfl ?_
    refine XP_getr rfl (by rw [rul_o (show r < 1000 by omega)]; rfl) hR4  ?_
    refine XP_len rfl (rul_a (show r < 1000 by omega)) (rul_l N (show r < 999 by omega)) ?_
    refine XP_icN (x := i) (y := 16) rfl (by omega) (by omega) (fun (b8 : 16 ≤ i) => absurd b8 (by omega)) (fun (b8 : i < 16) => ?_)
    refine XP_n 1 (pc' := 10) (ls' := [.ref (1000 + 2 * r), .ref (87 + 2 * sn), .int (nI (i))]) (st' := [.ref (1000 + 2 * r)]) (M' := (I1, J, Rx R, N, G)) rfl ?_
    refine XP_getr rfl (by rw [rul_o (show r < 1000 by omega)]; rfl) hR4  ?_
    refine XP_n 3 (pc' := 14) (ls' := [.ref (1000 + 2 * r), .ref (87 + 2 * sn), .int (nI (i))]) (st' := [.int (nI (i)), .ref (87 + 2 * sn), .int (nI (i)), .ref (1001 + 2 * r)]) (M' := (I1, J, Rx R, N, G)) rfl ?_
    refine XP_pure rfl (by show (isO (87 + 2 * sn) 8 || false) = true; rw [sh_o hsn]; rfl) (c_shat2 (z := 16) (x := f i) hsn (by rw [h1 _ (by omega)]; exact hz) (by omega) (by omega) (by rw [h1 _ (by omega)]; exact hv i (by omega))) ?_
    refine XP_iast rfl (rul_a (show r < 1000 by omega)) (show i < 16 by omega) (rul_l N (show r < 999 by omega)) (by omega) ?_
    refine XP_n 1 (pc' := 17) (ls' := [.ref (1000 + 2 * r), .ref (87 + 2 * sn), .int (nI (i) + nI (1))]) (st' := []) (M' := ((rw2 I1 (1001 + 2 * r) i (f i)), J, Rx R, N, G)) rfl ?_
    rw [show nI (i) + nI (1) = nI (i + 1) from nI_addE (rfl) rfl]
    refine XP_n 1 (pc' := 2) (ls' := [.ref (1000 + 2 * r), .ref (87 + 2 * sn), .int (nI (i + 1))]) (st' := []) (M' := ((rw2 I1 (1001 + 2 * r) i (f i)), J, Rx R, N, G)) rfl ?_
    refine ih (i + 1) _ (by omega) (fun k hk => (rw2_ro hk).trans (h1 k hk)) (fun j hj => ?_)
    rw [rw2_c]
    by_cases e : j = i
    · rw [if_pos e, e]
    · rw [if_neg e]
      exact h2 j (by omega)
theorem c_tell {r sn : Nat} {f : Nat → Int32} (hr : r < 8) (hsn : sn < 4) (hR4 : Rx R (1000 + 2 * r) 4 = some (1001 + 2 * r)) (hz : I (87 + 2 * sn) 1 = nI 16) (hv : ∀ j, j < 16 → I (88 + 2 * sn) j = f j) : TP X (d + 1) n_Rule_tell [.ref (1000 + 2 * r), .ref (87 + 2 * sn)] (I, J, Rx R, N, G) (fun v M' => v = none ∧ ∃ I', M' = (I', J, Rx R, N, G) ∧ (∀ k, k ≠ 1001 + 2 * r → I' k = I k) ∧ ∀ j, j < 16 → I' (1001 + 2 * r) j = f j) := by
  unfold TP
  show XP X _ k_Rule_tell 0 [.ref (1000 + 2 * r), .ref (87 + 2 * sn), xj] [] _ _
  refine XP_n 2 (pc' := 2) (ls' := [.ref (1000 + 2 * r), .ref (87 + 2 * sn), .int (nI (0))]) (st' := []) (M' := (I, J, Rx R, N, G)) rfl ?_
  exact l_tell hr hsn hR4 hz hv 16 0 I (by omega) (fun _ _ => rfl) (fun j h => absurd h (by omega))
end
