/-! towns: what each pays -/
def tbt (m t : Nat) : Nat := m / 2 ^ t % 2
def xb (m t : Nat) : Nat := m ^^^ 2 ^ t
theorem tbt_le (m t : Nat) : tbt m t ≤ 1 := by
  have := Nat.mod_lt (m / 2 ^ t) (show 0 < 2 by omega)
  unfold tbt
  omega
theorem b_tbt {m t : Nat} (hm : m < 8) (ht : t < 3) : (nI m >>> (nI t &&& 31)) &&& nI 1 = nI (tbt m t) := (by decide +kernel : ∀ m, m < 8 → ∀ t, t < 3 → (nI m >>> (nI t &&& 31)) &&& nI 1 = nI (tbt m t)) m hm t ht
theorem b_pw {t : Nat} (ht : t < 8) : nI 1 <<< (nI t &&& 31) = nI (2 ^ t) := (by decide +kernel : ∀ t, t < 8 → nI 1 <<< (nI t &&& 31) = nI (2 ^ t)) t ht
theorem b_xb {m t : Nat} (hm : m < 8) (ht : t < 3) : nI m ^^^ (nI 1 <<< (nI t &&& 31)) = nI (xb m t) := (by decide +kernel : ∀ m, m < 8 → ∀ t, t < 3 → nI m ^^^ (nI 1 <<< (nI t &&& 31)) = nI (xb m t)) m hm t ht
theorem xb_lt {m t n : Nat} (hn : n ≤ 3) (hm : m < 2 ^ n) (ht : t < n) : xb m t < 2 ^ n ∧ xb m t < 8 := by
  have h : ∀ n, n < 4 → ∀ m, m < 2 ^ n → ∀ t, t < n → xb m t < 2 ^ n := by decide +kernel
  have h2 := h n (by omega) m hm t ht
  have h3 : 2 ^ n ≤ 2 ^ 3 := Nat.pow_le_pow_right (by omega) hn
  omega
def tN (s : Nat → Nat → Int32) : Nat := 2 ^ cT s
theorem tN_le {s : Nat → Nat → Int32} (hW : Wf s) : 1 ≤ tN s ∧ tN s ≤ 8 ∧ (0 < cT s → 2 ≤ tN s) := by
  have h3 := hW.t.2
  have h : ∀ n, n < 4 → 1 ≤ 2 ^ n ∧ 2 ^ n ≤ 8 ∧ (0 < n → 2 ≤ 2 ^ n) := by decide +kernel
  exact h (cT s) (by omega)
/-- a town's wall then -/
def tW (s : Nat → Nat → Int32) (up m t : Nat) : Nat := rTW s t + (if tbt m t = 0 then 0 else up)
def tHi (s : Nat → Nat → Int32) (up m t o : Nat) : Nat := if tW s up m t + 5 < tW s up m o then cPu s else 0
def tPay (s : Nat → Nat → Int32) (p y up m t : Nat) : Nat := nHarm s (nLv s p y + sumN (tHi s up m t) (cT s)) (tW s up m t) y (nI (rTR s t)) + (if tbt m t = 0 then 0 else 1000 * nCost s (s 99 3) up (rTW s t) y (nI (rTR s t)))
theorem tHi_le {s : Nat → Nat → Int32} (hW : Wf s) (up m t : Nat) {n : Nat} (hn : n ≤ cT s) : sumN (tHi s up m t) n ≤ 27 := by
  have h3 := hW.t.2
  have h9 := hW.pu.2
  have h1 := sumN_le (f := tHi s up m t) (n := n) (c := 9) (fun i hi => by unfold tHi; split <;> omega)
  omega
theorem tW_le {s : Nat → Nat → Int32} (hW : Wf s) {up m t : Nat} (ht : t < cT s) : tW s up m t ≤ 60 + up := by
  have := (hW.tw ht).2
  unfold tW
  split <;> omega
theorem tPay_le {s : Nat → Nat → Int32} (hW : Wf s) (p y up m t : Nat) : tPay s p y up m t ≤ 20000000 := by
  have h1 := (nHarm_ok hW (nLv s p y + sumN (tHi s up m t) (cT s)) (tW s up m t) y (nI (rTR s t))).2
  have h2 := (nCost_ok (s := s) (s 99 3) up (rTW s t) y (nI (rTR s t))).2
  unfold tPay
  split <;> omega
section
variable {X : hX} {d : Nat} {s I : Nat → Nat → Int32} {J : Nat → Nat → Int64} {R : Nat → Nat → Option Nat} {N : Nat → Nat} {G : hG}
theorem c_hasTown (hS : St s I) (hW : Wf s) (v : Int32) : TP X d n_Bay_hasTown [.ref 80, .int v] (I, J, Rx R, N, G) (Ret (.int (b2i (inN v (cT s)))) (I, J, Rx R, N, G)) := by
  have ht3 := hW.t.2
  by_cases h : inN v (cT s)
  · rw [show b2i (inN v (cT s)) = nI 1 from b2i_t h]
    obtain ⟨j, hj, rfl, -⟩ := inN_nat h (by omega)
    unfold TP
    show XP X _ k_Bay_hasTown 0 [.ref (80), .int (nI (j))] [] _ _
    refine XP_n 1 (pc' := 1) (ls' := [.ref (80), .int (nI (j))]) (st' := [.int (nI (j))]) (M' := (I, J, Rx R, N, G)) rfl ?_
    refine XP_ifN (x := j)  rfl (by omega) (fun (b1 : j < 0) => absurd b1 (by omega)) (fun (b1 : 0 ≤ j) => ?_)
    refine XP_n 2 (pc' := 4) (ls' := [.ref (80), .int (nI (j))]) (st' := [.ref (80), .int (nI (j))]) (M' := (I, J, Rx R, N, G)) rfl ?_
    refine XP_geti hS rfl rfl rfl ?_
    rw [hW.t.1]
    refine XP_icN (x := j) (y := cT s) rfl (by omega) (by omega) (fun (b5 : cT s ≤ j) => absurd b5 (by omega)) (fun (b5 : j < cT s) => ?_)
    refine XP_n 2 (pc' := 8) (ls' := [.ref (80), .int (nI (j))]) (st' := [.int (nI (3)), .int (nI (j))]) (M' := (I, J, Rx R, N, G)) rfl ?_
    refine XP_icN (x := j) (y := 3) rfl (by omega) (by omega) (fun (b8 : 3 ≤ j) => absurd b8 (by omega)) (fun (b8 : j < 3) => ?_)
    refine XP_n 2 (pc' := 12) (ls' := [.ref (80), .int (nI (j))]) (st' := [.int (nI (1))]) (M' := (I, J, Rx R, N, G)) rfl ?_
    exact XP_ret rfl ⟨rfl, rfl⟩
  · rw [show b2i (inN v (cT s)) = nI 0 from b2i_f h]
    unfold TP
    show XP X _ k_Bay_hasTown 0 [.ref (80), .int (v)] [] _ _
    refine XP_n 1 (pc' := 1) (ls' := [.ref (80), .int (v)]) (st' := [.int (v)]) (M' := (I, J, Rx R, N, G)) rfl ?_
    refine XP_ifD rfl (fun (b1 : v < 0) => ?_) (fun (b1 : 0 ≤ v) => ?_)
    · have n1 := Int32.not_le.mpr b1
      refine XP_n 1 (pc' := 12) (ls' := [.ref (80), .int (v)]) (st' := [.int (nI (0))]) (M' := (I, J, Rx R, N, G)) rfl ?_
      exact XP_ret rfl ⟨rfl, rfl⟩
    · have n1 := Int32.not_lt.mpr b1
      refine XP_n 2 (pc' := 4) (ls' := [.ref (80), .int (v)]) (st' := [.ref (80), .int (v)]) (M' := (I, J, Rx R, N, G)) rfl ?_
      refine XP_geti hS rfl rfl rfl ?_
      rw [hW.t.1]
      refine XP_icD rfl (fun (b5 : nI (cT s) ≤ v) => ?_) (fun (b5 : v < nI (cT s)) => absurd ((lt_iff (by omega)).mp ⟨Int32.not_lt.mpr b1, b5⟩) h)
      have n5 := Int32.not_lt.mpr b5
      refine XP_n 1 (pc' := 12) (ls' := [.ref (80), .int (v)]) (st' := [.int (nI (0))]) (M' := (I, J, Rx R, N, G)) rfl ?_
      exact XP_ret rfl ⟨rfl, rfl⟩
theorem c_isIn {m t : Nat} (hm : m < 8) (ht : t < 3) (M : hM) : TP X d n_Bay_isIn [.int (nI t), .int (nI m)] M (Ret (.int (nI (tbt m t))) M) := by
  have hb := tbt_le m t
  unfold TP
  show XP X _ k_Bay_isIn 0 [.int (nI (t)), .int (nI (m))] [] _ _
  refine XP_n 5 (pc' := 5) (ls' := [.int (nI (t)), .int (nI (m))]) (st' := [.int (((nI (m)) >>> ((nI (t)) &&& 31)) &&& (nI (1)))]) (M' := M) rfl ?_
  rw [show ((nI (m)) >>> ((nI (t)) &&& 31)) &&& (nI (1)) = nI (tbt m t) from b_tbt (show m < 8 by omega) (show t < 3 by omega)]
  refine XP_ifN (x := tbt m t)  rfl (by omega) (fun (b5 : tbt m t = 0) => ?_) (fun (b5 : ¬ tbt m t = 0) => ?_)
  · refine XP_n 1 (pc' := 9) (ls' := [.int (nI (t)), .int (nI (m))]) (st' := [.int (nI (0))]) (M' := M) rfl ?_
    rw [show nI 0 = nI (tbt m t) by congr 1; omega]
    show XP X d k_Bay_isIn _ _ _ _ _
    exact XP_ret (by show (bif decide (nI (tbt m t) = 0) || decide (nI (tbt m t) = 1) then _ else _) = _; rw [show tbt m t = 0 by omega]; rfl) ⟨rfl, rfl⟩
  · refine XP_n 2 (pc' := 9) (ls' := [.int (nI (t)), .int (nI (m))]) (st' := [.int (nI (1))]) (M' := M) rfl ?_
    rw [show nI 1 = nI (tbt m t) by congr 1; omega]
    show XP X d k_Bay_isIn _ _ _ _ _
    exact XP_ret (by show (bif decide (nI (tbt m t) = 0) || decide (nI (tbt m t) = 1) then _ else _) = _; rw [show tbt m t = 1 by omega]; rfl) ⟨rfl, rfl⟩
theorem c_wallThen (hS : St s I) (hW : Wf s) {m t up : Nat} (hm : m < 8) (ht : t < cT s) (hup : up ≤ 30) (h7 : I 80 7 = nI up) : TP X (d + 1) n_Bay_wallThen [.ref 80, .int (nI t), .int (nI m)] (I, J, Rx R, N, G) (Ret (.int (nI (tW s up m t))) (I, J, Rx R, N, G)) := by
  have ht3 := hW.t.2
  have hb := tbt_le m t
  have hin : inN (nI t) (cT s) := nI_inN ht (by omega)
  unfold TP
  show XP X _ k_Bay_wallThen 0 [.ref (80), .int (nI (t)), .int (nI (m))] [] _ _
  refine XP_n 2 (pc' := 2) (ls' := [.ref (80), .int (nI (t)), .int (nI (m))]) (st' := [.int (nI (t)), .ref (80)]) (M' := (I, J, Rx R, N, G)) rfl ?_
  refine XP_pure rfl rfl (c_hasTown hS hW _) ?_
  refine XP_s rfl ?_
  refine XP_beq (fun b3 => absurd hin b3) (fun b3 => ?_)
  refine XP_n 3 (pc' := 7) (ls' := [.ref (80), .int (nI (t)), .int (nI (m))]) (st' := [.int (nI (t)), .ref (81)]) (M' := (I, J, Rx R, N, G)) rfl ?_
  refine XP_iald hS rfl rfl (show t < 3 by omega) rfl (by omega) rfl ?_
  obtain ⟨hq21, hr21⟩ := hW.tw (show t < cT s by omega)
  rw [hq21]
  refine XP_n 2 (pc' := 10) (ls' := [.ref (80), .int (nI (t)), .int (nI (m))]) (st' := [.int (nI (m)), .int (nI (t)), .int (nI (rTW s t))]) (M' := (I, J, Rx R, N, G)) rfl ?_
  refine XP_pure rfl rfl (c_isIn (show m < 8 by omega) (show t < 3 by omega) _) ?_
  have hbt11 := tbt_le (m) (t)
  refine XP_ifN (x := tbt m t)  rfl (by omega) (fun (b11 : tbt m t = 0) => ?_) (fun (b11 : ¬ tbt m t = 0) => ?_)
  · refine XP_n 3 (pc' := 19) (ls' := [.ref (80), .int (nI (t)), .int (nI (m))]) (st' := [.int ((nI (rTW s t)) + (nI (0)))]) (M' := (I, J, Rx R, N, G)) rfl ?_
    rw [show (nI (rTW s t)) + (nI (0)) = nI (rTW s t + 0) from nI_addE (rfl) (rfl)]
    exact XP_ret rfl ⟨by unfold tW; rw [if_pos (by omega)], rfl⟩
  · refine XP_n 2 (pc' := 14) (ls' := [.ref (80), .int (nI (t)), .int (nI (m))]) (st' := [.int (I 80 7), .int (nI (rTW s t))]) (M' := (I, J, Rx R, N, G)) rfl ?_
    rw [h7]
    refine XP_n 3 (pc' := 19) (ls' := [.ref (80), .int (nI (t)), .int (nI (m))]) (st' := [.int ((nI (rTW s t)) + (nI (up)))]) (M' := (I, J, Rx R, N, G)) rfl ?_
    rw [show (nI (rTW s t)) + (nI (up)) = nI (rTW s t + up) from nI_addE (rfl) (rfl)]
    exact XP_ret rfl ⟨by unfold tW; rw [if_neg (by omega)], rfl⟩
theorem m_wallThen (hS : St s I) (hW : Wf s) {m t up : Nat} (hm : m < 8) (ht : t < cT s) (hup : up ≤ 30) : TP X d n_M_wallThen [.ref 99, .int (nI t), .int (nI up), .int (nI m)] (I, J, Rx R, N, G) (Ret (.int (nI (tW s up m t))) (I, J, Rx R, N, G)) := by
  have ht3 := hW.t.2
  have hb := tbt_le m t
  unfold TP
  show XP X _ k_M_wallThen 0 [.ref (99), .int (nI (t)), .int (nI (up)), .int (nI (m))] [] _ _
  refine XP_n 3 (pc' := 3) (ls' := [.ref (99), .int (nI (t)), .int (nI (up)), .int (nI (m))]) (st' := [.int (nI (t)), .ref (114)]) (M' := (I, J, Rx R, N, G)) rfl ?_
  refine XP_iald hS rfl rfl (show t < 3 by omega) rfl (by omega) rfl ?_
  obtain ⟨hq22, hr22⟩ := hW.tw (show t < cT s by omega)
  rw [hq22]
  refine XP_n 6 (pc' := 10) (ls' := [.ref (99), .int (nI (t)), .int (nI (up)), .int (nI (m))]) (st' := [.int (nI (1)), .int (((nI (m)) >>> ((nI (t)) &&& 31)) &&& (nI (1))), .int (nI (rTW s t))]) (M' := (I, J, Rx R, N, G)) rfl ?_
  rw [show ((nI (m)) >>> ((nI (t)) &&& 31)) &&& (nI (1)) = nI (tbt m t) from b_tbt (show m < 8 by omega) (show t < 3 by omega)]
  refine XP_icN (x := tbt m t) (y := 1) rfl (by omega) (by omega) (fun (b10 : ¬ tbt m t = 1) => ?_) (fun (b10 : tbt m t = 1) => ?_)
  · refine XP_n 2 (pc' := 15) (ls' := [.ref (99), .int (nI (t)), .int (nI (up)), .int (nI (m))]) (st' := [.int ((nI (rTW s t)) + (nI (0)))]) (M' := (I, J, Rx R, N, G)) rfl ?_
    rw [show (nI (rTW s t)) + (nI (0)) = nI (rTW s t + 0) from nI_addE (rfl) (rfl)]
    exact XP_ret rfl ⟨by unfold tW; rw [if_pos (by omega)], rfl⟩
  · refine XP_n 3 (pc' := 15) (ls' := [.ref (99), .int (nI (t)), .int (nI (up)), .int (nI (m))]) (st' := [.int ((nI (rTW s t)) + (nI (up)))]) (M' := (I, J, Rx R, N, G)) rfl ?_
    rw [show (nI (rTW s t)) + (nI (up)) = nI (rTW s t + up) from nI_addE (rfl) (rfl)]
    exact XP_ret rfl ⟨by unfold tW; rw [if_neg (by omega)], rfl⟩
theorem l_pay {Q : Option Value → hM → Prop} (hS : St s I) (hW : Wf s) {m t p y up : Nat} (hm : m < 8) (ht : t < cT s) (hup : up ≤ 30) (hlv : nLv s p y ≤ 150) (h7 : I 80 7 = nI up) {w6 : Value} (kk : XP X (d + 4) k_Bay_payOf 35 [.ref (80), .int (nI (t)), .int (nI (m)), .int (nI (tW s up m t)), .int (nI (nLv s p y + sumN (tHi s up m t) (cT s))), .int (nI (cT s)), w6] [] (I, J, Rx R, N, G) Q) : ∀ (n i : Nat), i + n = cT s → XP X (d + 4) k_Bay_payOf 16 [.ref (80), .int (nI (t)), .int (nI (m)), .int (nI (tW s up m t)), .int (nI (nLv s p y + sumN (tHi s up m t) i)), .int (nI (i)), w6] [] (I, J, Rx R, N, G) Q := by
  have ht3 := hW.t.2
  have hpu9 := hW.pu.2
  have hp4 := hW.p.2
  have hy16 := hW.y.2
  intro n
  induction n with
  | zero =>
    rintro i hi
    obtain rfl : i = cT s := by omega
    refine XP_n 2 (pc' := 18) (ls' := [.ref (80), .int (nI (t)), .int (nI (m)), .int (nI (tW s up m t)), .int (nI (nLv s p y + sumN (tHi s up m t) (cT s))), .int (nI (cT s)), w6]) (st' := [.ref (80), .int (nI (cT s))]) (M' := (I, J, Rx R, N, G)) rfl ?_
    refine XP_geti hS rfl rfl rfl ?_
    rw [hW.t.1]
    refine XP_icN (x := cT s) (y := cT s) rfl (by omega) (by omega) (fun (b19 : cT s ≤ cT s) => ?_) (fun (b19 : cT s < cT s) => absurd b19 (by omega))
    exact kk
  | succ n ih =>
    rintro i hi
    have hhl := tHi_le hW up m t (show i ≤ cT s by omega)
    have hto := tW_le hW (up := up) (m := m) ht
    have es : sumN (tHi s up m t) (i + 1) = sumN (tHi s up m t) i + tHi s up m t i := rfl
    refine XP_n 2 (pc' := 18) (ls' := [.ref (80), .int (nI (t)), .int (nI (m)), .int (nI (tW s up m t)), .int (nI (nLv s p y + sumN (tHi s up m t) i)), .int (nI (i)), w6]) (st' := [.ref (80), .int (nI (i))]) (M' := (I, J, Rx R, N, G)) rfl ?_
    refine XP_geti hS rfl rfl rfl ?_
    rw [hW.t.1]
    refine XP_icN (x := i) (y := cT s) rfl (by omega) (by omega) (fun (b19 : cT s ≤ i) => absurd b19 (by omega)) (fun (b19 : i < cT s) => ?_)
    refine XP_n 3 (pc' := 23) (ls' := [.ref (80), .int (nI (t)), .int (nI (m)), .int (nI (tW s up m t)), .int (nI (nLv s p y + sumN (tHi s up m t) i)), .int (nI (i)), w6]) (st' := [.int (nI (m)), .int (nI (i)), .ref (80)]) (M' := (I, J, Rx R, N, G)) rfl ?_
    refine XP_pure rfl rfl (c_wallThen hS hW (show m < 8 by omega) (show i < cT s by omega) hup h7) ?_
    have htw5 := tW_le hW (up := up) (m := m) (show i < cT s by omega)
    refine XP_n 3 (pc' := 27) (ls' := [.ref (80), .int (nI (t)), .int (nI (m)), .int (nI (tW s up m t)), .int (nI (nLv s p y + sumN (tHi s up m t) i)), .int (nI (i)), w6]) (st' := [.int ((nI (tW s up m t)) + (nI (5))), .int (nI (tW s up m i))]) (M' := (I, J, Rx R, N, G)) rfl ?_
    rw [show (nI (tW s up m t)) + (nI (5)) = nI (tW s up m t + 5) from nI_addE (rfl) (rfl)]
    refine XP_icN (x := tW s up m i) (y := tW s up m t + 5) rfl (by omega) (by omega) (fun (b27 : tW s up m i ≤ tW s up m t + 5) => ?_) (fun (b27 : tW s up m t + 5 < tW s up m i) => ?_)
    · refine XP_n 1 (pc' := 34) (ls' := [.ref (80), .int (nI (t)), .int (nI (m)), .int (nI (tW s up m t)), .int (nI (nLv s p y + sumN (tHi s up m t) i)), .int (nI (i) + nI (1)), w6]) (st' := []) (M' := (I, J, Rx R, N, G)) rfl ?_
      rw [show nI (i) + nI (1) = nI (i + 1) from nI_addE (rfl) rfl]
      refine XP_n 1 (pc' := 16) (ls' := [.ref (80), .int (nI (t)), .int (nI (m)), .int (nI (tW s up m t)), .int (nI (nLv s p y + sumN (tHi s up m t) i)), .int (nI (i + 1)), w6]) (st' := []) (M' := (I, J, Rx R, N, G)) rfl ?_
      have ih2 := ih (i + 1) (by omega)
      rw [es, show tHi s up m t i = 0 by unfold tHi; rw [if_neg (by omega)]] at ih2
      exact ih2
    · refine XP_n 2 (pc' := 30) (ls' := [.ref (80), .int (nI (t)), .int (nI (m)), .int (nI (tW s up m t)), .int (nI (nLv s p y + sumN (tHi s up m t) i)), .int (nI (i)), w6]) (st' := [.ref (80), .int (nI (nLv s p y + sumN (tHi s up m t) i))]) (M' := (I, J, Rx R, N, G)) rfl ?_
      refine XP_geti hS rfl rfl rfl ?_
      rw [hW.pu.1]
      refine XP_n 2 (pc' := 33) (ls' := [.ref (80), .int (nI (t)), .int (nI (m)), .int (nI (tW s up m t)), .int ((nI (nLv s p y + sumN (tHi s up m t) i)) + (nI (cPu s))), .int (nI (i)), w6]) (st' := []) (M' := (I, J, Rx R, N, G)) rfl ?_
      rw [show (nI (nLv s p y + sumN (tHi s up m t) i)) + (nI (cPu s)) = nI (nLv s p y + sumN (tHi s up m t) i + cPu s) from nI_addE (rfl) (rfl)]
      refine XP_n 1 (pc' := 34) (ls' := [.ref (80), .int (nI (t)), .int (nI (m)), .int (nI (tW s up m t)), .int (nI (nLv s p y + sumN (tHi s up m t) i + cPu s)), .int (nI (i) + nI (1)), w6]) (st' := []) (M' := (I, J, Rx R, N, G)) rfl ?_
      rw [show nI (i) + nI (1) = nI (i + 1) from nI_addE (rfl) rfl]
      refine XP_n 1 (pc' := 16) (ls' := [.ref (80), .int (nI (t)), .int (nI (m)), .int (nI (tW s up m t)), .int (nI (nLv s p y + sumN (tHi s up m t) i + cPu s)), .int (nI (i + 1)), w6]) (st' := []) (M' := (I, J, Rx R, N, G)) rfl ?_
      have ih2 := ih (i + 1) (by omega)
      rw [es, show tHi s up m t i = cPu s by unfold tHi; rw [if_pos (by omega)], ← Nat.add_assoc] at ih2
      exact ih2
theorem c_payOf (hI : Inv s R N I J) {m t p y up : Nat} (hm : m < 8) (ht : t < cT s) (hup : up ≤ 30) (hy : y < cY s) (hlv : nLv s p y ≤ 150) (h5 : I 80 5 = nI (nLv s p y)) (h6 : I 80 6 = nI y) (h7 : I 80 7 = nI up) : TP X (d + 4) n_Bay_payOf [.ref 80, .int (nI t), .int (nI m)] (I, J, Rx R, N, G) (fun v M' => v = some (.long (lN (tPay s p y up m t))) ∧ ∃ I', M' = (I', J, Rx R, N, G) ∧ Inv s R N I' J ∧ Only [oT (cLw s) + 3, oT (cLw s) + 2] I I') := by
  obtain ⟨hS, hW, hL, hC, hch⟩ := id hI
  have ht3 := hW.t.2
  have hpu9 := hW.pu.2
  have hp4 := hW.p.2
  have hy16 := hW.y.2
  have hin : inN (nI t) (cT s) := nI_inN ht (by omega)
  have hhl := tHi_le hW up m t (Nat.le_refl (cT s))
  have hto := tW_le hW (up := up) (m := m) ht
  unfold TP
  show XP X _ k_Bay_payOf 0 [.ref (80), .int (nI (t)), .int (nI (m)), xj, xj, xj, xj] [] _ _
  refine XP_n 2 (pc' := 2) (ls' := [.ref (80), .int (nI (t)), .int (nI (m)), xj, xj, xj, xj]) (st' := [.int (nI (t)), .ref (80)]) (M' := (I, J, Rx R, N, G)) rfl ?_
  refine XP_pure rfl rfl (c_hasTown hS hW _) ?_
  refine XP_s rfl ?_
  refine XP_bne (fun b3 => ?_) (fun b3 => absurd hin b3)
  refine XP_n 3 (pc' := 9) (ls' := [.ref (80), .int (nI (t)), .int (nI (m)), xj, xj, xj, xj]) (st' := [.int (nI (m)), .int (nI (t)), .ref (80)]) (M' := (I, J, Rx R, N, G)) rfl ?_
  refine XP_pure rfl rfl (c_wallThen hS hW (show m < 8 by omega) (show t < cT s by omega) hup h7) ?_
  have htw7 := tW_le hW (up := up) (m := m) (show t < cT s by omega)
  refine XP_n 3 (pc' := 13) (ls' := [.ref (80), .int (nI (t)), .int (nI (m)), .int (nI (tW s up m t)), xj, xj, xj]) (st' := [.int (I 80 5)]) (M' := (I, J, Rx R, N, G)) rfl ?_
  rw [h5]
  refine XP_n 3 (pc' := 16) (ls' := [.ref (80), .int (nI (t)), .int (nI (m)), .int (nI (tW s up m t)), .int (nI (nLv s p y)), .int (nI (0)), xj]) (st' := []) (M' := (I, J, Rx R, N, G)) rfl ?_
  refine l_pay hS hW hm ht hup hlv h7 ?_ (cT s) 0 (by omega)
  refine XP_n 6 (pc' := 41) (ls' := [.ref (80), .int (nI (t)), .int (nI (m)), .int (nI (tW s up m t)), .int (nI (nLv s p y + sumN (tHi s up m t) (cT s))), .int (nI (cT s)), xj]) (st' := [.int (I 80 6), .int (nI (tW s up m t)), .int (nI (nLv s p y + sumN (tHi s up m t) (cT s))), .ref (1)]) (M' := (I, J, Rx R, N, G)) rfl ?_
  rw [h6]
  refine XP_n 3 (pc' := 44) (ls' := [.ref (80), .int (nI (t)), .int (nI (m)), .int (nI (tW s up m t)), .int (nI (nLv s p y + sumN (tHi s up m t) (cT s))), .int (nI (cT s)), xj]) (st' := [.int (nI (t)), .ref (82), .int (nI (y)), .int (nI (tW s up m t)), .int (nI (nLv s p y + sumN (tHi s up m t) (cT s))), .ref (1)]) (M' := (I, J, Rx R, N, G)) rfl ?_
  refine XP_iald hS rfl rfl (show t < 3 by omega) rfl (by omega) rfl ?_
  obtain ⟨hq23, hr23⟩ := hW.tr (show t < cT s by omega)
  rw [hq23]
  refine XP_call rfl (rfl) (c_harm hS hW hL (by omega) (by omega) _ _) ?_
  rintro v24 M24 ⟨rfl, I24, rfl, hO24⟩
  have hS24 : St s I24 := St_only hS hO24 (lw_scr hW)
  have f24_80_5 : I24 80 5 = nI (nLv s p y) := (congrFun (hO24 80 (by have := oT_ge (cLw s); simp; omega)) 5).trans h5
  have f24_80_6 : I24 80 6 = nI (y) := (congrFun (hO24 80 (by have := oT_ge (cLw s); simp; omega)) 6).trans h6
  have f24_80_7 : I24 80 7 = nI (up) := (congrFun (hO24 80 (by have := oT_ge (cLw s); simp; omega)) 7).trans h7
  have hn24 : Only [oT (cLw s) + 3, oT (cLw s) + 2] I I24 := Only.c Only.rf hO24 (by simp)
  have hI24 : Inv s R N I24 J := hI.c (hO24.sub (by simp)) OnlyJ.rf
  rw [(nHarm_ok hW (nLv s p y + sumN (tHi s up m t) (cT s)) (tW s up m t) (y) (nI (rTR s t))).1]
  have hn24_ := (nHarm_ok hW (nLv s p y + sumN (tHi s up m t) (cT s)) (tW s up m t) (y) (nI (rTR s t))).2
  refine XP_n 3 (pc' := 49) (ls' := [.ref (80), .int (nI (t)), .int (nI (m)), .int (nI (tW s up m t)), .int (nI (nLv s p y + sumN (tHi s up m t) (cT s))), .long (lN (nHarm s (nLv s p y + sumN (tHi s up m t) (cT s)) (tW s up m t) (y) (nI (rTR s t)))), xj]) (st' := [.int (nI (m)), .int (nI (t))]) (M' := (I24, J, Rx R, N, G)) rfl ?_
  refine XP_pure rfl rfl (c_isIn (show m < 8 by omega) (show t < 3 by omega) _) ?_
  have hbt17 := tbt_le (m) (t)
  refine XP_ifN (x := tbt m t)  rfl (by omega) (fun (b50 : ¬ tbt m t = 0) => ?_) (fun (b50 : tbt m t = 0) => ?_)
  · refine XP_n 6 (pc' := 59) (ls' := [.ref (80), .int (nI (t)), .int (nI (m)), .int (nI (tW s up m t)), .int (nI (nLv s p y + sumN (tHi s up m t) (cT s))), .long (lN (nHarm s (nLv s p y + sumN (tHi s up m t) (cT s)) (tW s up m t) (y) (nI (rTR s t)))), xj]) (st' := [.int (I24 80 7), .ref (1), .long (lN (1000)), .long (lN (nHarm s (nLv s p y + sumN (tHi s up m t) (cT s)) (tW s up m t) (y) (nI (rTR s t))))]) (M' := (I24, J, Rx R, N, G)) rfl ?_
    rw [f24_80_7]
    refine XP_n 3 (pc' := 62) (ls' := [.ref (80), .int (nI (t)), .int (nI (m)), .int (nI (tW s up m t)), .int (nI (nLv s p y + sumN (tHi s up m t) (cT s))), .long (lN (nHarm s (nLv s p y + sumN (tHi s up m t) (cT s)) (tW s up m t) (y) (nI (rTR s t)))), xj]) (st' := [.int (nI (t)), .ref (81), .int (nI (up)), .ref (1), .long (lN (1000)), .long (lN (nHarm s (nLv s p y + sumN (tHi s up m t) (cT s)) (tW s up m t) (y) (nI (rTR s t))))]) (M' := (I24, J, Rx R, N, G)) rfl ?_
    refine XP_iald hS24 rfl rfl (show t < 3 by omega) rfl (by omega) rfl ?_
    obtain ⟨hq25, hr25⟩ := hW.tw (show t < cT s by omega)
    rw [hq25]
    refine XP_n 2 (pc' := 65) (ls' := [.ref (80), .int (nI (t)), .int (nI (m)), .int (nI (tW s up m t)), .int (nI (nLv s p y + sumN (tHi s up m t) (cT s))), .long (lN (nHarm s (nLv s p y + sumN (tHi s up m t) (cT s)) (tW s up m t) (y) (nI (rTR s t)))), xj]) (st' := [.int (I24 80 6), .int (nI (rTW s t)), .int (nI (up)), .ref (1), .long (lN (1000)), .long (lN (nHarm s (nLv s p y + sumN (tHi s up m t) (cT s)) (tW s up m t) (y) (nI (rTR s t))))]) (M' := (I24, J, Rx R, N, G)) rfl ?_
    rw [f24_80_6]
    refine XP_n 3 (pc' := 68) (ls' := [.ref (80), .int (nI (t)), .int (nI (m)), .int (nI (tW s up m t)), .int (nI (nLv s p y + sumN (tHi s up m t) (cT s))), .long (lN (nHarm s (nLv s p y + sumN (tHi s up m t) (cT s)) (tW s up m t) (y) (nI (rTR s t)))), xj]) (st' := [.int (nI (t)), .ref (82), .int (nI (y)), .int (nI (rTW s t)), .int (nI (up)), .ref (1), .long (lN (1000)), .long (lN (nHarm s (nLv s p y + sumN (tHi s up m t) (cT s)) (tW s up m t) (y) (nI (rTR s t))))]) (M' := (I24, J, Rx R, N, G)) rfl ?_
    refine XP_iald hS24 rfl rfl (show t < 3 by omega) rfl (by omega) rfl ?_
    obtain ⟨hq26, hr26⟩ := hW.tr (show t < cT s by omega)
    rw [hq26]
    refine XP_n 2 (pc' := 71) (ls' := [.ref (80), .int (nI (t)), .int (nI (m)), .int (nI (tW s up m t)), .int (nI (nLv s p y + sumN (tHi s up m t) (cT s))), .long (lN (nHarm s (nLv s p y + sumN (tHi s up m t) (cT s)) (tW s up m t) (y) (nI (rTR s t)))), xj]) (st' := [.ref (1), .int (nI (rTR s t)), .int (nI (y)), .int (nI (rTW s t)), .int (nI (up)), .ref (1), .long (lN (1000)), .long (lN (nHarm s (nLv s p y + sumN (tHi s up m t) (cT s)) (tW s up m t) (y) (nI (rTR s t))))]) (M' := (I24, J, Rx R, N, G)) rfl ?_
    refine XP_geti hS24 rfl rfl rfl ?_
    rw [hL.2.2.2.2.2.2]
    refine XP_call rfl (rfl) (c_cost hS24 hW hL _ _ _ _ _) ?_
    rintro v27 M27 ⟨rfl, I27, rfl, hO27⟩
    have hS27 : St s I27 := St_only hS24 hO27 (lw_scr hW)
    have f27_80_5 : I27 80 5 = nI (nLv s p y) := (congrFun (hO27 80 (by have := oT_ge (cLw s); simp; omega)) 5).trans f24_80_5
    have f27_80_6 : I27 80 6 = nI (y) := (congrFun (hO27 80 (by have := oT_ge (cLw s); simp; omega)) 6).trans f24_80_6
    have f27_80_7 : I27 80 7 = nI (up) := (congrFun (hO27 80 (by have := oT_ge (cLw s); simp; omega)) 7).trans f24_80_7
    have hn27 : Only [oT (cLw s) + 3, oT (cLw s) + 2] I I27 := Only.c hn24 hO27 (by simp)
    have hI27 : Inv s R N I27 J := hI24.c (hO27.sub (by simp)) OnlyJ.rf
    rw [(nCost_ok (s := s) (s 99 3) (up) (rTW s t) (y) (nI (rTR s t))).1]
    have hn27_ := (nCost_ok (s := s) (s 99 3) (up) (rTW s t) (y) (nI (rTR s t))).2
    refine XP_n 3 (pc' := 76) (ls' := [.ref (80), .int (nI (t)), .int (nI (m)), .int (nI (tW s up m t)), .int (nI (nLv s p y + sumN (tHi s up m t) (cT s))), .long (lN (nHarm s (nLv s p y + sumN (tHi s up m t) (cT s)) (tW s up m t) (y) (nI (rTR s t)))), xj]) (st' := [.long ((lN (nHarm s (nLv s p y + sumN (tHi s up m t) (cT s)) (tW s up m t) (y) (nI (rTR s t)))) + ((lN (1000)) * ((nI (nCost s (s 99 3) (up) (rTW s t) (y) (nI (rTR s t)))).toInt64)))]) (M' := (I27, J, Rx R, N, G)) rfl ?_
    rw [show (lN (nHarm s (nLv s p y + sumN (tHi s up m t) (cT s)) (tW s up m t) (y) (nI (rTR s t)))) + ((lN (1000)) * ((nI (nCost s (s 99 3) (up) (rTW s t) (y) (nI (rTR s t)))).toInt64)) = lN (nHarm s (nLv s p y + sumN (tHi s up m t) (cT s)) (tW s up m t) (y) (nI (rTR s t)) + ((1000) * (nCost s (s 99 3) (up) (rTW s t) (y) (nI (rTR s t))))) from lN_addE (rfl) (lN_mulE (rfl) (nI_lE (rfl) (by omega)))]
    exact XP_ret rfl ⟨by unfold tPay; rw [if_neg (by omega)], _, rfl, hI27, hn27⟩
  · refine XP_n 1 (pc' := 52) (ls' := [.ref (80), .int (nI (t)), .int (nI (m)), .int (nI (tW s up m t)), .int (nI (nLv s p y + sumN (tHi s up m t) (cT s))), .long (lN (nHarm s (nLv s p y + sumN (tHi s up m t) (cT s)) (tW s up m t) (y) (nI (rTR s t)))), xj]) (st' := [.long (lN (nHarm s (nLv s p y + sumN (tHi s up m t) (cT s)) (tW s up m t) (y) (nI (rTR s t))))]) (M' := (I24, J, Rx R, N, G)) rfl ?_
    exact XP_ret rfl ⟨by unfold tPay; rw [if_pos (by omega), Nat.add_zero], _, rfl, hI24, hn24⟩
theorem l_Mpay {Q : Option Value → hM → Prop} (hS : St s I) (hW : Wf s) {m t p y up : Nat} (hm : m < 8) (ht : t < cT s) (hup : up ≤ 30) (kk : XP X (d + 4) k_M_paysOf 32 [.ref (99), .int (nI (t)), .int (nI (p)), .int (nI (y)), .int (nI (up)), .int (nI (m)), .int (nI (tW s up m t)), .int (nI (sumN (tHi s up m t) (cT s))), .int (nI (cT s)), xj] [] (I, J, Rx R, N, G) Q) : ∀ (n i : Nat), i + n = cT s → XP X (d + 4) k_M_paysOf 10 [.ref (99), .int (nI (t)), .int (nI (p)), .int (nI (y)), .int (nI (up)), .int (nI (m)), .int (nI (tW s up m t)), .int (nI (sumN (tHi s up m t) i)), .int (nI (i)), xj] [] (I, J, Rx R, N, G) Q := by
  have ht3 := hW.t.2
  have hpu9 := hW.pu.2
  have hp4 := hW.p.2
  have hy16 := hW.y.2
  intro n
  induction n with
  | zero =>
    rintro i hi
    obtain rfl : i = cT s := by omega
    refine XP_n 2 (pc' := 12) (ls' := [.ref (99), .int (nI (t)), .int (nI (p)), .int (nI (y)), .int (nI (up)), .int (nI (m)), .int (nI (tW s up m t)), .int (nI (sumN (tHi s up m t) (cT s))), .int (nI (cT s)), xj]) (st' := [.ref (99), .int (nI (cT s))]) (M' := (I, J, Rx R, N, G)) rfl ?_
    refine XP_geti hS rfl rfl rfl ?_
    rw [hW.t.1]
    refine XP_icN (x := cT s) (y := cT s) rfl (by omega) (by omega) (fun (b13 : cT s ≤ cT s) => ?_) (fun (b13 : cT s < cT s) => absurd b13 (by omega))
    exact kk
  | succ n ih =>
    rintro i hi
    have hhl := tHi_le hW up m t (show i ≤ cT s by omega)
    have hto := tW_le hW (up := up) (m := m) ht
    have es : sumN (tHi s up m t) (i + 1) = sumN (tHi s up m t) i + tHi s up m t i := rfl
    refine XP_n 2 (pc' := 12) (ls' := [.ref (99), .int (nI (t)), .int (nI (p)), .int (nI (y)), .int (nI (up)), .int (nI (m)), .int (nI (tW s up m t)), .int (nI (sumN (tHi s up m t) i)), .int (nI (i)), xj]) (st' := [.ref (99), .int (nI (i))]) (M' := (I, J, Rx R, N, G)) rfl ?_
    refine XP_geti hS rfl rfl rfl ?_
    rw [hW.t.1]
    refine XP_icN (x := i) (y := cT s) rfl (by omega) (by omega) (fun (b13 : cT s ≤ i) => absurd b13 (by omega)) (fun (b13 : i < cT s) => ?_)
    refine XP_n 5 (pc' := 19) (ls' := [.ref (99), .int (nI (t)), .int (nI (p)), .int (nI (y)), .int (nI (up)), .int (nI (m)), .int (nI (tW s up m t)), .int (nI (sumN (tHi s up m t) i)), .int (nI (i)), xj]) (st' := [.int (nI (m)), .int (nI (up)), .int (nI (i)), .ref (99), .int (nI (sumN (tHi s up m t) i))]) (M' := (I, J, Rx R, N, G)) rfl ?_
    refine XP_pure rfl rfl (m_wallThen hS hW (show m < 8 by omega) (show i < cT s by omega) hup) ?_
    have htw5 := tW_le hW (up := up) (m := m) (show i < cT s by omega)
    refine XP_n 3 (pc' := 23) (ls' := [.ref (99), .int (nI (t)), .int (nI (p)), .int (nI (y)), .int (nI (up)), .int (nI (m)), .int (nI (tW s up m t)), .int (nI (sumN (tHi s up m t) i)), .int (nI (i)), xj]) (st' := [.int ((nI (tW s up m t)) + (nI (5))), .int (nI (tW s up m i)), .int (nI (sumN (tHi s up m t) i))]) (M' := (I, J, Rx R, N, G)) rfl ?_
    rw [show (nI (tW s up m t)) + (nI (5)) = nI (tW s up m t + 5) from nI_addE (rfl) (rfl)]
    refine XP_icN (x := tW s up m i) (y := tW s up m t + 5) rfl (by omega) (by omega) (fun (b23 : tW s up m i ≤ tW s up m t + 5) => ?_) (fun (b23 : tW s up m t + 5 < tW s up m i) => ?_)
    · refine XP_n 3 (pc' := 30) (ls' := [.ref (99), .int (nI (t)), .int (nI (p)), .int (nI (y)), .int (nI (up)), .int (nI (m)), .int (nI (tW s up m t)), .int ((nI (sumN (tHi s up m t) i)) + (nI (0))), .int (nI (i)), xj]) (st' := []) (M' := (I, J, Rx R, N, G)) rfl ?_
      rw [show (nI (sumN (tHi s up m t) i)) + (nI (0)) = nI (sumN (tHi s up m t) i + 0) from nI_addE (rfl) (rfl)]
      refine XP_n 1 (pc' := 31) (ls' := [.ref (99), .int (nI (t)), .int (nI (p)), .int (nI (y)), .int (nI (up)), .int (nI (m)), .int (nI (tW s up m t)), .int (nI (sumN (tHi s up m t) i + 0)), .int (nI (i) + nI (1)), xj]) (st' := []) (M' := (I, J, Rx R, N, G)) rfl ?_
      rw [show nI (i) + nI (1) = nI (i + 1) from nI_addE (rfl) rfl]
      refine XP_n 1 (pc' := 10) (ls' := [.ref (99), .int (nI (t)), .int (nI (p)), .int (nI (y)), .int (nI (up)), .int (nI (m)), .int (nI (tW s up m t)), .int (nI (sumN (tHi s up m t) i + 0)), .int (nI (i + 1)), xj]) (st' := []) (M' := (I, J, Rx R, N, G)) rfl ?_
      have ih2 := ih (i + 1) (by omega)
      rw [es, show tHi s up m t i = 0 by unfold tHi; rw [if_neg (by omega)]] at ih2
      exact ih2
    · refine XP_n 1 (pc' := 25) (ls' := [.ref (99), .int (nI (t)), .int (nI (p)), .int (nI (y)), .int (nI (up)), .int (nI (m)), .int (nI (tW s up m t)), .int (nI (sumN (tHi s up m t) i)), .int (nI (i)), xj]) (st' := [.ref (99), .int (nI (sumN (tHi s up m t) i))]) (M' := (I, J, Rx R, N, G)) rfl ?_
      refine XP_geti hS rfl rfl rfl ?_
      rw [hW.pu.1]
      refine XP_n 3 (pc' := 30) (ls' := [.ref (99), .int (nI (t)), .int (nI (p)), .int (nI (y)), .int (nI (up)), .int (nI (m)), .int (nI (tW s up m t)), .int ((nI (sumN (tHi s up m t) i)) + (nI (cPu s))), .int (nI (i)), xj]) (st' := []) (M' := (I, J, Rx R, N, G)) rfl ?_
      rw [show (nI (sumN (tHi s up m t) i)) + (nI (cPu s)) = nI (sumN (tHi s up m t) i + cPu s) from nI_addE (rfl) (rfl)]
      refine XP_n 1 (pc' := 31) (ls' := [.ref (99), .int (nI (t)), .int (nI (p)), .int (nI (y)), .int (nI (up)), .int (nI (m)), .int (nI (tW s up m t)), .int (nI (sumN (tHi s up m t) i + cPu s)), .int (nI (i) + nI (1)), xj]) (st' := []) (M' := (I, J, Rx R, N, G)) rfl ?_
      rw [show nI (i) + nI (1) = nI (i + 1) from nI_addE (rfl) rfl]
      refine XP_n 1 (pc' := 10) (ls' := [.ref (99), .int (nI (t)), .int (nI (p)), .int (nI (y)), .int (nI (up)), .int (nI (m)), .int (nI (tW s up m t)), .int (nI (sumN (tHi s up m t) i + cPu s)), .int (nI (i + 1)), xj]) (st' := []) (M' := (I, J, Rx R, N, G)) rfl ?_
      have ih2 := ih (i + 1) (by omega)
      rw [es, show tHi s up m t i = cPu s by unfold tHi; rw [if_pos (by omega)]] at ih2
      exact ih2
theorem m_paysOf (hI : Inv s R N I J) {m t p y up : Nat} (hm : m < 8) (ht : t < cT s) (hup : up ≤ 30) (hy : y < cY s) (hp : p < cP s) : TP X (d + 4) n_M_paysOf [.ref 99, .int (nI t), .int (nI p), .int (nI y), .int (nI up), .int (nI m)] (I, J, Rx R, N, G) (QP s R N G (.long (lN (tPay s p y up m t)))) := by
  obtain ⟨hS, hW, hL, hC, hch⟩ := id hI
  have ht3 := hW.t.2
  have hpu9 := hW.pu.2
  have hp4 := hW.p.2
  have hy16 := hW.y.2
  have hhl := tHi_le hW up m t (Nat.le_refl (cT s))
  have hto := tW_le hW (up := up) (m := m) ht
  have hb := tbt_le m t
  unfold TP
  show XP X _ k_M_paysOf 0 [.ref (99), .int (nI (t)), .int (nI (p)), .int (nI (y)), .int (nI (up)), .int (nI (m)), xj, xj, xj, xj] [] _ _
  refine XP_n 4 (pc' := 4) (ls' := [.ref (99), .int (nI (t)), .int (nI (p)), .int (nI (y)), .int (nI (up)), .int (nI (m)), xj, xj, xj, xj]) (st' := [.int (nI (m)), .int (nI (up)), .int (nI (t)), .ref (99)]) (M' := (I, J, Rx R, N, G)) rfl ?_
  refine XP_pure rfl rfl (m_wallThen hS hW (show m < 8 by omega) (show t < cT s by omega) hup) ?_
  have htw3 := tW_le hW (up := up) (m := m) (show t < cT s by omega)
  refine XP_n 5 (pc' := 10) (ls' := [.ref (99), .int (nI (t)), .int (nI (p)), .int (nI (y)), .int (nI (up)), .int (nI (m)), .int (nI (tW s up m t)), .int (nI (0)), .int (nI (0)), xj]) (st' := []) (M' := (I, J, Rx R, N, G)) rfl ?_
  refine l_Mpay hS hW hm ht hup ?_ (cT s) 0 (by omega)
  refine XP_n 4 (pc' := 36) (ls' := [.ref (99), .int (nI (t)), .int (nI (p)), .int (nI (y)), .int (nI (up)), .int (nI (m)), .int (nI (tW s up m t)), .int (nI (sumN (tHi s up m t) (cT s))), .int (nI (cT s)), xj]) (st' := [.int (nI (y)), .int (nI (p)), .ref (99), .ref (99)]) (M' := (I, J, Rx R, N, G)) rfl ?_
  refine XP_pure rfl rfl (m_lv hS hW (show p < cP s by omega) (by omega)) ?_
  have hlv28 := (nLv_ok hW (show p < cP s by omega) (show y ≤ 15 by omega)).2
  refine XP_n 7 (pc' := 44) (ls' := [.ref (99), .int (nI (t)), .int (nI (p)), .int (nI (y)), .int (nI (up)), .int (nI (m)), .int (nI (tW s up m t)), .int (nI (sumN (tHi s up m t) (cT s))), .int (nI (cT s)), xj]) (st' := [.int (nI (t)), .ref (115), .int (nI (tW s up m t)), .int (nI (y)), .int ((nI (nLv s (p) (y))) + (nI (sumN (tHi s up m t) (cT s)))), .ref (99)]) (M' := (I, J, Rx R, N, G)) rfl ?_
  rw [show (nI (nLv s (p) (y))) + (nI (sumN (tHi s up m t) (cT s))) = nI (nLv s (p) (y) + (sumN (tHi s up m t) (cT s))) from nI_addE (rfl) (rfl)]
  refine XP_iald hS rfl rfl (show t < 3 by omega) rfl (by omega) rfl ?_
  obtain ⟨hq29, hr29⟩ := hW.tr (show t < cT s by omega)
  rw [hq29]
  refine XP_call rfl (rfl) (q_M_harm hI _ _ _ _) ?_
  rintro v30 M30 ⟨rfl, I30, J30, rfl, hI30⟩
  rw [(nHarm_ok hW (nLv s (p) (y) + (sumN (tHi s up m t) (cT s))) (tW s up m t) (y) (nI (rTR s t))).1]
  have hn30_ := (nHarm_ok hW (nLv s (p) (y) + (sumN (tHi s up m t) (cT s))) (tW s up m t) (y) (nI (rTR s t))).2
  refine XP_n 7 (pc' := 53) (ls' := [.ref (99), .int (nI (t)), .int (nI (p)), .int (nI (y)), .int (nI (up)), .int (nI (m)), .int (nI (tW s up m t)), .int (nI (sumN (tHi s up m t) (cT s))), .long (lN (nHarm s (nLv s (p) (y) + (sumN (tHi s up m t) (cT s))) (tW s up m t) (y) (nI (rTR s t)))), xj]) (st' := [.int (nI (1)), .int (((nI (m)) >>> ((nI (t)) &&& 31)) &&& (nI (1)))]) (M' := (I30, J30, Rx R, N, G)) rfl ?_
  rw [show ((nI (m)) >>> ((nI (t)) &&& 31)) &&& (nI (1)) = nI (tbt m t) from b_tbt (show m < 8 by omega) (show t < 3 by omega)]
  refine XP_icN (x := tbt m t) (y := 1) rfl (by omega) (by omega) (fun (b53 : ¬ tbt m t = 1) => ?_) (fun (b53 : tbt m t = 1) => ?_)
  · refine XP_n 1 (pc' := 73) (ls' := [.ref (99), .int (nI (t)), .int (nI (p)), .int (nI (y)), .int (nI (up)), .int (nI (m)), .int (nI (tW s up m t)), .int (nI (sumN (tHi s up m t) (cT s))), .long (lN (nHarm s (nLv s (p) (y) + (sumN (tHi s up m t) (cT s))) (tW s up m t) (y) (nI (rTR s t)))), xj]) (st' := [.long (lN (nHarm s (nLv s (p) (y) + (sumN (tHi s up m t) (cT s))) (tW s up m t) (y) (nI (rTR s t))))]) (M' := (I30, J30, Rx R, N, G)) rfl ?_
    exact XP_ret rfl ⟨by unfold tPay; rw [if_pos (by omega), Nat.add_zero], _, _, rfl, hI30⟩
  · refine XP_n 7 (pc' := 61) (ls' := [.ref (99), .int (nI (t)), .int (nI (p)), .int (nI (y)), .int (nI (up)), .int (nI (m)), .int (nI (tW s up m t)), .int (nI (sumN (tHi s up m t) (cT s))), .long (lN (nHarm s (nLv s (p) (y) + (sumN (tHi s up m t) (cT s))) (tW s up m t) (y) (nI (rTR s t)))), xj]) (st' := [.int (nI (t)), .ref (114), .int (nI (up)), .ref (99), .long (lN (1000)), .long (lN (nHarm s (nLv s (p) (y) + (sumN (tHi s up m t) (cT s))) (tW s up m t) (y) (nI (rTR s t))))]) (M' := (I30, J30, Rx R, N, G)) rfl ?_
    refine XP_iald hI30.1 rfl rfl (show t < 3 by omega) rfl (by omega) rfl ?_
    obtain ⟨hq31, hr31⟩ := hW.tw (show t < cT s by omega)
    rw [hq31]
    refine XP_n 4 (pc' := 66) (ls' := [.ref (99), .int (nI (t)), .int (nI (p)), .int (nI (y)), .int (nI (up)), .int (nI (m)), .int (nI (tW s up m t)), .int (nI (sumN (tHi s up m t) (cT s))), .long (lN (nHarm s (nLv s (p) (y) + (sumN (tHi s up m t) (cT s))) (tW s up m t) (y) (nI (rTR s t)))), xj]) (st' := [.int (nI (t)), .ref (115), .int (nI (y)), .int (nI (rTW s t)), .int (nI (up)), .ref (99), .long (lN (1000)), .long (lN (nHarm s (nLv s (p) (y) + (sumN (tHi s up m t) (cT s))) (tW s up m t) (y) (nI (rTR s t))))]) (M' := (I30, J30, Rx R, N, G)) rfl ?_
    refine XP_iald hI30.1 rfl rfl (show t < 3 by omega) rfl (by omega) rfl ?_
    obtain ⟨hq32, hr32⟩ := hW.tr (show t < cT s by omega)
    rw [hq32]
    refine XP_call rfl (rfl) (q_M_cost hI30 _ _ _ _) ?_
    rintro v33 M33 ⟨rfl, I33, J33, rfl, hI33⟩
    rw [(nCost_ok (s := s) (s 99 3) (up) (rTW s t) (y) (nI (rTR s t))).1]
    have hn33_ := (nCost_ok (s := s) (s 99 3) (up) (rTW s t) (y) (nI (rTR s t))).2
    refine XP_n 4 (pc' := 73) (ls' := [.ref (99), .int (nI (t)), .int (nI (p)), .int (nI (y)), .int (nI (up)), .int (nI (m)), .int (nI (tW s up m t)), .int (nI (sumN (tHi s up m t) (cT s))), .long (lN (nHarm s (nLv s (p) (y) + (sumN (tHi s up m t) (cT s))) (tW s up m t) (y) (nI (rTR s t)))), xj]) (st' := [.long ((lN (nHarm s (nLv s (p) (y) + (sumN (tHi s up m t) (cT s))) (tW s up m t) (y) (nI (rTR s t)))) + ((lN (1000)) * ((nI (nCost s (s 99 3) (up) (rTW s t) (y) (nI (rTR s t)))).toInt64)))]) (M' := (I33, J33, Rx R, N, G)) rfl ?_
    rw [show (lN (nHarm s (nLv s (p) (y) + (sumN (tHi s up m t) (cT s))) (tW s up m t) (y) (nI (rTR s t)))) + ((lN (1000)) * ((nI (nCost s (s 99 3) (up) (rTW s t) (y) (nI (rTR s t)))).toInt64)) = lN (nHarm s (nLv s (p) (y) + (sumN (tHi s up m t) (cT s))) (tW s up m t) (y) (nI (rTR s t)) + ((1000) * (nCost s (s 99 3) (up) (rTW s t) (y) (nI (rTR s t))))) from lN_addE (rfl) (lN_mulE (rfl) (nI_lE (rfl) (by omega)))]
    exact XP_ret rfl ⟨by unfold tPay; rw [if_neg (by omega)], _, _, rfl, hI33⟩
end
