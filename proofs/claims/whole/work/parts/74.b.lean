/-! faces: one wall for some towns -/
def oUp (s : Nat → Nat → Int32) (l m most : Nat) : Nat → Nat
  | 0 => 0
  | n + 1 => if tbt m n = 0 then oUp s l m most n else max (oUp s l m most n) (gNeed s (nI l) (nI (rTW s n)) (nI most))
def oLo (s : Nat → Nat → Int32) (m : Nat) : Nat → Nat
  | 0 => 99
  | n + 1 => if tbt m n = 0 then oLo s m n else min (oLo s m n) (rTW s n)
def oRi (s : Nat → Nat → Int32) (m : Nat) : Nat → Nat
  | 0 => 0
  | n + 1 => if tbt m n = 0 then oRi s m n else oRi s m n + rTR s n
theorem iv_nat2 {lo hi : Nat} {v : Int32} (h : iv lo hi v) (hl : lo < 2147483648) (hh : hi < 2147483647) : ∃ n, lo ≤ n ∧ n ≤ hi ∧ v = nI n ∧ wN v = n := by
  have h1 : nI lo ≤ nI hi := Int32.le_trans h.1 h.2
  exact iv_nat h ((nI_leI hl (by omega)).mp h1) hh
theorem gNeed_le (s : Nat → Nat → Int32) (l h m : Int32) : gNeed s l h m ≤ 20 := by
  have := sNeed_le s (cS s) l h m 20 0
  unfold gNeed
  omega
theorem oUp_le (s : Nat → Nat → Int32) (l m most : Nat) : ∀ n, oUp s l m most n ≤ 20
  | 0 => by simp [oUp]
  | n + 1 => by
    have h1 := oUp_le s l m most n
    have h2 := gNeed_le s (nI l) (nI (rTW s n)) (nI most)
    unfold oUp
    split <;> omega
theorem oLo_le (s : Nat → Nat → Int32) (m : Nat) : ∀ n, oLo s m n ≤ 99
  | 0 => by simp [oLo]
  | n + 1 => by
    have h1 := oLo_le s m n
    unfold oLo
    split <;> omega
theorem oRi_le {s : Nat → Nat → Int32} (hW : Wf s) (m : Nat) : ∀ n, n ≤ cT s → oRi s m n ≤ n * 999
  | 0, _ => by simp [oRi]
  | n + 1, hn => by
    have h1 := oRi_le hW m n (by omega)
    have h2 := (hW.tr (show n < cT s by omega)).2
    unfold oRi
    rw [Nat.add_mul]
    split
    · exact Nat.le_trans h1 (Nat.le_add_right _ _)
    · exact Nat.add_le_add h1 (by omega)
/-- what one wall costs -/
def oCo (s : Nat → Nat → Int32) (p y m most : Nat) : Int32 := gCost s (s 99 3) (nI (oUp s (nLv s p y) m most (cT s))) (nI (oLo s m (cT s))) (nI y) (nI (min (oRi s m (cT s)) 9999))
section
variable {X : hX} {d : Nat} {s I : Nat → Nat → Int32} {J : Nat → Nat → Int64} {R : Nat → Nat → Option Nat} {N : Nat → Nat} {G : hG}
theorem l_H_one (hI : Inv s R N I J) (hW : Wf s) {m p y most : Nat} (hm : m < 8) (hp : p < cP s) (hy : y < cY s) (hmo : most ≤ 1000) (h5 : I 80 5 = nI (nLv s p y)) (h6 : I 80 6 = nI y) : ∀ (n i : Nat), i + n = cT s → XP X (d + 6) k_Bay_oneWall 8 [.ref (80), .int (nI (m)), .int (nI (most)), .int (nI (oUp s (nLv s p y) m most (i))), .int (nI (oLo s m (i))), .int (nI (oRi s m (i))), .int (nI (i))] [] (I, J, Rx R, N, G) (fun v M' => v = some (.int (oCo s p y m most)) ∧ ∃ I', M' = (I', J, Rx R, N, G) ∧ Inv s R N I' J ∧ Only [oT (cLw s) + 3, oT (cLw s) + 2] I I') := by
  have hS := hI.1
  have hL := hI.2.2.1
  have ht3 := hW.t.2
  have hpu9 := hW.pu.2
  have hp4 := hW.p.2
  have hy16 := hW.y.2
  have h2p : 1 ≤ 2 ^ cT s ∧ 2 ^ cT s ≤ 8 ∧ (0 < cT s → 2 ≤ 2 ^ cT s) := tN_le hW
  intro n
  induction n with
  | zero =>
    rintro i hi
    obtain rfl : i = cT s := by omega
    have hul := oUp_le s (nLv s p y) m most (cT s)
    have hll := oLo_le s m (cT s)
    have hrl := oRi_le hW m (cT s) (Nat.le_refl _)
    have hri : oRi s m (cT s) ≤ 3000 := by have : cT s * 999 ≤ 3 * 999 := Nat.mul_le_mul_right _ (by omega); omega
    refine XP_n 2 (pc' := 10) (ls' := [.ref (80), .int (nI (m)), .int (nI (most)), .int (nI (oUp s (nLv s p y) m most (cT s))), .int (nI (oLo s m (cT s))), .int (nI (oRi s m (cT s))), .int (nI (cT s))]) (st' := [.ref (80), .int (nI (cT s))]) (M' := (I, J, Rx R, N, G)) rfl ?_
    refine XP_geti hS rfl rfl rfl ?_
    rw [hW.t.1]
    refine XP_icN (x := cT s) (y := cT s) rfl (by omega) (by omega) (fun (b11 : cT s ≤ cT s) => ?_) (fun (b11 : cT s < cT s) => absurd b11 (by omega))
    refine XP_n 6 (pc' := 54) (ls' := [.ref (80), .int (nI (m)), .int (nI (most)), .int (nI (oUp s (nLv s p y) m most (cT s))), .int (nI (oLo s m (cT s))), .int (nI (oRi s m (cT s))), .int (nI (cT s))]) (st' := [.int (I 80 6), .int (nI (oLo s m (cT s))), .int (nI (oUp s (nLv s p y) m most (cT s))), .ref (1)]) (M' := (I, J, Rx R, N, G)) rfl ?_
    rw [h6]
    refine XP_n 3 (pc' := 57) (ls' := [.ref (80), .int (nI (m)), .int (nI (most)), .int (nI (oUp s (nLv s p y) m most (cT s))), .int (nI (oLo s m (cT s))), .int (nI (oRi s m (cT s))), .int (nI (cT s))]) (st' := [.int ((if nI (9999) < nI (oRi s m (cT s)) then nI (9999) else nI (oRi s m (cT s)))), .int (nI (y)), .int (nI (oLo s m (cT s))), .int (nI (oUp s (nLv s p y) m most (cT s))), .ref (1)]) (M' := (I, J, Rx R, N, G)) rfl ?_
    rw [show (if nI (9999) < nI (oRi s m (cT s)) then nI (9999) else nI (oRi s m (cT s))) = nI (min (oRi s m (cT s)) 9999) from nI_min (by omega) (by omega)]
    refine XP_n 2 (pc' := 59) (ls' := [.ref (80), .int (nI (m)), .int (nI (most)), .int (nI (oUp s (nLv s p y) m most (cT s))), .int (nI (oLo s m (cT s))), .int (nI (oRi s m (cT s))), .int (nI (cT s))]) (st' := [.ref (1), .int (nI (min (oRi s m (cT s)) 9999)), .int (nI (y)), .int (nI (oLo s m (cT s))), .int (nI (oUp s (nLv s p y) m most (cT s))), .ref (1)]) (M' := (I, J, Rx R, N, G)) rfl ?_
    refine XP_geti hS rfl rfl rfl ?_
    rw [hL.2.2.2.2.2.2]
    refine XP_call rfl (rfl) (c_cost hS hW hL _ _ _ _ _) ?_
    rintro v21 M21 ⟨rfl, I21, rfl, hO21⟩
    have hS21 : St s I21 := St_only hS hO21 (lw_scr hW)
    have f21_80_5 : I21 80 5 = nI (nLv s p y) := (congrFun (hO21 80 (by have := oT_ge (cLw s); simp; omega)) 5).trans h5
    have f21_80_6 : I21 80 6 = nI (y) := (congrFun (hO21 80 (by have := oT_ge (cLw s); simp; omega)) 6).trans h6
    have hn21 : Only [oT (cLw s) + 3, oT (cLw s) + 2] I I21 := Only.c Only.rf hO21 (by simp)
    have hI21 : Inv s R N I21 J := hI.c (hO21.sub (by simp)) OnlyJ.rf
    exact XP_ret rfl ⟨rfl, _, rfl, hI21, hn21⟩
  | succ n ih =>
    rintro i hi
    have htw := hW.tw (show i < cT s by omega)
    have htr := hW.tr (show i < cT s by omega)
    have hul := oUp_le s (nLv s p y) m most i
    have hll := oLo_le s m i
    have hrl := oRi_le hW m i (by omega)
    have hri : oRi s m i ≤ 3000 := by have : i * 999 ≤ 3 * 999 := Nat.mul_le_mul_right _ (by omega); omega
    have hnd := gNeed_le s (nI (nLv s p y)) (nI (rTW s i)) (nI most)
    have e1 : oUp s (nLv s p y) m most (i + 1) = (if tbt m i = 0 then oUp s (nLv s p y) m most i else max (oUp s (nLv s p y) m most i) (gNeed s (nI (nLv s p y)) (nI (rTW s i)) (nI most))) := rfl
    have e2 : oLo s m (i + 1) = (if tbt m i = 0 then oLo s m i else min (oLo s m i) (rTW s i)) := rfl
    have e3 : oRi s m (i + 1) = (if tbt m i = 0 then oRi s m i else oRi s m i + rTR s i) := rfl
    have hbt0 := tbt_le m i
    have ih' := ih (i + 1) (by omega)
    rw [e1, e2, e3] at ih'
    refine XP_n 2 (pc' := 10) (ls' := [.ref (80), .int (nI (m)), .int (nI (most)), .int (nI (oUp s (nLv s p y) m most (i))), .int (nI (oLo s m (i))), .int (nI (oRi s m (i))), .int (nI (i))]) (st' := [.ref (80), .int (nI (i))]) (M' := (I, J, Rx R, N, G)) rfl ?_
    refine XP_geti hS rfl rfl rfl ?_
    rw [hW.t.1]
    refine XP_icN (x := i) (y := cT s) rfl (by omega) (by omega) (fun (b11 : cT s ≤ i) => absurd b11 (by omega)) (fun (b11 : i < cT s) => ?_)
    refine XP_n 2 (pc' := 14) (ls' := [.ref (80), .int (nI (m)), .int (nI (most)), .int (nI (oUp s (nLv s p y) m most (i))), .int (nI (oLo s m (i))), .int (nI (oRi s m (i))), .int (nI (i))]) (st' := [.int (nI (3)), .int (nI (i))]) (M' := (I, J, Rx R, N, G)) rfl ?_
    refine XP_icN (x := i) (y := 3) rfl (by omega) (by omega) (fun (b14 : 3 ≤ i) => absurd b14 (by omega)) (fun (b14 : i < 3) => ?_)
    refine XP_n 2 (pc' := 17) (ls' := [.ref (80), .int (nI (m)), .int (nI (most)), .int (nI (oUp s (nLv s p y) m most (i))), .int (nI (oLo s m (i))), .int (nI (oRi s m (i))), .int (nI (i))]) (st' := [.int (nI (m)), .int (nI (i))]) (M' := (I, J, Rx R, N, G)) rfl ?_
    refine XP_pure rfl rfl (c_isIn (show m < 8 by omega) (show i < 3 by omega) _) ?_
    have hbt7 := tbt_le (m) (i)
    refine XP_ifN (x := tbt m i)  rfl (by omega) (fun (b18 : tbt m i = 0) => ?_) (fun (b18 : ¬ tbt m i = 0) => ?_)
    · refine XP_n 1 (pc' := 47) (ls' := [.ref (80), .int (nI (m)), .int (nI (most)), .int (nI (oUp s (nLv s p y) m most (i))), .int (nI (oLo s m (i))), .int (nI (oRi s m (i))), .int (nI (i) + nI (1))]) (st' := []) (M' := (I, J, Rx R, N, G)) rfl ?_
      rw [show nI (i) + nI (1) = nI (i + 1) from nI_addE (rfl) rfl]
      refine XP_n 1 (pc' := 8) (ls' := [.ref (80), .int (nI (m)), .int (nI (most)), .int (nI (oUp s (nLv s p y) m most (i))), .int (nI (oLo s m (i))), .int (nI (oRi s m (i))), .int (nI (i + 1))]) (st' := []) (M' := (I, J, Rx R, N, G)) rfl ?_
      rw [if_pos (by omega), if_pos (by omega), if_pos (by omega)] at ih'
      exact ih'
    · refine XP_n 6 (pc' := 25) (ls' := [.ref (80), .int (nI (m)), .int (nI (most)), .int (nI (oUp s (nLv s p y) m most (i))), .int (nI (oLo s m (i))), .int (nI (oRi s m (i))), .int (nI (i))]) (st' := [.int (nI (i)), .ref (81), .ref (1), .int (nI (oUp s (nLv s p y) m most (i)))]) (M' := (I, J, Rx R, N, G)) rfl ?_
      refine XP_iald hS rfl rfl (show i < 3 by omega) rfl (by omega) rfl ?_
      obtain ⟨hq22, hr22⟩ := hW.tw (show i < cT s by omega)
      rw [hq22]
      refine XP_n 2 (pc' := 28) (ls' := [.ref (80), .int (nI (m)), .int (nI (most)), .int (nI (oUp s (nLv s p y) m most (i))), .int (nI (oLo s m (i))), .int (nI (oRi s m (i))), .int (nI (i))]) (st' := [.int (I 80 5), .int (nI (rTW s i)), .ref (1), .int (nI (oUp s (nLv s p y) m most (i)))]) (M' := (I, J, Rx R, N, G)) rfl ?_
      rw [h5]
      refine XP_n 1 (pc' := 29) (ls' := [.ref (80), .int (nI (m)), .int (nI (most)), .int (nI (oUp s (nLv s p y) m most (i))), .int (nI (oLo s m (i))), .int (nI (oRi s m (i))), .int (nI (i))]) (st' := [.int (nI (most)), .int (nI (nLv s p y)), .int (nI (rTW s i)), .ref (1), .int (nI (oUp s (nLv s p y) m most (i)))]) (M' := (I, J, Rx R, N, G)) rfl ?_
      refine XP_pure rfl rfl (c_need hS hW _ _ _) ?_
      refine XP_n 1 (pc' := 31) (ls' := [.ref (80), .int (nI (m)), .int (nI (most)), .int (nI (oUp s (nLv s p y) m most (i))), .int (nI (oLo s m (i))), .int (nI (oRi s m (i))), .int (nI (i))]) (st' := [.int ((if nI (oUp s (nLv s p y) m most (i)) < nI (gNeed s (nI (nLv s p y)) (nI (rTW s i)) (nI (most))) then nI (gNeed s (nI (nLv s p y)) (nI (rTW s i)) (nI (most))) else nI (oUp s (nLv s p y) m most (i))))]) (M' := (I, J, Rx R, N, G)) rfl ?_
      rw [show (if nI (oUp s (nLv s p y) m most (i)) < nI (gNeed s (nI (nLv s p y)) (nI (rTW s i)) (nI (most))) then nI (gNeed s (nI (nLv s p y)) (nI (rTW s i)) (nI (most))) else nI (oUp s (nLv s p y) m most (i))) = nI (max (oUp s (nLv s p y) m most i) (gNeed s (nI (nLv s p y)) (nI (rTW s i)) (nI most))) from nI_max (by omega) (by omega)]
      refine XP_n 5 (pc' := 36) (ls' := [.ref (80), .int (nI (m)), .int (nI (most)), .int (nI (max (oUp s (nLv s p y) m most i) (gNeed s (nI (nLv s p y)) (nI (rTW s i)) (nI most)))), .int (nI (oLo s m (i))), .int (nI (oRi s m (i))), .int (nI (i))]) (st' := [.int (nI (i)), .ref (81), .int (nI (oLo s m (i)))]) (M' := (I, J, Rx R, N, G)) rfl ?_
      refine XP_iald hS rfl rfl (show i < 3 by omega) rfl (by omega) rfl ?_
      obtain ⟨hq23, hr23⟩ := hW.tw (show i < cT s by omega)
      rw [hq23]
      refine XP_n 1 (pc' := 38) (ls' := [.ref (80), .int (nI (m)), .int (nI (most)), .int (nI (max (oUp s (nLv s p y) m most i) (gNeed s (nI (nLv s p y)) (nI (rTW s i)) (nI most)))), .int (nI (oLo s m (i))), .int (nI (oRi s m (i))), .int (nI (i))]) (st' := [.int ((if nI (rTW s i) < nI (oLo s m (i)) then nI (rTW s i) else nI (oLo s m (i))))]) (M' := (I, J, Rx R, N, G)) rfl ?_
      rw [show (if nI (rTW s i) < nI (oLo s m (i)) then nI (rTW s i) else nI (oLo s m (i))) = nI (min (oLo s m i) (rTW s i)) from nI_min (by omega) (by omega)]
      refine XP_n 5 (pc' := 43) (ls' := [.ref (80), .int (nI (m)), .int (nI (most)), .int (nI (max (oUp s (nLv s p y) m most i) (gNeed s (nI (nLv s p y)) (nI (rTW s i)) (nI most)))), .int (nI (min (oLo s m i) (rTW s i))), .int (nI (oRi s m (i))), .int (nI (i))]) (st' := [.int (nI (i)), .ref (82), .int (nI (oRi s m (i)))]) (M' := (I, J, Rx R, N, G)) rfl ?_
      refine XP_iald hS rfl rfl (show i < 3 by omega) rfl (by omega) rfl ?_
      obtain ⟨hq24, hr24⟩ := hW.tr (show i < cT s by omega)
      rw [hq24]
      refine XP_n 2 (pc' := 46) (ls' := [.ref (80), .int (nI (m)), .int (nI (most)), .int (nI (max (oUp s (nLv s p y) m most i) (gNeed s (nI (nLv s p y)) (nI (rTW s i)) (nI most)))), .int (nI (min (oLo s m i) (rTW s i))), .int ((nI (oRi s m (i))) + (nI (rTR s i))), .int (nI (i))]) (st' := []) (M' := (I, J, Rx R, N, G)) rfl ?_
      rw [show (nI (oRi s m (i))) + (nI (rTR s i)) = nI (oRi s m (i) + rTR s i) from nI_addE (rfl) (rfl)]
      refine XP_n 1 (pc' := 47) (ls' := [.ref (80), .int (nI (m)), .int (nI (most)), .int (nI (max (oUp s (nLv s p y) m most i) (gNeed s (nI (nLv s p y)) (nI (rTW s i)) (nI most)))), .int (nI (min (oLo s m i) (rTW s i))), .int (nI (oRi s m (i) + rTR s i)), .int (nI (i) + nI (1))]) (st' := []) (M' := (I, J, Rx R, N, G)) rfl ?_
      rw [show nI (i) + nI (1) = nI (i + 1) from nI_addE (rfl) rfl]
      refine XP_n 1 (pc' := 8) (ls' := [.ref (80), .int (nI (m)), .int (nI (most)), .int (nI (max (oUp s (nLv s p y) m most i) (gNeed s (nI (nLv s p y)) (nI (rTW s i)) (nI most)))), .int (nI (min (oLo s m i) (rTW s i))), .int (nI (oRi s m (i) + rTR s i)), .int (nI (i + 1))]) (st' := []) (M' := (I, J, Rx R, N, G)) rfl ?_
      rw [if_neg (by omega), if_neg (by omega), if_neg (by omega)] at ih'
      exact ih'
theorem c_oneWall (hI : Inv s R N I J) {m p y most : Nat} (hm : m < 8) (hp : p < cP s) (hy : y < cY s) (hmo : most ≤ 1000) (h5 : I 80 5 = nI (nLv s p y)) (h6 : I 80 6 = nI y) : TP X (d + 6) n_Bay_oneWall [.ref 80, .int (nI m), .int (nI most)] (I, J, Rx R, N, G) (fun v M' => v = some (.int (oCo s p y m most)) ∧ ∃ I', M' = (I', J, Rx R, N, G) ∧ Inv s R N I' J ∧ Only [oT (cLw s) + 3, oT (cLw s) + 2] I I') := by
  unfold TP
  show XP X _ k_Bay_oneWall 0 [.ref (80), .int (nI (m)), .int (nI (most)), xj, xj, xj, xj] [] _ _
  refine XP_n 8 (pc' := 8) (ls' := [.ref (80), .int (nI (m)), .int (nI (most)), .int (nI (0)), .int (nI (99)), .int (nI (0)), .int (nI (0))]) (st' := []) (M' := (I, J, Rx R, N, G)) rfl ?_
  exact l_H_one hI hI.2.1 hm hp hy hmo h5 h6 (cT s) 0 (by omega)
theorem l_M_one (hI : Inv s R N I J) (hW : Wf s) {m p y most : Nat} (hm : m < 8) (hp : p < cP s) (hy : y < cY s) (hmo : most ≤ 1000) : ∀ (n i : Nat) (w9 : Value), i + n = cT s → XP X (d + 6) k_M_jointOf 8 [.ref (99), .int (nI (m)), .int (nI (p)), .int (nI (y)), .int (nI (most)), .int (nI (oUp s (nLv s p y) m most (i))), .int (nI (oLo s m (i))), .int (nI (oRi s m (i))), .int (nI (i)), w9] [] (I, J, Rx R, N, G) (QP s R N G (.int (oCo s p y m most))) := by
  have hS := hI.1
  have ht3 := hW.t.2
  have hpu9 := hW.pu.2
  have hp4 := hW.p.2
  have hy16 := hW.y.2
  have h2p : 1 ≤ 2 ^ cT s ∧ 2 ^ cT s ≤ 8 ∧ (0 < cT s → 2 ≤ 2 ^ cT s) := tN_le hW
  intro n
  induction n with
  | zero =>
    rintro i w9 hi
    obtain rfl : i = cT s := by omega
    have hul := oUp_le s (nLv s p y) m most (cT s)
    have hll := oLo_le s m (cT s)
    have hrl := oRi_le hW m (cT s) (Nat.le_refl _)
    have hri : oRi s m (cT s) ≤ 3000 := by have : cT s * 999 ≤ 3 * 999 := Nat.mul_le_mul_right _ (by omega); omega
    refine XP_n 2 (pc' := 10) (ls' := [.ref (99), .int (nI (m)), .int (nI (p)), .int (nI (y)), .int (nI (most)), .int (nI (oUp s (nLv s p y) m most (cT s))), .int (nI (oLo s m (cT s))), .int (nI (oRi s m (cT s))), .int (nI (cT s)), w9]) (st' := [.ref (99), .int (nI (cT s))]) (M' := (I, J, Rx R, N, G)) rfl ?_
    refine XP_geti hS rfl rfl rfl ?_
    rw [hW.t.1]
    refine XP_icN (x := cT s) (y := cT s) rfl (by omega) (by omega) (fun (b11 : cT s ≤ cT s) => ?_) (fun (b11 : cT s < cT s) => absurd b11 (by omega))
    refine XP_n 6 (pc' := 66) (ls' := [.ref (99), .int (nI (m)), .int (nI (p)), .int (nI (y)), .int (nI (most)), .int (nI (oUp s (nLv s p y) m most (cT s))), .int (nI (oLo s m (cT s))), .int (nI (oRi s m (cT s))), .int (nI (cT s)), w9]) (st' := [.int (nI (9999)), .int (nI (oRi s m (cT s))), .int (nI (y)), .int (nI (oLo s m (cT s))), .int (nI (oUp s (nLv s p y) m most (cT s))), .ref (99)]) (M' := (I, J, Rx R, N, G)) rfl ?_
    refine XP_icN (x := oRi s m (cT s)) (y := 9999) rfl (by omega) (by omega) (fun (b66 : oRi s m (cT s) ≤ 9999) => ?_) (fun (b66 : 9999 < oRi s m (cT s)) => ?_)
    · refine XP_n 1 (pc' := 70) (ls' := [.ref (99), .int (nI (m)), .int (nI (p)), .int (nI (y)), .int (nI (most)), .int (nI (oUp s (nLv s p y) m most (cT s))), .int (nI (oLo s m (cT s))), .int (nI (oRi s m (cT s))), .int (nI (cT s)), w9]) (st' := [.int (nI (oRi s m (cT s))), .int (nI (y)), .int (nI (oLo s m (cT s))), .int (nI (oUp s (nLv s p y) m most (cT s))), .ref (99)]) (M' := (I, J, Rx R, N, G)) rfl ?_
      refine XP_call rfl (rfl) (q_M_cost hI _ _ _ _) ?_
      rintro v25 M25 ⟨rfl, I25, J25, rfl, hI25⟩
      exact XP_ret rfl ⟨by unfold oCo; rw [Nat.min_eq_left (by omega)], _, _, rfl, hI25⟩
    · refine XP_n 2 (pc' := 70) (ls' := [.ref (99), .int (nI (m)), .int (nI (p)), .int (nI (y)), .int (nI (most)), .int (nI (oUp s (nLv s p y) m most (cT s))), .int (nI (oLo s m (cT s))), .int (nI (oRi s m (cT s))), .int (nI (cT s)), w9]) (st' := [.int (nI (9999)), .int (nI (y)), .int (nI (oLo s m (cT s))), .int (nI (oUp s (nLv s p y) m most (cT s))), .ref (99)]) (M' := (I, J, Rx R, N, G)) rfl ?_
      refine XP_call rfl (rfl) (q_M_cost hI _ _ _ _) ?_
      rintro v26 M26 ⟨rfl, I26, J26, rfl, hI26⟩
      exact XP_ret rfl ⟨by unfold oCo; rw [Nat.min_eq_right (by omega)], _, _, rfl, hI26⟩
  | succ n ih =>
    rintro i w9 hi
    have htw := hW.tw (show i < cT s by omega)
    have htr := hW.tr (show i < cT s by omega)
    have hul := oUp_le s (nLv s p y) m most i
    have hll := oLo_le s m i
    have hrl := oRi_le hW m i (by omega)
    have hri : oRi s m i ≤ 3000 := by have : i * 999 ≤ 3 * 999 := Nat.mul_le_mul_right _ (by omega); omega
    have hnd := gNeed_le s (nI (nLv s p y)) (nI (rTW s i)) (nI most)
    have e1 : oUp s (nLv s p y) m most (i + 1) = (if tbt m i = 0 then oUp s (nLv s p y) m most i else max (oUp s (nLv s p y) m most i) (gNeed s (nI (nLv s p y)) (nI (rTW s i)) (nI most))) := rfl
    have e2 : oLo s m (i + 1) = (if tbt m i = 0 then oLo s m i else min (oLo s m i) (rTW s i)) := rfl
    have e3 : oRi s m (i + 1) = (if tbt m i = 0 then oRi s m i else oRi s m i + rTR s i) := rfl
    have hbt0 := tbt_le m i
    refine XP_n 2 (pc' := 10) (ls' := [.ref (99), .int (nI (m)), .int (nI (p)), .int (nI (y)), .int (nI (most)), .int (nI (oUp s (nLv s p y) m most (i))), .int (nI (oLo s m (i))), .int (nI (oRi s m (i))), .int (nI (i)), w9]) (st' := [.ref (99), .int (nI (i))]) (M' := (I, J, Rx R, N, G)) rfl ?_
    refine XP_geti hS rfl rfl rfl ?_
    rw [hW.t.1]
    refine XP_icN (x := i) (y := cT s) rfl (by omega) (by omega) (fun (b11 : cT s ≤ i) => absurd b11 (by omega)) (fun (b11 : i < cT s) => ?_)
    refine XP_n 6 (pc' := 18) (ls' := [.ref (99), .int (nI (m)), .int (nI (p)), .int (nI (y)), .int (nI (most)), .int (nI (oUp s (nLv s p y) m most (i))), .int (nI (oLo s m (i))), .int (nI (oRi s m (i))), .int (nI (i)), w9]) (st' := [.int (nI (1)), .int (((nI (m)) >>> ((nI (i)) &&& 31)) &&& (nI (1)))]) (M' := (I, J, Rx R, N, G)) rfl ?_
    rw [show ((nI (m)) >>> ((nI (i)) &&& 31)) &&& (nI (1)) = nI (tbt m i) from b_tbt (show m < 8 by omega) (show i < 3 by omega)]
    refine XP_icN (x := tbt m i) (y := 1) rfl (by omega) (by omega) (fun (b18 : ¬ tbt m i = 1) => ?_) (fun (b18 : tbt m i = 1) => ?_)
    · refine XP_n 1 (pc' := 59) (ls' := [.ref (99), .int (nI (m)), .int (nI (p)), .int (nI (y)), .int (nI (most)), .int (nI (oUp s (nLv s p y) m most (i))), .int (nI (oLo s m (i))), .int (nI (oRi s m (i))), .int (nI (i) + nI (1)), w9]) (st' := []) (M' := (I, J, Rx R, N, G)) rfl ?_
      rw [show nI (i) + nI (1) = nI (i + 1) from nI_addE (rfl) rfl]
      refine XP_n 1 (pc' := 8) (ls' := [.ref (99), .int (nI (m)), .int (nI (p)), .int (nI (y)), .int (nI (most)), .int (nI (oUp s (nLv s p y) m most (i))), .int (nI (oLo s m (i))), .int (nI (oRi s m (i))), .int (nI (i + 1)), w9]) (st' := []) (M' := (I, J, Rx R, N, G)) rfl ?_
      have ih' := ih (i + 1) w9 (by omega)
      rw [e1, e2, e3, if_pos (by omega), if_pos (by omega), if_pos (by omega)] at ih'
      exact ih'
    · refine XP_n 4 (pc' := 23) (ls' := [.ref (99), .int (nI (m)), .int (nI (p)), .int (nI (y)), .int (nI (most)), .int (nI (oUp s (nLv s p y) m most (i))), .int (nI (oLo s m (i))), .int (nI (oRi s m (i))), .int (nI (i)), w9]) (st' := [.int (nI (y)), .int (nI (p)), .ref (99), .ref (99)]) (M' := (I, J, Rx R, N, G)) rfl ?_
      refine XP_pure rfl rfl (m_lv hS hW (show p < cP s by omega) (by omega)) ?_
      have hlv27 := (nLv_ok hW (show p < cP s by omega) (show y ≤ 15 by omega)).2
      refine XP_n 3 (pc' := 27) (ls' := [.ref (99), .int (nI (m)), .int (nI (p)), .int (nI (y)), .int (nI (most)), .int (nI (oUp s (nLv s p y) m most (i))), .int (nI (oLo s m (i))), .int (nI (oRi s m (i))), .int (nI (i)), w9]) (st' := [.int (nI (i)), .ref (114), .int (nI (nLv s (p) (y))), .ref (99)]) (M' := (I, J, Rx R, N, G)) rfl ?_
      refine XP_iald hS rfl rfl (show i < 3 by omega) rfl (by omega) rfl ?_
      obtain ⟨hq28, hr28⟩ := hW.tw (show i < cT s by omega)
      rw [hq28]
      refine XP_n 1 (pc' := 29) (ls' := [.ref (99), .int (nI (m)), .int (nI (p)), .int (nI (y)), .int (nI (most)), .int (nI (oUp s (nLv s p y) m most (i))), .int (nI (oLo s m (i))), .int (nI (oRi s m (i))), .int (nI (i)), w9]) (st' := [.int (nI (most)), .int (nI (rTW s i)), .int (nI (nLv s (p) (y))), .ref (99)]) (M' := (I, J, Rx R, N, G)) rfl ?_
      refine XP_pure rfl rfl (m_need hS hW _ _ _) ?_
      refine XP_n 3 (pc' := 33) (ls' := [.ref (99), .int (nI (m)), .int (nI (p)), .int (nI (y)), .int (nI (most)), .int (nI (oUp s (nLv s p y) m most (i))), .int (nI (oLo s m (i))), .int (nI (oRi s m (i))), .int (nI (i)), .int (nI (gNeed s (nI (nLv s (p) (y))) (nI (rTW s i)) (nI (most))))]) (st' := [.int (nI (oUp s (nLv s p y) m most (i))), .int (nI (gNeed s (nI (nLv s (p) (y))) (nI (rTW s i)) (nI (most))))]) (M' := (I, J, Rx R, N, G)) rfl ?_
      refine XP_icN (x := gNeed s (nI (nLv s (p) (y))) (nI (rTW s i)) (nI (most))) (y := oUp s (nLv s p y) m most (i)) rfl (by omega) (by omega) (fun (b33 : gNeed s (nI (nLv s (p) (y))) (nI (rTW s i)) (nI (most)) ≤ oUp s (nLv s p y) m most (i)) => ?_) (fun (b33 : oUp s (nLv s p y) m most (i) < gNeed s (nI (nLv s (p) (y))) (nI (rTW s i)) (nI (most))) => ?_)
      · refine XP_n 5 (pc' := 41) (ls' := [.ref (99), .int (nI (m)), .int (nI (p)), .int (nI (y)), .int (nI (most)), .int (nI (oUp s (nLv s p y) m most (i))), .int (nI (oLo s m (i))), .int (nI (oRi s m (i))), .int (nI (i)), .int (nI (gNeed s (nI (nLv s (p) (y))) (nI (rTW s i)) (nI (most))))]) (st' := [.int (nI (i)), .ref (114)]) (M' := (I, J, Rx R, N, G)) rfl ?_
        refine XP_iald hS rfl rfl (show i < 3 by omega) rfl (by omega) rfl ?_
        obtain ⟨hq29, hr29⟩ := hW.tw (show i < cT s by omega)
        rw [hq29]
        refine XP_n 1 (pc' := 43) (ls' := [.ref (99), .int (nI (m)), .int (nI (p)), .int (nI (y)), .int (nI (most)), .int (nI (oUp s (nLv s p y) m most (i))), .int (nI (oLo s m (i))), .int (nI (oRi s m (i))), .int (nI (i)), .int (nI (gNeed s (nI (nLv s (p) (y))) (nI (rTW s i)) (nI (most))))]) (st' := [.int (nI (oLo s m (i))), .int (nI (rTW s i))]) (M' := (I, J, Rx R, N, G)) rfl ?_
        refine XP_icN (x := rTW s i) (y := oLo s m (i)) rfl (by omega) (by omega) (fun (b43 : oLo s m (i) ≤ rTW s i) => ?_) (fun (b43 : rTW s i < oLo s m (i)) => ?_)
        · refine XP_n 6 (pc' := 55) (ls' := [.ref (99), .int (nI (m)), .int (nI (p)), .int (nI (y)), .int (nI (most)), .int (nI (oUp s (nLv s p y) m most (i))), .int (nI (oLo s m (i))), .int (nI (oRi s m (i))), .int (nI (i)), .int (nI (gNeed s (nI (nLv s (p) (y))) (nI (rTW s i)) (nI (most))))]) (st' := [.int (nI (i)), .ref (115), .int (nI (oRi s m (i)))]) (M' := (I, J, Rx R, N, G)) rfl ?_
          refine XP_iald hS rfl rfl (show i < 3 by omega) rfl (by omega) rfl ?_
          obtain ⟨hq30, hr30⟩ := hW.tr (show i < cT s by omega)
          rw [hq30]
          refine XP_n 2 (pc' := 58) (ls' := [.ref (99), .int (nI (m)), .int (nI (p)), .int (nI (y)), .int (nI (most)), .int (nI (oUp s (nLv s p y) m most (i))), .int (nI (oLo s m (i))), .int ((nI (oRi s m (i))) + (nI (rTR s i))), .int (nI (i)), .int (nI (gNeed s (nI (nLv s (p) (y))) (nI (rTW s i)) (nI (most))))]) (st' := []) (M' := (I, J, Rx R, N, G)) rfl ?_
          rw [show (nI (oRi s m (i))) + (nI (rTR s i)) = nI (oRi s m (i) + rTR s i) from nI_addE (rfl) (rfl)]
          refine XP_n 1 (pc' := 59) (ls' := [.ref (99), .int (nI (m)), .int (nI (p)), .int (nI (y)), .int (nI (most)), .int (nI (oUp s (nLv s p y) m most (i))), .int (nI (oLo s m (i))), .int (nI (oRi s m (i) + rTR s i)), .int (nI (i) + nI (1)), .int (nI (gNeed s (nI (nLv s (p) (y))) (nI (rTW s i)) (nI (most))))]) (st' := []) (M' := (I, J, Rx R, N, G)) rfl ?_
          rw [show nI (i) + nI (1) = nI (i + 1) from nI_addE (rfl) rfl]
          refine XP_n 1 (pc' := 8) (ls' := [.ref (99), .int (nI (m)), .int (nI (p)), .int (nI (y)), .int (nI (most)), .int (nI (oUp s (nLv s p y) m most (i))), .int (nI (oLo s m (i))), .int (nI (oRi s m (i) + rTR s i)), .int (nI (i + 1)), .int (nI (gNeed s (nI (nLv s (p) (y))) (nI (rTW s i)) (nI (most))))]) (st' := []) (M' := (I, J, Rx R, N, G)) rfl ?_
          have ih' := ih (i + 1) (.int (nI (gNeed s (nI (nLv s (p) (y))) (nI (rTW s i)) (nI (most))))) (by omega)
          rw [e1, e2, e3, if_neg (by omega), if_neg (by omega), if_neg (by omega), Nat.max_eq_left (by omega), Nat.min_eq_left (by omega)] at ih'
          exact ih'
        · refine XP_n 3 (pc' := 47) (ls' := [.ref (99), .int (nI (m)), .int (nI (p)), .int (nI (y)), .int (nI (most)), .int (nI (oUp s (nLv s p y) m most (i))), .int (nI (oLo s m (i))), .int (nI (oRi s m (i))), .int (nI (i)), .int (nI (gNeed s (nI (nLv s (p) (y))) (nI (rTW s i)) (nI (most))))]) (st' := [.int (nI (i)), .ref (114)]) (M' := (I, J, Rx R, N, G)) rfl ?_
          refine XP_iald hS rfl rfl (show i < 3 by omega) rfl (by omega) rfl ?_
          obtain ⟨hq31, hr31⟩ := hW.tw (show i < cT s by omega)
          rw [hq31]
          refine XP_n 6 (pc' := 55) (ls' := [.ref (99), .int (nI (m)), .int (nI (p)), .int (nI (y)), .int (nI (most)), .int (nI (oUp s (nLv s p y) m most (i))), .int (nI (rTW s i)), .int (nI (oRi s m (i))), .int (nI (i)), .int (nI (gNeed s (nI (nLv s (p) (y))) (nI (rTW s i)) (nI (most))))]) (st' := [.int (nI (i)), .ref (115), .int (nI (oRi s m (i)))]) (M' := (I, J, Rx R, N, G)) rfl ?_
          refine XP_iald hS rfl rfl (show i < 3 by omega) rfl (by omega) rfl ?_
          obtain ⟨hq32, hr32⟩ := hW.tr (show i < cT s by omega)
          rw [hq32]
          refine XP_n 2 (pc' := 58) (ls' := [.ref (99), .int (nI (m)), .int (nI (p)), .int (nI (y)), .int (nI (most)), .int (nI (oUp s (nLv s p y) m most (i))), .int (nI (rTW s i)), .int ((nI (oRi s m (i))) + (nI (rTR s i))), .int (nI (i)), .int (nI (gNeed s (nI (nLv s (p) (y))) (nI (rTW s i)) (nI (most))))]) (st' := []) (M' := (I, J, Rx R, N, G)) rfl ?_
          rw [show (nI (oRi s m (i))) + (nI (rTR s i)) = nI (oRi s m (i) + rTR s i) from nI_addE (rfl) (rfl)]
          refine XP_n 1 (pc' := 59) (ls' := [.ref (99), .int (nI (m)), .int (nI (p)), .int (nI (y)), .int (nI (most)), .int (nI (oUp s (nLv s p y) m most (i))), .int (nI (rTW s i)), .int (nI (oRi s m (i) + rTR s i)), .int (nI (i) + nI (1)), .int (nI (gNeed s (nI (nLv s (p) (y))) (nI (rTW s i)) (nI (most))))]) (st' := []) (M' := (I, J, Rx R, N, G)) rfl ?_
          rw [show nI (i) + nI (1) = nI (i + 1) from nI_addE (rfl) rfl]
          refine XP_n 1 (pc' := 8) (ls' := [.ref (99), .int (nI (m)), .int (nI (p)), .int (nI (y)), .int (nI (most)), .int (nI (oUp s (nLv s p y) m most (i))), .int (nI (rTW s i)), .int (nI (oRi s m (i) + rTR s i)), .int (nI (i + 1)), .int (nI (gNeed s (nI (nLv s (p) (y))) (nI (rTW s i)) (nI (most))))]) (st' := []) (M' := (I, J, Rx R, N, G)) rfl ?_
          have ih' := ih (i + 1) (.int (nI (gNeed s (nI (nLv s (p) (y))) (nI (rTW s i)) (nI (most))))) (by omega)
          rw [e1, e2, e3, if_neg (by omega), if_neg (by omega), if_neg (by omega), Nat.max_eq_left (by omega), Nat.min_eq_right (by omega)] at ih'
          exact ih'
      · refine XP_n 6 (pc' := 41) (ls' := [.ref (99), .int (nI (m)), .int (nI (p)), .int (nI (y)), .int (nI (most)), .int (nI (gNeed s (nI (nLv s (p) (y))) (nI (rTW s i)) (nI (most)))), .int (nI (oLo s m (i))), .int (nI (oRi s m (i))), .int (nI (i)), .int (nI (gNeed s (nI (nLv s (p) (y))) (nI (rTW s i)) (nI (most))))]) (st' := [.int (nI (i)), .ref (114)]) (M' := (I, J, Rx R, N, G)) rfl ?_
        refine XP_iald hS rfl rfl (show i < 3 by omega) rfl (by omega) rfl ?_
        obtain ⟨hq33, hr33⟩ := hW.tw (show i < cT s by omega)
        rw [hq33]
        refine XP_n 1 (pc' := 43) (ls' := [.ref (99), .int (nI (m)), .int (nI (p)), .int (nI (y)), .int (nI (most)), .int (nI (gNeed s (nI (nLv s (p) (y))) (nI (rTW s i)) (nI (most)))), .int (nI (oLo s m (i))), .int (nI (oRi s m (i))), .int (nI (i)), .int (nI (gNeed s (nI (nLv s (p) (y))) (nI (rTW s i)) (nI (most))))]) (st' := [.int (nI (oLo s m (i))), .int (nI (rTW s i))]) (M' := (I, J, Rx R, N, G)) rfl ?_
        refine XP_icN (x := rTW s i) (y := oLo s m (i)) rfl (by omega) (by omega) (fun (b43 : oLo s m (i) ≤ rTW s i) => ?_) (fun (b43 : rTW s i < oLo s m (i)) => ?_)
        · refine XP_n 6 (pc' := 55) (ls' := [.ref (99), .int (nI (m)), .int (nI (p)), .int (nI (y)), .int (nI (most)), .int (nI (gNeed s (nI (nLv s (p) (y))) (nI (rTW s i)) (nI (most)))), .int (nI (oLo s m (i))), .int (nI (oRi s m (i))), .int (nI (i)), .int (nI (gNeed s (nI (nLv s (p) (y))) (nI (rTW s i)) (nI (most))))]) (st' := [.int (nI (i)), .ref (115), .int (nI (oRi s m (i)))]) (M' := (I, J, Rx R, N, G)) rfl ?_
          refine XP_iald hS rfl rfl (show i < 3 by omega) rfl (by omega) rfl ?_
          obtain ⟨hq34, hr34⟩ := hW.tr (show i < cT s by omega)
          rw [hq34]
          refine XP_n 2 (pc' := 58) (ls' := [.ref (99), .int (nI (m)), .int (nI (p)), .int (nI (y)), .int (nI (most)), .int (nI (gNeed s (nI (nLv s (p) (y))) (nI (rTW s i)) (nI (most)))), .int (nI (oLo s m (i))), .int ((nI (oRi s m (i))) + (nI (rTR s i))), .int (nI (i)), .int (nI (gNeed s (nI (nLv s (p) (y))) (nI (rTW s i)) (nI (most))))]) (st' := []) (M' := (I, J, Rx R, N, G)) rfl ?_
          rw [show (nI (oRi s m (i))) + (nI (rTR s i)) = nI (oRi s m (i) + rTR s i) from nI_addE (rfl) (rfl)]
          refine XP_n 1 (pc' := 59) (ls' := [.ref (99), .int (nI (m)), .int (nI (p)), .int (nI (y)), .int (nI (most)), .int (nI (gNeed s (nI (nLv s (p) (y))) (nI (rTW s i)) (nI (most)))), .int (nI (oLo s m (i))), .int (nI (oRi s m (i) + rTR s i)), .int (nI (i) + nI (1)), .int (nI (gNeed s (nI (nLv s (p) (y))) (nI (rTW s i)) (nI (most))))]) (st' := []) (M' := (I, J, Rx R, N, G)) rfl ?_
          rw [show nI (i) + nI (1) = nI (i + 1) from nI_addE (rfl) rfl]
          refine XP_n 1 (pc' := 8) (ls' := [.ref (99), .int (nI (m)), .int (nI (p)), .int (nI (y)), .int (nI (most)), .int (nI (gNeed s (nI (nLv s (p) (y))) (nI (rTW s i)) (nI (most)))), .int (nI (oLo s m (i))), .int (nI (oRi s m (i) + rTR s i)), .int (nI (i + 1)), .int (nI (gNeed s (nI (nLv s (p) (y))) (nI (rTW s i)) (nI (most))))]) (st' := []) (M' := (I, J, Rx R, N, G)) rfl ?_
          have ih' := ih (i + 1) (.int (nI (gNeed s (nI (nLv s (p) (y))) (nI (rTW s i)) (nI (most))))) (by omega)
          rw [e1, e2, e3, if_neg (by omega), if_neg (by omega), if_neg (by omega), Nat.max_eq_right (by omega), Nat.min_eq_left (by omega)] at ih'
          exact ih'
        · refine XP_n 3 (pc' := 47) (ls' := [.ref (99), .int (nI (m)), .int (nI (p)), .int (nI (y)), .int (nI (most)), .int (nI (gNeed s (nI (nLv s (p) (y))) (nI (rTW s i)) (nI (most)))), .int (nI (oLo s m (i))), .int (nI (oRi s m (i))), .int (nI (i)), .int (nI (gNeed s (nI (nLv s (p) (y))) (nI (rTW s i)) (nI (most))))]) (st' := [.int (nI (i)), .ref (114)]) (M' := (I, J, Rx R, N, G)) rfl ?_
          refine XP_iald hS rfl rfl (show i < 3 by omega) rfl (by omega) rfl ?_
          obtain ⟨hq35, hr35⟩ := hW.tw (show i < cT s by omega)
          rw [hq35]
          refine XP_n 6 (pc' := 55) (ls' := [.ref (99), .int (nI (m)), .int (nI (p)), .int (nI (y)), .int (nI (most)), .int (nI (gNeed s (nI (nLv s (p) (y))) (nI (rTW s i)) (nI (most)))), .int (nI (rTW s i)), .int (nI (oRi s m (i))), .int (nI (i)), .int (nI (gNeed s (nI (nLv s (p) (y))) (nI (rTW s i)) (nI (most))))]) (st' := [.int (nI (i)), .ref (115), .int (nI (oRi s m (i)))]) (M' := (I, J, Rx R, N, G)) rfl ?_
          refine XP_iald hS rfl rfl (show i < 3 by omega) rfl (by omega) rfl ?_
          obtain ⟨hq36, hr36⟩ := hW.tr (show i < cT s by omega)
          rw [hq36]
          refine XP_n 2 (pc' := 58) (ls' := [.ref (99), .int (nI (m)), .int (nI (p)), .int (nI (y)), .int (nI (most)), .int (nI (gNeed s (nI (nLv s (p) (y))) (nI (rTW s i)) (nI (most)))), .int (nI (rTW s i)), .int ((nI (oRi s m (i))) + (nI (rTR s i))), .int (nI (i)), .int (nI (gNeed s (nI (nLv s (p) (y))) (nI (rTW s i)) (nI (most))))]) (st' := []) (M' := (I, J, Rx R, N, G)) rfl ?_
          rw [show (nI (oRi s m (i))) + (nI (rTR s i)) = nI (oRi s m (i) + rTR s i) from nI_addE (rfl) (rfl)]
          refine XP_n 1 (pc' := 59) (ls' := [.ref (99), .int (nI (m)), .int (nI (p)), .int (nI (y)), .int (nI (most)), .int (nI (gNeed s (nI (nLv s (p) (y))) (nI (rTW s i)) (nI (most)))), .int (nI (rTW s i)), .int (nI (oRi s m (i) + rTR s i)), .int (nI (i) + nI (1)), .int (nI (gNeed s (nI (nLv s (p) (y))) (nI (rTW s i)) (nI (most))))]) (st' := []) (M' := (I, J, Rx R, N, G)) rfl ?_
          rw [show nI (i) + nI (1) = nI (i + 1) from nI_addE (rfl) rfl]
          refine XP_n 1 (pc' := 8) (ls' := [.ref (99), .int (nI (m)), .int (nI (p)), .int (nI (y)), .int (nI (most)), .int (nI (gNeed s (nI (nLv s (p) (y))) (nI (rTW s i)) (nI (most)))), .int (nI (rTW s i)), .int (nI (oRi s m (i) + rTR s i)), .int (nI (i + 1)), .int (nI (gNeed s (nI (nLv s (p) (y))) (nI (rTW s i)) (nI (most))))]) (st' := []) (M' := (I, J, Rx R, N, G)) rfl ?_
          have ih' := ih (i + 1) (.int (nI (gNeed s (nI (nLv s (p) (y))) (nI (rTW s i)) (nI (most))))) (by omega)
          rw [e1, e2, e3, if_neg (by omega), if_neg (by omega), if_neg (by omega), Nat.max_eq_right (by omega), Nat.min_eq_right (by omega)] at ih'
          exact ih'
theorem m_joint (hI : Inv s R N I J) {m p y most : Nat} (hm : m < 8) (hp : p < cP s) (hy : y < cY s) (hmo : most ≤ 1000) : TP X (d + 6) n_M_jointOf [.ref 99, .int (nI m), .int (nI p), .int (nI y), .int (nI most)] (I, J, Rx R, N, G) (QP s R N G (.int (oCo s p y m most))) := by
  unfold TP
  show XP X _ k_M_jointOf 0 [.ref (99), .int (nI (m)), .int (nI (p)), .int (nI (y)), .int (nI (most)), xj, xj, xj, xj, xj] [] _ _
  refine XP_n 8 (pc' := 8) (ls' := [.ref (99), .int (nI (m)), .int (nI (p)), .int (nI (y)), .int (nI (most)), .int (nI (0)), .int (nI (99)), .int (nI (0)), .int (nI (0)), xj]) (st' := []) (M' := (I, J, Rx R, N, G)) rfl ?_
  exact l_M_one hI hI.2.1 hm hp hy hmo (cT s) 0 _ (by omega)
theorem f_joint (hI : Inv s R N I J) (set : Int32) (p : Int32) (y : Int32) (m : Int32) : ∃ v, TP X (d + 12) n_H_joint [.ref 0, .int set, .int p, .int y, .int m] (I, J, Rx R, N, G) (QP s R N G (.int v)) ∧ ∀ I J, Inv s R N I J → TP X (d + 12) n_M_joint [.ref 99, .int set, .int p, .int y, .int m] (I, J, Rx R, N, G) (QP s R N G (.int v)) := by
  have hI0 := hI
  obtain ⟨hS, hW, hL, hC, hch⟩ := hI0
  have hy16 := hW.y.2
  have hp4 := hW.p.2
  have hs6 := hW.ns.2
  have hr8 := hW.r.2
  have hst8 := hW.st.2
  have ht3 := hW.t.2
  have hw60 := hW.w.2
  have hcwa := cWA_le hW
  have hpu9 := hW.pu.2
  have h2p : 1 ≤ 2 ^ cT s ∧ 2 ^ cT s ≤ 8 ∧ (0 < cT s → 2 ≤ 2 ^ cT s) := tN_le hW
  by_cases g0 : iv 1 (2 ^ cT s - 1) (set)
  rotate_left
  · skip
    have hz : iv 0 (2 ^ cT s - 1) set → set = nI 0 := fun z => by
      obtain ⟨k, -, hk, rfl, -⟩ := iv_nat z (by omega) (by omega)
      rcases Nat.eq_zero_or_pos k with e | e
      · rw [e]
      · exact absurd ⟨(nI_leI (by omega) (by omega)).mpr e, z.2⟩ g0
    refine ⟨cI (-2), ?_, fun I J hI => ?_⟩
    · unfold TP
      show XP X _ k_H_joint 0 [.ref (0), .int (set), .int (p), .int (y), .int (m)] [] _ _
      refine XP_n 4 (pc' := 4) (ls' := [.ref (0), .int (set), .int (p), .int (y), .int (m)]) (st' := [.ref (80), .int (nI (1)), .int (set)]) (M' := (I, J, Rx R, N, G)) rfl ?_
      refine XP_pure rfl rfl (c_allT hI.1 hW) ?_
      refine XP_pure rfl rfl (w_H X _ _ 1 (2 ^ cT s - 1) _) ?_
      refine XP_s rfl ?_
      refine XP_beq (fun b6 => ?_) (fun b6 => absurd b6 g0)
      refine XP_n 1 (pc' := 20) (ls' := [.ref (0), .int (set), .int (p), .int (y), .int (m)]) (st' := [.int (cI (-2))]) (M' := (I, J, Rx R, N, G)) rfl ?_
      exact XP_ret rfl ⟨rfl, _, _, rfl, hI⟩
    · unfold TP
      show XP X _ k_M_joint 0 [.ref (99), .int (set), .int (p), .int (y), .int (m)] [] _ _
      refine XP_n 2 (pc' := 2) (ls' := [.ref (99), .int (set), .int (p), .int (y), .int (m)]) (st' := [.int (set), .ref (99)]) (M' := (I, J, Rx R, N, G)) rfl ?_
      refine XP_pure rfl rfl (m_areT hI.1 hW _) ?_
      refine XP_s rfl ?_
      refine XP_beq (fun (b3 : ¬ (iv 0 (2 ^ cT s - 1) (set))) => ?_) (fun (b3 : iv 0 (2 ^ cT s - 1) (set)) => ?_)
      · refine XP_n 1 (pc' := 20) (ls' := [.ref (99), .int (set), .int (p), .int (y), .int (m)]) (st' := [.int (cI (-2))]) (M' := (I, J, Rx R, N, G)) rfl ?_
        exact XP_ret rfl ⟨rfl, _, _, rfl, hI⟩
      · refine XP_n 1 (pc' := 5) (ls' := [.ref (99), .int (set), .int (p), .int (y), .int (m)]) (st' := [.int (set)]) (M' := (I, J, Rx R, N, G)) rfl ?_
        refine XP_ifD rfl (fun (b5 : set = 0) => ?_) (fun (b5 : ¬ set = 0) => absurd (hz b3) b5)
        refine XP_n 1 (pc' := 20) (ls' := [.ref (99), .int (set), .int (p), .int (y), .int (m)]) (st' := [.int (cI (-2))]) (M' := (I, J, Rx R, N, G)) rfl ?_
        exact XP_ret rfl ⟨rfl, _, _, rfl, hI⟩
  obtain ⟨setn, hsetn0, hsetn, rfl, eset⟩ := iv_nat2 g0 (by omega) (by omega)
  by_cases g1 : inN (p) (cP s)
  rotate_left
  · skip
    refine ⟨cI (-2), ?_, fun I J hI => ?_⟩
    · unfold TP
      show XP X _ k_H_joint 0 [.ref (0), .int (nI (setn)), .int (p), .int (y), .int (m)] [] _ _
      refine XP_n 4 (pc' := 4) (ls' := [.ref (0), .int (nI (setn)), .int (p), .int (y), .int (m)]) (st' := [.ref (80), .int (nI (1)), .int (nI (setn))]) (M' := (I, J, Rx R, N, G)) rfl ?_
      refine XP_pure rfl rfl (c_allT hI.1 hW) ?_
      refine XP_pure rfl rfl (w_H X _ _ 1 (2 ^ cT s - 1) _) ?_
      refine XP_s rfl ?_
      refine XP_beq (fun b6 => absurd g0 b6) (fun b6 => ?_)
      refine XP_n 3 (pc' := 10) (ls' := [.ref (0), .int (nI (setn)), .int (p), .int (y), .int (m)]) (st' := [.int (p), .ref (1)]) (M' := (I, J, Rx R, N, G)) rfl ?_
      refine XP_pure rfl rfl (c_hasPath hI.1 hI.2.1 _) ?_
      refine XP_s rfl ?_
      refine XP_beq (fun b11 => ?_) (fun b11 => absurd b11 g1)
      refine XP_n 1 (pc' := 20) (ls' := [.ref (0), .int (nI (setn)), .int (p), .int (y), .int (m)]) (st' := [.int (cI (-2))]) (M' := (I, J, Rx R, N, G)) rfl ?_
      exact XP_ret rfl ⟨rfl, _, _, rfl, hI⟩
    · unfold TP
      show XP X _ k_M_joint 0 [.ref (99), .int (nI (setn)), .int (p), .int (y), .int (m)] [] _ _
      refine XP_n 2 (pc' := 2) (ls' := [.ref (99), .int (nI (setn)), .int (p), .int (y), .int (m)]) (st' := [.int (nI (setn)), .ref (99)]) (M' := (I, J, Rx R, N, G)) rfl ?_
      refine XP_pure rfl rfl (m_areT hI.1 hW _) ?_
      refine XP_s rfl ?_
      refine XP_beq (fun (b3 : ¬ (iv 0 (2 ^ cT s - 1) (nI (setn)))) => ?_) (fun (b3 : iv 0 (2 ^ cT s - 1) (nI (setn))) => ?_)
      · refine XP_n 1 (pc' := 20) (ls' := [.ref (99), .int (nI (setn)), .int (p), .int (y), .int (m)]) (st' := [.int (cI (-2))]) (M' := (I, J, Rx R, N, G)) rfl ?_
        exact XP_ret rfl ⟨rfl, _, _, rfl, hI⟩
      · refine XP_n 1 (pc' := 5) (ls' := [.ref (99), .int (nI (setn)), .int (p), .int (y), .int (m)]) (st' := [.int (nI (setn))]) (M' := (I, J, Rx R, N, G)) rfl ?_
        refine XP_ifN (x := setn)  rfl (by omega) (fun (b5 : setn = 0) => ?_) (fun (b5 : ¬ setn = 0) => ?_)
        · refine XP_n 1 (pc' := 20) (ls' := [.ref (99), .int (nI (setn)), .int (p), .int (y), .int (m)]) (st' := [.int (cI (-2))]) (M' := (I, J, Rx R, N, G)) rfl ?_
          exact XP_ret rfl ⟨rfl, _, _, rfl, hI⟩
        · refine XP_n 2 (pc' := 8) (ls' := [.ref (99), .int (nI (setn)), .int (p), .int (y), .int (m)]) (st' := [.int (p), .ref (99)]) (M' := (I, J, Rx R, N, G)) rfl ?_
          refine XP_pure rfl rfl (m_isPath hI.1 hI.2.1 _) ?_
          refine XP_s rfl ?_
          refine XP_beq (fun b9 => ?_) (fun b9 => absurd b9 g1)
          refine XP_n 1 (pc' := 20) (ls' := [.ref (99), .int (nI (setn)), .int (p), .int (y), .int (m)]) (st' := [.int (cI (-2))]) (M' := (I, J, Rx R, N, G)) rfl ?_
          exact XP_ret rfl ⟨rfl, _, _, rfl, hI⟩
  obtain ⟨pn, hpn, rfl, ep⟩ := inN_nat g1 (by omega)
  by_cases g2 : inN (y) (cY s)
  rotate_left
  · skip
    refine ⟨cI (-2), ?_, fun I J hI => ?_⟩
    · unfold TP
      show XP X _ k_H_joint 0 [.ref (0), .int (nI (setn)), .int (nI (pn)), .int (y), .int (m)] [] _ _
      refine XP_n 4 (pc' := 4) (ls' := [.ref (0), .int (nI (setn)), .int (nI (pn)), .int (y), .int (m)]) (st' := [.ref (80), .int (nI (1)), .int (nI (setn))]) (M' := (I, J, Rx R, N, G)) rfl ?_
      refine XP_pure rfl rfl (c_allT hI.1 hW) ?_
      refine XP_pure rfl rfl (w_H X _ _ 1 (2 ^ cT s - 1) _) ?_
      refine XP_s rfl ?_
      refine XP_beq (fun b6 => absurd g0 b6) (fun b6 => ?_)
      refine XP_n 3 (pc' := 10) (ls' := [.ref (0), .int (nI (setn)), .int (nI (pn)), .int (y), .int (m)]) (st' := [.int (nI (pn)), .ref (1)]) (M' := (I, J, Rx R, N, G)) rfl ?_
      refine XP_pure rfl rfl (c_hasPath hI.1 hI.2.1 _) ?_
      refine XP_s rfl ?_
      refine XP_beq (fun b11 => absurd g1 b11) (fun b11 => ?_)
      refine XP_n 2 (pc' := 14) (ls' := [.ref (0), .int (nI (setn)), .int (nI (pn)), .int (y), .int (m)]) (st' := [.int (y), .ref (0)]) (M' := (I, J, Rx R, N, G)) rfl ?_
      refine XP_pure rfl rfl (h_isYear hI.1 hI.2.1 _) ?_
      refine XP_s rfl ?_
      refine XP_beq (fun b15 => ?_) (fun b15 => absurd b15 g2)
      refine XP_n 1 (pc' := 20) (ls' := [.ref (0), .int (nI (setn)), .int (nI (pn)), .int (y), .int (m)]) (st' := [.int (cI (-2))]) (M' := (I, J, Rx R, N, G)) rfl ?_
      exact XP_ret rfl ⟨rfl, _, _, rfl, hI⟩
    · unfold TP
      show XP X _ k_M_joint 0 [.ref (99), .int (nI (setn)), .int (nI (pn)), .int (y), .int (m)] [] _ _
      refine XP_n 2 (pc' := 2) (ls' := [.ref (99), .int (nI (setn)), .int (nI (pn)), .int (y), .int (m)]) (st' := [.int (nI (setn)), .ref (99)]) (M' := (I, J, Rx R, N, G)) rfl ?_
      refine XP_pure rfl rfl (m_areT hI.1 hW _) ?_
      refine XP_s rfl ?_
      refine XP_beq (fun (b3 : ¬ (iv 0 (2 ^ cT s - 1) (nI (setn)))) => ?_) (fun (b3 : iv 0 (2 ^ cT s - 1) (nI (setn))) => ?_)
      · refine XP_n 1 (pc' := 20) (ls' := [.ref (99), .int (nI (setn)), .int (nI (pn)), .int (y), .int (m)]) (st' := [.int (cI (-2))]) (M' := (I, J, Rx R, N, G)) rfl ?_
        exact XP_ret rfl ⟨rfl, _, _, rfl, hI⟩
      · refine XP_n 1 (pc' := 5) (ls' := [.ref (99), .int (nI (setn)), .int (nI (pn)), .int (y), .int (m)]) (st' := [.int (nI (setn))]) (M' := (I, J, Rx R, N, G)) rfl ?_
        refine XP_ifN (x := setn)  rfl (by omega) (fun (b5 : setn = 0) => ?_) (fun (b5 : ¬ setn = 0) => ?_)
        · refine XP_n 1 (pc' := 20) (ls' := [.ref (99), .int (nI (setn)), .int (nI (pn)), .int (y), .int (m)]) (st' := [.int (cI (-2))]) (M' := (I, J, Rx R, N, G)) rfl ?_
          exact XP_ret rfl ⟨rfl, _, _, rfl, hI⟩
        · refine XP_n 2 (pc' := 8) (ls' := [.ref (99), .int (nI (setn)), .int (nI (pn)), .int (y), .int (m)]) (st' := [.int (nI (pn)), .ref (99)]) (M' := (I, J, Rx R, N, G)) rfl ?_
          refine XP_pure rfl rfl (m_isPath hI.1 hI.2.1 _) ?_
          refine XP_s rfl ?_
          refine XP_beq (fun b9 => absurd g1 b9) (fun b9 => ?_)
          refine XP_n 2 (pc' := 12) (ls' := [.ref (99), .int (nI (setn)), .int (nI (pn)), .int (y), .int (m)]) (st' := [.int (y), .ref (99)]) (M' := (I, J, Rx R, N, G)) rfl ?_
          refine XP_pure rfl rfl (m_isYear hI.1 hI.2.1 _) ?_
          refine XP_s rfl ?_
          refine XP_beq (fun b13 => ?_) (fun b13 => absurd b13 g2)
          refine XP_n 1 (pc' := 20) (ls' := [.ref (99), .int (nI (setn)), .int (nI (pn)), .int (y), .int (m)]) (st' := [.int (cI (-2))]) (M' := (I, J, Rx R, N, G)) rfl ?_
          exact XP_ret rfl ⟨rfl, _, _, rfl, hI⟩
  obtain ⟨yn, hyn, rfl, ey⟩ := inN_nat g2 (by omega)
  by_cases g3 : iv 0 1000 (m)
  rotate_left
  · skip
    refine ⟨cI (-2), ?_, fun I J hI => ?_⟩
    · unfold TP
      show XP X _ k_H_joint 0 [.ref (0), .int (nI (setn)), .int (nI (pn)), .int (nI (yn)), .int (m)] [] _ _
      refine XP_n 4 (pc' := 4) (ls' := [.ref (0), .int (nI (setn)), .int (nI (pn)), .int (nI (yn)), .int (m)]) (st' := [.ref (80), .int (nI (1)), .int (nI (setn))]) (M' := (I, J, Rx R, N, G)) rfl ?_
      refine XP_pure rfl rfl (c_allT hI.1 hW) ?_
      refine XP_pure rfl rfl (w_H X _ _ 1 (2 ^ cT s - 1) _) ?_
      refine XP_s rfl ?_
      refine XP_beq (fun b6 => absurd g0 b6) (fun b6 => ?_)
      refine XP_n 3 (pc' := 10) (ls' := [.ref (0), .int (nI (setn)), .int (nI (pn)), .int (nI (yn)), .int (m)]) (st' := [.int (nI (pn)), .ref (1)]) (M' := (I, J, Rx R, N, G)) rfl ?_
      refine XP_pure rfl rfl (c_hasPath hI.1 hI.2.1 _) ?_
      refine XP_s rfl ?_
      refine XP_beq (fun b11 => absurd g1 b11) (fun b11 => ?_)
      refine XP_n 2 (pc' := 14) (ls' := [.ref (0), .int (nI (setn)), .int (nI (pn)), .int (nI (yn)), .int (m)]) (st' := [.int (nI (yn)), .ref (0)]) (M' := (I, J, Rx R, N, G)) rfl ?_
      refine XP_pure rfl rfl (h_isYear hI.1 hI.2.1 _) ?_
      refine XP_s rfl ?_
      refine XP_beq (fun b15 => absurd g2 b15) (fun b15 => ?_)
      refine XP_n 1 (pc' := 17) (ls' := [.ref (0), .int (nI (setn)), .int (nI (pn)), .int (nI (yn)), .int (m)]) (st' := [.int (m)]) (M' := (I, J, Rx R, N, G)) rfl ?_
      refine XP_pure rfl rfl (t_H_isMany X _ _ _) ?_
      refine XP_s rfl ?_
      refine XP_bne (fun b18 => absurd b18 g3) (fun b18 => ?_)
      refine XP_n 1 (pc' := 20) (ls' := [.ref (0), .int (nI (setn)), .int (nI (pn)), .int (nI (yn)), .int (m)]) (st' := [.int (cI (-2))]) (M' := (I, J, Rx R, N, G)) rfl ?_
      exact XP_ret rfl ⟨rfl, _, _, rfl, hI⟩
    · unfold TP
      show XP X _ k_M_joint 0 [.ref (99), .int (nI (setn)), .int (nI (pn)), .int (nI (yn)), .int (m)] [] _ _
      refine XP_n 2 (pc' := 2) (ls' := [.ref (99), .int (nI (setn)), .int (nI (pn)), .int (nI (yn)), .int (m)]) (st' := [.int (nI (setn)), .ref (99)]) (M' := (I, J, Rx R, N, G)) rfl ?_
      refine XP_pure rfl rfl (m_areT hI.1 hW _) ?_
      refine XP_s rfl ?_
      refine XP_beq (fun (b3 : ¬ (iv 0 (2 ^ cT s - 1) (nI (setn)))) => ?_) (fun (b3 : iv 0 (2 ^ cT s - 1) (nI (setn))) => ?_)
      · refine XP_n 1 (pc' := 20) (ls' := [.ref (99), .int (nI (setn)), .int (nI (pn)), .int (nI (yn)), .int (m)]) (st' := [.int (cI (-2))]) (M' := (I, J, Rx R, N, G)) rfl ?_
        exact XP_ret rfl ⟨rfl, _, _, rfl, hI⟩
      · refine XP_n 1 (pc' := 5) (ls' := [.ref (99), .int (nI (setn)), .int (nI (pn)), .int (nI (yn)), .int (m)]) (st' := [.int (nI (setn))]) (M' := (I, J, Rx R, N, G)) rfl ?_
        refine XP_ifN (x := setn)  rfl (by omega) (fun (b5 : setn = 0) => ?_) (fun (b5 : ¬ setn = 0) => ?_)
        · refine XP_n 1 (pc' := 20) (ls' := [.ref (99), .int (nI (setn)), .int (nI (pn)), .int (nI (yn)), .int (m)]) (st' := [.int (cI (-2))]) (M' := (I, J, Rx R, N, G)) rfl ?_
          exact XP_ret rfl ⟨rfl, _, _, rfl, hI⟩
        · refine XP_n 2 (pc' := 8) (ls' := [.ref (99), .int (nI (setn)), .int (nI (pn)), .int (nI (yn)), .int (m)]) (st' := [.int (nI (pn)), .ref (99)]) (M' := (I, J, Rx R, N, G)) rfl ?_
          refine XP_pure rfl rfl (m_isPath hI.1 hI.2.1 _) ?_
          refine XP_s rfl ?_
          refine XP_beq (fun b9 => absurd g1 b9) (fun b9 => ?_)
          refine XP_n 2 (pc' := 12) (ls' := [.ref (99), .int (nI (setn)), .int (nI (pn)), .int (nI (yn)), .int (m)]) (st' := [.int (nI (yn)), .ref (99)]) (M' := (I, J, Rx R, N, G)) rfl ?_
          refine XP_pure rfl rfl (m_isYear hI.1 hI.2.1 _) ?_
          refine XP_s rfl ?_
          refine XP_beq (fun b13 => absurd g2 b13) (fun b13 => ?_)
          refine XP_n 3 (pc' := 17) (ls' := [.ref (99), .int (nI (setn)), .int (nI (pn)), .int (nI (yn)), .int (m)]) (st' := [.int (nI (1000)), .int (nI (0)), .int (m)]) (M' := (I, J, Rx R, N, G)) rfl ?_
          refine XP_pure rfl rfl (w_M X _ _ 0 1000 _) ?_
          refine XP_s rfl ?_
          refine XP_bne (fun b18 => absurd b18 g3) (fun b18 => ?_)
          refine XP_n 1 (pc' := 20) (ls' := [.ref (99), .int (nI (setn)), .int (nI (pn)), .int (nI (yn)), .int (m)]) (st' := [.int (cI (-2))]) (M' := (I, J, Rx R, N, G)) rfl ?_
          exact XP_ret rfl ⟨rfl, _, _, rfl, hI⟩
  obtain ⟨mn, hmn0, hmn, rfl, em⟩ := iv_nat g3 (by omega) (by omega)
  refine ⟨oCo s pn yn setn mn, ?_, fun I J hI => ?_⟩
  · unfold TP
    show XP X _ k_H_joint 0 [.ref (0), .int (nI (setn)), .int (nI (pn)), .int (nI (yn)), .int (nI (mn))] [] _ _
    refine XP_n 4 (pc' := 4) (ls' := [.ref (0), .int (nI (setn)), .int (nI (pn)), .int (nI (yn)), .int (nI (mn))]) (st' := [.ref (80), .int (nI (1)), .int (nI (setn))]) (M' := (I, J, Rx R, N, G)) rfl ?_
    refine XP_pure rfl rfl (c_allT hI.1 hW) ?_
    refine XP_pure rfl rfl (w_H X _ _ 1 (2 ^ cT s - 1) _) ?_
    refine XP_s rfl ?_
    refine XP_beq (fun b6 => absurd g0 b6) (fun b6 => ?_)
    refine XP_n 3 (pc' := 10) (ls' := [.ref (0), .int (nI (setn)), .int (nI (pn)), .int (nI (yn)), .int (nI (mn))]) (st' := [.int (nI (pn)), .ref (1)]) (M' := (I, J, Rx R, N, G)) rfl ?_
    refine XP_pure rfl rfl (c_hasPath hI.1 hI.2.1 _) ?_
    refine XP_s rfl ?_
    refine XP_beq (fun b11 => absurd g1 b11) (fun b11 => ?_)
    refine XP_n 2 (pc' := 14) (ls' := [.ref (0), .int (nI (setn)), .int (nI (pn)), .int (nI (yn)), .int (nI (mn))]) (st' := [.int (nI (yn)), .ref (0)]) (M' := (I, J, Rx R, N, G)) rfl ?_
    refine XP_pure rfl rfl (h_isYear hI.1 hI.2.1 _) ?_
    refine XP_s rfl ?_
    refine XP_beq (fun b15 => absurd g2 b15) (fun b15 => ?_)
    refine XP_n 1 (pc' := 17) (ls' := [.ref (0), .int (nI (setn)), .int (nI (pn)), .int (nI (yn)), .int (nI (mn))]) (st' := [.int (nI (mn))]) (M' := (I, J, Rx R, N, G)) rfl ?_
    refine XP_pure rfl rfl (t_H_isMany X _ _ _) ?_
    refine XP_s rfl ?_
    refine XP_bne (fun b18 => ?_) (fun b18 => absurd g3 b18)
    refine XP_n 5 (pc' := 26) (ls' := [.ref (0), .int (nI (setn)), .int (nI (pn)), .int (nI (yn)), .int (nI (mn))]) (st' := [.int (nI (0)), .int (nI (yn)), .int (nI (pn)), .ref (80)]) (M' := (I, J, Rx R, N, G)) rfl ?_
    refine XP_call rfl rfl (c_look hI (show pn < cP s by omega) (show yn < cY s by omega) (up := 0)) ?_
    rintro v37 M37 ⟨rfl, I37, rfl, hI37, h5_37, h6_37, h7_37⟩
    refine XP_n 4 (pc' := 31) (ls' := [.ref (0), .int (nI (setn)), .int (nI (pn)), .int (nI (yn)), .int (nI (mn))]) (st' := [.int (nI (mn)), .int (nI (setn)), .ref (80)]) (M' := (I37, J, Rx R, N, G)) rfl ?_
    refine XP_call rfl rfl (c_oneWall hI37 (show setn < 8 by omega) hpn hyn (show mn ≤ 1000 by omega) h5_37 h6_37) ?_
    rintro v38 M38 ⟨rfl, I38, rfl, hI38, hO38⟩
    have f38_80_5 : I38 80 5 = nI (nLv s (pn) (yn)) := (congrFun (hO38 80 (by have := oT_ge (cLw s); simp; omega)) 5).trans h5_37
    have f38_80_6 : I38 80 6 = nI (yn) := (congrFun (hO38 80 (by have := oT_ge (cLw s); simp; omega)) 6).trans h6_37
    have f38_80_7 : I38 80 7 = nI (0) := (congrFun (hO38 80 (by have := oT_ge (cLw s); simp; omega)) 7).trans h7_37
    exact XP_ret rfl ⟨rfl, _, _, rfl, hI38⟩
  · unfold TP
    show XP X _ k_M_joint 0 [.ref (99), .int (nI (setn)), .int (nI (pn)), .int (nI (yn)), .int (nI (mn))] [] _ _
    refine XP_n 2 (pc' := 2) (ls' := [.ref (99), .int (nI (setn)), .int (nI (pn)), .int (nI (yn)), .int (nI (mn))]) (st' := [.int (nI (setn)), .ref (99)]) (M' := (I, J, Rx R, N, G)) rfl ?_
    refine XP_pure rfl rfl (m_areT hI.1 hW _) ?_
    refine XP_s rfl ?_
    refine XP_beq (fun b3 => absurd (show iv 0 (2 ^ cT s - 1) (nI setn) from ⟨(nI_leI (by omega) (by omega)).mpr (by omega), g0.2⟩) b3) (fun b3 => ?_)
    refine XP_n 1 (pc' := 5) (ls' := [.ref (99), .int (nI (setn)), .int (nI (pn)), .int (nI (yn)), .int (nI (mn))]) (st' := [.int (nI (setn))]) (M' := (I, J, Rx R, N, G)) rfl ?_
    refine XP_ifN (x := setn)  rfl (by omega) (fun (b5 : setn = 0) => absurd b5 (by omega)) (fun (b5 : ¬ setn = 0) => ?_)
    refine XP_n 2 (pc' := 8) (ls' := [.ref (99), .int (nI (setn)), .int (nI (pn)), .int (nI (yn)), .int (nI (mn))]) (st' := [.int (nI (pn)), .ref (99)]) (M' := (I, J, Rx R, N, G)) rfl ?_
    refine XP_pure rfl rfl (m_isPath hI.1 hI.2.1 _) ?_
    refine XP_s rfl ?_
    refine XP_beq (fun b9 => absurd g1 b9) (fun b9 => ?_)
    refine XP_n 2 (pc' := 12) (ls' := [.ref (99), .int (nI (setn)), .int (nI (pn)), .int (nI (yn)), .int (nI (mn))]) (st' := [.int (nI (yn)), .ref (99)]) (M' := (I, J, Rx R, N, G)) rfl ?_
    refine XP_pure rfl rfl (m_isYear hI.1 hI.2.1 _) ?_
    refine XP_s rfl ?_
    refine XP_beq (fun b13 => absurd g2 b13) (fun b13 => ?_)
    refine XP_n 3 (pc' := 17) (ls' := [.ref (99), .int (nI (setn)), .int (nI (pn)), .int (nI (yn)), .int (nI (mn))]) (st' := [.int (nI (1000)), .int (nI (0)), .int (nI (mn))]) (M' := (I, J, Rx R, N, G)) rfl ?_
    refine XP_pure rfl rfl (w_M X _ _ 0 1000 _) ?_
    refine XP_s rfl ?_
    refine XP_bne (fun b18 => ?_) (fun b18 => absurd g3 b18)
    refine XP_n 5 (pc' := 26) (ls' := [.ref (99), .int (nI (setn)), .int (nI (pn)), .int (nI (yn)), .int (nI (mn))]) (st' := [.int (nI (mn)), .int (nI (yn)), .int (nI (pn)), .int (nI (setn)), .ref (99)]) (M' := (I, J, Rx R, N, G)) rfl ?_
    refine XP_call rfl (rfl) (m_joint hI (show setn < 8 by omega) hpn hyn (show mn ≤ 1000 by omega)) ?_
    rintro v39 M39 ⟨rfl, I39, J39, rfl, hI39⟩
    exact XP_ret rfl ⟨rfl, _, _, rfl, hI39⟩
end
