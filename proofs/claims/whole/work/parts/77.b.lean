/-! face: join -/
def oCn (s : Nat → Nat → Int32) (p y m most : Nat) : Nat := nCost s (s 99 3) (oUp s (nLv s p y) m most (cT s)) (oLo s m (cT s)) y (nI (min (oRi s m (cT s)) 9999))
theorem oCn_ok (s : Nat → Nat → Int32) (p y m most : Nat) : oCo s p y m most = nI (oCn s p y m most) ∧ oCn s p y m most ≤ 9999 := nCost_ok (s := s) _ _ _ _ _
theorem oCn_0 {s : Nat → Nat → Int32} (h : cT s = 0) (p y m most : Nat) : oCn s p y m most = 0 := by
  unfold oCn
  rw [h]
  rfl
def ptS (s : Nat → Nat → Int32) (sn m : Nat) : Nat → Nat
  | 0 => 0
  | n + 1 => if tbt m n = 0 then ptS s sn m n else ptS s sn m n + wN (s 122 (40 * sn + n))
theorem ptS_le {s : Nat → Nat → Int32} {sn k : Nat} (m : Nat) (ho : shOk s sn k 99999) : ∀ n, n ≤ k → ptS s sn m n ≤ n * 99999
  | 0, _ => by simp [ptS]
  | n + 1, hn => by
    have h1 := ptS_le m ho n (by omega)
    obtain ⟨z, -, hz, ez, ewz⟩ := iv_nat (ho.2 n (by omega)) (by omega) (by omega)
    unfold ptS
    rw [Nat.add_mul]
    split
    · exact Nat.le_trans h1 (Nat.le_add_right _ _)
    · exact Nat.add_le_add h1 (by omega)
def jnV (s : Nat → Nat → Int32) (sn p y mo : Nat) : Nat → Nat → Int32
  | 0, _ => if ptS s sn (2 ^ cT s - 1) (cT s) < oCn s p y (2 ^ cT s - 1) mo then nI (2 ^ cT s - 1) else cI (-1)
  | n + 1, i => if oCn s p y i mo < ptS s sn i (cT s) then nI i else jnV s sn p y mo n (i + 1)
section
variable {X : hX} {d : Nat} {s I : Nat → Nat → Int32} {J : Nat → Nat → Int64} {R : Nat → Nat → Option Nat} {N : Nat → Nat} {G : hG}
theorem l_sumOf (hS : St s I) (hW : Wf s) {sn m : Nat} (hsn : sn < 4) (hm : m < 8) (ho : shOk s sn (cT s) 99999) : ∀ (n i : Nat), i + n = cT s → XP X (d + 1) k_Sheet_sumOf 4 [.ref (87 + 2 * sn), .int (nI (m)), .long (lN (ptS s sn m (i))), xj, .int (nI (i))] [] (I, J, Rx R, N, G) (Ret (.long (lN (ptS s sn m (cT s)))) (I, J, Rx R, N, G)) := by
  have hsz := ho.1
  have ht3 := hW.t.2
  have hpu9 := hW.pu.2
  have hp4 := hW.p.2
  have hy16 := hW.y.2
  have h2p : 1 ≤ 2 ^ cT s ∧ 2 ^ cT s ≤ 8 ∧ (0 < cT s → 2 ≤ 2 ^ cT s) := tN_le hW
  intro n
  induction n with
  | zero =>
    rintro i hi
    obtain rfl : i = cT s := by omega
    refine XP_n 2 (pc' := 6) (ls' := [.ref (87 + 2 * sn), .int (nI (m)), .long (lN (ptS s sn m (cT s))), xj, .int (nI (cT s))]) (st' := [.ref (87 + 2 * sn), .int (nI (cT s))]) (M' := (I, J, Rx R, N, G)) rfl ?_
    refine XP_getw rfl (by rw [sh_o (show sn < 4 by omega)]; rfl) ?_
    show XP X _ k_Sheet_sumOf 7 [.ref (87 + 2 * sn), .int (nI (m)), .long (lN (ptS s sn m (cT s))), xj, .int (nI (cT s))] [.int (I (87 + 2 * sn) 1), .int (nI (cT s))] _ _
    rw [show I (87 + 2 * sn) 1 = s 121 sn from hS _ _ _ _ (sh_m1 (show sn < 4 by omega))]
    rw [(hW.sz1 hsn).1]
    refine XP_icN (x := cT s) (y := sz s sn) rfl (by omega) (by omega) (fun (b7 : sz s sn ≤ cT s) => ?_) (fun (b7 : cT s < sz s sn) => absurd b7 (by omega))
    refine XP_n 1 (pc' := 27) (ls' := [.ref (87 + 2 * sn), .int (nI (m)), .long (lN (ptS s sn m (cT s))), xj, .int (nI (cT s))]) (st' := [.long (lN (ptS s sn m (cT s)))]) (M' := (I, J, Rx R, N, G)) rfl ?_
    exact XP_ret rfl ⟨rfl, rfl⟩
  | succ n ih =>
    rintro i hi
    obtain ⟨z, -, hz, ez, ewz⟩ := iv_nat (ho.2 i (by omega)) (by omega) (by omega)
    have hbt := tbt_le m i
    have e1 : ptS s sn m (i + 1) = (if tbt m i = 0 then ptS s sn m i else ptS s sn m i + z) := by rw [← ewz]; rfl
    refine XP_n 2 (pc' := 6) (ls' := [.ref (87 + 2 * sn), .int (nI (m)), .long (lN (ptS s sn m (i))), xj, .int (nI (i))]) (st' := [.ref (87 + 2 * sn), .int (nI (i))]) (M' := (I, J, Rx R, N, G)) rfl ?_
    refine XP_getw rfl (by rw [sh_o (show sn < 4 by omega)]; rfl) ?_
    show XP X _ k_Sheet_sumOf 7 [.ref (87 + 2 * sn), .int (nI (m)), .long (lN (ptS s sn m (i))), xj, .int (nI (i))] [.int (I (87 + 2 * sn) 1), .int (nI (i))] _ _
    rw [show I (87 + 2 * sn) 1 = s 121 sn from hS _ _ _ _ (sh_m1 (show sn < 4 by omega))]
    rw [(hW.sz1 hsn).1]
    refine XP_icN (x := i) (y := sz s sn) rfl (by omega) (by omega) (fun (b7 : sz s sn ≤ i) => absurd b7 (by omega)) (fun (b7 : i < sz s sn) => ?_)
    refine XP_n 2 (pc' := 10) (ls' := [.ref (87 + 2 * sn), .int (nI (m)), .long (lN (ptS s sn m (i))), xj, .int (nI (i))]) (st' := [.int (nI (31)), .int (nI (i))]) (M' := (I, J, Rx R, N, G)) rfl ?_
    refine XP_icN (x := i) (y := 31) rfl (by omega) (by omega) (fun (b10 : 31 ≤ i) => absurd b10 (by omega)) (fun (b10 : i < 31) => ?_)
    refine XP_n 5 (pc' := 16) (ls' := [.ref (87 + 2 * sn), .int (nI (m)), .long (lN (ptS s sn m (i))), xj, .int (nI (i))]) (st' := [.int (((nI (m)) >>> ((nI (i)) &&& 31)) &&& (nI (1)))]) (M' := (I, J, Rx R, N, G)) rfl ?_
    rw [show ((nI (m)) >>> ((nI (i)) &&& 31)) &&& (nI (1)) = nI (tbt m i) from b_tbt (show m < 8 by omega) (show i < 3 by omega)]
    refine XP_ifN (x := tbt m i)  rfl (by omega) (fun (b16 : tbt m i = 0) => ?_) (fun (b16 : ¬ tbt m i = 0) => ?_)
    · refine XP_n 1 (pc' := 25) (ls' := [.ref (87 + 2 * sn), .int (nI (m)), .long (lN (ptS s sn m (i))), xj, .int (nI (i) + nI (1))]) (st' := []) (M' := (I, J, Rx R, N, G)) rfl ?_
      rw [show nI (i) + nI (1) = nI (i + 1) from nI_addE (rfl) rfl]
      refine XP_n 1 (pc' := 4) (ls' := [.ref (87 + 2 * sn), .int (nI (m)), .long (lN (ptS s sn m (i))), xj, .int (nI (i + 1))]) (st' := []) (M' := (I, J, Rx R, N, G)) rfl ?_
      have ih' := ih (i + 1) (by omega)
      rw [e1, if_pos (by omega)] at ih'
      exact ih'
    · refine XP_n 3 (pc' := 20) (ls' := [.ref (87 + 2 * sn), .int (nI (m)), .long (lN (ptS s sn m (i))), xj, .int (nI (i))]) (st' := [.int (nI (i)), .ref (87 + 2 * sn), .long (lN (ptS s sn m (i)))]) (M' := (I, J, Rx R, N, G)) rfl ?_
      refine XP_pure rfl (by show (isO (87 + 2 * sn) 8 || false) = true; rw [sh_o (by omega)]; rfl) (c_shat hS hW (show sn < 4 by omega) (show i < sz s sn by omega)) ?_
      rw [ez]
      refine XP_n 3 (pc' := 24) (ls' := [.ref (87 + 2 * sn), .int (nI (m)), .long ((lN (ptS s sn m (i))) + ((nI (z)).toInt64)), xj, .int (nI (i))]) (st' := []) (M' := (I, J, Rx R, N, G)) rfl ?_
      rw [show (lN (ptS s sn m (i))) + ((nI (z)).toInt64) = lN (ptS s sn m (i) + z) from lN_addE (rfl) (nI_lE (rfl) (by omega))]
      refine XP_n 1 (pc' := 25) (ls' := [.ref (87 + 2 * sn), .int (nI (m)), .long (lN (ptS s sn m (i) + z)), xj, .int (nI (i) + nI (1))]) (st' := []) (M' := (I, J, Rx R, N, G)) rfl ?_
      rw [show nI (i) + nI (1) = nI (i + 1) from nI_addE (rfl) rfl]
      refine XP_n 1 (pc' := 4) (ls' := [.ref (87 + 2 * sn), .int (nI (m)), .long (lN (ptS s sn m (i) + z)), xj, .int (nI (i + 1))]) (st' := []) (M' := (I, J, Rx R, N, G)) rfl ?_
      have ih' := ih (i + 1) (by omega)
      rw [e1, if_neg (by omega)] at ih'
      exact ih'
theorem l_partsOf (hS : St s I) (hW : Wf s) {sn m : Nat} (hsn : sn < 4) (hm : m < 8) (ho : shOk s sn (cT s) 99999) : ∀ (n i : Nat), i + n = cT s → XP X (d) k_M_partsOf 4 [.ref (99), .int (nI (sn)), .int (nI (m)), .long (lN (ptS s sn m (i))), xj, .int (nI (i))] [] (I, J, Rx R, N, G) (Ret (.long (lN (ptS s sn m (cT s)))) (I, J, Rx R, N, G)) := by
  have hsz := ho.1
  have ht3 := hW.t.2
  have hpu9 := hW.pu.2
  have hp4 := hW.p.2
  have hy16 := hW.y.2
  have h2p : 1 ≤ 2 ^ cT s ∧ 2 ^ cT s ≤ 8 ∧ (0 < cT s → 2 ≤ 2 ^ cT s) := tN_le hW
  intro n
  induction n with
  | zero =>
    rintro i hi
    obtain rfl : i = cT s := by omega
    refine XP_n 2 (pc' := 6) (ls' := [.ref (99), .int (nI (sn)), .int (nI (m)), .long (lN (ptS s sn m (cT s))), xj, .int (nI (cT s))]) (st' := [.ref (99), .int (nI (cT s))]) (M' := (I, J, Rx R, N, G)) rfl ?_
    refine XP_geti hS rfl rfl rfl ?_
    rw [hW.t.1]
    refine XP_icN (x := cT s) (y := cT s) rfl (by omega) (by omega) (fun (b7 : cT s ≤ cT s) => ?_) (fun (b7 : cT s < cT s) => absurd b7 (by omega))
    refine XP_n 1 (pc' := 32) (ls' := [.ref (99), .int (nI (sn)), .int (nI (m)), .long (lN (ptS s sn m (cT s))), xj, .int (nI (cT s))]) (st' := [.long (lN (ptS s sn m (cT s)))]) (M' := (I, J, Rx R, N, G)) rfl ?_
    exact XP_ret rfl ⟨rfl, rfl⟩
  | succ n ih =>
    rintro i hi
    obtain ⟨z, -, hz, ez, ewz⟩ := iv_nat (ho.2 i (by omega)) (by omega) (by omega)
    have hbt := tbt_le m i
    have e1 : ptS s sn m (i + 1) = (if tbt m i = 0 then ptS s sn m i else ptS s sn m i + z) := by rw [← ewz]; rfl
    refine XP_n 2 (pc' := 6) (ls' := [.ref (99), .int (nI (sn)), .int (nI (m)), .long (lN (ptS s sn m (i))), xj, .int (nI (i))]) (st' := [.ref (99), .int (nI (i))]) (M' := (I, J, Rx R, N, G)) rfl ?_
    refine XP_geti hS rfl rfl rfl ?_
    rw [hW.t.1]
    refine XP_icN (x := i) (y := cT s) rfl (by omega) (by omega) (fun (b7 : cT s ≤ i) => absurd b7 (by omega)) (fun (b7 : i < cT s) => ?_)
    refine XP_n 7 (pc' := 15) (ls' := [.ref (99), .int (nI (sn)), .int (nI (m)), .long (lN (ptS s sn m (i))), xj, .int (nI (i))]) (st' := [.int (nI (1)), .int (((nI (m)) >>> ((nI (i)) &&& 31)) &&& (nI (1))), .long (lN (ptS s sn m (i)))]) (M' := (I, J, Rx R, N, G)) rfl ?_
    rw [show ((nI (m)) >>> ((nI (i)) &&& 31)) &&& (nI (1)) = nI (tbt m i) from b_tbt (show m < 8 by omega) (show i < 3 by omega)]
    refine XP_icN (x := tbt m i) (y := 1) rfl (by omega) (by omega) (fun (b15 : ¬ tbt m i = 1) => ?_) (fun (b15 : tbt m i = 1) => ?_)
    · refine XP_n 3 (pc' := 29) (ls' := [.ref (99), .int (nI (sn)), .int (nI (m)), .long ((lN (ptS s sn m (i))) + (lN (0))), xj, .int (nI (i))]) (st' := []) (M' := (I, J, Rx R, N, G)) rfl ?_
      rw [show (lN (ptS s sn m (i))) + (lN (0)) = lN (ptS s sn m (i) + 0) from lN_addE (rfl) (rfl)]
      refine XP_n 1 (pc' := 30) (ls' := [.ref (99), .int (nI (sn)), .int (nI (m)), .long (lN (ptS s sn m (i) + 0)), xj, .int (nI (i) + nI (1))]) (st' := []) (M' := (I, J, Rx R, N, G)) rfl ?_
      rw [show nI (i) + nI (1) = nI (i + 1) from nI_addE (rfl) rfl]
      refine XP_n 1 (pc' := 4) (ls' := [.ref (99), .int (nI (sn)), .int (nI (m)), .long (lN (ptS s sn m (i) + 0)), xj, .int (nI (i + 1))]) (st' := []) (M' := (I, J, Rx R, N, G)) rfl ?_
      have ih' := ih (i + 1) (by omega)
      rw [e1, if_pos (by omega)] at ih'
      exact ih'
    · refine XP_n 7 (pc' := 23) (ls' := [.ref (99), .int (nI (sn)), .int (nI (m)), .long (lN (ptS s sn m (i))), xj, .int (nI (i))]) (st' := [.int (((nI (40)) * (nI (sn))) + (nI (i))), .ref (122), .long (lN (ptS s sn m (i)))]) (M' := (I, J, Rx R, N, G)) rfl ?_
      rw [show ((nI (40)) * (nI (sn))) + (nI (i)) = nI ((40) * (sn) + i) from nI_addE (nI_mulE (rfl) (rfl)) (rfl)]
      refine XP_iald hS rfl rfl (show (40) * (sn) + i < 160 by omega) rfl (by omega) rfl ?_
      rw [ez]
      refine XP_n 4 (pc' := 29) (ls' := [.ref (99), .int (nI (sn)), .int (nI (m)), .long ((lN (ptS s sn m (i))) + ((nI (z)).toInt64)), xj, .int (nI (i))]) (st' := []) (M' := (I, J, Rx R, N, G)) rfl ?_
      rw [show (lN (ptS s sn m (i))) + ((nI (z)).toInt64) = lN (ptS s sn m (i) + z) from lN_addE (rfl) (nI_lE (rfl) (by omega))]
      refine XP_n 1 (pc' := 30) (ls' := [.ref (99), .int (nI (sn)), .int (nI (m)), .long (lN (ptS s sn m (i) + z)), xj, .int (nI (i) + nI (1))]) (st' := []) (M' := (I, J, Rx R, N, G)) rfl ?_
      rw [show nI (i) + nI (1) = nI (i + 1) from nI_addE (rfl) rfl]
      refine XP_n 1 (pc' := 4) (ls' := [.ref (99), .int (nI (sn)), .int (nI (m)), .long (lN (ptS s sn m (i) + z)), xj, .int (nI (i + 1))]) (st' := []) (M' := (I, J, Rx R, N, G)) rfl ?_
      have ih' := ih (i + 1) (by omega)
      rw [e1, if_neg (by omega)] at ih'
      exact ih'
theorem c_sumOf (hS : St s I) (hW : Wf s) {sn m : Nat} (hsn : sn < 4) (hm : m < 8) (ho : shOk s sn (cT s) 99999) : TP X (d + 1) n_Sheet_sumOf [.ref (87 + 2 * sn), .int (nI (m))] (I, J, Rx R, N, G) (Ret (.long (lN (ptS s sn m (cT s)))) (I, J, Rx R, N, G)) := by
  unfold TP
  show XP X _ k_Sheet_sumOf 0 [.ref (87 + 2 * sn), .int (nI (m)), xj, xj, xj] [] _ _
  refine XP_n 4 (pc' := 4) (ls' := [.ref (87 + 2 * sn), .int (nI (m)), .long (lN (0)), xj, .int (nI (0))]) (st' := []) (M' := (I, J, Rx R, N, G)) rfl ?_
  exact l_sumOf hS hW hsn hm ho (cT s) 0 (by omega)
theorem m_partsOf (hS : St s I) (hW : Wf s) {sn m : Nat} (hsn : sn < 4) (hm : m < 8) (ho : shOk s sn (cT s) 99999) : TP X (d) n_M_partsOf [.ref (99), .int (nI (sn)), .int (nI (m))] (I, J, Rx R, N, G) (Ret (.long (lN (ptS s sn m (cT s)))) (I, J, Rx R, N, G)) := by
  unfold TP
  show XP X _ k_M_partsOf 0 [.ref (99), .int (nI (sn)), .int (nI (m)), xj, xj, xj] [] _ _
  refine XP_n 4 (pc' := 4) (ls' := [.ref (99), .int (nI (sn)), .int (nI (m)), .long (lN (0)), xj, .int (nI (0))]) (st' := []) (M' := (I, J, Rx R, N, G)) rfl ?_
  exact l_partsOf hS hW hsn hm ho (cT s) 0 (by omega)
theorem l_H_jn (hW : Wf s) {sn p y mo : Nat} (hsn : sn < 4) (hp : p < cP s) (hy : y < cY s) (hmo : mo ≤ 1000) (ho : shOk s sn (cT s) 99999) {sv x6 : Int32} : ∀ (n i : Nat) (I : Nat → Nat → Int32) (J : Nat → Nat → Int64), i + n = 2 ^ cT s → 1 ≤ i → Inv s R N I J → I 80 5 = nI (nLv s p y) → I 80 6 = nI y → XP X (d + 8) k_H_join 43 [.ref (0), .int (sv), .int (nI (p)), .int (nI (y)), .int (nI (mo)), .ref (87 + 2 * sn), .int (x6), .int (nI (2 ^ cT s - 1)), .int (nI (i))] [] (I, J, Rx R, N, G) (QP s R N G (.int (jnV s sn p y mo (n) (i)))) := by
  have ht3 := hW.t.2
  have hpu9 := hW.pu.2
  have hp4 := hW.p.2
  have hy16 := hW.y.2
  have h2p : 1 ≤ 2 ^ cT s ∧ 2 ^ cT s ≤ 8 ∧ (0 < cT s → 2 ≤ 2 ^ cT s) := tN_le hW
  have hpl := ptS_le (2 ^ cT s - 1) ho (cT s) (Nat.le_refl _)
  have hoz := fun h : cT s = 0 => oCn_0 h p y (2 ^ cT s - 1) mo
  have hp2 : 2 ^ cT s = 1 → cT s = 0 := fun h => by
    rcases Nat.eq_zero_or_pos (cT s) with e | e
    · exact e
    · have := h2p.2.2 e; omega
  intro n
  induction n with
  | zero =>
    rintro i I J hi h1 hI h5 h6
    have hS := hI.1
    obtain rfl : i = 2 ^ cT s := by omega
    have es : jnV s sn p y mo (0) (2 ^ cT s) = (if ptS s sn (2 ^ cT s - 1) (cT s) < oCn s p y (2 ^ cT s - 1) mo then nI (2 ^ cT s - 1) else cI (-1)) := rfl
    rw [es]
    refine XP_n 2 (pc' := 45) (ls' := [.ref (0), .int (sv), .int (nI (p)), .int (nI (y)), .int (nI (mo)), .ref (87 + 2 * sn), .int (x6), .int (nI (2 ^ cT s - 1)), .int (nI (2 ^ cT s))]) (st' := [.int (nI (2 ^ cT s - 1)), .int (nI (2 ^ cT s))]) (M' := (I, J, Rx R, N, G)) rfl ?_
    refine XP_icN (x := 2 ^ cT s) (y := 2 ^ cT s - 1) rfl (by omega) (by omega) (fun (b45 : 2 ^ cT s - 1 < 2 ^ cT s) => ?_) (fun (b45 : 2 ^ cT s ≤ 2 ^ cT s - 1) => absurd b45 (by omega))
    refine XP_n 2 (pc' := 63) (ls' := [.ref (0), .int (sv), .int (nI (p)), .int (nI (y)), .int (nI (mo)), .ref (87 + 2 * sn), .int (x6), .int (nI (2 ^ cT s - 1)), .int (nI (2 ^ cT s))]) (st' := [.int (nI (2 ^ cT s - 1)), .ref (87 + 2 * sn)]) (M' := (I, J, Rx R, N, G)) rfl ?_
    refine XP_pure rfl (by show (isO (87 + 2 * sn) 8 || false) = true; rw [sh_o (by omega)]; rfl) (c_sumOf hS hW hsn (show 2 ^ cT s - 1 < 8 by omega) ho) ?_
    have hps3 := ptS_le (2 ^ cT s - 1) ho (cT s) (Nat.le_refl _)
    refine XP_n 4 (pc' := 68) (ls' := [.ref (0), .int (sv), .int (nI (p)), .int (nI (y)), .int (nI (mo)), .ref (87 + 2 * sn), .int (x6), .int (nI (2 ^ cT s - 1)), .int (nI (2 ^ cT s))]) (st' := [.int (nI (mo)), .int (nI (2 ^ cT s - 1)), .ref (80), .long (lN (ptS s sn (2 ^ cT s - 1) (cT s)))]) (M' := (I, J, Rx R, N, G)) rfl ?_
    refine XP_call rfl rfl (c_oneWall hI (show 2 ^ cT s - 1 < 8 by omega) hp hy (show mo ≤ 1000 by omega) h5 h6) ?_
    rintro v21 M21 ⟨rfl, I21, rfl, hI21, hO21⟩
    have f21_80_5 : I21 80 5 = nI (nLv s p y) := (congrFun (hO21 80 (by have := oT_ge (cLw s); simp; omega)) 5).trans h5
    have f21_80_6 : I21 80 6 = nI (y) := (congrFun (hO21 80 (by have := oT_ge (cLw s); simp; omega)) 6).trans h6
    rw [(oCn_ok s p y (2 ^ cT s - 1) mo).1]
    have hoc21 := (oCn_ok s p y (2 ^ cT s - 1) mo).2
    refine XP_n 1 (pc' := 70) (ls' := [.ref (0), .int (sv), .int (nI (p)), .int (nI (y)), .int (nI (mo)), .ref (87 + 2 * sn), .int (x6), .int (nI (2 ^ cT s - 1)), .int (nI (2 ^ cT s))]) (st' := [.long ((nI (oCn s p y (2 ^ cT s - 1) mo)).toInt64), .long (lN (ptS s sn (2 ^ cT s - 1) (cT s)))]) (M' := (I21, J, Rx R, N, G)) rfl ?_
    rw [show (nI (oCn s p y (2 ^ cT s - 1) mo)).toInt64 = lN (oCn s p y (2 ^ cT s - 1) mo) from nI_lE (rfl) (by omega)]
    refine XP_lcN (x := ptS s sn (2 ^ cT s - 1) (cT s)) (y := oCn s p y (2 ^ cT s - 1) mo) rfl rfl (by omega) (by omega) (fun (b71 : oCn s p y (2 ^ cT s - 1) mo ≤ ptS s sn (2 ^ cT s - 1) (cT s)) => ?_) (fun (b71 : ptS s sn (2 ^ cT s - 1) (cT s) < oCn s p y (2 ^ cT s - 1) mo) => ?_)
    · refine XP_n 1 (pc' := 75) (ls' := [.ref (0), .int (sv), .int (nI (p)), .int (nI (y)), .int (nI (mo)), .ref (87 + 2 * sn), .int (x6), .int (nI (2 ^ cT s - 1)), .int (nI (2 ^ cT s))]) (st' := [.int (cI (-1))]) (M' := (I21, J, Rx R, N, G)) rfl ?_
      rw [if_neg (by omega)]
      exact XP_ret rfl ⟨rfl, _, _, rfl, hI21⟩
    · refine XP_n 2 (pc' := 75) (ls' := [.ref (0), .int (sv), .int (nI (p)), .int (nI (y)), .int (nI (mo)), .ref (87 + 2 * sn), .int (x6), .int (nI (2 ^ cT s - 1)), .int (nI (2 ^ cT s))]) (st' := [.int (nI (2 ^ cT s - 1))]) (M' := (I21, J, Rx R, N, G)) rfl ?_
      rw [if_pos (by omega)]
      exact XP_ret rfl ⟨rfl, _, _, rfl, hI21⟩
  | succ n ih =>
    rintro i I J hi h1 hI h5 h6
    have hS := hI.1
    have es : jnV s sn p y mo (n + 1) (i) = (if oCn s p y i mo < ptS s sn i (cT s) then nI i else jnV s sn p y mo (n) (i + 1)) := rfl
    rw [es]
    refine XP_n 2 (pc' := 45) (ls' := [.ref (0), .int (sv), .int (nI (p)), .int (nI (y)), .int (nI (mo)), .ref (87 + 2 * sn), .int (x6), .int (nI (2 ^ cT s - 1)), .int (nI (i))]) (st' := [.int (nI (2 ^ cT s - 1)), .int (nI (i))]) (M' := (I, J, Rx R, N, G)) rfl ?_
    refine XP_icN (x := i) (y := 2 ^ cT s - 1) rfl (by omega) (by omega) (fun (b45 : 2 ^ cT s - 1 < i) => absurd b45 (by omega)) (fun (b45 : i ≤ 2 ^ cT s - 1) => ?_)
    refine XP_n 2 (pc' := 48) (ls' := [.ref (0), .int (sv), .int (nI (p)), .int (nI (y)), .int (nI (mo)), .ref (87 + 2 * sn), .int (x6), .int (nI (2 ^ cT s - 1)), .int (nI (i))]) (st' := [.int (nI (i)), .ref (87 + 2 * sn)]) (M' := (I, J, Rx R, N, G)) rfl ?_
    refine XP_pure rfl (by show (isO (87 + 2 * sn) 8 || false) = true; rw [sh_o (by omega)]; rfl) (c_sumOf hS hW hsn (show i < 8 by omega) ho) ?_
    have hps3 := ptS_le (i) ho (cT s) (Nat.le_refl _)
    refine XP_n 4 (pc' := 53) (ls' := [.ref (0), .int (sv), .int (nI (p)), .int (nI (y)), .int (nI (mo)), .ref (87 + 2 * sn), .int (x6), .int (nI (2 ^ cT s - 1)), .int (nI (i))]) (st' := [.int (nI (mo)), .int (nI (i)), .ref (80), .long (lN (ptS s sn i (cT s)))]) (M' := (I, J, Rx R, N, G)) rfl ?_
    refine XP_call rfl rfl (c_oneWall hI (show i < 8 by omega) hp hy (show mo ≤ 1000 by omega) h5 h6) ?_
    rintro v22 M22 ⟨rfl, I22, rfl, hI22, hO22⟩
    have f22_80_5 : I22 80 5 = nI (nLv s p y) := (congrFun (hO22 80 (by have := oT_ge (cLw s); simp; omega)) 5).trans h5
    have f22_80_6 : I22 80 6 = nI (y) := (congrFun (hO22 80 (by have := oT_ge (cLw s); simp; omega)) 6).trans h6
    rw [(oCn_ok s p y i mo).1]
    have hoc22 := (oCn_ok s p y i mo).2
    refine XP_n 1 (pc' := 55) (ls' := [.ref (0), .int (sv), .int (nI (p)), .int (nI (y)), .int (nI (mo)), .ref (87 + 2 * sn), .int (x6), .int (nI (2 ^ cT s - 1)), .int (nI (i))]) (st' := [.long ((nI (oCn s p y i mo)).toInt64), .long (lN (ptS s sn i (cT s)))]) (M' := (I22, J, Rx R, N, G)) rfl ?_
    rw [show (nI (oCn s p y i mo)).toInt64 = lN (oCn s p y i mo) from nI_lE (rfl) (by omega)]
    refine XP_lcN (x := ptS s sn i (cT s)) (y := oCn s p y i mo) rfl rfl (by omega) (by omega) (fun (b56 : ptS s sn i (cT s) ≤ oCn s p y i mo) => ?_) (fun (b56 : oCn s p y i mo < ptS s sn i (cT s)) => ?_)
    · refine XP_n 1 (pc' := 60) (ls' := [.ref (0), .int (sv), .int (nI (p)), .int (nI (y)), .int (nI (mo)), .ref (87 + 2 * sn), .int (x6), .int (nI (2 ^ cT s - 1)), .int (nI (i) + nI (1))]) (st' := []) (M' := (I22, J, Rx R, N, G)) rfl ?_
      rw [show nI (i) + nI (1) = nI (i + 1) from nI_addE (rfl) rfl]
      refine XP_n 1 (pc' := 43) (ls' := [.ref (0), .int (sv), .int (nI (p)), .int (nI (y)), .int (nI (mo)), .ref (87 + 2 * sn), .int (x6), .int (nI (2 ^ cT s - 1)), .int (nI (i + 1))]) (st' := []) (M' := (I22, J, Rx R, N, G)) rfl ?_
      rw [if_neg (by omega)]
      exact ih (i + 1) _ _ (by omega) (by omega) hI22 f22_80_5 f22_80_6
    · refine XP_n 1 (pc' := 58) (ls' := [.ref (0), .int (sv), .int (nI (p)), .int (nI (y)), .int (nI (mo)), .ref (87 + 2 * sn), .int (x6), .int (nI (2 ^ cT s - 1)), .int (nI (i))]) (st' := [.int (nI (i))]) (M' := (I22, J, Rx R, N, G)) rfl ?_
      rw [if_pos (by omega)]
      exact XP_ret rfl ⟨rfl, _, _, rfl, hI22⟩
theorem l_M_jn (hW : Wf s) {sn p y mo : Nat} (hsn : sn < 4) (hp : p < cP s) (hy : y < cY s) (hmo : mo ≤ 1000) (ho : shOk s sn (cT s) 99999) {x5 : Int32} : ∀ (n i : Nat) (I : Nat → Nat → Int32) (J : Nat → Nat → Int64), i + n = 2 ^ cT s → 1 ≤ i → Inv s R N I J → XP X (d + 8) k_M_join 74 [.ref (99), .int (nI (sn)), .int (nI (p)), .int (nI (y)), .int (nI (mo)), .int (x5), .int (nI (2 ^ cT s - 1)), .int (nI (i))] [] (I, J, Rx R, N, G) (QP s R N G (.int (jnV s sn p y mo (n) (i)))) := by
  have ht3 := hW.t.2
  have hpu9 := hW.pu.2
  have hp4 := hW.p.2
  have hy16 := hW.y.2
  have h2p : 1 ≤ 2 ^ cT s ∧ 2 ^ cT s ≤ 8 ∧ (0 < cT s → 2 ≤ 2 ^ cT s) := tN_le hW
  have hpl := ptS_le (2 ^ cT s - 1) ho (cT s) (Nat.le_refl _)
  have hoz := fun h : cT s = 0 => oCn_0 h p y (2 ^ cT s - 1) mo
  have hp2 : 2 ^ cT s = 1 → cT s = 0 := fun h => by
    rcases Nat.eq_zero_or_pos (cT s) with e | e
    · exact e
    · have := h2p.2.2 e; omega
  intro n
  induction n with
  | zero =>
    rintro i I J hi h1 hI
    have hS := hI.1
    obtain rfl : i = 2 ^ cT s := by omega
    have es : jnV s sn p y mo (0) (2 ^ cT s) = (if ptS s sn (2 ^ cT s - 1) (cT s) < oCn s p y (2 ^ cT s - 1) mo then nI (2 ^ cT s - 1) else cI (-1)) := rfl
    rw [es]
    refine XP_n 2 (pc' := 76) (ls' := [.ref (99), .int (nI (sn)), .int (nI (p)), .int (nI (y)), .int (nI (mo)), .int (x5), .int (nI (2 ^ cT s - 1)), .int (nI (2 ^ cT s))]) (st' := [.int (nI (2 ^ cT s - 1)), .int (nI (2 ^ cT s))]) (M' := (I, J, Rx R, N, G)) rfl ?_
    refine XP_icN (x := 2 ^ cT s) (y := 2 ^ cT s - 1) rfl (by omega) (by omega) (fun (b76 : 2 ^ cT s - 1 < 2 ^ cT s) => ?_) (fun (b76 : 2 ^ cT s ≤ 2 ^ cT s - 1) => absurd b76 (by omega))
    refine XP_n 1 (pc' := 95) (ls' := [.ref (99), .int (nI (sn)), .int (nI (p)), .int (nI (y)), .int (nI (mo)), .int (x5), .int (nI (2 ^ cT s - 1)), .int (nI (2 ^ cT s))]) (st' := [.int (nI (2 ^ cT s - 1))]) (M' := (I, J, Rx R, N, G)) rfl ?_
    refine XP_ifN (x := 2 ^ cT s - 1)  rfl (by omega) (fun (b95 : 2 ^ cT s - 1 ≤ 0) => ?_) (fun (b95 : 0 < 2 ^ cT s - 1) => ?_)
    · refine XP_n 1 (pc' := 112) (ls' := [.ref (99), .int (nI (sn)), .int (nI (p)), .int (nI (y)), .int (nI (mo)), .int (x5), .int (nI (2 ^ cT s - 1)), .int (nI (2 ^ cT s))]) (st' := [.int (cI (-1))]) (M' := (I, J, Rx R, N, G)) rfl ?_
      rw [if_neg (by omega)]
      exact XP_ret rfl ⟨rfl, _, _, rfl, hI⟩
    · refine XP_n 3 (pc' := 99) (ls' := [.ref (99), .int (nI (sn)), .int (nI (p)), .int (nI (y)), .int (nI (mo)), .int (x5), .int (nI (2 ^ cT s - 1)), .int (nI (2 ^ cT s))]) (st' := [.int (nI (2 ^ cT s - 1)), .int (nI (sn)), .ref (99)]) (M' := (I, J, Rx R, N, G)) rfl ?_
      refine XP_pure rfl rfl (m_partsOf hS hW hsn (show 2 ^ cT s - 1 < 8 by omega) ho) ?_
      have hps8 := ptS_le (2 ^ cT s - 1) ho (cT s) (Nat.le_refl _)
      refine XP_n 5 (pc' := 105) (ls' := [.ref (99), .int (nI (sn)), .int (nI (p)), .int (nI (y)), .int (nI (mo)), .int (x5), .int (nI (2 ^ cT s - 1)), .int (nI (2 ^ cT s))]) (st' := [.int (nI (mo)), .int (nI (y)), .int (nI (p)), .int (nI (2 ^ cT s - 1)), .ref (99), .long (lN (ptS s sn (2 ^ cT s - 1) (cT s)))]) (M' := (I, J, Rx R, N, G)) rfl ?_
      refine XP_call rfl (rfl) (m_joint hI (show 2 ^ cT s - 1 < 8 by omega) hp hy (show mo ≤ 1000 by omega)) ?_
      rintro v23 M23 ⟨rfl, I23, J23, rfl, hI23⟩
      rw [(oCn_ok s p y (2 ^ cT s - 1) mo).1]
      have hoc23 := (oCn_ok s p y (2 ^ cT s - 1) mo).2
      refine XP_n 1 (pc' := 107) (ls' := [.ref (99), .int (nI (sn)), .int (nI (p)), .int (nI (y)), .int (nI (mo)), .int (x5), .int (nI (2 ^ cT s - 1)), .int (nI (2 ^ cT s))]) (st' := [.long ((nI (oCn s p y (2 ^ cT s - 1) mo)).toInt64), .long (lN (ptS s sn (2 ^ cT s - 1) (cT s)))]) (M' := (I23, J23, Rx R, N, G)) rfl ?_
      rw [show (nI (oCn s p y (2 ^ cT s - 1) mo)).toInt64 = lN (oCn s p y (2 ^ cT s - 1) mo) from nI_lE (rfl) (by omega)]
      refine XP_lcN (x := ptS s sn (2 ^ cT s - 1) (cT s)) (y := oCn s p y (2 ^ cT s - 1) mo) rfl rfl (by omega) (by omega) (fun (b108 : oCn s p y (2 ^ cT s - 1) mo ≤ ptS s sn (2 ^ cT s - 1) (cT s)) => ?_) (fun (b108 : ptS s sn (2 ^ cT s - 1) (cT s) < oCn s p y (2 ^ cT s - 1) mo) => ?_)
      · refine XP_n 1 (pc' := 112) (ls' := [.ref (99), .int (nI (sn)), .int (nI (p)), .int (nI (y)), .int (nI (mo)), .int (x5), .int (nI (2 ^ cT s - 1)), .int (nI (2 ^ cT s))]) (st' := [.int (cI (-1))]) (M' := (I23, J23, Rx R, N, G)) rfl ?_
        rw [if_neg (by omega)]
        exact XP_ret rfl ⟨rfl, _, _, rfl, hI23⟩
      · refine XP_n 2 (pc' := 112) (ls' := [.ref (99), .int (nI (sn)), .int (nI (p)), .int (nI (y)), .int (nI (mo)), .int (x5), .int (nI (2 ^ cT s - 1)), .int (nI (2 ^ cT s))]) (st' := [.int (nI (2 ^ cT s - 1))]) (M' := (I23, J23, Rx R, N, G)) rfl ?_
        rw [if_pos (by omega)]
        exact XP_ret rfl ⟨rfl, _, _, rfl, hI23⟩
  | succ n ih =>
    rintro i I J hi h1 hI
    have hS := hI.1
    have es : jnV s sn p y mo (n + 1) (i) = (if oCn s p y i mo < ptS s sn i (cT s) then nI i else jnV s sn p y mo (n) (i + 1)) := rfl
    rw [es]
    refine XP_n 2 (pc' := 76) (ls' := [.ref (99), .int (nI (sn)), .int (nI (p)), .int (nI (y)), .int (nI (mo)), .int (x5), .int (nI (2 ^ cT s - 1)), .int (nI (i))]) (st' := [.int (nI (2 ^ cT s - 1)), .int (nI (i))]) (M' := (I, J, Rx R, N, G)) rfl ?_
    refine XP_icN (x := i) (y := 2 ^ cT s - 1) rfl (by omega) (by omega) (fun (b76 : 2 ^ cT s - 1 < i) => absurd b76 (by omega)) (fun (b76 : i ≤ 2 ^ cT s - 1) => ?_)
    refine XP_n 3 (pc' := 80) (ls' := [.ref (99), .int (nI (sn)), .int (nI (p)), .int (nI (y)), .int (nI (mo)), .int (x5), .int (nI (2 ^ cT s - 1)), .int (nI (i))]) (st' := [.int (nI (i)), .int (nI (sn)), .ref (99)]) (M' := (I, J, Rx R, N, G)) rfl ?_
    refine XP_pure rfl rfl (m_partsOf hS hW hsn (show i < 8 by omega) ho) ?_
    have hps3 := ptS_le (i) ho (cT s) (Nat.le_refl _)
    refine XP_n 5 (pc' := 86) (ls' := [.ref (99), .int (nI (sn)), .int (nI (p)), .int (nI (y)), .int (nI (mo)), .int (x5), .int (nI (2 ^ cT s - 1)), .int (nI (i))]) (st' := [.int (nI (mo)), .int (nI (y)), .int (nI (p)), .int (nI (i)), .ref (99), .long (lN (ptS s sn i (cT s)))]) (M' := (I, J, Rx R, N, G)) rfl ?_
    refine XP_call rfl (rfl) (m_joint hI (show i < 8 by omega) hp hy (show mo ≤ 1000 by omega)) ?_
    rintro v24 M24 ⟨rfl, I24, J24, rfl, hI24⟩
    rw [(oCn_ok s p y i mo).1]
    have hoc24 := (oCn_ok s p y i mo).2
    refine XP_n 1 (pc' := 88) (ls' := [.ref (99), .int (nI (sn)), .int (nI (p)), .int (nI (y)), .int (nI (mo)), .int (x5), .int (nI (2 ^ cT s - 1)), .int (nI (i))]) (st' := [.long ((nI (oCn s p y i mo)).toInt64), .long (lN (ptS s sn i (cT s)))]) (M' := (I24, J24, Rx R, N, G)) rfl ?_
    rw [show (nI (oCn s p y i mo)).toInt64 = lN (oCn s p y i mo) from nI_lE (rfl) (by omega)]
    refine XP_lcN (x := ptS s sn i (cT s)) (y := oCn s p y i mo) rfl rfl (by omega) (by omega) (fun (b89 : ptS s sn i (cT s) ≤ oCn s p y i mo) => ?_) (fun (b89 : oCn s p y i mo < ptS s sn i (cT s)) => ?_)
    · refine XP_n 1 (pc' := 93) (ls' := [.ref (99), .int (nI (sn)), .int (nI (p)), .int (nI (y)), .int (nI (mo)), .int (x5), .int (nI (2 ^ cT s - 1)), .int (nI (i) + nI (1))]) (st' := []) (M' := (I24, J24, Rx R, N, G)) rfl ?_
      rw [show nI (i) + nI (1) = nI (i + 1) from nI_addE (rfl) rfl]
      refine XP_n 1 (pc' := 74) (ls' := [.ref (99), .int (nI (sn)), .int (nI (p)), .int (nI (y)), .int (nI (mo)), .int (x5), .int (nI (2 ^ cT s - 1)), .int (nI (i + 1))]) (st' := []) (M' := (I24, J24, Rx R, N, G)) rfl ?_
      rw [if_neg (by omega)]
      exact ih (i + 1) _ _ (by omega) (by omega) hI24
    · refine XP_n 1 (pc' := 91) (ls' := [.ref (99), .int (nI (sn)), .int (nI (p)), .int (nI (y)), .int (nI (mo)), .int (x5), .int (nI (2 ^ cT s - 1)), .int (nI (i))]) (st' := [.int (nI (i))]) (M' := (I24, J24, Rx R, N, G)) rfl ?_
      rw [if_pos (by omega)]
      exact XP_ret rfl ⟨rfl, _, _, rfl, hI24⟩
theorem l_M_jnT {Q : Option Value → hM → Prop} (hI : Inv s R N I J) (hW : Wf s) {sn p y mo : Nat} (hsn : sn < 4) (h : ∀ i, i < cT s → iv 0 99999 (s 122 (40 * sn + i))) (kk : ∀ e, e ≤ cT s → XP X (d + 8) k_M_join 61 [.ref (99), .int (nI (sn)), .int (nI (p)), .int (nI (y)), .int (nI (mo)), .int (nI (1)), .int (nI (e)), xj] [] (I, J, Rx R, N, G) Q) : ∀ (n i : Nat), i + n = cT s → XP X (d + 8) k_M_join 41 [.ref (99), .int (nI (sn)), .int (nI (p)), .int (nI (y)), .int (nI (mo)), .int (nI (1)), .int (nI (i)), xj] [] (I, J, Rx R, N, G) Q := by
  have hS := hI.1
  have ht3 := hW.t.2
  have hpu9 := hW.pu.2
  have hp4 := hW.p.2
  have hy16 := hW.y.2
  have h2p : 1 ≤ 2 ^ cT s ∧ 2 ^ cT s ≤ 8 ∧ (0 < cT s → 2 ≤ 2 ^ cT s) := tN_le hW
  intro n
  induction n with
  | zero =>
    rintro i hi
    obtain rfl : i = cT s := by omega
    refine XP_n 2 (pc' := 43) (ls' := [.ref (99), .int (nI (sn)), .int (nI (p)), .int (nI (y)), .int (nI (mo)), .int (nI (1)), .int (nI (cT s)), xj]) (st' := [.ref (99), .int (nI (cT s))]) (M' := (I, J, Rx R, N, G)) rfl ?_
    refine XP_geti hS rfl rfl rfl ?_
    rw [hW.t.1]
    refine XP_icN (x := cT s) (y := cT s) rfl (by omega) (by omega) (fun (b44 : cT s ≤ cT s) => ?_) (fun (b44 : cT s < cT s) => absurd b44 (by omega))
    exact kk _ (by omega)
  | succ n ih =>
    rintro i hi
    have hc := h i (by omega)
    refine XP_n 2 (pc' := 43) (ls' := [.ref (99), .int (nI (sn)), .int (nI (p)), .int (nI (y)), .int (nI (mo)), .int (nI (1)), .int (nI (i)), xj]) (st' := [.ref (99), .int (nI (i))]) (M' := (I, J, Rx R, N, G)) rfl ?_
    refine XP_geti hS rfl rfl rfl ?_
    rw [hW.t.1]
    refine XP_icN (x := i) (y := cT s) rfl (by omega) (by omega) (fun (b44 : cT s ≤ i) => absurd b44 (by omega)) (fun (b44 : i < cT s) => ?_)
    refine XP_n 1 (pc' := 46) (ls' := [.ref (99), .int (nI (sn)), .int (nI (p)), .int (nI (y)), .int (nI (mo)), .int (nI (1)), .int (nI (i)), xj]) (st' := [.int (nI (1))]) (M' := (I, J, Rx R, N, G)) rfl ?_
    refine XP_ifN (x := 1)  rfl (by omega) (fun (b46 : 1 = 0) => absurd b46 (by omega)) (fun (b46 : ¬ 1 = 0) => ?_)
    refine XP_n 7 (pc' := 54) (ls' := [.ref (99), .int (nI (sn)), .int (nI (p)), .int (nI (y)), .int (nI (mo)), .int (nI (1)), .int (nI (i)), xj]) (st' := [.int (((nI (40)) * (nI (sn))) + (nI (i))), .ref (122)]) (M' := (I, J, Rx R, N, G)) rfl ?_
    rw [show ((nI (40)) * (nI (sn))) + (nI (i)) = nI ((40) * (sn) + i) from nI_addE (nI_mulE (rfl) (rfl)) (rfl)]
    refine XP_iald hS rfl rfl (show (40) * (sn) + i < 160 by omega) rfl (by omega) rfl ?_
    refine XP_n 2 (pc' := 57) (ls' := [.ref (99), .int (nI (sn)), .int (nI (p)), .int (nI (y)), .int (nI (mo)), .int (nI (1)), .int (nI (i)), xj]) (st' := [.int (nI (99999)), .int (nI (0)), .int (s 122 ((40) * (sn) + i))]) (M' := (I, J, Rx R, N, G)) rfl ?_
    refine XP_pure rfl rfl (w_M X _ _ 0 99999 _) ?_
    rw [show b2i (iv 0 99999 (s 122 ((40) * (sn) + i))) = nI 1 from b2i_t hc]
    refine XP_n 2 (pc' := 60) (ls' := [.ref (99), .int (nI (sn)), .int (nI (p)), .int (nI (y)), .int (nI (mo)), .int (nI (1)), .int (nI (i) + nI (1)), xj]) (st' := []) (M' := (I, J, Rx R, N, G)) rfl ?_
    rw [show nI (i) + nI (1) = nI (i + 1) from nI_addE (rfl) rfl]
    refine XP_n 1 (pc' := 41) (ls' := [.ref (99), .int (nI (sn)), .int (nI (p)), .int (nI (y)), .int (nI (mo)), .int (nI (1)), .int (nI (i + 1)), xj]) (st' := []) (M' := (I, J, Rx R, N, G)) rfl ?_
    exact ih (i + 1) (by omega)
theorem l_M_jnF {Q : Option Value → hM → Prop} (hI : Inv s R N I J) (hW : Wf s) {sn p y mo : Nat} (hsn : sn < 4)  (kk : ∀ e, e ≤ cT s → XP X (d + 8) k_M_join 61 [.ref (99), .int (nI (sn)), .int (nI (p)), .int (nI (y)), .int (nI (mo)), .int (nI (0)), .int (nI (e)), xj] [] (I, J, Rx R, N, G) Q) : ∀ (n i : Nat), i + n = cT s → (∃ j, i ≤ j ∧ j < cT s ∧ ¬ iv 0 99999 (s 122 (40 * sn + j))) → XP X (d + 8) k_M_join 41 [.ref (99), .int (nI (sn)), .int (nI (p)), .int (nI (y)), .int (nI (mo)), .int (nI (1)), .int (nI (i)), xj] [] (I, J, Rx R, N, G) Q := by
  have hS := hI.1
  have ht3 := hW.t.2
  have hpu9 := hW.pu.2
  have hp4 := hW.p.2
  have hy16 := hW.y.2
  have h2p : 1 ≤ 2 ^ cT s ∧ 2 ^ cT s ≤ 8 ∧ (0 < cT s → 2 ≤ 2 ^ cT s) := tN_le hW
  intro n
  induction n with
  | zero =>
    rintro i hi ⟨j, hj1, hj2, -⟩
    omega
  | succ n ih =>
    rintro i hi ⟨j, hj1, hj2, hj3⟩
    by_cases hc : iv 0 99999 (s 122 (40 * sn + i))
    · refine XP_n 2 (pc' := 43) (ls' := [.ref (99), .int (nI (sn)), .int (nI (p)), .int (nI (y)), .int (nI (mo)), .int (nI (1)), .int (nI (i)), xj]) (st' := [.ref (99), .int (nI (i))]) (M' := (I, J, Rx R, N, G)) rfl ?_
      refine XP_geti hS rfl rfl rfl ?_
      rw [hW.t.1]
      refine XP_icN (x := i) (y := cT s) rfl (by omega) (by omega) (fun (b44 : cT s ≤ i) => absurd b44 (by omega)) (fun (b44 : i < cT s) => ?_)
      refine XP_n 1 (pc' := 46) (ls' := [.ref (99), .int (nI (sn)), .int (nI (p)), .int (nI (y)), .int (nI (mo)), .int (nI (1)), .int (nI (i)), xj]) (st' := [.int (nI (1))]) (M' := (I, J, Rx R, N, G)) rfl ?_
      refine XP_ifN (x := 1)  rfl (by omega) (fun (b46 : 1 = 0) => absurd b46 (by omega)) (fun (b46 : ¬ 1 = 0) => ?_)
      refine XP_n 7 (pc' := 54) (ls' := [.ref (99), .int (nI (sn)), .int (nI (p)), .int (nI (y)), .int (nI (mo)), .int (nI (1)), .int (nI (i)), xj]) (st' := [.int (((nI (40)) * (nI (sn))) + (nI (i))), .ref (122)]) (M' := (I, J, Rx R, N, G)) rfl ?_
      rw [show ((nI (40)) * (nI (sn))) + (nI (i)) = nI ((40) * (sn) + i) from nI_addE (nI_mulE (rfl) (rfl)) (rfl)]
      refine XP_iald hS rfl rfl (show (40) * (sn) + i < 160 by omega) rfl (by omega) rfl ?_
      refine XP_n 2 (pc' := 57) (ls' := [.ref (99), .int (nI (sn)), .int (nI (p)), .int (nI (y)), .int (nI (mo)), .int (nI (1)), .int (nI (i)), xj]) (st' := [.int (nI (99999)), .int (nI (0)), .int (s 122 ((40) * (sn) + i))]) (M' := (I, J, Rx R, N, G)) rfl ?_
      refine XP_pure rfl rfl (w_M X _ _ 0 99999 _) ?_
      rw [show b2i (iv 0 99999 (s 122 ((40) * (sn) + i))) = nI 1 from b2i_t hc]
      refine XP_n 2 (pc' := 60) (ls' := [.ref (99), .int (nI (sn)), .int (nI (p)), .int (nI (y)), .int (nI (mo)), .int (nI (1)), .int (nI (i) + nI (1)), xj]) (st' := []) (M' := (I, J, Rx R, N, G)) rfl ?_
      rw [show nI (i) + nI (1) = nI (i + 1) from nI_addE (rfl) rfl]
      refine XP_n 1 (pc' := 41) (ls' := [.ref (99), .int (nI (sn)), .int (nI (p)), .int (nI (y)), .int (nI (mo)), .int (nI (1)), .int (nI (i + 1)), xj]) (st' := []) (M' := (I, J, Rx R, N, G)) rfl ?_
      refine ih (i + 1) (by omega) ⟨j, ?_, hj2, hj3⟩
      rcases Nat.eq_or_lt_of_le hj1 with e | e
      · subst e
        exact absurd hc hj3
      · exact e
    · refine XP_n 2 (pc' := 43) (ls' := [.ref (99), .int (nI (sn)), .int (nI (p)), .int (nI (y)), .int (nI (mo)), .int (nI (1)), .int (nI (i)), xj]) (st' := [.ref (99), .int (nI (i))]) (M' := (I, J, Rx R, N, G)) rfl ?_
      refine XP_geti hS rfl rfl rfl ?_
      rw [hW.t.1]
      refine XP_icN (x := i) (y := cT s) rfl (by omega) (by omega) (fun (b44 : cT s ≤ i) => absurd b44 (by omega)) (fun (b44 : i < cT s) => ?_)
      refine XP_n 1 (pc' := 46) (ls' := [.ref (99), .int (nI (sn)), .int (nI (p)), .int (nI (y)), .int (nI (mo)), .int (nI (1)), .int (nI (i)), xj]) (st' := [.int (nI (1))]) (M' := (I, J, Rx R, N, G)) rfl ?_
      refine XP_ifN (x := 1)  rfl (by omega) (fun (b46 : 1 = 0) => absurd b46 (by omega)) (fun (b46 : ¬ 1 = 0) => ?_)
      refine XP_n 7 (pc' := 54) (ls' := [.ref (99), .int (nI (sn)), .int (nI (p)), .int (nI (y)), .int (nI (mo)), .int (nI (1)), .int (nI (i)), xj]) (st' := [.int (((nI (40)) * (nI (sn))) + (nI (i))), .ref (122)]) (M' := (I, J, Rx R, N, G)) rfl ?_
      rw [show ((nI (40)) * (nI (sn))) + (nI (i)) = nI ((40) * (sn) + i) from nI_addE (nI_mulE (rfl) (rfl)) (rfl)]
      refine XP_iald hS rfl rfl (show (40) * (sn) + i < 160 by omega) rfl (by omega) rfl ?_
      refine XP_n 2 (pc' := 57) (ls' := [.ref (99), .int (nI (sn)), .int (nI (p)), .int (nI (y)), .int (nI (mo)), .int (nI (1)), .int (nI (i)), xj]) (st' := [.int (nI (99999)), .int (nI (0)), .int (s 122 ((40) * (sn) + i))]) (M' := (I, J, Rx R, N, G)) rfl ?_
      refine XP_pure rfl rfl (w_M X _ _ 0 99999 _) ?_
      rw [show b2i (iv 0 99999 (s 122 ((40) * (sn) + i))) = nI 0 from b2i_f hc]
      refine XP_n 2 (pc' := 60) (ls' := [.ref (99), .int (nI (sn)), .int (nI (p)), .int (nI (y)), .int (nI (mo)), .int (nI (0)), .int (nI (i) + nI (1)), xj]) (st' := []) (M' := (I, J, Rx R, N, G)) rfl ?_
      rw [show nI (i) + nI (1) = nI (i + 1) from nI_addE (rfl) rfl]
      refine XP_n 1 (pc' := 41) (ls' := [.ref (99), .int (nI (sn)), .int (nI (p)), .int (nI (y)), .int (nI (mo)), .int (nI (0)), .int (nI (i + 1)), xj]) (st' := []) (M' := (I, J, Rx R, N, G)) rfl ?_
      refine XP_n 2 (pc' := 43) (ls' := [.ref (99), .int (nI (sn)), .int (nI (p)), .int (nI (y)), .int (nI (mo)), .int (nI (0)), .int (nI (i + 1)), xj]) (st' := [.ref (99), .int (nI (i + 1))]) (M' := (I, J, Rx R, N, G)) rfl ?_
      refine XP_geti hS rfl rfl rfl ?_
      rw [hW.t.1]
      refine XP_icN (x := i + 1) (y := cT s) rfl (by omega) (by omega) (fun (b44 : cT s ≤ i + 1) => ?_) (fun (b44 : i + 1 < cT s) => ?_)
      · exact kk _ (by omega)
      · refine XP_n 1 (pc' := 46) (ls' := [.ref (99), .int (nI (sn)), .int (nI (p)), .int (nI (y)), .int (nI (mo)), .int (nI (0)), .int (nI (i + 1)), xj]) (st' := [.int (nI (0))]) (M' := (I, J, Rx R, N, G)) rfl ?_
        refine XP_ifN (x := 0)  rfl (by omega) (fun (b46 : 0 = 0) => ?_) (fun (b46 : ¬ 0 = 0) => absurd b46 (by omega))
        exact kk _ (by omega)
theorem f_join (hI : Inv s R N I J) (sv : Int32) (p : Int32) (y : Int32) (m : Int32) : ∃ v, TP X (d + 12) n_H_join [.ref 0, .int sv, .int p, .int y, .int m] (I, J, Rx R, N, G) (QP s R N G (.int v)) ∧ ∀ I J, Inv s R N I J → TP X (d + 12) n_M_join [.ref 99, .int sv, .int p, .int y, .int m] (I, J, Rx R, N, G) (QP s R N G (.int v)) := by
  have hI0 := hI
  obtain ⟨hS, hW, hL, hC, hch⟩ := hI0
  have hy16 := hW.y.2
  have hp4 := hW.p.2
  have hs6 := hW.ns.2
  have hr8 := hW.r.2
  have hst8 := hW.st.2
  have ht3 := hW.t.2
  have hw60 := hW.w.2
  have hcwa := cWA_le hW
  have hpu9 := hW.pu.2
  have h2p : 1 ≤ 2 ^ cT s ∧ 2 ^ cT s ≤ 8 ∧ (0 < cT s → 2 ≤ 2 ^ cT s) := tN_le hW
  have hszz := fun i (h : i < 4) => (hW.sz1 h).2
  by_cases g0 : iv 0 3 (sv)
  rotate_left
  · skip
    refine ⟨cI (-2), ?_, fun I J hI => ?_⟩
    · unfold TP
      show XP X _ k_H_join 0 [.ref (0), .int (sv), .int (p), .int (y), .int (m), xj, xj, xj, xj] [] _ _
      refine XP_n 2 (pc' := 2) (ls' := [.ref (0), .int (sv), .int (p), .int (y), .int (m), xj, xj, xj, xj]) (st' := [.int (sv), .ref (0)]) (M' := (I, J, Rx R, N, G)) rfl ?_
      refine XP_pure rfl rfl (c_sheetAtF g0) ?_
      refine XP_n 4 (pc' := 19) (ls' := [.ref (0), .int (sv), .int (p), .int (y), .int (m), .null, xj, xj, xj]) (st' := [.int (cI (-2))]) (M' := (I, J, Rx R, N, G)) rfl ?_
      exact XP_ret rfl ⟨rfl, _, _, rfl, hI⟩
    · unfold TP
      show XP X _ k_M_join 0 [.ref (99), .int (sv), .int (p), .int (y), .int (m), xj, xj, xj] [] _ _
      refine XP_n 3 (pc' := 3) (ls' := [.ref (99), .int (sv), .int (p), .int (y), .int (m), xj, xj, xj]) (st' := [.int (nI (3)), .int (nI (0)), .int (sv)]) (M' := (I, J, Rx R, N, G)) rfl ?_
      refine XP_pure rfl rfl (w_M X _ _ 0 3 _) ?_
      refine XP_s rfl ?_
      refine XP_beq (fun b4 => ?_) (fun b4 => absurd b4 g0)
      refine XP_n 1 (pc' := 19) (ls' := [.ref (99), .int (sv), .int (p), .int (y), .int (m), xj, xj, xj]) (st' := [.int (cI (-2))]) (M' := (I, J, Rx R, N, G)) rfl ?_
      exact XP_ret rfl ⟨rfl, _, _, rfl, hI⟩
  obtain ⟨svn, hsvn0, hsvn, rfl, esv⟩ := iv_nat g0 (by omega) (by omega)
  by_cases g1 : inN (p) (cP s)
  rotate_left
  · skip
    refine ⟨cI (-2), ?_, fun I J hI => ?_⟩
    · unfold TP
      show XP X _ k_H_join 0 [.ref (0), .int (nI (svn)), .int (p), .int (y), .int (m), xj, xj, xj, xj] [] _ _
      refine XP_n 2 (pc' := 2) (ls' := [.ref (0), .int (nI (svn)), .int (p), .int (y), .int (m), xj, xj, xj, xj]) (st' := [.int (nI (svn)), .ref (0)]) (M' := (I, J, Rx R, N, G)) rfl ?_
      refine XP_pure rfl rfl (c_sheetAtT (show svn < 4 by omega)) ?_
      refine XP_n 6 (pc' := 9) (ls' := [.ref (0), .int (nI (svn)), .int (p), .int (y), .int (m), .ref (87 + 2 * svn), xj, xj, xj]) (st' := [.int (p), .ref (1)]) (M' := (I, J, Rx R, N, G)) rfl ?_
      refine XP_pure rfl rfl (c_hasPath hI.1 hI.2.1 _) ?_
      refine XP_s rfl ?_
      refine XP_beq (fun b10 => ?_) (fun b10 => absurd b10 g1)
      refine XP_n 1 (pc' := 19) (ls' := [.ref (0), .int (nI (svn)), .int (p), .int (y), .int (m), .ref (87 + 2 * svn), xj, xj, xj]) (st' := [.int (cI (-2))]) (M' := (I, J, Rx R, N, G)) rfl ?_
      exact XP_ret rfl ⟨rfl, _, _, rfl, hI⟩
    · unfold TP
      show XP X _ k_M_join 0 [.ref (99), .int (nI (svn)), .int (p), .int (y), .int (m), xj, xj, xj] [] _ _
      refine XP_n 3 (pc' := 3) (ls' := [.ref (99), .int (nI (svn)), .int (p), .int (y), .int (m), xj, xj, xj]) (st' := [.int (nI (3)), .int (nI (0)), .int (nI (svn))]) (M' := (I, J, Rx R, N, G)) rfl ?_
      refine XP_pure rfl rfl (w_M X _ _ 0 3 _) ?_
      refine XP_s rfl ?_
      refine XP_beq (fun b4 => absurd g0 b4) (fun b4 => ?_)
      refine XP_n 2 (pc' := 7) (ls' := [.ref (99), .int (nI (svn)), .int (p), .int (y), .int (m), xj, xj, xj]) (st' := [.int (p), .ref (99)]) (M' := (I, J, Rx R, N, G)) rfl ?_
      refine XP_pure rfl rfl (m_isPath hI.1 hI.2.1 _) ?_
      refine XP_s rfl ?_
      refine XP_beq (fun b8 => ?_) (fun b8 => absurd b8 g1)
      refine XP_n 1 (pc' := 19) (ls' := [.ref (99), .int (nI (svn)), .int (p), .int (y), .int (m), xj, xj, xj]) (st' := [.int (cI (-2))]) (M' := (I, J, Rx R, N, G)) rfl ?_
      exact XP_ret rfl ⟨rfl, _, _, rfl, hI⟩
  obtain ⟨pn, hpn, rfl, ep⟩ := inN_nat g1 (by omega)
  by_cases g2 : inN (y) (cY s)
  rotate_left
  · skip
    refine ⟨cI (-2), ?_, fun I J hI => ?_⟩
    · unfold TP
      show XP X _ k_H_join 0 [.ref (0), .int (nI (svn)), .int (nI (pn)), .int (y), .int (m), xj, xj, xj, xj] [] _ _
      refine XP_n 2 (pc' := 2) (ls' := [.ref (0), .int (nI (svn)), .int (nI (pn)), .int (y), .int (m), xj, xj, xj, xj]) (st' := [.int (nI (svn)), .ref (0)]) (M' := (I, J, Rx R, N, G)) rfl ?_
      refine XP_pure rfl rfl (c_sheetAtT (show svn < 4 by omega)) ?_
      refine XP_n 6 (pc' := 9) (ls' := [.ref (0), .int (nI (svn)), .int (nI (pn)), .int (y), .int (m), .ref (87 + 2 * svn), xj, xj, xj]) (st' := [.int (nI (pn)), .ref (1)]) (M' := (I, J, Rx R, N, G)) rfl ?_
      refine XP_pure rfl rfl (c_hasPath hI.1 hI.2.1 _) ?_
      refine XP_s rfl ?_
      refine XP_beq (fun b10 => absurd g1 b10) (fun b10 => ?_)
      refine XP_n 2 (pc' := 13) (ls' := [.ref (0), .int (nI (svn)), .int (nI (pn)), .int (y), .int (m), .ref (87 + 2 * svn), xj, xj, xj]) (st' := [.int (y), .ref (0)]) (M' := (I, J, Rx R, N, G)) rfl ?_
      refine XP_pure rfl rfl (h_isYear hI.1 hI.2.1 _) ?_
      refine XP_s rfl ?_
      refine XP_beq (fun b14 => ?_) (fun b14 => absurd b14 g2)
      refine XP_n 1 (pc' := 19) (ls' := [.ref (0), .int (nI (svn)), .int (nI (pn)), .int (y), .int (m), .ref (87 + 2 * svn), xj, xj, xj]) (st' := [.int (cI (-2))]) (M' := (I, J, Rx R, N, G)) rfl ?_
      exact XP_ret rfl ⟨rfl, _, _, rfl, hI⟩
    · unfold TP
      show XP X _ k_M_join 0 [.ref (99), .int (nI (svn)), .int (nI (pn)), .int (y), .int (m), xj, xj, xj] [] _ _
      refine XP_n 3 (pc' := 3) (ls' := [.ref (99), .int (nI (svn)), .int (nI (pn)), .int (y), .int (m), xj, xj, xj]) (st' := [.int (nI (3)), .int (nI (0)), .int (nI (svn))]) (M' := (I, J, Rx R, N, G)) rfl ?_
      refine XP_pure rfl rfl (w_M X _ _ 0 3 _) ?_
      refine XP_s rfl ?_
      refine XP_beq (fun b4 => absurd g0 b4) (fun b4 => ?_)
      refine XP_n 2 (pc' := 7) (ls' := [.ref (99), .int (nI (svn)), .int (nI (pn)), .int (y), .int (m), xj, xj, xj]) (st' := [.int (nI (pn)), .ref (99)]) (M' := (I, J, Rx R, N, G)) rfl ?_
      refine XP_pure rfl rfl (m_isPath hI.1 hI.2.1 _) ?_
      refine XP_s rfl ?_
      refine XP_beq (fun b8 => absurd g1 b8) (fun b8 => ?_)
      refine XP_n 2 (pc' := 11) (ls' := [.ref (99), .int (nI (svn)), .int (nI (pn)), .int (y), .int (m), xj, xj, xj]) (st' := [.int (y), .ref (99)]) (M' := (I, J, Rx R, N, G)) rfl ?_
      refine XP_pure rfl rfl (m_isYear hI.1 hI.2.1 _) ?_
      refine XP_s rfl ?_
      refine XP_beq (fun b12 => ?_) (fun b12 => absurd b12 g2)
      refine XP_n 1 (pc' := 19) (ls' := [.ref (99), .int (nI (svn)), .int (nI (pn)), .int (y), .int (m), xj, xj, xj]) (st' := [.int (cI (-2))]) (M' := (I, J, Rx R, N, G)) rfl ?_
      exact XP_ret rfl ⟨rfl, _, _, rfl, hI⟩
  obtain ⟨yn, hyn, rfl, ey⟩ := inN_nat g2 (by omega)
  by_cases g3 : iv 0 1000 (m)
  rotate_left
  · skip
    refine ⟨cI (-2), ?_, fun I J hI => ?_⟩
    · unfold TP
      show XP X _ k_H_join 0 [.ref (0), .int (nI (svn)), .int (nI (pn)), .int (nI (yn)), .int (m), xj, xj, xj, xj] [] _ _
      refine XP_n 2 (pc' := 2) (ls' := [.ref (0), .int (nI (svn)), .int (nI (pn)), .int (nI (yn)), .int (m), xj, xj, xj, xj]) (st' := [.int (nI (svn)), .ref (0)]) (M' := (I, J, Rx R, N, G)) rfl ?_
      refine XP_pure rfl rfl (c_sheetAtT (show svn < 4 by omega)) ?_
      refine XP_n 6 (pc' := 9) (ls' := [.ref (0), .int (nI (svn)), .int (nI (pn)), .int (nI (yn)), .int (m), .ref (87 + 2 * svn), xj, xj, xj]) (st' := [.int (nI (pn)), .ref (1)]) (M' := (I, J, Rx R, N, G)) rfl ?_
      refine XP_pure rfl rfl (c_hasPath hI.1 hI.2.1 _) ?_
      refine XP_s rfl ?_
      refine XP_beq (fun b10 => absurd g1 b10) (fun b10 => ?_)
      refine XP_n 2 (pc' := 13) (ls' := [.ref (0), .int (nI (svn)), .int (nI (pn)), .int (nI (yn)), .int (m), .ref (87 + 2 * svn), xj, xj, xj]) (st' := [.int (nI (yn)), .ref (0)]) (M' := (I, J, Rx R, N, G)) rfl ?_
      refine XP_pure rfl rfl (h_isYear hI.1 hI.2.1 _) ?_
      refine XP_s rfl ?_
      refine XP_beq (fun b14 => absurd g2 b14) (fun b14 => ?_)
      refine XP_n 1 (pc' := 16) (ls' := [.ref (0), .int (nI (svn)), .int (nI (pn)), .int (nI (yn)), .int (m), .ref (87 + 2 * svn), xj, xj, xj]) (st' := [.int (m)]) (M' := (I, J, Rx R, N, G)) rfl ?_
      refine XP_pure rfl rfl (t_H_isMany X _ _ _) ?_
      refine XP_s rfl ?_
      refine XP_bne (fun b17 => absurd b17 g3) (fun b17 => ?_)
      refine XP_n 1 (pc' := 19) (ls' := [.ref (0), .int (nI (svn)), .int (nI (pn)), .int (nI (yn)), .int (m), .ref (87 + 2 * svn), xj, xj, xj]) (st' := [.int (cI (-2))]) (M' := (I, J, Rx R, N, G)) rfl ?_
      exact XP_ret rfl ⟨rfl, _, _, rfl, hI⟩
    · unfold TP
      show XP X _ k_M_join 0 [.ref (99), .int (nI (svn)), .int (nI (pn)), .int (nI (yn)), .int (m), xj, xj, xj] [] _ _
      refine XP_n 3 (pc' := 3) (ls' := [.ref (99), .int (nI (svn)), .int (nI (pn)), .int (nI (yn)), .int (m), xj, xj, xj]) (st' := [.int (nI (3)), .int (nI (0)), .int (nI (svn))]) (M' := (I, J, Rx R, N, G)) rfl ?_
      refine XP_pure rfl rfl (w_M X _ _ 0 3 _) ?_
      refine XP_s rfl ?_
      refine XP_beq (fun b4 => absurd g0 b4) (fun b4 => ?_)
      refine XP_n 2 (pc' := 7) (ls' := [.ref (99), .int (nI (svn)), .int (nI (pn)), .int (nI (yn)), .int (m), xj, xj, xj]) (st' := [.int (nI (pn)), .ref (99)]) (M' := (I, J, Rx R, N, G)) rfl ?_
      refine XP_pure rfl rfl (m_isPath hI.1 hI.2.1 _) ?_
      refine XP_s rfl ?_
      refine XP_beq (fun b8 => absurd g1 b8) (fun b8 => ?_)
      refine XP_n 2 (pc' := 11) (ls' := [.ref (99), .int (nI (svn)), .int (nI (pn)), .int (nI (yn)), .int (m), xj, xj, xj]) (st' := [.int (nI (yn)), .ref (99)]) (M' := (I, J, Rx R, N, G)) rfl ?_
      refine XP_pure rfl rfl (m_isYear hI.1 hI.2.1 _) ?_
      refine XP_s rfl ?_
      refine XP_beq (fun b12 => absurd g2 b12) (fun b12 => ?_)
      refine XP_n 3 (pc' := 16) (ls' := [.ref (99), .int (nI (svn)), .int (nI (pn)), .int (nI (yn)), .int (m), xj, xj, xj]) (st' := [.int (nI (1000)), .int (nI (0)), .int (m)]) (M' := (I, J, Rx R, N, G)) rfl ?_
      refine XP_pure rfl rfl (w_M X _ _ 0 1000 _) ?_
      refine XP_s rfl ?_
      refine XP_bne (fun b17 => absurd b17 g3) (fun b17 => ?_)
      refine XP_n 1 (pc' := 19) (ls' := [.ref (99), .int (nI (svn)), .int (nI (pn)), .int (nI (yn)), .int (m), xj, xj, xj]) (st' := [.int (cI (-2))]) (M' := (I, J, Rx R, N, G)) rfl ?_
      exact XP_ret rfl ⟨rfl, _, _, rfl, hI⟩
  obtain ⟨mn, hmn0, hmn, rfl, em⟩ := iv_nat g3 (by omega) (by omega)
  by_cases g4 : ¬ s 120 svn = cI (-1)
  rotate_left
  · skip
    refine ⟨cI (-11), ?_, fun I J hI => ?_⟩
    · unfold TP
      show XP X _ k_H_join 0 [.ref (0), .int (nI (svn)), .int (nI (pn)), .int (nI (yn)), .int (nI (mn)), xj, xj, xj, xj] [] _ _
      refine XP_n 2 (pc' := 2) (ls' := [.ref (0), .int (nI (svn)), .int (nI (pn)), .int (nI (yn)), .int (nI (mn)), xj, xj, xj, xj]) (st' := [.int (nI (svn)), .ref (0)]) (M' := (I, J, Rx R, N, G)) rfl ?_
      refine XP_pure rfl rfl (c_sheetAtT (show svn < 4 by omega)) ?_
      refine XP_n 6 (pc' := 9) (ls' := [.ref (0), .int (nI (svn)), .int (nI (pn)), .int (nI (yn)), .int (nI (mn)), .ref (87 + 2 * svn), xj, xj, xj]) (st' := [.int (nI (pn)), .ref (1)]) (M' := (I, J, Rx R, N, G)) rfl ?_
      refine XP_pure rfl rfl (c_hasPath hI.1 hI.2.1 _) ?_
      refine XP_s rfl ?_
      refine XP_beq (fun b10 => absurd g1 b10) (fun b10 => ?_)
      refine XP_n 2 (pc' := 13) (ls' := [.ref (0), .int (nI (svn)), .int (nI (pn)), .int (nI (yn)), .int (nI (mn)), .ref (87 + 2 * svn), xj, xj, xj]) (st' := [.int (nI (yn)), .ref (0)]) (M' := (I, J, Rx R, N, G)) rfl ?_
      refine XP_pure rfl rfl (h_isYear hI.1 hI.2.1 _) ?_
      refine XP_s rfl ?_
      refine XP_beq (fun b14 => absurd g2 b14) (fun b14 => ?_)
      refine XP_n 1 (pc' := 16) (ls' := [.ref (0), .int (nI (svn)), .int (nI (pn)), .int (nI (yn)), .int (nI (mn)), .ref (87 + 2 * svn), xj, xj, xj]) (st' := [.int (nI (mn))]) (M' := (I, J, Rx R, N, G)) rfl ?_
      refine XP_pure rfl rfl (t_H_isMany X _ _ _) ?_
      refine XP_s rfl ?_
      refine XP_bne (fun b17 => ?_) (fun b17 => absurd g3 b17)
      refine XP_n 3 (pc' := 23) (ls' := [.ref (0), .int (nI (svn)), .int (nI (pn)), .int (nI (yn)), .int (nI (mn)), .ref (87 + 2 * svn), xj, xj, xj]) (st' := [.ref (80), .ref (87 + 2 * svn)]) (M' := (I, J, Rx R, N, G)) rfl ?_
      refine XP_geti hI.1 rfl rfl rfl ?_
      rw [hW.t.1]
      refine XP_n 1 (pc' := 25) (ls' := [.ref (0), .int (nI (svn)), .int (nI (pn)), .int (nI (yn)), .int (nI (mn)), .ref (87 + 2 * svn), xj, xj, xj]) (st' := [.int (nI (99999)), .int (nI (cT s)), .ref (87 + 2 * svn)]) (M' := (I, J, Rx R, N, G)) rfl ?_
      refine XP_pure rfl rfl (c_refM hI.1 hW (show svn < 4 by omega) (Classical.not_not.mp g4)) ?_
      refine XP_n 2 (pc' := 28) (ls' := [.ref (0), .int (nI (svn)), .int (nI (pn)), .int (nI (yn)), .int (nI (mn)), .ref (87 + 2 * svn), .int (cI (-11)), xj, xj]) (st' := [.int (cI (-11))]) (M' := (I, J, Rx R, N, G)) rfl ?_
      refine XP_ifD rfl (fun (b28 : cI (-11) = 0) => absurd b28 (by decide)) (fun (b28 : ¬ cI (-11) = 0) => ?_)
      refine XP_n 1 (pc' := 30) (ls' := [.ref (0), .int (nI (svn)), .int (nI (pn)), .int (nI (yn)), .int (nI (mn)), .ref (87 + 2 * svn), .int (cI (-11)), xj, xj]) (st' := [.int (cI (-11))]) (M' := (I, J, Rx R, N, G)) rfl ?_
      exact XP_ret rfl ⟨rfl, _, _, rfl, hI⟩
    · unfold TP
      show XP X _ k_M_join 0 [.ref (99), .int (nI (svn)), .int (nI (pn)), .int (nI (yn)), .int (nI (mn)), xj, xj, xj] [] _ _
      refine XP_n 3 (pc' := 3) (ls' := [.ref (99), .int (nI (svn)), .int (nI (pn)), .int (nI (yn)), .int (nI (mn)), xj, xj, xj]) (st' := [.int (nI (3)), .int (nI (0)), .int (nI (svn))]) (M' := (I, J, Rx R, N, G)) rfl ?_
      refine XP_pure rfl rfl (w_M X _ _ 0 3 _) ?_
      refine XP_s rfl ?_
      refine XP_beq (fun b4 => absurd g0 b4) (fun b4 => ?_)
      refine XP_n 2 (pc' := 7) (ls' := [.ref (99), .int (nI (svn)), .int (nI (pn)), .int (nI (yn)), .int (nI (mn)), xj, xj, xj]) (st' := [.int (nI (pn)), .ref (99)]) (M' := (I, J, Rx R, N, G)) rfl ?_
      refine XP_pure rfl rfl (m_isPath hI.1 hI.2.1 _) ?_
      refine XP_s rfl ?_
      refine XP_beq (fun b8 => absurd g1 b8) (fun b8 => ?_)
      refine XP_n 2 (pc' := 11) (ls' := [.ref (99), .int (nI (svn)), .int (nI (pn)), .int (nI (yn)), .int (nI (mn)), xj, xj, xj]) (st' := [.int (nI (yn)), .ref (99)]) (M' := (I, J, Rx R, N, G)) rfl ?_
      refine XP_pure rfl rfl (m_isYear hI.1 hI.2.1 _) ?_
      refine XP_s rfl ?_
      refine XP_beq (fun b12 => absurd g2 b12) (fun b12 => ?_)
      refine XP_n 3 (pc' := 16) (ls' := [.ref (99), .int (nI (svn)), .int (nI (pn)), .int (nI (yn)), .int (nI (mn)), xj, xj, xj]) (st' := [.int (nI (1000)), .int (nI (0)), .int (nI (mn))]) (M' := (I, J, Rx R, N, G)) rfl ?_
      refine XP_pure rfl rfl (w_M X _ _ 0 1000 _) ?_
      refine XP_s rfl ?_
      refine XP_bne (fun b17 => ?_) (fun b17 => absurd g3 b17)
      refine XP_n 3 (pc' := 23) (ls' := [.ref (99), .int (nI (svn)), .int (nI (pn)), .int (nI (yn)), .int (nI (mn)), xj, xj, xj]) (st' := [.int (nI (svn)), .ref (120)]) (M' := (I, J, Rx R, N, G)) rfl ?_
      refine XP_iald hI.1 rfl rfl (show svn < 4 by omega) rfl (by omega) rfl ?_
      refine XP_n 1 (pc' := 25) (ls' := [.ref (99), .int (nI (svn)), .int (nI (pn)), .int (nI (yn)), .int (nI (mn)), xj, xj, xj]) (st' := [.int (cI (-1)), .int (s 120 svn)]) (M' := (I, J, Rx R, N, G)) rfl ?_
      refine XP_icD rfl (fun (b25 : ¬ s 120 svn = cI (-1)) => absurd b25 (by first | exact g4 | exact fun z => z g4 | omega)) (fun (b25 : s 120 svn = cI (-1)) => ?_)
      refine XP_n 1 (pc' := 27) (ls' := [.ref (99), .int (nI (svn)), .int (nI (pn)), .int (nI (yn)), .int (nI (mn)), xj, xj, xj]) (st' := [.int (cI (-11))]) (M' := (I, J, Rx R, N, G)) rfl ?_
      exact XP_ret rfl ⟨rfl, _, _, rfl, hI⟩
  by_cases g5 : shOk s svn (cT s) (99999)
  rotate_left
  · skip
    have hsz0 := (hW.sz1 (show svn < 4 by omega)).2
    refine ⟨cI (-2), ?_, fun I J hI => ?_⟩
    · unfold TP
      show XP X _ k_H_join 0 [.ref (0), .int (nI (svn)), .int (nI (pn)), .int (nI (yn)), .int (nI (mn)), xj, xj, xj, xj] [] _ _
      refine XP_n 2 (pc' := 2) (ls' := [.ref (0), .int (nI (svn)), .int (nI (pn)), .int (nI (yn)), .int (nI (mn)), xj, xj, xj, xj]) (st' := [.int (nI (svn)), .ref (0)]) (M' := (I, J, Rx R, N, G)) rfl ?_
      refine XP_pure rfl rfl (c_sheetAtT (show svn < 4 by omega)) ?_
      refine XP_n 6 (pc' := 9) (ls' := [.ref (0), .int (nI (svn)), .int (nI (pn)), .int (nI (yn)), .int (nI (mn)), .ref (87 + 2 * svn), xj, xj, xj]) (st' := [.int (nI (pn)), .ref (1)]) (M' := (I, J, Rx R, N, G)) rfl ?_
      refine XP_pure rfl rfl (c_hasPath hI.1 hI.2.1 _) ?_
      refine XP_s rfl ?_
      refine XP_beq (fun b10 => absurd g1 b10) (fun b10 => ?_)
      refine XP_n 2 (pc' := 13) (ls' := [.ref (0), .int (nI (svn)), .int (nI (pn)), .int (nI (yn)), .int (nI (mn)), .ref (87 + 2 * svn), xj, xj, xj]) (st' := [.int (nI (yn)), .ref (0)]) (M' := (I, J, Rx R, N, G)) rfl ?_
      refine XP_pure rfl rfl (h_isYear hI.1 hI.2.1 _) ?_
      refine XP_s rfl ?_
      refine XP_beq (fun b14 => absurd g2 b14) (fun b14 => ?_)
      refine XP_n 1 (pc' := 16) (ls' := [.ref (0), .int (nI (svn)), .int (nI (pn)), .int (nI (yn)), .int (nI (mn)), .ref (87 + 2 * svn), xj, xj, xj]) (st' := [.int (nI (mn))]) (M' := (I, J, Rx R, N, G)) rfl ?_
      refine XP_pure rfl rfl (t_H_isMany X _ _ _) ?_
      refine XP_s rfl ?_
      refine XP_bne (fun b17 => ?_) (fun b17 => absurd g3 b17)
      refine XP_n 3 (pc' := 23) (ls' := [.ref (0), .int (nI (svn)), .int (nI (pn)), .int (nI (yn)), .int (nI (mn)), .ref (87 + 2 * svn), xj, xj, xj]) (st' := [.ref (80), .ref (87 + 2 * svn)]) (M' := (I, J, Rx R, N, G)) rfl ?_
      refine XP_geti hI.1 rfl rfl rfl ?_
      rw [hW.t.1]
      refine XP_n 1 (pc' := 25) (ls' := [.ref (0), .int (nI (svn)), .int (nI (pn)), .int (nI (yn)), .int (nI (mn)), .ref (87 + 2 * svn), xj, xj, xj]) (st' := [.int (nI (99999)), .int (nI (cT s)), .ref (87 + 2 * svn)]) (M' := (I, J, Rx R, N, G)) rfl ?_
      refine XP_pure rfl rfl (c_refB hI.1 hW (show svn < 4 by omega) g4 g5) ?_
      refine XP_n 2 (pc' := 28) (ls' := [.ref (0), .int (nI (svn)), .int (nI (pn)), .int (nI (yn)), .int (nI (mn)), .ref (87 + 2 * svn), .int (cI (-2)), xj, xj]) (st' := [.int (cI (-2))]) (M' := (I, J, Rx R, N, G)) rfl ?_
      refine XP_ifD rfl (fun (b28 : cI (-2) = 0) => absurd b28 (by decide)) (fun (b28 : ¬ cI (-2) = 0) => ?_)
      refine XP_n 1 (pc' := 30) (ls' := [.ref (0), .int (nI (svn)), .int (nI (pn)), .int (nI (yn)), .int (nI (mn)), .ref (87 + 2 * svn), .int (cI (-2)), xj, xj]) (st' := [.int (cI (-2))]) (M' := (I, J, Rx R, N, G)) rfl ?_
      exact XP_ret rfl ⟨rfl, _, _, rfl, hI⟩
    · unfold TP
      show XP X _ k_M_join 0 [.ref (99), .int (nI (svn)), .int (nI (pn)), .int (nI (yn)), .int (nI (mn)), xj, xj, xj] [] _ _
      refine XP_n 3 (pc' := 3) (ls' := [.ref (99), .int (nI (svn)), .int (nI (pn)), .int (nI (yn)), .int (nI (mn)), xj, xj, xj]) (st' := [.int (nI (3)), .int (nI (0)), .int (nI (svn))]) (M' := (I, J, Rx R, N, G)) rfl ?_
      refine XP_pure rfl rfl (w_M X _ _ 0 3 _) ?_
      refine XP_s rfl ?_
      refine XP_beq (fun b4 => absurd g0 b4) (fun b4 => ?_)
      refine XP_n 2 (pc' := 7) (ls' := [.ref (99), .int (nI (svn)), .int (nI (pn)), .int (nI (yn)), .int (nI (mn)), xj, xj, xj]) (st' := [.int (nI (pn)), .ref (99)]) (M' := (I, J, Rx R, N, G)) rfl ?_
      refine XP_pure rfl rfl (m_isPath hI.1 hI.2.1 _) ?_
      refine XP_s rfl ?_
      refine XP_beq (fun b8 => absurd g1 b8) (fun b8 => ?_)
      refine XP_n 2 (pc' := 11) (ls' := [.ref (99), .int (nI (svn)), .int (nI (pn)), .int (nI (yn)), .int (nI (mn)), xj, xj, xj]) (st' := [.int (nI (yn)), .ref (99)]) (M' := (I, J, Rx R, N, G)) rfl ?_
      refine XP_pure rfl rfl (m_isYear hI.1 hI.2.1 _) ?_
      refine XP_s rfl ?_
      refine XP_beq (fun b12 => absurd g2 b12) (fun b12 => ?_)
      refine XP_n 3 (pc' := 16) (ls' := [.ref (99), .int (nI (svn)), .int (nI (pn)), .int (nI (yn)), .int (nI (mn)), xj, xj, xj]) (st' := [.int (nI (1000)), .int (nI (0)), .int (nI (mn))]) (M' := (I, J, Rx R, N, G)) rfl ?_
      refine XP_pure rfl rfl (w_M X _ _ 0 1000 _) ?_
      refine XP_s rfl ?_
      refine XP_bne (fun b17 => ?_) (fun b17 => absurd g3 b17)
      refine XP_n 3 (pc' := 23) (ls' := [.ref (99), .int (nI (svn)), .int (nI (pn)), .int (nI (yn)), .int (nI (mn)), xj, xj, xj]) (st' := [.int (nI (svn)), .ref (120)]) (M' := (I, J, Rx R, N, G)) rfl ?_
      refine XP_iald hI.1 rfl rfl (show svn < 4 by omega) rfl (by omega) rfl ?_
      refine XP_n 1 (pc' := 25) (ls' := [.ref (99), .int (nI (svn)), .int (nI (pn)), .int (nI (yn)), .int (nI (mn)), xj, xj, xj]) (st' := [.int (cI (-1)), .int (s 120 svn)]) (M' := (I, J, Rx R, N, G)) rfl ?_
      refine XP_icD rfl (fun (b25 : ¬ s 120 svn = cI (-1)) => ?_) (fun (b25 : s 120 svn = cI (-1)) => absurd b25 (by first | exact g4 | exact fun z => z g4 | omega))
      refine XP_n 3 (pc' := 31) (ls' := [.ref (99), .int (nI (svn)), .int (nI (pn)), .int (nI (yn)), .int (nI (mn)), xj, xj, xj]) (st' := [.int (nI (svn)), .ref (121)]) (M' := (I, J, Rx R, N, G)) rfl ?_
      refine XP_iald hI.1 rfl rfl (show svn < 4 by omega) rfl (by omega) rfl ?_
      rw [(hW.sz1 (show svn < 4 by omega)).1]
      refine XP_n 1 (pc' := 33) (ls' := [.ref (99), .int (nI (svn)), .int (nI (pn)), .int (nI (yn)), .int (nI (mn)), xj, xj, xj]) (st' := [.ref (99), .int (nI (sz s svn))]) (M' := (I, J, Rx R, N, G)) rfl ?_
      refine XP_geti hI.1 rfl rfl rfl ?_
      rw [hW.t.1]
      refine XP_icN (x := sz s svn) (y := cT s) rfl (by omega) (by omega) (fun (b34 : ¬ sz s svn = cT s) => ?_) (fun (b34 : sz s svn = cT s) => ?_)
      · refine XP_n 4 (pc' := 41) (ls' := [.ref (99), .int (nI (svn)), .int (nI (pn)), .int (nI (yn)), .int (nI (mn)), .int (nI (0)), .int (nI (0)), xj]) (st' := []) (M' := (I, J, Rx R, N, G)) rfl ?_
        refine XP_n 2 (pc' := 43) (ls' := [.ref (99), .int (nI (svn)), .int (nI (pn)), .int (nI (yn)), .int (nI (mn)), .int (nI (0)), .int (nI (0)), xj]) (st' := [.ref (99), .int (nI (0))]) (M' := (I, J, Rx R, N, G)) rfl ?_
        refine XP_geti hI.1 rfl rfl rfl ?_
        rw [hW.t.1]
        refine XP_icN (x := 0) (y := cT s) rfl (by omega) (by omega) (fun (b44 : cT s ≤ 0) => ?_) (fun (b44 : 0 < cT s) => ?_)
        · refine XP_n 1 (pc' := 62) (ls' := [.ref (99), .int (nI (svn)), .int (nI (pn)), .int (nI (yn)), .int (nI (mn)), .int (nI (0)), .int (nI (0)), xj]) (st' := [.int (nI (0))]) (M' := (I, J, Rx R, N, G)) rfl ?_
          refine XP_ifN (x := 0)  rfl (by omega) (fun (b62 : ¬ 0 = 0) => absurd b62 (by omega)) (fun (b62 : 0 = 0) => ?_)
          refine XP_n 1 (pc' := 64) (ls' := [.ref (99), .int (nI (svn)), .int (nI (pn)), .int (nI (yn)), .int (nI (mn)), .int (nI (0)), .int (nI (0)), xj]) (st' := [.int (cI (-2))]) (M' := (I, J, Rx R, N, G)) rfl ?_
          exact XP_ret rfl ⟨rfl, _, _, rfl, hI⟩
        · refine XP_n 1 (pc' := 46) (ls' := [.ref (99), .int (nI (svn)), .int (nI (pn)), .int (nI (yn)), .int (nI (mn)), .int (nI (0)), .int (nI (0)), xj]) (st' := [.int (nI (0))]) (M' := (I, J, Rx R, N, G)) rfl ?_
          refine XP_ifN (x := 0)  rfl (by omega) (fun (b46 : 0 = 0) => ?_) (fun (b46 : ¬ 0 = 0) => absurd b46 (by omega))
          refine XP_n 1 (pc' := 62) (ls' := [.ref (99), .int (nI (svn)), .int (nI (pn)), .int (nI (yn)), .int (nI (mn)), .int (nI (0)), .int (nI (0)), xj]) (st' := [.int (nI (0))]) (M' := (I, J, Rx R, N, G)) rfl ?_
          refine XP_ifN (x := 0)  rfl (by omega) (fun (b62 : ¬ 0 = 0) => absurd b62 (by omega)) (fun (b62 : 0 = 0) => ?_)
          refine XP_n 1 (pc' := 64) (ls' := [.ref (99), .int (nI (svn)), .int (nI (pn)), .int (nI (yn)), .int (nI (mn)), .int (nI (0)), .int (nI (0)), xj]) (st' := [.int (cI (-2))]) (M' := (I, J, Rx R, N, G)) rfl ?_
          exact XP_ret rfl ⟨rfl, _, _, rfl, hI⟩
      · refine XP_n 5 (pc' := 41) (ls' := [.ref (99), .int (nI (svn)), .int (nI (pn)), .int (nI (yn)), .int (nI (mn)), .int (nI (1)), .int (nI (0)), xj]) (st' := []) (M' := (I, J, Rx R, N, G)) rfl ?_
        refine l_M_jnF (d := d + 4) hI hW (by omega) ?_ (cT s) 0 (by omega) ?_
        rotate_left
        · have hh := fun z => g5 ⟨b34, z⟩
          obtain ⟨j, hj⟩ := Classical.not_forall.mp hh
          exact ⟨j, Nat.zero_le _, Classical.byContradiction (fun z => hj (fun y => absurd y z)), fun z => hj (fun _ => z)⟩
        intro e he
        refine XP_n 1 (pc' := 62) (ls' := [.ref (99), .int (nI (svn)), .int (nI (pn)), .int (nI (yn)), .int (nI (mn)), .int (nI (0)), .int (nI (e)), xj]) (st' := [.int (nI (0))]) (M' := (I, J, Rx R, N, G)) rfl ?_
        refine XP_ifN (x := 0)  rfl (by omega) (fun (b62 : ¬ 0 = 0) => absurd b62 (by omega)) (fun (b62 : 0 = 0) => ?_)
        refine XP_n 1 (pc' := 64) (ls' := [.ref (99), .int (nI (svn)), .int (nI (pn)), .int (nI (yn)), .int (nI (mn)), .int (nI (0)), .int (nI (e)), xj]) (st' := [.int (cI (-2))]) (M' := (I, J, Rx R, N, G)) rfl ?_
        exact XP_ret rfl ⟨rfl, _, _, rfl, hI⟩
  have hok1 := g5.1
  have hsz0 := (hW.sz1 (show svn < 4 by omega)).2
  refine ⟨jnV s svn pn yn mn (2 ^ cT s - 1) 1, ?_, fun I J hI => ?_⟩
  · have hy := hyn
    have hp := hpn
    have hlv := (nLv_ok hW hpn (show yn ≤ 15 by omega)).2
    unfold TP
    show XP X _ k_H_join 0 [.ref (0), .int (nI (svn)), .int (nI (pn)), .int (nI (yn)), .int (nI (mn)), xj, xj, xj, xj] [] _ _
    refine XP_n 2 (pc' := 2) (ls' := [.ref (0), .int (nI (svn)), .int (nI (pn)), .int (nI (yn)), .int (nI (mn)), xj, xj, xj, xj]) (st' := [.int (nI (svn)), .ref (0)]) (M' := (I, J, Rx R, N, G)) rfl ?_
    refine XP_pure rfl rfl (c_sheetAtT (show svn < 4 by omega)) ?_
    refine XP_n 6 (pc' := 9) (ls' := [.ref (0), .int (nI (svn)), .int (nI (pn)), .int (nI (yn)), .int (nI (mn)), .ref (87 + 2 * svn), xj, xj, xj]) (st' := [.int (nI (pn)), .ref (1)]) (M' := (I, J, Rx R, N, G)) rfl ?_
    refine XP_pure rfl rfl (c_hasPath hI.1 hI.2.1 _) ?_
    refine XP_s rfl ?_
    refine XP_beq (fun b10 => absurd g1 b10) (fun b10 => ?_)
    refine XP_n 2 (pc' := 13) (ls' := [.ref (0), .int (nI (svn)), .int (nI (pn)), .int (nI (yn)), .int (nI (mn)), .ref (87 + 2 * svn), xj, xj, xj]) (st' := [.int (nI (yn)), .ref (0)]) (M' := (I, J, Rx R, N, G)) rfl ?_
    refine XP_pure rfl rfl (h_isYear hI.1 hI.2.1 _) ?_
    refine XP_s rfl ?_
    refine XP_beq (fun b14 => absurd g2 b14) (fun b14 => ?_)
    refine XP_n 1 (pc' := 16) (ls' := [.ref (0), .int (nI (svn)), .int (nI (pn)), .int (nI (yn)), .int (nI (mn)), .ref (87 + 2 * svn), xj, xj, xj]) (st' := [.int (nI (mn))]) (M' := (I, J, Rx R, N, G)) rfl ?_
    refine XP_pure rfl rfl (t_H_isMany X _ _ _) ?_
    refine XP_s rfl ?_
    refine XP_bne (fun b17 => ?_) (fun b17 => absurd g3 b17)
    refine XP_n 3 (pc' := 23) (ls' := [.ref (0), .int (nI (svn)), .int (nI (pn)), .int (nI (yn)), .int (nI (mn)), .ref (87 + 2 * svn), xj, xj, xj]) (st' := [.ref (80), .ref (87 + 2 * svn)]) (M' := (I, J, Rx R, N, G)) rfl ?_
    refine XP_geti hI.1 rfl rfl rfl ?_
    rw [hW.t.1]
    refine XP_n 1 (pc' := 25) (ls' := [.ref (0), .int (nI (svn)), .int (nI (pn)), .int (nI (yn)), .int (nI (mn)), .ref (87 + 2 * svn), xj, xj, xj]) (st' := [.int (nI (99999)), .int (nI (cT s)), .ref (87 + 2 * svn)]) (M' := (I, J, Rx R, N, G)) rfl ?_
    refine XP_pure rfl rfl (c_refT hI.1 hW (show svn < 4 by omega) g4 g5) ?_
    refine XP_n 2 (pc' := 28) (ls' := [.ref (0), .int (nI (svn)), .int (nI (pn)), .int (nI (yn)), .int (nI (mn)), .ref (87 + 2 * svn), .int (nI (0)), xj, xj]) (st' := [.int (nI (0))]) (M' := (I, J, Rx R, N, G)) rfl ?_
    refine XP_ifN (x := 0)  rfl (by omega) (fun (b28 : 0 = 0) => ?_) (fun (b28 : ¬ 0 = 0) => absurd b28 (by omega))
    refine XP_n 5 (pc' := 36) (ls' := [.ref (0), .int (nI (svn)), .int (nI (pn)), .int (nI (yn)), .int (nI (mn)), .ref (87 + 2 * svn), .int (nI (0)), xj, xj]) (st' := [.int (nI (0)), .int (nI (yn)), .int (nI (pn)), .ref (80)]) (M' := (I, J, Rx R, N, G)) rfl ?_
    refine XP_call rfl rfl (c_look hI (show pn < cP s by omega) (show yn < cY s by omega) (up := 0)) ?_
    rintro v25 M25 ⟨rfl, I25, rfl, hI25, h5_25, h6_25, h7_25⟩
    refine XP_n 2 (pc' := 39) (ls' := [.ref (0), .int (nI (svn)), .int (nI (pn)), .int (nI (yn)), .int (nI (mn)), .ref (87 + 2 * svn), .int (nI (0)), xj, xj]) (st' := [.ref (80)]) (M' := (I25, J, Rx R, N, G)) rfl ?_
    refine XP_pure rfl rfl (c_allT hI25.1 hW) ?_
    refine XP_n 3 (pc' := 43) (ls' := [.ref (0), .int (nI (svn)), .int (nI (pn)), .int (nI (yn)), .int (nI (mn)), .ref (87 + 2 * svn), .int (nI (0)), .int (nI (2 ^ cT s - 1)), .int (nI (1))]) (st' := []) (M' := (I25, J, Rx R, N, G)) rfl ?_
    exact l_H_jn (d := d + 4) hW (by omega) hpn hyn (by omega) g5 (2 ^ cT s - 1) 1 _ _ (by omega) (by omega) hI25 h5_25 h6_25
  · unfold TP
    show XP X _ k_M_join 0 [.ref (99), .int (nI (svn)), .int (nI (pn)), .int (nI (yn)), .int (nI (mn)), xj, xj, xj] [] _ _
    refine XP_n 3 (pc' := 3) (ls' := [.ref (99), .int (nI (svn)), .int (nI (pn)), .int (nI (yn)), .int (nI (mn)), xj, xj, xj]) (st' := [.int (nI (3)), .int (nI (0)), .int (nI (svn))]) (M' := (I, J, Rx R, N, G)) rfl ?_
    refine XP_pure rfl rfl (w_M X _ _ 0 3 _) ?_
    refine XP_s rfl ?_
    refine XP_beq (fun b4 => absurd g0 b4) (fun b4 => ?_)
    refine XP_n 2 (pc' := 7) (ls' := [.ref (99), .int (nI (svn)), .int (nI (pn)), .int (nI (yn)), .int (nI (mn)), xj, xj, xj]) (st' := [.int (nI (pn)), .ref (99)]) (M' := (I, J, Rx R, N, G)) rfl ?_
    refine XP_pure rfl rfl (m_isPath hI.1 hI.2.1 _) ?_
    refine XP_s rfl ?_
    refine XP_beq (fun b8 => absurd g1 b8) (fun b8 => ?_)
    refine XP_n 2 (pc' := 11) (ls' := [.ref (99), .int (nI (svn)), .int (nI (pn)), .int (nI (yn)), .int (nI (mn)), xj, xj, xj]) (st' := [.int (nI (yn)), .ref (99)]) (M' := (I, J, Rx R, N, G)) rfl ?_
    refine XP_pure rfl rfl (m_isYear hI.1 hI.2.1 _) ?_
    refine XP_s rfl ?_
    refine XP_beq (fun b12 => absurd g2 b12) (fun b12 => ?_)
    refine XP_n 3 (pc' := 16) (ls' := [.ref (99), .int (nI (svn)), .int (nI (pn)), .int (nI (yn)), .int (nI (mn)), xj, xj, xj]) (st' := [.int (nI (1000)), .int (nI (0)), .int (nI (mn))]) (M' := (I, J, Rx R, N, G)) rfl ?_
    refine XP_pure rfl rfl (w_M X _ _ 0 1000 _) ?_
    refine XP_s rfl ?_
    refine XP_bne (fun b17 => ?_) (fun b17 => absurd g3 b17)
    refine XP_n 3 (pc' := 23) (ls' := [.ref (99), .int (nI (svn)), .int (nI (pn)), .int (nI (yn)), .int (nI (mn)), xj, xj, xj]) (st' := [.int (nI (svn)), .ref (120)]) (M' := (I, J, Rx R, N, G)) rfl ?_
    refine XP_iald hI.1 rfl rfl (show svn < 4 by omega) rfl (by omega) rfl ?_
    refine XP_n 1 (pc' := 25) (ls' := [.ref (99), .int (nI (svn)), .int (nI (pn)), .int (nI (yn)), .int (nI (mn)), xj, xj, xj]) (st' := [.int (cI (-1)), .int (s 120 svn)]) (M' := (I, J, Rx R, N, G)) rfl ?_
    refine XP_icD rfl (fun (b25 : ¬ s 120 svn = cI (-1)) => ?_) (fun (b25 : s 120 svn = cI (-1)) => absurd b25 (by first | exact g4 | exact fun z => z g4 | omega))
    refine XP_n 3 (pc' := 31) (ls' := [.ref (99), .int (nI (svn)), .int (nI (pn)), .int (nI (yn)), .int (nI (mn)), xj, xj, xj]) (st' := [.int (nI (svn)), .ref (121)]) (M' := (I, J, Rx R, N, G)) rfl ?_
    refine XP_iald hI.1 rfl rfl (show svn < 4 by omega) rfl (by omega) rfl ?_
    rw [(hW.sz1 (show svn < 4 by omega)).1]
    refine XP_n 1 (pc' := 33) (ls' := [.ref (99), .int (nI (svn)), .int (nI (pn)), .int (nI (yn)), .int (nI (mn)), xj, xj, xj]) (st' := [.ref (99), .int (nI (sz s svn))]) (M' := (I, J, Rx R, N, G)) rfl ?_
    refine XP_geti hI.1 rfl rfl rfl ?_
    rw [hW.t.1]
    refine XP_icN (x := sz s svn) (y := cT s) rfl (by omega) (by omega) (fun (b34 : ¬ sz s svn = cT s) => absurd b34 (by omega)) (fun (b34 : sz s svn = cT s) => ?_)
    refine XP_n 5 (pc' := 41) (ls' := [.ref (99), .int (nI (svn)), .int (nI (pn)), .int (nI (yn)), .int (nI (mn)), .int (nI (1)), .int (nI (0)), xj]) (st' := []) (M' := (I, J, Rx R, N, G)) rfl ?_
    refine l_M_jnT (d := d + 4) hI hW (by omega) g5.2 ?_ (cT s) 0 (by omega)
    intro e he
    refine XP_n 1 (pc' := 62) (ls' := [.ref (99), .int (nI (svn)), .int (nI (pn)), .int (nI (yn)), .int (nI (mn)), .int (nI (1)), .int (nI (e)), xj]) (st' := [.int (nI (1))]) (M' := (I, J, Rx R, N, G)) rfl ?_
    refine XP_ifN (x := 1)  rfl (by omega) (fun (b62 : ¬ 1 = 0) => ?_) (fun (b62 : 1 = 0) => absurd b62 (by omega))
    refine XP_n 2 (pc' := 67) (ls' := [.ref (99), .int (nI (svn)), .int (nI (pn)), .int (nI (yn)), .int (nI (mn)), .int (nI (1)), .int (nI (e)), xj]) (st' := [.ref (99), .int (nI (1))]) (M' := (I, J, Rx R, N, G)) rfl ?_
    refine XP_geti hI.1 rfl rfl rfl ?_
    rw [hW.t.1]
    refine XP_n 4 (pc' := 72) (ls' := [.ref (99), .int (nI (svn)), .int (nI (pn)), .int (nI (yn)), .int (nI (mn)), .int (nI (1)), .int (((nI (1)) <<< ((nI (cT s)) &&& 31)) - (nI (1))), xj]) (st' := []) (M' := (I, J, Rx R, N, G)) rfl ?_
    rw [show ((nI (1)) <<< ((nI (cT s)) &&& 31)) - (nI (1)) = nI (2 ^ (cT s) - 1) from nI_subE (b_pw (show cT s < 8 by omega)) (rfl) (by omega)]
    refine XP_n 2 (pc' := 74) (ls' := [.ref (99), .int (nI (svn)), .int (nI (pn)), .int (nI (yn)), .int (nI (mn)), .int (nI (1)), .int (nI (2 ^ (cT s) - 1)), .int (nI (1))]) (st' := []) (M' := (I, J, Rx R, N, G)) rfl ?_
    refine l_M_jn (d := d + 4) (x5 := nI 1) hW (by omega) hpn hyn (by omega) g5 (2 ^ cT s - 1) 1 _ _ (by omega) (by omega) hI
end
