/-! setters: feed -/
theorem l_byte (x : Int64) : ∃ k, k < 256 ∧ x &&& lN 255 = lN k := by
  refine ⟨x.toBitVec.toNat % 256, Nat.mod_lt _ (by omega), ?_⟩
  apply Int64.toBitVec_inj.mp
  rw [Int64.toBitVec_and]
  apply BitVec.eq_of_toNat_eq
  rw [BitVec.toNat_and]
  have h1 : (lN 255).toBitVec.toNat = 255 := by decide
  have h2 : ∀ k, k < 256 → (lN k).toBitVec.toNat = k := by decide +kernel
  rw [h1, h2 _ (Nat.mod_lt _ (by omega)), show 255 = 2 ^ 8 - 1 from rfl, Nat.and_two_pow_sub_one_eq_mod]
/-- the byte at a place of the word -/
def fB (w : Int64) (m : Nat) : Int32 := ((w >>> (((nI (8)) * (nI (m))).toInt64 &&& 63)) &&& (lN (255))).toInt32
theorem fB_b (w : Int64) (m : Nat) : iN 0 255 (fB w m) := by
  obtain ⟨k, h1, h2⟩ := l_byte (w >>> (((nI (8)) * (nI (m))).toInt64 &&& 63))
  refine ⟨k, Nat.zero_le _, by omega, ?_⟩
  unfold fB
  rw [h2]
  exact lN_iE rfl
theorem dec_1 (x : Int32) : x + cI (-1) = x - nI 1 := by rw [cI_m1, Int32.sub_eq_add_neg]
theorem sub_1 (m : Nat) : nI (m + 1) - nI 1 = nI m := by rw [nI_sub (by omega)]; rfl
theorem z_1 : nI 0 - nI 1 < 0 := by decide
section
variable {X : hX} {d : Nat} {s I : Nat → Nat → Int32} {J : Nat → Nat → Int64} {R : Nat → Nat → Option Nat} {N : Nat → Nat} {G : hG}
theorem l_fdH {w : Int64} {tp n : Nat} (htp : tp + n ≤ 160) : ∀ (m k : Nat) (I1 : Nat → Nat → Int32), k + m = n → (∀ a, a ≠ 10 → I1 a = rw2 I 9 1 (nI (tp + k)) a) → (∀ j, I1 10 j = blk I 10 tp k (fun j => fB w (n - 1 - j)) 10 j) → XP X d k_Reader_add 20 [.ref 9, .long w, xj, .int (nI n), .int (nI m - nI 1)] [] (I1, J, Rx R, N, G) (fun v M' => v = some (.int (nI 1)) ∧ ∃ I', M' = (I', J, Rx R, N, G) ∧ (∀ a, a ≠ 10 → I' a = rw2 I 9 1 (nI (tp + n)) a) ∧ ∀ j, I' 10 j = blk I 10 tp n (fun j => fB w (n - 1 - j)) 10 j) := by
  intro m
  induction m with
  | zero =>
    rintro k I1 hk h1 h2
    obtain rfl : k = n := by omega
    have q : I1 9 1 = nI (tp + k) := by rw [h1 9 (by omega)]; exact rw2_on
    refine XP_n 1 (pc' := 21) (ls' := [.ref (9), .long (w), xj, .int (nI (k)), .int (nI 0 - nI 1)]) (st' := [.int (nI 0 - nI 1)]) (M' := (I1, J, Rx R, N, G)) rfl ?_
    refine XP_ifD rfl (fun (b21 : nI 0 - nI 1 < 0) => ?_) (fun (b21 : 0 ≤ nI 0 - nI 1) => absurd b21 (by first | exact z_1 | exact fun z => z z_1 | exact Int32.not_le.mpr z_1 | exact Int32.not_lt.mpr (Int32.not_lt.mp z_1) | omega))
    have n21 := Int32.not_le.mpr b21
    refine XP_n 1 (pc' := 43) (ls' := [.ref (9), .long (w), xj, .int (nI (k)), .int (nI 0 - nI 1)]) (st' := [.int (nI (1))]) (M' := (I1, J, Rx R, N, G)) rfl ?_
    exact XP_ret rfl ⟨rfl, _, rfl, h1, h2⟩
  | succ m ih =>
    rintro k I1 hk h1 h2
    have q : I1 9 1 = nI (tp + k) := by rw [h1 9 (by omega)]; exact rw2_on
    rw [sub_1 m]
    refine XP_n 1 (pc' := 21) (ls' := [.ref (9), .long (w), xj, .int (nI (n)), .int (nI (m))]) (st' := [.int (nI (m))]) (M' := (I1, J, Rx R, N, G)) rfl ?_
    refine XP_ifN (x := m)  rfl (by omega) (fun (b21 : m < 0) => absurd b21 (by omega)) (fun (b21 : 0 ≤ m) => ?_)
    refine XP_n 5 (pc' := 27) (ls' := [.ref (9), .long (w), xj, .int (nI (n)), .int (nI (m))]) (st' := [.int (I1 9 1), .ref (9), .ref (10)]) (M' := (I1, J, Rx R, N, G)) rfl ?_
    rw [q]
    refine XP_n 3 (pc' := 30) (ls' := [.ref (9), .long (w), xj, .int (nI (n)), .int (nI (m))]) (st' := [.int ((nI (tp + k)) + (nI (1))), .ref (9), .int (nI (tp + k)), .ref (10)]) (M' := (I1, J, Rx R, N, G)) rfl ?_
    rw [show (nI (tp + k)) + (nI (1)) = nI (tp + k + 1) from nI_addE (rfl) (rfl)]
    refine XP_n 9 (pc' := 39) (ls' := [.ref (9), .long (w), xj, .int (nI (n)), .int (nI (m))]) (st' := [.int (((w >>> (((nI (8)) * (nI (m))).toInt64 &&& 63)) &&& (lN (255))).toInt32), .int (nI (tp + k)), .ref (10)]) (M' := ((rw2 I1 9 1 (nI (tp + k + 1))), J, Rx R, N, G)) rfl ?_
    refine XP_iast rfl rfl (show tp + k < 160 by omega) rfl (by omega) ?_
    refine XP_n 2 (pc' := 20) (ls' := [.ref (9), .long (w), xj, .int (nI (n)), .int ((nI (m)) + cI (-1))]) (st' := []) (M' := ((rw2 (rw2 I1 9 1 (nI (tp + k + 1))) 10 (tp + k) (((w >>> (((nI (8)) * (nI (m))).toInt64 &&& 63)) &&& (lN (255))).toInt32)), J, Rx R, N, G)) rfl ?_
    rw [dec_1, show ((w >>> (((nI (8)) * (nI (m))).toInt64 &&& 63)) &&& (lN (255))).toInt32 = fB w m from rfl]
    refine ih (k + 1) _ (by omega) (fun a ha => ?_) (fun j => ?_)
    · by_cases e : a = 9
      · subst e
        funext b
        rw [rw2_ro (show (9 : Nat) ≠ 10 by omega), rw2_c, h1 9 (by omega), rw2_c, rw2_c]
        by_cases g : b = 1
        · simp [g, Nat.add_assoc]
        · simp [g]
      · rw [rw2_ro ha, rw2_ro e, h1 a ha, rw2_ro e, rw2_ro e]
    · rw [rw2_c]
      by_cases e : j = tp + k
      · rw [if_pos e, e]
        unfold blk
        rw [if_pos (by omega), Nat.add_sub_cancel_left]
        show fB w m = fB w (n - 1 - k)
        rw [show n - 1 - k = m by omega]
      · rw [if_neg e, rw2_ro (show (10 : Nat) ≠ 9 by omega), h2 j]
        unfold blk
        by_cases g : tp ≤ j ∧ j < tp + k
        · rw [if_pos ⟨rfl, g⟩, if_pos (by omega)]
        · rw [if_neg (fun z => g z.2), if_neg (by omega)]
theorem l_fdM {w : Int64} {tp n : Nat} (htp : tp + n ≤ 160) : ∀ (m k : Nat) (I1 : Nat → Nat → Int32), k + m = n → (∀ a, a ≠ 116 → I1 a = rw2 I 99 27 (nI (tp + k)) a) → (∀ j, I1 116 j = blk I 116 tp k (fun j => fB w (n - 1 - j)) 116 j) → XP X d k_M_feed 19 [.ref 99, .long w, xj, .int (nI n), .int (nI m - nI 1)] [] (I1, J, Rx R, N, G) (fun v M' => v = some (.int (nI (tp + n))) ∧ ∃ I', M' = (I', J, Rx R, N, G) ∧ (∀ a, a ≠ 116 → I' a = rw2 I 99 27 (nI (tp + n)) a) ∧ ∀ j, I' 116 j = blk I 116 tp n (fun j => fB w (n - 1 - j)) 116 j) := by
  intro m
  induction m with
  | zero =>
    rintro k I1 hk h1 h2
    obtain rfl : k = n := by omega
    have q : I1 99 27 = nI (tp + k) := by rw [h1 99 (by omega)]; exact rw2_on
    refine XP_n 1 (pc' := 20) (ls' := [.ref (99), .long (w), xj, .int (nI (k)), .int (nI 0 - nI 1)]) (st' := [.int (nI 0 - nI 1)]) (M' := (I1, J, Rx R, N, G)) rfl ?_
    refine XP_ifD rfl (fun (b20 : nI 0 - nI 1 < 0) => ?_) (fun (b20 : 0 ≤ nI 0 - nI 1) => absurd b20 (by first | exact z_1 | exact fun z => z z_1 | exact Int32.not_le.mpr z_1 | exact Int32.not_lt.mpr (Int32.not_lt.mp z_1) | omega))
    have n20 := Int32.not_le.mpr b20
    refine XP_n 2 (pc' := 44) (ls' := [.ref (99), .long (w), xj, .int (nI (k)), .int (nI 0 - nI 1)]) (st' := [.int (I1 99 27)]) (M' := (I1, J, Rx R, N, G)) rfl ?_
    rw [q]
    exact XP_ret rfl ⟨rfl, _, rfl, h1, h2⟩
  | succ m ih =>
    rintro k I1 hk h1 h2
    have q : I1 99 27 = nI (tp + k) := by rw [h1 99 (by omega)]; exact rw2_on
    rw [sub_1 m]
    refine XP_n 1 (pc' := 20) (ls' := [.ref (99), .long (w), xj, .int (nI (n)), .int (nI (m))]) (st' := [.int (nI (m))]) (M' := (I1, J, Rx R, N, G)) rfl ?_
    refine XP_ifN (x := m)  rfl (by omega) (fun (b20 : m < 0) => absurd b20 (by omega)) (fun (b20 : 0 ≤ m) => ?_)
    refine XP_n 4 (pc' := 25) (ls' := [.ref (99), .long (w), xj, .int (nI (n)), .int (nI (m))]) (st' := [.int (I1 99 27), .ref (116)]) (M' := (I1, J, Rx R, N, G)) rfl ?_
    rw [q]
    refine XP_n 8 (pc' := 33) (ls' := [.ref (99), .long (w), xj, .int (nI (n)), .int (nI (m))]) (st' := [.int (((w >>> (((nI (8)) * (nI (m))).toInt64 &&& 63)) &&& (lN (255))).toInt32), .int (nI (tp + k)), .ref (116)]) (M' := (I1, J, Rx R, N, G)) rfl ?_
    refine XP_iast rfl rfl (show tp + k < 160 by omega) rfl (by omega) ?_
    refine XP_n 3 (pc' := 37) (ls' := [.ref (99), .long (w), xj, .int (nI (n)), .int (nI (m))]) (st' := [.int (I1 99 27), .ref (99)]) (M' := ((rw2 I1 116 (tp + k) (((w >>> (((nI (8)) * (nI (m))).toInt64 &&& 63)) &&& (lN (255))).toInt32)), J, Rx R, N, G)) rfl ?_
    rw [q]
    refine XP_n 2 (pc' := 39) (ls' := [.ref (99), .long (w), xj, .int (nI (n)), .int (nI (m))]) (st' := [.int ((nI (tp + k)) + (nI (1))), .ref (99)]) (M' := ((rw2 I1 116 (tp + k) (((w >>> (((nI (8)) * (nI (m))).toInt64 &&& 63)) &&& (lN (255))).toInt32)), J, Rx R, N, G)) rfl ?_
    rw [show (nI (tp + k)) + (nI (1)) = nI (tp + k + 1) from nI_addE (rfl) (rfl)]
    refine XP_n 3 (pc' := 19) (ls' := [.ref (99), .long (w), xj, .int (nI (n)), .int ((nI (m)) + cI (-1))]) (st' := []) (M' := ((rw2 (rw2 I1 116 (tp + k) (((w >>> (((nI (8)) * (nI (m))).toInt64 &&& 63)) &&& (lN (255))).toInt32)) 99 27 (nI (tp + k + 1))), J, Rx R, N, G)) rfl ?_
    rw [dec_1, show ((w >>> (((nI (8)) * (nI (m))).toInt64 &&& 63)) &&& (lN (255))).toInt32 = fB w m from rfl]
    refine ih (k + 1) _ (by omega) (fun a ha => ?_) (fun j => ?_)
    · by_cases e : a = 99
      · subst e
        funext b
        rw [rw2_c, rw2_ro (show (99 : Nat) ≠ 116 by omega), h1 99 (by omega), rw2_c, rw2_c]
        by_cases g : b = 27
        · simp [g, Nat.add_assoc]
        · simp [g]
      · rw [rw2_ro e, rw2_ro ha, h1 a ha, rw2_ro e, rw2_ro e]
    · rw [rw2_ro (show (116 : Nat) ≠ 99 by omega), rw2_c]
      by_cases e : j = tp + k
      · rw [if_pos e, e]
        unfold blk
        rw [if_pos (by omega), Nat.add_sub_cancel_left]
        show fB w m = fB w (n - 1 - k)
        rw [show n - 1 - k = m by omega]
      · rw [if_neg e, h2 j]
        unfold blk
        by_cases g : tp ≤ j ∧ j < tp + k
        · rw [if_pos ⟨rfl, g⟩, if_pos (by omega)]
        · rw [if_neg (fun z => g z.2), if_neg (by omega)]
theorem c_addB {w : Int64} {tp n : Nat} (htp : tp + n ≤ 160) (h1 : 1 ≤ n) (h8 : n ≤ 8) (q : I 9 1 = nI tp) : TP X d n_Reader_add [.ref 9, .long w, .int (nI n)] (I, J, Rx R, N, G) (fun v M' => v = some (.int (nI 1)) ∧ ∃ I', M' = (I', J, Rx R, N, G) ∧ (∀ a, a ≠ 10 → I' a = rw2 I 9 1 (nI (tp + n)) a) ∧ ∀ j, I' 10 j = blk I 10 tp n (fun j => fB w (n - 1 - j)) 10 j) := by
  unfold TP
  show XP X _ k_Reader_add 0 [.ref (9), .long (w), xj, .int (nI (n)), xj] [] _ _
  refine XP_n 1 (pc' := 1) (ls' := [.ref (9), .long (w), xj, .int (nI (n)), xj]) (st' := [.int (nI (n))]) (M' := (I, J, Rx R, N, G)) rfl ?_
  refine XP_ifN (x := n)  rfl (by omega) (fun (b1 : n < 0) => absurd b1 (by omega)) (fun (b1 : 0 ≤ n) => ?_)
  refine XP_n 2 (pc' := 4) (ls' := [.ref (9), .long (w), xj, .int (nI (n)), xj]) (st' := [.int (nI (8)), .int (nI (n))]) (M' := (I, J, Rx R, N, G)) rfl ?_
  refine XP_icN (x := n) (y := 8) rfl (by omega) (by omega) (fun (b4 : 8 < n) => absurd b4 (by omega)) (fun (b4 : n ≤ 8) => ?_)
  refine XP_n 2 (pc' := 7) (ls' := [.ref (9), .long (w), xj, .int (nI (n)), xj]) (st' := [.int (I 9 1)]) (M' := (I, J, Rx R, N, G)) rfl ?_
  rw [q]
  refine XP_ifN (x := tp)  rfl (by omega) (fun (b7 : tp < 0) => absurd b7 (by omega)) (fun (b7 : 0 ≤ tp) => ?_)
  refine XP_n 2 (pc' := 10) (ls' := [.ref (9), .long (w), xj, .int (nI (n)), xj]) (st' := [.int (I 9 1)]) (M' := (I, J, Rx R, N, G)) rfl ?_
  rw [q]
  refine XP_n 3 (pc' := 13) (ls' := [.ref (9), .long (w), xj, .int (nI (n)), xj]) (st' := [.int (nI (160)), .int ((nI (tp)) + (nI (n)))]) (M' := (I, J, Rx R, N, G)) rfl ?_
  rw [show (nI (tp)) + (nI (n)) = nI (tp + n) from nI_addE (rfl) (rfl)]
  refine XP_icN (x := tp + n) (y := 160) rfl (by omega) (by omega) (fun (b13 : tp + n ≤ 160) => ?_) (fun (b13 : 160 < tp + n) => absurd b13 (by omega))
  refine XP_n 4 (pc' := 20) (ls' := [.ref (9), .long (w), xj, .int (nI (n)), .int ((nI (n)) - (nI (1)))]) (st' := []) (M' := (I, J, Rx R, N, G)) rfl ?_
  exact l_fdH htp n 0 I (by omega) (fun a ha => by rw [Nat.add_zero, ← q, rw2_self]) (fun j => (blk_off (by omega)).symm)
theorem c_addBF {w : Int64} {tp n : Nat} (htp : ¬ tp + n ≤ 160) (h1 : 1 ≤ n) (h8 : n ≤ 8) (ht : tp ≤ 160) (q : I 9 1 = nI tp) : TP X d n_Reader_add [.ref 9, .long w, .int (nI n)] (I, J, Rx R, N, G) (Ret (.int (nI 0)) (I, J, Rx R, N, G)) := by
  unfold TP
  show XP X _ k_Reader_add 0 [.ref (9), .long (w), xj, .int (nI (n)), xj] [] _ _
  refine XP_n 1 (pc' := 1) (ls' := [.ref (9), .long (w), xj, .int (nI (n)), xj]) (st' := [.int (nI (n))]) (M' := (I, J, Rx R, N, G)) rfl ?_
  refine XP_ifN (x := n)  rfl (by omega) (fun (b1 : n < 0) => absurd b1 (by omega)) (fun (b1 : 0 ≤ n) => ?_)
  refine XP_n 2 (pc' := 4) (ls' := [.ref (9), .long (w), xj, .int (nI (n)), xj]) (st' := [.int (nI (8)), .int (nI (n))]) (M' := (I, J, Rx R, N, G)) rfl ?_
  refine XP_icN (x := n) (y := 8) rfl (by omega) (by omega) (fun (b4 : 8 < n) => absurd b4 (by omega)) (fun (b4 : n ≤ 8) => ?_)
  refine XP_n 2 (pc' := 7) (ls' := [.ref (9), .long (w), xj, .int (nI (n)), xj]) (st' := [.int (I 9 1)]) (M' := (I, J, Rx R, N, G)) rfl ?_
  rw [q]
  refine XP_ifN (x := tp)  rfl (by omega) (fun (b7 : tp < 0) => absurd b7 (by omega)) (fun (b7 : 0 ≤ tp) => ?_)
  refine XP_n 2 (pc' := 10) (ls' := [.ref (9), .long (w), xj, .int (nI (n)), xj]) (st' := [.int (I 9 1)]) (M' := (I, J, Rx R, N, G)) rfl ?_
  rw [q]
  refine XP_n 3 (pc' := 13) (ls' := [.ref (9), .long (w), xj, .int (nI (n)), xj]) (st' := [.int (nI (160)), .int ((nI (tp)) + (nI (n)))]) (M' := (I, J, Rx R, N, G)) rfl ?_
  rw [show (nI (tp)) + (nI (n)) = nI (tp + n) from nI_addE (rfl) (rfl)]
  refine XP_icN (x := tp + n) (y := 160) rfl (by omega) (by omega) (fun (b13 : tp + n ≤ 160) => absurd b13 (by omega)) (fun (b13 : 160 < tp + n) => ?_)
  refine XP_n 1 (pc' := 15) (ls' := [.ref (9), .long (w), xj, .int (nI (n)), xj]) (st' := [.int (nI (0))]) (M' := (I, J, Rx R, N, G)) rfl ?_
  exact XP_ret rfl ⟨rfl, rfl⟩
end
theorem blk_rw2f {s : Nat → Nat → Int32} {a b r o n : Nat} {x : Int32} {f : Nat → Int32} (h : a ≠ r) : blk (rw2 s a b x) r o n f = rw2 (blk s r o n f) a b x := by
  funext p q
  by_cases e : p = a
  · subst e
    by_cases g : q = b
    · subst g
      rw [blk_off (fun z => h z.1), rw2_on, rw2_on]
    · rw [blk_off (fun z => h z.1), rw2_off (fun z => g z.2), rw2_off (fun z => g z.2), blk_off (fun z => h z.1)]
  · rw [rw2_off (fun z => e z.1)]
    unfold blk
    by_cases g : p = r ∧ o ≤ q ∧ q < o + n
    · rw [if_pos g, if_pos g]
    · rw [if_neg g, if_neg g, rw2_off (fun z => e z.1)]
theorem Wf_feed {s : Nat → Nat → Int32} (hW : Wf s) (w : Int64) {n : Nat} (hn : cTa s + n ≤ 160) : Wf (rw2 (blk (blk s 116 (cTa s) n (fun j => fB w (n - 1 - j))) 10 (cTa s) n (fun j => fB w (n - 1 - j))) 99 27 (nI (cTa s + n))) := by
  refine ⟨⟨hW.1.1, hW.1.2.1, ⟨hW.1.2.2.1.1, hW.1.2.2.1.2.1, ⟨_, Nat.zero_le _, hn, rfl⟩, hW.1.2.2.1.2.2.2⟩, hW.1.2.2.2⟩, hW.2.1, hW.2.2.1, hW.2.2.2.1, hW.2.2.2.2.1, hW.2.2.2.2.2.1, fun i hi => ?_, hW.2.2.2.2.2.2.2⟩
  have hi : i < wN (nI (cTa s + n)) := hi
  rw [wN_nI (by omega)] at hi
  show iN 0 255 (blk (blk s 116 (cTa s) n (fun j => fB w (n - 1 - j))) 10 (cTa s) n (fun j => fB w (n - 1 - j)) 116 i) ∧ blk (blk s 116 (cTa s) n (fun j => fB w (n - 1 - j))) 10 (cTa s) n (fun j => fB w (n - 1 - j)) 10 i = blk (blk s 116 (cTa s) n (fun j => fB w (n - 1 - j))) 10 (cTa s) n (fun j => fB w (n - 1 - j)) 116 i
  rw [blk_ro (show (116 : Nat) ≠ 10 by omega)]
  by_cases g : cTa s ≤ i ∧ i < cTa s + n
  · obtain ⟨j, rfl⟩ : ∃ j, i = cTa s + j := ⟨i - cTa s, by omega⟩
    rw [blk_on (by omega), blk_on (by omega)]
    exact ⟨fB_b _ _, rfl⟩
  · rw [blk_off (fun z => g z.2), blk_off (fun z => g z.2), blk_ro (show (10 : Nat) ≠ 116 by omega)]
    exact hW.2.2.2.2.2.2.1 i (by omega)
theorem s_feed {s : Nat → Nat → Int32} (hW : Wf s) (hch : iN 0 1000000 (s 1 15)) (w : Int64) (v : Int32) : SetOk 20 n_H_feed n_M_feed [.long w, .int v] s := by
  have hta := hW.ta.2
  by_cases g0 : iv 1 8 v
  rotate_left
  · skip
    refine ⟨cI (-2), s, hW, Up.rf hch, fun X d I J R N G hI => ?_, fun X d I J R N G hS => ?_⟩
    · have hL := hI.2.2.1
      unfold TP
      show XP X _ k_H_feed 0 [.ref (0), .long (w), xj, .int (v)] [] _ _
      refine XP_n 3 (pc' := 3) (ls' := [.ref (0), .long (w), xj, .int (v)]) (st' := [.int (nI (8)), .int (nI (1)), .int (v)]) (M' := (I, J, Rx R, N, G)) rfl ?_
      refine XP_pure rfl rfl (w_H X _ _ 1 8 _) ?_
      refine XP_s rfl ?_
      refine XP_bne (fun b4 => absurd b4 g0) (fun b4 => ?_)
      refine XP_n 1 (pc' := 6) (ls' := [.ref (0), .long (w), xj, .int (v)]) (st' := [.int (cI (-2))]) (M' := (I, J, Rx R, N, G)) rfl ?_
      exact XP_ret rfl ⟨rfl, _, rfl, hI.1.C, hI.2.2.1, hI.2.2.2.1, FrM.rf⟩
    · unfold TP
      show XP X _ k_M_feed 0 [.ref (99), .long (w), xj, .int (v), xj] [] _ _
      refine XP_n 3 (pc' := 3) (ls' := [.ref (99), .long (w), xj, .int (v), xj]) (st' := [.int (nI (8)), .int (nI (1)), .int (v)]) (M' := (I, J, Rx R, N, G)) rfl ?_
      refine XP_pure rfl rfl (w_M X _ _ 1 8 _) ?_
      refine XP_s rfl ?_
      refine XP_bne (fun b4 => absurd b4 g0) (fun b4 => ?_)
      refine XP_n 1 (pc' := 6) (ls' := [.ref (99), .long (w), xj, .int (v), xj]) (st' := [.int (cI (-2))]) (M' := (I, J, Rx R, N, G)) rfl ?_
      exact XP_ret rfl ⟨rfl, _, rfl, hS, FrC.rf⟩
  obtain ⟨n, h1, h8, rfl, -⟩ := iv_nat g0 (by omega) (by omega)
  by_cases g1 : cTa s + n ≤ 160
  rotate_left
  · skip
    refine ⟨cI (-4), s, hW, Up.rf hch, fun X d I J R N G hI => ?_, fun X d I J R N G hS => ?_⟩
    · have hL := hI.2.2.1
      have q : I 9 1 = nI (cTa s) := (hI.1 9 1 99 27 rfl).trans hW.ta.1
      unfold TP
      show XP X _ k_H_feed 0 [.ref (0), .long (w), xj, .int (nI (n))] [] _ _
      refine XP_n 3 (pc' := 3) (ls' := [.ref (0), .long (w), xj, .int (nI (n))]) (st' := [.int (nI (8)), .int (nI (1)), .int (nI (n))]) (M' := (I, J, Rx R, N, G)) rfl ?_
      refine XP_pure rfl rfl (w_H X _ _ 1 8 _) ?_
      refine XP_s rfl ?_
      refine XP_bne (fun b4 => ?_) (fun b4 => absurd g0 b4)
      refine XP_n 4 (pc' := 11) (ls' := [.ref (0), .long (w), xj, .int (nI (n))]) (st' := [.int (nI (n)), .long (w), .ref (9)]) (M' := (I, J, Rx R, N, G)) rfl ?_
      refine XP_pure rfl rfl (c_addBF g1 h1 h8 hta q) ?_
      refine XP_ifN (x := 0)  rfl (by omega) (fun (b12 : 0 = 0) => ?_) (fun (b12 : ¬ 0 = 0) => absurd b12 (by omega))
      refine XP_n 1 (pc' := 18) (ls' := [.ref (0), .long (w), xj, .int (nI (n))]) (st' := [.int (cI (-4))]) (M' := (I, J, Rx R, N, G)) rfl ?_
      exact XP_ret rfl ⟨rfl, _, rfl, hI.1.C, hI.2.2.1, hI.2.2.2.1, FrM.rf⟩
    · have q : I 99 27 = nI (cTa s) := (hS 99 27 99 27 rfl).trans hW.ta.1
      unfold TP
      show XP X _ k_M_feed 0 [.ref (99), .long (w), xj, .int (nI (n)), xj] [] _ _
      refine XP_n 3 (pc' := 3) (ls' := [.ref (99), .long (w), xj, .int (nI (n)), xj]) (st' := [.int (nI (8)), .int (nI (1)), .int (nI (n))]) (M' := (I, J, Rx R, N, G)) rfl ?_
      refine XP_pure rfl rfl (w_M X _ _ 1 8 _) ?_
      refine XP_s rfl ?_
      refine XP_bne (fun b4 => ?_) (fun b4 => absurd g0 b4)
      refine XP_n 2 (pc' := 9) (ls' := [.ref (99), .long (w), xj, .int (nI (n)), xj]) (st' := [.int (I 99 27)]) (M' := (I, J, Rx R, N, G)) rfl ?_
      rw [q]
      refine XP_n 3 (pc' := 12) (ls' := [.ref (99), .long (w), xj, .int (nI (n)), xj]) (st' := [.int (nI (160)), .int ((nI (cTa s)) + (nI (n)))]) (M' := (I, J, Rx R, N, G)) rfl ?_
      rw [show (nI (cTa s)) + (nI (n)) = nI (cTa s + n) from nI_addE (rfl) (rfl)]
      refine XP_icN (x := cTa s + n) (y := 160) rfl (by omega) (by omega) (fun (b12 : cTa s + n ≤ 160) => absurd b12 (by omega)) (fun (b12 : 160 < cTa s + n) => ?_)
      refine XP_n 1 (pc' := 14) (ls' := [.ref (99), .long (w), xj, .int (nI (n)), xj]) (st' := [.int (cI (-4))]) (M' := (I, J, Rx R, N, G)) rfl ?_
      exact XP_ret rfl ⟨rfl, _, rfl, hS, FrC.rf⟩
  have hag : Agr s (rw2 (blk (blk s 116 (cTa s) n (fun j => fB w (n - 1 - j))) 10 (cTa s) n (fun j => fB w (n - 1 - j))) 99 27 (nI (cTa s + n))) := ⟨fun k h1 h2 => by rw [rw2_ro (by omega), blk_ro (by omega), blk_ro (by omega)], by rw [rw2_ro (by omega), blk_ro (by omega), blk_ro (by omega)], by rw [rw2_ro (by omega), blk_ro (by omega), blk_ro (by omega)], fun j hj => by rw [rw2_off (by omega), blk_ro (by omega), blk_ro (by omega)], rfl, by rw [rw2_ro (by omega), blk_ro (by omega), blk_ro (by omega)]⟩
  have hagl : AgrL s (rw2 (blk (blk s 116 (cTa s) n (fun j => fB w (n - 1 - j))) 10 (cTa s) n (fun j => fB w (n - 1 - j))) 99 27 (nI (cTa s + n))) := ⟨fun k hk => by rw [rw2_ro (by omega), blk_ro (by omega), blk_ro (by omega)], by rw [rw2_ro (by omega), blk_ro (by omega), blk_ro (by omega)], by rw [rw2_ro (by omega), blk_ro (by omega), blk_ro (by omega)], by rw [rw2_ro (by omega), blk_ro (by omega), blk_ro (by omega)], fun e => e, rfl, rfl, rfl⟩
  have hsw : (rw2 (blk (blk s 116 (cTa s) n (fun j => fB w (n - 1 - j))) 10 (cTa s) n (fun j => fB w (n - 1 - j))) 99 27 (nI (cTa s + n))) = blk (blk (rw2 s 99 27 (nI (cTa s + n))) 116 (cTa s) n (fun j => fB w (n - 1 - j))) 10 (cTa s) n (fun j => fB w (n - 1 - j)) := by
    rw [blk_rw2f (by omega), blk_rw2f (by omega)]
  refine ⟨nI (cTa s + n), (rw2 (blk (blk s 116 (cTa s) n (fun j => fB w (n - 1 - j))) 10 (cTa s) n (fun j => fB w (n - 1 - j))) 99 27 (nI (cTa s + n))), Wf_feed hW w g1, Up.rf hch, fun X d I J R N G hI => ?_, fun X d I J R N G hS => ?_⟩
  · have hL := hI.2.2.1
    have q : I 9 1 = nI (cTa s) := (hI.1 9 1 99 27 rfl).trans hW.ta.1
    unfold TP
    show XP X _ k_H_feed 0 [.ref (0), .long (w), xj, .int (nI (n))] [] _ _
    refine XP_n 3 (pc' := 3) (ls' := [.ref (0), .long (w), xj, .int (nI (n))]) (st' := [.int (nI (8)), .int (nI (1)), .int (nI (n))]) (M' := (I, J, Rx R, N, G)) rfl ?_
    refine XP_pure rfl rfl (w_H X _ _ 1 8 _) ?_
    refine XP_s rfl ?_
    refine XP_bne (fun b4 => ?_) (fun b4 => absurd g0 b4)
    refine XP_n 4 (pc' := 11) (ls' := [.ref (0), .long (w), xj, .int (nI (n))]) (st' := [.int (nI (n)), .long (w), .ref (9)]) (M' := (I, J, Rx R, N, G)) rfl ?_
    refine XP_call rfl rfl (c_addB g1 h1 h8 q) ?_
    rintro v1 M1 ⟨rfl, I1, rfl, e1, e2⟩
    have q2 : I1 9 1 = nI (cTa s + n) := by rw [e1 9 (by omega)]; exact rw2_on
    refine XP_ifN (x := 1)  rfl (by omega) (fun (b12 : 1 = 0) => absurd b12 (by omega)) (fun (b12 : ¬ 1 = 0) => ?_)
    refine XP_n 3 (pc' := 16) (ls' := [.ref (0), .long (w), xj, .int (nI (n))]) (st' := [.int (I1 9 1)]) (M' := (I1, J, Rx R, N, G)) rfl ?_
    rw [q2]
    refine XP_n 1 (pc' := 18) (ls' := [.ref (0), .long (w), xj, .int (nI (n))]) (st' := [.int (nI (cTa s + n))]) (M' := (I1, J, Rx R, N, G)) rfl ?_
    exact XP_ret rfl ⟨rfl, _, rfl, (by rw [hsw]; exact StC_row (StC_116 (StC_w hI.1.C rfl) (fun a ha => blk_ro ha)) (fun b => rfl) (fun j => rfl) e1 (fun a ha => blk_ro ha) (fun b => by
          rw [e2 b]
          unfold blk
          have e3 : ∀ b, I 10 b = s 10 b := fun b => hI.1 10 b 10 b rfl
          by_cases g : cTa s ≤ b ∧ b < cTa s + n
          · rw [if_pos ⟨rfl, g⟩, if_pos ⟨rfl, g⟩]
          · rw [if_neg (fun z => g z.2), if_neg (fun z => g z.2), e3]
            rfl)), agrl_Lk hagl hI.2.2.1, agr_Cch hag (hI.2.2.2.1.of (fun k h1 h2 => by rw [e1 k (by omega), rw2_ro (by omega)]) (fun _ _ _ => rfl) hW.p.2), fun k hk => by have := isC_f hk; rw [e1 k (by omega), rw2_ro (by omega)]⟩
  · have q : I 99 27 = nI (cTa s) := (hS 99 27 99 27 rfl).trans hW.ta.1
    unfold TP
    show XP X _ k_M_feed 0 [.ref (99), .long (w), xj, .int (nI (n)), xj] [] _ _
    refine XP_n 3 (pc' := 3) (ls' := [.ref (99), .long (w), xj, .int (nI (n)), xj]) (st' := [.int (nI (8)), .int (nI (1)), .int (nI (n))]) (M' := (I, J, Rx R, N, G)) rfl ?_
    refine XP_pure rfl rfl (w_M X _ _ 1 8 _) ?_
    refine XP_s rfl ?_
    refine XP_bne (fun b4 => ?_) (fun b4 => absurd g0 b4)
    refine XP_n 2 (pc' := 9) (ls' := [.ref (99), .long (w), xj, .int (nI (n)), xj]) (st' := [.int (I 99 27)]) (M' := (I, J, Rx R, N, G)) rfl ?_
    rw [q]
    refine XP_n 3 (pc' := 12) (ls' := [.ref (99), .long (w), xj, .int (nI (n)), xj]) (st' := [.int (nI (160)), .int ((nI (cTa s)) + (nI (n)))]) (M' := (I, J, Rx R, N, G)) rfl ?_
    rw [show (nI (cTa s)) + (nI (n)) = nI (cTa s + n) from nI_addE (rfl) (rfl)]
    refine XP_icN (x := cTa s + n) (y := 160) rfl (by omega) (by omega) (fun (b12 : cTa s + n ≤ 160) => ?_) (fun (b12 : 160 < cTa s + n) => absurd b12 (by omega))
    refine XP_n 4 (pc' := 19) (ls' := [.ref (99), .long (w), xj, .int (nI (n)), .int ((nI (n)) - (nI (1)))]) (st' := []) (M' := (I, J, Rx R, N, G)) rfl ?_
    refine XP_mono (l_fdM (w := w) g1 n 0 I (by omega) (fun a ha => by rw [Nat.add_zero, ← q, rw2_self]) (fun j => (blk_off (by omega)).symm)) ?_
    rintro v' M' ⟨rfl, I1, rfl, e1, e2⟩
    refine ⟨rfl, _, rfl, ?_, fun k hk => ?_⟩
    · rw [hsw]
      refine StM_s (s := blk (rw2 s 99 27 (nI (cTa s + n))) 116 (cTa s) n (fun j => fB w (n - 1 - j))) ?_ (fun a ha => blk_ro (by have := isC_f ha; omega))
      refine StM_row (StM_w hS rfl) e1 (fun a ha => blk_ro ha) (fun b => ?_)
      rw [e2 b]
      unfold blk
      by_cases g : cTa s ≤ b ∧ b < cTa s + n
      · rw [if_pos ⟨rfl, g⟩, if_pos ⟨rfl, g⟩]
      · rw [if_neg (fun z => g z.2), if_neg (fun z => g z.2)]
        exact hS 116 b 116 b rfl
    · have := isC_t hk
      rw [e1 k (by omega), rw2_ro (by omega)]
