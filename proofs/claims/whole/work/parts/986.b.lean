/-! setters: rule, the state's side -/
theorem Wf_rule {s : Nat → Nat → Int32} {mo : Int32} {kn re : Nat} {f : Nat → Int32} (hW : Wf s) (h8 : cR s < 8) (hk : kn ≤ 5) (hm : iN 0 1000 mo) (h1 : re / 100 ≤ 9) (h2 : re % 100 ≤ 20) (hf : ∀ y, y < 16 → iN 0 20 (f y) ∧ (¬ kn = 4 → f y = nI 0)) : Wf (blk (rw2 (rw2 (rw2 (rw2 (rw2 s 107 ((cR s)) (nI kn)) 108 ((cR s)) (mo)) 109 ((cR s)) (nI (re / 100))) 110 ((cR s)) (nI (re % 100))) 99 13 (nI (cR s + 1))) 111 (16 * cR s) 16 f) := by
  have ec : cR (blk (rw2 (rw2 (rw2 (rw2 (rw2 s 107 ((cR s)) (nI kn)) 108 ((cR s)) (mo)) 109 ((cR s)) (nI (re / 100))) 110 ((cR s)) (nI (re % 100))) 99 13 (nI (cR s + 1))) 111 (16 * cR s) 16 f) = cR s + 1 := by
    show wN (nI (cR s + 1)) = _
    exact wN_nI (by omega)
  refine ⟨⟨hW.1.1, ⟨hW.1.2.1.1, hW.1.2.1.2.1, ⟨_, Nat.zero_le _, h8, rfl⟩, hW.1.2.1.2.2.2⟩, hW.1.2.2⟩, hW.2.1, hW.2.2.1, fun q hq => ?_, hW.2.2.2.2⟩
  rw [ec] at hq
  have e0 : ∀ y, (blk (rw2 (rw2 (rw2 (rw2 (rw2 s 107 ((cR s)) (nI kn)) 108 ((cR s)) (mo)) 109 ((cR s)) (nI (re / 100))) 110 ((cR s)) (nI (re % 100))) 99 13 (nI (cR s + 1))) 111 (16 * cR s) 16 f) 111 y = if 16 * cR s ≤ y ∧ y < 16 * cR s + 16 then f (y - 16 * cR s) else s 111 y := fun y => by
    unfold blk
    by_cases g : 16 * cR s ≤ y ∧ y < 16 * cR s + 16
    · rw [if_pos ⟨rfl, g⟩, if_pos g]
    · rw [if_neg (fun z => g z.2), if_neg g]
      rfl
  have ek : rKd (blk (rw2 (rw2 (rw2 (rw2 (rw2 s 107 ((cR s)) (nI kn)) 108 ((cR s)) (mo)) 109 ((cR s)) (nI (re / 100))) 110 ((cR s)) (nI (re % 100))) 99 13 (nI (cR s + 1))) 111 (16 * cR s) 16 f) q = wN (rw2 s 107 (cR s) (nI kn) 107 q) := rfl
  show iN 0 5 (rw2 s 107 (cR s) (nI kn) 107 q) ∧ iN 0 1000 (rw2 s 108 (cR s) mo 108 q) ∧ iN 0 9 (rw2 s 109 (cR s) (nI (re / 100)) 109 q) ∧ iN 0 20 (rw2 s 110 (cR s) (nI (re % 100)) 110 q) ∧ _
  rw [ek, rw2_c, rw2_c, rw2_c, rw2_c]
  by_cases e : q = cR s
  · rw [if_pos e, if_pos e, if_pos e, if_pos e]
    refine ⟨⟨_, Nat.zero_le _, hk, rfl⟩, hm, ⟨_, Nat.zero_le _, h1, rfl⟩, ⟨_, Nat.zero_le _, h2, rfl⟩, fun y hy => ?_⟩
    rw [e0, if_pos (by omega), show 16 * q + y - 16 * cR s = y by omega, wN_nI (by omega)]
    exact hf y hy
  · rw [if_neg e, if_neg e, if_neg e, if_neg e]
    have t := hW.2.2.2.1 q (by omega)
    refine ⟨t.1, t.2.1, t.2.2.1, t.2.2.2.1, fun y hy => ?_⟩
    rw [e0, if_neg (by omega)]
    exact t.2.2.2.2 y hy
theorem mpC_r {r : Nat} (h : r < 8) : (∀ j a b, mpC (1000 + 2 * r) j = some (a, b) → 107 ≤ a ∧ a ≤ 110 ∧ b = r ∧ j = a - 107) ∧ (∀ j a b, mpC (1001 + 2 * r) j = some (a, b) → a = 111 ∧ 16 * r ≤ b ∧ b < 16 * r + 16 ∧ j = b - 16 * r) := by
  refine ⟨fun j a b hk => ?_, fun j a b hk => ?_⟩
  · unfold mpC isC mp at hk
    rw [show Nat.ble 1000 (1000 + 2 * r) = true from Nat.ble_eq.mpr (by omega), Bool.or_true, cond_true, blt_f (by omega), blt_t (by omega), show (1000 + 2 * r) % 2 = 0 by omega, show (1000 + 2 * r - 1000) / 2 = r by omega] at hk
    match j, hk with
    | 0, hk => injection hk with hk; injection hk with q1 q2; subst q1 q2; exact ⟨by omega, by omega, rfl, rfl⟩
    | 1, hk => injection hk with hk; injection hk with q1 q2; subst q1 q2; exact ⟨by omega, by omega, rfl, rfl⟩
    | 2, hk => injection hk with hk; injection hk with q1 q2; subst q1 q2; exact ⟨by omega, by omega, rfl, rfl⟩
    | 3, hk => injection hk with hk; injection hk with q1 q2; subst q1 q2; exact ⟨by omega, by omega, rfl, rfl⟩
    | _ + 4, hk => cases hk
  · unfold mpC isC mp at hk
    rw [show Nat.ble 1000 (1001 + 2 * r) = true from Nat.ble_eq.mpr (by omega), Bool.or_true, cond_true, blt_f (by omega), blt_t (by omega), show (1001 + 2 * r) % 2 = 1 by omega, show (1001 + 2 * r - 1000) / 2 = r by omega] at hk
    rcases Nat.lt_or_ge j 16 with g | g
    · rw [blt_t g] at hk
      injection hk with hk
      injection hk with q1 q2
      exact ⟨q1.symm, by omega, by omega, by omega⟩
    · rw [blt_f (by omega)] at hk
      cases hk
theorem StC_rule {s s' I I' : Nat → Nat → Int32} {r : Nat} (h : StC s I) (hr : r < 8) (h1 : ∀ k, k ≠ 1000 + 2 * r → k ≠ 1001 + 2 * r → k ≠ 0 → I' k = I k) (h0 : ∀ j, I' 0 j = if j = 5 then nI (r + 1) else I 0 j) (hl : ∀ j, j < 4 → I' (1000 + 2 * r) j = s' (107 + j) r) (ht : ∀ j, j < 16 → I' (1001 + 2 * r) j = s' 111 (16 * r + j))
    (hs : ∀ a b, ¬ (a = 99 ∧ b = 13) → ¬ (107 ≤ a ∧ a ≤ 110 ∧ b = r) → ¬ (a = 111 ∧ 16 * r ≤ b ∧ b < 16 * r + 16) → s' a b = s a b) (h13 : s' 99 13 = nI (r + 1)) : StC s' I' := fun k j a b hk => by
  by_cases e1 : k = 1000 + 2 * r
  · subst e1
    obtain ⟨a1, a2, rfl, rfl⟩ := (mpC_r hr).1 j a b hk
    rw [hl _ (by omega), show 107 + (a - 107) = a by omega]
  · by_cases e2 : k = 1001 + 2 * r
    · subst e2
      obtain ⟨rfl, a1, a2, rfl⟩ := (mpC_r hr).2 j a b hk
      rw [ht _ (by omega), show 16 * r + (b - 16 * r) = b by omega]
    · have ei := ic_ok hk
      have n2 : ¬ (107 ≤ a ∧ a ≤ 110 ∧ b = r) := fun z => by
        obtain ⟨z1, z2, rfl⟩ := z
        have : ic a b = (1000 + 2 * b, a - 107) := by
          have ha : a = 107 ∨ a = 108 ∨ a = 109 ∨ a = 110 := by omega
          rcases ha with rfl | rfl | rfl | rfl <;> rfl
        rw [this] at ei
        injection ei with q1 q2
        exact e1 q1.symm
      have n3 : ¬ (a = 111 ∧ 16 * r ≤ b ∧ b < 16 * r + 16) := fun z => by
        obtain ⟨rfl, z1, z2⟩ := z
        have : ic 111 b = (1001 + 2 * (b / 16), b % 16) := rfl
        rw [this] at ei
        injection ei with q1 q2
        exact e2 (by omega)
      by_cases e3 : k = 0
      · subst e3
        rw [h0]
        by_cases e4 : j = 5
        · subst e4
          rw [if_pos rfl]
          have hk2 : mpC 0 5 = some (99, 13) := rfl
          rw [hk2] at hk
          injection hk with hk
          injection hk with q1 q2
          subst q1 q2
          exact h13.symm
        · rw [if_neg e4]
          have n1 : ¬ (a = 99 ∧ b = 13) := fun z => by
            obtain ⟨rfl, rfl⟩ := z
            have : ic 99 13 = (0, 5) := by decide +kernel
            rw [this] at ei
            injection ei with q1 q2
            exact e4 q2.symm
          rw [hs a b n1 n2 n3]
          exact h _ _ _ _ hk
      · have n1 : ¬ (a = 99 ∧ b = 13) := fun z => by
          obtain ⟨rfl, rfl⟩ := z
          have : ic 99 13 = (0, 5) := by decide +kernel
          rw [this] at ei
          injection ei with q1 q2
          exact e3 q1.symm
        rw [h1 k e1 e2 e3, hs a b n1 n2 n3]
        exact h _ _ _ _ hk
def R1 (R : Nat → Nat → Option Nat) (r : Nat) : Nat → Nat → Option Nat := rw2 (rw2 (rwR (rwR R (1000 + 2 * r) (fun _ => none)) (1001 + 2 * r) (fun _ => none)) (1000 + 2 * r) 4 (some (1001 + 2 * r))) 13 r (some (1000 + 2 * r))
theorem rS_13 : ∀ j, j < 8 → rS 13 j = none := by decide +kernel
theorem R1_x {R : Nat → Nat → Option Nat} {r : Nat} (hr : r < 8) : Rx (R1 R r) = rw2 (rw2 (rwR (rwR (Rx R) (1000 + 2 * r) (fun _ => none)) (1001 + 2 * r) (fun _ => none)) (1000 + 2 * r) 4 (some (1001 + 2 * r))) 13 r (some (1000 + 2 * r)) := by
  unfold R1
  rw [Rx_rwR (fun j => rS_big (by omega) j), Rx_rwR (fun j => rS_big (by omega) j), Rx_w (rS_big (by omega) _), Rx_w (rS_13 r hr)]
theorem Lk_rule {s s' : Nat → Nat → Int32} {R : Nat → Nat → Option Nat} {N : Nat → Nat} (hL : Lk s R N) (hr : cR s < 8) (h1 : ∀ k, k = 95 ∨ k = 96 ∨ 3000 ≤ k → s' k = s k) (h2 : s' 117 = s 117) (h3 : s' 118 = s 118) (h4 : s' 14 = s 14) (h5 : s' 1 3 = s' 99 3) (h7 : cR s' = cR s + 1) (h8 : s' 99 30 = s 99 30) (h9 : s' 99 31 = s 99 31) : Lk s' (R1 R (cR s)) N := by
  have e1 : cLw s' = cLw s := by unfold cLw; rw [h9]
  have e2 : cTx s' = cTx s := by unfold cTx; rw [h8]
  have e4 : tK1 s' = tK1 s := by funext t; unfold tK1; rw [h3]
  have e5 : tK2 s' = tK2 s := by funext t; unfold tK2; rw [h3]
  have e6 : tLn s' = tLn s := by funext t; unfold tLn; rw [h3]
  have e7 : tQ s' = tQ s := by funext t j; unfold tQ; rw [h2]
  have hR : ∀ k, k ≠ 13 → k ≠ 1000 + 2 * cR s → k ≠ 1001 + 2 * cR s → Rx (R1 R (cR s)) k = Rx R k := fun k q1 q2 q3 => by
    rw [R1_x hr, rw2_ro q1, rw2_ro q2, rwR_n2 q3, rwR_n2 q2]
  have e8 : ∀ t' k1 k2 L q, TxC s R N t' k1 k2 L q → TxC s' (R1 R (cR s)) N t' k1 k2 L q := fun t' k1 k2 L q hT => by
    have o := oT_rg t'
    unfold TxC TxL at hT ⊢
    rw [h1 (oT t') (by omega), h1 (oT t' + 1) (by omega), hR (oT t') (by omega) (by omega) (by omega)]
    exact hT
  unfold Lk at hL ⊢
  rw [e1, e2, e4, e5, e6, e7, h4, h7]
  obtain ⟨a, b, c, f, g, i, j⟩ := hL
  refine ⟨?_, fun t' ht => ⟨?_, e8 _ _ _ _ _ (b t' ht).2⟩, fun t' h1 h2 => ?_, fun q hq => ?_, fun q h1 h2 => ?_, i, h5⟩
  · rw [hR 1 (by omega) (by omega) (by omega)]; exact a
  · rw [hR 12 (by omega) (by omega) (by omega)]; exact (b t' ht).1
  · rw [hR 12 (by omega) (by omega) (by omega)]; exact c t' h1 h2
  · by_cases e : q = cR s
    · subst e
      rw [R1_x hr]
      refine ⟨rw2_on', ?_⟩
      rw [rw2_ro (by omega)]
      exact rw2_on'
    · refine ⟨?_, ?_⟩
      · rw [R1_x hr, rw2_c, if_neg e, rw2_ro (by omega), rwR_n2 (by omega), rwR_n2 (by omega)]
        exact (f q (by omega)).1
      · rw [hR _ (by omega) (by omega) (by omega)]
        exact (f q (by omega)).2
  · rw [R1_x hr, rw2_c, if_neg (by omega), rw2_ro (by omega), rwR_n2 (by omega), rwR_n2 (by omega)]
    exact g q (by omega) h2
