/-! how much the law needs, both sides -/
def sNeed (s : Nat → Nat → Int32) (ns : Nat) (l h most : Int32) : Nat → Nat → Nat
  | 0, u => u
  | n + 1, u => if sFl s l (h + nI u) ns ≤ most then u else sNeed s ns l h most n (u + 1)
theorem l_M_need (X : hX) (d : Nat) {s I : Nat → Nat → Int32} {J : Nat → Nat → Int64} {R : Nat → Nat → Option Nat} {N : Nat → Nat} {G : hG} (hS : St s I) {ns : Nat} (hns : ns ≤ 6) (hn : s 99 10 = nI ns) (l h most : Int32) : ∀ (n u : Nat), u + n = 20 → XP X (d + 1) k_M_need 2 [.ref 99, .int l, .int h, .int most, .int (nI u)] [] (I, J, Rx R, N, G) (Ret (.int (nI (sNeed s ns l h most n u))) (I, J, Rx R, N, G)) := by
  intro n
  induction n with
  | zero =>
    intro u hu
    obtain rfl : u = 20 := by omega
    refine XP_s rfl ?_
    refine XP_s rfl ?_
    rw [cI_20]
    refine XP_s rfl ?_
    refine XP_dle (x := 20) (y := 20) (by omega) (by omega) (fun _ => ?_) (fun z => absurd z (by omega))
    refine XP_s rfl ?_
    exact XP_ret rfl ⟨rfl, rfl⟩
  | succ n ih =>
    intro u hu
    refine XP_s rfl ?_
    refine XP_s rfl ?_
    rw [cI_20]
    refine XP_s rfl ?_
    refine XP_dle (x := 20) (by omega) (by omega) (fun z => absurd z (by omega)) (fun _ => ?_)
    refine XP_s rfl ?_
    refine XP_s rfl ?_
    refine XP_s rfl ?_
    refine XP_s rfl ?_
    refine XP_s rfl ?_
    refine XP_pure rfl rfl (t_M_floods X d hS hns hn) ?_
    unfold sNeed
    refine XP_s rfl ?_
    refine XP_s rfl ?_
    refine XP_dec (P := sFl s l (h + nI u) ns ≤ most) (fun hb => ?_) (fun hb => ?_)
    · rw [if_pos hb]
      refine XP_s rfl ?_
      exact XP_ret rfl ⟨rfl, rfl⟩
    · rw [if_neg hb]
      have ih' := ih (u + 1) (by omega)
      rw [← nI_1] at ih'
      refine XP_s rfl ?_
      refine XP_s rfl ?_
      exact ih'
theorem t_M_need (X : hX) (d : Nat) {s I : Nat → Nat → Int32} {J : Nat → Nat → Int64} {R : Nat → Nat → Option Nat} {N : Nat → Nat} {G : hG} (hS : St s I) {ns : Nat} (hns : ns ≤ 6) (hn : s 99 10 = nI ns) (l h most : Int32) : TP X (d + 1) n_M_need [.ref 99, .int l, .int h, .int most] (I, J, Rx R, N, G) (Ret (.int (nI (sNeed s ns l h most 20 0))) (I, J, Rx R, N, G)) := by
  unfold TP
  refine XP_s rfl ?_
  refine XP_s rfl ?_
  exact l_M_need X d hS hns hn l h most 20 0 rfl
theorem l_C_need (X : hX) (d : Nat) {s I : Nat → Nat → Int32} {J : Nat → Nat → Int64} {R : Nat → Nat → Option Nat} {N : Nat → Nat} {G : hG} (hS : St s I) {ns : Nat} (hns : ns ≤ 6) (hn : s 99 10 = nI ns) (l h most : Int32) : ∀ (n u : Nat), u + n = 20 → XP X (d + 1) k_Coast_needAt 2 [.ref 1, .int h, .int l, .int most, .int (nI u)] [] (I, J, Rx R, N, G) (Ret (.int (nI (sNeed s ns l h most n u))) (I, J, Rx R, N, G)) := by
  intro n
  induction n with
  | zero =>
    intro u hu
    obtain rfl : u = 20 := by omega
    refine XP_s rfl ?_
    refine XP_s rfl ?_
    rw [cI_20]
    refine XP_s rfl ?_
    refine XP_dle (x := 20) (y := 20) (by omega) (by omega) (fun _ => ?_) (fun z => absurd z (by omega))
    refine XP_s rfl ?_
    exact XP_ret rfl ⟨rfl, rfl⟩
  | succ n ih =>
    intro u hu
    refine XP_s rfl ?_
    refine XP_s rfl ?_
    rw [cI_20]
    refine XP_s rfl ?_
    refine XP_dle (x := 20) (by omega) (by omega) (fun z => absurd z (by omega)) (fun _ => ?_)
    refine XP_s rfl ?_
    refine XP_s rfl ?_
    refine XP_s rfl ?_
    refine XP_s rfl ?_
    refine XP_s rfl ?_
    refine XP_pure rfl rfl (t_Coast_floodsOver X d hS hns hn) ?_
    unfold sNeed
    refine XP_s rfl ?_
    refine XP_s rfl ?_
    refine XP_dec (P := most < sFl s l (h + nI u) ns) (fun hb => ?_) (fun hb => ?_)
    · rw [if_neg (Int32.not_le.mpr hb)]
      have ih' := ih (u + 1) (by omega)
      rw [← nI_1] at ih'
      refine XP_s rfl ?_
      refine XP_s rfl ?_
      exact ih'
    · rw [if_pos (Int32.not_lt.mp hb)]
      refine XP_s rfl ?_
      exact XP_ret rfl ⟨rfl, rfl⟩
theorem t_C_needAt (X : hX) (d : Nat) {s I : Nat → Nat → Int32} {J : Nat → Nat → Int64} {R : Nat → Nat → Option Nat} {N : Nat → Nat} {G : hG} (hS : St s I) {ns : Nat} (hns : ns ≤ 6) (hn : s 99 10 = nI ns) (l h most : Int32) : TP X (d + 1) n_Coast_needAt [.ref 1, .int h, .int l, .int most] (I, J, Rx R, N, G) (Ret (.int (nI (sNeed s ns l h most 20 0))) (I, J, Rx R, N, G)) := by
  unfold TP
  refine XP_s rfl ?_
  refine XP_s rfl ?_
  exact l_C_need X d hS hns hn l h most 20 0 rfl
