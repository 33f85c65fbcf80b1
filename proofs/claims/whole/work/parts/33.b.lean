/-! what a rule raises, both sides -/
def sStep (mo : Nat) (st : Int32) (y : Nat) : Int32 := if mo = 0 then st else if y % mo = 0 then st else cI 0
def sRaise (s : Nat → Nat → Int32) (ns kd mo r : Nat) (l h : Int32) (y : Nat) : Int32 :=
  if kd = 1 then nI (sNeed s ns l h (nI mo) 20 0) else if kd = 4 then s 111 (16 * r + y) else if kd = 2 then sStep mo (s 109 r) y
  else if kd = 3 ∨ kd = 5 then (if h ≤ l + s 110 r then sStep mo (s 109 r) y else cI 0) else cI 0
theorem nI_nz {m : Nat} (h : 0 < m) (h31 : m < 2147483648) : ¬ nI m = 0 := fun z => by
  have := (nI_eq (a := m) (b := 0) (by omega) (by omega)).mp z
  omega
theorem t_stepIn (X : hX) (d : Nat) {s I : Nat → Nat → Int32} {J : Nat → Nat → Int64} {R : Nat → Nat → Option Nat} {N : Nat → Nat} {G : hG} (hS : St s I) {r mo y : Nat} (hr : r < 999) (hm : s 108 r = nI mo) (m31 : mo < 2147483648) (y31 : y < 2147483648) : TP X d n_Rule_stepIn [.ref (1000 + 2 * r), .int (nI y)] (I, J, Rx R, N, G) (Ret (.int (sStep mo (s 109 r) y)) (I, J, Rx R, N, G)) := by
  have h7 : (isO (1000 + 2 * r) 7 && true) = true := by rw [rul_o (by omega)]; rfl
  have m1 : I (1000 + 2 * r) 1 = nI mo := (hS _ _ _ _ (rul_m (by omega)).2.1).trans hm
  have m2 : I (1000 + 2 * r) 2 = s 109 r := hS _ _ _ _ (rul_m (by omega)).2.2.1
  unfold TP sStep
  refine XP_s rfl ?_
  refine XP_getw rfl h7 ?_
  show XP X d _ _ _ (.int (I (1000 + 2 * r) 1) :: _) _ _
  rw [m1]
  refine XP_s rfl ?_
  refine XP_dle (x := mo) (y := 0) (by omega) (by omega) (fun h0 => ?_) (fun h0 => ?_)
  · rw [if_pos (by omega)]
    refine XP_s rfl ?_
    refine XP_getw rfl h7 ?_
    show XP X d _ _ _ (.int (I (1000 + 2 * r) 2) :: _) _ _
    rw [m2]
    refine XP_s rfl ?_
    exact XP_ret rfl ⟨rfl, rfl⟩
  · rw [if_neg (by omega)]
    refine XP_s rfl ?_
    refine XP_s rfl ?_
    refine XP_getw rfl h7 ?_
    show XP X d _ _ _ (.int (I (1000 + 2 * r) 1) :: _) _ _
    rw [m1]
    refine XP_irem rfl (nI_nz h0 m31) ?_
    rw [pk_rem y31 h0 m31]
    have hlt := Nat.mod_lt y h0
    generalize y % mo = z at hlt ⊢
    refine XP_s rfl ?_
    refine XP_dne (x := z) (y := 0) (by omega) (by omega) (fun h1 => ?_) (fun h1 => ?_)
    · rw [if_neg h1]
      refine XP_s rfl ?_
      exact XP_ret rfl ⟨rfl, rfl⟩
    · rw [if_pos h1]
      refine XP_s rfl ?_
      refine XP_getw rfl h7 ?_
      show XP X d _ _ _ (.int (I (1000 + 2 * r) 2) :: _) _ _
      rw [m2]
      refine XP_s rfl ?_
      exact XP_ret rfl ⟨rfl, rfl⟩
theorem t_toldFor (X : hX) (d : Nat) {s I : Nat → Nat → Int32} {J : Nat → Nat → Int64} {R : Nat → Nat → Option Nat} {N : Nat → Nat} {G : hG} (hS : St s I) {r y : Nat} (hr : r < 999) (hR : Rx R (1000 + 2 * r) 4 = some (1001 + 2 * r)) (y16 : y < 16) : TP X d n_Rule_toldFor [.ref (1000 + 2 * r), .int (nI y)] (I, J, Rx R, N, G) (Ret (.int (s 111 (16 * r + y))) (I, J, Rx R, N, G)) := by
  have h7 : (isO (1000 + 2 * r) 7 && true) = true := by rw [rul_o (by omega)]; rfl
  unfold TP
  refine XP_s rfl ?_
  refine XP_s rfl ?_
  refine XP_neg (by omega) ?_
  refine XP_s rfl ?_
  refine XP_s rfl ?_
  refine XP_getr rfl h7 hR ?_
  refine XP_len rfl (rul_a (by omega)) (rul_l N hr) ?_
  refine XP_s rfl ?_
  refine XP_dle (by omega) (by omega) (fun z => absurd z (by omega)) (fun _ => ?_)
  refine XP_s rfl ?_
  refine XP_getr rfl h7 hR ?_
  refine XP_s rfl ?_
  refine XP_irawE y rfl rfl (rul_a (by omega)) (rul_l N hr) y16 (by omega) ?_
  rw [hS _ _ _ _ (rul_t hr y16)]
  refine XP_s rfl ?_
  exact XP_ret rfl ⟨rfl, rfl⟩
theorem t_raiseOf (X : hX) (d : Nat) {s I : Nat → Nat → Int32} {J : Nat → Nat → Int64} {R : Nat → Nat → Option Nat} {N : Nat → Nat} {G : hG} (hS : St s I) {ns kd mo r y : Nat} (hns : ns ≤ 6) (hn : s 99 10 = nI ns) (hr : r < 999) (hk : s 107 r = nI kd) (k6 : kd < 6) (hm : s 108 r = nI mo) (m31 : mo < 2147483648) (hR : Rx R (1000 + 2 * r) 4 = some (1001 + 2 * r)) (y16 : y < 16) (l h : Int32) :
    TP X (d + 2) n_Rule_raiseOf [.ref (1000 + 2 * r), .ref 1, .int l, .int h, .int (nI y)] (I, J, Rx R, N, G) (Ret (.int (sRaise s ns kd mo r l h y)) (I, J, Rx R, N, G)) := by
  have h7 : (isO (1000 + 2 * r) 7 && true) = true := by rw [rul_o (by omega)]; rfl
  have h8 : isO (1000 + 2 * r) 7 = true := rul_o (by omega)
  have m0 : I (1000 + 2 * r) 0 = nI kd := (hS _ _ _ _ (rul_m (by omega)).1).trans hk
  have m1 : I (1000 + 2 * r) 1 = nI mo := (hS _ _ _ _ (rul_m (by omega)).2.1).trans hm
  have m3 : I (1000 + 2 * r) 3 = s 110 r := hS _ _ _ _ (rul_m (by omega)).2.2.2
  have near : ∀ kd', kd' = 3 ∨ kd' = 5 → XP X (d + 2) k_Rule_raiseOf 14 [.ref (1000 + 2 * r), .ref 1, .int l, .int h, .int (nI y)] [] (I, J, Rx R, N, G) (Ret (.int (sRaise s ns kd' mo r l h y)) (I, J, Rx R, N, G)) := by
    intro kd' hkd
    unfold sRaise
    rw [if_neg (by omega), if_neg (by omega), if_neg (by omega), if_pos hkd]
    refine XP_s rfl ?_
    refine XP_s rfl ?_
    refine XP_getw rfl h7 ?_
    show XP X (d + 2) _ _ _ (.int (I (1000 + 2 * r) 3) :: _) _ _
    rw [m3]
    refine XP_s rfl ?_
    refine XP_s rfl ?_
    refine XP_s rfl ?_
    refine XP_dec (P := l + s 110 r < h) (fun hb => ?_) (fun hb => ?_)
    · rw [if_neg (Int32.not_le.mpr hb)]
      refine XP_s rfl ?_
      exact XP_ret rfl ⟨rfl, rfl⟩
    · rw [if_pos (Int32.not_lt.mp hb)]
      refine XP_s rfl ?_
      refine XP_s rfl ?_
      refine XP_pure rfl (by show (isO (1000 + 2 * r) 7 || false) = true; rw [h8]; rfl) (t_stepIn X (d + 1) hS hr hm m31 (by omega)) ?_
      refine XP_s rfl ?_
      exact XP_ret rfl ⟨rfl, rfl⟩
  unfold TP
  refine XP_s rfl ?_
  refine XP_getw rfl h7 ?_
  show XP X (d + 2) _ _ _ (.int (I (1000 + 2 * r) 0) :: _) _ _
  rw [m0]
  have hc : kd = 0 ∨ kd = 1 ∨ kd = 2 ∨ kd = 3 ∨ kd = 4 ∨ kd = 5 := by omega
  clear m0 hk k6
  rcases hc with rfl | rfl | rfl | rfl | rfl | rfl
  · refine XP_tabD 0 1 5 30 rfl (by omega) rfl rfl (by omega) rfl ?_
    refine XP_s rfl ?_
    exact XP_ret rfl ⟨rfl, rfl⟩
  · refine XP_tab 1 1 5 3 rfl (by omega) rfl rfl (by omega) (by omega) rfl ?_
    refine XP_s rfl ?_
    refine XP_s rfl ?_
    refine XP_s rfl ?_
    refine XP_s rfl ?_
    refine XP_getw rfl h7 ?_
    show XP X (d + 2) _ _ _ (.int (I (1000 + 2 * r) 1) :: _) _ _
    rw [m1]
    refine XP_pure rfl rfl (t_C_needAt X d hS hns hn l h (nI mo)) ?_
    exact XP_ret rfl ⟨rfl, rfl⟩
  · refine XP_tab 2 1 5 10 rfl (by omega) rfl rfl (by omega) (by omega) rfl ?_
    refine XP_s rfl ?_
    refine XP_s rfl ?_
    refine XP_pure rfl (by show (isO (1000 + 2 * r) 7 || false) = true; rw [h8]; rfl) (t_stepIn X (d + 1) hS hr hm m31 (by omega)) ?_
    exact XP_ret rfl ⟨rfl, rfl⟩
  · exact XP_tab 3 1 5 14 rfl (by omega) rfl rfl (by omega) (by omega) rfl (near 3 (Or.inl rfl))
  · refine XP_tab 4 1 5 26 rfl (by omega) rfl rfl (by omega) (by omega) rfl ?_
    refine XP_s rfl ?_
    refine XP_s rfl ?_
    refine XP_pure rfl (by show (isO (1000 + 2 * r) 7 || false) = true; rw [h8]; rfl) (t_toldFor X (d + 1) hS hr hR y16) ?_
    exact XP_ret rfl ⟨rfl, rfl⟩
  · exact XP_tab 5 1 5 14 rfl (by omega) rfl rfl (by omega) (by omega) rfl (near 5 (Or.inr rfl))
