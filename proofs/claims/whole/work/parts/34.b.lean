/-! what a rule raises, the model -/
theorem t_M_raises (X : hX) (d : Nat) {s I : Nat → Nat → Int32} {J : Nat → Nat → Int64} {R : Nat → Nat → Option Nat} {N : Nat → Nat} {G : hG} (hS : St s I) {ns kd mo r y : Nat} (hns : ns ≤ 6) (hn : s 99 10 = nI ns) (hr : r < 8) (k6 : kd < 6) (m31 : mo < 2147483648) (y16 : y < 16) (l h : Int32) :
    TP X (d + 2) n_M_raises [.ref 99, .int (nI kd), .int (nI mo), .int (s 109 r), .int (s 110 r), .int (nI y), .int l, .int h, .int (nI r)] (I, J, Rx R, N, G) (Ret (.int (sRaise s ns kd mo r l h y)) (I, J, Rx R, N, G)) := by
  have tl : ∀ v : Int32, kd ≠ 1 → kd ≠ 4 → (if kd = 2 then v else if h ≤ l + s 110 r then v else cI 0) = sRaise s ns kd mo r l h y → XP X (d + 2) k_M_raises 35 [.ref 99, .int (nI kd), .int (nI mo), .int (s 109 r), .int (s 110 r), .int (nI y), .int l, .int h, .int (nI r), .int v] [] (I, J, Rx R, N, G) (Ret (.int (sRaise s ns kd mo r l h y)) (I, J, Rx R, N, G)) := by
    intro v h1 h4 e
    rw [← e]
    refine XP_s rfl ?_
    refine XP_s rfl ?_
    rw [cI_2]
    refine XP_s rfl ?_
    refine XP_deq (x := kd) (y := 2) (by omega) (by omega) (fun h2 => ?_) (fun h2 => ?_)
    · rw [if_pos h2]
      refine XP_s rfl ?_
      refine XP_s rfl ?_
      exact XP_ret rfl ⟨rfl, rfl⟩
    · rw [if_neg h2]
      refine XP_s rfl ?_
      refine XP_s rfl ?_
      refine XP_s rfl ?_
      refine XP_s rfl ?_
      refine XP_s rfl ?_
      refine XP_dec (P := l + s 110 r < h) (fun hb => ?_) (fun hb => ?_)
      · rw [if_neg (Int32.not_le.mpr hb)]
        refine XP_s rfl ?_
        exact XP_ret rfl ⟨rfl, rfl⟩
      · rw [if_pos (Int32.not_lt.mp hb)]
        refine XP_s rfl ?_
        refine XP_s rfl ?_
        exact XP_ret rfl ⟨rfl, rfl⟩
  have hz : kd = 0 → (if kd = 2 then cI 0 else if h ≤ l + s 110 r then cI 0 else cI 0) = sRaise s ns kd mo r l h y := by
    rintro rfl
    unfold sRaise
    simp
  have hv : kd ≠ 0 → kd ≠ 1 → kd ≠ 4 → (if kd = 2 then sStep mo (s 109 r) y else if h ≤ l + s 110 r then sStep mo (s 109 r) y else cI 0) = sRaise s ns kd mo r l h y := by
    intro h0 h1 h4
    unfold sRaise
    rw [if_neg h1, if_neg h4]
    by_cases h2 : kd = 2
    · rw [if_pos h2, if_pos h2]
    · rw [if_neg h2, if_neg h2, if_pos (show kd = 3 ∨ kd = 5 by omega)]
  unfold TP
  refine XP_s rfl ?_
  refine XP_s rfl ?_
  rw [cI_1]
  refine XP_s rfl ?_
  refine XP_dne (x := kd) (y := 1) (by omega) (by omega) (fun h1 => ?_) (fun h1 => ?_)
  · refine XP_s rfl ?_
    refine XP_s rfl ?_
    rw [cI_4]
    refine XP_s rfl ?_
    refine XP_dne (x := kd) (y := 4) (by omega) (by omega) (fun h4 => ?_) (fun h4 => ?_)
    · refine XP_s rfl ?_
      refine XP_s rfl ?_
      refine XP_deq (x := kd) (y := 0) (by omega) (by omega) (fun h0 => ?_) (fun h0 => ?_)
      · refine XP_s rfl ?_
        refine XP_s rfl ?_
        refine XP_s rfl ?_
        exact tl _ h1 h4 (hz h0)
      · have hv' := hv h0 h1 h4
        refine XP_s rfl ?_
        refine XP_s rfl ?_
        refine XP_s rfl ?_
        refine XP_dne (x := mo) (y := 0) (by omega) (by omega) (fun hm => ?_) (fun hm => ?_)
        · refine XP_s rfl ?_
          refine XP_irem rfl (nI_nz (by omega) m31) ?_
          rw [pk_rem (by omega) (by omega) m31]
          have hlt := Nat.mod_lt y (show 0 < mo by omega)
          unfold sStep at hv'
          rw [if_neg hm] at hv'
          generalize y % mo = z at hlt hv' ⊢
          refine XP_s rfl ?_
          refine XP_deq (x := z) (y := 0) (by omega) (by omega) (fun hq => ?_) (fun hq => ?_)
          · rw [if_pos hq] at hv'
            refine XP_s rfl ?_
            refine XP_s rfl ?_
            exact tl _ h1 h4 hv'
          · rw [if_neg hq] at hv'
            refine XP_s rfl ?_
            refine XP_s rfl ?_
            refine XP_s rfl ?_
            exact tl _ h1 h4 hv'
        · unfold sStep at hv'
          rw [if_pos hm] at hv'
          refine XP_s rfl ?_
          refine XP_s rfl ?_
          rw [cI_1]
          refine XP_irem rfl (nI_nz (by omega) (by omega)) ?_
          rw [pk_rem (by omega) (by omega) (by omega), Nat.mod_one]
          refine XP_s rfl ?_
          refine XP_deq (x := 0) (y := 0) (by omega) (by omega) (fun _ => ?_) (fun z => absurd rfl z)
          refine XP_s rfl ?_
          refine XP_s rfl ?_
          exact tl _ h1 h4 hv'
    · refine XP_s rfl ?_
      refine XP_s rfl ?_
      refine XP_s rfl ?_
      refine XP_s rfl ?_
      refine XP_s rfl ?_
      refine XP_s rfl ?_
      refine XP_s rfl ?_
      refine XP_ialdE (16 * r + y) (by simp only [cI_m999, cI_m100, cI_m14, cI_m13, cI_m12, cI_m11, cI_m7, cI_m5, cI_m4, cI_m3, cI_m2, cI_m1, cI_0, cI_1, cI_2, cI_3, cI_4, cI_5, cI_6, cI_7, cI_8, cI_9, cI_10, cI_11, cI_12, cI_13, cI_14, cI_15, cI_16, cI_17, cI_18, cI_19, cI_20, cI_24, cI_30, cI_31, cI_32, cI_40, cI_41, cI_42, cI_43, cI_45, cI_48, cI_49, cI_50, cI_57, cI_59, cI_60, cI_61, cI_63, cI_97, cI_99, cI_100, cI_122, cI_128, cI_160, cI_200, cI_255, cI_784, cI_833, cI_999, cI_1000, cI_1001, cI_1002, cI_1003, cI_1004, cI_1005, cI_1006, cI_1007, cI_1008, cI_1009, cI_1010, cI_1011, cI_1200, cI_2000, cI_2001, cI_2002, cI_9999, cI_10000, cI_10006, cI_10010, cI_10011, cI_10012, cI_10013, cI_10014, cI_10015, cI_10016, cI_10017, cI_10018, cI_99999, cI_100000, cI_100009, cI_100020, cI_999999, nI_mul, nI_add]) hS rfl rfl rfl (show _ < 128 by omega) (Nat.le_of_ble_eq_true rfl) rfl ?_
      subst h4
      exact XP_ret rfl ⟨rfl, rfl⟩
  · refine XP_s rfl ?_
    refine XP_s rfl ?_
    refine XP_s rfl ?_
    refine XP_s rfl ?_
    refine XP_pure rfl rfl (t_M_need X d hS hns hn l h (nI mo)) ?_
    subst h1
    exact XP_ret rfl ⟨rfl, rfl⟩
