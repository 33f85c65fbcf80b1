/-! the class's first text: loaded, read -/
def fbL : List Nat := [104, 97, 114, 109, 32, 111, 118, 101, 114, 32, 42, 32, 98, 101, 104, 105, 110, 100, 32, 59, 32, 99, 111, 115, 116, 32, 50, 48, 32, 43, 32, 117, 112, 32, 42, 32, 119, 97, 108, 108, 32, 59, 32, 103, 114, 111, 119, 32, 121, 101, 97, 114, 32, 60, 32, 57, 32, 59]
def fb (i : Nat) : Nat := fbL.getD i 0
theorem fb_le : ∀ i, i < 58 → fb i ≤ 255 := by decide +kernel
section
variable {X : hX} {d : Nat} {M : hM}
theorem tl_0 : TP X (d + 6) n_String_length_8abf5 [.ref 9000] M (Ret (.int (nI 58)) M) := ⟨40, _, _, rfl, rfl, rfl⟩
theorem tc_0_0 : TP X (d + 6) n_String_charAt_5068e [.ref 9000, .int (nI 0)] M (Ret (.int (nI 104)) M) := ⟨80, _, _, rfl, rfl, rfl⟩
theorem tc_0_1 : TP X (d + 6) n_String_charAt_5068e [.ref 9000, .int (nI 1)] M (Ret (.int (nI 97)) M) := ⟨80, _, _, rfl, rfl, rfl⟩
theorem tc_0_2 : TP X (d + 6) n_String_charAt_5068e [.ref 9000, .int (nI 2)] M (Ret (.int (nI 114)) M) := ⟨80, _, _, rfl, rfl, rfl⟩
theorem tc_0_3 : TP X (d + 6) n_String_charAt_5068e [.ref 9000, .int (nI 3)] M (Ret (.int (nI 109)) M) := ⟨80, _, _, rfl, rfl, rfl⟩
theorem tc_0_4 : TP X (d + 6) n_String_charAt_5068e [.ref 9000, .int (nI 4)] M (Ret (.int (nI 32)) M) := ⟨80, _, _, rfl, rfl, rfl⟩
theorem tc_0_5 : TP X (d + 6) n_String_charAt_5068e [.ref 9000, .int (nI 5)] M (Ret (.int (nI 111)) M) := ⟨80, _, _, rfl, rfl, rfl⟩
theorem tc_0_6 : TP X (d + 6) n_String_charAt_5068e [.ref 9000, .int (nI 6)] M (Ret (.int (nI 118)) M) := ⟨80, _, _, rfl, rfl, rfl⟩
theorem tc_0_7 : TP X (d + 6) n_String_charAt_5068e [.ref 9000, .int (nI 7)] M (Ret (.int (nI 101)) M) := ⟨80, _, _, rfl, rfl, rfl⟩
theorem tc_0_8 : TP X (d + 6) n_String_charAt_5068e [.ref 9000, .int (nI 8)] M (Ret (.int (nI 114)) M) := ⟨80, _, _, rfl, rfl, rfl⟩
theorem tc_0_9 : TP X (d + 6) n_String_charAt_5068e [.ref 9000, .int (nI 9)] M (Ret (.int (nI 32)) M) := ⟨80, _, _, rfl, rfl, rfl⟩
theorem tc_0_10 : TP X (d + 6) n_String_charAt_5068e [.ref 9000, .int (nI 10)] M (Ret (.int (nI 42)) M) := ⟨80, _, _, rfl, rfl, rfl⟩
theorem tc_0_11 : TP X (d + 6) n_String_charAt_5068e [.ref 9000, .int (nI 11)] M (Ret (.int (nI 32)) M) := ⟨80, _, _, rfl, rfl, rfl⟩
theorem tc_0_12 : TP X (d + 6) n_String_charAt_5068e [.ref 9000, .int (nI 12)] M (Ret (.int (nI 98)) M) := ⟨80, _, _, rfl, rfl, rfl⟩
theorem tc_0_13 : TP X (d + 6) n_String_charAt_5068e [.ref 9000, .int (nI 13)] M (Ret (.int (nI 101)) M) := ⟨80, _, _, rfl, rfl, rfl⟩
theorem tc_0_14 : TP X (d + 6) n_String_charAt_5068e [.ref 9000, .int (nI 14)] M (Ret (.int (nI 104)) M) := ⟨80, _, _, rfl, rfl, rfl⟩
theorem tc_0_15 : TP X (d + 6) n_String_charAt_5068e [.ref 9000, .int (nI 15)] M (Ret (.int (nI 105)) M) := ⟨80, _, _, rfl, rfl, rfl⟩
theorem tc_0_16 : TP X (d + 6) n_String_charAt_5068e [.ref 9000, .int (nI 16)] M (Ret (.int (nI 110)) M) := ⟨80, _, _, rfl, rfl, rfl⟩
theorem tc_0_17 : TP X (d + 6) n_String_charAt_5068e [.ref 9000, .int (nI 17)] M (Ret (.int (nI 100)) M) := ⟨80, _, _, rfl, rfl, rfl⟩
theorem tc_0_18 : TP X (d + 6) n_String_charAt_5068e [.ref 9000, .int (nI 18)] M (Ret (.int (nI 32)) M) := ⟨80, _, _, rfl, rfl, rfl⟩
theorem tc_0_19 : TP X (d + 6) n_String_charAt_5068e [.ref 9000, .int (nI 19)] M (Ret (.int (nI 59)) M) := ⟨80, _, _, rfl, rfl, rfl⟩
theorem tc_0_20 : TP X (d + 6) n_String_charAt_5068e [.ref 9000, .int (nI 20)] M (Ret (.int (nI 32)) M) := ⟨80, _, _, rfl, rfl, rfl⟩
theorem tc_0_21 : TP X (d + 6) n_String_charAt_5068e [.ref 9000, .int (nI 21)] M (Ret (.int (nI 99)) M) := ⟨80, _, _, rfl, rfl, rfl⟩
theorem tc_0_22 : TP X (d + 6) n_String_charAt_5068e [.ref 9000, .int (nI 22)] M (Ret (.int (nI 111)) M) := ⟨80, _, _, rfl, rfl, rfl⟩
theorem tc_0_23 : TP X (d + 6) n_String_charAt_5068e [.ref 9000, .int (nI 23)] M (Ret (.int (nI 115)) M) := ⟨80, _, _, rfl, rfl, rfl⟩
theorem tc_0_24 : TP X (d + 6) n_String_charAt_5068e [.ref 9000, .int (nI 24)] M (Ret (.int (nI 116)) M) := ⟨80, _, _, rfl, rfl, rfl⟩
theorem tc_0_25 : TP X (d + 6) n_String_charAt_5068e [.ref 9000, .int (nI 25)] M (Ret (.int (nI 32)) M) := ⟨80, _, _, rfl, rfl, rfl⟩
theorem tc_0_26 : TP X (d + 6) n_String_charAt_5068e [.ref 9000, .int (nI 26)] M (Ret (.int (nI 50)) M) := ⟨80, _, _, rfl, rfl, rfl⟩
theorem tc_0_27 : TP X (d + 6) n_String_charAt_5068e [.ref 9000, .int (nI 27)] M (Ret (.int (nI 48)) M) := ⟨80, _, _, rfl, rfl, rfl⟩
theorem tc_0_28 : TP X (d + 6) n_String_charAt_5068e [.ref 9000, .int (nI 28)] M (Ret (.int (nI 32)) M) := ⟨80, _, _, rfl, rfl, rfl⟩
theorem tc_0_29 : TP X (d + 6) n_String_charAt_5068e [.ref 9000, .int (nI 29)] M (Ret (.int (nI 43)) M) := ⟨80, _, _, rfl, rfl, rfl⟩
theorem tc_0_30 : TP X (d + 6) n_String_charAt_5068e [.ref 9000, .int (nI 30)] M (Ret (.int (nI 32)) M) := ⟨80, _, _, rfl, rfl, rfl⟩
theorem tc_0_31 : TP X (d + 6) n_String_charAt_5068e [.ref 9000, .int (nI 31)] M (Ret (.int (nI 117)) M) := ⟨80, _, _, rfl, rfl, rfl⟩
theorem tc_0_32 : TP X (d + 6) n_String_charAt_5068e [.ref 9000, .int (nI 32)] M (Ret (.int (nI 112)) M) := ⟨80, _, _, rfl, rfl, rfl⟩
theorem tc_0_33 : TP X (d + 6) n_String_charAt_5068e [.ref 9000, .int (nI 33)] M (Ret (.int (nI 32)) M) := ⟨80, _, _, rfl, rfl, rfl⟩
theorem tc_0_34 : TP X (d + 6) n_String_charAt_5068e [.ref 9000, .int (nI 34)] M (Ret (.int (nI 42)) M) := ⟨80, _, _, rfl, rfl, rfl⟩
theorem tc_0_35 : TP X (d + 6) n_String_charAt_5068e [.ref 9000, .int (nI 35)] M (Ret (.int (nI 32)) M) := ⟨80, _, _, rfl, rfl, rfl⟩
theorem tc_0_36 : TP X (d + 6) n_String_charAt_5068e [.ref 9000, .int (nI 36)] M (Ret (.int (nI 119)) M) := ⟨80, _, _, rfl, rfl, rfl⟩
theorem tc_0_37 : TP X (d + 6) n_String_charAt_5068e [.ref 9000, .int (nI 37)] M (Ret (.int (nI 97)) M) := ⟨80, _, _, rfl, rfl, rfl⟩
theorem tc_0_38 : TP X (d + 6) n_String_charAt_5068e [.ref 9000, .int (nI 38)] M (Ret (.int (nI 108)) M) := ⟨80, _, _, rfl, rfl, rfl⟩
theorem tc_0_39 : TP X (d + 6) n_String_charAt_5068e [.ref 9000, .int (nI 39)] M (Ret (.int (nI 108)) M) := ⟨80, _, _, rfl, rfl, rfl⟩
theorem tc_0_40 : TP X (d + 6) n_String_charAt_5068e [.ref 9000, .int (nI 40)] M (Ret (.int (nI 32)) M) := ⟨80, _, _, rfl, rfl, rfl⟩
theorem tc_0_41 : TP X (d + 6) n_String_charAt_5068e [.ref 9000, .int (nI 41)] M (Ret (.int (nI 59)) M) := ⟨80, _, _, rfl, rfl, rfl⟩
theorem tc_0_42 : TP X (d + 6) n_String_charAt_5068e [.ref 9000, .int (nI 42)] M (Ret (.int (nI 32)) M) := ⟨80, _, _, rfl, rfl, rfl⟩
theorem tc_0_43 : TP X (d + 6) n_String_charAt_5068e [.ref 9000, .int (nI 43)] M (Ret (.int (nI 103)) M) := ⟨80, _, _, rfl, rfl, rfl⟩
theorem tc_0_44 : TP X (d + 6) n_String_charAt_5068e [.ref 9000, .int (nI 44)] M (Ret (.int (nI 114)) M) := ⟨80, _, _, rfl, rfl, rfl⟩
theorem tc_0_45 : TP X (d + 6) n_String_charAt_5068e [.ref 9000, .int (nI 45)] M (Ret (.int (nI 111)) M) := ⟨80, _, _, rfl, rfl, rfl⟩
theorem tc_0_46 : TP X (d + 6) n_String_charAt_5068e [.ref 9000, .int (nI 46)] M (Ret (.int (nI 119)) M) := ⟨80, _, _, rfl, rfl, rfl⟩
theorem tc_0_47 : TP X (d + 6) n_String_charAt_5068e [.ref 9000, .int (nI 47)] M (Ret (.int (nI 32)) M) := ⟨80, _, _, rfl, rfl, rfl⟩
theorem tc_0_48 : TP X (d + 6) n_String_charAt_5068e [.ref 9000, .int (nI 48)] M (Ret (.int (nI 121)) M) := ⟨80, _, _, rfl, rfl, rfl⟩
theorem tc_0_49 : TP X (d + 6) n_String_charAt_5068e [.ref 9000, .int (nI 49)] M (Ret (.int (nI 101)) M) := ⟨80, _, _, rfl, rfl, rfl⟩
theorem tc_0_50 : TP X (d + 6) n_String_charAt_5068e [.ref 9000, .int (nI 50)] M (Ret (.int (nI 97)) M) := ⟨80, _, _, rfl, rfl, rfl⟩
theorem tc_0_51 : TP X (d + 6) n_String_charAt_5068e [.ref 9000, .int (nI 51)] M (Ret (.int (nI 114)) M) := ⟨80, _, _, rfl, rfl, rfl⟩
theorem tc_0_52 : TP X (d + 6) n_String_charAt_5068e [.ref 9000, .int (nI 52)] M (Ret (.int (nI 32)) M) := ⟨80, _, _, rfl, rfl, rfl⟩
theorem tc_0_53 : TP X (d + 6) n_String_charAt_5068e [.ref 9000, .int (nI 53)] M (Ret (.int (nI 60)) M) := ⟨80, _, _, rfl, rfl, rfl⟩
theorem tc_0_54 : TP X (d + 6) n_String_charAt_5068e [.ref 9000, .int (nI 54)] M (Ret (.int (nI 32)) M) := ⟨80, _, _, rfl, rfl, rfl⟩
theorem tc_0_55 : TP X (d + 6) n_String_charAt_5068e [.ref 9000, .int (nI 55)] M (Ret (.int (nI 57)) M) := ⟨80, _, _, rfl, rfl, rfl⟩
theorem tc_0_56 : TP X (d + 6) n_String_charAt_5068e [.ref 9000, .int (nI 56)] M (Ret (.int (nI 32)) M) := ⟨80, _, _, rfl, rfl, rfl⟩
theorem tc_0_57 : TP X (d + 6) n_String_charAt_5068e [.ref 9000, .int (nI 57)] M (Ret (.int (nI 59)) M) := ⟨80, _, _, rfl, rfl, rfl⟩
theorem tc_0 : ∀ i, i < 58 → TP X (d + 6) n_String_charAt_5068e [.ref 9000, .int (nI i)] M (Ret (.int (nI (fb i))) M)
  | 0, _ => tc_0_0
  | 1, _ => tc_0_1
  | 2, _ => tc_0_2
  | 3, _ => tc_0_3
  | 4, _ => tc_0_4
  | 5, _ => tc_0_5
  | 6, _ => tc_0_6
  | 7, _ => tc_0_7
  | 8, _ => tc_0_8
  | 9, _ => tc_0_9
  | 10, _ => tc_0_10
  | 11, _ => tc_0_11
  | 12, _ => tc_0_12
  | 13, _ => tc_0_13
  | 14, _ => tc_0_14
  | 15, _ => tc_0_15
  | 16, _ => tc_0_16
  | 17, _ => tc_0_17
  | 18, _ => tc_0_18
  | 19, _ => tc_0_19
  | 20, _ => tc_0_20
  | 21, _ => tc_0_21
  | 22, _ => tc_0_22
  | 23, _ => tc_0_23
  | 24, _ => tc_0_24
  | 25, _ => tc_0_25
  | 26, _ => tc_0_26
  | 27, _ => tc_0_27
  | 28, _ => tc_0_28
  | 29, _ => tc_0_29
  | 30, _ => tc_0_30
  | 31, _ => tc_0_31
  | 32, _ => tc_0_32
  | 33, _ => tc_0_33
  | 34, _ => tc_0_34
  | 35, _ => tc_0_35
  | 36, _ => tc_0_36
  | 37, _ => tc_0_37
  | 38, _ => tc_0_38
  | 39, _ => tc_0_39
  | 40, _ => tc_0_40
  | 41, _ => tc_0_41
  | 42, _ => tc_0_42
  | 43, _ => tc_0_43
  | 44, _ => tc_0_44
  | 45, _ => tc_0_45
  | 46, _ => tc_0_46
  | 47, _ => tc_0_47
  | 48, _ => tc_0_48
  | 49, _ => tc_0_49
  | 50, _ => tc_0_50
  | 51, _ => tc_0_51
  | 52, _ => tc_0_52
  | 53, _ => tc_0_53
  | 54, _ => tc_0_54
  | 55, _ => tc_0_55
  | 56, _ => tc_0_56
  | 57, _ => tc_0_57
  | i + 58, h => absurd h (by omega)
end
theorem fB_c : ∀ c, c < 256 → fB (lN c) 0 = nI c := by decide +kernel
section
variable {X : hX} {d : Nat} {I : Nat → Nat → Int32} {J : Nat → Nat → Int64} {R : Nat → Nat → Option Nat} {N : Nat → Nat} {G : hG}
theorem z_clear : TP X d n_Reader_clear [.ref 9] (I, J, R, N, G) (fun v M' => v = none ∧ M' = (rw2 I 9 1 (nI 0), J, R, N, G)) := by
  unfold TP
  show XP X _ k_Reader_clear 0 [.ref 9] [] _ _
  refine XP_n 3 (pc' := 3) (ls' := [.ref 9]) (st' := []) (M' := (rw2 I 9 1 (nI 0), J, R, N, G)) rfl ?_
  exact XP_ret rfl ⟨rfl, rfl⟩
theorem l_ld : ∀ (m i : Nat) (I1 : Nat → Nat → Int32), i + m = 58 → I1 9 1 = nI i → (∀ j, j < i → I1 10 j = nI (fb j)) → (∀ k, k ≠ 9 → k ≠ 10 → I1 k = I k) → XP X (d + 20) k_Reader_load 4 [.ref 9, .ref 9000, .int (nI i)] [] (I1, J, Rx R, N, G) (fun v M' => v = none ∧ ∃ I', M' = (I', J, Rx R, N, G) ∧ Tp I' fb 58 ∧ ∀ k, k ≠ 9 → k ≠ 10 → I' k = I k) := by
  intro m
  induction m with
  | zero =>
    intro i I1 hi h1 h2 h3
    obtain rfl : i = 58 := by omega
    refine XP_n 2 (pc' := 6) (ls' := [.ref 9, .ref 9000, .int (nI 58)]) (st' := [.ref 9000, .int (nI 58)]) (M' := (I1, J, Rx R, N, G)) rfl ?_
    refine XP_pure rfl rfl (tl_0 (d := d + 13)) ?_
    refine XP_icN (x := 58) (y := 58) rfl (by omega) (by omega) (fun _ => ?_) (fun (z : 58 < 58) => absurd z (by omega))
    exact XP_ret rfl ⟨rfl, I1, rfl, ⟨h1, h2⟩, h3⟩
  | succ m ih =>
    intro i I1 hi h1 h2 h3
    have hc := fb_le i (by omega)
    refine XP_n 2 (pc' := 6) (ls' := [.ref 9, .ref 9000, .int (nI i)]) (st' := [.ref 9000, .int (nI i)]) (M' := (I1, J, Rx R, N, G)) rfl ?_
    refine XP_pure rfl rfl (tl_0 (d := d + 13)) ?_
    refine XP_icN (x := i) (y := 58) rfl (by omega) (by omega) (fun (z : 58 ≤ i) => absurd z (by omega)) (fun _ => ?_)
    refine XP_n 3 (pc' := 11) (ls' := [.ref 9, .ref 9000, .int (nI i)]) (st' := [.int (nI i), .ref 9000, .ref 9]) (M' := (I1, J, Rx R, N, G)) rfl ?_
    refine XP_pure rfl rfl (tc_0 (d := d + 13) i (by omega)) ?_
    refine XP_n 2 (pc' := 14) (ls' := [.ref 9, .ref 9000, .int (nI i)]) (st' := [.int (nI 1), .long ((nI (fb i)).toInt64), .ref 9]) (M' := (I1, J, Rx R, N, G)) rfl ?_
    rw [nI_lE (rfl : nI (fb i) = nI (fb i)) (by omega)]
    refine XP_call rfl rfl (c_addB (w := lN (fb i)) (tp := i) (n := 1) (by omega) (by omega) (by omega) h1) ?_
    rintro v2 M2 ⟨rfl, I2, rfl, e1, e2⟩
    refine XP_n 2 (pc' := 17) (ls' := [.ref 9, .ref 9000, .int (nI i + cI 1)]) (st' := []) (M' := (I2, J, Rx R, N, G)) rfl ?_
    rw [show nI i + cI 1 = nI (i + 1) from nI_addE rfl rfl]
    refine XP_n 1 (pc' := 4) (ls' := [.ref 9, .ref 9000, .int (nI (i + 1))]) (st' := []) (M' := (I2, J, Rx R, N, G)) rfl ?_
    refine ih (i + 1) I2 (by omega) (by rw [e1 9 (by omega)]; exact rw2_on) (fun j hj => ?_) (fun k k1 k2 => ?_)
    · rw [e2 j]
      by_cases g : j = i
      · subst g
        have h := blk_on (s := I1) (a := 10) (o := j) (n := 1) (j := 0) (g := fun j => fB (lN (fb j)) (1 - 1 - j)) (by omega)
        show blk I1 10 j 1 (fun j_1 => fB (lN (fb j)) (1 - 1 - j_1)) 10 (j + 0) = _
        rw [blk_on (by omega)]
        exact fB_c _ (by omega)
      · rw [blk_off (fun z => by omega)]
        exact h2 j (by omega)
    · rw [e1 k k2, rw2_ro k1]
      exact h3 k k1 k2
theorem c_load : TP X (d + 20) n_Reader_load [.ref 9, .ref 9000] (I, J, Rx R, N, G) (fun v M' => v = none ∧ ∃ I', M' = (I', J, Rx R, N, G) ∧ Tp I' fb 58 ∧ ∀ k, k ≠ 9 → k ≠ 10 → I' k = I k) := by
  unfold TP
  show XP X _ k_Reader_load 0 [.ref 9, .ref 9000, xj] [] _ _
  refine XP_n 1 (pc' := 1) (ls' := [.ref 9, .ref 9000, xj]) (st' := [.ref 9]) (M' := (I, J, Rx R, N, G)) rfl ?_
  refine XP_call rfl rfl z_clear ?_
  rintro v1 M1 ⟨rfl, rfl⟩
  refine XP_n 2 (pc' := 4) (ls' := [.ref 9, .ref 9000, .int (nI 0)]) (st' := []) (M' := (rw2 I 9 1 (nI 0), J, Rx R, N, G)) rfl ?_
  exact l_ld 58 0 _ rfl rw2_on (fun j hj => absurd hj (by omega)) (fun k k1 k2 => rw2_ro k1)
end
section
variable {b : Nat → Nat} {L : Nat}
theorem tk_word {p q e k : Nat} (h1 : pl b L p = q) (h2 : ¬ L ≤ q) (h3 : isLt (b q) = true) (h4 : scn isLt b L q = e) (hk : k < 12) (hm : mW b q e k) : nx b L p = e ∧ tk b L p = tw k := by
  have e1 : nx b L p = e := by unfold nx; rw [h1, if_neg h2, if_pos h3, h4]
  refine ⟨e1, ?_⟩
  unfold tk
  rw [e1, h1, if_neg h2, if_pos h3, wk_of hk hm]
theorem tk_num {p q e : Nat} (h1 : pl b L p = q) (h2 : ¬ L ≤ q) (h3 : ¬ isLt (b q) = true) (h4 : isDg (b q) = true) (h5 : scn isDg b L q = e) (h6 : ¬ 4 < e - q) : nx b L p = e ∧ tk b L p = 2000 ∧ tv b L p = dv b q (e - q) := by
  have e1 : nx b L p = e := by unfold nx; rw [h1, if_neg h2, if_neg h3, if_pos h4, h5]
  refine ⟨e1, ?_, ?_⟩
  · unfold tk
    rw [e1, h1, if_neg h2, if_neg h3, if_pos h4, if_neg h6]
  · unfold tv
    rw [e1, h1]
theorem tk_sign {p q : Nat} (h1 : pl b L p = q) (h2 : ¬ L ≤ q) (h3 : ¬ isLt (b q) = true) (h4 : ¬ isDg (b q) = true) (h5 : isSg (b q) = true) : nx b L p = q + 1 ∧ tk b L p = b q := by
  refine ⟨?_, ?_⟩
  · unfold nx
    rw [h1, if_neg h2, if_neg h3, if_neg h4]
  · unfold tk
    rw [h1, if_neg h2, if_neg h3, if_neg h4, if_pos h5]
theorem lds_det : ∀ {n k : Nat} {S A B : PS}, lds b L n S A → lds b L k S B → stp b L A = none → stp b L B = none → A = B
  | 0, 0, S, A, B, h1, h2, _, _ => by
    have h1 : S = A := h1
    have h2 : S = B := h2
    exact h1.symm.trans h2
  | 0, k + 1, S, A, B, h1, ⟨S1, h2, _⟩, ha, _ => by
    have h1 : S = A := h1
    subst h1
    rw [ha] at h2
    cases h2
  | n + 1, 0, S, A, B, ⟨S1, h2, _⟩, h1, _, hb => by
    have h1 : S = B := h1
    subst h1
    rw [hb] at h2
    cases h2
  | n + 1, k + 1, S, A, B, ⟨S1, h1, h3⟩, ⟨S2, h2, h4⟩, ha, hb => by
    have e : S1 = S2 := Option.some.inj (h1.symm.trans h2)
    subst e
    exact lds_det h3 h4 ha hb
theorem stp_end {h u : List Nat} {m : Bool} {p : Nat} (ht : tk b L p = 59) : stp b L ((h, u), false, m, p) = none := by
  show stpN b L h u m p = none
  unfold stpN
  rw [if_pos ht]
theorem pt_ok {k P p0 : Nat} {u v : List Nat} {P' : Nat} {h1 u1 : List Nat} {m : Bool} {p : Nat} (hnx : nx b L P = p0) (hl : Leads b L (([], u), true, true, p0) ((h1, u1), false, m, p)) (ht : tk b L p = 59) (h : PartOk b L k P u v P') : v = (unw 1 h1 u1).2 ∧ P' = nx b L p := by
  obtain ⟨g1, p2, ⟨ha, ua, ⟨em, m1, e1, e2, e3, e4, e5, e6⟩, -, -⟩, g2, rfl⟩ := h
  rw [hnx] at e5
  obtain ⟨n1, l1⟩ := hl
  obtain ⟨n2, l2⟩ := e5
  have e := lds_det l1 l2 (stp_end ht) (stp_end g2)
  have q1 : h1 = ha := congrArg (fun S : PS => S.1.1) e
  have q2 : u1 = ua := congrArg (fun S : PS => S.1.2) e
  have q3 : p = p2 := congrArg (fun S : PS => S.2.2.2) e
  subst q1
  subst q2
  subst q3
  rw [e6]
  exact ⟨rfl, rfl⟩
theorem pt_no {k P p0 : Nat} {u : List Nat} {h1 u1 : List Nat} {m : Bool} {p q : Nat} (hnx : nx b L P = p0) (hl : Leads b L (([], u), true, true, p0) ((h1, u1), false, m, p)) (ht : tk b L p = 59) (hu : (unw 1 h1 u1).1 = []) (hk : tk b L P = 1006 + k) : ¬ PartFail b L k P u q := by
  rintro (⟨g, -⟩ | ⟨-, S', hl', -, hn, ha⟩)
  · exact g hk
  · rw [hnx] at hl'
    obtain ⟨n1, l1⟩ := hl
    obtain ⟨n2, l2⟩ := hl'
    have e := lds_det l1 l2 (stp_end ht) hn
    subst e
    exact ha ⟨rfl, ht, hu⟩
end
theorem t_0 : nx fb 58 0 = 4 ∧ tk fb 58 0 = 1006 := tk_word (q := 0) (k := 0) (by decide +kernel) (by decide +kernel) (by decide +kernel) (by decide +kernel) (by omega) (by unfold mW; decide +kernel)
theorem t_4 : nx fb 58 4 = 9 ∧ tk fb 58 4 = 1000 := tk_word (q := 5) (k := 3) (by decide +kernel) (by decide +kernel) (by decide +kernel) (by decide +kernel) (by omega) (by unfold mW; decide +kernel)
theorem t_9 : nx fb 58 9 = 11 ∧ tk fb 58 9 = 42 := tk_sign (q := 10) (by decide +kernel) (by decide +kernel) (by decide +kernel) (by decide +kernel) (by decide +kernel)
theorem t_11 : nx fb 58 11 = 18 ∧ tk fb 58 11 = 1001 := tk_word (q := 12) (k := 4) (by decide +kernel) (by decide +kernel) (by decide +kernel) (by decide +kernel) (by omega) (by unfold mW; decide +kernel)
theorem t_18 : nx fb 58 18 = 20 ∧ tk fb 58 18 = 59 := tk_sign (q := 19) (by decide +kernel) (by decide +kernel) (by decide +kernel) (by decide +kernel) (by decide +kernel)
theorem t_20 : nx fb 58 20 = 25 ∧ tk fb 58 20 = 1007 := tk_word (q := 21) (k := 1) (by decide +kernel) (by decide +kernel) (by decide +kernel) (by decide +kernel) (by omega) (by unfold mW; decide +kernel)
theorem t_25 : nx fb 58 25 = 28 ∧ tk fb 58 25 = 2000 ∧ tv fb 58 25 = 20 := tk_num (q := 26) (by decide +kernel) (by decide +kernel) (by decide +kernel) (by decide +kernel) (by decide +kernel) (by decide +kernel)
theorem t_28 : nx fb 58 28 = 30 ∧ tk fb 58 28 = 43 := tk_sign (q := 29) (by decide +kernel) (by decide +kernel) (by decide +kernel) (by decide +kernel) (by decide +kernel)
theorem t_30 : nx fb 58 30 = 33 ∧ tk fb 58 30 = 1005 := tk_word (q := 31) (k := 8) (by decide +kernel) (by decide +kernel) (by decide +kernel) (by decide +kernel) (by omega) (by unfold mW; decide +kernel)
theorem t_33 : nx fb 58 33 = 35 ∧ tk fb 58 33 = 42 := tk_sign (q := 34) (by decide +kernel) (by decide +kernel) (by decide +kernel) (by decide +kernel) (by decide +kernel)
theorem t_35 : nx fb 58 35 = 40 ∧ tk fb 58 35 = 1002 := tk_word (q := 36) (k := 5) (by decide +kernel) (by decide +kernel) (by decide +kernel) (by decide +kernel) (by omega) (by unfold mW; decide +kernel)
theorem t_40 : nx fb 58 40 = 42 ∧ tk fb 58 40 = 59 := tk_sign (q := 41) (by decide +kernel) (by decide +kernel) (by decide +kernel) (by decide +kernel) (by decide +kernel)
theorem t_42 : nx fb 58 42 = 47 ∧ tk fb 58 42 = 1008 := tk_word (q := 43) (k := 2) (by decide +kernel) (by decide +kernel) (by decide +kernel) (by decide +kernel) (by omega) (by unfold mW; decide +kernel)
theorem t_47 : nx fb 58 47 = 52 ∧ tk fb 58 47 = 1004 := tk_word (q := 48) (k := 7) (by decide +kernel) (by decide +kernel) (by decide +kernel) (by decide +kernel) (by omega) (by unfold mW; decide +kernel)
theorem t_52 : nx fb 58 52 = 54 ∧ tk fb 58 52 = 60 := tk_sign (q := 53) (by decide +kernel) (by decide +kernel) (by decide +kernel) (by decide +kernel) (by decide +kernel)
theorem t_54 : nx fb 58 54 = 56 ∧ tk fb 58 54 = 2000 ∧ tv fb 58 54 = 9 := tk_num (q := 55) (by decide +kernel) (by decide +kernel) (by decide +kernel) (by decide +kernel) (by decide +kernel) (by decide +kernel)
theorem t_56 : nx fb 58 56 = 58 ∧ tk fb 58 56 = 59 := tk_sign (q := 57) (by decide +kernel) (by decide +kernel) (by decide +kernel) (by decide +kernel) (by decide +kernel)
theorem t_e : tk fb 58 58 = 2001 := by
  unfold tk
  rw [show pl fb 58 58 = 58 by decide +kernel]
  rfl
theorem s_0_0 : stp fb 58 (([], []), true, true, 4) = some (([], [0]), false, true, 9) := by
  show stpW fb 58 [] [] true 4 = _
  unfold stpW
  rw [t_4.2, t_4.1]
  rfl
theorem s_0_1 : stp fb 58 (([], [0]), false, true, 9) = some (([18], [0]), true, false, 11) := by
  show stpN fb 58 [] [0] true 9 = _
  unfold stpN
  rw [t_9.2, t_9.1]
  rfl
theorem s_0_2 : stp fb 58 (([18], [0]), true, false, 11) = some (([18], [0, 1]), false, false, 18) := by
  show stpW fb 58 [18] [0] false 11 = _
  unfold stpW
  rw [t_11.2, t_11.1]
  rfl
theorem ld_0 : Leads fb 58 (([], []), true, true, 4) (([18], [0, 1]), false, false, 18) := ⟨3, _, s_0_0, _, s_0_1, _, s_0_2, rfl⟩
theorem s_1_0 : stp fb 58 (([], [0, 1, 18]), true, true, 25) = some (([], [0, 1, 18, 100020]), false, true, 28) := by
  show stpW fb 58 [] [0, 1, 18] true 25 = _
  unfold stpW
  rw [if_pos t_25.2.1, t_25.1, t_25.2.2]
  rfl
theorem s_1_1 : stp fb 58 (([], [0, 1, 18, 100020]), false, true, 28) = some (([16], [0, 1, 18, 100020]), true, false, 30) := by
  show stpN fb 58 [] [0, 1, 18, 100020] true 28 = _
  unfold stpN
  rw [t_28.2, t_28.1]
  rfl
theorem s_1_2 : stp fb 58 (([16], [0, 1, 18, 100020]), true, false, 30) = some (([16], [0, 1, 18, 100020, 5]), false, false, 33) := by
  show stpW fb 58 [16] [0, 1, 18, 100020] false 30 = _
  unfold stpW
  rw [t_30.2, t_30.1]
  rfl
theorem s_1_3 : stp fb 58 (([16], [0, 1, 18, 100020, 5]), false, false, 33) = some (([18, 16], [0, 1, 18, 100020, 5]), true, false, 35) := by
  show stpN fb 58 [16] [0, 1, 18, 100020, 5] false 33 = _
  unfold stpN
  rw [t_33.2, t_33.1]
  rfl
theorem s_1_4 : stp fb 58 (([18, 16], [0, 1, 18, 100020, 5]), true, false, 35) = some (([18, 16], [0, 1, 18, 100020, 5, 2]), false, false, 40) := by
  show stpW fb 58 [18, 16] [0, 1, 18, 100020, 5] false 35 = _
  unfold stpW
  rw [t_35.2, t_35.1]
  rfl
theorem ld_1 : Leads fb 58 (([], [0, 1, 18]), true, true, 25) (([18, 16], [0, 1, 18, 100020, 5, 2]), false, false, 40) := ⟨5, _, s_1_0, _, s_1_1, _, s_1_2, _, s_1_3, _, s_1_4, rfl⟩
theorem s_2_0 : stp fb 58 (([], [0, 1, 18, 100020, 5, 2, 18, 16]), true, true, 47) = some (([], [0, 1, 18, 100020, 5, 2, 18, 16, 4]), false, true, 52) := by
  show stpW fb 58 [] [0, 1, 18, 100020, 5, 2, 18, 16] true 47 = _
  unfold stpW
  rw [t_47.2, t_47.1]
  rfl
theorem s_2_1 : stp fb 58 (([], [0, 1, 18, 100020, 5, 2, 18, 16, 4]), false, true, 52) = some (([14], [0, 1, 18, 100020, 5, 2, 18, 16, 4]), true, false, 54) := by
  show stpN fb 58 [] [0, 1, 18, 100020, 5, 2, 18, 16, 4] true 52 = _
  unfold stpN
  rw [t_52.2, t_52.1]
  rfl
theorem s_2_2 : stp fb 58 (([14], [0, 1, 18, 100020, 5, 2, 18, 16, 4]), true, false, 54) = some (([14], [0, 1, 18, 100020, 5, 2, 18, 16, 4, 100009]), false, false, 56) := by
  show stpW fb 58 [14] [0, 1, 18, 100020, 5, 2, 18, 16, 4] false 54 = _
  unfold stpW
  rw [if_pos t_54.2.1, t_54.1, t_54.2.2]
  rfl
theorem ld_2 : Leads fb 58 (([], [0, 1, 18, 100020, 5, 2, 18, 16]), true, true, 47) (([14], [0, 1, 18, 100020, 5, 2, 18, 16, 4, 100009]), false, false, 56) := ⟨3, _, s_2_0, _, s_2_1, _, s_2_2, rfl⟩
def uF : List Nat := [0, 1, 18, 100020, 5, 2, 18, 16, 4, 100009, 14]
theorem pk_0 {v : List Nat} {P' : Nat} (h : PartOk fb 58 0 0 [] v P') : v = [0, 1, 18] ∧ P' = 20 := by
  obtain ⟨h1, h2⟩ := pt_ok t_0.1 ld_0 t_18.2 h
  exact ⟨h1, h2.trans t_18.1⟩
theorem pn_0 {q : Nat} : ¬ PartFail fb 58 0 0 [] q := pt_no t_0.1 ld_0 t_18.2 rfl t_0.2
theorem pk_1 {v : List Nat} {P' : Nat} (h : PartOk fb 58 1 20 [0, 1, 18] v P') : v = [0, 1, 18, 100020, 5, 2, 18, 16] ∧ P' = 42 := by
  obtain ⟨h1, h2⟩ := pt_ok t_20.1 ld_1 t_40.2 h
  exact ⟨h1, h2.trans t_40.1⟩
theorem pn_1 {q : Nat} : ¬ PartFail fb 58 1 20 [0, 1, 18] q := pt_no t_20.1 ld_1 t_40.2 rfl t_20.2
theorem pk_2 {v : List Nat} {P' : Nat} (h : PartOk fb 58 2 42 [0, 1, 18, 100020, 5, 2, 18, 16] v P') : v = [0, 1, 18, 100020, 5, 2, 18, 16, 4, 100009, 14] ∧ P' = 58 := by
  obtain ⟨h1, h2⟩ := pt_ok t_42.1 ld_2 t_56.2 h
  exact ⟨h1, h2.trans t_56.1⟩
theorem pn_2 {q : Nat} : ¬ PartFail fb 58 2 42 [0, 1, 18, 100020, 5, 2, 18, 16] q := pt_no t_42.1 ld_2 t_56.2 rfl t_42.2
