/-! the texts of the words, by closed runs; the class's tokens -/
section
variable {X : hX} {d : Nat} {M : hM}
theorem tl_1 : TP X (d + 6) n_String_length_8abf5 [.ref 9002] M (Ret (.int (nI 4)) M) := ⟨40, _, _, rfl, rfl, rfl⟩
theorem tc_1_0 : TP X (d + 6) n_String_charAt_5068e [.ref 9002, .int (nI 0)] M (Ret (.int (nI 111)) M) := ⟨80, _, _, rfl, rfl, rfl⟩
theorem tc_1_1 : TP X (d + 6) n_String_charAt_5068e [.ref 9002, .int (nI 1)] M (Ret (.int (nI 118)) M) := ⟨80, _, _, rfl, rfl, rfl⟩
theorem tc_1_2 : TP X (d + 6) n_String_charAt_5068e [.ref 9002, .int (nI 2)] M (Ret (.int (nI 101)) M) := ⟨80, _, _, rfl, rfl, rfl⟩
theorem tc_1_3 : TP X (d + 6) n_String_charAt_5068e [.ref 9002, .int (nI 3)] M (Ret (.int (nI 114)) M) := ⟨80, _, _, rfl, rfl, rfl⟩
theorem tl_2 : TP X (d + 6) n_String_length_8abf5 [.ref 9004] M (Ret (.int (nI 6)) M) := ⟨40, _, _, rfl, rfl, rfl⟩
theorem tc_2_0 : TP X (d + 6) n_String_charAt_5068e [.ref 9004, .int (nI 0)] M (Ret (.int (nI 98)) M) := ⟨80, _, _, rfl, rfl, rfl⟩
theorem tc_2_1 : TP X (d + 6) n_String_charAt_5068e [.ref 9004, .int (nI 1)] M (Ret (.int (nI 101)) M) := ⟨80, _, _, rfl, rfl, rfl⟩
theorem tc_2_2 : TP X (d + 6) n_String_charAt_5068e [.ref 9004, .int (nI 2)] M (Ret (.int (nI 104)) M) := ⟨80, _, _, rfl, rfl, rfl⟩
theorem tc_2_3 : TP X (d + 6) n_String_charAt_5068e [.ref 9004, .int (nI 3)] M (Ret (.int (nI 105)) M) := ⟨80, _, _, rfl, rfl, rfl⟩
theorem tc_2_4 : TP X (d + 6) n_String_charAt_5068e [.ref 9004, .int (nI 4)] M (Ret (.int (nI 110)) M) := ⟨80, _, _, rfl, rfl, rfl⟩
theorem tc_2_5 : TP X (d + 6) n_String_charAt_5068e [.ref 9004, .int (nI 5)] M (Ret (.int (nI 100)) M) := ⟨80, _, _, rfl, rfl, rfl⟩
theorem tl_3 : TP X (d + 6) n_String_length_8abf5 [.ref 9006] M (Ret (.int (nI 4)) M) := ⟨40, _, _, rfl, rfl, rfl⟩
theorem tc_3_0 : TP X (d + 6) n_String_charAt_5068e [.ref 9006, .int (nI 0)] M (Ret (.int (nI 119)) M) := ⟨80, _, _, rfl, rfl, rfl⟩
theorem tc_3_1 : TP X (d + 6) n_String_charAt_5068e [.ref 9006, .int (nI 1)] M (Ret (.int (nI 97)) M) := ⟨80, _, _, rfl, rfl, rfl⟩
theorem tc_3_2 : TP X (d + 6) n_String_charAt_5068e [.ref 9006, .int (nI 2)] M (Ret (.int (nI 108)) M) := ⟨80, _, _, rfl, rfl, rfl⟩
theorem tc_3_3 : TP X (d + 6) n_String_charAt_5068e [.ref 9006, .int (nI 3)] M (Ret (.int (nI 108)) M) := ⟨80, _, _, rfl, rfl, rfl⟩
theorem tl_4 : TP X (d + 6) n_String_length_8abf5 [.ref 9008] M (Ret (.int (nI 5)) M) := ⟨40, _, _, rfl, rfl, rfl⟩
theorem tc_4_0 : TP X (d + 6) n_String_charAt_5068e [.ref 9008, .int (nI 0)] M (Ret (.int (nI 108)) M) := ⟨80, _, _, rfl, rfl, rfl⟩
theorem tc_4_1 : TP X (d + 6) n_String_charAt_5068e [.ref 9008, .int (nI 1)] M (Ret (.int (nI 101)) M) := ⟨80, _, _, rfl, rfl, rfl⟩
theorem tc_4_2 : TP X (d + 6) n_String_charAt_5068e [.ref 9008, .int (nI 2)] M (Ret (.int (nI 118)) M) := ⟨80, _, _, rfl, rfl, rfl⟩
theorem tc_4_3 : TP X (d + 6) n_String_charAt_5068e [.ref 9008, .int (nI 3)] M (Ret (.int (nI 101)) M) := ⟨80, _, _, rfl, rfl, rfl⟩
theorem tc_4_4 : TP X (d + 6) n_String_charAt_5068e [.ref 9008, .int (nI 4)] M (Ret (.int (nI 108)) M) := ⟨80, _, _, rfl, rfl, rfl⟩
theorem tl_5 : TP X (d + 6) n_String_length_8abf5 [.ref 9010] M (Ret (.int (nI 4)) M) := ⟨40, _, _, rfl, rfl, rfl⟩
theorem tc_5_0 : TP X (d + 6) n_String_charAt_5068e [.ref 9010, .int (nI 0)] M (Ret (.int (nI 121)) M) := ⟨80, _, _, rfl, rfl, rfl⟩
theorem tc_5_1 : TP X (d + 6) n_String_charAt_5068e [.ref 9010, .int (nI 1)] M (Ret (.int (nI 101)) M) := ⟨80, _, _, rfl, rfl, rfl⟩
theorem tc_5_2 : TP X (d + 6) n_String_charAt_5068e [.ref 9010, .int (nI 2)] M (Ret (.int (nI 97)) M) := ⟨80, _, _, rfl, rfl, rfl⟩
theorem tc_5_3 : TP X (d + 6) n_String_charAt_5068e [.ref 9010, .int (nI 3)] M (Ret (.int (nI 114)) M) := ⟨80, _, _, rfl, rfl, rfl⟩
theorem tl_6 : TP X (d + 6) n_String_length_8abf5 [.ref 9012] M (Ret (.int (nI 2)) M) := ⟨40, _, _, rfl, rfl, rfl⟩
theorem tc_6_0 : TP X (d + 6) n_String_charAt_5068e [.ref 9012, .int (nI 0)] M (Ret (.int (nI 117)) M) := ⟨80, _, _, rfl, rfl, rfl⟩
theorem tc_6_1 : TP X (d + 6) n_String_charAt_5068e [.ref 9012, .int (nI 1)] M (Ret (.int (nI 112)) M) := ⟨80, _, _, rfl, rfl, rfl⟩
theorem tl_7 : TP X (d + 6) n_String_length_8abf5 [.ref 9014] M (Ret (.int (nI 4)) M) := ⟨40, _, _, rfl, rfl, rfl⟩
theorem tc_7_0 : TP X (d + 6) n_String_charAt_5068e [.ref 9014, .int (nI 0)] M (Ret (.int (nI 104)) M) := ⟨80, _, _, rfl, rfl, rfl⟩
theorem tc_7_1 : TP X (d + 6) n_String_charAt_5068e [.ref 9014, .int (nI 1)] M (Ret (.int (nI 97)) M) := ⟨80, _, _, rfl, rfl, rfl⟩
theorem tc_7_2 : TP X (d + 6) n_String_charAt_5068e [.ref 9014, .int (nI 2)] M (Ret (.int (nI 114)) M) := ⟨80, _, _, rfl, rfl, rfl⟩
theorem tc_7_3 : TP X (d + 6) n_String_charAt_5068e [.ref 9014, .int (nI 3)] M (Ret (.int (nI 109)) M) := ⟨80, _, _, rfl, rfl, rfl⟩
theorem tl_8 : TP X (d + 6) n_String_length_8abf5 [.ref 9016] M (Ret (.int (nI 4)) M) := ⟨40, _, _, rfl, rfl, rfl⟩
theorem tc_8_0 : TP X (d + 6) n_String_charAt_5068e [.ref 9016, .int (nI 0)] M (Ret (.int (nI 99)) M) := ⟨80, _, _, rfl, rfl, rfl⟩
theorem tc_8_1 : TP X (d + 6) n_String_charAt_5068e [.ref 9016, .int (nI 1)] M (Ret (.int (nI 111)) M) := ⟨80, _, _, rfl, rfl, rfl⟩
theorem tc_8_2 : TP X (d + 6) n_String_charAt_5068e [.ref 9016, .int (nI 2)] M (Ret (.int (nI 115)) M) := ⟨80, _, _, rfl, rfl, rfl⟩
theorem tc_8_3 : TP X (d + 6) n_String_charAt_5068e [.ref 9016, .int (nI 3)] M (Ret (.int (nI 116)) M) := ⟨80, _, _, rfl, rfl, rfl⟩
theorem tl_9 : TP X (d + 6) n_String_length_8abf5 [.ref 9018] M (Ret (.int (nI 4)) M) := ⟨40, _, _, rfl, rfl, rfl⟩
theorem tc_9_0 : TP X (d + 6) n_String_charAt_5068e [.ref 9018, .int (nI 0)] M (Ret (.int (nI 103)) M) := ⟨80, _, _, rfl, rfl, rfl⟩
theorem tc_9_1 : TP X (d + 6) n_String_charAt_5068e [.ref 9018, .int (nI 1)] M (Ret (.int (nI 114)) M) := ⟨80, _, _, rfl, rfl, rfl⟩
theorem tc_9_2 : TP X (d + 6) n_String_charAt_5068e [.ref 9018, .int (nI 2)] M (Ret (.int (nI 111)) M) := ⟨80, _, _, rfl, rfl, rfl⟩
theorem tc_9_3 : TP X (d + 6) n_String_charAt_5068e [.ref 9018, .int (nI 3)] M (Ret (.int (nI 119)) M) := ⟨80, _, _, rfl, rfl, rfl⟩
theorem tl_10 : TP X (d + 6) n_String_length_8abf5 [.ref 9020] M (Ret (.int (nI 2)) M) := ⟨40, _, _, rfl, rfl, rfl⟩
theorem tc_10_0 : TP X (d + 6) n_String_charAt_5068e [.ref 9020, .int (nI 0)] M (Ret (.int (nI 111)) M) := ⟨80, _, _, rfl, rfl, rfl⟩
theorem tc_10_1 : TP X (d + 6) n_String_charAt_5068e [.ref 9020, .int (nI 1)] M (Ret (.int (nI 114)) M) := ⟨80, _, _, rfl, rfl, rfl⟩
theorem tl_11 : TP X (d + 6) n_String_length_8abf5 [.ref 9022] M (Ret (.int (nI 3)) M) := ⟨40, _, _, rfl, rfl, rfl⟩
theorem tc_11_0 : TP X (d + 6) n_String_charAt_5068e [.ref 9022, .int (nI 0)] M (Ret (.int (nI 97)) M) := ⟨80, _, _, rfl, rfl, rfl⟩
theorem tc_11_1 : TP X (d + 6) n_String_charAt_5068e [.ref 9022, .int (nI 1)] M (Ret (.int (nI 110)) M) := ⟨80, _, _, rfl, rfl, rfl⟩
theorem tc_11_2 : TP X (d + 6) n_String_charAt_5068e [.ref 9022, .int (nI 2)] M (Ret (.int (nI 100)) M) := ⟨80, _, _, rfl, rfl, rfl⟩
theorem tl_12 : TP X (d + 6) n_String_length_8abf5 [.ref 9024] M (Ret (.int (nI 3)) M) := ⟨40, _, _, rfl, rfl, rfl⟩
theorem tc_12_0 : TP X (d + 6) n_String_charAt_5068e [.ref 9024, .int (nI 0)] M (Ret (.int (nI 110)) M) := ⟨80, _, _, rfl, rfl, rfl⟩
theorem tc_12_1 : TP X (d + 6) n_String_charAt_5068e [.ref 9024, .int (nI 1)] M (Ret (.int (nI 111)) M) := ⟨80, _, _, rfl, rfl, rfl⟩
theorem tc_12_2 : TP X (d + 6) n_String_charAt_5068e [.ref 9024, .int (nI 2)] M (Ret (.int (nI 116)) M) := ⟨80, _, _, rfl, rfl, rfl⟩
theorem c_isLt {c : Nat} (hc : c ≤ 255) : TP X d n_Reader_isLetter [.int (nI c)] M (Ret (.int (b2i (isLt c = true))) M) := by
  have e : isLt c = true ↔ 97 ≤ c ∧ c ≤ 122 := by
    unfold isLt
    rw [Bool.and_eq_true, Nat.ble_eq, Nat.ble_eq]
  unfold TP
  show XP X _ k_Reader_isLetter 0 [.int (nI (c))] [] _ _
  refine XP_n 2 (pc' := 2) (ls' := [.int (nI (c))]) (st' := [.int (nI (97)), .int (nI (c))]) (M' := M) rfl ?_
  refine XP_icN (x := c) (y := 97) rfl (by omega) (by omega) (fun (b2 : c < 97) => ?_) (fun (b2 : 97 ≤ c) => ?_)
  · refine XP_n 1 (pc' := 9) (ls' := [.int (nI (c))]) (st' := [.int (nI (0))]) (M' := M) rfl ?_
    exact XP_ret rfl ⟨by rw [b2i_f (fun z => by have := e.mp z; omega)]; rfl, rfl⟩
  · refine XP_n 2 (pc' := 5) (ls' := [.int (nI (c))]) (st' := [.int (nI (122)), .int (nI (c))]) (M' := M) rfl ?_
    refine XP_icN (x := c) (y := 122) rfl (by omega) (by omega) (fun (b5 : 122 < c) => ?_) (fun (b5 : c ≤ 122) => ?_)
    · refine XP_n 1 (pc' := 9) (ls' := [.int (nI (c))]) (st' := [.int (nI (0))]) (M' := M) rfl ?_
      exact XP_ret rfl ⟨by rw [b2i_f (fun z => by have := e.mp z; omega)]; rfl, rfl⟩
    · refine XP_n 2 (pc' := 9) (ls' := [.int (nI (c))]) (st' := [.int (nI (1))]) (M' := M) rfl ?_
      exact XP_ret rfl ⟨by rw [b2i_t (e.mpr ⟨by omega, by omega⟩)]; rfl, rfl⟩
theorem c_isDg {c : Nat} (hc : c ≤ 255) : TP X d n_Reader_isDigit [.int (nI c)] M (Ret (.int (b2i (isDg c = true))) M) := by
  have e : isDg c = true ↔ 48 ≤ c ∧ c ≤ 57 := by
    unfold isDg
    rw [Bool.and_eq_true, Nat.ble_eq, Nat.ble_eq]
  unfold TP
  show XP X _ k_Reader_isDigit 0 [.int (nI (c))] [] _ _
  refine XP_n 2 (pc' := 2) (ls' := [.int (nI (c))]) (st' := [.int (nI (48)), .int (nI (c))]) (M' := M) rfl ?_
  refine XP_icN (x := c) (y := 48) rfl (by omega) (by omega) (fun (b2 : c < 48) => ?_) (fun (b2 : 48 ≤ c) => ?_)
  · refine XP_n 1 (pc' := 9) (ls' := [.int (nI (c))]) (st' := [.int (nI (0))]) (M' := M) rfl ?_
    exact XP_ret rfl ⟨by rw [b2i_f (fun z => by have := e.mp z; omega)]; rfl, rfl⟩
  · refine XP_n 2 (pc' := 5) (ls' := [.int (nI (c))]) (st' := [.int (nI (57)), .int (nI (c))]) (M' := M) rfl ?_
    refine XP_icN (x := c) (y := 57) rfl (by omega) (by omega) (fun (b5 : 57 < c) => ?_) (fun (b5 : c ≤ 57) => ?_)
    · refine XP_n 1 (pc' := 9) (ls' := [.int (nI (c))]) (st' := [.int (nI (0))]) (M' := M) rfl ?_
      exact XP_ret rfl ⟨by rw [b2i_f (fun z => by have := e.mp z; omega)]; rfl, rfl⟩
    · refine XP_n 2 (pc' := 9) (ls' := [.int (nI (c))]) (st' := [.int (nI (1))]) (M' := M) rfl ?_
      exact XP_ret rfl ⟨by rw [b2i_t (e.mpr ⟨by omega, by omega⟩)]; rfl, rfl⟩
theorem c_isSg {c : Nat} (hc : c ≤ 255) : TP X d n_Reader_isSign [.int (nI c)] M (Ret (.int (b2i (isSg c = true))) M) := by
  have hx : c = 40 ∨ c = 41 ∨ c = 42 ∨ c = 43 ∨ c = 44 ∨ c = 45 ∨ c = 46 ∨ c = 47 ∨ c = 48 ∨ c = 49 ∨ c = 50 ∨ c = 51 ∨ c = 52 ∨ c = 53 ∨ c = 54 ∨ c = 55 ∨ c = 56 ∨ c = 57 ∨ c = 58 ∨ c = 59 ∨ c = 60 ∨ c = 61 ∨ (c < 40 ∨ 61 < c) := by omega
  rcases hx with rfl | rfl | rfl | rfl | rfl | rfl | rfl | rfl | rfl | rfl | rfl | rfl | rfl | rfl | rfl | rfl | rfl | rfl | rfl | rfl | rfl | rfl | hx
  · unfold TP
    show XP X _ k_Reader_isSign 0 [.int (nI (40))] [] _ _
    refine XP_n 1 (pc' := 1) (ls' := [.int (nI (40))]) (st' := [.int (nI (40))]) (M' := M) rfl ?_
    refine XP_tab 40 40 61 2 rfl (by omega) rfl rfl (by omega) (by omega) rfl ?_
    refine XP_n 1 (pc' := 3) (ls' := [.int (nI (40))]) (st' := [.int (nI (1))]) (M' := M) rfl ?_
    exact XP_ret rfl ⟨rfl, rfl⟩
  · unfold TP
    show XP X _ k_Reader_isSign 0 [.int (nI (41))] [] _ _
    refine XP_n 1 (pc' := 1) (ls' := [.int (nI (41))]) (st' := [.int (nI (41))]) (M' := M) rfl ?_
    refine XP_tab 41 40 61 2 rfl (by omega) rfl rfl (by omega) (by omega) rfl ?_
    refine XP_n 1 (pc' := 3) (ls' := [.int (nI (41))]) (st' := [.int (nI (1))]) (M' := M) rfl ?_
    exact XP_ret rfl ⟨rfl, rfl⟩
  · unfold TP
    show XP X _ k_Reader_isSign 0 [.int (nI (42))] [] _ _
    refine XP_n 1 (pc' := 1) (ls' := [.int (nI (42))]) (st' := [.int (nI (42))]) (M' := M) rfl ?_
    refine XP_tab 42 40 61 2 rfl (by omega) rfl rfl (by omega) (by omega) rfl ?_
    refine XP_n 1 (pc' := 3) (ls' := [.int (nI (42))]) (st' := [.int (nI (1))]) (M' := M) rfl ?_
    exact XP_ret rfl ⟨rfl, rfl⟩
  · unfold TP
    show XP X _ k_Reader_isSign 0 [.int (nI (43))] [] _ _
    refine XP_n 1 (pc' := 1) (ls' := [.int (nI (43))]) (st' := [.int (nI (43))]) (M' := M) rfl ?_
    refine XP_tab 43 40 61 2 rfl (by omega) rfl rfl (by omega) (by omega) rfl ?_
    refine XP_n 1 (pc' := 3) (ls' := [.int (nI (43))]) (st' := [.int (nI (1))]) (M' := M) rfl ?_
    exact XP_ret rfl ⟨rfl, rfl⟩
  · unfold TP
    show XP X _ k_Reader_isSign 0 [.int (nI (44))] [] _ _
    refine XP_n 1 (pc' := 1) (ls' := [.int (nI (44))]) (st' := [.int (nI (44))]) (M' := M) rfl ?_
    refine XP_tab 44 40 61 4 rfl (by omega) rfl rfl (by omega) (by omega) rfl ?_
    refine XP_n 1 (pc' := 5) (ls' := [.int (nI (44))]) (st' := [.int (nI (0))]) (M' := M) rfl ?_
    exact XP_ret rfl ⟨rfl, rfl⟩
  · unfold TP
    show XP X _ k_Reader_isSign 0 [.int (nI (45))] [] _ _
    refine XP_n 1 (pc' := 1) (ls' := [.int (nI (45))]) (st' := [.int (nI (45))]) (M' := M) rfl ?_
    refine XP_tab 45 40 61 2 rfl (by omega) rfl rfl (by omega) (by omega) rfl ?_
    refine XP_n 1 (pc' := 3) (ls' := [.int (nI (45))]) (st' := [.int (nI (1))]) (M' := M) rfl ?_
    exact XP_ret rfl ⟨rfl, rfl⟩
  · unfold TP
    show XP X _ k_Reader_isSign 0 [.int (nI (46))] [] _ _
    refine XP_n 1 (pc' := 1) (ls' := [.int (nI (46))]) (st' := [.int (nI (46))]) (M' := M) rfl ?_
    refine XP_tab 46 40 61 4 rfl (by omega) rfl rfl (by omega) (by omega) rfl ?_
    refine XP_n 1 (pc' := 5) (ls' := [.int (nI (46))]) (st' := [.int (nI (0))]) (M' := M) rfl ?_
    exact XP_ret rfl ⟨rfl, rfl⟩
  · unfold TP
    show XP X _ k_Reader_isSign 0 [.int (nI (47))] [] _ _
    refine XP_n 1 (pc' := 1) (ls' := [.int (nI (47))]) (st' := [.int (nI (47))]) (M' := M) rfl ?_
    refine XP_tab 47 40 61 4 rfl (by omega) rfl rfl (by omega) (by omega) rfl ?_
    refine XP_n 1 (pc' := 5) (ls' := [.int (nI (47))]) (st' := [.int (nI (0))]) (M' := M) rfl ?_
    exact XP_ret rfl ⟨rfl, rfl⟩
  · unfold TP
    show XP X _ k_Reader_isSign 0 [.int (nI (48))] [] _ _
    refine XP_n 1 (pc' := 1) (ls' := [.int (nI (48))]) (st' := [.int (nI (48))]) (M' := M) rfl ?_
    refine XP_tab 48 40 61 4 rfl (by omega) rfl rfl (by omega) (by omega) rfl ?_
    refine XP_n 1 (pc' := 5) (ls' := [.int (nI (48))]) (st' := [.int (nI (0))]) (M' := M) rfl ?_
    exact XP_ret rfl ⟨rfl, rfl⟩
  · unfold TP
    show XP X _ k_Reader_isSign 0 [.int (nI (49))] [] _ _
    refine XP_n 1 (pc' := 1) (ls' := [.int (nI (49))]) (st' := [.int (nI (49))]) (M' := M) rfl ?_
    refine XP_tab 49 40 61 4 rfl (by omega) rfl rfl (by omega) (by omega) rfl ?_
    refine XP_n 1 (pc' := 5) (ls' := [.int (nI (49))]) (st' := [.int (nI (0))]) (M' := M) rfl ?_
    exact XP_ret rfl ⟨rfl, rfl⟩
  · unfold TP
    show XP X _ k_Reader_isSign 0 [.int (nI (50))] [] _ _
    refine XP_n 1 (pc' := 1) (ls' := [.int (nI (50))]) (st' := [.int (nI (50))]) (M' := M) rfl ?_
    refine XP_tab 50 40 61 4 rfl (by omega) rfl rfl (by omega) (by omega) rfl ?_
    refine XP_n 1 (pc' := 5) (ls' := [.int (nI (50))]) (st' := [.int (nI (0))]) (M' := M) rfl ?_
    exact XP_ret rfl ⟨rfl, rfl⟩
  · unfold TP
    show XP X _ k_Reader_isSign 0 [.int (nI (51))] [] _ _
    refine XP_n 1 (pc' := 1) (ls' := [.int (nI (51))]) (st' := [.int (nI (51))]) (M' := M) rfl ?_
    refine XP_tab 51 40 61 4 rfl (by omega) rfl rfl (by omega) (by omega) rfl ?_
    refine XP_n 1 (pc' := 5) (ls' := [.int (nI (51))]) (st' := [.int (nI (0))]) (M' := M) rfl ?_
    exact XP_ret rfl ⟨rfl, rfl⟩
  · unfold TP
    show XP X _ k_Reader_isSign 0 [.int (nI (52))] [] _ _
    refine XP_n 1 (pc' := 1) (ls' := [.int (nI (52))]) (st' := [.int (nI (52))]) (M' := M) rfl ?_
    refine XP_tab 52 40 61 4 rfl (by omega) rfl rfl (by omega) (by omega) rfl ?_
    refine XP_n 1 (pc' := 5) (ls' := [.int (nI (52))]) (st' := [.int (nI (0))]) (M' := M) rfl ?_
    exact XP_ret rfl ⟨rfl, rfl⟩
  · unfold TP
    show XP X _ k_Reader_isSign 0 [.int (nI (53))] [] _ _
    refine XP_n 1 (pc' := 1) (ls' := [.int (nI (53))]) (st' := [.int (nI (53))]) (M' := M) rfl ?_
    refine XP_tab 53 40 61 4 rfl (by omega) rfl rfl (by omega) (by omega) rfl ?_
    refine XP_n 1 (pc' := 5) (ls' := [.int (nI (53))]) (st' := [.int (nI (0))]) (M' := M) rfl ?_
    exact XP_ret rfl ⟨rfl, rfl⟩
  · unfold TP
    show XP X _ k_Reader_isSign 0 [.int (nI (54))] [] _ _
    refine XP_n 1 (pc' := 1) (ls' := [.int (nI (54))]) (st' := [.int (nI (54))]) (M' := M) rfl ?_
    refine XP_tab 54 40 61 4 rfl (by omega) rfl rfl (by omega) (by omega) rfl ?_
    refine XP_n 1 (pc' := 5) (ls' := [.int (nI (54))]) (st' := [.int (nI (0))]) (M' := M) rfl ?_
    exact XP_ret rfl ⟨rfl, rfl⟩
  · unfold TP
    show XP X _ k_Reader_isSign 0 [.int (nI (55))] [] _ _
    refine XP_n 1 (pc' := 1) (ls' := [.int (nI (55))]) (st' := [.int (nI (55))]) (M' := M) rfl ?_
    refine XP_tab 55 40 61 4 rfl (by omega) rfl rfl (by omega) (by omega) rfl ?_
    refine XP_n 1 (pc' := 5) (ls' := [.int (nI (55))]) (st' := [.int (nI (0))]) (M' := M) rfl ?_
    exact XP_ret rfl ⟨rfl, rfl⟩
  · unfold TP
    show XP X _ k_Reader_isSign 0 [.int (nI (56))] [] _ _
    refine XP_n 1 (pc' := 1) (ls' := [.int (nI (56))]) (st' := [.int (nI (56))]) (M' := M) rfl ?_
    refine XP_tab 56 40 61 4 rfl (by omega) rfl rfl (by omega) (by omega) rfl ?_
    refine XP_n 1 (pc' := 5) (ls' := [.int (nI (56))]) (st' := [.int (nI (0))]) (M' := M) rfl ?_
    exact XP_ret rfl ⟨rfl, rfl⟩
  · unfold TP
    show XP X _ k_Reader_isSign 0 [.int (nI (57))] [] _ _
    refine XP_n 1 (pc' := 1) (ls' := [.int (nI (57))]) (st' := [.int (nI (57))]) (M' := M) rfl ?_
    refine XP_tab 57 40 61 4 rfl (by omega) rfl rfl (by omega) (by omega) rfl ?_
    refine XP_n 1 (pc' := 5) (ls' := [.int (nI (57))]) (st' := [.int (nI (0))]) (M' := M) rfl ?_
    exact XP_ret rfl ⟨rfl, rfl⟩
  · unfold TP
    show XP X _ k_Reader_isSign 0 [.int (nI (58))] [] _ _
    refine XP_n 1 (pc' := 1) (ls' := [.int (nI (58))]) (st' := [.int (nI (58))]) (M' := M) rfl ?_
    refine XP_tab 58 40 61 4 rfl (by omega) rfl rfl (by omega) (by omega) rfl ?_
    refine XP_n 1 (pc' := 5) (ls' := [.int (nI (58))]) (st' := [.int (nI (0))]) (M' := M) rfl ?_
    exact XP_ret rfl ⟨rfl, rfl⟩
  · unfold TP
    show XP X _ k_Reader_isSign 0 [.int (nI (59))] [] _ _
    refine XP_n 1 (pc' := 1) (ls' := [.int (nI (59))]) (st' := [.int (nI (59))]) (M' := M) rfl ?_
    refine XP_tab 59 40 61 2 rfl (by omega) rfl rfl (by omega) (by omega) rfl ?_
    refine XP_n 1 (pc' := 3) (ls' := [.int (nI (59))]) (st' := [.int (nI (1))]) (M' := M) rfl ?_
    exact XP_ret rfl ⟨rfl, rfl⟩
  · unfold TP
    show XP X _ k_Reader_isSign 0 [.int (nI (60))] [] _ _
    refine XP_n 1 (pc' := 1) (ls' := [.int (nI (60))]) (st' := [.int (nI (60))]) (M' := M) rfl ?_
    refine XP_tab 60 40 61 2 rfl (by omega) rfl rfl (by omega) (by omega) rfl ?_
    refine XP_n 1 (pc' := 3) (ls' := [.int (nI (60))]) (st' := [.int (nI (1))]) (M' := M) rfl ?_
    exact XP_ret rfl ⟨rfl, rfl⟩
  · unfold TP
    show XP X _ k_Reader_isSign 0 [.int (nI (61))] [] _ _
    refine XP_n 1 (pc' := 1) (ls' := [.int (nI (61))]) (st' := [.int (nI (61))]) (M' := M) rfl ?_
    refine XP_tab 61 40 61 2 rfl (by omega) rfl rfl (by omega) (by omega) rfl ?_
    refine XP_n 1 (pc' := 3) (ls' := [.int (nI (61))]) (st' := [.int (nI (1))]) (M' := M) rfl ?_
    exact XP_ret rfl ⟨rfl, rfl⟩
  · unfold TP
    show XP X _ k_Reader_isSign 0 [.int (nI (c))] [] _ _
    refine XP_n 1 (pc' := 1) (ls' := [.int (nI (c))]) (st' := [.int (nI (c))]) (M' := M) rfl ?_
    refine XP_tabD c 40 61 4 rfl (by omega) rfl rfl hx rfl ?_
    refine XP_n 1 (pc' := 5) (ls' := [.int (nI c)]) (st' := [.int (nI 0)]) (M' := M) rfl ?_
    have hf : ¬ isSg c = true := fun z => by have := isSg_c z; omega
    exact XP_ret rfl ⟨by rw [b2i_f hf]; rfl, rfl⟩
end
