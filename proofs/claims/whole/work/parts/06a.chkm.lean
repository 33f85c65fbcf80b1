theorem chk_1 : (List.range 11).all (fun y => decide (y < 1) || chkM y) = true := by decide +kernel
theorem chk_11 : (List.range 21).all (fun y => decide (y < 11) || chkM y) = true := by decide +kernel
theorem chk_21 : (List.range 31).all (fun y => decide (y < 21) || chkM y) = true := by decide +kernel
theorem chk_31 : (List.range 41).all (fun y => decide (y < 31) || chkM y) = true := by decide +kernel
theorem chk_41 : (List.range 51).all (fun y => decide (y < 41) || chkM y) = true := by decide +kernel
theorem chk_51 : (List.range 61).all (fun y => decide (y < 51) || chkM y) = true := by decide +kernel
theorem chk_61 : (List.range 71).all (fun y => decide (y < 61) || chkM y) = true := by decide +kernel
theorem chk_71 : (List.range 81).all (fun y => decide (y < 71) || chkM y) = true := by decide +kernel
theorem chk_81 : (List.range 91).all (fun y => decide (y < 81) || chkM y) = true := by decide +kernel
theorem chk_91 : (List.range 101).all (fun y => decide (y < 91) || chkM y) = true := by decide +kernel
theorem chk_101 : (List.range 111).all (fun y => decide (y < 101) || chkM y) = true := by decide +kernel
theorem chk_111 : (List.range 121).all (fun y => decide (y < 111) || chkM y) = true := by decide +kernel
theorem chk_121 : (List.range 131).all (fun y => decide (y < 121) || chkM y) = true := by decide +kernel
theorem chk_131 : (List.range 141).all (fun y => decide (y < 131) || chkM y) = true := by decide +kernel
theorem chk_141 : (List.range 151).all (fun y => decide (y < 141) || chkM y) = true := by decide +kernel
theorem chk_151 : (List.range 161).all (fun y => decide (y < 151) || chkM y) = true := by decide +kernel
theorem chk_161 : (List.range 171).all (fun y => decide (y < 161) || chkM y) = true := by decide +kernel
theorem chk_171 : (List.range 181).all (fun y => decide (y < 171) || chkM y) = true := by decide +kernel
theorem chk_181 : (List.range 191).all (fun y => decide (y < 181) || chkM y) = true := by decide +kernel
theorem chk_191 : (List.range 201).all (fun y => decide (y < 191) || chkM y) = true := by decide +kernel
theorem chk_201 : (List.range 211).all (fun y => decide (y < 201) || chkM y) = true := by decide +kernel
theorem chk_211 : (List.range 221).all (fun y => decide (y < 211) || chkM y) = true := by decide +kernel
theorem chk_221 : (List.range 231).all (fun y => decide (y < 221) || chkM y) = true := by decide +kernel
theorem chk_231 : (List.range 241).all (fun y => decide (y < 231) || chkM y) = true := by decide +kernel
theorem chk_241 : (List.range 251).all (fun y => decide (y < 241) || chkM y) = true := by decide +kernel
theorem chk_251 : (List.range 261).all (fun y => decide (y < 251) || chkM y) = true := by decide +kernel
theorem chk_261 : (List.range 271).all (fun y => decide (y < 261) || chkM y) = true := by decide +kernel
theorem chk_271 : (List.range 281).all (fun y => decide (y < 271) || chkM y) = true := by decide +kernel
theorem chk_281 : (List.range 286).all (fun y => decide (y < 281) || chkM y) = true := by decide +kernel
theorem chk_all {y : Nat} (h : y < 286) (hp : 0 < y) : chkM y = true := by
  have key : ∀ a b, (List.range b).all (fun y => decide (y < a) || chkM y) = true → a ≤ y → y < b → chkM y = true := by
    intro a b hb h1 h2
    have h3 := List.all_eq_true.mp hb y (List.mem_range.mpr h2)
    rcases Bool.or_eq_true _ _ ▸ h3 with h4 | h4
    · exact absurd (of_decide_eq_true h4) (by omega)
    · exact h4
  rcases Nat.lt_or_ge y 11 with q | q
  · exact key 1 11 chk_1 (by omega) q
  rcases Nat.lt_or_ge y 21 with q | q
  · exact key 11 21 chk_11 (by omega) q
  rcases Nat.lt_or_ge y 31 with q | q
  · exact key 21 31 chk_21 (by omega) q
  rcases Nat.lt_or_ge y 41 with q | q
  · exact key 31 41 chk_31 (by omega) q
  rcases Nat.lt_or_ge y 51 with q | q
  · exact key 41 51 chk_41 (by omega) q
  rcases Nat.lt_or_ge y 61 with q | q
  · exact key 51 61 chk_51 (by omega) q
  rcases Nat.lt_or_ge y 71 with q | q
  · exact key 61 71 chk_61 (by omega) q
  rcases Nat.lt_or_ge y 81 with q | q
  · exact key 71 81 chk_71 (by omega) q
  rcases Nat.lt_or_ge y 91 with q | q
  · exact key 81 91 chk_81 (by omega) q
  rcases Nat.lt_or_ge y 101 with q | q
  · exact key 91 101 chk_91 (by omega) q
  rcases Nat.lt_or_ge y 111 with q | q
  · exact key 101 111 chk_101 (by omega) q
  rcases Nat.lt_or_ge y 121 with q | q
  · exact key 111 121 chk_111 (by omega) q
  rcases Nat.lt_or_ge y 131 with q | q
  · exact key 121 131 chk_121 (by omega) q
  rcases Nat.lt_or_ge y 141 with q | q
  · exact key 131 141 chk_131 (by omega) q
  rcases Nat.lt_or_ge y 151 with q | q
  · exact key 141 151 chk_141 (by omega) q
  rcases Nat.lt_or_ge y 161 with q | q
  · exact key 151 161 chk_151 (by omega) q
  rcases Nat.lt_or_ge y 171 with q | q
  · exact key 161 171 chk_161 (by omega) q
  rcases Nat.lt_or_ge y 181 with q | q
  · exact key 171 181 chk_171 (by omega) q
  rcases Nat.lt_or_ge y 191 with q | q
  · exact key 181 191 chk_181 (by omega) q
  rcases Nat.lt_or_ge y 201 with q | q
  · exact key 191 201 chk_191 (by omega) q
  rcases Nat.lt_or_ge y 211 with q | q
  · exact key 201 211 chk_201 (by omega) q
  rcases Nat.lt_or_ge y 221 with q | q
  · exact key 211 221 chk_211 (by omega) q
  rcases Nat.lt_or_ge y 231 with q | q
  · exact key 221 231 chk_221 (by omega) q
  rcases Nat.lt_or_ge y 241 with q | q
  · exact key 231 241 chk_231 (by omega) q
  rcases Nat.lt_or_ge y 251 with q | q
  · exact key 241 251 chk_241 (by omega) q
  rcases Nat.lt_or_ge y 261 with q | q
  · exact key 251 261 chk_251 (by omega) q
  rcases Nat.lt_or_ge y 271 with q | q
  · exact key 261 271 chk_261 (by omega) q
  rcases Nat.lt_or_ge y 281 with q | q
  · exact key 271 281 chk_271 (by omega) q
  rcases Nat.lt_or_ge y 286 with q | q
  · exact key 281 286 chk_281 (by omega) q
  omega
