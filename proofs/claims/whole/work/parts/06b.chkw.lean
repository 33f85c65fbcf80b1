theorem mwo_1 : (List.range 11).all (fun y => decide (y < 1) || mwok y) = true := by decide +kernel
theorem mwo_11 : (List.range 21).all (fun y => decide (y < 11) || mwok y) = true := by decide +kernel
theorem mwo_21 : (List.range 31).all (fun y => decide (y < 21) || mwok y) = true := by decide +kernel
theorem mwo_31 : (List.range 41).all (fun y => decide (y < 31) || mwok y) = true := by decide +kernel
theorem mwo_41 : (List.range 51).all (fun y => decide (y < 41) || mwok y) = true := by decide +kernel
theorem mwo_51 : (List.range 61).all (fun y => decide (y < 51) || mwok y) = true := by decide +kernel
theorem mwo_61 : (List.range 71).all (fun y => decide (y < 61) || mwok y) = true := by decide +kernel
theorem mwo_71 : (List.range 81).all (fun y => decide (y < 71) || mwok y) = true := by decide +kernel
theorem mwo_81 : (List.range 91).all (fun y => decide (y < 81) || mwok y) = true := by decide +kernel
theorem mwo_91 : (List.range 101).all (fun y => decide (y < 91) || mwok y) = true := by decide +kernel
theorem mwo_101 : (List.range 111).all (fun y => decide (y < 101) || mwok y) = true := by decide +kernel
theorem mwo_111 : (List.range 121).all (fun y => decide (y < 111) || mwok y) = true := by decide +kernel
theorem mwo_121 : (List.range 131).all (fun y => decide (y < 121) || mwok y) = true := by decide +kernel
theorem mwo_131 : (List.range 141).all (fun y => decide (y < 131) || mwok y) = true := by decide +kernel
theorem mwo_141 : (List.range 151).all (fun y => decide (y < 141) || mwok y) = true := by decide +kernel
theorem mwo_151 : (List.range 161).all (fun y => decide (y < 151) || mwok y) = true := by decide +kernel
theorem mwo_161 : (List.range 171).all (fun y => decide (y < 161) || mwok y) = true := by decide +kernel
theorem mwo_171 : (List.range 181).all (fun y => decide (y < 171) || mwok y) = true := by decide +kernel
theorem mwo_181 : (List.range 191).all (fun y => decide (y < 181) || mwok y) = true := by decide +kernel
theorem mwo_191 : (List.range 201).all (fun y => decide (y < 191) || mwok y) = true := by decide +kernel
theorem mwo_201 : (List.range 211).all (fun y => decide (y < 201) || mwok y) = true := by decide +kernel
theorem mwo_211 : (List.range 221).all (fun y => decide (y < 211) || mwok y) = true := by decide +kernel
theorem mwo_221 : (List.range 231).all (fun y => decide (y < 221) || mwok y) = true := by decide +kernel
theorem mwo_231 : (List.range 241).all (fun y => decide (y < 231) || mwok y) = true := by decide +kernel
theorem mwo_241 : (List.range 251).all (fun y => decide (y < 241) || mwok y) = true := by decide +kernel
theorem mwo_251 : (List.range 261).all (fun y => decide (y < 251) || mwok y) = true := by decide +kernel
theorem mwo_261 : (List.range 271).all (fun y => decide (y < 261) || mwok y) = true := by decide +kernel
theorem mwo_271 : (List.range 281).all (fun y => decide (y < 271) || mwok y) = true := by decide +kernel
theorem mwo_281 : (List.range 286).all (fun y => decide (y < 281) || mwok y) = true := by decide +kernel
theorem mwo_all {y : Nat} (h : y < 286) (hp : 0 < y) : mwok y = true := by
  have key : ∀ a b, (List.range b).all (fun y => decide (y < a) || mwok y) = true → a ≤ y → y < b → mwok y = true := by
    intro a b hb h1 h2
    have h3 := List.all_eq_true.mp hb y (List.mem_range.mpr h2)
    rcases Bool.or_eq_true _ _ ▸ h3 with h4 | h4
    · exact absurd (of_decide_eq_true h4) (by omega)
    · exact h4
  rcases Nat.lt_or_ge y 11 with q | q
  · exact key 1 11 mwo_1 (by omega) q
  rcases Nat.lt_or_ge y 21 with q | q
  · exact key 11 21 mwo_11 (by omega) q
  rcases Nat.lt_or_ge y 31 with q | q
  · exact key 21 31 mwo_21 (by omega) q
  rcases Nat.lt_or_ge y 41 with q | q
  · exact key 31 41 mwo_31 (by omega) q
  rcases Nat.lt_or_ge y 51 with q | q
  · exact key 41 51 mwo_41 (by omega) q
  rcases Nat.lt_or_ge y 61 with q | q
  · exact key 51 61 mwo_51 (by omega) q
  rcases Nat.lt_or_ge y 71 with q | q
  · exact key 61 71 mwo_61 (by omega) q
  rcases Nat.lt_or_ge y 81 with q | q
  · exact key 71 81 mwo_71 (by omega) q
  rcases Nat.lt_or_ge y 91 with q | q
  · exact key 81 91 mwo_81 (by omega) q
  rcases Nat.lt_or_ge y 101 with q | q
  · exact key 91 101 mwo_91 (by omega) q
  rcases Nat.lt_or_ge y 111 with q | q
  · exact key 101 111 mwo_101 (by omega) q
  rcases Nat.lt_or_ge y 121 with q | q
  · exact key 111 121 mwo_111 (by omega) q
  rcases Nat.lt_or_ge y 131 with q | q
  · exact key 121 131 mwo_121 (by omega) q
  rcases Nat.lt_or_ge y 141 with q | q
  · exact key 131 141 mwo_131 (by omega) q
  rcases Nat.lt_or_ge y 151 with q | q
  · exact key 141 151 mwo_141 (by omega) q
  rcases Nat.lt_or_ge y 161 with q | q
  · exact key 151 161 mwo_151 (by omega) q
  rcases Nat.lt_or_ge y 171 with q | q
  · exact key 161 171 mwo_161 (by omega) q
  rcases Nat.lt_or_ge y 181 with q | q
  · exact key 171 181 mwo_171 (by omega) q
  rcases Nat.lt_or_ge y 191 with q | q
  · exact key 181 191 mwo_181 (by omega) q
  rcases Nat.lt_or_ge y 201 with q | q
  · exact key 191 201 mwo_191 (by omega) q
  rcases Nat.lt_or_ge y 211 with q | q
  · exact key 201 211 mwo_201 (by omega) q
  rcases Nat.lt_or_ge y 221 with q | q
  · exact key 211 221 mwo_211 (by omega) q
  rcases Nat.lt_or_ge y 231 with q | q
  · exact key 221 231 mwo_221 (by omega) q
  rcases Nat.lt_or_ge y 241 with q | q
  · exact key 231 241 mwo_231 (by omega) q
  rcases Nat.lt_or_ge y 251 with q | q
  · exact key 241 251 mwo_241 (by omega) q
  rcases Nat.lt_or_ge y 261 with q | q
  · exact key 251 261 mwo_251 (by omega) q
  rcases Nat.lt_or_ge y 271 with q | q
  · exact key 261 271 mwo_261 (by omega) q
  rcases Nat.lt_or_ge y 281 with q | q
  · exact key 271 281 mwo_271 (by omega) q
  rcases Nat.lt_or_ge y 286 with q | q
  · exact key 281 286 mwo_281 (by omega) q
  omega
set_option maxRecDepth 100000 in
theorem mwc_1 : ∀ y ∈ [1, 2, 3, 4, 5, 6, 7, 8, 9, 10], mwC y := List.forall_mem_cons.mpr ⟨rfl, List.forall_mem_cons.mpr ⟨rfl, List.forall_mem_cons.mpr ⟨rfl, List.forall_mem_cons.mpr ⟨rfl, List.forall_mem_cons.mpr ⟨rfl, List.forall_mem_cons.mpr ⟨rfl, List.forall_mem_cons.mpr ⟨rfl, List.forall_mem_cons.mpr ⟨rfl, List.forall_mem_cons.mpr ⟨rfl, List.forall_mem_cons.mpr ⟨rfl, fun _ h => absurd h List.not_mem_nil⟩⟩⟩⟩⟩⟩⟩⟩⟩⟩
set_option maxRecDepth 100000 in
theorem mwc_11 : ∀ y ∈ [11, 12, 13, 14, 15, 16, 17, 18, 19, 20], mwC y := List.forall_mem_cons.mpr ⟨rfl, List.forall_mem_cons.mpr ⟨rfl, List.forall_mem_cons.mpr ⟨rfl, List.forall_mem_cons.mpr ⟨rfl, List.forall_mem_cons.mpr ⟨rfl, List.forall_mem_cons.mpr ⟨rfl, List.forall_mem_cons.mpr ⟨rfl, List.forall_mem_cons.mpr ⟨rfl, List.forall_mem_cons.mpr ⟨rfl, List.forall_mem_cons.mpr ⟨rfl, fun _ h => absurd h List.not_mem_nil⟩⟩⟩⟩⟩⟩⟩⟩⟩⟩
set_option maxRecDepth 100000 in
theorem mwc_21 : ∀ y ∈ [21, 22, 23, 24, 25, 26, 27, 28, 29, 30], mwC y := List.forall_mem_cons.mpr ⟨rfl, List.forall_mem_cons.mpr ⟨rfl, List.forall_mem_cons.mpr ⟨rfl, List.forall_mem_cons.mpr ⟨rfl, List.forall_mem_cons.mpr ⟨rfl, List.forall_mem_cons.mpr ⟨rfl, List.forall_mem_cons.mpr ⟨rfl, List.forall_mem_cons.mpr ⟨rfl, List.forall_mem_cons.mpr ⟨rfl, List.forall_mem_cons.mpr ⟨rfl, fun _ h => absurd h List.not_mem_nil⟩⟩⟩⟩⟩⟩⟩⟩⟩⟩
set_option maxRecDepth 100000 in
theorem mwc_31 : ∀ y ∈ [31, 32, 33, 34, 35, 36, 37, 38, 39, 40], mwC y := List.forall_mem_cons.mpr ⟨rfl, List.forall_mem_cons.mpr ⟨rfl, List.forall_mem_cons.mpr ⟨rfl, List.forall_mem_cons.mpr ⟨rfl, List.forall_mem_cons.mpr ⟨rfl, List.forall_mem_cons.mpr ⟨rfl, List.forall_mem_cons.mpr ⟨rfl, List.forall_mem_cons.mpr ⟨rfl, List.forall_mem_cons.mpr ⟨rfl, List.forall_mem_cons.mpr ⟨rfl, fun _ h => absurd h List.not_mem_nil⟩⟩⟩⟩⟩⟩⟩⟩⟩⟩
set_option maxRecDepth 100000 in
theorem mwc_41 : ∀ y ∈ [41, 42, 43, 44, 45, 46, 47, 48, 49, 50], mwC y := List.forall_mem_cons.mpr ⟨rfl, List.forall_mem_cons.mpr ⟨rfl, List.forall_mem_cons.mpr ⟨rfl, List.forall_mem_cons.mpr ⟨rfl, List.forall_mem_cons.mpr ⟨rfl, List.forall_mem_cons.mpr ⟨rfl, List.forall_mem_cons.mpr ⟨rfl, List.forall_mem_cons.mpr ⟨rfl, List.forall_mem_cons.mpr ⟨rfl, List.forall_mem_cons.mpr ⟨rfl, fun _ h => absurd h List.not_mem_nil⟩⟩⟩⟩⟩⟩⟩⟩⟩⟩
set_option maxRecDepth 100000 in
theorem mwc_51 : ∀ y ∈ [51, 52, 53, 54, 55, 56, 57, 58, 59, 60], mwC y := List.forall_mem_cons.mpr ⟨rfl, List.forall_mem_cons.mpr ⟨rfl, List.forall_mem_cons.mpr ⟨rfl, List.forall_mem_cons.mpr ⟨rfl, List.forall_mem_cons.mpr ⟨rfl, List.forall_mem_cons.mpr ⟨rfl, List.forall_mem_cons.mpr ⟨rfl, List.forall_mem_cons.mpr ⟨rfl, List.forall_mem_cons.mpr ⟨rfl, List.forall_mem_cons.mpr ⟨rfl, fun _ h => absurd h List.not_mem_nil⟩⟩⟩⟩⟩⟩⟩⟩⟩⟩
set_option maxRecDepth 100000 in
theorem mwc_61 : ∀ y ∈ [61, 62, 63, 64, 65, 66, 67, 68, 69, 70], mwC y := List.forall_mem_cons.mpr ⟨rfl, List.forall_mem_cons.mpr ⟨rfl, List.forall_mem_cons.mpr ⟨rfl, List.forall_mem_cons.mpr ⟨rfl, List.forall_mem_cons.mpr ⟨rfl, List.forall_mem_cons.mpr ⟨rfl, List.forall_mem_cons.mpr ⟨rfl, List.forall_mem_cons.mpr ⟨rfl, List.forall_mem_cons.mpr ⟨rfl, List.forall_mem_cons.mpr ⟨rfl, fun _ h => absurd h List.not_mem_nil⟩⟩⟩⟩⟩⟩⟩⟩⟩⟩
set_option maxRecDepth 100000 in
theorem mwc_71 : ∀ y ∈ [71, 72, 73, 74, 75, 76, 77, 78, 79, 80], mwC y := List.forall_mem_cons.mpr ⟨rfl, List.forall_mem_cons.mpr ⟨rfl, List.forall_mem_cons.mpr ⟨rfl, List.forall_mem_cons.mpr ⟨rfl, List.forall_mem_cons.mpr ⟨rfl, List.forall_mem_cons.mpr ⟨rfl, List.forall_mem_cons.mpr ⟨rfl, List.forall_mem_cons.mpr ⟨rfl, List.forall_mem_cons.mpr ⟨rfl, List.forall_mem_cons.mpr ⟨rfl, fun _ h => absurd h List.not_mem_nil⟩⟩⟩⟩⟩⟩⟩⟩⟩⟩
set_option maxRecDepth 100000 in
theorem mwc_81 : ∀ y ∈ [81, 82, 83, 84, 85, 86, 87, 88, 89, 90], mwC y := List.forall_mem_cons.mpr ⟨rfl, List.forall_mem_cons.mpr ⟨rfl, List.forall_mem_cons.mpr ⟨rfl, List.forall_mem_cons.mpr ⟨rfl, List.forall_mem_cons.mpr ⟨rfl, List.forall_mem_cons.mpr ⟨rfl, List.forall_mem_cons.mpr ⟨rfl, List.forall_mem_cons.mpr ⟨rfl, List.forall_mem_cons.mpr ⟨rfl, List.forall_mem_cons.mpr ⟨rfl, fun _ h => absurd h List.not_mem_nil⟩⟩⟩⟩⟩⟩⟩⟩⟩⟩
set_option maxRecDepth 100000 in
theorem mwc_91 : ∀ y ∈ [91, 92, 93, 94, 95, 96, 97, 98, 99, 100], mwC y := List.forall_mem_cons.mpr ⟨rfl, List.forall_mem_cons.mpr ⟨rfl, List.forall_mem_cons.mpr ⟨rfl, List.forall_mem_cons.mpr ⟨rfl, List.forall_mem_cons.mpr ⟨rfl, List.forall_mem_cons.mpr ⟨rfl, List.forall_mem_cons.mpr ⟨rfl, List.forall_mem_cons.mpr ⟨rfl, List.forall_mem_cons.mpr ⟨rfl, List.forall_mem_cons.mpr ⟨rfl, fun _ h => absurd h List.not_mem_nil⟩⟩⟩⟩⟩⟩⟩⟩⟩⟩
set_option maxRecDepth 100000 in
theorem mwc_101 : ∀ y ∈ [101, 102, 103, 104, 105, 106, 107, 108, 109, 110], mwC y := List.forall_mem_cons.mpr ⟨rfl, List.forall_mem_cons.mpr ⟨rfl, List.forall_mem_cons.mpr ⟨rfl, List.forall_mem_cons.mpr ⟨rfl, List.forall_mem_cons.mpr ⟨rfl, List.forall_mem_cons.mpr ⟨rfl, List.forall_mem_cons.mpr ⟨rfl, List.forall_mem_cons.mpr ⟨rfl, List.forall_mem_cons.mpr ⟨rfl, List.forall_mem_cons.mpr ⟨rfl, fun _ h => absurd h List.not_mem_nil⟩⟩⟩⟩⟩⟩⟩⟩⟩⟩
set_option maxRecDepth 100000 in
theorem mwc_111 : ∀ y ∈ [111, 112, 113, 114, 115, 116, 117, 118, 119, 120], mwC y := List.forall_mem_cons.mpr ⟨rfl, List.forall_mem_cons.mpr ⟨rfl, List.forall_mem_cons.mpr ⟨rfl, List.forall_mem_cons.mpr ⟨rfl, List.forall_mem_cons.mpr ⟨rfl, List.forall_mem_cons.mpr ⟨rfl, List.forall_mem_cons.mpr ⟨rfl, List.forall_mem_cons.mpr ⟨rfl, List.forall_mem_cons.mpr ⟨rfl, List.forall_mem_cons.mpr ⟨rfl, fun _ h => absurd h List.not_mem_nil⟩⟩⟩⟩⟩⟩⟩⟩⟩⟩
set_option maxRecDepth 100000 in
theorem mwc_121 : ∀ y ∈ [121, 122, 123, 124, 125, 126, 127, 128, 129, 130], mwC y := List.forall_mem_cons.mpr ⟨rfl, List.forall_mem_cons.mpr ⟨rfl, List.forall_mem_cons.mpr ⟨rfl, List.forall_mem_cons.mpr ⟨rfl, List.forall_mem_cons.mpr ⟨rfl, List.forall_mem_cons.mpr ⟨rfl, List.forall_mem_cons.mpr ⟨rfl, List.forall_mem_cons.mpr ⟨rfl, List.forall_mem_cons.mpr ⟨rfl, List.forall_mem_cons.mpr ⟨rfl, fun _ h => absurd h List.not_mem_nil⟩⟩⟩⟩⟩⟩⟩⟩⟩⟩
set_option maxRecDepth 100000 in
theorem mwc_131 : ∀ y ∈ [131, 132, 133, 134, 135, 136, 137, 138, 139, 140], mwC y := List.forall_mem_cons.mpr ⟨rfl, List.forall_mem_cons.mpr ⟨rfl, List.forall_mem_cons.mpr ⟨rfl, List.forall_mem_cons.mpr ⟨rfl, List.forall_mem_cons.mpr ⟨rfl, List.forall_mem_cons.mpr ⟨rfl, List.forall_mem_cons.mpr ⟨rfl, List.forall_mem_cons.mpr ⟨rfl, List.forall_mem_cons.mpr ⟨rfl, List.forall_mem_cons.mpr ⟨rfl, fun _ h => absurd h List.not_mem_nil⟩⟩⟩⟩⟩⟩⟩⟩⟩⟩
set_option maxRecDepth 100000 in
theorem mwc_141 : ∀ y ∈ [141, 142, 143, 144, 145, 146, 147, 148, 149, 150], mwC y := List.forall_mem_cons.mpr ⟨rfl, List.forall_mem_cons.mpr ⟨rfl, List.forall_mem_cons.mpr ⟨rfl, List.forall_mem_cons.mpr ⟨rfl, List.forall_mem_cons.mpr ⟨rfl, List.forall_mem_cons.mpr ⟨rfl, List.forall_mem_cons.mpr ⟨rfl, List.forall_mem_cons.mpr ⟨rfl, List.forall_mem_cons.mpr ⟨rfl, List.forall_mem_cons.mpr ⟨rfl, fun _ h => absurd h List.not_mem_nil⟩⟩⟩⟩⟩⟩⟩⟩⟩⟩
set_option maxRecDepth 100000 in
theorem mwc_151 : ∀ y ∈ [151, 152, 153, 154, 155, 156, 157, 158, 159, 160], mwC y := List.forall_mem_cons.mpr ⟨rfl, List.forall_mem_cons.mpr ⟨rfl, List.forall_mem_cons.mpr ⟨rfl, List.forall_mem_cons.mpr ⟨rfl, List.forall_mem_cons.mpr ⟨rfl, List.forall_mem_cons.mpr ⟨rfl, List.forall_mem_cons.mpr ⟨rfl, List.forall_mem_cons.mpr ⟨rfl, List.forall_mem_cons.mpr ⟨rfl, List.forall_mem_cons.mpr ⟨rfl, fun _ h => absurd h List.not_mem_nil⟩⟩⟩⟩⟩⟩⟩⟩⟩⟩
set_option maxRecDepth 100000 in
theorem mwc_161 : ∀ y ∈ [161, 162, 163, 164, 165, 166, 167, 168, 169, 170], mwC y := List.forall_mem_cons.mpr ⟨rfl, List.forall_mem_cons.mpr ⟨rfl, List.forall_mem_cons.mpr ⟨rfl, List.forall_mem_cons.mpr ⟨rfl, List.forall_mem_cons.mpr ⟨rfl, List.forall_mem_cons.mpr ⟨rfl, List.forall_mem_cons.mpr ⟨rfl, List.forall_mem_cons.mpr ⟨rfl, List.forall_mem_cons.mpr ⟨rfl, List.forall_mem_cons.mpr ⟨rfl, fun _ h => absurd h List.not_mem_nil⟩⟩⟩⟩⟩⟩⟩⟩⟩⟩
set_option maxRecDepth 100000 in
theorem mwc_171 : ∀ y ∈ [171, 172, 173, 174, 175, 176, 177, 178, 179, 180], mwC y := List.forall_mem_cons.mpr ⟨rfl, List.forall_mem_cons.mpr ⟨rfl, List.forall_mem_cons.mpr ⟨rfl, List.forall_mem_cons.mpr ⟨rfl, List.forall_mem_cons.mpr ⟨rfl, List.forall_mem_cons.mpr ⟨rfl, List.forall_mem_cons.mpr ⟨rfl, List.forall_mem_cons.mpr ⟨rfl, List.forall_mem_cons.mpr ⟨rfl, List.forall_mem_cons.mpr ⟨rfl, fun _ h => absurd h List.not_mem_nil⟩⟩⟩⟩⟩⟩⟩⟩⟩⟩
set_option maxRecDepth 100000 in
theorem mwc_181 : ∀ y ∈ [181, 182, 183, 184, 185, 186, 187, 188, 189, 190], mwC y := List.forall_mem_cons.mpr ⟨rfl, List.forall_mem_cons.mpr ⟨rfl, List.forall_mem_cons.mpr ⟨rfl, List.forall_mem_cons.mpr ⟨rfl, List.forall_mem_cons.mpr ⟨rfl, List.forall_mem_cons.mpr ⟨rfl, List.forall_mem_cons.mpr ⟨rfl, List.forall_mem_cons.mpr ⟨rfl, List.forall_mem_cons.mpr ⟨rfl, List.forall_mem_cons.mpr ⟨rfl, fun _ h => absurd h List.not_mem_nil⟩⟩⟩⟩⟩⟩⟩⟩⟩⟩
set_option maxRecDepth 100000 in
theorem mwc_191 : ∀ y ∈ [191, 192, 193, 194, 195, 196, 197, 198, 199, 200], mwC y := List.forall_mem_cons.mpr ⟨rfl, List.forall_mem_cons.mpr ⟨rfl, List.forall_mem_cons.mpr ⟨rfl, List.forall_mem_cons.mpr ⟨rfl, List.forall_mem_cons.mpr ⟨rfl, List.forall_mem_cons.mpr ⟨rfl, List.forall_mem_cons.mpr ⟨rfl, List.forall_mem_cons.mpr ⟨rfl, List.forall_mem_cons.mpr ⟨rfl, List.forall_mem_cons.mpr ⟨rfl, fun _ h => absurd h List.not_mem_nil⟩⟩⟩⟩⟩⟩⟩⟩⟩⟩
set_option maxRecDepth 100000 in
theorem mwc_201 : ∀ y ∈ [201, 202, 203, 204, 205, 206, 207, 208, 209, 210], mwC y := List.forall_mem_cons.mpr ⟨rfl, List.forall_mem_cons.mpr ⟨rfl, List.forall_mem_cons.mpr ⟨rfl, List.forall_mem_cons.mpr ⟨rfl, List.forall_mem_cons.mpr ⟨rfl, List.forall_mem_cons.mpr ⟨rfl, List.forall_mem_cons.mpr ⟨rfl, List.forall_mem_cons.mpr ⟨rfl, List.forall_mem_cons.mpr ⟨rfl, List.forall_mem_cons.mpr ⟨rfl, fun _ h => absurd h List.not_mem_nil⟩⟩⟩⟩⟩⟩⟩⟩⟩⟩
set_option maxRecDepth 100000 in
theorem mwc_211 : ∀ y ∈ [211, 212, 213, 214, 215, 216, 217, 218, 219, 220], mwC y := List.forall_mem_cons.mpr ⟨rfl, List.forall_mem_cons.mpr ⟨rfl, List.forall_mem_cons.mpr ⟨rfl, List.forall_mem_cons.mpr ⟨rfl, List.forall_mem_cons.mpr ⟨rfl, List.forall_mem_cons.mpr ⟨rfl, List.forall_mem_cons.mpr ⟨rfl, List.forall_mem_cons.mpr ⟨rfl, List.forall_mem_cons.mpr ⟨rfl, List.forall_mem_cons.mpr ⟨rfl, fun _ h => absurd h List.not_mem_nil⟩⟩⟩⟩⟩⟩⟩⟩⟩⟩
set_option maxRecDepth 100000 in
theorem mwc_221 : ∀ y ∈ [221, 222, 223, 224, 225, 226, 227, 228, 229, 230], mwC y := List.forall_mem_cons.mpr ⟨rfl, List.forall_mem_cons.mpr ⟨rfl, List.forall_mem_cons.mpr ⟨rfl, List.forall_mem_cons.mpr ⟨rfl, List.forall_mem_cons.mpr ⟨rfl, List.forall_mem_cons.mpr ⟨rfl, List.forall_mem_cons.mpr ⟨rfl, List.forall_mem_cons.mpr ⟨rfl, List.forall_mem_cons.mpr ⟨rfl, List.forall_mem_cons.mpr ⟨rfl, fun _ h => absurd h List.not_mem_nil⟩⟩⟩⟩⟩⟩⟩⟩⟩⟩
set_option maxRecDepth 100000 in
theorem mwc_231 : ∀ y ∈ [231, 232, 233, 234, 235, 236, 237, 238, 239, 240], mwC y := List.forall_mem_cons.mpr ⟨rfl, List.forall_mem_cons.mpr ⟨rfl, List.forall_mem_cons.mpr ⟨rfl, List.forall_mem_cons.mpr ⟨rfl, List.forall_mem_cons.mpr ⟨rfl, List.forall_mem_cons.mpr ⟨rfl, List.forall_mem_cons.mpr ⟨rfl, List.forall_mem_cons.mpr ⟨rfl, List.forall_mem_cons.mpr ⟨rfl, List.forall_mem_cons.mpr ⟨rfl, fun _ h => absurd h List.not_mem_nil⟩⟩⟩⟩⟩⟩⟩⟩⟩⟩
set_option maxRecDepth 100000 in
theorem mwc_241 : ∀ y ∈ [241, 242, 243, 244, 245, 246, 247, 248, 249, 250], mwC y := List.forall_mem_cons.mpr ⟨rfl, List.forall_mem_cons.mpr ⟨rfl, List.forall_mem_cons.mpr ⟨rfl, List.forall_mem_cons.mpr ⟨rfl, List.forall_mem_cons.mpr ⟨rfl, List.forall_mem_cons.mpr ⟨rfl, List.forall_mem_cons.mpr ⟨rfl, List.forall_mem_cons.mpr ⟨rfl, List.forall_mem_cons.mpr ⟨rfl, List.forall_mem_cons.mpr ⟨rfl, fun _ h => absurd h List.not_mem_nil⟩⟩⟩⟩⟩⟩⟩⟩⟩⟩
set_option maxRecDepth 100000 in
theorem mwc_251 : ∀ y ∈ [251, 252, 253, 254, 255, 256, 257, 258, 259, 260], mwC y := List.forall_mem_cons.mpr ⟨rfl, List.forall_mem_cons.mpr ⟨rfl, List.forall_mem_cons.mpr ⟨rfl, List.forall_mem_cons.mpr ⟨rfl, List.forall_mem_cons.mpr ⟨rfl, List.forall_mem_cons.mpr ⟨rfl, List.forall_mem_cons.mpr ⟨rfl, List.forall_mem_cons.mpr ⟨rfl, List.forall_mem_cons.mpr ⟨rfl, List.forall_mem_cons.mpr ⟨rfl, fun _ h => absurd h List.not_mem_nil⟩⟩⟩⟩⟩⟩⟩⟩⟩⟩
set_option maxRecDepth 100000 in
theorem mwc_261 : ∀ y ∈ [261, 262, 263, 264, 265, 266, 267, 268, 269, 270], mwC y := List.forall_mem_cons.mpr ⟨rfl, List.forall_mem_cons.mpr ⟨rfl, List.forall_mem_cons.mpr ⟨rfl, List.forall_mem_cons.mpr ⟨rfl, List.forall_mem_cons.mpr ⟨rfl, List.forall_mem_cons.mpr ⟨rfl, List.forall_mem_cons.mpr ⟨rfl, List.forall_mem_cons.mpr ⟨rfl, List.forall_mem_cons.mpr ⟨rfl, List.forall_mem_cons.mpr ⟨rfl, fun _ h => absurd h List.not_mem_nil⟩⟩⟩⟩⟩⟩⟩⟩⟩⟩
set_option maxRecDepth 100000 in
theorem mwc_271 : ∀ y ∈ [271, 272, 273, 274, 275, 276, 277, 278, 279, 280], mwC y := List.forall_mem_cons.mpr ⟨rfl, List.forall_mem_cons.mpr ⟨rfl, List.forall_mem_cons.mpr ⟨rfl, List.forall_mem_cons.mpr ⟨rfl, List.forall_mem_cons.mpr ⟨rfl, List.forall_mem_cons.mpr ⟨rfl, List.forall_mem_cons.mpr ⟨rfl, List.forall_mem_cons.mpr ⟨rfl, List.forall_mem_cons.mpr ⟨rfl, List.forall_mem_cons.mpr ⟨rfl, fun _ h => absurd h List.not_mem_nil⟩⟩⟩⟩⟩⟩⟩⟩⟩⟩
set_option maxRecDepth 100000 in
theorem mwc_281 : ∀ y ∈ [281, 282, 283, 284, 285], mwC y := List.forall_mem_cons.mpr ⟨rfl, List.forall_mem_cons.mpr ⟨rfl, List.forall_mem_cons.mpr ⟨rfl, List.forall_mem_cons.mpr ⟨rfl, List.forall_mem_cons.mpr ⟨rfl, fun _ h => absurd h List.not_mem_nil⟩⟩⟩⟩⟩
theorem mwc_all {y : Nat} (h : y < 286) (hp : 0 < y) : mwC y := by
  rcases Nat.lt_or_ge y 11 with q | q
  · exact mwc_1 y (by simp; omega)
  rcases Nat.lt_or_ge y 21 with q | q
  · exact mwc_11 y (by simp; omega)
  rcases Nat.lt_or_ge y 31 with q | q
  · exact mwc_21 y (by simp; omega)
  rcases Nat.lt_or_ge y 41 with q | q
  · exact mwc_31 y (by simp; omega)
  rcases Nat.lt_or_ge y 51 with q | q
  · exact mwc_41 y (by simp; omega)
  rcases Nat.lt_or_ge y 61 with q | q
  · exact mwc_51 y (by simp; omega)
  rcases Nat.lt_or_ge y 71 with q | q
  · exact mwc_61 y (by simp; omega)
  rcases Nat.lt_or_ge y 81 with q | q
  · exact mwc_71 y (by simp; omega)
  rcases Nat.lt_or_ge y 91 with q | q
  · exact mwc_81 y (by simp; omega)
  rcases Nat.lt_or_ge y 101 with q | q
  · exact mwc_91 y (by simp; omega)
  rcases Nat.lt_or_ge y 111 with q | q
  · exact mwc_101 y (by simp; omega)
  rcases Nat.lt_or_ge y 121 with q | q
  · exact mwc_111 y (by simp; omega)
  rcases Nat.lt_or_ge y 131 with q | q
  · exact mwc_121 y (by simp; omega)
  rcases Nat.lt_or_ge y 141 with q | q
  · exact mwc_131 y (by simp; omega)
  rcases Nat.lt_or_ge y 151 with q | q
  · exact mwc_141 y (by simp; omega)
  rcases Nat.lt_or_ge y 161 with q | q
  · exact mwc_151 y (by simp; omega)
  rcases Nat.lt_or_ge y 171 with q | q
  · exact mwc_161 y (by simp; omega)
  rcases Nat.lt_or_ge y 181 with q | q
  · exact mwc_171 y (by simp; omega)
  rcases Nat.lt_or_ge y 191 with q | q
  · exact mwc_181 y (by simp; omega)
  rcases Nat.lt_or_ge y 201 with q | q
  · exact mwc_191 y (by simp; omega)
  rcases Nat.lt_or_ge y 211 with q | q
  · exact mwc_201 y (by simp; omega)
  rcases Nat.lt_or_ge y 221 with q | q
  · exact mwc_211 y (by simp; omega)
  rcases Nat.lt_or_ge y 231 with q | q
  · exact mwc_221 y (by simp; omega)
  rcases Nat.lt_or_ge y 241 with q | q
  · exact mwc_231 y (by simp; omega)
  rcases Nat.lt_or_ge y 251 with q | q
  · exact mwc_241 y (by simp; omega)
  rcases Nat.lt_or_ge y 261 with q | q
  · exact mwc_251 y (by simp; omega)
  rcases Nat.lt_or_ge y 271 with q | q
  · exact mwc_261 y (by simp; omega)
  rcases Nat.lt_or_ge y 281 with q | q
  · exact mwc_271 y (by simp; omega)
  rcases Nat.lt_or_ge y 286 with q | q
  · exact mwc_281 y (by simp; omega)
  omega
