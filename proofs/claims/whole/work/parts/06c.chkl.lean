abbrev lawI (a : Nat) : Prop := (List.range 40).all (fun i => decide (1601 ≤ a + i) || chkI 0 (a + i)) = true
theorem lawc_0 : lawI 0 := by unfold lawI; decide +kernel
theorem lawc_40 : lawI 40 := by unfold lawI; decide +kernel
theorem lawc_80 : lawI 80 := by unfold lawI; decide +kernel
theorem lawc_120 : lawI 120 := by unfold lawI; decide +kernel
theorem lawc_160 : lawI 160 := by unfold lawI; decide +kernel
theorem lawc_200 : lawI 200 := by unfold lawI; decide +kernel
theorem lawc_240 : lawI 240 := by unfold lawI; decide +kernel
theorem lawc_280 : lawI 280 := by unfold lawI; decide +kernel
theorem lawc_320 : lawI 320 := by unfold lawI; decide +kernel
theorem lawc_360 : lawI 360 := by unfold lawI; decide +kernel
theorem lawc_400 : lawI 400 := by unfold lawI; decide +kernel
theorem lawc_440 : lawI 440 := by unfold lawI; decide +kernel
theorem lawc_480 : lawI 480 := by unfold lawI; decide +kernel
theorem lawc_520 : lawI 520 := by unfold lawI; decide +kernel
theorem lawc_560 : lawI 560 := by unfold lawI; decide +kernel
theorem lawc_600 : lawI 600 := by unfold lawI; decide +kernel
theorem lawc_640 : lawI 640 := by unfold lawI; decide +kernel
theorem lawc_680 : lawI 680 := by unfold lawI; decide +kernel
theorem lawc_720 : lawI 720 := by unfold lawI; decide +kernel
theorem lawc_760 : lawI 760 := by unfold lawI; decide +kernel
theorem lawc_800 : lawI 800 := by unfold lawI; decide +kernel
theorem lawc_840 : lawI 840 := by unfold lawI; decide +kernel
theorem lawc_880 : lawI 880 := by unfold lawI; decide +kernel
theorem lawc_920 : lawI 920 := by unfold lawI; decide +kernel
theorem lawc_960 : lawI 960 := by unfold lawI; decide +kernel
theorem lawc_1000 : lawI 1000 := by unfold lawI; decide +kernel
theorem lawc_1040 : lawI 1040 := by unfold lawI; decide +kernel
theorem lawc_1080 : lawI 1080 := by unfold lawI; decide +kernel
theorem lawc_1120 : lawI 1120 := by unfold lawI; decide +kernel
theorem lawc_1160 : lawI 1160 := by unfold lawI; decide +kernel
theorem lawc_1200 : lawI 1200 := by unfold lawI; decide +kernel
theorem lawc_1240 : lawI 1240 := by unfold lawI; decide +kernel
theorem lawc_1280 : lawI 1280 := by unfold lawI; decide +kernel
theorem lawc_1320 : lawI 1320 := by unfold lawI; decide +kernel
theorem lawc_1360 : lawI 1360 := by unfold lawI; decide +kernel
theorem lawc_1400 : lawI 1400 := by unfold lawI; decide +kernel
theorem lawc_1440 : lawI 1440 := by unfold lawI; decide +kernel
theorem lawc_1480 : lawI 1480 := by unfold lawI; decide +kernel
theorem lawc_1520 : lawI 1520 := by unfold lawI; decide +kernel
theorem lawc_1560 : lawI 1560 := by unfold lawI; decide +kernel
theorem lawc_1600 : lawI 1600 := by unfold lawI; decide +kernel
theorem law_all {i : Nat} (h : i < 1601) : chkI 0 i = true := by
  have key : ∀ a, lawI a → a ≤ i → i < a + 40 → chkI 0 i = true := by
    intro a hb h1 h2
    have h3 := List.all_eq_true.mp hb (i - a) (List.mem_range.mpr (by omega))
    rw [show a + (i - a) = i by omega] at h3
    rcases Bool.or_eq_true _ _ ▸ h3 with h4 | h4
    · exact absurd (of_decide_eq_true h4) (by omega)
    · exact h4
  rcases Nat.lt_or_ge i 40 with q | q
  · exact key 0 lawc_0 (by omega) q
  rcases Nat.lt_or_ge i 80 with q | q
  · exact key 40 lawc_40 (by omega) q
  rcases Nat.lt_or_ge i 120 with q | q
  · exact key 80 lawc_80 (by omega) q
  rcases Nat.lt_or_ge i 160 with q | q
  · exact key 120 lawc_120 (by omega) q
  rcases Nat.lt_or_ge i 200 with q | q
  · exact key 160 lawc_160 (by omega) q
  rcases Nat.lt_or_ge i 240 with q | q
  · exact key 200 lawc_200 (by omega) q
  rcases Nat.lt_or_ge i 280 with q | q
  · exact key 240 lawc_240 (by omega) q
  rcases Nat.lt_or_ge i 320 with q | q
  · exact key 280 lawc_280 (by omega) q
  rcases Nat.lt_or_ge i 360 with q | q
  · exact key 320 lawc_320 (by omega) q
  rcases Nat.lt_or_ge i 400 with q | q
  · exact key 360 lawc_360 (by omega) q
  rcases Nat.lt_or_ge i 440 with q | q
  · exact key 400 lawc_400 (by omega) q
  rcases Nat.lt_or_ge i 480 with q | q
  · exact key 440 lawc_440 (by omega) q
  rcases Nat.lt_or_ge i 520 with q | q
  · exact key 480 lawc_480 (by omega) q
  rcases Nat.lt_or_ge i 560 with q | q
  · exact key 520 lawc_520 (by omega) q
  rcases Nat.lt_or_ge i 600 with q | q
  · exact key 560 lawc_560 (by omega) q
  rcases Nat.lt_or_ge i 640 with q | q
  · exact key 600 lawc_600 (by omega) q
  rcases Nat.lt_or_ge i 680 with q | q
  · exact key 640 lawc_640 (by omega) q
  rcases Nat.lt_or_ge i 720 with q | q
  · exact key 680 lawc_680 (by omega) q
  rcases Nat.lt_or_ge i 760 with q | q
  · exact key 720 lawc_720 (by omega) q
  rcases Nat.lt_or_ge i 800 with q | q
  · exact key 760 lawc_760 (by omega) q
  rcases Nat.lt_or_ge i 840 with q | q
  · exact key 800 lawc_800 (by omega) q
  rcases Nat.lt_or_ge i 880 with q | q
  · exact key 840 lawc_840 (by omega) q
  rcases Nat.lt_or_ge i 920 with q | q
  · exact key 880 lawc_880 (by omega) q
  rcases Nat.lt_or_ge i 960 with q | q
  · exact key 920 lawc_920 (by omega) q
  rcases Nat.lt_or_ge i 1000 with q | q
  · exact key 960 lawc_960 (by omega) q
  rcases Nat.lt_or_ge i 1040 with q | q
  · exact key 1000 lawc_1000 (by omega) q
  rcases Nat.lt_or_ge i 1080 with q | q
  · exact key 1040 lawc_1040 (by omega) q
  rcases Nat.lt_or_ge i 1120 with q | q
  · exact key 1080 lawc_1080 (by omega) q
  rcases Nat.lt_or_ge i 1160 with q | q
  · exact key 1120 lawc_1120 (by omega) q
  rcases Nat.lt_or_ge i 1200 with q | q
  · exact key 1160 lawc_1160 (by omega) q
  rcases Nat.lt_or_ge i 1240 with q | q
  · exact key 1200 lawc_1200 (by omega) q
  rcases Nat.lt_or_ge i 1280 with q | q
  · exact key 1240 lawc_1240 (by omega) q
  rcases Nat.lt_or_ge i 1320 with q | q
  · exact key 1280 lawc_1280 (by omega) q
  rcases Nat.lt_or_ge i 1360 with q | q
  · exact key 1320 lawc_1320 (by omega) q
  rcases Nat.lt_or_ge i 1400 with q | q
  · exact key 1360 lawc_1360 (by omega) q
  rcases Nat.lt_or_ge i 1440 with q | q
  · exact key 1400 lawc_1400 (by omega) q
  rcases Nat.lt_or_ge i 1480 with q | q
  · exact key 1440 lawc_1440 (by omega) q
  rcases Nat.lt_or_ge i 1520 with q | q
  · exact key 1480 lawc_1480 (by omega) q
  rcases Nat.lt_or_ge i 1560 with q | q
  · exact key 1520 lawc_1520 (by omega) q
  rcases Nat.lt_or_ge i 1600 with q | q
  · exact key 1560 lawc_1560 (by omega) q
  rcases Nat.lt_or_ge i 1640 with q | q
  · exact key 1600 lawc_1600 (by omega) q
  omega
