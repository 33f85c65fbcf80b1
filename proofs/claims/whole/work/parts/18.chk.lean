/-! CHK, put together out of parts 06a to 06c -/
theorem law_len : (mpcs 0).length = 1601 := by decide +kernel
theorem law_mlen : (mcode 0).length = 1601 := by decide +kernel
theorem law_pc0 : pcA 0 0 = 0 := by decide +kernel
theorem chk : CHK := by
  refine ⟨fun y hy i hi => ?_, fun y hy => ?_, fun y hy h0 => ⟨mwo_all hy h0, mwc_all hy h0⟩⟩
  · rcases Nat.eq_zero_or_pos y with h | h
    · subst h
      exact law_all (by rw [← law_len]; exact hi)
    · have h1 := chk_all hy h
      unfold chkM at h1
      simp only [Bool.and_eq_true] at h1
      exact List.all_eq_true.mp h1.1.1 i (List.mem_range.mpr hi)
  · rcases Nat.eq_zero_or_pos y with h | h
    · subst h
      exact ⟨law_len.trans law_mlen.symm, law_pc0⟩
    · have h1 := chk_all hy h
      unfold chkM at h1
      simp only [Bool.and_eq_true, decide_eq_true_eq] at h1
      exact ⟨h1.1.2, h1.2⟩
