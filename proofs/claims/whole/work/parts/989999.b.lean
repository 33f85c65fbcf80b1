/-! what holds after both constructors; the law's whole run -/
def iF : Nat → Nat → Int32 := i_M99 (rwR iH 99 (fun _ => 0))
def rF : Nat → Nat → Option Nat := r_M99 (rwR rH 99 (fun _ => none))
theorem rF_x : Rx rF = rF := Rx_fix (by decide +kernel)
theorem i_M_cg {I I' : Nat → Nat → Int32} {k : Nat} (h : I k = I' k) : i_M99 I k = i_M99 I' k := by
  unfold i_M99 i_first0 i_first4 i_first8
  repeat (first | exact h | refine rw2_cg ?_ | refine rwR_cg ?_)
/-- far labels hold nothing -/
def BigZ (I : Nat → Nat → Int32) : Prop := ∀ k, 144 ≤ k → ∀ j, I k j = 0
theorem BigZ.w {I : Nat → Nat → Int32} {k j : Nat} {v : Int32} (h : BigZ I) (hk : k < 144) : BigZ (rw2 I k j v) := fun a ha b => by
  rw [rw2_ro (by omega)]
  exact h a ha b
theorem BigZ.r {I : Nat → Nat → Int32} {k : Nat} {g : Nat → Int32} (h : BigZ I) (hk : k < 144) : BigZ (rwR I k g) := fun a ha b => by
  rw [rwR_n2 (by omega)]
  exact h a ha b
theorem BigZ.m {I : Nat → Nat → Int32} {k n : Nat} (h : BigZ I) : BigZ (mnI I k n) := fun a ha b => by
  unfold mnI
  split
  · rfl
  · exact h a ha b
theorem bigF : BigZ iF := by
  unfold iF iH iT iA I0b i_M99 i_first8 i_first4 i_first0 i_Sheet93 i_Sheet91 i_Sheet89 i_Sheet87 i_Image84 i_Bay80 i_Planner21 i_Arrays31 i_Plan76 i_Plan74 i_Plan72 i_Plan70 i_Plan68 i_Plan23 i_Course16 i_Rule14 i_Reader9 i_Coast1
  repeat (first | exact fun _ _ _ => rfl | refine BigZ.w ?_ (by decide) | refine BigZ.r ?_ (by decide) | refine BigZ.m ?_)
def zL : List Nat := [2, 3, 4, 5, 6, 7, 8, 78, 79, 81, 82, 86, 100, 101, 102, 103, 104, 105, 106, 107, 108, 109, 110, 111, 112, 113, 114, 115, 119]
theorem zf_2 : iF 2 = (fun _ => 0) := by
  funext j
  rfl
theorem zf_3 : iF 3 = (fun _ => 0) := by
  funext j
  rfl
theorem zf_4 : iF 4 = (fun _ => 0) := by
  funext j
  rfl
theorem zf_5 : iF 5 = (fun _ => 0) := by
  funext j
  rfl
theorem zf_6 : iF 6 = (fun _ => 0) := by
  funext j
  rfl
theorem zf_7 : iF 7 = (fun _ => 0) := by
  funext j
  rfl
theorem zf_8 : iF 8 = (fun _ => 0) := by
  funext j
  rfl
theorem zf_78 : iF 78 = (fun _ => 0) := by
  funext j
  rfl
theorem zf_79 : iF 79 = (fun _ => 0) := by
  funext j
  rfl
theorem zf_81 : iF 81 = (fun _ => 0) := by
  funext j
  rfl
theorem zf_82 : iF 82 = (fun _ => 0) := by
  funext j
  rfl
theorem zf_86 : iF 86 = (fun _ => 0) := by
  funext j
  rfl
theorem zf_100 : iF 100 = (fun _ => 0) := by
  funext j
  rfl
theorem zf_101 : iF 101 = (fun _ => 0) := by
  funext j
  rfl
theorem zf_102 : iF 102 = (fun _ => 0) := by
  funext j
  rfl
theorem zf_103 : iF 103 = (fun _ => 0) := by
  funext j
  rfl
theorem zf_104 : iF 104 = (fun _ => 0) := by
  funext j
  rfl
theorem zf_105 : iF 105 = (fun _ => 0) := by
  funext j
  rfl
theorem zf_106 : iF 106 = (fun _ => 0) := by
  funext j
  rfl
theorem zf_107 : iF 107 = (fun _ => 0) := by
  funext j
  rfl
theorem zf_108 : iF 108 = (fun _ => 0) := by
  funext j
  rfl
theorem zf_109 : iF 109 = (fun _ => 0) := by
  funext j
  rfl
theorem zf_110 : iF 110 = (fun _ => 0) := by
  funext j
  rfl
theorem zf_111 : iF 111 = (fun _ => 0) := by
  funext j
  rfl
theorem zf_112 : iF 112 = (fun _ => 0) := by
  funext j
  rfl
theorem zf_113 : iF 113 = (fun _ => 0) := by
  funext j
  rfl
theorem zf_114 : iF 114 = (fun _ => 0) := by
  funext j
  rfl
theorem zf_115 : iF 115 = (fun _ => 0) := by
  funext j
  rfl
theorem zf_119 : iF 119 = (fun _ => 0) := by
  funext j
  rfl
theorem zF : ∀ k, k ∈ zL → iF k = (fun _ => 0) := by
  intro k hk
  simp only [zL, List.mem_cons, List.not_mem_nil, or_false] at hk
  rcases hk with rfl | rfl | rfl | rfl | rfl | rfl | rfl | rfl | rfl | rfl | rfl | rfl | rfl | rfl | rfl | rfl | rfl | rfl | rfl | rfl | rfl | rfl | rfl | rfl | rfl | rfl | rfl | rfl | rfl
  · exact zf_2
  · exact zf_3
  · exact zf_4
  · exact zf_5
  · exact zf_6
  · exact zf_7
  · exact zf_8
  · exact zf_78
  · exact zf_79
  · exact zf_81
  · exact zf_82
  · exact zf_86
  · exact zf_100
  · exact zf_101
  · exact zf_102
  · exact zf_103
  · exact zf_104
  · exact zf_105
  · exact zf_106
  · exact zf_107
  · exact zf_108
  · exact zf_109
  · exact zf_110
  · exact zf_111
  · exact zf_112
  · exact zf_113
  · exact zf_114
  · exact zf_115
  · exact zf_119
/-- the state at the start, but for the tape and the first text's signs -/
def sF (I1 : Nat → Nat → Int32) : Nat → Nat → Int32 := fun k => if k = 10 ∨ k = 96 then I1 k else iF k
def okk (k : Nat) : Bool := !(Nat.beq k 9 || Nat.beq k 10 || Nat.beq k 11 || Nat.beq k 96)
def stP (k j : Nat) (q : Nat × Nat) : Bool := (Nat.beq q.1 k && Nat.beq q.2 j && !Nat.beq k 9 && !Nat.beq k 11) || (Nat.beq k 9 && Nat.beq j 1 && Nat.beq q.1 99 && Nat.beq q.2 27) || (okk k && okk q.1 && decide (iF k j = iF q.1 q.2))
def stW (k a : Nat) : Bool := (Nat.beq a k && !Nat.beq k 9 && !Nat.beq k 11) || (okk k && okk a && zL.any (Nat.beq k) && zL.any (Nat.beq a))
theorem stTab : ∀ k, k < 144 → rowOk (stP k) (stW k) (tabE k) = true := by decide +kernel
theorem okk_n {k : Nat} (h : okk k = true) : k ≠ 9 ∧ k ≠ 10 ∧ k ≠ 11 ∧ k ≠ 96 := by
  unfold okk at h
  rw [Bool.not_eq_true'] at h
  simp only [Bool.or_eq_false_iff] at h
  obtain ⟨⟨⟨a, b⟩, c⟩, e⟩ := h
  exact ⟨Nat.ne_of_beq_eq_false a, Nat.ne_of_beq_eq_false b, Nat.ne_of_beq_eq_false c, Nat.ne_of_beq_eq_false e⟩
theorem zl_m {k : Nat} (h : zL.any (Nat.beq k) = true) : k ∈ zL := by
  obtain ⟨a, ha, e⟩ := List.any_eq_true.mp h
  rw [Nat.eq_of_beq_eq_true e]
  exact ha
theorem mp_big {k j a b : Nat} (h : 1000 ≤ k) (hk : mp k j = some (a, b)) : a = k ∨ (107 ≤ a ∧ a ≤ 111) := by
  unfold mp at hk
  rw [blt_f (by omega), cond_false] at hk
  by_cases g : k < 3000
  · rw [blt_t g, cond_true] at hk
    right
    cases hb : Nat.beq (k % 2) 0 with
    | true =>
      rw [hb, cond_true] at hk
      split at hk
      all_goals first
        | (cases hk; done)
        | (injection hk with hk; injection hk with h1 h2; omega)
    | false =>
      rw [hb, cond_false] at hk
      cases hj : Nat.blt j 16 with
      | true =>
        rw [hj, cond_true] at hk
        injection hk with hk
        injection hk with h1 h2
        omega
      | false =>
        rw [hj, cond_false] at hk
        cases hk
  · rw [blt_f (by omega), cond_false] at hk
    left
    by_cases g2 : k < 8000
    · rw [blt_t g2, cond_true] at hk
      split at hk
      all_goals first
        | (cases hk; done)
        | (injection hk with hk; injection hk with h1 h2; exact h1.symm)
    · rw [blt_f (by omega), cond_false] at hk
      cases hk
section
variable {I1 : Nat → Nat → Int32} (h1 : ∀ k, k ≠ 9 → k ≠ 10 → k ≠ 11 → k ≠ 96 → I1 k = iH k) (h2 : I1 9 1 = nI 0) (h3 : ∀ j, j < 11 → I1 96 j = nI (trS (uF.getD j 0)))
theorem iM_k (h1 : ∀ k, k ≠ 9 → k ≠ 10 → k ≠ 11 → k ≠ 96 → I1 k = iH k) {k : Nat} (h : k ≠ 9 ∧ k ≠ 10 ∧ k ≠ 11 ∧ k ≠ 96) : i_M99 (rwR I1 99 (fun _ => 0)) k = iF k := i_M_cg (rwR_cg (h1 k h.1 h.2.1 h.2.2.1 h.2.2.2))
theorem iM_9 : i_M99 (rwR I1 99 (fun _ => 0)) 9 = I1 9 := by
  funext j
  rfl
theorem iM_10 : i_M99 (rwR I1 99 (fun _ => 0)) 10 = I1 10 := by
  funext j
  rfl
theorem iM_96 : i_M99 (rwR I1 99 (fun _ => 0)) 96 = I1 96 := by
  funext j
  rfl
theorem sF_k {k : Nat} (h : k ≠ 10 ∧ k ≠ 96) : sF I1 k = iF k := if_neg (fun z => by omega)
theorem iM_s (h1 : ∀ k, k ≠ 9 → k ≠ 10 → k ≠ 11 → k ≠ 96 → I1 k = iH k) {k : Nat} (h9 : k ≠ 9) (h11 : k ≠ 11) : i_M99 (rwR I1 99 (fun _ => 0)) k = sF I1 k := by
  by_cases g : k = 10
  · subst g
    exact iM_10
  · by_cases g2 : k = 96
    · subst g2
      exact iM_96
    · rw [iM_k h1 ⟨h9, g, h11, g2⟩, sF_k ⟨g, g2⟩]
theorem st_F (h1 : ∀ k, k ≠ 9 → k ≠ 10 → k ≠ 11 → k ≠ 96 → I1 k = iH k) (h2 : I1 9 1 = nI 0) : St (sF I1) (i_M99 (rwR I1 99 (fun _ => 0))) := fun k j a b hk => by
  by_cases g : k < 144
  · have hk2 := hk
    rw [mp_E (by omega)] at hk2
    rcases rowOk_p (stTab k g) hk2 with t | ⟨t, rfl⟩
    · unfold stP at t
      simp only [Bool.or_eq_true, Bool.and_eq_true, Bool.not_eq_true'] at t
      rcases t with (⟨⟨⟨t1, t2⟩, t3⟩, t4⟩ | ⟨⟨⟨t1, t2⟩, t3⟩, t4⟩) | ⟨⟨t1, t2⟩, t3⟩
      · obtain rfl : a = k := Nat.eq_of_beq_eq_true t1
        obtain rfl : b = j := Nat.eq_of_beq_eq_true t2
        rw [iM_s h1 (Nat.ne_of_beq_eq_false t3) (Nat.ne_of_beq_eq_false t4)]
      · obtain rfl : k = 9 := Nat.eq_of_beq_eq_true t1
        obtain rfl : j = 1 := Nat.eq_of_beq_eq_true t2
        obtain rfl : a = 99 := Nat.eq_of_beq_eq_true t3
        obtain rfl : b = 27 := Nat.eq_of_beq_eq_true t4
        rw [iM_9, h2]
        rfl
      · have n1 := okk_n t1
        have n2 := okk_n t2
        rw [iM_k h1 n1, sF_k ⟨n2.2.1, n2.2.2.2⟩]
        exact of_decide_eq_true t3
    · unfold stW at t
      simp only [Bool.or_eq_true, Bool.and_eq_true, Bool.not_eq_true'] at t
      rcases t with ⟨⟨t1, t3⟩, t4⟩ | ⟨⟨⟨t1, t2⟩, t3⟩, t4⟩
      · obtain rfl : a = k := Nat.eq_of_beq_eq_true t1
        rw [iM_s h1 (Nat.ne_of_beq_eq_false t3) (Nat.ne_of_beq_eq_false t4)]
      · have n1 := okk_n t1
        have n2 := okk_n t2
        rw [iM_k h1 n1, sF_k ⟨n2.2.1, n2.2.2.2⟩, zF k (zl_m t3), zF a (zl_m t4)]
  · by_cases g2 : k < 1000
    · rw [mp_E g2] at hk
      have e : tabE k = .inr [] := by
        unfold tabE
        rw [gd_big _ mpL _ (by have : mpL.length = 9 := rfl; omega)]
        rfl
      rw [e] at hk
      cases hk
    · rw [iM_k h1 (by omega), bigF k (by omega) j]
      rcases mp_big (by omega) hk with rfl | ha
      · rw [sF_k (by omega)]
        exact (bigF a (by omega) b).symm
      · rw [sF_k (by omega)]
        have : a = 107 ∨ a = 108 ∨ a = 109 ∨ a = 110 ∨ a = 111 := by omega
        rcases this with rfl | rfl | rfl | rfl | rfl
        · rw [zf_107]
        · rw [zf_108]
        · rw [zf_109]
        · rw [zf_110]
        · rw [zf_111]
theorem uF_b : ∀ j, j < 11 → uF.getD j 0 < 200000 := by decide
theorem uF_s : ∀ j, j < 11 → iF 117 j = nI (uF.getD j 0) := by decide +kernel
theorem uF_1 : WFp (fun j => uF.getD j 0) 0 3 := by unfold WFp okc; decide +kernel
theorem uF_2 : WFp (fun j => uF.getD j 0) 3 5 := by unfold WFp okc; decide +kernel
theorem uF_3 : WFp (fun j => uF.getD j 0) 8 3 := by unfold WFp okc; decide +kernel
theorem sF_q : ∀ j, j < 11 → tQ (sF I1) 0 j = uF.getD j 0 := fun j hj => by
  show wN (iF 117 (200 * 0 + j)) = _
  rw [Nat.mul_zero, Nat.zero_add, uF_s j hj, wN_nI (by have := uF_b j hj; omega)]
theorem sF_t : tK1 (sF I1) 0 = 3 ∧ tK2 (sF I1) 0 = 8 ∧ tLn (sF I1) 0 = 11 := ⟨wN_nI (n := 3) (by omega), wN_nI (n := 8) (by omega), wN_nI (n := 11) (by omega)⟩
theorem sF_c : cP (sF I1) = 0 ∧ cS (sF I1) = 0 ∧ cR (sF I1) = 0 ∧ cSt (sF I1) = 0 ∧ cT (sF I1) = 0 ∧ cTa (sF I1) = 0 ∧ cTx (sF I1) = 1 ∧ cLw (sF I1) = 0 := ⟨wN_nI (n := 0) (by omega), wN_nI (n := 0) (by omega), wN_nI (n := 0) (by omega), wN_nI (n := 0) (by omega), wN_nI (n := 0) (by omega), wN_nI (n := 0) (by omega), wN_nI (n := 1) (by omega), wN_nI (n := 0) (by omega)⟩
theorem wf_F : Wf (sF I1) := by
  obtain ⟨c1, c2, c3, c4, c5, c6, c7, c8⟩ := sF_c (I1 := I1)
  obtain ⟨t1, t2, t3⟩ := sF_t (I1 := I1)
  have z100 : sF I1 100 = fun _ => 0 := (sF_k (by omega)).trans zf_100
  have z119 : sF I1 119 = fun _ => 0 := (sF_k (by omega)).trans zf_119
  refine ⟨⟨⟨⟨8, by omega, by omega, rfl⟩, ⟨20, by omega, by omega, rfl⟩, ⟨100, by omega, by omega, rfl⟩, ⟨0, by omega, by omega, rfl⟩⟩, ⟨⟨0, by omega, by omega, rfl⟩, ⟨0, by omega, by omega, rfl⟩, ⟨0, by omega, by omega, rfl⟩, ⟨0, by omega, by omega, rfl⟩⟩, ⟨⟨0, by omega, by omega, rfl⟩, ⟨1, by omega, by omega, rfl⟩, ⟨0, by omega, by omega, rfl⟩, ⟨1, by omega, by omega, rfl⟩⟩, ⟨0, by omega, by omega, rfl⟩, by rw [c7, c8]; omega⟩, fun p hp => ?_, ⟨fun t ht => ?_, ?_⟩, fun r hr => ?_, fun t ht => ?_, fun t ht => ?_, fun i hi => ?_, fun t ht => ?_, fun i hi => ?_, ?_⟩
  · rw [c1] at hp; omega
  · rw [c2] at ht; omega
  · rw [c2]; exact Nat.zero_le _
  · rw [c3] at hr; omega
  · rw [c4] at ht; omega
  · rw [c5] at ht; omega
  · rw [c6] at hi; omega
  · rw [c7] at ht
    obtain rfl : t = 0 := by omega
    rw [t1, t2, t3]
    have hq : ∀ j, j < 11 → tQ (sF I1) 0 j = uF.getD j 0 := sF_q
    refine ⟨by omega, rfl, rfl, rfl, rfl, by omega, by omega, by omega, fun j hj => ?_, WFp_q (fun i hi => hq _ (by omega)) uF_1, WFp_q (fun i hi => hq _ (by omega)) uF_2, WFp_q (fun i hi => hq _ (by omega)) uF_3⟩
    rw [hq j hj]
    show iF 117 (200 * 0 + j) = _
    rw [Nat.mul_zero, Nat.zero_add]
    exact uF_s j hj
  · have : i = 0 ∨ i = 1 ∨ i = 2 ∨ i = 3 := by omega
    rcases this with rfl | rfl | rfl | rfl
    · exact ⟨Or.inl rfl, ⟨0, by omega, by omega, rfl⟩⟩
    · exact ⟨Or.inl rfl, ⟨0, by omega, by omega, rfl⟩⟩
    · exact ⟨Or.inl rfl, ⟨0, by omega, by omega, rfl⟩⟩
    · exact ⟨Or.inl rfl, ⟨0, by omega, by omega, rfl⟩⟩
  · refine ⟨⟨0, by omega, by omega, rfl⟩, fun z => ?_, fun p _ hp => ?_⟩
    · have e : sF I1 99 32 = nI 0 := rfl
      rw [e] at z
      exact absurd z (by decide)
    · rw [z100, z119]
      exact ⟨rfl, rfl⟩
theorem r12 : ∀ t, t < 6 → 1 ≤ t → rF 12 t = none := by decide +kernel
theorem r13 : ∀ r, r < 8 → rF 13 r = none := by decide +kernel
theorem lk_F {N : Nat → Nat} (h3 : ∀ j, j < 11 → I1 96 j = nI (trS (uF.getD j 0))) : Lk (sF I1) rF N := by
  obtain ⟨c1, c2, c3, c4, c5, c6, c7, c8⟩ := sF_c (I1 := I1)
  obtain ⟨t1, t2, t3⟩ := sF_t (I1 := I1)
  refine ⟨?_, fun t ht => ?_, fun t ht1 ht2 => ?_, fun r hr => ?_, fun r hr1 hr2 => ?_, rfl, rfl⟩
  · rw [c8, rF_x]
    rfl
  · rw [c7] at ht
    obtain rfl : t = 0 := by omega
    rw [t1, t2, t3]
    refine ⟨by rw [rF_x]; rfl, ⟨⟨rfl, by rw [rF_x]; rfl, by rw [rF_x]; rfl, by rw [rF_x]; rfl, rfl, rfl, rfl, rfl, rfl, rfl, by decide, by decide, by decide, by omega⟩, rfl, rfl, fun j hj => ?_⟩⟩
    rw [sF_q j hj]
    exact h3 j hj
  · rw [c7] at ht1
    rw [rF_x]
    exact r12 t ht2 ht1
  · rw [c3] at hr
    omega
  · rw [rF_x]
    exact r13 r hr2
theorem cch_F {J : Nat → Nat → Int64} (h1 : ∀ k, k ≠ 9 → k ≠ 10 → k ≠ 11 → k ≠ 96 → I1 k = iH k) : Cch (sF I1) (i_M99 (rwR I1 99 (fun _ => 0))) (j_M99 J) := by
  obtain ⟨c1, c2, c3, c4, c5, c6, c7, c8⟩ := sF_c (I1 := I1)
  refine ⟨fun p hp => ?_, fun q hq he => ?_, fun o ho => Or.inl ?_, fun q hq => Or.inl ?_, fun k hk => ?_⟩
  · rw [c1] at hp
    omega
  · rw [c1] at hq
    obtain rfl : q = 0 := by omega
    rw [iM_k h1 (by omega)] at he
    have e1 : iF (68 + 2 * 0) 2 = cI (-1) := rfl
    have e2 : sF I1 1 15 = nI 0 := rfl
    rw [e1, e2] at he
    exact absurd he (by decide)
  · rw [iM_k h1 (by omega)]
    have : o = 0 ∨ o = 1 ∨ o = 2 ∨ o = 3 := by omega
    rcases this with rfl | rfl | rfl | rfl <;> rfl
  · rw [iM_k h1 (by omega)]
    have : q = 0 ∨ q = 1 ∨ q = 2 ∨ q = 3 ∨ q = 4 := by omega
    rcases this with rfl | rfl | rfl | rfl | rfl <;> rfl
  · have : k = 0 ∨ k = 1 ∨ k = 2 ∨ k = 3 ∨ k = 4 ∨ k = 5 ∨ k = 6 ∨ k = 7 ∨ k = 8 ∨ k = 9 ∨ k = 10 ∨ k = 11 := by omega
    rcases this with rfl | rfl | rfl | rfl | rfl | rfl | rfl | rfl | rfl | rfl | rfl | rfl <;> rfl
end
theorem lawrun : LAWRUN := by
  intro X hX
  have h : XP X 1000 (mcode 0) 0 (ini 4 [.ref 9900]) [] M00 QL := by
    show XP X 1000 k_law 0 [.ref 9900, xj, xj, xj] [] M00 QL
    refine XP_nw (lab := 0) (G' := (0, 1, 0, 0, 15)) rfl (by decide +kernel) (by decide +kernel) rfl (by decide +kernel) ?_
    refine XP_n 1 (pc' := 2) (ls' := [.ref 9900, xj, xj, xj]) (st' := [.ref 0, .ref 0]) (M' := (I0b, J0b, R0b, fun _ => 0, (0, 1, 0, 0, 15))) rfl ?_
    refine XP_call (d := 999) rfl rfl (c_H_init (d := 899)) ?_
    rintro v1 M1 ⟨rfl, I1, rfl, h1, h2, h3⟩
    refine XP_n 1 (pc' := 4) (ls' := [.ref 9900, .ref 0, xj, xj]) (st' := []) (M' := (I1, jH, rH, fun _ => 0, (0, 99, 0, 0, 5743))) rfl ?_
    refine XP_nw (lab := 99) (G' := (0, 100, 0, 0, 5806)) rfl (by decide +kernel) (by decide +kernel) rfl (by decide +kernel) ?_
    refine XP_n 1 (pc' := 6) (ls' := [.ref 9900, .ref 0, xj, xj]) (st' := [.ref 99, .ref 99]) (M' := (rwR I1 99 (fun _ => 0), rwR jH 99 (fun _ => 0), rwR rH 99 (fun _ => none), fun _ => 0, (0, 100, 0, 0, 5806))) rfl ?_
    refine XP_call (d := 999) rfl rfl (z_M99 (d := 995)) ?_
    rintro v2 M2 ⟨rfl, rfl⟩
    refine XP_n 3 (pc' := 10) (ls' := lsL 0) (st' := []) (M' := (i_M99 (rwR I1 99 (fun _ => 0)), j_M99 (rwR jH 99 (fun _ => 0)), rF, fun _ => 0, (0, 133, 0, 0, 8911))) rfl ?_
    rw [← rF_x]
    obtain ⟨c1, c2, c3, c4, c5, c6, c7, c8⟩ := sF_c (I1 := I1)
    refine law_loop (d := 899) hX 100 0 (sF I1) _ _ rF _ _ (by omega) (by omega) ⟨st_F h1 h2, wf_F, lk_F h3, cch_F h1, ⟨0, by omega, by omega, rfl⟩⟩ ⟨rfl, ?_, ?_, ?_⟩ ?_
    · rw [c3]
    · rw [c7]
    · rw [c3, c7]
      show 8911 ≤ _
      omega
    · have e : sF I1 1 15 = nI 0 := rfl
      rw [e, wN_nI (by omega)]
      omega
  obtain ⟨n, v, M', e, hv, hc, hs⟩ := h
  subst hv
  exact ⟨n, M', e, hc, hs⟩
