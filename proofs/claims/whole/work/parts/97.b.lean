/-! setters: sheet, cell -/
theorem mpC_s0 {i : Nat} (h : i < 4) : mpC (87 + 2 * i) 0 = some (120, i) := four_cases (P := fun i => mpC (87 + 2 * i) 0 = some (120, i)) rfl rfl rfl rfl i h
theorem mpC_s1 {i : Nat} (h : i < 4) : mpC (87 + 2 * i) 1 = some (121, i) := four_cases (P := fun i => mpC (87 + 2 * i) 1 = some (121, i)) rfl rfl rfl rfl i h
theorem isC_s {k : Nat} (h : k < 99) : isC k = true := by
  unfold isC
  rw [blt_t h, Bool.true_or]
theorem isC_f {k : Nat} (h : isC k = false) : 99 ≤ k ∧ k < 1000 := by
  unfold isC at h
  rcases Nat.lt_or_ge k 99 with g | g
  · rw [blt_t g] at h; cases h
  · rcases Nat.lt_or_ge k 1000 with g2 | g2
    · exact ⟨g, g2⟩
    · rw [show Nat.ble 1000 k = true from Nat.ble_eq.mpr g2, Bool.or_true] at h; cases h
theorem isC_t {k : Nat} (h : isC k = true) : k < 99 ∨ 1000 ≤ k := by
  unfold isC at h
  rw [Bool.or_eq_true] at h
  rcases h with h | h
  · exact Or.inl (Nat.le_of_ble_eq_true h)
  · exact Or.inr (Nat.le_of_ble_eq_true h)
/-- a change of the host's rows alone -/
theorem Wf_sh {s s' : Nat → Nat → Int32} (hW : Wf s) (h : ∀ k, k < 120 → s' k = s k) (hs : WfSh s') : Wf s' := by
  have e99 := h 99 (by omega)
  have e117 := h 117 (by omega)
  have e118 := h 118 (by omega)
  obtain ⟨a, b, c, d, e, f, g, i, -, j⟩ := hW
  refine ⟨?_, ?_, ?_, ?_, ?_, ?_, ?_, ?_, hs, ?_⟩
  · unfold WfF cLw cTx at a ⊢
    rw [e99]
    exact a
  · unfold WfP cP at b ⊢
    rw [e99, h 100 (by omega), h 101 (by omega), h 102 (by omega), h 103 (by omega), h 104 (by omega)]
    exact b
  · have e1 : rOf s' = rOf s := by funext t; unfold rOf; rw [h 106 (by omega)]
    unfold WfS cS at c ⊢
    rw [e1, e99, h 105 (by omega), h 106 (by omega)]
    exact c
  · unfold WfR cR rKd at d ⊢
    rw [e99, h 107 (by omega), h 108 (by omega), h 109 (by omega), h 110 (by omega), h 111 (by omega)]
    exact d
  · unfold WfSt cSt at e ⊢
    rw [e99, h 112 (by omega), h 113 (by omega)]
    exact e
  · unfold WfT cT at f ⊢
    rw [e99, h 114 (by omega), h 115 (by omega)]
    exact f
  · unfold WfTa cTa at g ⊢
    rw [e99, h 116 (by omega), h 10 (by omega)]
    exact g
  · have e4 : tK1 s' = tK1 s := by funext t; unfold tK1; rw [e118]
    have e5 : tK2 s' = tK2 s := by funext t; unfold tK2; rw [e118]
    have e6 : tLn s' = tLn s := by funext t; unfold tLn; rw [e118]
    have e7 : tQ s' = tQ s := by funext t j; unfold tQ; rw [e117]
    unfold WfTx cTx TxM at i ⊢
    rw [e4, e5, e6, e7, e99, e117, e118]
    exact i
  · unfold WfI cIL cTx cIP cP at j ⊢
    rw [e99, h 119 (by omega), h 100 (by omega)]
    exact j
theorem agr_sh {s s' : Nat → Nat → Int32} (h : ∀ k, k < 120 ∨ 122 < k → s' k = s k) : Agr s s' ∧ AgrL s s' := by
  refine ⟨⟨fun k h1 h2 => h k (by omega), h _ (by omega), h _ (by omega), fun j hj => by rw [h 99 (by omega)], by rw [h 99 (by omega)], h _ (by omega)⟩, fun k hk => h k (by omega), h _ (by omega), h _ (by omega), h _ (by omega), fun e => by rw [h 1 (by omega), h 99 (by omega)]; exact e, by rw [h 99 (by omega)], by rw [h 99 (by omega)], by rw [h 99 (by omega)]⟩
section
variable {X : hX} {d : Nat} {s I : Nat → Nat → Int32} {J : Nat → Nat → Int64} {R : Nat → Nat → Option Nat} {N : Nat → Nat} {G : hG}
theorem l_M_sh {sn : Nat} (hsn : sn < 4) (sort n : Int32) {Q : Option Value → hM → Prop} (kk : ∀ (I1 : Nat → Nat → Int32), (∀ k, k ≠ 122 → I1 k = I k) → (∀ b, I1 122 b = blk I 122 (40 * sn) 40 (fun _ => nI 0) 122 b) → Q (some (.int (nI 1))) (I1, J, Rx R, N, G)) : ∀ (m i : Nat) (I1 : Nat → Nat → Int32), i + m = 40 → (∀ k, k ≠ 122 → I1 k = I k) → (∀ b, I1 122 b = blk I 122 (40 * sn) i (fun _ => nI 0) 122 b) → XP X d k_M_sheet 42 [.ref 99, .int (nI sn), .int sort, .int n, .int (nI i)] [] (I1, J, Rx R, N, G) Q := by
  intro m
  induction m with
  | zero =>
    rintro i I1 hi h1 h2
    obtain rfl : i = 40 := by omega
    refine XP_n 2 (pc' := 44) (ls' := [.ref (99), .int (nI (sn)), .int (sort), .int (n), .int (nI (40))]) (st' := [.int (nI (40)), .int (nI (40))]) (M' := (I1, J, Rx R, N, G)) rfl ?_
    refine XP_icN (x := 40) (y := 40) rfl (by omega) (by omega) (fun (b44 : 40 ≤ 40) => ?_) (fun (b44 : 40 < 40) => absurd b44 (by omega))
    refine XP_n 1 (pc' := 57) (ls' := [.ref (99), .int (nI (sn)), .int (sort), .int (n), .int (nI (40))]) (st' := [.int (nI (1))]) (M' := (I1, J, Rx R, N, G)) rfl ?_
    exact XP_ret rfl (kk _ h1 h2)
  | succ m ih =>
    rintro i I1 hi h1 h2
    refine XP_n 2 (pc' := 44) (ls' := [.ref (99), .int (nI (sn)), .int (sort), .int (n), .int (nI (i))]) (st' := [.int (nI (40)), .int (nI (i))]) (M' := (I1, J, Rx R, N, G)) rfl ?_
    refine XP_icN (x := i) (y := 40) rfl (by omega) (by omega) (fun (b44 : 40 ≤ i) => absurd b44 (by omega)) (fun (b44 : i < 40) => ?_)
    refine XP_n 8 (pc' := 53) (ls' := [.ref (99), .int (nI (sn)), .int (sort), .int (n), .int (nI (i))]) (st' := [.int (nI (0)), .int (((nI (40)) * (nI (sn))) + (nI (i))), .ref (122)]) (M' := (I1, J, Rx R, N, G)) rfl ?_
    rw [show ((nI (40)) * (nI (sn))) + (nI (i)) = nI ((40) * (sn) + i) from nI_addE (nI_mulE (rfl) (rfl)) (rfl)]
    refine XP_iast rfl rfl (show (40) * (sn) + i < 160 by omega) rfl (by omega) ?_
    refine XP_n 1 (pc' := 55) (ls' := [.ref (99), .int (nI (sn)), .int (sort), .int (n), .int (nI (i) + nI (1))]) (st' := []) (M' := ((rw2 I1 122 ((40) * (sn) + i) (nI (0))), J, Rx R, N, G)) rfl ?_
    rw [show nI (i) + nI (1) = nI (i + 1) from nI_addE (rfl) rfl]
    refine XP_n 1 (pc' := 42) (ls' := [.ref (99), .int (nI (sn)), .int (sort), .int (n), .int (nI (i + 1))]) (st' := []) (M' := ((rw2 I1 122 ((40) * (sn) + i) (nI (0))), J, Rx R, N, G)) rfl ?_
    refine ih (i + 1) _ (by omega) (fun k hk => (rw2_ro hk).trans (h1 k hk)) (fun b => ?_)
    by_cases e : b = (40) * (sn) + i
    · subst e
      rw [rw2_on, show 40 * sn + i = 40 * sn + i from rfl, blk_on (by omega)]
    · rw [rw2_off (fun z => e z.2), h2 b]
      unfold blk
      by_cases g : 40 * sn ≤ b ∧ b < 40 * sn + i
      · rw [if_pos ⟨rfl, g.1, g.2⟩, if_pos ⟨rfl, g.1, by omega⟩]
      · rw [if_neg (fun z => g z.2), if_neg (fun z => by have := z.2; omega)]
end
theorem s_sheet {s : Nat → Nat → Int32} (hW : Wf s) (hch : iN 0 1000000 (s 1 15)) (sh sort n : Int32) : SetOk 20 n_H_sheet n_M_sheet [.int sh, .int sort, .int n] s := by
  by_cases g0 : iv 0 3 sh
  rotate_left
  · skip
    refine ⟨cI (-2), s, hW, Up.rf hch, fun X d I J R N G hI => ?_, fun X d I J R N G hS => ?_⟩
    · have hL := hI.2.2.1
      unfold TP
      show XP X _ k_H_sheet 0 [.ref (0), .int (sh), .int (sort), .int (n), xj] [] _ _
      refine XP_n 2 (pc' := 2) (ls' := [.ref (0), .int (sh), .int (sort), .int (n), xj]) (st' := [.int (sh), .ref (0)]) (M' := (I, J, Rx R, N, G)) rfl ?_
      refine XP_pure rfl rfl (c_sheetAtF g0) ?_
      refine XP_n 4 (pc' := 12) (ls' := [.ref (0), .int (sh), .int (sort), .int (n), .null]) (st' := [.int (cI (-2))]) (M' := (I, J, Rx R, N, G)) rfl ?_
      exact XP_ret rfl ⟨rfl, _, rfl, hI.1.C, hI.2.2.1, hI.2.2.2.1, FrM.rf⟩
    · unfold TP
      show XP X _ k_M_sheet 0 [.ref (99), .int (sh), .int (sort), .int (n), xj] [] _ _
      refine XP_n 3 (pc' := 3) (ls' := [.ref (99), .int (sh), .int (sort), .int (n), xj]) (st' := [.int (nI (3)), .int (nI (0)), .int (sh)]) (M' := (I, J, Rx R, N, G)) rfl ?_
      refine XP_pure rfl rfl (w_M X _ _ 0 3 _) ?_
      refine XP_s rfl ?_
      refine XP_beq (fun b4 => ?_) (fun b4 => absurd b4 g0)
      refine XP_n 1 (pc' := 17) (ls' := [.ref (99), .int (sh), .int (sort), .int (n), xj]) (st' := [.int (cI (-2))]) (M' := (I, J, Rx R, N, G)) rfl ?_
      exact XP_ret rfl ⟨rfl, _, rfl, hS, FrC.rf⟩
  obtain ⟨sn, -, hsn, rfl, -⟩ := iv_nat g0 (by omega) (by omega)
  have hsn : sn < 4 := by omega
  by_cases g1 : cI (-1) ≤ sort ∧ sort ≤ nI 2
  rotate_left
  · skip
    refine ⟨cI (-2), s, hW, Up.rf hch, fun X d I J R N G hI => ?_, fun X d I J R N G hS => ?_⟩
    · have hL := hI.2.2.1
      unfold TP
      show XP X _ k_H_sheet 0 [.ref (0), .int (nI (sn)), .int (sort), .int (n), xj] [] _ _
      refine XP_n 2 (pc' := 2) (ls' := [.ref (0), .int (nI (sn)), .int (sort), .int (n), xj]) (st' := [.int (nI (sn)), .ref (0)]) (M' := (I, J, Rx R, N, G)) rfl ?_
      refine XP_pure rfl rfl (c_sheetAtT (show sn < 4 by omega)) ?_
      refine XP_n 6 (pc' := 9) (ls' := [.ref (0), .int (nI (sn)), .int (sort), .int (n), .ref (87 + 2 * sn)]) (st' := [.int (nI (2)), .int (cI (-1)), .int (sort)]) (M' := (I, J, Rx R, N, G)) rfl ?_
      refine XP_pure rfl rfl (t_H_within X _ (sort) (cI (-1)) (nI 2) _) ?_
      refine XP_s rfl ?_
      refine XP_bne (fun b10 => absurd b10 g1) (fun b10 => ?_)
      refine XP_n 1 (pc' := 12) (ls' := [.ref (0), .int (nI (sn)), .int (sort), .int (n), .ref (87 + 2 * sn)]) (st' := [.int (cI (-2))]) (M' := (I, J, Rx R, N, G)) rfl ?_
      exact XP_ret rfl ⟨rfl, _, rfl, hI.1.C, hI.2.2.1, hI.2.2.2.1, FrM.rf⟩
    · unfold TP
      show XP X _ k_M_sheet 0 [.ref (99), .int (nI (sn)), .int (sort), .int (n), xj] [] _ _
      refine XP_n 3 (pc' := 3) (ls' := [.ref (99), .int (nI (sn)), .int (sort), .int (n), xj]) (st' := [.int (nI (3)), .int (nI (0)), .int (nI (sn))]) (M' := (I, J, Rx R, N, G)) rfl ?_
      refine XP_pure rfl rfl (w_M X _ _ 0 3 _) ?_
      refine XP_s rfl ?_
      refine XP_beq (fun b4 => absurd g0 b4) (fun b4 => ?_)
      refine XP_n 3 (pc' := 8) (ls' := [.ref (99), .int (nI (sn)), .int (sort), .int (n), xj]) (st' := [.int (nI (2)), .int (cI (-1)), .int (sort)]) (M' := (I, J, Rx R, N, G)) rfl ?_
      refine XP_pure rfl rfl (t_M_in X _ (sort) (cI (-1)) (nI 2) _) ?_
      refine XP_s rfl ?_
      refine XP_beq (fun b9 => ?_) (fun b9 => absurd b9 g1)
      refine XP_n 1 (pc' := 17) (ls' := [.ref (99), .int (nI (sn)), .int (sort), .int (n), xj]) (st' := [.int (cI (-2))]) (M' := (I, J, Rx R, N, G)) rfl ?_
      exact XP_ret rfl ⟨rfl, _, rfl, hS, FrC.rf⟩
  have hx : sort = cI (-1) ∨ ∃ t, t ≤ 2 ∧ sort = nI t := by
    by_cases e : sort = cI (-1)
    · exact Or.inl e
    · right
      have h1 : ¬ sort < 0 := fun z => e (by
        have g := g1.1
        rw [Int32.le_iff_toInt_le] at g
        rw [Int32.lt_iff_toInt_lt] at z
        apply Int32.toInt_inj.mp
        have e1 : (cI (-1)).toInt = -1 := by decide
        have e0 : (0 : Int32).toInt = 0 := rfl
        omega)
      obtain ⟨t, ht, rfl⟩ := nn_nat h1
      exact ⟨t, (nI_leI (by omega) (by omega)).mp g1.2, rfl⟩
  have fin : ∀ (x : Int32) (m : Nat), m ≤ 40 → (x = cI (-1) ∨ iN 0 2 x) → Wf (blk (rw2 (rw2 s 120 sn (x)) 121 sn (nI (m))) 122 (40 * sn) 40 (fun _ => nI 0)) := fun x m hm hx => by
    refine Wf_sh hW (fun k hk => by rw [blk_ro (by omega), rw2_ro (by omega), rw2_ro (by omega)]) (fun i hi => ?_)
    show (rw2 s 120 sn x 120 i = cI (-1) ∨ iN 0 2 (rw2 s 120 sn x 120 i)) ∧ iN 0 40 (rw2 (rw2 s 120 sn x) 121 sn (nI m) 121 i)
    by_cases e : i = sn
    · subst e
      rw [rw2_on, rw2_on]
      exact ⟨hx, m, Nat.zero_le _, hm, rfl⟩
    · rw [rw2_off (fun z => e z.2), rw2_off (fun z => e z.2)]
      exact hW.2.2.2.2.2.2.2.2.1 i hi
  have ag : ∀ (x : Int32) (m : Nat), Agr s (blk (rw2 (rw2 s 120 sn (x)) 121 sn (nI (m))) 122 (40 * sn) 40 (fun _ => nI 0)) ∧ AgrL s (blk (rw2 (rw2 s 120 sn (x)) 121 sn (nI (m))) 122 (40 * sn) 40 (fun _ => nI 0)) := fun x m => agr_sh (fun k hk => by rw [blk_ro (by omega), rw2_ro (by omega), rw2_ro (by omega)])
  rcases hx with rfl | ⟨t, ht, rfl⟩
  · skip
    refine ⟨nI 1, (blk (rw2 (rw2 s 120 sn (cI (-1))) 121 sn (nI (0))) 122 (40 * sn) 40 (fun _ => nI 0)), fin _ _ (by omega) (Or.inl rfl), Up.rf hch, fun X d I J R N G hI => ?_, fun X d I J R N G hS => ?_⟩
    · have hL := hI.2.2.1
      unfold TP
      show XP X _ k_H_sheet 0 [.ref (0), .int (nI (sn)), .int (cI (-1)), .int (n), xj] [] _ _
      refine XP_n 2 (pc' := 2) (ls' := [.ref (0), .int (nI (sn)), .int (cI (-1)), .int (n), xj]) (st' := [.int (nI (sn)), .ref (0)]) (M' := (I, J, Rx R, N, G)) rfl ?_
      refine XP_pure rfl rfl (c_sheetAtT (show sn < 4 by omega)) ?_
      refine XP_n 6 (pc' := 9) (ls' := [.ref (0), .int (nI (sn)), .int (cI (-1)), .int (n), .ref (87 + 2 * sn)]) (st' := [.int (nI (2)), .int (cI (-1)), .int (cI (-1))]) (M' := (I, J, Rx R, N, G)) rfl ?_
      refine XP_pure rfl rfl (t_H_within X _ (cI (-1)) (cI (-1)) (nI 2) _) ?_
      refine XP_s rfl ?_
      refine XP_bne (fun b10 => ?_) (fun b10 => absurd g1 b10)
      refine XP_n 2 (pc' := 15) (ls' := [.ref (0), .int (nI (sn)), .int (cI (-1)), .int (n), .ref (87 + 2 * sn)]) (st' := [.int (cI (-1)), .int (cI (-1))]) (M' := (I, J, Rx R, N, G)) rfl ?_
      refine XP_icD rfl (fun (b15 : ¬ cI (-1) = cI (-1)) => absurd b15 (by decide)) (fun (b15 : cI (-1) = cI (-1)) => ?_)
      refine XP_n 3 (pc' := 19) (ls' := [.ref (0), .int (nI (sn)), .int (cI (-1)), .int (n), .ref (87 + 2 * sn)]) (st' := [.int (nI (0)), .int (cI (-1)), .ref (87 + 2 * sn)]) (M' := (I, J, Rx R, N, G)) rfl ?_
      refine XP_call rfl (by show (isO (87 + 2 * sn) 8 || false) = true; rw [sh_o hsn]; rfl) (c_become hsn (show 0 ≤ 40 by omega) (cI (-1))) ?_
      rintro v1 M1 ⟨rfl, I1, rfl, e1, e2⟩
      refine XP_n 1 (pc' := 21) (ls' := [.ref (0), .int (nI (sn)), .int (cI (-1)), .int (n), .ref (87 + 2 * sn)]) (st' := [.int (nI (1))]) (M' := (I1, J, Rx R, N, G)) rfl ?_
      exact XP_ret rfl ⟨rfl, _, rfl, StC_blk (StC_w (StC_w hI.1.C (mpC_s0 hsn)) (mpC_s1 hsn)) hsn e1 (fun a b z => blk_off z) (fun j hj => by rw [blk_on hj]; exact e2 j hj), agrl_Lk (ag _ _).2 hI.2.2.1, agr_Cch (ag _ _).1 (hI.2.2.2.1.of (fun k h1 h2 => (e1 k (by omega)).trans ((rw2_ro (by omega)).trans (rw2_ro (by omega)))) (fun _ _ _ => rfl) hW.p.2), fun k hk => by have := isC_f hk; exact (e1 k (by omega)).trans ((rw2_ro (by omega)).trans (rw2_ro (by omega)))⟩
    · unfold TP
      show XP X _ k_M_sheet 0 [.ref (99), .int (nI (sn)), .int (cI (-1)), .int (n), xj] [] _ _
      refine XP_n 3 (pc' := 3) (ls' := [.ref (99), .int (nI (sn)), .int (cI (-1)), .int (n), xj]) (st' := [.int (nI (3)), .int (nI (0)), .int (nI (sn))]) (M' := (I, J, Rx R, N, G)) rfl ?_
      refine XP_pure rfl rfl (w_M X _ _ 0 3 _) ?_
      refine XP_s rfl ?_
      refine XP_beq (fun b4 => absurd g0 b4) (fun b4 => ?_)
      refine XP_n 3 (pc' := 8) (ls' := [.ref (99), .int (nI (sn)), .int (cI (-1)), .int (n), xj]) (st' := [.int (nI (2)), .int (cI (-1)), .int (cI (-1))]) (M' := (I, J, Rx R, N, G)) rfl ?_
      refine XP_pure rfl rfl (t_M_in X _ (cI (-1)) (cI (-1)) (nI 2) _) ?_
      refine XP_s rfl ?_
      refine XP_beq (fun b9 => absurd g1 b9) (fun b9 => ?_)
      refine XP_n 2 (pc' := 12) (ls' := [.ref (99), .int (nI (sn)), .int (cI (-1)), .int (n), xj]) (st' := [.int (cI (-1)), .int (cI (-1))]) (M' := (I, J, Rx R, N, G)) rfl ?_
      refine XP_icD rfl (fun (b12 : cI (-1) = cI (-1)) => ?_) (fun (b12 : ¬ cI (-1) = cI (-1)) => absurd b12 (by decide))
      refine XP_n 2 (pc' := 20) (ls' := [.ref (99), .int (nI (sn)), .int (cI (-1)), .int (n), xj]) (st' := [.int (cI (-1)), .int (cI (-1))]) (M' := (I, J, Rx R, N, G)) rfl ?_
      refine XP_icD rfl (fun (b20 : cI (-1) = cI (-1)) => ?_) (fun (b20 : ¬ cI (-1) = cI (-1)) => absurd b20 (by decide))
      refine XP_n 4 (pc' := 29) (ls' := [.ref (99), .int (nI (sn)), .int (cI (-1)), .int (n), xj]) (st' := [.int (cI (-1)), .int (nI (sn)), .ref (120)]) (M' := (I, J, Rx R, N, G)) rfl ?_
      refine XP_iast rfl rfl (show sn < 4 by omega) rfl (by omega) ?_
      refine XP_n 5 (pc' := 35) (ls' := [.ref (99), .int (nI (sn)), .int (cI (-1)), .int (n), xj]) (st' := [.int (cI (-1)), .int (cI (-1)), .int (nI (sn)), .ref (121)]) (M' := ((rw2 I 120 sn (cI (-1))), J, Rx R, N, G)) rfl ?_
      refine XP_icD rfl (fun (b35 : ¬ cI (-1) = cI (-1)) => absurd b35 (by decide)) (fun (b35 : cI (-1) = cI (-1)) => ?_)
      refine XP_n 2 (pc' := 39) (ls' := [.ref (99), .int (nI (sn)), .int (cI (-1)), .int (n), xj]) (st' := [.int (nI (0)), .int (nI (sn)), .ref (121)]) (M' := ((rw2 I 120 sn (cI (-1))), J, Rx R, N, G)) rfl ?_
      refine XP_iast rfl rfl (show sn < 4 by omega) rfl (by omega) ?_
      refine XP_n 2 (pc' := 42) (ls' := [.ref (99), .int (nI (sn)), .int (cI (-1)), .int (n), .int (nI (0))]) (st' := []) (M' := ((rw2 (rw2 I 120 sn (cI (-1))) 121 sn (nI (0))), J, Rx R, N, G)) rfl ?_
      refine l_M_sh hsn _ _ (fun I1 h1 h2 => ⟨rfl, _, rfl, StM_blk (StM_w (StM_w hS rfl) rfl) h1 (fun a ha => blk_ro ha) (fun b => (h2 b).trans ?_), fun k hk => ?_⟩) 40 0 _ (by omega) (fun _ _ => rfl) (fun b => (blk_off (fun z => by have := z.2; omega)).symm)
      · have e : StM s I := hS
        show (if 122 = 122 ∧ 40 * sn ≤ b ∧ b < 40 * sn + 40 then nI 0 else I 122 b) = (if 122 = 122 ∧ 40 * sn ≤ b ∧ b < 40 * sn + 40 then nI 0 else s 122 b)
        rw [e 122 b 122 b rfl]
      · have := isC_t hk
        rw [h1 k (by omega), rw2_ro (by omega), rw2_ro (by omega)]
  have hne := nI_m1x (show t < 2147483648 by omega)
  by_cases g2 : ¬ nI (40) < n
  rotate_left
  · skip
    refine ⟨cI (-2), s, hW, Up.rf hch, fun X d I J R N G hI => ?_, fun X d I J R N G hS => ?_⟩
    · have hL := hI.2.2.1
      unfold TP
      show XP X _ k_H_sheet 0 [.ref (0), .int (nI (sn)), .int (nI (t)), .int (n), xj] [] _ _
      refine XP_n 2 (pc' := 2) (ls' := [.ref (0), .int (nI (sn)), .int (nI (t)), .int (n), xj]) (st' := [.int (nI (sn)), .ref (0)]) (M' := (I, J, Rx R, N, G)) rfl ?_
      refine XP_pure rfl rfl (c_sheetAtT (show sn < 4 by omega)) ?_
      refine XP_n 6 (pc' := 9) (ls' := [.ref (0), .int (nI (sn)), .int (nI (t)), .int (n), .ref (87 + 2 * sn)]) (st' := [.int (nI (2)), .int (cI (-1)), .int (nI (t))]) (M' := (I, J, Rx R, N, G)) rfl ?_
      refine XP_pure rfl rfl (t_H_within X _ (nI (t)) (cI (-1)) (nI 2) _) ?_
      refine XP_s rfl ?_
      refine XP_bne (fun b10 => ?_) (fun b10 => absurd g1 b10)
      refine XP_n 2 (pc' := 15) (ls' := [.ref (0), .int (nI (sn)), .int (nI (t)), .int (n), .ref (87 + 2 * sn)]) (st' := [.int (cI (-1)), .int (nI (t))]) (M' := (I, J, Rx R, N, G)) rfl ?_
      refine XP_icD rfl (fun (b15 : ¬ nI (t) = cI (-1)) => ?_) (fun (b15 : nI (t) = cI (-1)) => absurd b15 (by first | exact hne | exact fun z => z hne | exact Int32.not_le.mpr hne | exact Int32.not_lt.mpr (Int32.not_lt.mp hne) | omega))
      refine XP_n 2 (pc' := 24) (ls' := [.ref (0), .int (nI (sn)), .int (nI (t)), .int (n), .ref (87 + 2 * sn)]) (st' := [.int (nI (40)), .int (n)]) (M' := (I, J, Rx R, N, G)) rfl ?_
      refine XP_icD rfl (fun (b24 : n ≤ nI (40)) => absurd b24 (by first | exact (Classical.not_not.mp g2) | exact fun z => z (Classical.not_not.mp g2) | exact Int32.not_le.mpr (Classical.not_not.mp g2) | exact Int32.not_lt.mpr (Int32.not_lt.mp (Classical.not_not.mp g2)) | omega)) (fun (b24 : nI (40) < n) => ?_)
      have n24 := Int32.not_le.mpr b24
      refine XP_n 1 (pc' := 26) (ls' := [.ref (0), .int (nI (sn)), .int (nI (t)), .int (n), .ref (87 + 2 * sn)]) (st' := [.int (cI (-2))]) (M' := (I, J, Rx R, N, G)) rfl ?_
      exact XP_ret rfl ⟨rfl, _, rfl, hI.1.C, hI.2.2.1, hI.2.2.2.1, FrM.rf⟩
    · unfold TP
      show XP X _ k_M_sheet 0 [.ref (99), .int (nI (sn)), .int (nI (t)), .int (n), xj] [] _ _
      refine XP_n 3 (pc' := 3) (ls' := [.ref (99), .int (nI (sn)), .int (nI (t)), .int (n), xj]) (st' := [.int (nI (3)), .int (nI (0)), .int (nI (sn))]) (M' := (I, J, Rx R, N, G)) rfl ?_
      refine XP_pure rfl rfl (w_M X _ _ 0 3 _) ?_
      refine XP_s rfl ?_
      refine XP_beq (fun b4 => absurd g0 b4) (fun b4 => ?_)
      refine XP_n 3 (pc' := 8) (ls' := [.ref (99), .int (nI (sn)), .int (nI (t)), .int (n), xj]) (st' := [.int (nI (2)), .int (cI (-1)), .int (nI (t))]) (M' := (I, J, Rx R, N, G)) rfl ?_
      refine XP_pure rfl rfl (t_M_in X _ (nI (t)) (cI (-1)) (nI 2) _) ?_
      refine XP_s rfl ?_
      refine XP_beq (fun b9 => absurd g1 b9) (fun b9 => ?_)
      refine XP_n 2 (pc' := 12) (ls' := [.ref (99), .int (nI (sn)), .int (nI (t)), .int (n), xj]) (st' := [.int (cI (-1)), .int (nI (t))]) (M' := (I, J, Rx R, N, G)) rfl ?_
      refine XP_icD rfl (fun (b12 : nI (t) = cI (-1)) => absurd b12 (by first | exact hne | exact fun z => z hne | exact Int32.not_le.mpr hne | exact Int32.not_lt.mpr (Int32.not_lt.mp hne) | omega)) (fun (b12 : ¬ nI (t) = cI (-1)) => ?_)
      refine XP_n 2 (pc' := 15) (ls' := [.ref (99), .int (nI (sn)), .int (nI (t)), .int (n), xj]) (st' := [.int (nI (40)), .int (n)]) (M' := (I, J, Rx R, N, G)) rfl ?_
      refine XP_icD rfl (fun (b15 : n ≤ nI (40)) => absurd b15 (by first | exact (Classical.not_not.mp g2) | exact fun z => z (Classical.not_not.mp g2) | exact Int32.not_le.mpr (Classical.not_not.mp g2) | exact Int32.not_lt.mpr (Int32.not_lt.mp (Classical.not_not.mp g2)) | omega)) (fun (b15 : nI (40) < n) => ?_)
      have n15 := Int32.not_le.mpr b15
      refine XP_n 1 (pc' := 17) (ls' := [.ref (99), .int (nI (sn)), .int (nI (t)), .int (n), xj]) (st' := [.int (cI (-2))]) (M' := (I, J, Rx R, N, G)) rfl ?_
      exact XP_ret rfl ⟨rfl, _, rfl, hS, FrC.rf⟩
  by_cases g3 : ¬ n < 0
  rotate_left
  · skip
    refine ⟨cI (-14), s, hW, Up.rf hch, fun X d I J R N G hI => ?_, fun X d I J R N G hS => ?_⟩
    · have hL := hI.2.2.1
      unfold TP
      show XP X _ k_H_sheet 0 [.ref (0), .int (nI (sn)), .int (nI (t)), .int (n), xj] [] _ _
      refine XP_n 2 (pc' := 2) (ls' := [.ref (0), .int (nI (sn)), .int (nI (t)), .int (n), xj]) (st' := [.int (nI (sn)), .ref (0)]) (M' := (I, J, Rx R, N, G)) rfl ?_
      refine XP_pure rfl rfl (c_sheetAtT (show sn < 4 by omega)) ?_
      refine XP_n 6 (pc' := 9) (ls' := [.ref (0), .int (nI (sn)), .int (nI (t)), .int (n), .ref (87 + 2 * sn)]) (st' := [.int (nI (2)), .int (cI (-1)), .int (nI (t))]) (M' := (I, J, Rx R, N, G)) rfl ?_
      refine XP_pure rfl rfl (t_H_within X _ (nI (t)) (cI (-1)) (nI 2) _) ?_
      refine XP_s rfl ?_
      refine XP_bne (fun b10 => ?_) (fun b10 => absurd g1 b10)
      refine XP_n 2 (pc' := 15) (ls' := [.ref (0), .int (nI (sn)), .int (nI (t)), .int (n), .ref (87 + 2 * sn)]) (st' := [.int (cI (-1)), .int (nI (t))]) (M' := (I, J, Rx R, N, G)) rfl ?_
      refine XP_icD rfl (fun (b15 : ¬ nI (t) = cI (-1)) => ?_) (fun (b15 : nI (t) = cI (-1)) => absurd b15 (by first | exact hne | exact fun z => z hne | exact Int32.not_le.mpr hne | exact Int32.not_lt.mpr (Int32.not_lt.mp hne) | omega))
      refine XP_n 2 (pc' := 24) (ls' := [.ref (0), .int (nI (sn)), .int (nI (t)), .int (n), .ref (87 + 2 * sn)]) (st' := [.int (nI (40)), .int (n)]) (M' := (I, J, Rx R, N, G)) rfl ?_
      refine XP_icD rfl (fun (b24 : n ≤ nI (40)) => ?_) (fun (b24 : nI (40) < n) => absurd b24 (by first | exact g2 | exact fun z => z g2 | exact Int32.not_le.mpr g2 | exact Int32.not_lt.mpr (Int32.not_lt.mp g2) | omega))
      have n24 := Int32.not_lt.mpr b24
      refine XP_n 1 (pc' := 28) (ls' := [.ref (0), .int (nI (sn)), .int (nI (t)), .int (n), .ref (87 + 2 * sn)]) (st' := [.int (n)]) (M' := (I, J, Rx R, N, G)) rfl ?_
      refine XP_ifD rfl (fun (b28 : 0 ≤ n) => absurd b28 (by first | exact (Classical.not_not.mp g3) | exact fun z => z (Classical.not_not.mp g3) | exact Int32.not_le.mpr (Classical.not_not.mp g3) | exact Int32.not_lt.mpr (Int32.not_lt.mp (Classical.not_not.mp g3)) | omega)) (fun (b28 : n < 0) => ?_)
      have n28 := Int32.not_le.mpr b28
      refine XP_n 1 (pc' := 30) (ls' := [.ref (0), .int (nI (sn)), .int (nI (t)), .int (n), .ref (87 + 2 * sn)]) (st' := [.int (cI (-14))]) (M' := (I, J, Rx R, N, G)) rfl ?_
      exact XP_ret rfl ⟨rfl, _, rfl, hI.1.C, hI.2.2.1, hI.2.2.2.1, FrM.rf⟩
    · unfold TP
      show XP X _ k_M_sheet 0 [.ref (99), .int (nI (sn)), .int (nI (t)), .int (n), xj] [] _ _
      refine XP_n 3 (pc' := 3) (ls' := [.ref (99), .int (nI (sn)), .int (nI (t)), .int (n), xj]) (st' := [.int (nI (3)), .int (nI (0)), .int (nI (sn))]) (M' := (I, J, Rx R, N, G)) rfl ?_
      refine XP_pure rfl rfl (w_M X _ _ 0 3 _) ?_
      refine XP_s rfl ?_
      refine XP_beq (fun b4 => absurd g0 b4) (fun b4 => ?_)
      refine XP_n 3 (pc' := 8) (ls' := [.ref (99), .int (nI (sn)), .int (nI (t)), .int (n), xj]) (st' := [.int (nI (2)), .int (cI (-1)), .int (nI (t))]) (M' := (I, J, Rx R, N, G)) rfl ?_
      refine XP_pure rfl rfl (t_M_in X _ (nI (t)) (cI (-1)) (nI 2) _) ?_
      refine XP_s rfl ?_
      refine XP_beq (fun b9 => absurd g1 b9) (fun b9 => ?_)
      refine XP_n 2 (pc' := 12) (ls' := [.ref (99), .int (nI (sn)), .int (nI (t)), .int (n), xj]) (st' := [.int (cI (-1)), .int (nI (t))]) (M' := (I, J, Rx R, N, G)) rfl ?_
      refine XP_icD rfl (fun (b12 : nI (t) = cI (-1)) => absurd b12 (by first | exact hne | exact fun z => z hne | exact Int32.not_le.mpr hne | exact Int32.not_lt.mpr (Int32.not_lt.mp hne) | omega)) (fun (b12 : ¬ nI (t) = cI (-1)) => ?_)
      refine XP_n 2 (pc' := 15) (ls' := [.ref (99), .int (nI (sn)), .int (nI (t)), .int (n), xj]) (st' := [.int (nI (40)), .int (n)]) (M' := (I, J, Rx R, N, G)) rfl ?_
      refine XP_icD rfl (fun (b15 : n ≤ nI (40)) => ?_) (fun (b15 : nI (40) < n) => absurd b15 (by first | exact g2 | exact fun z => z g2 | exact Int32.not_le.mpr g2 | exact Int32.not_lt.mpr (Int32.not_lt.mp g2) | omega))
      have n15 := Int32.not_lt.mpr b15
      refine XP_n 2 (pc' := 20) (ls' := [.ref (99), .int (nI (sn)), .int (nI (t)), .int (n), xj]) (st' := [.int (cI (-1)), .int (nI (t))]) (M' := (I, J, Rx R, N, G)) rfl ?_
      refine XP_icD rfl (fun (b20 : nI (t) = cI (-1)) => absurd b20 (by first | exact hne | exact fun z => z hne | exact Int32.not_le.mpr hne | exact Int32.not_lt.mpr (Int32.not_lt.mp hne) | omega)) (fun (b20 : ¬ nI (t) = cI (-1)) => ?_)
      refine XP_n 1 (pc' := 22) (ls' := [.ref (99), .int (nI (sn)), .int (nI (t)), .int (n), xj]) (st' := [.int (n)]) (M' := (I, J, Rx R, N, G)) rfl ?_
      refine XP_ifD rfl (fun (b22 : 0 ≤ n) => absurd b22 (by first | exact (Classical.not_not.mp g3) | exact fun z => z (Classical.not_not.mp g3) | exact Int32.not_le.mpr (Classical.not_not.mp g3) | exact Int32.not_lt.mpr (Int32.not_lt.mp (Classical.not_not.mp g3)) | omega)) (fun (b22 : n < 0) => ?_)
      have n22 := Int32.not_le.mpr b22
      refine XP_n 1 (pc' := 24) (ls' := [.ref (99), .int (nI (sn)), .int (nI (t)), .int (n), xj]) (st' := [.int (cI (-14))]) (M' := (I, J, Rx R, N, G)) rfl ?_
      exact XP_ret rfl ⟨rfl, _, rfl, hS, FrC.rf⟩
  obtain ⟨m, hm, rfl⟩ := nn_nat g3
  have hm4 : m ≤ 40 := Nat.le_of_not_lt (fun z => g2 ((nI_ltI (by omega) (by omega)).mpr z))
  refine ⟨nI 1, (blk (rw2 (rw2 s 120 sn (nI (t))) 121 sn (nI (m))) 122 (40 * sn) 40 (fun _ => nI 0)), fin _ _ (by omega) (Or.inr ⟨t, Nat.zero_le _, ht, rfl⟩), Up.rf hch, fun X d I J R N G hI => ?_, fun X d I J R N G hS => ?_⟩
  · have hL := hI.2.2.1
    unfold TP
    show XP X _ k_H_sheet 0 [.ref (0), .int (nI (sn)), .int (nI (t)), .int (nI (m)), xj] [] _ _
    refine XP_n 2 (pc' := 2) (ls' := [.ref (0), .int (nI (sn)), .int (nI (t)), .int (nI (m)), xj]) (st' := [.int (nI (sn)), .ref (0)]) (M' := (I, J, Rx R, N, G)) rfl ?_
    refine XP_pure rfl rfl (c_sheetAtT (show sn < 4 by omega)) ?_
    refine XP_n 6 (pc' := 9) (ls' := [.ref (0), .int (nI (sn)), .int (nI (t)), .int (nI (m)), .ref (87 + 2 * sn)]) (st' := [.int (nI (2)), .int (cI (-1)), .int (nI (t))]) (M' := (I, J, Rx R, N, G)) rfl ?_
    refine XP_pure rfl rfl (t_H_within X _ (nI (t)) (cI (-1)) (nI 2) _) ?_
    refine XP_s rfl ?_
    refine XP_bne (fun b10 => ?_) (fun b10 => absurd g1 b10)
    refine XP_n 2 (pc' := 15) (ls' := [.ref (0), .int (nI (sn)), .int (nI (t)), .int (nI (m)), .ref (87 + 2 * sn)]) (st' := [.int (cI (-1)), .int (nI (t))]) (M' := (I, J, Rx R, N, G)) rfl ?_
    refine XP_icD rfl (fun (b15 : ¬ nI (t) = cI (-1)) => ?_) (fun (b15 : nI (t) = cI (-1)) => absurd b15 (by first | exact hne | exact fun z => z hne | exact Int32.not_le.mpr hne | exact Int32.not_lt.mpr (Int32.not_lt.mp hne) | omega))
    refine XP_n 2 (pc' := 24) (ls' := [.ref (0), .int (nI (sn)), .int (nI (t)), .int (nI (m)), .ref (87 + 2 * sn)]) (st' := [.int (nI (40)), .int (nI (m))]) (M' := (I, J, Rx R, N, G)) rfl ?_
    refine XP_icN (x := m) (y := 40) rfl (by omega) (by omega) (fun (b24 : m ≤ 40) => ?_) (fun (b24 : 40 < m) => absurd b24 (by omega))
    refine XP_n 1 (pc' := 28) (ls' := [.ref (0), .int (nI (sn)), .int (nI (t)), .int (nI (m)), .ref (87 + 2 * sn)]) (st' := [.int (nI (m))]) (M' := (I, J, Rx R, N, G)) rfl ?_
    refine XP_ifN (x := m)  rfl (by omega) (fun (b28 : 0 ≤ m) => ?_) (fun (b28 : m < 0) => absurd b28 (by omega))
    refine XP_n 3 (pc' := 34) (ls' := [.ref (0), .int (nI (sn)), .int (nI (t)), .int (nI (m)), .ref (87 + 2 * sn)]) (st' := [.int (nI (m)), .int (nI (t)), .ref (87 + 2 * sn)]) (M' := (I, J, Rx R, N, G)) rfl ?_
    refine XP_call rfl (by show (isO (87 + 2 * sn) 8 || false) = true; rw [sh_o hsn]; rfl) (c_become hsn (show m ≤ 40 by omega) (nI (t))) ?_
    rintro v1 M1 ⟨rfl, I1, rfl, e1, e2⟩
    refine XP_n 1 (pc' := 36) (ls' := [.ref (0), .int (nI (sn)), .int (nI (t)), .int (nI (m)), .ref (87 + 2 * sn)]) (st' := [.int (nI (1))]) (M' := (I1, J, Rx R, N, G)) rfl ?_
    exact XP_ret rfl ⟨rfl, _, rfl, StC_blk (StC_w (StC_w hI.1.C (mpC_s0 hsn)) (mpC_s1 hsn)) hsn e1 (fun a b z => blk_off z) (fun j hj => by rw [blk_on hj]; exact e2 j hj), agrl_Lk (ag _ _).2 hI.2.2.1, agr_Cch (ag _ _).1 (hI.2.2.2.1.of (fun k h1 h2 => (e1 k (by omega)).trans ((rw2_ro (by omega)).trans (rw2_ro (by omega)))) (fun _ _ _ => rfl) hW.p.2), fun k hk => by have := isC_f hk; exact (e1 k (by omega)).trans ((rw2_ro (by omega)).trans (rw2_ro (by omega)))⟩
  · unfold TP
    show XP X _ k_M_sheet 0 [.ref (99), .int (nI (sn)), .int (nI (t)), .int (nI (m)), xj] [] _ _
    refine XP_n 3 (pc' := 3) (ls' := [.ref (99), .int (nI (sn)), .int (nI (t)), .int (nI (m)), xj]) (st' := [.int (nI (3)), .int (nI (0)), .int (nI (sn))]) (M' := (I, J, Rx R, N, G)) rfl ?_
    refine XP_pure rfl rfl (w_M X _ _ 0 3 _) ?_
    refine XP_s rfl ?_
    refine XP_beq (fun b4 => absurd g0 b4) (fun b4 => ?_)
    refine XP_n 3 (pc' := 8) (ls' := [.ref (99), .int (nI (sn)), .int (nI (t)), .int (nI (m)), xj]) (st' := [.int (nI (2)), .int (cI (-1)), .int (nI (t))]) (M' := (I, J, Rx R, N, G)) rfl ?_
    refine XP_pure rfl rfl (t_M_in X _ (nI (t)) (cI (-1)) (nI 2) _) ?_
    refine XP_s rfl ?_
    refine XP_beq (fun b9 => absurd g1 b9) (fun b9 => ?_)
    refine XP_n 2 (pc' := 12) (ls' := [.ref (99), .int (nI (sn)), .int (nI (t)), .int (nI (m)), xj]) (st' := [.int (cI (-1)), .int (nI (t))]) (M' := (I, J, Rx R, N, G)) rfl ?_
    refine XP_icD rfl (fun (b12 : nI (t) = cI (-1)) => absurd b12 (by first | exact hne | exact fun z => z hne | exact Int32.not_le.mpr hne | exact Int32.not_lt.mpr (Int32.not_lt.mp hne) | omega)) (fun (b12 : ¬ nI (t) = cI (-1)) => ?_)
    refine XP_n 2 (pc' := 15) (ls' := [.ref (99), .int (nI (sn)), .int (nI (t)), .int (nI (m)), xj]) (st' := [.int (nI (40)), .int (nI (m))]) (M' := (I, J, Rx R, N, G)) rfl ?_
    refine XP_icN (x := m) (y := 40) rfl (by omega) (by omega) (fun (b15 : m ≤ 40) => ?_) (fun (b15 : 40 < m) => absurd b15 (by omega))
    refine XP_n 2 (pc' := 20) (ls' := [.ref (99), .int (nI (sn)), .int (nI (t)), .int (nI (m)), xj]) (st' := [.int (cI (-1)), .int (nI (t))]) (M' := (I, J, Rx R, N, G)) rfl ?_
    refine XP_icD rfl (fun (b20 : nI (t) = cI (-1)) => absurd b20 (by first | exact hne | exact fun z => z hne | exact Int32.not_le.mpr hne | exact Int32.not_lt.mpr (Int32.not_lt.mp hne) | omega)) (fun (b20 : ¬ nI (t) = cI (-1)) => ?_)
    refine XP_n 1 (pc' := 22) (ls' := [.ref (99), .int (nI (sn)), .int (nI (t)), .int (nI (m)), xj]) (st' := [.int (nI (m))]) (M' := (I, J, Rx R, N, G)) rfl ?_
    refine XP_ifN (x := m)  rfl (by omega) (fun (b22 : 0 ≤ m) => ?_) (fun (b22 : m < 0) => absurd b22 (by omega))
    refine XP_n 4 (pc' := 29) (ls' := [.ref (99), .int (nI (sn)), .int (nI (t)), .int (nI (m)), xj]) (st' := [.int (nI (t)), .int (nI (sn)), .ref (120)]) (M' := (I, J, Rx R, N, G)) rfl ?_
    refine XP_iast rfl rfl (show sn < 4 by omega) rfl (by omega) ?_
    refine XP_n 5 (pc' := 35) (ls' := [.ref (99), .int (nI (sn)), .int (nI (t)), .int (nI (m)), xj]) (st' := [.int (cI (-1)), .int (nI (t)), .int (nI (sn)), .ref (121)]) (M' := ((rw2 I 120 sn (nI (t))), J, Rx R, N, G)) rfl ?_
    refine XP_icD rfl (fun (b35 : ¬ nI (t) = cI (-1)) => ?_) (fun (b35 : nI (t) = cI (-1)) => absurd b35 (by first | exact hne | exact fun z => z hne | exact Int32.not_le.mpr hne | exact Int32.not_lt.mpr (Int32.not_lt.mp hne) | omega))
    refine XP_n 1 (pc' := 39) (ls' := [.ref (99), .int (nI (sn)), .int (nI (t)), .int (nI (m)), xj]) (st' := [.int (nI (m)), .int (nI (sn)), .ref (121)]) (M' := ((rw2 I 120 sn (nI (t))), J, Rx R, N, G)) rfl ?_
    refine XP_iast rfl rfl (show sn < 4 by omega) rfl (by omega) ?_
    refine XP_n 2 (pc' := 42) (ls' := [.ref (99), .int (nI (sn)), .int (nI (t)), .int (nI (m)), .int (nI (0))]) (st' := []) (M' := ((rw2 (rw2 I 120 sn (nI (t))) 121 sn (nI (m))), J, Rx R, N, G)) rfl ?_
    refine l_M_sh hsn _ _ (fun I1 h1 h2 => ⟨rfl, _, rfl, StM_blk (StM_w (StM_w hS rfl) rfl) h1 (fun a ha => blk_ro ha) (fun b => (h2 b).trans ?_), fun k hk => ?_⟩) 40 0 _ (by omega) (fun _ _ => rfl) (fun b => (blk_off (fun z => by have := z.2; omega)).symm)
    · have e : StM s I := hS
      show (if 122 = 122 ∧ 40 * sn ≤ b ∧ b < 40 * sn + 40 then nI 0 else I 122 b) = (if 122 = 122 ∧ 40 * sn ≤ b ∧ b < 40 * sn + 40 then nI 0 else s 122 b)
      rw [e 122 b 122 b rfl]
    · have := isC_t hk
      rw [h1 k (by omega), rw2_ro (by omega), rw2_ro (by omega)]
