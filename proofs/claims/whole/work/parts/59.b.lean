/-! plans, the class: solve; the best and its cache -/
theorem qP_1 (q : Nat) : (qP q) + (nI 1) = nI q := by
  unfold qP
  by_cases e : q = 0
  · rw [if_pos e, e]
    rfl
  · rw [if_neg e, nI_add, Nat.sub_add_cancel (by omega)]
section
variable {X : hX} {d : Nat} {s I : Nat → Nat → Int32} {J : Nat → Nat → Int64} {R : Nat → Nat → Option Nat} {N : Nat → Nat} {G : hG} {Q : Option Value → hM → Prop}
theorem c_solve (hS : St s I) (hW : Wf s) (hL : Lk s R N) {q no : Nat} {br : Int32} (hq : q ≤ cP s) (hno : no ≤ 16) {pi ro : Nat} (hP : PlL R N pi ro) (h9 : I 21 9 = nI no) (h10 : I 21 10 = br) (hC : CchH s I J) : TP X (d + 6) n_Planner_solve [.ref 21, .ref pi, .int (qP q)] (I, J, Rx R, N, G) (fun v M' => v = none ∧ ∃ I' J', M' = (I', J', Rx R, N, G) ∧ (∀ k, k < 21 ∨ 77 < k → k ≠ oT (cLw s) + 3 → k ≠ oT (cLw s) + 2 → I' k = I k) ∧ (∀ k, k < 21 ∨ 77 < k → J' k = J k) ∧ J' pi 1 = lN (pBest s q br no) ∧ (∀ y, y < cY s → I' ro y = nI (pU s q br no y)) ∧ CchH s I' J' ∧ (∀ o, I' 31 o = I 31 o ∨ I' 31 o = s 1 15) ∧ (∀ k, 68 ≤ k → k ≤ 77 → k ≠ ro → I' k = I k) ∧ (∀ k, 68 ≤ k → k ≤ 77 → k ≠ pi → J' k = J k)) := by
  have hy16 := hW.y.2.2
  have hp4 := hW.p.2
  have hw60 := hW.w.2
  have hoT := oT_rg (cLw s)
  have hP5 := hP.2.2.2.2
  have hWA := (cWA_le hW).1
  have k20 : ∀ (J0 : Nat → Nat → Int64), J0 = rw2 J 21 11 (lN (pSc s q)) → XP X (d + 6) k_Planner_solve 20 [.ref 21, .ref pi, .int (qP q), .int (nI (cY s)), xj, xj] [] (I, J0, Rx R, N, G) (fun v M' => v = none ∧ ∃ I' J', M' = (I', J', Rx R, N, G) ∧ (∀ k, k < 21 ∨ 77 < k → k ≠ oT (cLw s) + 3 → k ≠ oT (cLw s) + 2 → I' k = I k) ∧ (∀ k, k < 21 ∨ 77 < k → J' k = J k) ∧ J' pi 1 = lN (pBest s q br no) ∧ (∀ y, y < cY s → I' ro y = nI (pU s q br no y)) ∧ CchH s I' J' ∧ (∀ o, I' 31 o = I 31 o ∨ I' 31 o = s 1 15) ∧ (∀ k, 68 ≤ k → k ≤ 77 → k ≠ ro → I' k = I k) ∧ (∀ k, 68 ≤ k → k ≤ 77 → k ≠ pi → J' k = J k)) := by
    intro J0 eJ0
    refine XP_n 5 (pc' := 25) (ls' := [.ref (21), .ref (pi), .int (qP q), .int (nI (cY s)), xj, xj]) (st' := [.ref (1), .int (nI (0)), .ref (25)]) (M' := (I, J0, Rx R, N, G)) rfl ?_
    refine XP_geti hS rfl rfl rfl ?_
    refine XP_iast rfl rfl (show 0 < 17 by omega) rfl (by omega) ?_
    refine XP_n 2 (pc' := 29) (ls' := [.ref (21), .ref (pi), .int (qP q), .int (nI (cY s)), .int (nI (0)), xj]) (st' := []) (M' := ((rw2 I 25 0 (s 99 2)), J0, Rx R, N, G)) rfl ?_
    obtain ⟨Ia, eIa⟩ : ∃ z, z = rw2 I 25 0 (s 99 2) := ⟨_, rfl⟩
    rw [← eIa]
    have hSa : St s Ia := by rw [eIa]; exact St_rwp hS rfl
    refine l_s1 (d := d + 1) hSa hW hL ?_ (cY s) 0 Ia (by omega) Only.rf (fun y hy => by
      obtain rfl : y = 0 := by omega
      rw [eIa, rw2_at]
      rfl)
    intro Ib hOb hbb
    have hSb : St s Ib := St_P hW hSa (fun k h1 h2 h3 => hOb k (by simp; omega))
    have ga : ∀ k, k ≠ 25 → k ≠ oT (cLw s) + 3 → k ≠ oT (cLw s) + 2 → Ib k = I k := fun k h1 h2 h3 => by
      rw [hOb k (by simp; omega), eIa, rw2_ne _ _ _ h1]
    have gJ0 : ∀ k, k ≠ 21 → J0 k = J k := fun k h => by rw [eJ0, rw2_ne _ _ _ h]
    refine XP_n 2 (pc' := 50) (ls' := [.ref (21), .ref (pi), .int (qP q), .int (nI (cY s)), .int (nI (0)), xj]) (st' := []) (M' := (Ib, J0, Rx R, N, G)) rfl ?_
    refine l_s2 (d := d + 1) (br := br) hSb hW hL hq hno (fun y hy => hbb y (by omega)) ?_ (cP s) 0 Ib J0 (by omega) Only.rf OnlyJ.rf (fun o h => absurd h (by omega)) (fun o h1 h2 => HP_of (gJ0 _ (by omega)) (hC o h1 (by rw [← ga 31 (by omega) (by omega) (by omega)]; exact h2))) (fun o => Or.inl rfl)
    intro Ic Jc hOc hJc hHc hCc hsc
    have hSc : St s Ic := St_P hW hSb (fun k h1 h2 h3 => hOc k (by simp; omega))
    refine XP_n 3 (pc' := 69) (ls' := [.ref (21), .ref (pi), .int (qP q), .int (nI (cY s)), .int (nI (cP s)), xj]) (st' := [.int (nI (cY s)), .ref (33)]) (M' := (Ic, Jc, Rx R, N, G)) rfl ?_
    refine XP_aaldS (a := 34 + cY s) rfl rfl (show cY s < 17 by omega) rfl (by omega) (rx33 R (by omega)) ?_
    refine XP_n 1 (pc' := 71) (ls' := [.ref (21), .ref (pi), .int (qP q), .int (nI (cY s)), .int (nI (cP s)), xj]) (st' := [.long (lN (0)), .ref (34 + cY s)]) (M' := (Ic, Jc, Rx R, N, G)) rfl ?_
    refine XP_call rfl rfl (c_fillA (a34 (show cY s < 17 by omega)) (l34 N (by omega)) (by omega)) ?_
    rintro vd Md ⟨rfl, Jd, rfl, hJd, hz⟩
    have gd : ∀ k, k ≠ 34 + cY s → Jd k = Jc k := fun k h => hJd k (by simp [h])
    refine XP_n 4 (pc' := 76) (ls' := [.ref (21), .ref (pi), .int (qP q), .int (nI (cY s)), .int ((nI (cY s)) - (nI (1))), xj]) (st' := []) (M' := (Ic, Jd, Rx R, N, G)) rfl ?_
    refine l_s3 (d := d + 1) (br := br) hSc hW hL hq hno ?_ (cY s) Ic Jd _ _ (Nat.le_refl _) rfl ⟨fun y hy => by rw [hOc 25 (by simp; omega)]; exact hbb y hy, by rw [hOc 21 (by simp; omega), ga 21 (by omega) (by omega) (by omega)]; exact h9, by rw [hOc 21 (by simp; omega), ga 21 (by omega) (by omega) (by omega)]; exact h10, by rw [gd 21 (by omega), hJc 21 (by simp), eJ0, rw2_at], fun o h1 h2 => HP_of (gd _ (by omega)) (hHc o h1 h2), fun y h1 h2 d' h3 => by
        obtain rfl : y = cY s := by omega
        rw [Nat.sub_self]
        exact hz d' (by have := fr_le s (show cY s ≤ 16 by omega); omega), fun y h1 h2 => by omega⟩ (fun _ _ _ _ => rfl) (fun _ _ => rfl)
    intro Ie Je x4 w5 hSe hFe hFJe
    refine XP_n 4 (pc' := 104) (ls' := [.ref (21), .ref (pi), .int (qP q), .int (nI (cY s)), .int (nI (0)), .int (nI (0))]) (st' := []) (M' := (Ie, Je, Rx R, N, G)) rfl ?_
    refine XP_mono (l_s5 (d := d + 5) hW hP hSe (cY s) 0 Ie (by omega) (fun _ _ => rfl) (fun y h => absurd h (by omega))) ?_
    rintro v Mf ⟨rfl, If, Jf, rfl, hIf, hJf, hb1, hb2⟩
    refine ⟨rfl, If, Jf, rfl, fun k h1 h2 h3 => ?_, fun k h1 => ?_, hb1, hb2, fun p h1 h2 => ?_, fun o => ?_, fun k h1 h2 h3 => ?_, fun k h1 h2 h3 => ?_⟩
    · rw [hIf k (by omega), hFe k (by omega) h2 h3, hOc k (by simp; omega), ga k (by omega) h2 h3]
    · rw [hJf k (by omega), hFJe k (by omega), gd k (by omega), hJc k (by simp; omega), gJ0 k (by omega)]
    · have e31 : If 31 p = Ic 31 p := by rw [hIf 31 (by omega), hFe 31 (by omega) (by omega) (by omega)]
      refine HP_of ?_ (hCc p h1 (by rw [← e31]; exact h2))
      rw [hJf _ (by omega), hFJe _ (by omega), gd _ (by omega)]
    · have e31 : If 31 o = Ic 31 o := by rw [hIf 31 (by omega), hFe 31 (by omega) (by omega) (by omega)]
      have e32 : Ib 31 o = I 31 o := by rw [ga 31 (by omega) (by omega) (by omega)]
      rw [e31, ← e32]
      exact hsc o
    · rw [hIf k h3, hFe k (by omega) (by omega) (by omega), hOc k (by simp; omega), ga k (by omega) (by omega) (by omega)]
    · rw [hJf k h3, hFJe k (by omega), gd k (by omega), hJc k (by simp; omega), gJ0 k (by omega)]
  have hk8 : XP X (d + 6) k_Planner_solve 8 [.ref 21, .ref pi, .int (qP q), .int (nI (cY s)), xj, xj] [] (I, J, Rx R, N, G) (fun v M' => v = none ∧ ∃ I' J', M' = (I', J', Rx R, N, G) ∧ (∀ k, k < 21 ∨ 77 < k → k ≠ oT (cLw s) + 3 → k ≠ oT (cLw s) + 2 → I' k = I k) ∧ (∀ k, k < 21 ∨ 77 < k → J' k = J k) ∧ J' pi 1 = lN (pBest s q br no) ∧ (∀ y, y < cY s → I' ro y = nI (pU s q br no y)) ∧ CchH s I' J' ∧ (∀ o, I' 31 o = I 31 o ∨ I' 31 o = s 1 15) ∧ (∀ k, 68 ≤ k → k ≤ 77 → k ≠ ro → I' k = I k) ∧ (∀ k, 68 ≤ k → k ≤ 77 → k ≠ pi → J' k = J k)) := by
    by_cases h0 : q = 0
    · skip
      refine XP_n 3 (pc' := 11) (ls' := [.ref (21), .ref (pi), .int (qP q), .int (nI (cY s)), xj, xj]) (st' := [.int (qP q), .long (lN (1000)), .ref (21)]) (M' := (I, J, Rx R, N, G)) rfl ?_
      refine XP_ifD rfl (fun (b11 : 0 ≤ qP q) => absurd b11 (by rw [h0]; decide)) (fun (b11 : qP q < 0) => ?_)
      have n11 := Int32.not_le.mpr b11
      refine XP_n 2 (pc' := 14) (ls' := [.ref (21), .ref (pi), .int (qP q), .int (nI (cY s)), xj, xj]) (st' := [.ref (1), .long (lN (1000)), .ref (21)]) (M' := (I, J, Rx R, N, G)) rfl ?_
      refine XP_pure rfl rfl (c_wAll hS hW) ?_
      refine XP_n 3 (pc' := 19) (ls' := [.ref (21), .ref (pi), .int (qP q), .int (nI (cY s)), xj, xj]) (st' := [.long ((lN (1000)) * ((nI (cWA s)).toInt64)), .ref (21)]) (M' := (I, J, Rx R, N, G)) rfl ?_
      rw [show (lN (1000)) * ((nI (cWA s)).toInt64) = lN ((1000) * (cWA s)) from lN_mulE (rfl) (nI_lE (rfl) (by omega))]
      refine XP_n 1 (pc' := 20) (ls' := [.ref (21), .ref (pi), .int (qP q), .int (nI (cY s)), xj, xj]) (st' := []) (M' := (I, (rw2 J 21 11 (lN ((1000) * (cWA s)))), Rx R, N, G)) rfl ?_
      exact k20 _ (by unfold pSc; rw [if_pos h0])
    · have hqe : qP q = nI (q - 1) := by unfold qP; rw [if_neg h0]
      refine XP_n 3 (pc' := 11) (ls' := [.ref (21), .ref (pi), .int (qP q), .int (nI (cY s)), xj, xj]) (st' := [.int (qP q), .long (lN (1000)), .ref (21)]) (M' := (I, J, Rx R, N, G)) rfl ?_
      refine XP_ifD rfl (fun (b11 : 0 ≤ qP q) => ?_) (fun (b11 : qP q < 0) => absurd b11 (by rw [hqe]; exact Int32.not_lt.mpr (nI_pos' (by omega))))
      have n11 := Int32.not_lt.mpr b11
      refine XP_n 3 (pc' := 19) (ls' := [.ref (21), .ref (pi), .int (qP q), .int (nI (cY s)), xj, xj]) (st' := [.long ((lN (1000)) * ((nI (1)).toInt64)), .ref (21)]) (M' := (I, J, Rx R, N, G)) rfl ?_
      rw [show (lN (1000)) * ((nI (1)).toInt64) = lN ((1000) * (1)) from lN_mulE (rfl) (nI_lE (rfl) (by omega))]
      refine XP_n 1 (pc' := 20) (ls' := [.ref (21), .ref (pi), .int (qP q), .int (nI (cY s)), xj, xj]) (st' := []) (M' := (I, (rw2 J 21 11 (lN ((1000) * (1)))), Rx R, N, G)) rfl ?_
      exact k20 _ (by unfold pSc; rw [if_neg h0])
  unfold TP
  show XP X _ k_Planner_solve 0 [.ref (21), .ref (pi), .int (qP q), xj, xj, xj] [] _ _
  refine XP_n 3 (pc' := 3) (ls' := [.ref (21), .ref (pi), .int (qP q), xj, xj, xj]) (st' := [.ref (1), .int (nI (0))]) (M' := (I, J, Rx R, N, G)) rfl ?_
  refine XP_geti hS rfl rfl rfl ?_
  rw [hW.y.1]
  refine XP_n 2 (pc' := 6) (ls' := [.ref (21), .ref (pi), .int (qP q), xj, xj, xj]) (st' := [.int ((if nI (16) < nI (cY s) then nI (16) else nI (cY s))), .int (nI (0))]) (M' := (I, J, Rx R, N, G)) rfl ?_
  rw [show (if nI (16) < nI (cY s) then nI (16) else nI (cY s)) = nI (cY s) from (nI_min (by omega) (by omega)).trans (by rw [Nat.min_eq_left (by omega)])]
  refine XP_n 1 (pc' := 7) (ls' := [.ref (21), .ref (pi), .int (qP q), xj, xj, xj]) (st' := [.int ((if nI (0) < nI (cY s) then nI (cY s) else nI (0)))]) (M' := (I, J, Rx R, N, G)) rfl ?_
  rw [show (if nI (0) < nI (cY s) then nI (cY s) else nI (0)) = nI (cY s) from (nI_max (by omega) (by omega)).trans (by rw [Nat.max_eq_right (by omega)])]
  refine XP_n 1 (pc' := 8) (ls' := [.ref (21), .ref (pi), .int (qP q), .int (nI (cY s)), xj, xj]) (st' := []) (M' := (I, J, Rx R, N, G)) rfl ?_
  exact hk8
end
