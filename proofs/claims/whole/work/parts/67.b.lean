/-! faces: laws that are asked about -/
def sPr (s : Nat → Nat → Int32) (b : Nat) : Nat → Nat → Int32
  | 0, _ => cI (-1)
  | n + 1, i => if gMnA s (50 * i) ≤ b then nI (50 * i) else sPr s b n (i + 1)
section
variable {X : hX} {d : Nat} {s I : Nat → Nat → Int32} {J : Nat → Nat → Int64} {R : Nat → Nat → Option Nat} {N : Nat → Nat} {G : hG}
theorem f_thousand (hI : Inv s R N I J) (m : Int32) (part : Int32) : ∃ v, TP X (d + 12) n_H_thousand [.ref 0, .int m, .int part] (I, J, Rx R, N, G) (QP s R N G (.long v)) ∧ ∀ I J, Inv s R N I J → TP X (d + 12) n_M_thousand [.ref 99, .int m, .int part] (I, J, Rx R, N, G) (QP s R N G (.long v)) := by
  have hI0 := hI
  obtain ⟨hS, hW, hL, hC, hch⟩ := hI0
  have hy16 := hW.y.2
  have hp4 := hW.p.2
  have hs6 := hW.ns.2
  have hr8 := hW.r.2
  have hst8 := hW.st.2
  have ht3 := hW.t.2
  have hw60 := hW.w.2
  have hcwa := cWA_le hW
  have hgl := fun r => gM_le hW (f := fun p => nTot s r p) (fun p => (nTot_ok hW r p).2) (Nat.le_refl (cP s))
  have hgla := fun m => gM_le hW (f := fun p => nTotA s m p) (fun p => (nTotA_ok hW m p).2) (Nat.le_refl (cP s))
  by_cases g0 : iv 0 1000 (m)
  rotate_left
  · skip
    refine ⟨cL (-4611686018427387904), ?_, fun I J hI => ?_⟩
    · unfold TP
      show XP X _ k_H_thousand 0 [.ref (0), .int (m), .int (part)] [] _ _
      refine XP_n 1 (pc' := 1) (ls' := [.ref (0), .int (m), .int (part)]) (st' := [.int (m)]) (M' := (I, J, Rx R, N, G)) rfl ?_
      refine XP_pure rfl rfl (t_H_isMany X _ _ _) ?_
      refine XP_s rfl ?_
      refine XP_bne (fun b2 => absurd b2 g0) (fun b2 => ?_)
      refine XP_n 1 (pc' := 4) (ls' := [.ref (0), .int (m), .int (part)]) (st' := [.long (cL (-4611686018427387904))]) (M' := (I, J, Rx R, N, G)) rfl ?_
      exact XP_ret rfl ⟨rfl, _, _, rfl, hI⟩
    · unfold TP
      show XP X _ k_M_thousand 0 [.ref (99), .int (m), .int (part)] [] _ _
      refine XP_n 3 (pc' := 3) (ls' := [.ref (99), .int (m), .int (part)]) (st' := [.int (nI (1000)), .int (nI (0)), .int (m)]) (M' := (I, J, Rx R, N, G)) rfl ?_
      refine XP_pure rfl rfl (w_M X _ _ 0 1000 _) ?_
      refine XP_s rfl ?_
      refine XP_beq (fun b4 => ?_) (fun b4 => absurd b4 g0)
      refine XP_n 1 (pc' := 21) (ls' := [.ref (99), .int (m), .int (part)]) (st' := [.long (cL (-4611686018427387904))]) (M' := (I, J, Rx R, N, G)) rfl ?_
      exact XP_ret rfl ⟨rfl, _, _, rfl, hI⟩
  obtain ⟨mn, hmn0, hmn, rfl, em⟩ := iv_nat g0 (by omega) (by omega)
  by_cases g1 : iv 0 1 (part)
  rotate_left
  · skip
    refine ⟨cL (-4611686018427387904), ?_, fun I J hI => ?_⟩
    · unfold TP
      show XP X _ k_H_thousand 0 [.ref (0), .int (nI (mn)), .int (part)] [] _ _
      refine XP_n 1 (pc' := 1) (ls' := [.ref (0), .int (nI (mn)), .int (part)]) (st' := [.int (nI (mn))]) (M' := (I, J, Rx R, N, G)) rfl ?_
      refine XP_pure rfl rfl (t_H_isMany X _ _ _) ?_
      refine XP_s rfl ?_
      refine XP_bne (fun b2 => ?_) (fun b2 => absurd g0 b2)
      refine XP_n 8 (pc' := 13) (ls' := [.ref (0), .int (nI (mn)), .int (part)]) (st' := [.int (part), .ref (14), .ref (0)]) (M' := ((rw2 I 14 1 (nI (mn))), J, Rx R, N, G)) rfl ?_
      obtain ⟨I21, eI21⟩ : ∃ z, z = (rw2 I 14 1 (nI (mn))) := ⟨_, rfl⟩
      rw [← eI21]
      have hS21 : St s I21 := by rw [eI21]; exact (St_rwp hI.1 rfl)
      have f21_14_1 : I21 14 1 = nI (mn) := by rw [eI21]; rfl
      have hI21 : Inv s R N I21 J := hI.of hS21 (fun k h1 h2 => by rw [eI21, rw2_ne _ _ _ (by omega)]) (fun k h1 h2 => rfl)
      refine XP_call rfl (rfl) (c_meanOfA hI21 (by omega) (f21_14_1)) ?_
      rintro v22 M22 ⟨rfl, I22, J22, rfl, hI22⟩
      rw [if_neg g1]
      exact XP_ret rfl ⟨rfl, _, _, rfl, hI22⟩
    · unfold TP
      show XP X _ k_M_thousand 0 [.ref (99), .int (nI (mn)), .int (part)] [] _ _
      refine XP_n 3 (pc' := 3) (ls' := [.ref (99), .int (nI (mn)), .int (part)]) (st' := [.int (nI (1000)), .int (nI (0)), .int (nI (mn))]) (M' := (I, J, Rx R, N, G)) rfl ?_
      refine XP_pure rfl rfl (w_M X _ _ 0 1000 _) ?_
      refine XP_s rfl ?_
      refine XP_beq (fun b4 => absurd g0 b4) (fun b4 => ?_)
      refine XP_n 3 (pc' := 8) (ls' := [.ref (99), .int (nI (mn)), .int (part)]) (st' := [.int (nI (1)), .int (nI (0)), .int (part)]) (M' := (I, J, Rx R, N, G)) rfl ?_
      refine XP_pure rfl rfl (w_M X _ _ 0 1 _) ?_
      refine XP_s rfl ?_
      refine XP_beq (fun b9 => ?_) (fun b9 => absurd b9 g1)
      refine XP_n 1 (pc' := 21) (ls' := [.ref (99), .int (nI (mn)), .int (part)]) (st' := [.long (cL (-4611686018427387904))]) (M' := (I, J, Rx R, N, G)) rfl ?_
      exact XP_ret rfl ⟨rfl, _, _, rfl, hI⟩
  obtain ⟨partn, hpartn0, hpartn, rfl, epart⟩ := iv_nat g1 (by omega) (by omega)
  refine ⟨gMB s (lN (gMnA s mn)) partn, ?_, fun I J hI => ?_⟩
  · have hgl2 : gMnA s mn ≤ 198000000000 := hgla mn
    unfold TP
    show XP X _ k_H_thousand 0 [.ref (0), .int (nI (mn)), .int (nI (partn))] [] _ _
    refine XP_n 1 (pc' := 1) (ls' := [.ref (0), .int (nI (mn)), .int (nI (partn))]) (st' := [.int (nI (mn))]) (M' := (I, J, Rx R, N, G)) rfl ?_
    refine XP_pure rfl rfl (t_H_isMany X _ _ _) ?_
    refine XP_s rfl ?_
    refine XP_bne (fun b2 => ?_) (fun b2 => absurd g0 b2)
    refine XP_n 8 (pc' := 13) (ls' := [.ref (0), .int (nI (mn)), .int (nI (partn))]) (st' := [.int (nI (partn)), .ref (14), .ref (0)]) (M' := ((rw2 I 14 1 (nI (mn))), J, Rx R, N, G)) rfl ?_
    obtain ⟨I23, eI23⟩ : ∃ z, z = (rw2 I 14 1 (nI (mn))) := ⟨_, rfl⟩
    rw [← eI23]
    have hS23 : St s I23 := by rw [eI23]; exact (St_rwp hI.1 rfl)
    have f23_14_1 : I23 14 1 = nI (mn) := by rw [eI23]; rfl
    have hI23 : Inv s R N I23 J := hI.of hS23 (fun k h1 h2 => by rw [eI23, rw2_ne _ _ _ (by omega)]) (fun k h1 h2 => rfl)
    refine XP_call rfl (rfl) (c_meanOfA hI23 (by omega) (f23_14_1)) ?_
    rintro v24 M24 ⟨rfl, I24, J24, rfl, hI24⟩
    rw [if_pos g1, wN_nI (by omega)]
    exact XP_ret rfl ⟨rfl, _, _, rfl, hI24⟩
  · have hgl2 : gMnA s mn ≤ 198000000000 := hgla mn
    unfold TP
    show XP X _ k_M_thousand 0 [.ref (99), .int (nI (mn)), .int (nI (partn))] [] _ _
    refine XP_n 3 (pc' := 3) (ls' := [.ref (99), .int (nI (mn)), .int (nI (partn))]) (st' := [.int (nI (1000)), .int (nI (0)), .int (nI (mn))]) (M' := (I, J, Rx R, N, G)) rfl ?_
    refine XP_pure rfl rfl (w_M X _ _ 0 1000 _) ?_
    refine XP_s rfl ?_
    refine XP_beq (fun b4 => absurd g0 b4) (fun b4 => ?_)
    refine XP_n 3 (pc' := 8) (ls' := [.ref (99), .int (nI (mn)), .int (nI (partn))]) (st' := [.int (nI (1)), .int (nI (0)), .int (nI (partn))]) (M' := (I, J, Rx R, N, G)) rfl ?_
    refine XP_pure rfl rfl (w_M X _ _ 0 1 _) ?_
    refine XP_s rfl ?_
    refine XP_beq (fun b9 => absurd g1 b9) (fun b9 => ?_)
    refine XP_n 2 (pc' := 12) (ls' := [.ref (99), .int (nI (mn)), .int (nI (partn))]) (st' := [.int (nI (mn)), .ref (99)]) (M' := (I, J, Rx R, N, G)) rfl ?_
    refine XP_call rfl (rfl) (m_meanA hI (show mn ≤ 1000 by omega)) ?_
    rintro v25 M25 ⟨rfl, I25, J25, rfl, hI25⟩
    refine XP_n 2 (pc' := 15) (ls' := [.ref (99), .int (nI (mn)), .int (nI (partn))]) (st' := [.ref (99), .long (lN (1000)), .long (lN (gMnA s mn))]) (M' := (I25, J25, Rx R, N, G)) rfl ?_
    refine XP_pure rfl rfl (m_weights hI25.1 hW) ?_
    refine XP_n 2 (pc' := 18) (ls' := [.ref (99), .int (nI (mn)), .int (nI (partn))]) (st' := [.int (nI (partn)), .long ((lN (1000)) * (lN (cWA s))), .long (lN (gMnA s mn))]) (M' := (I25, J25, Rx R, N, G)) rfl ?_
    rw [show (lN (1000)) * (lN (cWA s)) = lN ((1000) * (cWA s)) from lN_mulE (rfl) (rfl)]
    refine XP_pure rfl rfl (m_low (by omega) (by first | (intro h; have hz : ¬ cWA s = 0 := fun z => h (by unfold gMnA; rw [(cWA_0 hW).mp z]; rfl); omega)) (by omega) (l_min (by omega))) ?_
    refine XP_n 1 (pc' := 21) (ls' := [.ref (99), .int (nI (mn)), .int (nI (partn))]) (st' := [.long (gLow (lN (gMnA s mn)) ((1000) * (cWA s)) (partn))]) (M' := (I25, J25, Rx R, N, G)) rfl ?_
    exact XP_ret rfl ⟨by rw [gMB_eq (fun h => by unfold gMnA; rw [(cWA_0 hW).mp h]; rfl)], _, _, rfl, hI25⟩
theorem l_H_price (hW : Wf s) {mo b : Nat} (hb : b ≤ 1000000000000) : ∀ (n i : Nat) (I : Nat → Nat → Int32) (J : Nat → Nat → Int64), i + n = 21 → Inv s R N I J → XP X (d + 9) k_H_price 19 [.ref (0), .int (nI (mo)), .long (lN (b)), xj, .int (nI (50 * i))] [] (I, J, Rx R, N, G) (QP s R N G (.int (sPr s b n i))) := by
  have hcwa := cWA_le hW
  have hp4 := hW.p.2
  have hgla := fun m => gM_le hW (f := fun p => nTotA s m p) (fun p => (nTotA_ok hW m p).2) (Nat.le_refl (cP s))
  intro n
  induction n with
  | zero =>
    rintro i I J hi hI
    have hL := hI.2.2.1
    refine XP_n 2 (pc' := 21) (ls' := [.ref (0), .int (nI (mo)), .long (lN (b)), xj, .int (nI (50 * i))]) (st' := [.int (nI (1000)), .int (nI (50 * i))]) (M' := (I, J, Rx R, N, G)) rfl ?_
    refine XP_icN (x := 50 * i) (y := 1000) rfl (by omega) (by omega) (fun (b21 : 1000 < 50 * i) => ?_) (fun (b21 : 50 * i ≤ 1000) => absurd b21 (by omega))
    refine XP_n 1 (pc' := 38) (ls' := [.ref (0), .int (nI (mo)), .long (lN (b)), xj, .int (nI (50 * i))]) (st' := [.int (cI (-1))]) (M' := (I, J, Rx R, N, G)) rfl ?_
    exact XP_ret rfl ⟨rfl, _, _, rfl, hI⟩
  | succ n ih =>
    rintro i I J hi hI
    have hL := hI.2.2.1
    have hgl2 : gMnA s (50 * i) ≤ 198000000000 := hgla (50 * i)
    unfold sPr
    refine XP_n 2 (pc' := 21) (ls' := [.ref (0), .int (nI (mo)), .long (lN (b)), xj, .int (nI (50 * i))]) (st' := [.int (nI (1000)), .int (nI (50 * i))]) (M' := (I, J, Rx R, N, G)) rfl ?_
    refine XP_icN (x := 50 * i) (y := 1000) rfl (by omega) (by omega) (fun (b21 : 1000 < 50 * i) => absurd b21 (by omega)) (fun (b21 : 50 * i ≤ 1000) => ?_)
    refine XP_n 7 (pc' := 29) (ls' := [.ref (0), .int (nI (mo)), .long (lN (b)), xj, .int (nI (50 * i))]) (st' := [.ref (14), .ref (0)]) (M' := ((rw2 I 14 1 (nI (50 * i))), J, Rx R, N, G)) rfl ?_
    obtain ⟨I26, eI26⟩ : ∃ z, z = (rw2 I 14 1 (nI (50 * i))) := ⟨_, rfl⟩
    rw [← eI26]
    have hS26 : St s I26 := by rw [eI26]; exact (St_rwp hI.1 rfl)
    have f26_14_1 : I26 14 1 = nI (50 * i) := by rw [eI26]; rfl
    have hI26 : Inv s R N I26 J := hI.of hS26 (fun k h1 h2 => by rw [eI26, rw2_ne _ _ _ (by omega)]) (fun k h1 h2 => rfl)
    refine XP_call rfl (rfl) (c_wsA hI26 (by omega) (f26_14_1)) ?_
    rintro v27 M27 ⟨rfl, I27, J27, rfl, hI27⟩
    refine XP_n 1 (pc' := 31) (ls' := [.ref (0), .int (nI (mo)), .long (lN (b)), xj, .int (nI (50 * i))]) (st' := [.long (lN (b)), .long (lN (gMnA s (50 * i)))]) (M' := (I27, J27, Rx R, N, G)) rfl ?_
    refine XP_lcN (x := gMnA s (50 * i)) (y := b) rfl rfl (by omega) (by omega) (fun (b32 : b < gMnA s (50 * i)) => ?_) (fun (b32 : gMnA s (50 * i) ≤ b) => ?_)
    · refine XP_n 1 (pc' := 36) (ls' := [.ref (0), .int (nI (mo)), .long (lN (b)), xj, .int (nI (50 * i) + nI (50))]) (st' := []) (M' := (I27, J27, Rx R, N, G)) rfl ?_
      rw [show nI (50 * i) + nI (50) = nI (50 * i + 50) from nI_addE (rfl) rfl]
      refine XP_n 1 (pc' := 19) (ls' := [.ref (0), .int (nI (mo)), .long (lN (b)), xj, .int (nI (50 * i + 50))]) (st' := []) (M' := (I27, J27, Rx R, N, G)) rfl ?_
      rw [if_neg (by omega)]
      have ih2 := ih (i + 1) _ _ (by omega) hI27
      rw [show 50 * (i + 1) = 50 * i + 50 by omega] at ih2
      exact ih2
    · refine XP_n 1 (pc' := 34) (ls' := [.ref (0), .int (nI (mo)), .long (lN (b)), xj, .int (nI (50 * i))]) (st' := [.int (nI (50 * i))]) (M' := (I27, J27, Rx R, N, G)) rfl ?_
      rw [if_pos (by omega)]
      exact XP_ret rfl ⟨rfl, _, _, rfl, hI27⟩
theorem l_M_price (hW : Wf s) {mo b : Nat} (hmo : mo ≤ 999999) (hb : b = mo * 1000 * cWA s) (hb2 : b ≤ 1000000000000) : ∀ (n i : Nat) (I : Nat → Nat → Int32) (J : Nat → Nat → Int64), i + n = 21 → Inv s R N I J → XP X (d + 9) k_M_price 9 [.ref (99), .int (nI (mo)), .int (nI (50 * i))] [] (I, J, Rx R, N, G) (QP s R N G (.int (sPr s b n i))) := by
  have hcwa := cWA_le hW
  have hp4 := hW.p.2
  have hgla := fun m => gM_le hW (f := fun p => nTotA s m p) (fun p => (nTotA_ok hW m p).2) (Nat.le_refl (cP s))
  intro n
  induction n with
  | zero =>
    rintro i I J hi hI
    have hL := hI.2.2.1
    refine XP_n 2 (pc' := 11) (ls' := [.ref (99), .int (nI (mo)), .int (nI (50 * i))]) (st' := [.int (nI (1000)), .int (nI (50 * i))]) (M' := (I, J, Rx R, N, G)) rfl ?_
    refine XP_icN (x := 50 * i) (y := 1000) rfl (by omega) (by omega) (fun (b11 : 1000 < 50 * i) => ?_) (fun (b11 : 50 * i ≤ 1000) => absurd b11 (by omega))
    refine XP_n 1 (pc' := 29) (ls' := [.ref (99), .int (nI (mo)), .int (nI (50 * i))]) (st' := [.int (cI (-1))]) (M' := (I, J, Rx R, N, G)) rfl ?_
    exact XP_ret rfl ⟨rfl, _, _, rfl, hI⟩
  | succ n ih =>
    rintro i I J hi hI
    have hL := hI.2.2.1
    have hgl2 : gMnA s (50 * i) ≤ 198000000000 := hgla (50 * i)
    unfold sPr
    refine XP_n 2 (pc' := 11) (ls' := [.ref (99), .int (nI (mo)), .int (nI (50 * i))]) (st' := [.int (nI (1000)), .int (nI (50 * i))]) (M' := (I, J, Rx R, N, G)) rfl ?_
    refine XP_icN (x := 50 * i) (y := 1000) rfl (by omega) (by omega) (fun (b11 : 1000 < 50 * i) => absurd b11 (by omega)) (fun (b11 : 50 * i ≤ 1000) => ?_)
    refine XP_n 2 (pc' := 14) (ls' := [.ref (99), .int (nI (mo)), .int (nI (50 * i))]) (st' := [.int (nI (50 * i)), .ref (99)]) (M' := (I, J, Rx R, N, G)) rfl ?_
    refine XP_call rfl (rfl) (m_meanA hI (show 50 * i ≤ 1000 by omega)) ?_
    rintro v28 M28 ⟨rfl, I28, J28, rfl, hI28⟩
    refine XP_n 5 (pc' := 20) (ls' := [.ref (99), .int (nI (mo)), .int (nI (50 * i))]) (st' := [.ref (99), .long (((nI (mo)).toInt64) * (lN (1000))), .long (lN (gMnA s (50 * i)))]) (M' := (I28, J28, Rx R, N, G)) rfl ?_
    rw [show ((nI (mo)).toInt64) * (lN (1000)) = lN ((mo) * (1000)) from lN_mulE (nI_lE (rfl) (by omega)) (rfl)]
    refine XP_pure rfl rfl (m_weights hI28.1 hW) ?_
    refine XP_n 1 (pc' := 22) (ls' := [.ref (99), .int (nI (mo)), .int (nI (50 * i))]) (st' := [.long ((lN ((mo) * (1000))) * (lN (cWA s))), .long (lN (gMnA s (50 * i)))]) (M' := (I28, J28, Rx R, N, G)) rfl ?_
    rw [show (lN ((mo) * (1000))) * (lN (cWA s)) = lN (((mo) * (1000)) * (cWA s)) from lN_mulE (rfl) (rfl)]
    refine XP_lcN (x := gMnA s (50 * i)) (y := ((mo) * (1000)) * (cWA s)) rfl rfl (by omega) (by omega) (fun (b23 : ((mo) * (1000)) * (cWA s) < gMnA s (50 * i)) => ?_) (fun (b23 : gMnA s (50 * i) ≤ ((mo) * (1000)) * (cWA s)) => ?_)
    · refine XP_n 1 (pc' := 27) (ls' := [.ref (99), .int (nI (mo)), .int (nI (50 * i) + nI (50))]) (st' := []) (M' := (I28, J28, Rx R, N, G)) rfl ?_
      rw [show nI (50 * i) + nI (50) = nI (50 * i + 50) from nI_addE (rfl) rfl]
      refine XP_n 1 (pc' := 9) (ls' := [.ref (99), .int (nI (mo)), .int (nI (50 * i + 50))]) (st' := []) (M' := (I28, J28, Rx R, N, G)) rfl ?_
      rw [if_neg (by omega)]
      have ih2 := ih (i + 1) _ _ (by omega) hI28
      rw [show 50 * (i + 1) = 50 * i + 50 by omega] at ih2
      exact ih2
    · refine XP_n 1 (pc' := 25) (ls' := [.ref (99), .int (nI (mo)), .int (nI (50 * i))]) (st' := [.int (nI (50 * i))]) (M' := (I28, J28, Rx R, N, G)) rfl ?_
      rw [if_pos (by omega)]
      exact XP_ret rfl ⟨rfl, _, _, rfl, hI28⟩
theorem f_price (hI : Inv s R N I J) (most : Int32) : ∃ v, TP X (d + 12) n_H_price [.ref 0, .int most] (I, J, Rx R, N, G) (QP s R N G (.int v)) ∧ ∀ I J, Inv s R N I J → TP X (d + 12) n_M_price [.ref 99, .int most] (I, J, Rx R, N, G) (QP s R N G (.int v)) := by
  have hI0 := hI
  obtain ⟨hS, hW, hL, hC, hch⟩ := hI0
  have hy16 := hW.y.2
  have hp4 := hW.p.2
  have hs6 := hW.ns.2
  have hr8 := hW.r.2
  have hst8 := hW.st.2
  have ht3 := hW.t.2
  have hw60 := hW.w.2
  have hcwa := cWA_le hW
  have hbb : ∀ mo, mo ≤ 999999 → 1000 * mo * cWA s ≤ 1000000000000 := fun mo h => Nat.le_trans (Nat.mul_le_mul (Nat.mul_le_mul_left 1000 h) hcwa.1) (by decide)
  by_cases g0 : iv 0 999999 (most)
  rotate_left
  · skip
    refine ⟨cI (-2), ?_, fun I J hI => ?_⟩
    · unfold TP
      show XP X _ k_H_price 0 [.ref (0), .int (most), xj, xj, xj] [] _ _
      refine XP_n 3 (pc' := 3) (ls' := [.ref (0), .int (most), xj, xj, xj]) (st' := [.int (nI (999999)), .int (nI (0)), .int (most)]) (M' := (I, J, Rx R, N, G)) rfl ?_
      refine XP_pure rfl rfl (w_H X _ _ 0 999999 _) ?_
      refine XP_s rfl ?_
      refine XP_bne (fun b4 => absurd b4 g0) (fun b4 => ?_)
      refine XP_n 1 (pc' := 6) (ls' := [.ref (0), .int (most), xj, xj, xj]) (st' := [.int (cI (-2))]) (M' := (I, J, Rx R, N, G)) rfl ?_
      exact XP_ret rfl ⟨rfl, _, _, rfl, hI⟩
    · unfold TP
      show XP X _ k_M_price 0 [.ref (99), .int (most), xj] [] _ _
      refine XP_n 3 (pc' := 3) (ls' := [.ref (99), .int (most), xj]) (st' := [.int (nI (999999)), .int (nI (0)), .int (most)]) (M' := (I, J, Rx R, N, G)) rfl ?_
      refine XP_pure rfl rfl (w_M X _ _ 0 999999 _) ?_
      refine XP_s rfl ?_
      refine XP_bne (fun b4 => absurd b4 g0) (fun b4 => ?_)
      refine XP_n 1 (pc' := 6) (ls' := [.ref (99), .int (most), xj]) (st' := [.int (cI (-2))]) (M' := (I, J, Rx R, N, G)) rfl ?_
      exact XP_ret rfl ⟨rfl, _, _, rfl, hI⟩
  obtain ⟨mostn, hmostn0, hmostn, rfl, emost⟩ := iv_nat g0 (by omega) (by omega)
  refine ⟨sPr s (1000 * mostn * cWA s) 21 0, ?_, fun I J hI => ?_⟩
  · have hb0 := hbb mostn hmostn
    unfold TP
    show XP X _ k_H_price 0 [.ref (0), .int (nI (mostn)), xj, xj, xj] [] _ _
    refine XP_n 3 (pc' := 3) (ls' := [.ref (0), .int (nI (mostn)), xj, xj, xj]) (st' := [.int (nI (999999)), .int (nI (0)), .int (nI (mostn))]) (M' := (I, J, Rx R, N, G)) rfl ?_
    refine XP_pure rfl rfl (w_H X _ _ 0 999999 _) ?_
    refine XP_s rfl ?_
    refine XP_bne (fun b4 => ?_) (fun b4 => absurd g0 b4)
    refine XP_n 6 (pc' := 13) (ls' := [.ref (0), .int (nI (mostn)), xj, xj, xj]) (st' := [.ref (1), .long ((lN (1000)) * ((nI (mostn)).toInt64))]) (M' := (I, J, Rx R, N, G)) rfl ?_
    rw [show (lN (1000)) * ((nI (mostn)).toInt64) = lN ((1000) * (mostn)) from lN_mulE (rfl) (nI_lE (rfl) (by omega))]
    refine XP_pure rfl rfl (c_wAll hI.1 hW) ?_
    refine XP_n 3 (pc' := 17) (ls' := [.ref (0), .int (nI (mostn)), .long ((lN ((1000) * (mostn))) * ((nI (cWA s)).toInt64)), xj, xj]) (st' := []) (M' := (I, J, Rx R, N, G)) rfl ?_
    rw [show (lN ((1000) * (mostn))) * ((nI (cWA s)).toInt64) = lN (((1000) * (mostn)) * (cWA s)) from lN_mulE (rfl) (nI_lE (rfl) (by omega))]
    refine XP_n 2 (pc' := 19) (ls' := [.ref (0), .int (nI (mostn)), .long (lN (((1000) * (mostn)) * (cWA s))), xj, .int (nI (0))]) (st' := []) (M' := (I, J, Rx R, N, G)) rfl ?_
    exact l_H_price hW hb0 21 0 _ _ (by omega) hI
  · have hb0 := hbb mostn hmostn
    unfold TP
    show XP X _ k_M_price 0 [.ref (99), .int (nI (mostn)), xj] [] _ _
    refine XP_n 3 (pc' := 3) (ls' := [.ref (99), .int (nI (mostn)), xj]) (st' := [.int (nI (999999)), .int (nI (0)), .int (nI (mostn))]) (M' := (I, J, Rx R, N, G)) rfl ?_
    refine XP_pure rfl rfl (w_M X _ _ 0 999999 _) ?_
    refine XP_s rfl ?_
    refine XP_bne (fun b4 => ?_) (fun b4 => absurd g0 b4)
    refine XP_n 2 (pc' := 9) (ls' := [.ref (99), .int (nI (mostn)), .int (nI (0))]) (st' := []) (M' := (I, J, Rx R, N, G)) rfl ?_
    exact l_M_price hW hmostn (by rw [Nat.mul_comm 1000 mostn]) hb0 21 0 _ _ (by omega) hI
end
