/-! faces: the surest rule; what building broad is worth -/
def sSu (F : Nat → Int64) : Nat → Nat → Int32 → Int64 → Int32
  | 0, _, b, _ => b
  | n + 1, r, b, low => if b = cI (-1) ∨ F r < low then sSu F n (r + 1) (nI r) (F r) else sSu F n (r + 1) b low
theorem sSu_congr {F F' : Nat → Int64} (h : ∀ a b, F a < F b ↔ F' a < F' b) : ∀ n r b low low', (b = cI (-1) ∨ ∃ k, low = F k ∧ low' = F' k) → sSu F n r b low = sSu F' n r b low'
  | 0, _, _, _, _, _ => rfl
  | n + 1, r, b, low, low', hb => by
    unfold sSu
    have hc : (b = cI (-1) ∨ F r < low) ↔ (b = cI (-1) ∨ F' r < low') := by
      rcases hb with hb | ⟨k, h1, h2⟩
      · simp [hb]
      · rw [h1, h2, h r k]
    by_cases e : b = cI (-1) ∨ F r < low
    · rw [if_pos e, if_pos (hc.mp e)]
      exact sSu_congr h n (r + 1) _ _ _ (Or.inr ⟨r, rfl, rfl⟩)
    · rw [if_neg e, if_neg (fun z => e (hc.mpr z))]
      exact sSu_congr h n (r + 1) _ _ _ hb
def fWH (s : Nat → Nat → Int32) (r : Nat) : Int64 := if cP s = 0 then cL (-4611686018427387904) else gWo s r (cP s - 1)
def fWM (s : Nat → Nat → Int32) (r : Nat) : Int64 := if cP s = 0 then lN 0 else gWo s r (cP s - 1)
def fMn (s : Nat → Nat → Int32) (r : Nat) : Int64 := lN (gMn s r)
theorem fW_lt (s : Nat → Nat → Int32) (a b : Nat) : fWH s a < fWH s b ↔ fWM s a < fWM s b := by
  unfold fWH fWM
  by_cases h : cP s = 0
  · simp only [if_pos h]
    simp [Int64.lt_irrefl]
  · simp only [if_neg h]
section
variable {X : hX} {d : Nat} {s I : Nat → Nat → Int32} {J : Nat → Nat → Int64} {R : Nat → Nat → Option Nat} {N : Nat → Nat} {G : hG}
theorem c_worstF (hI : Inv s R N I J) {r : Nat} (hr : r < cR s) : TP X (d + 9) n_H_worstOf [.ref 0, .ref (1000 + 2 * r)] (I, J, Rx R, N, G) (QP s R N G (.long (fWH s r))) := by
  unfold fWH
  by_cases h0 : cP s = 0
  · rw [if_pos h0]
    obtain ⟨hS, hW, hL, hC, hch⟩ := id hI
    have hr8 := hW.r.2
    unfold TP
    show XP X _ k_H_worstOf 0 [.ref (0), .ref (1000 + 2 * r), xj, xj, xj] [] _ _
    refine XP_n 7 (pc' := 7) (ls' := [.ref (0), .ref (1000 + 2 * r), .long (cL (-4611686018427387904)), xj, .int (nI (0))]) (st' := [.ref (1), .int (nI (0))]) (M' := (I, J, Rx R, N, G)) rfl ?_
    refine XP_geti hI.1 rfl rfl rfl ?_
    rw [hW.p.1]
    refine XP_icN (x := 0) (y := cP s) rfl (by omega) (by omega) (fun (b8 : cP s ≤ 0) => ?_) (fun (b8 : 0 < cP s) => absurd b8 (by omega))
    refine XP_n 1 (pc' := 31) (ls' := [.ref (0), .ref (1000 + 2 * r), .long (cL (-4611686018427387904)), xj, .int (nI (0))]) (st' := [.long (cL (-4611686018427387904))]) (M' := (I, J, Rx R, N, G)) rfl ?_
    exact XP_ret rfl ⟨rfl, _, _, rfl, hI⟩
  · rw [if_neg h0]
    exact c_worst hI hr (by omega)
theorem m_worstF (hI : Inv s R N I J) {r : Nat} (hr : r < cR s) : TP X (d + 6) n_M_worstOf [.ref 99, .int (nI (r))] (I, J, Rx R, N, G) (QP s R N G (.long (fWM s r))) := by
  unfold fWM
  by_cases h0 : cP s = 0
  · rw [if_pos h0]
    obtain ⟨hS, hW, hL, hC, hch⟩ := id hI
    have hr8 := hW.r.2
    unfold TP
    show XP X _ k_M_worstOf 0 [.ref (99), .int (nI (r)), xj, xj, xj, xj, xj] [] _ _
    refine XP_n 6 (pc' := 6) (ls' := [.ref (99), .int (nI (r)), .long (lN (0)), xj, .int (nI (0)), xj, xj]) (st' := [.ref (99), .int (nI (0))]) (M' := (I, J, Rx R, N, G)) rfl ?_
    refine XP_geti hI.1 rfl rfl rfl ?_
    rw [hW.p.1]
    refine XP_icN (x := 0) (y := cP s) rfl (by omega) (by omega) (fun (b7 : cP s ≤ 0) => ?_) (fun (b7 : 0 < cP s) => absurd b7 (by omega))
    refine XP_n 1 (pc' := 31) (ls' := [.ref (99), .int (nI (r)), .long (lN (0)), xj, .int (nI (0)), xj, xj]) (st' := [.long (lN (0))]) (M' := (I, J, Rx R, N, G)) rfl ?_
    exact XP_ret rfl ⟨rfl, _, _, rfl, hI⟩
  · rw [if_neg h0]
    exact m_worst hI hr (by omega)
theorem l_H_su0 (hW : Wf s) : ∀ (n i : Nat) (I : Nat → Nat → Int32) (J : Nat → Nat → Int64) (b : Int32) (low : Int64) (w6 w7 w8 : Value), i + n = cR s → Inv s R N I J → (b = cI (-1) ∨ ∃ k, k < 100 ∧ b = nI k) → XP X (d + 10) k_H_sure 11 [.ref (0), .int (nI (0)), .int (b), .long (low), xj, .int (nI (i)), w6, w7, w8] [] (I, J, Rx R, N, G) (QP s R N G (.int (sSu (fWH s) n i b low))) := by
  have hp4 := hW.p.2
  have hr8 := hW.r.2
  intro n
  induction n with
  | zero =>
    rintro i I J b low w6 w7 w8 hi hI hb
    obtain rfl : i = cR s := by omega
    have hL := hI.2.2.1
    refine XP_n 2 (pc' := 13) (ls' := [.ref (0), .int (nI (0)), .int (b), .long (low), xj, .int (nI (cR s)), w6, w7, w8]) (st' := [.ref (0), .int (nI (cR s))]) (M' := (I, J, Rx R, N, G)) rfl ?_
    refine XP_geti hI.1 rfl rfl rfl ?_
    rw [hW.r.1]
    refine XP_icN (x := cR s) (y := cR s) rfl (by omega) (by omega) (fun (b14 : cR s ≤ cR s) => ?_) (fun (b14 : cR s < cR s) => absurd b14 (by omega))
    refine XP_n 1 (pc' := 44) (ls' := [.ref (0), .int (nI (0)), .int (b), .long (low), xj, .int (nI (cR s)), w6, w7, w8]) (st' := [.int (b)]) (M' := (I, J, Rx R, N, G)) rfl ?_
    exact XP_ret rfl ⟨rfl, _, _, rfl, hI⟩
  | succ n ih =>
    rintro i I J b low w6 w7 w8 hi hI hb
    have hL := hI.2.2.1
    have hir : inN (nI i) (cR s) := nI_inN (by omega) (by omega)
    have up := fun I J w6 w7 w8 (h : b = cI (-1) ∨ fWH s i < low) (hI : Inv s R N I J) => (if_pos h : (if b = cI (-1) ∨ fWH s i < low then sSu (fWH s) n (i + 1) (nI i) (fWH s i) else sSu (fWH s) n (i + 1) b low) = _) ▸ ih (i + 1) I J (nI i) (fWH s i) w6 w7 w8 (by omega) hI (Or.inr ⟨i, by omega, rfl⟩)
    have dn := fun I J w6 w7 w8 (h : ¬ (b = cI (-1) ∨ fWH s i < low)) (hI : Inv s R N I J) => (if_neg h : (if b = cI (-1) ∨ fWH s i < low then sSu (fWH s) n (i + 1) (nI i) (fWH s i) else sSu (fWH s) n (i + 1) b low) = _) ▸ ih (i + 1) I J b low w6 w7 w8 (by omega) hI hb
    refine XP_n 2 (pc' := 13) (ls' := [.ref (0), .int (nI (0)), .int (b), .long (low), xj, .int (nI (i)), w6, w7, w8]) (st' := [.ref (0), .int (nI (i))]) (M' := (I, J, Rx R, N, G)) rfl ?_
    refine XP_geti hI.1 rfl rfl rfl ?_
    rw [hW.r.1]
    refine XP_icN (x := i) (y := cR s) rfl (by omega) (by omega) (fun (b14 : cR s ≤ i) => absurd b14 (by omega)) (fun (b14 : i < cR s) => ?_)
    refine XP_n 2 (pc' := 17) (ls' := [.ref (0), .int (nI (0)), .int (b), .long (low), xj, .int (nI (i)), w6, w7, w8]) (st' := [.int (nI (i)), .ref (0)]) (M' := (I, J, Rx R, N, G)) rfl ?_
    refine XP_pure rfl rfl (c_ruleAtT hI.1 hW hL (show i < cR s by omega)) ?_
    refine XP_n 4 (pc' := 22) (ls' := [.ref (0), .int (nI (0)), .int (b), .long (low), xj, .int (nI (i)), .ref (1000 + 2 * i), w7, w8]) (st' := [.int (nI (0))]) (M' := (I, J, Rx R, N, G)) rfl ?_
    refine XP_ifN (x := 0)  rfl (by omega) (fun (b22 : ¬ 0 = 0) => absurd b22 (by omega)) (fun (b22 : 0 = 0) => ?_)
    refine XP_n 2 (pc' := 25) (ls' := [.ref (0), .int (nI (0)), .int (b), .long (low), xj, .int (nI (i)), .ref (1000 + 2 * i), w7, w8]) (st' := [.ref (1000 + 2 * i), .ref (0)]) (M' := (I, J, Rx R, N, G)) rfl ?_
    refine XP_call rfl (rfl) (c_worstF hI (show i < cR s by omega)) ?_
    rintro v21 M21 ⟨rfl, I21, J21, rfl, hI21⟩
    refine XP_n 3 (pc' := 32) (ls' := [.ref (0), .int (nI (0)), .int (b), .long (low), xj, .int (nI (i)), .ref (1000 + 2 * i), .long (fWH s i), xj]) (st' := [.int (b)]) (M' := (I21, J21, Rx R, N, G)) rfl ?_
    refine XP_ifD rfl (fun (b32 : b < 0) => ?_) (fun (b32 : 0 ≤ b) => ?_)
    · have n32 := Int32.not_le.mpr b32
      refine XP_n 5 (pc' := 42) (ls' := [.ref (0), .int (nI (0)), .int (nI (i)), .long (fWH s i), xj, .int (nI (i) + nI (1)), .ref (1000 + 2 * i), .long (fWH s i), xj]) (st' := []) (M' := (I21, J21, Rx R, N, G)) rfl ?_
      rw [show nI (i) + nI (1) = nI (i + 1) from nI_addE (rfl) rfl]
      refine XP_n 1 (pc' := 11) (ls' := [.ref (0), .int (nI (0)), .int (nI (i)), .long (fWH s i), xj, .int (nI (i + 1)), .ref (1000 + 2 * i), .long (fWH s i), xj]) (st' := []) (M' := (I21, J21, Rx R, N, G)) rfl ?_
      first
        | exact up _ _ (.ref (1000 + 2 * i)) (.long (fWH s i)) xj (Or.inr b36) hI21
        | exact up _ _ (.ref (1000 + 2 * i)) (.long (fWH s i)) xj (by rcases hb with hb2 | ⟨k, hk, hb2⟩ <;> first | exact Or.inl hb2 | exact absurd (hb2 ▸ b32) (nI_pos (by omega))) hI21
    · have n32 := Int32.not_lt.mpr b32
      refine XP_n 2 (pc' := 35) (ls' := [.ref (0), .int (nI (0)), .int (b), .long (low), xj, .int (nI (i)), .ref (1000 + 2 * i), .long (fWH s i), xj]) (st' := [.long (low), .long (fWH s i)]) (M' := (I21, J21, Rx R, N, G)) rfl ?_
      refine XP_lcD rfl rfl (fun (b36 : low ≤ fWH s i) => ?_) (fun (b36 : fWH s i < low) => ?_)
      · have n36 := Int64.not_lt.mpr b36
        refine XP_n 1 (pc' := 42) (ls' := [.ref (0), .int (nI (0)), .int (b), .long (low), xj, .int (nI (i) + nI (1)), .ref (1000 + 2 * i), .long (fWH s i), xj]) (st' := []) (M' := (I21, J21, Rx R, N, G)) rfl ?_
        rw [show nI (i) + nI (1) = nI (i + 1) from nI_addE (rfl) rfl]
        refine XP_n 1 (pc' := 11) (ls' := [.ref (0), .int (nI (0)), .int (b), .long (low), xj, .int (nI (i + 1)), .ref (1000 + 2 * i), .long (fWH s i), xj]) (st' := []) (M' := (I21, J21, Rx R, N, G)) rfl ?_
        exact dn _ _ (.ref (1000 + 2 * i)) (.long (fWH s i)) xj (fun z => z.elim (fun z => absurd (z ▸ b32) (by decide)) (fun z => absurd z (Int64.not_lt.mpr b36))) hI21
      · have n36 := Int64.not_le.mpr b36
        refine XP_n 5 (pc' := 42) (ls' := [.ref (0), .int (nI (0)), .int (nI (i)), .long (fWH s i), xj, .int (nI (i) + nI (1)), .ref (1000 + 2 * i), .long (fWH s i), xj]) (st' := []) (M' := (I21, J21, Rx R, N, G)) rfl ?_
        rw [show nI (i) + nI (1) = nI (i + 1) from nI_addE (rfl) rfl]
        refine XP_n 1 (pc' := 11) (ls' := [.ref (0), .int (nI (0)), .int (nI (i)), .long (fWH s i), xj, .int (nI (i + 1)), .ref (1000 + 2 * i), .long (fWH s i), xj]) (st' := []) (M' := (I21, J21, Rx R, N, G)) rfl ?_
        first
          | exact up _ _ (.ref (1000 + 2 * i)) (.long (fWH s i)) xj (Or.inr b36) hI21
          | exact up _ _ (.ref (1000 + 2 * i)) (.long (fWH s i)) xj (by rcases hb with hb2 | ⟨k, hk, hb2⟩ <;> first | exact Or.inl hb2 | exact absurd (hb2 ▸ b32) (nI_pos (by omega))) hI21
theorem l_H_su1 (hW : Wf s) : ∀ (n i : Nat) (I : Nat → Nat → Int32) (J : Nat → Nat → Int64) (b : Int32) (low : Int64) (w6 w7 w8 : Value), i + n = cR s → Inv s R N I J → (b = cI (-1) ∨ ∃ k, k < 100 ∧ b = nI k) → XP X (d + 10) k_H_sure 11 [.ref (0), .int (nI (1)), .int (b), .long (low), xj, .int (nI (i)), w6, w7, w8] [] (I, J, Rx R, N, G) (QP s R N G (.int (sSu (fMn s) n i b low))) := by
  have hp4 := hW.p.2
  have hr8 := hW.r.2
  intro n
  induction n with
  | zero =>
    rintro i I J b low w6 w7 w8 hi hI hb
    obtain rfl : i = cR s := by omega
    have hL := hI.2.2.1
    refine XP_n 2 (pc' := 13) (ls' := [.ref (0), .int (nI (1)), .int (b), .long (low), xj, .int (nI (cR s)), w6, w7, w8]) (st' := [.ref (0), .int (nI (cR s))]) (M' := (I, J, Rx R, N, G)) rfl ?_
    refine XP_geti hI.1 rfl rfl rfl ?_
    rw [hW.r.1]
    refine XP_icN (x := cR s) (y := cR s) rfl (by omega) (by omega) (fun (b14 : cR s ≤ cR s) => ?_) (fun (b14 : cR s < cR s) => absurd b14 (by omega))
    refine XP_n 1 (pc' := 44) (ls' := [.ref (0), .int (nI (1)), .int (b), .long (low), xj, .int (nI (cR s)), w6, w7, w8]) (st' := [.int (b)]) (M' := (I, J, Rx R, N, G)) rfl ?_
    exact XP_ret rfl ⟨rfl, _, _, rfl, hI⟩
  | succ n ih =>
    rintro i I J b low w6 w7 w8 hi hI hb
    have hL := hI.2.2.1
    have hir : inN (nI i) (cR s) := nI_inN (by omega) (by omega)
    have up := fun I J w6 w7 w8 (h : b = cI (-1) ∨ fMn s i < low) (hI : Inv s R N I J) => (if_pos h : (if b = cI (-1) ∨ fMn s i < low then sSu (fMn s) n (i + 1) (nI i) (fMn s i) else sSu (fMn s) n (i + 1) b low) = _) ▸ ih (i + 1) I J (nI i) (fMn s i) w6 w7 w8 (by omega) hI (Or.inr ⟨i, by omega, rfl⟩)
    have dn := fun I J w6 w7 w8 (h : ¬ (b = cI (-1) ∨ fMn s i < low)) (hI : Inv s R N I J) => (if_neg h : (if b = cI (-1) ∨ fMn s i < low then sSu (fMn s) n (i + 1) (nI i) (fMn s i) else sSu (fMn s) n (i + 1) b low) = _) ▸ ih (i + 1) I J b low w6 w7 w8 (by omega) hI hb
    refine XP_n 2 (pc' := 13) (ls' := [.ref (0), .int (nI (1)), .int (b), .long (low), xj, .int (nI (i)), w6, w7, w8]) (st' := [.ref (0), .int (nI (i))]) (M' := (I, J, Rx R, N, G)) rfl ?_
    refine XP_geti hI.1 rfl rfl rfl ?_
    rw [hW.r.1]
    refine XP_icN (x := i) (y := cR s) rfl (by omega) (by omega) (fun (b14 : cR s ≤ i) => absurd b14 (by omega)) (fun (b14 : i < cR s) => ?_)
    refine XP_n 2 (pc' := 17) (ls' := [.ref (0), .int (nI (1)), .int (b), .long (low), xj, .int (nI (i)), w6, w7, w8]) (st' := [.int (nI (i)), .ref (0)]) (M' := (I, J, Rx R, N, G)) rfl ?_
    refine XP_pure rfl rfl (c_ruleAtT hI.1 hW hL (show i < cR s by omega)) ?_
    refine XP_n 4 (pc' := 22) (ls' := [.ref (0), .int (nI (1)), .int (b), .long (low), xj, .int (nI (i)), .ref (1000 + 2 * i), w7, w8]) (st' := [.int (nI (1))]) (M' := (I, J, Rx R, N, G)) rfl ?_
    refine XP_ifN (x := 1)  rfl (by omega) (fun (b22 : ¬ 1 = 0) => ?_) (fun (b22 : 1 = 0) => absurd b22 (by omega))
    refine XP_n 2 (pc' := 29) (ls' := [.ref (0), .int (nI (1)), .int (b), .long (low), xj, .int (nI (i)), .ref (1000 + 2 * i), w7, w8]) (st' := [.ref (1000 + 2 * i), .ref (0)]) (M' := (I, J, Rx R, N, G)) rfl ?_
    refine XP_call rfl (rfl) (c_ws hI (show i < cR s by omega)) ?_
    rintro v22 M22 ⟨rfl, I22, J22, rfl, hI22⟩
    refine XP_n 2 (pc' := 32) (ls' := [.ref (0), .int (nI (1)), .int (b), .long (low), xj, .int (nI (i)), .ref (1000 + 2 * i), .long (fMn s i), xj]) (st' := [.int (b)]) (M' := (I22, J22, Rx R, N, G)) rfl ?_
    refine XP_ifD rfl (fun (b32 : b < 0) => ?_) (fun (b32 : 0 ≤ b) => ?_)
    · have n32 := Int32.not_le.mpr b32
      refine XP_n 5 (pc' := 42) (ls' := [.ref (0), .int (nI (1)), .int (nI (i)), .long (fMn s i), xj, .int (nI (i) + nI (1)), .ref (1000 + 2 * i), .long (fMn s i), xj]) (st' := []) (M' := (I22, J22, Rx R, N, G)) rfl ?_
      rw [show nI (i) + nI (1) = nI (i + 1) from nI_addE (rfl) rfl]
      refine XP_n 1 (pc' := 11) (ls' := [.ref (0), .int (nI (1)), .int (nI (i)), .long (fMn s i), xj, .int (nI (i + 1)), .ref (1000 + 2 * i), .long (fMn s i), xj]) (st' := []) (M' := (I22, J22, Rx R, N, G)) rfl ?_
      first
        | exact up _ _ (.ref (1000 + 2 * i)) (.long (fMn s i)) xj (Or.inr b36) hI22
        | exact up _ _ (.ref (1000 + 2 * i)) (.long (fMn s i)) xj (by rcases hb with hb2 | ⟨k, hk, hb2⟩ <;> first | exact Or.inl hb2 | exact absurd (hb2 ▸ b32) (nI_pos (by omega))) hI22
    · have n32 := Int32.not_lt.mpr b32
      refine XP_n 2 (pc' := 35) (ls' := [.ref (0), .int (nI (1)), .int (b), .long (low), xj, .int (nI (i)), .ref (1000 + 2 * i), .long (fMn s i), xj]) (st' := [.long (low), .long (fMn s i)]) (M' := (I22, J22, Rx R, N, G)) rfl ?_
      refine XP_lcD rfl rfl (fun (b36 : low ≤ fMn s i) => ?_) (fun (b36 : fMn s i < low) => ?_)
      · have n36 := Int64.not_lt.mpr b36
        refine XP_n 1 (pc' := 42) (ls' := [.ref (0), .int (nI (1)), .int (b), .long (low), xj, .int (nI (i) + nI (1)), .ref (1000 + 2 * i), .long (fMn s i), xj]) (st' := []) (M' := (I22, J22, Rx R, N, G)) rfl ?_
        rw [show nI (i) + nI (1) = nI (i + 1) from nI_addE (rfl) rfl]
        refine XP_n 1 (pc' := 11) (ls' := [.ref (0), .int (nI (1)), .int (b), .long (low), xj, .int (nI (i + 1)), .ref (1000 + 2 * i), .long (fMn s i), xj]) (st' := []) (M' := (I22, J22, Rx R, N, G)) rfl ?_
        exact dn _ _ (.ref (1000 + 2 * i)) (.long (fMn s i)) xj (fun z => z.elim (fun z => absurd (z ▸ b32) (by decide)) (fun z => absurd z (Int64.not_lt.mpr b36))) hI22
      · have n36 := Int64.not_le.mpr b36
        refine XP_n 5 (pc' := 42) (ls' := [.ref (0), .int (nI (1)), .int (nI (i)), .long (fMn s i), xj, .int (nI (i) + nI (1)), .ref (1000 + 2 * i), .long (fMn s i), xj]) (st' := []) (M' := (I22, J22, Rx R, N, G)) rfl ?_
        rw [show nI (i) + nI (1) = nI (i + 1) from nI_addE (rfl) rfl]
        refine XP_n 1 (pc' := 11) (ls' := [.ref (0), .int (nI (1)), .int (nI (i)), .long (fMn s i), xj, .int (nI (i + 1)), .ref (1000 + 2 * i), .long (fMn s i), xj]) (st' := []) (M' := (I22, J22, Rx R, N, G)) rfl ?_
        first
          | exact up _ _ (.ref (1000 + 2 * i)) (.long (fMn s i)) xj (Or.inr b36) hI22
          | exact up _ _ (.ref (1000 + 2 * i)) (.long (fMn s i)) xj (by rcases hb with hb2 | ⟨k, hk, hb2⟩ <;> first | exact Or.inl hb2 | exact absurd (hb2 ▸ b32) (nI_pos (by omega))) hI22
theorem l_M_su0 (hW : Wf s) : ∀ (n i : Nat) (I : Nat → Nat → Int32) (J : Nat → Nat → Int64) (b : Int32) (low : Int64) (w6 w7 : Value), i + n = cR s → Inv s R N I J → (b = cI (-1) ∨ ∃ k, k < 100 ∧ b = nI k) → XP X (d + 8) k_M_sure 13 [.ref (99), .int (nI (0)), .int (b), .long (low), xj, .int (nI (i)), w6, w7] [] (I, J, Rx R, N, G) (QP s R N G (.int (sSu (fWM s) n i b low))) := by
  have hp4 := hW.p.2
  have hr8 := hW.r.2
  intro n
  induction n with
  | zero =>
    rintro i I J b low w6 w7 hi hI hb
    obtain rfl : i = cR s := by omega
    have hL := hI.2.2.1
    refine XP_n 2 (pc' := 15) (ls' := [.ref (99), .int (nI (0)), .int (b), .long (low), xj, .int (nI (cR s)), w6, w7]) (st' := [.ref (99), .int (nI (cR s))]) (M' := (I, J, Rx R, N, G)) rfl ?_
    refine XP_geti hI.1 rfl rfl rfl ?_
    rw [hW.r.1]
    refine XP_icN (x := cR s) (y := cR s) rfl (by omega) (by omega) (fun (b16 : cR s ≤ cR s) => ?_) (fun (b16 : cR s < cR s) => absurd b16 (by omega))
    refine XP_n 1 (pc' := 41) (ls' := [.ref (99), .int (nI (0)), .int (b), .long (low), xj, .int (nI (cR s)), w6, w7]) (st' := [.int (b)]) (M' := (I, J, Rx R, N, G)) rfl ?_
    exact XP_ret rfl ⟨rfl, _, _, rfl, hI⟩
  | succ n ih =>
    rintro i I J b low w6 w7 hi hI hb
    have hL := hI.2.2.1
    have hir : inN (nI i) (cR s) := nI_inN (by omega) (by omega)
    have up := fun I J w6 w7 (h : b = cI (-1) ∨ fWM s i < low) (hI : Inv s R N I J) => (if_pos h : (if b = cI (-1) ∨ fWM s i < low then sSu (fWM s) n (i + 1) (nI i) (fWM s i) else sSu (fWM s) n (i + 1) b low) = _) ▸ ih (i + 1) I J (nI i) (fWM s i) w6 w7 (by omega) hI (Or.inr ⟨i, by omega, rfl⟩)
    have dn := fun I J w6 w7 (h : ¬ (b = cI (-1) ∨ fWM s i < low)) (hI : Inv s R N I J) => (if_neg h : (if b = cI (-1) ∨ fWM s i < low then sSu (fWM s) n (i + 1) (nI i) (fWM s i) else sSu (fWM s) n (i + 1) b low) = _) ▸ ih (i + 1) I J b low w6 w7 (by omega) hI hb
    refine XP_n 2 (pc' := 15) (ls' := [.ref (99), .int (nI (0)), .int (b), .long (low), xj, .int (nI (i)), w6, w7]) (st' := [.ref (99), .int (nI (i))]) (M' := (I, J, Rx R, N, G)) rfl ?_
    refine XP_geti hI.1 rfl rfl rfl ?_
    rw [hW.r.1]
    refine XP_icN (x := i) (y := cR s) rfl (by omega) (by omega) (fun (b16 : cR s ≤ i) => absurd b16 (by omega)) (fun (b16 : i < cR s) => ?_)
    refine XP_n 1 (pc' := 18) (ls' := [.ref (99), .int (nI (0)), .int (b), .long (low), xj, .int (nI (i)), w6, w7]) (st' := [.int (nI (0))]) (M' := (I, J, Rx R, N, G)) rfl ?_
    refine XP_ifN (x := 0)  rfl (by omega) (fun (b18 : ¬ 0 = 0) => absurd b18 (by omega)) (fun (b18 : 0 = 0) => ?_)
    refine XP_n 2 (pc' := 21) (ls' := [.ref (99), .int (nI (0)), .int (b), .long (low), xj, .int (nI (i)), w6, w7]) (st' := [.int (nI (i)), .ref (99)]) (M' := (I, J, Rx R, N, G)) rfl ?_
    refine XP_call rfl (rfl) (m_worstF hI (show i < cR s by omega)) ?_
    rintro v23 M23 ⟨rfl, I23, J23, rfl, hI23⟩
    refine XP_n 4 (pc' := 29) (ls' := [.ref (99), .int (nI (0)), .int (b), .long (low), xj, .int (nI (i)), .long (fWM s i), xj]) (st' := [.int (cI (-1)), .int (b)]) (M' := (I23, J23, Rx R, N, G)) rfl ?_
    refine XP_icD rfl (fun (b29 : b = cI (-1)) => ?_) (fun (b29 : ¬ b = cI (-1)) => ?_)
    · refine XP_n 5 (pc' := 39) (ls' := [.ref (99), .int (nI (0)), .int (nI (i)), .long (fWM s i), xj, .int (nI (i) + nI (1)), .long (fWM s i), xj]) (st' := []) (M' := (I23, J23, Rx R, N, G)) rfl ?_
      rw [show nI (i) + nI (1) = nI (i + 1) from nI_addE (rfl) rfl]
      refine XP_n 1 (pc' := 13) (ls' := [.ref (99), .int (nI (0)), .int (nI (i)), .long (fWM s i), xj, .int (nI (i + 1)), .long (fWM s i), xj]) (st' := []) (M' := (I23, J23, Rx R, N, G)) rfl ?_
      first
        | exact up _ _ (.long (fWM s i)) xj (Or.inr b33) hI23
        | exact up _ _ (.long (fWM s i)) xj (Or.inl b29) hI23
    · refine XP_n 2 (pc' := 32) (ls' := [.ref (99), .int (nI (0)), .int (b), .long (low), xj, .int (nI (i)), .long (fWM s i), xj]) (st' := [.long (low), .long (fWM s i)]) (M' := (I23, J23, Rx R, N, G)) rfl ?_
      refine XP_lcD rfl rfl (fun (b33 : low ≤ fWM s i) => ?_) (fun (b33 : fWM s i < low) => ?_)
      · have n33 := Int64.not_lt.mpr b33
        refine XP_n 1 (pc' := 39) (ls' := [.ref (99), .int (nI (0)), .int (b), .long (low), xj, .int (nI (i) + nI (1)), .long (fWM s i), xj]) (st' := []) (M' := (I23, J23, Rx R, N, G)) rfl ?_
        rw [show nI (i) + nI (1) = nI (i + 1) from nI_addE (rfl) rfl]
        refine XP_n 1 (pc' := 13) (ls' := [.ref (99), .int (nI (0)), .int (b), .long (low), xj, .int (nI (i + 1)), .long (fWM s i), xj]) (st' := []) (M' := (I23, J23, Rx R, N, G)) rfl ?_
        exact dn _ _ (.long (fWM s i)) xj (fun z => z.elim b29 (fun z => absurd z (Int64.not_lt.mpr b33))) hI23
      · have n33 := Int64.not_le.mpr b33
        refine XP_n 5 (pc' := 39) (ls' := [.ref (99), .int (nI (0)), .int (nI (i)), .long (fWM s i), xj, .int (nI (i) + nI (1)), .long (fWM s i), xj]) (st' := []) (M' := (I23, J23, Rx R, N, G)) rfl ?_
        rw [show nI (i) + nI (1) = nI (i + 1) from nI_addE (rfl) rfl]
        refine XP_n 1 (pc' := 13) (ls' := [.ref (99), .int (nI (0)), .int (nI (i)), .long (fWM s i), xj, .int (nI (i + 1)), .long (fWM s i), xj]) (st' := []) (M' := (I23, J23, Rx R, N, G)) rfl ?_
        first
          | exact up _ _ (.long (fWM s i)) xj (Or.inr b33) hI23
          | exact up _ _ (.long (fWM s i)) xj (Or.inl b29) hI23
theorem l_M_su1 (hW : Wf s) : ∀ (n i : Nat) (I : Nat → Nat → Int32) (J : Nat → Nat → Int64) (b : Int32) (low : Int64) (w6 w7 : Value), i + n = cR s → Inv s R N I J → (b = cI (-1) ∨ ∃ k, k < 100 ∧ b = nI k) → XP X (d + 8) k_M_sure 13 [.ref (99), .int (nI (1)), .int (b), .long (low), xj, .int (nI (i)), w6, w7] [] (I, J, Rx R, N, G) (QP s R N G (.int (sSu (fMn s) n i b low))) := by
  have hp4 := hW.p.2
  have hr8 := hW.r.2
  intro n
  induction n with
  | zero =>
    rintro i I J b low w6 w7 hi hI hb
    obtain rfl : i = cR s := by omega
    have hL := hI.2.2.1
    refine XP_n 2 (pc' := 15) (ls' := [.ref (99), .int (nI (1)), .int (b), .long (low), xj, .int (nI (cR s)), w6, w7]) (st' := [.ref (99), .int (nI (cR s))]) (M' := (I, J, Rx R, N, G)) rfl ?_
    refine XP_geti hI.1 rfl rfl rfl ?_
    rw [hW.r.1]
    refine XP_icN (x := cR s) (y := cR s) rfl (by omega) (by omega) (fun (b16 : cR s ≤ cR s) => ?_) (fun (b16 : cR s < cR s) => absurd b16 (by omega))
    refine XP_n 1 (pc' := 41) (ls' := [.ref (99), .int (nI (1)), .int (b), .long (low), xj, .int (nI (cR s)), w6, w7]) (st' := [.int (b)]) (M' := (I, J, Rx R, N, G)) rfl ?_
    exact XP_ret rfl ⟨rfl, _, _, rfl, hI⟩
  | succ n ih =>
    rintro i I J b low w6 w7 hi hI hb
    have hL := hI.2.2.1
    have hir : inN (nI i) (cR s) := nI_inN (by omega) (by omega)
    have up := fun I J w6 w7 (h : b = cI (-1) ∨ fMn s i < low) (hI : Inv s R N I J) => (if_pos h : (if b = cI (-1) ∨ fMn s i < low then sSu (fMn s) n (i + 1) (nI i) (fMn s i) else sSu (fMn s) n (i + 1) b low) = _) ▸ ih (i + 1) I J (nI i) (fMn s i) w6 w7 (by omega) hI (Or.inr ⟨i, by omega, rfl⟩)
    have dn := fun I J w6 w7 (h : ¬ (b = cI (-1) ∨ fMn s i < low)) (hI : Inv s R N I J) => (if_neg h : (if b = cI (-1) ∨ fMn s i < low then sSu (fMn s) n (i + 1) (nI i) (fMn s i) else sSu (fMn s) n (i + 1) b low) = _) ▸ ih (i + 1) I J b low w6 w7 (by omega) hI hb
    refine XP_n 2 (pc' := 15) (ls' := [.ref (99), .int (nI (1)), .int (b), .long (low), xj, .int (nI (i)), w6, w7]) (st' := [.ref (99), .int (nI (i))]) (M' := (I, J, Rx R, N, G)) rfl ?_
    refine XP_geti hI.1 rfl rfl rfl ?_
    rw [hW.r.1]
    refine XP_icN (x := i) (y := cR s) rfl (by omega) (by omega) (fun (b16 : cR s ≤ i) => absurd b16 (by omega)) (fun (b16 : i < cR s) => ?_)
    refine XP_n 1 (pc' := 18) (ls' := [.ref (99), .int (nI (1)), .int (b), .long (low), xj, .int (nI (i)), w6, w7]) (st' := [.int (nI (1))]) (M' := (I, J, Rx R, N, G)) rfl ?_
    refine XP_ifN (x := 1)  rfl (by omega) (fun (b18 : ¬ 1 = 0) => ?_) (fun (b18 : 1 = 0) => absurd b18 (by omega))
    refine XP_n 2 (pc' := 25) (ls' := [.ref (99), .int (nI (1)), .int (b), .long (low), xj, .int (nI (i)), w6, w7]) (st' := [.int (nI (i)), .ref (99)]) (M' := (I, J, Rx R, N, G)) rfl ?_
    refine XP_call rfl (rfl) (m_meanOf hI (show i < cR s by omega)) ?_
    rintro v24 M24 ⟨rfl, I24, J24, rfl, hI24⟩
    refine XP_n 3 (pc' := 29) (ls' := [.ref (99), .int (nI (1)), .int (b), .long (low), xj, .int (nI (i)), .long (fMn s i), xj]) (st' := [.int (cI (-1)), .int (b)]) (M' := (I24, J24, Rx R, N, G)) rfl ?_
    refine XP_icD rfl (fun (b29 : b = cI (-1)) => ?_) (fun (b29 : ¬ b = cI (-1)) => ?_)
    · refine XP_n 5 (pc' := 39) (ls' := [.ref (99), .int (nI (1)), .int (nI (i)), .long (fMn s i), xj, .int (nI (i) + nI (1)), .long (fMn s i), xj]) (st' := []) (M' := (I24, J24, Rx R, N, G)) rfl ?_
      rw [show nI (i) + nI (1) = nI (i + 1) from nI_addE (rfl) rfl]
      refine XP_n 1 (pc' := 13) (ls' := [.ref (99), .int (nI (1)), .int (nI (i)), .long (fMn s i), xj, .int (nI (i + 1)), .long (fMn s i), xj]) (st' := []) (M' := (I24, J24, Rx R, N, G)) rfl ?_
      first
        | exact up _ _ (.long (fMn s i)) xj (Or.inr b33) hI24
        | exact up _ _ (.long (fMn s i)) xj (Or.inl b29) hI24
    · refine XP_n 2 (pc' := 32) (ls' := [.ref (99), .int (nI (1)), .int (b), .long (low), xj, .int (nI (i)), .long (fMn s i), xj]) (st' := [.long (low), .long (fMn s i)]) (M' := (I24, J24, Rx R, N, G)) rfl ?_
      refine XP_lcD rfl rfl (fun (b33 : low ≤ fMn s i) => ?_) (fun (b33 : fMn s i < low) => ?_)
      · have n33 := Int64.not_lt.mpr b33
        refine XP_n 1 (pc' := 39) (ls' := [.ref (99), .int (nI (1)), .int (b), .long (low), xj, .int (nI (i) + nI (1)), .long (fMn s i), xj]) (st' := []) (M' := (I24, J24, Rx R, N, G)) rfl ?_
        rw [show nI (i) + nI (1) = nI (i + 1) from nI_addE (rfl) rfl]
        refine XP_n 1 (pc' := 13) (ls' := [.ref (99), .int (nI (1)), .int (b), .long (low), xj, .int (nI (i + 1)), .long (fMn s i), xj]) (st' := []) (M' := (I24, J24, Rx R, N, G)) rfl ?_
        exact dn _ _ (.long (fMn s i)) xj (fun z => z.elim b29 (fun z => absurd z (Int64.not_lt.mpr b33))) hI24
      · have n33 := Int64.not_le.mpr b33
        refine XP_n 5 (pc' := 39) (ls' := [.ref (99), .int (nI (1)), .int (nI (i)), .long (fMn s i), xj, .int (nI (i) + nI (1)), .long (fMn s i), xj]) (st' := []) (M' := (I24, J24, Rx R, N, G)) rfl ?_
        rw [show nI (i) + nI (1) = nI (i + 1) from nI_addE (rfl) rfl]
        refine XP_n 1 (pc' := 13) (ls' := [.ref (99), .int (nI (1)), .int (nI (i)), .long (fMn s i), xj, .int (nI (i + 1)), .long (fMn s i), xj]) (st' := []) (M' := (I24, J24, Rx R, N, G)) rfl ?_
        first
          | exact up _ _ (.long (fMn s i)) xj (Or.inr b33) hI24
          | exact up _ _ (.long (fMn s i)) xj (Or.inl b29) hI24
theorem f_sure (hI : Inv s R N I J) (what : Int32) : ∃ v, TP X (d + 12) n_H_sure [.ref 0, .int what] (I, J, Rx R, N, G) (QP s R N G (.int v)) ∧ ∀ I J, Inv s R N I J → TP X (d + 12) n_M_sure [.ref 99, .int what] (I, J, Rx R, N, G) (QP s R N G (.int v)) := by
  have hI0 := hI
  obtain ⟨hS, hW, hL, hC, hch⟩ := hI0
  have hy16 := hW.y.2
  have hp4 := hW.p.2
  have hs6 := hW.ns.2
  have hr8 := hW.r.2
  have hst8 := hW.st.2
  have ht3 := hW.t.2
  have hw60 := hW.w.2
  have hcwa := cWA_le hW
  by_cases g0 : iv 0 1 (what)
  rotate_left
  · skip
    refine ⟨cI (-2), ?_, fun I J hI => ?_⟩
    · unfold TP
      show XP X _ k_H_sure 0 [.ref (0), .int (what), xj, xj, xj, xj, xj, xj, xj] [] _ _
      refine XP_n 1 (pc' := 1) (ls' := [.ref (0), .int (what), xj, xj, xj, xj, xj, xj, xj]) (st' := [.int (what)]) (M' := (I, J, Rx R, N, G)) rfl ?_
      refine XP_pure rfl rfl (t_H_isPart X _ _ _) ?_
      refine XP_s rfl ?_
      refine XP_bne (fun b2 => absurd b2 g0) (fun b2 => ?_)
      refine XP_n 1 (pc' := 4) (ls' := [.ref (0), .int (what), xj, xj, xj, xj, xj, xj, xj]) (st' := [.int (cI (-2))]) (M' := (I, J, Rx R, N, G)) rfl ?_
      exact XP_ret rfl ⟨rfl, _, _, rfl, hI⟩
    · unfold TP
      show XP X _ k_M_sure 0 [.ref (99), .int (what), xj, xj, xj, xj, xj, xj] [] _ _
      refine XP_n 3 (pc' := 3) (ls' := [.ref (99), .int (what), xj, xj, xj, xj, xj, xj]) (st' := [.int (nI (1)), .int (nI (0)), .int (what)]) (M' := (I, J, Rx R, N, G)) rfl ?_
      refine XP_pure rfl rfl (w_M X _ _ 0 1 _) ?_
      refine XP_s rfl ?_
      refine XP_bne (fun b4 => absurd b4 g0) (fun b4 => ?_)
      refine XP_n 1 (pc' := 6) (ls' := [.ref (99), .int (what), xj, xj, xj, xj, xj, xj]) (st' := [.int (cI (-2))]) (M' := (I, J, Rx R, N, G)) rfl ?_
      exact XP_ret rfl ⟨rfl, _, _, rfl, hI⟩
  obtain ⟨whatn, hwhatn0, hwhatn, rfl, ewhat⟩ := iv_nat g0 (by omega) (by omega)
  have hx : whatn = 0 ∨ whatn = 1 := by omega
  clear ewhat
  rcases hx with rfl | rfl
  · skip
    refine ⟨sSu (fWH s) (cR s) 0 (cI (-1)) (lN 0), ?_, fun I J hI => ?_⟩
    · unfold TP
      show XP X _ k_H_sure 0 [.ref (0), .int (nI (0)), xj, xj, xj, xj, xj, xj, xj] [] _ _
      refine XP_n 1 (pc' := 1) (ls' := [.ref (0), .int (nI (0)), xj, xj, xj, xj, xj, xj, xj]) (st' := [.int (nI (0))]) (M' := (I, J, Rx R, N, G)) rfl ?_
      refine XP_pure rfl rfl (t_H_isPart X _ _ _) ?_
      refine XP_s rfl ?_
      refine XP_bne (fun b2 => ?_) (fun b2 => absurd g0 b2)
      refine XP_n 6 (pc' := 11) (ls' := [.ref (0), .int (nI (0)), .int (cI (-1)), .long (lN (0)), xj, .int (nI (0)), xj, xj, xj]) (st' := []) (M' := (I, J, Rx R, N, G)) rfl ?_
      exact l_H_su0 (d := d + 2) hW (cR s) 0 _ _ _ _ _ _ _ (by omega) hI (Or.inl rfl)
    · unfold TP
      show XP X _ k_M_sure 0 [.ref (99), .int (nI (0)), xj, xj, xj, xj, xj, xj] [] _ _
      refine XP_n 3 (pc' := 3) (ls' := [.ref (99), .int (nI (0)), xj, xj, xj, xj, xj, xj]) (st' := [.int (nI (1)), .int (nI (0)), .int (nI (0))]) (M' := (I, J, Rx R, N, G)) rfl ?_
      refine XP_pure rfl rfl (w_M X _ _ 0 1 _) ?_
      refine XP_s rfl ?_
      refine XP_bne (fun b4 => ?_) (fun b4 => absurd g0 b4)
      refine XP_n 6 (pc' := 13) (ls' := [.ref (99), .int (nI (0)), .int (cI (-1)), .long (lN (0)), xj, .int (nI (0)), xj, xj]) (st' := []) (M' := (I, J, Rx R, N, G)) rfl ?_
      rw [sSu_congr (fW_lt s) (cR s) 0 _ _ (lN 0) (Or.inl rfl)]
      exact l_M_su0 (d := d + 4) hW (cR s) 0 _ _ _ _ _ _ (by omega) hI (Or.inl rfl)
  · skip
    refine ⟨sSu (fMn s) (cR s) 0 (cI (-1)) (lN 0), ?_, fun I J hI => ?_⟩
    · unfold TP
      show XP X _ k_H_sure 0 [.ref (0), .int (nI (1)), xj, xj, xj, xj, xj, xj, xj] [] _ _
      refine XP_n 1 (pc' := 1) (ls' := [.ref (0), .int (nI (1)), xj, xj, xj, xj, xj, xj, xj]) (st' := [.int (nI (1))]) (M' := (I, J, Rx R, N, G)) rfl ?_
      refine XP_pure rfl rfl (t_H_isPart X _ _ _) ?_
      refine XP_s rfl ?_
      refine XP_bne (fun b2 => ?_) (fun b2 => absurd g0 b2)
      refine XP_n 6 (pc' := 11) (ls' := [.ref (0), .int (nI (1)), .int (cI (-1)), .long (lN (0)), xj, .int (nI (0)), xj, xj, xj]) (st' := []) (M' := (I, J, Rx R, N, G)) rfl ?_
      exact l_H_su1 (d := d + 2) hW (cR s) 0 _ _ _ _ _ _ _ (by omega) hI (Or.inl rfl)
    · unfold TP
      show XP X _ k_M_sure 0 [.ref (99), .int (nI (1)), xj, xj, xj, xj, xj, xj] [] _ _
      refine XP_n 3 (pc' := 3) (ls' := [.ref (99), .int (nI (1)), xj, xj, xj, xj, xj, xj]) (st' := [.int (nI (1)), .int (nI (0)), .int (nI (1))]) (M' := (I, J, Rx R, N, G)) rfl ?_
      refine XP_pure rfl rfl (w_M X _ _ 0 1 _) ?_
      refine XP_s rfl ?_
      refine XP_bne (fun b4 => ?_) (fun b4 => absurd g0 b4)
      refine XP_n 6 (pc' := 13) (ls' := [.ref (99), .int (nI (1)), .int (cI (-1)), .long (lN (0)), xj, .int (nI (0)), xj, xj]) (st' := []) (M' := (I, J, Rx R, N, G)) rfl ?_
      exact l_M_su1 (d := d + 4) hW (cR s) 0 _ _ _ _ _ _ (by omega) hI (Or.inl rfl)
end
