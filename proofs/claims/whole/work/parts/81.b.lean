/-! face: drawn -/
def dK (s : Nat → Nat → Int32) (lot : Nat) : Nat := fiB (rOf s) (lot % 1000) (cS s) 0
def dW (s : Nat → Nat → Int32) (r p y : Nat) : Nat := (gS s (k5 s r) (nRr s r) p (y + 1)).1
def dHit (s : Nat → Nat → Int32) (r p y k : Nat) : Bool := decide (k < cS s) && (!(gS s (k5 s r) (nRr s r) p (y + 1)).2.2.1 && decide (dW s r p y < nLv s p y + rHt s k))
def dVl (s : Nat → Nat → Int32) (r p y k : Nat) : Nat := dTn s (nLv s p y) (dW s r p y) y (gS s (k5 s r) (nRr s r) p (y)).2.1 (nLv s p y + rHt s k - dW s r p y)
def dRun (s : Nat → Nat → Int32) (r p : Nat) : Nat → Nat → Nat → Nat → Nat → Nat × Nat
  | 0, _, _, c, t => (c, t)
  | n + 1, y, lot, c, t => if dHit s r p y (dK s (drL lot)) = true then dRun s r p n (y + 1) (drL lot) (c + 1) (t + dVl s r p y (dK s (drL lot))) else dRun s r p n (y + 1) (drL lot) c t
def dOut (what : Nat) (q : Nat × Nat) : Nat := if what = 0 then q.1 else q.2
theorem n1_in {c : Nat} (hc : c ≤ 6) : ¬ inN (cI (-1)) c := fun h => by
  obtain ⟨j, hj, e, -⟩ := inN_nat h (by omega)
  exact (by decide +kernel : ∀ j, j < 6 → ¬ cI (-1) = nI j) j (by omega) e
theorem gRows_c {s : Nat → Nat → Int32} {k : Bool} {nR : Nat → Nat → Nat → Nat} {p n : Nat} {I I' : Nat → Nat → Int32} (h : gRows s k nR p n 17 18 19 20 I) (hO : Only [oT (cLw s) + 3, oT (cLw s) + 2] I I') : gRows s k nR p n 17 18 19 20 I' := by
  have e : ∀ k, 17 ≤ k → k ≤ 20 → I' k = I k := fun k a b => hO k (by have := oT_rg (cLw s); simp; omega)
  intro y hy
  obtain ⟨a, b, c, q⟩ := h y hy
  exact ⟨by rw [e 17 (by omega) (by omega)]; exact a, by rw [e 18 (by omega) (by omega)]; exact b, by rw [e 19 (by omega) (by omega)]; exact c, by rw [e 20 (by omega) (by omega)]; exact q⟩
theorem gRows_m {s : Nat → Nat → Int32} {k : Bool} {nR : Nat → Nat → Nat → Nat} {p n : Nat} {I I' : Nat → Nat → Int32} (h : gRows s k nR p n 127 128 129 130 I) (hO : Only [125, 126] I I') : gRows s k nR p n 127 128 129 130 I' := by
  have e : ∀ k, 127 ≤ k → k ≤ 130 → I' k = I k := fun k a b => hO k (by simp; omega)
  intro y hy
  obtain ⟨a, b, c, q⟩ := h y hy
  exact ⟨by rw [e 127 (by omega) (by omega)]; exact a, by rw [e 128 (by omega) (by omega)]; exact b, by rw [e 129 (by omega) (by omega)]; exact c, by rw [e 130 (by omega) (by omega)]; exact q⟩
section
variable {X : hX} {d : Nat} {s I : Nat → Nat → Int32} {J : Nat → Nat → Int64} {R : Nat → Nat → Option Nat} {N : Nat → Nat} {G : hG}
theorem l_H_dr (hW : Wf s) {r p vn what : Nat} (hr : r < cR s) (hp : p < cP s) (hwh : what ≤ 1) : ∀ (n i lot c t : Nat) (I : Nat → Nat → Int32) (J : Nat → Nat → Int64) (a1 a2 : Value), i + n = cY s → c ≤ i → lot < 2147483647 → Inv s R N I J → gRows s (k5 s r) (nRr s r) p (cY s) 17 18 19 20 I → XP X (d + 10) k_H_drawn 52 [.ref (0), .int (nI (r)), .int (nI (vn)), .int (nI (what)), .ref (1000 + 2 * r), .int (nI (cWA s)), .long (lN (lot)), xj, .int (nI (p)), .int (nI (c)), .long (lN (t)), xj, .int (nI (i)), a1, a2] [] (I, J, Rx R, N, G) (QP s R N G (.long (lN (dOut what (dRun s r p (n) i lot c t))))) := by
  have hy16 := hW.y.2
  have hp4 := hW.p.2
  have hn6 := hW.ns.2
  intro n
  induction n with
  | zero =>
    rintro i lot c t I J a1 a2 hi hc hlot hI hrw
    obtain rfl : i = cY s := by omega
    have es : dRun s r p 0 (cY s) lot c t = (c, t) := rfl
    rw [es]
    refine XP_n 3 (pc' := 55) (ls' := [.ref (0), .int (nI (r)), .int (nI (vn)), .int (nI (what)), .ref (1000 + 2 * r), .int (nI (cWA s)), .long (lN (lot)), xj, .int (nI (p)), .int (nI (c)), .long (lN (t)), xj, .int (nI (cY s)), a1, a2]) (st' := [.ref (1), .int (nI (cY s))]) (M' := (I, J, Rx R, N, G)) rfl ?_
    refine XP_geti hI.1 rfl rfl rfl ?_
    rw [hW.y.1]
    refine XP_icN (x := cY s) (y := cY s) rfl (by omega) (by omega) (fun (b56 : cY s ≤ cY s) => ?_) (fun (b56 : cY s < cY s) => absurd b56 (by omega))
    refine XP_n 1 (pc' := 88) (ls' := [.ref (0), .int (nI (r)), .int (nI (vn)), .int (nI (what)), .ref (1000 + 2 * r), .int (nI (cWA s)), .long (lN (lot)), xj, .int (nI (p)), .int (nI (c)), .long (lN (t)), xj, .int (nI (cY s)), a1, a2]) (st' := [.int (nI (what))]) (M' := (I, J, Rx R, N, G)) rfl ?_
    refine XP_ifN (x := what)  rfl (by omega) (fun (b88 : ¬ what = 0) => ?_) (fun (b88 : what = 0) => ?_)
    · refine XP_n 1 (pc' := 93) (ls' := [.ref (0), .int (nI (r)), .int (nI (vn)), .int (nI (what)), .ref (1000 + 2 * r), .int (nI (cWA s)), .long (lN (lot)), xj, .int (nI (p)), .int (nI (c)), .long (lN (t)), xj, .int (nI (cY s)), a1, a2]) (st' := [.long (lN (t))]) (M' := (I, J, Rx R, N, G)) rfl ?_
      rw [show dOut what (c, t) = t from if_neg (by omega)]
      exact XP_ret rfl ⟨rfl, _, _, rfl, hI⟩
    · refine XP_n 3 (pc' := 93) (ls' := [.ref (0), .int (nI (r)), .int (nI (vn)), .int (nI (what)), .ref (1000 + 2 * r), .int (nI (cWA s)), .long (lN (lot)), xj, .int (nI (p)), .int (nI (c)), .long (lN (t)), xj, .int (nI (cY s)), a1, a2]) (st' := [.long ((nI (c)).toInt64)]) (M' := (I, J, Rx R, N, G)) rfl ?_
      rw [show (nI (c)).toInt64 = lN (c) from nI_lE (rfl) (by omega)]
      rw [show dOut what (c, t) = c from if_pos (by omega)]
      exact XP_ret rfl ⟨rfl, _, _, rfl, hI⟩
  | succ n ih =>
    rintro i lot c t I J a1 a2 hi hc hlot hI hrw
    have hS := hI.1
    have hL := hI.2.2.1
    have hlv := (nLv_ok hW hp (show i ≤ 15 by omega)).2
    obtain ⟨lot2, el2⟩ : ∃ z, z = drL lot := ⟨_, rfl⟩
    have hl2 : lot2 < 2147483647 := by rw [el2]; exact Nat.mod_lt _ (by omega)
    obtain ⟨x, ex⟩ : ∃ z, z = lot2 % 1000 := ⟨_, rfl⟩
    have hx : x < 1000 := by rw [ex]; exact Nat.mod_lt _ (by omega)
    obtain ⟨k, ek⟩ : ∃ z, z = fiB (rOf s) x (cS s) 0 := ⟨_, rfl⟩
    have hkl := fiB_le (rOf s) x (cS s) 0
    rw [← ek] at hkl
    have edk : dK s (drL lot) = k := by unfold dK; rw [← el2, ← ex]; exact ek.symm
    obtain ⟨w, ew⟩ : ∃ z, z = dW s r p i := ⟨_, rfl⟩
    have hw99 : w ≤ 99 := by rw [ew]; exact gS_w hW _ _ _ _
    obtain ⟨rc, erc⟩ : ∃ z, z = (gS s (k5 s r) (nRr s r) p (i)).2.1 := ⟨_, rfl⟩
    obtain ⟨hr1, -, hr2, hr3⟩ := hrw i (by omega)
    rw [show (gS s (k5 s r) (nRr s r) p (i + 1)).1 = w from ew.symm] at hr1
    rw [← erc] at hr2
    have evl : dVl s r p i k = dTn s (nLv s p i) w i rc (nLv s p i + rHt s k - w) := by rw [ew, erc]; rfl
    have es : dRun s r p (n + 1) i lot c t = (if dHit s r p i k = true then dRun s r p n (i + 1) lot2 (c + 1) (t + dTn s (nLv s p i) w i rc (nLv s p i + rHt s k - w)) else dRun s r p n (i + 1) lot2 c t) := by
      rw [← evl, el2, ← edk]
      rfl
    have ehit : dHit s r p i k = (decide (k < cS s) && (!(gS s (k5 s r) (nRr s r) p (i + 1)).2.2.1 && decide (w < nLv s p i + rHt s k))) := by rw [ew]; rfl
    have hdt := dTm_ok s (nLv s p i) w i rc (nLv s p i + rHt s k - w)
    obtain ⟨hv, ehv⟩ : ∃ z, z = dTn s (nLv s p i) w i rc (nLv s p i + rHt s k - w) := ⟨_, rfl⟩
    rw [← ehv] at es hdt
    obtain ⟨hdt1, hdt2⟩ := hdt
    rw [es]
    by_cases hk : k < cS s
    rotate_left
    · rw [if_neg (show ¬ dHit s r p i k = true by rw [ehit, decide_eq_false hk]; simp)]
      have hfv : fiV (rOf s) x (cS s) (cS s) 0 = cI (-1) := by
        unfold fiV
        rw [← ek]
        exact if_neg hk
      cases hlb : (gS s (k5 s r) (nRr s r) p (i + 1)).2.2.1 with
      | true =>
        rw [hlb] at hr3
        refine XP_n 3 (pc' := 55) (ls' := [.ref (0), .int (nI (r)), .int (nI (vn)), .int (nI (what)), .ref (1000 + 2 * r), .int (nI (cWA s)), .long (lN (lot)), xj, .int (nI (p)), .int (nI (c)), .long (lN (t)), xj, .int (nI (i)), a1, a2]) (st' := [.ref (1), .int (nI (i))]) (M' := (I, J, Rx R, N, G)) rfl ?_
        refine XP_geti hS rfl rfl rfl ?_
        rw [hW.y.1]
        refine XP_icN (x := i) (y := cY s) rfl (by omega) (by omega) (fun (b56 : cY s ≤ i) => absurd b56 (by omega)) (fun (b56 : i < cY s) => ?_)
        refine XP_n 1 (pc' := 58) (ls' := [.ref (0), .int (nI (r)), .int (nI (vn)), .int (nI (what)), .ref (1000 + 2 * r), .int (nI (cWA s)), .long (lN (lot)), xj, .int (nI (p)), .int (nI (c)), .long (lN (t)), xj, .int (nI (i)), a1, a2]) (st' := [.long (lN (lot))]) (M' := (I, J, Rx R, N, G)) rfl ?_
        refine XP_pure rfl rfl (c_lot (show lot < 2147483648 by omega)) ?_
        rw [← el2]
        refine XP_n 5 (pc' := 64) (ls' := [.ref (0), .int (nI (r)), .int (nI (vn)), .int (nI (what)), .ref (1000 + 2 * r), .int (nI (cWA s)), .long (lN (lot2)), xj, .int (nI (p)), .int (nI (c)), .long (lN (t)), xj, .int (nI (i)), a1, a2]) (st' := [.long (lN (1000)), .long (lN (lot2)), .ref (1)]) (M' := (I, J, Rx R, N, G)) rfl ?_
        refine XP_lremN (a := lot2) (b := 1000) rfl (by omega) (by omega) (by omega) ?_
        refine XP_n 1 (pc' := 66) (ls' := [.ref (0), .int (nI (r)), .int (nI (vn)), .int (nI (what)), .ref (1000 + 2 * r), .int (nI (cWA s)), .long (lN (lot2)), xj, .int (nI (p)), .int (nI (c)), .long (lN (t)), xj, .int (nI (i)), a1, a2]) (st' := [.int ((lN ((lot2) % (1000))).toInt32), .ref (1)]) (M' := (I, J, Rx R, N, G)) rfl ?_
        rw [show (lN ((lot2) % (1000))).toInt32 = nI ((lot2) % (1000)) from lN_iE (rfl)]
        refine XP_pure rfl rfl (c_sbl hS hW (show lot2 % 1000 < 1000 from Nat.mod_lt _ (by omega))) ?_
        rw [← ex, hfv]
        refine XP_n 8 (pc' := 75) (ls' := [.ref (0), .int (nI (r)), .int (nI (vn)), .int (nI (what)), .ref (1000 + 2 * r), .int (nI (cWA s)), .long (lN (lot2)), xj, .int (nI (p)), .int (nI (c)), .long (lN (t)), xj, .int (nI (i)), .int (cI (-1)), a2]) (st' := [.int (cI (-1)), .int (nI (i)), .int (nI (p)), .ref (1), .ref (16)]) (M' := (I, J, Rx R, N, G)) rfl ?_
        refine XP_pure rfl rfl (c_hosL hI hW hp (show i < cY s by omega) hw99 hr1 hr2 (show I 20 i = nI 1 from hr3)) ?_
        refine XP_n 2 (pc' := 78) (ls' := [.ref (0), .int (nI (r)), .int (nI (vn)), .int (nI (what)), .ref (1000 + 2 * r), .int (nI (cWA s)), .long (lN (lot2)), xj, .int (nI (p)), .int (nI (c)), .long (lN (t)), xj, .int (nI (i)), .int (cI (-1)), .int (cI (-1))]) (st' := [.int (cI (-1))]) (M' := (I, J, Rx R, N, G)) rfl ?_
        refine XP_ifD rfl (fun (b78 : cI (-1) < 0) => ?_) (fun (b78 : 0 ≤ cI (-1)) => absurd b78 (by decide))
        have n78 := Int32.not_le.mpr b78
        refine XP_n 1 (pc' := 86) (ls' := [.ref (0), .int (nI (r)), .int (nI (vn)), .int (nI (what)), .ref (1000 + 2 * r), .int (nI (cWA s)), .long (lN (lot2)), xj, .int (nI (p)), .int (nI (c)), .long (lN (t)), xj, .int (nI (i) + nI (1)), .int (cI (-1)), .int (cI (-1))]) (st' := []) (M' := (I, J, Rx R, N, G)) rfl ?_
        rw [show nI (i) + nI (1) = nI (i + 1) from nI_addE (rfl) rfl]
        refine XP_n 1 (pc' := 52) (ls' := [.ref (0), .int (nI (r)), .int (nI (vn)), .int (nI (what)), .ref (1000 + 2 * r), .int (nI (cWA s)), .long (lN (lot2)), xj, .int (nI (p)), .int (nI (c)), .long (lN (t)), xj, .int (nI (i + 1)), .int (cI (-1)), .int (cI (-1))]) (st' := []) (M' := (I, J, Rx R, N, G)) rfl ?_
        exact ih (i + 1) _ _ _ _ _ _ _ (by omega) (by omega) hl2 hI hrw
      | false =>
        rw [hlb] at hr3
        refine XP_n 3 (pc' := 55) (ls' := [.ref (0), .int (nI (r)), .int (nI (vn)), .int (nI (what)), .ref (1000 + 2 * r), .int (nI (cWA s)), .long (lN (lot)), xj, .int (nI (p)), .int (nI (c)), .long (lN (t)), xj, .int (nI (i)), a1, a2]) (st' := [.ref (1), .int (nI (i))]) (M' := (I, J, Rx R, N, G)) rfl ?_
        refine XP_geti hS rfl rfl rfl ?_
        rw [hW.y.1]
        refine XP_icN (x := i) (y := cY s) rfl (by omega) (by omega) (fun (b56 : cY s ≤ i) => absurd b56 (by omega)) (fun (b56 : i < cY s) => ?_)
        refine XP_n 1 (pc' := 58) (ls' := [.ref (0), .int (nI (r)), .int (nI (vn)), .int (nI (what)), .ref (1000 + 2 * r), .int (nI (cWA s)), .long (lN (lot)), xj, .int (nI (p)), .int (nI (c)), .long (lN (t)), xj, .int (nI (i)), a1, a2]) (st' := [.long (lN (lot))]) (M' := (I, J, Rx R, N, G)) rfl ?_
        refine XP_pure rfl rfl (c_lot (show lot < 2147483648 by omega)) ?_
        rw [← el2]
        refine XP_n 5 (pc' := 64) (ls' := [.ref (0), .int (nI (r)), .int (nI (vn)), .int (nI (what)), .ref (1000 + 2 * r), .int (nI (cWA s)), .long (lN (lot2)), xj, .int (nI (p)), .int (nI (c)), .long (lN (t)), xj, .int (nI (i)), a1, a2]) (st' := [.long (lN (1000)), .long (lN (lot2)), .ref (1)]) (M' := (I, J, Rx R, N, G)) rfl ?_
        refine XP_lremN (a := lot2) (b := 1000) rfl (by omega) (by omega) (by omega) ?_
        refine XP_n 1 (pc' := 66) (ls' := [.ref (0), .int (nI (r)), .int (nI (vn)), .int (nI (what)), .ref (1000 + 2 * r), .int (nI (cWA s)), .long (lN (lot2)), xj, .int (nI (p)), .int (nI (c)), .long (lN (t)), xj, .int (nI (i)), a1, a2]) (st' := [.int ((lN ((lot2) % (1000))).toInt32), .ref (1)]) (M' := (I, J, Rx R, N, G)) rfl ?_
        rw [show (lN ((lot2) % (1000))).toInt32 = nI ((lot2) % (1000)) from lN_iE (rfl)]
        refine XP_pure rfl rfl (c_sbl hS hW (show lot2 % 1000 < 1000 from Nat.mod_lt _ (by omega))) ?_
        rw [← ex, hfv]
        refine XP_n 8 (pc' := 75) (ls' := [.ref (0), .int (nI (r)), .int (nI (vn)), .int (nI (what)), .ref (1000 + 2 * r), .int (nI (cWA s)), .long (lN (lot2)), xj, .int (nI (p)), .int (nI (c)), .long (lN (t)), xj, .int (nI (i)), .int (cI (-1)), a2]) (st' := [.int (cI (-1)), .int (nI (i)), .int (nI (p)), .ref (1), .ref (16)]) (M' := (I, J, Rx R, N, G)) rfl ?_
        refine XP_pure rfl rfl (c_hosN hI hW hp (show i < cY s by omega) hw99 hr1 hr2 (show I 20 i = nI 0 from hr3) (n1_in (by omega))) ?_
        refine XP_n 2 (pc' := 78) (ls' := [.ref (0), .int (nI (r)), .int (nI (vn)), .int (nI (what)), .ref (1000 + 2 * r), .int (nI (cWA s)), .long (lN (lot2)), xj, .int (nI (p)), .int (nI (c)), .long (lN (t)), xj, .int (nI (i)), .int (cI (-1)), .int (cI (-1))]) (st' := [.int (cI (-1))]) (M' := (I, J, Rx R, N, G)) rfl ?_
        refine XP_ifD rfl (fun (b78 : cI (-1) < 0) => ?_) (fun (b78 : 0 ≤ cI (-1)) => absurd b78 (by decide))
        have n78 := Int32.not_le.mpr b78
        refine XP_n 1 (pc' := 86) (ls' := [.ref (0), .int (nI (r)), .int (nI (vn)), .int (nI (what)), .ref (1000 + 2 * r), .int (nI (cWA s)), .long (lN (lot2)), xj, .int (nI (p)), .int (nI (c)), .long (lN (t)), xj, .int (nI (i) + nI (1)), .int (cI (-1)), .int (cI (-1))]) (st' := []) (M' := (I, J, Rx R, N, G)) rfl ?_
        rw [show nI (i) + nI (1) = nI (i + 1) from nI_addE (rfl) rfl]
        refine XP_n 1 (pc' := 52) (ls' := [.ref (0), .int (nI (r)), .int (nI (vn)), .int (nI (what)), .ref (1000 + 2 * r), .int (nI (cWA s)), .long (lN (lot2)), xj, .int (nI (p)), .int (nI (c)), .long (lN (t)), xj, .int (nI (i + 1)), .int (cI (-1)), .int (cI (-1))]) (st' := []) (M' := (I, J, Rx R, N, G)) rfl ?_
        exact ih (i + 1) _ _ _ _ _ _ _ (by omega) (by omega) hl2 hI hrw
    · have hsh := (hW.sh hk).2
      have hfv : fiV (rOf s) x (cS s) (cS s) 0 = nI k := by
        unfold fiV
        rw [← ek]
        exact if_pos hk
      cases hlb : (gS s (k5 s r) (nRr s r) p (i + 1)).2.2.1 with
      | true =>
        rw [hlb] at hr3
        rw [if_neg (show ¬ dHit s r p i k = true by rw [ehit, hlb]; simp)]
        refine XP_n 3 (pc' := 55) (ls' := [.ref (0), .int (nI (r)), .int (nI (vn)), .int (nI (what)), .ref (1000 + 2 * r), .int (nI (cWA s)), .long (lN (lot)), xj, .int (nI (p)), .int (nI (c)), .long (lN (t)), xj, .int (nI (i)), a1, a2]) (st' := [.ref (1), .int (nI (i))]) (M' := (I, J, Rx R, N, G)) rfl ?_
        refine XP_geti hS rfl rfl rfl ?_
        rw [hW.y.1]
        refine XP_icN (x := i) (y := cY s) rfl (by omega) (by omega) (fun (b56 : cY s ≤ i) => absurd b56 (by omega)) (fun (b56 : i < cY s) => ?_)
        refine XP_n 1 (pc' := 58) (ls' := [.ref (0), .int (nI (r)), .int (nI (vn)), .int (nI (what)), .ref (1000 + 2 * r), .int (nI (cWA s)), .long (lN (lot)), xj, .int (nI (p)), .int (nI (c)), .long (lN (t)), xj, .int (nI (i)), a1, a2]) (st' := [.long (lN (lot))]) (M' := (I, J, Rx R, N, G)) rfl ?_
        refine XP_pure rfl rfl (c_lot (show lot < 2147483648 by omega)) ?_
        rw [← el2]
        refine XP_n 5 (pc' := 64) (ls' := [.ref (0), .int (nI (r)), .int (nI (vn)), .int (nI (what)), .ref (1000 + 2 * r), .int (nI (cWA s)), .long (lN (lot2)), xj, .int (nI (p)), .int (nI (c)), .long (lN (t)), xj, .int (nI (i)), a1, a2]) (st' := [.long (lN (1000)), .long (lN (lot2)), .ref (1)]) (M' := (I, J, Rx R, N, G)) rfl ?_
        refine XP_lremN (a := lot2) (b := 1000) rfl (by omega) (by omega) (by omega) ?_
        refine XP_n 1 (pc' := 66) (ls' := [.ref (0), .int (nI (r)), .int (nI (vn)), .int (nI (what)), .ref (1000 + 2 * r), .int (nI (cWA s)), .long (lN (lot2)), xj, .int (nI (p)), .int (nI (c)), .long (lN (t)), xj, .int (nI (i)), a1, a2]) (st' := [.int ((lN ((lot2) % (1000))).toInt32), .ref (1)]) (M' := (I, J, Rx R, N, G)) rfl ?_
        rw [show (lN ((lot2) % (1000))).toInt32 = nI ((lot2) % (1000)) from lN_iE (rfl)]
        refine XP_pure rfl rfl (c_sbl hS hW (show lot2 % 1000 < 1000 from Nat.mod_lt _ (by omega))) ?_
        rw [← ex, hfv]
        refine XP_n 8 (pc' := 75) (ls' := [.ref (0), .int (nI (r)), .int (nI (vn)), .int (nI (what)), .ref (1000 + 2 * r), .int (nI (cWA s)), .long (lN (lot2)), xj, .int (nI (p)), .int (nI (c)), .long (lN (t)), xj, .int (nI (i)), .int (nI (k)), a2]) (st' := [.int (nI (k)), .int (nI (i)), .int (nI (p)), .ref (1), .ref (16)]) (M' := (I, J, Rx R, N, G)) rfl ?_
        refine XP_pure rfl rfl (c_hosL hI hW hp (show i < cY s by omega) hw99 hr1 hr2 (show I 20 i = nI 1 from hr3)) ?_
        refine XP_n 2 (pc' := 78) (ls' := [.ref (0), .int (nI (r)), .int (nI (vn)), .int (nI (what)), .ref (1000 + 2 * r), .int (nI (cWA s)), .long (lN (lot2)), xj, .int (nI (p)), .int (nI (c)), .long (lN (t)), xj, .int (nI (i)), .int (nI (k)), .int (cI (-1))]) (st' := [.int (cI (-1))]) (M' := (I, J, Rx R, N, G)) rfl ?_
        refine XP_ifD rfl (fun (b78 : cI (-1) < 0) => ?_) (fun (b78 : 0 ≤ cI (-1)) => absurd b78 (by decide))
        have n78 := Int32.not_le.mpr b78
        refine XP_n 1 (pc' := 86) (ls' := [.ref (0), .int (nI (r)), .int (nI (vn)), .int (nI (what)), .ref (1000 + 2 * r), .int (nI (cWA s)), .long (lN (lot2)), xj, .int (nI (p)), .int (nI (c)), .long (lN (t)), xj, .int (nI (i) + nI (1)), .int (nI (k)), .int (cI (-1))]) (st' := []) (M' := (I, J, Rx R, N, G)) rfl ?_
        rw [show nI (i) + nI (1) = nI (i + 1) from nI_addE (rfl) rfl]
        refine XP_n 1 (pc' := 52) (ls' := [.ref (0), .int (nI (r)), .int (nI (vn)), .int (nI (what)), .ref (1000 + 2 * r), .int (nI (cWA s)), .long (lN (lot2)), xj, .int (nI (p)), .int (nI (c)), .long (lN (t)), xj, .int (nI (i + 1)), .int (nI (k)), .int (cI (-1))]) (st' := []) (M' := (I, J, Rx R, N, G)) rfl ?_
        exact ih (i + 1) _ _ _ _ _ _ _ (by omega) (by omega) hl2 hI hrw
      | false =>
        rw [hlb] at hr3
        by_cases hw : w < nLv s p i + rHt s k
        · rw [if_pos (show dHit s r p i k = true by rw [ehit, hlb, decide_eq_true hk, decide_eq_true hw]; rfl)]
          refine XP_n 3 (pc' := 55) (ls' := [.ref (0), .int (nI (r)), .int (nI (vn)), .int (nI (what)), .ref (1000 + 2 * r), .int (nI (cWA s)), .long (lN (lot)), xj, .int (nI (p)), .int (nI (c)), .long (lN (t)), xj, .int (nI (i)), a1, a2]) (st' := [.ref (1), .int (nI (i))]) (M' := (I, J, Rx R, N, G)) rfl ?_
          refine XP_geti hS rfl rfl rfl ?_
          rw [hW.y.1]
          refine XP_icN (x := i) (y := cY s) rfl (by omega) (by omega) (fun (b56 : cY s ≤ i) => absurd b56 (by omega)) (fun (b56 : i < cY s) => ?_)
          refine XP_n 1 (pc' := 58) (ls' := [.ref (0), .int (nI (r)), .int (nI (vn)), .int (nI (what)), .ref (1000 + 2 * r), .int (nI (cWA s)), .long (lN (lot)), xj, .int (nI (p)), .int (nI (c)), .long (lN (t)), xj, .int (nI (i)), a1, a2]) (st' := [.long (lN (lot))]) (M' := (I, J, Rx R, N, G)) rfl ?_
          refine XP_pure rfl rfl (c_lot (show lot < 2147483648 by omega)) ?_
          rw [← el2]
          refine XP_n 5 (pc' := 64) (ls' := [.ref (0), .int (nI (r)), .int (nI (vn)), .int (nI (what)), .ref (1000 + 2 * r), .int (nI (cWA s)), .long (lN (lot2)), xj, .int (nI (p)), .int (nI (c)), .long (lN (t)), xj, .int (nI (i)), a1, a2]) (st' := [.long (lN (1000)), .long (lN (lot2)), .ref (1)]) (M' := (I, J, Rx R, N, G)) rfl ?_
          refine XP_lremN (a := lot2) (b := 1000) rfl (by omega) (by omega) (by omega) ?_
          refine XP_n 1 (pc' := 66) (ls' := [.ref (0), .int (nI (r)), .int (nI (vn)), .int (nI (what)), .ref (1000 + 2 * r), .int (nI (cWA s)), .long (lN (lot2)), xj, .int (nI (p)), .int (nI (c)), .long (lN (t)), xj, .int (nI (i)), a1, a2]) (st' := [.int ((lN ((lot2) % (1000))).toInt32), .ref (1)]) (M' := (I, J, Rx R, N, G)) rfl ?_
          rw [show (lN ((lot2) % (1000))).toInt32 = nI ((lot2) % (1000)) from lN_iE (rfl)]
          refine XP_pure rfl rfl (c_sbl hS hW (show lot2 % 1000 < 1000 from Nat.mod_lt _ (by omega))) ?_
          rw [← ex, hfv]
          refine XP_n 8 (pc' := 75) (ls' := [.ref (0), .int (nI (r)), .int (nI (vn)), .int (nI (what)), .ref (1000 + 2 * r), .int (nI (cWA s)), .long (lN (lot2)), xj, .int (nI (p)), .int (nI (c)), .long (lN (t)), xj, .int (nI (i)), .int (nI (k)), a2]) (st' := [.int (nI (k)), .int (nI (i)), .int (nI (p)), .ref (1), .ref (16)]) (M' := (I, J, Rx R, N, G)) rfl ?_
          refine XP_call rfl rfl (c_hosT hI hW hp (show i < cY s by omega) hw99 hr1 hr2 (show I 20 i = nI 0 from hr3) hk hw) ?_
          rintro v21 M21 ⟨rfl, I21, rfl, hI21, hO21⟩
          rw [hdt1]
          refine XP_n 2 (pc' := 78) (ls' := [.ref (0), .int (nI (r)), .int (nI (vn)), .int (nI (what)), .ref (1000 + 2 * r), .int (nI (cWA s)), .long (lN (lot2)), xj, .int (nI (p)), .int (nI (c)), .long (lN (t)), xj, .int (nI (i)), .int (nI (k)), .int (nI (hv))]) (st' := [.int (nI (hv))]) (M' := (I21, J, Rx R, N, G)) rfl ?_
          refine XP_ifN (x := hv)  rfl (by omega) (fun (b78 : hv < 0) => absurd b78 (by omega)) (fun (b78 : 0 ≤ hv) => ?_)
          refine XP_n 1 (pc' := 80) (ls' := [.ref (0), .int (nI (r)), .int (nI (vn)), .int (nI (what)), .ref (1000 + 2 * r), .int (nI (cWA s)), .long (lN (lot2)), xj, .int (nI (p)), .int (nI (c) + nI (1)), .long (lN (t)), xj, .int (nI (i)), .int (nI (k)), .int (nI (hv))]) (st' := []) (M' := (I21, J, Rx R, N, G)) rfl ?_
          rw [show nI (c) + nI (1) = nI (c + 1) from nI_addE (rfl) rfl]
          refine XP_n 5 (pc' := 85) (ls' := [.ref (0), .int (nI (r)), .int (nI (vn)), .int (nI (what)), .ref (1000 + 2 * r), .int (nI (cWA s)), .long (lN (lot2)), xj, .int (nI (p)), .int (nI (c + 1)), .long ((lN (t)) + ((nI (hv)).toInt64)), xj, .int (nI (i)), .int (nI (k)), .int (nI (hv))]) (st' := []) (M' := (I21, J, Rx R, N, G)) rfl ?_
          rw [show (lN (t)) + ((nI (hv)).toInt64) = lN (t + hv) from lN_addE (rfl) (nI_lE (rfl) (by omega))]
          refine XP_n 1 (pc' := 86) (ls' := [.ref (0), .int (nI (r)), .int (nI (vn)), .int (nI (what)), .ref (1000 + 2 * r), .int (nI (cWA s)), .long (lN (lot2)), xj, .int (nI (p)), .int (nI (c + 1)), .long (lN (t + hv)), xj, .int (nI (i) + nI (1)), .int (nI (k)), .int (nI (hv))]) (st' := []) (M' := (I21, J, Rx R, N, G)) rfl ?_
          rw [show nI (i) + nI (1) = nI (i + 1) from nI_addE (rfl) rfl]
          refine XP_n 1 (pc' := 52) (ls' := [.ref (0), .int (nI (r)), .int (nI (vn)), .int (nI (what)), .ref (1000 + 2 * r), .int (nI (cWA s)), .long (lN (lot2)), xj, .int (nI (p)), .int (nI (c + 1)), .long (lN (t + hv)), xj, .int (nI (i + 1)), .int (nI (k)), .int (nI (hv))]) (st' := []) (M' := (I21, J, Rx R, N, G)) rfl ?_
          exact ih (i + 1) _ _ _ _ _ _ _ (by omega) (by omega) hl2 hI21 (gRows_c hrw hO21)
        · rw [if_neg (show ¬ dHit s r p i k = true by rw [ehit, decide_eq_false hw]; simp)]
          refine XP_n 3 (pc' := 55) (ls' := [.ref (0), .int (nI (r)), .int (nI (vn)), .int (nI (what)), .ref (1000 + 2 * r), .int (nI (cWA s)), .long (lN (lot)), xj, .int (nI (p)), .int (nI (c)), .long (lN (t)), xj, .int (nI (i)), a1, a2]) (st' := [.ref (1), .int (nI (i))]) (M' := (I, J, Rx R, N, G)) rfl ?_
          refine XP_geti hS rfl rfl rfl ?_
          rw [hW.y.1]
          refine XP_icN (x := i) (y := cY s) rfl (by omega) (by omega) (fun (b56 : cY s ≤ i) => absurd b56 (by omega)) (fun (b56 : i < cY s) => ?_)
          refine XP_n 1 (pc' := 58) (ls' := [.ref (0), .int (nI (r)), .int (nI (vn)), .int (nI (what)), .ref (1000 + 2 * r), .int (nI (cWA s)), .long (lN (lot)), xj, .int (nI (p)), .int (nI (c)), .long (lN (t)), xj, .int (nI (i)), a1, a2]) (st' := [.long (lN (lot))]) (M' := (I, J, Rx R, N, G)) rfl ?_
          refine XP_pure rfl rfl (c_lot (show lot < 2147483648 by omega)) ?_
          rw [← el2]
          refine XP_n 5 (pc' := 64) (ls' := [.ref (0), .int (nI (r)), .int (nI (vn)), .int (nI (what)), .ref (1000 + 2 * r), .int (nI (cWA s)), .long (lN (lot2)), xj, .int (nI (p)), .int (nI (c)), .long (lN (t)), xj, .int (nI (i)), a1, a2]) (st' := [.long (lN (1000)), .long (lN (lot2)), .ref (1)]) (M' := (I, J, Rx R, N, G)) rfl ?_
          refine XP_lremN (a := lot2) (b := 1000) rfl (by omega) (by omega) (by omega) ?_
          refine XP_n 1 (pc' := 66) (ls' := [.ref (0), .int (nI (r)), .int (nI (vn)), .int (nI (what)), .ref (1000 + 2 * r), .int (nI (cWA s)), .long (lN (lot2)), xj, .int (nI (p)), .int (nI (c)), .long (lN (t)), xj, .int (nI (i)), a1, a2]) (st' := [.int ((lN ((lot2) % (1000))).toInt32), .ref (1)]) (M' := (I, J, Rx R, N, G)) rfl ?_
          rw [show (lN ((lot2) % (1000))).toInt32 = nI ((lot2) % (1000)) from lN_iE (rfl)]
          refine XP_pure rfl rfl (c_sbl hS hW (show lot2 % 1000 < 1000 from Nat.mod_lt _ (by omega))) ?_
          rw [← ex, hfv]
          refine XP_n 8 (pc' := 75) (ls' := [.ref (0), .int (nI (r)), .int (nI (vn)), .int (nI (what)), .ref (1000 + 2 * r), .int (nI (cWA s)), .long (lN (lot2)), xj, .int (nI (p)), .int (nI (c)), .long (lN (t)), xj, .int (nI (i)), .int (nI (k)), a2]) (st' := [.int (nI (k)), .int (nI (i)), .int (nI (p)), .ref (1), .ref (16)]) (M' := (I, J, Rx R, N, G)) rfl ?_
          refine XP_pure rfl rfl (c_hosW hI hW hp (show i < cY s by omega) hw99 hr1 hr2 (show I 20 i = nI 0 from hr3) hk hw) ?_
          refine XP_n 2 (pc' := 78) (ls' := [.ref (0), .int (nI (r)), .int (nI (vn)), .int (nI (what)), .ref (1000 + 2 * r), .int (nI (cWA s)), .long (lN (lot2)), xj, .int (nI (p)), .int (nI (c)), .long (lN (t)), xj, .int (nI (i)), .int (nI (k)), .int (cI (-1))]) (st' := [.int (cI (-1))]) (M' := (I, J, Rx R, N, G)) rfl ?_
          refine XP_ifD rfl (fun (b78 : cI (-1) < 0) => ?_) (fun (b78 : 0 ≤ cI (-1)) => absurd b78 (by decide))
          have n78 := Int32.not_le.mpr b78
          refine XP_n 1 (pc' := 86) (ls' := [.ref (0), .int (nI (r)), .int (nI (vn)), .int (nI (what)), .ref (1000 + 2 * r), .int (nI (cWA s)), .long (lN (lot2)), xj, .int (nI (p)), .int (nI (c)), .long (lN (t)), xj, .int (nI (i) + nI (1)), .int (nI (k)), .int (cI (-1))]) (st' := []) (M' := (I, J, Rx R, N, G)) rfl ?_
          rw [show nI (i) + nI (1) = nI (i + 1) from nI_addE (rfl) rfl]
          refine XP_n 1 (pc' := 52) (ls' := [.ref (0), .int (nI (r)), .int (nI (vn)), .int (nI (what)), .ref (1000 + 2 * r), .int (nI (cWA s)), .long (lN (lot2)), xj, .int (nI (p)), .int (nI (c)), .long (lN (t)), xj, .int (nI (i + 1)), .int (nI (k)), .int (cI (-1))]) (st' := []) (M' := (I, J, Rx R, N, G)) rfl ?_
          exact ih (i + 1) _ _ _ _ _ _ _ (by omega) (by omega) hl2 hI hrw
theorem l_M_sb {Q : Option Value → hM → Prop} (hS : St s I) (hW : Wf s) {r vn what lot p c t i x k : Nat} {a3 : Value} (hx : x < 1000) (kk : ∀ z : Nat, XP X d k_M_drawn 83 [.ref (99), .int (nI (r)), .int (nI (vn)), .int (nI (what)), .long (lN (lot)), xj, .int (nI (p)), .int (nI (c)), .long (lN (t)), xj, .int (nI (i)), .long (lN (z)), xj, .int (nI (k)), a3] [] (I, J, Rx R, N, G) Q) : ∀ (n j : Nat), j + n = cS s → sumN (rOf s) j ≤ x → k = fiB (rOf s) x n j → XP X d k_M_drawn 61 [.ref (99), .int (nI (r)), .int (nI (vn)), .int (nI (what)), .long (lN (lot)), xj, .int (nI (p)), .int (nI (c)), .long (lN (t)), xj, .int (nI (i)), .long (lN (x - sumN (rOf s) j)), xj, .int (nI (j)), a3] [] (I, J, Rx R, N, G) Q := by
  have hn6 := hW.ns.2
  intro n
  induction n with
  | zero =>
    rintro j hj hle hk
    obtain rfl : j = cS s := by omega
    obtain rfl : k = cS s := hk
    refine XP_n 2 (pc' := 63) (ls' := [.ref (99), .int (nI (r)), .int (nI (vn)), .int (nI (what)), .long (lN (lot)), xj, .int (nI (p)), .int (nI (c)), .long (lN (t)), xj, .int (nI (i)), .long (lN (x - sumN (rOf s) (cS s))), xj, .int (nI (cS s)), a3]) (st' := [.ref (99), .int (nI (cS s))]) (M' := (I, J, Rx R, N, G)) rfl ?_
    refine XP_geti hS rfl rfl rfl ?_
    rw [hW.ns.1]
    refine XP_icN (x := cS s) (y := cS s) rfl (by omega) (by omega) (fun (b64 : cS s ≤ cS s) => ?_) (fun (b64 : cS s < cS s) => absurd b64 (by omega))
    exact kk _
  | succ n ih =>
    rintro j hj hle hk
    have e1 : sumN (rOf s) (j + 1) = sumN (rOf s) j + rOf s j := rfl
    have eb : fiB (rOf s) x (n + 1) j = (if x < sumN (rOf s) (j + 1) then j else fiB (rOf s) x n (j + 1)) := rfl
    have ihh := ih (j + 1) (by omega)
    rw [e1] at eb ihh
    rw [show x - (sumN (rOf s) j + rOf s j) = x - sumN (rOf s) j - rOf s j by omega] at ihh
    rw [eb] at hk
    refine XP_n 2 (pc' := 63) (ls' := [.ref (99), .int (nI (r)), .int (nI (vn)), .int (nI (what)), .long (lN (lot)), xj, .int (nI (p)), .int (nI (c)), .long (lN (t)), xj, .int (nI (i)), .long (lN (x - sumN (rOf s) j)), xj, .int (nI (j)), a3]) (st' := [.ref (99), .int (nI (j))]) (M' := (I, J, Rx R, N, G)) rfl ?_
    refine XP_geti hS rfl rfl rfl ?_
    rw [hW.ns.1]
    refine XP_icN (x := j) (y := cS s) rfl (by omega) (by omega) (fun (b64 : cS s ≤ j) => absurd b64 (by omega)) (fun (b64 : j < cS s) => ?_)
    refine XP_n 4 (pc' := 69) (ls' := [.ref (99), .int (nI (r)), .int (nI (vn)), .int (nI (what)), .long (lN (lot)), xj, .int (nI (p)), .int (nI (c)), .long (lN (t)), xj, .int (nI (i)), .long (lN (x - sumN (rOf s) j)), xj, .int (nI (j)), a3]) (st' := [.int (nI (j)), .ref (106), .long (lN (x - sumN (rOf s) j))]) (M' := (I, J, Rx R, N, G)) rfl ?_
    refine XP_iald hS rfl rfl (show j < 6 by omega) rfl (by omega) rfl ?_
    obtain ⟨hq22, hr22⟩ := hW.so (show j < cS s by omega)
    rw [hq22]
    refine XP_n 1 (pc' := 71) (ls' := [.ref (99), .int (nI (r)), .int (nI (vn)), .int (nI (what)), .long (lN (lot)), xj, .int (nI (p)), .int (nI (c)), .long (lN (t)), xj, .int (nI (i)), .long (lN (x - sumN (rOf s) j)), xj, .int (nI (j)), a3]) (st' := [.long ((nI (rOf s j)).toInt64), .long (lN (x - sumN (rOf s) j))]) (M' := (I, J, Rx R, N, G)) rfl ?_
    rw [show (nI (rOf s j)).toInt64 = lN (rOf s j) from nI_lE (rfl) (by omega)]
    refine XP_lcN (x := x - sumN (rOf s) j) (y := rOf s j) rfl rfl (by omega) (by omega) (fun (b72 : x - sumN (rOf s) j < rOf s j) => ?_) (fun (b72 : rOf s j ≤ x - sumN (rOf s) j) => ?_)
    · rw [if_pos (by omega)] at hk
      subst hk
      exact kk _
    · refine XP_n 4 (pc' := 77) (ls' := [.ref (99), .int (nI (r)), .int (nI (vn)), .int (nI (what)), .long (lN (lot)), xj, .int (nI (p)), .int (nI (c)), .long (lN (t)), xj, .int (nI (i)), .long (lN (x - sumN (rOf s) j)), xj, .int (nI (j)), a3]) (st' := [.int (nI (j)), .ref (106), .long (lN (x - sumN (rOf s) j))]) (M' := (I, J, Rx R, N, G)) rfl ?_
      refine XP_iald hS rfl rfl (show j < 6 by omega) rfl (by omega) rfl ?_
      obtain ⟨hq23, hr23⟩ := hW.so (show j < cS s by omega)
      rw [hq23]
      refine XP_n 3 (pc' := 81) (ls' := [.ref (99), .int (nI (r)), .int (nI (vn)), .int (nI (what)), .long (lN (lot)), xj, .int (nI (p)), .int (nI (c)), .long (lN (t)), xj, .int (nI (i)), .long ((lN (x - sumN (rOf s) j)) - ((nI (rOf s j)).toInt64)), xj, .int (nI (j)), a3]) (st' := []) (M' := (I, J, Rx R, N, G)) rfl ?_
      rw [show (lN (x - sumN (rOf s) j)) - ((nI (rOf s j)).toInt64) = lN (x - sumN (rOf s) j - (rOf s j)) from lN_subE (rfl) (nI_lE (rfl) (by omega)) (by omega)]
      refine XP_n 1 (pc' := 82) (ls' := [.ref (99), .int (nI (r)), .int (nI (vn)), .int (nI (what)), .long (lN (lot)), xj, .int (nI (p)), .int (nI (c)), .long (lN (t)), xj, .int (nI (i)), .long (lN (x - sumN (rOf s) j - (rOf s j))), xj, .int (nI (j) + nI (1)), a3]) (st' := []) (M' := (I, J, Rx R, N, G)) rfl ?_
      rw [show nI (j) + nI (1) = nI (j + 1) from nI_addE (rfl) rfl]
      refine XP_n 1 (pc' := 61) (ls' := [.ref (99), .int (nI (r)), .int (nI (vn)), .int (nI (what)), .long (lN (lot)), xj, .int (nI (p)), .int (nI (c)), .long (lN (t)), xj, .int (nI (i)), .long (lN (x - sumN (rOf s) j - (rOf s j))), xj, .int (nI (j + 1)), a3]) (st' := []) (M' := (I, J, Rx R, N, G)) rfl ?_
      rw [if_neg (by omega)] at hk
      exact ihh (by omega) hk
theorem l_M_dr (hW : Wf s) {r p vn what : Nat} (hr : r < cR s) (hp : p < cP s) (hwh : what ≤ 1) : ∀ (n i lot c t : Nat) (I : Nat → Nat → Int32) (J : Nat → Nat → Int64) (a1 a2 a3 : Value), i + n = cY s → c ≤ i → lot < 2147483647 → Inv s R N I J → gRows s (k5 s r) (nRr s r) p (cY s) 127 128 129 130 I → XP X (d + 10) k_M_drawn 45 [.ref (99), .int (nI (r)), .int (nI (vn)), .int (nI (what)), .long (lN (lot)), xj, .int (nI (p)), .int (nI (c)), .long (lN (t)), xj, .int (nI (i)), a1, xj, a2, a3] [] (I, J, Rx R, N, G) (QP s R N G (.long (lN (dOut what (dRun s r p (n) i lot c t))))) := by
  have hy16 := hW.y.2
  have hp4 := hW.p.2
  have hn6 := hW.ns.2
  intro n
  induction n with
  | zero =>
    rintro i lot c t I J a1 a2 a3 hi hc hlot hI hrw
    obtain rfl : i = cY s := by omega
    have es : dRun s r p 0 (cY s) lot c t = (c, t) := rfl
    rw [es]
    refine XP_n 2 (pc' := 47) (ls' := [.ref (99), .int (nI (r)), .int (nI (vn)), .int (nI (what)), .long (lN (lot)), xj, .int (nI (p)), .int (nI (c)), .long (lN (t)), xj, .int (nI (cY s)), a1, xj, a2, a3]) (st' := [.ref (99), .int (nI (cY s))]) (M' := (I, J, Rx R, N, G)) rfl ?_
    refine XP_geti hI.1 rfl rfl rfl ?_
    rw [hW.y.1]
    refine XP_icN (x := cY s) (y := cY s) rfl (by omega) (by omega) (fun (b48 : cY s ≤ cY s) => ?_) (fun (b48 : cY s < cY s) => absurd b48 (by omega))
    refine XP_n 1 (pc' := 145) (ls' := [.ref (99), .int (nI (r)), .int (nI (vn)), .int (nI (what)), .long (lN (lot)), xj, .int (nI (p)), .int (nI (c)), .long (lN (t)), xj, .int (nI (cY s)), a1, xj, a2, a3]) (st' := [.int (nI (what))]) (M' := (I, J, Rx R, N, G)) rfl ?_
    refine XP_ifN (x := what)  rfl (by omega) (fun (b145 : ¬ what = 0) => ?_) (fun (b145 : what = 0) => ?_)
    · refine XP_n 1 (pc' := 150) (ls' := [.ref (99), .int (nI (r)), .int (nI (vn)), .int (nI (what)), .long (lN (lot)), xj, .int (nI (p)), .int (nI (c)), .long (lN (t)), xj, .int (nI (cY s)), a1, xj, a2, a3]) (st' := [.long (lN (t))]) (M' := (I, J, Rx R, N, G)) rfl ?_
      rw [show dOut what (c, t) = t from if_neg (by omega)]
      exact XP_ret rfl ⟨rfl, _, _, rfl, hI⟩
    · refine XP_n 3 (pc' := 150) (ls' := [.ref (99), .int (nI (r)), .int (nI (vn)), .int (nI (what)), .long (lN (lot)), xj, .int (nI (p)), .int (nI (c)), .long (lN (t)), xj, .int (nI (cY s)), a1, xj, a2, a3]) (st' := [.long ((nI (c)).toInt64)]) (M' := (I, J, Rx R, N, G)) rfl ?_
      rw [show (nI (c)).toInt64 = lN (c) from nI_lE (rfl) (by omega)]
      rw [show dOut what (c, t) = c from if_pos (by omega)]
      exact XP_ret rfl ⟨rfl, _, _, rfl, hI⟩
  | succ n ih =>
    rintro i lot c t I J a1 a2 a3 hi hc hlot hI hrw
    obtain ⟨t6, e0, e1, e2, e3, l1, l2, l3, hq, hW1, hW2, hW3⟩ := hW.lwt
    have hS := hI.1
    have hL := hI.2.2.1
    have hlv := (nLv_ok hW hp (show i ≤ 15 by omega)).2
    obtain ⟨lot2, el2⟩ : ∃ z, z = drL lot := ⟨_, rfl⟩
    have hl2 : lot2 < 2147483647 := by rw [el2]; exact Nat.mod_lt _ (by omega)
    obtain ⟨x, ex⟩ : ∃ z, z = lot2 % 1000 := ⟨_, rfl⟩
    have hx : x < 1000 := by rw [ex]; exact Nat.mod_lt _ (by omega)
    obtain ⟨k, ek⟩ : ∃ z, z = fiB (rOf s) x (cS s) 0 := ⟨_, rfl⟩
    have hkl := fiB_le (rOf s) x (cS s) 0
    rw [← ek] at hkl
    have edk : dK s (drL lot) = k := by unfold dK; rw [← el2, ← ex]; exact ek.symm
    obtain ⟨w, ew⟩ : ∃ z, z = dW s r p i := ⟨_, rfl⟩
    have hw99 : w ≤ 99 := by rw [ew]; exact gS_w hW _ _ _ _
    obtain ⟨rc, erc⟩ : ∃ z, z = (gS s (k5 s r) (nRr s r) p (i)).2.1 := ⟨_, rfl⟩
    obtain ⟨hr1, -, hr2, hr3⟩ := hrw i (by omega)
    rw [show (gS s (k5 s r) (nRr s r) p (i + 1)).1 = w from ew.symm] at hr1
    rw [← erc] at hr2
    have evl : dVl s r p i k = dTn s (nLv s p i) w i rc (nLv s p i + rHt s k - w) := by rw [ew, erc]; rfl
    have es : dRun s r p (n + 1) i lot c t = (if dHit s r p i k = true then dRun s r p n (i + 1) lot2 (c + 1) (t + dTn s (nLv s p i) w i rc (nLv s p i + rHt s k - w)) else dRun s r p n (i + 1) lot2 c t) := by
      rw [← evl, el2, ← edk]
      rfl
    have ehit : dHit s r p i k = (decide (k < cS s) && (!(gS s (k5 s r) (nRr s r) p (i + 1)).2.2.1 && decide (w < nLv s p i + rHt s k))) := by rw [ew]; rfl
    have hdt := dTm_ok s (nLv s p i) w i rc (nLv s p i + rHt s k - w)
    obtain ⟨hv, ehv⟩ : ∃ z, z = dTn s (nLv s p i) w i rc (nLv s p i + rHt s k - w) := ⟨_, rfl⟩
    rw [← ehv] at es hdt
    obtain ⟨hdt1, hdt2⟩ := hdt
    rw [es]
    by_cases hk : k < cS s
    rotate_left
    · rw [if_neg (show ¬ dHit s r p i k = true by rw [ehit, decide_eq_false hk]; simp)]
      have hfv : fiV (rOf s) x (cS s) (cS s) 0 = cI (-1) := by
        unfold fiV
        rw [← ek]
        exact if_neg hk
      cases hlb : (gS s (k5 s r) (nRr s r) p (i + 1)).2.2.1 with
      | true =>
        rw [hlb] at hr3
        refine XP_n 2 (pc' := 47) (ls' := [.ref (99), .int (nI (r)), .int (nI (vn)), .int (nI (what)), .long (lN (lot)), xj, .int (nI (p)), .int (nI (c)), .long (lN (t)), xj, .int (nI (i)), a1, xj, a2, a3]) (st' := [.ref (99), .int (nI (i))]) (M' := (I, J, Rx R, N, G)) rfl ?_
        refine XP_geti hS rfl rfl rfl ?_
        rw [hW.y.1]
        refine XP_icN (x := i) (y := cY s) rfl (by omega) (by omega) (fun (b48 : cY s ≤ i) => absurd b48 (by omega)) (fun (b48 : i < cY s) => ?_)
        refine XP_n 4 (pc' := 53) (ls' := [.ref (99), .int (nI (r)), .int (nI (vn)), .int (nI (what)), .long (lN (lot)), xj, .int (nI (p)), .int (nI (c)), .long (lN (t)), xj, .int (nI (i)), a1, xj, a2, a3]) (st' := [.long (lN (2147483647)), .long ((lN (lot)) * (lN (48271)))]) (M' := (I, J, Rx R, N, G)) rfl ?_
        rw [show (lN (lot)) * (lN (48271)) = lN ((lot) * (48271)) from lN_mulE (rfl) (rfl)]
        refine XP_lremN (a := (lot) * (48271)) (b := 2147483647) rfl (by omega) (by omega) (by omega) ?_
        rw [show lN (((lot) * (48271)) % (2147483647)) = lN (lot2) from congrArg lN el2.symm]
        refine XP_n 3 (pc' := 57) (ls' := [.ref (99), .int (nI (r)), .int (nI (vn)), .int (nI (what)), .long (lN (lot2)), xj, .int (nI (p)), .int (nI (c)), .long (lN (t)), xj, .int (nI (i)), a1, xj, a2, a3]) (st' := [.long (lN (1000)), .long (lN (lot2))]) (M' := (I, J, Rx R, N, G)) rfl ?_
        refine XP_lremN (a := lot2) (b := 1000) rfl (by omega) (by omega) (by omega) ?_
        rw [show lN ((lot2) % (1000)) = lN (x) from congrArg lN ex.symm]
        refine XP_n 3 (pc' := 61) (ls' := [.ref (99), .int (nI (r)), .int (nI (vn)), .int (nI (what)), .long (lN (lot2)), xj, .int (nI (p)), .int (nI (c)), .long (lN (t)), xj, .int (nI (i)), .long (lN (x)), xj, .int (nI (0)), a3]) (st' := []) (M' := (I, J, Rx R, N, G)) rfl ?_
        refine l_M_sb hS hW hx ?_ (cS s) 0 (by omega) (Nat.zero_le _) ek
        intro z
        refine XP_n 3 (pc' := 86) (ls' := [.ref (99), .int (nI (r)), .int (nI (vn)), .int (nI (what)), .long (lN (lot2)), xj, .int (nI (p)), .int (nI (c)), .long (lN (t)), xj, .int (nI (i)), .long (lN (z)), xj, .int (nI (k)), a3]) (st' := [.int (nI (i)), .int (nI (p)), .ref (99)]) (M' := (I, J, Rx R, N, G)) rfl ?_
        refine XP_pure rfl rfl (m_lv hS hW (show p < cP s by omega) (by omega)) ?_
        have hlv24 := (nLv_ok hW (show p < cP s by omega) (show i ≤ 15 by omega)).2
        refine XP_n 3 (pc' := 90) (ls' := [.ref (99), .int (nI (r)), .int (nI (vn)), .int (nI (what)), .long (lN (lot2)), xj, .int (nI (p)), .int (nI (c)), .long (lN (t)), xj, .int (nI (i)), .long (lN (z)), xj, .int (nI (k)), .int (nI (nLv s (p) (i)))]) (st' := [.ref (99), .int (nI (k))]) (M' := (I, J, Rx R, N, G)) rfl ?_
        refine XP_geti hS rfl rfl rfl ?_
        rw [hW.ns.1]
        refine XP_icN (x := k) (y := cS s) rfl (by omega) (by omega) (fun (b91 : cS s ≤ k) => ?_) (fun (b91 : k < cS s) => absurd b91 (by omega))
        refine XP_n 1 (pc' := 143) (ls' := [.ref (99), .int (nI (r)), .int (nI (vn)), .int (nI (what)), .long (lN (lot2)), xj, .int (nI (p)), .int (nI (c)), .long (lN (t)), xj, .int (nI (i) + nI (1)), .long (lN (z)), xj, .int (nI (k)), .int (nI (nLv s (p) (i)))]) (st' := []) (M' := (I, J, Rx R, N, G)) rfl ?_
        rw [show nI (i) + nI (1) = nI (i + 1) from nI_addE (rfl) rfl]
        refine XP_n 1 (pc' := 45) (ls' := [.ref (99), .int (nI (r)), .int (nI (vn)), .int (nI (what)), .long (lN (lot2)), xj, .int (nI (p)), .int (nI (c)), .long (lN (t)), xj, .int (nI (i + 1)), .long (lN (z)), xj, .int (nI (k)), .int (nI (nLv s (p) (i)))]) (st' := []) (M' := (I, J, Rx R, N, G)) rfl ?_
        exact ih (i + 1) _ _ _ _ _ _ _ _ (by omega) (by omega) hl2 hI hrw
      | false =>
        rw [hlb] at hr3
        refine XP_n 2 (pc' := 47) (ls' := [.ref (99), .int (nI (r)), .int (nI (vn)), .int (nI (what)), .long (lN (lot)), xj, .int (nI (p)), .int (nI (c)), .long (lN (t)), xj, .int (nI (i)), a1, xj, a2, a3]) (st' := [.ref (99), .int (nI (i))]) (M' := (I, J, Rx R, N, G)) rfl ?_
        refine XP_geti hS rfl rfl rfl ?_
        rw [hW.y.1]
        refine XP_icN (x := i) (y := cY s) rfl (by omega) (by omega) (fun (b48 : cY s ≤ i) => absurd b48 (by omega)) (fun (b48 : i < cY s) => ?_)
        refine XP_n 4 (pc' := 53) (ls' := [.ref (99), .int (nI (r)), .int (nI (vn)), .int (nI (what)), .long (lN (lot)), xj, .int (nI (p)), .int (nI (c)), .long (lN (t)), xj, .int (nI (i)), a1, xj, a2, a3]) (st' := [.long (lN (2147483647)), .long ((lN (lot)) * (lN (48271)))]) (M' := (I, J, Rx R, N, G)) rfl ?_
        rw [show (lN (lot)) * (lN (48271)) = lN ((lot) * (48271)) from lN_mulE (rfl) (rfl)]
        refine XP_lremN (a := (lot) * (48271)) (b := 2147483647) rfl (by omega) (by omega) (by omega) ?_
        rw [show lN (((lot) * (48271)) % (2147483647)) = lN (lot2) from congrArg lN el2.symm]
        refine XP_n 3 (pc' := 57) (ls' := [.ref (99), .int (nI (r)), .int (nI (vn)), .int (nI (what)), .long (lN (lot2)), xj, .int (nI (p)), .int (nI (c)), .long (lN (t)), xj, .int (nI (i)), a1, xj, a2, a3]) (st' := [.long (lN (1000)), .long (lN (lot2))]) (M' := (I, J, Rx R, N, G)) rfl ?_
        refine XP_lremN (a := lot2) (b := 1000) rfl (by omega) (by omega) (by omega) ?_
        rw [show lN ((lot2) % (1000)) = lN (x) from congrArg lN ex.symm]
        refine XP_n 3 (pc' := 61) (ls' := [.ref (99), .int (nI (r)), .int (nI (vn)), .int (nI (what)), .long (lN (lot2)), xj, .int (nI (p)), .int (nI (c)), .long (lN (t)), xj, .int (nI (i)), .long (lN (x)), xj, .int (nI (0)), a3]) (st' := []) (M' := (I, J, Rx R, N, G)) rfl ?_
        refine l_M_sb hS hW hx ?_ (cS s) 0 (by omega) (Nat.zero_le _) ek
        intro z
        refine XP_n 3 (pc' := 86) (ls' := [.ref (99), .int (nI (r)), .int (nI (vn)), .int (nI (what)), .long (lN (lot2)), xj, .int (nI (p)), .int (nI (c)), .long (lN (t)), xj, .int (nI (i)), .long (lN (z)), xj, .int (nI (k)), a3]) (st' := [.int (nI (i)), .int (nI (p)), .ref (99)]) (M' := (I, J, Rx R, N, G)) rfl ?_
        refine XP_pure rfl rfl (m_lv hS hW (show p < cP s by omega) (by omega)) ?_
        have hlv25 := (nLv_ok hW (show p < cP s by omega) (show i ≤ 15 by omega)).2
        refine XP_n 3 (pc' := 90) (ls' := [.ref (99), .int (nI (r)), .int (nI (vn)), .int (nI (what)), .long (lN (lot2)), xj, .int (nI (p)), .int (nI (c)), .long (lN (t)), xj, .int (nI (i)), .long (lN (z)), xj, .int (nI (k)), .int (nI (nLv s (p) (i)))]) (st' := [.ref (99), .int (nI (k))]) (M' := (I, J, Rx R, N, G)) rfl ?_
        refine XP_geti hS rfl rfl rfl ?_
        rw [hW.ns.1]
        refine XP_icN (x := k) (y := cS s) rfl (by omega) (by omega) (fun (b91 : cS s ≤ k) => ?_) (fun (b91 : k < cS s) => absurd b91 (by omega))
        refine XP_n 1 (pc' := 143) (ls' := [.ref (99), .int (nI (r)), .int (nI (vn)), .int (nI (what)), .long (lN (lot2)), xj, .int (nI (p)), .int (nI (c)), .long (lN (t)), xj, .int (nI (i) + nI (1)), .long (lN (z)), xj, .int (nI (k)), .int (nI (nLv s (p) (i)))]) (st' := []) (M' := (I, J, Rx R, N, G)) rfl ?_
        rw [show nI (i) + nI (1) = nI (i + 1) from nI_addE (rfl) rfl]
        refine XP_n 1 (pc' := 45) (ls' := [.ref (99), .int (nI (r)), .int (nI (vn)), .int (nI (what)), .long (lN (lot2)), xj, .int (nI (p)), .int (nI (c)), .long (lN (t)), xj, .int (nI (i + 1)), .long (lN (z)), xj, .int (nI (k)), .int (nI (nLv s (p) (i)))]) (st' := []) (M' := (I, J, Rx R, N, G)) rfl ?_
        exact ih (i + 1) _ _ _ _ _ _ _ _ (by omega) (by omega) hl2 hI hrw
    · have hsh := (hW.sh hk).2
      have hfv : fiV (rOf s) x (cS s) (cS s) 0 = nI k := by
        unfold fiV
        rw [← ek]
        exact if_pos hk
      cases hlb : (gS s (k5 s r) (nRr s r) p (i + 1)).2.2.1 with
      | true =>
        rw [hlb] at hr3
        rw [if_neg (show ¬ dHit s r p i k = true by rw [ehit, hlb]; simp)]
        refine XP_n 2 (pc' := 47) (ls' := [.ref (99), .int (nI (r)), .int (nI (vn)), .int (nI (what)), .long (lN (lot)), xj, .int (nI (p)), .int (nI (c)), .long (lN (t)), xj, .int (nI (i)), a1, xj, a2, a3]) (st' := [.ref (99), .int (nI (i))]) (M' := (I, J, Rx R, N, G)) rfl ?_
        refine XP_geti hS rfl rfl rfl ?_
        rw [hW.y.1]
        refine XP_icN (x := i) (y := cY s) rfl (by omega) (by omega) (fun (b48 : cY s ≤ i) => absurd b48 (by omega)) (fun (b48 : i < cY s) => ?_)
        refine XP_n 4 (pc' := 53) (ls' := [.ref (99), .int (nI (r)), .int (nI (vn)), .int (nI (what)), .long (lN (lot)), xj, .int (nI (p)), .int (nI (c)), .long (lN (t)), xj, .int (nI (i)), a1, xj, a2, a3]) (st' := [.long (lN (2147483647)), .long ((lN (lot)) * (lN (48271)))]) (M' := (I, J, Rx R, N, G)) rfl ?_
        rw [show (lN (lot)) * (lN (48271)) = lN ((lot) * (48271)) from lN_mulE (rfl) (rfl)]
        refine XP_lremN (a := (lot) * (48271)) (b := 2147483647) rfl (by omega) (by omega) (by omega) ?_
        rw [show lN (((lot) * (48271)) % (2147483647)) = lN (lot2) from congrArg lN el2.symm]
        refine XP_n 3 (pc' := 57) (ls' := [.ref (99), .int (nI (r)), .int (nI (vn)), .int (nI (what)), .long (lN (lot2)), xj, .int (nI (p)), .int (nI (c)), .long (lN (t)), xj, .int (nI (i)), a1, xj, a2, a3]) (st' := [.long (lN (1000)), .long (lN (lot2))]) (M' := (I, J, Rx R, N, G)) rfl ?_
        refine XP_lremN (a := lot2) (b := 1000) rfl (by omega) (by omega) (by omega) ?_
        rw [show lN ((lot2) % (1000)) = lN (x) from congrArg lN ex.symm]
        refine XP_n 3 (pc' := 61) (ls' := [.ref (99), .int (nI (r)), .int (nI (vn)), .int (nI (what)), .long (lN (lot2)), xj, .int (nI (p)), .int (nI (c)), .long (lN (t)), xj, .int (nI (i)), .long (lN (x)), xj, .int (nI (0)), a3]) (st' := []) (M' := (I, J, Rx R, N, G)) rfl ?_
        refine l_M_sb hS hW hx ?_ (cS s) 0 (by omega) (Nat.zero_le _) ek
        intro z
        refine XP_n 3 (pc' := 86) (ls' := [.ref (99), .int (nI (r)), .int (nI (vn)), .int (nI (what)), .long (lN (lot2)), xj, .int (nI (p)), .int (nI (c)), .long (lN (t)), xj, .int (nI (i)), .long (lN (z)), xj, .int (nI (k)), a3]) (st' := [.int (nI (i)), .int (nI (p)), .ref (99)]) (M' := (I, J, Rx R, N, G)) rfl ?_
        refine XP_pure rfl rfl (m_lv hS hW (show p < cP s by omega) (by omega)) ?_
        have hlv26 := (nLv_ok hW (show p < cP s by omega) (show i ≤ 15 by omega)).2
        refine XP_n 3 (pc' := 90) (ls' := [.ref (99), .int (nI (r)), .int (nI (vn)), .int (nI (what)), .long (lN (lot2)), xj, .int (nI (p)), .int (nI (c)), .long (lN (t)), xj, .int (nI (i)), .long (lN (z)), xj, .int (nI (k)), .int (nI (nLv s (p) (i)))]) (st' := [.ref (99), .int (nI (k))]) (M' := (I, J, Rx R, N, G)) rfl ?_
        refine XP_geti hS rfl rfl rfl ?_
        rw [hW.ns.1]
        refine XP_icN (x := k) (y := cS s) rfl (by omega) (by omega) (fun (b91 : cS s ≤ k) => absurd b91 (by omega)) (fun (b91 : k < cS s) => ?_)
        refine XP_n 3 (pc' := 95) (ls' := [.ref (99), .int (nI (r)), .int (nI (vn)), .int (nI (what)), .long (lN (lot2)), xj, .int (nI (p)), .int (nI (c)), .long (lN (t)), xj, .int (nI (i)), .long (lN (z)), xj, .int (nI (k)), .int (nI (nLv s (p) (i)))]) (st' := [.int (nI (i)), .ref (130)]) (M' := (I, J, Rx R, N, G)) rfl ?_
        refine XP_braw rfl rfl (show i < 17 by omega) rfl (by omega) ?_
        rw [show I 130 i = nI (1) from hr3]
        refine XP_ifN (x := 1)  rfl (by omega) (fun (b96 : ¬ 1 = 0) => ?_) (fun (b96 : 1 = 0) => absurd b96 (by omega))
        refine XP_n 1 (pc' := 143) (ls' := [.ref (99), .int (nI (r)), .int (nI (vn)), .int (nI (what)), .long (lN (lot2)), xj, .int (nI (p)), .int (nI (c)), .long (lN (t)), xj, .int (nI (i) + nI (1)), .long (lN (z)), xj, .int (nI (k)), .int (nI (nLv s (p) (i)))]) (st' := []) (M' := (I, J, Rx R, N, G)) rfl ?_
        rw [show nI (i) + nI (1) = nI (i + 1) from nI_addE (rfl) rfl]
        refine XP_n 1 (pc' := 45) (ls' := [.ref (99), .int (nI (r)), .int (nI (vn)), .int (nI (what)), .long (lN (lot2)), xj, .int (nI (p)), .int (nI (c)), .long (lN (t)), xj, .int (nI (i + 1)), .long (lN (z)), xj, .int (nI (k)), .int (nI (nLv s (p) (i)))]) (st' := []) (M' := (I, J, Rx R, N, G)) rfl ?_
        exact ih (i + 1) _ _ _ _ _ _ _ _ (by omega) (by omega) hl2 hI hrw
      | false =>
        rw [hlb] at hr3
        by_cases hw : w < nLv s p i + rHt s k
        · rw [if_pos (show dHit s r p i k = true by rw [ehit, hlb, decide_eq_true hk, decide_eq_true hw]; rfl)]
          refine XP_n 2 (pc' := 47) (ls' := [.ref (99), .int (nI (r)), .int (nI (vn)), .int (nI (what)), .long (lN (lot)), xj, .int (nI (p)), .int (nI (c)), .long (lN (t)), xj, .int (nI (i)), a1, xj, a2, a3]) (st' := [.ref (99), .int (nI (i))]) (M' := (I, J, Rx R, N, G)) rfl ?_
          refine XP_geti hS rfl rfl rfl ?_
          rw [hW.y.1]
          refine XP_icN (x := i) (y := cY s) rfl (by omega) (by omega) (fun (b48 : cY s ≤ i) => absurd b48 (by omega)) (fun (b48 : i < cY s) => ?_)
          refine XP_n 4 (pc' := 53) (ls' := [.ref (99), .int (nI (r)), .int (nI (vn)), .int (nI (what)), .long (lN (lot)), xj, .int (nI (p)), .int (nI (c)), .long (lN (t)), xj, .int (nI (i)), a1, xj, a2, a3]) (st' := [.long (lN (2147483647)), .long ((lN (lot)) * (lN (48271)))]) (M' := (I, J, Rx R, N, G)) rfl ?_
          rw [show (lN (lot)) * (lN (48271)) = lN ((lot) * (48271)) from lN_mulE (rfl) (rfl)]
          refine XP_lremN (a := (lot) * (48271)) (b := 2147483647) rfl (by omega) (by omega) (by omega) ?_
          rw [show lN (((lot) * (48271)) % (2147483647)) = lN (lot2) from congrArg lN el2.symm]
          refine XP_n 3 (pc' := 57) (ls' := [.ref (99), .int (nI (r)), .int (nI (vn)), .int (nI (what)), .long (lN (lot2)), xj, .int (nI (p)), .int (nI (c)), .long (lN (t)), xj, .int (nI (i)), a1, xj, a2, a3]) (st' := [.long (lN (1000)), .long (lN (lot2))]) (M' := (I, J, Rx R, N, G)) rfl ?_
          refine XP_lremN (a := lot2) (b := 1000) rfl (by omega) (by omega) (by omega) ?_
          rw [show lN ((lot2) % (1000)) = lN (x) from congrArg lN ex.symm]
          refine XP_n 3 (pc' := 61) (ls' := [.ref (99), .int (nI (r)), .int (nI (vn)), .int (nI (what)), .long (lN (lot2)), xj, .int (nI (p)), .int (nI (c)), .long (lN (t)), xj, .int (nI (i)), .long (lN (x)), xj, .int (nI (0)), a3]) (st' := []) (M' := (I, J, Rx R, N, G)) rfl ?_
          refine l_M_sb hS hW hx ?_ (cS s) 0 (by omega) (Nat.zero_le _) ek
          intro z
          refine XP_n 3 (pc' := 86) (ls' := [.ref (99), .int (nI (r)), .int (nI (vn)), .int (nI (what)), .long (lN (lot2)), xj, .int (nI (p)), .int (nI (c)), .long (lN (t)), xj, .int (nI (i)), .long (lN (z)), xj, .int (nI (k)), a3]) (st' := [.int (nI (i)), .int (nI (p)), .ref (99)]) (M' := (I, J, Rx R, N, G)) rfl ?_
          refine XP_pure rfl rfl (m_lv hS hW (show p < cP s by omega) (by omega)) ?_
          have hlv27 := (nLv_ok hW (show p < cP s by omega) (show i ≤ 15 by omega)).2
          refine XP_n 3 (pc' := 90) (ls' := [.ref (99), .int (nI (r)), .int (nI (vn)), .int (nI (what)), .long (lN (lot2)), xj, .int (nI (p)), .int (nI (c)), .long (lN (t)), xj, .int (nI (i)), .long (lN (z)), xj, .int (nI (k)), .int (nI (nLv s (p) (i)))]) (st' := [.ref (99), .int (nI (k))]) (M' := (I, J, Rx R, N, G)) rfl ?_
          refine XP_geti hS rfl rfl rfl ?_
          rw [hW.ns.1]
          refine XP_icN (x := k) (y := cS s) rfl (by omega) (by omega) (fun (b91 : cS s ≤ k) => absurd b91 (by omega)) (fun (b91 : k < cS s) => ?_)
          refine XP_n 3 (pc' := 95) (ls' := [.ref (99), .int (nI (r)), .int (nI (vn)), .int (nI (what)), .long (lN (lot2)), xj, .int (nI (p)), .int (nI (c)), .long (lN (t)), xj, .int (nI (i)), .long (lN (z)), xj, .int (nI (k)), .int (nI (nLv s (p) (i)))]) (st' := [.int (nI (i)), .ref (130)]) (M' := (I, J, Rx R, N, G)) rfl ?_
          refine XP_braw rfl rfl (show i < 17 by omega) rfl (by omega) ?_
          rw [show I 130 i = nI (0) from hr3]
          refine XP_ifN (x := 0)  rfl (by omega) (fun (b96 : ¬ 0 = 0) => absurd b96 (by omega)) (fun (b96 : 0 = 0) => ?_)
          refine XP_n 4 (pc' := 101) (ls' := [.ref (99), .int (nI (r)), .int (nI (vn)), .int (nI (what)), .long (lN (lot2)), xj, .int (nI (p)), .int (nI (c)), .long (lN (t)), xj, .int (nI (i)), .long (lN (z)), xj, .int (nI (k)), .int (nI (nLv s (p) (i)))]) (st' := [.int (nI (k)), .ref (105), .int (nI (nLv s (p) (i)))]) (M' := (I, J, Rx R, N, G)) rfl ?_
          refine XP_iald hS rfl rfl (show k < 6 by omega) rfl (by omega) rfl ?_
          obtain ⟨hq28, hr28⟩ := hW.sh (show k < cS s by omega)
          rw [hq28]
          refine XP_n 4 (pc' := 106) (ls' := [.ref (99), .int (nI (r)), .int (nI (vn)), .int (nI (what)), .long (lN (lot2)), xj, .int (nI (p)), .int (nI (c)), .long (lN (t)), xj, .int (nI (i)), .long (lN (z)), xj, .int (nI (k)), .int (nI (nLv s (p) (i)))]) (st' := [.int (nI (i)), .ref (127), .int ((nI (nLv s (p) (i))) + (nI (rHt s k)))]) (M' := (I, J, Rx R, N, G)) rfl ?_
          rw [show (nI (nLv s (p) (i))) + (nI (rHt s k)) = nI (nLv s (p) (i) + rHt s k) from nI_addE (rfl) (rfl)]
          refine XP_iraw rfl rfl (show i < 17 by omega) rfl (by omega) ?_
          rw [show I 127 i = nI (w) from hr1]
          refine XP_icN (x := nLv s (p) (i) + rHt s k) (y := w) rfl (by omega) (by omega) (fun (b107 : nLv s (p) (i) + rHt s k ≤ w) => absurd b107 (by omega)) (fun (b107 : w < nLv s (p) (i) + rHt s k) => ?_)
          refine XP_n 5 (pc' := 113) (ls' := [.ref (99), .int (nI (r)), .int (nI (vn)), .int (nI (what)), .long (lN (lot2)), xj, .int (nI (p)), .int (nI (c)), .long (lN (t)), xj, .int (nI (i)), .long (lN (z)), xj, .int (nI (k)), .int (nI (nLv s (p) (i)))]) (st' := [.int (nI (k)), .ref (105), .int (nI (nLv s (p) (i))), .ref (99)]) (M' := (I, J, Rx R, N, G)) rfl ?_
          refine XP_iald hS rfl rfl (show k < 6 by omega) rfl (by omega) rfl ?_
          obtain ⟨hq29, hr29⟩ := hW.sh (show k < cS s by omega)
          rw [hq29]
          refine XP_n 4 (pc' := 118) (ls' := [.ref (99), .int (nI (r)), .int (nI (vn)), .int (nI (what)), .long (lN (lot2)), xj, .int (nI (p)), .int (nI (c)), .long (lN (t)), xj, .int (nI (i)), .long (lN (z)), xj, .int (nI (k)), .int (nI (nLv s (p) (i)))]) (st' := [.int (nI (i)), .ref (127), .int ((nI (nLv s (p) (i))) + (nI (rHt s k))), .ref (99)]) (M' := (I, J, Rx R, N, G)) rfl ?_
          rw [show (nI (nLv s (p) (i))) + (nI (rHt s k)) = nI (nLv s (p) (i) + rHt s k) from nI_addE (rfl) (rfl)]
          refine XP_iraw rfl rfl (show i < 17 by omega) rfl (by omega) ?_
          rw [show I 127 i = nI (w) from hr1]
          refine XP_n 4 (pc' := 123) (ls' := [.ref (99), .int (nI (r)), .int (nI (vn)), .int (nI (what)), .long (lN (lot2)), xj, .int (nI (p)), .int (nI (c)), .long (lN (t)), xj, .int (nI (i)), .long (lN (z)), xj, .int (nI (k)), .int (nI (nLv s (p) (i)))]) (st' := [.int (nI (i)), .ref (129), .int ((nI (nLv s (p) (i) + rHt s k)) - (nI (w))), .ref (99)]) (M' := (I, J, Rx R, N, G)) rfl ?_
          rw [show (nI (nLv s (p) (i) + rHt s k)) - (nI (w)) = nI (nLv s (p) (i) + rHt s k - w) from nI_subE (rfl) (rfl) (by omega)]
          refine XP_iraw rfl rfl (show i < 17 by omega) rfl (by omega) ?_
          rw [show I 129 i = rc from hr2]
          refine XP_n 3 (pc' := 127) (ls' := [.ref (99), .int (nI (r)), .int (nI (vn)), .int (nI (what)), .long (lN (lot2)), xj, .int (nI (p)), .int (nI (c)), .long (lN (t)), xj, .int (nI (i)), .long (lN (z)), xj, .int (nI (k)), .int (nI (nLv s (p) (i)))]) (st' := [.int (nI (i)), .ref (127), .int (rc), .int (nI (nLv s (p) (i) + rHt s k - w)), .ref (99)]) (M' := (I, J, Rx R, N, G)) rfl ?_
          refine XP_iraw rfl rfl (show i < 17 by omega) rfl (by omega) ?_
          rw [show I 127 i = nI (w) from hr1]
          refine XP_n 3 (pc' := 131) (ls' := [.ref (99), .int (nI (r)), .int (nI (vn)), .int (nI (what)), .long (lN (lot2)), xj, .int (nI (p)), .int (nI (c)), .long (lN (t)), xj, .int (nI (i)), .long (lN (z)), xj, .int (nI (k)), .int (nI (nLv s (p) (i)))]) (st' := [.int (nI (0)), .int (nI (i)), .int (nI (nLv s (p) (i))), .int (nI (w)), .int (rc), .int (nI (nLv s (p) (i) + rHt s k - w)), .ref (99)]) (M' := (I, J, Rx R, N, G)) rfl ?_
          refine XP_call rfl rfl (t_M_names X _ _ _ _ _ _ _) ?_
          rintro v1_ M1_ ⟨rfl, I1_, rfl, hO1_, hV1_⟩
          have hS1_ : St s I1_ := St_only hS hO1_ (by decide +kernel)
          refine XP_n 1 (pc' := 133) (ls' := [.ref (99), .int (nI (r)), .int (nI (vn)), .int (nI (what)), .long (lN (lot2)), xj, .int (nI (p)), .int (nI (c) + nI (1)), .long (lN (t)), xj, .int (nI (i)), .long (lN (z)), xj, .int (nI (k)), .int (nI (nLv s (p) (i)))]) (st' := []) (M' := (I1_, J, Rx R, N, G)) rfl ?_
          rw [show nI (c) + nI (1) = nI (c + 1) from nI_addE (rfl) rfl]
          refine XP_n 5 (pc' := 138) (ls' := [.ref (99), .int (nI (r)), .int (nI (vn)), .int (nI (what)), .long (lN (lot2)), xj, .int (nI (p)), .int (nI (c + 1)), .long (lN (t)), xj, .int (nI (i)), .long (lN (z)), xj, .int (nI (k)), .int (nI (nLv s (p) (i)))]) (st' := [.int (nI (9999)), .int (nI (0)), .int (nI (0)), .ref (99), .long (lN (t))]) (M' := (I1_, J, Rx R, N, G)) rfl ?_
          refine XP_call rfl rfl (t_M_worth X _ (part := 0) (k0 := 0) (m := tK1 s (cLw s)) hS1_ (nI 0) (nI 9999) hW.lw.1 t6 (by omega) e0 (by rw [Nat.zero_add]; exact e1) (by omega) (fun j hj => hq j (by omega)) hW1 hV1_) ?_
          rintro v2_ M2_ ⟨rfl, I2_, rfl, hO2_⟩
          have hOO : Only [125, 126] I I2_ := (hO1_.sub (by simp)).tr (hO2_.sub (by simp))
          have hI2_ : Inv s R N I2_ J := hI.m (hOO.sub (by simp)) OnlyJ.rf
          rw [show bnd (nI 0) (nI 9999) (sW (nmV _ _ _ _ _ (nI 0)) (tQ s (cLw s)) 0 (tK1 s (cLw s))) = nI hv from hdt1]
          refine XP_n 3 (pc' := 142) (ls' := [.ref (99), .int (nI (r)), .int (nI (vn)), .int (nI (what)), .long (lN (lot2)), xj, .int (nI (p)), .int (nI (c + 1)), .long ((lN (t)) + ((nI (hv)).toInt64)), xj, .int (nI (i)), .long (lN (z)), xj, .int (nI (k)), .int (nI (nLv s (p) (i)))]) (st' := []) (M' := (I2_, J, Rx R, N, G)) rfl ?_
          rw [show (lN (t)) + ((nI (hv)).toInt64) = lN (t + hv) from lN_addE (rfl) (nI_lE (rfl) (by omega))]
          refine XP_n 1 (pc' := 143) (ls' := [.ref (99), .int (nI (r)), .int (nI (vn)), .int (nI (what)), .long (lN (lot2)), xj, .int (nI (p)), .int (nI (c + 1)), .long (lN (t + hv)), xj, .int (nI (i) + nI (1)), .long (lN (z)), xj, .int (nI (k)), .int (nI (nLv s (p) (i)))]) (st' := []) (M' := (I2_, J, Rx R, N, G)) rfl ?_
          rw [show nI (i) + nI (1) = nI (i + 1) from nI_addE (rfl) rfl]
          refine XP_n 1 (pc' := 45) (ls' := [.ref (99), .int (nI (r)), .int (nI (vn)), .int (nI (what)), .long (lN (lot2)), xj, .int (nI (p)), .int (nI (c + 1)), .long (lN (t + hv)), xj, .int (nI (i + 1)), .long (lN (z)), xj, .int (nI (k)), .int (nI (nLv s (p) (i)))]) (st' := []) (M' := (I2_, J, Rx R, N, G)) rfl ?_
          exact ih (i + 1) _ _ _ _ _ _ _ _ (by omega) (by omega) hl2 hI2_ (gRows_m hrw hOO)
        · rw [if_neg (show ¬ dHit s r p i k = true by rw [ehit, decide_eq_false hw]; simp)]
          refine XP_n 2 (pc' := 47) (ls' := [.ref (99), .int (nI (r)), .int (nI (vn)), .int (nI (what)), .long (lN (lot)), xj, .int (nI (p)), .int (nI (c)), .long (lN (t)), xj, .int (nI (i)), a1, xj, a2, a3]) (st' := [.ref (99), .int (nI (i))]) (M' := (I, J, Rx R, N, G)) rfl ?_
          refine XP_geti hS rfl rfl rfl ?_
          rw [hW.y.1]
          refine XP_icN (x := i) (y := cY s) rfl (by omega) (by omega) (fun (b48 : cY s ≤ i) => absurd b48 (by omega)) (fun (b48 : i < cY s) => ?_)
          refine XP_n 4 (pc' := 53) (ls' := [.ref (99), .int (nI (r)), .int (nI (vn)), .int (nI (what)), .long (lN (lot)), xj, .int (nI (p)), .int (nI (c)), .long (lN (t)), xj, .int (nI (i)), a1, xj, a2, a3]) (st' := [.long (lN (2147483647)), .long ((lN (lot)) * (lN (48271)))]) (M' := (I, J, Rx R, N, G)) rfl ?_
          rw [show (lN (lot)) * (lN (48271)) = lN ((lot) * (48271)) from lN_mulE (rfl) (rfl)]
          refine XP_lremN (a := (lot) * (48271)) (b := 2147483647) rfl (by omega) (by omega) (by omega) ?_
          rw [show lN (((lot) * (48271)) % (2147483647)) = lN (lot2) from congrArg lN el2.symm]
          refine XP_n 3 (pc' := 57) (ls' := [.ref (99), .int (nI (r)), .int (nI (vn)), .int (nI (what)), .long (lN (lot2)), xj, .int (nI (p)), .int (nI (c)), .long (lN (t)), xj, .int (nI (i)), a1, xj, a2, a3]) (st' := [.long (lN (1000)), .long (lN (lot2))]) (M' := (I, J, Rx R, N, G)) rfl ?_
          refine XP_lremN (a := lot2) (b := 1000) rfl (by omega) (by omega) (by omega) ?_
          rw [show lN ((lot2) % (1000)) = lN (x) from congrArg lN ex.symm]
          refine XP_n 3 (pc' := 61) (ls' := [.ref (99), .int (nI (r)), .int (nI (vn)), .int (nI (what)), .long (lN (lot2)), xj, .int (nI (p)), .int (nI (c)), .long (lN (t)), xj, .int (nI (i)), .long (lN (x)), xj, .int (nI (0)), a3]) (st' := []) (M' := (I, J, Rx R, N, G)) rfl ?_
          refine l_M_sb hS hW hx ?_ (cS s) 0 (by omega) (Nat.zero_le _) ek
          intro z
          refine XP_n 3 (pc' := 86) (ls' := [.ref (99), .int (nI (r)), .int (nI (vn)), .int (nI (what)), .long (lN (lot2)), xj, .int (nI (p)), .int (nI (c)), .long (lN (t)), xj, .int (nI (i)), .long (lN (z)), xj, .int (nI (k)), a3]) (st' := [.int (nI (i)), .int (nI (p)), .ref (99)]) (M' := (I, J, Rx R, N, G)) rfl ?_
          refine XP_pure rfl rfl (m_lv hS hW (show p < cP s by omega) (by omega)) ?_
          have hlv30 := (nLv_ok hW (show p < cP s by omega) (show i ≤ 15 by omega)).2
          refine XP_n 3 (pc' := 90) (ls' := [.ref (99), .int (nI (r)), .int (nI (vn)), .int (nI (what)), .long (lN (lot2)), xj, .int (nI (p)), .int (nI (c)), .long (lN (t)), xj, .int (nI (i)), .long (lN (z)), xj, .int (nI (k)), .int (nI (nLv s (p) (i)))]) (st' := [.ref (99), .int (nI (k))]) (M' := (I, J, Rx R, N, G)) rfl ?_
          refine XP_geti hS rfl rfl rfl ?_
          rw [hW.ns.1]
          refine XP_icN (x := k) (y := cS s) rfl (by omega) (by omega) (fun (b91 : cS s ≤ k) => absurd b91 (by omega)) (fun (b91 : k < cS s) => ?_)
          refine XP_n 3 (pc' := 95) (ls' := [.ref (99), .int (nI (r)), .int (nI (vn)), .int (nI (what)), .long (lN (lot2)), xj, .int (nI (p)), .int (nI (c)), .long (lN (t)), xj, .int (nI (i)), .long (lN (z)), xj, .int (nI (k)), .int (nI (nLv s (p) (i)))]) (st' := [.int (nI (i)), .ref (130)]) (M' := (I, J, Rx R, N, G)) rfl ?_
          refine XP_braw rfl rfl (show i < 17 by omega) rfl (by omega) ?_
          rw [show I 130 i = nI (0) from hr3]
          refine XP_ifN (x := 0)  rfl (by omega) (fun (b96 : ¬ 0 = 0) => absurd b96 (by omega)) (fun (b96 : 0 = 0) => ?_)
          refine XP_n 4 (pc' := 101) (ls' := [.ref (99), .int (nI (r)), .int (nI (vn)), .int (nI (what)), .long (lN (lot2)), xj, .int (nI (p)), .int (nI (c)), .long (lN (t)), xj, .int (nI (i)), .long (lN (z)), xj, .int (nI (k)), .int (nI (nLv s (p) (i)))]) (st' := [.int (nI (k)), .ref (105), .int (nI (nLv s (p) (i)))]) (M' := (I, J, Rx R, N, G)) rfl ?_
          refine XP_iald hS rfl rfl (show k < 6 by omega) rfl (by omega) rfl ?_
          obtain ⟨hq31, hr31⟩ := hW.sh (show k < cS s by omega)
          rw [hq31]
          refine XP_n 4 (pc' := 106) (ls' := [.ref (99), .int (nI (r)), .int (nI (vn)), .int (nI (what)), .long (lN (lot2)), xj, .int (nI (p)), .int (nI (c)), .long (lN (t)), xj, .int (nI (i)), .long (lN (z)), xj, .int (nI (k)), .int (nI (nLv s (p) (i)))]) (st' := [.int (nI (i)), .ref (127), .int ((nI (nLv s (p) (i))) + (nI (rHt s k)))]) (M' := (I, J, Rx R, N, G)) rfl ?_
          rw [show (nI (nLv s (p) (i))) + (nI (rHt s k)) = nI (nLv s (p) (i) + rHt s k) from nI_addE (rfl) (rfl)]
          refine XP_iraw rfl rfl (show i < 17 by omega) rfl (by omega) ?_
          rw [show I 127 i = nI (w) from hr1]
          refine XP_icN (x := nLv s (p) (i) + rHt s k) (y := w) rfl (by omega) (by omega) (fun (b107 : nLv s (p) (i) + rHt s k ≤ w) => ?_) (fun (b107 : w < nLv s (p) (i) + rHt s k) => absurd b107 (by omega))
          refine XP_n 1 (pc' := 143) (ls' := [.ref (99), .int (nI (r)), .int (nI (vn)), .int (nI (what)), .long (lN (lot2)), xj, .int (nI (p)), .int (nI (c)), .long (lN (t)), xj, .int (nI (i) + nI (1)), .long (lN (z)), xj, .int (nI (k)), .int (nI (nLv s (p) (i)))]) (st' := []) (M' := (I, J, Rx R, N, G)) rfl ?_
          rw [show nI (i) + nI (1) = nI (i + 1) from nI_addE (rfl) rfl]
          refine XP_n 1 (pc' := 45) (ls' := [.ref (99), .int (nI (r)), .int (nI (vn)), .int (nI (what)), .long (lN (lot2)), xj, .int (nI (p)), .int (nI (c)), .long (lN (t)), xj, .int (nI (i + 1)), .long (lN (z)), xj, .int (nI (k)), .int (nI (nLv s (p) (i)))]) (st' := []) (M' := (I, J, Rx R, N, G)) rfl ?_
          exact ih (i + 1) _ _ _ _ _ _ _ _ (by omega) (by omega) hl2 hI hrw
end
