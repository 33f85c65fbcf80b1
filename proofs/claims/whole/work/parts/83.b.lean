/-! face: broadWorth -/
theorem gd_big {α : Type} (d : α) : ∀ (l : List α) (j : Nat), l.length ≤ j → l.getD j d = d
  | [], _, _ => rfl
  | _ :: l, 0, h => absurd h (by simp)
  | _ :: l, j + 1, h => gd_big d l j (Nat.le_of_succ_le_succ h)
theorem gd_mem {α : Type} (d : α) : ∀ (l : List α) (j : Nat), j < l.length → l.getD j d ∈ l
  | [], _, h => absurd h (by simp)
  | a :: l, 0, _ => by simp
  | a :: l, j + 1, h => List.mem_cons_of_mem _ (gd_mem d l j (Nat.lt_of_succ_lt_succ h))
def b3ok (e : (List (Option (Nat × Nat))) ⊕ (List Nat)) (k : Nat) : Bool := match e with
  | .inl l => Nat.beq k 99 || l.all (fun q => decide (q ≠ some (99, 3)))
  | .inr [] => true
  | .inr [a] => !(Nat.beq a 99)
  | .inr [_, _] => true
  | .inr (a :: o :: _ :: _) => !(Nat.beq a 99) || Nat.blt 3 o
theorem b3tab : ∀ c, c < 9 → ∀ r, r < 16 → b3ok ((mpL.getD c []).getD r (.inr [])) (16 * c + r) = true := by decide +kernel
theorem mp_b3 {k j : Nat} (h : mp k j = some (99, 3)) : k = 99 := by
  unfold mp at h
  by_cases h1 : k < 1000
  · rw [blt_t h1, cond_true] at h
    by_cases h2 : k / 16 < 9
    · have t := b3tab (k / 16) h2 (k % 16) (Nat.mod_lt _ (by omega))
      rw [show 16 * (k / 16) + k % 16 = k by omega] at t
      revert h t
      generalize (mpL.getD (k / 16) []).getD (k % 16) (.inr []) = e
      intro h t
      match e, h, t with
      | .inl l, h, t =>
        have t : (Nat.beq k 99 || l.all (fun q => decide (q ≠ some (99, 3)))) = true := t
        rcases (Bool.or_eq_true _ _).mp t with t | t
        · exact Nat.eq_of_beq_eq_true t
        · exfalso
          have h : l.getD j none = some (99, 3) := h
          by_cases hj : j < l.length
          · have h3 := List.all_eq_true.mp t _ (gd_mem none l j hj)
            rw [h] at h3
            simp at h3
          · rw [gd_big _ _ _ (by omega)] at h
            cases h
      | .inr [], h, t => cases h
      | .inr [a], h, t =>
        cases h
        cases t
      | .inr [_, _], h, t => cases h
      | .inr (a :: o :: n :: _), h, t =>
        exfalso
        have h : (bif Nat.blt j n then some (a, o + j) else none) = some (99, 3) := h
        cases hb : Nat.blt j n with
        | false => rw [hb] at h; cases h
        | true =>
        rw [hb, cond_true] at h
        have t : (!(Nat.beq a 99) || Nat.blt 3 o) = true := t
        injection h with h
        injection h with h3 h4
        subst h3
        rcases (Bool.or_eq_true _ _).mp t with t | t
        · cases t
        · have := Nat.le_of_ble_eq_true t
          omega
    · rw [gd_big _ mpL _ (by have : mpL.length = 9 := rfl; omega)] at h
      cases h
  · exfalso
    rw [blt_f (by omega), cond_false] at h
    by_cases h2 : k < 3000
    · rw [blt_t h2, cond_true] at h
      cases hb : Nat.beq (k % 2) 0 with
      | true =>
        rw [hb, cond_true] at h
        match j, h with
        | 0, h => injection h with h; injection h with h3 h4; omega
        | 1, h => injection h with h; injection h with h3 h4; omega
        | 2, h => injection h with h; injection h with h3 h4; omega
        | 3, h => injection h with h; injection h with h3 h4; omega
        | _ + 4, h => cases h
      | false =>
        rw [hb, cond_false] at h
        cases hb2 : Nat.blt j 16 with
        | false => rw [hb2] at h; cases h
        | true =>
          rw [hb2, cond_true] at h
          injection h with h
          injection h with h3 h4
          omega
    · rw [blt_f (by omega), cond_false] at h
      by_cases h4 : k < 8000
      · rw [blt_t h4, cond_true] at h
        revert h
        generalize k % 4 = r
        intro h
        match r, h with
        | 0, h => injection h with h; injection h with h3 h4; omega
        | 1, h => injection h with h; injection h with h3 h4; omega
        | _ + 2, h => cases h
      · rw [blt_f (by omega), cond_false] at h
        cases h
theorem mp99 {j a b : Nat} (h : mp 99 j = some (a, b)) : a = 99 ∧ b = j := by
  by_cases hj : j < 64
  · rcases (by decide +kernel : ∀ j, j < 64 → mp 99 j = none ∨ mp 99 j = some (99, j)) j hj with e | e
    · rw [e] at h
      cases h
    · rw [e] at h
      injection h with h
      injection h with h3 h4
      exact ⟨h3.symm, h4.symm⟩
  · obtain ⟨l, e, hl⟩ : ∃ l : List (Option (Nat × Nat)), (mpL.getD 6 []).getD 3 (.inr []) = .inl l ∧ l.length ≤ 64 := ⟨_, rfl, by decide +kernel⟩
    have e2 : mp 99 j = l.getD j none := by
      unfold mp
      rw [blt_t (by omega), cond_true]
      rw [show (mpL.getD (99 / 16) []).getD (99 % 16) (.inr []) = .inl l from e]
    rw [e2, gd_big _ _ _ (by omega)] at h
    cases h
theorem rw2_99 {f : Nat → Nat → Int32} {x : Int32} : rw2 f 99 3 x 99 3 = x := rfl
theorem St_b {s I : Nat → Nat → Int32} (x : Int32) (h : St s I) : St (rw2 s 99 3 x) (rw2 I 99 3 x) := fun k j a b hk => by
  by_cases e : k = 99
  · subst e
    obtain ⟨rfl, rfl⟩ := mp99 hk
    by_cases e2 : b = 3
    · subst e2
      rfl
    · have h1 := h _ _ _ _ hk
      show (if (99 : Nat) = 99 then (if b = 3 then x else I 99 b) else I 99 b) = (if (99 : Nat) = 99 then (if b = 3 then x else s 99 b) else s 99 b)
      rw [if_pos rfl, if_pos rfl, if_neg e2, if_neg e2]
      exact h1
  · have h1 := h _ _ _ _ hk
    have e3 : ¬ (a = 99 ∧ b = 3) := fun z => e (mp_b3 (by rw [hk, z.1, z.2]))
    show (if k = 99 then (if j = 3 then x else I k j) else I k j) = (if a = 99 then (if b = 3 then x else s a b) else s a b)
    rw [if_neg e, h1]
    by_cases e4 : a = 99
    · rw [if_pos e4, if_neg (fun z => e3 ⟨e4, z⟩)]
    · rw [if_neg e4]
theorem rw2_rw2 (f : Nat → Nat → Int32) (x y : Int32) : rw2 (rw2 f 99 3 x) 99 3 y = rw2 f 99 3 y := by
  funext a b
  unfold rw2
  by_cases h1 : a = 99
  · rw [if_pos h1, if_pos h1]
    by_cases h2 : b = 3
    · simp [h1, h2]
    · simp [h1, h2]
  · rw [if_neg h1, if_neg h1, if_neg h1]
theorem rw2_id (f : Nat → Nat → Int32) : rw2 f 99 3 (f 99 3) = f := by
  funext a b
  unfold rw2
  by_cases h1 : a = 99
  · subst h1
    rw [if_pos rfl]
    by_cases h2 : b = 3
    · subst h2
      rw [if_pos rfl]
    · rw [if_neg h2]
  · rw [if_neg h1]
theorem Wf_b {s : Nat → Nat → Int32} (h : Wf s) {x : Int32} (hx : iN 0 1 x) : Wf (rw2 s 99 3 x) :=
  ⟨⟨⟨h.1.1.1, h.1.1.2.1, h.1.1.2.2.1, hx⟩, h.1.2⟩, h.2⟩
theorem sHarm_b (s : Nat → Nat → Int32) (x : Int32) (q : Nat → Nat) (k1 : Nat) (l h y r : Int32) : ∀ n, sHarm (rw2 s 99 3 x) q k1 l h y r n = sHarm s q k1 l h y r n
  | 0 => rfl
  | n + 1 => by
    have ih := sHarm_b s x q k1 l h y r n
    have e : sHarm (rw2 s 99 3 x) q k1 l h y r (n + 1) = (if h < l + s 105 n then sHarm (rw2 s 99 3 x) q k1 l h y r n + (s 106 n).toInt64 * (hTerm q k1 (l + s 105 n - h) r h l y).toInt64 else sHarm (rw2 s 99 3 x) q k1 l h y r n) := rfl
    rw [e, ih]
    rfl
theorem gHarm_b (s : Nat → Nat → Int32) (x l h y r : Int32) : gHarm (rw2 s 99 3 x) l h y r = gHarm s l h y r := sHarm_b s x (tQ s (cLw s)) (tK1 s (cLw s)) l h y r (cS s)
theorem nHarm_b (s : Nat → Nat → Int32) (x : Int32) (l h y : Nat) (r : Int32) : nHarm (rw2 s 99 3 x) l h y r = nHarm s l h y r := by
  unfold nHarm
  rw [gHarm_b]
theorem gB_b (s : Nat → Nat → Int32) (x : Int32) : ∀ y, gB (rw2 s 99 3 x) y = gB s y
  | 0 => rfl
  | y + 1 => by
    have e : gB (rw2 s 99 3 x) (y + 1) = gGrow s (gB (rw2 s 99 3 x) y) (nI y) := rfl
    rw [e, gB_b s x y]
    rfl
theorem hY_b (s : Nat → Nat → Int32) (x : Int32) (q y d : Nat) : hY (rw2 s 99 3 x) q y d = hY s q y d := by
  have e : hY (rw2 s 99 3 x) q y d = (if q = 0 then sumN (fun o => rWt s o * nHarm (rw2 s 99 3 x) (nLv s o y) (cW s + d) y (gB (rw2 s 99 3 x) y)) (cP s) else nHarm (rw2 s 99 3 x) (nLv s (q - 1) y) (cW s + d) y (gB (rw2 s 99 3 x) y)) := rfl
  rw [e]
  simp only [nHarm_b, gB_b]
  rfl
theorem pY_b (s : Nat → Nat → Int32) (x : Int32) (q : Nat) (br : Int32) (y d up : Nat) : pY (rw2 s 99 3 x) q br y d up = pY s q br y d up := by
  have e : pY (rw2 s 99 3 x) q br y d up = pSc s q * nCost s br up (cW s + d) y (gB (rw2 s 99 3 x) y) + hY (rw2 s 99 3 x) q y (d + up) := rfl
  rw [e, gB_b, hY_b]
  rfl
theorem pL_b3 (s : Nat → Nat → Int32) (x : Int32) (q : Nat) (br : Int32) (no : Nat) : ∀ k d, pL (rw2 s 99 3 x) q br no k d = pL s q br no k d
  | 0, _ => rfl
  | k + 1, d => by
    have e : pL (rw2 s 99 3 x) q br no (k + 1) d = minV (fun up => pY (rw2 s 99 3 x) q br (cY s - (k + 1)) d up + pL (rw2 s 99 3 x) q br no k (d + up)) (mst s no (cY s - (k + 1)) d) := rfl
    have ih := pL_b3 s x q br no k
    rw [e]
    simp only [pY_b, ih]
    rfl
theorem pBest_b (s : Nat → Nat → Int32) (x : Int32) (q : Nat) (br : Int32) (no : Nat) : pBest (rw2 s 99 3 x) q br no = pBest s q br no := pL_b3 s x q br no (cY s) 0
section
variable {X : hX} {d : Nat} {s I : Nat → Nat → Int32} {J : Nat → Nat → Int64} {R : Nat → Nat → Option Nat} {N : Nat → Nat} {G : hG}
theorem m_bestX (x : Int32) (hS : St (rw2 s 99 3 x) I) (hW : Wf s) (hx : iN 0 1 x) : TP X (d + 4) n_M_bestOf [.ref 99, .int (cI (-1)), .int (nI 0)] (I, J, Rx R, N, G) (fun v M' => v = some (.long (lN (pBest s 0 x 0))) ∧ ∃ I' J', M' = (I', J', Rx R, N, G) ∧ Only [125, 126, 132] I I' ∧ OnlyJ [131] J J' ∧ St (rw2 s 99 3 x) I') := by
  have h := m_best (X := X) (d := d) (J := J) (R := R) (N := N) (G := G) hS (Wf_b hW hx) (q := 0) (no := 0) (Nat.zero_le _) (by omega)
  rw [qP_z, pBest_b, rw2_99] at h
  exact TP_mono h (fun v M' ⟨a, I', J', b, c, e, _⟩ => ⟨a, I', J', b, c, e, St_only hS c (by decide +kernel)⟩)
end
