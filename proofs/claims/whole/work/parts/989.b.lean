/-! the tape, read into tokens -/
def sc (P : Nat → Bool) (b : Nat → Nat) (L : Nat) : Nat → Nat → Nat
  | 0, i => i
  | n + 1, i => bif Nat.blt i L && P (b i) then sc P b L n (i + 1) else i
def scn (P : Nat → Bool) (b : Nat → Nat) (L i : Nat) : Nat := sc P b L (L - i) i
section
variable {P : Nat → Bool} {b : Nat → Nat} {L : Nat}
theorem scn_t {i : Nat} (h : i < L) (hp : P (b i) = true) : scn P b L i = scn P b L (i + 1) := by
  unfold scn
  rw [show L - i = (L - (i + 1)) + 1 by omega]
  show (bif Nat.blt i L && P (b i) then sc P b L (L - (i + 1)) (i + 1) else i) = _
  rw [blt_t h, hp]
  rfl
theorem scn_f {i : Nat} (h : ¬ (i < L ∧ P (b i) = true)) : scn P b L i = i := by
  unfold scn
  rcases Nat.lt_or_ge i L with g | g
  · rw [show L - i = (L - (i + 1)) + 1 by omega]
    show (bif Nat.blt i L && P (b i) then sc P b L (L - (i + 1)) (i + 1) else i) = _
    have : P (b i) = false := Bool.eq_false_iff.mpr (fun z => h ⟨g, z⟩)
    rw [blt_t g, this]
    rfl
  · rw [show L - i = 0 by omega]
    rfl
theorem scn_ok : ∀ (n i : Nat), L - i = n → i ≤ scn P b L i ∧ (i ≤ L → scn P b L i ≤ L) ∧ (∀ j, i ≤ j → j < scn P b L i → P (b j) = true) ∧ (scn P b L i < L → P (b (scn P b L i)) = false)
  | 0, i, h => by
    rw [scn_f (by omega)]
    exact ⟨Nat.le_refl _, fun h => h, fun j h1 h2 => by omega, fun h => by omega⟩
  | n + 1, i, h => by
    by_cases g : P (b i) = true
    · rw [scn_t (by omega) g]
      obtain ⟨h1, h2, h3, h4⟩ := scn_ok n (i + 1) (by omega)
      refine ⟨by omega, fun _ => h2 (by omega), fun j q1 q2 => ?_, h4⟩
      by_cases e : j = i
      · rw [e]; exact g
      · exact h3 j (by omega) q2
    · rw [scn_f (fun z => g z.2)]
      exact ⟨Nat.le_refl _, fun h => h, fun j h1 h2 => by omega, fun _ => Bool.eq_false_iff.mpr g⟩
theorem scn_le (i : Nat) : i ≤ scn P b L i := (scn_ok _ i rfl).1
theorem scn_L {i : Nat} (h : i ≤ L) : scn P b L i ≤ L := (scn_ok _ i rfl).2.1 h
theorem scn_lt {i : Nat} (h : i < L) (hp : P (b i) = true) : i < scn P b L i := by
  rw [scn_t h hp]
  exact scn_le (i + 1)
end
def isBl (c : Nat) : Bool := Nat.beq c 32 || Nat.beq c 10
def isLt (c : Nat) : Bool := Nat.ble 97 c && Nat.ble c 122
def isDg (c : Nat) : Bool := Nat.ble 48 c && Nat.ble c 57
def isSg (c : Nat) : Bool := Nat.beq c 40 || Nat.beq c 41 || Nat.beq c 59 || Nat.beq c 43 || Nat.beq c 45 || Nat.beq c 42 || Nat.beq c 60 || Nat.beq c 61
/-- the words, as the model counts them -/
def wl : List (List Nat) := [[104, 97, 114, 109], [99, 111, 115, 116], [103, 114, 111, 119], [111, 118, 101, 114], [98, 101, 104, 105, 110, 100], [119, 97, 108, 108], [108, 101, 118, 101, 108], [121, 101, 97, 114], [117, 112], [111, 114], [97, 110, 100], [110, 111, 116]]
def wA (k : Nat) : List Nat := wl.getD k []
def mW (b : Nat → Nat) (q e k : Nat) : Prop := e - q = (wA k).length ∧ ∀ j, j < (wA k).length → b (q + j) = (wA k).getD j 0
theorem wA_ne : ∀ k, k < 12 → ∀ k', k' < 12 → k ≠ k' → (wA k).length = (wA k').length → ∃ j, j < (wA k).length ∧ (wA k).getD j 0 ≠ (wA k').getD j 0 := by
  have h : ∀ k, k < 12 → ∀ k', k' < 12 → (decide (k = k') || !decide ((wA k).length = (wA k').length) || (List.range (wA k).length).any (fun j => !decide ((wA k).getD j 0 = (wA k').getD j 0))) = true := by decide +kernel
  intro k hk k' hk' hne hl
  have t := h k hk k' hk'
  rw [Bool.or_eq_true, Bool.or_eq_true] at t
  rcases t with (t | t) | t
  · exact absurd (of_decide_eq_true t) hne
  · rw [decide_eq_true hl] at t
    cases t
  · obtain ⟨j, h1, h2⟩ := List.any_eq_true.mp t
    refine ⟨j, List.mem_range.mp h1, fun z => ?_⟩
    rw [decide_eq_true z] at h2
    cases h2
theorem mW_un {b : Nat → Nat} {q e k k' : Nat} (h1 : k < 12) (h2 : k' < 12) (m1 : mW b q e k) (m2 : mW b q e k') : k = k' := by
  by_cases e : k = k'
  · exact e
  · obtain ⟨j, h3, h4⟩ := wA_ne k h1 k' h2 e (m1.1.symm.trans m2.1)
    exact absurd ((m1.2 j h3).symm.trans (m2.2 j (by rw [← m2.1, m1.1]; exact h3))) h4
/-- the first word from k on that stands there -/
noncomputable def fW (b : Nat → Nat) (q e : Nat) : Nat → Nat → Nat
  | 0, k => k
  | n + 1, k => @ite _ (mW b q e k) (Classical.propDecidable _) k (fW b q e n (k + 1))
noncomputable def wk (b : Nat → Nat) (q e : Nat) : Nat := fW b q e 12 0
theorem fW_ok {b : Nat → Nat} {q e : Nat} : ∀ (n k : Nat), k + n = 12 → (fW b q e n k < 12 → mW b q e (fW b q e n k)) ∧ k ≤ fW b q e n k ∧ fW b q e n k ≤ 12 ∧ ∀ j, k ≤ j → j < fW b q e n k → ¬ mW b q e j
  | 0, k, h => ⟨fun z => by have : fW b q e 0 k = k := rfl; omega, Nat.le_refl _, by show k ≤ 12; omega, fun j h1 h2 => by have : fW b q e 0 k = k := rfl; omega⟩
  | n + 1, k, h => by
    by_cases g : mW b q e k
    · have e1 : fW b q e (n + 1) k = k := if_pos g
      rw [e1]
      exact ⟨fun _ => g, Nat.le_refl _, by omega, fun j h1 h2 => by omega⟩
    · have e1 : fW b q e (n + 1) k = fW b q e n (k + 1) := if_neg g
      obtain ⟨a, c, d, f⟩ := fW_ok (b := b) (q := q) (e := e) n (k + 1) (by omega)
      rw [e1]
      refine ⟨a, by omega, d, fun j h1 h2 => ?_⟩
      by_cases e2 : j = k
      · rw [e2]; exact g
      · exact f j (by omega) h2
theorem wk_of {b : Nat → Nat} {q e k : Nat} (hk : k < 12) (h : mW b q e k) : wk b q e = k := by
  obtain ⟨a, -, c, d⟩ := fW_ok (b := b) (q := q) (e := e) 12 0 rfl
  rcases Nat.lt_or_ge (wk b q e) 12 with g | g
  · exact mW_un g hk (a g) h
  · exact absurd h (d k (Nat.zero_le _) (Nat.lt_of_lt_of_le hk g))
theorem wk_no {b : Nat → Nat} {q e : Nat} (h : ∀ k, k < 12 → ¬ mW b q e k) : wk b q e = 12 := by
  obtain ⟨a, -, c, d⟩ := fW_ok (b := b) (q := q) (e := e) 12 0 rfl
  rcases Nat.lt_or_ge (wk b q e) 12 with g | g
  · exact absurd (a g) (h _ g)
  · exact Nat.le_antisymm c g
def tw (k : Nat) : Nat := if k < 3 then 1006 + k else if k < 9 then 997 + k else if k < 12 then 1000 + k else 2002
def dv (b : Nat → Nat) (q : Nat) : Nat → Nat
  | 0 => 0
  | n + 1 => dv b q n * 10 + (b (q + n) - 48)
def pl (b : Nat → Nat) (L p : Nat) : Nat := scn isBl b L p
def nx (b : Nat → Nat) (L p : Nat) : Nat := if L ≤ pl b L p then pl b L p else if isLt (b (pl b L p)) = true then scn isLt b L (pl b L p) else if isDg (b (pl b L p)) = true then scn isDg b L (pl b L p) else pl b L p + 1
noncomputable def tk (b : Nat → Nat) (L p : Nat) : Nat := if L ≤ pl b L p then 2001 else if isLt (b (pl b L p)) = true then tw (wk b (pl b L p) (nx b L p)) else if isDg (b (pl b L p)) = true then (if 4 < nx b L p - pl b L p then 2002 else 2000) else if isSg (b (pl b L p)) = true then b (pl b L p) else 2002
def tv (b : Nat → Nat) (L p : Nat) : Nat := dv b (pl b L p) (nx b L p - pl b L p)
section
variable {b : Nat → Nat} {L : Nat}
theorem pl_le (p : Nat) : p ≤ pl b L p := scn_le p
theorem pl_L {p : Nat} (h : p ≤ L) : pl b L p ≤ L := scn_L h
theorem nx_pl (p : Nat) : pl b L p ≤ nx b L p := by
  unfold nx
  split
  · exact Nat.le_refl _
  · split
    · exact scn_le _
    · split
      · exact scn_le _
      · exact Nat.le_succ _
theorem nx_L {p : Nat} (h : p ≤ L) : nx b L p ≤ L := by
  have h1 := pl_L (b := b) h
  unfold nx
  split
  · exact h1
  · split
    · exact scn_L h1
    · split
      · exact scn_L h1
      · omega
theorem nx_lt {p : Nat} (h : ¬ L ≤ pl b L p) : pl b L p < nx b L p := by
  unfold nx
  rw [if_neg h]
  split
  · exact scn_lt (by omega) ‹_›
  · split
    · exact scn_lt (by omega) ‹_›
    · exact Nat.lt_succ_self _
theorem tw_rg : ∀ k, k ≤ 12 → (1000 ≤ tw k ∧ tw k ≤ 1011) ∨ tw k = 2002 := by decide
theorem isSg_c {c : Nat} (h : isSg c = true) : c = 40 ∨ c = 41 ∨ c = 59 ∨ c = 43 ∨ c = 45 ∨ c = 42 ∨ c = 60 ∨ c = 61 := by
  unfold isSg at h
  simp only [Bool.or_eq_true, Nat.beq_eq] at h
  omega
theorem tk_rg (p : Nat) : (tk b L p = 40 ∨ tk b L p = 41 ∨ tk b L p = 59 ∨ tk b L p = 43 ∨ tk b L p = 45 ∨ tk b L p = 42 ∨ tk b L p = 60 ∨ tk b L p = 61) ∨ (1000 ≤ tk b L p ∧ tk b L p ≤ 1011) ∨ tk b L p = 2000 ∨ tk b L p = 2001 ∨ tk b L p = 2002 := by
  unfold tk
  split
  · omega
  · split
    · have h1 := (fW_ok (b := b) (q := pl b L p) (e := nx b L p) 12 0 rfl).2.2.1
      rcases tw_rg (wk b (pl b L p) (nx b L p)) h1 with h | h
      · exact Or.inr (Or.inl h)
      · exact Or.inr (Or.inr (Or.inr (Or.inr h)))
    · split
      · split
        · omega
        · omega
      · split
        · exact Or.inl (isSg_c ‹_›)
        · omega
theorem tk_end (p : Nat) : tk b L p = 2001 ↔ L ≤ pl b L p := by
  constructor
  · intro h
    by_cases g : L ≤ pl b L p
    · exact g
    · exfalso
      unfold tk at h
      rw [if_neg g] at h
      split at h
      · have h1 := (fW_ok (b := b) (q := pl b L p) (e := nx b L p) 12 0 rfl).2.2.1
        rcases tw_rg (wk b (pl b L p) (nx b L p)) h1 with h2 | h2 <;> omega
      · split at h
        · split at h <;> omega
        · split at h
          · have := isSg_c ‹_›
            omega
          · omega
  · intro h
    unfold tk
    rw [if_pos h]
/-- a token moves on -/
theorem tk_nx {p : Nat} (h : tk b L p ≠ 2001) : p < nx b L p ∧ pl b L p < L := by
  have h1 : ¬ L ≤ pl b L p := fun z => h ((tk_end p).mpr z)
  have h2 := nx_lt h1
  have h3 := pl_le (b := b) (L := L) p
  exact ⟨by omega, by omega⟩
theorem tv_lt {p : Nat} (hb : ∀ i, i < L → b i ≤ 255) (hp : p ≤ L) (h : tk b L p = 2000) : tv b L p < 10000 := by
  have key : isDg (b (pl b L p)) = true ∧ ¬ L ≤ pl b L p ∧ isLt (b (pl b L p)) = false ∧ ¬ 4 < nx b L p - pl b L p := by
    unfold tk at h
    split at h
    · omega
    · split at h
      · have h1 := (fW_ok (b := b) (q := pl b L p) (e := nx b L p) 12 0 rfl).2.2.1
        rcases tw_rg (wk b (pl b L p) (nx b L p)) h1 with h2 | h2 <;> omega
      · split at h
        · split at h
          · omega
          · exact ⟨‹_›, ‹_›, Bool.eq_false_iff.mpr ‹_›, ‹_›⟩
        · split at h
          · have := isSg_c ‹_›
            omega
          · omega
  obtain ⟨k1, k2, k3, k4⟩ := key
  have hn : nx b L p = scn isDg b L (pl b L p) := by
    unfold nx
    rw [if_neg k2, if_neg (by rw [k3]; decide), if_pos k1]
  have hd : ∀ j, pl b L p ≤ j → j < nx b L p → b j ≤ 57 := fun j h1 h2 => by
    rw [hn] at h2
    have t := (scn_ok (P := isDg) (b := b) (L := L) _ (pl b L p) rfl).2.2.1 j h1 h2
    unfold isDg at t
    rw [Bool.and_eq_true] at t
    exact Nat.le_of_ble_eq_true t.2
  unfold tv
  generalize hm : nx b L p - pl b L p = m at k4
  have hd2 : ∀ j, j < m → b (pl b L p + j) - 48 ≤ 9 := fun j hj => by
    have := hd (pl b L p + j) (by omega) (by omega)
    omega
  match m, k4, hd2 with
  | 0, _, _ => show 0 < 10000; omega
  | 1, _, hd2 => have a0 := hd2 0 (by omega); simp only [dv]; omega
  | 2, _, hd2 => have a0 := hd2 0 (by omega); have a1 := hd2 1 (by omega); simp only [dv]; omega
  | 3, _, hd2 => have a0 := hd2 0 (by omega); have a1 := hd2 1 (by omega); have a2 := hd2 2 (by omega); simp only [dv]; omega
  | 4, _, hd2 => have a0 := hd2 0 (by omega); have a1 := hd2 1 (by omega); have a2 := hd2 2 (by omega); have a3 := hd2 3 (by omega); simp only [dv]; omega
  | _ + 5, k4, _ => omega
end
