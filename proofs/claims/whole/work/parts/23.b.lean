/-! the law's texts worked off -/
def Only (L : List Nat) (I I' : Nat → Nat → Int32) : Prop := ∀ k, k ∉ L → I' k = I k
theorem Only.rf {L : List Nat} {I : Nat → Nat → Int32} : Only L I I := fun _ _ => rfl
theorem Only.tr {L : List Nat} {I I1 I2 : Nat → Nat → Int32} (h1 : Only L I I1) (h2 : Only L I1 I2) : Only L I I2 := fun k hk => (h2 k hk).trans (h1 k hk)
theorem Only.sub {L L' : List Nat} {I I1 : Nat → Nat → Int32} (h1 : Only L I I1) (h : ∀ k ∈ L, k ∈ L') : Only L' I I1 := fun k hk => h1 k (fun z => hk (h k z))
theorem Only.rw {L : List Nat} {I : Nat → Nat → Int32} {k j : Nat} {x : Int32} (h : k ∈ L) : Only L I (rw2 I k j x) := fun k' hk' => rw2_ne _ _ _ (fun z => hk' (z ▸ h))
/-- rows that hold no state -/
def isScr (k : Nat) : Bool := bif Nat.blt k 1000 then (match (mpL.getD (k / 16) []).getD (k % 16) (.inr []) with
    | .inr [] => true
    | _ => false) else bif Nat.blt k 3000 then false else bif Nat.blt k 8000 then Nat.ble 2 (k % 4) else true
theorem scr_mp {k : Nat} (h : isScr k = true) (j : Nat) : mp k j = none := by
  unfold isScr at h
  unfold mp
  cases h1 : Nat.blt k 1000 with
  | true =>
    rw [h1] at h
    simp only [cond_true] at h ⊢
    split at h
    · rename_i e; rw [e]
    · cases h
  | false =>
    rw [h1] at h
    simp only [cond_false] at h ⊢
    cases h2 : Nat.blt k 3000 with
    | true => rw [h2] at h; cases h
    | false =>
      rw [h2] at h
      simp only [cond_false] at h ⊢
      cases h3 : Nat.blt k 8000 with
      | true =>
        rw [h3] at h
        simp only [cond_true, Nat.ble_eq] at h ⊢
        split
        · omega
        · omega
        · rfl
      | false => rfl
theorem St_only {L : List Nat} {s I I' : Nat → Nat → Int32} (hS : St s I) (h : Only L I I') (hm : ∀ k ∈ L, isScr k = true) : St s I' := fun k j a b hk => by
  have : k ∉ L := fun z => by rw [scr_mp (hm k z) j] at hk; cases hk
  rw [h k this]
  exact hS k j a b hk
def two (c : Nat) (a b : Int32) : Int32 := if c = 11 then b2i (a ≠ 0 ∨ b ≠ 0) else if c = 12 then b2i (a ≠ 0 ∧ b ≠ 0) else if c = 14 then b2i (a < b) else if c = 15 then b2i (a = b) else if c = 16 then a + b else if c = 17 then a - b else a * b
/-- one sign on a stack f of height h -/
def rsF (nm : Nat → Int32) (c : Nat) (q : (Nat → Int32) × Nat) : (Nat → Int32) × Nat :=
  if 100000 ≤ c then (upd q.1 q.2 (nI (c - 100000)), q.2 + 1) else if c < 11 then (upd q.1 q.2 (nm c), q.2 + 1)
  else if c = 13 then (upd q.1 (q.2 - 1) (b2i (q.1 (q.2 - 1) = 0)), q.2) else if c = 19 then (upd q.1 (q.2 - 1) (-(q.1 (q.2 - 1))), q.2)
  else (upd q.1 (q.2 - 2) (two c (q.1 (q.2 - 2)) (q.1 (q.2 - 1))), q.2 - 1)
def rpF (nm : Nat → Int32) (q : Nat → Nat) (k : Nat) : Nat → (Nat → Int32) × Nat
  | 0 => (fun _ => 0, 0)
  | n + 1 => rsF nm (q (k + n)) (rpF nm q k n)
def okc (c : Nat) : Prop := (100000 ≤ c ∧ c < 110000) ∨ c < 6 ∨ (11 ≤ c ∧ c ≤ 19)
def ned (c : Nat) : Nat := if 100000 ≤ c then 0 else if c < 11 then 0 else if c = 13 then 1 else if c = 19 then 1 else 2
def hsN (c h : Nat) : Nat := if 100000 ≤ c then h + 1 else if c < 11 then h + 1 else if c = 13 then h else if c = 19 then h else h - 1
def hpN (q : Nat → Nat) (k : Nat) : Nat → Nat
  | 0 => 0
  | n + 1 => hsN (q (k + n)) (hpN q k n)
/-- a part of a text that can be worked off: n signs from k on -/
def WFp (q : Nat → Nat) (k n : Nat) : Prop := (∀ i, i < n → okc (q (k + i)) ∧ ned (q (k + i)) ≤ hpN q k i) ∧ 1 ≤ hpN q k n
theorem rpF_h (nm : Nat → Int32) (q : Nat → Nat) (k : Nat) : ∀ n, (rpF nm q k n).2 = hpN q k n
  | 0 => rfl
  | n + 1 => by
    have ih := rpF_h nm q k n
    simp only [rpF, rsF, hpN, hsN]
    split
    · simp [ih]
    · split
      · simp [ih]
      · split
        · exact ih
        · split
          · exact ih
          · simp [ih]
theorem hpN_le (q : Nat → Nat) (k : Nat) : ∀ n, hpN q k n ≤ n
  | 0 => Nat.le_refl _
  | n + 1 => by
    have ih := hpN_le q k n
    simp only [hpN, hsN]
    split
    · omega
    · split
      · omega
      · split
        · omega
        · split <;> omega
def sW (nm : Nat → Int32) (q : Nat → Nat) (k n : Nat) : Int32 := (rpF nm q k n).1 0
def bnd (lo hi v : Int32) : Int32 := if v < lo then lo else if hi < v then hi else v
theorem t_M_two (X : hX) (d : Nat) {c : Nat} (hc : 11 ≤ c ∧ c ≤ 18 ∧ c ≠ 13) (a b : Int32) (M : hM) : TP X d n_M_two [.int (nI c), .int a, .int b] M (Ret (.int (two c a b)) M) := by
  have h : c = 11 ∨ c = 12 ∨ c = 14 ∨ c = 15 ∨ c = 16 ∨ c = 17 ∨ c = 18 := by omega
  unfold TP
  rcases h with rfl | rfl | rfl | rfl | rfl | rfl | rfl
  all_goals
    refine XP_s rfl ?_
    refine XP_s rfl ?_
  · show XP X d _ 2 _ _ _ _
    repeat' (first | refine XP_dec (fun h => ?_) (fun h => ?_) | refine XP_s rfl ?_ | refine XP_ret rfl ?_)
    all_goals (refine ⟨?_, rfl⟩; simp_all [two, b2i, cI, nI_0]; try rfl)
  · show XP X d _ 10 _ _ _ _
    repeat' (first | refine XP_dec (fun h => ?_) (fun h => ?_) | refine XP_s rfl ?_ | refine XP_ret rfl ?_)
    all_goals (refine ⟨?_, rfl⟩; simp_all [two, b2i, cI, nI_0]; try rfl)
  · show XP X d _ 18 _ _ _ _
    repeat' (first | refine XP_dec (fun h => ?_) (fun h => ?_) | refine XP_s rfl ?_ | refine XP_ret rfl ?_)
    · refine ⟨?_, rfl⟩; simp [two, b2i, cI, nI_0, Int32.not_lt.mpr h]
    · refine ⟨?_, rfl⟩; simp [two, b2i, cI, Int32.not_le.mp h]; rfl
  · show XP X d _ 25 _ _ _ _
    repeat' (first | refine XP_dec (fun h => ?_) (fun h => ?_) | refine XP_s rfl ?_ | refine XP_ret rfl ?_)
    all_goals (refine ⟨?_, rfl⟩; simp_all [two, b2i, cI, nI_0]; try rfl)
  · show XP X d _ 32 _ _ _ _
    repeat' (first | refine XP_s rfl ?_ | refine XP_ret rfl ?_)
    exact ⟨rfl, rfl⟩
  · show XP X d _ 36 _ _ _ _
    repeat' (first | refine XP_s rfl ?_ | refine XP_ret rfl ?_)
    exact ⟨rfl, rfl⟩
  · show XP X d _ 40 _ _ _ _
    repeat' (first | refine XP_s rfl ?_ | refine XP_ret rfl ?_)
    exact ⟨rfl, rfl⟩
def nmV (a b c d e f : Int32) : Nat → Int32
  | 0 => a
  | 1 => b
  | 2 => c
  | 3 => d
  | 4 => e
  | _ => f
theorem t_M_names (X : hX) (d : Nat) {I : Nat → Nat → Int32} {J : Nat → Nat → Int64} {R : Nat → Nat → Option Nat} {N : Nat → Nat} {G : hG} (a b c y e f : Int32) : TP X d n_M_names [.ref 99, .int a, .int b, .int c, .int y, .int e, .int f] (I, J, Rx R, N, G) (fun v M' => v = none ∧ ∃ I', M' = (I', J, Rx R, N, G) ∧ Only [126] I I' ∧ ∀ j, j < 6 → I' 126 j = nmV a b c y e f j) := by
  unfold TP
  repeat' (first
    | refine XP_iast (n := 6) rfl rfl (by decide) rfl (by decide) ?_
    | refine XP_s rfl ?_
    | refine XP_ret rfl ?_)
  refine ⟨rfl, _, rfl, ?_, ?_⟩
  · intro k hk
    have : k ≠ 126 := fun z => hk (z ▸ List.mem_cons_self)
    funext j
    simp [rw2, this]
  · intro j hj
    match j, hj with
    | 0, _ => rfl
    | 1, _ => rfl
    | 2, _ => rfl
    | 3, _ => rfl
    | 4, _ => rfl
    | 5, _ => rfl
