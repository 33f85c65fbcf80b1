/-! runs of the abstract machine, backwards -/
theorem exec_up {X : hX} : ∀ (n k d : Nat) (C : List Instr) (pc : Nat) (ls st : List Value) (M : hM) (r : Option Value × hM), exec X n d C pc ls st M = some r → exec X (n + k) d C pc ls st M = some r
  | 0, _, _, _, _, _, _, _, _, h => by cases h
  | n + 1, k, d, C, pc, ls, st, M, r, h => by
    rw [show n + 1 + k = n + k + 1 by omega]
    unfold exec at h ⊢
    generalize C.getD pc .nop = i at h ⊢
    cases i with
    | invokeinterface y j =>
      cases d with
      | zero => exact h
      | succ d =>
        dsimp only at h ⊢
        obtain ⟨h1, h2⟩ := bif_some h
        rw [h1, cond_true]
        cases h3 : exec X n d (mcode y) 0 (ini (mmax y) (st.take j).reverse) [] M with
        | none => rw [h3] at h2; cases h2
        | some q =>
          rw [h3] at h2
          rw [exec_up n k _ _ _ _ _ _ _ h3]
          exact exec_up n k _ _ _ _ _ _ _ h2
    | _ =>
      dsimp only at h ⊢
      split at h
      · exact h
      · split at h
        · exact exec_up n k _ _ _ _ _ _ _ h
        · cases h
/-- from here the run ends with Q -/
def XP (X : hX) (d : Nat) (C : List Instr) (pc : Nat) (ls st : List Value) (M : hM) (Q : Option Value → hM → Prop) : Prop := ∃ n v M', exec X n d C pc ls st M = some (v, M') ∧ Q v M'
/-- method y, called so, ends with Q -/
def TP (X : hX) (d y : Nat) (as : List Value) (M : hM) (Q : Option Value → hM → Prop) : Prop := XP X d (mcode y) 0 (ini (mmax y) as) [] M Q
theorem sstep_plain {X : hX} {i : Instr} {pc : Nat} {ls st : List Value} {M : hM} {q : hC} (h : sstep X i pc ls st M = some q) : (∀ y k, i ≠ .invokeinterface y k) ∧ retV i st = none := by
  constructor
  · intro y k e
    subst e
    simp only [sstep] at h
    split at h <;> simp [iop, iop1, lop, pushO] at h
  · unfold retV
    split
    all_goals first
      | rfl
      | (simp only [sstep] at h; first | (cases h; done) | (simp [iop, iop1, lop, pushO] at h; done) | (split at h <;> simp [iop, iop1, lop, pushO] at h; done))
theorem XP_s {X : hX} {d : Nat} {C : List Instr} {pc : Nat} {ls st : List Value} {M : hM} {Q : Option Value → hM → Prop} {pc' : Nat} {ls' st' : List Value} {M' : hM} (h : sstep X (C.getD pc .nop) pc ls st M = some (pc', ls', st', M')) (k : XP X d C pc' ls' st' M' Q) : XP X d C pc ls st M Q := by
  obtain ⟨n, v, M1, h1, h2⟩ := k
  refine ⟨n + 1, v, M1, ?_, h2⟩
  obtain ⟨a, b⟩ := sstep_plain h
  unfold exec
  generalize C.getD pc .nop = i at h a b ⊢
  cases i <;> first | (exact absurd rfl (a _ _)) | (dsimp only; rw [b]; dsimp only; rw [h]; exact h1)
theorem XP_ret {X : hX} {d : Nat} {C : List Instr} {pc : Nat} {ls st : List Value} {M : hM} {Q : Option Value → hM → Prop} {v : Option Value} (h : retV (C.getD pc .nop) st = some v) (k : Q v M) : XP X d C pc ls st M Q := by
  refine ⟨1, v, M, ?_, k⟩
  unfold exec
  generalize C.getD pc .nop = i at h ⊢
  cases i <;> first | (simp [retV] at h; done) | (dsimp only; rw [h])
theorem XP_call {X : hX} {d : Nat} {C : List Instr} {pc y k : Nat} {ls st : List Value} {M : hM} {Q Q1 : Option Value → hM → Prop} (h : C.getD pc .nop = .invokeinterface y k) (hc : (Nat.ble k st.length && Nat.ble (catS (st.drop k)) 8 && Nat.ble (iniA (st.take k).reverse).length (mmax y) && rcv y (st.take k).reverse) = true)
    (hT : TP X d y (st.take k).reverse M Q1) (kk : ∀ v M1, Q1 v M1 → XP X (d + 1) C (pc + 1) ls (v.toList ++ st.drop k) M1 Q) : XP X (d + 1) C pc ls st M Q := by
  obtain ⟨n, v, M1, h1, h2⟩ := hT
  obtain ⟨n2, v2, M2, h3, h4⟩ := kk v M1 h2
  refine ⟨n + n2 + 1, v2, M2, ?_, h4⟩
  unfold exec
  rw [h]
  dsimp only
  rw [hc, cond_true, exec_up n n2 _ _ _ _ _ _ _ h1]
  dsimp only
  rw [Nat.add_comm n n2]
  exact exec_up n2 n _ _ _ _ _ _ _ h3
theorem XP_dec {X : hX} {d : Nat} {C : List Instr} {a b : Nat} {ls st : List Value} {M : hM} {Q : Option Value → hM → Prop} {P : Prop} [Decidable P] (h1 : P → XP X d C a ls st M Q) (h2 : ¬ P → XP X d C b ls st M Q) : XP X d C (bif decide P then a else b) ls st M Q := by
  by_cases h : P
  · rw [decide_eq_true h]; exact h1 h
  · rw [decide_eq_false h]; exact h2 h
theorem XP_mono {X : hX} {d : Nat} {C : List Instr} {pc : Nat} {ls st : List Value} {M : hM} {Q Q' : Option Value → hM → Prop} (h : XP X d C pc ls st M Q) (hq : ∀ v M', Q v M' → Q' v M') : XP X d C pc ls st M Q' := by
  obtain ⟨n, v, M1, h1, h2⟩ := h
  exact ⟨n, v, M1, h1, hq _ _ h2⟩
theorem TP_mono {X : hX} {d y : Nat} {as : List Value} {M : hM} {Q Q' : Option Value → hM → Prop} (h : TP X d y as M Q) (hq : ∀ v M', Q v M' → Q' v M') : TP X d y as M Q' := XP_mono h hq
/-- a pure answer -/
abbrev Ret (v : Value) (M : hM) : Option Value → hM → Prop := fun v' M' => v' = some v ∧ M' = M
theorem XP_pure {X : hX} {d : Nat} {C : List Instr} {pc y k : Nat} {ls st : List Value} {M M1 : hM} {v : Value} {Q : Option Value → hM → Prop} (h : C.getD pc .nop = .invokeinterface y k) (hc : (Nat.ble k st.length && Nat.ble (catS (st.drop k)) 8 && Nat.ble (iniA (st.take k).reverse).length (mmax y) && rcv y (st.take k).reverse) = true)
    (hT : TP X d y (st.take k).reverse M (Ret v M1)) (kk : XP X (d + 1) C (pc + 1) ls (v :: st.drop k) M1 Q) : XP X (d + 1) C pc ls st M Q := XP_call h hc hT (fun v' M' hq => by obtain ⟨rfl, rfl⟩ := hq; exact kk)
/-- branches on a told truth -/
theorem XP_bne {X : hX} {d : Nat} {C : List Instr} {a b : Nat} {ls st : List Value} {M : hM} {Q : Option Value → hM → Prop} {P : Prop} [Decidable P] (h1 : P → XP X d C a ls st M Q) (h2 : ¬ P → XP X d C b ls st M Q) : XP X d C (bif cndB .ne (b2i P) 0 then a else b) ls st M Q := by
  by_cases h : P
  · have e : cndB .ne (b2i P) 0 = true := by simp [cndB, b2i, h]
    rw [e]; exact h1 h
  · have e : cndB .ne (b2i P) 0 = false := by simp [cndB, b2i, h]
    rw [e]; exact h2 h
theorem XP_beq {X : hX} {d : Nat} {C : List Instr} {a b : Nat} {ls st : List Value} {M : hM} {Q : Option Value → hM → Prop} {P : Prop} [Decidable P] (h1 : ¬ P → XP X d C a ls st M Q) (h2 : P → XP X d C b ls st M Q) : XP X d C (bif cndB .eq (b2i P) 0 then a else b) ls st M Q := by
  by_cases h : P
  · have e : cndB .eq (b2i P) 0 = false := by simp [cndB, b2i, h]
    rw [e]; exact h2 h
  · have e : cndB .eq (b2i P) 0 = true := by simp [cndB, b2i, h]
    rw [e]; exact h1 h
