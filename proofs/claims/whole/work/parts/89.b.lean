/-! setter: push -/
section
variable {X : hX} {d : Nat} {s I : Nat → Nat → Int32} {J : Nat → Nat → Int64} {R : Nat → Nat → Option Nat} {N : Nat → Nat} {G : hG}
/-- what a setter leaves: the class first, then the model -/
abbrev QM (s s' : Nat → Nat → Int32) (R : Nat → Nat → Option Nat) (N : Nat → Nat) (G : hG) (v : Value) : Option Value → hM → Prop := fun v' M' => v' = some v ∧ ∃ I' J', M' = (I', J', Rx R, N, G) ∧ Mid s s' R N I' J'
theorem Wf_pu {v : Int32} (h : Wf s) (hv : iN 0 9 v) : Wf (rw2 s 99 25 v) :=
  ⟨⟨h.1.1, ⟨h.1.2.1, ⟨h.1.2.2.1.1, hv, h.1.2.2.1.2.2⟩, h.1.2.2.2⟩⟩, h.2⟩
theorem Agr_pu (v : Int32) : Agr s (rw2 s 99 25 v) :=
  ⟨fun k h1 h2 => by funext j; exact rw2_off (by omega), rfl, rfl, fun j hj => rw2_off (by omega), rfl, rfl⟩
theorem St_id (hS : St s I) : StC s I ∧ StM s I := ⟨hS.C, hS.M⟩
end
