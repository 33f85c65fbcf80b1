/-! setters: what is the same in all -/
theorem Wf_pu {s : Nat → Nat → Int32} {v : Int32} (h : Wf s) (hv : iN 0 9 v) : Wf (rw2 s 99 25 v) :=
  ⟨⟨h.1.1, ⟨h.1.2.1, ⟨h.1.2.2.1.1, hv, h.1.2.2.1.2.2⟩, h.1.2.2.2⟩⟩, h.2⟩
