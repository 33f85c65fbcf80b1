theorem zz_try (a b : Nat) : a + b = b + a := Nat.add_comm a b
