theorem zz : 1 = 1 := rfl
