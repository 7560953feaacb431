theorem zz_2 : 1 + 1 = 2 := rfl
