theorem aa_test : (1 : Nat) + 1 = 2 := rfl
