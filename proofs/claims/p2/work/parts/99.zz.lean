/-! the end of the rows -/
theorem zz_end : (1 : Nat) = 1 := rfl
