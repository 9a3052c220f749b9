-- probe
theorem pr_x : (1:Nat) = 1 := rfl
