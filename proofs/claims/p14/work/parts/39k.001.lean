theorem zput_oth {M : zM} {r k i : Nat} {x : Int} (h : i ≠ r) : zput M r k x i = M i := by funext j; exact qput_ne h
