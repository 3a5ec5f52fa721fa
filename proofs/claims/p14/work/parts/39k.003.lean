theorem zrow_oth {M : zM} {r s n i : Nat} {v : Nat → Int} (h : i ≠ r) : zrow M r s n v i = M i := by funext j; exact if_neg h
