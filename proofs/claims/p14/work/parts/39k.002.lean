theorem zrow_ne {M : zM} {r s n i j : Nat} {v : Nat → Int} (h : i ≠ r) : zrow M r s n v i j = M i j := if_neg h
