theorem zrow_out {M : zM} {r s n j : Nat} {v : Nat → Int} (h : ¬ (s ≤ j ∧ j < s + n)) : zrow M r s n v r j = M r j := by unfold zrow; rw [if_pos rfl, if_neg h]
