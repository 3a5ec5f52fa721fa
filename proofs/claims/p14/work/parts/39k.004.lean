theorem zrow_in {M : zM} {r s n j : Nat} {v : Nat → Int} (h : s ≤ j ∧ j < s + n) : zrow M r s n v r j = v (j - s) := by unfold zrow; rw [if_pos rfl, if_pos h]
