theorem zrow_id {M : zM} {r s n : Nat} : zrow M r s n (fun k => M r (s + k)) = M := by
  funext i j
  by_cases hi : i = r
  · subst hi
    by_cases hj : s ≤ j ∧ j < s + n
    · rw [zrow_in hj, show s + (j - s) = j by omega]
    · rw [zrow_out hj]
  · rw [zrow_ne hi]
