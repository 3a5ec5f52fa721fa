section HK
variable {M : zM} {a b c d u x : Int} {v q : Nat → Int}
theorem hrM (h : hHs M 9 (M 98)) (hT : hTb M) (ha : 0 ≤ a ∧ a < 40) : hR_get M 16 a 1 = M 98 (151 + 5 * a.toNat) := by
  rw [hG_16 hT ha (by omega), h.2.2.2.1.2.1 _ (by omega), show 150 + (5 * a.toNat + (1 : Int).toNat) = 151 + 5 * a.toNat by simp only [Int.reduceToNat]; omega]
end HK
