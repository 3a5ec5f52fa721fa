section HK
variable {M : zM} {a b c d u x : Int} {v q : Nat → Int}
theorem hrE (h : hHs M 9 (M 98)) (hT : hTb M) (ha : 0 ≤ a ∧ a < 250) (h3 : M 98 (350 + 12 * a.toNat) ≠ 3) : hR_get M 18 a 8 = M 98 (358 + 12 * a.toNat) := by
  rw [hG_18 hT ha (by omega)]; exact (h.2.2.2.2.1.2 a.toNat (by omega)).2.1 h3
end HK
