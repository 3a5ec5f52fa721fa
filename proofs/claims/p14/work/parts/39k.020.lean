section HK
variable {M : zM} {a b c d u x : Int} {v q : Nat → Int}
theorem hrA (h : hHs M 9 (M 98)) (hT : hTb M) (ha : 0 ≤ a ∧ a < 250) (hb : 0 ≤ b ∧ b < 8) : hR_get M 18 a b = M 98 (350 + 12 * a.toNat + b.toNat) := by
  rw [hG_18 hT ha (by omega)]; exact (h.2.2.2.2.1.2 a.toNat (by omega)).1 b.toNat (by omega)
end HK
