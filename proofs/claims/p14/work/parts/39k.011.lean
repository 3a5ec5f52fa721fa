section HK
variable {M : zM} {a b c d u x : Int} {v q : Nat → Int}
theorem hD_set (h : hTb M) (hu : 0 ≤ u ∧ u < 250) (hb : 0 ≤ b ∧ b < 11) : hR_set (hD M u v) 18 u b x = hD M u (hup v b.toNat x) := by
  rw [hS_18 (M := hD M u v) (h.p3.row rfl) hu hb]
  exact zrow_put (by omega)
end HK
