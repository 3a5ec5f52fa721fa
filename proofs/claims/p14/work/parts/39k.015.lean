section HK
variable {M : zM} {a b c d u x : Int} {v q : Nat → Int}
theorem hE_put (hu : 0 ≤ M 98 4 ∧ M 98 4 < 250) (hb : 0 ≤ b ∧ b < 12) : hf_195_97 (hE M (M 98 4) q) b x = hE M (M 98 4) (hup q b.toNat x) := by
  unfold hf_195_97
  have e4 : (hE M (M 98 4) q) 98 (4 : Int).toNat = M 98 4 := zrow_out (by simp only [Int.reduceToNat]; omega)
  rw [e4, w32_id (x := 12 * M 98 4) (by omega), w32_id (x := 350 + 12 * M 98 4) (by omega), w32_id (by omega), show (350 + 12 * M 98 4 + b).toNat = 350 + 12 * (M 98 4).toNat + b.toNat by omega]
  exact zrow_put (by omega)
end HK
