section HK
variable {M : zM} {a b c d u x : Int} {v q : Nat → Int}
theorem hN183 (hu : 0 ≤ M 98 c.toNat ∧ M 98 c.toNat < 300) : hf_183_97 M c = (M 98 c.toNat, zput M 98 c.toNat (M 98 c.toNat + 1)) := by
  unfold hf_183_97
  rw [qput_eq, w32_id (x := M 98 c.toNat + 1) (by omega), w32_id (by omega), show M 98 c.toNat + 1 - 1 = M 98 c.toNat by omega]
end HK
