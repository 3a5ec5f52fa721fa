section HK
variable {M : zM} {a b c d u x : Int} {v q : Nat → Int}
theorem hN196 (hu : 0 ≤ M 98 4 ∧ M 98 4 < 250) : ∃ q : Nat → Int, hf_196_97 M a b c d = hE M (M 98 4) q ∧ (q 0 = a ∧ q 1 = b ∧ q 2 = c ∧ q 3 = d) ∧ (q 4 = -1 ∧ q 5 = -1 ∧ q 6 = -1 ∧ q 7 = -1) ∧ q 8 = -1 ∧ q 9 = -1 ∧ q 10 = -1 ∧ q 11 = -1 := by
  have h0 := hE_put (M := M) (q := fun k => M 98 (350 + 12 * (M 98 4).toNat + k)) (b := 0) (x := a) hu (by decide)
  rw [show hE M (M 98 4) (fun k => M 98 (350 + 12 * (M 98 4).toNat + k)) = M from zrow_id] at h0
  unfold hf_196_97
  rw [h0]
  repeat rw [hE_put hu (by decide)]
  exact ⟨_, rfl, ⟨rfl, rfl, rfl, rfl⟩, ⟨rfl, rfl, rfl, rfl⟩, rfl, rfl, rfl, rfl⟩
end HK
