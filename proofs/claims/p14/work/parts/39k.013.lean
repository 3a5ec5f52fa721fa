section HK
variable {M : zM} {a b c d u x : Int} {v q : Nat → Int}
theorem hN18 (h : hTb M) (hu : 0 ≤ M 18 3 ∧ M 18 3 < 250) : ∃ v : Nat → Int, hf_18_9 M a b c d = (M 18 3, hD M (M 18 3) v) ∧ (v 0 = a ∧ v 1 = b ∧ v 2 = c ∧ v 3 = d) ∧ (v 4 = -1 ∧ v 5 = -1 ∧ v 6 = -1 ∧ v 7 = -1) ∧ v 8 = -1 ∧ v 9 = -1 ∧ v 10 = -1 := by
  unfold hf_18_9
  rw [hO_18 h hu]
  dsimp only
  rw [hD0]
  repeat rw [hD_set h hu (by decide)]
  exact ⟨_, rfl, ⟨rfl, rfl, rfl, rfl⟩, ⟨rfl, rfl, rfl, rfl⟩, rfl, rfl, rfl⟩
end HK
