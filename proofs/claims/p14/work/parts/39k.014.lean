section HK
variable {M : zM} {a b c d u x : Int} {v q : Nat → Int}
theorem hN18f (h : hTb M) (hu : 250 ≤ M 18 3) : hf_18_9 M a b c d = (-4, M) := by
  unfold hf_18_9
  rw [hF_18 h hu]
  dsimp only
  repeat rw [hS_neg (by decide)]
end HK
