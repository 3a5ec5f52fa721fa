section HQ
variable {M : zM} {a b c : Int}
theorem hF_24 (h : hTb M) (hu : 12 ≤ M 24 3) : hR_open M 24 = (-4, M) := by
  have ht := h.t24
  unfold hR_open
  rw [if_neg (by omega)]
theorem hS_neg {r : Nat} {x : Int} (ha : a < 0) : hR_set M r a b x = M := by unfold hR_set; rw [if_pos ha]
end HQ
