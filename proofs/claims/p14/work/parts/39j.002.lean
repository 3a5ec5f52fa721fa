theorem hBd.same {M M1 : zM} (h : hBd M) (e : M1 98 = M 98) : hBd M1 := by unfold hBd; rw [e]; exact h
