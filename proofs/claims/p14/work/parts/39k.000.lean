/-! EACH CALL THAT TELLS: BOTH SIDES ANSWER ALIKE AND STAY ALIKE -/
theorem zput_same {M : zM} {r k : Nat} {x : Int} : zput M r k x r = hup (M r) k x := by funext j; simp only [zput, hup, if_true]
