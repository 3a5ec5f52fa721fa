section HL
variable {M : zM}
theorem hbv_clr {x m : BitVec 32} (h : x &&& m = 0#32) : x ^^^ m = x ||| m := by
  apply BitVec.eq_of_getLsbD_eq
  intro i hi
  have q := congrArg (fun b => b.getLsbD i) h
  simp only [BitVec.getLsbD_and, BitVec.getLsbD_zero] at q
  simp only [BitVec.getLsbD_xor, BitVec.getLsbD_or]
  cases hx : x.getLsbD i <;> cases hm : m.getLsbD i <;> rw [hx, hm] at q <;> first | rfl | cases q
end HL
