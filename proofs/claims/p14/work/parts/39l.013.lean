section HL
variable {M : zM}
theorem hbv_set {x m : BitVec 32} (h : x &&& m = m) : x ^^^ m = x &&& (m ^^^ BitVec.allOnes 32) := by
  apply BitVec.eq_of_getLsbD_eq
  intro i hi
  have q := congrArg (fun b => b.getLsbD i) h
  simp only [BitVec.getLsbD_and] at q
  simp only [BitVec.getLsbD_xor, BitVec.getLsbD_and, BitVec.getLsbD_allOnes, decide_eq_true hi]
  cases hx : x.getLsbD i <;> cases hm : m.getLsbD i <;> rw [hx, hm] at q <;> first | rfl | cases q
end HL
