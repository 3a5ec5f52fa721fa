section HL
variable {M : zM}
theorem hs_two {x c : Nat} : (x / 2 ^ c % 2 = 1 → x &&& 2 ^ c = 2 ^ c) ∧ (¬ x / 2 ^ c % 2 = 1 → x &&& 2 ^ c = 0) := by
  have t : x.testBit c = decide (x / 2 ^ c % 2 = 1) := Nat.testBit_eq_decide_div_mod_eq
  constructor
  · intro h
    rw [decide_eq_true h] at t
    apply Nat.eq_of_testBit_eq
    intro i
    rw [Nat.testBit_and, Nat.testBit_two_pow]
    by_cases e : c = i
    · subst e; simp [t]
    · simp [e]
  · intro h
    rw [decide_eq_false h] at t
    apply Nat.eq_of_testBit_eq
    intro i
    rw [Nat.testBit_and, Nat.testBit_two_pow]
    by_cases e : c = i
    · subst e; simp [t]
    · simp [e]
end HL
