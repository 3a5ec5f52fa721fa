section HC
variable {u x y : Int} {g f f' : Nat → Int} {s N : Nat}
theorem hc4.fr (h : hc4 u g f) (e : ∀ j, (j = 4 ∨ (350 ≤ j ∧ j < 3350)) → f' j = f j) : hc4 u g f' := ⟨by rw [e 4 (.inl rfl)]; exact h.1, h.2.fr (fun j hj => e j (.inr hj))⟩
theorem hc5.fr (h : hc5 g f) (e : ∀ j, (3350 ≤ j ∧ j < 3998) → f' j = f j) : hc5 g f' := hLn.fr h (fun j h1 h2 => e j ⟨h1, by omega⟩)
theorem hc6.fr (h : hc6 u g f) (e : ∀ j, (j = 6 ∨ (5640 ≤ j ∧ j < 5664)) → f' j = f j) : hc6 u g f' := ⟨by rw [e 6 (.inl rfl)]; exact h.1, h.2.fr (fun j h1 h2 => e j (.inr ⟨h1, by omega⟩))⟩
theorem hc8.fr (h : hc8 f) (e : ∀ j, (j = 1 ∨ j = 3 ∨ j = 4 ∨ (350 ≤ j ∧ j < 3350)) → f' j = f j) : hc8 f' := fun i hi h250 => by
  rw [e 4 (by omega)] at hi
  rw [e 3 (by omega), e 1 (by omega), e (353 + 12 * i) (by omega), e (350 + 12 * i) (by omega), e (354 + 12 * i) (by omega)]
  exact h i hi h250
theorem hc7.fr (h : hc7 x y f) (e : ∀ j, (j = 7 ∨ j = 8) → f' j = f j) : hc7 x y f' := by unfold hc7; rw [e 7 (.inl rfl), e 8 (.inr rfl)]; exact h
end HC
