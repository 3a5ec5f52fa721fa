section HC
variable {u x y : Int} {g f f' : Nat → Int} {s N : Nat}
theorem hLn.fr (h : hLn g f s N) (e : ∀ j, s ≤ j → j < s + N → f' j = f j) : hLn g f' s N := fun j hj => by rw [e (s + j) (by omega) (by omega)]; exact h j hj
theorem hLn.up {k : Nat} (h : hLn g f s N) : hLn (hup g k x) (hup f (s + k) x) s N := fun j hj => by
  by_cases e : j = k
  · subst e; rw [hup_eq, hup_eq]
  · rw [hup_ne e, hup_ne (by omega)]; exact h j hj
theorem hLn.gf {g' : Nat → Int} (h : hLn g f s N) (e : ∀ j, j < N → g' j = g j) (e2 : ∀ j, j < N → f' (s + j) = f (s + j)) : hLn g' f' s N := fun j hj => by rw [e j hj, e2 j hj]; exact h j hj
theorem hc0.fr (h : hc0 u g f) (e : ∀ j, (j = 0 ∨ (20 ≤ j ∧ j < 76)) → f' j = f j) : hc0 u g f' := ⟨by rw [e 0 (.inl rfl)]; exact h.1, h.2.fr (fun j h1 h2 => e j (.inr ⟨h1, by omega⟩))⟩
theorem hc1.fr (h : hc1 u g f) (e : ∀ j, (j = 1 ∨ (80 ≤ j ∧ j < 140 ∧ (j - 80) % 3 ≠ 1)) → f' j = f j) : hc1 u g f' := ⟨by rw [e 1 (.inl rfl)]; exact h.1, fun i hi => by rw [e (80 + 3 * i) (.inr (by omega)), e (82 + 3 * i) (.inr (by omega))]; exact h.2 i hi⟩
theorem hc2.fr (h : hc2 u g f) (e : ∀ j, (j = 2 ∨ (140 ≤ j ∧ j < 148)) → f' j = f j) : hc2 u g f' := ⟨by rw [e 2 (.inl rfl)]; exact h.1, h.2.fr (fun j h1 h2 => e j (.inr ⟨h1, by omega⟩))⟩
theorem hc3.fr (h : hc3 u g f) (e : ∀ j, (j = 3 ∨ (150 ≤ j ∧ j < 350)) → f' j = f j) : hc3 u g f' := ⟨by rw [e 3 (.inl rfl)]; exact h.1, h.2.1.fr (fun j h1 h2 => e j (.inr ⟨h1, by omega⟩)), fun i hi => by rw [e (151 + 5 * i) (.inr (by omega)), e (154 + 5 * i) (.inr (by omega)), e (153 + 5 * i) (.inr (by omega))]; exact h.2.2 i hi⟩
theorem hAc.fr (h : hAc g f) (e : ∀ j, (350 ≤ j ∧ j < 3350) → f' j = f j) : hAc g f' := fun i hi => by
  have q := h i hi
  refine ⟨fun k hk => ?_, ?_, ?_, ?_, ?_⟩
  · rw [e _ (by omega)]; exact q.1 k hk
  · rw [e _ (by omega), e _ (by omega)]; exact q.2.1
  · rw [e (350 + 12 * i) (by omega), e (359 + 12 * i) (by omega), e (360 + 12 * i) (by omega), e (361 + 12 * i) (by omega)]; exact q.2.2.1
  · rw [e _ (by omega)]; exact q.2.2.2.1
  · rw [e _ (by omega)]; exact q.2.2.2.2
end HC
