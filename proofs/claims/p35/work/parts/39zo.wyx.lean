/-! WAYS: FOR THE LAW -/
section WX9
variable {M M' : zM} {L T : Nat → Nat} {n9 W t : Nat}
theorem qU.vt (h : qU M) (e98 : M' 98 = M 98) (e99 : M' 99 = M 99) (e100 : M' 100 = M 100) (v : wVt (wmL (M 98)) (wmT (M 98)) M') : qU M' := by
  refine ⟨by rw [e98]; exact h.1, by rw [e99, e100]; exact h.2.1, by rw [e99, e100]; exact h.2.2.1, by rw [e98]; exact v⟩
theorem wWy_e {C R : Prop} {x y : Int} (a : (¬ C ∧ x = -2) ∨ (C ∧ wWy L T n9 W t x ∧ R)) (b : (¬ C ∧ y = -2) ∨ (C ∧ wWy L T n9 W t y)) : x = y := by
  rcases a with ⟨a1, a2⟩ | ⟨a1, a2, -⟩ <;> rcases b with ⟨b1, b2⟩ | ⟨b1, b2⟩
  · rw [a2, b2]
  · exact absurd b1 a1
  · exact absurd a1 b1
  · exact wWy_u a2 b2
theorem wWt9_e {C : Prop} {i x y : Int} (a : (¬ C ∧ x = -2) ∨ (C ∧ wWt9 L T n9 W t i x)) (b : (¬ C ∧ y = -2) ∨ (C ∧ wWt9 L T n9 W t i y)) : x = y := by
  rcases a with ⟨a1, a2⟩ | ⟨a1, a2⟩ <;> rcases b with ⟨b1, b2⟩ | ⟨b1, b2⟩
  · rw [a2, b2]
  · exact absurd b1 a1
  · exact absurd a1 b1
  · exact wWt9_u a2 b2
theorem qMI.im0 (h : qMI M) {b : Nat} (b1 : b ≤ 1) (b2 : M 100 b ≠ 0) : 0 ≤ M 99 (5664 * b) ∧ M 99 (5664 * b) ≤ 14 := by
  rcases (by omega : b = 0 ∨ b = 1) with rfl | rfl
  · exact (h.2.1.1 0).2.1 rfl
  · exact (h.2.2.1.1 0).2.1 rfl
end WX9
