section HQ
variable {M : zM} {a b c : Int}
theorem hq_175 : hf_175_8 M a = 0 ↔ ¬ (0 ≤ a ∧ a < M 10 3) := hq_has
theorem hq_184 : hf_184 M a = 0 ↔ ¬ (0 ≤ a ∧ a ≤ 9999) := hq_180
theorem hq_185 : hf_185 M a = 0 ↔ ¬ (0 ≤ a ∧ a ≤ 100) := hq_180
theorem hq_252 : hf_252 M a = 0 ↔ ¬ (0 ≤ a ∧ a ≤ 7) := hq_180
theorem hq_178 : hf_178_8 M a b = 0 ↔ ¬ ((0 ≤ a ∧ a < M 16 3) ∧ hR_get M 16 a 1 ≤ b ∧ b ≤ 9999) := by unfold hf_178_8; simp only [hq_169, hq_has]; (repeat' split) <;> constructor <;> intro h <;> first | omega | rfl
theorem hq_19 : hf_19_9 M b a = 0 ↔ ¬ ((0 ≤ a ∧ a < M 18 3) ∧ hR_get M 18 a 0 = b) := by unfold hf_19_9; simp only [hq_has]; (repeat' split) <;> constructor <;> intro h <;> first | omega | rfl
theorem hq_197 : hf_197_97 M = 0 ↔ ¬ M 98 4 = 250 := by unfold hf_197_97; simp only [Int.reduceToNat]; (repeat' split) <;> constructor <;> intro h <;> first | omega | rfl
theorem hq_182_0 (h : hBd M) : hf_182_97 M 0 a = 0 ↔ ¬ (0 ≤ a ∧ a < M 98 0) := by
  have hb : 0 ≤ M 98 0 ∧ M 98 0 ≤ 14 := h.1
  unfold hf_182_97
  simp only [Int.reduceToNat]
  rw [w32_id (by omega), hq_180]
  constructor <;> intro h9 <;> omega
end HQ
