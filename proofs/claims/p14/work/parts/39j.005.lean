section HQ
variable {M : zM} {a b c : Int}
theorem hq_182_1 (h : hBd M) : hf_182_97 M 1 a = 0 ↔ ¬ (0 ≤ a ∧ a < M 98 1) := by
  have hb : 0 ≤ M 98 1 ∧ M 98 1 ≤ 20 := h.2.1
  unfold hf_182_97
  simp only [Int.reduceToNat]
  rw [w32_id (by omega), hq_180]
  constructor <;> intro h9 <;> omega
theorem hq_182_2 (h : hBd M) : hf_182_97 M 2 a = 0 ↔ ¬ (0 ≤ a ∧ a < M 98 2) := by
  have hb : 0 ≤ M 98 2 ∧ M 98 2 ≤ 4 := h.2.2.1
  unfold hf_182_97
  simp only [Int.reduceToNat]
  rw [w32_id (by omega), hq_180]
  constructor <;> intro h9 <;> omega
theorem hq_182_3 (h : hBd M) : hf_182_97 M 3 a = 0 ↔ ¬ (0 ≤ a ∧ a < M 98 3) := by
  have hb : 0 ≤ M 98 3 ∧ M 98 3 ≤ 40 := h.2.2.2.1
  unfold hf_182_97
  simp only [Int.reduceToNat]
  rw [w32_id (by omega), hq_180]
  constructor <;> intro h9 <;> omega
theorem hq_182_4 (h : hBd M) : hf_182_97 M 4 a = 0 ↔ ¬ (0 ≤ a ∧ a < M 98 4) := by
  have hb : 0 ≤ M 98 4 ∧ M 98 4 ≤ 250 := h.2.2.2.2.1
  unfold hf_182_97
  simp only [Int.reduceToNat]
  rw [w32_id (by omega), hq_180]
  constructor <;> intro h9 <;> omega
theorem hq_182_5 (h : hBd M) : hf_182_97 M 5 a = 0 ↔ ¬ (0 ≤ a ∧ a < M 98 5) := by
  have hb : 0 ≤ M 98 5 ∧ M 98 5 ≤ 10 := h.2.2.2.2.2.1
  unfold hf_182_97
  simp only [Int.reduceToNat]
  rw [w32_id (by omega), hq_180]
  constructor <;> intro h9 <;> omega
theorem hq_198 (h : hBd M) : hf_198_97 M a = 0 ↔ ¬ ((0 ≤ a ∧ a < M 98 4) ∧ hf_194_97 M a 0 = 0) := by unfold hf_198_97; simp only [hq_182_4 h]; (repeat' split) <;> constructor <;> intro h <;> first | omega | rfl
theorem hq_200 (h : hBd M) : hf_200_97 M a b = 0 ↔ ¬ ((0 ≤ a ∧ a < M 98 3) ∧ hf_199_97 M a ≤ b ∧ b ≤ 9999) := by unfold hf_200_97; simp only [hq_182_3 h, hq_180]; (repeat' split) <;> constructor <;> intro h <;> first | omega | rfl
theorem hv_194 (ha : 0 ≤ a ∧ a < 250) (hb : 0 ≤ b ∧ b < 12) : hf_194_97 M a b = M 98 (350 + 12 * a.toNat + b.toNat) := by
  unfold hf_194_97
  rw [w32_id (x := 12 * a) (by omega), w32_id (x := 350 + 12 * a) (by omega), w32_id (by omega), show (350 + 12 * a + b).toNat = 350 + 12 * a.toNat + b.toNat by omega]
end HQ
