theorem hTb.t16 {M : zM} (h : hTb M) : M 16 0 = 40 ∧ M 16 1 = 5 := h.2.2.2.1
theorem hTb.t18 {M : zM} (h : hTb M) : M 18 0 = 250 ∧ M 18 1 = 11 := h.2.2.2.2.1
theorem hTb.t20 {M : zM} (h : hTb M) : M 20 0 = 8 ∧ M 20 1 = 81 := h.2.2.2.2.2.1
theorem hTb.t22 {M : zM} (h : hTb M) : M 22 0 = 10 ∧ M 22 1 = 164 := h.2.2.2.2.2.2.1
theorem hTb.t24 {M : zM} (h : hTb M) : M 24 0 = 12 ∧ M 24 1 = 2 := h.2.2.2.2.2.2.2
theorem hTb.p3 {M : zM} {r : Nat} {x : Int} (h : hTb M) : hTb (zput M r 3 x) := by
  unfold hTb
  simp only [qput_nk (show (0 : Nat) ≠ 3 by decide), qput_nk (show (1 : Nat) ≠ 3 by decide)]
  exact h
theorem hTb.pc {M : zM} {r k : Nat} {x : Int} (h : hTb M) (hr : r % 2 = 1) : hTb (zput M r k x) := by
  unfold hTb
  rw [qput_ne (show 10 ≠ r by omega), qput_ne (show 10 ≠ r by omega), qput_ne (show 12 ≠ r by omega), qput_ne (show 12 ≠ r by omega), qput_ne (show 14 ≠ r by omega), qput_ne (show 14 ≠ r by omega), qput_ne (show 16 ≠ r by omega), qput_ne (show 16 ≠ r by omega), qput_ne (show 18 ≠ r by omega), qput_ne (show 18 ≠ r by omega), qput_ne (show 20 ≠ r by omega), qput_ne (show 20 ≠ r by omega), qput_ne (show 22 ≠ r by omega), qput_ne (show 22 ≠ r by omega), qput_ne (show 24 ≠ r by omega), qput_ne (show 24 ≠ r by omega)]
  exact h
def hBd (M : zM) : Prop := (0 ≤ M 98 0 ∧ M 98 0 ≤ 14) ∧ (0 ≤ M 98 1 ∧ M 98 1 ≤ 20) ∧ (0 ≤ M 98 2 ∧ M 98 2 ≤ 4) ∧ (0 ≤ M 98 3 ∧ M 98 3 ≤ 40) ∧ (0 ≤ M 98 4 ∧ M 98 4 ≤ 250) ∧ (0 ≤ M 98 5 ∧ M 98 5 ≤ 10) ∧ (0 ≤ M 98 6 ∧ M 98 6 ≤ 12)
