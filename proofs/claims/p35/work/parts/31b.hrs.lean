/-! ROWS OF HOURS -/
theorem qHp_pos (k : Nat) : 1 ≤ qHp k := by
  unfold qHp
  have h := Int.pow_pos (n := (14 : Int)) (m := 8 - k) (by decide)
  omega
theorem qHp_s {j : Int} (hj : 1 ≤ j ∧ j ≤ 8) : qHp (j - 1).toNat = 14 * qHp j.toNat := by
  rcases (by omega : j = 1 ∨ j = 2 ∨ j = 3 ∨ j = 4 ∨ j = 5 ∨ j = 6 ∨ j = 7 ∨ j = 8) with rfl | rfl | rfl | rfl | rfl | rfl | rfl | rfl <;> decide
theorem qHv_zero {M M1 : zM} {j : Int} (hM : M1 = zput M 117 j.toNat 0) (hC : qMI M) (hj : 1 ≤ j ∧ j ≤ 8) : qHv M - qHp (j - 1).toNat + qHp j.toNat ≤ qHv M1 := by
  have h1 := qHv_set (M := M) (j := j) (x := 0) (by omega)
  rw [← hM] at h1
  have h2 := hC.c117 j.toNat
  have h3 := qHp_pos j.toNat
  have h4 := qHp_s hj
  obtain ⟨y, hy⟩ : ∃ y : Int, y = M 117 j.toNat := ⟨_, rfl⟩
  obtain ⟨P, hP⟩ : ∃ P : Int, P = qHp j.toNat := ⟨_, rfl⟩
  rw [← hy] at h1 h2
  rw [← hP] at h1 h3 h4 ⊢
  have h5 : (-13) * P ≤ (0 - y) * P := Int.mul_le_mul_of_nonneg_right (by omega) (by omega)
  omega
theorem qHv_inc {M M1 : zM} {j x : Int} (hM : M1 = zput M 117 j.toNat x) (hj : 0 ≤ j ∧ j ≤ 8) (hx : x = M 117 j.toNat + 1) : qHv M1 = qHv M + qHp j.toNat := by
  have h1 := qHv_set (M := M) (j := j) (x := x) hj
  rw [← hM, show x - M 117 j.toNat = 1 by omega, Int.one_mul] at h1
  exact h1
theorem qMI.hv {M : zM} (h : qMI M) : 0 ≤ qHv M ∧ qHv M ≤ 20661046783 := by
  unfold qHv
  have h0 := h.c117 0; have h1 := h.c117 1; have h2 := h.c117 2; have h3 := h.c117 3; have h4 := h.c117 4; have h5 := h.c117 5; have h6 := h.c117 6; have h7 := h.c117 7; have h8 := h.c117 8
  omega
