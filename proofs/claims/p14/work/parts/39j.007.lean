section HQ
variable {M : zM} {a b c : Int}
theorem hF_12 (h : hTb M) (hu : 20 ≤ M 12 3) : hR_open M 12 = (-4, M) := by
  have ht := h.t12
  unfold hR_open
  rw [if_neg (by omega)]
theorem hG_14 (h : hTb M) (ha : 0 ≤ a ∧ a < 4) (hb : 0 ≤ b ∧ b < 2) : hR_get M 14 a b = M 15 (2 * a.toNat + b.toNat) := by
  have ht := h.t14
  unfold hR_get
  rw [if_neg (by omega), if_neg (by omega), if_neg (by omega), if_pos (by omega), ht.2]
  rw [show w32 (w32 (a * 2) + b) = a * 2 + b from by rw [w32_id (x := a * 2) (by omega), w32_id (by omega)], show (a * 2 + b).toNat = 2 * a.toNat + b.toNat by omega]
theorem hS_14 {x : Int} (h : hTb M) (ha : 0 ≤ a ∧ a < 4) (hb : 0 ≤ b ∧ b < 2) : hR_set M 14 a b x = zput M 15 (2 * a.toNat + b.toNat) x := by
  have ht := h.t14
  unfold hR_set
  rw [if_neg (by omega), if_neg (by omega), if_neg (by omega), if_pos (by omega), ht.2]
  rw [show w32 (w32 (a * 2) + b) = a * 2 + b from by rw [w32_id (x := a * 2) (by omega), w32_id (by omega)], show (a * 2 + b).toNat = 2 * a.toNat + b.toNat by omega]
theorem hO_14 (h : hTb M) (hu : 0 ≤ M 14 3 ∧ M 14 3 < 4) : hR_open M 14 = (M 14 3, zput M 14 3 (M 14 3 + 1)) := by
  have ht := h.t14
  unfold hR_open
  rw [if_pos (by omega), qput_eq, w32_id (x := M 14 3 + 1) (by omega), w32_id (by omega), show M 14 3 + 1 - 1 = M 14 3 by omega]
theorem hF_14 (h : hTb M) (hu : 4 ≤ M 14 3) : hR_open M 14 = (-4, M) := by
  have ht := h.t14
  unfold hR_open
  rw [if_neg (by omega)]
theorem hG_16 (h : hTb M) (ha : 0 ≤ a ∧ a < 40) (hb : 0 ≤ b ∧ b < 5) : hR_get M 16 a b = M 17 (5 * a.toNat + b.toNat) := by
  have ht := h.t16
  unfold hR_get
  rw [if_neg (by omega), if_neg (by omega), if_neg (by omega), if_pos (by omega), ht.2]
  rw [show w32 (w32 (a * 5) + b) = a * 5 + b from by rw [w32_id (x := a * 5) (by omega), w32_id (by omega)], show (a * 5 + b).toNat = 5 * a.toNat + b.toNat by omega]
theorem hS_16 {x : Int} (h : hTb M) (ha : 0 ≤ a ∧ a < 40) (hb : 0 ≤ b ∧ b < 5) : hR_set M 16 a b x = zput M 17 (5 * a.toNat + b.toNat) x := by
  have ht := h.t16
  unfold hR_set
  rw [if_neg (by omega), if_neg (by omega), if_neg (by omega), if_pos (by omega), ht.2]
  rw [show w32 (w32 (a * 5) + b) = a * 5 + b from by rw [w32_id (x := a * 5) (by omega), w32_id (by omega)], show (a * 5 + b).toNat = 5 * a.toNat + b.toNat by omega]
theorem hO_16 (h : hTb M) (hu : 0 ≤ M 16 3 ∧ M 16 3 < 40) : hR_open M 16 = (M 16 3, zput M 16 3 (M 16 3 + 1)) := by
  have ht := h.t16
  unfold hR_open
  rw [if_pos (by omega), qput_eq, w32_id (x := M 16 3 + 1) (by omega), w32_id (by omega), show M 16 3 + 1 - 1 = M 16 3 by omega]
end HQ
