section HQ
variable {M : zM} {a b c : Int}
theorem hF_20 (h : hTb M) (hu : 8 ≤ M 20 3) : hR_open M 20 = (-4, M) := by
  have ht := h.t20
  unfold hR_open
  rw [if_neg (by omega)]
theorem hG_22 (h : hTb M) (ha : 0 ≤ a ∧ a < 10) (hb : 0 ≤ b ∧ b < 164) : hR_get M 22 a b = M 23 (164 * a.toNat + b.toNat) := by
  have ht := h.t22
  unfold hR_get
  rw [if_neg (by omega), if_neg (by omega), if_neg (by omega), if_pos (by omega), ht.2]
  rw [show w32 (w32 (a * 164) + b) = a * 164 + b from by rw [w32_id (x := a * 164) (by omega), w32_id (by omega)], show (a * 164 + b).toNat = 164 * a.toNat + b.toNat by omega]
theorem hS_22 {x : Int} (h : hTb M) (ha : 0 ≤ a ∧ a < 10) (hb : 0 ≤ b ∧ b < 164) : hR_set M 22 a b x = zput M 23 (164 * a.toNat + b.toNat) x := by
  have ht := h.t22
  unfold hR_set
  rw [if_neg (by omega), if_neg (by omega), if_neg (by omega), if_pos (by omega), ht.2]
  rw [show w32 (w32 (a * 164) + b) = a * 164 + b from by rw [w32_id (x := a * 164) (by omega), w32_id (by omega)], show (a * 164 + b).toNat = 164 * a.toNat + b.toNat by omega]
theorem hO_22 (h : hTb M) (hu : 0 ≤ M 22 3 ∧ M 22 3 < 10) : hR_open M 22 = (M 22 3, zput M 22 3 (M 22 3 + 1)) := by
  have ht := h.t22
  unfold hR_open
  rw [if_pos (by omega), qput_eq, w32_id (x := M 22 3 + 1) (by omega), w32_id (by omega), show M 22 3 + 1 - 1 = M 22 3 by omega]
theorem hF_22 (h : hTb M) (hu : 10 ≤ M 22 3) : hR_open M 22 = (-4, M) := by
  have ht := h.t22
  unfold hR_open
  rw [if_neg (by omega)]
theorem hG_24 (h : hTb M) (ha : 0 ≤ a ∧ a < 12) (hb : 0 ≤ b ∧ b < 2) : hR_get M 24 a b = M 25 (2 * a.toNat + b.toNat) := by
  have ht := h.t24
  unfold hR_get
  rw [if_neg (by omega), if_neg (by omega), if_neg (by omega), if_pos (by omega), ht.2]
  rw [show w32 (w32 (a * 2) + b) = a * 2 + b from by rw [w32_id (x := a * 2) (by omega), w32_id (by omega)], show (a * 2 + b).toNat = 2 * a.toNat + b.toNat by omega]
theorem hS_24 {x : Int} (h : hTb M) (ha : 0 ≤ a ∧ a < 12) (hb : 0 ≤ b ∧ b < 2) : hR_set M 24 a b x = zput M 25 (2 * a.toNat + b.toNat) x := by
  have ht := h.t24
  unfold hR_set
  rw [if_neg (by omega), if_neg (by omega), if_neg (by omega), if_pos (by omega), ht.2]
  rw [show w32 (w32 (a * 2) + b) = a * 2 + b from by rw [w32_id (x := a * 2) (by omega), w32_id (by omega)], show (a * 2 + b).toNat = 2 * a.toNat + b.toNat by omega]
theorem hO_24 (h : hTb M) (hu : 0 ≤ M 24 3 ∧ M 24 3 < 12) : hR_open M 24 = (M 24 3, zput M 24 3 (M 24 3 + 1)) := by
  have ht := h.t24
  unfold hR_open
  rw [if_pos (by omega), qput_eq, w32_id (x := M 24 3 + 1) (by omega), w32_id (by omega), show M 24 3 + 1 - 1 = M 24 3 by omega]
end HQ
