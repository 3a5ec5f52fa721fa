section HQ
variable {M : zM} {a b c : Int}
theorem hF_16 (h : hTb M) (hu : 40 ≤ M 16 3) : hR_open M 16 = (-4, M) := by
  have ht := h.t16
  unfold hR_open
  rw [if_neg (by omega)]
theorem hG_18 (h : hTb M) (ha : 0 ≤ a ∧ a < 250) (hb : 0 ≤ b ∧ b < 11) : hR_get M 18 a b = M 19 (11 * a.toNat + b.toNat) := by
  have ht := h.t18
  unfold hR_get
  rw [if_neg (by omega), if_neg (by omega), if_neg (by omega), if_pos (by omega), ht.2]
  rw [show w32 (w32 (a * 11) + b) = a * 11 + b from by rw [w32_id (x := a * 11) (by omega), w32_id (by omega)], show (a * 11 + b).toNat = 11 * a.toNat + b.toNat by omega]
theorem hS_18 {x : Int} (h : hTb M) (ha : 0 ≤ a ∧ a < 250) (hb : 0 ≤ b ∧ b < 11) : hR_set M 18 a b x = zput M 19 (11 * a.toNat + b.toNat) x := by
  have ht := h.t18
  unfold hR_set
  rw [if_neg (by omega), if_neg (by omega), if_neg (by omega), if_pos (by omega), ht.2]
  rw [show w32 (w32 (a * 11) + b) = a * 11 + b from by rw [w32_id (x := a * 11) (by omega), w32_id (by omega)], show (a * 11 + b).toNat = 11 * a.toNat + b.toNat by omega]
theorem hO_18 (h : hTb M) (hu : 0 ≤ M 18 3 ∧ M 18 3 < 250) : hR_open M 18 = (M 18 3, zput M 18 3 (M 18 3 + 1)) := by
  have ht := h.t18
  unfold hR_open
  rw [if_pos (by omega), qput_eq, w32_id (x := M 18 3 + 1) (by omega), w32_id (by omega), show M 18 3 + 1 - 1 = M 18 3 by omega]
theorem hF_18 (h : hTb M) (hu : 250 ≤ M 18 3) : hR_open M 18 = (-4, M) := by
  have ht := h.t18
  unfold hR_open
  rw [if_neg (by omega)]
theorem hG_20 (h : hTb M) (ha : 0 ≤ a ∧ a < 8) (hb : 0 ≤ b ∧ b < 81) : hR_get M 20 a b = M 21 (81 * a.toNat + b.toNat) := by
  have ht := h.t20
  unfold hR_get
  rw [if_neg (by omega), if_neg (by omega), if_neg (by omega), if_pos (by omega), ht.2]
  rw [show w32 (w32 (a * 81) + b) = a * 81 + b from by rw [w32_id (x := a * 81) (by omega), w32_id (by omega)], show (a * 81 + b).toNat = 81 * a.toNat + b.toNat by omega]
theorem hS_20 {x : Int} (h : hTb M) (ha : 0 ≤ a ∧ a < 8) (hb : 0 ≤ b ∧ b < 81) : hR_set M 20 a b x = zput M 21 (81 * a.toNat + b.toNat) x := by
  have ht := h.t20
  unfold hR_set
  rw [if_neg (by omega), if_neg (by omega), if_neg (by omega), if_pos (by omega), ht.2]
  rw [show w32 (w32 (a * 81) + b) = a * 81 + b from by rw [w32_id (x := a * 81) (by omega), w32_id (by omega)], show (a * 81 + b).toNat = 81 * a.toNat + b.toNat by omega]
theorem hO_20 (h : hTb M) (hu : 0 ≤ M 20 3 ∧ M 20 3 < 8) : hR_open M 20 = (M 20 3, zput M 20 3 (M 20 3 + 1)) := by
  have ht := h.t20
  unfold hR_open
  rw [if_pos (by omega), qput_eq, w32_id (x := M 20 3 + 1) (by omega), w32_id (by omega), show M 20 3 + 1 - 1 = M 20 3 by omega]
end HQ
