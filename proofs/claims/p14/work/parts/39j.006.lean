section HQ
variable {M : zM} {a b c : Int}
theorem hv_199 (ha : 0 ≤ a ∧ a < 40) : hf_199_97 M a = M 98 (151 + 5 * a.toNat) := by
  unfold hf_199_97
  rw [w32_id (x := 5 * a) (by omega), w32_id (x := 150 + 5 * a) (by omega), w32_id (by omega), show (150 + 5 * a + 1).toNat = 151 + 5 * a.toNat by omega]
theorem hG_10 (h : hTb M) (ha : 0 ≤ a ∧ a < 14) (hb : 0 ≤ b ∧ b < 4) : hR_get M 10 a b = M 11 (4 * a.toNat + b.toNat) := by
  have ht := h.t10
  unfold hR_get
  rw [if_neg (by omega), if_neg (by omega), if_neg (by omega), if_pos (by omega), ht.2]
  rw [show w32 (w32 (a * 4) + b) = a * 4 + b from by rw [w32_id (x := a * 4) (by omega), w32_id (by omega)], show (a * 4 + b).toNat = 4 * a.toNat + b.toNat by omega]
theorem hS_10 {x : Int} (h : hTb M) (ha : 0 ≤ a ∧ a < 14) (hb : 0 ≤ b ∧ b < 4) : hR_set M 10 a b x = zput M 11 (4 * a.toNat + b.toNat) x := by
  have ht := h.t10
  unfold hR_set
  rw [if_neg (by omega), if_neg (by omega), if_neg (by omega), if_pos (by omega), ht.2]
  rw [show w32 (w32 (a * 4) + b) = a * 4 + b from by rw [w32_id (x := a * 4) (by omega), w32_id (by omega)], show (a * 4 + b).toNat = 4 * a.toNat + b.toNat by omega]
theorem hO_10 (h : hTb M) (hu : 0 ≤ M 10 3 ∧ M 10 3 < 14) : hR_open M 10 = (M 10 3, zput M 10 3 (M 10 3 + 1)) := by
  have ht := h.t10
  unfold hR_open
  rw [if_pos (by omega), qput_eq, w32_id (x := M 10 3 + 1) (by omega), w32_id (by omega), show M 10 3 + 1 - 1 = M 10 3 by omega]
theorem hF_10 (h : hTb M) (hu : 14 ≤ M 10 3) : hR_open M 10 = (-4, M) := by
  have ht := h.t10
  unfold hR_open
  rw [if_neg (by omega)]
theorem hG_12 (h : hTb M) (ha : 0 ≤ a ∧ a < 20) (hb : 0 ≤ b ∧ b < 3) : hR_get M 12 a b = M 13 (3 * a.toNat + b.toNat) := by
  have ht := h.t12
  unfold hR_get
  rw [if_neg (by omega), if_neg (by omega), if_neg (by omega), if_pos (by omega), ht.2]
  rw [show w32 (w32 (a * 3) + b) = a * 3 + b from by rw [w32_id (x := a * 3) (by omega), w32_id (by omega)], show (a * 3 + b).toNat = 3 * a.toNat + b.toNat by omega]
theorem hS_12 {x : Int} (h : hTb M) (ha : 0 ≤ a ∧ a < 20) (hb : 0 ≤ b ∧ b < 3) : hR_set M 12 a b x = zput M 13 (3 * a.toNat + b.toNat) x := by
  have ht := h.t12
  unfold hR_set
  rw [if_neg (by omega), if_neg (by omega), if_neg (by omega), if_pos (by omega), ht.2]
  rw [show w32 (w32 (a * 3) + b) = a * 3 + b from by rw [w32_id (x := a * 3) (by omega), w32_id (by omega)], show (a * 3 + b).toNat = 3 * a.toNat + b.toNat by omega]
theorem hO_12 (h : hTb M) (hu : 0 ≤ M 12 3 ∧ M 12 3 < 20) : hR_open M 12 = (M 12 3, zput M 12 3 (M 12 3 + 1)) := by
  have ht := h.t12
  unfold hR_open
  rw [if_pos (by omega), qput_eq, w32_id (x := M 12 3 + 1) (by omega), w32_id (by omega), show M 12 3 + 1 - 1 = M 12 3 by omega]
end HQ
