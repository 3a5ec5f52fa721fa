/-! WHAT THE FUNCTIONS COME TO: TABLES AND THE MODEL'S ROW -/
def hup (f : Nat → Int) (k : Nat) (x : Int) : Nat → Int := fun j => if j = k then x else f j
theorem hup_eq {f : Nat → Int} {k : Nat} {x : Int} : hup f k x k = x := if_pos rfl
theorem hup_ne {f : Nat → Int} {k j : Nat} {x : Int} (h : j ≠ k) : hup f k x j = f j := if_neg h
def zrow (M : zM) (r s n : Nat) (v : Nat → Int) : zM := fun i j => if i = r then (if s ≤ j ∧ j < s + n then v (j - s) else M i j) else M i j
def hTb (M : zM) : Prop := (M 10 0 = 14 ∧ M 10 1 = 4) ∧ (M 12 0 = 20 ∧ M 12 1 = 3) ∧ (M 14 0 = 4 ∧ M 14 1 = 2) ∧ (M 16 0 = 40 ∧ M 16 1 = 5) ∧ (M 18 0 = 250 ∧ M 18 1 = 11) ∧ (M 20 0 = 8 ∧ M 20 1 = 81) ∧ (M 22 0 = 10 ∧ M 22 1 = 164) ∧ (M 24 0 = 12 ∧ M 24 1 = 2)
theorem hTb.t10 {M : zM} (h : hTb M) : M 10 0 = 14 ∧ M 10 1 = 4 := h.1
theorem hTb.t12 {M : zM} (h : hTb M) : M 12 0 = 20 ∧ M 12 1 = 3 := h.2.1
theorem hTb.t14 {M : zM} (h : hTb M) : M 14 0 = 4 ∧ M 14 1 = 2 := h.2.2.1
theorem hTb.t16 {M : zM} (h : hTb M) : M 16 0 = 40 ∧ M 16 1 = 5 := h.2.2.2.1
theorem hTb.t18 {M : zM} (h : hTb M) : M 18 0 = 250 ∧ M 18 1 = 11 := h.2.2.2.2.1
theorem hTb.t20 {M : zM} (h : hTb M) : M 20 0 = 8 ∧ M 20 1 = 81 := h.2.2.2.2.2.1
theorem hTb.t22 {M : zM} (h : hTb M) : M 22 0 = 10 ∧ M 22 1 = 164 := h.2.2.2.2.2.2.1
theorem hTb.t24 {M : zM} (h : hTb M) : M 24 0 = 12 ∧ M 24 1 = 2 := h.2.2.2.2.2.2.2
theorem hTb.p3 {M : zM} {r : Nat} {x : Int} (h : hTb M) : hTb (zput M r 3 x) := by
  unfold hTb
  simp only [qput_nk (show (0 : Nat) ≠ 3 by decide), qput_nk (show (1 : Nat) ≠ 3 by decide)]
  exact h
theorem hTb.pc {M : zM} {r k : Nat} {x : Int} (h : hTb M) (hr : r % 2 = 1) : hTb (zput M r k x) := by
  unfold hTb
  rw [qput_ne (show 10 ≠ r by omega), qput_ne (show 10 ≠ r by omega), qput_ne (show 12 ≠ r by omega), qput_ne (show 12 ≠ r by omega), qput_ne (show 14 ≠ r by omega), qput_ne (show 14 ≠ r by omega), qput_ne (show 16 ≠ r by omega), qput_ne (show 16 ≠ r by omega), qput_ne (show 18 ≠ r by omega), qput_ne (show 18 ≠ r by omega), qput_ne (show 20 ≠ r by omega), qput_ne (show 20 ≠ r by omega), qput_ne (show 22 ≠ r by omega), qput_ne (show 22 ≠ r by omega), qput_ne (show 24 ≠ r by omega), qput_ne (show 24 ≠ r by omega)]
  exact h
def hBd (M : zM) : Prop := (0 ≤ M 98 0 ∧ M 98 0 ≤ 14) ∧ (0 ≤ M 98 1 ∧ M 98 1 ≤ 20) ∧ (0 ≤ M 98 2 ∧ M 98 2 ≤ 4) ∧ (0 ≤ M 98 3 ∧ M 98 3 ≤ 40) ∧ (0 ≤ M 98 4 ∧ M 98 4 ≤ 250) ∧ (0 ≤ M 98 5 ∧ M 98 5 ≤ 10) ∧ (0 ≤ M 98 6 ∧ M 98 6 ≤ 12)
theorem hBd.same {M M1 : zM} (h : hBd M) (e : M1 98 = M 98) : hBd M1 := by unfold hBd; rw [e]; exact h
section HQ
variable {M : zM} {a b c : Int}
theorem hq_169 : hf_169 M a b c = 0 ↔ ¬ (b ≤ a ∧ a ≤ c) := by unfold hf_169; (repeat' split) <;> constructor <;> intro h <;> first | omega | rfl
theorem hq_180 : hf_180 M a b c = 0 ↔ ¬ (b ≤ a ∧ a ≤ c) := by unfold hf_180; (repeat' split) <;> constructor <;> intro h <;> first | omega | rfl
theorem hq_has {r : Nat} : hR_has M r a = 0 ↔ ¬ (0 ≤ a ∧ a < M r 3) := by unfold hR_has; (repeat' split) <;> constructor <;> intro h <;> first | omega | rfl
theorem hq_170 : hf_170 M a = 0 ↔ ¬ (0 ≤ a ∧ a ≤ 9999) := hq_169
theorem hq_171 : hf_171 M a = 0 ↔ ¬ (0 ≤ a ∧ a ≤ 100) := hq_169
theorem hq_172 : hf_172 M a = 0 ↔ ¬ (0 ≤ a ∧ a ≤ 4) := hq_169
theorem hq_173 : hf_173 M a = 0 ↔ ¬ (0 ≤ a ∧ a ≤ 7) := hq_169
theorem hq_174 : hf_174_8 M a = 0 ↔ ¬ (0 ≤ a ∧ a < M 12 3) := hq_has
theorem hq_175 : hf_175_8 M a = 0 ↔ ¬ (0 ≤ a ∧ a < M 10 3) := hq_has
theorem hq_184 : hf_184 M a = 0 ↔ ¬ (0 ≤ a ∧ a ≤ 9999) := hq_180
theorem hq_185 : hf_185 M a = 0 ↔ ¬ (0 ≤ a ∧ a ≤ 100) := hq_180
theorem hq_252 : hf_252 M a = 0 ↔ ¬ (0 ≤ a ∧ a ≤ 7) := hq_180
theorem hq_178 : hf_178_8 M a b = 0 ↔ ¬ ((0 ≤ a ∧ a < M 16 3) ∧ hR_get M 16 a 1 ≤ b ∧ b ≤ 9999) := by unfold hf_178_8; simp only [hq_169, hq_has]; (repeat' split) <;> constructor <;> intro h <;> first | omega | rfl
theorem hq_19 : hf_19_9 M b a = 0 ↔ ¬ ((0 ≤ a ∧ a < M 18 3) ∧ hR_get M 18 a 0 = b) := by unfold hf_19_9; simp only [hq_has]; (repeat' split) <;> constructor <;> intro h <;> first | omega | rfl
theorem hq_197 : hf_197_97 M = 0 ↔ ¬ M 98 4 = 250 := by unfold hf_197_97; simp only [Int.reduceToNat]; (repeat' split) <;> constructor <;> intro h <;> first | omega | rfl
theorem hq_182_0 (h : hBd M) : hf_182_97 M 0 a = 0 ↔ ¬ (0 ≤ a ∧ a < M 98 0) := by
  have hb : 0 ≤ M 98 0 ∧ M 98 0 ≤ 14 := h.1
  unfold hf_182_97
  simp only [Int.reduceToNat]
  rw [w32_id (by omega), hq_180]
  constructor <;> intro h9 <;> omega
theorem hq_182_1 (h : hBd M) : hf_182_97 M 1 a = 0 ↔ ¬ (0 ≤ a ∧ a < M 98 1) := by
  have hb : 0 ≤ M 98 1 ∧ M 98 1 ≤ 20 := h.2.1
  unfold hf_182_97
  simp only [Int.reduceToNat]
  rw [w32_id (by omega), hq_180]
  constructor <;> intro h9 <;> omega
theorem hq_182_2 (h : hBd M) : hf_182_97 M 2 a = 0 ↔ ¬ (0 ≤ a ∧ a < M 98 2) := by
  have hb : 0 ≤ M 98 2 ∧ M 98 2 ≤ 4 := h.2.2.1
  unfold hf_182_97
  simp only [Int.reduceToNat]
  rw [w32_id (by omega), hq_180]
  constructor <;> intro h9 <;> omega
theorem hq_182_3 (h : hBd M) : hf_182_97 M 3 a = 0 ↔ ¬ (0 ≤ a ∧ a < M 98 3) := by
  have hb : 0 ≤ M 98 3 ∧ M 98 3 ≤ 40 := h.2.2.2.1
  unfold hf_182_97
  simp only [Int.reduceToNat]
  rw [w32_id (by omega), hq_180]
  constructor <;> intro h9 <;> omega
theorem hq_182_4 (h : hBd M) : hf_182_97 M 4 a = 0 ↔ ¬ (0 ≤ a ∧ a < M 98 4) := by
  have hb : 0 ≤ M 98 4 ∧ M 98 4 ≤ 250 := h.2.2.2.2.1
  unfold hf_182_97
  simp only [Int.reduceToNat]
  rw [w32_id (by omega), hq_180]
  constructor <;> intro h9 <;> omega
theorem hq_182_5 (h : hBd M) : hf_182_97 M 5 a = 0 ↔ ¬ (0 ≤ a ∧ a < M 98 5) := by
  have hb : 0 ≤ M 98 5 ∧ M 98 5 ≤ 10 := h.2.2.2.2.2.1
  unfold hf_182_97
  simp only [Int.reduceToNat]
  rw [w32_id (by omega), hq_180]
  constructor <;> intro h9 <;> omega
theorem hq_198 (h : hBd M) : hf_198_97 M a = 0 ↔ ¬ ((0 ≤ a ∧ a < M 98 4) ∧ hf_194_97 M a 0 = 0) := by unfold hf_198_97; simp only [hq_182_4 h]; (repeat' split) <;> constructor <;> intro h <;> first | omega | rfl
theorem hq_200 (h : hBd M) : hf_200_97 M a b = 0 ↔ ¬ ((0 ≤ a ∧ a < M 98 3) ∧ hf_199_97 M a ≤ b ∧ b ≤ 9999) := by unfold hf_200_97; simp only [hq_182_3 h, hq_180]; (repeat' split) <;> constructor <;> intro h <;> first | omega | rfl
theorem hv_194 (ha : 0 ≤ a ∧ a < 250) (hb : 0 ≤ b ∧ b < 12) : hf_194_97 M a b = M 98 (350 + 12 * a.toNat + b.toNat) := by
  unfold hf_194_97
  rw [w32_id (x := 12 * a) (by omega), w32_id (x := 350 + 12 * a) (by omega), w32_id (by omega), show (350 + 12 * a + b).toNat = 350 + 12 * a.toNat + b.toNat by omega]
theorem hv_199 (ha : 0 ≤ a ∧ a < 40) : hf_199_97 M a = M 98 (151 + 5 * a.toNat) := by
  unfold hf_199_97
  rw [w32_id (x := 5 * a) (by omega), w32_id (x := 150 + 5 * a) (by omega), w32_id (by omega), show (150 + 5 * a + 1).toNat = 151 + 5 * a.toNat by omega]
theorem hG_10 (h : hTb M) (ha : 0 ≤ a ∧ a < 14) (hb : 0 ≤ b ∧ b < 4) : hR_get M 10 a b = M 11 (4 * a.toNat + b.toNat) := by
  have ht := h.t10
  unfold hR_get
  rw [if_neg (by omega), if_neg (by omega), if_neg (by omega), if_pos (by omega), ht.2]
  rw [show w32 (w32 (a * 4) + b) = a * 4 + b from by rw [w32_id (x := a * 4) (by omega), w32_id (by omega)], show (a * 4 + b).toNat = 4 * a.toNat + b.toNat by omega]
theorem hS_10 {x : Int} (h : hTb M) (ha : 0 ≤ a ∧ a < 14) (hb : 0 ≤ b ∧ b < 4) : hR_set M 10 a b x = zput M 11 (4 * a.toNat + b.toNat) x := by
  have ht := h.t10
  unfold hR_set
  rw [if_neg (by omega), if_neg (by omega), if_neg (by omega), if_pos (by omega), ht.2]
  rw [show w32 (w32 (a * 4) + b) = a * 4 + b from by rw [w32_id (x := a * 4) (by omega), w32_id (by omega)], show (a * 4 + b).toNat = 4 * a.toNat + b.toNat by omega]
theorem hO_10 (h : hTb M) (hu : 0 ≤ M 10 3 ∧ M 10 3 < 14) : hR_open M 10 = (M 10 3, zput M 10 3 (M 10 3 + 1)) := by
  have ht := h.t10
  unfold hR_open
  rw [if_pos (by omega), qput_eq, w32_id (x := M 10 3 + 1) (by omega), w32_id (by omega), show M 10 3 + 1 - 1 = M 10 3 by omega]
theorem hF_10 (h : hTb M) (hu : 14 ≤ M 10 3) : hR_open M 10 = (-4, M) := by
  have ht := h.t10
  unfold hR_open
  rw [if_neg (by omega)]
theorem hG_12 (h : hTb M) (ha : 0 ≤ a ∧ a < 20) (hb : 0 ≤ b ∧ b < 3) : hR_get M 12 a b = M 13 (3 * a.toNat + b.toNat) := by
  have ht := h.t12
  unfold hR_get
  rw [if_neg (by omega), if_neg (by omega), if_neg (by omega), if_pos (by omega), ht.2]
  rw [show w32 (w32 (a * 3) + b) = a * 3 + b from by rw [w32_id (x := a * 3) (by omega), w32_id (by omega)], show (a * 3 + b).toNat = 3 * a.toNat + b.toNat by omega]
theorem hS_12 {x : Int} (h : hTb M) (ha : 0 ≤ a ∧ a < 20) (hb : 0 ≤ b ∧ b < 3) : hR_set M 12 a b x = zput M 13 (3 * a.toNat + b.toNat) x := by
  have ht := h.t12
  unfold hR_set
  rw [if_neg (by omega), if_neg (by omega), if_neg (by omega), if_pos (by omega), ht.2]
  rw [show w32 (w32 (a * 3) + b) = a * 3 + b from by rw [w32_id (x := a * 3) (by omega), w32_id (by omega)], show (a * 3 + b).toNat = 3 * a.toNat + b.toNat by omega]
theorem hO_12 (h : hTb M) (hu : 0 ≤ M 12 3 ∧ M 12 3 < 20) : hR_open M 12 = (M 12 3, zput M 12 3 (M 12 3 + 1)) := by
  have ht := h.t12
  unfold hR_open
  rw [if_pos (by omega), qput_eq, w32_id (x := M 12 3 + 1) (by omega), w32_id (by omega), show M 12 3 + 1 - 1 = M 12 3 by omega]
theorem hF_12 (h : hTb M) (hu : 20 ≤ M 12 3) : hR_open M 12 = (-4, M) := by
  have ht := h.t12
  unfold hR_open
  rw [if_neg (by omega)]
theorem hG_14 (h : hTb M) (ha : 0 ≤ a ∧ a < 4) (hb : 0 ≤ b ∧ b < 2) : hR_get M 14 a b = M 15 (2 * a.toNat + b.toNat) := by
  have ht := h.t14
  unfold hR_get
  rw [if_neg (by omega), if_neg (by omega), if_neg (by omega), if_pos (by omega), ht.2]
  rw [show w32 (w32 (a * 2) + b) = a * 2 + b from by rw [w32_id (x := a * 2) (by omega), w32_id (by omega)], show (a * 2 + b).toNat = 2 * a.toNat + b.toNat by omega]
theorem hS_14 {x : Int} (h : hTb M) (ha : 0 ≤ a ∧ a < 4) (hb : 0 ≤ b ∧ b < 2) : hR_set M 14 a b x = zput M 15 (2 * a.toNat + b.toNat) x := by
  have ht := h.t14
  unfold hR_set
  rw [if_neg (by omega), if_neg (by omega), if_neg (by omega), if_pos (by omega), ht.2]
  rw [show w32 (w32 (a * 2) + b) = a * 2 + b from by rw [w32_id (x := a * 2) (by omega), w32_id (by omega)], show (a * 2 + b).toNat = 2 * a.toNat + b.toNat by omega]
theorem hO_14 (h : hTb M) (hu : 0 ≤ M 14 3 ∧ M 14 3 < 4) : hR_open M 14 = (M 14 3, zput M 14 3 (M 14 3 + 1)) := by
  have ht := h.t14
  unfold hR_open
  rw [if_pos (by omega), qput_eq, w32_id (x := M 14 3 + 1) (by omega), w32_id (by omega), show M 14 3 + 1 - 1 = M 14 3 by omega]
theorem hF_14 (h : hTb M) (hu : 4 ≤ M 14 3) : hR_open M 14 = (-4, M) := by
  have ht := h.t14
  unfold hR_open
  rw [if_neg (by omega)]
theorem hG_16 (h : hTb M) (ha : 0 ≤ a ∧ a < 40) (hb : 0 ≤ b ∧ b < 5) : hR_get M 16 a b = M 17 (5 * a.toNat + b.toNat) := by
  have ht := h.t16
  unfold hR_get
  rw [if_neg (by omega), if_neg (by omega), if_neg (by omega), if_pos (by omega), ht.2]
  rw [show w32 (w32 (a * 5) + b) = a * 5 + b from by rw [w32_id (x := a * 5) (by omega), w32_id (by omega)], show (a * 5 + b).toNat = 5 * a.toNat + b.toNat by omega]
theorem hS_16 {x : Int} (h : hTb M) (ha : 0 ≤ a ∧ a < 40) (hb : 0 ≤ b ∧ b < 5) : hR_set M 16 a b x = zput M 17 (5 * a.toNat + b.toNat) x := by
  have ht := h.t16
  unfold hR_set
  rw [if_neg (by omega), if_neg (by omega), if_neg (by omega), if_pos (by omega), ht.2]
  rw [show w32 (w32 (a * 5) + b) = a * 5 + b from by rw [w32_id (x := a * 5) (by omega), w32_id (by omega)], show (a * 5 + b).toNat = 5 * a.toNat + b.toNat by omega]
theorem hO_16 (h : hTb M) (hu : 0 ≤ M 16 3 ∧ M 16 3 < 40) : hR_open M 16 = (M 16 3, zput M 16 3 (M 16 3 + 1)) := by
  have ht := h.t16
  unfold hR_open
  rw [if_pos (by omega), qput_eq, w32_id (x := M 16 3 + 1) (by omega), w32_id (by omega), show M 16 3 + 1 - 1 = M 16 3 by omega]
theorem hF_16 (h : hTb M) (hu : 40 ≤ M 16 3) : hR_open M 16 = (-4, M) := by
  have ht := h.t16
  unfold hR_open
  rw [if_neg (by omega)]
theorem hG_18 (h : hTb M) (ha : 0 ≤ a ∧ a < 250) (hb : 0 ≤ b ∧ b < 11) : hR_get M 18 a b = M 19 (11 * a.toNat + b.toNat) := by
  have ht := h.t18
  unfold hR_get
  rw [if_neg (by omega), if_neg (by omega), if_neg (by omega), if_pos (by omega), ht.2]
  rw [show w32 (w32 (a * 11) + b) = a * 11 + b from by rw [w32_id (x := a * 11) (by omega), w32_id (by omega)], show (a * 11 + b).toNat = 11 * a.toNat + b.toNat by omega]
theorem hS_18 {x : Int} (h : hTb M) (ha : 0 ≤ a ∧ a < 250) (hb : 0 ≤ b ∧ b < 11) : hR_set M 18 a b x = zput M 19 (11 * a.toNat + b.toNat) x := by
  have ht := h.t18
  unfold hR_set
  rw [if_neg (by omega), if_neg (by omega), if_neg (by omega), if_pos (by omega), ht.2]
  rw [show w32 (w32 (a * 11) + b) = a * 11 + b from by rw [w32_id (x := a * 11) (by omega), w32_id (by omega)], show (a * 11 + b).toNat = 11 * a.toNat + b.toNat by omega]
theorem hO_18 (h : hTb M) (hu : 0 ≤ M 18 3 ∧ M 18 3 < 250) : hR_open M 18 = (M 18 3, zput M 18 3 (M 18 3 + 1)) := by
  have ht := h.t18
  unfold hR_open
  rw [if_pos (by omega), qput_eq, w32_id (x := M 18 3 + 1) (by omega), w32_id (by omega), show M 18 3 + 1 - 1 = M 18 3 by omega]
theorem hF_18 (h : hTb M) (hu : 250 ≤ M 18 3) : hR_open M 18 = (-4, M) := by
  have ht := h.t18
  unfold hR_open
  rw [if_neg (by omega)]
theorem hG_20 (h : hTb M) (ha : 0 ≤ a ∧ a < 8) (hb : 0 ≤ b ∧ b < 81) : hR_get M 20 a b = M 21 (81 * a.toNat + b.toNat) := by
  have ht := h.t20
  unfold hR_get
  rw [if_neg (by omega), if_neg (by omega), if_neg (by omega), if_pos (by omega), ht.2]
  rw [show w32 (w32 (a * 81) + b) = a * 81 + b from by rw [w32_id (x := a * 81) (by omega), w32_id (by omega)], show (a * 81 + b).toNat = 81 * a.toNat + b.toNat by omega]
theorem hS_20 {x : Int} (h : hTb M) (ha : 0 ≤ a ∧ a < 8) (hb : 0 ≤ b ∧ b < 81) : hR_set M 20 a b x = zput M 21 (81 * a.toNat + b.toNat) x := by
  have ht := h.t20
  unfold hR_set
  rw [if_neg (by omega), if_neg (by omega), if_neg (by omega), if_pos (by omega), ht.2]
  rw [show w32 (w32 (a * 81) + b) = a * 81 + b from by rw [w32_id (x := a * 81) (by omega), w32_id (by omega)], show (a * 81 + b).toNat = 81 * a.toNat + b.toNat by omega]
theorem hO_20 (h : hTb M) (hu : 0 ≤ M 20 3 ∧ M 20 3 < 8) : hR_open M 20 = (M 20 3, zput M 20 3 (M 20 3 + 1)) := by
  have ht := h.t20
  unfold hR_open
  rw [if_pos (by omega), qput_eq, w32_id (x := M 20 3 + 1) (by omega), w32_id (by omega), show M 20 3 + 1 - 1 = M 20 3 by omega]
theorem hF_20 (h : hTb M) (hu : 8 ≤ M 20 3) : hR_open M 20 = (-4, M) := by
  have ht := h.t20
  unfold hR_open
  rw [if_neg (by omega)]
theorem hG_22 (h : hTb M) (ha : 0 ≤ a ∧ a < 10) (hb : 0 ≤ b ∧ b < 164) : hR_get M 22 a b = M 23 (164 * a.toNat + b.toNat) := by
  have ht := h.t22
  unfold hR_get
  rw [if_neg (by omega), if_neg (by omega), if_neg (by omega), if_pos (by omega), ht.2]
  rw [show w32 (w32 (a * 164) + b) = a * 164 + b from by rw [w32_id (x := a * 164) (by omega), w32_id (by omega)], show (a * 164 + b).toNat = 164 * a.toNat + b.toNat by omega]
theorem hS_22 {x : Int} (h : hTb M) (ha : 0 ≤ a ∧ a < 10) (hb : 0 ≤ b ∧ b < 164) : hR_set M 22 a b x = zput M 23 (164 * a.toNat + b.toNat) x := by
  have ht := h.t22
  unfold hR_set
  rw [if_neg (by omega), if_neg (by omega), if_neg (by omega), if_pos (by omega), ht.2]
  rw [show w32 (w32 (a * 164) + b) = a * 164 + b from by rw [w32_id (x := a * 164) (by omega), w32_id (by omega)], show (a * 164 + b).toNat = 164 * a.toNat + b.toNat by omega]
theorem hO_22 (h : hTb M) (hu : 0 ≤ M 22 3 ∧ M 22 3 < 10) : hR_open M 22 = (M 22 3, zput M 22 3 (M 22 3 + 1)) := by
  have ht := h.t22
  unfold hR_open
  rw [if_pos (by omega), qput_eq, w32_id (x := M 22 3 + 1) (by omega), w32_id (by omega), show M 22 3 + 1 - 1 = M 22 3 by omega]
theorem hF_22 (h : hTb M) (hu : 10 ≤ M 22 3) : hR_open M 22 = (-4, M) := by
  have ht := h.t22
  unfold hR_open
  rw [if_neg (by omega)]
theorem hG_24 (h : hTb M) (ha : 0 ≤ a ∧ a < 12) (hb : 0 ≤ b ∧ b < 2) : hR_get M 24 a b = M 25 (2 * a.toNat + b.toNat) := by
  have ht := h.t24
  unfold hR_get
  rw [if_neg (by omega), if_neg (by omega), if_neg (by omega), if_pos (by omega), ht.2]
  rw [show w32 (w32 (a * 2) + b) = a * 2 + b from by rw [w32_id (x := a * 2) (by omega), w32_id (by omega)], show (a * 2 + b).toNat = 2 * a.toNat + b.toNat by omega]
theorem hS_24 {x : Int} (h : hTb M) (ha : 0 ≤ a ∧ a < 12) (hb : 0 ≤ b ∧ b < 2) : hR_set M 24 a b x = zput M 25 (2 * a.toNat + b.toNat) x := by
  have ht := h.t24
  unfold hR_set
  rw [if_neg (by omega), if_neg (by omega), if_neg (by omega), if_pos (by omega), ht.2]
  rw [show w32 (w32 (a * 2) + b) = a * 2 + b from by rw [w32_id (x := a * 2) (by omega), w32_id (by omega)], show (a * 2 + b).toNat = 2 * a.toNat + b.toNat by omega]
theorem hO_24 (h : hTb M) (hu : 0 ≤ M 24 3 ∧ M 24 3 < 12) : hR_open M 24 = (M 24 3, zput M 24 3 (M 24 3 + 1)) := by
  have ht := h.t24
  unfold hR_open
  rw [if_pos (by omega), qput_eq, w32_id (x := M 24 3 + 1) (by omega), w32_id (by omega), show M 24 3 + 1 - 1 = M 24 3 by omega]
theorem hF_24 (h : hTb M) (hu : 12 ≤ M 24 3) : hR_open M 24 = (-4, M) := by
  have ht := h.t24
  unfold hR_open
  rw [if_neg (by omega)]
theorem hS_neg {r : Nat} {x : Int} (ha : a < 0) : hR_set M r a b x = M := by unfold hR_set; rw [if_pos ha]
end HQ
def hLn (g f : Nat → Int) (s N : Nat) : Prop := ∀ j, j < N → g j = f (s + j)
def hSt3 (g f : Nat → Int) : Prop := ∀ i, i < 20 → g (3 * i) = f (80 + 3 * i)
def hMR (f : Nat → Int) : Prop := ∀ i, i < 40 → (0 ≤ f (151 + 5 * i) ∧ f (151 + 5 * i) ≤ 9999) ∧ (f (154 + 5 * i) = 0 ∨ f (154 + 5 * i) = 1)
def hAc (g f : Nat → Int) : Prop := ∀ i, i < 250 → (∀ k, k < 8 → g (11 * i + k) = f (350 + 12 * i + k)) ∧ (f (350 + 12 * i) ≠ 3 → g (11 * i + 8) = f (358 + 12 * i)) ∧ (f (350 + 12 * i) = 3 → g (11 * i + 8) = f (359 + 12 * i) ∧ g (11 * i + 9) = f (360 + 12 * i) ∧ g (11 * i + 10) = f (361 + 12 * i)) ∧ (0 ≤ f (351 + 12 * i) ∧ f (351 + 12 * i) ≤ 9999)
def hc0 (u : Int) (g f : Nat → Int) : Prop := u = f 0 ∧ hLn g f 20 56
def hc1 (u : Int) (g f : Nat → Int) : Prop := u = f 1 ∧ hSt3 g f
def hc2 (u : Int) (g f : Nat → Int) : Prop := u = f 2 ∧ hLn g f 140 8
def hc3 (u : Int) (g f : Nat → Int) : Prop := u = f 3 ∧ hLn g f 150 200 ∧ hMR f
def hc4 (u : Int) (g f : Nat → Int) : Prop := u = f 4 ∧ hAc g f
def hc5 (g f : Nat → Int) : Prop := hLn g f 3350 648
def hc6 (u : Int) (g f : Nat → Int) : Prop := u = f 6 ∧ hLn g f 5640 24
def hc7 (x y : Int) (f : Nat → Int) : Prop := x = f 7 ∧ y = f 8 ∧ 0 ≤ f 7 ∧ f 7 ≤ 1000
def hHs (M : zM) (b : Nat) (f : Nat → Int) : Prop := hc0 (M (b + 1) 3) (M (b + 2)) f ∧ hc1 (M (b + 3) 3) (M (b + 4)) f ∧ hc2 (M (b + 5) 3) (M (b + 6)) f ∧ hc3 (M (b + 7) 3) (M (b + 8)) f ∧ hc4 (M (b + 9) 3) (M (b + 10)) f ∧ hc5 (M (b + 12)) f ∧ hc6 (M (b + 15) 3) (M (b + 16)) f ∧ hc7 (M b 8) (M b 9) f
section HC
variable {u x y : Int} {g f f' : Nat → Int} {s N : Nat}
theorem hLn.fr (h : hLn g f s N) (e : ∀ j, s ≤ j → j < s + N → f' j = f j) : hLn g f' s N := fun j hj => by rw [e (s + j) (by omega) (by omega)]; exact h j hj
theorem hLn.up {k : Nat} (h : hLn g f s N) : hLn (hup g k x) (hup f (s + k) x) s N := fun j hj => by
  by_cases e : j = k
  · subst e; rw [hup_eq, hup_eq]
  · rw [hup_ne e, hup_ne (by omega)]; exact h j hj
theorem hLn.gf {g' : Nat → Int} (h : hLn g f s N) (e : ∀ j, j < N → g' j = g j) (e2 : ∀ j, j < N → f' (s + j) = f (s + j)) : hLn g' f' s N := fun j hj => by rw [e j hj, e2 j hj]; exact h j hj
theorem hc0.fr (h : hc0 u g f) (e : ∀ j, (j = 0 ∨ (20 ≤ j ∧ j < 76)) → f' j = f j) : hc0 u g f' := ⟨by rw [e 0 (.inl rfl)]; exact h.1, h.2.fr (fun j h1 h2 => e j (.inr ⟨h1, by omega⟩))⟩
theorem hc1.fr (h : hc1 u g f) (e : ∀ j, (j = 1 ∨ (80 ≤ j ∧ j < 140 ∧ (j - 80) % 3 = 0)) → f' j = f j) : hc1 u g f' := ⟨by rw [e 1 (.inl rfl)]; exact h.1, fun i hi => by rw [e _ (.inr (by omega))]; exact h.2 i hi⟩
theorem hc2.fr (h : hc2 u g f) (e : ∀ j, (j = 2 ∨ (140 ≤ j ∧ j < 148)) → f' j = f j) : hc2 u g f' := ⟨by rw [e 2 (.inl rfl)]; exact h.1, h.2.fr (fun j h1 h2 => e j (.inr ⟨h1, by omega⟩))⟩
theorem hc3.fr (h : hc3 u g f) (e : ∀ j, (j = 3 ∨ (150 ≤ j ∧ j < 350)) → f' j = f j) : hc3 u g f' := ⟨by rw [e 3 (.inl rfl)]; exact h.1, h.2.1.fr (fun j h1 h2 => e j (.inr ⟨h1, by omega⟩)), fun i hi => by rw [e _ (.inr (by omega)), e _ (.inr (by omega))]; exact h.2.2 i hi⟩
theorem hAc.fr (h : hAc g f) (e : ∀ j, (350 ≤ j ∧ j < 3350) → f' j = f j) : hAc g f' := fun i hi => by
  have q := h i hi
  refine ⟨fun k hk => ?_, ?_, ?_, ?_⟩
  · rw [e _ (by omega)]; exact q.1 k hk
  · rw [e _ (by omega), e _ (by omega)]; exact q.2.1
  · rw [e (350 + 12 * i) (by omega), e (359 + 12 * i) (by omega), e (360 + 12 * i) (by omega), e (361 + 12 * i) (by omega)]; exact q.2.2.1
  · rw [e _ (by omega)]; exact q.2.2.2
theorem hc4.fr (h : hc4 u g f) (e : ∀ j, (j = 4 ∨ (350 ≤ j ∧ j < 3350)) → f' j = f j) : hc4 u g f' := ⟨by rw [e 4 (.inl rfl)]; exact h.1, h.2.fr (fun j hj => e j (.inr hj))⟩
theorem hc5.fr (h : hc5 g f) (e : ∀ j, (3350 ≤ j ∧ j < 3998) → f' j = f j) : hc5 g f' := hLn.fr h (fun j h1 h2 => e j ⟨h1, by omega⟩)
theorem hc6.fr (h : hc6 u g f) (e : ∀ j, (j = 6 ∨ (5640 ≤ j ∧ j < 5664)) → f' j = f j) : hc6 u g f' := ⟨by rw [e 6 (.inl rfl)]; exact h.1, h.2.fr (fun j h1 h2 => e j (.inr ⟨h1, by omega⟩))⟩
theorem hc7.fr (h : hc7 x y f) (e : ∀ j, (j = 7 ∨ j = 8) → f' j = f j) : hc7 x y f' := by unfold hc7; rw [e 7 (.inl rfl), e 8 (.inr rfl)]; exact h
end HC
theorem hHs.fr {M M' : zM} {b : Nat} {f f' : Nat → Int} (h : hHs M b f) (e : ∀ r, ((b ≤ r ∧ r ≤ b + 10) ∨ r = b + 12 ∨ r = b + 15 ∨ r = b + 16) → M' r = M r) (e2 : ∀ j, j < 5664 → j ≠ 5 → ¬ (4000 ≤ j ∧ j < 5640) → ¬ (80 ≤ j ∧ j < 140 ∧ (j - 80) % 3 ≠ 0) → f' j = f j) : hHs M' b f' := by
  unfold hHs
  rw [e b (by omega), e (b + 1) (by omega), e (b + 2) (by omega), e (b + 3) (by omega), e (b + 4) (by omega), e (b + 5) (by omega), e (b + 6) (by omega), e (b + 7) (by omega), e (b + 8) (by omega), e (b + 9) (by omega), e (b + 10) (by omega), e (b + 12) (by omega), e (b + 15) (by omega), e (b + 16) (by omega)]
  obtain ⟨h0, h1, h2, h3, h4, h5, h6, h7⟩ := h
  exact ⟨h0.fr (fun j hj => e2 j (by omega) (by omega) (by omega) (by omega)), h1.fr (fun j hj => e2 j (by omega) (by omega) (by omega) (by omega)), h2.fr (fun j hj => e2 j (by omega) (by omega) (by omega) (by omega)), h3.fr (fun j hj => e2 j (by omega) (by omega) (by omega) (by omega)), h4.fr (fun j hj => e2 j (by omega) (by omega) (by omega) (by omega)), h5.fr (fun j hj => e2 j (by omega) (by omega) (by omega) (by omega)), h6.fr (fun j hj => e2 j (by omega) (by omega) (by omega) (by omega)), h7.fr (fun j hj => e2 j (by omega) (by omega) (by omega) (by omega))⟩
theorem hHs.t0 {M M' : zM} (h : hHs M 9 (M 98)) (e9 : M' 9 = M 9) (e12 : M' 12 = M 12) (e13 : M' 13 = M 13) (e14 : M' 14 = M 14) (e15 : M' 15 = M 15) (e16 : M' 16 = M 16) (e17 : M' 17 = M 17) (e18 : M' 18 = M 18) (e19 : M' 19 = M 19) (e21 : M' 21 = M 21) (e24 : M' 24 = M 24) (e25 : M' 25 = M 25) (es : ∀ j, j ≠ 0 → ¬ (20 ≤ j ∧ j < 76) → M' 98 j = M 98 j) (hn : hc0 (M' 10 3) (M' 11) (M' 98)) : hHs M' 9 (M' 98) := by
  obtain ⟨h0, h1, h2, h3, h4, h5, h6, h7⟩ := h
  exact ⟨hn, (by show hc1 (M' 12 3) (M' 13) (M' 98); rw [show M' 12 3 = M 12 3 from congrFun e12 3, e13]; exact h1.fr (fun j hj => es j (by omega) (by omega))), (by show hc2 (M' 14 3) (M' 15) (M' 98); rw [show M' 14 3 = M 14 3 from congrFun e14 3, e15]; exact h2.fr (fun j hj => es j (by omega) (by omega))), (by show hc3 (M' 16 3) (M' 17) (M' 98); rw [show M' 16 3 = M 16 3 from congrFun e16 3, e17]; exact h3.fr (fun j hj => es j (by omega) (by omega))), (by show hc4 (M' 18 3) (M' 19) (M' 98); rw [show M' 18 3 = M 18 3 from congrFun e18 3, e19]; exact h4.fr (fun j hj => es j (by omega) (by omega))), (by show hc5 (M' 21) (M' 98); rw [e21]; exact h5.fr (fun j hj => es j (by omega) (by omega))), (by show hc6 (M' 24 3) (M' 25) (M' 98); rw [show M' 24 3 = M 24 3 from congrFun e24 3, e25]; exact h6.fr (fun j hj => es j (by omega) (by omega))), (by show hc7 (M' 9 8) (M' 9 9) (M' 98); rw [e9]; exact h7.fr (fun j hj => es j (by omega) (by omega)))⟩
theorem hHs.t1 {M M' : zM} (h : hHs M 9 (M 98)) (e9 : M' 9 = M 9) (e10 : M' 10 = M 10) (e11 : M' 11 = M 11) (e14 : M' 14 = M 14) (e15 : M' 15 = M 15) (e16 : M' 16 = M 16) (e17 : M' 17 = M 17) (e18 : M' 18 = M 18) (e19 : M' 19 = M 19) (e21 : M' 21 = M 21) (e24 : M' 24 = M 24) (e25 : M' 25 = M 25) (es : ∀ j, j ≠ 1 → ¬ (80 ≤ j ∧ j < 140) → M' 98 j = M 98 j) (hn : hc1 (M' 12 3) (M' 13) (M' 98)) : hHs M' 9 (M' 98) := by
  obtain ⟨h0, h1, h2, h3, h4, h5, h6, h7⟩ := h
  exact ⟨(by show hc0 (M' 10 3) (M' 11) (M' 98); rw [show M' 10 3 = M 10 3 from congrFun e10 3, e11]; exact h0.fr (fun j hj => es j (by omega) (by omega))), hn, (by show hc2 (M' 14 3) (M' 15) (M' 98); rw [show M' 14 3 = M 14 3 from congrFun e14 3, e15]; exact h2.fr (fun j hj => es j (by omega) (by omega))), (by show hc3 (M' 16 3) (M' 17) (M' 98); rw [show M' 16 3 = M 16 3 from congrFun e16 3, e17]; exact h3.fr (fun j hj => es j (by omega) (by omega))), (by show hc4 (M' 18 3) (M' 19) (M' 98); rw [show M' 18 3 = M 18 3 from congrFun e18 3, e19]; exact h4.fr (fun j hj => es j (by omega) (by omega))), (by show hc5 (M' 21) (M' 98); rw [e21]; exact h5.fr (fun j hj => es j (by omega) (by omega))), (by show hc6 (M' 24 3) (M' 25) (M' 98); rw [show M' 24 3 = M 24 3 from congrFun e24 3, e25]; exact h6.fr (fun j hj => es j (by omega) (by omega))), (by show hc7 (M' 9 8) (M' 9 9) (M' 98); rw [e9]; exact h7.fr (fun j hj => es j (by omega) (by omega)))⟩
theorem hHs.t2 {M M' : zM} (h : hHs M 9 (M 98)) (e9 : M' 9 = M 9) (e10 : M' 10 = M 10) (e11 : M' 11 = M 11) (e12 : M' 12 = M 12) (e13 : M' 13 = M 13) (e16 : M' 16 = M 16) (e17 : M' 17 = M 17) (e18 : M' 18 = M 18) (e19 : M' 19 = M 19) (e21 : M' 21 = M 21) (e24 : M' 24 = M 24) (e25 : M' 25 = M 25) (es : ∀ j, j ≠ 2 → ¬ (140 ≤ j ∧ j < 148) → M' 98 j = M 98 j) (hn : hc2 (M' 14 3) (M' 15) (M' 98)) : hHs M' 9 (M' 98) := by
  obtain ⟨h0, h1, h2, h3, h4, h5, h6, h7⟩ := h
  exact ⟨(by show hc0 (M' 10 3) (M' 11) (M' 98); rw [show M' 10 3 = M 10 3 from congrFun e10 3, e11]; exact h0.fr (fun j hj => es j (by omega) (by omega))), (by show hc1 (M' 12 3) (M' 13) (M' 98); rw [show M' 12 3 = M 12 3 from congrFun e12 3, e13]; exact h1.fr (fun j hj => es j (by omega) (by omega))), hn, (by show hc3 (M' 16 3) (M' 17) (M' 98); rw [show M' 16 3 = M 16 3 from congrFun e16 3, e17]; exact h3.fr (fun j hj => es j (by omega) (by omega))), (by show hc4 (M' 18 3) (M' 19) (M' 98); rw [show M' 18 3 = M 18 3 from congrFun e18 3, e19]; exact h4.fr (fun j hj => es j (by omega) (by omega))), (by show hc5 (M' 21) (M' 98); rw [e21]; exact h5.fr (fun j hj => es j (by omega) (by omega))), (by show hc6 (M' 24 3) (M' 25) (M' 98); rw [show M' 24 3 = M 24 3 from congrFun e24 3, e25]; exact h6.fr (fun j hj => es j (by omega) (by omega))), (by show hc7 (M' 9 8) (M' 9 9) (M' 98); rw [e9]; exact h7.fr (fun j hj => es j (by omega) (by omega)))⟩
theorem hHs.t3 {M M' : zM} (h : hHs M 9 (M 98)) (e9 : M' 9 = M 9) (e10 : M' 10 = M 10) (e11 : M' 11 = M 11) (e12 : M' 12 = M 12) (e13 : M' 13 = M 13) (e14 : M' 14 = M 14) (e15 : M' 15 = M 15) (e18 : M' 18 = M 18) (e19 : M' 19 = M 19) (e21 : M' 21 = M 21) (e24 : M' 24 = M 24) (e25 : M' 25 = M 25) (es : ∀ j, j ≠ 3 → ¬ (150 ≤ j ∧ j < 350) → M' 98 j = M 98 j) (hn : hc3 (M' 16 3) (M' 17) (M' 98)) : hHs M' 9 (M' 98) := by
  obtain ⟨h0, h1, h2, h3, h4, h5, h6, h7⟩ := h
  exact ⟨(by show hc0 (M' 10 3) (M' 11) (M' 98); rw [show M' 10 3 = M 10 3 from congrFun e10 3, e11]; exact h0.fr (fun j hj => es j (by omega) (by omega))), (by show hc1 (M' 12 3) (M' 13) (M' 98); rw [show M' 12 3 = M 12 3 from congrFun e12 3, e13]; exact h1.fr (fun j hj => es j (by omega) (by omega))), (by show hc2 (M' 14 3) (M' 15) (M' 98); rw [show M' 14 3 = M 14 3 from congrFun e14 3, e15]; exact h2.fr (fun j hj => es j (by omega) (by omega))), hn, (by show hc4 (M' 18 3) (M' 19) (M' 98); rw [show M' 18 3 = M 18 3 from congrFun e18 3, e19]; exact h4.fr (fun j hj => es j (by omega) (by omega))), (by show hc5 (M' 21) (M' 98); rw [e21]; exact h5.fr (fun j hj => es j (by omega) (by omega))), (by show hc6 (M' 24 3) (M' 25) (M' 98); rw [show M' 24 3 = M 24 3 from congrFun e24 3, e25]; exact h6.fr (fun j hj => es j (by omega) (by omega))), (by show hc7 (M' 9 8) (M' 9 9) (M' 98); rw [e9]; exact h7.fr (fun j hj => es j (by omega) (by omega)))⟩
theorem hHs.t4 {M M' : zM} (h : hHs M 9 (M 98)) (e9 : M' 9 = M 9) (e10 : M' 10 = M 10) (e11 : M' 11 = M 11) (e12 : M' 12 = M 12) (e13 : M' 13 = M 13) (e14 : M' 14 = M 14) (e15 : M' 15 = M 15) (e16 : M' 16 = M 16) (e17 : M' 17 = M 17) (e21 : M' 21 = M 21) (e24 : M' 24 = M 24) (e25 : M' 25 = M 25) (es : ∀ j, j ≠ 4 → ¬ (350 ≤ j ∧ j < 3350) → M' 98 j = M 98 j) (hn : hc4 (M' 18 3) (M' 19) (M' 98)) : hHs M' 9 (M' 98) := by
  obtain ⟨h0, h1, h2, h3, h4, h5, h6, h7⟩ := h
  exact ⟨(by show hc0 (M' 10 3) (M' 11) (M' 98); rw [show M' 10 3 = M 10 3 from congrFun e10 3, e11]; exact h0.fr (fun j hj => es j (by omega) (by omega))), (by show hc1 (M' 12 3) (M' 13) (M' 98); rw [show M' 12 3 = M 12 3 from congrFun e12 3, e13]; exact h1.fr (fun j hj => es j (by omega) (by omega))), (by show hc2 (M' 14 3) (M' 15) (M' 98); rw [show M' 14 3 = M 14 3 from congrFun e14 3, e15]; exact h2.fr (fun j hj => es j (by omega) (by omega))), (by show hc3 (M' 16 3) (M' 17) (M' 98); rw [show M' 16 3 = M 16 3 from congrFun e16 3, e17]; exact h3.fr (fun j hj => es j (by omega) (by omega))), hn, (by show hc5 (M' 21) (M' 98); rw [e21]; exact h5.fr (fun j hj => es j (by omega) (by omega))), (by show hc6 (M' 24 3) (M' 25) (M' 98); rw [show M' 24 3 = M 24 3 from congrFun e24 3, e25]; exact h6.fr (fun j hj => es j (by omega) (by omega))), (by show hc7 (M' 9 8) (M' 9 9) (M' 98); rw [e9]; exact h7.fr (fun j hj => es j (by omega) (by omega)))⟩
theorem hHs.t5 {M M' : zM} (h : hHs M 9 (M 98)) (e9 : M' 9 = M 9) (e10 : M' 10 = M 10) (e11 : M' 11 = M 11) (e12 : M' 12 = M 12) (e13 : M' 13 = M 13) (e14 : M' 14 = M 14) (e15 : M' 15 = M 15) (e16 : M' 16 = M 16) (e17 : M' 17 = M 17) (e18 : M' 18 = M 18) (e19 : M' 19 = M 19) (e24 : M' 24 = M 24) (e25 : M' 25 = M 25) (es : ∀ j, ¬ (3350 ≤ j ∧ j < 3998) → M' 98 j = M 98 j) (hn : hc5 (M' 21) (M' 98)) : hHs M' 9 (M' 98) := by
  obtain ⟨h0, h1, h2, h3, h4, h5, h6, h7⟩ := h
  exact ⟨(by show hc0 (M' 10 3) (M' 11) (M' 98); rw [show M' 10 3 = M 10 3 from congrFun e10 3, e11]; exact h0.fr (fun j hj => es j (by omega))), (by show hc1 (M' 12 3) (M' 13) (M' 98); rw [show M' 12 3 = M 12 3 from congrFun e12 3, e13]; exact h1.fr (fun j hj => es j (by omega))), (by show hc2 (M' 14 3) (M' 15) (M' 98); rw [show M' 14 3 = M 14 3 from congrFun e14 3, e15]; exact h2.fr (fun j hj => es j (by omega))), (by show hc3 (M' 16 3) (M' 17) (M' 98); rw [show M' 16 3 = M 16 3 from congrFun e16 3, e17]; exact h3.fr (fun j hj => es j (by omega))), (by show hc4 (M' 18 3) (M' 19) (M' 98); rw [show M' 18 3 = M 18 3 from congrFun e18 3, e19]; exact h4.fr (fun j hj => es j (by omega))), hn, (by show hc6 (M' 24 3) (M' 25) (M' 98); rw [show M' 24 3 = M 24 3 from congrFun e24 3, e25]; exact h6.fr (fun j hj => es j (by omega))), (by show hc7 (M' 9 8) (M' 9 9) (M' 98); rw [e9]; exact h7.fr (fun j hj => es j (by omega)))⟩
theorem hHs.t6 {M M' : zM} (h : hHs M 9 (M 98)) (e9 : M' 9 = M 9) (e10 : M' 10 = M 10) (e11 : M' 11 = M 11) (e12 : M' 12 = M 12) (e13 : M' 13 = M 13) (e14 : M' 14 = M 14) (e15 : M' 15 = M 15) (e16 : M' 16 = M 16) (e17 : M' 17 = M 17) (e18 : M' 18 = M 18) (e19 : M' 19 = M 19) (e21 : M' 21 = M 21) (es : ∀ j, j ≠ 6 → ¬ (5640 ≤ j ∧ j < 5664) → M' 98 j = M 98 j) (hn : hc6 (M' 24 3) (M' 25) (M' 98)) : hHs M' 9 (M' 98) := by
  obtain ⟨h0, h1, h2, h3, h4, h5, h6, h7⟩ := h
  exact ⟨(by show hc0 (M' 10 3) (M' 11) (M' 98); rw [show M' 10 3 = M 10 3 from congrFun e10 3, e11]; exact h0.fr (fun j hj => es j (by omega) (by omega))), (by show hc1 (M' 12 3) (M' 13) (M' 98); rw [show M' 12 3 = M 12 3 from congrFun e12 3, e13]; exact h1.fr (fun j hj => es j (by omega) (by omega))), (by show hc2 (M' 14 3) (M' 15) (M' 98); rw [show M' 14 3 = M 14 3 from congrFun e14 3, e15]; exact h2.fr (fun j hj => es j (by omega) (by omega))), (by show hc3 (M' 16 3) (M' 17) (M' 98); rw [show M' 16 3 = M 16 3 from congrFun e16 3, e17]; exact h3.fr (fun j hj => es j (by omega) (by omega))), (by show hc4 (M' 18 3) (M' 19) (M' 98); rw [show M' 18 3 = M 18 3 from congrFun e18 3, e19]; exact h4.fr (fun j hj => es j (by omega) (by omega))), (by show hc5 (M' 21) (M' 98); rw [e21]; exact h5.fr (fun j hj => es j (by omega) (by omega))), hn, (by show hc7 (M' 9 8) (M' 9 9) (M' 98); rw [e9]; exact h7.fr (fun j hj => es j (by omega) (by omega)))⟩
theorem hHs.t7 {M M' : zM} (h : hHs M 9 (M 98)) (e : ∀ r, 10 ≤ r → r ≤ 25 → M' r = M r) (es : ∀ j, ¬ (j = 7 ∨ j = 8) → M' 98 j = M 98 j) (hn : hc7 (M' 9 8) (M' 9 9) (M' 98)) : hHs M' 9 (M' 98) := by
  obtain ⟨h0, h1, h2, h3, h4, h5, h6, h7⟩ := h
  unfold hHs
  rw [e (9 + 1) (by omega) (by omega), e (9 + 2) (by omega) (by omega), e (9 + 3) (by omega) (by omega), e (9 + 4) (by omega) (by omega), e (9 + 5) (by omega) (by omega), e (9 + 6) (by omega) (by omega), e (9 + 7) (by omega) (by omega), e (9 + 8) (by omega) (by omega), e (9 + 9) (by omega) (by omega), e (9 + 10) (by omega) (by omega), e (9 + 12) (by omega) (by omega), e (9 + 15) (by omega) (by omega), e (9 + 16) (by omega) (by omega)]
  exact ⟨h0.fr (fun j hj => es j (by omega)), h1.fr (fun j hj => es j (by omega)), h2.fr (fun j hj => es j (by omega)), h3.fr (fun j hj => es j (by omega)), h4.fr (fun j hj => es j (by omega)), h5.fr (fun j hj => es j (by omega)), h6.fr (fun j hj => es j (by omega)), hn⟩
theorem hHs.cp {M M' : zM} {b b' : Nat} {f f' : Nat → Int} (h : hHs M b f) (u0 : M' (b' + 1) 3 = M (b + 1) 3) (u1 : M' (b' + 3) 3 = M (b + 3) 3) (u2 : M' (b' + 5) 3 = M (b + 5) 3) (u3 : M' (b' + 7) 3 = M (b + 7) 3) (u4 : M' (b' + 9) 3 = M (b + 9) 3) (u6 : M' (b' + 15) 3 = M (b + 15) 3) (c0 : ∀ j, j < 56 → M' (b' + 2) j = M (b + 2) j) (c1 : ∀ j, j < 60 → M' (b' + 4) j = M (b + 4) j) (c2 : ∀ j, j < 8 → M' (b' + 6) j = M (b + 6) j) (c3 : ∀ j, j < 200 → M' (b' + 8) j = M (b + 8) j) (c4 : ∀ j, j < 2750 → M' (b' + 10) j = M (b + 10) j) (c5 : ∀ j, j < 648 → M' (b' + 12) j = M (b + 12) j) (c6 : ∀ j, j < 24 → M' (b' + 16) j = M (b + 16) j) (d7 : M' b' 8 = M b 8) (d8 : M' b' 9 = M b 9) (ef : ∀ j, j < 5664 → f' j = f j) : hHs M' b' f' := by
  obtain ⟨h0, h1, h2, h3, h4, h5, h6, h7⟩ := h
  refine ⟨⟨by rw [u0, ef 0 (by decide)]; exact h0.1, h0.2.gf c0 (fun j hj => ef _ (by omega))⟩, ⟨by rw [u1, ef 1 (by decide)]; exact h1.1, fun i hi => by rw [c1 _ (by omega), ef _ (by omega)]; exact h1.2 i hi⟩, ⟨by rw [u2, ef 2 (by decide)]; exact h2.1, h2.2.gf c2 (fun j hj => ef _ (by omega))⟩, ⟨by rw [u3, ef 3 (by decide)]; exact h3.1, h3.2.1.gf c3 (fun j hj => ef _ (by omega)), fun i hi => by rw [ef _ (by omega), ef _ (by omega)]; exact h3.2.2 i hi⟩, ⟨by rw [u4, ef 4 (by decide)]; exact h4.1, fun i hi => ?_⟩, hLn.gf h5 c5 (fun j hj => ef _ (by omega)), ⟨by rw [u6, ef 6 (by decide)]; exact h6.1, h6.2.gf c6 (fun j hj => ef _ (by omega))⟩, ?_⟩
  · have q := h4.2 i hi
    refine ⟨fun k hk => ?_, ?_, ?_, ?_⟩
    · rw [c4 _ (by omega), ef _ (by omega)]; exact q.1 k hk
    · rw [c4 _ (by omega), ef _ (by omega), ef _ (by omega)]; exact q.2.1
    · rw [c4 (11 * i + 8) (by omega), c4 (11 * i + 9) (by omega), c4 (11 * i + 10) (by omega), ef (350 + 12 * i) (by omega), ef (359 + 12 * i) (by omega), ef (360 + 12 * i) (by omega), ef (361 + 12 * i) (by omega)]; exact q.2.2.1
    · rw [ef _ (by omega)]; exact q.2.2.2
  · unfold hc7; rw [d7, d8, ef 7 (by decide), ef 8 (by decide)]; exact h7
