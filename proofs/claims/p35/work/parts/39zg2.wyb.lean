/-! SUBSETS IN THEIR ORDER -/
section WZ
theorem w2_and (s t x y : Nat) (hx : x < 2) (hy : y < 2) : (2 * s + x) &&& (2 * t + y) = 2 * (s &&& t) + (x &&& y) := by
  have q := and_pw 1 s t (x := x) (y := y) (by omega) (by omega)
  rw [Nat.pow_one] at q
  exact q
theorem w2_h {x F : Nat} (h : x &&& F = x) : x / 2 &&& F / 2 = x / 2 ∧ (x % 2 = 1 → F % 2 = 1) := by
  constructor
  · rw [← Nat.and_div_two, h]
  · intro e
    rw [← h] at e
    exact (Nat.and_mod_two_eq_one.mp e).2
theorem w2_le {x F : Nat} (h : x &&& F = x) : x ≤ F := by rw [← h]; exact Nat.and_le_right
/-- a subset's place among the subsets -/
noncomputable def wK : Nat → Nat → Nat → Nat
  | 0, _, _ => 0
  | k + 1, F, x => if F % 2 = 1 then x % 2 + 2 * wK k (F / 2) (x / 2) else wK k (F / 2) (x / 2)
theorem wK_s (k F x : Nat) : wK (k + 1) F x = if F % 2 = 1 then x % 2 + 2 * wK k (F / 2) (x / 2) else wK k (F / 2) (x / 2) := rfl
theorem qpc_s (k F : Nat) : qpc (k + 1) F = F % 2 + qpc k (F / 2) := rfl
theorem wK_0 : ∀ k F, wK k F 0 = 0
  | 0, _ => rfl
  | k + 1, F => by
    rw [wK_s, Nat.zero_div, wK_0 k (F / 2)]
    split <;> rfl
theorem wK_lt : ∀ k F x, wK k F x < 2 ^ qpc k F
  | 0, _, _ => by show 0 < 2 ^ 0; decide
  | k + 1, F, x => by
    have q := wK_lt k (F / 2) (x / 2)
    rw [wK_s, qpc_s]
    by_cases e : F % 2 = 1
    · rw [if_pos e, e, Nat.add_comm 1, Nat.pow_succ]; omega
    · rw [if_neg e, show F % 2 = 0 by omega, Nat.zero_add]; exact q
theorem wK_inj : ∀ k {F x y : Nat}, x < 2 ^ k → y < 2 ^ k → x &&& F = x → y &&& F = y → wK k F x = wK k F y → x = y
  | 0, _, x, y, hx, hy, _, _, _ => by rw [Nat.pow_zero] at hx hy; omega
  | k + 1, F, x, y, hx, hy, sx, sy, h => by
    have ax := w2_h sx
    have ay := w2_h sy
    rw [Nat.pow_succ] at hx hy
    rw [wK_s, wK_s] at h
    by_cases e : F % 2 = 1
    · rw [if_pos e, if_pos e] at h
      have q := wK_inj k (show x / 2 < 2 ^ k by omega) (show y / 2 < 2 ^ k by omega) ax.1 ay.1 (by omega)
      omega
    · rw [if_neg e, if_neg e] at h
      have q := wK_inj k (show x / 2 < 2 ^ k by omega) (show y / 2 < 2 ^ k by omega) ax.1 ay.1 h
      have := ax.2
      have := ay.2
      omega
/-- the next subset -/
theorem wNx : ∀ k {F x : Nat}, F < 2 ^ k → x &&& F = x → ((x + 2 ^ k - F - 1) &&& F = x) ∧ (wK k F ((x + 2 ^ k - F) % 2 ^ k &&& F) = if wK k F x + 1 = 2 ^ qpc k F then 0 else wK k F x + 1)
  | 0, F, x, hF, sx => by
    have l := w2_le sx
    rw [Nat.pow_zero] at hF
    rw [show F = 0 by omega, show x = 0 by omega]
    exact ⟨rfl, rfl⟩
  | k + 1, F, x, hF, sx => by
    have ax := w2_h sx
    have lx := w2_le sx
    have l1 := w2_le ax.1
    have hp : 0 < 2 ^ k := Nat.two_pow_pos _
    obtain ⟨P, hP⟩ : ∃ P, P = 2 ^ k := ⟨_, rfl⟩
    rw [Nat.pow_succ, ← hP] at hF
    rw [← hP] at hp
    have ih := wNx k (F := F / 2) (x := x / 2) (by omega) ax.1
    rw [← hP] at ih
    have hx2 : x = 2 * (x / 2) + x % 2 := by omega
    have hF2 : F = 2 * (F / 2) + F % 2 := by omega
    obtain ⟨x1, e1⟩ : ∃ x1, x1 = x / 2 := ⟨_, rfl⟩
    obtain ⟨F1, e2⟩ : ∃ F1, F1 = F / 2 := ⟨_, rfl⟩
    obtain ⟨z1, e3⟩ : ∃ z1, z1 = (x1 + P - F1) % P := ⟨_, rfl⟩
    rw [← e1, ← e2] at ih
    rw [← e3] at ih
    rw [wK_s k F x, wK_s k F, qpc_s, Nat.pow_succ, ← hP, ← e1, ← e2]
    rw [← e1] at hx2 ax l1
    rw [← e2] at hF2 ax l1
    rcases Nat.mod_two_eq_zero_or_one F with hb | hb
    · have ha : x % 2 = 0 := by have := ax.2; omega
      rw [hb] at hF2
      rw [ha] at hx2
      have A1 : x + P * 2 - F - 1 = 2 * (x1 + P - F1 - 1) + 1 := by omega
      have B1 : x + P * 2 - F = 2 * (x1 + P - F1) := by omega
      rw [if_neg (show ¬ F % 2 = 1 by omega), if_neg (show ¬ F % 2 = 1 by omega), hb, Nat.zero_add, A1, B1, Nat.mul_comm P 2, Nat.mul_mod_mul_left, ← e3]
      have c1 : (2 * (x1 + P - F1 - 1) + 1) &&& F = 2 * ((x1 + P - F1 - 1) &&& F1) := by
        rw [hF2, w2_and _ _ 1 0 (by decide) (by decide)]; rfl
      have c2 : 2 * z1 &&& F = 2 * (z1 &&& F1) := by
        have q := w2_and z1 F1 0 0 (by decide) (by decide)
        rw [Nat.add_zero] at q
        rw [hF2]
        exact q
      rw [c1, c2, ih.1, Nat.mul_div_cancel_left _ (by decide)]
      exact ⟨by omega, ih.2⟩
    · rw [hb] at hF2
      rw [if_pos hb, if_pos hb, hb]
      have pw : 2 ^ (1 + qpc k F1) = 2 * 2 ^ qpc k F1 := by rw [Nat.add_comm 1, Nat.pow_succ, Nat.mul_comm]
      rw [pw]
      rcases Nat.mod_two_eq_zero_or_one x with ha | ha
      · rw [ha] at hx2
        have A1 : x + P * 2 - F - 1 = 2 * (x1 + P - F1 - 1) + 0 := by omega
        have B1 : (x + P * 2 - F) % (P * 2) = 2 * (x1 + P - F1 - 1) + 1 := by rw [Nat.mod_eq_of_lt (by omega)]; omega
        have c1 : (2 * (x1 + P - F1 - 1) + 0) &&& F = 2 * ((x1 + P - F1 - 1) &&& F1) := by
          rw [hF2, w2_and _ _ 0 1 (by decide) (by decide)]; rfl
        have c2 : (2 * (x1 + P - F1 - 1) + 1) &&& F = 2 * ((x1 + P - F1 - 1) &&& F1) + 1 := by
          rw [hF2, w2_and _ _ 1 1 (by decide) (by decide)]; rfl
        rw [A1, B1, c1, c2, ih.1, ha]
        refine ⟨by omega, ?_⟩
        rw [if_neg (by omega), show (2 * x1 + 1) % 2 = 1 by omega, show (2 * x1 + 1) / 2 = x1 by omega]
        omega
      · rw [ha] at hx2
        have A1 : x + P * 2 - F - 1 = 2 * (x1 + P - F1 - 1) + 1 := by omega
        have B1 : x + P * 2 - F = 2 * (x1 + P - F1) := by omega
        have c1 : (2 * (x1 + P - F1 - 1) + 1) &&& F = 2 * ((x1 + P - F1 - 1) &&& F1) + 1 := by
          rw [hF2, w2_and _ _ 1 1 (by decide) (by decide)]; rfl
        have c2 : 2 * z1 &&& F = 2 * (z1 &&& F1) := by
          have q := w2_and z1 F1 0 1 (by decide) (by decide)
          rw [Nat.add_zero] at q
          rw [hF2]
          exact q
        rw [A1, B1, c1, ih.1, Nat.mul_comm P 2, Nat.mul_mod_mul_left, ← e3, c2, Nat.mul_div_cancel_left _ (by decide), ih.2, ha]
        refine ⟨by omega, ?_⟩
        rw [show 2 * (z1 &&& F1) % 2 = 0 by omega]
        by_cases w : wK k F1 x1 + 1 = 2 ^ qpc k F1
        · rw [if_pos w, if_pos (by omega)]
        · rw [if_neg w, if_neg (by omega)]; omega
/-- from the greatest down -/
theorem wDn : ∀ k {F x y : Nat}, x < 2 ^ k → x &&& F = x → y &&& F = y → y < x → y ≤ (x - 1) &&& F
  | 0, F, x, y, hx, _, _, h => by rw [Nat.pow_zero] at hx; omega
  | k + 1, F, x, y, hx, sx, sy, h => by
    have ax := w2_h sx
    have ay := w2_h sy
    rw [Nat.pow_succ] at hx
    have hF2 : F = 2 * (F / 2) + F % 2 := by omega
    rcases Nat.mod_two_eq_zero_or_one x with ha | ha
    · have e : x - 1 = 2 * (x / 2 - 1) + 1 := by omega
      have q : (x - 1) &&& F = 2 * ((x / 2 - 1) &&& F / 2) + (1 &&& F % 2) := by
        rw [e]
        have w := w2_and (x / 2 - 1) (F / 2) 1 (F % 2) (by decide) (by omega)
        rw [← hF2] at w
        exact w
      have r := wDn k (F := F / 2) (x := x / 2) (y := y / 2) (by omega) ax.1 ay.1 (by omega)
      have z : y % 2 ≤ 1 &&& F % 2 := by
        rcases Nat.mod_two_eq_zero_or_one y with c | c
        · omega
        · rw [ay.2 c, c]; exact Nat.le_refl _
      rw [q]; omega
    · have e : x - 1 = 2 * (x / 2) + 0 := by omega
      have b := ax.2 ha
      have q : (x - 1) &&& F = 2 * (x / 2) := by
        rw [e]
        have w := w2_and (x / 2) (F / 2) 0 (F % 2) (by decide) (by omega)
        rw [← hF2] at w
        rw [w, ax.1, Nat.zero_and, Nat.add_zero]
      rw [q]; omega
theorem wz_bv (x s : BitVec 32) : x &&& (s ^^^ BitVec.allOnes 32) = x ^^^ (x &&& s) := by
  apply BitVec.eq_of_getLsbD_eq
  intro i hi
  simp only [BitVec.getLsbD_xor, BitVec.getLsbD_and, BitVec.getLsbD_allOnes, decide_eq_true hi]
  cases x.getLsbD i <;> cases s.getLsbD i <;> rfl
theorem qbxor_N' {a : Int} {m : Nat} (ha : 0 ≤ a ∧ a ≤ 2147483647) (hb : 0 ≤ (m : Int) ∧ (m : Int) ≤ 2147483647) : zbxor a (m : Int) = ((a.toNat ^^^ m : Nat) : Int) := by
  have q := qbxor_N a (m : Int) ha hb
  rw [Int.toNat_natCast] at q
  exact q
/-- words: the next subset, the one before, what is left -/
theorem wz_sub {x F : Int} (hx : 0 ≤ x ∧ x ≤ 16383) (hF : 0 ≤ F ∧ F ≤ 16383) : zband (w32 (x - F)) F = (((x.toNat + 2 ^ 32 - F.toNat) % 2 ^ 32 &&& F.toNat : Nat) : Int) := by
  rw [w32_id (by omega)]
  unfold zband
  rw [← Int32.toInt_toBitVec]
  have e : (Int32.ofInt (x - F) &&& Int32.ofInt F).toBitVec = BitVec.ofInt 32 (x - F) &&& BitVec.ofInt 32 F := rfl
  have h1 : (BitVec.ofInt 32 (x - F)).toNat = (x.toNat + 2 ^ 32 - F.toNat) % 2 ^ 32 := by rw [BitVec.toNat_ofInt]; omega
  have hn : (BitVec.ofInt 32 (x - F) &&& BitVec.ofInt 32 F).toNat = (x.toNat + 2 ^ 32 - F.toNat) % 2 ^ 32 &&& F.toNat := by rw [BitVec.toNat_and, h1, qnat_of (by omega)]
  have hle : (x.toNat + 2 ^ 32 - F.toNat) % 2 ^ 32 &&& F.toNat ≤ F.toNat := Nat.and_le_right
  rw [e, BitVec.toInt_eq_toNat_of_lt (by omega), hn]
theorem wz_less {x s : Int} (hx : 0 ≤ x ∧ x ≤ 2147483647) (hs : 0 ≤ s ∧ s ≤ 2147483647) : zband x (zbxor s (-1)) = ((x.toNat ^^^ (x.toNat &&& s.toNat) : Nat) : Int) := by
  have hl : x.toNat &&& s.toNat ≤ x.toNat := Nat.and_le_left
  have a := qband_N x s hx hs
  rw [← qbxor_N' hx (show 0 ≤ ((x.toNat &&& s.toNat : Nat) : Int) ∧ ((x.toNat &&& s.toNat : Nat) : Int) ≤ 2147483647 by omega), ← a]
  unfold zband zbxor
  have im : ∀ z : Int32, Int32.ofInt z.toInt = z := fun z => Int32.ofInt_toInt z
  rw [im, im]
  have hm1 : (Int32.ofInt (-1)).toBitVec = BitVec.allOnes 32 := by decide
  have key : Int32.ofInt x &&& (Int32.ofInt s ^^^ Int32.ofInt (-1)) = Int32.ofInt x ^^^ (Int32.ofInt x &&& Int32.ofInt s) := by
    refine Int32.toBitVec_inj.mp ?_
    rw [Int32.toBitVec_and, Int32.toBitVec_xor, Int32.toBitVec_xor, Int32.toBitVec_and, hm1]
    exact wz_bv _ _
  rw [key]
end WZ
