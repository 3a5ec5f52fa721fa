/-! MORE ON BITS -/
theorem qbor_in (a b p : Int) (m : Nat) (hm : m ≤ 31) (hp : ((2 ^ m : Nat) : Int) = p) (ha : 0 ≤ a ∧ a < p) (hb : 0 ≤ b ∧ b < p) : 0 ≤ zbor a b ∧ zbor a b < p ∧ a ≤ zbor a b ∧ b ≤ zbor a b := by
  have h31 : 2 ^ m ≤ 2 ^ 31 := Nat.pow_le_pow_right (by decide) hm
  have e := qbor_N a b (by omega) (by omega)
  have h1 : a.toNat ||| b.toNat < 2 ^ m := Nat.or_lt_two_pow (by omega) (by omega)
  have h2 : a.toNat ≤ a.toNat ||| b.toNat := Nat.left_le_or
  have h3 : b.toNat ≤ a.toNat ||| b.toNat := Nat.right_le_or
  rw [e]
  omega
theorem qbxor_in (a b p : Int) (m : Nat) (hm : m ≤ 31) (hp : ((2 ^ m : Nat) : Int) = p) (ha : 0 ≤ a ∧ a < p) (hb : 0 ≤ b ∧ b < p) : 0 ≤ zbxor a b ∧ zbxor a b < p := by
  have h31 : 2 ^ m ≤ 2 ^ 31 := Nat.pow_le_pow_right (by decide) hm
  have e := qbxor_N a b (by omega) (by omega)
  have h1 : a.toNat ^^^ b.toNat < 2 ^ m := Nat.xor_lt_two_pow (by omega) (by omega)
  rw [e]
  omega
theorem qp2 : ∀ k : Nat, k + 1 ≤ 2 ^ k
  | 0 => Nat.le_refl _
  | k + 1 => by have := qp2 k; rw [Nat.pow_succ]; omega
theorem qshl1_in (k P : Int) (K : Nat) (hP : ((2 ^ K : Nat) : Int) = P) (hK : K ≤ 30) (hk : 0 ≤ k ∧ k ≤ K) : k + 1 ≤ zbshl 1 k ∧ zbshl 1 k ≤ P := by
  have h30 : 2 ^ K ≤ 2 ^ 30 := Nat.pow_le_pow_right (by decide) hK
  have h1 : 2 ^ k.toNat ≤ 2 ^ K := Nat.pow_le_pow_right (by decide) (by omega)
  have h2 := qp2 k.toNat
  have e := qbshl_N 1 k (by omega) (by omega) (by show 1 * 2 ^ k.toNat < _; omega)
  rw [e]
  show k + 1 ≤ ((1 * 2 ^ k.toNat : Nat) : Int) ∧ ((1 * 2 ^ k.toNat : Nat) : Int) ≤ P
  omega
theorem qshl_in (a k A P : Int) (K : Nat) (hP : ((2 ^ K : Nat) : Int) = P) (hK : K ≤ 30) (hk : 0 ≤ k ∧ k ≤ K) (ha : 0 ≤ a ∧ a ≤ A) (hA : A * P < 2147483648) : 0 ≤ zbshl a k ∧ zbshl a k ≤ A * P := by
  have h1 : 2 ^ k.toNat ≤ 2 ^ K := Nat.pow_le_pow_right (by decide) (by omega)
  have h2 : a.toNat * 2 ^ k.toNat ≤ A.toNat * 2 ^ K := Nat.mul_le_mul (by omega) h1
  have h3 : ((A.toNat * 2 ^ K : Nat) : Int) = A * P := by rw [Int.natCast_mul, hP, Int.toNat_of_nonneg (by omega)]
  have e := qbshl_N a k (by omega) (by omega) (by omega)
  rw [e]
  omega
theorem qlow (p : Int) (hp : 1 ≤ p ∧ p ≤ 2147483647) : 1 ≤ zband p (w32 (-p)) ∧ zband p (w32 (-p)) ≤ p := by
  have h1 := qband_l p (w32 (-p)) (by omega) (w32_in _)
  refine ⟨?_, h1.2⟩
  by_cases h0 : zband p (w32 (-p)) = 0
  · exfalso
    have hw : w32 (-p) = -p := w32_id (by omega)
    rw [hw] at h0
    have hb : Int32.ofInt p &&& Int32.ofInt (-p) = 0 := by
      apply Int32.toInt_inj.mp
      exact h0
    have hb2 : (BitVec.ofInt 32 p) &&& (BitVec.ofInt 32 (-p)) = 0#32 := congrArg Int32.toBitVec hb
    have ha := BitVec.add_eq_or_of_and_eq_zero _ _ hb2
    have hs : BitVec.ofInt 32 p + BitVec.ofInt 32 (-p) = 0#32 := by
      rw [← BitVec.ofInt_add, Int.add_right_neg]; rfl
    rw [hs] at ha
    have hz := (BitVec.or_eq_zero_iff.mp ha.symm).1
    have hn := congrArg BitVec.toNat hz
    rw [qnat_of (by omega)] at hn
    have hn : p.toNat = 0 := hn
    omega
  · omega
