section HL
variable {M : zM}
theorem hs_bits {x c : Int} (hx : 0 ≤ x ∧ x ≤ 16383) (hc : 0 ≤ c ∧ c ≤ 13) : (zband (zbshr x c) 1 = 1 → zbxor x (zbshl 1 c) = zband x (zbxor (zbshl 1 c) (-1))) ∧ (¬ zband (zbshr x c) 1 = 1 → zbxor x (zbshl 1 c) = zbor x (zbshl 1 c)) ∧ (0 ≤ zbxor x (zbshl 1 c) ∧ zbxor x (zbshl 1 c) ≤ 16383) := by
  have hm : zbshl 1 c = (2 ^ c.toNat : Nat) := by
    have h1 : 2 ^ c.toNat ≤ 2 ^ 13 := Nat.pow_le_pow_right (by decide) (by omega)
    rw [qbshl_N 1 c (by omega) (by omega) (by show 1 * 2 ^ c.toNat < _; omega)]
    show ((1 * 2 ^ c.toNat : Nat) : Int) = _
    rw [Nat.one_mul]
  have hp : 1 ≤ 2 ^ c.toNat ∧ 2 ^ c.toNat ≤ 8192 := ⟨Nat.one_le_two_pow, Nat.pow_le_pow_right (n := 2) (by decide) (show c.toNat ≤ 13 by omega)⟩
  have hb := qbit x c (by omega) (by omega)
  obtain ⟨m, hmm⟩ : ∃ m : Int, m = zbshl 1 c := ⟨_, rfl⟩
  rw [← hmm] at hm ⊢
  have hmr : 0 ≤ m ∧ m ≤ 8192 := by omega
  have hN := qband_N x m (by omega) (by omega)
  have two := hs_two (x := x.toNat) (c := c.toNat)
  rw [show m.toNat = 2 ^ c.toNat by omega] at hN
  have hx3 := qbxor_in x m 16384 14 (by decide) (by decide) (by omega) (by omega)
  have im : (Int32.ofInt m).toInt = m := by rw [Int32.toInt_ofInt_of_le (by omega) (by omega)]
  refine ⟨fun h => ?_, fun h => ?_, by omega⟩
  · have h2 : zband x m = m := by rw [hN, two.1 (by omega)]; omega
    have h3 : Int32.ofInt x &&& Int32.ofInt m = Int32.ofInt m := Int32.toInt_inj.mp (by rw [im]; exact h2)
    have h4 := hbv_set (x := (Int32.ofInt x).toBitVec) (m := (Int32.ofInt m).toBitVec) (by rw [← Int32.toBitVec_and]; exact congrArg Int32.toBitVec h3)
    have hm1 : (Int32.ofInt (-1)).toBitVec = BitVec.allOnes 32 := by decide
    have h5 : Int32.ofInt x ^^^ Int32.ofInt m = Int32.ofInt x &&& (Int32.ofInt m ^^^ Int32.ofInt (-1)) := Int32.toBitVec_inj.mp (by rw [Int32.toBitVec_xor, Int32.toBitVec_and, Int32.toBitVec_xor, hm1]; exact h4)
    have h6 : Int32.ofInt (zbxor m (-1)) = Int32.ofInt m ^^^ Int32.ofInt (-1) := Int32.ofInt_toInt _
    show (Int32.ofInt x ^^^ Int32.ofInt m).toInt = (Int32.ofInt x &&& Int32.ofInt (zbxor m (-1))).toInt
    rw [h5, h6]
  · have h2 : zband x m = 0 := by rw [hN, two.2 (by omega)]; rfl
    have h3 : Int32.ofInt x &&& Int32.ofInt m = 0 := Int32.toInt_inj.mp h2
    have h4 := hbv_clr (x := (Int32.ofInt x).toBitVec) (m := (Int32.ofInt m).toBitVec) (by rw [← Int32.toBitVec_and]; exact congrArg Int32.toBitVec h3)
    have h5 : Int32.ofInt x ^^^ Int32.ofInt m = Int32.ofInt x ||| Int32.ofInt m := Int32.toBitVec_inj.mp (by rw [Int32.toBitVec_xor, Int32.toBitVec_or]; exact h4)
    exact congrArg Int32.toInt h5
end HL
