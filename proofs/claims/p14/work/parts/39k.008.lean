theorem hTb.row {M : zM} {r s n : Nat} {v : Nat → Int} (h : hTb M) (hr : r % 2 = 1) : hTb (zrow M r s n v) := by
  unfold hTb
  rw [zrow_ne (show 10 ≠ r by omega), zrow_ne (show 10 ≠ r by omega), zrow_ne (show 12 ≠ r by omega), zrow_ne (show 12 ≠ r by omega), zrow_ne (show 14 ≠ r by omega), zrow_ne (show 14 ≠ r by omega), zrow_ne (show 16 ≠ r by omega), zrow_ne (show 16 ≠ r by omega), zrow_ne (show 18 ≠ r by omega), zrow_ne (show 18 ≠ r by omega), zrow_ne (show 20 ≠ r by omega), zrow_ne (show 20 ≠ r by omega), zrow_ne (show 22 ≠ r by omega), zrow_ne (show 22 ≠ r by omega), zrow_ne (show 24 ≠ r by omega), zrow_ne (show 24 ≠ r by omega)]
  exact h
