theorem zrow_put {M : zM} {r s n b : Nat} {x : Int} {v : Nat → Int} (hb : b < n) : zput (zrow M r s n v) r (s + b) x = zrow M r s n (hup v b x) := by
  funext i j
  by_cases hi : i = r
  · subst hi
    by_cases hj : s ≤ j ∧ j < s + n
    · rw [zrow_in hj]
      by_cases hk : j = s + b
      · subst hk; rw [qput_eq, show s + b - s = b by omega, hup_eq]
      · rw [qput_nk hk, zrow_in hj, hup_ne (by omega)]
    · rw [zrow_out hj, qput_nk (by omega), zrow_out hj]
  · rw [zrow_ne hi, qput_ne hi, zrow_ne hi]
