section HK
variable {M : zM} {a b c d u x : Int} {v q : Nat → Int}
theorem hAct (h : hHs M 9 (M 98)) (hu : 0 ≤ u ∧ u < 250) (hu4 : u = M 98 4) (hby : q 3 < M 98 3 ∧ ((q 0 = 0 ∨ q 0 = 4) → q 4 < M 98 1)) (hr : hRel v q) : hHs (zput (hE (hD M u v) u q) 98 4 (u + 1)) 9 (zput (hE (hD M u v) u q) 98 4 (u + 1) 98) := by
  have gA : ∀ i k, i < 250 → k < 11 → (zput (hE (hD M u v) u q) 98 4 (u + 1)) 19 (11 * i + k) = if i = u.toNat then v k else M 19 (11 * i + k) := by
    intro i k hi hk
    rw [qput_ne (by decide)]
    unfold hE
    rw [zrow_ne (by decide)]
    unfold hD
    by_cases e : i = u.toNat
    · rw [if_pos e, zrow_in (by omega), show 11 * i + k - 11 * u.toNat = k by omega]
    · rw [if_neg e, zrow_out (by omega), qput_ne (by decide)]
  have fA : ∀ i k, i < 250 → k < 12 → (zput (hE (hD M u v) u q) 98 4 (u + 1)) 98 (350 + 12 * i + k) = if i = u.toNat then q k else M 98 (350 + 12 * i + k) := by
    intro i k hi hk
    rw [qput_nk (by omega)]
    unfold hE
    by_cases e : i = u.toNat
    · rw [if_pos e, zrow_in (by omega), show 350 + 12 * i + k - (350 + 12 * u.toNat) = k by omega]
    · rw [if_neg e, zrow_out (by omega)]; rfl
  have h4 := h.2.2.2.2.1.2
  refine hHs.t4 h rfl rfl rfl rfl rfl rfl rfl rfl rfl rfl rfl rfl (fun j h1 h2 => ?_) ⟨rfl, fun i hi => ?_⟩ (fun i hi h250 => ?_)
  · rw [qput_nk h1]
    unfold hE
    rw [zrow_out (by omega)]; rfl
  · have g8 := gA i 8 hi (by decide)
    have g9 := gA i 9 hi (by decide)
    have g10 := gA i 10 hi (by decide)
    have f0 := fA i 0 hi (by decide)
    have f1 := fA i 1 hi (by decide)
    have f7 := fA i 7 hi (by decide)
    have f8 := fA i 8 hi (by decide)
    have f9 := fA i 9 hi (by decide)
    have f10 := fA i 10 hi (by decide)
    have f11 := fA i 11 hi (by decide)
    rw [Nat.add_zero] at f0
    rw [show 350 + 12 * i + 1 = 351 + 12 * i by omega] at f1
    rw [show 350 + 12 * i + 7 = 357 + 12 * i by omega] at f7
    rw [show 350 + 12 * i + 8 = 358 + 12 * i by omega] at f8
    rw [show 350 + 12 * i + 9 = 359 + 12 * i by omega] at f9
    rw [show 350 + 12 * i + 10 = 360 + 12 * i by omega] at f10
    rw [show 350 + 12 * i + 11 = 361 + 12 * i by omega] at f11
    refine ⟨fun k hk => ?_, ?_, ?_, ?_, ?_⟩
    · rw [gA i k hi (by omega), fA i k hi (by omega)]
      by_cases e : i = u.toNat
      · rw [if_pos e, if_pos e]; exact hr.1 k hk
      · rw [if_neg e, if_neg e]; exact (h4 i hi).1 k hk
    · rw [g8, f0, f8]
      by_cases e : i = u.toNat
      · rw [if_pos e, if_pos e, if_pos e]; exact hr.2.1
      · rw [if_neg e, if_neg e, if_neg e]; exact (h4 i hi).2.1
    · rw [g8, g9, g10, f0, f9, f10, f11]
      by_cases e : i = u.toNat
      · simp only [if_pos e]; exact hr.2.2.1
      · simp only [if_neg e]; exact (h4 i hi).2.2.1
    · rw [f1]
      by_cases e : i = u.toNat
      · rw [if_pos e]; exact hr.2.2.2.1
      · rw [if_neg e]; exact (h4 i hi).2.2.2.1
    · rw [f7]
      by_cases e : i = u.toNat
      · rw [if_pos e]; exact hr.2.2.2.2
      · rw [if_neg e]; exact (h4 i hi).2.2.2.2
  · have e3 : (zput (hE (hD M u v) u q) 98 4 (u + 1)) 98 3 = M 98 3 := by
      rw [qput_nk (by decide)]
      unfold hE
      rw [zrow_out (by omega)]; rfl
    have e1 : (zput (hE (hD M u v) u q) 98 4 (u + 1)) 98 1 = M 98 1 := by
      rw [qput_nk (by decide)]
      unfold hE
      rw [zrow_out (by omega)]; rfl
    have f0 := fA i 0 h250 (by decide)
    have f4 := fA i 4 h250 (by decide)
    rw [Nat.add_zero] at f0
    rw [show 350 + 12 * i + 4 = 354 + 12 * i by omega] at f4
    have f3 := fA i 3 h250 (by decide)
    rw [show 350 + 12 * i + 3 = 353 + 12 * i by omega] at f3
    rw [qput_eq] at hi
    rw [e3, f3, e1, f0, f4]
    by_cases e : i = u.toNat
    · rw [if_pos e, if_pos e, if_pos e]; exact hby
    · rw [if_neg e, if_neg e, if_neg e]; exact h.2.2.2.2.2.2.2.2 i (by omega) h250
end HK
