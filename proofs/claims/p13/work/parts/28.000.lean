/-! THE MODEL'S METHODS, BY PROGRAM -/
theorem qm_222_97 {n d : Nat} {M : zM} (hd : 1 ≤ d) (hC : qMI M)   (hp0 : 0 ≤ M 97 10 ∧ M 97 10 ≤ 90) : qOkP n d 222 [.inr (.inr (some 97))] 1 M (fun v => ∃ x : Int, v = some (.inl x) ∧ ((-2147483648) ≤ x ∧ x ≤ 2147483647) ∧ (x ≠ -1 → 1 ≤ M 97 10 ∧ x = M 107 (M 97 10 - 1).toNat)) := by
  have hz := zp_222
  have hd0 : 0 < d := by omega
  have r1 := hC.rg 97 10 (by decide) (by decide)
  show zG n (0, 0) d 222 (0, [.inr (.inr (some 97))], []) M _
  refine zG_blk (c' := (4, [.inr (.inr (some 97))], [.inl (M 97 10)])) 2 hd0 hz (by rfl) ?_
  have j22 : ∀ (v2 : Int) , (-2147483648) ≤ v2 ∧ v2 ≤ 2147483647 → (v2 ≠ -1 → 1 ≤ M 97 10 ∧ v2 = M 107 (M 97 10 - 1).toNat) → zG n (0, 0) d 222 (22, [.inr (.inr (some 97))], [.inl v2]) M (fun v M' => M' = M ∧ ∃ x : Int, v = some (.inl x) ∧ ((-2147483648) ≤ x ∧ x ≤ 2147483647) ∧ (x ≠ -1 → 1 ≤ M 97 10 ∧ x = M 107 (M 97 10 - 1).toNat)) := by
    intro v2 hv2 hx0_22
    exact zG_ret hd0 hz rfl rfl ⟨rfl, _, rfl, by omega, by omega⟩
  refine zG_if_ne hd0 hz rfl (fun hb3 => ?_) (fun hb3 => ?_)
  · obtain ⟨x4, hx4⟩ : ∃ x : Int, x = w32 ((M 97 10) - 1) := ⟨_, rfl⟩
    have hx4r : x4 = ((M 97 10) - 1 + 2147483648) % 4294967296 - 2147483648 := hx4
    refine zG_blk (c' := (21, [.inr (.inr (some 97))], [.inl x4, .inr (.inr (some 107))])) 6 hd0 hz (by subst hx4; rfl) ?_
    refine zG_iald hd0 hz rfl rfl (.inl rfl) (by omega) ?_
    obtain ⟨x5, hx5⟩ : ∃ x : Int, x = M 107 (x4 : Int).toNat := ⟨_, rfl⟩
    rw [← hx5]
    have hx5r : qin x5 := by rw [hx5]; exact hC.ra 107 _ (by decide) (by decide)
    have hq9 : x5 = M 107 (M 97 10 - 1).toNat := by rw [hx5, show x4 = M 97 10 - 1 by omega]
    show zG n (0, 0) d 222 (22, [.inr (.inr (some 97))], [.inl x5]) M _
    exact j22 x5 (by omega) (by omega)
  · refine zG_blk (c' := (22, [.inr (.inr (some 97))], [.inl (-1)])) 2 hd0 hz (by rfl) ?_
    exact j22 (-1) (by first | decide | omega) (by omega)
