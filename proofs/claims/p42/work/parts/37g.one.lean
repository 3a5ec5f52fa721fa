/-! THE CLASS'S METHODS, EXACTLY, BY PROGRAM -/
theorem qf_127_8 {n d : Nat} {M : zM} (hd : 2 ≤ d) (hC : qCI M)  (a1 : Int) (ha1 : (-2147483648) ≤ a1 ∧ a1 ≤ 2147483647) (a2 : Int) (ha2 : 0 ≤ a2 ∧ a2 ≤ 1) : qOkC n d 127 [.inr (.inr (some 8)), .inl a1, .inl a2] 4 [17] M (fun v M' => ∃ x : Int, v = some (.inl x) ∧ ((-3) ≤ x ∧ x ≤ 1) ∧ ((x = -2 ∧ ¬ (0 ≤ a1 ∧ a1 < M 16 3)) ∨ ((0 ≤ a1 ∧ a1 < M 16 3) ∧ x = -3 ∧ M 17 (a1 * 5 + 4 : Int).toNat = a2 ∧ M' 17 (a1 * 5 + 4 : Int).toNat = M 17 (a1 * 5 + 4 : Int).toNat) ∨ ((0 ≤ a1 ∧ a1 < M 16 3) ∧ x = 1 ∧ M 17 (a1 * 5 + 4 : Int).toNat ≠ a2 ∧ M' 17 (a1 * 5 + 4 : Int).toNat = a2)) ∧ (∀ j : Nat, (0 ≤ a1 ∧ a1 < M 16 3 → (j : Int) ≠ a1 * 5 + 4) → M' 17 j = M 17 j)) := by
  have hz : zP 127 = (zk_X10_tear, 4, (0, 0)) := rfl
  have hd0 : 0 < d := by omega
  have hW : qFr [17] M M := qFr.rfl
  have hX17_M : ∀ j : Nat, (0 ≤ a1 ∧ a1 < M 16 3 → (j : Int) ≠ a1 * 5 + 4) → M 17 j = M 17 j := fun _ _ => rfl
  have r1 := hC.rows 16 40 5 (by decide)
  show zG n (0, 0) d 127 (0, [.inr (.inr (some 8)), .inl a1, .inl a2, zN], []) M _
  refine zG_blk (c' := (8, [.inr (.inr (some 8)), .inl a1, .inl a2, zN], [.inl a1, .inr (.inr (some 16))])) 4 hd0 hz (by rfl) ?_
  refine zG_call hd0 hz (rfl : zP 102 = (zk_X8_has, 2, (0, 0))) rfl rfl (Nat.le_of_ble_eq_true rfl) ⟨Nat.le_refl _, Nat.le_refl _⟩ (qw_has (by omega) hC  (⟨by decide, rfl, rfl⟩ : qT n 16 40 5) a1 (by omega) ) (fun vr M2 hr => ?_)
  obtain ⟨hq, x3, rfl, hx3⟩ := hr
  replace hq := hq.symm; subst hq
  show zG n (0, 0) d 127 (11, [.inr (.inr (some 8)), .inl a1, .inl a2, zN], [.inl x3]) M _
  refine zG_if_ne hd0 hz rfl (fun hb4 => ?_) (fun hb4 => ?_)
  · refine zG_blk (c' := (18, [.inr (.inr (some 8)), .inl a1, .inl a2, zN], [.inl a2])) 1 hd0 hz (by rfl) ?_
    have j26 : ∀ (v5 : Int) , 0 ≤ v5 ∧ v5 ≤ 1 → (v5 = a2) → zG n (0, 0) d 127 (26, [.inr (.inr (some 8)), .inl a1, .inl a2, zN], [.inl v5]) M (fun v M' => (qCI M' ∧ qFr [17] M M') ∧ ∃ x : Int, v = some (.inl x) ∧ ((-3) ≤ x ∧ x ≤ 1) ∧ ((x = -2 ∧ ¬ (0 ≤ a1 ∧ a1 < M 16 3)) ∨ ((0 ≤ a1 ∧ a1 < M 16 3) ∧ x = -3 ∧ M 17 (a1 * 5 + 4 : Int).toNat = a2 ∧ M' 17 (a1 * 5 + 4 : Int).toNat = M 17 (a1 * 5 + 4 : Int).toNat) ∨ ((0 ≤ a1 ∧ a1 < M 16 3) ∧ x = 1 ∧ M 17 (a1 * 5 + 4 : Int).toNat ≠ a2 ∧ M' 17 (a1 * 5 + 4 : Int).toNat = a2)) ∧ (∀ j : Nat, (0 ≤ a1 ∧ a1 < M 16 3 → (j : Int) ≠ a1 * 5 + 4) → M' 17 j = M 17 j)) := by
      intro v5 hv5 hx0_26
      refine zG_blk (c' := (36, [.inr (.inr (some 8)), .inl a1, .inl a2, .inl v5], [.inl 4, .inl a1, .inr (.inr (some 16))])) 6 hd0 hz (by rfl) ?_
      refine zG_call hd0 hz (rfl : zP 106 = (zk_X8_get, 3, (0, 0))) rfl rfl (Nat.le_of_ble_eq_true rfl) ⟨Nat.le_refl _, Nat.le_refl _⟩ (qe_get (by omega) hC  (⟨by decide, rfl, rfl⟩ : qT n 16 40 5) a1 (by omega) 4 (by omega) ) (fun vr M6 hr => ?_)
      obtain ⟨hq, x7, rfl, hx7⟩ := hr
      replace hq := hq.symm; subst hq
      have hvx7 : 0 ≤ a1 ∧ a1 < 40 → x7 = M 17 (a1 * 5 + 4 : Int).toNat := fun h9 => hx7.2.1 ⟨h9, by omega⟩
      replace hx7 := hx7.1
      show zG n (0, 0) d 127 (39, [.inr (.inr (some 8)), .inl a1, .inl a2, .inl v5], [.inl x7]) M _
      refine zG_blk (c' := (40, [.inr (.inr (some 8)), .inl a1, .inl a2, .inl v5], [.inl v5, .inl x7])) 1 hd0 hz (by rfl) ?_
      refine zG_icmp_ne hd0 hz rfl (fun hb8 => ?_) (fun hb8 => ?_)
      · refine zG_blk (c' := (56, [.inr (.inr (some 8)), .inl a1, .inl a2, .inl v5], [.inl v5, .inl 4, .inl a1, .inr (.inr (some 16))])) 6 hd0 hz (by rfl) ?_
        refine zG_call hd0 hz (rfl : zP 107 = (zk_X8_set, 4, (0, 0))) rfl rfl (Nat.le_of_ble_eq_true rfl) ⟨Nat.le_refl _, Nat.le_refl _⟩ (qf_set (by omega) hC  (⟨by decide, rfl, rfl⟩ : qT n 16 40 5) a1 (by omega) 4 (by omega) v5 (by omega) ) (fun vr M9 hr => ?_)
        obtain ⟨⟨hCM9, hFM9⟩, rfl, hpx10_0, hpx10_1⟩ := hr
        have hWM9 : qFr [17] M M9 := hW.tr hFM9 (by decide)
        have e11 : M9 16 3 = M 16 3 := hFM9 16 3 (by decide)
        have hX17_M9 : ∀ j : Nat, (0 ≤ a1 ∧ a1 < M 16 3 → (j : Int) ≠ a1 * 5 + 4) → M9 17 j = M 17 j := fun j hj => (hpx10_1 j (by omega)).trans (hX17_M j hj)
        have hvx10 : 0 ≤ a1 ∧ a1 < 40 → M9 17 (a1 * 5 + 4 : Int).toNat = v5 := fun h9 => hpx10_0 ⟨h9, by omega⟩
        show zG n (0, 0) d 127 (59, [.inr (.inr (some 8)), .inl a1, .inl a2, .inl v5], []) M9 _
        refine zG_blk (c' := (60, [.inr (.inr (some 8)), .inl a1, .inl a2, .inl v5], [.inl 1])) 1 hd0 hz (by rfl) ?_
        exact zG_ret hd0 hz rfl rfl ⟨⟨hCM9, hWM9⟩, _, rfl, by omega, by omega, hX17_M9⟩
      · refine zG_blk (c' := (45, [.inr (.inr (some 8)), .inl a1, .inl a2, .inl v5], [.inl (-3)])) 1 hd0 hz (by rfl) ?_
        exact zG_ret hd0 hz rfl rfl ⟨⟨hC, hW⟩, _, rfl, by omega, by omega, hX17_M⟩
    refine zG_if_eq hd0 hz rfl (fun hb12 => ?_) (fun hb12 => ?_)
    · refine zG_blk (c' := (26, [.inr (.inr (some 8)), .inl a1, .inl a2, zN], [.inl 0])) 1 hd0 hz (by rfl) ?_
      exact j26 0 (by omega) (by omega)
    · refine zG_blk (c' := (26, [.inr (.inr (some 8)), .inl a1, .inl a2, zN], [.inl 1])) 2 hd0 hz (by rfl) ?_
      exact j26 1 (by omega) (by omega)
  · refine zG_blk (c' := (16, [.inr (.inr (some 8)), .inl a1, .inl a2, zN], [.inl (-2)])) 1 hd0 hz (by rfl) ?_
    exact zG_ret hd0 hz rfl rfl ⟨⟨hC, hW⟩, _, rfl, by omega, by omega, hX17_M⟩
theorem qf_137_8 {n d : Nat} {M : zM} (hd : 2 ≤ d) (hC : qCI M)  (a1 : Int) (ha1 : (-2147483648) ≤ a1 ∧ a1 ≤ 2147483647) : qOkC n d 137 [.inr (.inr (some 8)), .inl a1] 3 [9] M (fun v M' => ∃ x : Int, v = some (.inl x) ∧ ((-2147483648) ≤ x ∧ x ≤ 2147483647) ∧ ((x = -2 ∧ ¬ (0 ≤ a1 ∧ a1 ≤ 1000) ∧ M' 9 8 = M 9 8) ∨ (x = M 9 8 ∧ (0 ≤ a1 ∧ a1 ≤ 1000) ∧ M' 9 8 = a1)) ∧ (M' 9 9 = M 9 9)) := by
  have hz : zP 137 = (zk_X10_days, 3, (0, 0)) := rfl
  have hd0 : 0 < d := by omega
  have hW : qFr [9] M M := qFr.rfl
  have r1 := hC.rng 9 8 (by decide) (by decide)
  have r2 := hC.rng 9 9 (by decide) (by decide)
  show zG n (0, 0) d 137 (0, [.inr (.inr (some 8)), .inl a1, zN], []) M _
  refine zG_blk (c' := (5, [.inr (.inr (some 8)), .inl a1, zN], [.inl 1000, .inl 0, .inl a1])) 3 hd0 hz (by rfl) ?_
  refine zG_call hd0 hz (rfl : zP 169 = (zk_X10_within, 3, (0, 0))) rfl rfl (Nat.le_of_ble_eq_true rfl) ⟨Nat.le_refl _, Nat.le_refl _⟩ (qf_within (by omega) hC   a1 (by omega) 0 (by omega) 1000 (by omega) ) (fun vr M3 hr => ?_)
  obtain ⟨hq, x4, rfl, hx4⟩ := hr
  replace hq := hq.symm; subst hq
  show zG n (0, 0) d 137 (8, [.inr (.inr (some 8)), .inl a1, zN], [.inl x4]) M _
  refine zG_if_ne hd0 hz rfl (fun hb5 => ?_) (fun hb5 => ?_)
  · refine zG_blk (c' := (27, [.inr (.inr (some 8)), .inl a1, .inl (M 9 8)], [.inl a1, .inr (.inr (some 9))])) 7 hd0 hz (by rfl) ?_
    refine zG_putf (.inl rfl) hd0 hz rfl (by decide) rfl rfl ?_
    obtain ⟨M6, hM6⟩ : ∃ X : zM, X = zput M 9 8 a1 := ⟨_, rfl⟩
    rw [← hM6]
    have hCM6 : qCI M6 := by rw [hM6]; exact hC.put (r := 9) (k := 8) rfl (.inl (by omega))
    have hWM6 : qFr [9] M M6 := by rw [hM6]; exact hW.put (by decide)
    have e7 : M6 9 8 = a1 := by rw [hM6]; exact qput_eq
    show zG n (0, 0) d 137 (30, [.inr (.inr (some 8)), .inl a1, .inl (M 9 8)], []) M6 _
    refine zG_blk (c' := (31, [.inr (.inr (some 8)), .inl a1, .inl (M 9 8)], [.inl (M 9 8)])) 1 hd0 hz (by rfl) ?_
    exact zG_ret hd0 hz rfl rfl ⟨⟨hCM6, hWM6⟩, _, rfl, by omega, by omega, by omega⟩
  · refine zG_blk (c' := (13, [.inr (.inr (some 8)), .inl a1, zN], [.inl (-2)])) 1 hd0 hz (by rfl) ?_
    exact zG_ret hd0 hz rfl rfl ⟨⟨hC, hW⟩, _, rfl, by omega, by omega, by omega⟩
theorem qf_161_8 {n d : Nat} {M : zM} (hd : 2 ≤ d) (hC : qCI M)  (a1 : Int) (ha1 : (-2147483648) ≤ a1 ∧ a1 ≤ 2147483647) : qOkC n d 161 [.inr (.inr (some 8)), .inl a1] 3 [9] M (fun v M' => ∃ x : Int, v = some (.inl x) ∧ ((-2147483648) ≤ x ∧ x ≤ 2147483647) ∧ ((x = -2 ∧ ¬ (1 ≤ a1 ∧ a1 ≤ 10000) ∧ M' 9 9 = M 9 9) ∨ (x = M 9 9 ∧ (1 ≤ a1 ∧ a1 ≤ 10000) ∧ M' 9 9 = a1)) ∧ (M' 9 8 = M 9 8)) := by
  have hz : zP 161 = (zk_X10_odds, 3, (0, 0)) := rfl
  have hd0 : 0 < d := by omega
  have hW : qFr [9] M M := qFr.rfl
  have r1 := hC.rng 9 8 (by decide) (by decide)
  have r2 := hC.rng 9 9 (by decide) (by decide)
  show zG n (0, 0) d 161 (0, [.inr (.inr (some 8)), .inl a1, zN], []) M _
  refine zG_blk (c' := (5, [.inr (.inr (some 8)), .inl a1, zN], [.inl 10000, .inl 1, .inl a1])) 3 hd0 hz (by rfl) ?_
  refine zG_call hd0 hz (rfl : zP 169 = (zk_X10_within, 3, (0, 0))) rfl rfl (Nat.le_of_ble_eq_true rfl) ⟨Nat.le_refl _, Nat.le_refl _⟩ (qf_within (by omega) hC   a1 (by omega) 1 (by omega) 10000 (by omega) ) (fun vr M3 hr => ?_)
  obtain ⟨hq, x4, rfl, hx4⟩ := hr
  replace hq := hq.symm; subst hq
  show zG n (0, 0) d 161 (8, [.inr (.inr (some 8)), .inl a1, zN], [.inl x4]) M _
  refine zG_if_ne hd0 hz rfl (fun hb5 => ?_) (fun hb5 => ?_)
  · refine zG_blk (c' := (27, [.inr (.inr (some 8)), .inl a1, .inl (M 9 9)], [.inl a1, .inr (.inr (some 9))])) 7 hd0 hz (by rfl) ?_
    refine zG_putf (.inl rfl) hd0 hz rfl (by decide) rfl rfl ?_
    obtain ⟨M6, hM6⟩ : ∃ X : zM, X = zput M 9 9 a1 := ⟨_, rfl⟩
    rw [← hM6]
    have hCM6 : qCI M6 := by rw [hM6]; exact hC.put (r := 9) (k := 9) rfl (.inl (by omega))
    have hWM6 : qFr [9] M M6 := by rw [hM6]; exact hW.put (by decide)
    have e7 : M6 9 9 = a1 := by rw [hM6]; exact qput_eq
    show zG n (0, 0) d 161 (30, [.inr (.inr (some 8)), .inl a1, .inl (M 9 9)], []) M6 _
    refine zG_blk (c' := (31, [.inr (.inr (some 8)), .inl a1, .inl (M 9 9)], [.inl (M 9 9)])) 1 hd0 hz (by rfl) ?_
    exact zG_ret hd0 hz rfl rfl ⟨⟨hCM6, hWM6⟩, _, rfl, by omega, by omega, by omega⟩
  · refine zG_blk (c' := (13, [.inr (.inr (some 8)), .inl a1, zN], [.inl (-2)])) 1 hd0 hz (by rfl) ?_
    exact zG_ret hd0 hz rfl rfl ⟨⟨hC, hW⟩, _, rfl, by omega, by omega, by omega⟩
theorem qf_138_8 {n d : Nat} {M : zM} (hd : 2 ≤ d) (hC : qCI M)  (a1 : Int) (ha1 : (-2147483648) ≤ a1 ∧ a1 ≤ 2147483647) (a2 : Int) (ha2 : (-2147483648) ≤ a2 ∧ a2 ≤ 2147483647) : qOkP n d 138 [.inr (.inr (some 8)), .inl a1, .inl a2] 3 M (fun v => ∃ x : Int, v = some (.inl x) ∧ ((-2147483648) ≤ x ∧ x ≤ 2147483647) ∧ ((x = -2 ∧ ¬ (0 ≤ a1 ∧ a1 < M 18 3 ∧ 0 ≤ a2 ∧ a2 ≤ 7)) ∨ ((0 ≤ a1 ∧ a1 < M 18 3 ∧ 0 ≤ a2 ∧ a2 ≤ 7) ∧ x = M 19 (a1 * 11 + a2 : Int).toNat))) := by
  have hz : zP 138 = (zk_X10_about, 3, (0, 0)) := rfl
  have hd0 : 0 < d := by omega
  have r1 := hC.rows 18 250 11 (by decide)
  show zG n (0, 0) d 138 (0, [.inr (.inr (some 8)), .inl a1, .inl a2], []) M _
  refine zG_blk (c' := (8, [.inr (.inr (some 8)), .inl a1, .inl a2], [.inl a1, .inr (.inr (some 18))])) 4 hd0 hz (by rfl) ?_
  refine zG_call hd0 hz (rfl : zP 102 = (zk_X8_has, 2, (0, 0))) rfl rfl (Nat.le_of_ble_eq_true rfl) ⟨Nat.le_refl _, Nat.le_refl _⟩ (qw_has (by omega) hC  (⟨by decide, rfl, rfl⟩ : qT n 18 250 11) a1 (by omega) ) (fun vr M2 hr => ?_)
  obtain ⟨hq, x3, rfl, hx3⟩ := hr
  replace hq := hq.symm; subst hq
  show zG n (0, 0) d 138 (11, [.inr (.inr (some 8)), .inl a1, .inl a2], [.inl x3]) M _
  have j41 : ∀ (v4 : Int) , (-2147483648) ≤ v4 ∧ v4 ≤ 2147483647 → ((v4 = -2 ∧ ¬ (0 ≤ a1 ∧ a1 < M 18 3 ∧ 0 ≤ a2 ∧ a2 ≤ 7)) ∨ ((0 ≤ a1 ∧ a1 < M 18 3 ∧ 0 ≤ a2 ∧ a2 ≤ 7) ∧ v4 = M 19 (a1 * 11 + a2 : Int).toNat)) → zG n (0, 0) d 138 (41, [.inr (.inr (some 8)), .inl a1, .inl a2], [.inl v4]) M (fun v M' => M' = M ∧ ∃ x : Int, v = some (.inl x) ∧ ((-2147483648) ≤ x ∧ x ≤ 2147483647) ∧ ((x = -2 ∧ ¬ (0 ≤ a1 ∧ a1 < M 18 3 ∧ 0 ≤ a2 ∧ a2 ≤ 7)) ∨ ((0 ≤ a1 ∧ a1 < M 18 3 ∧ 0 ≤ a2 ∧ a2 ≤ 7) ∧ x = M 19 (a1 * 11 + a2 : Int).toNat))) := by
    intro v4 hv4 hx0_41
    exact zG_ret hd0 hz rfl rfl ⟨rfl, _, rfl, by omega, by omega⟩
  have j39 : (¬ (0 ≤ a1 ∧ a1 < M 18 3 ∧ 0 ≤ a2 ∧ a2 ≤ 7)) → zG n (0, 0) d 138 (39, [.inr (.inr (some 8)), .inl a1, .inl a2], []) M (fun v M' => M' = M ∧ ∃ x : Int, v = some (.inl x) ∧ ((-2147483648) ≤ x ∧ x ≤ 2147483647) ∧ ((x = -2 ∧ ¬ (0 ≤ a1 ∧ a1 < M 18 3 ∧ 0 ≤ a2 ∧ a2 ≤ 7)) ∨ ((0 ≤ a1 ∧ a1 < M 18 3 ∧ 0 ≤ a2 ∧ a2 ≤ 7) ∧ x = M 19 (a1 * 11 + a2 : Int).toNat))) := by
    intro hx0_39
    refine zG_blk (c' := (41, [.inr (.inr (some 8)), .inl a1, .inl a2], [.inl (-2)])) 1 hd0 hz (by rfl) ?_
    exact j41 (-2) (by omega) (by omega)
  refine zG_if_eq hd0 hz rfl (fun hb5 => ?_) (fun hb5 => ?_)
  · exact j39 (by omega)
  · refine zG_blk (c' := (18, [.inr (.inr (some 8)), .inl a1, .inl a2], [.inl 7, .inl 0, .inl a2])) 3 hd0 hz (by rfl) ?_
    refine zG_call hd0 hz (rfl : zP 169 = (zk_X10_within, 3, (0, 0))) rfl rfl (Nat.le_of_ble_eq_true rfl) ⟨Nat.le_refl _, Nat.le_refl _⟩ (qf_within (by omega) hC   a2 (by omega) 0 (by omega) 7 (by omega) ) (fun vr M6 hr => ?_)
    obtain ⟨hq, x7, rfl, hx7⟩ := hr
    replace hq := hq.symm; subst hq
    show zG n (0, 0) d 138 (21, [.inr (.inr (some 8)), .inl a1, .inl a2], [.inl x7]) M _
    refine zG_if_eq hd0 hz rfl (fun hb8 => ?_) (fun hb8 => ?_)
    · exact j39 (by omega)
    · refine zG_blk (c' := (33, [.inr (.inr (some 8)), .inl a1, .inl a2], [.inl a2, .inl a1, .inr (.inr (some 18))])) 5 hd0 hz (by rfl) ?_
      refine zG_call hd0 hz (rfl : zP 106 = (zk_X8_get, 3, (0, 0))) rfl rfl (Nat.le_of_ble_eq_true rfl) ⟨Nat.le_refl _, Nat.le_refl _⟩ (qe_get (by omega) hC  (⟨by decide, rfl, rfl⟩ : qT n 18 250 11) a1 (by omega) a2 (by omega) ) (fun vr M9 hr => ?_)
      obtain ⟨hq, x10, rfl, hx10⟩ := hr
      replace hq := hq.symm; subst hq
      have hvx10 : 0 ≤ a1 ∧ a1 < 250 → 0 ≤ a2 ∧ a2 < 11 → x10 = M 19 (a1 * 11 + a2 : Int).toNat := fun h9 h8 => hx10.2.1 ⟨h9, h8⟩
      replace hx10 := hx10.1
      show zG n (0, 0) d 138 (36, [.inr (.inr (some 8)), .inl a1, .inl a2], [.inl x10]) M _
      refine zG_blk (c' := (41, [.inr (.inr (some 8)), .inl a1, .inl a2], [.inl x10])) 1 hd0 hz (by rfl) ?_
      exact j41 x10 (by omega) (by omega)
theorem qf_149_8 {n d : Nat} {M : zM} (hd : 3 ≤ d) (hC : qCI M)  (a1 : Int) (ha1 : (-2147483648) ≤ a1 ∧ a1 ≤ 2147483647) : qOkC n d 149 [.inr (.inr (some 8)), .inl a1] 3 [21] M (fun v M' => ∃ x : Int, v = some (.inl x) ∧ ((-2147483648) ≤ x ∧ x ≤ 2147483647) ∧ ((x = -2 ∧ ¬ (0 ≤ a1 ∧ a1 ≤ 7)) ∨ ((0 ≤ a1 ∧ a1 ≤ 7) ∧ x = M 21 (a1 * 81 + 0 : Int).toNat ∧ M' 21 (a1 * 81 + 0 : Int).toNat = 0)) ∧ (∀ j : Nat, (0 ≤ a1 ∧ a1 ≤ 7 → (j : Int) ≠ a1 * 81 + 0) → M' 21 j = M 21 j)) := by
  have hz : zP 149 = (zk_X10_erase, 3, (0, 0)) := rfl
  have hd0 : 0 < d := by omega
  have hW : qFr [21] M M := qFr.rfl
  have hX21_M : ∀ j : Nat, (0 ≤ a1 ∧ a1 ≤ 7 → (j : Int) ≠ a1 * 81 + 0) → M 21 j = M 21 j := fun _ _ => rfl
  show zG n (0, 0) d 149 (0, [.inr (.inr (some 8)), .inl a1, zN], []) M _
  refine zG_blk (c' := (1, [.inr (.inr (some 8)), .inl a1, zN], [.inl a1])) 1 hd0 hz (by rfl) ?_
  refine zG_call hd0 hz (rfl : zP 173 = (zk_X10_isText, 1, (0, 0))) rfl rfl (Nat.le_of_ble_eq_true rfl) ⟨Nat.le_refl _, Nat.le_refl _⟩ (qf_173 (by omega) hC   a1 (by omega) ) (fun vr M1 hr => ?_)
  obtain ⟨hq, x2, rfl, hx2, hpx2_0⟩ := hr
  replace hq := hq.symm; subst hq
  show zG n (0, 0) d 149 (4, [.inr (.inr (some 8)), .inl a1, zN], [.inl x2]) M _
  refine zG_if_ne hd0 hz rfl (fun hb3 => ?_) (fun hb3 => ?_)
  · refine zG_blk (c' := (19, [.inr (.inr (some 8)), .inl a1, zN], [.inl 0, .inl a1, .inr (.inr (some 20))])) 5 hd0 hz (by rfl) ?_
    refine zG_call hd0 hz (rfl : zP 106 = (zk_X8_get, 3, (0, 0))) rfl rfl (Nat.le_of_ble_eq_true rfl) ⟨Nat.le_refl _, Nat.le_refl _⟩ (qe_get (by omega) hC  (⟨by decide, rfl, rfl⟩ : qT n 20 8 81) a1 (by omega) 0 (by omega) ) (fun vr M4 hr => ?_)
    obtain ⟨hq, x5, rfl, hx5⟩ := hr
    replace hq := hq.symm; subst hq
    have hvx5 : 0 ≤ a1 ∧ a1 < 8 → x5 = M 21 (a1 * 81 + 0 : Int).toNat := fun h9 => hx5.2.1 ⟨h9, by omega⟩
    replace hx5 := hx5.1
    show zG n (0, 0) d 149 (22, [.inr (.inr (some 8)), .inl a1, zN], [.inl x5]) M _
    refine zG_blk (c' := (33, [.inr (.inr (some 8)), .inl a1, .inl x5], [.inl 0, .inl 0, .inl a1, .inr (.inr (some 20))])) 7 hd0 hz (by rfl) ?_
    refine zG_call hd0 hz (rfl : zP 107 = (zk_X8_set, 4, (0, 0))) rfl rfl (Nat.le_of_ble_eq_true rfl) ⟨Nat.le_refl _, Nat.le_refl _⟩ (qf_set (by omega) hC  (⟨by decide, rfl, rfl⟩ : qT n 20 8 81) a1 (by omega) 0 (by omega) 0 (by omega) ) (fun vr M6 hr => ?_)
    obtain ⟨⟨hCM6, hFM6⟩, rfl, hpx7_0, hpx7_1⟩ := hr
    have hWM6 : qFr [21] M M6 := hW.tr hFM6 (by decide)
    have hX21_M6 : ∀ j : Nat, (0 ≤ a1 ∧ a1 ≤ 7 → (j : Int) ≠ a1 * 81 + 0) → M6 21 j = M 21 j := fun j hj => (hpx7_1 j (by omega)).trans (hX21_M j hj)
    have hvx7 : 0 ≤ a1 ∧ a1 < 8 → M6 21 (a1 * 81 + 0 : Int).toNat = 0 := fun h9 => hpx7_0 ⟨h9, by omega⟩
    show zG n (0, 0) d 149 (36, [.inr (.inr (some 8)), .inl a1, .inl x5], []) M6 _
    refine zG_blk (c' := (37, [.inr (.inr (some 8)), .inl a1, .inl x5], [.inl x5])) 1 hd0 hz (by rfl) ?_
    exact zG_ret hd0 hz rfl rfl ⟨⟨hCM6, hWM6⟩, _, rfl, by omega, by omega, hX21_M6⟩
  · refine zG_blk (c' := (9, [.inr (.inr (some 8)), .inl a1, zN], [.inl (-2)])) 1 hd0 hz (by rfl) ?_
    exact zG_ret hd0 hz rfl rfl ⟨⟨hC, hW⟩, _, rfl, by omega, by omega, hX21_M⟩
theorem qf_153_8 {n d : Nat} {M : zM} (hd : 3 ≤ d) (hC : qCI M)  (a1 : Int) (ha1 : (-2147483648) ≤ a1 ∧ a1 ≤ 2147483647) (a2 : Int) (ha2 : (-2147483648) ≤ a2 ∧ a2 ≤ 2147483647) : qOkC n d 153 [.inr (.inr (some 8)), .inl a1, .inl a2] 4 [13] M (fun v M' => ∃ x : Int, v = some (.inl x) ∧ ((-2147483648) ≤ x ∧ x ≤ 2147483647) ∧ ((x = -10 ∧ ¬ (0 ≤ a1 ∧ a1 < M 12 3 ∧ (a2 = -1 ∨ (0 ≤ a2 ∧ a2 < M 22 3)))) ∨ ((0 ≤ a1 ∧ a1 < M 12 3 ∧ (a2 = -1 ∨ (0 ≤ a2 ∧ a2 < M 22 3))) ∧ x = M 13 (a1 * 3 + 1 : Int).toNat ∧ M' 13 (a1 * 3 + 1 : Int).toNat = a2)) ∧ (∀ j : Nat, (0 ≤ a1 ∧ a1 < M 12 3 ∧ (a2 = -1 ∨ (0 ≤ a2 ∧ a2 < M 22 3)) → (j : Int) ≠ a1 * 3 + 1) → M' 13 j = M 13 j)) := by
  have hz : zP 153 = (zk_X10_choose, 4, (0, 0)) := rfl
  have hd0 : 0 < d := by omega
  have hW : qFr [13] M M := qFr.rfl
  have hX13_M : ∀ j : Nat, (0 ≤ a1 ∧ a1 < M 12 3 ∧ (a2 = -1 ∨ (0 ≤ a2 ∧ a2 < M 22 3)) → (j : Int) ≠ a1 * 3 + 1) → M 13 j = M 13 j := fun _ _ => rfl
  have r1 := hC.rows 12 20 3 (by decide)
  have r2 := hC.rows 22 10 164 (by decide)
  show zG n (0, 0) d 153 (0, [.inr (.inr (some 8)), .inl a1, .inl a2, zN], []) M _
  refine zG_blk (c' := (2, [.inr (.inr (some 8)), .inl a1, .inl a2, zN], [.inl a1, .inr (.inr (some 8))])) 2 hd0 hz (by rfl) ?_
  refine zG_call hd0 hz (rfl : zP 174 = (zk_X10_isStudent, 2, (0, 0))) rfl rfl (Nat.le_of_ble_eq_true rfl) ⟨Nat.le_refl _, Nat.le_refl _⟩ (qf_174_8 (by omega) hC   a1 (by omega) ) (fun vr M3 hr => ?_)
  obtain ⟨hq, x4, rfl, hx4, hpx4_0⟩ := hr
  replace hq := hq.symm; subst hq
  show zG n (0, 0) d 153 (5, [.inr (.inr (some 8)), .inl a1, .inl a2, zN], [.inl x4]) M _
  have j28 : (¬ (0 ≤ a1 ∧ a1 < M 12 3 ∧ (a2 = -1 ∨ (0 ≤ a2 ∧ a2 < M 22 3)))) → zG n (0, 0) d 153 (28, [.inr (.inr (some 8)), .inl a1, .inl a2, zN], []) M (fun v M' => (qCI M' ∧ qFr [13] M M') ∧ ∃ x : Int, v = some (.inl x) ∧ ((-2147483648) ≤ x ∧ x ≤ 2147483647) ∧ ((x = -10 ∧ ¬ (0 ≤ a1 ∧ a1 < M 12 3 ∧ (a2 = -1 ∨ (0 ≤ a2 ∧ a2 < M 22 3)))) ∨ ((0 ≤ a1 ∧ a1 < M 12 3 ∧ (a2 = -1 ∨ (0 ≤ a2 ∧ a2 < M 22 3))) ∧ x = M 13 (a1 * 3 + 1 : Int).toNat ∧ M' 13 (a1 * 3 + 1 : Int).toNat = a2)) ∧ (∀ j : Nat, (0 ≤ a1 ∧ a1 < M 12 3 ∧ (a2 = -1 ∨ (0 ≤ a2 ∧ a2 < M 22 3)) → (j : Int) ≠ a1 * 3 + 1) → M' 13 j = M 13 j)) := by
    intro hx0_28
    refine zG_blk (c' := (30, [.inr (.inr (some 8)), .inl a1, .inl a2, zN], [.inl (-10)])) 1 hd0 hz (by rfl) ?_
    exact zG_ret hd0 hz rfl rfl ⟨⟨hC, hW⟩, _, rfl, by omega, by omega, hX13_M⟩
  refine zG_if_eq hd0 hz rfl (fun hb5 => ?_) (fun hb5 => ?_)
  · exact j28 (by omega)
  · refine zG_blk (c' := (17, [.inr (.inr (some 8)), .inl a1, .inl a2, zN], [.inr (.inr (some 22)), .inl (-1), .inl a2])) 5 hd0 hz (by rfl) ?_
    refine zG_call hd0 hz (rfl : zP 101 = (zk_X8_size, 1, (0, 0))) rfl rfl (Nat.le_of_ble_eq_true rfl) ⟨Nat.le_refl _, Nat.le_refl _⟩ (qe_size (by omega) hC  (⟨by decide, rfl, rfl⟩ : qT n 22 10 164)  ) (fun vr M6 hr => ?_)
    obtain ⟨hq, x7, rfl, hx7⟩ := hr
    replace hq := hq.symm; subst hq
    show zG n (0, 0) d 153 (20, [.inr (.inr (some 8)), .inl a1, .inl a2, zN], [.inl x7, .inl (-1), .inl a2]) M _
    obtain ⟨x8, hx8⟩ : ∃ x : Int, x = w32 (x7 - 1) := ⟨_, rfl⟩
    have hx8e : x8 = x7 - 1 := by rw [hx8]; exact w32_id (by omega)
    refine zG_blk (c' := (22, [.inr (.inr (some 8)), .inl a1, .inl a2, zN], [.inl x8, .inl (-1), .inl a2])) 2 hd0 hz (by subst hx8; rfl) ?_
    refine zG_call hd0 hz (rfl : zP 169 = (zk_X10_within, 3, (0, 0))) rfl rfl (Nat.le_of_ble_eq_true rfl) ⟨Nat.le_refl _, Nat.le_refl _⟩ (qf_within (by omega) hC   a2 (by omega) (-1) (by omega) x8 (by omega) ) (fun vr M9 hr => ?_)
    obtain ⟨hq, x10, rfl, hx10⟩ := hr
    replace hq := hq.symm; subst hq
    show zG n (0, 0) d 153 (25, [.inr (.inr (some 8)), .inl a1, .inl a2, zN], [.inl x10]) M _
    refine zG_if_ne hd0 hz rfl (fun hb11 => ?_) (fun hb11 => ?_)
    · refine zG_blk (c' := (40, [.inr (.inr (some 8)), .inl a1, .inl a2, zN], [.inl 1, .inl a1, .inr (.inr (some 12))])) 5 hd0 hz (by rfl) ?_
      refine zG_call hd0 hz (rfl : zP 106 = (zk_X8_get, 3, (0, 0))) rfl rfl (Nat.le_of_ble_eq_true rfl) ⟨Nat.le_refl _, Nat.le_refl _⟩ (qe_get (by omega) hC  (⟨by decide, rfl, rfl⟩ : qT n 12 20 3) a1 (by omega) 1 (by omega) ) (fun vr M12 hr => ?_)
      obtain ⟨hq, x13, rfl, hx13⟩ := hr
      replace hq := hq.symm; subst hq
      have hvx13 : 0 ≤ a1 ∧ a1 < 20 → x13 = M 13 (a1 * 3 + 1 : Int).toNat := fun h9 => hx13.2.1 ⟨h9, by omega⟩
      replace hx13 := hx13.1
      show zG n (0, 0) d 153 (43, [.inr (.inr (some 8)), .inl a1, .inl a2, zN], [.inl x13]) M _
      refine zG_blk (c' := (54, [.inr (.inr (some 8)), .inl a1, .inl a2, .inl x13], [.inl a2, .inl 1, .inl a1, .inr (.inr (some 12))])) 7 hd0 hz (by rfl) ?_
      refine zG_call hd0 hz (rfl : zP 107 = (zk_X8_set, 4, (0, 0))) rfl rfl (Nat.le_of_ble_eq_true rfl) ⟨Nat.le_refl _, Nat.le_refl _⟩ (qf_set (by omega) hC  (⟨by decide, rfl, rfl⟩ : qT n 12 20 3) a1 (by omega) 1 (by omega) a2 (by omega) ) (fun vr M14 hr => ?_)
      obtain ⟨⟨hCM14, hFM14⟩, rfl, hpx15_0, hpx15_1⟩ := hr
      have hWM14 : qFr [13] M M14 := hW.tr hFM14 (by decide)
      have e16 : M14 12 3 = M 12 3 := hFM14 12 3 (by decide)
      have e17 : M14 22 3 = M 22 3 := hFM14 22 3 (by decide)
      have hX13_M14 : ∀ j : Nat, (0 ≤ a1 ∧ a1 < M 12 3 ∧ (a2 = -1 ∨ (0 ≤ a2 ∧ a2 < M 22 3)) → (j : Int) ≠ a1 * 3 + 1) → M14 13 j = M 13 j := fun j hj => (hpx15_1 j (by omega)).trans (hX13_M j hj)
      have hvx15 : 0 ≤ a1 ∧ a1 < 20 → M14 13 (a1 * 3 + 1 : Int).toNat = a2 := fun h9 => hpx15_0 ⟨h9, by omega⟩
      show zG n (0, 0) d 153 (57, [.inr (.inr (some 8)), .inl a1, .inl a2, .inl x13], []) M14 _
      refine zG_blk (c' := (58, [.inr (.inr (some 8)), .inl a1, .inl a2, .inl x13], [.inl x13])) 1 hd0 hz (by rfl) ?_
      exact zG_ret hd0 hz rfl rfl ⟨⟨hCM14, hWM14⟩, _, rfl, by omega, by omega, hX13_M14⟩
    · exact j28 (by omega)
