/-! THE CLASS'S METHODS, EXACTLY, BY PROGRAM -/
theorem qf_19_9 {n d : Nat} {M : zM} (hd : 2 ≤ d) (hC : qCI M)  (a1 : Int) (ha1 : (-2147483648) ≤ a1 ∧ a1 ≤ 2147483647) (a2 : Int) (ha2 : (-2147483648) ≤ a2 ∧ a2 ≤ 2147483647) : qOkP n d 19 [.inr (.inr (some 9)), .inl a1, .inl a2] 3 M (fun v => ∃ x : Int, v = some (.inl x) ∧ (0 ≤ x ∧ x ≤ 1) ∧ (x = 1 ↔ (0 ≤ a2 ∧ a2 < M 18 3 ∧ M 19 (a2 * 11 + 0 : Int).toNat = a1))) := by
  have hz : zP 19 = (zk_X2_isA, 3, (0, 0)) := rfl
  have hd0 : 0 < d := by omega
  have r1 := hC.rows 18 250 11 (by decide)
  show zG n (0, 0) d 19 (0, [.inr (.inr (some 9)), .inl a1, .inl a2], []) M _
  refine zG_blk (c' := (5, [.inr (.inr (some 9)), .inl a1, .inl a2], [.inl a2, .inr (.inr (some 18))])) 3 hd0 hz (by rfl) ?_
  refine zG_call hd0 hz (rfl : zP 102 = (zk_X8_has, 2, (0, 0))) rfl rfl (Nat.le_of_ble_eq_true rfl) ⟨Nat.le_refl _, Nat.le_refl _⟩ (qw_has (by omega) hC  (⟨by decide, rfl, rfl⟩ : qT n 18 250 11) a2 (by omega) ) (fun vr M2 hr => ?_)
  obtain ⟨hq, x3, rfl, hx3⟩ := hr
  replace hq := hq.symm; subst hq
  show zG n (0, 0) d 19 (8, [.inr (.inr (some 9)), .inl a1, .inl a2], [.inl x3]) M _
  have j29 : ∀ (v4 : Int) , 0 ≤ v4 ∧ v4 ≤ 1 → (v4 = 1 ↔ (0 ≤ a2 ∧ a2 < M 18 3 ∧ M 19 (a2 * 11 + 0 : Int).toNat = a1)) → zG n (0, 0) d 19 (29, [.inr (.inr (some 9)), .inl a1, .inl a2], [.inl v4]) M (fun v M' => M' = M ∧ ∃ x : Int, v = some (.inl x) ∧ (0 ≤ x ∧ x ≤ 1) ∧ (x = 1 ↔ (0 ≤ a2 ∧ a2 < M 18 3 ∧ M 19 (a2 * 11 + 0 : Int).toNat = a1))) := by
    intro v4 hv4 hx0_29
    exact zG_zret hd0 hz rfl (by omega) ⟨rfl, _, rfl, by omega, by omega⟩
  have j28 : (¬ (0 ≤ a2 ∧ a2 < M 18 3 ∧ M 19 (a2 * 11 + 0 : Int).toNat = a1)) → zG n (0, 0) d 19 (28, [.inr (.inr (some 9)), .inl a1, .inl a2], []) M (fun v M' => M' = M ∧ ∃ x : Int, v = some (.inl x) ∧ (0 ≤ x ∧ x ≤ 1) ∧ (x = 1 ↔ (0 ≤ a2 ∧ a2 < M 18 3 ∧ M 19 (a2 * 11 + 0 : Int).toNat = a1))) := by
    intro hx0_28
    refine zG_blk (c' := (29, [.inr (.inr (some 9)), .inl a1, .inl a2], [.inl 0])) 1 hd0 hz (by rfl) ?_
    exact j29 0 (by omega) (by omega)
  refine zG_if_eq hd0 hz rfl (fun hb5 => ?_) (fun hb5 => ?_)
  · exact j28 (by omega)
  · refine zG_blk (c' := (17, [.inr (.inr (some 9)), .inl a1, .inl a2], [.inl 0, .inl a2, .inr (.inr (some 18))])) 4 hd0 hz (by rfl) ?_
    refine zG_call hd0 hz (rfl : zP 106 = (zk_X8_get, 3, (0, 0))) rfl rfl (Nat.le_of_ble_eq_true rfl) ⟨Nat.le_refl _, Nat.le_refl _⟩ (qe_get (by omega) hC  (⟨by decide, rfl, rfl⟩ : qT n 18 250 11) a2 (by omega) 0 (by omega) ) (fun vr M6 hr => ?_)
    obtain ⟨hq, x7, rfl, hx7⟩ := hr
    replace hq := hq.symm; subst hq
    have hvx7 : 0 ≤ a2 ∧ a2 < 250 → x7 = M 19 (a2 * 11 + 0 : Int).toNat := fun h9 => hx7.2.1 ⟨h9, by omega⟩
    replace hx7 := hx7.1
    show zG n (0, 0) d 19 (20, [.inr (.inr (some 9)), .inl a1, .inl a2], [.inl x7]) M _
    refine zG_blk (c' := (21, [.inr (.inr (some 9)), .inl a1, .inl a2], [.inl a1, .inl x7])) 1 hd0 hz (by rfl) ?_
    refine zG_icmp_ne hd0 hz rfl (fun hb8 => ?_) (fun hb8 => ?_)
    · exact j28 (by omega)
    · refine zG_blk (c' := (29, [.inr (.inr (some 9)), .inl a1, .inl a2], [.inl 1])) 2 hd0 hz (by rfl) ?_
      exact j29 1 (by omega) (by omega)
theorem qf_179_8 {n d : Nat} {M : zM} (hd : 3 ≤ d) (hC : qCI M)  (a1 : Int) (ha1 : (-2147483648) ≤ a1 ∧ a1 ≤ 2147483647) (a2 : Int) (ha2 : (-2147483648) ≤ a2 ∧ a2 ≤ 2147483647) (a3 : Int) (ha3 : (-2147483648) ≤ a3 ∧ a3 ≤ 2147483647) (hp0 : 0 ≤ a2 ∧ a2 < 40) : qOkC n d 179 [.inr (.inr (some 8)), .inl a1, .inl a2, .inl a3] 4 [18, 19] M (fun v M' => ∃ x : Int, v = some (.inl x) ∧ ((-4) ≤ x ∧ x ≤ 249) ∧ ((x = -4 ∧ M 18 3 = 250 ∧ M' 18 3 = M 18 3) ∨ (x = M 18 3 ∧ M 18 3 < 250 ∧ M' 18 3 = M 18 3 + 1)) ∧ (0 ≤ x → M' 19 (x * 11 + 0 : Int).toNat = a1 ∧ M' 19 (x * 11 + 1 : Int).toNat = M 17 (a2 * 5 + 1 : Int).toNat ∧ M' 19 (x * 11 + 2 : Int).toNat = a3 ∧ M' 19 (x * 11 + 3 : Int).toNat = a2 ∧ M' 19 (x * 11 + 4 : Int).toNat = -1 ∧ M' 19 (x * 11 + 5 : Int).toNat = -1 ∧ M' 19 (x * 11 + 6 : Int).toNat = -1 ∧ M' 19 (x * 11 + 7 : Int).toNat = -1 ∧ M' 19 (x * 11 + 8 : Int).toNat = -1 ∧ M' 19 (x * 11 + 9 : Int).toNat = -1 ∧ M' 19 (x * 11 + 10 : Int).toNat = -1) ∧ (∀ j : Nat, ((j : Int) < 11 * M 18 3 ∨ 11 * M 18 3 + 11 ≤ j) → M' 19 j = M 19 j)) := by
  have hz : zP 179 = (zk_X10_enterBy, 4, (0, 0)) := rfl
  have hd0 : 0 < d := by omega
  have hW : qFr [18, 19] M M := qFr.rfl
  have hX19_M : ∀ j : Nat, ((j : Int) < 11 * M 18 3 ∨ 11 * M 18 3 + 11 ≤ j) → M 19 j = M 19 j := fun _ _ => rfl
  have r1 := hC.rows 18 250 11 (by decide)
  show zG n (0, 0) d 179 (0, [.inr (.inr (some 8)), .inl a1, .inl a2, .inl a3], []) M _
  refine zG_blk (c' := (14, [.inr (.inr (some 8)), .inl a1, .inl a2, .inl a3], [.inl 1, .inl a2, .inr (.inr (some 16)), .inl a1, .inr (.inr (some 9))])) 8 hd0 hz (by rfl) ?_
  refine zG_call hd0 hz (rfl : zP 106 = (zk_X8_get, 3, (0, 0))) rfl rfl (Nat.le_of_ble_eq_true rfl) ⟨Nat.le_refl _, Nat.le_refl _⟩ (qe_get (by omega) hC  (⟨by decide, rfl, rfl⟩ : qT n 16 40 5) a2 (by omega) 1 (by omega) ) (fun vr M2 hr => ?_)
  obtain ⟨hq, x3, rfl, hx3⟩ := hr
  replace hq := hq.symm; subst hq
  have hvx3 : 0 ≤ a2 ∧ a2 < 40 → x3 = M 17 (a2 * 5 + 1 : Int).toNat := fun h9 => hx3.2.1 ⟨h9, by omega⟩
  replace hx3 := hx3.1
  show zG n (0, 0) d 179 (17, [.inr (.inr (some 8)), .inl a1, .inl a2, .inl a3], [.inl x3, .inl a1, .inr (.inr (some 9))]) M _
  refine zG_blk (c' := (19, [.inr (.inr (some 8)), .inl a1, .inl a2, .inl a3], [.inl a2, .inl a3, .inl x3, .inl a1, .inr (.inr (some 9))])) 2 hd0 hz (by rfl) ?_
  refine zG_call hd0 hz (rfl : zP 18 = (zk_X2_enter, 7, (0, 0))) rfl rfl (Nat.le_of_ble_eq_true rfl) ⟨Nat.le_refl _, Nat.le_refl _⟩ (qf_enter (by omega) hC   a1 (by omega) x3 (by omega) a3 (by omega) a2 (by omega) ) (fun vr M4 hr => ?_)
  obtain ⟨⟨hCM4, hFM4⟩, x5, rfl, hx5, hpx5_0, hpx5_r19⟩ := hr
  have hWM4 : qFr [18, 19] M M4 := hW.tr hFM4 (by decide)
  have hX19_M4 : ∀ j : Nat, ((j : Int) < 11 * M 18 3 ∨ 11 * M 18 3 + 11 ≤ j) → M4 19 j = M 19 j := fun j hj => (hpx5_r19 j (by omega)).trans (hX19_M j hj)
  have r7 := hCM4.rows 18 250 11 (by decide)
  show zG n (0, 0) d 179 (22, [.inr (.inr (some 8)), .inl a1, .inl a2, .inl a3], [.inl x5]) M4 _
  exact zG_ret hd0 hz rfl rfl ⟨⟨hCM4, hWM4⟩, _, rfl, by omega, by omega, by omega, hX19_M4⟩
theorem qf_129_8 {n d : Nat} {M : zM} (hd : 3 ≤ d) (hC : qCI M)  (a1 : Int) (ha1 : (-2147483648) ≤ a1 ∧ a1 ≤ 2147483647) (a2 : Int) (ha2 : (-2147483648) ≤ a2 ∧ a2 ≤ 2147483647) (a3 : Int) (ha3 : (-2147483648) ≤ a3 ∧ a3 ≤ 2147483647) (a4 : Int) (ha4 : (-2147483648) ≤ a4 ∧ a4 ≤ 2147483647) (a5 : Int) (ha5 : (-2147483648) ≤ a5 ∧ a5 ≤ 2147483647) (a6 : Int) (ha6 : (-2147483648) ≤ a6 ∧ a6 ≤ 2147483647) : qOkC n d 129 [.inr (.inr (some 8)), .inl a1, .inl a2, .inl a3, .inl a4, .inl a5, .inl a6] 8 [18, 19] M (fun v M' => ∃ x : Int, v = some (.inl x) ∧ ((-4) ≤ x ∧ x ≤ 249) ∧ ((x = -2 ∧ ¬ (0 ≤ a1 ∧ a1 < M 12 3 ∧ 0 ≤ a2 ∧ a2 < M 10 3 ∧ 0 ≤ a3 ∧ a3 ≤ 100 ∧ 0 ≤ a4 ∧ a4 ≤ 4 ∧ 0 ≤ a5 ∧ a5 ≤ 9999 ∧ a5 ≤ a6 ∧ a6 ≤ 9999) ∧ M' 18 3 = M 18 3) ∨ (x = -4 ∧ (0 ≤ a1 ∧ a1 < M 12 3 ∧ 0 ≤ a2 ∧ a2 < M 10 3 ∧ 0 ≤ a3 ∧ a3 ≤ 100 ∧ 0 ≤ a4 ∧ a4 ≤ 4 ∧ 0 ≤ a5 ∧ a5 ≤ 9999 ∧ a5 ≤ a6 ∧ a6 ≤ 9999) ∧ M 18 3 = 250 ∧ M' 18 3 = M 18 3) ∨ (x = M 18 3 ∧ (0 ≤ a1 ∧ a1 < M 12 3 ∧ 0 ≤ a2 ∧ a2 < M 10 3 ∧ 0 ≤ a3 ∧ a3 ≤ 100 ∧ 0 ≤ a4 ∧ a4 ≤ 4 ∧ 0 ≤ a5 ∧ a5 ≤ 9999 ∧ a5 ≤ a6 ∧ a6 ≤ 9999) ∧ M 18 3 < 250 ∧ M' 18 3 = M 18 3 + 1 ∧ M' 19 (x * 11 + 0 : Int).toNat = 0 ∧ M' 19 (x * 11 + 1 : Int).toNat = a5 ∧ M' 19 (x * 11 + 2 : Int).toNat = a6 ∧ M' 19 (x * 11 + 3 : Int).toNat = -1 ∧ M' 19 (x * 11 + 4 : Int).toNat = a1 ∧ M' 19 (x * 11 + 5 : Int).toNat = a2 ∧ M' 19 (x * 11 + 6 : Int).toNat = -1 ∧ M' 19 (x * 11 + 7 : Int).toNat = a3 ∧ M' 19 (x * 11 + 8 : Int).toNat = a4 ∧ M' 19 (x * 11 + 9 : Int).toNat = -1 ∧ M' 19 (x * 11 + 10 : Int).toNat = -1)) ∧ (∀ j : Nat, ((j : Int) < 11 * M 18 3 ∨ 11 * M 18 3 + 11 ≤ j) → M' 19 j = M 19 j)) := by
  have hz : zP 129 = (zk_X10_mark, 8, (0, 0)) := rfl
  have hd0 : 0 < d := by omega
  have hW : qFr [18, 19] M M := qFr.rfl
  have hX19_M : ∀ j : Nat, ((j : Int) < 11 * M 18 3 ∨ 11 * M 18 3 + 11 ≤ j) → M 19 j = M 19 j := fun _ _ => rfl
  have r1 := hC.rows 18 250 11 (by decide)
  have r2 := hC.rows 12 20 3 (by decide)
  have r3 := hC.rows 10 14 4 (by decide)
  show zG n (0, 0) d 129 (0, [.inr (.inr (some 8)), .inl a1, .inl a2, .inl a3, .inl a4, .inl a5, .inl a6, zN], []) M _
  refine zG_blk (c' := (2, [.inr (.inr (some 8)), .inl a1, .inl a2, .inl a3, .inl a4, .inl a5, .inl a6, zN], [.inl a1, .inr (.inr (some 8))])) 2 hd0 hz (by rfl) ?_
  refine zG_call hd0 hz (rfl : zP 174 = (zk_X10_isStudent, 2, (0, 0))) rfl rfl (Nat.le_of_ble_eq_true rfl) ⟨Nat.le_refl _, Nat.le_refl _⟩ (qf_174_8 (by omega) hC   a1 (by omega) ) (fun vr M4 hr => ?_)
  obtain ⟨hq, x5, rfl, hx5, hpx5_0⟩ := hr
  replace hq := hq.symm; subst hq
  show zG n (0, 0) d 129 (5, [.inr (.inr (some 8)), .inl a1, .inl a2, .inl a3, .inl a4, .inl a5, .inl a6, zN], [.inl x5]) M _
  have j31 : (¬ (0 ≤ a1 ∧ a1 < M 12 3 ∧ 0 ≤ a2 ∧ a2 < M 10 3 ∧ 0 ≤ a3 ∧ a3 ≤ 100 ∧ 0 ≤ a4 ∧ a4 ≤ 4 ∧ 0 ≤ a5 ∧ a5 ≤ 9999 ∧ a5 ≤ a6 ∧ a6 ≤ 9999)) → zG n (0, 0) d 129 (31, [.inr (.inr (some 8)), .inl a1, .inl a2, .inl a3, .inl a4, .inl a5, .inl a6, zN], []) M (fun v M' => (qCI M' ∧ qFr [18, 19] M M') ∧ ∃ x : Int, v = some (.inl x) ∧ ((-4) ≤ x ∧ x ≤ 249) ∧ ((x = -2 ∧ ¬ (0 ≤ a1 ∧ a1 < M 12 3 ∧ 0 ≤ a2 ∧ a2 < M 10 3 ∧ 0 ≤ a3 ∧ a3 ≤ 100 ∧ 0 ≤ a4 ∧ a4 ≤ 4 ∧ 0 ≤ a5 ∧ a5 ≤ 9999 ∧ a5 ≤ a6 ∧ a6 ≤ 9999) ∧ M' 18 3 = M 18 3) ∨ (x = -4 ∧ (0 ≤ a1 ∧ a1 < M 12 3 ∧ 0 ≤ a2 ∧ a2 < M 10 3 ∧ 0 ≤ a3 ∧ a3 ≤ 100 ∧ 0 ≤ a4 ∧ a4 ≤ 4 ∧ 0 ≤ a5 ∧ a5 ≤ 9999 ∧ a5 ≤ a6 ∧ a6 ≤ 9999) ∧ M 18 3 = 250 ∧ M' 18 3 = M 18 3) ∨ (x = M 18 3 ∧ (0 ≤ a1 ∧ a1 < M 12 3 ∧ 0 ≤ a2 ∧ a2 < M 10 3 ∧ 0 ≤ a3 ∧ a3 ≤ 100 ∧ 0 ≤ a4 ∧ a4 ≤ 4 ∧ 0 ≤ a5 ∧ a5 ≤ 9999 ∧ a5 ≤ a6 ∧ a6 ≤ 9999) ∧ M 18 3 < 250 ∧ M' 18 3 = M 18 3 + 1 ∧ M' 19 (x * 11 + 0 : Int).toNat = 0 ∧ M' 19 (x * 11 + 1 : Int).toNat = a5 ∧ M' 19 (x * 11 + 2 : Int).toNat = a6 ∧ M' 19 (x * 11 + 3 : Int).toNat = -1 ∧ M' 19 (x * 11 + 4 : Int).toNat = a1 ∧ M' 19 (x * 11 + 5 : Int).toNat = a2 ∧ M' 19 (x * 11 + 6 : Int).toNat = -1 ∧ M' 19 (x * 11 + 7 : Int).toNat = a3 ∧ M' 19 (x * 11 + 8 : Int).toNat = a4 ∧ M' 19 (x * 11 + 9 : Int).toNat = -1 ∧ M' 19 (x * 11 + 10 : Int).toNat = -1)) ∧ (∀ j : Nat, ((j : Int) < 11 * M 18 3 ∨ 11 * M 18 3 + 11 ≤ j) → M' 19 j = M 19 j)) := by
    intro hx0_31
    refine zG_blk (c' := (33, [.inr (.inr (some 8)), .inl a1, .inl a2, .inl a3, .inl a4, .inl a5, .inl a6, zN], [.inl (-2)])) 1 hd0 hz (by rfl) ?_
    exact zG_ret hd0 hz rfl rfl ⟨⟨hC, hW⟩, _, rfl, by omega, by omega, hX19_M⟩
  refine zG_if_eq hd0 hz rfl (fun hb6 => ?_) (fun hb6 => ?_)
  · exact j31 (by omega)
  · refine zG_blk (c' := (10, [.inr (.inr (some 8)), .inl a1, .inl a2, .inl a3, .inl a4, .inl a5, .inl a6, zN], [.inl a2, .inr (.inr (some 8))])) 2 hd0 hz (by rfl) ?_
    refine zG_call hd0 hz (rfl : zP 175 = (zk_X10_isCourse, 2, (0, 0))) rfl rfl (Nat.le_of_ble_eq_true rfl) ⟨Nat.le_refl _, Nat.le_refl _⟩ (qf_175_8 (by omega) hC   a2 (by omega) ) (fun vr M7 hr => ?_)
    obtain ⟨hq, x8, rfl, hx8, hpx8_0⟩ := hr
    replace hq := hq.symm; subst hq
    show zG n (0, 0) d 129 (13, [.inr (.inr (some 8)), .inl a1, .inl a2, .inl a3, .inl a4, .inl a5, .inl a6, zN], [.inl x8]) M _
    refine zG_if_eq hd0 hz rfl (fun hb9 => ?_) (fun hb9 => ?_)
    · exact j31 (by omega)
    · refine zG_blk (c' := (17, [.inr (.inr (some 8)), .inl a1, .inl a2, .inl a3, .inl a4, .inl a5, .inl a6, zN], [.inl a3])) 1 hd0 hz (by rfl) ?_
      refine zG_call hd0 hz (rfl : zP 171 = (zk_X10_isMark, 1, (0, 0))) rfl rfl (Nat.le_of_ble_eq_true rfl) ⟨Nat.le_refl _, Nat.le_refl _⟩ (qf_171 (by omega) hC   a3 (by omega) ) (fun vr M10 hr => ?_)
      obtain ⟨hq, x11, rfl, hx11, hpx11_0⟩ := hr
      replace hq := hq.symm; subst hq
      show zG n (0, 0) d 129 (20, [.inr (.inr (some 8)), .inl a1, .inl a2, .inl a3, .inl a4, .inl a5, .inl a6, zN], [.inl x11]) M _
      refine zG_if_eq hd0 hz rfl (fun hb12 => ?_) (fun hb12 => ?_)
      · exact j31 (by omega)
      · refine zG_blk (c' := (25, [.inr (.inr (some 8)), .inl a1, .inl a2, .inl a3, .inl a4, .inl a5, .inl a6, zN], [.inl a4])) 1 hd0 hz (by rfl) ?_
        refine zG_call hd0 hz (rfl : zP 172 = (zk_X10_isExaminer, 1, (0, 0))) rfl rfl (Nat.le_of_ble_eq_true rfl) ⟨Nat.le_refl _, Nat.le_refl _⟩ (qf_172 (by omega) hC   a4 (by omega) ) (fun vr M13 hr => ?_)
        obtain ⟨hq, x14, rfl, hx14, hpx14_0⟩ := hr
        replace hq := hq.symm; subst hq
        show zG n (0, 0) d 129 (28, [.inr (.inr (some 8)), .inl a1, .inl a2, .inl a3, .inl a4, .inl a5, .inl a6, zN], [.inl x14]) M _
        refine zG_if_ne hd0 hz rfl (fun hb15 => ?_) (fun hb15 => ?_)
        · refine zG_blk (c' := (36, [.inr (.inr (some 8)), .inl a1, .inl a2, .inl a3, .inl a4, .inl a5, .inl a6, zN], [.inl a5])) 1 hd0 hz (by rfl) ?_
          refine zG_call hd0 hz (rfl : zP 170 = (zk_X10_isDay, 1, (0, 0))) rfl rfl (Nat.le_of_ble_eq_true rfl) ⟨Nat.le_refl _, Nat.le_refl _⟩ (qf_170 (by omega) hC   a5 (by omega) ) (fun vr M16 hr => ?_)
          obtain ⟨hq, x17, rfl, hx17, hpx17_0⟩ := hr
          replace hq := hq.symm; subst hq
          show zG n (0, 0) d 129 (39, [.inr (.inr (some 8)), .inl a1, .inl a2, .inl a3, .inl a4, .inl a5, .inl a6, zN], [.inl x17]) M _
          have j55 : (¬ (0 ≤ a1 ∧ a1 < M 12 3 ∧ 0 ≤ a2 ∧ a2 < M 10 3 ∧ 0 ≤ a3 ∧ a3 ≤ 100 ∧ 0 ≤ a4 ∧ a4 ≤ 4 ∧ 0 ≤ a5 ∧ a5 ≤ 9999 ∧ a5 ≤ a6 ∧ a6 ≤ 9999)) → zG n (0, 0) d 129 (55, [.inr (.inr (some 8)), .inl a1, .inl a2, .inl a3, .inl a4, .inl a5, .inl a6, zN], []) M (fun v M' => (qCI M' ∧ qFr [18, 19] M M') ∧ ∃ x : Int, v = some (.inl x) ∧ ((-4) ≤ x ∧ x ≤ 249) ∧ ((x = -2 ∧ ¬ (0 ≤ a1 ∧ a1 < M 12 3 ∧ 0 ≤ a2 ∧ a2 < M 10 3 ∧ 0 ≤ a3 ∧ a3 ≤ 100 ∧ 0 ≤ a4 ∧ a4 ≤ 4 ∧ 0 ≤ a5 ∧ a5 ≤ 9999 ∧ a5 ≤ a6 ∧ a6 ≤ 9999) ∧ M' 18 3 = M 18 3) ∨ (x = -4 ∧ (0 ≤ a1 ∧ a1 < M 12 3 ∧ 0 ≤ a2 ∧ a2 < M 10 3 ∧ 0 ≤ a3 ∧ a3 ≤ 100 ∧ 0 ≤ a4 ∧ a4 ≤ 4 ∧ 0 ≤ a5 ∧ a5 ≤ 9999 ∧ a5 ≤ a6 ∧ a6 ≤ 9999) ∧ M 18 3 = 250 ∧ M' 18 3 = M 18 3) ∨ (x = M 18 3 ∧ (0 ≤ a1 ∧ a1 < M 12 3 ∧ 0 ≤ a2 ∧ a2 < M 10 3 ∧ 0 ≤ a3 ∧ a3 ≤ 100 ∧ 0 ≤ a4 ∧ a4 ≤ 4 ∧ 0 ≤ a5 ∧ a5 ≤ 9999 ∧ a5 ≤ a6 ∧ a6 ≤ 9999) ∧ M 18 3 < 250 ∧ M' 18 3 = M 18 3 + 1 ∧ M' 19 (x * 11 + 0 : Int).toNat = 0 ∧ M' 19 (x * 11 + 1 : Int).toNat = a5 ∧ M' 19 (x * 11 + 2 : Int).toNat = a6 ∧ M' 19 (x * 11 + 3 : Int).toNat = -1 ∧ M' 19 (x * 11 + 4 : Int).toNat = a1 ∧ M' 19 (x * 11 + 5 : Int).toNat = a2 ∧ M' 19 (x * 11 + 6 : Int).toNat = -1 ∧ M' 19 (x * 11 + 7 : Int).toNat = a3 ∧ M' 19 (x * 11 + 8 : Int).toNat = a4 ∧ M' 19 (x * 11 + 9 : Int).toNat = -1 ∧ M' 19 (x * 11 + 10 : Int).toNat = -1)) ∧ (∀ j : Nat, ((j : Int) < 11 * M 18 3 ∨ 11 * M 18 3 + 11 ≤ j) → M' 19 j = M 19 j)) := by
            intro hx0_55
            refine zG_blk (c' := (57, [.inr (.inr (some 8)), .inl a1, .inl a2, .inl a3, .inl a4, .inl a5, .inl a6, zN], [.inl (-2)])) 1 hd0 hz (by rfl) ?_
            exact zG_ret hd0 hz rfl rfl ⟨⟨hC, hW⟩, _, rfl, by omega, by omega, hX19_M⟩
          refine zG_if_eq hd0 hz rfl (fun hb18 => ?_) (fun hb18 => ?_)
          · exact j55 (by omega)
          · refine zG_blk (c' := (49, [.inr (.inr (some 8)), .inl a1, .inl a2, .inl a3, .inl a4, .inl a5, .inl a6, zN], [.inl 9999, .inl a5, .inl a6])) 3 hd0 hz (by rfl) ?_
            refine zG_call hd0 hz (rfl : zP 169 = (zk_X10_within, 3, (0, 0))) rfl rfl (Nat.le_of_ble_eq_true rfl) ⟨Nat.le_refl _, Nat.le_refl _⟩ (qf_within (by omega) hC   a6 (by omega) a5 (by omega) 9999 (by omega) ) (fun vr M19 hr => ?_)
            obtain ⟨hq, x20, rfl, hx20⟩ := hr
            replace hq := hq.symm; subst hq
            show zG n (0, 0) d 129 (52, [.inr (.inr (some 8)), .inl a1, .inl a2, .inl a3, .inl a4, .inl a5, .inl a6, zN], [.inl x20]) M _
            refine zG_if_ne hd0 hz rfl (fun hb21 => ?_) (fun hb21 => ?_)
            · refine zG_blk (c' := (68, [.inr (.inr (some 8)), .inl a1, .inl a2, .inl a3, .inl a4, .inl a5, .inl a6, zN], [.inl (-1), .inl a6, .inl a5, .inl 0, .inr (.inr (some 9))])) 6 hd0 hz (by rfl) ?_
              refine zG_call hd0 hz (rfl : zP 18 = (zk_X2_enter, 7, (0, 0))) rfl rfl (Nat.le_of_ble_eq_true rfl) ⟨Nat.le_refl _, Nat.le_refl _⟩ (qf_enter (by omega) hC   0 (by omega) a5 (by omega) a6 (by omega) (-1) (by omega) ) (fun vr M22 hr => ?_)
              obtain ⟨⟨hCM22, hFM22⟩, x23, rfl, hx23, hpx23_0, hpx23_r19⟩ := hr
              have hWM22 : qFr [18, 19] M M22 := hW.tr hFM22 (by decide)
              have e25 : M22 12 3 = M 12 3 := hFM22 12 3 (by decide)
              have e26 : M22 10 3 = M 10 3 := hFM22 10 3 (by decide)
              have hX19_M22 : ∀ j : Nat, ((j : Int) < 11 * M 18 3 ∨ 11 * M 18 3 + 11 ≤ j) → M22 19 j = M 19 j := fun j hj => (hpx23_r19 j (by omega)).trans (hX19_M j hj)
              have r27 := hCM22.rows 18 250 11 (by decide)
              show zG n (0, 0) d 129 (71, [.inr (.inr (some 8)), .inl a1, .inl a2, .inl a3, .inl a4, .inl a5, .inl a6, zN], [.inl x23]) M22 _
              refine zG_blk (c' := (84, [.inr (.inr (some 8)), .inl a1, .inl a2, .inl a3, .inl a4, .inl a5, .inl a6, .inl x23], [.inl a1, .inl 4, .inl x23, .inr (.inr (some 18))])) 7 hd0 hz (by rfl) ?_
              refine zG_call hd0 hz (rfl : zP 107 = (zk_X8_set, 4, (0, 0))) rfl rfl (Nat.le_of_ble_eq_true rfl) ⟨Nat.le_refl _, Nat.le_refl _⟩ (qf_set (by omega) hCM22  (⟨by decide, rfl, rfl⟩ : qT n 18 250 11) x23 (by omega) 4 (by omega) a1 (by omega) ) (fun vr M28 hr => ?_)
              obtain ⟨⟨hCM28, hFM28⟩, rfl, hpx29_0, hpx29_1⟩ := hr
              have hWM28 : qFr [18, 19] M M28 := hWM22.tr hFM28 (by decide)
              have e30 : M28 12 3 = M22 12 3 := hFM28 12 3 (by decide)
              have e31 : M28 10 3 = M22 10 3 := hFM28 10 3 (by decide)
              have e32 : M28 19 (x23 * 11 + 0 : Int).toNat = M22 19 (x23 * 11 + 0 : Int).toNat := hpx29_1 _ (by omega)
              have e33 : M28 19 (x23 * 11 + 1 : Int).toNat = M22 19 (x23 * 11 + 1 : Int).toNat := hpx29_1 _ (by omega)
              have e34 : M28 19 (x23 * 11 + 2 : Int).toNat = M22 19 (x23 * 11 + 2 : Int).toNat := hpx29_1 _ (by omega)
              have e35 : M28 19 (x23 * 11 + 3 : Int).toNat = M22 19 (x23 * 11 + 3 : Int).toNat := hpx29_1 _ (by omega)
              have e36 : M28 19 (x23 * 11 + 4 : Int).toNat = M22 19 (x23 * 11 + 4 : Int).toNat := hpx29_1 _ (by omega)
              have e37 : M28 19 (x23 * 11 + 5 : Int).toNat = M22 19 (x23 * 11 + 5 : Int).toNat := hpx29_1 _ (by omega)
              have e38 : M28 19 (x23 * 11 + 6 : Int).toNat = M22 19 (x23 * 11 + 6 : Int).toNat := hpx29_1 _ (by omega)
              have e39 : M28 19 (x23 * 11 + 7 : Int).toNat = M22 19 (x23 * 11 + 7 : Int).toNat := hpx29_1 _ (by omega)
              have e40 : M28 19 (x23 * 11 + 8 : Int).toNat = M22 19 (x23 * 11 + 8 : Int).toNat := hpx29_1 _ (by omega)
              have e41 : M28 19 (x23 * 11 + 9 : Int).toNat = M22 19 (x23 * 11 + 9 : Int).toNat := hpx29_1 _ (by omega)
              have e42 : M28 19 (x23 * 11 + 10 : Int).toNat = M22 19 (x23 * 11 + 10 : Int).toNat := hpx29_1 _ (by omega)
              have e43 : M28 18 3 = M22 18 3 := hFM28 18 3 (by decide)
              have hX19_M28 : ∀ j : Nat, ((j : Int) < 11 * M 18 3 ∨ 11 * M 18 3 + 11 ≤ j) → M28 19 j = M 19 j := fun j hj => (hpx29_1 j (by omega)).trans (hX19_M22 j hj)
              have hvx29 : 0 ≤ x23 ∧ x23 < 250 → M28 19 (x23 * 11 + 4 : Int).toNat = a1 := fun h9 => hpx29_0 ⟨h9, by omega⟩
              show zG n (0, 0) d 129 (87, [.inr (.inr (some 8)), .inl a1, .inl a2, .inl a3, .inl a4, .inl a5, .inl a6, .inl x23], []) M28 _
              refine zG_blk (c' := (98, [.inr (.inr (some 8)), .inl a1, .inl a2, .inl a3, .inl a4, .inl a5, .inl a6, .inl x23], [.inl a2, .inl 5, .inl x23, .inr (.inr (some 18))])) 6 hd0 hz (by rfl) ?_
              refine zG_call hd0 hz (rfl : zP 107 = (zk_X8_set, 4, (0, 0))) rfl rfl (Nat.le_of_ble_eq_true rfl) ⟨Nat.le_refl _, Nat.le_refl _⟩ (qf_set (by omega) hCM28  (⟨by decide, rfl, rfl⟩ : qT n 18 250 11) x23 (by omega) 5 (by omega) a2 (by omega) ) (fun vr M44 hr => ?_)
              obtain ⟨⟨hCM44, hFM44⟩, rfl, hpx45_0, hpx45_1⟩ := hr
              have hWM44 : qFr [18, 19] M M44 := hWM28.tr hFM44 (by decide)
              have e46 : M44 12 3 = M28 12 3 := hFM44 12 3 (by decide)
              have e47 : M44 10 3 = M28 10 3 := hFM44 10 3 (by decide)
              have e48 : M44 19 (x23 * 11 + 0 : Int).toNat = M28 19 (x23 * 11 + 0 : Int).toNat := hpx45_1 _ (by omega)
              have e49 : M44 19 (x23 * 11 + 1 : Int).toNat = M28 19 (x23 * 11 + 1 : Int).toNat := hpx45_1 _ (by omega)
              have e50 : M44 19 (x23 * 11 + 2 : Int).toNat = M28 19 (x23 * 11 + 2 : Int).toNat := hpx45_1 _ (by omega)
              have e51 : M44 19 (x23 * 11 + 3 : Int).toNat = M28 19 (x23 * 11 + 3 : Int).toNat := hpx45_1 _ (by omega)
              have e52 : M44 19 (x23 * 11 + 4 : Int).toNat = M28 19 (x23 * 11 + 4 : Int).toNat := hpx45_1 _ (by omega)
              have e53 : M44 19 (x23 * 11 + 5 : Int).toNat = M28 19 (x23 * 11 + 5 : Int).toNat := hpx45_1 _ (by omega)
              have e54 : M44 19 (x23 * 11 + 6 : Int).toNat = M28 19 (x23 * 11 + 6 : Int).toNat := hpx45_1 _ (by omega)
              have e55 : M44 19 (x23 * 11 + 7 : Int).toNat = M28 19 (x23 * 11 + 7 : Int).toNat := hpx45_1 _ (by omega)
              have e56 : M44 19 (x23 * 11 + 8 : Int).toNat = M28 19 (x23 * 11 + 8 : Int).toNat := hpx45_1 _ (by omega)
              have e57 : M44 19 (x23 * 11 + 9 : Int).toNat = M28 19 (x23 * 11 + 9 : Int).toNat := hpx45_1 _ (by omega)
              have e58 : M44 19 (x23 * 11 + 10 : Int).toNat = M28 19 (x23 * 11 + 10 : Int).toNat := hpx45_1 _ (by omega)
              have e59 : M44 18 3 = M28 18 3 := hFM44 18 3 (by decide)
              have hX19_M44 : ∀ j : Nat, ((j : Int) < 11 * M 18 3 ∨ 11 * M 18 3 + 11 ≤ j) → M44 19 j = M 19 j := fun j hj => (hpx45_1 j (by omega)).trans (hX19_M28 j hj)
              have hvx45 : 0 ≤ x23 ∧ x23 < 250 → M44 19 (x23 * 11 + 5 : Int).toNat = a2 := fun h9 => hpx45_0 ⟨h9, by omega⟩
              show zG n (0, 0) d 129 (101, [.inr (.inr (some 8)), .inl a1, .inl a2, .inl a3, .inl a4, .inl a5, .inl a6, .inl x23], []) M44 _
              refine zG_blk (c' := (113, [.inr (.inr (some 8)), .inl a1, .inl a2, .inl a3, .inl a4, .inl a5, .inl a6, .inl x23], [.inl a3, .inl 7, .inl x23, .inr (.inr (some 18))])) 6 hd0 hz (by rfl) ?_
              refine zG_call hd0 hz (rfl : zP 107 = (zk_X8_set, 4, (0, 0))) rfl rfl (Nat.le_of_ble_eq_true rfl) ⟨Nat.le_refl _, Nat.le_refl _⟩ (qf_set (by omega) hCM44  (⟨by decide, rfl, rfl⟩ : qT n 18 250 11) x23 (by omega) 7 (by omega) a3 (by omega) ) (fun vr M60 hr => ?_)
              obtain ⟨⟨hCM60, hFM60⟩, rfl, hpx61_0, hpx61_1⟩ := hr
              have hWM60 : qFr [18, 19] M M60 := hWM44.tr hFM60 (by decide)
              have e62 : M60 12 3 = M44 12 3 := hFM60 12 3 (by decide)
              have e63 : M60 10 3 = M44 10 3 := hFM60 10 3 (by decide)
              have e64 : M60 19 (x23 * 11 + 0 : Int).toNat = M44 19 (x23 * 11 + 0 : Int).toNat := hpx61_1 _ (by omega)
              have e65 : M60 19 (x23 * 11 + 1 : Int).toNat = M44 19 (x23 * 11 + 1 : Int).toNat := hpx61_1 _ (by omega)
              have e66 : M60 19 (x23 * 11 + 2 : Int).toNat = M44 19 (x23 * 11 + 2 : Int).toNat := hpx61_1 _ (by omega)
              have e67 : M60 19 (x23 * 11 + 3 : Int).toNat = M44 19 (x23 * 11 + 3 : Int).toNat := hpx61_1 _ (by omega)
              have e68 : M60 19 (x23 * 11 + 4 : Int).toNat = M44 19 (x23 * 11 + 4 : Int).toNat := hpx61_1 _ (by omega)
              have e69 : M60 19 (x23 * 11 + 5 : Int).toNat = M44 19 (x23 * 11 + 5 : Int).toNat := hpx61_1 _ (by omega)
              have e70 : M60 19 (x23 * 11 + 6 : Int).toNat = M44 19 (x23 * 11 + 6 : Int).toNat := hpx61_1 _ (by omega)
              have e71 : M60 19 (x23 * 11 + 7 : Int).toNat = M44 19 (x23 * 11 + 7 : Int).toNat := hpx61_1 _ (by omega)
              have e72 : M60 19 (x23 * 11 + 8 : Int).toNat = M44 19 (x23 * 11 + 8 : Int).toNat := hpx61_1 _ (by omega)
              have e73 : M60 19 (x23 * 11 + 9 : Int).toNat = M44 19 (x23 * 11 + 9 : Int).toNat := hpx61_1 _ (by omega)
              have e74 : M60 19 (x23 * 11 + 10 : Int).toNat = M44 19 (x23 * 11 + 10 : Int).toNat := hpx61_1 _ (by omega)
              have e75 : M60 18 3 = M44 18 3 := hFM60 18 3 (by decide)
              have hX19_M60 : ∀ j : Nat, ((j : Int) < 11 * M 18 3 ∨ 11 * M 18 3 + 11 ≤ j) → M60 19 j = M 19 j := fun j hj => (hpx61_1 j (by omega)).trans (hX19_M44 j hj)
              have hvx61 : 0 ≤ x23 ∧ x23 < 250 → M60 19 (x23 * 11 + 7 : Int).toNat = a3 := fun h9 => hpx61_0 ⟨h9, by omega⟩
              show zG n (0, 0) d 129 (116, [.inr (.inr (some 8)), .inl a1, .inl a2, .inl a3, .inl a4, .inl a5, .inl a6, .inl x23], []) M60 _
              refine zG_blk (c' := (129, [.inr (.inr (some 8)), .inl a1, .inl a2, .inl a3, .inl a4, .inl a5, .inl a6, .inl x23], [.inl a4, .inl 8, .inl x23, .inr (.inr (some 18))])) 6 hd0 hz (by rfl) ?_
              refine zG_call hd0 hz (rfl : zP 107 = (zk_X8_set, 4, (0, 0))) rfl rfl (Nat.le_of_ble_eq_true rfl) ⟨Nat.le_refl _, Nat.le_refl _⟩ (qf_set (by omega) hCM60  (⟨by decide, rfl, rfl⟩ : qT n 18 250 11) x23 (by omega) 8 (by omega) a4 (by omega) ) (fun vr M76 hr => ?_)
              obtain ⟨⟨hCM76, hFM76⟩, rfl, hpx77_0, hpx77_1⟩ := hr
              have hWM76 : qFr [18, 19] M M76 := hWM60.tr hFM76 (by decide)
              have e78 : M76 12 3 = M60 12 3 := hFM76 12 3 (by decide)
              have e79 : M76 10 3 = M60 10 3 := hFM76 10 3 (by decide)
              have e80 : M76 19 (x23 * 11 + 0 : Int).toNat = M60 19 (x23 * 11 + 0 : Int).toNat := hpx77_1 _ (by omega)
              have e81 : M76 19 (x23 * 11 + 1 : Int).toNat = M60 19 (x23 * 11 + 1 : Int).toNat := hpx77_1 _ (by omega)
              have e82 : M76 19 (x23 * 11 + 2 : Int).toNat = M60 19 (x23 * 11 + 2 : Int).toNat := hpx77_1 _ (by omega)
              have e83 : M76 19 (x23 * 11 + 3 : Int).toNat = M60 19 (x23 * 11 + 3 : Int).toNat := hpx77_1 _ (by omega)
              have e84 : M76 19 (x23 * 11 + 4 : Int).toNat = M60 19 (x23 * 11 + 4 : Int).toNat := hpx77_1 _ (by omega)
              have e85 : M76 19 (x23 * 11 + 5 : Int).toNat = M60 19 (x23 * 11 + 5 : Int).toNat := hpx77_1 _ (by omega)
              have e86 : M76 19 (x23 * 11 + 6 : Int).toNat = M60 19 (x23 * 11 + 6 : Int).toNat := hpx77_1 _ (by omega)
              have e87 : M76 19 (x23 * 11 + 7 : Int).toNat = M60 19 (x23 * 11 + 7 : Int).toNat := hpx77_1 _ (by omega)
              have e88 : M76 19 (x23 * 11 + 8 : Int).toNat = M60 19 (x23 * 11 + 8 : Int).toNat := hpx77_1 _ (by omega)
              have e89 : M76 19 (x23 * 11 + 9 : Int).toNat = M60 19 (x23 * 11 + 9 : Int).toNat := hpx77_1 _ (by omega)
              have e90 : M76 19 (x23 * 11 + 10 : Int).toNat = M60 19 (x23 * 11 + 10 : Int).toNat := hpx77_1 _ (by omega)
              have e91 : M76 18 3 = M60 18 3 := hFM76 18 3 (by decide)
              have hX19_M76 : ∀ j : Nat, ((j : Int) < 11 * M 18 3 ∨ 11 * M 18 3 + 11 ≤ j) → M76 19 j = M 19 j := fun j hj => (hpx77_1 j (by omega)).trans (hX19_M60 j hj)
              have hvx77 : 0 ≤ x23 ∧ x23 < 250 → M76 19 (x23 * 11 + 8 : Int).toNat = a4 := fun h9 => hpx77_0 ⟨h9, by omega⟩
              show zG n (0, 0) d 129 (132, [.inr (.inr (some 8)), .inl a1, .inl a2, .inl a3, .inl a4, .inl a5, .inl a6, .inl x23], []) M76 _
              refine zG_blk (c' := (134, [.inr (.inr (some 8)), .inl a1, .inl a2, .inl a3, .inl a4, .inl a5, .inl a6, .inl x23], [.inl x23])) 1 hd0 hz (by rfl) ?_
              exact zG_ret hd0 hz rfl rfl ⟨⟨hCM76, hWM76⟩, _, rfl, by omega, by omega, hX19_M76⟩
            · exact j55 (by omega)
        · exact j31 (by omega)
theorem qf_130_8 {n d : Nat} {M : zM} (hd : 3 ≤ d) (hC : qCI M)  (a1 : Int) (ha1 : (-2147483648) ≤ a1 ∧ a1 ≤ 2147483647) (a2 : Int) (ha2 : (-2147483648) ≤ a2 ∧ a2 ≤ 2147483647) (a3 : Int) (ha3 : (-2147483648) ≤ a3 ∧ a3 ≤ 2147483647) (a4 : Int) (ha4 : (-2147483648) ≤ a4 ∧ a4 ≤ 2147483647) (a5 : Int) (ha5 : (-2147483648) ≤ a5 ∧ a5 ≤ 2147483647) : qOkC n d 130 [.inr (.inr (some 8)), .inl a1, .inl a2, .inl a3, .inl a4, .inl a5] 7 [18, 19] M (fun v M' => ∃ x : Int, v = some (.inl x) ∧ ((-4) ≤ x ∧ x ≤ 249) ∧ ((x = -2 ∧ ¬ (0 ≤ a1 ∧ a1 < M 18 3 ∧ M 19 (a1 * 11 + 0 : Int).toNat = 0 ∧ 0 ≤ a2 ∧ a2 ≤ 100 ∧ 0 ≤ a3 ∧ a3 ≤ 4 ∧ a3 ≠ M 19 (a1 * 11 + 8 : Int).toNat ∧ M 19 (a1 * 11 + 1 : Int).toNat ≤ a4 ∧ a4 ≤ 9999 ∧ a4 ≤ a5 ∧ a5 ≤ 9999) ∧ M' 18 3 = M 18 3) ∨ (x = -4 ∧ (0 ≤ a1 ∧ a1 < M 18 3 ∧ M 19 (a1 * 11 + 0 : Int).toNat = 0 ∧ 0 ≤ a2 ∧ a2 ≤ 100 ∧ 0 ≤ a3 ∧ a3 ≤ 4 ∧ a3 ≠ M 19 (a1 * 11 + 8 : Int).toNat ∧ M 19 (a1 * 11 + 1 : Int).toNat ≤ a4 ∧ a4 ≤ 9999 ∧ a4 ≤ a5 ∧ a5 ≤ 9999) ∧ M 18 3 = 250 ∧ M' 18 3 = M 18 3) ∨ (x = M 18 3 ∧ (0 ≤ a1 ∧ a1 < M 18 3 ∧ M 19 (a1 * 11 + 0 : Int).toNat = 0 ∧ 0 ≤ a2 ∧ a2 ≤ 100 ∧ 0 ≤ a3 ∧ a3 ≤ 4 ∧ a3 ≠ M 19 (a1 * 11 + 8 : Int).toNat ∧ M 19 (a1 * 11 + 1 : Int).toNat ≤ a4 ∧ a4 ≤ 9999 ∧ a4 ≤ a5 ∧ a5 ≤ 9999) ∧ M 18 3 < 250 ∧ M' 18 3 = M 18 3 + 1 ∧ M' 19 (x * 11 + 0 : Int).toNat = 1 ∧ M' 19 (x * 11 + 1 : Int).toNat = a4 ∧ M' 19 (x * 11 + 2 : Int).toNat = a5 ∧ M' 19 (x * 11 + 3 : Int).toNat = -1 ∧ M' 19 (x * 11 + 4 : Int).toNat = -1 ∧ M' 19 (x * 11 + 5 : Int).toNat = -1 ∧ M' 19 (x * 11 + 6 : Int).toNat = a1 ∧ M' 19 (x * 11 + 7 : Int).toNat = a2 ∧ M' 19 (x * 11 + 8 : Int).toNat = a3 ∧ M' 19 (x * 11 + 9 : Int).toNat = -1 ∧ M' 19 (x * 11 + 10 : Int).toNat = -1)) ∧ (∀ j : Nat, ((j : Int) < 11 * M 18 3 ∨ 11 * M 18 3 + 11 ≤ j) → M' 19 j = M 19 j)) := by
  have hz : zP 130 = (zk_X10_second, 7, (0, 0)) := rfl
  have hd0 : 0 < d := by omega
  have hW : qFr [18, 19] M M := qFr.rfl
  have hX19_M : ∀ j : Nat, ((j : Int) < 11 * M 18 3 ∨ 11 * M 18 3 + 11 ≤ j) → M 19 j = M 19 j := fun _ _ => rfl
  have r1 := hC.rows 18 250 11 (by decide)
  show zG n (0, 0) d 130 (0, [.inr (.inr (some 8)), .inl a1, .inl a2, .inl a3, .inl a4, .inl a5, zN], []) M _
  refine zG_blk (c' := (6, [.inr (.inr (some 8)), .inl a1, .inl a2, .inl a3, .inl a4, .inl a5, zN], [.inl a1, .inl 0, .inr (.inr (some 9))])) 4 hd0 hz (by rfl) ?_
  refine zG_call hd0 hz (rfl : zP 19 = (zk_X2_isA, 3, (0, 0))) rfl rfl (Nat.le_of_ble_eq_true rfl) ⟨Nat.le_refl _, Nat.le_refl _⟩ (qf_19_9 (by omega) hC   0 (by omega) a1 (by omega) ) (fun vr M2 hr => ?_)
  obtain ⟨hq, x3, rfl, hx3, hpx3_0⟩ := hr
  replace hq := hq.symm; subst hq
  show zG n (0, 0) d 130 (9, [.inr (.inr (some 8)), .inl a1, .inl a2, .inl a3, .inl a4, .inl a5, zN], [.inl x3]) M _
  have j26 : (¬ (0 ≤ a1 ∧ a1 < M 18 3 ∧ M 19 (a1 * 11 + 0 : Int).toNat = 0 ∧ 0 ≤ a2 ∧ a2 ≤ 100 ∧ 0 ≤ a3 ∧ a3 ≤ 4 ∧ a3 ≠ M 19 (a1 * 11 + 8 : Int).toNat ∧ M 19 (a1 * 11 + 1 : Int).toNat ≤ a4 ∧ a4 ≤ 9999 ∧ a4 ≤ a5 ∧ a5 ≤ 9999)) → zG n (0, 0) d 130 (26, [.inr (.inr (some 8)), .inl a1, .inl a2, .inl a3, .inl a4, .inl a5, zN], []) M (fun v M' => (qCI M' ∧ qFr [18, 19] M M') ∧ ∃ x : Int, v = some (.inl x) ∧ ((-4) ≤ x ∧ x ≤ 249) ∧ ((x = -2 ∧ ¬ (0 ≤ a1 ∧ a1 < M 18 3 ∧ M 19 (a1 * 11 + 0 : Int).toNat = 0 ∧ 0 ≤ a2 ∧ a2 ≤ 100 ∧ 0 ≤ a3 ∧ a3 ≤ 4 ∧ a3 ≠ M 19 (a1 * 11 + 8 : Int).toNat ∧ M 19 (a1 * 11 + 1 : Int).toNat ≤ a4 ∧ a4 ≤ 9999 ∧ a4 ≤ a5 ∧ a5 ≤ 9999) ∧ M' 18 3 = M 18 3) ∨ (x = -4 ∧ (0 ≤ a1 ∧ a1 < M 18 3 ∧ M 19 (a1 * 11 + 0 : Int).toNat = 0 ∧ 0 ≤ a2 ∧ a2 ≤ 100 ∧ 0 ≤ a3 ∧ a3 ≤ 4 ∧ a3 ≠ M 19 (a1 * 11 + 8 : Int).toNat ∧ M 19 (a1 * 11 + 1 : Int).toNat ≤ a4 ∧ a4 ≤ 9999 ∧ a4 ≤ a5 ∧ a5 ≤ 9999) ∧ M 18 3 = 250 ∧ M' 18 3 = M 18 3) ∨ (x = M 18 3 ∧ (0 ≤ a1 ∧ a1 < M 18 3 ∧ M 19 (a1 * 11 + 0 : Int).toNat = 0 ∧ 0 ≤ a2 ∧ a2 ≤ 100 ∧ 0 ≤ a3 ∧ a3 ≤ 4 ∧ a3 ≠ M 19 (a1 * 11 + 8 : Int).toNat ∧ M 19 (a1 * 11 + 1 : Int).toNat ≤ a4 ∧ a4 ≤ 9999 ∧ a4 ≤ a5 ∧ a5 ≤ 9999) ∧ M 18 3 < 250 ∧ M' 18 3 = M 18 3 + 1 ∧ M' 19 (x * 11 + 0 : Int).toNat = 1 ∧ M' 19 (x * 11 + 1 : Int).toNat = a4 ∧ M' 19 (x * 11 + 2 : Int).toNat = a5 ∧ M' 19 (x * 11 + 3 : Int).toNat = -1 ∧ M' 19 (x * 11 + 4 : Int).toNat = -1 ∧ M' 19 (x * 11 + 5 : Int).toNat = -1 ∧ M' 19 (x * 11 + 6 : Int).toNat = a1 ∧ M' 19 (x * 11 + 7 : Int).toNat = a2 ∧ M' 19 (x * 11 + 8 : Int).toNat = a3 ∧ M' 19 (x * 11 + 9 : Int).toNat = -1 ∧ M' 19 (x * 11 + 10 : Int).toNat = -1)) ∧ (∀ j : Nat, ((j : Int) < 11 * M 18 3 ∨ 11 * M 18 3 + 11 ≤ j) → M' 19 j = M 19 j)) := by
    intro hx0_26
    refine zG_blk (c' := (28, [.inr (.inr (some 8)), .inl a1, .inl a2, .inl a3, .inl a4, .inl a5, zN], [.inl (-2)])) 1 hd0 hz (by rfl) ?_
    exact zG_ret hd0 hz rfl rfl ⟨⟨hC, hW⟩, _, rfl, by omega, by omega, hX19_M⟩
  refine zG_if_eq hd0 hz rfl (fun hb4 => ?_) (fun hb4 => ?_)
  · exact j26 (by omega)
  · refine zG_blk (c' := (13, [.inr (.inr (some 8)), .inl a1, .inl a2, .inl a3, .inl a4, .inl a5, zN], [.inl a2])) 1 hd0 hz (by rfl) ?_
    refine zG_call hd0 hz (rfl : zP 171 = (zk_X10_isMark, 1, (0, 0))) rfl rfl (Nat.le_of_ble_eq_true rfl) ⟨Nat.le_refl _, Nat.le_refl _⟩ (qf_171 (by omega) hC   a2 (by omega) ) (fun vr M5 hr => ?_)
    obtain ⟨hq, x6, rfl, hx6, hpx6_0⟩ := hr
    replace hq := hq.symm; subst hq
    show zG n (0, 0) d 130 (16, [.inr (.inr (some 8)), .inl a1, .inl a2, .inl a3, .inl a4, .inl a5, zN], [.inl x6]) M _
    refine zG_if_eq hd0 hz rfl (fun hb7 => ?_) (fun hb7 => ?_)
    · exact j26 (by omega)
    · refine zG_blk (c' := (20, [.inr (.inr (some 8)), .inl a1, .inl a2, .inl a3, .inl a4, .inl a5, zN], [.inl a3])) 1 hd0 hz (by rfl) ?_
      refine zG_call hd0 hz (rfl : zP 172 = (zk_X10_isExaminer, 1, (0, 0))) rfl rfl (Nat.le_of_ble_eq_true rfl) ⟨Nat.le_refl _, Nat.le_refl _⟩ (qf_172 (by omega) hC   a3 (by omega) ) (fun vr M8 hr => ?_)
      obtain ⟨hq, x9, rfl, hx9, hpx9_0⟩ := hr
      replace hq := hq.symm; subst hq
      show zG n (0, 0) d 130 (23, [.inr (.inr (some 8)), .inl a1, .inl a2, .inl a3, .inl a4, .inl a5, zN], [.inl x9]) M _
      refine zG_if_ne hd0 hz rfl (fun hb10 => ?_) (fun hb10 => ?_)
      · refine zG_blk (c' := (40, [.inr (.inr (some 8)), .inl a1, .inl a2, .inl a3, .inl a4, .inl a5, zN], [.inl 8, .inl a1, .inr (.inr (some 18)), .inl a3])) 6 hd0 hz (by rfl) ?_
        refine zG_call hd0 hz (rfl : zP 106 = (zk_X8_get, 3, (0, 0))) rfl rfl (Nat.le_of_ble_eq_true rfl) ⟨Nat.le_refl _, Nat.le_refl _⟩ (qe_get (by omega) hC  (⟨by decide, rfl, rfl⟩ : qT n 18 250 11) a1 (by omega) 8 (by omega) ) (fun vr M11 hr => ?_)
        obtain ⟨hq, x12, rfl, hx12⟩ := hr
        replace hq := hq.symm; subst hq
        have hvx12 : 0 ≤ a1 ∧ a1 < 250 → x12 = M 19 (a1 * 11 + 8 : Int).toNat := fun h9 => hx12.2.1 ⟨h9, by omega⟩
        replace hx12 := hx12.1
        show zG n (0, 0) d 130 (43, [.inr (.inr (some 8)), .inl a1, .inl a2, .inl a3, .inl a4, .inl a5, zN], [.inl x12, .inl a3]) M _
        refine zG_icmp_ne hd0 hz rfl (fun hb13 => ?_) (fun hb13 => ?_)
        · refine zG_blk (c' := (60, [.inr (.inr (some 8)), .inl a1, .inl a2, .inl a3, .inl a4, .inl a5, zN], [.inl 1, .inl a1, .inr (.inr (some 18)), .inl a4])) 6 hd0 hz (by rfl) ?_
          refine zG_call hd0 hz (rfl : zP 106 = (zk_X8_get, 3, (0, 0))) rfl rfl (Nat.le_of_ble_eq_true rfl) ⟨Nat.le_refl _, Nat.le_refl _⟩ (qe_get (by omega) hC  (⟨by decide, rfl, rfl⟩ : qT n 18 250 11) a1 (by omega) 1 (by omega) ) (fun vr M14 hr => ?_)
          obtain ⟨hq, x15, rfl, hx15⟩ := hr
          replace hq := hq.symm; subst hq
          have hvx15 : 0 ≤ a1 ∧ a1 < 250 → x15 = M 19 (a1 * 11 + 1 : Int).toNat := fun h9 => hx15.2.1 ⟨h9, by omega⟩
          replace hx15 := hx15.1
          show zG n (0, 0) d 130 (63, [.inr (.inr (some 8)), .inl a1, .inl a2, .inl a3, .inl a4, .inl a5, zN], [.inl x15, .inl a4]) M _
          refine zG_blk (c' := (66, [.inr (.inr (some 8)), .inl a1, .inl a2, .inl a3, .inl a4, .inl a5, zN], [.inl 9999, .inl x15, .inl a4])) 1 hd0 hz (by rfl) ?_
          refine zG_call hd0 hz (rfl : zP 169 = (zk_X10_within, 3, (0, 0))) rfl rfl (Nat.le_of_ble_eq_true rfl) ⟨Nat.le_refl _, Nat.le_refl _⟩ (qf_within (by omega) hC   a4 (by omega) x15 (by omega) 9999 (by omega) ) (fun vr M16 hr => ?_)
          obtain ⟨hq, x17, rfl, hx17⟩ := hr
          replace hq := hq.symm; subst hq
          show zG n (0, 0) d 130 (69, [.inr (.inr (some 8)), .inl a1, .inl a2, .inl a3, .inl a4, .inl a5, zN], [.inl x17]) M _
          have j85 : (¬ (0 ≤ a1 ∧ a1 < M 18 3 ∧ M 19 (a1 * 11 + 0 : Int).toNat = 0 ∧ 0 ≤ a2 ∧ a2 ≤ 100 ∧ 0 ≤ a3 ∧ a3 ≤ 4 ∧ a3 ≠ M 19 (a1 * 11 + 8 : Int).toNat ∧ M 19 (a1 * 11 + 1 : Int).toNat ≤ a4 ∧ a4 ≤ 9999 ∧ a4 ≤ a5 ∧ a5 ≤ 9999)) → zG n (0, 0) d 130 (85, [.inr (.inr (some 8)), .inl a1, .inl a2, .inl a3, .inl a4, .inl a5, zN], []) M (fun v M' => (qCI M' ∧ qFr [18, 19] M M') ∧ ∃ x : Int, v = some (.inl x) ∧ ((-4) ≤ x ∧ x ≤ 249) ∧ ((x = -2 ∧ ¬ (0 ≤ a1 ∧ a1 < M 18 3 ∧ M 19 (a1 * 11 + 0 : Int).toNat = 0 ∧ 0 ≤ a2 ∧ a2 ≤ 100 ∧ 0 ≤ a3 ∧ a3 ≤ 4 ∧ a3 ≠ M 19 (a1 * 11 + 8 : Int).toNat ∧ M 19 (a1 * 11 + 1 : Int).toNat ≤ a4 ∧ a4 ≤ 9999 ∧ a4 ≤ a5 ∧ a5 ≤ 9999) ∧ M' 18 3 = M 18 3) ∨ (x = -4 ∧ (0 ≤ a1 ∧ a1 < M 18 3 ∧ M 19 (a1 * 11 + 0 : Int).toNat = 0 ∧ 0 ≤ a2 ∧ a2 ≤ 100 ∧ 0 ≤ a3 ∧ a3 ≤ 4 ∧ a3 ≠ M 19 (a1 * 11 + 8 : Int).toNat ∧ M 19 (a1 * 11 + 1 : Int).toNat ≤ a4 ∧ a4 ≤ 9999 ∧ a4 ≤ a5 ∧ a5 ≤ 9999) ∧ M 18 3 = 250 ∧ M' 18 3 = M 18 3) ∨ (x = M 18 3 ∧ (0 ≤ a1 ∧ a1 < M 18 3 ∧ M 19 (a1 * 11 + 0 : Int).toNat = 0 ∧ 0 ≤ a2 ∧ a2 ≤ 100 ∧ 0 ≤ a3 ∧ a3 ≤ 4 ∧ a3 ≠ M 19 (a1 * 11 + 8 : Int).toNat ∧ M 19 (a1 * 11 + 1 : Int).toNat ≤ a4 ∧ a4 ≤ 9999 ∧ a4 ≤ a5 ∧ a5 ≤ 9999) ∧ M 18 3 < 250 ∧ M' 18 3 = M 18 3 + 1 ∧ M' 19 (x * 11 + 0 : Int).toNat = 1 ∧ M' 19 (x * 11 + 1 : Int).toNat = a4 ∧ M' 19 (x * 11 + 2 : Int).toNat = a5 ∧ M' 19 (x * 11 + 3 : Int).toNat = -1 ∧ M' 19 (x * 11 + 4 : Int).toNat = -1 ∧ M' 19 (x * 11 + 5 : Int).toNat = -1 ∧ M' 19 (x * 11 + 6 : Int).toNat = a1 ∧ M' 19 (x * 11 + 7 : Int).toNat = a2 ∧ M' 19 (x * 11 + 8 : Int).toNat = a3 ∧ M' 19 (x * 11 + 9 : Int).toNat = -1 ∧ M' 19 (x * 11 + 10 : Int).toNat = -1)) ∧ (∀ j : Nat, ((j : Int) < 11 * M 18 3 ∨ 11 * M 18 3 + 11 ≤ j) → M' 19 j = M 19 j)) := by
            intro hx0_85
            refine zG_blk (c' := (87, [.inr (.inr (some 8)), .inl a1, .inl a2, .inl a3, .inl a4, .inl a5, zN], [.inl (-2)])) 1 hd0 hz (by rfl) ?_
            exact zG_ret hd0 hz rfl rfl ⟨⟨hC, hW⟩, _, rfl, by omega, by omega, hX19_M⟩
          refine zG_if_eq hd0 hz rfl (fun hb18 => ?_) (fun hb18 => ?_)
          · exact j85 (by omega)
          · refine zG_blk (c' := (79, [.inr (.inr (some 8)), .inl a1, .inl a2, .inl a3, .inl a4, .inl a5, zN], [.inl 9999, .inl a4, .inl a5])) 3 hd0 hz (by rfl) ?_
            refine zG_call hd0 hz (rfl : zP 169 = (zk_X10_within, 3, (0, 0))) rfl rfl (Nat.le_of_ble_eq_true rfl) ⟨Nat.le_refl _, Nat.le_refl _⟩ (qf_within (by omega) hC   a5 (by omega) a4 (by omega) 9999 (by omega) ) (fun vr M19 hr => ?_)
            obtain ⟨hq, x20, rfl, hx20⟩ := hr
            replace hq := hq.symm; subst hq
            show zG n (0, 0) d 130 (82, [.inr (.inr (some 8)), .inl a1, .inl a2, .inl a3, .inl a4, .inl a5, zN], [.inl x20]) M _
            refine zG_if_ne hd0 hz rfl (fun hb21 => ?_) (fun hb21 => ?_)
            · refine zG_blk (c' := (98, [.inr (.inr (some 8)), .inl a1, .inl a2, .inl a3, .inl a4, .inl a5, zN], [.inl (-1), .inl a5, .inl a4, .inl 1, .inr (.inr (some 9))])) 6 hd0 hz (by rfl) ?_
              refine zG_call hd0 hz (rfl : zP 18 = (zk_X2_enter, 7, (0, 0))) rfl rfl (Nat.le_of_ble_eq_true rfl) ⟨Nat.le_refl _, Nat.le_refl _⟩ (qf_enter (by omega) hC   1 (by omega) a4 (by omega) a5 (by omega) (-1) (by omega) ) (fun vr M22 hr => ?_)
              obtain ⟨⟨hCM22, hFM22⟩, x23, rfl, hx23, hpx23_0, hpx23_r19⟩ := hr
              have hWM22 : qFr [18, 19] M M22 := hW.tr hFM22 (by decide)
              have hX19_M22 : ∀ j : Nat, ((j : Int) < 11 * M 18 3 ∨ 11 * M 18 3 + 11 ≤ j) → M22 19 j = M 19 j := fun j hj => (hpx23_r19 j (by omega)).trans (hX19_M j hj)
              have r25 := hCM22.rows 18 250 11 (by decide)
              show zG n (0, 0) d 130 (101, [.inr (.inr (some 8)), .inl a1, .inl a2, .inl a3, .inl a4, .inl a5, zN], [.inl x23]) M22 _
              refine zG_blk (c' := (115, [.inr (.inr (some 8)), .inl a1, .inl a2, .inl a3, .inl a4, .inl a5, .inl x23], [.inl a1, .inl 6, .inl x23, .inr (.inr (some 18))])) 7 hd0 hz (by rfl) ?_
              refine zG_call hd0 hz (rfl : zP 107 = (zk_X8_set, 4, (0, 0))) rfl rfl (Nat.le_of_ble_eq_true rfl) ⟨Nat.le_refl _, Nat.le_refl _⟩ (qf_set (by omega) hCM22  (⟨by decide, rfl, rfl⟩ : qT n 18 250 11) x23 (by omega) 6 (by omega) a1 (by omega) ) (fun vr M26 hr => ?_)
              obtain ⟨⟨hCM26, hFM26⟩, rfl, hpx27_0, hpx27_1⟩ := hr
              have hWM26 : qFr [18, 19] M M26 := hWM22.tr hFM26 (by decide)
              have e28 : M26 19 (x23 * 11 + 0 : Int).toNat = M22 19 (x23 * 11 + 0 : Int).toNat := hpx27_1 _ (by omega)
              have e29 : M26 19 (x23 * 11 + 1 : Int).toNat = M22 19 (x23 * 11 + 1 : Int).toNat := hpx27_1 _ (by omega)
              have e30 : M26 19 (x23 * 11 + 2 : Int).toNat = M22 19 (x23 * 11 + 2 : Int).toNat := hpx27_1 _ (by omega)
              have e31 : M26 19 (x23 * 11 + 3 : Int).toNat = M22 19 (x23 * 11 + 3 : Int).toNat := hpx27_1 _ (by omega)
              have e32 : M26 19 (x23 * 11 + 4 : Int).toNat = M22 19 (x23 * 11 + 4 : Int).toNat := hpx27_1 _ (by omega)
              have e33 : M26 19 (x23 * 11 + 5 : Int).toNat = M22 19 (x23 * 11 + 5 : Int).toNat := hpx27_1 _ (by omega)
              have e34 : M26 19 (x23 * 11 + 6 : Int).toNat = M22 19 (x23 * 11 + 6 : Int).toNat := hpx27_1 _ (by omega)
              have e35 : M26 19 (x23 * 11 + 7 : Int).toNat = M22 19 (x23 * 11 + 7 : Int).toNat := hpx27_1 _ (by omega)
              have e36 : M26 19 (x23 * 11 + 8 : Int).toNat = M22 19 (x23 * 11 + 8 : Int).toNat := hpx27_1 _ (by omega)
              have e37 : M26 19 (x23 * 11 + 9 : Int).toNat = M22 19 (x23 * 11 + 9 : Int).toNat := hpx27_1 _ (by omega)
              have e38 : M26 19 (x23 * 11 + 10 : Int).toNat = M22 19 (x23 * 11 + 10 : Int).toNat := hpx27_1 _ (by omega)
              have e39 : M26 18 3 = M22 18 3 := hFM26 18 3 (by decide)
              have hX19_M26 : ∀ j : Nat, ((j : Int) < 11 * M 18 3 ∨ 11 * M 18 3 + 11 ≤ j) → M26 19 j = M 19 j := fun j hj => (hpx27_1 j (by omega)).trans (hX19_M22 j hj)
              have hvx27 : 0 ≤ x23 ∧ x23 < 250 → M26 19 (x23 * 11 + 6 : Int).toNat = a1 := fun h9 => hpx27_0 ⟨h9, by omega⟩
              show zG n (0, 0) d 130 (118, [.inr (.inr (some 8)), .inl a1, .inl a2, .inl a3, .inl a4, .inl a5, .inl x23], []) M26 _
              refine zG_blk (c' := (130, [.inr (.inr (some 8)), .inl a1, .inl a2, .inl a3, .inl a4, .inl a5, .inl x23], [.inl a2, .inl 7, .inl x23, .inr (.inr (some 18))])) 6 hd0 hz (by rfl) ?_
              refine zG_call hd0 hz (rfl : zP 107 = (zk_X8_set, 4, (0, 0))) rfl rfl (Nat.le_of_ble_eq_true rfl) ⟨Nat.le_refl _, Nat.le_refl _⟩ (qf_set (by omega) hCM26  (⟨by decide, rfl, rfl⟩ : qT n 18 250 11) x23 (by omega) 7 (by omega) a2 (by omega) ) (fun vr M40 hr => ?_)
              obtain ⟨⟨hCM40, hFM40⟩, rfl, hpx41_0, hpx41_1⟩ := hr
              have hWM40 : qFr [18, 19] M M40 := hWM26.tr hFM40 (by decide)
              have e42 : M40 19 (x23 * 11 + 0 : Int).toNat = M26 19 (x23 * 11 + 0 : Int).toNat := hpx41_1 _ (by omega)
              have e43 : M40 19 (x23 * 11 + 1 : Int).toNat = M26 19 (x23 * 11 + 1 : Int).toNat := hpx41_1 _ (by omega)
              have e44 : M40 19 (x23 * 11 + 2 : Int).toNat = M26 19 (x23 * 11 + 2 : Int).toNat := hpx41_1 _ (by omega)
              have e45 : M40 19 (x23 * 11 + 3 : Int).toNat = M26 19 (x23 * 11 + 3 : Int).toNat := hpx41_1 _ (by omega)
              have e46 : M40 19 (x23 * 11 + 4 : Int).toNat = M26 19 (x23 * 11 + 4 : Int).toNat := hpx41_1 _ (by omega)
              have e47 : M40 19 (x23 * 11 + 5 : Int).toNat = M26 19 (x23 * 11 + 5 : Int).toNat := hpx41_1 _ (by omega)
              have e48 : M40 19 (x23 * 11 + 6 : Int).toNat = M26 19 (x23 * 11 + 6 : Int).toNat := hpx41_1 _ (by omega)
              have e49 : M40 19 (x23 * 11 + 7 : Int).toNat = M26 19 (x23 * 11 + 7 : Int).toNat := hpx41_1 _ (by omega)
              have e50 : M40 19 (x23 * 11 + 8 : Int).toNat = M26 19 (x23 * 11 + 8 : Int).toNat := hpx41_1 _ (by omega)
              have e51 : M40 19 (x23 * 11 + 9 : Int).toNat = M26 19 (x23 * 11 + 9 : Int).toNat := hpx41_1 _ (by omega)
              have e52 : M40 19 (x23 * 11 + 10 : Int).toNat = M26 19 (x23 * 11 + 10 : Int).toNat := hpx41_1 _ (by omega)
              have e53 : M40 18 3 = M26 18 3 := hFM40 18 3 (by decide)
              have hX19_M40 : ∀ j : Nat, ((j : Int) < 11 * M 18 3 ∨ 11 * M 18 3 + 11 ≤ j) → M40 19 j = M 19 j := fun j hj => (hpx41_1 j (by omega)).trans (hX19_M26 j hj)
              have hvx41 : 0 ≤ x23 ∧ x23 < 250 → M40 19 (x23 * 11 + 7 : Int).toNat = a2 := fun h9 => hpx41_0 ⟨h9, by omega⟩
              show zG n (0, 0) d 130 (133, [.inr (.inr (some 8)), .inl a1, .inl a2, .inl a3, .inl a4, .inl a5, .inl x23], []) M40 _
              refine zG_blk (c' := (145, [.inr (.inr (some 8)), .inl a1, .inl a2, .inl a3, .inl a4, .inl a5, .inl x23], [.inl a3, .inl 8, .inl x23, .inr (.inr (some 18))])) 6 hd0 hz (by rfl) ?_
              refine zG_call hd0 hz (rfl : zP 107 = (zk_X8_set, 4, (0, 0))) rfl rfl (Nat.le_of_ble_eq_true rfl) ⟨Nat.le_refl _, Nat.le_refl _⟩ (qf_set (by omega) hCM40  (⟨by decide, rfl, rfl⟩ : qT n 18 250 11) x23 (by omega) 8 (by omega) a3 (by omega) ) (fun vr M54 hr => ?_)
              obtain ⟨⟨hCM54, hFM54⟩, rfl, hpx55_0, hpx55_1⟩ := hr
              have hWM54 : qFr [18, 19] M M54 := hWM40.tr hFM54 (by decide)
              have e56 : M54 19 (x23 * 11 + 0 : Int).toNat = M40 19 (x23 * 11 + 0 : Int).toNat := hpx55_1 _ (by omega)
              have e57 : M54 19 (x23 * 11 + 1 : Int).toNat = M40 19 (x23 * 11 + 1 : Int).toNat := hpx55_1 _ (by omega)
              have e58 : M54 19 (x23 * 11 + 2 : Int).toNat = M40 19 (x23 * 11 + 2 : Int).toNat := hpx55_1 _ (by omega)
              have e59 : M54 19 (x23 * 11 + 3 : Int).toNat = M40 19 (x23 * 11 + 3 : Int).toNat := hpx55_1 _ (by omega)
              have e60 : M54 19 (x23 * 11 + 4 : Int).toNat = M40 19 (x23 * 11 + 4 : Int).toNat := hpx55_1 _ (by omega)
              have e61 : M54 19 (x23 * 11 + 5 : Int).toNat = M40 19 (x23 * 11 + 5 : Int).toNat := hpx55_1 _ (by omega)
              have e62 : M54 19 (x23 * 11 + 6 : Int).toNat = M40 19 (x23 * 11 + 6 : Int).toNat := hpx55_1 _ (by omega)
              have e63 : M54 19 (x23 * 11 + 7 : Int).toNat = M40 19 (x23 * 11 + 7 : Int).toNat := hpx55_1 _ (by omega)
              have e64 : M54 19 (x23 * 11 + 8 : Int).toNat = M40 19 (x23 * 11 + 8 : Int).toNat := hpx55_1 _ (by omega)
              have e65 : M54 19 (x23 * 11 + 9 : Int).toNat = M40 19 (x23 * 11 + 9 : Int).toNat := hpx55_1 _ (by omega)
              have e66 : M54 19 (x23 * 11 + 10 : Int).toNat = M40 19 (x23 * 11 + 10 : Int).toNat := hpx55_1 _ (by omega)
              have e67 : M54 18 3 = M40 18 3 := hFM54 18 3 (by decide)
              have hX19_M54 : ∀ j : Nat, ((j : Int) < 11 * M 18 3 ∨ 11 * M 18 3 + 11 ≤ j) → M54 19 j = M 19 j := fun j hj => (hpx55_1 j (by omega)).trans (hX19_M40 j hj)
              have hvx55 : 0 ≤ x23 ∧ x23 < 250 → M54 19 (x23 * 11 + 8 : Int).toNat = a3 := fun h9 => hpx55_0 ⟨h9, by omega⟩
              show zG n (0, 0) d 130 (148, [.inr (.inr (some 8)), .inl a1, .inl a2, .inl a3, .inl a4, .inl a5, .inl x23], []) M54 _
              refine zG_blk (c' := (150, [.inr (.inr (some 8)), .inl a1, .inl a2, .inl a3, .inl a4, .inl a5, .inl x23], [.inl x23])) 1 hd0 hz (by rfl) ?_
              exact zG_ret hd0 hz rfl rfl ⟨⟨hCM54, hWM54⟩, _, rfl, by omega, by omega, hX19_M54⟩
            · exact j85 (by omega)
        · refine zG_blk (c' := (48, [.inr (.inr (some 8)), .inl a1, .inl a2, .inl a3, .inl a4, .inl a5, zN], [.inl (-2)])) 1 hd0 hz (by rfl) ?_
          exact zG_ret hd0 hz rfl rfl ⟨⟨hC, hW⟩, _, rfl, by omega, by omega, hX19_M⟩
      · exact j26 (by omega)
theorem qf_131_8 {n d : Nat} {M : zM} (hd : 4 ≤ d) (hC : qCI M)  (a1 : Int) (ha1 : (-2147483648) ≤ a1 ∧ a1 ≤ 2147483647) (a2 : Int) (ha2 : (-2147483648) ≤ a2 ∧ a2 ≤ 2147483647) (a3 : Int) (ha3 : (-2147483648) ≤ a3 ∧ a3 ≤ 2147483647) (a4 : Int) (ha4 : (-2147483648) ≤ a4 ∧ a4 ≤ 2147483647) : qOkC n d 131 [.inr (.inr (some 8)), .inl a1, .inl a2, .inl a3, .inl a4] 6 [18, 19] M (fun v M' => ∃ x : Int, v = some (.inl x) ∧ ((-4) ≤ x ∧ x ≤ 249) ∧ ((x = -2 ∧ ¬ (0 ≤ a1 ∧ a1 < M 18 3 ∧ M 19 (a1 * 11 + 0 : Int).toNat = 0 ∧ 0 ≤ a2 ∧ a2 ≤ 100 ∧ 0 ≤ a3 ∧ a3 < M 16 3 ∧ M 17 (a3 * 5 + 1 : Int).toNat ≤ a4 ∧ a4 ≤ 9999) ∧ M' 18 3 = M 18 3) ∨ (x = -4 ∧ (0 ≤ a1 ∧ a1 < M 18 3 ∧ M 19 (a1 * 11 + 0 : Int).toNat = 0 ∧ 0 ≤ a2 ∧ a2 ≤ 100 ∧ 0 ≤ a3 ∧ a3 < M 16 3 ∧ M 17 (a3 * 5 + 1 : Int).toNat ≤ a4 ∧ a4 ≤ 9999) ∧ M 18 3 = 250 ∧ M' 18 3 = M 18 3) ∨ (x = M 18 3 ∧ (0 ≤ a1 ∧ a1 < M 18 3 ∧ M 19 (a1 * 11 + 0 : Int).toNat = 0 ∧ 0 ≤ a2 ∧ a2 ≤ 100 ∧ 0 ≤ a3 ∧ a3 < M 16 3 ∧ M 17 (a3 * 5 + 1 : Int).toNat ≤ a4 ∧ a4 ≤ 9999) ∧ M 18 3 < 250 ∧ M' 18 3 = M 18 3 + 1 ∧ M' 19 (x * 11 + 0 : Int).toNat = 2 ∧ M' 19 (x * 11 + 1 : Int).toNat = M 17 (a3 * 5 + 1 : Int).toNat ∧ M' 19 (x * 11 + 2 : Int).toNat = a4 ∧ M' 19 (x * 11 + 3 : Int).toNat = a3 ∧ M' 19 (x * 11 + 4 : Int).toNat = -1 ∧ M' 19 (x * 11 + 5 : Int).toNat = -1 ∧ M' 19 (x * 11 + 6 : Int).toNat = a1 ∧ M' 19 (x * 11 + 7 : Int).toNat = a2 ∧ M' 19 (x * 11 + 8 : Int).toNat = -1 ∧ M' 19 (x * 11 + 9 : Int).toNat = -1 ∧ M' 19 (x * 11 + 10 : Int).toNat = -1)) ∧ (∀ j : Nat, ((j : Int) < 11 * M 18 3 ∨ 11 * M 18 3 + 11 ≤ j) → M' 19 j = M 19 j)) := by
  have hz : zP 131 = (zk_X10_moderate, 6, (0, 0)) := rfl
  have hd0 : 0 < d := by omega
  have hW : qFr [18, 19] M M := qFr.rfl
  have hX19_M : ∀ j : Nat, ((j : Int) < 11 * M 18 3 ∨ 11 * M 18 3 + 11 ≤ j) → M 19 j = M 19 j := fun _ _ => rfl
  have r1 := hC.rows 18 250 11 (by decide)
  have r2 := hC.rows 16 40 5 (by decide)
  show zG n (0, 0) d 131 (0, [.inr (.inr (some 8)), .inl a1, .inl a2, .inl a3, .inl a4, zN], []) M _
  refine zG_blk (c' := (6, [.inr (.inr (some 8)), .inl a1, .inl a2, .inl a3, .inl a4, zN], [.inl a1, .inl 0, .inr (.inr (some 9))])) 4 hd0 hz (by rfl) ?_
  refine zG_call hd0 hz (rfl : zP 19 = (zk_X2_isA, 3, (0, 0))) rfl rfl (Nat.le_of_ble_eq_true rfl) ⟨Nat.le_refl _, Nat.le_refl _⟩ (qf_19_9 (by omega) hC   0 (by omega) a1 (by omega) ) (fun vr M3 hr => ?_)
  obtain ⟨hq, x4, rfl, hx4, hpx4_0⟩ := hr
  replace hq := hq.symm; subst hq
  show zG n (0, 0) d 131 (9, [.inr (.inr (some 8)), .inl a1, .inl a2, .inl a3, .inl a4, zN], [.inl x4]) M _
  have j29 : (¬ (0 ≤ a1 ∧ a1 < M 18 3 ∧ M 19 (a1 * 11 + 0 : Int).toNat = 0 ∧ 0 ≤ a2 ∧ a2 ≤ 100 ∧ 0 ≤ a3 ∧ a3 < M 16 3 ∧ M 17 (a3 * 5 + 1 : Int).toNat ≤ a4 ∧ a4 ≤ 9999)) → zG n (0, 0) d 131 (29, [.inr (.inr (some 8)), .inl a1, .inl a2, .inl a3, .inl a4, zN], []) M (fun v M' => (qCI M' ∧ qFr [18, 19] M M') ∧ ∃ x : Int, v = some (.inl x) ∧ ((-4) ≤ x ∧ x ≤ 249) ∧ ((x = -2 ∧ ¬ (0 ≤ a1 ∧ a1 < M 18 3 ∧ M 19 (a1 * 11 + 0 : Int).toNat = 0 ∧ 0 ≤ a2 ∧ a2 ≤ 100 ∧ 0 ≤ a3 ∧ a3 < M 16 3 ∧ M 17 (a3 * 5 + 1 : Int).toNat ≤ a4 ∧ a4 ≤ 9999) ∧ M' 18 3 = M 18 3) ∨ (x = -4 ∧ (0 ≤ a1 ∧ a1 < M 18 3 ∧ M 19 (a1 * 11 + 0 : Int).toNat = 0 ∧ 0 ≤ a2 ∧ a2 ≤ 100 ∧ 0 ≤ a3 ∧ a3 < M 16 3 ∧ M 17 (a3 * 5 + 1 : Int).toNat ≤ a4 ∧ a4 ≤ 9999) ∧ M 18 3 = 250 ∧ M' 18 3 = M 18 3) ∨ (x = M 18 3 ∧ (0 ≤ a1 ∧ a1 < M 18 3 ∧ M 19 (a1 * 11 + 0 : Int).toNat = 0 ∧ 0 ≤ a2 ∧ a2 ≤ 100 ∧ 0 ≤ a3 ∧ a3 < M 16 3 ∧ M 17 (a3 * 5 + 1 : Int).toNat ≤ a4 ∧ a4 ≤ 9999) ∧ M 18 3 < 250 ∧ M' 18 3 = M 18 3 + 1 ∧ M' 19 (x * 11 + 0 : Int).toNat = 2 ∧ M' 19 (x * 11 + 1 : Int).toNat = M 17 (a3 * 5 + 1 : Int).toNat ∧ M' 19 (x * 11 + 2 : Int).toNat = a4 ∧ M' 19 (x * 11 + 3 : Int).toNat = a3 ∧ M' 19 (x * 11 + 4 : Int).toNat = -1 ∧ M' 19 (x * 11 + 5 : Int).toNat = -1 ∧ M' 19 (x * 11 + 6 : Int).toNat = a1 ∧ M' 19 (x * 11 + 7 : Int).toNat = a2 ∧ M' 19 (x * 11 + 8 : Int).toNat = -1 ∧ M' 19 (x * 11 + 9 : Int).toNat = -1 ∧ M' 19 (x * 11 + 10 : Int).toNat = -1)) ∧ (∀ j : Nat, ((j : Int) < 11 * M 18 3 ∨ 11 * M 18 3 + 11 ≤ j) → M' 19 j = M 19 j)) := by
    intro hx0_29
    refine zG_blk (c' := (31, [.inr (.inr (some 8)), .inl a1, .inl a2, .inl a3, .inl a4, zN], [.inl (-2)])) 1 hd0 hz (by rfl) ?_
    exact zG_ret hd0 hz rfl rfl ⟨⟨hC, hW⟩, _, rfl, by omega, by omega, hX19_M⟩
  refine zG_if_eq hd0 hz rfl (fun hb5 => ?_) (fun hb5 => ?_)
  · exact j29 (by omega)
  · refine zG_blk (c' := (13, [.inr (.inr (some 8)), .inl a1, .inl a2, .inl a3, .inl a4, zN], [.inl a2])) 1 hd0 hz (by rfl) ?_
    refine zG_call hd0 hz (rfl : zP 171 = (zk_X10_isMark, 1, (0, 0))) rfl rfl (Nat.le_of_ble_eq_true rfl) ⟨Nat.le_refl _, Nat.le_refl _⟩ (qf_171 (by omega) hC   a2 (by omega) ) (fun vr M6 hr => ?_)
    obtain ⟨hq, x7, rfl, hx7, hpx7_0⟩ := hr
    replace hq := hq.symm; subst hq
    show zG n (0, 0) d 131 (16, [.inr (.inr (some 8)), .inl a1, .inl a2, .inl a3, .inl a4, zN], [.inl x7]) M _
    refine zG_if_eq hd0 hz rfl (fun hb8 => ?_) (fun hb8 => ?_)
    · exact j29 (by omega)
    · refine zG_blk (c' := (23, [.inr (.inr (some 8)), .inl a1, .inl a2, .inl a3, .inl a4, zN], [.inl a4, .inl a3, .inr (.inr (some 8))])) 3 hd0 hz (by rfl) ?_
      refine zG_call hd0 hz (rfl : zP 178 = (zk_X10_isKnownAfter, 3, (0, 0))) rfl rfl (Nat.le_of_ble_eq_true rfl) ⟨Nat.le_refl _, Nat.le_refl _⟩ (qf_178_8 (by omega) hC   a3 (by omega) a4 (by omega) ) (fun vr M9 hr => ?_)
      obtain ⟨hq, x10, rfl, hx10, hpx10_0⟩ := hr
      replace hq := hq.symm; subst hq
      show zG n (0, 0) d 131 (26, [.inr (.inr (some 8)), .inl a1, .inl a2, .inl a3, .inl a4, zN], [.inl x10]) M _
      refine zG_if_ne hd0 hz rfl (fun hb11 => ?_) (fun hb11 => ?_)
      · refine zG_blk (c' := (37, [.inr (.inr (some 8)), .inl a1, .inl a2, .inl a3, .inl a4, zN], [.inl a4, .inl a3, .inl 2, .inr (.inr (some 8))])) 4 hd0 hz (by rfl) ?_
        refine zG_call hd0 hz (rfl : zP 179 = (zk_X10_enterBy, 4, (0, 0))) rfl rfl (Nat.le_of_ble_eq_true rfl) ⟨Nat.le_refl _, Nat.le_refl _⟩ (qf_179_8 (by omega) hC   2 (by omega) a3 (by omega) a4 (by omega) (by omega)) (fun vr M12 hr => ?_)
        obtain ⟨⟨hCM12, hFM12⟩, x13, rfl, hx13, hpx13_0, hpx13_1, hpx13_r19⟩ := hr
        have hWM12 : qFr [18, 19] M M12 := hW.tr hFM12 (by decide)
        have e15 : M12 16 3 = M 16 3 := hFM12 16 3 (by decide)
        have hX19_M12 : ∀ j : Nat, ((j : Int) < 11 * M 18 3 ∨ 11 * M 18 3 + 11 ≤ j) → M12 19 j = M 19 j := fun j hj => (hpx13_r19 j (by omega)).trans (hX19_M j hj)
        have r16 := hCM12.rows 18 250 11 (by decide)
        show zG n (0, 0) d 131 (40, [.inr (.inr (some 8)), .inl a1, .inl a2, .inl a3, .inl a4, zN], [.inl x13]) M12 _
        refine zG_blk (c' := (54, [.inr (.inr (some 8)), .inl a1, .inl a2, .inl a3, .inl a4, .inl x13], [.inl a1, .inl 6, .inl x13, .inr (.inr (some 18))])) 7 hd0 hz (by rfl) ?_
        refine zG_call hd0 hz (rfl : zP 107 = (zk_X8_set, 4, (0, 0))) rfl rfl (Nat.le_of_ble_eq_true rfl) ⟨Nat.le_refl _, Nat.le_refl _⟩ (qf_set (by omega) hCM12  (⟨by decide, rfl, rfl⟩ : qT n 18 250 11) x13 (by omega) 6 (by omega) a1 (by omega) ) (fun vr M17 hr => ?_)
        obtain ⟨⟨hCM17, hFM17⟩, rfl, hpx18_0, hpx18_1⟩ := hr
        have hWM17 : qFr [18, 19] M M17 := hWM12.tr hFM17 (by decide)
        have e19 : M17 16 3 = M12 16 3 := hFM17 16 3 (by decide)
        have e20 : M17 19 (x13 * 11 + 0 : Int).toNat = M12 19 (x13 * 11 + 0 : Int).toNat := hpx18_1 _ (by omega)
        have e21 : M17 19 (x13 * 11 + 1 : Int).toNat = M12 19 (x13 * 11 + 1 : Int).toNat := hpx18_1 _ (by omega)
        have e22 : M17 19 (x13 * 11 + 2 : Int).toNat = M12 19 (x13 * 11 + 2 : Int).toNat := hpx18_1 _ (by omega)
        have e23 : M17 19 (x13 * 11 + 3 : Int).toNat = M12 19 (x13 * 11 + 3 : Int).toNat := hpx18_1 _ (by omega)
        have e24 : M17 19 (x13 * 11 + 4 : Int).toNat = M12 19 (x13 * 11 + 4 : Int).toNat := hpx18_1 _ (by omega)
        have e25 : M17 19 (x13 * 11 + 5 : Int).toNat = M12 19 (x13 * 11 + 5 : Int).toNat := hpx18_1 _ (by omega)
        have e26 : M17 19 (x13 * 11 + 6 : Int).toNat = M12 19 (x13 * 11 + 6 : Int).toNat := hpx18_1 _ (by omega)
        have e27 : M17 19 (x13 * 11 + 7 : Int).toNat = M12 19 (x13 * 11 + 7 : Int).toNat := hpx18_1 _ (by omega)
        have e28 : M17 19 (x13 * 11 + 8 : Int).toNat = M12 19 (x13 * 11 + 8 : Int).toNat := hpx18_1 _ (by omega)
        have e29 : M17 19 (x13 * 11 + 9 : Int).toNat = M12 19 (x13 * 11 + 9 : Int).toNat := hpx18_1 _ (by omega)
        have e30 : M17 19 (x13 * 11 + 10 : Int).toNat = M12 19 (x13 * 11 + 10 : Int).toNat := hpx18_1 _ (by omega)
        have e31 : M17 18 3 = M12 18 3 := hFM17 18 3 (by decide)
        have hX19_M17 : ∀ j : Nat, ((j : Int) < 11 * M 18 3 ∨ 11 * M 18 3 + 11 ≤ j) → M17 19 j = M 19 j := fun j hj => (hpx18_1 j (by omega)).trans (hX19_M12 j hj)
        have hvx18 : 0 ≤ x13 ∧ x13 < 250 → M17 19 (x13 * 11 + 6 : Int).toNat = a1 := fun h9 => hpx18_0 ⟨h9, by omega⟩
        show zG n (0, 0) d 131 (57, [.inr (.inr (some 8)), .inl a1, .inl a2, .inl a3, .inl a4, .inl x13], []) M17 _
        refine zG_blk (c' := (69, [.inr (.inr (some 8)), .inl a1, .inl a2, .inl a3, .inl a4, .inl x13], [.inl a2, .inl 7, .inl x13, .inr (.inr (some 18))])) 6 hd0 hz (by rfl) ?_
        refine zG_call hd0 hz (rfl : zP 107 = (zk_X8_set, 4, (0, 0))) rfl rfl (Nat.le_of_ble_eq_true rfl) ⟨Nat.le_refl _, Nat.le_refl _⟩ (qf_set (by omega) hCM17  (⟨by decide, rfl, rfl⟩ : qT n 18 250 11) x13 (by omega) 7 (by omega) a2 (by omega) ) (fun vr M32 hr => ?_)
        obtain ⟨⟨hCM32, hFM32⟩, rfl, hpx33_0, hpx33_1⟩ := hr
        have hWM32 : qFr [18, 19] M M32 := hWM17.tr hFM32 (by decide)
        have e34 : M32 16 3 = M17 16 3 := hFM32 16 3 (by decide)
        have e35 : M32 19 (x13 * 11 + 0 : Int).toNat = M17 19 (x13 * 11 + 0 : Int).toNat := hpx33_1 _ (by omega)
        have e36 : M32 19 (x13 * 11 + 1 : Int).toNat = M17 19 (x13 * 11 + 1 : Int).toNat := hpx33_1 _ (by omega)
        have e37 : M32 19 (x13 * 11 + 2 : Int).toNat = M17 19 (x13 * 11 + 2 : Int).toNat := hpx33_1 _ (by omega)
        have e38 : M32 19 (x13 * 11 + 3 : Int).toNat = M17 19 (x13 * 11 + 3 : Int).toNat := hpx33_1 _ (by omega)
        have e39 : M32 19 (x13 * 11 + 4 : Int).toNat = M17 19 (x13 * 11 + 4 : Int).toNat := hpx33_1 _ (by omega)
        have e40 : M32 19 (x13 * 11 + 5 : Int).toNat = M17 19 (x13 * 11 + 5 : Int).toNat := hpx33_1 _ (by omega)
        have e41 : M32 19 (x13 * 11 + 6 : Int).toNat = M17 19 (x13 * 11 + 6 : Int).toNat := hpx33_1 _ (by omega)
        have e42 : M32 19 (x13 * 11 + 7 : Int).toNat = M17 19 (x13 * 11 + 7 : Int).toNat := hpx33_1 _ (by omega)
        have e43 : M32 19 (x13 * 11 + 8 : Int).toNat = M17 19 (x13 * 11 + 8 : Int).toNat := hpx33_1 _ (by omega)
        have e44 : M32 19 (x13 * 11 + 9 : Int).toNat = M17 19 (x13 * 11 + 9 : Int).toNat := hpx33_1 _ (by omega)
        have e45 : M32 19 (x13 * 11 + 10 : Int).toNat = M17 19 (x13 * 11 + 10 : Int).toNat := hpx33_1 _ (by omega)
        have e46 : M32 18 3 = M17 18 3 := hFM32 18 3 (by decide)
        have hX19_M32 : ∀ j : Nat, ((j : Int) < 11 * M 18 3 ∨ 11 * M 18 3 + 11 ≤ j) → M32 19 j = M 19 j := fun j hj => (hpx33_1 j (by omega)).trans (hX19_M17 j hj)
        have hvx33 : 0 ≤ x13 ∧ x13 < 250 → M32 19 (x13 * 11 + 7 : Int).toNat = a2 := fun h9 => hpx33_0 ⟨h9, by omega⟩
        show zG n (0, 0) d 131 (72, [.inr (.inr (some 8)), .inl a1, .inl a2, .inl a3, .inl a4, .inl x13], []) M32 _
        refine zG_blk (c' := (74, [.inr (.inr (some 8)), .inl a1, .inl a2, .inl a3, .inl a4, .inl x13], [.inl x13])) 1 hd0 hz (by rfl) ?_
        exact zG_ret hd0 hz rfl rfl ⟨⟨hCM32, hWM32⟩, _, rfl, by omega, by omega, hX19_M32⟩
      · exact j29 (by omega)
theorem qf_132_8 {n d : Nat} {M : zM} (hd : 4 ≤ d) (hC : qCI M)  (a1 : Int) (ha1 : (-2147483648) ≤ a1 ∧ a1 ≤ 2147483647) (a2 : Int) (ha2 : (-2147483648) ≤ a2 ∧ a2 ≤ 2147483647) (a3 : Int) (ha3 : (-2147483648) ≤ a3 ∧ a3 ≤ 2147483647) (a4 : Int) (ha4 : (-2147483648) ≤ a4 ∧ a4 ≤ 2147483647) (a5 : Int) (ha5 : (-2147483648) ≤ a5 ∧ a5 ≤ 2147483647) (a6 : Int) (ha6 : (-2147483648) ≤ a6 ∧ a6 ≤ 2147483647) : qOkC n d 132 [.inr (.inr (some 8)), .inl a1, .inl a2, .inl a3, .inl a4, .inl a5, .inl a6] 8 [18, 19] M (fun v M' => ∃ x : Int, v = some (.inl x) ∧ ((-4) ≤ x ∧ x ≤ 249) ∧ ((x = -2 ∧ ¬ (0 ≤ a1 ∧ a1 < M 10 3 ∧ 1 ≤ a2 ∧ a2 ≤ 200 ∧ 1 ≤ a3 ∧ a3 ≤ 200 ∧ -50 ≤ a4 ∧ a4 ≤ 50 ∧ 0 ≤ a5 ∧ a5 < M 16 3 ∧ M 17 (a5 * 5 + 1 : Int).toNat ≤ a6 ∧ a6 ≤ 9999) ∧ M' 18 3 = M 18 3) ∨ (x = -4 ∧ (0 ≤ a1 ∧ a1 < M 10 3 ∧ 1 ≤ a2 ∧ a2 ≤ 200 ∧ 1 ≤ a3 ∧ a3 ≤ 200 ∧ -50 ≤ a4 ∧ a4 ≤ 50 ∧ 0 ≤ a5 ∧ a5 < M 16 3 ∧ M 17 (a5 * 5 + 1 : Int).toNat ≤ a6 ∧ a6 ≤ 9999) ∧ M 18 3 = 250 ∧ M' 18 3 = M 18 3) ∨ (x = M 18 3 ∧ (0 ≤ a1 ∧ a1 < M 10 3 ∧ 1 ≤ a2 ∧ a2 ≤ 200 ∧ 1 ≤ a3 ∧ a3 ≤ 200 ∧ -50 ≤ a4 ∧ a4 ≤ 50 ∧ 0 ≤ a5 ∧ a5 < M 16 3 ∧ M 17 (a5 * 5 + 1 : Int).toNat ≤ a6 ∧ a6 ≤ 9999) ∧ M 18 3 < 250 ∧ M' 18 3 = M 18 3 + 1 ∧ M' 19 (x * 11 + 0 : Int).toNat = 3 ∧ M' 19 (x * 11 + 1 : Int).toNat = M 17 (a5 * 5 + 1 : Int).toNat ∧ M' 19 (x * 11 + 2 : Int).toNat = a6 ∧ M' 19 (x * 11 + 3 : Int).toNat = a5 ∧ M' 19 (x * 11 + 4 : Int).toNat = -1 ∧ M' 19 (x * 11 + 5 : Int).toNat = a1 ∧ M' 19 (x * 11 + 6 : Int).toNat = -1 ∧ M' 19 (x * 11 + 7 : Int).toNat = -1 ∧ M' 19 (x * 11 + 8 : Int).toNat = a2 ∧ M' 19 (x * 11 + 9 : Int).toNat = a3 ∧ M' 19 (x * 11 + 10 : Int).toNat = a4)) ∧ (∀ j : Nat, ((j : Int) < 11 * M 18 3 ∨ 11 * M 18 3 + 11 ≤ j) → M' 19 j = M 19 j)) := by
  have hz : zP 132 = (zk_X10_scale, 8, (0, 0)) := rfl
  have hd0 : 0 < d := by omega
  have hW : qFr [18, 19] M M := qFr.rfl
  have hX19_M : ∀ j : Nat, ((j : Int) < 11 * M 18 3 ∨ 11 * M 18 3 + 11 ≤ j) → M 19 j = M 19 j := fun _ _ => rfl
  have r1 := hC.rows 18 250 11 (by decide)
  have r2 := hC.rows 10 14 4 (by decide)
  have r3 := hC.rows 16 40 5 (by decide)
  show zG n (0, 0) d 132 (0, [.inr (.inr (some 8)), .inl a1, .inl a2, .inl a3, .inl a4, .inl a5, .inl a6, zN], []) M _
  refine zG_blk (c' := (2, [.inr (.inr (some 8)), .inl a1, .inl a2, .inl a3, .inl a4, .inl a5, .inl a6, zN], [.inl a1, .inr (.inr (some 8))])) 2 hd0 hz (by rfl) ?_
  refine zG_call hd0 hz (rfl : zP 175 = (zk_X10_isCourse, 2, (0, 0))) rfl rfl (Nat.le_of_ble_eq_true rfl) ⟨Nat.le_refl _, Nat.le_refl _⟩ (qf_175_8 (by omega) hC   a1 (by omega) ) (fun vr M4 hr => ?_)
  obtain ⟨hq, x5, rfl, hx5, hpx5_0⟩ := hr
  replace hq := hq.symm; subst hq
  show zG n (0, 0) d 132 (5, [.inr (.inr (some 8)), .inl a1, .inl a2, .inl a3, .inl a4, .inl a5, .inl a6, zN], [.inl x5]) M _
  have j30 : (¬ (0 ≤ a1 ∧ a1 < M 10 3 ∧ 1 ≤ a2 ∧ a2 ≤ 200 ∧ 1 ≤ a3 ∧ a3 ≤ 200 ∧ -50 ≤ a4 ∧ a4 ≤ 50 ∧ 0 ≤ a5 ∧ a5 < M 16 3 ∧ M 17 (a5 * 5 + 1 : Int).toNat ≤ a6 ∧ a6 ≤ 9999)) → zG n (0, 0) d 132 (30, [.inr (.inr (some 8)), .inl a1, .inl a2, .inl a3, .inl a4, .inl a5, .inl a6, zN], []) M (fun v M' => (qCI M' ∧ qFr [18, 19] M M') ∧ ∃ x : Int, v = some (.inl x) ∧ ((-4) ≤ x ∧ x ≤ 249) ∧ ((x = -2 ∧ ¬ (0 ≤ a1 ∧ a1 < M 10 3 ∧ 1 ≤ a2 ∧ a2 ≤ 200 ∧ 1 ≤ a3 ∧ a3 ≤ 200 ∧ -50 ≤ a4 ∧ a4 ≤ 50 ∧ 0 ≤ a5 ∧ a5 < M 16 3 ∧ M 17 (a5 * 5 + 1 : Int).toNat ≤ a6 ∧ a6 ≤ 9999) ∧ M' 18 3 = M 18 3) ∨ (x = -4 ∧ (0 ≤ a1 ∧ a1 < M 10 3 ∧ 1 ≤ a2 ∧ a2 ≤ 200 ∧ 1 ≤ a3 ∧ a3 ≤ 200 ∧ -50 ≤ a4 ∧ a4 ≤ 50 ∧ 0 ≤ a5 ∧ a5 < M 16 3 ∧ M 17 (a5 * 5 + 1 : Int).toNat ≤ a6 ∧ a6 ≤ 9999) ∧ M 18 3 = 250 ∧ M' 18 3 = M 18 3) ∨ (x = M 18 3 ∧ (0 ≤ a1 ∧ a1 < M 10 3 ∧ 1 ≤ a2 ∧ a2 ≤ 200 ∧ 1 ≤ a3 ∧ a3 ≤ 200 ∧ -50 ≤ a4 ∧ a4 ≤ 50 ∧ 0 ≤ a5 ∧ a5 < M 16 3 ∧ M 17 (a5 * 5 + 1 : Int).toNat ≤ a6 ∧ a6 ≤ 9999) ∧ M 18 3 < 250 ∧ M' 18 3 = M 18 3 + 1 ∧ M' 19 (x * 11 + 0 : Int).toNat = 3 ∧ M' 19 (x * 11 + 1 : Int).toNat = M 17 (a5 * 5 + 1 : Int).toNat ∧ M' 19 (x * 11 + 2 : Int).toNat = a6 ∧ M' 19 (x * 11 + 3 : Int).toNat = a5 ∧ M' 19 (x * 11 + 4 : Int).toNat = -1 ∧ M' 19 (x * 11 + 5 : Int).toNat = a1 ∧ M' 19 (x * 11 + 6 : Int).toNat = -1 ∧ M' 19 (x * 11 + 7 : Int).toNat = -1 ∧ M' 19 (x * 11 + 8 : Int).toNat = a2 ∧ M' 19 (x * 11 + 9 : Int).toNat = a3 ∧ M' 19 (x * 11 + 10 : Int).toNat = a4)) ∧ (∀ j : Nat, ((j : Int) < 11 * M 18 3 ∨ 11 * M 18 3 + 11 ≤ j) → M' 19 j = M 19 j)) := by
    intro hx0_30
    refine zG_blk (c' := (32, [.inr (.inr (some 8)), .inl a1, .inl a2, .inl a3, .inl a4, .inl a5, .inl a6, zN], [.inl (-2)])) 1 hd0 hz (by rfl) ?_
    exact zG_ret hd0 hz rfl rfl ⟨⟨hC, hW⟩, _, rfl, by omega, by omega, hX19_M⟩
  refine zG_if_eq hd0 hz rfl (fun hb6 => ?_) (fun hb6 => ?_)
  · exact j30 (by omega)
  · refine zG_blk (c' := (13, [.inr (.inr (some 8)), .inl a1, .inl a2, .inl a3, .inl a4, .inl a5, .inl a6, zN], [.inl 200, .inl 1, .inl a2])) 3 hd0 hz (by rfl) ?_
    refine zG_call hd0 hz (rfl : zP 169 = (zk_X10_within, 3, (0, 0))) rfl rfl (Nat.le_of_ble_eq_true rfl) ⟨Nat.le_refl _, Nat.le_refl _⟩ (qf_within (by omega) hC   a2 (by omega) 1 (by omega) 200 (by omega) ) (fun vr M7 hr => ?_)
    obtain ⟨hq, x8, rfl, hx8⟩ := hr
    replace hq := hq.symm; subst hq
    show zG n (0, 0) d 132 (16, [.inr (.inr (some 8)), .inl a1, .inl a2, .inl a3, .inl a4, .inl a5, .inl a6, zN], [.inl x8]) M _
    refine zG_if_eq hd0 hz rfl (fun hb9 => ?_) (fun hb9 => ?_)
    · exact j30 (by omega)
    · refine zG_blk (c' := (24, [.inr (.inr (some 8)), .inl a1, .inl a2, .inl a3, .inl a4, .inl a5, .inl a6, zN], [.inl 200, .inl 1, .inl a3])) 3 hd0 hz (by rfl) ?_
      refine zG_call hd0 hz (rfl : zP 169 = (zk_X10_within, 3, (0, 0))) rfl rfl (Nat.le_of_ble_eq_true rfl) ⟨Nat.le_refl _, Nat.le_refl _⟩ (qf_within (by omega) hC   a3 (by omega) 1 (by omega) 200 (by omega) ) (fun vr M10 hr => ?_)
      obtain ⟨hq, x11, rfl, hx11⟩ := hr
      replace hq := hq.symm; subst hq
      show zG n (0, 0) d 132 (27, [.inr (.inr (some 8)), .inl a1, .inl a2, .inl a3, .inl a4, .inl a5, .inl a6, zN], [.inl x11]) M _
      refine zG_if_ne hd0 hz rfl (fun hb12 => ?_) (fun hb12 => ?_)
      · refine zG_blk (c' := (39, [.inr (.inr (some 8)), .inl a1, .inl a2, .inl a3, .inl a4, .inl a5, .inl a6, zN], [.inl 50, .inl (-50), .inl a4])) 3 hd0 hz (by rfl) ?_
        refine zG_call hd0 hz (rfl : zP 169 = (zk_X10_within, 3, (0, 0))) rfl rfl (Nat.le_of_ble_eq_true rfl) ⟨Nat.le_refl _, Nat.le_refl _⟩ (qf_within (by omega) hC   a4 (by omega) (-50) (by omega) 50 (by omega) ) (fun vr M13 hr => ?_)
        obtain ⟨hq, x14, rfl, hx14⟩ := hr
        replace hq := hq.symm; subst hq
        show zG n (0, 0) d 132 (42, [.inr (.inr (some 8)), .inl a1, .inl a2, .inl a3, .inl a4, .inl a5, .inl a6, zN], [.inl x14]) M _
        have j56 : (¬ (0 ≤ a1 ∧ a1 < M 10 3 ∧ 1 ≤ a2 ∧ a2 ≤ 200 ∧ 1 ≤ a3 ∧ a3 ≤ 200 ∧ -50 ≤ a4 ∧ a4 ≤ 50 ∧ 0 ≤ a5 ∧ a5 < M 16 3 ∧ M 17 (a5 * 5 + 1 : Int).toNat ≤ a6 ∧ a6 ≤ 9999)) → zG n (0, 0) d 132 (56, [.inr (.inr (some 8)), .inl a1, .inl a2, .inl a3, .inl a4, .inl a5, .inl a6, zN], []) M (fun v M' => (qCI M' ∧ qFr [18, 19] M M') ∧ ∃ x : Int, v = some (.inl x) ∧ ((-4) ≤ x ∧ x ≤ 249) ∧ ((x = -2 ∧ ¬ (0 ≤ a1 ∧ a1 < M 10 3 ∧ 1 ≤ a2 ∧ a2 ≤ 200 ∧ 1 ≤ a3 ∧ a3 ≤ 200 ∧ -50 ≤ a4 ∧ a4 ≤ 50 ∧ 0 ≤ a5 ∧ a5 < M 16 3 ∧ M 17 (a5 * 5 + 1 : Int).toNat ≤ a6 ∧ a6 ≤ 9999) ∧ M' 18 3 = M 18 3) ∨ (x = -4 ∧ (0 ≤ a1 ∧ a1 < M 10 3 ∧ 1 ≤ a2 ∧ a2 ≤ 200 ∧ 1 ≤ a3 ∧ a3 ≤ 200 ∧ -50 ≤ a4 ∧ a4 ≤ 50 ∧ 0 ≤ a5 ∧ a5 < M 16 3 ∧ M 17 (a5 * 5 + 1 : Int).toNat ≤ a6 ∧ a6 ≤ 9999) ∧ M 18 3 = 250 ∧ M' 18 3 = M 18 3) ∨ (x = M 18 3 ∧ (0 ≤ a1 ∧ a1 < M 10 3 ∧ 1 ≤ a2 ∧ a2 ≤ 200 ∧ 1 ≤ a3 ∧ a3 ≤ 200 ∧ -50 ≤ a4 ∧ a4 ≤ 50 ∧ 0 ≤ a5 ∧ a5 < M 16 3 ∧ M 17 (a5 * 5 + 1 : Int).toNat ≤ a6 ∧ a6 ≤ 9999) ∧ M 18 3 < 250 ∧ M' 18 3 = M 18 3 + 1 ∧ M' 19 (x * 11 + 0 : Int).toNat = 3 ∧ M' 19 (x * 11 + 1 : Int).toNat = M 17 (a5 * 5 + 1 : Int).toNat ∧ M' 19 (x * 11 + 2 : Int).toNat = a6 ∧ M' 19 (x * 11 + 3 : Int).toNat = a5 ∧ M' 19 (x * 11 + 4 : Int).toNat = -1 ∧ M' 19 (x * 11 + 5 : Int).toNat = a1 ∧ M' 19 (x * 11 + 6 : Int).toNat = -1 ∧ M' 19 (x * 11 + 7 : Int).toNat = -1 ∧ M' 19 (x * 11 + 8 : Int).toNat = a2 ∧ M' 19 (x * 11 + 9 : Int).toNat = a3 ∧ M' 19 (x * 11 + 10 : Int).toNat = a4)) ∧ (∀ j : Nat, ((j : Int) < 11 * M 18 3 ∨ 11 * M 18 3 + 11 ≤ j) → M' 19 j = M 19 j)) := by
          intro hx0_56
          refine zG_blk (c' := (58, [.inr (.inr (some 8)), .inl a1, .inl a2, .inl a3, .inl a4, .inl a5, .inl a6, zN], [.inl (-2)])) 1 hd0 hz (by rfl) ?_
          exact zG_ret hd0 hz rfl rfl ⟨⟨hC, hW⟩, _, rfl, by omega, by omega, hX19_M⟩
        refine zG_if_eq hd0 hz rfl (fun hb15 => ?_) (fun hb15 => ?_)
        · exact j56 (by omega)
        · refine zG_blk (c' := (50, [.inr (.inr (some 8)), .inl a1, .inl a2, .inl a3, .inl a4, .inl a5, .inl a6, zN], [.inl a6, .inl a5, .inr (.inr (some 8))])) 3 hd0 hz (by rfl) ?_
          refine zG_call hd0 hz (rfl : zP 178 = (zk_X10_isKnownAfter, 3, (0, 0))) rfl rfl (Nat.le_of_ble_eq_true rfl) ⟨Nat.le_refl _, Nat.le_refl _⟩ (qf_178_8 (by omega) hC   a5 (by omega) a6 (by omega) ) (fun vr M16 hr => ?_)
          obtain ⟨hq, x17, rfl, hx17, hpx17_0⟩ := hr
          replace hq := hq.symm; subst hq
          show zG n (0, 0) d 132 (53, [.inr (.inr (some 8)), .inl a1, .inl a2, .inl a3, .inl a4, .inl a5, .inl a6, zN], [.inl x17]) M _
          refine zG_if_ne hd0 hz rfl (fun hb18 => ?_) (fun hb18 => ?_)
          · refine zG_blk (c' := (65, [.inr (.inr (some 8)), .inl a1, .inl a2, .inl a3, .inl a4, .inl a5, .inl a6, zN], [.inl a6, .inl a5, .inl 3, .inr (.inr (some 8))])) 4 hd0 hz (by rfl) ?_
            refine zG_call hd0 hz (rfl : zP 179 = (zk_X10_enterBy, 4, (0, 0))) rfl rfl (Nat.le_of_ble_eq_true rfl) ⟨Nat.le_refl _, Nat.le_refl _⟩ (qf_179_8 (by omega) hC   3 (by omega) a5 (by omega) a6 (by omega) (by omega)) (fun vr M19 hr => ?_)
            obtain ⟨⟨hCM19, hFM19⟩, x20, rfl, hx20, hpx20_0, hpx20_1, hpx20_r19⟩ := hr
            have hWM19 : qFr [18, 19] M M19 := hW.tr hFM19 (by decide)
            have e22 : M19 10 3 = M 10 3 := hFM19 10 3 (by decide)
            have e23 : M19 16 3 = M 16 3 := hFM19 16 3 (by decide)
            have hX19_M19 : ∀ j : Nat, ((j : Int) < 11 * M 18 3 ∨ 11 * M 18 3 + 11 ≤ j) → M19 19 j = M 19 j := fun j hj => (hpx20_r19 j (by omega)).trans (hX19_M j hj)
            have r24 := hCM19.rows 18 250 11 (by decide)
            show zG n (0, 0) d 132 (68, [.inr (.inr (some 8)), .inl a1, .inl a2, .inl a3, .inl a4, .inl a5, .inl a6, zN], [.inl x20]) M19 _
            refine zG_blk (c' := (81, [.inr (.inr (some 8)), .inl a1, .inl a2, .inl a3, .inl a4, .inl a5, .inl a6, .inl x20], [.inl a1, .inl 5, .inl x20, .inr (.inr (some 18))])) 7 hd0 hz (by rfl) ?_
            refine zG_call hd0 hz (rfl : zP 107 = (zk_X8_set, 4, (0, 0))) rfl rfl (Nat.le_of_ble_eq_true rfl) ⟨Nat.le_refl _, Nat.le_refl _⟩ (qf_set (by omega) hCM19  (⟨by decide, rfl, rfl⟩ : qT n 18 250 11) x20 (by omega) 5 (by omega) a1 (by omega) ) (fun vr M25 hr => ?_)
            obtain ⟨⟨hCM25, hFM25⟩, rfl, hpx26_0, hpx26_1⟩ := hr
            have hWM25 : qFr [18, 19] M M25 := hWM19.tr hFM25 (by decide)
            have e27 : M25 10 3 = M19 10 3 := hFM25 10 3 (by decide)
            have e28 : M25 16 3 = M19 16 3 := hFM25 16 3 (by decide)
            have e29 : M25 19 (x20 * 11 + 0 : Int).toNat = M19 19 (x20 * 11 + 0 : Int).toNat := hpx26_1 _ (by omega)
            have e30 : M25 19 (x20 * 11 + 1 : Int).toNat = M19 19 (x20 * 11 + 1 : Int).toNat := hpx26_1 _ (by omega)
            have e31 : M25 19 (x20 * 11 + 2 : Int).toNat = M19 19 (x20 * 11 + 2 : Int).toNat := hpx26_1 _ (by omega)
            have e32 : M25 19 (x20 * 11 + 3 : Int).toNat = M19 19 (x20 * 11 + 3 : Int).toNat := hpx26_1 _ (by omega)
            have e33 : M25 19 (x20 * 11 + 4 : Int).toNat = M19 19 (x20 * 11 + 4 : Int).toNat := hpx26_1 _ (by omega)
            have e34 : M25 19 (x20 * 11 + 5 : Int).toNat = M19 19 (x20 * 11 + 5 : Int).toNat := hpx26_1 _ (by omega)
            have e35 : M25 19 (x20 * 11 + 6 : Int).toNat = M19 19 (x20 * 11 + 6 : Int).toNat := hpx26_1 _ (by omega)
            have e36 : M25 19 (x20 * 11 + 7 : Int).toNat = M19 19 (x20 * 11 + 7 : Int).toNat := hpx26_1 _ (by omega)
            have e37 : M25 19 (x20 * 11 + 8 : Int).toNat = M19 19 (x20 * 11 + 8 : Int).toNat := hpx26_1 _ (by omega)
            have e38 : M25 19 (x20 * 11 + 9 : Int).toNat = M19 19 (x20 * 11 + 9 : Int).toNat := hpx26_1 _ (by omega)
            have e39 : M25 19 (x20 * 11 + 10 : Int).toNat = M19 19 (x20 * 11 + 10 : Int).toNat := hpx26_1 _ (by omega)
            have e40 : M25 18 3 = M19 18 3 := hFM25 18 3 (by decide)
            have hX19_M25 : ∀ j : Nat, ((j : Int) < 11 * M 18 3 ∨ 11 * M 18 3 + 11 ≤ j) → M25 19 j = M 19 j := fun j hj => (hpx26_1 j (by omega)).trans (hX19_M19 j hj)
            have hvx26 : 0 ≤ x20 ∧ x20 < 250 → M25 19 (x20 * 11 + 5 : Int).toNat = a1 := fun h9 => hpx26_0 ⟨h9, by omega⟩
            show zG n (0, 0) d 132 (84, [.inr (.inr (some 8)), .inl a1, .inl a2, .inl a3, .inl a4, .inl a5, .inl a6, .inl x20], []) M25 _
            refine zG_blk (c' := (96, [.inr (.inr (some 8)), .inl a1, .inl a2, .inl a3, .inl a4, .inl a5, .inl a6, .inl x20], [.inl a2, .inl 8, .inl x20, .inr (.inr (some 18))])) 6 hd0 hz (by rfl) ?_
            refine zG_call hd0 hz (rfl : zP 107 = (zk_X8_set, 4, (0, 0))) rfl rfl (Nat.le_of_ble_eq_true rfl) ⟨Nat.le_refl _, Nat.le_refl _⟩ (qf_set (by omega) hCM25  (⟨by decide, rfl, rfl⟩ : qT n 18 250 11) x20 (by omega) 8 (by omega) a2 (by omega) ) (fun vr M41 hr => ?_)
            obtain ⟨⟨hCM41, hFM41⟩, rfl, hpx42_0, hpx42_1⟩ := hr
            have hWM41 : qFr [18, 19] M M41 := hWM25.tr hFM41 (by decide)
            have e43 : M41 10 3 = M25 10 3 := hFM41 10 3 (by decide)
            have e44 : M41 16 3 = M25 16 3 := hFM41 16 3 (by decide)
            have e45 : M41 19 (x20 * 11 + 0 : Int).toNat = M25 19 (x20 * 11 + 0 : Int).toNat := hpx42_1 _ (by omega)
            have e46 : M41 19 (x20 * 11 + 1 : Int).toNat = M25 19 (x20 * 11 + 1 : Int).toNat := hpx42_1 _ (by omega)
            have e47 : M41 19 (x20 * 11 + 2 : Int).toNat = M25 19 (x20 * 11 + 2 : Int).toNat := hpx42_1 _ (by omega)
            have e48 : M41 19 (x20 * 11 + 3 : Int).toNat = M25 19 (x20 * 11 + 3 : Int).toNat := hpx42_1 _ (by omega)
            have e49 : M41 19 (x20 * 11 + 4 : Int).toNat = M25 19 (x20 * 11 + 4 : Int).toNat := hpx42_1 _ (by omega)
            have e50 : M41 19 (x20 * 11 + 5 : Int).toNat = M25 19 (x20 * 11 + 5 : Int).toNat := hpx42_1 _ (by omega)
            have e51 : M41 19 (x20 * 11 + 6 : Int).toNat = M25 19 (x20 * 11 + 6 : Int).toNat := hpx42_1 _ (by omega)
            have e52 : M41 19 (x20 * 11 + 7 : Int).toNat = M25 19 (x20 * 11 + 7 : Int).toNat := hpx42_1 _ (by omega)
            have e53 : M41 19 (x20 * 11 + 8 : Int).toNat = M25 19 (x20 * 11 + 8 : Int).toNat := hpx42_1 _ (by omega)
            have e54 : M41 19 (x20 * 11 + 9 : Int).toNat = M25 19 (x20 * 11 + 9 : Int).toNat := hpx42_1 _ (by omega)
            have e55 : M41 19 (x20 * 11 + 10 : Int).toNat = M25 19 (x20 * 11 + 10 : Int).toNat := hpx42_1 _ (by omega)
            have e56 : M41 18 3 = M25 18 3 := hFM41 18 3 (by decide)
            have hX19_M41 : ∀ j : Nat, ((j : Int) < 11 * M 18 3 ∨ 11 * M 18 3 + 11 ≤ j) → M41 19 j = M 19 j := fun j hj => (hpx42_1 j (by omega)).trans (hX19_M25 j hj)
            have hvx42 : 0 ≤ x20 ∧ x20 < 250 → M41 19 (x20 * 11 + 8 : Int).toNat = a2 := fun h9 => hpx42_0 ⟨h9, by omega⟩
            show zG n (0, 0) d 132 (99, [.inr (.inr (some 8)), .inl a1, .inl a2, .inl a3, .inl a4, .inl a5, .inl a6, .inl x20], []) M41 _
            refine zG_blk (c' := (111, [.inr (.inr (some 8)), .inl a1, .inl a2, .inl a3, .inl a4, .inl a5, .inl a6, .inl x20], [.inl a3, .inl 9, .inl x20, .inr (.inr (some 18))])) 6 hd0 hz (by rfl) ?_
            refine zG_call hd0 hz (rfl : zP 107 = (zk_X8_set, 4, (0, 0))) rfl rfl (Nat.le_of_ble_eq_true rfl) ⟨Nat.le_refl _, Nat.le_refl _⟩ (qf_set (by omega) hCM41  (⟨by decide, rfl, rfl⟩ : qT n 18 250 11) x20 (by omega) 9 (by omega) a3 (by omega) ) (fun vr M57 hr => ?_)
            obtain ⟨⟨hCM57, hFM57⟩, rfl, hpx58_0, hpx58_1⟩ := hr
            have hWM57 : qFr [18, 19] M M57 := hWM41.tr hFM57 (by decide)
            have e59 : M57 10 3 = M41 10 3 := hFM57 10 3 (by decide)
            have e60 : M57 16 3 = M41 16 3 := hFM57 16 3 (by decide)
            have e61 : M57 19 (x20 * 11 + 0 : Int).toNat = M41 19 (x20 * 11 + 0 : Int).toNat := hpx58_1 _ (by omega)
            have e62 : M57 19 (x20 * 11 + 1 : Int).toNat = M41 19 (x20 * 11 + 1 : Int).toNat := hpx58_1 _ (by omega)
            have e63 : M57 19 (x20 * 11 + 2 : Int).toNat = M41 19 (x20 * 11 + 2 : Int).toNat := hpx58_1 _ (by omega)
            have e64 : M57 19 (x20 * 11 + 3 : Int).toNat = M41 19 (x20 * 11 + 3 : Int).toNat := hpx58_1 _ (by omega)
            have e65 : M57 19 (x20 * 11 + 4 : Int).toNat = M41 19 (x20 * 11 + 4 : Int).toNat := hpx58_1 _ (by omega)
            have e66 : M57 19 (x20 * 11 + 5 : Int).toNat = M41 19 (x20 * 11 + 5 : Int).toNat := hpx58_1 _ (by omega)
            have e67 : M57 19 (x20 * 11 + 6 : Int).toNat = M41 19 (x20 * 11 + 6 : Int).toNat := hpx58_1 _ (by omega)
            have e68 : M57 19 (x20 * 11 + 7 : Int).toNat = M41 19 (x20 * 11 + 7 : Int).toNat := hpx58_1 _ (by omega)
            have e69 : M57 19 (x20 * 11 + 8 : Int).toNat = M41 19 (x20 * 11 + 8 : Int).toNat := hpx58_1 _ (by omega)
            have e70 : M57 19 (x20 * 11 + 9 : Int).toNat = M41 19 (x20 * 11 + 9 : Int).toNat := hpx58_1 _ (by omega)
            have e71 : M57 19 (x20 * 11 + 10 : Int).toNat = M41 19 (x20 * 11 + 10 : Int).toNat := hpx58_1 _ (by omega)
            have e72 : M57 18 3 = M41 18 3 := hFM57 18 3 (by decide)
            have hX19_M57 : ∀ j : Nat, ((j : Int) < 11 * M 18 3 ∨ 11 * M 18 3 + 11 ≤ j) → M57 19 j = M 19 j := fun j hj => (hpx58_1 j (by omega)).trans (hX19_M41 j hj)
            have hvx58 : 0 ≤ x20 ∧ x20 < 250 → M57 19 (x20 * 11 + 9 : Int).toNat = a3 := fun h9 => hpx58_0 ⟨h9, by omega⟩
            show zG n (0, 0) d 132 (114, [.inr (.inr (some 8)), .inl a1, .inl a2, .inl a3, .inl a4, .inl a5, .inl a6, .inl x20], []) M57 _
            refine zG_blk (c' := (127, [.inr (.inr (some 8)), .inl a1, .inl a2, .inl a3, .inl a4, .inl a5, .inl a6, .inl x20], [.inl a4, .inl 10, .inl x20, .inr (.inr (some 18))])) 6 hd0 hz (by rfl) ?_
            refine zG_call hd0 hz (rfl : zP 107 = (zk_X8_set, 4, (0, 0))) rfl rfl (Nat.le_of_ble_eq_true rfl) ⟨Nat.le_refl _, Nat.le_refl _⟩ (qf_set (by omega) hCM57  (⟨by decide, rfl, rfl⟩ : qT n 18 250 11) x20 (by omega) 10 (by omega) a4 (by omega) ) (fun vr M73 hr => ?_)
            obtain ⟨⟨hCM73, hFM73⟩, rfl, hpx74_0, hpx74_1⟩ := hr
            have hWM73 : qFr [18, 19] M M73 := hWM57.tr hFM73 (by decide)
            have e75 : M73 10 3 = M57 10 3 := hFM73 10 3 (by decide)
            have e76 : M73 16 3 = M57 16 3 := hFM73 16 3 (by decide)
            have e77 : M73 19 (x20 * 11 + 0 : Int).toNat = M57 19 (x20 * 11 + 0 : Int).toNat := hpx74_1 _ (by omega)
            have e78 : M73 19 (x20 * 11 + 1 : Int).toNat = M57 19 (x20 * 11 + 1 : Int).toNat := hpx74_1 _ (by omega)
            have e79 : M73 19 (x20 * 11 + 2 : Int).toNat = M57 19 (x20 * 11 + 2 : Int).toNat := hpx74_1 _ (by omega)
            have e80 : M73 19 (x20 * 11 + 3 : Int).toNat = M57 19 (x20 * 11 + 3 : Int).toNat := hpx74_1 _ (by omega)
            have e81 : M73 19 (x20 * 11 + 4 : Int).toNat = M57 19 (x20 * 11 + 4 : Int).toNat := hpx74_1 _ (by omega)
            have e82 : M73 19 (x20 * 11 + 5 : Int).toNat = M57 19 (x20 * 11 + 5 : Int).toNat := hpx74_1 _ (by omega)
            have e83 : M73 19 (x20 * 11 + 6 : Int).toNat = M57 19 (x20 * 11 + 6 : Int).toNat := hpx74_1 _ (by omega)
            have e84 : M73 19 (x20 * 11 + 7 : Int).toNat = M57 19 (x20 * 11 + 7 : Int).toNat := hpx74_1 _ (by omega)
            have e85 : M73 19 (x20 * 11 + 8 : Int).toNat = M57 19 (x20 * 11 + 8 : Int).toNat := hpx74_1 _ (by omega)
            have e86 : M73 19 (x20 * 11 + 9 : Int).toNat = M57 19 (x20 * 11 + 9 : Int).toNat := hpx74_1 _ (by omega)
            have e87 : M73 19 (x20 * 11 + 10 : Int).toNat = M57 19 (x20 * 11 + 10 : Int).toNat := hpx74_1 _ (by omega)
            have e88 : M73 18 3 = M57 18 3 := hFM73 18 3 (by decide)
            have hX19_M73 : ∀ j : Nat, ((j : Int) < 11 * M 18 3 ∨ 11 * M 18 3 + 11 ≤ j) → M73 19 j = M 19 j := fun j hj => (hpx74_1 j (by omega)).trans (hX19_M57 j hj)
            have hvx74 : 0 ≤ x20 ∧ x20 < 250 → M73 19 (x20 * 11 + 10 : Int).toNat = a4 := fun h9 => hpx74_0 ⟨h9, by omega⟩
            show zG n (0, 0) d 132 (130, [.inr (.inr (some 8)), .inl a1, .inl a2, .inl a3, .inl a4, .inl a5, .inl a6, .inl x20], []) M73 _
            refine zG_blk (c' := (132, [.inr (.inr (some 8)), .inl a1, .inl a2, .inl a3, .inl a4, .inl a5, .inl a6, .inl x20], [.inl x20])) 1 hd0 hz (by rfl) ?_
            exact zG_ret hd0 hz rfl rfl ⟨⟨hCM73, hWM73⟩, _, rfl, by omega, by omega, hX19_M73⟩
          · exact j56 (by omega)
      · exact j30 (by omega)
theorem qf_133_8 {n d : Nat} {M : zM} (hd : 4 ≤ d) (hC : qCI M)  (a1 : Int) (ha1 : (-2147483648) ≤ a1 ∧ a1 ≤ 2147483647) (a2 : Int) (ha2 : (-2147483648) ≤ a2 ∧ a2 ≤ 2147483647) (a3 : Int) (ha3 : (-2147483648) ≤ a3 ∧ a3 ≤ 2147483647) (a4 : Int) (ha4 : (-2147483648) ≤ a4 ∧ a4 ≤ 2147483647) : qOkC n d 133 [.inr (.inr (some 8)), .inl a1, .inl a2, .inl a3, .inl a4] 6 [18, 19] M (fun v M' => ∃ x : Int, v = some (.inl x) ∧ ((-4) ≤ x ∧ x ≤ 249) ∧ ((x = -2 ∧ ¬ (0 ≤ a1 ∧ a1 < M 12 3 ∧ 0 ≤ a2 ∧ a2 < M 10 3 ∧ 0 ≤ a3 ∧ a3 < M 16 3 ∧ M 17 (a3 * 5 + 1 : Int).toNat ≤ a4 ∧ a4 ≤ 9999) ∧ M' 18 3 = M 18 3) ∨ (x = -4 ∧ (0 ≤ a1 ∧ a1 < M 12 3 ∧ 0 ≤ a2 ∧ a2 < M 10 3 ∧ 0 ≤ a3 ∧ a3 < M 16 3 ∧ M 17 (a3 * 5 + 1 : Int).toNat ≤ a4 ∧ a4 ≤ 9999) ∧ M 18 3 = 250 ∧ M' 18 3 = M 18 3) ∨ (x = M 18 3 ∧ (0 ≤ a1 ∧ a1 < M 12 3 ∧ 0 ≤ a2 ∧ a2 < M 10 3 ∧ 0 ≤ a3 ∧ a3 < M 16 3 ∧ M 17 (a3 * 5 + 1 : Int).toNat ≤ a4 ∧ a4 ≤ 9999) ∧ M 18 3 < 250 ∧ M' 18 3 = M 18 3 + 1 ∧ M' 19 (x * 11 + 0 : Int).toNat = 4 ∧ M' 19 (x * 11 + 1 : Int).toNat = M 17 (a3 * 5 + 1 : Int).toNat ∧ M' 19 (x * 11 + 2 : Int).toNat = a4 ∧ M' 19 (x * 11 + 3 : Int).toNat = a3 ∧ M' 19 (x * 11 + 4 : Int).toNat = a1 ∧ M' 19 (x * 11 + 5 : Int).toNat = a2 ∧ M' 19 (x * 11 + 6 : Int).toNat = -1 ∧ M' 19 (x * 11 + 7 : Int).toNat = -1 ∧ M' 19 (x * 11 + 8 : Int).toNat = -1 ∧ M' 19 (x * 11 + 9 : Int).toNat = -1 ∧ M' 19 (x * 11 + 10 : Int).toNat = -1)) ∧ (∀ j : Nat, ((j : Int) < 11 * M 18 3 ∨ 11 * M 18 3 + 11 ≤ j) → M' 19 j = M 19 j)) := by
  have hz : zP 133 = (zk_X10_excuse, 6, (0, 0)) := rfl
  have hd0 : 0 < d := by omega
  have hW : qFr [18, 19] M M := qFr.rfl
  have hX19_M : ∀ j : Nat, ((j : Int) < 11 * M 18 3 ∨ 11 * M 18 3 + 11 ≤ j) → M 19 j = M 19 j := fun _ _ => rfl
  have r1 := hC.rows 18 250 11 (by decide)
  have r2 := hC.rows 12 20 3 (by decide)
  have r3 := hC.rows 10 14 4 (by decide)
  have r4 := hC.rows 16 40 5 (by decide)
  show zG n (0, 0) d 133 (0, [.inr (.inr (some 8)), .inl a1, .inl a2, .inl a3, .inl a4, zN], []) M _
  refine zG_blk (c' := (2, [.inr (.inr (some 8)), .inl a1, .inl a2, .inl a3, .inl a4, zN], [.inl a1, .inr (.inr (some 8))])) 2 hd0 hz (by rfl) ?_
  refine zG_call hd0 hz (rfl : zP 174 = (zk_X10_isStudent, 2, (0, 0))) rfl rfl (Nat.le_of_ble_eq_true rfl) ⟨Nat.le_refl _, Nat.le_refl _⟩ (qf_174_8 (by omega) hC   a1 (by omega) ) (fun vr M5 hr => ?_)
  obtain ⟨hq, x6, rfl, hx6, hpx6_0⟩ := hr
  replace hq := hq.symm; subst hq
  show zG n (0, 0) d 133 (5, [.inr (.inr (some 8)), .inl a1, .inl a2, .inl a3, .inl a4, zN], [.inl x6]) M _
  have j26 : (¬ (0 ≤ a1 ∧ a1 < M 12 3 ∧ 0 ≤ a2 ∧ a2 < M 10 3 ∧ 0 ≤ a3 ∧ a3 < M 16 3 ∧ M 17 (a3 * 5 + 1 : Int).toNat ≤ a4 ∧ a4 ≤ 9999)) → zG n (0, 0) d 133 (26, [.inr (.inr (some 8)), .inl a1, .inl a2, .inl a3, .inl a4, zN], []) M (fun v M' => (qCI M' ∧ qFr [18, 19] M M') ∧ ∃ x : Int, v = some (.inl x) ∧ ((-4) ≤ x ∧ x ≤ 249) ∧ ((x = -2 ∧ ¬ (0 ≤ a1 ∧ a1 < M 12 3 ∧ 0 ≤ a2 ∧ a2 < M 10 3 ∧ 0 ≤ a3 ∧ a3 < M 16 3 ∧ M 17 (a3 * 5 + 1 : Int).toNat ≤ a4 ∧ a4 ≤ 9999) ∧ M' 18 3 = M 18 3) ∨ (x = -4 ∧ (0 ≤ a1 ∧ a1 < M 12 3 ∧ 0 ≤ a2 ∧ a2 < M 10 3 ∧ 0 ≤ a3 ∧ a3 < M 16 3 ∧ M 17 (a3 * 5 + 1 : Int).toNat ≤ a4 ∧ a4 ≤ 9999) ∧ M 18 3 = 250 ∧ M' 18 3 = M 18 3) ∨ (x = M 18 3 ∧ (0 ≤ a1 ∧ a1 < M 12 3 ∧ 0 ≤ a2 ∧ a2 < M 10 3 ∧ 0 ≤ a3 ∧ a3 < M 16 3 ∧ M 17 (a3 * 5 + 1 : Int).toNat ≤ a4 ∧ a4 ≤ 9999) ∧ M 18 3 < 250 ∧ M' 18 3 = M 18 3 + 1 ∧ M' 19 (x * 11 + 0 : Int).toNat = 4 ∧ M' 19 (x * 11 + 1 : Int).toNat = M 17 (a3 * 5 + 1 : Int).toNat ∧ M' 19 (x * 11 + 2 : Int).toNat = a4 ∧ M' 19 (x * 11 + 3 : Int).toNat = a3 ∧ M' 19 (x * 11 + 4 : Int).toNat = a1 ∧ M' 19 (x * 11 + 5 : Int).toNat = a2 ∧ M' 19 (x * 11 + 6 : Int).toNat = -1 ∧ M' 19 (x * 11 + 7 : Int).toNat = -1 ∧ M' 19 (x * 11 + 8 : Int).toNat = -1 ∧ M' 19 (x * 11 + 9 : Int).toNat = -1 ∧ M' 19 (x * 11 + 10 : Int).toNat = -1)) ∧ (∀ j : Nat, ((j : Int) < 11 * M 18 3 ∨ 11 * M 18 3 + 11 ≤ j) → M' 19 j = M 19 j)) := by
    intro hx0_26
    refine zG_blk (c' := (28, [.inr (.inr (some 8)), .inl a1, .inl a2, .inl a3, .inl a4, zN], [.inl (-2)])) 1 hd0 hz (by rfl) ?_
    exact zG_ret hd0 hz rfl rfl ⟨⟨hC, hW⟩, _, rfl, by omega, by omega, hX19_M⟩
  refine zG_if_eq hd0 hz rfl (fun hb7 => ?_) (fun hb7 => ?_)
  · exact j26 (by omega)
  · refine zG_blk (c' := (10, [.inr (.inr (some 8)), .inl a1, .inl a2, .inl a3, .inl a4, zN], [.inl a2, .inr (.inr (some 8))])) 2 hd0 hz (by rfl) ?_
    refine zG_call hd0 hz (rfl : zP 175 = (zk_X10_isCourse, 2, (0, 0))) rfl rfl (Nat.le_of_ble_eq_true rfl) ⟨Nat.le_refl _, Nat.le_refl _⟩ (qf_175_8 (by omega) hC   a2 (by omega) ) (fun vr M8 hr => ?_)
    obtain ⟨hq, x9, rfl, hx9, hpx9_0⟩ := hr
    replace hq := hq.symm; subst hq
    show zG n (0, 0) d 133 (13, [.inr (.inr (some 8)), .inl a1, .inl a2, .inl a3, .inl a4, zN], [.inl x9]) M _
    refine zG_if_eq hd0 hz rfl (fun hb10 => ?_) (fun hb10 => ?_)
    · exact j26 (by omega)
    · refine zG_blk (c' := (20, [.inr (.inr (some 8)), .inl a1, .inl a2, .inl a3, .inl a4, zN], [.inl a4, .inl a3, .inr (.inr (some 8))])) 3 hd0 hz (by rfl) ?_
      refine zG_call hd0 hz (rfl : zP 178 = (zk_X10_isKnownAfter, 3, (0, 0))) rfl rfl (Nat.le_of_ble_eq_true rfl) ⟨Nat.le_refl _, Nat.le_refl _⟩ (qf_178_8 (by omega) hC   a3 (by omega) a4 (by omega) ) (fun vr M11 hr => ?_)
      obtain ⟨hq, x12, rfl, hx12, hpx12_0⟩ := hr
      replace hq := hq.symm; subst hq
      show zG n (0, 0) d 133 (23, [.inr (.inr (some 8)), .inl a1, .inl a2, .inl a3, .inl a4, zN], [.inl x12]) M _
      refine zG_if_ne hd0 hz rfl (fun hb13 => ?_) (fun hb13 => ?_)
      · refine zG_blk (c' := (34, [.inr (.inr (some 8)), .inl a1, .inl a2, .inl a3, .inl a4, zN], [.inl a4, .inl a3, .inl 4, .inr (.inr (some 8))])) 4 hd0 hz (by rfl) ?_
        refine zG_call hd0 hz (rfl : zP 179 = (zk_X10_enterBy, 4, (0, 0))) rfl rfl (Nat.le_of_ble_eq_true rfl) ⟨Nat.le_refl _, Nat.le_refl _⟩ (qf_179_8 (by omega) hC   4 (by omega) a3 (by omega) a4 (by omega) (by omega)) (fun vr M14 hr => ?_)
        obtain ⟨⟨hCM14, hFM14⟩, x15, rfl, hx15, hpx15_0, hpx15_1, hpx15_r19⟩ := hr
        have hWM14 : qFr [18, 19] M M14 := hW.tr hFM14 (by decide)
        have e17 : M14 12 3 = M 12 3 := hFM14 12 3 (by decide)
        have e18 : M14 10 3 = M 10 3 := hFM14 10 3 (by decide)
        have e19 : M14 16 3 = M 16 3 := hFM14 16 3 (by decide)
        have hX19_M14 : ∀ j : Nat, ((j : Int) < 11 * M 18 3 ∨ 11 * M 18 3 + 11 ≤ j) → M14 19 j = M 19 j := fun j hj => (hpx15_r19 j (by omega)).trans (hX19_M j hj)
        have r20 := hCM14.rows 18 250 11 (by decide)
        show zG n (0, 0) d 133 (37, [.inr (.inr (some 8)), .inl a1, .inl a2, .inl a3, .inl a4, zN], [.inl x15]) M14 _
        refine zG_blk (c' := (50, [.inr (.inr (some 8)), .inl a1, .inl a2, .inl a3, .inl a4, .inl x15], [.inl a1, .inl 4, .inl x15, .inr (.inr (some 18))])) 7 hd0 hz (by rfl) ?_
        refine zG_call hd0 hz (rfl : zP 107 = (zk_X8_set, 4, (0, 0))) rfl rfl (Nat.le_of_ble_eq_true rfl) ⟨Nat.le_refl _, Nat.le_refl _⟩ (qf_set (by omega) hCM14  (⟨by decide, rfl, rfl⟩ : qT n 18 250 11) x15 (by omega) 4 (by omega) a1 (by omega) ) (fun vr M21 hr => ?_)
        obtain ⟨⟨hCM21, hFM21⟩, rfl, hpx22_0, hpx22_1⟩ := hr
        have hWM21 : qFr [18, 19] M M21 := hWM14.tr hFM21 (by decide)
        have e23 : M21 12 3 = M14 12 3 := hFM21 12 3 (by decide)
        have e24 : M21 10 3 = M14 10 3 := hFM21 10 3 (by decide)
        have e25 : M21 16 3 = M14 16 3 := hFM21 16 3 (by decide)
        have e26 : M21 19 (x15 * 11 + 0 : Int).toNat = M14 19 (x15 * 11 + 0 : Int).toNat := hpx22_1 _ (by omega)
        have e27 : M21 19 (x15 * 11 + 1 : Int).toNat = M14 19 (x15 * 11 + 1 : Int).toNat := hpx22_1 _ (by omega)
        have e28 : M21 19 (x15 * 11 + 2 : Int).toNat = M14 19 (x15 * 11 + 2 : Int).toNat := hpx22_1 _ (by omega)
        have e29 : M21 19 (x15 * 11 + 3 : Int).toNat = M14 19 (x15 * 11 + 3 : Int).toNat := hpx22_1 _ (by omega)
        have e30 : M21 19 (x15 * 11 + 4 : Int).toNat = M14 19 (x15 * 11 + 4 : Int).toNat := hpx22_1 _ (by omega)
        have e31 : M21 19 (x15 * 11 + 5 : Int).toNat = M14 19 (x15 * 11 + 5 : Int).toNat := hpx22_1 _ (by omega)
        have e32 : M21 19 (x15 * 11 + 6 : Int).toNat = M14 19 (x15 * 11 + 6 : Int).toNat := hpx22_1 _ (by omega)
        have e33 : M21 19 (x15 * 11 + 7 : Int).toNat = M14 19 (x15 * 11 + 7 : Int).toNat := hpx22_1 _ (by omega)
        have e34 : M21 19 (x15 * 11 + 8 : Int).toNat = M14 19 (x15 * 11 + 8 : Int).toNat := hpx22_1 _ (by omega)
        have e35 : M21 19 (x15 * 11 + 9 : Int).toNat = M14 19 (x15 * 11 + 9 : Int).toNat := hpx22_1 _ (by omega)
        have e36 : M21 19 (x15 * 11 + 10 : Int).toNat = M14 19 (x15 * 11 + 10 : Int).toNat := hpx22_1 _ (by omega)
        have e37 : M21 18 3 = M14 18 3 := hFM21 18 3 (by decide)
        have hX19_M21 : ∀ j : Nat, ((j : Int) < 11 * M 18 3 ∨ 11 * M 18 3 + 11 ≤ j) → M21 19 j = M 19 j := fun j hj => (hpx22_1 j (by omega)).trans (hX19_M14 j hj)
        have hvx22 : 0 ≤ x15 ∧ x15 < 250 → M21 19 (x15 * 11 + 4 : Int).toNat = a1 := fun h9 => hpx22_0 ⟨h9, by omega⟩
        show zG n (0, 0) d 133 (53, [.inr (.inr (some 8)), .inl a1, .inl a2, .inl a3, .inl a4, .inl x15], []) M21 _
        refine zG_blk (c' := (64, [.inr (.inr (some 8)), .inl a1, .inl a2, .inl a3, .inl a4, .inl x15], [.inl a2, .inl 5, .inl x15, .inr (.inr (some 18))])) 6 hd0 hz (by rfl) ?_
        refine zG_call hd0 hz (rfl : zP 107 = (zk_X8_set, 4, (0, 0))) rfl rfl (Nat.le_of_ble_eq_true rfl) ⟨Nat.le_refl _, Nat.le_refl _⟩ (qf_set (by omega) hCM21  (⟨by decide, rfl, rfl⟩ : qT n 18 250 11) x15 (by omega) 5 (by omega) a2 (by omega) ) (fun vr M38 hr => ?_)
        obtain ⟨⟨hCM38, hFM38⟩, rfl, hpx39_0, hpx39_1⟩ := hr
        have hWM38 : qFr [18, 19] M M38 := hWM21.tr hFM38 (by decide)
        have e40 : M38 12 3 = M21 12 3 := hFM38 12 3 (by decide)
        have e41 : M38 10 3 = M21 10 3 := hFM38 10 3 (by decide)
        have e42 : M38 16 3 = M21 16 3 := hFM38 16 3 (by decide)
        have e43 : M38 19 (x15 * 11 + 0 : Int).toNat = M21 19 (x15 * 11 + 0 : Int).toNat := hpx39_1 _ (by omega)
        have e44 : M38 19 (x15 * 11 + 1 : Int).toNat = M21 19 (x15 * 11 + 1 : Int).toNat := hpx39_1 _ (by omega)
        have e45 : M38 19 (x15 * 11 + 2 : Int).toNat = M21 19 (x15 * 11 + 2 : Int).toNat := hpx39_1 _ (by omega)
        have e46 : M38 19 (x15 * 11 + 3 : Int).toNat = M21 19 (x15 * 11 + 3 : Int).toNat := hpx39_1 _ (by omega)
        have e47 : M38 19 (x15 * 11 + 4 : Int).toNat = M21 19 (x15 * 11 + 4 : Int).toNat := hpx39_1 _ (by omega)
        have e48 : M38 19 (x15 * 11 + 5 : Int).toNat = M21 19 (x15 * 11 + 5 : Int).toNat := hpx39_1 _ (by omega)
        have e49 : M38 19 (x15 * 11 + 6 : Int).toNat = M21 19 (x15 * 11 + 6 : Int).toNat := hpx39_1 _ (by omega)
        have e50 : M38 19 (x15 * 11 + 7 : Int).toNat = M21 19 (x15 * 11 + 7 : Int).toNat := hpx39_1 _ (by omega)
        have e51 : M38 19 (x15 * 11 + 8 : Int).toNat = M21 19 (x15 * 11 + 8 : Int).toNat := hpx39_1 _ (by omega)
        have e52 : M38 19 (x15 * 11 + 9 : Int).toNat = M21 19 (x15 * 11 + 9 : Int).toNat := hpx39_1 _ (by omega)
        have e53 : M38 19 (x15 * 11 + 10 : Int).toNat = M21 19 (x15 * 11 + 10 : Int).toNat := hpx39_1 _ (by omega)
        have e54 : M38 18 3 = M21 18 3 := hFM38 18 3 (by decide)
        have hX19_M38 : ∀ j : Nat, ((j : Int) < 11 * M 18 3 ∨ 11 * M 18 3 + 11 ≤ j) → M38 19 j = M 19 j := fun j hj => (hpx39_1 j (by omega)).trans (hX19_M21 j hj)
        have hvx39 : 0 ≤ x15 ∧ x15 < 250 → M38 19 (x15 * 11 + 5 : Int).toNat = a2 := fun h9 => hpx39_0 ⟨h9, by omega⟩
        show zG n (0, 0) d 133 (67, [.inr (.inr (some 8)), .inl a1, .inl a2, .inl a3, .inl a4, .inl x15], []) M38 _
        refine zG_blk (c' := (69, [.inr (.inr (some 8)), .inl a1, .inl a2, .inl a3, .inl a4, .inl x15], [.inl x15])) 1 hd0 hz (by rfl) ?_
        exact zG_ret hd0 hz rfl rfl ⟨⟨hCM38, hWM38⟩, _, rfl, by omega, by omega, hX19_M38⟩
      · exact j26 (by omega)
theorem qf_134_8 {n d : Nat} {M : zM} (hd : 4 ≤ d) (hC : qCI M)  (a1 : Int) (ha1 : (-2147483648) ≤ a1 ∧ a1 ≤ 2147483647) (a2 : Int) (ha2 : (-2147483648) ≤ a2 ∧ a2 ≤ 2147483647) (a3 : Int) (ha3 : (-2147483648) ≤ a3 ∧ a3 ≤ 2147483647) : qOkC n d 134 [.inr (.inr (some 8)), .inl a1, .inl a2, .inl a3] 5 [18, 19] M (fun v M' => ∃ x : Int, v = some (.inl x) ∧ ((-4) ≤ x ∧ x ≤ 249) ∧ ((x = -2 ∧ ¬ (0 ≤ a1 ∧ a1 < M 18 3 ∧ 0 ≤ a2 ∧ a2 < M 16 3 ∧ M 17 (a2 * 5 + 1 : Int).toNat ≤ a3 ∧ a3 ≤ 9999) ∧ M' 18 3 = M 18 3) ∨ (x = -4 ∧ (0 ≤ a1 ∧ a1 < M 18 3 ∧ 0 ≤ a2 ∧ a2 < M 16 3 ∧ M 17 (a2 * 5 + 1 : Int).toNat ≤ a3 ∧ a3 ≤ 9999) ∧ M 18 3 = 250 ∧ M' 18 3 = M 18 3) ∨ (x = M 18 3 ∧ (0 ≤ a1 ∧ a1 < M 18 3 ∧ 0 ≤ a2 ∧ a2 < M 16 3 ∧ M 17 (a2 * 5 + 1 : Int).toNat ≤ a3 ∧ a3 ≤ 9999) ∧ M 18 3 < 250 ∧ M' 18 3 = M 18 3 + 1 ∧ M' 19 (x * 11 + 0 : Int).toNat = 5 ∧ M' 19 (x * 11 + 1 : Int).toNat = M 17 (a2 * 5 + 1 : Int).toNat ∧ M' 19 (x * 11 + 2 : Int).toNat = a3 ∧ M' 19 (x * 11 + 3 : Int).toNat = a2 ∧ M' 19 (x * 11 + 4 : Int).toNat = -1 ∧ M' 19 (x * 11 + 5 : Int).toNat = -1 ∧ M' 19 (x * 11 + 6 : Int).toNat = a1 ∧ M' 19 (x * 11 + 7 : Int).toNat = -1 ∧ M' 19 (x * 11 + 8 : Int).toNat = -1 ∧ M' 19 (x * 11 + 9 : Int).toNat = -1 ∧ M' 19 (x * 11 + 10 : Int).toNat = -1)) ∧ (∀ j : Nat, ((j : Int) < 11 * M 18 3 ∨ 11 * M 18 3 + 11 ≤ j) → M' 19 j = M 19 j)) := by
  have hz : zP 134 = (zk_X10_strike, 5, (0, 0)) := rfl
  have hd0 : 0 < d := by omega
  have hW : qFr [18, 19] M M := qFr.rfl
  have hX19_M : ∀ j : Nat, ((j : Int) < 11 * M 18 3 ∨ 11 * M 18 3 + 11 ≤ j) → M 19 j = M 19 j := fun _ _ => rfl
  have r1 := hC.rows 18 250 11 (by decide)
  have r2 := hC.rows 16 40 5 (by decide)
  show zG n (0, 0) d 134 (0, [.inr (.inr (some 8)), .inl a1, .inl a2, .inl a3, zN], []) M _
  refine zG_blk (c' := (8, [.inr (.inr (some 8)), .inl a1, .inl a2, .inl a3, zN], [.inl a1, .inr (.inr (some 18))])) 4 hd0 hz (by rfl) ?_
  refine zG_call hd0 hz (rfl : zP 102 = (zk_X8_has, 2, (0, 0))) rfl rfl (Nat.le_of_ble_eq_true rfl) ⟨Nat.le_refl _, Nat.le_refl _⟩ (qw_has (by omega) hC  (⟨by decide, rfl, rfl⟩ : qT n 18 250 11) a1 (by omega) ) (fun vr M3 hr => ?_)
  obtain ⟨hq, x4, rfl, hx4⟩ := hr
  replace hq := hq.symm; subst hq
  show zG n (0, 0) d 134 (11, [.inr (.inr (some 8)), .inl a1, .inl a2, .inl a3, zN], [.inl x4]) M _
  have j23 : (¬ (0 ≤ a1 ∧ a1 < M 18 3 ∧ 0 ≤ a2 ∧ a2 < M 16 3 ∧ M 17 (a2 * 5 + 1 : Int).toNat ≤ a3 ∧ a3 ≤ 9999)) → zG n (0, 0) d 134 (23, [.inr (.inr (some 8)), .inl a1, .inl a2, .inl a3, zN], []) M (fun v M' => (qCI M' ∧ qFr [18, 19] M M') ∧ ∃ x : Int, v = some (.inl x) ∧ ((-4) ≤ x ∧ x ≤ 249) ∧ ((x = -2 ∧ ¬ (0 ≤ a1 ∧ a1 < M 18 3 ∧ 0 ≤ a2 ∧ a2 < M 16 3 ∧ M 17 (a2 * 5 + 1 : Int).toNat ≤ a3 ∧ a3 ≤ 9999) ∧ M' 18 3 = M 18 3) ∨ (x = -4 ∧ (0 ≤ a1 ∧ a1 < M 18 3 ∧ 0 ≤ a2 ∧ a2 < M 16 3 ∧ M 17 (a2 * 5 + 1 : Int).toNat ≤ a3 ∧ a3 ≤ 9999) ∧ M 18 3 = 250 ∧ M' 18 3 = M 18 3) ∨ (x = M 18 3 ∧ (0 ≤ a1 ∧ a1 < M 18 3 ∧ 0 ≤ a2 ∧ a2 < M 16 3 ∧ M 17 (a2 * 5 + 1 : Int).toNat ≤ a3 ∧ a3 ≤ 9999) ∧ M 18 3 < 250 ∧ M' 18 3 = M 18 3 + 1 ∧ M' 19 (x * 11 + 0 : Int).toNat = 5 ∧ M' 19 (x * 11 + 1 : Int).toNat = M 17 (a2 * 5 + 1 : Int).toNat ∧ M' 19 (x * 11 + 2 : Int).toNat = a3 ∧ M' 19 (x * 11 + 3 : Int).toNat = a2 ∧ M' 19 (x * 11 + 4 : Int).toNat = -1 ∧ M' 19 (x * 11 + 5 : Int).toNat = -1 ∧ M' 19 (x * 11 + 6 : Int).toNat = a1 ∧ M' 19 (x * 11 + 7 : Int).toNat = -1 ∧ M' 19 (x * 11 + 8 : Int).toNat = -1 ∧ M' 19 (x * 11 + 9 : Int).toNat = -1 ∧ M' 19 (x * 11 + 10 : Int).toNat = -1)) ∧ (∀ j : Nat, ((j : Int) < 11 * M 18 3 ∨ 11 * M 18 3 + 11 ≤ j) → M' 19 j = M 19 j)) := by
    intro hx0_23
    refine zG_blk (c' := (25, [.inr (.inr (some 8)), .inl a1, .inl a2, .inl a3, zN], [.inl (-2)])) 1 hd0 hz (by rfl) ?_
    exact zG_ret hd0 hz rfl rfl ⟨⟨hC, hW⟩, _, rfl, by omega, by omega, hX19_M⟩
  refine zG_if_eq hd0 hz rfl (fun hb5 => ?_) (fun hb5 => ?_)
  · exact j23 (by omega)
  · refine zG_blk (c' := (17, [.inr (.inr (some 8)), .inl a1, .inl a2, .inl a3, zN], [.inl a3, .inl a2, .inr (.inr (some 8))])) 3 hd0 hz (by rfl) ?_
    refine zG_call hd0 hz (rfl : zP 178 = (zk_X10_isKnownAfter, 3, (0, 0))) rfl rfl (Nat.le_of_ble_eq_true rfl) ⟨Nat.le_refl _, Nat.le_refl _⟩ (qf_178_8 (by omega) hC   a2 (by omega) a3 (by omega) ) (fun vr M6 hr => ?_)
    obtain ⟨hq, x7, rfl, hx7, hpx7_0⟩ := hr
    replace hq := hq.symm; subst hq
    show zG n (0, 0) d 134 (20, [.inr (.inr (some 8)), .inl a1, .inl a2, .inl a3, zN], [.inl x7]) M _
    refine zG_if_ne hd0 hz rfl (fun hb8 => ?_) (fun hb8 => ?_)
    · refine zG_blk (c' := (30, [.inr (.inr (some 8)), .inl a1, .inl a2, .inl a3, zN], [.inl a3, .inl a2, .inl 5, .inr (.inr (some 8))])) 4 hd0 hz (by rfl) ?_
      refine zG_call hd0 hz (rfl : zP 179 = (zk_X10_enterBy, 4, (0, 0))) rfl rfl (Nat.le_of_ble_eq_true rfl) ⟨Nat.le_refl _, Nat.le_refl _⟩ (qf_179_8 (by omega) hC   5 (by omega) a2 (by omega) a3 (by omega) (by omega)) (fun vr M9 hr => ?_)
      obtain ⟨⟨hCM9, hFM9⟩, x10, rfl, hx10, hpx10_0, hpx10_1, hpx10_r19⟩ := hr
      have hWM9 : qFr [18, 19] M M9 := hW.tr hFM9 (by decide)
      have e12 : M9 16 3 = M 16 3 := hFM9 16 3 (by decide)
      have hX19_M9 : ∀ j : Nat, ((j : Int) < 11 * M 18 3 ∨ 11 * M 18 3 + 11 ≤ j) → M9 19 j = M 19 j := fun j hj => (hpx10_r19 j (by omega)).trans (hX19_M j hj)
      have r13 := hCM9.rows 18 250 11 (by decide)
      show zG n (0, 0) d 134 (33, [.inr (.inr (some 8)), .inl a1, .inl a2, .inl a3, zN], [.inl x10]) M9 _
      refine zG_blk (c' := (47, [.inr (.inr (some 8)), .inl a1, .inl a2, .inl a3, .inl x10], [.inl a1, .inl 6, .inl x10, .inr (.inr (some 18))])) 7 hd0 hz (by rfl) ?_
      refine zG_call hd0 hz (rfl : zP 107 = (zk_X8_set, 4, (0, 0))) rfl rfl (Nat.le_of_ble_eq_true rfl) ⟨Nat.le_refl _, Nat.le_refl _⟩ (qf_set (by omega) hCM9  (⟨by decide, rfl, rfl⟩ : qT n 18 250 11) x10 (by omega) 6 (by omega) a1 (by omega) ) (fun vr M14 hr => ?_)
      obtain ⟨⟨hCM14, hFM14⟩, rfl, hpx15_0, hpx15_1⟩ := hr
      have hWM14 : qFr [18, 19] M M14 := hWM9.tr hFM14 (by decide)
      have e16 : M14 16 3 = M9 16 3 := hFM14 16 3 (by decide)
      have e17 : M14 19 (x10 * 11 + 0 : Int).toNat = M9 19 (x10 * 11 + 0 : Int).toNat := hpx15_1 _ (by omega)
      have e18 : M14 19 (x10 * 11 + 1 : Int).toNat = M9 19 (x10 * 11 + 1 : Int).toNat := hpx15_1 _ (by omega)
      have e19 : M14 19 (x10 * 11 + 2 : Int).toNat = M9 19 (x10 * 11 + 2 : Int).toNat := hpx15_1 _ (by omega)
      have e20 : M14 19 (x10 * 11 + 3 : Int).toNat = M9 19 (x10 * 11 + 3 : Int).toNat := hpx15_1 _ (by omega)
      have e21 : M14 19 (x10 * 11 + 4 : Int).toNat = M9 19 (x10 * 11 + 4 : Int).toNat := hpx15_1 _ (by omega)
      have e22 : M14 19 (x10 * 11 + 5 : Int).toNat = M9 19 (x10 * 11 + 5 : Int).toNat := hpx15_1 _ (by omega)
      have e23 : M14 19 (x10 * 11 + 6 : Int).toNat = M9 19 (x10 * 11 + 6 : Int).toNat := hpx15_1 _ (by omega)
      have e24 : M14 19 (x10 * 11 + 7 : Int).toNat = M9 19 (x10 * 11 + 7 : Int).toNat := hpx15_1 _ (by omega)
      have e25 : M14 19 (x10 * 11 + 8 : Int).toNat = M9 19 (x10 * 11 + 8 : Int).toNat := hpx15_1 _ (by omega)
      have e26 : M14 19 (x10 * 11 + 9 : Int).toNat = M9 19 (x10 * 11 + 9 : Int).toNat := hpx15_1 _ (by omega)
      have e27 : M14 19 (x10 * 11 + 10 : Int).toNat = M9 19 (x10 * 11 + 10 : Int).toNat := hpx15_1 _ (by omega)
      have e28 : M14 18 3 = M9 18 3 := hFM14 18 3 (by decide)
      have hX19_M14 : ∀ j : Nat, ((j : Int) < 11 * M 18 3 ∨ 11 * M 18 3 + 11 ≤ j) → M14 19 j = M 19 j := fun j hj => (hpx15_1 j (by omega)).trans (hX19_M9 j hj)
      have hvx15 : 0 ≤ x10 ∧ x10 < 250 → M14 19 (x10 * 11 + 6 : Int).toNat = a1 := fun h9 => hpx15_0 ⟨h9, by omega⟩
      show zG n (0, 0) d 134 (50, [.inr (.inr (some 8)), .inl a1, .inl a2, .inl a3, .inl x10], []) M14 _
      refine zG_blk (c' := (52, [.inr (.inr (some 8)), .inl a1, .inl a2, .inl a3, .inl x10], [.inl x10])) 1 hd0 hz (by rfl) ?_
      exact zG_ret hd0 hz rfl rfl ⟨⟨hCM14, hWM14⟩, _, rfl, by omega, by omega, hX19_M14⟩
    · exact j23 (by omega)
theorem qf_135_8 {n d : Nat} {M : zM} (hd : 4 ≤ d) (hC : qCI M)  (a1 : Int) (ha1 : (-2147483648) ≤ a1 ∧ a1 ≤ 2147483647) (a2 : Int) (ha2 : (-2147483648) ≤ a2 ∧ a2 ≤ 2147483647) (a3 : Int) (ha3 : (-2147483648) ≤ a3 ∧ a3 ≤ 2147483647) : qOkC n d 135 [.inr (.inr (some 8)), .inl a1, .inl a2, .inl a3] 5 [18, 19] M (fun v M' => ∃ x : Int, v = some (.inl x) ∧ ((-4) ≤ x ∧ x ≤ 249) ∧ ((x = -2 ∧ ¬ (0 ≤ a1 ∧ a1 < M 12 3 ∧ 0 ≤ a2 ∧ a2 < M 16 3 ∧ M 17 (a2 * 5 + 1 : Int).toNat ≤ a3 ∧ a3 ≤ 9999) ∧ M' 18 3 = M 18 3) ∨ (x = -4 ∧ (0 ≤ a1 ∧ a1 < M 12 3 ∧ 0 ≤ a2 ∧ a2 < M 16 3 ∧ M 17 (a2 * 5 + 1 : Int).toNat ≤ a3 ∧ a3 ≤ 9999) ∧ M 18 3 = 250 ∧ M' 18 3 = M 18 3) ∨ (x = M 18 3 ∧ (0 ≤ a1 ∧ a1 < M 12 3 ∧ 0 ≤ a2 ∧ a2 < M 16 3 ∧ M 17 (a2 * 5 + 1 : Int).toNat ≤ a3 ∧ a3 ≤ 9999) ∧ M 18 3 < 250 ∧ M' 18 3 = M 18 3 + 1 ∧ M' 19 (x * 11 + 0 : Int).toNat = 6 ∧ M' 19 (x * 11 + 1 : Int).toNat = M 17 (a2 * 5 + 1 : Int).toNat ∧ M' 19 (x * 11 + 2 : Int).toNat = a3 ∧ M' 19 (x * 11 + 3 : Int).toNat = a2 ∧ M' 19 (x * 11 + 4 : Int).toNat = a1 ∧ M' 19 (x * 11 + 5 : Int).toNat = -1 ∧ M' 19 (x * 11 + 6 : Int).toNat = -1 ∧ M' 19 (x * 11 + 7 : Int).toNat = -1 ∧ M' 19 (x * 11 + 8 : Int).toNat = -1 ∧ M' 19 (x * 11 + 9 : Int).toNat = -1 ∧ M' 19 (x * 11 + 10 : Int).toNat = -1)) ∧ (∀ j : Nat, ((j : Int) < 11 * M 18 3 ∨ 11 * M 18 3 + 11 ≤ j) → M' 19 j = M 19 j)) := by
  have hz : zP 135 = (zk_X10_degree, 5, (0, 0)) := rfl
  have hd0 : 0 < d := by omega
  have hW : qFr [18, 19] M M := qFr.rfl
  have hX19_M : ∀ j : Nat, ((j : Int) < 11 * M 18 3 ∨ 11 * M 18 3 + 11 ≤ j) → M 19 j = M 19 j := fun _ _ => rfl
  have r1 := hC.rows 18 250 11 (by decide)
  have r2 := hC.rows 12 20 3 (by decide)
  have r3 := hC.rows 16 40 5 (by decide)
  show zG n (0, 0) d 135 (0, [.inr (.inr (some 8)), .inl a1, .inl a2, .inl a3, zN], []) M _
  refine zG_blk (c' := (2, [.inr (.inr (some 8)), .inl a1, .inl a2, .inl a3, zN], [.inl a1, .inr (.inr (some 8))])) 2 hd0 hz (by rfl) ?_
  refine zG_call hd0 hz (rfl : zP 174 = (zk_X10_isStudent, 2, (0, 0))) rfl rfl (Nat.le_of_ble_eq_true rfl) ⟨Nat.le_refl _, Nat.le_refl _⟩ (qf_174_8 (by omega) hC   a1 (by omega) ) (fun vr M4 hr => ?_)
  obtain ⟨hq, x5, rfl, hx5, hpx5_0⟩ := hr
  replace hq := hq.symm; subst hq
  show zG n (0, 0) d 135 (5, [.inr (.inr (some 8)), .inl a1, .inl a2, .inl a3, zN], [.inl x5]) M _
  have j17 : (¬ (0 ≤ a1 ∧ a1 < M 12 3 ∧ 0 ≤ a2 ∧ a2 < M 16 3 ∧ M 17 (a2 * 5 + 1 : Int).toNat ≤ a3 ∧ a3 ≤ 9999)) → zG n (0, 0) d 135 (17, [.inr (.inr (some 8)), .inl a1, .inl a2, .inl a3, zN], []) M (fun v M' => (qCI M' ∧ qFr [18, 19] M M') ∧ ∃ x : Int, v = some (.inl x) ∧ ((-4) ≤ x ∧ x ≤ 249) ∧ ((x = -2 ∧ ¬ (0 ≤ a1 ∧ a1 < M 12 3 ∧ 0 ≤ a2 ∧ a2 < M 16 3 ∧ M 17 (a2 * 5 + 1 : Int).toNat ≤ a3 ∧ a3 ≤ 9999) ∧ M' 18 3 = M 18 3) ∨ (x = -4 ∧ (0 ≤ a1 ∧ a1 < M 12 3 ∧ 0 ≤ a2 ∧ a2 < M 16 3 ∧ M 17 (a2 * 5 + 1 : Int).toNat ≤ a3 ∧ a3 ≤ 9999) ∧ M 18 3 = 250 ∧ M' 18 3 = M 18 3) ∨ (x = M 18 3 ∧ (0 ≤ a1 ∧ a1 < M 12 3 ∧ 0 ≤ a2 ∧ a2 < M 16 3 ∧ M 17 (a2 * 5 + 1 : Int).toNat ≤ a3 ∧ a3 ≤ 9999) ∧ M 18 3 < 250 ∧ M' 18 3 = M 18 3 + 1 ∧ M' 19 (x * 11 + 0 : Int).toNat = 6 ∧ M' 19 (x * 11 + 1 : Int).toNat = M 17 (a2 * 5 + 1 : Int).toNat ∧ M' 19 (x * 11 + 2 : Int).toNat = a3 ∧ M' 19 (x * 11 + 3 : Int).toNat = a2 ∧ M' 19 (x * 11 + 4 : Int).toNat = a1 ∧ M' 19 (x * 11 + 5 : Int).toNat = -1 ∧ M' 19 (x * 11 + 6 : Int).toNat = -1 ∧ M' 19 (x * 11 + 7 : Int).toNat = -1 ∧ M' 19 (x * 11 + 8 : Int).toNat = -1 ∧ M' 19 (x * 11 + 9 : Int).toNat = -1 ∧ M' 19 (x * 11 + 10 : Int).toNat = -1)) ∧ (∀ j : Nat, ((j : Int) < 11 * M 18 3 ∨ 11 * M 18 3 + 11 ≤ j) → M' 19 j = M 19 j)) := by
    intro hx0_17
    refine zG_blk (c' := (19, [.inr (.inr (some 8)), .inl a1, .inl a2, .inl a3, zN], [.inl (-2)])) 1 hd0 hz (by rfl) ?_
    exact zG_ret hd0 hz rfl rfl ⟨⟨hC, hW⟩, _, rfl, by omega, by omega, hX19_M⟩
  refine zG_if_eq hd0 hz rfl (fun hb6 => ?_) (fun hb6 => ?_)
  · exact j17 (by omega)
  · refine zG_blk (c' := (11, [.inr (.inr (some 8)), .inl a1, .inl a2, .inl a3, zN], [.inl a3, .inl a2, .inr (.inr (some 8))])) 3 hd0 hz (by rfl) ?_
    refine zG_call hd0 hz (rfl : zP 178 = (zk_X10_isKnownAfter, 3, (0, 0))) rfl rfl (Nat.le_of_ble_eq_true rfl) ⟨Nat.le_refl _, Nat.le_refl _⟩ (qf_178_8 (by omega) hC   a2 (by omega) a3 (by omega) ) (fun vr M7 hr => ?_)
    obtain ⟨hq, x8, rfl, hx8, hpx8_0⟩ := hr
    replace hq := hq.symm; subst hq
    show zG n (0, 0) d 135 (14, [.inr (.inr (some 8)), .inl a1, .inl a2, .inl a3, zN], [.inl x8]) M _
    refine zG_if_ne hd0 hz rfl (fun hb9 => ?_) (fun hb9 => ?_)
    · refine zG_blk (c' := (25, [.inr (.inr (some 8)), .inl a1, .inl a2, .inl a3, zN], [.inl a3, .inl a2, .inl 6, .inr (.inr (some 8))])) 4 hd0 hz (by rfl) ?_
      refine zG_call hd0 hz (rfl : zP 179 = (zk_X10_enterBy, 4, (0, 0))) rfl rfl (Nat.le_of_ble_eq_true rfl) ⟨Nat.le_refl _, Nat.le_refl _⟩ (qf_179_8 (by omega) hC   6 (by omega) a2 (by omega) a3 (by omega) (by omega)) (fun vr M10 hr => ?_)
      obtain ⟨⟨hCM10, hFM10⟩, x11, rfl, hx11, hpx11_0, hpx11_1, hpx11_r19⟩ := hr
      have hWM10 : qFr [18, 19] M M10 := hW.tr hFM10 (by decide)
      have e13 : M10 12 3 = M 12 3 := hFM10 12 3 (by decide)
      have e14 : M10 16 3 = M 16 3 := hFM10 16 3 (by decide)
      have hX19_M10 : ∀ j : Nat, ((j : Int) < 11 * M 18 3 ∨ 11 * M 18 3 + 11 ≤ j) → M10 19 j = M 19 j := fun j hj => (hpx11_r19 j (by omega)).trans (hX19_M j hj)
      have r15 := hCM10.rows 18 250 11 (by decide)
      show zG n (0, 0) d 135 (28, [.inr (.inr (some 8)), .inl a1, .inl a2, .inl a3, zN], [.inl x11]) M10 _
      refine zG_blk (c' := (41, [.inr (.inr (some 8)), .inl a1, .inl a2, .inl a3, .inl x11], [.inl a1, .inl 4, .inl x11, .inr (.inr (some 18))])) 7 hd0 hz (by rfl) ?_
      refine zG_call hd0 hz (rfl : zP 107 = (zk_X8_set, 4, (0, 0))) rfl rfl (Nat.le_of_ble_eq_true rfl) ⟨Nat.le_refl _, Nat.le_refl _⟩ (qf_set (by omega) hCM10  (⟨by decide, rfl, rfl⟩ : qT n 18 250 11) x11 (by omega) 4 (by omega) a1 (by omega) ) (fun vr M16 hr => ?_)
      obtain ⟨⟨hCM16, hFM16⟩, rfl, hpx17_0, hpx17_1⟩ := hr
      have hWM16 : qFr [18, 19] M M16 := hWM10.tr hFM16 (by decide)
      have e18 : M16 12 3 = M10 12 3 := hFM16 12 3 (by decide)
      have e19 : M16 16 3 = M10 16 3 := hFM16 16 3 (by decide)
      have e20 : M16 19 (x11 * 11 + 0 : Int).toNat = M10 19 (x11 * 11 + 0 : Int).toNat := hpx17_1 _ (by omega)
      have e21 : M16 19 (x11 * 11 + 1 : Int).toNat = M10 19 (x11 * 11 + 1 : Int).toNat := hpx17_1 _ (by omega)
      have e22 : M16 19 (x11 * 11 + 2 : Int).toNat = M10 19 (x11 * 11 + 2 : Int).toNat := hpx17_1 _ (by omega)
      have e23 : M16 19 (x11 * 11 + 3 : Int).toNat = M10 19 (x11 * 11 + 3 : Int).toNat := hpx17_1 _ (by omega)
      have e24 : M16 19 (x11 * 11 + 4 : Int).toNat = M10 19 (x11 * 11 + 4 : Int).toNat := hpx17_1 _ (by omega)
      have e25 : M16 19 (x11 * 11 + 5 : Int).toNat = M10 19 (x11 * 11 + 5 : Int).toNat := hpx17_1 _ (by omega)
      have e26 : M16 19 (x11 * 11 + 6 : Int).toNat = M10 19 (x11 * 11 + 6 : Int).toNat := hpx17_1 _ (by omega)
      have e27 : M16 19 (x11 * 11 + 7 : Int).toNat = M10 19 (x11 * 11 + 7 : Int).toNat := hpx17_1 _ (by omega)
      have e28 : M16 19 (x11 * 11 + 8 : Int).toNat = M10 19 (x11 * 11 + 8 : Int).toNat := hpx17_1 _ (by omega)
      have e29 : M16 19 (x11 * 11 + 9 : Int).toNat = M10 19 (x11 * 11 + 9 : Int).toNat := hpx17_1 _ (by omega)
      have e30 : M16 19 (x11 * 11 + 10 : Int).toNat = M10 19 (x11 * 11 + 10 : Int).toNat := hpx17_1 _ (by omega)
      have e31 : M16 18 3 = M10 18 3 := hFM16 18 3 (by decide)
      have hX19_M16 : ∀ j : Nat, ((j : Int) < 11 * M 18 3 ∨ 11 * M 18 3 + 11 ≤ j) → M16 19 j = M 19 j := fun j hj => (hpx17_1 j (by omega)).trans (hX19_M10 j hj)
      have hvx17 : 0 ≤ x11 ∧ x11 < 250 → M16 19 (x11 * 11 + 4 : Int).toNat = a1 := fun h9 => hpx17_0 ⟨h9, by omega⟩
      show zG n (0, 0) d 135 (44, [.inr (.inr (some 8)), .inl a1, .inl a2, .inl a3, .inl x11], []) M16 _
      refine zG_blk (c' := (46, [.inr (.inr (some 8)), .inl a1, .inl a2, .inl a3, .inl x11], [.inl x11])) 1 hd0 hz (by rfl) ?_
      exact zG_ret hd0 hz rfl rfl ⟨⟨hCM16, hWM16⟩, _, rfl, by omega, by omega, hX19_M16⟩
    · exact j17 (by omega)
