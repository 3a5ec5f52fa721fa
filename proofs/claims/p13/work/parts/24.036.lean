theorem qm_21_9 {n d : Nat} {M : zM} (hd : 4 ≤ d) (hC : qCI M) (a1 : Int) (ha1 : (-2147483648) ≤ a1 ∧ a1 ≤ 2147483647) : qOkP n d 21 [.inr (.inr (some 9)), .inl a1] 2 M (qRi (fun x => (-2147483648) ≤ x ∧ x ≤ 2147483647)) := by
  have hz := zp_21
  have hd0 : 0 < d := by omega
  show zG n (0, 0) d 21 (0, [.inr (.inr (some 9)), .inl a1], []) M _
  refine zG_blk (c' := (1, [.inr (.inr (some 9)), .inl a1], [.inl a1])) 1 hd0 hz (by rfl) ?_
  have j44 : zG n (0, 0) d 21 (44, [.inr (.inr (some 9)), .inl a1], []) M (fun v M' => M' = M ∧ qRi (fun x => (-2147483648) ≤ x ∧ x ≤ 2147483647) v) := by
    refine zG_blk (c' := (48, [.inr (.inr (some 9)), .inl a1], [.inr (.inr (some 10))])) 2 hd0 hz (by rfl) ?_
    refine zG_call hd0 hz zp_101 rfl rfl (Nat.le_of_ble_eq_true rfl) ⟨Nat.le_refl _, Nat.le_refl _⟩ (qw_size (by first | exact zdp hd (by decide) | omega) hC (⟨by decide, rfl, rfl⟩ : qT n 10 14 4) ) (fun vr M1 hr => ?_)
    obtain ⟨hq, x2, rfl, hx2⟩ := hr
    replace hq := hq.symm; subst hq
    show zG n (0, 0) d 21 (51, [.inr (.inr (some 9)), .inl a1], [.inl x2]) M _
    exact zG_ret hd0 hz rfl rfl ⟨rfl, _, rfl, by omega⟩
  have j52 : zG n (0, 0) d 21 (52, [.inr (.inr (some 9)), .inl a1], []) M (fun v M' => M' = M ∧ qRi (fun x => (-2147483648) ≤ x ∧ x ≤ 2147483647) v) := by
    refine zG_blk (c' := (56, [.inr (.inr (some 9)), .inl a1], [.inr (.inr (some 12))])) 2 hd0 hz (by rfl) ?_
    refine zG_call hd0 hz zp_101 rfl rfl (Nat.le_of_ble_eq_true rfl) ⟨Nat.le_refl _, Nat.le_refl _⟩ (qw_size (by first | exact zdp hd (by decide) | omega) hC (⟨by decide, rfl, rfl⟩ : qT n 12 20 3) ) (fun vr M3 hr => ?_)
    obtain ⟨hq, x4, rfl, hx4⟩ := hr
    replace hq := hq.symm; subst hq
    show zG n (0, 0) d 21 (59, [.inr (.inr (some 9)), .inl a1], [.inl x4]) M _
    exact zG_ret hd0 hz rfl rfl ⟨rfl, _, rfl, by omega⟩
  have j60 : zG n (0, 0) d 21 (60, [.inr (.inr (some 9)), .inl a1], []) M (fun v M' => M' = M ∧ qRi (fun x => (-2147483648) ≤ x ∧ x ≤ 2147483647) v) := by
    refine zG_blk (c' := (64, [.inr (.inr (some 9)), .inl a1], [.inr (.inr (some 14))])) 2 hd0 hz (by rfl) ?_
    refine zG_call hd0 hz zp_101 rfl rfl (Nat.le_of_ble_eq_true rfl) ⟨Nat.le_refl _, Nat.le_refl _⟩ (qw_size (by first | exact zdp hd (by decide) | omega) hC (⟨by decide, rfl, rfl⟩ : qT n 14 4 2) ) (fun vr M5 hr => ?_)
    obtain ⟨hq, x6, rfl, hx6⟩ := hr
    replace hq := hq.symm; subst hq
    show zG n (0, 0) d 21 (67, [.inr (.inr (some 9)), .inl a1], [.inl x6]) M _
    exact zG_ret hd0 hz rfl rfl ⟨rfl, _, rfl, by omega⟩
  have j68 : zG n (0, 0) d 21 (68, [.inr (.inr (some 9)), .inl a1], []) M (fun v M' => M' = M ∧ qRi (fun x => (-2147483648) ≤ x ∧ x ≤ 2147483647) v) := by
    refine zG_blk (c' := (72, [.inr (.inr (some 9)), .inl a1], [.inr (.inr (some 16))])) 2 hd0 hz (by rfl) ?_
    refine zG_call hd0 hz zp_101 rfl rfl (Nat.le_of_ble_eq_true rfl) ⟨Nat.le_refl _, Nat.le_refl _⟩ (qw_size (by first | exact zdp hd (by decide) | omega) hC (⟨by decide, rfl, rfl⟩ : qT n 16 40 5) ) (fun vr M7 hr => ?_)
    obtain ⟨hq, x8, rfl, hx8⟩ := hr
    replace hq := hq.symm; subst hq
    show zG n (0, 0) d 21 (75, [.inr (.inr (some 9)), .inl a1], [.inl x8]) M _
    exact zG_ret hd0 hz rfl rfl ⟨rfl, _, rfl, by omega⟩
  have j76 : zG n (0, 0) d 21 (76, [.inr (.inr (some 9)), .inl a1], []) M (fun v M' => M' = M ∧ qRi (fun x => (-2147483648) ≤ x ∧ x ≤ 2147483647) v) := by
    refine zG_blk (c' := (80, [.inr (.inr (some 9)), .inl a1], [.inr (.inr (some 18))])) 2 hd0 hz (by rfl) ?_
    refine zG_call hd0 hz zp_101 rfl rfl (Nat.le_of_ble_eq_true rfl) ⟨Nat.le_refl _, Nat.le_refl _⟩ (qw_size (by first | exact zdp hd (by decide) | omega) hC (⟨by decide, rfl, rfl⟩ : qT n 18 250 11) ) (fun vr M9 hr => ?_)
    obtain ⟨hq, x10, rfl, hx10⟩ := hr
    replace hq := hq.symm; subst hq
    show zG n (0, 0) d 21 (83, [.inr (.inr (some 9)), .inl a1], [.inl x10]) M _
    exact zG_ret hd0 hz rfl rfl ⟨rfl, _, rfl, by omega⟩
  have j84 : zG n (0, 0) d 21 (84, [.inr (.inr (some 9)), .inl a1], []) M (fun v M' => M' = M ∧ qRi (fun x => (-2147483648) ≤ x ∧ x ≤ 2147483647) v) := by
    refine zG_blk (c' := (88, [.inr (.inr (some 9)), .inl a1], [.inr (.inr (some 22))])) 2 hd0 hz (by rfl) ?_
    refine zG_call hd0 hz zp_101 rfl rfl (Nat.le_of_ble_eq_true rfl) ⟨Nat.le_refl _, Nat.le_refl _⟩ (qw_size (by first | exact zdp hd (by decide) | omega) hC (⟨by decide, rfl, rfl⟩ : qT n 22 10 164) ) (fun vr M11 hr => ?_)
    obtain ⟨hq, x12, rfl, hx12⟩ := hr
    replace hq := hq.symm; subst hq
    show zG n (0, 0) d 21 (91, [.inr (.inr (some 9)), .inl a1], [.inl x12]) M _
    exact zG_ret hd0 hz rfl rfl ⟨rfl, _, rfl, by omega⟩
  have j92 : zG n (0, 0) d 21 (92, [.inr (.inr (some 9)), .inl a1], []) M (fun v M' => M' = M ∧ qRi (fun x => (-2147483648) ≤ x ∧ x ≤ 2147483647) v) := by
    refine zG_blk (c' := (96, [.inr (.inr (some 9)), .inl a1], [.inr (.inr (some 24))])) 2 hd0 hz (by rfl) ?_
    refine zG_call hd0 hz zp_101 rfl rfl (Nat.le_of_ble_eq_true rfl) ⟨Nat.le_refl _, Nat.le_refl _⟩ (qw_size (by first | exact zdp hd (by decide) | omega) hC (⟨by decide, rfl, rfl⟩ : qT n 24 12 2) ) (fun vr M13 hr => ?_)
    obtain ⟨hq, x14, rfl, hx14⟩ := hr
    replace hq := hq.symm; subst hq
    show zG n (0, 0) d 21 (99, [.inr (.inr (some 9)), .inl a1], [.inl x14]) M _
    exact zG_ret hd0 hz rfl rfl ⟨rfl, _, rfl, by omega⟩
  have j100 : zG n (0, 0) d 21 (100, [.inr (.inr (some 9)), .inl a1], []) M (fun v M' => M' = M ∧ qRi (fun x => (-2147483648) ≤ x ∧ x ≤ 2147483647) v) := by
    refine zG_blk (c' := (101, [.inr (.inr (some 9)), .inl a1], [.inr (.inr (some 9))])) 1 hd0 hz (by rfl) ?_
    refine zG_call hd0 hz zp_22 rfl rfl (Nat.le_of_ble_eq_true rfl) ⟨Nat.le_refl _, Nat.le_refl _⟩ (qm_22_9 (by first | exact zdp hd (by decide) | omega) hC  ) (fun vr M15 hr => ?_)
    obtain ⟨hq, x16, rfl, hx16⟩ := hr
    replace hq := hq.symm; subst hq
    show zG n (0, 0) d 21 (104, [.inr (.inr (some 9)), .inl a1], [.inl x16]) M _
    exact zG_ret hd0 hz rfl rfl ⟨rfl, _, rfl, by omega⟩
  refine zG_sw hd0 hz rfl ?_
  refine zts_all (P := fun t => zG n (0, 0) d 21 (t, [.inr (.inr (some 9)), .inl a1], []) M _) ?_ ?_
  · exact j100
  · intro t ht
    simp only [List.mem_cons, List.not_mem_nil, or_false] at ht
    rcases ht with rfl | rfl | rfl | rfl | rfl | rfl | rfl
    · exact j44
    · exact j52
    · exact j60
    · exact j68
    · exact j76
    · exact j84
    · exact j92
theorem qm_167_8 {n d : Nat} {M : zM} (hd : 5 ≤ d) (hC : qCI M) (a1 : Int) (ha1 : (-2147483648) ≤ a1 ∧ a1 ≤ 2147483647) : qOkP n d 167 [.inr (.inr (some 8)), .inl a1] 2 M (qRi (fun x => (-2147483648) ≤ x ∧ x ≤ 2147483647)) := by
  have hz := zp_167
  have hd0 : 0 < d := by omega
  show zG n (0, 0) d 167 (0, [.inr (.inr (some 8)), .inl a1], []) M _
  refine zG_blk (c' := (4, [.inr (.inr (some 8)), .inl a1], [.inl 7, .inl 0, .inl a1])) 3 hd0 hz (by rfl) ?_
  refine zG_call hd0 hz zp_169 rfl rfl (Nat.le_of_ble_eq_true rfl) ⟨Nat.le_refl _, Nat.le_refl _⟩ (qm_169 (by first | exact zdp hd (by decide) | omega) hC  a1 (by first | with_reducible exact ha1 | omega) 0 (by first | decide | omega) 7 (by first | decide | omega)) (fun vr M1 hr => ?_)
  obtain ⟨hq, x2, rfl, hx2⟩ := hr
  replace hq := hq.symm; subst hq
  show zG n (0, 0) d 167 (7, [.inr (.inr (some 8)), .inl a1], [.inl x2]) M _
  have j23 : ∀ (v3 : Int) , (-2147483648) ≤ v3 ∧ v3 ≤ 2147483647 → zG n (0, 0) d 167 (23, [.inr (.inr (some 8)), .inl a1], [.inl v3]) M (fun v M' => M' = M ∧ qRi (fun x => (-2147483648) ≤ x ∧ x ≤ 2147483647) v) := by
    intro v3 hv3
    exact zG_ret hd0 hz rfl rfl ⟨rfl, _, rfl, by omega⟩
  refine zG_if_eq hd0 hz rfl (fun hb4 => ?_) (fun hb4 => ?_)
  · refine zG_blk (c' := (23, [.inr (.inr (some 8)), .inl a1], [.inl (-2)])) 1 hd0 hz (by rfl) ?_
    exact j23 (-2) (by first | decide | omega)
  · refine zG_blk (c' := (15, [.inr (.inr (some 8)), .inl a1], [.inl a1, .inr (.inr (some 9))])) 3 hd0 hz (by rfl) ?_
    refine zG_call hd0 hz zp_21 rfl rfl (Nat.le_of_ble_eq_true rfl) ⟨Nat.le_refl _, Nat.le_refl _⟩ (qm_21_9 (by first | exact zdp hd (by decide) | omega) hC  a1 (by first | with_reducible exact ha1 | omega)) (fun vr M5 hr => ?_)
    obtain ⟨hq, x6, rfl, hx6⟩ := hr
    replace hq := hq.symm; subst hq
    show zG n (0, 0) d 167 (18, [.inr (.inr (some 8)), .inl a1], [.inl x6]) M _
    refine zG_blk (c' := (23, [.inr (.inr (some 8)), .inl a1], [.inl x6])) 1 hd0 hz (by rfl) ?_
    exact j23 x6 (by omega)
theorem qm_24_10 {n d : Nat} {M : zM} (hd : 2 ≤ d) (hC : qCI M) (a0 : Int) (a2 : Int) (ha2 : (-2147483648) ≤ a2 ∧ a2 ≤ 2147483647) : qOkP n d 24 [.inr (.inl (a0)), .inr (.inr (some 10)), .inl a2] 8 M qRl := by
  have hz := zp_24
  have hd0 : 0 < d := by omega
  show zG n (0, 0) d 24 (0, [.inr (.inl (a0)), zN, .inr (.inr (some 10)), .inl a2, zN, zN, zN, zN], []) M _
  refine zG_blk (c' := (6, [.inr (.inl (a0)), zN, .inr (.inr (some 10)), .inl a2, .inr (.inl (a0)), zN, .inl 0, zN], [])) 4 hd0 hz (by rfl) ?_
  have j6 : ∀ (N : Nat) (v1 v2 : Int) , (1000 - v2 : Int).toNat < N → 0 ≤ v2 ∧ v2 ≤ 14 → zG n (0, 0) d 24 (6, [.inr (.inl (a0)), zN, .inr (.inr (some 10)), .inl a2, .inr (.inl (v1)), zN, .inl v2, zN], []) M (fun v M' => M' = M ∧ qRl v) := by
    intro N
    induction N with
    | zero => intro v1 v2 hN hv2; exact absurd hN (Nat.not_lt_zero _)
    | succ N ih6 =>
      intro v1 v2 hN hv2
      refine zG_blk (c' := (9, [.inr (.inl (a0)), zN, .inr (.inr (some 10)), .inl a2, .inr (.inl (v1)), zN, .inl v2, zN], [.inr (.inr (some 10)), .inl v2])) 2 hd0 hz (by rfl) ?_
      refine zG_call hd0 hz zp_101 rfl rfl (Nat.le_of_ble_eq_true rfl) ⟨Nat.le_refl _, Nat.le_refl _⟩ (qw_size (by first | exact zdp hd (by decide) | omega) hC (⟨by decide, rfl, rfl⟩ : qT n 10 14 4) ) (fun vr M3 hr => ?_)
      obtain ⟨hq, x4, rfl, hx4⟩ := hr
      replace hq := hq.symm; subst hq
      show zG n (0, 0) d 24 (12, [.inr (.inl (a0)), zN, .inr (.inr (some 10)), .inl a2, .inr (.inl (v1)), zN, .inl v2, zN], [.inl x4, .inl v2]) M _
      refine zG_icmp_ge hd0 hz rfl (fun hb5 => ?_) (fun hb5 => ?_)
      · refine zG_blk (c' := (56, [.inr (.inl (a0)), zN, .inr (.inr (some 10)), .inl a2, .inr (.inl (v1)), zN, .inl v2, zN], [.inr (.inl (v1))])) 1 hd0 hz (by rfl) ?_
        exact zG_ret hd0 hz rfl rfl ⟨rfl, _, rfl⟩
      · refine zG_blk (c' := (18, [.inr (.inl (a0)), zN, .inr (.inr (some 10)), .inl a2, .inr (.inl (v1)), zN, .inl v2, .inl 0], [])) 2 hd0 hz (by rfl) ?_
        have j18 : ∀ (N : Nat) (v6 v7 : Int) , (a2 - v7 : Int).toNat < N → 0 ≤ v7 ∧ v7 ≤ 2147483647 → zG n (0, 0) d 24 (18, [.inr (.inl (a0)), zN, .inr (.inr (some 10)), .inl a2, .inr (.inl (v6)), zN, .inl v2, .inl v7], []) M (fun v M' => M' = M ∧ qRl v) := by
          intro N
          induction N with
          | zero => intro v6 v7 hN hv7; exact absurd hN (Nat.not_lt_zero _)
          | succ N ih18 =>
            intro v6 v7 hN hv7
            refine zG_blk (c' := (21, [.inr (.inl (a0)), zN, .inr (.inr (some 10)), .inl a2, .inr (.inl (v6)), zN, .inl v2, .inl v7], [.inl a2, .inl v7])) 2 hd0 hz (by rfl) ?_
            refine zG_icmp_ge hd0 hz rfl (fun hb8 => ?_) (fun hb8 => ?_)
            · obtain ⟨x9, hx9⟩ : ∃ x : Int, x = w32 (v2 + 1) := ⟨_, rfl⟩
              have hx9e : x9 = v2 + 1 := by rw [hx9]; exact w32_id (by omega)
              refine zG_blk (c' := (6, [.inr (.inl (a0)), zN, .inr (.inr (some 10)), .inl a2, .inr (.inl (v6)), zN, .inl x9, .inl v7], [])) 2 hd0 hz (by subst hx9; rfl) ?_
              exact zG_weak (ih6 v6 x9 (by omega) (by omega)) ⟨.inr rfl, .inr rfl, .inr rfl, .inr rfl, .inr rfl, .inr rfl, .inr rfl, .inl rfl, trivial⟩
            · obtain ⟨x10, hx10⟩ : ∃ x : Int, x = w64 (31 * v6) := ⟨_, rfl⟩
              refine zG_blk (c' := (35, [.inr (.inl (a0)), zN, .inr (.inr (some 10)), .inl a2, .inr (.inl (v6)), zN, .inl v2, .inl v7], [.inl v7, .inl v2, .inr (.inr (some 10)), .inr (.inl (x10))])) 6 hd0 hz (by subst hx10; rfl) ?_
              refine zG_call hd0 hz zp_106 rfl rfl (Nat.le_of_ble_eq_true rfl) ⟨Nat.le_refl _, Nat.le_refl _⟩ (qw_get (by first | exact zdp hd (by decide) | omega) hC (⟨by decide, rfl, rfl⟩ : qT n 10 14 4) v2 (by first | with_reducible exact hv2 | omega) v7 (by first | with_reducible exact hv7 | omega)) (fun vr M11 hr => ?_)
              obtain ⟨hq, x12, rfl, hx12⟩ := hr
              replace hq := hq.symm; subst hq
              show zG n (0, 0) d 24 (38, [.inr (.inl (a0)), zN, .inr (.inr (some 10)), .inl a2, .inr (.inl (v6)), zN, .inl v2, .inl v7], [.inl x12, .inr (.inl (x10))]) M _
              obtain ⟨x13, hx13⟩ : ∃ x : Int, x = w64 (x10 + x12) := ⟨_, rfl⟩
              obtain ⟨x14, hx14⟩ : ∃ x : Int, x = w32 (v7 + 1) := ⟨_, rfl⟩
              have hx14e : x14 = v7 + 1 := by rw [hx14]; exact w32_id (by omega)
              refine zG_blk (c' := (18, [.inr (.inl (a0)), zN, .inr (.inr (some 10)), .inl a2, .inr (.inl (x13)), zN, .inl v2, .inl x14], [])) 5 hd0 hz (by subst hx14; subst hx13; rfl) ?_
              exact ih18 x13 x14 (by omega) (by omega)
        exact j18 ((a2 - 0 : Int).toNat + 1) v1 0 (by first | decide | omega) (by omega)
  exact j6 ((1000 - 0 : Int).toNat + 1) a0 0 (by first | decide | omega) (by omega)
theorem qm_24_12 {n d : Nat} {M : zM} (hd : 2 ≤ d) (hC : qCI M) (a0 : Int) (a2 : Int) (ha2 : (-2147483648) ≤ a2 ∧ a2 ≤ 2147483647) : qOkP n d 24 [.inr (.inl (a0)), .inr (.inr (some 12)), .inl a2] 8 M qRl := by
  have hz := zp_24
  have hd0 : 0 < d := by omega
  show zG n (0, 0) d 24 (0, [.inr (.inl (a0)), zN, .inr (.inr (some 12)), .inl a2, zN, zN, zN, zN], []) M _
  refine zG_blk (c' := (6, [.inr (.inl (a0)), zN, .inr (.inr (some 12)), .inl a2, .inr (.inl (a0)), zN, .inl 0, zN], [])) 4 hd0 hz (by rfl) ?_
  have j6 : ∀ (N : Nat) (v1 v2 : Int) , (1000 - v2 : Int).toNat < N → 0 ≤ v2 ∧ v2 ≤ 20 → zG n (0, 0) d 24 (6, [.inr (.inl (a0)), zN, .inr (.inr (some 12)), .inl a2, .inr (.inl (v1)), zN, .inl v2, zN], []) M (fun v M' => M' = M ∧ qRl v) := by
    intro N
    induction N with
    | zero => intro v1 v2 hN hv2; exact absurd hN (Nat.not_lt_zero _)
    | succ N ih6 =>
      intro v1 v2 hN hv2
      refine zG_blk (c' := (9, [.inr (.inl (a0)), zN, .inr (.inr (some 12)), .inl a2, .inr (.inl (v1)), zN, .inl v2, zN], [.inr (.inr (some 12)), .inl v2])) 2 hd0 hz (by rfl) ?_
      refine zG_call hd0 hz zp_101 rfl rfl (Nat.le_of_ble_eq_true rfl) ⟨Nat.le_refl _, Nat.le_refl _⟩ (qw_size (by first | exact zdp hd (by decide) | omega) hC (⟨by decide, rfl, rfl⟩ : qT n 12 20 3) ) (fun vr M3 hr => ?_)
      obtain ⟨hq, x4, rfl, hx4⟩ := hr
      replace hq := hq.symm; subst hq
      show zG n (0, 0) d 24 (12, [.inr (.inl (a0)), zN, .inr (.inr (some 12)), .inl a2, .inr (.inl (v1)), zN, .inl v2, zN], [.inl x4, .inl v2]) M _
      refine zG_icmp_ge hd0 hz rfl (fun hb5 => ?_) (fun hb5 => ?_)
      · refine zG_blk (c' := (56, [.inr (.inl (a0)), zN, .inr (.inr (some 12)), .inl a2, .inr (.inl (v1)), zN, .inl v2, zN], [.inr (.inl (v1))])) 1 hd0 hz (by rfl) ?_
        exact zG_ret hd0 hz rfl rfl ⟨rfl, _, rfl⟩
      · refine zG_blk (c' := (18, [.inr (.inl (a0)), zN, .inr (.inr (some 12)), .inl a2, .inr (.inl (v1)), zN, .inl v2, .inl 0], [])) 2 hd0 hz (by rfl) ?_
        have j18 : ∀ (N : Nat) (v6 v7 : Int) , (a2 - v7 : Int).toNat < N → 0 ≤ v7 ∧ v7 ≤ 2147483647 → zG n (0, 0) d 24 (18, [.inr (.inl (a0)), zN, .inr (.inr (some 12)), .inl a2, .inr (.inl (v6)), zN, .inl v2, .inl v7], []) M (fun v M' => M' = M ∧ qRl v) := by
          intro N
          induction N with
          | zero => intro v6 v7 hN hv7; exact absurd hN (Nat.not_lt_zero _)
          | succ N ih18 =>
            intro v6 v7 hN hv7
            refine zG_blk (c' := (21, [.inr (.inl (a0)), zN, .inr (.inr (some 12)), .inl a2, .inr (.inl (v6)), zN, .inl v2, .inl v7], [.inl a2, .inl v7])) 2 hd0 hz (by rfl) ?_
            refine zG_icmp_ge hd0 hz rfl (fun hb8 => ?_) (fun hb8 => ?_)
            · obtain ⟨x9, hx9⟩ : ∃ x : Int, x = w32 (v2 + 1) := ⟨_, rfl⟩
              have hx9e : x9 = v2 + 1 := by rw [hx9]; exact w32_id (by omega)
              refine zG_blk (c' := (6, [.inr (.inl (a0)), zN, .inr (.inr (some 12)), .inl a2, .inr (.inl (v6)), zN, .inl x9, .inl v7], [])) 2 hd0 hz (by subst hx9; rfl) ?_
              exact zG_weak (ih6 v6 x9 (by omega) (by omega)) ⟨.inr rfl, .inr rfl, .inr rfl, .inr rfl, .inr rfl, .inr rfl, .inr rfl, .inl rfl, trivial⟩
            · obtain ⟨x10, hx10⟩ : ∃ x : Int, x = w64 (31 * v6) := ⟨_, rfl⟩
              refine zG_blk (c' := (35, [.inr (.inl (a0)), zN, .inr (.inr (some 12)), .inl a2, .inr (.inl (v6)), zN, .inl v2, .inl v7], [.inl v7, .inl v2, .inr (.inr (some 12)), .inr (.inl (x10))])) 6 hd0 hz (by subst hx10; rfl) ?_
              refine zG_call hd0 hz zp_106 rfl rfl (Nat.le_of_ble_eq_true rfl) ⟨Nat.le_refl _, Nat.le_refl _⟩ (qw_get (by first | exact zdp hd (by decide) | omega) hC (⟨by decide, rfl, rfl⟩ : qT n 12 20 3) v2 (by first | with_reducible exact hv2 | omega) v7 (by first | with_reducible exact hv7 | omega)) (fun vr M11 hr => ?_)
              obtain ⟨hq, x12, rfl, hx12⟩ := hr
              replace hq := hq.symm; subst hq
              show zG n (0, 0) d 24 (38, [.inr (.inl (a0)), zN, .inr (.inr (some 12)), .inl a2, .inr (.inl (v6)), zN, .inl v2, .inl v7], [.inl x12, .inr (.inl (x10))]) M _
              obtain ⟨x13, hx13⟩ : ∃ x : Int, x = w64 (x10 + x12) := ⟨_, rfl⟩
              obtain ⟨x14, hx14⟩ : ∃ x : Int, x = w32 (v7 + 1) := ⟨_, rfl⟩
              have hx14e : x14 = v7 + 1 := by rw [hx14]; exact w32_id (by omega)
              refine zG_blk (c' := (18, [.inr (.inl (a0)), zN, .inr (.inr (some 12)), .inl a2, .inr (.inl (x13)), zN, .inl v2, .inl x14], [])) 5 hd0 hz (by subst hx14; subst hx13; rfl) ?_
              exact ih18 x13 x14 (by omega) (by omega)
        exact j18 ((a2 - 0 : Int).toNat + 1) v1 0 (by first | decide | omega) (by omega)
  exact j6 ((1000 - 0 : Int).toNat + 1) a0 0 (by first | decide | omega) (by omega)
theorem qm_24_16 {n d : Nat} {M : zM} (hd : 2 ≤ d) (hC : qCI M) (a0 : Int) (a2 : Int) (ha2 : (-2147483648) ≤ a2 ∧ a2 ≤ 2147483647) : qOkP n d 24 [.inr (.inl (a0)), .inr (.inr (some 16)), .inl a2] 8 M qRl := by
  have hz := zp_24
  have hd0 : 0 < d := by omega
  show zG n (0, 0) d 24 (0, [.inr (.inl (a0)), zN, .inr (.inr (some 16)), .inl a2, zN, zN, zN, zN], []) M _
  refine zG_blk (c' := (6, [.inr (.inl (a0)), zN, .inr (.inr (some 16)), .inl a2, .inr (.inl (a0)), zN, .inl 0, zN], [])) 4 hd0 hz (by rfl) ?_
  have j6 : ∀ (N : Nat) (v1 v2 : Int) , (1000 - v2 : Int).toNat < N → 0 ≤ v2 ∧ v2 ≤ 40 → zG n (0, 0) d 24 (6, [.inr (.inl (a0)), zN, .inr (.inr (some 16)), .inl a2, .inr (.inl (v1)), zN, .inl v2, zN], []) M (fun v M' => M' = M ∧ qRl v) := by
    intro N
    induction N with
    | zero => intro v1 v2 hN hv2; exact absurd hN (Nat.not_lt_zero _)
    | succ N ih6 =>
      intro v1 v2 hN hv2
      refine zG_blk (c' := (9, [.inr (.inl (a0)), zN, .inr (.inr (some 16)), .inl a2, .inr (.inl (v1)), zN, .inl v2, zN], [.inr (.inr (some 16)), .inl v2])) 2 hd0 hz (by rfl) ?_
      refine zG_call hd0 hz zp_101 rfl rfl (Nat.le_of_ble_eq_true rfl) ⟨Nat.le_refl _, Nat.le_refl _⟩ (qw_size (by first | exact zdp hd (by decide) | omega) hC (⟨by decide, rfl, rfl⟩ : qT n 16 40 5) ) (fun vr M3 hr => ?_)
      obtain ⟨hq, x4, rfl, hx4⟩ := hr
      replace hq := hq.symm; subst hq
      show zG n (0, 0) d 24 (12, [.inr (.inl (a0)), zN, .inr (.inr (some 16)), .inl a2, .inr (.inl (v1)), zN, .inl v2, zN], [.inl x4, .inl v2]) M _
      refine zG_icmp_ge hd0 hz rfl (fun hb5 => ?_) (fun hb5 => ?_)
      · refine zG_blk (c' := (56, [.inr (.inl (a0)), zN, .inr (.inr (some 16)), .inl a2, .inr (.inl (v1)), zN, .inl v2, zN], [.inr (.inl (v1))])) 1 hd0 hz (by rfl) ?_
        exact zG_ret hd0 hz rfl rfl ⟨rfl, _, rfl⟩
      · refine zG_blk (c' := (18, [.inr (.inl (a0)), zN, .inr (.inr (some 16)), .inl a2, .inr (.inl (v1)), zN, .inl v2, .inl 0], [])) 2 hd0 hz (by rfl) ?_
        have j18 : ∀ (N : Nat) (v6 v7 : Int) , (a2 - v7 : Int).toNat < N → 0 ≤ v7 ∧ v7 ≤ 2147483647 → zG n (0, 0) d 24 (18, [.inr (.inl (a0)), zN, .inr (.inr (some 16)), .inl a2, .inr (.inl (v6)), zN, .inl v2, .inl v7], []) M (fun v M' => M' = M ∧ qRl v) := by
          intro N
          induction N with
          | zero => intro v6 v7 hN hv7; exact absurd hN (Nat.not_lt_zero _)
          | succ N ih18 =>
            intro v6 v7 hN hv7
            refine zG_blk (c' := (21, [.inr (.inl (a0)), zN, .inr (.inr (some 16)), .inl a2, .inr (.inl (v6)), zN, .inl v2, .inl v7], [.inl a2, .inl v7])) 2 hd0 hz (by rfl) ?_
            refine zG_icmp_ge hd0 hz rfl (fun hb8 => ?_) (fun hb8 => ?_)
            · obtain ⟨x9, hx9⟩ : ∃ x : Int, x = w32 (v2 + 1) := ⟨_, rfl⟩
              have hx9e : x9 = v2 + 1 := by rw [hx9]; exact w32_id (by omega)
              refine zG_blk (c' := (6, [.inr (.inl (a0)), zN, .inr (.inr (some 16)), .inl a2, .inr (.inl (v6)), zN, .inl x9, .inl v7], [])) 2 hd0 hz (by subst hx9; rfl) ?_
              exact zG_weak (ih6 v6 x9 (by omega) (by omega)) ⟨.inr rfl, .inr rfl, .inr rfl, .inr rfl, .inr rfl, .inr rfl, .inr rfl, .inl rfl, trivial⟩
            · obtain ⟨x10, hx10⟩ : ∃ x : Int, x = w64 (31 * v6) := ⟨_, rfl⟩
              refine zG_blk (c' := (35, [.inr (.inl (a0)), zN, .inr (.inr (some 16)), .inl a2, .inr (.inl (v6)), zN, .inl v2, .inl v7], [.inl v7, .inl v2, .inr (.inr (some 16)), .inr (.inl (x10))])) 6 hd0 hz (by subst hx10; rfl) ?_
              refine zG_call hd0 hz zp_106 rfl rfl (Nat.le_of_ble_eq_true rfl) ⟨Nat.le_refl _, Nat.le_refl _⟩ (qw_get (by first | exact zdp hd (by decide) | omega) hC (⟨by decide, rfl, rfl⟩ : qT n 16 40 5) v2 (by first | with_reducible exact hv2 | omega) v7 (by first | with_reducible exact hv7 | omega)) (fun vr M11 hr => ?_)
              obtain ⟨hq, x12, rfl, hx12⟩ := hr
              replace hq := hq.symm; subst hq
              show zG n (0, 0) d 24 (38, [.inr (.inl (a0)), zN, .inr (.inr (some 16)), .inl a2, .inr (.inl (v6)), zN, .inl v2, .inl v7], [.inl x12, .inr (.inl (x10))]) M _
              obtain ⟨x13, hx13⟩ : ∃ x : Int, x = w64 (x10 + x12) := ⟨_, rfl⟩
              obtain ⟨x14, hx14⟩ : ∃ x : Int, x = w32 (v7 + 1) := ⟨_, rfl⟩
              have hx14e : x14 = v7 + 1 := by rw [hx14]; exact w32_id (by omega)
              refine zG_blk (c' := (18, [.inr (.inl (a0)), zN, .inr (.inr (some 16)), .inl a2, .inr (.inl (x13)), zN, .inl v2, .inl x14], [])) 5 hd0 hz (by subst hx14; subst hx13; rfl) ?_
              exact ih18 x13 x14 (by omega) (by omega)
        exact j18 ((a2 - 0 : Int).toNat + 1) v1 0 (by first | decide | omega) (by omega)
  exact j6 ((1000 - 0 : Int).toNat + 1) a0 0 (by first | decide | omega) (by omega)
