theorem qm_24_18 {n d : Nat} {M : zM} (hd : 2 ≤ d) (hC : qCI M) (a0 : Int) (a2 : Int) (ha2 : (-2147483648) ≤ a2 ∧ a2 ≤ 2147483647) : qOkP n d 24 [.inr (.inl (a0)), .inr (.inr (some 18)), .inl a2] 8 M qRl := by
  have hz := zp_24
  have hd0 : 0 < d := by omega
  show zG n (0, 0) d 24 (0, [.inr (.inl (a0)), zN, .inr (.inr (some 18)), .inl a2, zN, zN, zN, zN], []) M _
  refine zG_blk (c' := (6, [.inr (.inl (a0)), zN, .inr (.inr (some 18)), .inl a2, .inr (.inl (a0)), zN, .inl 0, zN], [])) 4 hd0 hz (by rfl) ?_
  have j6 : ∀ (N : Nat) (v1 v2 : Int) , (1000 - v2 : Int).toNat < N → 0 ≤ v2 ∧ v2 ≤ 250 → zG n (0, 0) d 24 (6, [.inr (.inl (a0)), zN, .inr (.inr (some 18)), .inl a2, .inr (.inl (v1)), zN, .inl v2, zN], []) M (fun v M' => M' = M ∧ qRl v) := by
    intro N
    induction N with
    | zero => intro v1 v2 hN hv2; exact absurd hN (Nat.not_lt_zero _)
    | succ N ih6 =>
      intro v1 v2 hN hv2
      refine zG_blk (c' := (9, [.inr (.inl (a0)), zN, .inr (.inr (some 18)), .inl a2, .inr (.inl (v1)), zN, .inl v2, zN], [.inr (.inr (some 18)), .inl v2])) 2 hd0 hz (by rfl) ?_
      refine zG_call hd0 hz zp_101 rfl rfl (Nat.le_of_ble_eq_true rfl) ⟨Nat.le_refl _, Nat.le_refl _⟩ (qw_size (by first | exact zdp hd (by decide) | omega) hC (⟨by decide, rfl, rfl⟩ : qT n 18 250 11) ) (fun vr M3 hr => ?_)
      obtain ⟨hq, x4, rfl, hx4⟩ := hr
      replace hq := hq.symm; subst hq
      show zG n (0, 0) d 24 (12, [.inr (.inl (a0)), zN, .inr (.inr (some 18)), .inl a2, .inr (.inl (v1)), zN, .inl v2, zN], [.inl x4, .inl v2]) M _
      refine zG_icmp_ge hd0 hz rfl (fun hb5 => ?_) (fun hb5 => ?_)
      · refine zG_blk (c' := (56, [.inr (.inl (a0)), zN, .inr (.inr (some 18)), .inl a2, .inr (.inl (v1)), zN, .inl v2, zN], [.inr (.inl (v1))])) 1 hd0 hz (by rfl) ?_
        exact zG_ret hd0 hz rfl rfl ⟨rfl, _, rfl⟩
      · refine zG_blk (c' := (18, [.inr (.inl (a0)), zN, .inr (.inr (some 18)), .inl a2, .inr (.inl (v1)), zN, .inl v2, .inl 0], [])) 2 hd0 hz (by rfl) ?_
        have j18 : ∀ (N : Nat) (v6 v7 : Int) , (a2 - v7 : Int).toNat < N → 0 ≤ v7 ∧ v7 ≤ 2147483647 → zG n (0, 0) d 24 (18, [.inr (.inl (a0)), zN, .inr (.inr (some 18)), .inl a2, .inr (.inl (v6)), zN, .inl v2, .inl v7], []) M (fun v M' => M' = M ∧ qRl v) := by
          intro N
          induction N with
          | zero => intro v6 v7 hN hv7; exact absurd hN (Nat.not_lt_zero _)
          | succ N ih18 =>
            intro v6 v7 hN hv7
            refine zG_blk (c' := (21, [.inr (.inl (a0)), zN, .inr (.inr (some 18)), .inl a2, .inr (.inl (v6)), zN, .inl v2, .inl v7], [.inl a2, .inl v7])) 2 hd0 hz (by rfl) ?_
            refine zG_icmp_ge hd0 hz rfl (fun hb8 => ?_) (fun hb8 => ?_)
            · obtain ⟨x9, hx9⟩ : ∃ x : Int, x = w32 (v2 + 1) := ⟨_, rfl⟩
              have hx9e : x9 = v2 + 1 := by rw [hx9]; exact w32_id (by omega)
              refine zG_blk (c' := (6, [.inr (.inl (a0)), zN, .inr (.inr (some 18)), .inl a2, .inr (.inl (v6)), zN, .inl x9, .inl v7], [])) 2 hd0 hz (by subst hx9; rfl) ?_
              exact zG_weak (ih6 v6 x9 (by omega) (by omega)) ⟨.inr rfl, .inr rfl, .inr rfl, .inr rfl, .inr rfl, .inr rfl, .inr rfl, .inl rfl, trivial⟩
            · obtain ⟨x10, hx10⟩ : ∃ x : Int, x = w64 (31 * v6) := ⟨_, rfl⟩
              refine zG_blk (c' := (35, [.inr (.inl (a0)), zN, .inr (.inr (some 18)), .inl a2, .inr (.inl (v6)), zN, .inl v2, .inl v7], [.inl v7, .inl v2, .inr (.inr (some 18)), .inr (.inl (x10))])) 6 hd0 hz (by subst hx10; rfl) ?_
              refine zG_call hd0 hz zp_106 rfl rfl (Nat.le_of_ble_eq_true rfl) ⟨Nat.le_refl _, Nat.le_refl _⟩ (qw_get (by first | exact zdp hd (by decide) | omega) hC (⟨by decide, rfl, rfl⟩ : qT n 18 250 11) v2 (by first | with_reducible exact hv2 | omega) v7 (by first | with_reducible exact hv7 | omega)) (fun vr M11 hr => ?_)
              obtain ⟨hq, x12, rfl, hx12⟩ := hr
              replace hq := hq.symm; subst hq
              show zG n (0, 0) d 24 (38, [.inr (.inl (a0)), zN, .inr (.inr (some 18)), .inl a2, .inr (.inl (v6)), zN, .inl v2, .inl v7], [.inl x12, .inr (.inl (x10))]) M _
              obtain ⟨x13, hx13⟩ : ∃ x : Int, x = w64 (x10 + x12) := ⟨_, rfl⟩
              obtain ⟨x14, hx14⟩ : ∃ x : Int, x = w32 (v7 + 1) := ⟨_, rfl⟩
              have hx14e : x14 = v7 + 1 := by rw [hx14]; exact w32_id (by omega)
              refine zG_blk (c' := (18, [.inr (.inl (a0)), zN, .inr (.inr (some 18)), .inl a2, .inr (.inl (x13)), zN, .inl v2, .inl x14], [])) 5 hd0 hz (by subst hx14; subst hx13; rfl) ?_
              exact ih18 x13 x14 (by omega) (by omega)
        exact j18 ((a2 - 0 : Int).toNat + 1) v1 0 (by first | decide | omega) (by omega)
  exact j6 ((1000 - 0 : Int).toNat + 1) a0 0 (by first | decide | omega) (by omega)
theorem qm_25_9 {n d : Nat} {M : zM} (hd : 2 ≤ d) (hC : qCI M) (a1 : Int) : qOkP n d 25 [.inr (.inr (some 9)), .inr (.inl (a1))] 8 M qRl := by
  have hz := zp_25
  have hd0 : 0 < d := by omega
  show zG n (0, 0) d 25 (0, [.inr (.inr (some 9)), .inr (.inl (a1)), zN, zN, zN, zN, zN, zN], []) M _
  refine zG_blk (c' := (5, [.inr (.inr (some 9)), .inr (.inl (a1)), zN, .inr (.inl (a1)), zN, .inl 0, zN, zN], [])) 4 hd0 hz (by rfl) ?_
  have j5 : ∀ (N : Nat) (v1 v2 : Int) , (8 - v2 : Int).toNat < N → 0 ≤ v2 ∧ v2 ≤ 8 → zG n (0, 0) d 25 (5, [.inr (.inr (some 9)), .inr (.inl (a1)), zN, .inr (.inl (v1)), zN, .inl v2, zN, zN], []) M (fun v M' => M' = M ∧ qRl v) := by
    intro N
    induction N with
    | zero => intro v1 v2 hN hv2; exact absurd hN (Nat.not_lt_zero _)
    | succ N ih5 =>
      intro v1 v2 hN hv2
      refine zG_blk (c' := (9, [.inr (.inr (some 9)), .inr (.inl (a1)), zN, .inr (.inl (v1)), zN, .inl v2, zN, zN], [.inl 8, .inl v2])) 2 hd0 hz (by rfl) ?_
      refine zG_icmp_ge hd0 hz rfl (fun hb3 => ?_) (fun hb3 => ?_)
      · refine zG_blk (c' := (85, [.inr (.inr (some 9)), .inr (.inl (a1)), zN, .inr (.inl (v1)), zN, .inl v2, zN, zN], [.inr (.inl (v1))])) 1 hd0 hz (by rfl) ?_
        exact zG_ret hd0 hz rfl rfl ⟨rfl, _, rfl⟩
      · refine zG_blk (c' := (19, [.inr (.inr (some 9)), .inr (.inl (a1)), zN, .inr (.inl (v1)), zN, .inl v2, zN, zN], [.inl 0, .inl v2, .inr (.inr (some 20))])) 4 hd0 hz (by rfl) ?_
        refine zG_call hd0 hz zp_106 rfl rfl (Nat.le_of_ble_eq_true rfl) ⟨Nat.le_refl _, Nat.le_refl _⟩ (qw_get (by first | exact zdp hd (by decide) | omega) hC (⟨by decide, rfl, rfl⟩ : qT n 20 8 81) v2 (by first | with_reducible exact hv2 | omega) 0 (by first | decide | omega)) (fun vr M4 hr => ?_)
        obtain ⟨hq, x5, rfl, hx5⟩ := hr
        replace hq := hq.symm; subst hq
        show zG n (0, 0) d 25 (22, [.inr (.inr (some 9)), .inr (.inl (a1)), zN, .inr (.inl (v1)), zN, .inl v2, zN, zN], [.inl x5]) M _
        obtain ⟨x6, hx6⟩ : ∃ x : Int, x = w64 (31 * v1) := ⟨_, rfl⟩
        obtain ⟨x7, hx7⟩ : ∃ x : Int, x = w64 (x6 + x5) := ⟨_, rfl⟩
        refine zG_blk (c' := (37, [.inr (.inr (some 9)), .inr (.inl (a1)), zN, .inr (.inl (x7)), zN, .inl v2, .inl x5, .inl 0], [])) 10 hd0 hz (by subst hx7; subst hx6; rfl) ?_
        have j37 : ∀ (N : Nat) (v8 v9 : Int) , (80 - v9 : Int).toNat < N → 0 ≤ v9 ∧ v9 ≤ 80 → zG n (0, 0) d 25 (37, [.inr (.inr (some 9)), .inr (.inl (a1)), zN, .inr (.inl (v8)), zN, .inl v2, .inl x5, .inl v9], []) M (fun v M' => M' = M ∧ qRl v) := by
          intro N
          induction N with
          | zero => intro v8 v9 hN hv9; exact absurd hN (Nat.not_lt_zero _)
          | succ N ih37 =>
            intro v8 v9 hN hv9
            refine zG_blk (c' := (41, [.inr (.inr (some 9)), .inr (.inl (a1)), zN, .inr (.inl (v8)), zN, .inl v2, .inl x5, .inl v9], [.inl x5, .inl v9])) 2 hd0 hz (by rfl) ?_
            have j78 : zG n (0, 0) d 25 (78, [.inr (.inr (some 9)), .inr (.inl (a1)), zN, .inr (.inl (v8)), zN, .inl v2, .inl x5, .inl v9], []) M (fun v M' => M' = M ∧ qRl v) := by
              obtain ⟨x10, hx10⟩ : ∃ x : Int, x = w32 (v2 + 1) := ⟨_, rfl⟩
              have hx10e : x10 = v2 + 1 := by rw [hx10]; exact w32_id (by omega)
              refine zG_blk (c' := (5, [.inr (.inr (some 9)), .inr (.inl (a1)), zN, .inr (.inl (v8)), zN, .inl x10, .inl x5, .inl v9], [])) 2 hd0 hz (by subst hx10; rfl) ?_
              exact zG_weak (ih5 v8 x10 (by omega) (by omega)) ⟨.inr rfl, .inr rfl, .inr rfl, .inr rfl, .inr rfl, .inr rfl, .inl rfl, .inl rfl, trivial⟩
            refine zG_icmp_ge hd0 hz rfl (fun hb11 => ?_) (fun hb11 => ?_)
            · exact j78
            · refine zG_blk (c' := (48, [.inr (.inr (some 9)), .inr (.inl (a1)), zN, .inr (.inl (v8)), zN, .inl v2, .inl x5, .inl v9], [.inl 80, .inl v9])) 2 hd0 hz (by rfl) ?_
              refine zG_icmp_ge hd0 hz rfl (fun hb12 => ?_) (fun hb12 => ?_)
              · exact j78
              · obtain ⟨x13, hx13⟩ : ∃ x : Int, x = w64 (31 * v8) := ⟨_, rfl⟩
                obtain ⟨x14, hx14⟩ : ∃ x : Int, x = w32 (1 + v9) := ⟨_, rfl⟩
                have hx14e : x14 = 1 + v9 := by rw [hx14]; exact w32_id (by omega)
                refine zG_blk (c' := (66, [.inr (.inr (some 9)), .inr (.inl (a1)), zN, .inr (.inl (v8)), zN, .inl v2, .inl x5, .inl v9], [.inl x14, .inl v2, .inr (.inr (some 20)), .inr (.inl (x13))])) 9 hd0 hz (by subst hx14; subst hx13; rfl) ?_
                refine zG_call hd0 hz zp_106 rfl rfl (Nat.le_of_ble_eq_true rfl) ⟨Nat.le_refl _, Nat.le_refl _⟩ (qw_get (by first | exact zdp hd (by decide) | omega) hC (⟨by decide, rfl, rfl⟩ : qT n 20 8 81) v2 (by first | with_reducible exact hv2 | omega) x14 (by omega)) (fun vr M15 hr => ?_)
                obtain ⟨hq, x16, rfl, hx16⟩ := hr
                replace hq := hq.symm; subst hq
                show zG n (0, 0) d 25 (69, [.inr (.inr (some 9)), .inr (.inl (a1)), zN, .inr (.inl (v8)), zN, .inl v2, .inl x5, .inl v9], [.inl x16, .inr (.inl (x13))]) M _
                obtain ⟨x17, hx17⟩ : ∃ x : Int, x = w64 (x13 + x16) := ⟨_, rfl⟩
                obtain ⟨x18, hx18⟩ : ∃ x : Int, x = w32 (v9 + 1) := ⟨_, rfl⟩
                have hx18e : x18 = v9 + 1 := by rw [hx18]; exact w32_id (by omega)
                refine zG_blk (c' := (37, [.inr (.inr (some 9)), .inr (.inl (a1)), zN, .inr (.inl (x17)), zN, .inl v2, .inl x5, .inl x18], [])) 5 hd0 hz (by subst hx18; subst hx17; rfl) ?_
                exact ih37 x17 x18 (by omega) (by omega)
        exact j37 ((80 - 0 : Int).toNat + 1) x7 0 (by first | decide | omega) (by omega)
  exact j5 ((8 - 0 : Int).toNat + 1) a1 0 (by first | decide | omega) (by omega)
theorem qm_23_9 {n d : Nat} {M : zM} (hd : 5 ≤ d) (hC : qCI M)  : qOkP n d 23 [.inr (.inr (some 9))] 4 M qRl := by
  have hz := zp_23
  have hd0 : 0 < d := by omega
  show zG n (0, 0) d 23 (0, [.inr (.inr (some 9)), zN, zN, zN], []) M _
  refine zG_blk (c' := (6, [.inr (.inr (some 9)), .inr (.inl (283)), zN, .inl 0], [])) 4 hd0 hz (by rfl) ?_
  have j6 : ∀ (N : Nat) (v1 v2 : Int) , (8 - v2 : Int).toNat < N → 0 ≤ v2 ∧ v2 ≤ 8 → zG n (0, 0) d 23 (6, [.inr (.inr (some 9)), .inr (.inl (v1)), zN, .inl v2], []) M (fun v M' => M' = M ∧ qRl v) := by
    intro N
    induction N with
    | zero => intro v1 v2 hN hv2; exact absurd hN (Nat.not_lt_zero _)
    | succ N ih6 =>
      intro v1 v2 hN hv2
      refine zG_blk (c' := (9, [.inr (.inr (some 9)), .inr (.inl (v1)), zN, .inl v2], [.inl 7, .inl v2])) 2 hd0 hz (by rfl) ?_
      refine zG_icmp_gt hd0 hz rfl (fun hb3 => ?_) (fun hb3 => ?_)
      · refine zG_blk (c' := (37, [.inr (.inr (some 9)), .inr (.inl (v1)), zN, .inl v2], [.inl 4, .inr (.inr (some 10)), .inr (.inl (v1))])) 4 hd0 hz (by rfl) ?_
        refine zG_call hd0 hz zp_24 rfl rfl (Nat.le_of_ble_eq_true rfl) ⟨Nat.le_refl _, Nat.le_refl _⟩ (qm_24_10 (by first | exact zdp hd (by decide) | omega) hC  v1 4 (by first | decide | omega)) (fun vr M4 hr => ?_)
        obtain ⟨hq, x5, rfl⟩ := hr
        replace hq := hq.symm; subst hq
        show zG n (0, 0) d 23 (40, [.inr (.inr (some 9)), .inr (.inl (v1)), zN, .inl v2], [.inr (.inl (x5))]) M _
        refine zG_blk (c' := (47, [.inr (.inr (some 9)), .inr (.inl (x5)), zN, .inl v2], [.inl 3, .inr (.inr (some 12)), .inr (.inl (x5))])) 5 hd0 hz (by rfl) ?_
        refine zG_call hd0 hz zp_24 rfl rfl (Nat.le_of_ble_eq_true rfl) ⟨Nat.le_refl _, Nat.le_refl _⟩ (qm_24_12 (by first | exact zdp hd (by decide) | omega) hC  x5 3 (by first | decide | omega)) (fun vr M6 hr => ?_)
        obtain ⟨hq, x7, rfl⟩ := hr
        replace hq := hq.symm; subst hq
        show zG n (0, 0) d 23 (50, [.inr (.inr (some 9)), .inr (.inl (x5)), zN, .inl v2], [.inr (.inl (x7))]) M _
        refine zG_blk (c' := (57, [.inr (.inr (some 9)), .inr (.inl (x7)), zN, .inl v2], [.inl 5, .inr (.inr (some 16)), .inr (.inl (x7))])) 5 hd0 hz (by rfl) ?_
        refine zG_call hd0 hz zp_24 rfl rfl (Nat.le_of_ble_eq_true rfl) ⟨Nat.le_refl _, Nat.le_refl _⟩ (qm_24_16 (by first | exact zdp hd (by decide) | omega) hC  x7 5 (by first | decide | omega)) (fun vr M8 hr => ?_)
        obtain ⟨hq, x9, rfl⟩ := hr
        replace hq := hq.symm; subst hq
        show zG n (0, 0) d 23 (60, [.inr (.inr (some 9)), .inr (.inl (x7)), zN, .inl v2], [.inr (.inl (x9))]) M _
        refine zG_blk (c' := (68, [.inr (.inr (some 9)), .inr (.inl (x9)), zN, .inl v2], [.inl 8, .inr (.inr (some 18)), .inr (.inl (x9))])) 5 hd0 hz (by rfl) ?_
        refine zG_call hd0 hz zp_24 rfl rfl (Nat.le_of_ble_eq_true rfl) ⟨Nat.le_refl _, Nat.le_refl _⟩ (qm_24_18 (by first | exact zdp hd (by decide) | omega) hC  x9 8 (by first | decide | omega)) (fun vr M10 hr => ?_)
        obtain ⟨hq, x11, rfl⟩ := hr
        replace hq := hq.symm; subst hq
        show zG n (0, 0) d 23 (71, [.inr (.inr (some 9)), .inr (.inl (x9)), zN, .inl v2], [.inr (.inl (x11))]) M _
        refine zG_blk (c' := (74, [.inr (.inr (some 9)), .inr (.inl (x11)), zN, .inl v2], [.inr (.inl (x11)), .inr (.inr (some 9))])) 3 hd0 hz (by rfl) ?_
        refine zG_call hd0 hz zp_25 rfl rfl (Nat.le_of_ble_eq_true rfl) ⟨Nat.le_refl _, Nat.le_refl _⟩ (qm_25_9 (by first | exact zdp hd (by decide) | omega) hC  x11) (fun vr M12 hr => ?_)
        obtain ⟨hq, x13, rfl⟩ := hr
        replace hq := hq.symm; subst hq
        show zG n (0, 0) d 23 (77, [.inr (.inr (some 9)), .inr (.inl (x11)), zN, .inl v2], [.inr (.inl (x13))]) M _
        obtain ⟨x14, hx14⟩ : ∃ x : Int, x = w64 (31 * x13) := ⟨_, rfl⟩
        have r15 := hC.rng 9 8 (by decide) (by decide)
        obtain ⟨x16, hx16⟩ : ∃ x : Int, x = w64 (x14 + (M 9 8)) := ⟨_, rfl⟩
        obtain ⟨x17, hx17⟩ : ∃ x : Int, x = w64 (31 * x16) := ⟨_, rfl⟩
        have r18 := hC.rng 9 9 (by decide) (by decide)
        obtain ⟨x19, hx19⟩ : ∃ x : Int, x = w64 (x17 + (M 9 9)) := ⟨_, rfl⟩
        refine zG_blk (c' := (101, [.inr (.inr (some 9)), .inr (.inl (x16)), zN, .inl v2], [.inr (.inl (x19))])) 16 hd0 hz (by subst hx19; subst hx17; subst hx16; subst hx14; rfl) ?_
        exact zG_ret hd0 hz rfl rfl ⟨rfl, _, rfl⟩
      · obtain ⟨x20, hx20⟩ : ∃ x : Int, x = w64 (31 * v1) := ⟨_, rfl⟩
        refine zG_blk (c' := (19, [.inr (.inr (some 9)), .inr (.inl (v1)), zN, .inl v2], [.inl v2, .inr (.inr (some 9)), .inr (.inl (x20))])) 5 hd0 hz (by subst hx20; rfl) ?_
        refine zG_call hd0 hz zp_21 rfl rfl (Nat.le_of_ble_eq_true rfl) ⟨Nat.le_refl _, Nat.le_refl _⟩ (qm_21_9 (by first | exact zdp hd (by decide) | omega) hC  v2 (by first | with_reducible exact hv2 | omega)) (fun vr M21 hr => ?_)
        obtain ⟨hq, x22, rfl, hx22⟩ := hr
        replace hq := hq.symm; subst hq
        show zG n (0, 0) d 23 (22, [.inr (.inr (some 9)), .inr (.inl (v1)), zN, .inl v2], [.inl x22, .inr (.inl (x20))]) M _
        obtain ⟨x23, hx23⟩ : ∃ x : Int, x = w64 (x20 + x22) := ⟨_, rfl⟩
        obtain ⟨x24, hx24⟩ : ∃ x : Int, x = w32 (v2 + 1) := ⟨_, rfl⟩
        have hx24e : x24 = v2 + 1 := by rw [hx24]; exact w32_id (by omega)
        refine zG_blk (c' := (6, [.inr (.inr (some 9)), .inr (.inl (x23)), zN, .inl x24], [])) 5 hd0 hz (by subst hx24; subst hx23; rfl) ?_
        exact ih6 x23 x24 (by omega) (by omega)
  exact j6 ((8 - 0 : Int).toNat + 1) 283 0 (by first | decide | omega) (by omega)
theorem qm_168_8 {n d : Nat} {M : zM} (hd : 6 ≤ d) (hC : qCI M)  : qOkP n d 168 [.inr (.inr (some 8))] 1 M qRl := by
  have hz := zp_168
  have hd0 : 0 < d := by omega
  show zG n (0, 0) d 168 (0, [.inr (.inr (some 8))], []) M _
  refine zG_blk (c' := (4, [.inr (.inr (some 8))], [.inr (.inr (some 9))])) 2 hd0 hz (by rfl) ?_
  refine zG_call hd0 hz zp_23 rfl rfl (Nat.le_of_ble_eq_true rfl) ⟨Nat.le_refl _, Nat.le_refl _⟩ (qm_23_9 (by first | exact zdp hd (by decide) | omega) hC  ) (fun vr M1 hr => ?_)
  obtain ⟨hq, x2, rfl⟩ := hr
  replace hq := hq.symm; subst hq
  show zG n (0, 0) d 168 (7, [.inr (.inr (some 8))], [.inr (.inl (x2))]) M _
  exact zG_ret hd0 hz rfl rfl ⟨rfl, _, rfl⟩
