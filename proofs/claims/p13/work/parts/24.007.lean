theorem qm_53 {n d : Nat} {M : zM} (hd : 1 ≤ d) (hC : qCI M) (a0 : Int) (ha0 : (-2147483648) ≤ a0 ∧ a0 ≤ 2147483647) (a1 : Int) (ha1 : (-2147483648) ≤ a1 ∧ a1 ≤ 2147483647) : qOkP n d 53 [.inl a0, .inl a1] 2 M (qRi (fun x => (-2147483648) ≤ x ∧ x ≤ 2147483647)) := by
  have hz := zp_53
  have hd0 : 0 < d := by omega
  show zG n (0, 0) d 53 (0, [.inl a0, .inl a1], []) M _
  obtain ⟨x1, hx1⟩ : ∃ x : Int, x = w32 (a0 - a1) := ⟨_, rfl⟩
  have hx1r : x1 = (a0 - a1 + 2147483648) % 4294967296 - 2147483648 := hx1
  obtain ⟨x2, hx2⟩ : ∃ x : Int, x = (if 0 ≤ x1 then x1 else w32 (0 - x1)) := ⟨_, rfl⟩
  have hx2r : qin x2 := by rw [hx2]; split <;> first | omega | exact w32_in _
  refine zG_blk (c' := (8, [.inl a0, .inl a1], [.inl 10, .inl x2])) 5 hd0 hz (by subst hx2; subst hx1; rfl) ?_
  have j24 : ∀ (v3 : Int) , (-2147483648) ≤ v3 ∧ v3 ≤ 2147483647 → zG n (0, 0) d 53 (24, [.inl a0, .inl a1], [.inl v3]) M (fun v M' => M' = M ∧ qRi (fun x => (-2147483648) ≤ x ∧ x ≤ 2147483647) v) := by
    intro v3 hv3
    exact zG_ret hd0 hz rfl rfl ⟨rfl, _, rfl, by omega⟩
  refine zG_icmp_gt hd0 hz rfl (fun hb4 => ?_) (fun hb4 => ?_)
  · obtain ⟨x5, hx5⟩ : ∃ x : Int, x = (if a1 < a0 then a1 else a0) := ⟨_, rfl⟩
    have hx5r := qite hx5
    refine zG_blk (c' := (24, [.inl a0, .inl a1], [.inl x5])) 3 hd0 hz (by subst hx5; rfl) ?_
    exact j24 x5 (by omega)
  · obtain ⟨x6, hx6⟩ : ∃ x : Int, x = w32 (a0 + a1) := ⟨_, rfl⟩
    have hx6r : x6 = (a0 + a1 + 2147483648) % 4294967296 - 2147483648 := hx6
    refine zG_blk (c' := (15, [.inl a0, .inl a1], [.inl 2, .inl x6])) 4 hd0 hz (by subst hx6; rfl) ?_
    refine zG_idiv hd0 hz rfl (by omega) ?_
    have hx7 := qtdiv_in x6 2 (by first | decide | omega) (by omega)
    generalize w32 (x6.tdiv 2) = x7 at hx7 ⊢
    show zG n (0, 0) d 53 (16, [.inl a0, .inl a1], [.inl x7]) M _
    refine zG_blk (c' := (24, [.inl a0, .inl a1], [.inl x7])) 1 hd0 hz (by rfl) ?_
    exact j24 x7 (by omega)
theorem qm_54_60 {n d : Nat} {M : zM} (hd : 2 ≤ d) (hC : qCI M) (a1 : Int) (ha1 : (-2147483648) ≤ a1 ∧ a1 ≤ 2147483647) (a2 : Int) (ha2 : (-2147483648) ≤ a2 ∧ a2 ≤ 2147483647) : qOkP n d 54 [.inr (.inr (some 60)), .inl a1, .inl a2] 10 M (qRi (fun x => (-2147483648) ≤ x ∧ x ≤ 2147483647)) := by
  have hz := zp_54
  have hd0 : 0 < d := by omega
  show zG n (0, 0) d 54 (0, [.inr (.inr (some 60)), .inl a1, .inl a2, zN, zN, zN, zN, zN, zN, zN], []) M _
  refine zG_blk (c' := (9, [.inr (.inr (some 60)), .inl a1, .inl a2, zN, zN, zN, zN, zN, zN, zN], [.inl 5, .inl a1, .inr (.inr (some 18))])) 5 hd0 hz (by rfl) ?_
  refine zG_call hd0 hz zp_106 rfl rfl (Nat.le_of_ble_eq_true rfl) ⟨Nat.le_refl _, Nat.le_refl _⟩ (qw_get (by first | exact zdp hd (by decide) | omega) hC (⟨by decide, rfl, rfl⟩ : qT n 18 250 11) a1 (by first | with_reducible exact ha1 | omega) 5 (by first | decide | omega)) (fun vr M1 hr => ?_)
  obtain ⟨hq, x2, rfl, hx2⟩ := hr
  replace hq := hq.symm; subst hq
  show zG n (0, 0) d 54 (12, [.inr (.inr (some 60)), .inl a1, .inl a2, zN, zN, zN, zN, zN, zN, zN], [.inl x2]) M _
  refine zG_blk (c' := (22, [.inr (.inr (some 60)), .inl a1, .inl a2, .inl x2, zN, zN, zN, zN, zN, zN], [.inl 1, .inl a1, .inr (.inr (some 18))])) 6 hd0 hz (by rfl) ?_
  refine zG_call hd0 hz zp_106 rfl rfl (Nat.le_of_ble_eq_true rfl) ⟨Nat.le_refl _, Nat.le_refl _⟩ (qw_get (by first | exact zdp hd (by decide) | omega) hC (⟨by decide, rfl, rfl⟩ : qT n 18 250 11) a1 (by first | with_reducible exact ha1 | omega) 1 (by first | decide | omega)) (fun vr M3 hr => ?_)
  obtain ⟨hq, x4, rfl, hx4⟩ := hr
  replace hq := hq.symm; subst hq
  show zG n (0, 0) d 54 (25, [.inr (.inr (some 60)), .inl a1, .inl a2, .inl x2, zN, zN, zN, zN, zN, zN], [.inl x4]) M _
  refine zG_blk (c' := (31, [.inr (.inr (some 60)), .inl a1, .inl a2, .inl x2, .inl x4, zN, zN, zN, zN, zN], [.inr (.inr (some 65))])) 3 hd0 hz (by rfl) ?_
  refine zG_call hd0 hz zp_101 rfl rfl (Nat.le_of_ble_eq_true rfl) ⟨Nat.le_refl _, Nat.le_refl _⟩ (qw_size (by first | exact zdp hd (by decide) | omega) hC (⟨by decide, rfl, rfl⟩ : qT n 65 250 1) ) (fun vr M5 hr => ?_)
  obtain ⟨hq, x6, rfl, hx6⟩ := hr
  replace hq := hq.symm; subst hq
  show zG n (0, 0) d 54 (34, [.inr (.inr (some 60)), .inl a1, .inl a2, .inl x2, .inl x4, zN, zN, zN, zN, zN], [.inl x6]) M _
  obtain ⟨x7, hx7⟩ : ∃ x : Int, x = w32 (x6 - 1) := ⟨_, rfl⟩
  have hx7e : x7 = x6 - 1 := by rw [hx7]; exact w32_id (by omega)
  refine zG_blk (c' := (38, [.inr (.inr (some 60)), .inl a1, .inl a2, .inl x2, .inl x4, .inl x7, zN, zN, zN, zN], [])) 3 hd0 hz (by subst hx7; rfl) ?_
  have j38 : ∀ (N : Nat) (v8 : Int) , (v8 + 1 : Int).toNat < N → (-1) ≤ v8 ∧ v8 ≤ 249 → zG n (0, 0) d 54 (38, [.inr (.inr (some 60)), .inl a1, .inl a2, .inl x2, .inl x4, .inl v8, zN, zN, zN, zN], []) M (fun v M' => M' = M ∧ qRi (fun x => (-2147483648) ≤ x ∧ x ≤ 2147483647) v) := by
    intro N
    induction N with
    | zero => intro v8 hN hv8; exact absurd hN (Nat.not_lt_zero _)
    | succ N ih38 =>
      intro v8 hN hv8
      refine zG_blk (c' := (40, [.inr (.inr (some 60)), .inl a1, .inl a2, .inl x2, .inl x4, .inl v8, zN, zN, zN, zN], [.inl v8])) 1 hd0 hz (by rfl) ?_
      refine zG_if_lt hd0 hz rfl (fun hb9 => ?_) (fun hb9 => ?_)
      · refine zG_blk (c' := (178, [.inr (.inr (some 60)), .inl a1, .inl a2, .inl x2, .inl x4, .inl v8, zN, zN, zN, zN], [.inl a2])) 1 hd0 hz (by rfl) ?_
        exact zG_ret hd0 hz rfl rfl ⟨rfl, _, rfl, by omega⟩
      · refine zG_blk (c' := (50, [.inr (.inr (some 60)), .inl a1, .inl a2, .inl x2, .inl x4, .inl v8, zN, zN, zN, zN], [.inl 0, .inl v8, .inr (.inr (some 65))])) 4 hd0 hz (by rfl) ?_
        refine zG_call hd0 hz zp_106 rfl rfl (Nat.le_of_ble_eq_true rfl) ⟨Nat.le_refl _, Nat.le_refl _⟩ (qw_get (by first | exact zdp hd (by decide) | omega) hC (⟨by decide, rfl, rfl⟩ : qT n 65 250 1) v8 (by first | with_reducible exact hv8 | omega) 0 (by first | decide | omega)) (fun vr M10 hr => ?_)
        obtain ⟨hq, x11, rfl, hx11⟩ := hr
        replace hq := hq.symm; subst hq
        show zG n (0, 0) d 54 (53, [.inr (.inr (some 60)), .inl a1, .inl a2, .inl x2, .inl x4, .inl v8, zN, zN, zN, zN], [.inl x11]) M _
        refine zG_blk (c' := (66, [.inr (.inr (some 60)), .inl a1, .inl a2, .inl x2, .inl x4, .inl v8, .inl x11, zN, zN, zN], [.inl 9, .inl x11, .inr (.inr (some 18))])) 6 hd0 hz (by rfl) ?_
        refine zG_call hd0 hz zp_106 rfl rfl (Nat.le_of_ble_eq_true rfl) ⟨Nat.le_refl _, Nat.le_refl _⟩ (qw_get (by first | exact zdp hd (by decide) | omega) hC (⟨by decide, rfl, rfl⟩ : qT n 18 250 11) x11 (by omega) 9 (by first | decide | omega)) (fun vr M12 hr => ?_)
        obtain ⟨hq, x13, rfl, hx13⟩ := hr
        replace hq := hq.symm; subst hq
        show zG n (0, 0) d 54 (69, [.inr (.inr (some 60)), .inl a1, .inl a2, .inl x2, .inl x4, .inl v8, .inl x11, zN, zN, zN], [.inl x13]) M _
        refine zG_blk (c' := (81, [.inr (.inr (some 60)), .inl a1, .inl a2, .inl x2, .inl x4, .inl v8, .inl x11, .inl x13, zN, zN], [.inl 5, .inl x11, .inr (.inr (some 18))])) 6 hd0 hz (by rfl) ?_
        refine zG_call hd0 hz zp_106 rfl rfl (Nat.le_of_ble_eq_true rfl) ⟨Nat.le_refl _, Nat.le_refl _⟩ (qw_get (by first | exact zdp hd (by decide) | omega) hC (⟨by decide, rfl, rfl⟩ : qT n 18 250 11) x11 (by omega) 5 (by first | decide | omega)) (fun vr M14 hr => ?_)
        obtain ⟨hq, x15, rfl, hx15⟩ := hr
        replace hq := hq.symm; subst hq
        show zG n (0, 0) d 54 (84, [.inr (.inr (some 60)), .inl a1, .inl a2, .inl x2, .inl x4, .inl v8, .inl x11, .inl x13, zN, zN], [.inl x15]) M _
        refine zG_blk (c' := (85, [.inr (.inr (some 60)), .inl a1, .inl a2, .inl x2, .inl x4, .inl v8, .inl x11, .inl x13, zN, zN], [.inl x2, .inl x15])) 1 hd0 hz (by rfl) ?_
        have j93 : ∀ (v16 : Int) , 0 ≤ v16 ∧ v16 ≤ 1 → zG n (0, 0) d 54 (93, [.inr (.inr (some 60)), .inl a1, .inl a2, .inl x2, .inl x4, .inl v8, .inl x11, .inl x13, zN, zN], [.inl v16]) M (fun v M' => M' = M ∧ qRi (fun x => (-2147483648) ≤ x ∧ x ≤ 2147483647) v) := by
          intro v16 hv16
          refine zG_blk (c' := (97, [.inr (.inr (some 60)), .inl a1, .inl a2, .inl x2, .inl x4, .inl v8, .inl x11, .inl x13, .inl v16, zN], [.inl v16])) 2 hd0 hz (by rfl) ?_
          have j171 : zG n (0, 0) d 54 (171, [.inr (.inr (some 60)), .inl a1, .inl a2, .inl x2, .inl x4, .inl v8, .inl x11, .inl x13, .inl v16, zN], []) M (fun v M' => M' = M ∧ qRi (fun x => (-2147483648) ≤ x ∧ x ≤ 2147483647) v) := by
            obtain ⟨x17, hx17⟩ : ∃ x : Int, x = w32 (v8 + (-1)) := ⟨_, rfl⟩
            have hx17e : x17 = v8 + (-1) := by rw [hx17]; exact w32_id (by omega)
            refine zG_blk (c' := (38, [.inr (.inr (some 60)), .inl a1, .inl a2, .inl x2, .inl x4, .inl x17, .inl x11, .inl x13, .inl v16, zN], [])) 2 hd0 hz (by subst hx17; rfl) ?_
            exact zG_weak (ih38 x17 (by omega) (by omega)) ⟨.inr rfl, .inr rfl, .inr rfl, .inr rfl, .inr rfl, .inr rfl, .inl rfl, .inl rfl, .inl rfl, .inr rfl, trivial⟩
          refine zG_if_eq hd0 hz rfl (fun hb18 => ?_) (fun hb18 => ?_)
          · exact j171
          · refine zG_blk (c' := (110, [.inr (.inr (some 60)), .inl a1, .inl a2, .inl x2, .inl x4, .inl v8, .inl x11, .inl x13, .inl v16, zN], [.inl 1, .inl x11, .inr (.inr (some 18))])) 5 hd0 hz (by rfl) ?_
            refine zG_call hd0 hz zp_106 rfl rfl (Nat.le_of_ble_eq_true rfl) ⟨Nat.le_refl _, Nat.le_refl _⟩ (qw_get (by first | exact zdp hd (by decide) | omega) hC (⟨by decide, rfl, rfl⟩ : qT n 18 250 11) x11 (by omega) 1 (by first | decide | omega)) (fun vr M19 hr => ?_)
            obtain ⟨hq, x20, rfl, hx20⟩ := hr
            replace hq := hq.symm; subst hq
            show zG n (0, 0) d 54 (113, [.inr (.inr (some 60)), .inl a1, .inl a2, .inl x2, .inl x4, .inl v8, .inl x11, .inl x13, .inl v16, zN], [.inl x20]) M _
            refine zG_blk (c' := (115, [.inr (.inr (some 60)), .inl a1, .inl a2, .inl x2, .inl x4, .inl v8, .inl x11, .inl x13, .inl v16, zN], [.inl x4, .inl x20])) 1 hd0 hz (by rfl) ?_
            refine zG_icmp_lt hd0 hz rfl (fun hb21 => ?_) (fun hb21 => ?_)
            · exact j171
            · refine zG_blk (c' := (120, [.inr (.inr (some 60)), .inl a1, .inl a2, .inl x2, .inl x4, .inl v8, .inl x11, .inl x13, .inl v16, zN], [.inl x13])) 1 hd0 hz (by rfl) ?_
              refine zG_if_le hd0 hz rfl (fun hb22 => ?_) (fun hb22 => ?_)
              · exact j171
              · refine zG_blk (c' := (135, [.inr (.inr (some 60)), .inl a1, .inl a2, .inl x2, .inl x4, .inl v8, .inl x11, .inl x13, .inl v16, zN], [.inl 8, .inl x11, .inr (.inr (some 18)), .inl a2])) 6 hd0 hz (by rfl) ?_
                refine zG_call hd0 hz zp_106 rfl rfl (Nat.le_of_ble_eq_true rfl) ⟨Nat.le_refl _, Nat.le_refl _⟩ (qw_get (by first | exact zdp hd (by decide) | omega) hC (⟨by decide, rfl, rfl⟩ : qT n 18 250 11) x11 (by omega) 8 (by first | decide | omega)) (fun vr M23 hr => ?_)
                obtain ⟨hq, x24, rfl, hx24⟩ := hr
                replace hq := hq.symm; subst hq
                show zG n (0, 0) d 54 (138, [.inr (.inr (some 60)), .inl a1, .inl a2, .inl x2, .inl x4, .inl v8, .inl x11, .inl x13, .inl v16, zN], [.inl x24, .inl a2]) M _
                obtain ⟨x25, hx25⟩ : ∃ x : Int, x = w32 (a2 * x24) := ⟨_, rfl⟩
                have hx25r : qin x25 := by rw [hx25]; exact w32_in _
                refine zG_blk (c' := (141, [.inr (.inr (some 60)), .inl a1, .inl a2, .inl x2, .inl x4, .inl v8, .inl x11, .inl x13, .inl v16, zN], [.inl x13, .inl x25])) 2 hd0 hz (by subst hx25; rfl) ?_
                refine zG_idiv hd0 hz rfl (by omega) ?_
                have hx26 := qtdiv_in x25 x13 (by omega) (by omega)
                generalize w32 (x25.tdiv x13) = x26 at hx26 ⊢
                show zG n (0, 0) d 54 (142, [.inr (.inr (some 60)), .inl a1, .inl a2, .inl x2, .inl x4, .inl v8, .inl x11, .inl x13, .inl v16, zN], [.inl x26]) M _
                refine zG_blk (c' := (153, [.inr (.inr (some 60)), .inl a1, .inl a2, .inl x2, .inl x4, .inl v8, .inl x11, .inl x13, .inl v16, zN], [.inl 10, .inl x11, .inr (.inr (some 18)), .inl x26])) 5 hd0 hz (by rfl) ?_
                refine zG_call hd0 hz zp_106 rfl rfl (Nat.le_of_ble_eq_true rfl) ⟨Nat.le_refl _, Nat.le_refl _⟩ (qw_get (by first | exact zdp hd (by decide) | omega) hC (⟨by decide, rfl, rfl⟩ : qT n 18 250 11) x11 (by omega) 10 (by first | decide | omega)) (fun vr M27 hr => ?_)
                obtain ⟨hq, x28, rfl, hx28⟩ := hr
                replace hq := hq.symm; subst hq
                show zG n (0, 0) d 54 (156, [.inr (.inr (some 60)), .inl a1, .inl a2, .inl x2, .inl x4, .inl v8, .inl x11, .inl x13, .inl v16, zN], [.inl x28, .inl x26]) M _
                obtain ⟨x29, hx29⟩ : ∃ x : Int, x = w32 (x26 + x28) := ⟨_, rfl⟩
                have hx29r : x29 = (x26 + x28 + 2147483648) % 4294967296 - 2147483648 := hx29
                obtain ⟨x30, hx30⟩ : ∃ x : Int, x = (if x29 < 100 then x29 else 100) := ⟨_, rfl⟩
                have hx30r := qite hx30
                obtain ⟨x31, hx31⟩ : ∃ x : Int, x = (if 0 < x30 then x30 else 0) := ⟨_, rfl⟩
                have hx31r := qite hx31
                refine zG_blk (c' := (170, [.inr (.inr (some 60)), .inl a1, .inl a2, .inl x2, .inl x4, .inl v8, .inl x11, .inl x13, .inl v16, .inl x29], [.inl x31])) 7 hd0 hz (by subst hx31; subst hx30; subst hx29; rfl) ?_
                exact zG_ret hd0 hz rfl rfl ⟨rfl, _, rfl, by omega⟩
        refine zG_icmp_ne hd0 hz rfl (fun hb32 => ?_) (fun hb32 => ?_)
        · refine zG_blk (c' := (93, [.inr (.inr (some 60)), .inl a1, .inl a2, .inl x2, .inl x4, .inl v8, .inl x11, .inl x13, zN, zN], [.inl 0])) 1 hd0 hz (by rfl) ?_
          exact j93 0 (by first | decide | omega)
        · refine zG_blk (c' := (93, [.inr (.inr (some 60)), .inl a1, .inl a2, .inl x2, .inl x4, .inl v8, .inl x11, .inl x13, zN, zN], [.inl 1])) 2 hd0 hz (by rfl) ?_
          exact j93 1 (by first | decide | omega)
  exact j38 ((x7 + 1 : Int).toNat + 1) x7 (by omega) (by omega)
theorem qm_47_60 {n d : Nat} {M : zM} (hd : 3 ≤ d) (hC : qCI M) (a1 : Int) (ha1 : (-2147483648) ≤ a1 ∧ a1 ≤ 2147483647) (a2 : Int) (ha2 : (-2147483648) ≤ a2 ∧ a2 ≤ 2147483647) : qOkP n d 47 [.inr (.inr (some 60)), .inl a1, .inl a2] 4 M (qRi (fun x => (-2147483648) ≤ x ∧ x ≤ 2147483647)) := by
  have hz := zp_47
  have hd0 : 0 < d := by omega
  show zG n (0, 0) d 47 (0, [.inr (.inr (some 60)), .inl a1, .inl a2, zN], []) M _
  refine zG_blk (c' := (10, [.inr (.inr (some 60)), .inl a1, .inl a2, zN], [.inl 7, .inl a1, .inr (.inr (some 18))])) 5 hd0 hz (by rfl) ?_
  refine zG_call hd0 hz zp_106 rfl rfl (Nat.le_of_ble_eq_true rfl) ⟨Nat.le_refl _, Nat.le_refl _⟩ (qw_get (by first | exact zdp hd (by decide) | omega) hC (⟨by decide, rfl, rfl⟩ : qT n 18 250 11) a1 (by first | with_reducible exact ha1 | omega) 7 (by first | decide | omega)) (fun vr M1 hr => ?_)
  obtain ⟨hq, x2, rfl, hx2⟩ := hr
  replace hq := hq.symm; subst hq
  show zG n (0, 0) d 47 (13, [.inr (.inr (some 60)), .inl a1, .inl a2, zN], [.inl x2]) M _
  refine zG_blk (c' := (16, [.inr (.inr (some 60)), .inl a1, .inl a2, .inl x2], [.inl 1, .inl a2])) 3 hd0 hz (by rfl) ?_
  have j58 : ∀ (v3 : Int) , (-2147483648) ≤ v3 ∧ v3 ≤ 2147483647 → zG n (0, 0) d 47 (58, [.inr (.inr (some 60)), .inl a1, .inl a2, .inl v3], []) M (fun v M' => M' = M ∧ qRi (fun x => (-2147483648) ≤ x ∧ x ≤ 2147483647) v) := by
    intro v3 hv3
    refine zG_blk (c' := (60, [.inr (.inr (some 60)), .inl a1, .inl a2, .inl v3], [.inl 2, .inl a2])) 2 hd0 hz (by rfl) ?_
    have j98 : ∀ (v4 : Int) , (-2147483648) ≤ v4 ∧ v4 ≤ 2147483647 → zG n (0, 0) d 47 (98, [.inr (.inr (some 60)), .inl a1, .inl a2, .inl v4], []) M (fun v M' => M' = M ∧ qRi (fun x => (-2147483648) ≤ x ∧ x ≤ 2147483647) v) := by
      intro v4 hv4
      refine zG_blk (c' := (100, [.inr (.inr (some 60)), .inl a1, .inl a2, .inl v4], [.inl 3, .inl a2])) 2 hd0 hz (by rfl) ?_
      have j110 : ∀ (v5 : Int) , (-2147483648) ≤ v5 ∧ v5 ≤ 2147483647 → zG n (0, 0) d 47 (110, [.inr (.inr (some 60)), .inl a1, .inl a2, .inl v5], []) M (fun v M' => M' = M ∧ qRi (fun x => (-2147483648) ≤ x ∧ x ≤ 2147483647) v) := by
        intro v5 hv5
        refine zG_blk (c' := (112, [.inr (.inr (some 60)), .inl a1, .inl a2, .inl v5], [.inl 4, .inl a2])) 2 hd0 hz (by rfl) ?_
        have j160 : ∀ (v6 : Int) , (-2147483648) ≤ v6 ∧ v6 ≤ 2147483647 → zG n (0, 0) d 47 (160, [.inr (.inr (some 60)), .inl a1, .inl a2, .inl v6], []) M (fun v M' => M' = M ∧ qRi (fun x => (-2147483648) ≤ x ∧ x ≤ 2147483647) v) := by
          intro v6 hv6
          refine zG_blk (c' := (161, [.inr (.inr (some 60)), .inl a1, .inl a2, .inl v6], [.inl v6])) 1 hd0 hz (by rfl) ?_
          exact zG_ret hd0 hz rfl rfl ⟨rfl, _, rfl, by omega⟩
        refine zG_icmp_lt hd0 hz rfl (fun hb7 => ?_) (fun hb7 => ?_)
        · exact j160 v5 (by first | with_reducible exact hv5 | omega)
        · refine zG_blk (c' := (121, [.inr (.inr (some 60)), .inl a1, .inl a2, .inl v5], [.inl a1, .inr (.inr (some 60)), .inr (.inr (some 63))])) 4 hd0 hz (by rfl) ?_
          refine zG_call hd0 hz zp_52 rfl rfl (Nat.le_of_ble_eq_true rfl) ⟨Nat.le_refl _, Nat.le_refl _⟩ (qm_52_60 (by first | exact zdp hd (by decide) | omega) hC  a1 (by first | with_reducible exact ha1 | omega)) (fun vr M8 hr => ?_)
          obtain ⟨hq, x9, rfl, hx9⟩ := hr
          replace hq := hq.symm; subst hq
          show zG n (0, 0) d 47 (124, [.inr (.inr (some 60)), .inl a1, .inl a2, .inl v5], [.inl x9, .inr (.inr (some 63))]) M _
          refine zG_blk (c' := (125, [.inr (.inr (some 60)), .inl a1, .inl a2, .inl v5], [.inl 3, .inl x9, .inr (.inr (some 63))])) 1 hd0 hz (by rfl) ?_
          refine zG_call hd0 hz zp_106 rfl rfl (Nat.le_of_ble_eq_true rfl) ⟨Nat.le_refl _, Nat.le_refl _⟩ (qw_get (by first | exact zdp hd (by decide) | omega) hC (⟨by decide, rfl, rfl⟩ : qT n 63 280 4) x9 (by omega) 3 (by first | decide | omega)) (fun vr M10 hr => ?_)
          obtain ⟨hq, x11, rfl, hx11⟩ := hr
          replace hq := hq.symm; subst hq
          show zG n (0, 0) d 47 (128, [.inr (.inr (some 60)), .inl a1, .inl a2, .inl v5], [.inl x11]) M _
          refine zG_blk (c' := (129, [.inr (.inr (some 60)), .inl a1, .inl a2, .inl v5], [.inl a1, .inl x11])) 1 hd0 hz (by rfl) ?_
          refine zG_icmp_eq hd0 hz rfl (fun hb12 => ?_) (fun hb12 => ?_)
          · exact j160 v5 (by first | with_reducible exact hv5 | omega)
          · refine zG_blk (c' := (149, [.inr (.inr (some 60)), .inl a1, .inl a2, .inl v5], [.inl 5, .inl a1, .inr (.inr (some 18)), .inr (.inr (some 10)), .inl v5])) 9 hd0 hz (by rfl) ?_
            refine zG_call hd0 hz zp_106 rfl rfl (Nat.le_of_ble_eq_true rfl) ⟨Nat.le_refl _, Nat.le_refl _⟩ (qw_get (by first | exact zdp hd (by decide) | omega) hC (⟨by decide, rfl, rfl⟩ : qT n 18 250 11) a1 (by first | with_reducible exact ha1 | omega) 5 (by first | decide | omega)) (fun vr M13 hr => ?_)
            obtain ⟨hq, x14, rfl, hx14⟩ := hr
            replace hq := hq.symm; subst hq
            show zG n (0, 0) d 47 (152, [.inr (.inr (some 60)), .inl a1, .inl a2, .inl v5], [.inl x14, .inr (.inr (some 10)), .inl v5]) M _
            refine zG_blk (c' := (153, [.inr (.inr (some 60)), .inl a1, .inl a2, .inl v5], [.inl 3, .inl x14, .inr (.inr (some 10)), .inl v5])) 1 hd0 hz (by rfl) ?_
            refine zG_call hd0 hz zp_106 rfl rfl (Nat.le_of_ble_eq_true rfl) ⟨Nat.le_refl _, Nat.le_refl _⟩ (qw_get (by first | exact zdp hd (by decide) | omega) hC (⟨by decide, rfl, rfl⟩ : qT n 10 14 4) x14 (by omega) 3 (by first | decide | omega)) (fun vr M15 hr => ?_)
            obtain ⟨hq, x16, rfl, hx16⟩ := hr
            replace hq := hq.symm; subst hq
            show zG n (0, 0) d 47 (156, [.inr (.inr (some 60)), .inl a1, .inl a2, .inl v5], [.inl x16, .inl v5]) M _
            obtain ⟨x17, hx17⟩ : ∃ x : Int, x = (if x16 < v5 then x16 else v5) := ⟨_, rfl⟩
            have hx17r := qite hx17
            refine zG_blk (c' := (160, [.inr (.inr (some 60)), .inl a1, .inl a2, .inl x17], [])) 2 hd0 hz (by subst hx17; rfl) ?_
            exact j160 x17 (by omega)
      refine zG_icmp_lt hd0 hz rfl (fun hb18 => ?_) (fun hb18 => ?_)
      · exact j110 v4 (by first | with_reducible exact hv4 | omega)
      · refine zG_blk (c' := (106, [.inr (.inr (some 60)), .inl a1, .inl a2, .inl v4], [.inl v4, .inl a1, .inr (.inr (some 60))])) 3 hd0 hz (by rfl) ?_
        refine zG_call hd0 hz zp_54 rfl rfl (Nat.le_of_ble_eq_true rfl) ⟨Nat.le_refl _, Nat.le_refl _⟩ (qm_54_60 (by first | exact zdp hd (by decide) | omega) hC  a1 (by first | with_reducible exact ha1 | omega) v4 (by first | with_reducible exact hv4 | omega)) (fun vr M19 hr => ?_)
        obtain ⟨hq, x20, rfl, hx20⟩ := hr
        replace hq := hq.symm; subst hq
        show zG n (0, 0) d 47 (109, [.inr (.inr (some 60)), .inl a1, .inl a2, .inl v4], [.inl x20]) M _
        refine zG_blk (c' := (110, [.inr (.inr (some 60)), .inl a1, .inl a2, .inl x20], [])) 1 hd0 hz (by rfl) ?_
        exact j110 x20 (by omega)
    refine zG_icmp_lt hd0 hz rfl (fun hb21 => ?_) (fun hb21 => ?_)
    · exact j98 v3 (by first | with_reducible exact hv3 | omega)
    · refine zG_blk (c' := (69, [.inr (.inr (some 60)), .inl a1, .inl a2, .inl v3], [.inl 3, .inl a1, .inr (.inr (some 61))])) 4 hd0 hz (by rfl) ?_
      refine zG_call hd0 hz zp_106 rfl rfl (Nat.le_of_ble_eq_true rfl) ⟨Nat.le_refl _, Nat.le_refl _⟩ (qw_get (by first | exact zdp hd (by decide) | omega) hC (⟨by decide, rfl, rfl⟩ : qT n 61 250 4) a1 (by first | with_reducible exact ha1 | omega) 3 (by first | decide | omega)) (fun vr M22 hr => ?_)
      obtain ⟨hq, x23, rfl, hx23⟩ := hr
      replace hq := hq.symm; subst hq
      show zG n (0, 0) d 47 (72, [.inr (.inr (some 60)), .inl a1, .inl a2, .inl v3], [.inl x23]) M _
      refine zG_blk (c' := (73, [.inr (.inr (some 60)), .inl a1, .inl a2, .inl v3], [.inl (-1), .inl x23])) 1 hd0 hz (by rfl) ?_
      refine zG_icmp_eq hd0 hz rfl (fun hb24 => ?_) (fun hb24 => ?_)
      · exact j98 v3 (by first | with_reducible exact hv3 | omega)
      · refine zG_blk (c' := (89, [.inr (.inr (some 60)), .inl a1, .inl a2, .inl v3], [.inl 3, .inl a1, .inr (.inr (some 61)), .inr (.inr (some 18))])) 7 hd0 hz (by rfl) ?_
        refine zG_call hd0 hz zp_106 rfl rfl (Nat.le_of_ble_eq_true rfl) ⟨Nat.le_refl _, Nat.le_refl _⟩ (qw_get (by first | exact zdp hd (by decide) | omega) hC (⟨by decide, rfl, rfl⟩ : qT n 61 250 4) a1 (by first | with_reducible exact ha1 | omega) 3 (by first | decide | omega)) (fun vr M25 hr => ?_)
        obtain ⟨hq, x26, rfl, hx26⟩ := hr
        replace hq := hq.symm; subst hq
        show zG n (0, 0) d 47 (92, [.inr (.inr (some 60)), .inl a1, .inl a2, .inl v3], [.inl x26, .inr (.inr (some 18))]) M _
        refine zG_blk (c' := (94, [.inr (.inr (some 60)), .inl a1, .inl a2, .inl v3], [.inl 7, .inl x26, .inr (.inr (some 18))])) 1 hd0 hz (by rfl) ?_
        refine zG_call hd0 hz zp_106 rfl rfl (Nat.le_of_ble_eq_true rfl) ⟨Nat.le_refl _, Nat.le_refl _⟩ (qw_get (by first | exact zdp hd (by decide) | omega) hC (⟨by decide, rfl, rfl⟩ : qT n 18 250 11) x26 (by omega) 7 (by first | decide | omega)) (fun vr M27 hr => ?_)
        obtain ⟨hq, x28, rfl, hx28⟩ := hr
        replace hq := hq.symm; subst hq
        show zG n (0, 0) d 47 (97, [.inr (.inr (some 60)), .inl a1, .inl a2, .inl v3], [.inl x28]) M _
        refine zG_blk (c' := (98, [.inr (.inr (some 60)), .inl a1, .inl a2, .inl x28], [])) 1 hd0 hz (by rfl) ?_
        exact j98 x28 (by omega)
  refine zG_icmp_lt hd0 hz rfl (fun hb29 => ?_) (fun hb29 => ?_)
  · exact j58 x2 (by omega)
  · refine zG_blk (c' := (25, [.inr (.inr (some 60)), .inl a1, .inl a2, .inl x2], [.inl 2, .inl a1, .inr (.inr (some 61))])) 4 hd0 hz (by rfl) ?_
    refine zG_call hd0 hz zp_106 rfl rfl (Nat.le_of_ble_eq_true rfl) ⟨Nat.le_refl _, Nat.le_refl _⟩ (qw_get (by first | exact zdp hd (by decide) | omega) hC (⟨by decide, rfl, rfl⟩ : qT n 61 250 4) a1 (by first | with_reducible exact ha1 | omega) 2 (by first | decide | omega)) (fun vr M30 hr => ?_)
    obtain ⟨hq, x31, rfl, hx31⟩ := hr
    replace hq := hq.symm; subst hq
    show zG n (0, 0) d 47 (28, [.inr (.inr (some 60)), .inl a1, .inl a2, .inl x2], [.inl x31]) M _
    refine zG_blk (c' := (29, [.inr (.inr (some 60)), .inl a1, .inl a2, .inl x2], [.inl (-1), .inl x31])) 1 hd0 hz (by rfl) ?_
    refine zG_icmp_eq hd0 hz rfl (fun hb32 => ?_) (fun hb32 => ?_)
    · exact j58 x2 (by omega)
    · refine zG_blk (c' := (46, [.inr (.inr (some 60)), .inl a1, .inl a2, .inl x2], [.inl 2, .inl a1, .inr (.inr (some 61)), .inr (.inr (some 18)), .inl x2])) 8 hd0 hz (by rfl) ?_
      refine zG_call hd0 hz zp_106 rfl rfl (Nat.le_of_ble_eq_true rfl) ⟨Nat.le_refl _, Nat.le_refl _⟩ (qw_get (by first | exact zdp hd (by decide) | omega) hC (⟨by decide, rfl, rfl⟩ : qT n 61 250 4) a1 (by first | with_reducible exact ha1 | omega) 2 (by first | decide | omega)) (fun vr M33 hr => ?_)
      obtain ⟨hq, x34, rfl, hx34⟩ := hr
      replace hq := hq.symm; subst hq
      show zG n (0, 0) d 47 (49, [.inr (.inr (some 60)), .inl a1, .inl a2, .inl x2], [.inl x34, .inr (.inr (some 18)), .inl x2]) M _
      refine zG_blk (c' := (51, [.inr (.inr (some 60)), .inl a1, .inl a2, .inl x2], [.inl 7, .inl x34, .inr (.inr (some 18)), .inl x2])) 1 hd0 hz (by rfl) ?_
      refine zG_call hd0 hz zp_106 rfl rfl (Nat.le_of_ble_eq_true rfl) ⟨Nat.le_refl _, Nat.le_refl _⟩ (qw_get (by first | exact zdp hd (by decide) | omega) hC (⟨by decide, rfl, rfl⟩ : qT n 18 250 11) x34 (by omega) 7 (by first | decide | omega)) (fun vr M35 hr => ?_)
      obtain ⟨hq, x36, rfl, hx36⟩ := hr
      replace hq := hq.symm; subst hq
      show zG n (0, 0) d 47 (54, [.inr (.inr (some 60)), .inl a1, .inl a2, .inl x2], [.inl x36, .inl x2]) M _
      refine zG_call hd0 hz zp_53 rfl rfl (Nat.le_of_ble_eq_true rfl) ⟨Nat.le_refl _, Nat.le_refl _⟩ (qm_53 (by first | exact zdp hd (by decide) | omega) hC  x2 (by omega) x36 (by omega)) (fun vr M37 hr => ?_)
      obtain ⟨hq, x38, rfl, hx38⟩ := hr
      replace hq := hq.symm; subst hq
      show zG n (0, 0) d 47 (57, [.inr (.inr (some 60)), .inl a1, .inl a2, .inl x2], [.inl x38]) M _
      refine zG_blk (c' := (58, [.inr (.inr (some 60)), .inl a1, .inl a2, .inl x38], [])) 1 hd0 hz (by rfl) ?_
      exact j58 x38 (by omega)
theorem qm_41_60 {n d : Nat} {M : zM} (hd : 6 ≤ d) (hC : qCI M) (a1 : Int) (ha1 : (-2147483648) ≤ a1 ∧ a1 ≤ 2147483647) (a2 : Int) (ha2 : (-2147483648) ≤ a2 ∧ a2 ≤ 2147483647) : qOkM n d 41 [.inr (.inr (some 60)), .inl a1, .inl a2] 5 qCI [62, 64, 65, 66] M qRn := by
  have hz := zp_41
  have hd0 : 0 < d := by omega
  have hW : qFr [62, 64, 65, 66] M M := qFr.rfl
  show zG n (0, 0) d 41 (0, [.inr (.inr (some 60)), .inl a1, .inl a2, zN, zN], []) M _
  refine zG_blk (c' := (3, [.inr (.inr (some 60)), .inl a1, .inl a2, zN, zN], [.inl a2, .inl a1, .inr (.inr (some 60))])) 3 hd0 hz (by rfl) ?_
  refine zG_call hd0 hz zp_48 rfl rfl (Nat.le_of_ble_eq_true rfl) ⟨Nat.le_refl _, Nat.le_refl _⟩ (qm_48_60 (by first | exact zdp hd (by decide) | omega) hC  a1 (by first | with_reducible exact ha1 | omega) a2 (by first | with_reducible exact ha2 | omega)) (fun vr M1 hr => ?_)
  obtain ⟨⟨hCM1, hFM1⟩, rfl⟩ := hr
  have hWM1 : qFr [62, 64, 65, 66] M M1 := hW.tr hFM1 (by decide)
  show zG n (0, 0) d 41 (6, [.inr (.inr (some 60)), .inl a1, .inl a2, zN, zN], []) M1 _
  refine zG_blk (c' := (7, [.inr (.inr (some 60)), .inl a1, .inl a2, zN, zN], [.inr (.inr (some 60))])) 1 hd0 hz (by rfl) ?_
  refine zG_call hd0 hz zp_49 rfl rfl (Nat.le_of_ble_eq_true rfl) ⟨Nat.le_refl _, Nat.le_refl _⟩ (qm_49_60 (by first | exact zdp hd (by decide) | omega) hCM1  ) (fun vr M3 hr => ?_)
  obtain ⟨⟨hCM3, hFM3⟩, rfl⟩ := hr
  have hWM3 : qFr [62, 64, 65, 66] M M3 := hWM1.tr hFM3 (by decide)
  show zG n (0, 0) d 41 (10, [.inr (.inr (some 60)), .inl a1, .inl a2, zN, zN], []) M3 _
  refine zG_blk (c' := (12, [.inr (.inr (some 60)), .inl a1, .inl a2, .inl 0, zN], [])) 2 hd0 hz (by rfl) ?_
  have j12 : ∀ (N : Nat) (v5 : Int) (M6 : zM) , (250 - v5 : Int).toNat < N → 0 ≤ v5 ∧ v5 ≤ 250 → qCI M6 → qFr [62, 64, 65, 66] M M6 → zG n (0, 0) d 41 (12, [.inr (.inr (some 60)), .inl a1, .inl a2, .inl v5, zN], []) M6 (fun v M' => qWf qCI [62, 64, 65, 66] M M' ∧ qRn v) := by
    intro N
    induction N with
    | zero => intro v5 M6 hN hv5 hCM6 hWM6; exact absurd hN (Nat.not_lt_zero _)
    | succ N ih12 =>
      intro v5 M6 hN hv5 hCM6 hWM6
      refine zG_blk (c' := (20, [.inr (.inr (some 60)), .inl a1, .inl a2, .inl v5, zN], [.inr (.inr (some 18)), .inl v5])) 4 hd0 hz (by rfl) ?_
      refine zG_call hd0 hz zp_101 rfl rfl (Nat.le_of_ble_eq_true rfl) ⟨Nat.le_refl _, Nat.le_refl _⟩ (qw_size (by first | exact zdp hd (by decide) | omega) hCM6 (⟨by decide, rfl, rfl⟩ : qT n 18 250 11) ) (fun vr M7 hr => ?_)
      obtain ⟨hq, x8, rfl, hx8⟩ := hr
      replace hq := hq.symm; subst hq
      show zG n (0, 0) d 41 (23, [.inr (.inr (some 60)), .inl a1, .inl a2, .inl v5, zN], [.inl x8, .inl v5]) M6 _
      refine zG_icmp_ge hd0 hz rfl (fun hb9 => ?_) (fun hb9 => ?_)
      · exact zG_ret hd0 hz rfl rfl ⟨⟨hCM6, hWM6⟩, rfl⟩
      · refine zG_blk (c' := (32, [.inr (.inr (some 60)), .inl a1, .inl a2, .inl v5, zN], [.inl v5, .inl 0, .inr (.inr (some 9))])) 4 hd0 hz (by rfl) ?_
        refine zG_call hd0 hz zp_19 rfl rfl (Nat.le_of_ble_eq_true rfl) ⟨Nat.le_refl _, Nat.le_refl _⟩ (qm_19_9 (by first | exact zdp hd (by decide) | omega) hCM6  0 (by first | decide | omega) v5 (by first | with_reducible exact hv5 | omega)) (fun vr M10 hr => ?_)
        obtain ⟨hq, x11, rfl, hx11⟩ := hr
        replace hq := hq.symm; subst hq
        show zG n (0, 0) d 41 (35, [.inr (.inr (some 60)), .inl a1, .inl a2, .inl v5, zN], [.inl x11]) M6 _
        have j82 : ∀ (M12 : zM) , qCI M12 → qFr [62, 64, 65, 66] M M12 → zG n (0, 0) d 41 (82, [.inr (.inr (some 60)), .inl a1, .inl a2, .inl v5, zN], []) M12 (fun v M' => qWf qCI [62, 64, 65, 66] M M' ∧ qRn v) := by
          intro M12 hCM12 hWM12
          obtain ⟨x13, hx13⟩ : ∃ x : Int, x = w32 (v5 + 1) := ⟨_, rfl⟩
          have hx13e : x13 = v5 + 1 := by rw [hx13]; exact w32_id (by omega)
          refine zG_blk (c' := (12, [.inr (.inr (some 60)), .inl a1, .inl a2, .inl x13, zN], [])) 2 hd0 hz (by subst hx13; rfl) ?_
          exact ih12 x13 M12 (by omega) (by omega) hCM12 hWM12
        refine zG_if_eq hd0 hz rfl (fun hb14 => ?_) (fun hb14 => ?_)
        · exact j82 M6 hCM6 hWM6
        · refine zG_blk (c' := (40, [.inr (.inr (some 60)), .inl a1, .inl a2, .inl v5, zN], [.inl v5, .inr (.inr (some 60))])) 2 hd0 hz (by rfl) ?_
          refine zG_call hd0 hz zp_42 rfl rfl (Nat.le_of_ble_eq_true rfl) ⟨Nat.le_refl _, Nat.le_refl _⟩ (qm_42_60 (by first | exact zdp hd (by decide) | omega) hCM6  v5 (by first | with_reducible exact hv5 | omega)) (fun vr M15 hr => ?_)
          obtain ⟨hq, x16, rfl, hx16⟩ := hr
          replace hq := hq.symm; subst hq
          show zG n (0, 0) d 41 (43, [.inr (.inr (some 60)), .inl a1, .inl a2, .inl v5, zN], [.inl x16]) M6 _
          refine zG_if_eq hd0 hz rfl (fun hb17 => ?_) (fun hb17 => ?_)
          · exact j82 M6 hCM6 hWM6
          · refine zG_blk (c' := (48, [.inr (.inr (some 60)), .inl a1, .inl a2, .inl v5, zN], [.inl v5, .inr (.inr (some 60))])) 2 hd0 hz (by rfl) ?_
            refine zG_call hd0 hz zp_52 rfl rfl (Nat.le_of_ble_eq_true rfl) ⟨Nat.le_refl _, Nat.le_refl _⟩ (qm_52_60 (by first | exact zdp hd (by decide) | omega) hCM6  v5 (by first | with_reducible exact hv5 | omega)) (fun vr M18 hr => ?_)
            obtain ⟨hq, x19, rfl, hx19⟩ := hr
            replace hq := hq.symm; subst hq
            show zG n (0, 0) d 41 (51, [.inr (.inr (some 60)), .inl a1, .inl a2, .inl v5, zN], [.inl x19]) M6 _
            refine zG_blk (c' := (67, [.inr (.inr (some 60)), .inl a1, .inl a2, .inl v5, .inl x19], [.inl 0, .inl x19, .inr (.inr (some 63)), .inl 0, .inl x19, .inr (.inr (some 63))])) 9 hd0 hz (by rfl) ?_
            refine zG_call hd0 hz zp_106 rfl rfl (Nat.le_of_ble_eq_true rfl) ⟨Nat.le_refl _, Nat.le_refl _⟩ (qw_get (by first | exact zdp hd (by decide) | omega) hCM6 (⟨by decide, rfl, rfl⟩ : qT n 63 280 4) x19 (by omega) 0 (by first | decide | omega)) (fun vr M20 hr => ?_)
            obtain ⟨hq, x21, rfl, hx21⟩ := hr
            replace hq := hq.symm; subst hq
            show zG n (0, 0) d 41 (70, [.inr (.inr (some 60)), .inl a1, .inl a2, .inl v5, .inl x19], [.inl x21, .inl 0, .inl x19, .inr (.inr (some 63))]) M6 _
            refine zG_blk (c' := (73, [.inr (.inr (some 60)), .inl a1, .inl a2, .inl v5, .inl x19], [.inl 4, .inl v5, .inr (.inr (some 60)), .inl x21, .inl 0, .inl x19, .inr (.inr (some 63))])) 3 hd0 hz (by rfl) ?_
            refine zG_call hd0 hz zp_47 rfl rfl (Nat.le_of_ble_eq_true rfl) ⟨Nat.le_refl _, Nat.le_refl _⟩ (qm_47_60 (by first | exact zdp hd (by decide) | omega) hCM6  v5 (by first | with_reducible exact hv5 | omega) 4 (by first | decide | omega)) (fun vr M22 hr => ?_)
            obtain ⟨hq, x23, rfl, hx23⟩ := hr
            replace hq := hq.symm; subst hq
            show zG n (0, 0) d 41 (76, [.inr (.inr (some 60)), .inl a1, .inl a2, .inl v5, .inl x19], [.inl x23, .inl x21, .inl 0, .inl x19, .inr (.inr (some 63))]) M6 _
            obtain ⟨x24, hx24⟩ : ∃ x : Int, x = (if x21 < x23 then x23 else x21) := ⟨_, rfl⟩
            have hx24r := qite hx24
            refine zG_blk (c' := (79, [.inr (.inr (some 60)), .inl a1, .inl a2, .inl v5, .inl x19], [.inl x24, .inl 0, .inl x19, .inr (.inr (some 63))])) 1 hd0 hz (by subst hx24; rfl) ?_
            refine zG_call hd0 hz zp_107 rfl rfl (Nat.le_of_ble_eq_true rfl) ⟨Nat.le_refl _, Nat.le_refl _⟩ (qw_set (by first | exact zdp hd (by decide) | omega) hCM6 (⟨by decide, rfl, rfl⟩ : qT n 63 280 4) x19 (by omega) 0 (by first | decide | omega) x24 (by omega)) (fun vr M25 hr => ?_)
            obtain ⟨⟨hCM25, hFM25⟩, rfl⟩ := hr
            have hWM25 : qFr [62, 64, 65, 66] M M25 := hWM6.tr hFM25 (by decide)
            show zG n (0, 0) d 41 (82, [.inr (.inr (some 60)), .inl a1, .inl a2, .inl v5, .inl x19], []) M25 _
            exact zG_weak (j82 M25 hCM25 hWM25) ⟨.inr rfl, .inr rfl, .inr rfl, .inr rfl, .inl rfl, trivial⟩
  exact j12 ((250 - 0 : Int).toNat + 1) 0 M3 (by omega) (by omega) hCM3 hWM3
theorem qm_139_8 {n d : Nat} {M : zM} (hd : 7 ≤ d) (hC : qCI M) (a1 : Int) (ha1 : (-2147483648) ≤ a1 ∧ a1 ≤ 2147483647) (a2 : Int) (ha2 : (-2147483648) ≤ a2 ∧ a2 ≤ 2147483647) : qOkM n d 139 [.inr (.inr (some 8)), .inl a1, .inl a2] 3 qCI [62, 64, 65, 66] M (qRi (fun x => (-2) ≤ x ∧ x ≤ 1)) := by
  have hz := zp_139
  have hd0 : 0 < d := by omega
  have hW : qFr [62, 64, 65, 66] M M := qFr.rfl
  show zG n (0, 0) d 139 (0, [.inr (.inr (some 8)), .inl a1, .inl a2], []) M _
  refine zG_blk (c' := (8, [.inr (.inr (some 8)), .inl a1, .inl a2], [.inl a1, .inr (.inr (some 18))])) 4 hd0 hz (by rfl) ?_
  refine zG_call hd0 hz zp_102 rfl rfl (Nat.le_of_ble_eq_true rfl) ⟨Nat.le_refl _, Nat.le_refl _⟩ (qw_has (by first | exact zdp hd (by decide) | omega) hC (⟨by decide, rfl, rfl⟩ : qT n 18 250 11) a1 (by first | with_reducible exact ha1 | omega)) (fun vr M1 hr => ?_)
  obtain ⟨hq, x2, rfl, hx2⟩ := hr
  replace hq := hq.symm; subst hq
  show zG n (0, 0) d 139 (11, [.inr (.inr (some 8)), .inl a1, .inl a2], [.inl x2]) M _
  have j21 : zG n (0, 0) d 139 (21, [.inr (.inr (some 8)), .inl a1, .inl a2], []) M (fun v M' => qWf qCI [62, 64, 65, 66] M M' ∧ qRi (fun x => (-2) ≤ x ∧ x ≤ 1) v) := by
    refine zG_blk (c' := (23, [.inr (.inr (some 8)), .inl a1, .inl a2], [.inl (-2)])) 1 hd0 hz (by rfl) ?_
    exact zG_ret hd0 hz rfl rfl ⟨⟨hC, hW⟩, _, rfl, by omega⟩
  refine zG_if_eq hd0 hz rfl (fun hb3 => ?_) (fun hb3 => ?_)
  · exact j21
  · refine zG_blk (c' := (15, [.inr (.inr (some 8)), .inl a1, .inl a2], [.inl a2])) 1 hd0 hz (by rfl) ?_
    refine zG_call hd0 hz zp_170 rfl rfl (Nat.le_of_ble_eq_true rfl) ⟨Nat.le_refl _, Nat.le_refl _⟩ (qm_170 (by first | exact zdp hd (by decide) | omega) hC  a2 (by first | with_reducible exact ha2 | omega)) (fun vr M4 hr => ?_)
    obtain ⟨hq, x5, rfl, hx5⟩ := hr
    replace hq := hq.symm; subst hq
    show zG n (0, 0) d 139 (18, [.inr (.inr (some 8)), .inl a1, .inl a2], [.inl x5]) M _
    refine zG_if_ne hd0 hz rfl (fun hb6 => ?_) (fun hb6 => ?_)
    · refine zG_blk (c' := (30, [.inr (.inr (some 8)), .inl a1, .inl a2], [.inl (-1), .inl a2, .inr (.inr (some 60))])) 4 hd0 hz (by rfl) ?_
      refine zG_call hd0 hz zp_41 rfl rfl (Nat.le_of_ble_eq_true rfl) ⟨Nat.le_refl _, Nat.le_refl _⟩ (qm_41_60 (by first | exact zdp hd (by decide) | omega) hC  a2 (by first | with_reducible exact ha2 | omega) (-1) (by first | decide | omega)) (fun vr M7 hr => ?_)
      obtain ⟨⟨hCM7, hFM7⟩, rfl⟩ := hr
      have hWM7 : qFr [62, 64, 65, 66] M M7 := hW.tr hFM7 (by decide)
      show zG n (0, 0) d 139 (33, [.inr (.inr (some 8)), .inl a1, .inl a2], []) M7 _
      refine zG_blk (c' := (38, [.inr (.inr (some 8)), .inl a1, .inl a2], [.inl a1, .inr (.inr (some 60))])) 3 hd0 hz (by rfl) ?_
      refine zG_call hd0 hz zp_42 rfl rfl (Nat.le_of_ble_eq_true rfl) ⟨Nat.le_refl _, Nat.le_refl _⟩ (qm_42_60 (by first | exact zdp hd (by decide) | omega) hCM7  a1 (by first | with_reducible exact ha1 | omega)) (fun vr M9 hr => ?_)
      obtain ⟨hq, x10, rfl, hx10⟩ := hr
      replace hq := hq.symm; subst hq
      show zG n (0, 0) d 139 (41, [.inr (.inr (some 8)), .inl a1, .inl a2], [.inl x10]) M7 _
      have j49 : ∀ (v11 : Int) , 0 ≤ v11 ∧ v11 ≤ 1 → zG n (0, 0) d 139 (49, [.inr (.inr (some 8)), .inl a1, .inl a2], [.inl v11]) M7 (fun v M' => qWf qCI [62, 64, 65, 66] M M' ∧ qRi (fun x => (-2) ≤ x ∧ x ≤ 1) v) := by
        intro v11 hv11
        exact zG_ret hd0 hz rfl rfl ⟨⟨hCM7, hWM7⟩, _, rfl, by omega⟩
      refine zG_if_eq hd0 hz rfl (fun hb12 => ?_) (fun hb12 => ?_)
      · refine zG_blk (c' := (49, [.inr (.inr (some 8)), .inl a1, .inl a2], [.inl 0])) 1 hd0 hz (by rfl) ?_
        exact j49 0 (by first | decide | omega)
      · refine zG_blk (c' := (49, [.inr (.inr (some 8)), .inl a1, .inl a2], [.inl 1])) 2 hd0 hz (by rfl) ?_
        exact j49 1 (by first | decide | omega)
    · exact j21
