theorem qm_151_8 {n d : Nat} {M : zM} (hd : 9 ≤ d) (hC : qCI M) (a1 : Int) (ha1 : (-2147483648) ≤ a1 ∧ a1 ≤ 2147483647) (a2 : Int) (ha2 : (-2147483648) ≤ a2 ∧ a2 ≤ 2147483647) (a3 : Int) (ha3 : (-2147483648) ≤ a3 ∧ a3 ≤ 2147483647) (a4 : Int) (ha4 : (-2147483648) ≤ a4 ∧ a4 ≤ 2147483647) (a5 : Int) (ha5 : (-2147483648) ≤ a5 ∧ a5 ≤ 2147483647) : qOkM n d 151 [.inr (.inr (some 8)), .inl a1, .inl a2, .inl a3, .inl a4, .inl a5] 7 qCI [62, 64, 65, 66, 67, 69, 70, 71, 72, 73, 74, 75] M qRl := by
  have hz := zp_151
  have hd0 : 0 < d := by omega
  have hW : qFr [62, 64, 65, 66, 67, 69, 70, 71, 72, 73, 74, 75] M M := qFr.rfl
  show zG n (0, 0) d 151 (0, [.inr (.inr (some 8)), .inl a1, .inl a2, .inl a3, .inl a4, .inl a5, zN], []) M _
  refine zG_blk (c' := (1, [.inr (.inr (some 8)), .inl a1, .inl a2, .inl a3, .inl a4, .inl a5, zN], [.inl a1])) 1 hd0 hz (by rfl) ?_
  refine zG_call hd0 hz zp_173 rfl rfl (Nat.le_of_ble_eq_true rfl) ⟨Nat.le_refl _, Nat.le_refl _⟩ (qm_173 (by first | exact zdp hd (by decide) | omega) hC  a1 (by first | with_reducible exact ha1 | omega)) (fun vr M1 hr => ?_)
  obtain ⟨hq, x2, rfl, hx2⟩ := hr
  replace hq := hq.symm; subst hq
  show zG n (0, 0) d 151 (4, [.inr (.inr (some 8)), .inl a1, .inl a2, .inl a3, .inl a4, .inl a5, zN], [.inl x2]) M _
  have j35 : zG n (0, 0) d 151 (35, [.inr (.inr (some 8)), .inl a1, .inl a2, .inl a3, .inl a4, .inl a5, zN], []) M (fun v M' => qWf qCI [62, 64, 65, 66, 67, 69, 70, 71, 72, 73, 74, 75] M M' ∧ qRl v) := by
    refine zG_blk (c' := (38, [.inr (.inr (some 8)), .inl a1, .inl a2, .inl a3, .inl a4, .inl a5, zN], [.inr (.inl ((-2000000000000000000)))])) 1 hd0 hz (by rfl) ?_
    exact zG_ret hd0 hz rfl rfl ⟨⟨hC, hW⟩, _, rfl⟩
  refine zG_if_eq hd0 hz rfl (fun hb3 => ?_) (fun hb3 => ?_)
  · exact j35
  · refine zG_blk (c' := (9, [.inr (.inr (some 8)), .inl a1, .inl a2, .inl a3, .inl a4, .inl a5, zN], [.inl a2, .inr (.inr (some 8))])) 2 hd0 hz (by rfl) ?_
    refine zG_call hd0 hz zp_174 rfl rfl (Nat.le_of_ble_eq_true rfl) ⟨Nat.le_refl _, Nat.le_refl _⟩ (qm_174_8 (by first | exact zdp hd (by decide) | omega) hC  a2 (by first | with_reducible exact ha2 | omega)) (fun vr M4 hr => ?_)
    obtain ⟨hq, x5, rfl, hx5⟩ := hr
    replace hq := hq.symm; subst hq
    show zG n (0, 0) d 151 (12, [.inr (.inr (some 8)), .inl a1, .inl a2, .inl a3, .inl a4, .inl a5, zN], [.inl x5]) M _
    refine zG_if_eq hd0 hz rfl (fun hb6 => ?_) (fun hb6 => ?_)
    · exact j35
    · refine zG_blk (c' := (24, [.inr (.inr (some 8)), .inl a1, .inl a2, .inl a3, .inl a4, .inl a5, zN], [.inr (.inr (some 10)), .inl (-1), .inl a3])) 5 hd0 hz (by rfl) ?_
      refine zG_call hd0 hz zp_101 rfl rfl (Nat.le_of_ble_eq_true rfl) ⟨Nat.le_refl _, Nat.le_refl _⟩ (qw_size (by first | exact zdp hd (by decide) | omega) hC (⟨by decide, rfl, rfl⟩ : qT n 10 14 4) ) (fun vr M7 hr => ?_)
      obtain ⟨hq, x8, rfl, hx8⟩ := hr
      replace hq := hq.symm; subst hq
      show zG n (0, 0) d 151 (27, [.inr (.inr (some 8)), .inl a1, .inl a2, .inl a3, .inl a4, .inl a5, zN], [.inl x8, .inl (-1), .inl a3]) M _
      obtain ⟨x9, hx9⟩ : ∃ x : Int, x = w32 (x8 - 1) := ⟨_, rfl⟩
      have hx9e : x9 = x8 - 1 := by rw [hx9]; exact w32_id (by omega)
      refine zG_blk (c' := (29, [.inr (.inr (some 8)), .inl a1, .inl a2, .inl a3, .inl a4, .inl a5, zN], [.inl x9, .inl (-1), .inl a3])) 2 hd0 hz (by subst hx9; rfl) ?_
      refine zG_call hd0 hz zp_169 rfl rfl (Nat.le_of_ble_eq_true rfl) ⟨Nat.le_refl _, Nat.le_refl _⟩ (qm_169 (by first | exact zdp hd (by decide) | omega) hC  a3 (by first | with_reducible exact ha3 | omega) (-1) (by first | decide | omega) x9 (by omega)) (fun vr M10 hr => ?_)
      obtain ⟨hq, x11, rfl, hx11⟩ := hr
      replace hq := hq.symm; subst hq
      show zG n (0, 0) d 151 (32, [.inr (.inr (some 8)), .inl a1, .inl a2, .inl a3, .inl a4, .inl a5, zN], [.inl x11]) M _
      refine zG_if_ne hd0 hz rfl (fun hb12 => ?_) (fun hb12 => ?_)
      · refine zG_blk (c' := (41, [.inr (.inr (some 8)), .inl a1, .inl a2, .inl a3, .inl a4, .inl a5, zN], [.inl a4])) 1 hd0 hz (by rfl) ?_
        refine zG_call hd0 hz zp_170 rfl rfl (Nat.le_of_ble_eq_true rfl) ⟨Nat.le_refl _, Nat.le_refl _⟩ (qm_170 (by first | exact zdp hd (by decide) | omega) hC  a4 (by first | with_reducible exact ha4 | omega)) (fun vr M13 hr => ?_)
        obtain ⟨hq, x14, rfl, hx14⟩ := hr
        replace hq := hq.symm; subst hq
        show zG n (0, 0) d 151 (44, [.inr (.inr (some 8)), .inl a1, .inl a2, .inl a3, .inl a4, .inl a5, zN], [.inl x14]) M _
        have j55 : zG n (0, 0) d 151 (55, [.inr (.inr (some 8)), .inl a1, .inl a2, .inl a3, .inl a4, .inl a5, zN], []) M (fun v M' => qWf qCI [62, 64, 65, 66, 67, 69, 70, 71, 72, 73, 74, 75] M M' ∧ qRl v) := by
          refine zG_blk (c' := (58, [.inr (.inr (some 8)), .inl a1, .inl a2, .inl a3, .inl a4, .inl a5, zN], [.inr (.inl ((-2000000000000000000)))])) 1 hd0 hz (by rfl) ?_
          exact zG_ret hd0 hz rfl rfl ⟨⟨hC, hW⟩, _, rfl⟩
        refine zG_if_eq hd0 hz rfl (fun hb15 => ?_) (fun hb15 => ?_)
        · exact j55
        · refine zG_blk (c' := (49, [.inr (.inr (some 8)), .inl a1, .inl a2, .inl a3, .inl a4, .inl a5, zN], [.inl a5])) 1 hd0 hz (by rfl) ?_
          refine zG_call hd0 hz zp_170 rfl rfl (Nat.le_of_ble_eq_true rfl) ⟨Nat.le_refl _, Nat.le_refl _⟩ (qm_170 (by first | exact zdp hd (by decide) | omega) hC  a5 (by first | with_reducible exact ha5 | omega)) (fun vr M16 hr => ?_)
          obtain ⟨hq, x17, rfl, hx17⟩ := hr
          replace hq := hq.symm; subst hq
          show zG n (0, 0) d 151 (52, [.inr (.inr (some 8)), .inl a1, .inl a2, .inl a3, .inl a4, .inl a5, zN], [.inl x17]) M _
          refine zG_if_ne hd0 hz rfl (fun hb18 => ?_) (fun hb18 => ?_)
          · refine zG_blk (c' := (64, [.inr (.inr (some 8)), .inl a1, .inl a2, .inl a3, .inl a4, .inl a5, zN], [.inl a1, .inr (.inr (some 67))])) 3 hd0 hz (by rfl) ?_
            refine zG_call hd0 hz zp_75 rfl rfl (Nat.le_of_ble_eq_true rfl) ⟨Nat.le_refl _, Nat.le_refl _⟩ (qm_75_67 (by first | exact zdp hd (by decide) | omega) hC  a1 (by first | with_reducible exact ha1 | omega)) (fun vr M19 hr => ?_)
            obtain ⟨⟨hCM19, hFM19⟩, x20, rfl, hx20⟩ := hr
            have hWM19 : qFr [62, 64, 65, 66, 67, 69, 70, 71, 72, 73, 74, 75] M M19 := hW.tr hFM19 (by decide)
            show zG n (0, 0) d 151 (67, [.inr (.inr (some 8)), .inl a1, .inl a2, .inl a3, .inl a4, .inl a5, zN], [.inl x20]) M19 _
            refine zG_blk (c' := (68, [.inr (.inr (some 8)), .inl a1, .inl a2, .inl a3, .inl a4, .inl a5, zN], [.inl (-1), .inl x20])) 1 hd0 hz (by rfl) ?_
            refine zG_icmp_eq hd0 hz rfl (fun hb21 => ?_) (fun hb21 => ?_)
            · refine zG_blk (c' := (82, [.inr (.inr (some 8)), .inl a1, .inl a2, .inl a3, .inl a4, .inl a5, zN], [.inl (-1), .inl a5, .inr (.inr (some 60))])) 4 hd0 hz (by rfl) ?_
              refine zG_call hd0 hz zp_41 rfl rfl (Nat.le_of_ble_eq_true rfl) ⟨Nat.le_refl _, Nat.le_refl _⟩ (qm_41_60 (by first | exact zdp hd (by decide) | omega) hCM19  a5 (by first | with_reducible exact ha5 | omega) (-1) (by first | decide | omega)) (fun vr M22 hr => ?_)
              obtain ⟨⟨hCM22, hFM22⟩, rfl⟩ := hr
              have hWM22 : qFr [62, 64, 65, 66, 67, 69, 70, 71, 72, 73, 74, 75] M M22 := hWM19.tr hFM22 (by decide)
              show zG n (0, 0) d 151 (85, [.inr (.inr (some 8)), .inl a1, .inl a2, .inl a3, .inl a4, .inl a5, zN], []) M22 _
              refine zG_blk (c' := (92, [.inr (.inr (some 8)), .inl a1, .inl a2, .inl a3, .inl a4, .inl a5, zN], [.inl a4, .inl a2, .inr (.inr (some 76))])) 4 hd0 hz (by rfl) ?_
              refine zG_call hd0 hz zp_32 rfl rfl (Nat.le_of_ble_eq_true rfl) ⟨Nat.le_refl _, Nat.le_refl _⟩ (qm_32_76 (by first | exact zdp hd (by decide) | omega) hCM22  a2 (by first | with_reducible exact ha2 | omega) a4 (by first | with_reducible exact ha4 | omega)) (fun vr M24 hr => ?_)
              obtain ⟨⟨hCM24, hFM24⟩, x25, rfl, hx25⟩ := hr
              have hWM24 : qFr [62, 64, 65, 66, 67, 69, 70, 71, 72, 73, 74, 75] M M24 := hWM22.tr hFM24 (by decide)
              show zG n (0, 0) d 151 (95, [.inr (.inr (some 8)), .inl a1, .inl a2, .inl a3, .inl a4, .inl a5, zN], [.inl x25]) M24 _
              refine zG_blk (c' := (99, [.inr (.inr (some 8)), .inl a1, .inl a2, .inl a3, .inl a4, .inl a5, .inl x25], [.inl (-1), .inl a3])) 3 hd0 hz (by rfl) ?_
              have j126 : ∀ (M26 : zM) , qCI M26 → qFr [62, 64, 65, 66, 67, 69, 70, 71, 72, 73, 74, 75] M M26 → zG n (0, 0) d 151 (126, [.inr (.inr (some 8)), .inl a1, .inl a2, .inl a3, .inl a4, .inl a5, .inl x25], []) M26 (fun v M' => qWf qCI [62, 64, 65, 66, 67, 69, 70, 71, 72, 73, 74, 75] M M' ∧ qRl v) := by
                intro M26 hCM26 hWM26
                refine zG_blk (c' := (134, [.inr (.inr (some 8)), .inl a1, .inl a2, .inl a3, .inl a4, .inl a5, .inl x25], [.inr (.inr (some 67)), .inr (.inr (some 72))])) 4 hd0 hz (by rfl) ?_
                refine zG_call hd0 hz zp_74 rfl rfl (Nat.le_of_ble_eq_true rfl) ⟨Nat.le_refl _, Nat.le_refl _⟩ (qm_74_67 (by first | exact zdp hd (by decide) | omega) hCM26  ) (fun vr M27 hr => ?_)
                obtain ⟨hq, rfl⟩ := hr
                replace hq := hq.symm; subst hq
                show zG n (0, 0) d 151 (137, [.inr (.inr (some 8)), .inl a1, .inl a2, .inl a3, .inl a4, .inl a5, .inl x25], [.inr (.inr (some 68)), .inr (.inr (some 72))]) M26 _
                refine zG_blk (c' := (140, [.inr (.inr (some 8)), .inl a1, .inl a2, .inl a3, .inl a4, .inl a5, .inl x25], [.inl 0, .inl 0, .inl 0, .inr (.inr (some 68)), .inr (.inr (some 72))])) 3 hd0 hz (by rfl) ?_
                refine zG_call hd0 hz zp_62 rfl rfl (Nat.le_of_ble_eq_true rfl) ⟨Nat.le_refl _, Nat.le_refl _⟩ (qm_62_72_68 (by first | exact zdp hd (by decide) | omega) hCM26  0 (by first | decide | omega) 0 (by first | decide | omega) 0 (by first | decide | omega)) (fun vr M29 hr => ?_)
                obtain ⟨⟨hCM29, hFM29⟩, x30, rfl⟩ := hr
                have hWM29 : qFr [62, 64, 65, 66, 67, 69, 70, 71, 72, 73, 74, 75] M M29 := hWM26.tr hFM29 (by decide)
                show zG n (0, 0) d 151 (143, [.inr (.inr (some 8)), .inl a1, .inl a2, .inl a3, .inl a4, .inl a5, .inl x25], [.inr (.inl (x30))]) M29 _
                exact zG_ret hd0 hz rfl rfl ⟨⟨hCM29, hWM29⟩, _, rfl⟩
              refine zG_icmp_ne hd0 hz rfl (fun hb31 => ?_) (fun hb31 => ?_)
              · refine zG_blk (c' := (123, [.inr (.inr (some 8)), .inl a1, .inl a2, .inl a3, .inl a4, .inl a5, .inl x25], [.inl x25, .inl a3, .inl a2, .inr (.inr (some 76))])) 5 hd0 hz (by rfl) ?_
                refine zG_call hd0 hz zp_38 rfl rfl (Nat.le_of_ble_eq_true rfl) ⟨Nat.le_refl _, Nat.le_refl _⟩ (qm_38_76 (by first | exact zdp hd (by decide) | omega) hCM24  a2 (by first | with_reducible exact ha2 | omega) a3 (by first | with_reducible exact ha3 | omega) x25 (by omega)) (fun vr M32 hr => ?_)
                obtain ⟨⟨hCM32, hFM32⟩, rfl⟩ := hr
                have hWM32 : qFr [62, 64, 65, 66, 67, 69, 70, 71, 72, 73, 74, 75] M M32 := hWM24.tr hFM32 (by decide)
                show zG n (0, 0) d 151 (126, [.inr (.inr (some 8)), .inl a1, .inl a2, .inl a3, .inl a4, .inl a5, .inl x25], []) M32 _
                exact j126 M32 hCM32 hWM32
              · refine zG_blk (c' := (109, [.inr (.inr (some 8)), .inl a1, .inl a2, .inl a3, .inl a4, .inl a5, .inl x25], [.inl x25, .inl a2, .inr (.inr (some 76))])) 4 hd0 hz (by rfl) ?_
                refine zG_call hd0 hz zp_39 rfl rfl (Nat.le_of_ble_eq_true rfl) ⟨Nat.le_refl _, Nat.le_refl _⟩ (qm_39_76 (by first | exact zdp hd (by decide) | omega) hCM24  a2 (by first | with_reducible exact ha2 | omega) x25 (by omega)) (fun vr M34 hr => ?_)
                obtain ⟨⟨hCM34, hFM34⟩, rfl⟩ := hr
                have hWM34 : qFr [62, 64, 65, 66, 67, 69, 70, 71, 72, 73, 74, 75] M M34 := hWM24.tr hFM34 (by decide)
                show zG n (0, 0) d 151 (112, [.inr (.inr (some 8)), .inl a1, .inl a2, .inl a3, .inl a4, .inl a5, .inl x25], []) M34 _
                refine zG_blk (c' := (126, [.inr (.inr (some 8)), .inl a1, .inl a2, .inl a3, .inl a4, .inl a5, .inl x25], [])) 1 hd0 hz (by rfl) ?_
                exact j126 M34 hCM34 hWM34
            · refine zG_blk (c' := (74, [.inr (.inr (some 8)), .inl a1, .inl a2, .inl a3, .inl a4, .inl a5, zN], [.inr (.inl ((-3000000000000000000)))])) 1 hd0 hz (by rfl) ?_
              exact zG_ret hd0 hz rfl rfl ⟨⟨hCM19, hWM19⟩, _, rfl⟩
          · exact j55
      · exact j35
theorem qm_76_67_22 {n d : Nat} {M : zM} (hd : 2 ≤ d) (hC : qCI M) (a2 : Int) (ha2 : (-2147483648) ≤ a2 ∧ a2 ≤ 2147483647) (a3 : Int) (ha3 : (-2147483648) ≤ a3 ∧ a3 ≤ 2147483647) : qOkM n d 76 [.inr (.inr (some 67)), .inr (.inr (some 22)), .inl a2, .inl a3] 5 qCI [23] M qRn := by
  have hz := zp_76
  have hd0 : 0 < d := by omega
  have hW : qFr [23] M M := qFr.rfl
  show zG n (0, 0) d 76 (0, [.inr (.inr (some 67)), .inr (.inr (some 22)), .inl a2, .inl a3, zN], []) M _
  refine zG_blk (c' := (3, [.inr (.inr (some 67)), .inr (.inr (some 22)), .inl a2, .inl a3, .inl 0], [])) 2 hd0 hz (by rfl) ?_
  have j3 : ∀ (N : Nat) (v1 : Int) (M2 : zM) , (81 - v1 : Int).toNat < N → 0 ≤ v1 ∧ v1 ≤ 81 → qCI M2 → qFr [23] M M2 → zG n (0, 0) d 76 (3, [.inr (.inr (some 67)), .inr (.inr (some 22)), .inl a2, .inl a3, .inl v1], []) M2 (fun v M' => qWf qCI [23] M M' ∧ qRn v) := by
    intro N
    induction N with
    | zero => intro v1 M2 hN hv1 hCM2 hWM2; exact absurd hN (Nat.not_lt_zero _)
    | succ N ih3 =>
      intro v1 M2 hN hv1 hCM2 hWM2
      refine zG_blk (c' := (7, [.inr (.inr (some 67)), .inr (.inr (some 22)), .inl a2, .inl a3, .inl v1], [.inl 81, .inl v1])) 2 hd0 hz (by rfl) ?_
      refine zG_icmp_ge hd0 hz rfl (fun hb3 => ?_) (fun hb3 => ?_)
      · exact zG_ret hd0 hz rfl rfl ⟨⟨hCM2, hWM2⟩, rfl⟩
      · obtain ⟨x4, hx4⟩ : ∃ x : Int, x = w32 (a3 + v1) := ⟨_, rfl⟩
        have hx4r : x4 = (a3 + v1 + 2147483648) % 4294967296 - 2147483648 := hx4
        refine zG_blk (c' := (23, [.inr (.inr (some 67)), .inr (.inr (some 22)), .inl a2, .inl a3, .inl v1], [.inl v1, .inl 0, .inr (.inr (some 68)), .inl x4, .inl a2, .inr (.inr (some 22))])) 9 hd0 hz (by subst hx4; rfl) ?_
        refine zG_call hd0 hz zp_106 rfl rfl (Nat.le_of_ble_eq_true rfl) ⟨Nat.le_refl _, Nat.le_refl _⟩ (qw_get (by first | exact zdp hd (by decide) | omega) hCM2 (⟨by decide, rfl, rfl⟩ : qT n 68 1 81) 0 (by first | decide | omega) v1 (by first | with_reducible exact hv1 | omega)) (fun vr M5 hr => ?_)
        obtain ⟨hq, x6, rfl, hx6⟩ := hr
        replace hq := hq.symm; subst hq
        show zG n (0, 0) d 76 (26, [.inr (.inr (some 67)), .inr (.inr (some 22)), .inl a2, .inl a3, .inl v1], [.inl x6, .inl x4, .inl a2, .inr (.inr (some 22))]) M2 _
        refine zG_call hd0 hz zp_107 rfl rfl (Nat.le_of_ble_eq_true rfl) ⟨Nat.le_refl _, Nat.le_refl _⟩ (qw_set (by first | exact zdp hd (by decide) | omega) hCM2 (⟨by decide, rfl, rfl⟩ : qT n 22 10 164) a2 (by first | with_reducible exact ha2 | omega) x4 (by omega) x6 (by omega)) (fun vr M7 hr => ?_)
        obtain ⟨⟨hCM7, hFM7⟩, rfl⟩ := hr
        have hWM7 : qFr [23] M M7 := hWM2.tr hFM7 (by decide)
        show zG n (0, 0) d 76 (29, [.inr (.inr (some 67)), .inr (.inr (some 22)), .inl a2, .inl a3, .inl v1], []) M7 _
        obtain ⟨x9, hx9⟩ : ∃ x : Int, x = w32 (v1 + 1) := ⟨_, rfl⟩
        have hx9e : x9 = v1 + 1 := by rw [hx9]; exact w32_id (by omega)
        refine zG_blk (c' := (3, [.inr (.inr (some 67)), .inr (.inr (some 22)), .inl a2, .inl a3, .inl x9], [])) 2 hd0 hz (by subst hx9; rfl) ?_
        exact ih3 x9 M7 (by omega) (by omega) hCM7 hWM7
  exact j3 ((81 - 0 : Int).toNat + 1) 0 M (by omega) (by omega) hC hW
theorem qm_152_8 {n d : Nat} {M : zM} (hd : 9 ≤ d) (hC : qCI M) (a1 : Int) (ha1 : (-2147483648) ≤ a1 ∧ a1 ≤ 2147483647) (a2 : Int) (ha2 : (-2147483648) ≤ a2 ∧ a2 ≤ 2147483647) (a3 : Int) (ha3 : (-2147483648) ≤ a3 ∧ a3 ≤ 2147483647) (a4 : Int) (ha4 : 0 ≤ a4 ∧ a4 ≤ 1) : qOkM n d 152 [.inr (.inr (some 8)), .inl a1, .inl a2, .inl a3, .inl a4] 6 qCI [22, 23, 67, 69, 70, 71] M (qRi (fun x => (-4) ≤ x ∧ x ≤ 9)) := by
  have hz := zp_152
  have hd0 : 0 < d := by omega
  have hW : qFr [22, 23, 67, 69, 70, 71] M M := qFr.rfl
  show zG n (0, 0) d 152 (0, [.inr (.inr (some 8)), .inl a1, .inl a2, .inl a3, .inl a4, zN], []) M _
  refine zG_blk (c' := (1, [.inr (.inr (some 8)), .inl a1, .inl a2, .inl a3, .inl a4, zN], [.inl a1])) 1 hd0 hz (by rfl) ?_
  refine zG_call hd0 hz zp_173 rfl rfl (Nat.le_of_ble_eq_true rfl) ⟨Nat.le_refl _, Nat.le_refl _⟩ (qm_173 (by first | exact zdp hd (by decide) | omega) hC  a1 (by first | with_reducible exact ha1 | omega)) (fun vr M1 hr => ?_)
  obtain ⟨hq, x2, rfl, hx2⟩ := hr
  replace hq := hq.symm; subst hq
  show zG n (0, 0) d 152 (4, [.inr (.inr (some 8)), .inl a1, .inl a2, .inl a3, .inl a4, zN], [.inl x2]) M _
  have j21 : zG n (0, 0) d 152 (21, [.inr (.inr (some 8)), .inl a1, .inl a2, .inl a3, .inl a4, zN], []) M (fun v M' => qWf qCI [22, 23, 67, 69, 70, 71] M M' ∧ qRi (fun x => (-4) ≤ x ∧ x ≤ 9) v) := by
    refine zG_blk (c' := (23, [.inr (.inr (some 8)), .inl a1, .inl a2, .inl a3, .inl a4, zN], [.inl (-2)])) 1 hd0 hz (by rfl) ?_
    exact zG_ret hd0 hz rfl rfl ⟨⟨hC, hW⟩, _, rfl, by omega⟩
  refine zG_if_eq hd0 hz rfl (fun hb3 => ?_) (fun hb3 => ?_)
  · exact j21
  · refine zG_blk (c' := (8, [.inr (.inr (some 8)), .inl a1, .inl a2, .inl a3, .inl a4, zN], [.inl a2])) 1 hd0 hz (by rfl) ?_
    refine zG_call hd0 hz zp_173 rfl rfl (Nat.le_of_ble_eq_true rfl) ⟨Nat.le_refl _, Nat.le_refl _⟩ (qm_173 (by first | exact zdp hd (by decide) | omega) hC  a2 (by first | with_reducible exact ha2 | omega)) (fun vr M4 hr => ?_)
    obtain ⟨hq, x5, rfl, hx5⟩ := hr
    replace hq := hq.symm; subst hq
    show zG n (0, 0) d 152 (11, [.inr (.inr (some 8)), .inl a1, .inl a2, .inl a3, .inl a4, zN], [.inl x5]) M _
    refine zG_if_eq hd0 hz rfl (fun hb6 => ?_) (fun hb6 => ?_)
    · exact j21
    · refine zG_blk (c' := (15, [.inr (.inr (some 8)), .inl a1, .inl a2, .inl a3, .inl a4, zN], [.inl a3])) 1 hd0 hz (by rfl) ?_
      refine zG_call hd0 hz zp_170 rfl rfl (Nat.le_of_ble_eq_true rfl) ⟨Nat.le_refl _, Nat.le_refl _⟩ (qm_170 (by first | exact zdp hd (by decide) | omega) hC  a3 (by first | with_reducible exact ha3 | omega)) (fun vr M7 hr => ?_)
      obtain ⟨hq, x8, rfl, hx8⟩ := hr
      replace hq := hq.symm; subst hq
      show zG n (0, 0) d 152 (18, [.inr (.inr (some 8)), .inl a1, .inl a2, .inl a3, .inl a4, zN], [.inl x8]) M _
      refine zG_if_ne hd0 hz rfl (fun hb9 => ?_) (fun hb9 => ?_)
      · refine zG_blk (c' := (29, [.inr (.inr (some 8)), .inl a1, .inl a2, .inl a3, .inl a4, zN], [.inl a1, .inr (.inr (some 67))])) 3 hd0 hz (by rfl) ?_
        refine zG_call hd0 hz zp_75 rfl rfl (Nat.le_of_ble_eq_true rfl) ⟨Nat.le_refl _, Nat.le_refl _⟩ (qm_75_67 (by first | exact zdp hd (by decide) | omega) hC  a1 (by first | with_reducible exact ha1 | omega)) (fun vr M10 hr => ?_)
        obtain ⟨⟨hCM10, hFM10⟩, x11, rfl, hx11⟩ := hr
        have hWM10 : qFr [22, 23, 67, 69, 70, 71] M M10 := hW.tr hFM10 (by decide)
        show zG n (0, 0) d 152 (32, [.inr (.inr (some 8)), .inl a1, .inl a2, .inl a3, .inl a4, zN], [.inl x11]) M10 _
        refine zG_blk (c' := (33, [.inr (.inr (some 8)), .inl a1, .inl a2, .inl a3, .inl a4, zN], [.inl (-1), .inl x11])) 1 hd0 hz (by rfl) ?_
        have j48 : ∀ (M12 : zM) , qCI M12 → qFr [22, 23, 67, 69, 70, 71] M M12 → zG n (0, 0) d 152 (48, [.inr (.inr (some 8)), .inl a1, .inl a2, .inl a3, .inl a4, zN], []) M12 (fun v M' => qWf qCI [22, 23, 67, 69, 70, 71] M M' ∧ qRi (fun x => (-4) ≤ x ∧ x ≤ 9) v) := by
          intro M12 hCM12 hWM12
          refine zG_blk (c' := (50, [.inr (.inr (some 8)), .inl a1, .inl a2, .inl a3, .inl a4, zN], [.inl (-3)])) 1 hd0 hz (by rfl) ?_
          exact zG_ret hd0 hz rfl rfl ⟨⟨hCM12, hWM12⟩, _, rfl, by omega⟩
        refine zG_icmp_ne hd0 hz rfl (fun hb13 => ?_) (fun hb13 => ?_)
        · exact j48 M10 hCM10 hWM10
        · refine zG_blk (c' := (41, [.inr (.inr (some 8)), .inl a1, .inl a2, .inl a3, .inl a4, zN], [.inl a2, .inr (.inr (some 67))])) 3 hd0 hz (by rfl) ?_
          refine zG_call hd0 hz zp_75 rfl rfl (Nat.le_of_ble_eq_true rfl) ⟨Nat.le_refl _, Nat.le_refl _⟩ (qm_75_67 (by first | exact zdp hd (by decide) | omega) hCM10  a2 (by first | with_reducible exact ha2 | omega)) (fun vr M14 hr => ?_)
          obtain ⟨⟨hCM14, hFM14⟩, x15, rfl, hx15⟩ := hr
          have hWM14 : qFr [22, 23, 67, 69, 70, 71] M M14 := hWM10.tr hFM14 (by decide)
          show zG n (0, 0) d 152 (44, [.inr (.inr (some 8)), .inl a1, .inl a2, .inl a3, .inl a4, zN], [.inl x15]) M14 _
          refine zG_blk (c' := (45, [.inr (.inr (some 8)), .inl a1, .inl a2, .inl a3, .inl a4, zN], [.inl (-1), .inl x15])) 1 hd0 hz (by rfl) ?_
          refine zG_icmp_eq hd0 hz rfl (fun hb16 => ?_) (fun hb16 => ?_)
          · refine zG_blk (c' := (58, [.inr (.inr (some 8)), .inl a1, .inl a2, .inl a3, .inl a4, zN], [.inr (.inr (some 22))])) 3 hd0 hz (by rfl) ?_
            refine zG_call hd0 hz zp_103 rfl rfl (Nat.le_of_ble_eq_true rfl) ⟨Nat.le_refl _, Nat.le_refl _⟩ (qw_open (by first | exact zdp hd (by decide) | omega) hCM14 (⟨by decide, rfl, rfl⟩ : qT n 22 10 164) ) (fun vr M17 hr => ?_)
            obtain ⟨⟨hCM17, hFM17⟩, x18, rfl, hx18⟩ := hr
            have hWM17 : qFr [22, 23, 67, 69, 70, 71] M M17 := hWM14.tr hFM17 (by decide)
            show zG n (0, 0) d 152 (61, [.inr (.inr (some 8)), .inl a1, .inl a2, .inl a3, .inl a4, zN], [.inl x18]) M17 _
            refine zG_blk (c' := (74, [.inr (.inr (some 8)), .inl a1, .inl a2, .inl a3, .inl a4, .inl x18], [.inl a3, .inl 0, .inl x18, .inr (.inr (some 22))])) 7 hd0 hz (by rfl) ?_
            refine zG_call hd0 hz zp_107 rfl rfl (Nat.le_of_ble_eq_true rfl) ⟨Nat.le_refl _, Nat.le_refl _⟩ (qw_set (by first | exact zdp hd (by decide) | omega) hCM17 (⟨by decide, rfl, rfl⟩ : qT n 22 10 164) x18 (by omega) 0 (by first | decide | omega) a3 (by first | with_reducible exact ha3 | omega)) (fun vr M19 hr => ?_)
            obtain ⟨⟨hCM19, hFM19⟩, rfl⟩ := hr
            have hWM19 : qFr [22, 23, 67, 69, 70, 71] M M19 := hWM17.tr hFM19 (by decide)
            show zG n (0, 0) d 152 (77, [.inr (.inr (some 8)), .inl a1, .inl a2, .inl a3, .inl a4, .inl x18], []) M19 _
            refine zG_blk (c' := (89, [.inr (.inr (some 8)), .inl a1, .inl a2, .inl a3, .inl a4, .inl x18], [.inl a4, .inl 1, .inl x18, .inr (.inr (some 22))])) 6 hd0 hz (by rfl) ?_
            have j97 : ∀ (v21 v22 v23 : Int) , (-4) ≤ v21 ∧ v21 ≤ 9 → 1 ≤ v22 ∧ v22 ≤ 1 → 0 ≤ v23 ∧ v23 ≤ 1 → zG n (0, 0) d 152 (97, [.inr (.inr (some 8)), .inl a1, .inl a2, .inl a3, .inl a4, .inl x18], [.inl v23, .inl v22, .inl v21, .inr (.inr (some 22))]) M19 (fun v M' => qWf qCI [22, 23, 67, 69, 70, 71] M M' ∧ qRi (fun x => (-4) ≤ x ∧ x ≤ 9) v) := by
              intro v21 v22 v23 hv21 hv22 hv23
              refine zG_call hd0 hz zp_107 rfl rfl (Nat.le_of_ble_eq_true rfl) ⟨Nat.le_refl _, Nat.le_refl _⟩ (qw_set (by first | exact zdp hd (by decide) | omega) hCM19 (⟨by decide, rfl, rfl⟩ : qT n 22 10 164) v21 (by first | with_reducible exact hv21 | omega) v22 (by first | with_reducible exact hv22 | omega) v23 (by first | with_reducible exact hv23 | omega)) (fun vr M24 hr => ?_)
              obtain ⟨⟨hCM24, hFM24⟩, rfl⟩ := hr
              have hWM24 : qFr [22, 23, 67, 69, 70, 71] M M24 := hWM19.tr hFM24 (by decide)
              show zG n (0, 0) d 152 (100, [.inr (.inr (some 8)), .inl a1, .inl a2, .inl a3, .inl a4, .inl x18], []) M24 _
              refine zG_blk (c' := (115, [.inr (.inr (some 8)), .inl a1, .inl a2, .inl a3, .inl a4, .inl x18], [.inl 83, .inl x18, .inr (.inr (some 22)), .inr (.inr (some 67))])) 7 hd0 hz (by rfl) ?_
              refine zG_call hd0 hz zp_76 rfl rfl (Nat.le_of_ble_eq_true rfl) ⟨Nat.le_refl _, Nat.le_refl _⟩ (qm_76_67_22 (by first | exact zdp hd (by decide) | omega) hCM24  x18 (by omega) 83 (by first | decide | omega)) (fun vr M26 hr => ?_)
              obtain ⟨⟨hCM26, hFM26⟩, rfl⟩ := hr
              have hWM26 : qFr [22, 23, 67, 69, 70, 71] M M26 := hWM24.tr hFM26 (by decide)
              show zG n (0, 0) d 152 (118, [.inr (.inr (some 8)), .inl a1, .inl a2, .inl a3, .inl a4, .inl x18], []) M26 _
              refine zG_blk (c' := (123, [.inr (.inr (some 8)), .inl a1, .inl a2, .inl a3, .inl a4, .inl x18], [.inl a1, .inr (.inr (some 67))])) 3 hd0 hz (by rfl) ?_
              refine zG_call hd0 hz zp_75 rfl rfl (Nat.le_of_ble_eq_true rfl) ⟨Nat.le_refl _, Nat.le_refl _⟩ (qm_75_67 (by first | exact zdp hd (by decide) | omega) hCM26  a1 (by first | with_reducible exact ha1 | omega)) (fun vr M28 hr => ?_)
              obtain ⟨⟨hCM28, hFM28⟩, x29, rfl, hx29⟩ := hr
              have hWM28 : qFr [22, 23, 67, 69, 70, 71] M M28 := hWM26.tr hFM28 (by decide)
              show zG n (0, 0) d 152 (126, [.inr (.inr (some 8)), .inl a1, .inl a2, .inl a3, .inl a4, .inl x18], [.inl x29]) M28 _
              refine zG_blk (c' := (141, [.inr (.inr (some 8)), .inl a1, .inl a2, .inl a3, .inl a4, .inl x18], [.inl 2, .inl x18, .inr (.inr (some 22)), .inr (.inr (some 67))])) 8 hd0 hz (by rfl) ?_
              refine zG_call hd0 hz zp_76 rfl rfl (Nat.le_of_ble_eq_true rfl) ⟨Nat.le_refl _, Nat.le_refl _⟩ (qm_76_67_22 (by first | exact zdp hd (by decide) | omega) hCM28  x18 (by omega) 2 (by first | decide | omega)) (fun vr M30 hr => ?_)
              obtain ⟨⟨hCM30, hFM30⟩, rfl⟩ := hr
              have hWM30 : qFr [22, 23, 67, 69, 70, 71] M M30 := hWM28.tr hFM30 (by decide)
              show zG n (0, 0) d 152 (144, [.inr (.inr (some 8)), .inl a1, .inl a2, .inl a3, .inl a4, .inl x18], []) M30 _
              refine zG_blk (c' := (146, [.inr (.inr (some 8)), .inl a1, .inl a2, .inl a3, .inl a4, .inl x18], [.inl x18])) 1 hd0 hz (by rfl) ?_
              exact zG_ret hd0 hz rfl rfl ⟨⟨hCM30, hWM30⟩, _, rfl, by omega⟩
            refine zG_if_eq hd0 hz rfl (fun hb32 => ?_) (fun hb32 => ?_)
            · refine zG_blk (c' := (97, [.inr (.inr (some 8)), .inl a1, .inl a2, .inl a3, .inl a4, .inl x18], [.inl 0, .inl 1, .inl x18, .inr (.inr (some 22))])) 1 hd0 hz (by rfl) ?_
              exact j97 x18 1 0 (by first | decide | omega) (by omega) (by omega)
            · refine zG_blk (c' := (97, [.inr (.inr (some 8)), .inl a1, .inl a2, .inl a3, .inl a4, .inl x18], [.inl 1, .inl 1, .inl x18, .inr (.inr (some 22))])) 2 hd0 hz (by rfl) ?_
              exact j97 x18 1 1 (by first | decide | omega) (by omega) (by omega)
          · exact j48 M14 hCM14 hWM14
      · exact j21
theorem qm_153_8 {n d : Nat} {M : zM} (hd : 3 ≤ d) (hC : qCI M) (a1 : Int) (ha1 : (-2147483648) ≤ a1 ∧ a1 ≤ 2147483647) (a2 : Int) (ha2 : (-2147483648) ≤ a2 ∧ a2 ≤ 2147483647) : qOkM n d 153 [.inr (.inr (some 8)), .inl a1, .inl a2] 4 qCI [13] M (qRi (fun x => (-2147483648) ≤ x ∧ x ≤ 2147483647)) := by
  have hz := zp_153
  have hd0 : 0 < d := by omega
  have hW : qFr [13] M M := qFr.rfl
  show zG n (0, 0) d 153 (0, [.inr (.inr (some 8)), .inl a1, .inl a2, zN], []) M _
  refine zG_blk (c' := (2, [.inr (.inr (some 8)), .inl a1, .inl a2, zN], [.inl a1, .inr (.inr (some 8))])) 2 hd0 hz (by rfl) ?_
  refine zG_call hd0 hz zp_174 rfl rfl (Nat.le_of_ble_eq_true rfl) ⟨Nat.le_refl _, Nat.le_refl _⟩ (qm_174_8 (by first | exact zdp hd (by decide) | omega) hC  a1 (by first | with_reducible exact ha1 | omega)) (fun vr M1 hr => ?_)
  obtain ⟨hq, x2, rfl, hx2⟩ := hr
  replace hq := hq.symm; subst hq
  show zG n (0, 0) d 153 (5, [.inr (.inr (some 8)), .inl a1, .inl a2, zN], [.inl x2]) M _
  have j28 : zG n (0, 0) d 153 (28, [.inr (.inr (some 8)), .inl a1, .inl a2, zN], []) M (fun v M' => qWf qCI [13] M M' ∧ qRi (fun x => (-2147483648) ≤ x ∧ x ≤ 2147483647) v) := by
    refine zG_blk (c' := (30, [.inr (.inr (some 8)), .inl a1, .inl a2, zN], [.inl (-10)])) 1 hd0 hz (by rfl) ?_
    exact zG_ret hd0 hz rfl rfl ⟨⟨hC, hW⟩, _, rfl, by omega⟩
  refine zG_if_eq hd0 hz rfl (fun hb3 => ?_) (fun hb3 => ?_)
  · exact j28
  · refine zG_blk (c' := (17, [.inr (.inr (some 8)), .inl a1, .inl a2, zN], [.inr (.inr (some 22)), .inl (-1), .inl a2])) 5 hd0 hz (by rfl) ?_
    refine zG_call hd0 hz zp_101 rfl rfl (Nat.le_of_ble_eq_true rfl) ⟨Nat.le_refl _, Nat.le_refl _⟩ (qw_size (by first | exact zdp hd (by decide) | omega) hC (⟨by decide, rfl, rfl⟩ : qT n 22 10 164) ) (fun vr M4 hr => ?_)
    obtain ⟨hq, x5, rfl, hx5⟩ := hr
    replace hq := hq.symm; subst hq
    show zG n (0, 0) d 153 (20, [.inr (.inr (some 8)), .inl a1, .inl a2, zN], [.inl x5, .inl (-1), .inl a2]) M _
    obtain ⟨x6, hx6⟩ : ∃ x : Int, x = w32 (x5 - 1) := ⟨_, rfl⟩
    have hx6e : x6 = x5 - 1 := by rw [hx6]; exact w32_id (by omega)
    refine zG_blk (c' := (22, [.inr (.inr (some 8)), .inl a1, .inl a2, zN], [.inl x6, .inl (-1), .inl a2])) 2 hd0 hz (by subst hx6; rfl) ?_
    refine zG_call hd0 hz zp_169 rfl rfl (Nat.le_of_ble_eq_true rfl) ⟨Nat.le_refl _, Nat.le_refl _⟩ (qm_169 (by first | exact zdp hd (by decide) | omega) hC  a2 (by first | with_reducible exact ha2 | omega) (-1) (by first | decide | omega) x6 (by omega)) (fun vr M7 hr => ?_)
    obtain ⟨hq, x8, rfl, hx8⟩ := hr
    replace hq := hq.symm; subst hq
    show zG n (0, 0) d 153 (25, [.inr (.inr (some 8)), .inl a1, .inl a2, zN], [.inl x8]) M _
    refine zG_if_ne hd0 hz rfl (fun hb9 => ?_) (fun hb9 => ?_)
    · refine zG_blk (c' := (40, [.inr (.inr (some 8)), .inl a1, .inl a2, zN], [.inl 1, .inl a1, .inr (.inr (some 12))])) 5 hd0 hz (by rfl) ?_
      refine zG_call hd0 hz zp_106 rfl rfl (Nat.le_of_ble_eq_true rfl) ⟨Nat.le_refl _, Nat.le_refl _⟩ (qw_get (by first | exact zdp hd (by decide) | omega) hC (⟨by decide, rfl, rfl⟩ : qT n 12 20 3) a1 (by first | with_reducible exact ha1 | omega) 1 (by first | decide | omega)) (fun vr M10 hr => ?_)
      obtain ⟨hq, x11, rfl, hx11⟩ := hr
      replace hq := hq.symm; subst hq
      show zG n (0, 0) d 153 (43, [.inr (.inr (some 8)), .inl a1, .inl a2, zN], [.inl x11]) M _
      refine zG_blk (c' := (54, [.inr (.inr (some 8)), .inl a1, .inl a2, .inl x11], [.inl a2, .inl 1, .inl a1, .inr (.inr (some 12))])) 7 hd0 hz (by rfl) ?_
      refine zG_call hd0 hz zp_107 rfl rfl (Nat.le_of_ble_eq_true rfl) ⟨Nat.le_refl _, Nat.le_refl _⟩ (qw_set (by first | exact zdp hd (by decide) | omega) hC (⟨by decide, rfl, rfl⟩ : qT n 12 20 3) a1 (by first | with_reducible exact ha1 | omega) 1 (by first | decide | omega) a2 (by first | with_reducible exact ha2 | omega)) (fun vr M12 hr => ?_)
      obtain ⟨⟨hCM12, hFM12⟩, rfl⟩ := hr
      have hWM12 : qFr [13] M M12 := hW.tr hFM12 (by decide)
      show zG n (0, 0) d 153 (57, [.inr (.inr (some 8)), .inl a1, .inl a2, .inl x11], []) M12 _
      refine zG_blk (c' := (58, [.inr (.inr (some 8)), .inl a1, .inl a2, .inl x11], [.inl x11])) 1 hd0 hz (by rfl) ?_
      exact zG_ret hd0 hz rfl rfl ⟨⟨hCM12, hWM12⟩, _, rfl, by omega⟩
    · exact j28
theorem qm_154_8 {n d : Nat} {M : zM} (hd : 4 ≤ d) (hC : qCI M) (a1 : Int) (ha1 : (-2147483648) ≤ a1 ∧ a1 ≤ 2147483647) (a2 : Int) (ha2 : (-2147483648) ≤ a2 ∧ a2 ≤ 2147483647) : qOkP n d 154 [.inr (.inr (some 8)), .inl a1, .inl a2] 3 M (qRi (fun x => (-2147483648) ≤ x ∧ x ≤ 2147483647)) := by
  have hz := zp_154
  have hd0 : 0 < d := by omega
  show zG n (0, 0) d 154 (0, [.inr (.inr (some 8)), .inl a1, .inl a2], []) M _
  refine zG_blk (c' := (2, [.inr (.inr (some 8)), .inl a1, .inl a2], [.inl a1, .inr (.inr (some 8))])) 2 hd0 hz (by rfl) ?_
  refine zG_call hd0 hz zp_174 rfl rfl (Nat.le_of_ble_eq_true rfl) ⟨Nat.le_refl _, Nat.le_refl _⟩ (qm_174_8 (by first | exact zdp hd (by decide) | omega) hC  a1 (by first | with_reducible exact ha1 | omega)) (fun vr M1 hr => ?_)
  obtain ⟨hq, x2, rfl, hx2⟩ := hr
  replace hq := hq.symm; subst hq
  show zG n (0, 0) d 154 (5, [.inr (.inr (some 8)), .inl a1, .inl a2], [.inl x2]) M _
  have j29 : ∀ (v3 : Int) , (-2147483648) ≤ v3 ∧ v3 ≤ 2147483647 → zG n (0, 0) d 154 (29, [.inr (.inr (some 8)), .inl a1, .inl a2], [.inl v3]) M (fun v M' => M' = M ∧ qRi (fun x => (-2147483648) ≤ x ∧ x ≤ 2147483647) v) := by
    intro v3 hv3
    exact zG_ret hd0 hz rfl rfl ⟨rfl, _, rfl, by omega⟩
  have j27 : zG n (0, 0) d 154 (27, [.inr (.inr (some 8)), .inl a1, .inl a2], []) M (fun v M' => M' = M ∧ qRi (fun x => (-2147483648) ≤ x ∧ x ≤ 2147483647) v) := by
    refine zG_blk (c' := (29, [.inr (.inr (some 8)), .inl a1, .inl a2], [.inl (-2)])) 1 hd0 hz (by rfl) ?_
    exact j29 (-2) (by first | decide | omega)
  refine zG_if_eq hd0 hz rfl (fun hb4 => ?_) (fun hb4 => ?_)
  · exact j27
  · refine zG_blk (c' := (9, [.inr (.inr (some 8)), .inl a1, .inl a2], [.inl a2])) 1 hd0 hz (by rfl) ?_
    refine zG_call hd0 hz zp_170 rfl rfl (Nat.le_of_ble_eq_true rfl) ⟨Nat.le_refl _, Nat.le_refl _⟩ (qm_170 (by first | exact zdp hd (by decide) | omega) hC  a2 (by first | with_reducible exact ha2 | omega)) (fun vr M5 hr => ?_)
    obtain ⟨hq, x6, rfl, hx6⟩ := hr
    replace hq := hq.symm; subst hq
    show zG n (0, 0) d 154 (12, [.inr (.inr (some 8)), .inl a1, .inl a2], [.inl x6]) M _
    refine zG_if_eq hd0 hz rfl (fun hb7 => ?_) (fun hb7 => ?_)
    · exact j27
    · refine zG_blk (c' := (21, [.inr (.inr (some 8)), .inl a1, .inl a2], [.inl a2, .inl a1, .inr (.inr (some 76))])) 4 hd0 hz (by rfl) ?_
      refine zG_call hd0 hz zp_29 rfl rfl (Nat.le_of_ble_eq_true rfl) ⟨Nat.le_refl _, Nat.le_refl _⟩ (qm_29_76 (by first | exact zdp hd (by decide) | omega) hC  a1 (by first | with_reducible exact ha1 | omega) a2 (by first | with_reducible exact ha2 | omega)) (fun vr M8 hr => ?_)
      obtain ⟨hq, x9, rfl, hx9⟩ := hr
      replace hq := hq.symm; subst hq
      show zG n (0, 0) d 154 (24, [.inr (.inr (some 8)), .inl a1, .inl a2], [.inl x9]) M _
      refine zG_blk (c' := (29, [.inr (.inr (some 8)), .inl a1, .inl a2], [.inl x9])) 1 hd0 hz (by rfl) ?_
      exact j29 x9 (by omega)
