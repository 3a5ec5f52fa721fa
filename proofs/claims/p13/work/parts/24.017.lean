theorem qm_310 {n d : Nat} {M : zM} (hd : 1 ≤ d) (hC : qCI M) (a0 : Int) (ha0 : 0 ≤ a0 ∧ a0 ≤ 81) (a1 : Int) (ha1 : 82 ≤ a1 ∧ a1 ≤ 82) : qOkP n d 310 [.inl a0, .inl a1, zN] 3 M (qRi (fun x => 0 ≤ x ∧ x ≤ 81)) := by
  have hz := zp_310
  have hd0 : 0 < d := by omega
  show zG n (0, 0) d 310 (0, [.inl a0, .inl a1, zN], []) M _
  refine zG_blk (c' := (1, [.inl a0, .inl a1, zN], [.inl a0])) 1 hd0 hz (by rfl) ?_
  refine zG_if_lt hd0 hz rfl (fun hb1 => ?_) (fun hb1 => ?_)
  · exfalso; omega
  · refine zG_blk (c' := (6, [.inl a0, .inl a1, zN], [.inl a1, .inl a0])) 2 hd0 hz (by rfl) ?_
    refine zG_icmp_lt hd0 hz rfl (fun hb2 => ?_) (fun hb2 => ?_)
    · refine zG_blk (c' := (17, [.inl a0, .inl a1, zN], [.inl a0])) 1 hd0 hz (by rfl) ?_
      exact zG_ret hd0 hz rfl rfl ⟨rfl, _, rfl, by omega⟩
    · exfalso; omega
theorem qm_305 {n d : Nat} {M : zM} (hd : 2 ≤ d) (hC : qCI M) (a0 : Int) (ha0 : 0 ≤ a0 ∧ a0 ≤ 81) (a1 : Int) (ha1 : 82 ≤ a1 ∧ a1 ≤ 82) : qOkP n d 305 [.inl a0, .inl a1] 2 M qRn := by
  have hz := zp_305
  have hd0 : 0 < d := by omega
  show zG n (0, 0) d 305 (0, [.inl a0, .inl a1], []) M _
  refine zG_blk (c' := (5, [.inl a0, .inl a1], [zN, .inl a1, .inl a0])) 3 hd0 hz (by rfl) ?_
  refine zG_call hd0 hz zp_310 rfl rfl (Nat.le_of_ble_eq_true rfl) ⟨Nat.le_refl _, Nat.le_refl _⟩ (qm_310 (by first | exact zdp hd (by decide) | omega) hC  a0 (by first | with_reducible exact ha0 | omega) a1 (by first | with_reducible exact ha1 | omega)) (fun vr M1 hr => ?_)
  obtain ⟨hq, x2, rfl, hx2⟩ := hr
  replace hq := hq.symm; subst hq
  show zG n (0, 0) d 305 (8, [.inl a0, .inl a1], [.inl x2]) M _
  refine zG_blk (c' := (9, [.inl a0, .inl a1], [])) 1 hd0 hz (by rfl) ?_
  exact zG_ret hd0 hz rfl rfl ⟨rfl, rfl⟩
theorem qm_306_5 {n d : Nat} {M : zM} (hd : 3 ≤ d) (hC : qCI M) (a1 : Int) (ha1 : 0 ≤ a1 ∧ a1 ≤ 81) : qOkP n d 306 [.inr (.inr (some 5)), .inl a1] 2 M (qRi (fun x => 0 ≤ x ∧ x ≤ 65535)) := by
  have hz := zp_306
  have hd0 : 0 < d := by omega
  show zG n (0, 0) d 306 (0, [.inr (.inr (some 5)), .inl a1], []) M _
  refine zG_blk (c' := (3, [.inr (.inr (some 5)), .inl a1], [.inl 82, .inl a1])) 3 hd0 hz (by rfl) ?_
  refine zG_call hd0 hz zp_305 rfl rfl (Nat.le_of_ble_eq_true rfl) ⟨Nat.le_refl _, Nat.le_refl _⟩ (qm_305 (by first | exact zdp hd (by decide) | omega) hC  a1 (by first | with_reducible exact ha1 | omega) 82 (by first | decide | omega)) (fun vr M1 hr => ?_)
  obtain ⟨hq, rfl⟩ := hr
  replace hq := hq.symm; subst hq
  show zG n (0, 0) d 306 (6, [.inr (.inr (some 5)), .inl a1], []) M _
  refine zG_blk (c' := (8, [.inr (.inr (some 5)), .inl a1], [.inl a1, .inr (.inr (some 5))])) 2 hd0 hz (by rfl) ?_
  refine zG_bald hd0 hz rfl rfl (.inr rfl) (by omega) ?_
  have hx3 := hC.rng 5 (a1 : Int).toNat (by decide) (by decide)
  generalize M 5 (a1 : Int).toNat = x3 at hx3 ⊢
  show zG n (0, 0) d 306 (9, [.inr (.inr (some 5)), .inl a1], [.inl x3]) M _
  obtain ⟨x4, hx4⟩ : ∃ x : Int, x = zband x3 255 := ⟨_, rfl⟩
  have hx4r := qband_r x3 255 (by first | decide | omega) (by omega); rw [← hx4] at hx4r
  obtain ⟨x5, hx5⟩ : ∃ x : Int, x = x4 % 65536 := ⟨_, rfl⟩
  refine zG_blk (c' := (14, [.inr (.inr (some 5)), .inl a1], [.inl x5])) 3 hd0 hz (by subst hx5; subst hx4; rfl) ?_
  exact zG_ret hd0 hz rfl (if_pos (by omega)) ⟨rfl, _, rfl, by omega⟩
theorem qm_299_4 {n d : Nat} {M : zM} (hd : 4 ≤ d) (hC : qCI M) (a1 : Int) (ha1 : 0 ≤ a1 ∧ a1 ≤ 81) : qOkP n d 299 [.inr (.inr (some 4)), .inl a1] 2 M (qRi (fun x => 0 ≤ x ∧ x ≤ 65535)) := by
  have hz := zp_299
  have hd0 : 0 < d := by omega
  show zG n (0, 0) d 299 (0, [.inr (.inr (some 4)), .inl a1], []) M _
  refine zG_blk (c' := (1, [.inr (.inr (some 4)), .inl a1], [.inr (.inr (some 4))])) 1 hd0 hz (by rfl) ?_
  refine zG_call hd0 hz zp_304 rfl rfl (Nat.le_of_ble_eq_true rfl) ⟨Nat.le_refl _, Nat.le_refl _⟩ (qm_304_4 (by first | exact zdp hd (by decide) | omega) hC  ) (fun vr M1 hr => ?_)
  obtain ⟨hq, x2, rfl, hx2⟩ := hr
  replace hq := hq.symm; subst hq
  show zG n (0, 0) d 299 (4, [.inr (.inr (some 4)), .inl a1], [.inl x2]) M _
  refine zG_if_eq hd0 hz rfl (fun hb3 => ?_) (fun hb3 => ?_)
  · exfalso; omega
  · refine zG_blk (c' := (12, [.inr (.inr (some 4)), .inl a1], [.inl a1, .inr (.inr (some 5))])) 3 hd0 hz (by rfl) ?_
    refine zG_call hd0 hz zp_306 rfl rfl (Nat.le_of_ble_eq_true rfl) ⟨Nat.le_refl _, Nat.le_refl _⟩ (qm_306_5 (by first | exact zdp hd (by decide) | omega) hC  a1 (by first | with_reducible exact ha1 | omega)) (fun vr M4 hr => ?_)
    obtain ⟨hq, x5, rfl, hx5⟩ := hr
    replace hq := hq.symm; subst hq
    show zG n (0, 0) d 299 (15, [.inr (.inr (some 4)), .inl a1], [.inl x5]) M _
    exact zG_ret hd0 hz rfl (if_pos (by omega)) ⟨rfl, _, rfl, by omega⟩
theorem qm_96_67 {n d : Nat} {M : zM} (hd : 5 ≤ d) (hC : qCI M)  : qOkP n d 96 [.inr (.inr (some 67))] 6 M (qRi (fun x => (-2147483648) ≤ x ∧ x ≤ 2147483647)) := by
  have hz := zp_96
  have hd0 : 0 < d := by omega
  show zG n (0, 0) d 96 (0, [.inr (.inr (some 67)), zN, zN, zN, zN, zN], []) M _
  have r1 := hC.rng 67 5 (by decide) (by decide)
  refine zG_blk (c' := (12, [.inr (.inr (some 67)), .inl 0, .inl (M 67 5), .inl 1, .inl 0, zN], [])) 9 hd0 hz (by rfl) ?_
  have j12 : ∀ (N : Nat) (v2 v3 v4 v5 : Int) , (82 - v5 : Int).toNat < N → (-2147483648) ≤ v2 ∧ v2 ≤ 2147483647 → (-2147483648) ≤ v3 ∧ v3 ≤ 2147483647 → 0 ≤ v4 ∧ v4 ≤ 1 → 0 ≤ v5 ∧ v5 ≤ 82 → zG n (0, 0) d 96 (12, [.inr (.inr (some 67)), .inl v2, .inl v3, .inl v4, .inl v5, zN], []) M (fun v M' => M' = M ∧ qRi (fun x => (-2147483648) ≤ x ∧ x ≤ 2147483647) v) := by
    intro N
    induction N with
    | zero => intro v2 v3 v4 v5 hN hv2 hv3 hv4 hv5; exact absurd hN (Nat.not_lt_zero _)
    | succ N ih12 =>
      intro v2 v3 v4 v5 hN hv2 hv3 hv4 hv5
      refine zG_blk (c' := (16, [.inr (.inr (some 67)), .inl v2, .inl v3, .inl v4, .inl v5, zN], [.inr (.inr (some 4)), .inl v5])) 2 hd0 hz (by rfl) ?_
      refine zG_call hd0 hz zp_302 rfl rfl (Nat.le_of_ble_eq_true rfl) ⟨Nat.le_refl _, Nat.le_refl _⟩ (qm_302_4 (by first | exact zdp hd (by decide) | omega) hC  ) (fun vr M6 hr => ?_)
      obtain ⟨hq, x7, rfl, hx7⟩ := hr
      replace hq := hq.symm; subst hq
      show zG n (0, 0) d 96 (19, [.inr (.inr (some 67)), .inl v2, .inl v3, .inl v4, .inl v5, zN], [.inl x7, .inl v5]) M _
      refine zG_icmp_ge hd0 hz rfl (fun hb8 => ?_) (fun hb8 => ?_)
      · refine zG_blk (c' := (103, [.inr (.inr (some 67)), .inl v2, .inl v3, .inl v4, .inl v5, zN], [.inl (-1)])) 1 hd0 hz (by rfl) ?_
        exact zG_ret hd0 hz rfl rfl ⟨rfl, _, rfl, by omega⟩
      · refine zG_blk (c' := (26, [.inr (.inr (some 67)), .inl v2, .inl v3, .inl v4, .inl v5, zN], [.inl v5, .inr (.inr (some 4))])) 2 hd0 hz (by rfl) ?_
        refine zG_call hd0 hz zp_299 rfl rfl (Nat.le_of_ble_eq_true rfl) ⟨Nat.le_refl _, Nat.le_refl _⟩ (qm_299_4 (by first | exact zdp hd (by decide) | omega) hC  v5 (by first | with_reducible exact hv5 | omega)) (fun vr M9 hr => ?_)
        obtain ⟨hq, x10, rfl, hx10⟩ := hr
        replace hq := hq.symm; subst hq
        show zG n (0, 0) d 96 (29, [.inr (.inr (some 67)), .inl v2, .inl v3, .inl v4, .inl v5, zN], [.inl x10]) M _
        refine zG_blk (c' := (35, [.inr (.inr (some 67)), .inl v2, .inl v3, .inl v4, .inl v5, .inl x10], [.inl 32, .inl x10])) 3 hd0 hz (by rfl) ?_
        have j96 : ∀ (v11 v12 v13 : Int) , (-2147483648) ≤ v11 ∧ v11 ≤ 2147483647 → (-2147483648) ≤ v12 ∧ v12 ≤ 2147483647 → 0 ≤ v13 ∧ v13 ≤ 1 → zG n (0, 0) d 96 (96, [.inr (.inr (some 67)), .inl v11, .inl v12, .inl v13, .inl v5, .inl x10], []) M (fun v M' => M' = M ∧ qRi (fun x => (-2147483648) ≤ x ∧ x ≤ 2147483647) v) := by
          intro v11 v12 v13 hv11 hv12 hv13
          obtain ⟨x14, hx14⟩ : ∃ x : Int, x = w32 (v5 + 1) := ⟨_, rfl⟩
          have hx14e : x14 = v5 + 1 := by rw [hx14]; exact w32_id (by omega)
          refine zG_blk (c' := (12, [.inr (.inr (some 67)), .inl v11, .inl v12, .inl v13, .inl x14, .inl x10], [])) 2 hd0 hz (by subst hx14; rfl) ?_
          exact zG_weak (ih12 v11 v12 v13 x14 (by omega) (by omega) (by omega) (by omega) (by omega)) ⟨.inr rfl, .inr rfl, .inr rfl, .inr rfl, .inr rfl, .inl rfl, trivial⟩
        refine zG_icmp_ne hd0 hz rfl (fun hb15 => ?_) (fun hb15 => ?_)
        · refine zG_blk (c' := (66, [.inr (.inr (some 67)), .inl v2, .inl v3, .inl v4, .inl v5, .inl x10], [.inl v4])) 1 hd0 hz (by rfl) ?_
          have j92 : ∀ (v16 : Int) , 0 ≤ v16 ∧ v16 ≤ 1 → zG n (0, 0) d 96 (92, [.inr (.inr (some 67)), .inl v2, .inl v3, .inl v4, .inl v5, .inl x10], [.inl v16]) M (fun v M' => M' = M ∧ qRi (fun x => (-2147483648) ≤ x ∧ x ≤ 2147483647) v) := by
            intro v16 hv16
            obtain ⟨x17, hx17⟩ : ∃ x : Int, x = w32 (v3 + 1) := ⟨_, rfl⟩
            have hx17r : x17 = (v3 + 1 + 2147483648) % 4294967296 - 2147483648 := hx17
            refine zG_blk (c' := (96, [.inr (.inr (some 67)), .inl v2, .inl x17, .inl v16, .inl v5, .inl x10], [])) 2 hd0 hz (by subst hx17; rfl) ?_
            exact j96 v2 x17 v16 (by first | with_reducible exact hv16 | omega) (by omega) (by omega)
          have j91 : zG n (0, 0) d 96 (91, [.inr (.inr (some 67)), .inl v2, .inl v3, .inl v4, .inl v5, .inl x10], []) M (fun v M' => M' = M ∧ qRi (fun x => (-2147483648) ≤ x ∧ x ≤ 2147483647) v) := by
            refine zG_blk (c' := (92, [.inr (.inr (some 67)), .inl v2, .inl v3, .inl v4, .inl v5, .inl x10], [.inl 0])) 1 hd0 hz (by rfl) ?_
            exact j92 0 (by first | decide | omega)
          refine zG_if_eq hd0 hz rfl (fun hb18 => ?_) (fun hb18 => ?_)
          · exact j91
          · have r19 := hC.rng 67 6 (by decide) (by decide)
            refine zG_blk (c' := (74, [.inr (.inr (some 67)), .inl v2, .inl v3, .inl v4, .inl v5, .inl x10], [.inl (M 67 6), .inl v3])) 3 hd0 hz (by rfl) ?_
            refine zG_icmp_ge hd0 hz rfl (fun hb20 => ?_) (fun hb20 => ?_)
            · exact j91
            · refine zG_blk (c' := (79, [.inr (.inr (some 67)), .inl v2, .inl v3, .inl v4, .inl v5, .inl x10], [.inl v3, .inr (.inr (some 67))])) 2 hd0 hz (by rfl) ?_
              refine zG_call hd0 hz zp_97 rfl rfl (Nat.le_of_ble_eq_true rfl) ⟨Nat.le_refl _, Nat.le_refl _⟩ (qm_97_67 (by first | exact zdp hd (by decide) | omega) hC  v3 (by first | with_reducible exact hv3 | omega)) (fun vr M21 hr => ?_)
              obtain ⟨hq, x22, rfl, hx22⟩ := hr
              replace hq := hq.symm; subst hq
              show zG n (0, 0) d 96 (82, [.inr (.inr (some 67)), .inl v2, .inl v3, .inl v4, .inl v5, .inl x10], [.inl x22]) M _
              refine zG_blk (c' := (84, [.inr (.inr (some 67)), .inl v2, .inl v3, .inl v4, .inl v5, .inl x10], [.inl x10, .inl x22])) 1 hd0 hz (by rfl) ?_
              refine zG_icmp_ne hd0 hz rfl (fun hb23 => ?_) (fun hb23 => ?_)
              · exact j91
              · refine zG_blk (c' := (92, [.inr (.inr (some 67)), .inl v2, .inl v3, .inl v4, .inl v5, .inl x10], [.inl 1])) 2 hd0 hz (by rfl) ?_
                exact j92 1 (by first | decide | omega)
        · refine zG_blk (c' := (39, [.inr (.inr (some 67)), .inl v2, .inl v3, .inl v4, .inl v5, .inl x10], [.inl v4])) 1 hd0 hz (by rfl) ?_
          have j52 : zG n (0, 0) d 96 (52, [.inr (.inr (some 67)), .inl v2, .inl v3, .inl v4, .inl v5, .inl x10], []) M (fun v M' => M' = M ∧ qRi (fun x => (-2147483648) ≤ x ∧ x ≤ 2147483647) v) := by
            obtain ⟨x24, hx24⟩ : ∃ x : Int, x = w32 (v2 + 1) := ⟨_, rfl⟩
            have hx24r : x24 = (v2 + 1 + 2147483648) % 4294967296 - 2147483648 := hx24
            refine zG_blk (c' := (96, [.inr (.inr (some 67)), .inl x24, .inl (M 67 5), .inl 1, .inl v5, .inl x10], [])) 7 hd0 hz (by subst hx24; rfl) ?_
            exact j96 x24 (M 67 5) 1 (by first | decide | omega) (by omega) (by omega)
          refine zG_if_eq hd0 hz rfl (fun hb25 => ?_) (fun hb25 => ?_)
          · exact j52
          · have r26 := hC.rng 67 6 (by decide) (by decide)
            refine zG_blk (c' := (47, [.inr (.inr (some 67)), .inl v2, .inl v3, .inl v4, .inl v5, .inl x10], [.inl (M 67 6), .inl v3])) 3 hd0 hz (by rfl) ?_
            refine zG_icmp_ne hd0 hz rfl (fun hb27 => ?_) (fun hb27 => ?_)
            · exact j52
            · refine zG_blk (c' := (51, [.inr (.inr (some 67)), .inl v2, .inl v3, .inl v4, .inl v5, .inl x10], [.inl v2])) 1 hd0 hz (by rfl) ?_
              exact zG_ret hd0 hz rfl rfl ⟨rfl, _, rfl, by omega⟩
  exact j12 ((82 - 0 : Int).toNat + 1) 0 (M 67 5) 1 0 (by first | decide | omega) (by omega) (by omega) (by omega) (by omega)
