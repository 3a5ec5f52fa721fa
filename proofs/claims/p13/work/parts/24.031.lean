theorem qm_12_92 {n d : Nat} {M : zM} (hd : 2 ≤ d) (hC : qCI M) (a1 : Int) (ha1 : (-2147483648) ≤ a1 ∧ a1 ≤ 2147483647) : qOkM n d 12 [.inr (.inr (some 92)), .inl a1] 3 qCI [93, 94] M qRn := by
  have hz := zp_12
  have hd0 : 0 < d := by omega
  have hW : qFr [93, 94] M M := qFr.rfl
  show zG n (0, 0) d 12 (0, [.inr (.inr (some 92)), .inl a1, zN], []) M _
  refine zG_blk (c' := (5, [.inr (.inr (some 92)), .inl a1, zN], [.inr (.inl (0)), .inr (.inr (some 93))])) 3 hd0 hz (by rfl) ?_
  refine zG_call hd0 hz zp_298 rfl rfl (Nat.le_of_ble_eq_true rfl) ⟨Nat.le_refl _, Nat.le_refl _⟩ (qm_298_93 (by first | exact zdp hd (by decide) | omega) hC  0) (fun vr M1 hr => ?_)
  obtain ⟨⟨hCM1, hFM1⟩, rfl⟩ := hr
  have hWM1 : qFr [93, 94] M M1 := hW.tr hFM1 (by decide)
  show zG n (0, 0) d 12 (8, [.inr (.inr (some 92)), .inl a1, zN], []) M1 _
  refine zG_blk (c' := (13, [.inr (.inr (some 92)), .inl a1, zN], [.inr (.inl (0)), .inr (.inr (some 94))])) 3 hd0 hz (by rfl) ?_
  refine zG_call hd0 hz zp_298 rfl rfl (Nat.le_of_ble_eq_true rfl) ⟨Nat.le_refl _, Nat.le_refl _⟩ (qm_298_94 (by first | exact zdp hd (by decide) | omega) hCM1  0) (fun vr M3 hr => ?_)
  obtain ⟨⟨hCM3, hFM3⟩, rfl⟩ := hr
  have hWM3 : qFr [93, 94] M M3 := hWM1.tr hFM3 (by decide)
  show zG n (0, 0) d 12 (16, [.inr (.inr (some 92)), .inl a1, zN], []) M3 _
  refine zG_blk (c' := (22, [.inr (.inr (some 92)), .inl a1, zN], [.inr (.inl (1)), .inl 0, .inr (.inr (some 93))])) 4 hd0 hz (by rfl) ?_
  refine zG_last hd0 hz rfl rfl (by omega) ?_
  obtain ⟨M5, hM5⟩ : ∃ X : zM, X = zput M3 93 (0 : Int).toNat 1 := ⟨_, rfl⟩
  rw [← hM5]
  have hCM5 : qCI M5 := by rw [hM5]; exact hCM3.put (r := 93) rfl (.inr (.inl (by decide)))
  have hWM5 : qFr [93, 94] M M5 := by rw [hM5]; exact hWM3.put (by decide)
  show zG n (0, 0) d 12 (23, [.inr (.inr (some 92)), .inl a1, zN], []) M5 _
  refine zG_blk (c' := (29, [.inr (.inr (some 92)), .inl a1, zN], [.inr (.inl (1)), .inl 0, .inr (.inr (some 94))])) 4 hd0 hz (by rfl) ?_
  refine zG_last hd0 hz rfl rfl (by omega) ?_
  obtain ⟨M6, hM6⟩ : ∃ X : zM, X = zput M5 94 (0 : Int).toNat 1 := ⟨_, rfl⟩
  rw [← hM6]
  have hCM6 : qCI M6 := by rw [hM6]; exact hCM5.put (r := 94) rfl (.inr (.inl (by decide)))
  have hWM6 : qFr [93, 94] M M6 := by rw [hM6]; exact hWM5.put (by decide)
  show zG n (0, 0) d 12 (30, [.inr (.inr (some 92)), .inl a1, zN], []) M6 _
  refine zG_blk (c' := (32, [.inr (.inr (some 92)), .inl a1, .inl 0], [])) 2 hd0 hz (by rfl) ?_
  have j32 : ∀ (N : Nat) (v7 : Int) (M8 : zM) , (a1 - v7 : Int).toNat < N → 0 ≤ v7 ∧ v7 ≤ 2147483647 → qCI M8 → qFr [93, 94] M M8 → zG n (0, 0) d 12 (32, [.inr (.inr (some 92)), .inl a1, .inl v7], []) M8 (fun v M' => qWf qCI [93, 94] M M' ∧ qRn v) := by
    intro N
    induction N with
    | zero => intro v7 M8 hN hv7 hCM8 hWM8; exact absurd hN (Nat.not_lt_zero _)
    | succ N ih32 =>
      intro v7 M8 hN hv7 hCM8 hWM8
      refine zG_blk (c' := (34, [.inr (.inr (some 92)), .inl a1, .inl v7], [.inl a1, .inl v7])) 2 hd0 hz (by rfl) ?_
      refine zG_icmp_ge hd0 hz rfl (fun hb9 => ?_) (fun hb9 => ?_)
      · exact zG_ret hd0 hz rfl rfl ⟨⟨hCM8, hWM8⟩, rfl⟩
      · have r10 := hCM8.rng 92 5 (by decide) (by decide)
        obtain ⟨x11, hx11⟩ : ∃ x : Int, x = w32 ((M8 92 5) - v7) := ⟨_, rfl⟩
        have hx11r : x11 = ((M8 92 5) - v7 + 2147483648) % 4294967296 - 2147483648 := hx11
        refine zG_blk (c' := (47, [.inr (.inr (some 92)), .inl a1, .inl v7], [.inl x11, .inr (.inr (some 93))])) 6 hd0 hz (by subst hx11; rfl) ?_
        refine zG_call hd0 hz zp_13 rfl rfl (Nat.le_of_ble_eq_true rfl) ⟨Nat.le_refl _, Nat.le_refl _⟩ (qm_13_93 (by first | exact zdp hd (by decide) | omega) hCM8  x11 (by omega)) (fun vr M12 hr => ?_)
        obtain ⟨⟨hCM12, hFM12⟩, rfl⟩ := hr
        have hWM12 : qFr [93, 94] M M12 := hWM8.tr hFM12 (by decide)
        have e14 : M12 92 5 = M8 92 5 := hFM12 92 5 (by decide)
        show zG n (0, 0) d 12 (50, [.inr (.inr (some 92)), .inl a1, .inl v7], []) M12 _
        obtain ⟨x15, hx15⟩ : ∃ x : Int, x = w32 (v7 + 1) := ⟨_, rfl⟩
        have hx15e : x15 = v7 + 1 := by rw [hx15]; exact w32_id (by omega)
        refine zG_blk (c' := (57, [.inr (.inr (some 92)), .inl a1, .inl v7], [.inl x15, .inr (.inr (some 93))])) 5 hd0 hz (by subst hx15; rfl) ?_
        refine zG_call hd0 hz zp_14 rfl rfl (Nat.le_of_ble_eq_true rfl) ⟨Nat.le_refl _, Nat.le_refl _⟩ (qm_14_93 (by first | exact zdp hd (by decide) | omega) hCM12  x15 (by omega)) (fun vr M16 hr => ?_)
        obtain ⟨⟨hCM16, hFM16⟩, rfl⟩ := hr
        have hWM16 : qFr [93, 94] M M16 := hWM12.tr hFM16 (by decide)
        have e18 : M16 92 5 = M12 92 5 := hFM16 92 5 (by decide)
        show zG n (0, 0) d 12 (60, [.inr (.inr (some 92)), .inl a1, .inl v7], []) M16 _
        refine zG_blk (c' := (61, [.inr (.inr (some 92)), .inl a1, .inl v7], [.inr (.inr (some 92))])) 1 hd0 hz (by rfl) ?_
        refine zG_call hd0 hz zp_15 rfl rfl (Nat.le_of_ble_eq_true rfl) ⟨Nat.le_refl _, Nat.le_refl _⟩ (qm_15_92 (by first | exact zdp hd (by decide) | omega) hCM16  ) (fun vr M19 hr => ?_)
        obtain ⟨⟨hCM19, hFM19⟩, rfl⟩ := hr
        have hWM19 : qFr [93, 94] M M19 := hWM16.tr hFM19 (by decide)
        have e21 : M19 92 5 = M16 92 5 := hFM19 92 5 (by decide)
        show zG n (0, 0) d 12 (64, [.inr (.inr (some 92)), .inl a1, .inl v7], []) M19 _
        obtain ⟨x22, hx22⟩ : ∃ x : Int, x = w32 (v7 + 1) := ⟨_, rfl⟩
        have hx22e : x22 = v7 + 1 := by rw [hx22]; exact w32_id (by omega)
        refine zG_blk (c' := (32, [.inr (.inr (some 92)), .inl a1, .inl x22], [])) 2 hd0 hz (by subst hx22; rfl) ?_
        exact ih32 x22 M19 (by omega) (by omega) hCM19 hWM19
  exact j32 ((a1 - 0 : Int).toNat + 1) 0 M6 (by omega) (by omega) hCM6 hWM6
theorem qm_13_94 {n d : Nat} {M : zM} (hd : 1 ≤ d) (hC : qCI M) (a1 : Int) (ha1 : (-2147483648) ≤ a1 ∧ a1 ≤ 2147483647) : qOkM n d 13 [.inr (.inr (some 94)), .inl a1] 5 qCI [94] M qRn := by
  have hz := zp_13
  have hd0 : 0 < d := by omega
  have hW : qFr [94] M M := qFr.rfl
  show zG n (0, 0) d 13 (0, [.inr (.inr (some 94)), .inl a1, zN, zN, zN], []) M _
  refine zG_blk (c' := (5, [.inr (.inr (some 94)), .inl a1, .inr (.inl (0)), zN, .inl 0], [])) 4 hd0 hz (by rfl) ?_
  have j5 : ∀ (N : Nat) (v1 v2 : Int) (M3 : zM) , (10 - v2 : Int).toNat < N → 0 ≤ v2 ∧ v2 ≤ 10 → qCI M3 → qFr [94] M M3 → zG n (0, 0) d 13 (5, [.inr (.inr (some 94)), .inl a1, .inr (.inl (v1)), zN, .inl v2], []) M3 (fun v M' => qWf qCI [94] M M' ∧ qRn v) := by
    intro N
    induction N with
    | zero => intro v1 v2 M3 hN hv2 hCM3 hWM3; exact absurd hN (Nat.not_lt_zero _)
    | succ N ih5 =>
      intro v1 v2 M3 hN hv2 hCM3 hWM3
      refine zG_blk (c' := (9, [.inr (.inr (some 94)), .inl a1, .inr (.inl (v1)), zN, .inl v2], [.inl 10, .inl v2])) 3 hd0 hz (by rfl) ?_
      refine zG_icmp_ge hd0 hz rfl (fun hb4 => ?_) (fun hb4 => ?_)
      · exact zG_ret hd0 hz rfl rfl ⟨⟨hCM3, hWM3⟩, rfl⟩
      · refine zG_blk (c' := (16, [.inr (.inr (some 94)), .inl a1, .inr (.inl (v1)), zN, .inl v2], [.inl v2, .inr (.inr (some 94)), .inr (.inl (v1))])) 3 hd0 hz (by rfl) ?_
        refine zG_lald hd0 hz rfl rfl (.inl rfl) (by omega) ?_
        generalize M3 94 (v2 : Int).toNat = x5
        show zG n (0, 0) d 13 (17, [.inr (.inr (some 94)), .inl a1, .inr (.inl (v1)), zN, .inl v2], [.inr (.inl (x5)), .inr (.inl (v1))]) M3 _
        obtain ⟨x6, hx6⟩ : ∃ x : Int, x = w64 (x5 * a1) := ⟨_, rfl⟩
        obtain ⟨x7, hx7⟩ : ∃ x : Int, x = w64 (v1 + x6) := ⟨_, rfl⟩
        obtain ⟨x8, hx8⟩ : ∃ x : Int, x = zlband x7 1073741823 := ⟨_, rfl⟩
        refine zG_blk (c' := (30, [.inr (.inr (some 94)), .inl a1, .inr (.inl (x7)), zN, .inl v2], [.inr (.inl (x8)), .inl v2, .inr (.inr (some 94))])) 10 hd0 hz (by subst hx8; subst hx7; subst hx6; rfl) ?_
        refine zG_last hd0 hz rfl rfl (by omega) ?_
        obtain ⟨M9, hM9⟩ : ∃ X : zM, X = zput M3 94 (v2 : Int).toNat x8 := ⟨_, rfl⟩
        rw [← hM9]
        have hCM9 : qCI M9 := by rw [hM9]; exact hCM3.put (r := 94) rfl (.inr (.inl (by decide)))
        have hWM9 : qFr [94] M M9 := by rw [hM9]; exact hWM3.put (by decide)
        show zG n (0, 0) d 13 (31, [.inr (.inr (some 94)), .inl a1, .inr (.inl (x7)), zN, .inl v2], []) M9 _
        obtain ⟨x10, hx10⟩ : ∃ x : Int, x = zlshr x7 30 := ⟨_, rfl⟩
        obtain ⟨x11, hx11⟩ : ∃ x : Int, x = w32 (v2 + 1) := ⟨_, rfl⟩
        have hx11e : x11 = v2 + 1 := by rw [hx11]; exact w32_id (by omega)
        refine zG_blk (c' := (5, [.inr (.inr (some 94)), .inl a1, .inr (.inl (x10)), zN, .inl x11], [])) 6 hd0 hz (by subst hx11; subst hx10; rfl) ?_
        exact ih5 x10 x11 M9 (by omega) (by omega) hCM9 hWM9
  exact j5 ((10 - 0 : Int).toNat + 1) 0 0 M (by omega) (by omega) hC hW
theorem qm_16_92 {n d : Nat} {M : zM} (hd : 1 ≤ d) (hC : qCI M) (a1 : Int) (ha1 : (-2147483648) ≤ a1 ∧ a1 ≤ 2147483647) : qOkP n d 16 [.inr (.inr (some 92)), .inl a1] 7 M (qRi (fun x => 0 ≤ x ∧ x ≤ 1)) := by
  have hz := zp_16
  have hd0 : 0 < d := by omega
  show zG n (0, 0) d 16 (0, [.inr (.inr (some 92)), .inl a1, zN, zN, zN, zN, zN], []) M _
  refine zG_blk (c' := (3, [.inr (.inr (some 92)), .inl a1, zN, zN, zN, zN, zN], [.inl 30, .inl a1])) 2 hd0 hz (by rfl) ?_
  refine zG_idiv hd0 hz rfl (by omega) ?_
  have hx1 := qtdiv_in a1 30 (by first | decide | omega) (by omega)
  generalize w32 (a1.tdiv 30) = x1 at hx1 ⊢
  show zG n (0, 0) d 16 (4, [.inr (.inr (some 92)), .inl a1, zN, zN, zN, zN, zN], [.inl x1]) M _
  refine zG_blk (c' := (9, [.inr (.inr (some 92)), .inl a1, .inl x1, zN, zN, zN, zN], [.inl 30, .inl a1, .inr (.inl (1))])) 4 hd0 hz (by rfl) ?_
  refine zG_irem hd0 hz rfl (by omega) ?_
  have hx2 := qtmod_in a1 30 (by first | decide | omega)
  generalize a1.tmod 30 = x2 at hx2 ⊢
  show zG n (0, 0) d 16 (10, [.inr (.inr (some 92)), .inl a1, .inl x1, zN, zN, zN, zN], [.inl x2, .inr (.inl (1))]) M _
  refine zG_lshl hd0 hz rfl (fun x3 => ?_)
  show zG n (0, 0) d 16 (11, [.inr (.inr (some 92)), .inl a1, .inl x1, zN, zN, zN, zN], [.inr (.inl (x3))]) M _
  refine zG_blk (c' := (24, [.inr (.inr (some 92)), .inl a1, .inl x1, .inr (.inl (x3)), zN, .inl 0, .inl 9], [])) 9 hd0 hz (by rfl) ?_
  have j24 : ∀ (N : Nat) (v4 v5 : Int) , (v5 + 1 : Int).toNat < N → (-2147483648) ≤ v4 ∧ v4 ≤ 2147483647 → (-1) ≤ v5 ∧ v5 ≤ 9 → zG n (0, 0) d 16 (24, [.inr (.inr (some 92)), .inl a1, .inl x1, .inr (.inl (x3)), zN, .inl v4, .inl v5], []) M (fun v M' => M' = M ∧ qRi (fun x => 0 ≤ x ∧ x ≤ 1) v) := by
    intro N
    induction N with
    | zero => intro v4 v5 hN hv4 hv5; exact absurd hN (Nat.not_lt_zero _)
    | succ N ih24 =>
      intro v4 v5 hN hv4 hv5
      refine zG_blk (c' := (26, [.inr (.inr (some 92)), .inl a1, .inl x1, .inr (.inl (x3)), zN, .inl v4, .inl v5], [.inl v5])) 1 hd0 hz (by rfl) ?_
      refine zG_if_lt hd0 hz rfl (fun hb6 => ?_) (fun hb6 => ?_)
      · refine zG_blk (c' := (123, [.inr (.inr (some 92)), .inl a1, .inl x1, .inr (.inl (x3)), zN, .inl v4, .inl v5], [.inl v4])) 1 hd0 hz (by rfl) ?_
        have j131 : ∀ (v7 : Int) , 0 ≤ v7 ∧ v7 ≤ 1 → zG n (0, 0) d 16 (131, [.inr (.inr (some 92)), .inl a1, .inl x1, .inr (.inl (x3)), zN, .inl v4, .inl v5], [.inl v7]) M (fun v M' => M' = M ∧ qRi (fun x => 0 ≤ x ∧ x ≤ 1) v) := by
          intro v7 hv7
          exact zG_zret hd0 hz rfl (by omega) ⟨rfl, _, rfl, by omega⟩
        refine zG_if_ne hd0 hz rfl (fun hb8 => ?_) (fun hb8 => ?_)
        · refine zG_blk (c' := (131, [.inr (.inr (some 92)), .inl a1, .inl x1, .inr (.inl (x3)), zN, .inl v4, .inl v5], [.inl 0])) 1 hd0 hz (by rfl) ?_
          exact j131 0 (by first | decide | omega)
        · refine zG_blk (c' := (131, [.inr (.inr (some 92)), .inl a1, .inl x1, .inr (.inl (x3)), zN, .inl v4, .inl v5], [.inl 1])) 2 hd0 hz (by rfl) ?_
          exact j131 1 (by first | decide | omega)
      · refine zG_blk (c' := (32, [.inr (.inr (some 92)), .inl a1, .inl x1, .inr (.inl (x3)), zN, .inl v4, .inl v5], [.inl x1, .inl v5])) 2 hd0 hz (by rfl) ?_
        have j65 : zG n (0, 0) d 16 (65, [.inr (.inr (some 92)), .inl a1, .inl x1, .inr (.inl (x3)), zN, .inl v4, .inl v5], []) M (fun v M' => M' = M ∧ qRi (fun x => 0 ≤ x ∧ x ≤ 1) v) := by
          refine zG_blk (c' := (66, [.inr (.inr (some 92)), .inl a1, .inl x1, .inr (.inl (x3)), zN, .inl v4, .inl v5], [.inl 0])) 1 hd0 hz (by rfl) ?_
          exact zG_ret hd0 hz rfl rfl ⟨rfl, _, rfl, by omega⟩
        have j47 : zG n (0, 0) d 16 (47, [.inr (.inr (some 92)), .inl a1, .inl x1, .inr (.inl (x3)), zN, .inl v4, .inl v5], []) M (fun v M' => M' = M ∧ qRi (fun x => 0 ≤ x ∧ x ≤ 1) v) := by
          refine zG_blk (c' := (50, [.inr (.inr (some 92)), .inl a1, .inl x1, .inr (.inl (x3)), zN, .inl v4, .inl v5], [.inl x1, .inl v5])) 2 hd0 hz (by rfl) ?_
          have j67 : zG n (0, 0) d 16 (67, [.inr (.inr (some 92)), .inl a1, .inl x1, .inr (.inl (x3)), zN, .inl v4, .inl v5], []) M (fun v M' => M' = M ∧ qRi (fun x => 0 ≤ x ∧ x ≤ 1) v) := by
            refine zG_blk (c' := (70, [.inr (.inr (some 92)), .inl a1, .inl x1, .inr (.inl (x3)), zN, .inl v4, .inl v5], [.inl x1, .inl v5])) 2 hd0 hz (by rfl) ?_
            have j87 : zG n (0, 0) d 16 (87, [.inr (.inr (some 92)), .inl a1, .inl x1, .inr (.inl (x3)), zN, .inl v4, .inl v5], []) M (fun v M' => M' = M ∧ qRi (fun x => 0 ≤ x ∧ x ≤ 1) v) := by
              refine zG_blk (c' := (92, [.inr (.inr (some 92)), .inl a1, .inl x1, .inr (.inl (x3)), zN, .inl v4, .inl v5], [.inl x1, .inl v5, .inl v4])) 3 hd0 hz (by rfl) ?_
              have j112 : ∀ (v9 v10 : Int) , (-2147483648) ≤ v9 ∧ v9 ≤ 2147483647 → 0 ≤ v10 ∧ v10 ≤ 1 → zG n (0, 0) d 16 (112, [.inr (.inr (some 92)), .inl a1, .inl x1, .inr (.inl (x3)), zN, .inl v4, .inl v5], [.inl v10, .inl v9]) M (fun v M' => M' = M ∧ qRi (fun x => 0 ≤ x ∧ x ≤ 1) v) := by
                intro v9 v10 hv9 hv10
                obtain ⟨x11, hx11⟩ : ∃ x : Int, x = zbor v9 v10 := ⟨_, rfl⟩
                have hx11r : qin x11 := by rw [hx11]; exact qb32 _
                obtain ⟨x12, hx12⟩ : ∃ x : Int, x = w32 (v5 + (-1)) := ⟨_, rfl⟩
                have hx12e : x12 = v5 + (-1) := by rw [hx12]; exact w32_id (by omega)
                refine zG_blk (c' := (24, [.inr (.inr (some 92)), .inl a1, .inl x1, .inr (.inl (x3)), zN, .inl x11, .inl x12], [])) 4 hd0 hz (by subst hx12; subst hx11; rfl) ?_
                exact ih24 x11 x12 (by omega) (by omega) (by omega)
              have j111 : ∀ (v13 : Int) , (-2147483648) ≤ v13 ∧ v13 ≤ 2147483647 → zG n (0, 0) d 16 (111, [.inr (.inr (some 92)), .inl a1, .inl x1, .inr (.inl (x3)), zN, .inl v4, .inl v5], [.inl v13]) M (fun v M' => M' = M ∧ qRi (fun x => 0 ≤ x ∧ x ≤ 1) v) := by
                intro v13 hv13
                refine zG_blk (c' := (112, [.inr (.inr (some 92)), .inl a1, .inl x1, .inr (.inl (x3)), zN, .inl v4, .inl v5], [.inl 0, .inl v13])) 1 hd0 hz (by rfl) ?_
                exact j112 v13 0 (by first | decide | omega) (by omega)
              refine zG_icmp_ge hd0 hz rfl (fun hb14 => ?_) (fun hb14 => ?_)
              · exact j111 v4 (by first | with_reducible exact hv4 | omega)
              · refine zG_blk (c' := (101, [.inr (.inr (some 92)), .inl a1, .inl x1, .inr (.inl (x3)), zN, .inl v4, .inl v5], [.inl v5, .inr (.inr (some 94)), .inl v4])) 3 hd0 hz (by rfl) ?_
                refine zG_lald hd0 hz rfl rfl (.inl rfl) (by omega) ?_
                generalize M 94 (v5 : Int).toNat = x15
                show zG n (0, 0) d 16 (102, [.inr (.inr (some 92)), .inl a1, .inl x1, .inr (.inl (x3)), zN, .inl v4, .inl v5], [.inr (.inl (x15)), .inl v4]) M _
                refine zG_blk (c' := (103, [.inr (.inr (some 92)), .inl a1, .inl x1, .inr (.inl (x3)), zN, .inl v4, .inl v5], [.inr (.inl (0)), .inr (.inl (x15)), .inl v4])) 1 hd0 hz (by rfl) ?_
                refine zG_lc_eq hd0 hz rfl rfl (fun hb103 => ?_) (fun hb103 => ?_)
                · exact j111 v4 (by first | with_reducible exact hv4 | omega)
                · refine zG_blk (c' := (112, [.inr (.inr (some 92)), .inl a1, .inl x1, .inr (.inl (x3)), zN, .inl v4, .inl v5], [.inl 1, .inl v4])) 2 hd0 hz (by rfl) ?_
                  exact j112 v4 1 (by first | decide | omega) (by omega)
            refine zG_icmp_ne hd0 hz rfl (fun hb16 => ?_) (fun hb16 => ?_)
            · exact j87
            · refine zG_blk (c' := (79, [.inr (.inr (some 92)), .inl a1, .inl x1, .inr (.inl (x3)), zN, .inl v4, .inl v5], [.inl v5, .inr (.inr (some 94))])) 3 hd0 hz (by rfl) ?_
              refine zG_lald hd0 hz rfl rfl (.inl rfl) (by omega) ?_
              generalize M 94 (v5 : Int).toNat = x17
              show zG n (0, 0) d 16 (80, [.inr (.inr (some 92)), .inl a1, .inl x1, .inr (.inl (x3)), zN, .inl v4, .inl v5], [.inr (.inl (x17))]) M _
              refine zG_blk (c' := (81, [.inr (.inr (some 92)), .inl a1, .inl x1, .inr (.inl (x3)), zN, .inl v4, .inl v5], [.inr (.inl (x3)), .inr (.inl (x17))])) 1 hd0 hz (by rfl) ?_
              refine zG_lc_ge hd0 hz rfl rfl (fun hb81 => ?_) (fun hb81 => ?_)
              · exact j87
              · refine zG_blk (c' := (86, [.inr (.inr (some 92)), .inl a1, .inl x1, .inr (.inl (x3)), zN, .inl v4, .inl v5], [.inl 1])) 1 hd0 hz (by rfl) ?_
                exact zG_ret hd0 hz rfl rfl ⟨rfl, _, rfl, by omega⟩
          refine zG_icmp_ne hd0 hz rfl (fun hb18 => ?_) (fun hb18 => ?_)
          · exact j67
          · refine zG_blk (c' := (59, [.inr (.inr (some 92)), .inl a1, .inl x1, .inr (.inl (x3)), zN, .inl v4, .inl v5], [.inl v5, .inr (.inr (some 94))])) 3 hd0 hz (by rfl) ?_
            refine zG_lald hd0 hz rfl rfl (.inl rfl) (by omega) ?_
            generalize M 94 (v5 : Int).toNat = x19
            show zG n (0, 0) d 16 (60, [.inr (.inr (some 92)), .inl a1, .inl x1, .inr (.inl (x3)), zN, .inl v4, .inl v5], [.inr (.inl (x19))]) M _
            refine zG_blk (c' := (61, [.inr (.inr (some 92)), .inl a1, .inl x1, .inr (.inl (x3)), zN, .inl v4, .inl v5], [.inr (.inl (x3)), .inr (.inl (x19))])) 1 hd0 hz (by rfl) ?_
            refine zG_lc_le hd0 hz rfl rfl (fun hb61 => ?_) (fun hb61 => ?_)
            · exact j67
            · exact j65
        refine zG_icmp_le hd0 hz rfl (fun hb20 => ?_) (fun hb20 => ?_)
        · exact j47
        · refine zG_blk (c' := (41, [.inr (.inr (some 92)), .inl a1, .inl x1, .inr (.inl (x3)), zN, .inl v4, .inl v5], [.inl v5, .inr (.inr (some 94))])) 3 hd0 hz (by rfl) ?_
          refine zG_lald hd0 hz rfl rfl (.inl rfl) (by omega) ?_
          generalize M 94 (v5 : Int).toNat = x21
          show zG n (0, 0) d 16 (42, [.inr (.inr (some 92)), .inl a1, .inl x1, .inr (.inl (x3)), zN, .inl v4, .inl v5], [.inr (.inl (x21))]) M _
          refine zG_blk (c' := (43, [.inr (.inr (some 92)), .inl a1, .inl x1, .inr (.inl (x3)), zN, .inl v4, .inl v5], [.inr (.inl (0)), .inr (.inl (x21))])) 1 hd0 hz (by rfl) ?_
          refine zG_lc_ne hd0 hz rfl rfl (fun hb43 => ?_) (fun hb43 => ?_)
          · exact j65
          · exact j47
  exact j24 ((9 + 1 : Int).toNat + 1) 0 9 (by first | decide | omega) (by omega) (by omega)
theorem qm_11_92 {n d : Nat} {M : zM} (hd : 4 ≤ d) (hC : qCI M) (a1 : Int) (ha1 : (-2147483648) ≤ a1 ∧ a1 ≤ 2147483647) : qOkM n d 11 [.inr (.inr (some 92)), .inl a1] 4 qCI [92, 93, 94] M (qRi (fun x => 0 ≤ x ∧ x ≤ 1)) := by
  have hz := zp_11
  have hd0 : 0 < d := by omega
  have hW : qFr [92, 93, 94] M M := qFr.rfl
  show zG n (0, 0) d 11 (0, [.inr (.inr (some 92)), .inl a1, zN, zN], []) M _
  refine zG_blk (c' := (4, [.inr (.inr (some 92)), .inl a1, .inl 0, .inl 0], [])) 4 hd0 hz (by rfl) ?_
  have j4 : ∀ (N : Nat) (v1 v2 : Int) (M3 : zM) , (5 - v2 : Int).toNat < N → (-2147483648) ≤ v1 ∧ v1 ≤ 2147483647 → 0 ≤ v2 ∧ v2 ≤ 5 → qCI M3 → qFr [92, 93, 94] M M3 → zG n (0, 0) d 11 (4, [.inr (.inr (some 92)), .inl a1, .inl v1, .inl v2], []) M3 (fun v M' => qWf qCI [92, 93, 94] M M' ∧ qRi (fun x => 0 ≤ x ∧ x ≤ 1) v) := by
    intro N
    induction N with
    | zero => intro v1 v2 M3 hN hv1 hv2 hCM3 hWM3; exact absurd hN (Nat.not_lt_zero _)
    | succ N ih4 =>
      intro v1 v2 M3 hN hv1 hv2 hCM3 hWM3
      refine zG_blk (c' := (6, [.inr (.inr (some 92)), .inl a1, .inl v1, .inl v2], [.inl 5, .inl v2])) 2 hd0 hz (by rfl) ?_
      refine zG_icmp_ge hd0 hz rfl (fun hb4 => ?_) (fun hb4 => ?_)
      · refine zG_blk (c' := (37, [.inr (.inr (some 92)), .inl a1, .inl v1, .inl v2], [.inl a1, .inr (.inr (some 92))])) 2 hd0 hz (by rfl) ?_
        refine zG_call hd0 hz zp_6 rfl rfl (Nat.le_of_ble_eq_true rfl) ⟨Nat.le_refl _, Nat.le_refl _⟩ (qm_6_92 (by first | exact zdp hd (by decide) | omega) hCM3  a1 (by first | with_reducible exact ha1 | omega)) (fun vr M5 hr => ?_)
        obtain ⟨⟨hCM5, hFM5⟩, rfl⟩ := hr
        have hWM5 : qFr [92, 93, 94] M M5 := hWM3.tr hFM5 (by decide)
        show zG n (0, 0) d 11 (40, [.inr (.inr (some 92)), .inl a1, .inl v1, .inl v2], []) M5 _
        have r7 := hCM5.rng 92 6 (by decide) (by decide)
        have r8 := hCM5.rng 92 5 (by decide) (by decide)
        obtain ⟨x9, hx9⟩ : ∃ x : Int, x = w32 ((M5 92 5) - (M5 92 6)) := ⟨_, rfl⟩
        have hx9r : x9 = ((M5 92 5) - (M5 92 6) + 2147483648) % 4294967296 - 2147483648 := hx9
        obtain ⟨x10, hx10⟩ : ∃ x : Int, x = (if x9 < (M5 92 6) then x9 else (M5 92 6)) := ⟨_, rfl⟩
        have hx10r := qite hx10
        refine zG_blk (c' := (57, [.inr (.inr (some 92)), .inl a1, .inl v1, .inl v2], [.inl x10, .inr (.inr (some 92))])) 9 hd0 hz (by subst hx10; subst hx9; rfl) ?_
        refine zG_call hd0 hz zp_12 rfl rfl (Nat.le_of_ble_eq_true rfl) ⟨Nat.le_refl _, Nat.le_refl _⟩ (qm_12_92 (by first | exact zdp hd (by decide) | omega) hCM5  x10 (by omega)) (fun vr M11 hr => ?_)
        obtain ⟨⟨hCM11, hFM11⟩, rfl⟩ := hr
        have hWM11 : qFr [92, 93, 94] M M11 := hWM5.tr hFM11 (by decide)
        have e13 : M11 92 6 = M5 92 6 := hFM11 92 6 (by decide)
        have e14 : M11 92 5 = M5 92 5 := hFM11 92 5 (by decide)
        show zG n (0, 0) d 11 (60, [.inr (.inr (some 92)), .inl a1, .inl v1, .inl v2], []) M11 _
        obtain ⟨x15, hx15⟩ : ∃ x : Int, x = w32 (2 * v1) := ⟨_, rfl⟩
        have hx15r : qin x15 := by rw [hx15]; exact w32_in _
        have r16 := hCM11.rng 9 9 (by decide) (by decide)
        obtain ⟨x17, hx17⟩ : ∃ x : Int, x = w32 (x15 * (M11 9 9)) := ⟨_, rfl⟩
        have hx17r : qin x17 := by rw [hx17]; exact w32_in _
        refine zG_blk (c' := (75, [.inr (.inr (some 92)), .inl a1, .inl v1, .inl v2], [.inl x17, .inr (.inr (some 94))])) 9 hd0 hz (by subst hx17; subst hx15; rfl) ?_
        refine zG_call hd0 hz zp_13 rfl rfl (Nat.le_of_ble_eq_true rfl) ⟨Nat.le_refl _, Nat.le_refl _⟩ (qm_13_94 (by first | exact zdp hd (by decide) | omega) hCM11  x17 (by omega)) (fun vr M18 hr => ?_)
        obtain ⟨⟨hCM18, hFM18⟩, rfl⟩ := hr
        have hWM18 : qFr [92, 93, 94] M M18 := hWM11.tr hFM18 (by decide)
        have e20 : M18 92 6 = M11 92 6 := hFM18 92 6 (by decide)
        have e21 : M18 92 5 = M11 92 5 := hFM18 92 5 (by decide)
        have e22 : M18 9 9 = M11 9 9 := hFM18 9 9 (by decide)
        show zG n (0, 0) d 11 (78, [.inr (.inr (some 92)), .inl a1, .inl v1, .inl v2], []) M18 _
        refine zG_blk (c' := (83, [.inr (.inr (some 92)), .inl a1, .inl v1, .inl v2], [.inl (M18 92 5), .inr (.inr (some 92))])) 3 hd0 hz (by rfl) ?_
        refine zG_call hd0 hz zp_16 rfl rfl (Nat.le_of_ble_eq_true rfl) ⟨Nat.le_refl _, Nat.le_refl _⟩ (qm_16_92 (by first | exact zdp hd (by decide) | omega) hCM18  (M18 92 5) (by omega)) (fun vr M23 hr => ?_)
        obtain ⟨hq, x24, rfl, hx24⟩ := hr
        replace hq := hq.symm; subst hq
        show zG n (0, 0) d 11 (86, [.inr (.inr (some 92)), .inl a1, .inl v1, .inl v2], [.inl x24]) M18 _
        exact zG_zret hd0 hz rfl (by omega) ⟨⟨hCM18, hWM18⟩, _, rfl, by omega⟩
      · refine zG_blk (c' := (11, [.inr (.inr (some 92)), .inl a1, .inl v1, .inl v2], [.inl v2, .inr (.inr (some 92))])) 2 hd0 hz (by rfl) ?_
        refine zG_call hd0 hz zp_6 rfl rfl (Nat.le_of_ble_eq_true rfl) ⟨Nat.le_refl _, Nat.le_refl _⟩ (qm_6_92 (by first | exact zdp hd (by decide) | omega) hCM3  v2 (by first | with_reducible exact hv2 | omega)) (fun vr M25 hr => ?_)
        obtain ⟨⟨hCM25, hFM25⟩, rfl⟩ := hr
        have hWM25 : qFr [92, 93, 94] M M25 := hWM3.tr hFM25 (by decide)
        show zG n (0, 0) d 11 (14, [.inr (.inr (some 92)), .inl a1, .inl v1, .inl v2], []) M25 _
        have r27 := hCM25.rng 92 5 (by decide) (by decide)
        refine zG_blk (c' := (19, [.inr (.inr (some 92)), .inl a1, .inl v1, .inl v2], [.inl (M25 92 5), .inl v1])) 3 hd0 hz (by rfl) ?_
        have j27 : ∀ (v28 v29 : Int) , (-2147483648) ≤ v28 ∧ v28 ≤ 2147483647 → 0 ≤ v29 ∧ v29 ≤ 1 → zG n (0, 0) d 11 (27, [.inr (.inr (some 92)), .inl a1, .inl v1, .inl v2], [.inl v29, .inl v28]) M25 (fun v M' => qWf qCI [92, 93, 94] M M' ∧ qRi (fun x => 0 ≤ x ∧ x ≤ 1) v) := by
          intro v28 v29 hv28 hv29
          obtain ⟨x30, hx30⟩ : ∃ x : Int, x = w32 (v28 + v29) := ⟨_, rfl⟩
          have hx30r : x30 = (v28 + v29 + 2147483648) % 4294967296 - 2147483648 := hx30
          obtain ⟨x31, hx31⟩ : ∃ x : Int, x = w32 (v2 + 1) := ⟨_, rfl⟩
          have hx31e : x31 = v2 + 1 := by rw [hx31]; exact w32_id (by omega)
          refine zG_blk (c' := (4, [.inr (.inr (some 92)), .inl a1, .inl x30, .inl x31], [])) 4 hd0 hz (by subst hx31; subst hx30; rfl) ?_
          exact ih4 x30 x31 M25 (by omega) (by omega) (by omega) hCM25 hWM25
        refine zG_if_le hd0 hz rfl (fun hb32 => ?_) (fun hb32 => ?_)
        · refine zG_blk (c' := (27, [.inr (.inr (some 92)), .inl a1, .inl v1, .inl v2], [.inl 0, .inl v1])) 1 hd0 hz (by rfl) ?_
          exact j27 v1 0 (by first | decide | omega) (by omega)
        · refine zG_blk (c' := (27, [.inr (.inr (some 92)), .inl a1, .inl v1, .inl v2], [.inl 1, .inl v1])) 2 hd0 hz (by rfl) ?_
          exact j27 v1 1 (by first | decide | omega) (by omega)
  exact j4 ((5 - 0 : Int).toNat + 1) 0 0 M (by omega) (by omega) (by omega) hC hW
theorem qm_8_92 {n d : Nat} {M : zM} (hd : 1 ≤ d) (hC : qCI M)  : qOkP n d 8 [.inr (.inr (some 92))] 1 M (qRi (fun x => (-2147483648) ≤ x ∧ x ≤ 2147483647)) := by
  have hz := zp_8
  have hd0 : 0 < d := by omega
  show zG n (0, 0) d 8 (0, [.inr (.inr (some 92))], []) M _
  have r1 := hC.rng 92 5 (by decide) (by decide)
  refine zG_blk (c' := (4, [.inr (.inr (some 92))], [.inl (M 92 5)])) 2 hd0 hz (by rfl) ?_
  exact zG_ret hd0 hz rfl rfl ⟨rfl, _, rfl, by omega⟩
