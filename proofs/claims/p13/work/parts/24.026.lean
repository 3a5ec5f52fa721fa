theorem qm_119_81 {n d : Nat} {M : zM} (hd : 4 ≤ d) (hC : qCI M) (a1 : Int) (ha1 : (-2147483648) ≤ a1 ∧ a1 ≤ 2147483647) (a2 : Int) (ha2 : (-2147483648) ≤ a2 ∧ a2 ≤ 2147483647) : qOkM n d 119 [.inr (.inr (some 81)), .inl a1, .inl a2] 6 qCI [84, 86] M (qRi (fun x => 0 ≤ x ∧ x ≤ 2147483647)) := by
  have hz := zp_119
  have hd0 : 0 < d := by omega
  have hW : qFr [84, 86] M M := qFr.rfl
  show zG n (0, 0) d 119 (0, [.inr (.inr (some 81)), .inl a1, .inl a2, zN, zN, zN], []) M _
  refine zG_blk (c' := (10, [.inr (.inr (some 81)), .inl a1, .inl a2, .inl 0, zN, zN], [.inl 8, .inl 0, .inl 0, .inr (.inr (some 85))])) 7 hd0 hz (by rfl) ?_
  refine zG_call hd0 hz zp_109 rfl rfl (Nat.le_of_ble_eq_true rfl) ⟨Nat.le_refl _, Nat.le_refl _⟩ (qw_fillColumn (by first | exact zdp hd (by decide) | omega) hC (⟨by decide, rfl, rfl⟩ : qT n 85 8 1) 0 (by first | decide | omega) 0 (by first | decide | omega) 8 (by first | decide | omega)) (fun vr M1 hr => ?_)
  obtain ⟨⟨hCM1, hFM1⟩, rfl⟩ := hr
  have hWM1 : qFr [84, 86] M M1 := hW.tr hFM1 (by decide)
  show zG n (0, 0) d 119 (13, [.inr (.inr (some 81)), .inl a1, .inl a2, .inl 0, zN, zN], []) M1 _
  refine zG_blk (c' := (16, [.inr (.inr (some 81)), .inl a1, .inl a2, .inl 0, .inl 0, zN], [])) 2 hd0 hz (by rfl) ?_
  have j16 : ∀ (N : Nat) (v3 v4 : Int) (M5 : zM) , (14 - v4 : Int).toNat < N → 0 ≤ v3 ∧ v3 ≤ 2147483647 → 0 ≤ v4 ∧ v4 ≤ 14 → qCI M5 → qFr [84, 86] M M5 → zG n (0, 0) d 119 (16, [.inr (.inr (some 81)), .inl a1, .inl a2, .inl v3, .inl v4, zN], []) M5 (fun v M' => qWf qCI [84, 86] M M' ∧ qRi (fun x => 0 ≤ x ∧ x ≤ 2147483647) v) := by
    intro N
    induction N with
    | zero => intro v3 v4 M5 hN hv3 hv4 hCM5 hWM5; exact absurd hN (Nat.not_lt_zero _)
    | succ N ih16 =>
      intro v3 v4 M5 hN hv3 hv4 hCM5 hWM5
      refine zG_blk (c' := (20, [.inr (.inr (some 81)), .inl a1, .inl a2, .inl v3, .inl v4, zN], [.inl 14, .inl v4])) 2 hd0 hz (by rfl) ?_
      refine zG_icmp_ge hd0 hz rfl (fun hb6 => ?_) (fun hb6 => ?_)
      · refine zG_blk (c' := (93, [.inr (.inr (some 81)), .inl a1, .inl a2, .inl v3, .inl 1, zN], [])) 2 hd0 hz (by rfl) ?_
        have j93 : ∀ (N : Nat) (v7 v8 : Int) , (8 - v8 : Int).toNat < N → 0 ≤ v7 ∧ v7 ≤ 2147483647 → 1 ≤ v8 ∧ v8 ≤ 8 → zG n (0, 0) d 119 (93, [.inr (.inr (some 81)), .inl a1, .inl a2, .inl v7, .inl v8, zN], []) M5 (fun v M' => qWf qCI [84, 86] M M' ∧ qRi (fun x => 0 ≤ x ∧ x ≤ 2147483647) v) := by
          intro N
          induction N with
          | zero => intro v7 v8 hN hv7 hv8; exact absurd hN (Nat.not_lt_zero _)
          | succ N ih93 =>
            intro v7 v8 hN hv7 hv8
            refine zG_blk (c' := (97, [.inr (.inr (some 81)), .inl a1, .inl a2, .inl v7, .inl v8, zN], [.inl 8, .inl v8])) 2 hd0 hz (by rfl) ?_
            refine zG_icmp_ge hd0 hz rfl (fun hb9 => ?_) (fun hb9 => ?_)
            · refine zG_blk (c' := (119, [.inr (.inr (some 81)), .inl a1, .inl a2, .inl v7, .inl v8, zN], [.inl v7])) 1 hd0 hz (by rfl) ?_
              exact zG_ret hd0 hz rfl rfl ⟨⟨hCM5, hWM5⟩, _, rfl, by omega⟩
            · refine zG_blk (c' := (105, [.inr (.inr (some 81)), .inl a1, .inl a2, .inl v7, .inl v8, zN], [.inl a2, .inl v8, .inr (.inr (some 81)), .inl v7])) 4 hd0 hz (by rfl) ?_
              refine zG_call hd0 hz zp_120 rfl rfl (Nat.le_of_ble_eq_true rfl) ⟨Nat.le_refl _, Nat.le_refl _⟩ (qm_120_81 (by first | exact zdp hd (by decide) | omega) hCM5  v8 (by first | with_reducible exact hv8 | omega) a2 (by first | with_reducible exact ha2 | omega)) (fun vr M10 hr => ?_)
              obtain ⟨hq, x11, rfl, hx11⟩ := hr
              replace hq := hq.symm; subst hq
              show zG n (0, 0) d 119 (108, [.inr (.inr (some 81)), .inl a1, .inl a2, .inl v7, .inl v8, zN], [.inl x11, .inl v7]) M5 _
              obtain ⟨x12, hx12⟩ : ∃ x : Int, x = (if v7 < x11 then x11 else v7) := ⟨_, rfl⟩
              have hx12r := qite hx12
              obtain ⟨x13, hx13⟩ : ∃ x : Int, x = w32 (v8 + 1) := ⟨_, rfl⟩
              have hx13e : x13 = v8 + 1 := by rw [hx13]; exact w32_id (by omega)
              refine zG_blk (c' := (93, [.inr (.inr (some 81)), .inl a1, .inl a2, .inl x12, .inl x13, zN], [])) 4 hd0 hz (by subst hx13; subst hx12; rfl) ?_
              exact ih93 x12 x13 (by omega) (by omega) (by omega)
        exact j93 ((8 - 1 : Int).toNat + 1) v3 1 (by first | decide | omega) (by omega) (by omega)
      · obtain ⟨x14, hx14⟩ : ∃ x : Int, x = zbshr a1 v4 := ⟨_, rfl⟩
        have hx14r : qin x14 := by rw [hx14]; exact qb32 _
        obtain ⟨x15, hx15⟩ : ∃ x : Int, x = zband x14 1 := ⟨_, rfl⟩
        have hx15r := qband_r x14 1 (by first | decide | omega) (by omega); rw [← hx15] at hx15r
        refine zG_blk (c' := (30, [.inr (.inr (some 81)), .inl a1, .inl a2, .inl v3, .inl v4, zN], [.inl 1, .inl x15])) 6 hd0 hz (by subst hx15; subst hx14; rfl) ?_
        have j84 : ∀ (v16 : Int) (M17 : zM) , 0 ≤ v16 ∧ v16 ≤ 2147483647 → qCI M17 → qFr [84, 86] M M17 → zG n (0, 0) d 119 (84, [.inr (.inr (some 81)), .inl a1, .inl a2, .inl v16, .inl v4, zN], []) M17 (fun v M' => qWf qCI [84, 86] M M' ∧ qRi (fun x => 0 ≤ x ∧ x ≤ 2147483647) v) := by
          intro v16 M17 hv16 hCM17 hWM17
          obtain ⟨x18, hx18⟩ : ∃ x : Int, x = w32 (v4 + 1) := ⟨_, rfl⟩
          have hx18e : x18 = v4 + 1 := by rw [hx18]; exact w32_id (by omega)
          refine zG_blk (c' := (16, [.inr (.inr (some 81)), .inl a1, .inl a2, .inl v16, .inl x18, zN], [])) 2 hd0 hz (by subst hx18; rfl) ?_
          exact ih16 v16 x18 M17 (by omega) (by omega) (by omega) hCM17 hWM17
        refine zG_icmp_ne hd0 hz rfl (fun hb19 => ?_) (fun hb19 => ?_)
        · exact j84 v3 M5 (by omega) hCM5 hWM5
        · refine zG_blk (c' := (38, [.inr (.inr (some 81)), .inl a1, .inl a2, .inl v3, .inl v4, zN], [.inl a2, .inl a1, .inl v4, .inr (.inr (some 81))])) 4 hd0 hz (by rfl) ?_
          refine zG_call hd0 hz zp_121 rfl rfl (Nat.le_of_ble_eq_true rfl) ⟨Nat.le_refl _, Nat.le_refl _⟩ (qm_121_81 (by first | exact zdp hd (by decide) | omega) hCM5  v4 (by first | with_reducible exact hv4 | omega) a1 (by first | with_reducible exact ha1 | omega) a2 (by first | with_reducible exact ha2 | omega)) (fun vr M20 hr => ?_)
          obtain ⟨hq, x21, rfl, hx21⟩ := hr
          replace hq := hq.symm; subst hq
          show zG n (0, 0) d 119 (41, [.inr (.inr (some 81)), .inl a1, .inl a2, .inl v3, .inl v4, zN], [.inl x21]) M5 _
          refine zG_blk (c' := (52, [.inr (.inr (some 81)), .inl a1, .inl a2, .inl v3, .inl v4, .inl x21], [.inl x21, .inl 0, .inl v4, .inr (.inr (some 83))])) 6 hd0 hz (by rfl) ?_
          refine zG_call hd0 hz zp_107 rfl rfl (Nat.le_of_ble_eq_true rfl) ⟨Nat.le_refl _, Nat.le_refl _⟩ (qw_set (by first | exact zdp hd (by decide) | omega) hCM5 (⟨by decide, rfl, rfl⟩ : qT n 83 14 1) v4 (by first | with_reducible exact hv4 | omega) 0 (by first | decide | omega) x21 (by omega)) (fun vr M22 hr => ?_)
          obtain ⟨⟨hCM22, hFM22⟩, rfl⟩ := hr
          have hWM22 : qFr [84, 86] M M22 := hWM5.tr hFM22 (by decide)
          show zG n (0, 0) d 119 (55, [.inr (.inr (some 81)), .inl a1, .inl a2, .inl v3, .inl v4, .inl x21], []) M22 _
          obtain ⟨x24, hx24⟩ : ∃ x : Int, x = (if v3 < x21 then x21 else v3) := ⟨_, rfl⟩
          have hx24r := qite hx24
          refine zG_blk (c' := (76, [.inr (.inr (some 81)), .inl a1, .inl a2, .inl x24, .inl v4, .inl x21], [.inl 2, .inl v4, .inr (.inr (some 10)), .inr (.inr (some 85))])) 11 hd0 hz (by subst hx24; rfl) ?_
          refine zG_call hd0 hz zp_106 rfl rfl (Nat.le_of_ble_eq_true rfl) ⟨Nat.le_refl _, Nat.le_refl _⟩ (qw_get (by first | exact zdp hd (by decide) | omega) hCM22 (⟨by decide, rfl, rfl⟩ : qT n 10 14 4) v4 (by first | with_reducible exact hv4 | omega) 2 (by first | decide | omega)) (fun vr M25 hr => ?_)
          obtain ⟨hq, x26, rfl, hx26⟩ := hr
          replace hq := hq.symm; subst hq
          show zG n (0, 0) d 119 (79, [.inr (.inr (some 81)), .inl a1, .inl a2, .inl x24, .inl v4, .inl x21], [.inl x26, .inr (.inr (some 85))]) M22 _
          refine zG_blk (c' := (81, [.inr (.inr (some 81)), .inl a1, .inl a2, .inl x24, .inl v4, .inl x21], [.inl 1, .inl 0, .inl x26, .inr (.inr (some 85))])) 2 hd0 hz (by rfl) ?_
          refine zG_call hd0 hz zp_108 rfl rfl (Nat.le_of_ble_eq_true rfl) ⟨Nat.le_refl _, Nat.le_refl _⟩ (qw_add (by first | exact zdp hd (by decide) | omega) hCM22 (⟨by decide, rfl, rfl⟩ : qT n 85 8 1) x26 (by omega) 0 (by first | decide | omega) 1 (by first | decide | omega)) (fun vr M27 hr => ?_)
          obtain ⟨⟨hCM27, hFM27⟩, rfl⟩ := hr
          have hWM27 : qFr [84, 86] M M27 := hWM22.tr hFM27 (by decide)
          show zG n (0, 0) d 119 (84, [.inr (.inr (some 81)), .inl a1, .inl a2, .inl x24, .inl v4, .inl x21], []) M27 _
          exact zG_weak (j84 x24 M27 (by omega) hCM27 hWM27) ⟨.inr rfl, .inr rfl, .inr rfl, .inr rfl, .inr rfl, .inl rfl, trivial⟩
  exact j16 ((14 - 0 : Int).toNat + 1) 0 0 M1 (by omega) (by omega) (by omega) hCM1 hWM1
theorem qr_116_81 : ∀ (K : Nat) {n d : Nat} {M : zM} (hd : 5 + K ≤ d) (hC : qCI M) (a1 : Int) (ha1 : (-2147483648) ≤ a1 ∧ a1 ≤ 2147483647) (a2 : Int) (ha2 : (-2147483648) ≤ a2 ∧ a2 ≤ 2147483647) (a3 : Int) (ha3 : 1 ≤ a3 ∧ a3 ≤ 61) (hK : (61 - a3 : Int).toNat < K), qOkM n d 116 [.inr (.inr (some 81)), .inl a1, .inl a2, .inl a3] 12 qCI [82, 84, 86] M (qRi (fun x => (-2147483648) ≤ x ∧ x ≤ 63)) := by
  intro K
  induction K with
  | zero => intro n d M hd hC a1 ha1 a2 ha2 a3 ha3 hK; exact absurd hK (Nat.not_lt_zero _)
  | succ K ihR =>
    intro n d M hd hC a1 ha1 a2 ha2 a3 ha3 hK
    have hz := zp_116
    have hd0 : 0 < d := by omega
    have hW : qFr [82, 84, 86] M M := qFr.rfl
    show zG n (0, 0) d 116 (0, [.inr (.inr (some 81)), .inl a1, .inl a2, .inl a3, zN, zN, zN, zN, zN, zN, zN, zN], []) M _
    refine zG_blk (c' := (1, [.inr (.inr (some 81)), .inl a1, .inl a2, .inl a3, zN, zN, zN, zN, zN, zN, zN, zN], [.inl a1])) 1 hd0 hz (by rfl) ?_
    refine zG_if_ne hd0 hz rfl (fun hb1 => ?_) (fun hb1 => ?_)
    · refine zG_blk (c' := (9, [.inr (.inr (some 81)), .inl a1, .inl a2, .inl a3, zN, zN, zN, zN, zN, zN, zN, zN], [.inl 60, .inl a3])) 2 hd0 hz (by rfl) ?_
      have j25 : zG n (0, 0) d 116 (25, [.inr (.inr (some 81)), .inl a1, .inl a2, .inl a3, zN, zN, zN, zN, zN, zN, zN, zN], []) M (fun v M' => qWf qCI [82, 84, 86] M M' ∧ qRi (fun x => (-2147483648) ≤ x ∧ x ≤ 63) v) := by
        refine zG_blk (c' := (27, [.inr (.inr (some 81)), .inl a1, .inl a2, .inl a3, zN, zN, zN, zN, zN, zN, zN, zN], [.inl 63])) 1 hd0 hz (by rfl) ?_
        exact zG_ret hd0 hz rfl rfl ⟨⟨hC, hW⟩, _, rfl, by omega⟩
      refine zG_icmp_gt hd0 hz rfl (fun hb2 => ?_) (fun hb2 => ?_)
      · exact j25
      · refine zG_blk (c' := (13, [.inr (.inr (some 81)), .inl a1, .inl a2, .inl a3, zN, zN, zN, zN, zN, zN, zN, zN], [.inl a1])) 1 hd0 hz (by rfl) ?_
        refine zG_if_lt hd0 hz rfl (fun hb3 => ?_) (fun hb3 => ?_)
        · exact j25
        · refine zG_blk (c' := (22, [.inr (.inr (some 81)), .inl a1, .inl a2, .inl a3, zN, zN, zN, zN, zN, zN, zN, zN], [.inl 16384, .inl a1])) 4 hd0 hz (by rfl) ?_
          refine zG_icmp_lt hd0 hz rfl (fun hb4 => ?_) (fun hb4 => ?_)
          · refine zG_blk (c' := (33, [.inr (.inr (some 81)), .inl a1, .inl a2, .inl a3, zN, zN, zN, zN, zN, zN, zN, zN], [.inl a1, .inr (.inr (some 82))])) 3 hd0 hz (by rfl) ?_
            refine zG_iald hd0 hz rfl rfl (.inl rfl) (by omega) ?_
            have hx5 := hC.rng 82 (a1 : Int).toNat (by decide) (by decide)
            generalize M 82 (a1 : Int).toNat = x5 at hx5 ⊢
            show zG n (0, 0) d 116 (34, [.inr (.inr (some 81)), .inl a1, .inl a2, .inl a3, zN, zN, zN, zN, zN, zN, zN, zN], [.inl x5]) M _
            obtain ⟨x6, hx6⟩ : ∃ x : Int, x = w32 (6 * a2) := ⟨_, rfl⟩
            have hx6r : qin x6 := by rw [hx6]; exact w32_in _
            obtain ⟨x7, hx7⟩ : ∃ x : Int, x = zbshr x5 x6 := ⟨_, rfl⟩
            have hx7r : qin x7 := by rw [hx7]; exact qb32 _
            obtain ⟨x8, hx8⟩ : ∃ x : Int, x = zband x7 63 := ⟨_, rfl⟩
            have hx8r := qband_r x7 63 (by first | decide | omega) (by omega); rw [← hx8] at hx8r
            refine zG_blk (c' := (46, [.inr (.inr (some 81)), .inl a1, .inl a2, .inl a3, .inl x8, zN, zN, zN, zN, zN, zN, zN], [.inl x8])) 8 hd0 hz (by subst hx8; subst hx7; subst hx6; rfl) ?_
            refine zG_if_eq hd0 hz rfl (fun hb9 => ?_) (fun hb9 => ?_)
            · refine zG_blk (c' := (55, [.inr (.inr (some 81)), .inl a1, .inl a2, .inl a3, .inl x8, zN, zN, zN, zN, zN, zN, zN], [.inl a2, .inl a1, .inr (.inr (some 81))])) 3 hd0 hz (by rfl) ?_
              refine zG_call hd0 hz zp_117 rfl rfl (Nat.le_of_ble_eq_true rfl) ⟨Nat.le_refl _, Nat.le_refl _⟩ (qm_117_81 (by first | exact zdp hd (by decide) | omega) hC  a1 (by first | with_reducible exact ha1 | omega) a2 (by first | with_reducible exact ha2 | omega)) (fun vr M10 hr => ?_)
              obtain ⟨hq, x11, rfl, hx11⟩ := hr
              replace hq := hq.symm; subst hq
              show zG n (0, 0) d 116 (58, [.inr (.inr (some 81)), .inl a1, .inl a2, .inl a3, .inl x8, zN, zN, zN, zN, zN, zN, zN], [.inl x11]) M _
              have r12 := hC.rng 81 5 (by decide) (by decide)
              refine zG_blk (c' := (66, [.inr (.inr (some 81)), .inl a1, .inl a2, .inl a3, .inl x8, .inl x11, zN, zN, zN, zN, zN, zN], [.inl x11, .inl (M 81 5)])) 4 hd0 hz (by rfl) ?_
              refine zG_call hd0 hz zp_296 rfl rfl (Nat.le_of_ble_eq_true rfl) ⟨Nat.le_refl _, Nat.le_refl _⟩ (qm_296 (by first | exact zdp hd (by decide) | omega) hC  x11 (by omega)) (fun vr M13 hr => ?_)
              obtain ⟨hq, x14, rfl, hx14⟩ := hr
              replace hq := hq.symm; subst hq
              show zG n (0, 0) d 116 (69, [.inr (.inr (some 81)), .inl a1, .inl a2, .inl a3, .inl x8, .inl x11, zN, zN, zN, zN, zN, zN], [.inl x14, .inl (M 81 5)]) M _
              obtain ⟨x15, hx15⟩ : ∃ x : Int, x = (if x14 < (M 81 5) then x14 else (M 81 5)) := ⟨_, rfl⟩
              have hx15r := qite hx15
              obtain ⟨x16, hx16⟩ : ∃ x : Int, x = w32 (a2 + 1) := ⟨_, rfl⟩
              have hx16r : x16 = (a2 + 1 + 2147483648) % 4294967296 - 2147483648 := hx16
              refine zG_blk (c' := (78, [.inr (.inr (some 81)), .inl a1, .inl a2, .inl a3, .inl x8, .inl x11, .inl x15, zN, zN, zN, zN, zN], [.inl 3, .inl x16])) 6 hd0 hz (by subst hx16; subst hx15; rfl) ?_
              refine zG_irem hd0 hz rfl (by omega) ?_
              have hx17 := qtmod_in x16 3 (by first | decide | omega)
              generalize x16.tmod 3 = x17 at hx17 ⊢
              show zG n (0, 0) d 116 (79, [.inr (.inr (some 81)), .inl a1, .inl a2, .inl a3, .inl x8, .inl x11, .inl x15, zN, zN, zN, zN, zN], [.inl x17]) M _
              refine zG_blk (c' := (84, [.inr (.inr (some 81)), .inl a1, .inl a2, .inl a3, .inl x8, .inl x11, .inl x15, .inl x17, zN, zN, zN, zN], [.inl a2, .inl a1, .inr (.inr (some 81))])) 4 hd0 hz (by rfl) ?_
              refine zG_call hd0 hz zp_119 rfl rfl (Nat.le_of_ble_eq_true rfl) ⟨Nat.le_refl _, Nat.le_refl _⟩ (qm_119_81 (by first | exact zdp hd (by decide) | omega) hC  a1 (by first | with_reducible exact ha1 | omega) a2 (by first | with_reducible exact ha2 | omega)) (fun vr M18 hr => ?_)
              obtain ⟨⟨hCM18, hFM18⟩, x19, rfl, hx19⟩ := hr
              have hWM18 : qFr [82, 84, 86] M M18 := hW.tr hFM18 (by decide)
              have e20 : M18 81 5 = M 81 5 := hFM18 81 5 (by decide)
              show zG n (0, 0) d 116 (87, [.inr (.inr (some 81)), .inl a1, .inl a2, .inl a3, .inl x8, .inl x11, .inl x15, .inl x17, zN, zN, zN, zN], [.inl x19]) M18 _
              refine zG_blk (c' := (99, [.inr (.inr (some 81)), .inl a1, .inl a2, .inl a3, .inl x8, .inl x11, .inl x15, .inl x17, .inl x19, .inl 63, .inl 0, zN], [.inl x11, .inl 1])) 7 hd0 hz (by rfl) ?_
              refine zG_call hd0 hz zp_296 rfl rfl (Nat.le_of_ble_eq_true rfl) ⟨Nat.le_refl _, Nat.le_refl _⟩ (qm_296 (by first | exact zdp hd (by decide) | omega) hCM18  x11 (by omega)) (fun vr M21 hr => ?_)
              obtain ⟨hq, x22, rfl, hx22⟩ := hr
              replace hq := hq.symm; subst hq
              show zG n (0, 0) d 116 (102, [.inr (.inr (some 81)), .inl a1, .inl a2, .inl a3, .inl x8, .inl x11, .inl x15, .inl x17, .inl x19, .inl 63, .inl 0, zN], [.inl x22, .inl 1]) M18 _
              obtain ⟨x23, hx23⟩ : ∃ x : Int, x = zbshl 1 x22 := ⟨_, rfl⟩
              have hx23r : qin x23 := by rw [hx23]; exact qb32 _
              refine zG_blk (c' := (105, [.inr (.inr (some 81)), .inl a1, .inl a2, .inl a3, .inl x8, .inl x11, .inl x15, .inl x17, .inl x19, .inl 63, .inl 0, .inl x23], [])) 2 hd0 hz (by subst hx23; rfl) ?_
              have j105 : ∀ (N : Nat) (v24 v25 v26 : Int) (M27 : zM) , (v26 : Int).toNat < N → (-2147483648) ≤ v24 ∧ v24 ≤ 63 → (-2147483648) ≤ v25 ∧ v25 ≤ 2147483647 → (-2147483648) ≤ v26 ∧ v26 ≤ 2147483647 → qCI M27 → qFr [82, 84, 86] M M27 → zG n (0, 0) d 116 (105, [.inr (.inr (some 81)), .inl a1, .inl a2, .inl a3, .inl x8, .inl x11, .inl x15, .inl x17, .inl x19, .inl v24, .inl v25, .inl v26], []) M27 (fun v M' => qWf qCI [82, 84, 86] M M' ∧ qRi (fun x => (-2147483648) ≤ x ∧ x ≤ 63) v) := by
                intro N
                induction N with
                | zero => intro v24 v25 v26 M27 hN hv24 hv25 hv26 hCM27 hWM27; exact absurd hN (Nat.not_lt_zero _)
                | succ N ih105 =>
                  intro v24 v25 v26 M27 hN hv24 hv25 hv26 hCM27 hWM27
                  refine zG_blk (c' := (107, [.inr (.inr (some 81)), .inl a1, .inl a2, .inl a3, .inl x8, .inl x11, .inl x15, .inl x17, .inl x19, .inl v24, .inl v25, .inl v26], [.inl v26])) 1 hd0 hz (by rfl) ?_
                  have j186 : zG n (0, 0) d 116 (186, [.inr (.inr (some 81)), .inl a1, .inl a2, .inl a3, .inl x8, .inl x11, .inl x15, .inl x17, .inl x19, .inl v24, .inl v25, .inl v26], []) M27 (fun v M' => qWf qCI [82, 84, 86] M M' ∧ qRi (fun x => (-2147483648) ≤ x ∧ x ≤ 63) v) := by
                    refine zG_blk (c' := (192, [.inr (.inr (some 81)), .inl a1, .inl a2, .inl a3, .inl x8, .inl x11, .inl x15, .inl x17, .inl x19, .inl v24, .inl v25, .inl v26], [.inl a1, .inr (.inr (some 82)), .inl a1, .inr (.inr (some 82))])) 4 hd0 hz (by rfl) ?_
                    refine zG_iald hd0 hz rfl rfl (.inl rfl) (by omega) ?_
                    have hx28 := hCM27.rng 82 (a1 : Int).toNat (by decide) (by decide)
                    generalize M27 82 (a1 : Int).toNat = x28 at hx28 ⊢
                    show zG n (0, 0) d 116 (193, [.inr (.inr (some 81)), .inl a1, .inl a2, .inl a3, .inl x8, .inl x11, .inl x15, .inl x17, .inl x19, .inl v24, .inl v25, .inl v26], [.inl x28, .inl a1, .inr (.inr (some 82))]) M27 _
                    obtain ⟨x29, hx29⟩ : ∃ x : Int, x = w32 (6 * a2) := ⟨_, rfl⟩
                    have hx29r : qin x29 := by rw [hx29]; exact w32_in _
                    obtain ⟨x30, hx30⟩ : ∃ x : Int, x = zbshl v24 x29 := ⟨_, rfl⟩
                    have hx30r : qin x30 := by rw [hx30]; exact qb32 _
                    obtain ⟨x31, hx31⟩ : ∃ x : Int, x = zbor x28 x30 := ⟨_, rfl⟩
                    have hx31r : qin x31 := by rw [hx31]; exact qb32 _
                    refine zG_blk (c' := (201, [.inr (.inr (some 81)), .inl a1, .inl a2, .inl a3, .inl x8, .inl x11, .inl x15, .inl x17, .inl x19, .inl v24, .inl v25, .inl v26], [.inl x31, .inl a1, .inr (.inr (some 82))])) 6 hd0 hz (by subst hx31; subst hx30; subst hx29; rfl) ?_
                    refine zG_iast hd0 hz rfl rfl (by omega) ?_
                    obtain ⟨M32, hM32⟩ : ∃ X : zM, X = zput M27 82 (a1 : Int).toNat x31 := ⟨_, rfl⟩
                    rw [← hM32]
                    have hCM32 : qCI M32 := by rw [hM32]; exact hCM27.put (r := 82) rfl (.inl (by omega))
                    have hWM32 : qFr [82, 84, 86] M M32 := by rw [hM32]; exact hWM27.put (by decide)
                    show zG n (0, 0) d 116 (202, [.inr (.inr (some 81)), .inl a1, .inl a2, .inl a3, .inl x8, .inl x11, .inl x15, .inl x17, .inl x19, .inl v24, .inl v25, .inl v26], []) M32 _
                    refine zG_blk (c' := (204, [.inr (.inr (some 81)), .inl a1, .inl a2, .inl a3, .inl x8, .inl x11, .inl x15, .inl x17, .inl x19, .inl v24, .inl v25, .inl v26], [.inl v24])) 1 hd0 hz (by rfl) ?_
                    exact zG_ret hd0 hz rfl rfl ⟨⟨hCM32, hWM32⟩, _, rfl, by omega⟩
                  refine zG_if_le hd0 hz rfl (fun hb33 => ?_) (fun hb33 => ?_)
                  · exact j186
                  · refine zG_blk (c' := (114, [.inr (.inr (some 81)), .inl a1, .inl a2, .inl a3, .inl x8, .inl x11, .inl x15, .inl x17, .inl x19, .inl v24, .inl v25, .inl v26], [.inl x19, .inl v24])) 2 hd0 hz (by rfl) ?_
                    refine zG_icmp_le hd0 hz rfl (fun hb34 => ?_) (fun hb34 => ?_)
                    · exact j186
                    · refine zG_blk (c' := (119, [.inr (.inr (some 81)), .inl a1, .inl a2, .inl a3, .inl x8, .inl x11, .inl x15, .inl x17, .inl x19, .inl v24, .inl v25, .inl v26], [.inl v25])) 1 hd0 hz (by rfl) ?_
                      refine zG_call hd0 hz zp_296 rfl rfl (Nat.le_of_ble_eq_true rfl) ⟨Nat.le_refl _, Nat.le_refl _⟩ (qm_296 (by first | exact zdp hd (by decide) | omega) hCM27  v25 (by first | with_reducible exact hv25 | omega)) (fun vr M35 hr => ?_)
                      obtain ⟨hq, x36, rfl, hx36⟩ := hr
                      replace hq := hq.symm; subst hq
                      show zG n (0, 0) d 116 (122, [.inr (.inr (some 81)), .inl a1, .inl a2, .inl a3, .inl x8, .inl x11, .inl x15, .inl x17, .inl x19, .inl v24, .inl v25, .inl v26], [.inl x36]) M27 _
                      refine zG_blk (c' := (124, [.inr (.inr (some 81)), .inl a1, .inl a2, .inl a3, .inl x8, .inl x11, .inl x15, .inl x17, .inl x19, .inl v24, .inl v25, .inl v26], [.inl x15, .inl x36])) 1 hd0 hz (by rfl) ?_
                      have j170 : ∀ (v37 : Int) (M38 : zM) , (-2147483648) ≤ v37 ∧ v37 ≤ 63 → qCI M38 → qFr [82, 84, 86] M M38 → zG n (0, 0) d 116 (170, [.inr (.inr (some 81)), .inl a1, .inl a2, .inl a3, .inl x8, .inl x11, .inl x15, .inl x17, .inl x19, .inl v37, .inl v25, .inl v26], []) M38 (fun v M' => qWf qCI [82, 84, 86] M M' ∧ qRi (fun x => (-2147483648) ≤ x ∧ x ≤ 63) v) := by
                        intro v37 M38 hv37 hCM38 hWM38
                        obtain ⟨x39, hx39⟩ : ∃ x : Int, x = w32 (v25 - x11) := ⟨_, rfl⟩
                        have hx39r : x39 = (v25 - x11 + 2147483648) % 4294967296 - 2147483648 := hx39
                        obtain ⟨x40, hx40⟩ : ∃ x : Int, x = zband x39 x11 := ⟨_, rfl⟩
                        have hx40r : qin x40 := by rw [hx40]; exact qb32 _
                        obtain ⟨x41, hx41⟩ : ∃ x : Int, x = w32 (v26 + (-1)) := ⟨_, rfl⟩
                        have hx41e : x41 = v26 + (-1) := by rw [hx41]; exact w32_id (by omega)
                        refine zG_blk (c' := (105, [.inr (.inr (some 81)), .inl a1, .inl a2, .inl a3, .inl x8, .inl x11, .inl x15, .inl x17, .inl x19, .inl v37, .inl x40, .inl x41], [])) 8 hd0 hz (by subst hx41; subst hx40; subst hx39; rfl) ?_
                        exact ih105 v37 x40 x41 M38 (by omega) (by omega) (by omega) (by omega) hCM38 hWM38
                      refine zG_icmp_ne hd0 hz rfl (fun hb42 => ?_) (fun hb42 => ?_)
                      · exact j170 v24 M27 (by omega) hCM27 hWM27
                      · obtain ⟨x43, hx43⟩ : ∃ x : Int, x = zbxor v25 (-1) := ⟨_, rfl⟩
                        have hx43r : qin x43 := by rw [hx43]; exact qb32 _
                        obtain ⟨x44, hx44⟩ : ∃ x : Int, x = zband a1 x43 := ⟨_, rfl⟩
                        have hx44r := qband_l a1 x43 (by omega) (by omega); rw [← hx44] at hx44r
                        refine zG_blk (c' := (137, [.inr (.inr (some 81)), .inl a1, .inl a2, .inl a3, .inl x8, .inl x11, .inl x15, .inl x17, .inl x19, .inl v24, .inl v25, .inl v26], [.inl x17, .inl x44, .inr (.inr (some 81)), .inl 1])) 8 hd0 hz (by subst hx44; subst hx43; rfl) ?_
                        refine zG_call hd0 hz zp_119 rfl rfl (Nat.le_of_ble_eq_true rfl) ⟨Nat.le_refl _, Nat.le_refl _⟩ (qm_119_81 (by first | exact zdp hd (by decide) | omega) hCM27  x44 (by omega) x17 (by omega)) (fun vr M45 hr => ?_)
                        obtain ⟨⟨hCM45, hFM45⟩, x46, rfl, hx46⟩ := hr
                        have hWM45 : qFr [82, 84, 86] M M45 := hWM27.tr hFM45 (by decide)
                        show zG n (0, 0) d 116 (140, [.inr (.inr (some 81)), .inl a1, .inl a2, .inl a3, .inl x8, .inl x11, .inl x15, .inl x17, .inl x19, .inl v24, .inl v25, .inl v26], [.inl x46, .inl 1]) M45 _
                        obtain ⟨x47, hx47⟩ : ∃ x : Int, x = w32 (1 + x46) := ⟨_, rfl⟩
                        have hx47r : x47 = (1 + x46 + 2147483648) % 4294967296 - 2147483648 := hx47
                        refine zG_blk (c' := (143, [.inr (.inr (some 81)), .inl a1, .inl a2, .inl a3, .inl x8, .inl x11, .inl x15, .inl x17, .inl x19, .inl v24, .inl v25, .inl v26], [.inl v24, .inl x47])) 2 hd0 hz (by subst hx47; rfl) ?_
                        refine zG_icmp_ge hd0 hz rfl (fun hb48 => ?_) (fun hb48 => ?_)
                        · exact j170 v24 M45 (by omega) hCM45 hWM45
                        · obtain ⟨x49, hx49⟩ : ∃ x : Int, x = zbxor v25 (-1) := ⟨_, rfl⟩
                          have hx49r : qin x49 := by rw [hx49]; exact qb32 _
                          obtain ⟨x50, hx50⟩ : ∃ x : Int, x = zband a1 x49 := ⟨_, rfl⟩
                          have hx50r := qband_l a1 x49 (by omega) (by omega); rw [← hx50] at hx50r
                          obtain ⟨x51, hx51⟩ : ∃ x : Int, x = w32 (a3 + 1) := ⟨_, rfl⟩
                          have hx51e : x51 = a3 + 1 := by rw [hx51]; exact w32_id (by omega)
                          refine zG_blk (c' := (161, [.inr (.inr (some 81)), .inl a1, .inl a2, .inl a3, .inl x8, .inl x11, .inl x15, .inl x17, .inl x19, .inl v24, .inl v25, .inl v26], [.inl x51, .inl x17, .inl x50, .inr (.inr (some 81)), .inl 1, .inl v24])) 12 hd0 hz (by subst hx51; subst hx50; subst hx49; rfl) ?_
                          refine zG_call hd0 hz zp_116 rfl rfl (Nat.le_of_ble_eq_true rfl) ⟨Nat.le_refl _, Nat.le_refl _⟩ (ihR (by omega) hCM45  x50 (by omega) x17 (by omega) x51 (by omega) (by omega)) (fun vr M52 hr => ?_)
                          obtain ⟨⟨hCM52, hFM52⟩, x53, rfl, hx53⟩ := hr
                          have hWM52 : qFr [82, 84, 86] M M52 := hWM45.tr hFM52 (by decide)
                          show zG n (0, 0) d 116 (164, [.inr (.inr (some 81)), .inl a1, .inl a2, .inl a3, .inl x8, .inl x11, .inl x15, .inl x17, .inl x19, .inl v24, .inl v25, .inl v26], [.inl x53, .inl 1, .inl v24]) M52 _
                          obtain ⟨x54, hx54⟩ : ∃ x : Int, x = w32 (1 + x53) := ⟨_, rfl⟩
                          have hx54r : x54 = (1 + x53 + 2147483648) % 4294967296 - 2147483648 := hx54
                          obtain ⟨x55, hx55⟩ : ∃ x : Int, x = (if x54 < v24 then x54 else v24) := ⟨_, rfl⟩
                          have hx55r := qite hx55
                          refine zG_blk (c' := (170, [.inr (.inr (some 81)), .inl a1, .inl a2, .inl a3, .inl x8, .inl x11, .inl x15, .inl x17, .inl x19, .inl x55, .inl v25, .inl v26], [])) 3 hd0 hz (by subst hx55; subst hx54; rfl) ?_
                          exact j170 x55 M52 (by omega) hCM52 hWM52
              exact j105 ((x23 : Int).toNat + 1) 63 0 x23 M18 (by omega) (by omega) (by omega) (by omega) hCM18 hWM18
            · refine zG_blk (c' := (51, [.inr (.inr (some 81)), .inl a1, .inl a2, .inl a3, .inl x8, zN, zN, zN, zN, zN, zN, zN], [.inl x8])) 1 hd0 hz (by rfl) ?_
              exact zG_ret hd0 hz rfl rfl ⟨⟨hC, hW⟩, _, rfl, by omega⟩
          · exact j25
    · refine zG_blk (c' := (5, [.inr (.inr (some 81)), .inl a1, .inl a2, .inl a3, zN, zN, zN, zN, zN, zN, zN, zN], [.inl 0])) 1 hd0 hz (by rfl) ?_
      exact zG_ret hd0 hz rfl rfl ⟨⟨hC, hW⟩, _, rfl, by omega⟩
theorem qm_116_81 {n d : Nat} {M : zM} (hd : 66 ≤ d) (hC : qCI M) (a1 : Int) (ha1 : (-2147483648) ≤ a1 ∧ a1 ≤ 2147483647) (a2 : Int) (ha2 : (-2147483648) ≤ a2 ∧ a2 ≤ 2147483647) (a3 : Int) (ha3 : 1 ≤ a3 ∧ a3 ≤ 61) : qOkM n d 116 [.inr (.inr (some 81)), .inl a1, .inl a2, .inl a3] 12 qCI [82, 84, 86] M (qRi (fun x => (-2147483648) ≤ x ∧ x ≤ 63)) := qr_116_81 61 (by first | decide | omega) hC a1 ha1 a2 ha2 a3 ha3 (by omega)
theorem qm_113_81 {n d : Nat} {M : zM} (hd : 67 ≤ d) (hC : qCI M) (a1 : Int) (ha1 : (-2147483648) ≤ a1 ∧ a1 ≤ 2147483647) : qOkM n d 113 [.inr (.inr (some 81)), .inl a1] 3 qCI [82, 84, 86] M (qRi (fun x => (-2147483648) ≤ x ∧ x ≤ 60)) := by
  have hz := zp_113
  have hd0 : 0 < d := by omega
  have hW : qFr [82, 84, 86] M M := qFr.rfl
  show zG n (0, 0) d 113 (0, [.inr (.inr (some 81)), .inl a1, zN], []) M _
  have r1 := hC.rng 81 4 (by decide) (by decide)
  refine zG_blk (c' := (7, [.inr (.inr (some 81)), .inl a1, zN], [.inl 1, .inl a1, .inl (M 81 4), .inr (.inr (some 81))])) 5 hd0 hz (by rfl) ?_
  refine zG_call hd0 hz zp_116 rfl rfl (Nat.le_of_ble_eq_true rfl) ⟨Nat.le_refl _, Nat.le_refl _⟩ (qm_116_81 (by first | exact zdp hd (by decide) | omega) hC  (M 81 4) (by omega) a1 (by first | with_reducible exact ha1 | omega) 1 (by first | decide | omega)) (fun vr M2 hr => ?_)
  obtain ⟨⟨hCM2, hFM2⟩, x3, rfl, hx3⟩ := hr
  have hWM2 : qFr [82, 84, 86] M M2 := hW.tr hFM2 (by decide)
  have e4 : M2 81 4 = M 81 4 := hFM2 81 4 (by decide)
  show zG n (0, 0) d 113 (10, [.inr (.inr (some 81)), .inl a1, zN], [.inl x3]) M2 _
  refine zG_blk (c' := (14, [.inr (.inr (some 81)), .inl a1, .inl x3], [.inl 60, .inl x3])) 3 hd0 hz (by rfl) ?_
  have j22 : ∀ (v5 : Int) , (-2147483648) ≤ v5 ∧ v5 ≤ 60 → zG n (0, 0) d 113 (22, [.inr (.inr (some 81)), .inl a1, .inl x3], [.inl v5]) M2 (fun v M' => qWf qCI [82, 84, 86] M M' ∧ qRi (fun x => (-2147483648) ≤ x ∧ x ≤ 60) v) := by
    intro v5 hv5
    exact zG_ret hd0 hz rfl rfl ⟨⟨hCM2, hWM2⟩, _, rfl, by omega⟩
  refine zG_icmp_le hd0 hz rfl (fun hb6 => ?_) (fun hb6 => ?_)
  · refine zG_blk (c' := (22, [.inr (.inr (some 81)), .inl a1, .inl x3], [.inl x3])) 1 hd0 hz (by rfl) ?_
    exact j22 x3 (by omega)
  · refine zG_blk (c' := (22, [.inr (.inr (some 81)), .inl a1, .inl x3], [.inl (-1)])) 2 hd0 hz (by rfl) ?_
    exact j22 (-1) (by first | decide | omega)
theorem qm_155_8 {n d : Nat} {M : zM} (hd : 68 ≤ d) (hC : qCI M) (a1 : Int) (ha1 : (-2147483648) ≤ a1 ∧ a1 ≤ 2147483647) (a2 : Int) (ha2 : (-2147483648) ≤ a2 ∧ a2 ≤ 2147483647) (a3 : Int) (ha3 : (-2147483648) ≤ a3 ∧ a3 ≤ 2147483647) (a4 : Int) (ha4 : (-2147483648) ≤ a4 ∧ a4 ≤ 2147483647) (a5 : Int) (ha5 : (-2147483648) ≤ a5 ∧ a5 ≤ 2147483647) (a6 : Int) (ha6 : (-2147483648) ≤ a6 ∧ a6 ≤ 2147483647) : qOkM n d 155 [.inr (.inr (some 8)), .inl a1, .inl a2, .inl a3, .inl a4, .inl a5, .inl a6] 7 qCI [62, 64, 65, 66, 72, 73, 74, 81, 82, 84, 86] M (qRi (fun x => (-2147483648) ≤ x ∧ x ≤ 60)) := by
  have hz := zp_155
  have hd0 : 0 < d := by omega
  have hW : qFr [62, 64, 65, 66, 72, 73, 74, 81, 82, 84, 86] M M := qFr.rfl
  show zG n (0, 0) d 155 (0, [.inr (.inr (some 8)), .inl a1, .inl a2, .inl a3, .inl a4, .inl a5, .inl a6], []) M _
  refine zG_blk (c' := (2, [.inr (.inr (some 8)), .inl a1, .inl a2, .inl a3, .inl a4, .inl a5, .inl a6], [.inl a1, .inr (.inr (some 8))])) 2 hd0 hz (by rfl) ?_
  refine zG_call hd0 hz zp_174 rfl rfl (Nat.le_of_ble_eq_true rfl) ⟨Nat.le_refl _, Nat.le_refl _⟩ (qm_174_8 (by first | exact zdp hd (by decide) | omega) hC  a1 (by first | with_reducible exact ha1 | omega)) (fun vr M1 hr => ?_)
  obtain ⟨hq, x2, rfl, hx2⟩ := hr
  replace hq := hq.symm; subst hq
  show zG n (0, 0) d 155 (5, [.inr (.inr (some 8)), .inl a1, .inl a2, .inl a3, .inl a4, .inl a5, .inl a6], [.inl x2]) M _
  have j29 : zG n (0, 0) d 155 (29, [.inr (.inr (some 8)), .inl a1, .inl a2, .inl a3, .inl a4, .inl a5, .inl a6], []) M (fun v M' => qWf qCI [62, 64, 65, 66, 72, 73, 74, 81, 82, 84, 86] M M' ∧ qRi (fun x => (-2147483648) ≤ x ∧ x ≤ 60) v) := by
    refine zG_blk (c' := (31, [.inr (.inr (some 8)), .inl a1, .inl a2, .inl a3, .inl a4, .inl a5, .inl a6], [.inl (-2)])) 1 hd0 hz (by rfl) ?_
    exact zG_ret hd0 hz rfl rfl ⟨⟨hC, hW⟩, _, rfl, by omega⟩
  refine zG_if_eq hd0 hz rfl (fun hb3 => ?_) (fun hb3 => ?_)
  · exact j29
  · refine zG_blk (c' := (11, [.inr (.inr (some 8)), .inl a1, .inl a2, .inl a3, .inl a4, .inl a5, .inl a6], [.inr (.inr (some 8)), .inl 0, .inl a2])) 3 hd0 hz (by rfl) ?_
    refine zG_call hd0 hz zp_177 rfl rfl (Nat.le_of_ble_eq_true rfl) ⟨Nat.le_refl _, Nat.le_refl _⟩ (qm_177_8 (by first | exact zdp hd (by decide) | omega) hC  ) (fun vr M4 hr => ?_)
    obtain ⟨hq, x5, rfl, hx5⟩ := hr
    replace hq := hq.symm; subst hq
    show zG n (0, 0) d 155 (14, [.inr (.inr (some 8)), .inl a1, .inl a2, .inl a3, .inl a4, .inl a5, .inl a6], [.inl x5, .inl 0, .inl a2]) M _
    refine zG_call hd0 hz zp_169 rfl rfl (Nat.le_of_ble_eq_true rfl) ⟨Nat.le_refl _, Nat.le_refl _⟩ (qm_169 (by first | exact zdp hd (by decide) | omega) hC  a2 (by first | with_reducible exact ha2 | omega) 0 (by first | decide | omega) x5 (by omega)) (fun vr M6 hr => ?_)
    obtain ⟨hq, x7, rfl, hx7⟩ := hr
    replace hq := hq.symm; subst hq
    show zG n (0, 0) d 155 (17, [.inr (.inr (some 8)), .inl a1, .inl a2, .inl a3, .inl a4, .inl a5, .inl a6], [.inl x7]) M _
    refine zG_if_eq hd0 hz rfl (fun hb8 => ?_) (fun hb8 => ?_)
    · exact j29
    · refine zG_blk (c' := (23, [.inr (.inr (some 8)), .inl a1, .inl a2, .inl a3, .inl a4, .inl a5, .inl a6], [.inl 2, .inl 0, .inl a3])) 3 hd0 hz (by rfl) ?_
      refine zG_call hd0 hz zp_169 rfl rfl (Nat.le_of_ble_eq_true rfl) ⟨Nat.le_refl _, Nat.le_refl _⟩ (qm_169 (by first | exact zdp hd (by decide) | omega) hC  a3 (by first | with_reducible exact ha3 | omega) 0 (by first | decide | omega) 2 (by first | decide | omega)) (fun vr M9 hr => ?_)
      obtain ⟨hq, x10, rfl, hx10⟩ := hr
      replace hq := hq.symm; subst hq
      show zG n (0, 0) d 155 (26, [.inr (.inr (some 8)), .inl a1, .inl a2, .inl a3, .inl a4, .inl a5, .inl a6], [.inl x10]) M _
      refine zG_if_ne hd0 hz rfl (fun hb11 => ?_) (fun hb11 => ?_)
      · refine zG_blk (c' := (36, [.inr (.inr (some 8)), .inl a1, .inl a2, .inl a3, .inl a4, .inl a5, .inl a6], [.inl 4, .inl 1, .inl a4])) 3 hd0 hz (by rfl) ?_
        refine zG_call hd0 hz zp_169 rfl rfl (Nat.le_of_ble_eq_true rfl) ⟨Nat.le_refl _, Nat.le_refl _⟩ (qm_169 (by first | exact zdp hd (by decide) | omega) hC  a4 (by first | with_reducible exact ha4 | omega) 1 (by first | decide | omega) 4 (by first | decide | omega)) (fun vr M12 hr => ?_)
        obtain ⟨hq, x13, rfl, hx13⟩ := hr
        replace hq := hq.symm; subst hq
        show zG n (0, 0) d 155 (39, [.inr (.inr (some 8)), .inl a1, .inl a2, .inl a3, .inl a4, .inl a5, .inl a6], [.inl x13]) M _
        have j58 : zG n (0, 0) d 155 (58, [.inr (.inr (some 8)), .inl a1, .inl a2, .inl a3, .inl a4, .inl a5, .inl a6], []) M (fun v M' => qWf qCI [62, 64, 65, 66, 72, 73, 74, 81, 82, 84, 86] M M' ∧ qRi (fun x => (-2147483648) ≤ x ∧ x ≤ 60) v) := by
          refine zG_blk (c' := (60, [.inr (.inr (some 8)), .inl a1, .inl a2, .inl a3, .inl a4, .inl a5, .inl a6], [.inl (-2)])) 1 hd0 hz (by rfl) ?_
          exact zG_ret hd0 hz rfl rfl ⟨⟨hC, hW⟩, _, rfl, by omega⟩
        refine zG_if_eq hd0 hz rfl (fun hb14 => ?_) (fun hb14 => ?_)
        · exact j58
        · refine zG_blk (c' := (44, [.inr (.inr (some 8)), .inl a1, .inl a2, .inl a3, .inl a4, .inl a5, .inl a6], [.inl a5])) 1 hd0 hz (by rfl) ?_
          refine zG_call hd0 hz zp_170 rfl rfl (Nat.le_of_ble_eq_true rfl) ⟨Nat.le_refl _, Nat.le_refl _⟩ (qm_170 (by first | exact zdp hd (by decide) | omega) hC  a5 (by first | with_reducible exact ha5 | omega)) (fun vr M15 hr => ?_)
          obtain ⟨hq, x16, rfl, hx16⟩ := hr
          replace hq := hq.symm; subst hq
          show zG n (0, 0) d 155 (47, [.inr (.inr (some 8)), .inl a1, .inl a2, .inl a3, .inl a4, .inl a5, .inl a6], [.inl x16]) M _
          refine zG_if_eq hd0 hz rfl (fun hb17 => ?_) (fun hb17 => ?_)
          · exact j58
          · refine zG_blk (c' := (52, [.inr (.inr (some 8)), .inl a1, .inl a2, .inl a3, .inl a4, .inl a5, .inl a6], [.inl a6])) 1 hd0 hz (by rfl) ?_
            refine zG_call hd0 hz zp_170 rfl rfl (Nat.le_of_ble_eq_true rfl) ⟨Nat.le_refl _, Nat.le_refl _⟩ (qm_170 (by first | exact zdp hd (by decide) | omega) hC  a6 (by first | with_reducible exact ha6 | omega)) (fun vr M18 hr => ?_)
            obtain ⟨hq, x19, rfl, hx19⟩ := hr
            replace hq := hq.symm; subst hq
            show zG n (0, 0) d 155 (55, [.inr (.inr (some 8)), .inl a1, .inl a2, .inl a3, .inl a4, .inl a5, .inl a6], [.inl x19]) M _
            refine zG_if_ne hd0 hz rfl (fun hb20 => ?_) (fun hb20 => ?_)
            · refine zG_blk (c' := (68, [.inr (.inr (some 8)), .inl a1, .inl a2, .inl a3, .inl a4, .inl a5, .inl a6], [.inl (-1), .inl a6, .inr (.inr (some 60))])) 4 hd0 hz (by rfl) ?_
              refine zG_call hd0 hz zp_41 rfl rfl (Nat.le_of_ble_eq_true rfl) ⟨Nat.le_refl _, Nat.le_refl _⟩ (qm_41_60 (by first | exact zdp hd (by decide) | omega) hC  a6 (by first | with_reducible exact ha6 | omega) (-1) (by first | decide | omega)) (fun vr M21 hr => ?_)
              obtain ⟨⟨hCM21, hFM21⟩, rfl⟩ := hr
              have hWM21 : qFr [62, 64, 65, 66, 72, 73, 74, 81, 82, 84, 86] M M21 := hW.tr hFM21 (by decide)
              show zG n (0, 0) d 155 (71, [.inr (.inr (some 8)), .inl a1, .inl a2, .inl a3, .inl a4, .inl a5, .inl a6], []) M21 _
              refine zG_blk (c' := (83, [.inr (.inr (some 8)), .inl a1, .inl a2, .inl a3, .inl a4, .inl a5, .inl a6], [.inl a5, .inl a1, .inr (.inr (some 76)), .inl a2, .inr (.inr (some 81))])) 7 hd0 hz (by rfl) ?_
              refine zG_call hd0 hz zp_32 rfl rfl (Nat.le_of_ble_eq_true rfl) ⟨Nat.le_refl _, Nat.le_refl _⟩ (qm_32_76 (by first | exact zdp hd (by decide) | omega) hCM21  a1 (by first | with_reducible exact ha1 | omega) a5 (by first | with_reducible exact ha5 | omega)) (fun vr M23 hr => ?_)
              obtain ⟨⟨hCM23, hFM23⟩, x24, rfl, hx24⟩ := hr
              have hWM23 : qFr [62, 64, 65, 66, 72, 73, 74, 81, 82, 84, 86] M M23 := hWM21.tr hFM23 (by decide)
              show zG n (0, 0) d 155 (86, [.inr (.inr (some 8)), .inl a1, .inl a2, .inl a3, .inl a4, .inl a5, .inl a6], [.inl x24, .inl a2, .inr (.inr (some 81))]) M23 _
              refine zG_blk (c' := (88, [.inr (.inr (some 8)), .inl a1, .inl a2, .inl a3, .inl a4, .inl a5, .inl a6], [.inl a4, .inl x24, .inl a2, .inr (.inr (some 81))])) 1 hd0 hz (by rfl) ?_
              refine zG_call hd0 hz zp_112 rfl rfl (Nat.le_of_ble_eq_true rfl) ⟨Nat.le_refl _, Nat.le_refl _⟩ (qm_112_81 (by first | exact zdp hd (by decide) | omega) hCM23  a2 (by first | with_reducible exact ha2 | omega) x24 (by omega) a4 (by first | with_reducible exact ha4 | omega)) (fun vr M25 hr => ?_)
              obtain ⟨⟨hCM25, hFM25⟩, rfl⟩ := hr
              have hWM25 : qFr [62, 64, 65, 66, 72, 73, 74, 81, 82, 84, 86] M M25 := hWM23.tr hFM25 (by decide)
              show zG n (0, 0) d 155 (91, [.inr (.inr (some 8)), .inl a1, .inl a2, .inl a3, .inl a4, .inl a5, .inl a6], []) M25 _
              refine zG_blk (c' := (96, [.inr (.inr (some 8)), .inl a1, .inl a2, .inl a3, .inl a4, .inl a5, .inl a6], [.inl a3, .inr (.inr (some 81))])) 3 hd0 hz (by rfl) ?_
              refine zG_call hd0 hz zp_113 rfl rfl (Nat.le_of_ble_eq_true rfl) ⟨Nat.le_refl _, Nat.le_refl _⟩ (qm_113_81 (by first | exact zdp hd (by decide) | omega) hCM25  a3 (by first | with_reducible exact ha3 | omega)) (fun vr M27 hr => ?_)
              obtain ⟨⟨hCM27, hFM27⟩, x28, rfl, hx28⟩ := hr
              have hWM27 : qFr [62, 64, 65, 66, 72, 73, 74, 81, 82, 84, 86] M M27 := hWM25.tr hFM27 (by decide)
              show zG n (0, 0) d 155 (99, [.inr (.inr (some 8)), .inl a1, .inl a2, .inl a3, .inl a4, .inl a5, .inl a6], [.inl x28]) M27 _
              exact zG_ret hd0 hz rfl rfl ⟨⟨hCM27, hWM27⟩, _, rfl, by omega⟩
            · exact j58
      · exact j29
