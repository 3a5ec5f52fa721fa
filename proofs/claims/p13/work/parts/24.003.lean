theorem qm_18_9 {n d : Nat} {M : zM} (hd : 2 ≤ d) (hC : qCI M) (a1 : Int) (ha1 : (-2147483648) ≤ a1 ∧ a1 ≤ 2147483647) (a2 : Int) (ha2 : (-2147483648) ≤ a2 ∧ a2 ≤ 2147483647) (a3 : Int) (ha3 : (-2147483648) ≤ a3 ∧ a3 ≤ 2147483647) (a4 : Int) (ha4 : (-2147483648) ≤ a4 ∧ a4 ≤ 2147483647) : qOkM n d 18 [.inr (.inr (some 9)), .inl a1, .inl a2, .inl a3, .inl a4] 7 qCI [18, 19] M (qRi (fun x => (-4) ≤ x ∧ x ≤ 249)) := by
  have hz := zp_18
  have hd0 : 0 < d := by omega
  have hW : qFr [18, 19] M M := qFr.rfl
  show zG n (0, 0) d 18 (0, [.inr (.inr (some 9)), .inl a1, .inl a2, .inl a3, .inl a4, zN, zN], []) M _
  refine zG_blk (c' := (4, [.inr (.inr (some 9)), .inl a1, .inl a2, .inl a3, .inl a4, zN, zN], [.inr (.inr (some 18))])) 2 hd0 hz (by rfl) ?_
  refine zG_call hd0 hz zp_103 rfl rfl (Nat.le_of_ble_eq_true rfl) ⟨Nat.le_refl _, Nat.le_refl _⟩ (qw_open (by first | exact zdp hd (by decide) | omega) hC (⟨by decide, rfl, rfl⟩ : qT n 18 250 11) ) (fun vr M1 hr => ?_)
  obtain ⟨⟨hCM1, hFM1⟩, x2, rfl, hx2⟩ := hr
  have hWM1 : qFr [18, 19] M M1 := hW.tr hFM1 (by decide)
  show zG n (0, 0) d 18 (7, [.inr (.inr (some 9)), .inl a1, .inl a2, .inl a3, .inl a4, zN, zN], [.inl x2]) M1 _
  refine zG_blk (c' := (12, [.inr (.inr (some 9)), .inl a1, .inl a2, .inl a3, .inl a4, .inl x2, .inl 0], [])) 3 hd0 hz (by rfl) ?_
  have j12 : ∀ (N : Nat) (v3 : Int) (M4 : zM) , (11 - v3 : Int).toNat < N → 0 ≤ v3 ∧ v3 ≤ 11 → qCI M4 → qFr [18, 19] M M4 → zG n (0, 0) d 18 (12, [.inr (.inr (some 9)), .inl a1, .inl a2, .inl a3, .inl a4, .inl x2, .inl v3], []) M4 (fun v M' => qWf qCI [18, 19] M M' ∧ qRi (fun x => (-4) ≤ x ∧ x ≤ 249) v) := by
    intro N
    induction N with
    | zero => intro v3 M4 hN hv3 hCM4 hWM4; exact absurd hN (Nat.not_lt_zero _)
    | succ N ih12 =>
      intro v3 M4 hN hv3 hCM4 hWM4
      refine zG_blk (c' := (16, [.inr (.inr (some 9)), .inl a1, .inl a2, .inl a3, .inl a4, .inl x2, .inl v3], [.inl 11, .inl v3])) 2 hd0 hz (by rfl) ?_
      refine zG_icmp_ge hd0 hz rfl (fun hb5 => ?_) (fun hb5 => ?_)
      · refine zG_blk (c' := (45, [.inr (.inr (some 9)), .inl a1, .inl a2, .inl a3, .inl a4, .inl x2, .inl v3], [.inl a1, .inl 0, .inl x2, .inr (.inr (some 18))])) 5 hd0 hz (by rfl) ?_
        refine zG_call hd0 hz zp_107 rfl rfl (Nat.le_of_ble_eq_true rfl) ⟨Nat.le_refl _, Nat.le_refl _⟩ (qw_set (by first | exact zdp hd (by decide) | omega) hCM4 (⟨by decide, rfl, rfl⟩ : qT n 18 250 11) x2 (by omega) 0 (by first | decide | omega) a1 (by first | with_reducible exact ha1 | omega)) (fun vr M6 hr => ?_)
        obtain ⟨⟨hCM6, hFM6⟩, rfl⟩ := hr
        have hWM6 : qFr [18, 19] M M6 := hWM4.tr hFM6 (by decide)
        show zG n (0, 0) d 18 (48, [.inr (.inr (some 9)), .inl a1, .inl a2, .inl a3, .inl a4, .inl x2, .inl v3], []) M6 _
        refine zG_blk (c' := (56, [.inr (.inr (some 9)), .inl a1, .inl a2, .inl a3, .inl a4, .inl x2, .inl v3], [.inl a2, .inl 1, .inl x2, .inr (.inr (some 18))])) 5 hd0 hz (by rfl) ?_
        refine zG_call hd0 hz zp_107 rfl rfl (Nat.le_of_ble_eq_true rfl) ⟨Nat.le_refl _, Nat.le_refl _⟩ (qw_set (by first | exact zdp hd (by decide) | omega) hCM6 (⟨by decide, rfl, rfl⟩ : qT n 18 250 11) x2 (by omega) 1 (by first | decide | omega) a2 (by first | with_reducible exact ha2 | omega)) (fun vr M8 hr => ?_)
        obtain ⟨⟨hCM8, hFM8⟩, rfl⟩ := hr
        have hWM8 : qFr [18, 19] M M8 := hWM6.tr hFM8 (by decide)
        show zG n (0, 0) d 18 (59, [.inr (.inr (some 9)), .inl a1, .inl a2, .inl a3, .inl a4, .inl x2, .inl v3], []) M8 _
        refine zG_blk (c' := (67, [.inr (.inr (some 9)), .inl a1, .inl a2, .inl a3, .inl a4, .inl x2, .inl v3], [.inl a3, .inl 2, .inl x2, .inr (.inr (some 18))])) 5 hd0 hz (by rfl) ?_
        refine zG_call hd0 hz zp_107 rfl rfl (Nat.le_of_ble_eq_true rfl) ⟨Nat.le_refl _, Nat.le_refl _⟩ (qw_set (by first | exact zdp hd (by decide) | omega) hCM8 (⟨by decide, rfl, rfl⟩ : qT n 18 250 11) x2 (by omega) 2 (by first | decide | omega) a3 (by first | with_reducible exact ha3 | omega)) (fun vr M10 hr => ?_)
        obtain ⟨⟨hCM10, hFM10⟩, rfl⟩ := hr
        have hWM10 : qFr [18, 19] M M10 := hWM8.tr hFM10 (by decide)
        show zG n (0, 0) d 18 (70, [.inr (.inr (some 9)), .inl a1, .inl a2, .inl a3, .inl a4, .inl x2, .inl v3], []) M10 _
        refine zG_blk (c' := (79, [.inr (.inr (some 9)), .inl a1, .inl a2, .inl a3, .inl a4, .inl x2, .inl v3], [.inl a4, .inl 3, .inl x2, .inr (.inr (some 18))])) 5 hd0 hz (by rfl) ?_
        refine zG_call hd0 hz zp_107 rfl rfl (Nat.le_of_ble_eq_true rfl) ⟨Nat.le_refl _, Nat.le_refl _⟩ (qw_set (by first | exact zdp hd (by decide) | omega) hCM10 (⟨by decide, rfl, rfl⟩ : qT n 18 250 11) x2 (by omega) 3 (by first | decide | omega) a4 (by first | with_reducible exact ha4 | omega)) (fun vr M12 hr => ?_)
        obtain ⟨⟨hCM12, hFM12⟩, rfl⟩ := hr
        have hWM12 : qFr [18, 19] M M12 := hWM10.tr hFM12 (by decide)
        show zG n (0, 0) d 18 (82, [.inr (.inr (some 9)), .inl a1, .inl a2, .inl a3, .inl a4, .inl x2, .inl v3], []) M12 _
        refine zG_blk (c' := (84, [.inr (.inr (some 9)), .inl a1, .inl a2, .inl a3, .inl a4, .inl x2, .inl v3], [.inl x2])) 1 hd0 hz (by rfl) ?_
        exact zG_ret hd0 hz rfl rfl ⟨⟨hCM12, hWM12⟩, _, rfl, by omega⟩
      · refine zG_blk (c' := (28, [.inr (.inr (some 9)), .inl a1, .inl a2, .inl a3, .inl a4, .inl x2, .inl v3], [.inl (-1), .inl v3, .inl x2, .inr (.inr (some 18))])) 5 hd0 hz (by rfl) ?_
        refine zG_call hd0 hz zp_107 rfl rfl (Nat.le_of_ble_eq_true rfl) ⟨Nat.le_refl _, Nat.le_refl _⟩ (qw_set (by first | exact zdp hd (by decide) | omega) hCM4 (⟨by decide, rfl, rfl⟩ : qT n 18 250 11) x2 (by omega) v3 (by first | with_reducible exact hv3 | omega) (-1) (by first | decide | omega)) (fun vr M14 hr => ?_)
        obtain ⟨⟨hCM14, hFM14⟩, rfl⟩ := hr
        have hWM14 : qFr [18, 19] M M14 := hWM4.tr hFM14 (by decide)
        show zG n (0, 0) d 18 (31, [.inr (.inr (some 9)), .inl a1, .inl a2, .inl a3, .inl a4, .inl x2, .inl v3], []) M14 _
        obtain ⟨x16, hx16⟩ : ∃ x : Int, x = w32 (v3 + 1) := ⟨_, rfl⟩
        have hx16e : x16 = v3 + 1 := by rw [hx16]; exact w32_id (by omega)
        refine zG_blk (c' := (12, [.inr (.inr (some 9)), .inl a1, .inl a2, .inl a3, .inl a4, .inl x2, .inl x16], [])) 2 hd0 hz (by subst hx16; rfl) ?_
        exact ih12 x16 M14 (by omega) (by omega) hCM14 hWM14
  exact j12 ((11 - 0 : Int).toNat + 1) 0 M1 (by omega) (by omega) hCM1 hWM1
theorem qm_129_8 {n d : Nat} {M : zM} (hd : 3 ≤ d) (hC : qCI M) (a1 : Int) (ha1 : (-2147483648) ≤ a1 ∧ a1 ≤ 2147483647) (a2 : Int) (ha2 : (-2147483648) ≤ a2 ∧ a2 ≤ 2147483647) (a3 : Int) (ha3 : (-2147483648) ≤ a3 ∧ a3 ≤ 2147483647) (a4 : Int) (ha4 : (-2147483648) ≤ a4 ∧ a4 ≤ 2147483647) (a5 : Int) (ha5 : (-2147483648) ≤ a5 ∧ a5 ≤ 2147483647) (a6 : Int) (ha6 : (-2147483648) ≤ a6 ∧ a6 ≤ 2147483647) : qOkM n d 129 [.inr (.inr (some 8)), .inl a1, .inl a2, .inl a3, .inl a4, .inl a5, .inl a6] 8 qCI [18, 19] M (qRi (fun x => (-4) ≤ x ∧ x ≤ 249)) := by
  have hz := zp_129
  have hd0 : 0 < d := by omega
  have hW : qFr [18, 19] M M := qFr.rfl
  show zG n (0, 0) d 129 (0, [.inr (.inr (some 8)), .inl a1, .inl a2, .inl a3, .inl a4, .inl a5, .inl a6, zN], []) M _
  refine zG_blk (c' := (2, [.inr (.inr (some 8)), .inl a1, .inl a2, .inl a3, .inl a4, .inl a5, .inl a6, zN], [.inl a1, .inr (.inr (some 8))])) 2 hd0 hz (by rfl) ?_
  refine zG_call hd0 hz zp_174 rfl rfl (Nat.le_of_ble_eq_true rfl) ⟨Nat.le_refl _, Nat.le_refl _⟩ (qm_174_8 (by first | exact zdp hd (by decide) | omega) hC  a1 (by first | with_reducible exact ha1 | omega)) (fun vr M1 hr => ?_)
  obtain ⟨hq, x2, rfl, hx2⟩ := hr
  replace hq := hq.symm; subst hq
  show zG n (0, 0) d 129 (5, [.inr (.inr (some 8)), .inl a1, .inl a2, .inl a3, .inl a4, .inl a5, .inl a6, zN], [.inl x2]) M _
  have j31 : zG n (0, 0) d 129 (31, [.inr (.inr (some 8)), .inl a1, .inl a2, .inl a3, .inl a4, .inl a5, .inl a6, zN], []) M (fun v M' => qWf qCI [18, 19] M M' ∧ qRi (fun x => (-4) ≤ x ∧ x ≤ 249) v) := by
    refine zG_blk (c' := (33, [.inr (.inr (some 8)), .inl a1, .inl a2, .inl a3, .inl a4, .inl a5, .inl a6, zN], [.inl (-2)])) 1 hd0 hz (by rfl) ?_
    exact zG_ret hd0 hz rfl rfl ⟨⟨hC, hW⟩, _, rfl, by omega⟩
  refine zG_if_eq hd0 hz rfl (fun hb3 => ?_) (fun hb3 => ?_)
  · exact j31
  · refine zG_blk (c' := (10, [.inr (.inr (some 8)), .inl a1, .inl a2, .inl a3, .inl a4, .inl a5, .inl a6, zN], [.inl a2, .inr (.inr (some 8))])) 2 hd0 hz (by rfl) ?_
    refine zG_call hd0 hz zp_175 rfl rfl (Nat.le_of_ble_eq_true rfl) ⟨Nat.le_refl _, Nat.le_refl _⟩ (qm_175_8 (by first | exact zdp hd (by decide) | omega) hC  a2 (by first | with_reducible exact ha2 | omega)) (fun vr M4 hr => ?_)
    obtain ⟨hq, x5, rfl, hx5⟩ := hr
    replace hq := hq.symm; subst hq
    show zG n (0, 0) d 129 (13, [.inr (.inr (some 8)), .inl a1, .inl a2, .inl a3, .inl a4, .inl a5, .inl a6, zN], [.inl x5]) M _
    refine zG_if_eq hd0 hz rfl (fun hb6 => ?_) (fun hb6 => ?_)
    · exact j31
    · refine zG_blk (c' := (17, [.inr (.inr (some 8)), .inl a1, .inl a2, .inl a3, .inl a4, .inl a5, .inl a6, zN], [.inl a3])) 1 hd0 hz (by rfl) ?_
      refine zG_call hd0 hz zp_171 rfl rfl (Nat.le_of_ble_eq_true rfl) ⟨Nat.le_refl _, Nat.le_refl _⟩ (qm_171 (by first | exact zdp hd (by decide) | omega) hC  a3 (by first | with_reducible exact ha3 | omega)) (fun vr M7 hr => ?_)
      obtain ⟨hq, x8, rfl, hx8⟩ := hr
      replace hq := hq.symm; subst hq
      show zG n (0, 0) d 129 (20, [.inr (.inr (some 8)), .inl a1, .inl a2, .inl a3, .inl a4, .inl a5, .inl a6, zN], [.inl x8]) M _
      refine zG_if_eq hd0 hz rfl (fun hb9 => ?_) (fun hb9 => ?_)
      · exact j31
      · refine zG_blk (c' := (25, [.inr (.inr (some 8)), .inl a1, .inl a2, .inl a3, .inl a4, .inl a5, .inl a6, zN], [.inl a4])) 1 hd0 hz (by rfl) ?_
        refine zG_call hd0 hz zp_172 rfl rfl (Nat.le_of_ble_eq_true rfl) ⟨Nat.le_refl _, Nat.le_refl _⟩ (qm_172 (by first | exact zdp hd (by decide) | omega) hC  a4 (by first | with_reducible exact ha4 | omega)) (fun vr M10 hr => ?_)
        obtain ⟨hq, x11, rfl, hx11⟩ := hr
        replace hq := hq.symm; subst hq
        show zG n (0, 0) d 129 (28, [.inr (.inr (some 8)), .inl a1, .inl a2, .inl a3, .inl a4, .inl a5, .inl a6, zN], [.inl x11]) M _
        refine zG_if_ne hd0 hz rfl (fun hb12 => ?_) (fun hb12 => ?_)
        · refine zG_blk (c' := (36, [.inr (.inr (some 8)), .inl a1, .inl a2, .inl a3, .inl a4, .inl a5, .inl a6, zN], [.inl a5])) 1 hd0 hz (by rfl) ?_
          refine zG_call hd0 hz zp_170 rfl rfl (Nat.le_of_ble_eq_true rfl) ⟨Nat.le_refl _, Nat.le_refl _⟩ (qm_170 (by first | exact zdp hd (by decide) | omega) hC  a5 (by first | with_reducible exact ha5 | omega)) (fun vr M13 hr => ?_)
          obtain ⟨hq, x14, rfl, hx14⟩ := hr
          replace hq := hq.symm; subst hq
          show zG n (0, 0) d 129 (39, [.inr (.inr (some 8)), .inl a1, .inl a2, .inl a3, .inl a4, .inl a5, .inl a6, zN], [.inl x14]) M _
          have j55 : zG n (0, 0) d 129 (55, [.inr (.inr (some 8)), .inl a1, .inl a2, .inl a3, .inl a4, .inl a5, .inl a6, zN], []) M (fun v M' => qWf qCI [18, 19] M M' ∧ qRi (fun x => (-4) ≤ x ∧ x ≤ 249) v) := by
            refine zG_blk (c' := (57, [.inr (.inr (some 8)), .inl a1, .inl a2, .inl a3, .inl a4, .inl a5, .inl a6, zN], [.inl (-2)])) 1 hd0 hz (by rfl) ?_
            exact zG_ret hd0 hz rfl rfl ⟨⟨hC, hW⟩, _, rfl, by omega⟩
          refine zG_if_eq hd0 hz rfl (fun hb15 => ?_) (fun hb15 => ?_)
          · exact j55
          · refine zG_blk (c' := (49, [.inr (.inr (some 8)), .inl a1, .inl a2, .inl a3, .inl a4, .inl a5, .inl a6, zN], [.inl 9999, .inl a5, .inl a6])) 3 hd0 hz (by rfl) ?_
            refine zG_call hd0 hz zp_169 rfl rfl (Nat.le_of_ble_eq_true rfl) ⟨Nat.le_refl _, Nat.le_refl _⟩ (qm_169 (by first | exact zdp hd (by decide) | omega) hC  a6 (by first | with_reducible exact ha6 | omega) a5 (by first | with_reducible exact ha5 | omega) 9999 (by first | decide | omega)) (fun vr M16 hr => ?_)
            obtain ⟨hq, x17, rfl, hx17⟩ := hr
            replace hq := hq.symm; subst hq
            show zG n (0, 0) d 129 (52, [.inr (.inr (some 8)), .inl a1, .inl a2, .inl a3, .inl a4, .inl a5, .inl a6, zN], [.inl x17]) M _
            refine zG_if_ne hd0 hz rfl (fun hb18 => ?_) (fun hb18 => ?_)
            · refine zG_blk (c' := (68, [.inr (.inr (some 8)), .inl a1, .inl a2, .inl a3, .inl a4, .inl a5, .inl a6, zN], [.inl (-1), .inl a6, .inl a5, .inl 0, .inr (.inr (some 9))])) 6 hd0 hz (by rfl) ?_
              refine zG_call hd0 hz zp_18 rfl rfl (Nat.le_of_ble_eq_true rfl) ⟨Nat.le_refl _, Nat.le_refl _⟩ (qm_18_9 (by first | exact zdp hd (by decide) | omega) hC  0 (by first | decide | omega) a5 (by first | with_reducible exact ha5 | omega) a6 (by first | with_reducible exact ha6 | omega) (-1) (by first | decide | omega)) (fun vr M19 hr => ?_)
              obtain ⟨⟨hCM19, hFM19⟩, x20, rfl, hx20⟩ := hr
              have hWM19 : qFr [18, 19] M M19 := hW.tr hFM19 (by decide)
              show zG n (0, 0) d 129 (71, [.inr (.inr (some 8)), .inl a1, .inl a2, .inl a3, .inl a4, .inl a5, .inl a6, zN], [.inl x20]) M19 _
              refine zG_blk (c' := (84, [.inr (.inr (some 8)), .inl a1, .inl a2, .inl a3, .inl a4, .inl a5, .inl a6, .inl x20], [.inl a1, .inl 4, .inl x20, .inr (.inr (some 18))])) 7 hd0 hz (by rfl) ?_
              refine zG_call hd0 hz zp_107 rfl rfl (Nat.le_of_ble_eq_true rfl) ⟨Nat.le_refl _, Nat.le_refl _⟩ (qw_set (by first | exact zdp hd (by decide) | omega) hCM19 (⟨by decide, rfl, rfl⟩ : qT n 18 250 11) x20 (by omega) 4 (by first | decide | omega) a1 (by first | with_reducible exact ha1 | omega)) (fun vr M21 hr => ?_)
              obtain ⟨⟨hCM21, hFM21⟩, rfl⟩ := hr
              have hWM21 : qFr [18, 19] M M21 := hWM19.tr hFM21 (by decide)
              show zG n (0, 0) d 129 (87, [.inr (.inr (some 8)), .inl a1, .inl a2, .inl a3, .inl a4, .inl a5, .inl a6, .inl x20], []) M21 _
              refine zG_blk (c' := (98, [.inr (.inr (some 8)), .inl a1, .inl a2, .inl a3, .inl a4, .inl a5, .inl a6, .inl x20], [.inl a2, .inl 5, .inl x20, .inr (.inr (some 18))])) 6 hd0 hz (by rfl) ?_
              refine zG_call hd0 hz zp_107 rfl rfl (Nat.le_of_ble_eq_true rfl) ⟨Nat.le_refl _, Nat.le_refl _⟩ (qw_set (by first | exact zdp hd (by decide) | omega) hCM21 (⟨by decide, rfl, rfl⟩ : qT n 18 250 11) x20 (by omega) 5 (by first | decide | omega) a2 (by first | with_reducible exact ha2 | omega)) (fun vr M23 hr => ?_)
              obtain ⟨⟨hCM23, hFM23⟩, rfl⟩ := hr
              have hWM23 : qFr [18, 19] M M23 := hWM21.tr hFM23 (by decide)
              show zG n (0, 0) d 129 (101, [.inr (.inr (some 8)), .inl a1, .inl a2, .inl a3, .inl a4, .inl a5, .inl a6, .inl x20], []) M23 _
              refine zG_blk (c' := (113, [.inr (.inr (some 8)), .inl a1, .inl a2, .inl a3, .inl a4, .inl a5, .inl a6, .inl x20], [.inl a3, .inl 7, .inl x20, .inr (.inr (some 18))])) 6 hd0 hz (by rfl) ?_
              refine zG_call hd0 hz zp_107 rfl rfl (Nat.le_of_ble_eq_true rfl) ⟨Nat.le_refl _, Nat.le_refl _⟩ (qw_set (by first | exact zdp hd (by decide) | omega) hCM23 (⟨by decide, rfl, rfl⟩ : qT n 18 250 11) x20 (by omega) 7 (by first | decide | omega) a3 (by first | with_reducible exact ha3 | omega)) (fun vr M25 hr => ?_)
              obtain ⟨⟨hCM25, hFM25⟩, rfl⟩ := hr
              have hWM25 : qFr [18, 19] M M25 := hWM23.tr hFM25 (by decide)
              show zG n (0, 0) d 129 (116, [.inr (.inr (some 8)), .inl a1, .inl a2, .inl a3, .inl a4, .inl a5, .inl a6, .inl x20], []) M25 _
              refine zG_blk (c' := (129, [.inr (.inr (some 8)), .inl a1, .inl a2, .inl a3, .inl a4, .inl a5, .inl a6, .inl x20], [.inl a4, .inl 8, .inl x20, .inr (.inr (some 18))])) 6 hd0 hz (by rfl) ?_
              refine zG_call hd0 hz zp_107 rfl rfl (Nat.le_of_ble_eq_true rfl) ⟨Nat.le_refl _, Nat.le_refl _⟩ (qw_set (by first | exact zdp hd (by decide) | omega) hCM25 (⟨by decide, rfl, rfl⟩ : qT n 18 250 11) x20 (by omega) 8 (by first | decide | omega) a4 (by first | with_reducible exact ha4 | omega)) (fun vr M27 hr => ?_)
              obtain ⟨⟨hCM27, hFM27⟩, rfl⟩ := hr
              have hWM27 : qFr [18, 19] M M27 := hWM25.tr hFM27 (by decide)
              show zG n (0, 0) d 129 (132, [.inr (.inr (some 8)), .inl a1, .inl a2, .inl a3, .inl a4, .inl a5, .inl a6, .inl x20], []) M27 _
              refine zG_blk (c' := (134, [.inr (.inr (some 8)), .inl a1, .inl a2, .inl a3, .inl a4, .inl a5, .inl a6, .inl x20], [.inl x20])) 1 hd0 hz (by rfl) ?_
              exact zG_ret hd0 hz rfl rfl ⟨⟨hCM27, hWM27⟩, _, rfl, by omega⟩
            · exact j55
        · exact j31
theorem qm_19_9 {n d : Nat} {M : zM} (hd : 2 ≤ d) (hC : qCI M) (a1 : Int) (ha1 : (-2147483648) ≤ a1 ∧ a1 ≤ 2147483647) (a2 : Int) (ha2 : (-2147483648) ≤ a2 ∧ a2 ≤ 2147483647) : qOkP n d 19 [.inr (.inr (some 9)), .inl a1, .inl a2] 3 M (qRi (fun x => 0 ≤ x ∧ x ≤ 1)) := by
  have hz := zp_19
  have hd0 : 0 < d := by omega
  show zG n (0, 0) d 19 (0, [.inr (.inr (some 9)), .inl a1, .inl a2], []) M _
  refine zG_blk (c' := (5, [.inr (.inr (some 9)), .inl a1, .inl a2], [.inl a2, .inr (.inr (some 18))])) 3 hd0 hz (by rfl) ?_
  refine zG_call hd0 hz zp_102 rfl rfl (Nat.le_of_ble_eq_true rfl) ⟨Nat.le_refl _, Nat.le_refl _⟩ (qw_has (by first | exact zdp hd (by decide) | omega) hC (⟨by decide, rfl, rfl⟩ : qT n 18 250 11) a2 (by first | with_reducible exact ha2 | omega)) (fun vr M1 hr => ?_)
  obtain ⟨hq, x2, rfl, hx2⟩ := hr
  replace hq := hq.symm; subst hq
  show zG n (0, 0) d 19 (8, [.inr (.inr (some 9)), .inl a1, .inl a2], [.inl x2]) M _
  have j29 : ∀ (v3 : Int) , 0 ≤ v3 ∧ v3 ≤ 1 → zG n (0, 0) d 19 (29, [.inr (.inr (some 9)), .inl a1, .inl a2], [.inl v3]) M (fun v M' => M' = M ∧ qRi (fun x => 0 ≤ x ∧ x ≤ 1) v) := by
    intro v3 hv3
    exact zG_zret hd0 hz rfl (by omega) ⟨rfl, _, rfl, by omega⟩
  have j28 : zG n (0, 0) d 19 (28, [.inr (.inr (some 9)), .inl a1, .inl a2], []) M (fun v M' => M' = M ∧ qRi (fun x => 0 ≤ x ∧ x ≤ 1) v) := by
    refine zG_blk (c' := (29, [.inr (.inr (some 9)), .inl a1, .inl a2], [.inl 0])) 1 hd0 hz (by rfl) ?_
    exact j29 0 (by first | decide | omega)
  refine zG_if_eq hd0 hz rfl (fun hb4 => ?_) (fun hb4 => ?_)
  · exact j28
  · refine zG_blk (c' := (17, [.inr (.inr (some 9)), .inl a1, .inl a2], [.inl 0, .inl a2, .inr (.inr (some 18))])) 4 hd0 hz (by rfl) ?_
    refine zG_call hd0 hz zp_106 rfl rfl (Nat.le_of_ble_eq_true rfl) ⟨Nat.le_refl _, Nat.le_refl _⟩ (qw_get (by first | exact zdp hd (by decide) | omega) hC (⟨by decide, rfl, rfl⟩ : qT n 18 250 11) a2 (by first | with_reducible exact ha2 | omega) 0 (by first | decide | omega)) (fun vr M5 hr => ?_)
    obtain ⟨hq, x6, rfl, hx6⟩ := hr
    replace hq := hq.symm; subst hq
    show zG n (0, 0) d 19 (20, [.inr (.inr (some 9)), .inl a1, .inl a2], [.inl x6]) M _
    refine zG_blk (c' := (21, [.inr (.inr (some 9)), .inl a1, .inl a2], [.inl a1, .inl x6])) 1 hd0 hz (by rfl) ?_
    refine zG_icmp_ne hd0 hz rfl (fun hb7 => ?_) (fun hb7 => ?_)
    · exact j28
    · refine zG_blk (c' := (29, [.inr (.inr (some 9)), .inl a1, .inl a2], [.inl 1])) 2 hd0 hz (by rfl) ?_
      exact j29 1 (by first | decide | omega)
theorem qm_130_8 {n d : Nat} {M : zM} (hd : 3 ≤ d) (hC : qCI M) (a1 : Int) (ha1 : (-2147483648) ≤ a1 ∧ a1 ≤ 2147483647) (a2 : Int) (ha2 : (-2147483648) ≤ a2 ∧ a2 ≤ 2147483647) (a3 : Int) (ha3 : (-2147483648) ≤ a3 ∧ a3 ≤ 2147483647) (a4 : Int) (ha4 : (-2147483648) ≤ a4 ∧ a4 ≤ 2147483647) (a5 : Int) (ha5 : (-2147483648) ≤ a5 ∧ a5 ≤ 2147483647) : qOkM n d 130 [.inr (.inr (some 8)), .inl a1, .inl a2, .inl a3, .inl a4, .inl a5] 7 qCI [18, 19] M (qRi (fun x => (-4) ≤ x ∧ x ≤ 249)) := by
  have hz := zp_130
  have hd0 : 0 < d := by omega
  have hW : qFr [18, 19] M M := qFr.rfl
  show zG n (0, 0) d 130 (0, [.inr (.inr (some 8)), .inl a1, .inl a2, .inl a3, .inl a4, .inl a5, zN], []) M _
  refine zG_blk (c' := (6, [.inr (.inr (some 8)), .inl a1, .inl a2, .inl a3, .inl a4, .inl a5, zN], [.inl a1, .inl 0, .inr (.inr (some 9))])) 4 hd0 hz (by rfl) ?_
  refine zG_call hd0 hz zp_19 rfl rfl (Nat.le_of_ble_eq_true rfl) ⟨Nat.le_refl _, Nat.le_refl _⟩ (qm_19_9 (by first | exact zdp hd (by decide) | omega) hC  0 (by first | decide | omega) a1 (by first | with_reducible exact ha1 | omega)) (fun vr M1 hr => ?_)
  obtain ⟨hq, x2, rfl, hx2⟩ := hr
  replace hq := hq.symm; subst hq
  show zG n (0, 0) d 130 (9, [.inr (.inr (some 8)), .inl a1, .inl a2, .inl a3, .inl a4, .inl a5, zN], [.inl x2]) M _
  have j26 : zG n (0, 0) d 130 (26, [.inr (.inr (some 8)), .inl a1, .inl a2, .inl a3, .inl a4, .inl a5, zN], []) M (fun v M' => qWf qCI [18, 19] M M' ∧ qRi (fun x => (-4) ≤ x ∧ x ≤ 249) v) := by
    refine zG_blk (c' := (28, [.inr (.inr (some 8)), .inl a1, .inl a2, .inl a3, .inl a4, .inl a5, zN], [.inl (-2)])) 1 hd0 hz (by rfl) ?_
    exact zG_ret hd0 hz rfl rfl ⟨⟨hC, hW⟩, _, rfl, by omega⟩
  refine zG_if_eq hd0 hz rfl (fun hb3 => ?_) (fun hb3 => ?_)
  · exact j26
  · refine zG_blk (c' := (13, [.inr (.inr (some 8)), .inl a1, .inl a2, .inl a3, .inl a4, .inl a5, zN], [.inl a2])) 1 hd0 hz (by rfl) ?_
    refine zG_call hd0 hz zp_171 rfl rfl (Nat.le_of_ble_eq_true rfl) ⟨Nat.le_refl _, Nat.le_refl _⟩ (qm_171 (by first | exact zdp hd (by decide) | omega) hC  a2 (by first | with_reducible exact ha2 | omega)) (fun vr M4 hr => ?_)
    obtain ⟨hq, x5, rfl, hx5⟩ := hr
    replace hq := hq.symm; subst hq
    show zG n (0, 0) d 130 (16, [.inr (.inr (some 8)), .inl a1, .inl a2, .inl a3, .inl a4, .inl a5, zN], [.inl x5]) M _
    refine zG_if_eq hd0 hz rfl (fun hb6 => ?_) (fun hb6 => ?_)
    · exact j26
    · refine zG_blk (c' := (20, [.inr (.inr (some 8)), .inl a1, .inl a2, .inl a3, .inl a4, .inl a5, zN], [.inl a3])) 1 hd0 hz (by rfl) ?_
      refine zG_call hd0 hz zp_172 rfl rfl (Nat.le_of_ble_eq_true rfl) ⟨Nat.le_refl _, Nat.le_refl _⟩ (qm_172 (by first | exact zdp hd (by decide) | omega) hC  a3 (by first | with_reducible exact ha3 | omega)) (fun vr M7 hr => ?_)
      obtain ⟨hq, x8, rfl, hx8⟩ := hr
      replace hq := hq.symm; subst hq
      show zG n (0, 0) d 130 (23, [.inr (.inr (some 8)), .inl a1, .inl a2, .inl a3, .inl a4, .inl a5, zN], [.inl x8]) M _
      refine zG_if_ne hd0 hz rfl (fun hb9 => ?_) (fun hb9 => ?_)
      · refine zG_blk (c' := (40, [.inr (.inr (some 8)), .inl a1, .inl a2, .inl a3, .inl a4, .inl a5, zN], [.inl 8, .inl a1, .inr (.inr (some 18)), .inl a3])) 6 hd0 hz (by rfl) ?_
        refine zG_call hd0 hz zp_106 rfl rfl (Nat.le_of_ble_eq_true rfl) ⟨Nat.le_refl _, Nat.le_refl _⟩ (qw_get (by first | exact zdp hd (by decide) | omega) hC (⟨by decide, rfl, rfl⟩ : qT n 18 250 11) a1 (by first | with_reducible exact ha1 | omega) 8 (by first | decide | omega)) (fun vr M10 hr => ?_)
        obtain ⟨hq, x11, rfl, hx11⟩ := hr
        replace hq := hq.symm; subst hq
        show zG n (0, 0) d 130 (43, [.inr (.inr (some 8)), .inl a1, .inl a2, .inl a3, .inl a4, .inl a5, zN], [.inl x11, .inl a3]) M _
        refine zG_icmp_ne hd0 hz rfl (fun hb12 => ?_) (fun hb12 => ?_)
        · refine zG_blk (c' := (60, [.inr (.inr (some 8)), .inl a1, .inl a2, .inl a3, .inl a4, .inl a5, zN], [.inl 1, .inl a1, .inr (.inr (some 18)), .inl a4])) 6 hd0 hz (by rfl) ?_
          refine zG_call hd0 hz zp_106 rfl rfl (Nat.le_of_ble_eq_true rfl) ⟨Nat.le_refl _, Nat.le_refl _⟩ (qw_get (by first | exact zdp hd (by decide) | omega) hC (⟨by decide, rfl, rfl⟩ : qT n 18 250 11) a1 (by first | with_reducible exact ha1 | omega) 1 (by first | decide | omega)) (fun vr M13 hr => ?_)
          obtain ⟨hq, x14, rfl, hx14⟩ := hr
          replace hq := hq.symm; subst hq
          show zG n (0, 0) d 130 (63, [.inr (.inr (some 8)), .inl a1, .inl a2, .inl a3, .inl a4, .inl a5, zN], [.inl x14, .inl a4]) M _
          refine zG_blk (c' := (66, [.inr (.inr (some 8)), .inl a1, .inl a2, .inl a3, .inl a4, .inl a5, zN], [.inl 9999, .inl x14, .inl a4])) 1 hd0 hz (by rfl) ?_
          refine zG_call hd0 hz zp_169 rfl rfl (Nat.le_of_ble_eq_true rfl) ⟨Nat.le_refl _, Nat.le_refl _⟩ (qm_169 (by first | exact zdp hd (by decide) | omega) hC  a4 (by first | with_reducible exact ha4 | omega) x14 (by omega) 9999 (by first | decide | omega)) (fun vr M15 hr => ?_)
          obtain ⟨hq, x16, rfl, hx16⟩ := hr
          replace hq := hq.symm; subst hq
          show zG n (0, 0) d 130 (69, [.inr (.inr (some 8)), .inl a1, .inl a2, .inl a3, .inl a4, .inl a5, zN], [.inl x16]) M _
          have j85 : zG n (0, 0) d 130 (85, [.inr (.inr (some 8)), .inl a1, .inl a2, .inl a3, .inl a4, .inl a5, zN], []) M (fun v M' => qWf qCI [18, 19] M M' ∧ qRi (fun x => (-4) ≤ x ∧ x ≤ 249) v) := by
            refine zG_blk (c' := (87, [.inr (.inr (some 8)), .inl a1, .inl a2, .inl a3, .inl a4, .inl a5, zN], [.inl (-2)])) 1 hd0 hz (by rfl) ?_
            exact zG_ret hd0 hz rfl rfl ⟨⟨hC, hW⟩, _, rfl, by omega⟩
          refine zG_if_eq hd0 hz rfl (fun hb17 => ?_) (fun hb17 => ?_)
          · exact j85
          · refine zG_blk (c' := (79, [.inr (.inr (some 8)), .inl a1, .inl a2, .inl a3, .inl a4, .inl a5, zN], [.inl 9999, .inl a4, .inl a5])) 3 hd0 hz (by rfl) ?_
            refine zG_call hd0 hz zp_169 rfl rfl (Nat.le_of_ble_eq_true rfl) ⟨Nat.le_refl _, Nat.le_refl _⟩ (qm_169 (by first | exact zdp hd (by decide) | omega) hC  a5 (by first | with_reducible exact ha5 | omega) a4 (by first | with_reducible exact ha4 | omega) 9999 (by first | decide | omega)) (fun vr M18 hr => ?_)
            obtain ⟨hq, x19, rfl, hx19⟩ := hr
            replace hq := hq.symm; subst hq
            show zG n (0, 0) d 130 (82, [.inr (.inr (some 8)), .inl a1, .inl a2, .inl a3, .inl a4, .inl a5, zN], [.inl x19]) M _
            refine zG_if_ne hd0 hz rfl (fun hb20 => ?_) (fun hb20 => ?_)
            · refine zG_blk (c' := (98, [.inr (.inr (some 8)), .inl a1, .inl a2, .inl a3, .inl a4, .inl a5, zN], [.inl (-1), .inl a5, .inl a4, .inl 1, .inr (.inr (some 9))])) 6 hd0 hz (by rfl) ?_
              refine zG_call hd0 hz zp_18 rfl rfl (Nat.le_of_ble_eq_true rfl) ⟨Nat.le_refl _, Nat.le_refl _⟩ (qm_18_9 (by first | exact zdp hd (by decide) | omega) hC  1 (by first | decide | omega) a4 (by first | with_reducible exact ha4 | omega) a5 (by first | with_reducible exact ha5 | omega) (-1) (by first | decide | omega)) (fun vr M21 hr => ?_)
              obtain ⟨⟨hCM21, hFM21⟩, x22, rfl, hx22⟩ := hr
              have hWM21 : qFr [18, 19] M M21 := hW.tr hFM21 (by decide)
              show zG n (0, 0) d 130 (101, [.inr (.inr (some 8)), .inl a1, .inl a2, .inl a3, .inl a4, .inl a5, zN], [.inl x22]) M21 _
              refine zG_blk (c' := (115, [.inr (.inr (some 8)), .inl a1, .inl a2, .inl a3, .inl a4, .inl a5, .inl x22], [.inl a1, .inl 6, .inl x22, .inr (.inr (some 18))])) 7 hd0 hz (by rfl) ?_
              refine zG_call hd0 hz zp_107 rfl rfl (Nat.le_of_ble_eq_true rfl) ⟨Nat.le_refl _, Nat.le_refl _⟩ (qw_set (by first | exact zdp hd (by decide) | omega) hCM21 (⟨by decide, rfl, rfl⟩ : qT n 18 250 11) x22 (by omega) 6 (by first | decide | omega) a1 (by first | with_reducible exact ha1 | omega)) (fun vr M23 hr => ?_)
              obtain ⟨⟨hCM23, hFM23⟩, rfl⟩ := hr
              have hWM23 : qFr [18, 19] M M23 := hWM21.tr hFM23 (by decide)
              show zG n (0, 0) d 130 (118, [.inr (.inr (some 8)), .inl a1, .inl a2, .inl a3, .inl a4, .inl a5, .inl x22], []) M23 _
              refine zG_blk (c' := (130, [.inr (.inr (some 8)), .inl a1, .inl a2, .inl a3, .inl a4, .inl a5, .inl x22], [.inl a2, .inl 7, .inl x22, .inr (.inr (some 18))])) 6 hd0 hz (by rfl) ?_
              refine zG_call hd0 hz zp_107 rfl rfl (Nat.le_of_ble_eq_true rfl) ⟨Nat.le_refl _, Nat.le_refl _⟩ (qw_set (by first | exact zdp hd (by decide) | omega) hCM23 (⟨by decide, rfl, rfl⟩ : qT n 18 250 11) x22 (by omega) 7 (by first | decide | omega) a2 (by first | with_reducible exact ha2 | omega)) (fun vr M25 hr => ?_)
              obtain ⟨⟨hCM25, hFM25⟩, rfl⟩ := hr
              have hWM25 : qFr [18, 19] M M25 := hWM23.tr hFM25 (by decide)
              show zG n (0, 0) d 130 (133, [.inr (.inr (some 8)), .inl a1, .inl a2, .inl a3, .inl a4, .inl a5, .inl x22], []) M25 _
              refine zG_blk (c' := (145, [.inr (.inr (some 8)), .inl a1, .inl a2, .inl a3, .inl a4, .inl a5, .inl x22], [.inl a3, .inl 8, .inl x22, .inr (.inr (some 18))])) 6 hd0 hz (by rfl) ?_
              refine zG_call hd0 hz zp_107 rfl rfl (Nat.le_of_ble_eq_true rfl) ⟨Nat.le_refl _, Nat.le_refl _⟩ (qw_set (by first | exact zdp hd (by decide) | omega) hCM25 (⟨by decide, rfl, rfl⟩ : qT n 18 250 11) x22 (by omega) 8 (by first | decide | omega) a3 (by first | with_reducible exact ha3 | omega)) (fun vr M27 hr => ?_)
              obtain ⟨⟨hCM27, hFM27⟩, rfl⟩ := hr
              have hWM27 : qFr [18, 19] M M27 := hWM25.tr hFM27 (by decide)
              show zG n (0, 0) d 130 (148, [.inr (.inr (some 8)), .inl a1, .inl a2, .inl a3, .inl a4, .inl a5, .inl x22], []) M27 _
              refine zG_blk (c' := (150, [.inr (.inr (some 8)), .inl a1, .inl a2, .inl a3, .inl a4, .inl a5, .inl x22], [.inl x22])) 1 hd0 hz (by rfl) ?_
              exact zG_ret hd0 hz rfl rfl ⟨⟨hCM27, hWM27⟩, _, rfl, by omega⟩
            · exact j85
        · refine zG_blk (c' := (48, [.inr (.inr (some 8)), .inl a1, .inl a2, .inl a3, .inl a4, .inl a5, zN], [.inl (-2)])) 1 hd0 hz (by rfl) ?_
          exact zG_ret hd0 hz rfl rfl ⟨⟨hC, hW⟩, _, rfl, by omega⟩
      · exact j26
theorem qm_178_8 {n d : Nat} {M : zM} (hd : 2 ≤ d) (hC : qCI M) (a1 : Int) (ha1 : (-2147483648) ≤ a1 ∧ a1 ≤ 2147483647) (a2 : Int) (ha2 : (-2147483648) ≤ a2 ∧ a2 ≤ 2147483647) : qOkP n d 178 [.inr (.inr (some 8)), .inl a1, .inl a2] 3 M (qRi (fun x => 0 ≤ x ∧ x ≤ 1)) := by
  have hz := zp_178
  have hd0 : 0 < d := by omega
  show zG n (0, 0) d 178 (0, [.inr (.inr (some 8)), .inl a1, .inl a2], []) M _
  refine zG_blk (c' := (8, [.inr (.inr (some 8)), .inl a1, .inl a2], [.inl a1, .inr (.inr (some 16))])) 4 hd0 hz (by rfl) ?_
  refine zG_call hd0 hz zp_102 rfl rfl (Nat.le_of_ble_eq_true rfl) ⟨Nat.le_refl _, Nat.le_refl _⟩ (qw_has (by first | exact zdp hd (by decide) | omega) hC (⟨by decide, rfl, rfl⟩ : qT n 16 40 5) a1 (by first | with_reducible exact ha1 | omega)) (fun vr M1 hr => ?_)
  obtain ⟨hq, x2, rfl, hx2⟩ := hr
  replace hq := hq.symm; subst hq
  show zG n (0, 0) d 178 (11, [.inr (.inr (some 8)), .inl a1, .inl a2], [.inl x2]) M _
  have j41 : ∀ (v3 : Int) , 0 ≤ v3 ∧ v3 ≤ 1 → zG n (0, 0) d 178 (41, [.inr (.inr (some 8)), .inl a1, .inl a2], [.inl v3]) M (fun v M' => M' = M ∧ qRi (fun x => 0 ≤ x ∧ x ≤ 1) v) := by
    intro v3 hv3
    exact zG_zret hd0 hz rfl (by omega) ⟨rfl, _, rfl, by omega⟩
  have j40 : zG n (0, 0) d 178 (40, [.inr (.inr (some 8)), .inl a1, .inl a2], []) M (fun v M' => M' = M ∧ qRi (fun x => 0 ≤ x ∧ x ≤ 1) v) := by
    refine zG_blk (c' := (41, [.inr (.inr (some 8)), .inl a1, .inl a2], [.inl 0])) 1 hd0 hz (by rfl) ?_
    exact j41 0 (by first | decide | omega)
  refine zG_if_eq hd0 hz rfl (fun hb4 => ?_) (fun hb4 => ?_)
  · exact j40
  · refine zG_blk (c' := (24, [.inr (.inr (some 8)), .inl a1, .inl a2], [.inl 1, .inl a1, .inr (.inr (some 16)), .inl a2])) 6 hd0 hz (by rfl) ?_
    refine zG_call hd0 hz zp_106 rfl rfl (Nat.le_of_ble_eq_true rfl) ⟨Nat.le_refl _, Nat.le_refl _⟩ (qw_get (by first | exact zdp hd (by decide) | omega) hC (⟨by decide, rfl, rfl⟩ : qT n 16 40 5) a1 (by first | with_reducible exact ha1 | omega) 1 (by first | decide | omega)) (fun vr M5 hr => ?_)
    obtain ⟨hq, x6, rfl, hx6⟩ := hr
    replace hq := hq.symm; subst hq
    show zG n (0, 0) d 178 (27, [.inr (.inr (some 8)), .inl a1, .inl a2], [.inl x6, .inl a2]) M _
    refine zG_blk (c' := (30, [.inr (.inr (some 8)), .inl a1, .inl a2], [.inl 9999, .inl x6, .inl a2])) 1 hd0 hz (by rfl) ?_
    refine zG_call hd0 hz zp_169 rfl rfl (Nat.le_of_ble_eq_true rfl) ⟨Nat.le_refl _, Nat.le_refl _⟩ (qm_169 (by first | exact zdp hd (by decide) | omega) hC  a2 (by first | with_reducible exact ha2 | omega) x6 (by omega) 9999 (by first | decide | omega)) (fun vr M7 hr => ?_)
    obtain ⟨hq, x8, rfl, hx8⟩ := hr
    replace hq := hq.symm; subst hq
    show zG n (0, 0) d 178 (33, [.inr (.inr (some 8)), .inl a1, .inl a2], [.inl x8]) M _
    refine zG_if_eq hd0 hz rfl (fun hb9 => ?_) (fun hb9 => ?_)
    · exact j40
    · refine zG_blk (c' := (41, [.inr (.inr (some 8)), .inl a1, .inl a2], [.inl 1])) 2 hd0 hz (by rfl) ?_
      exact j41 1 (by first | decide | omega)
