theorem qm_179_8 {n d : Nat} {M : zM} (hd : 3 ≤ d) (hC : qCI M) (a1 : Int) (ha1 : (-2147483648) ≤ a1 ∧ a1 ≤ 2147483647) (a2 : Int) (ha2 : (-2147483648) ≤ a2 ∧ a2 ≤ 2147483647) (a3 : Int) (ha3 : (-2147483648) ≤ a3 ∧ a3 ≤ 2147483647) : qOkM n d 179 [.inr (.inr (some 8)), .inl a1, .inl a2, .inl a3] 4 qCI [18, 19] M (qRi (fun x => (-4) ≤ x ∧ x ≤ 249)) := by
  have hz := zp_179
  have hd0 : 0 < d := by omega
  have hW : qFr [18, 19] M M := qFr.rfl
  show zG n (0, 0) d 179 (0, [.inr (.inr (some 8)), .inl a1, .inl a2, .inl a3], []) M _
  refine zG_blk (c' := (14, [.inr (.inr (some 8)), .inl a1, .inl a2, .inl a3], [.inl 1, .inl a2, .inr (.inr (some 16)), .inl a1, .inr (.inr (some 9))])) 8 hd0 hz (by rfl) ?_
  refine zG_call hd0 hz zp_106 rfl rfl (Nat.le_of_ble_eq_true rfl) ⟨Nat.le_refl _, Nat.le_refl _⟩ (qw_get (by first | exact zdp hd (by decide) | omega) hC (⟨by decide, rfl, rfl⟩ : qT n 16 40 5) a2 (by first | with_reducible exact ha2 | omega) 1 (by first | decide | omega)) (fun vr M1 hr => ?_)
  obtain ⟨hq, x2, rfl, hx2⟩ := hr
  replace hq := hq.symm; subst hq
  show zG n (0, 0) d 179 (17, [.inr (.inr (some 8)), .inl a1, .inl a2, .inl a3], [.inl x2, .inl a1, .inr (.inr (some 9))]) M _
  refine zG_blk (c' := (19, [.inr (.inr (some 8)), .inl a1, .inl a2, .inl a3], [.inl a2, .inl a3, .inl x2, .inl a1, .inr (.inr (some 9))])) 2 hd0 hz (by rfl) ?_
  refine zG_call hd0 hz zp_18 rfl rfl (Nat.le_of_ble_eq_true rfl) ⟨Nat.le_refl _, Nat.le_refl _⟩ (qm_18_9 (by first | exact zdp hd (by decide) | omega) hC  a1 (by first | with_reducible exact ha1 | omega) x2 (by omega) a3 (by first | with_reducible exact ha3 | omega) a2 (by first | with_reducible exact ha2 | omega)) (fun vr M3 hr => ?_)
  obtain ⟨⟨hCM3, hFM3⟩, x4, rfl, hx4⟩ := hr
  have hWM3 : qFr [18, 19] M M3 := hW.tr hFM3 (by decide)
  show zG n (0, 0) d 179 (22, [.inr (.inr (some 8)), .inl a1, .inl a2, .inl a3], [.inl x4]) M3 _
  exact zG_ret hd0 hz rfl rfl ⟨⟨hCM3, hWM3⟩, _, rfl, by omega⟩
theorem qm_131_8 {n d : Nat} {M : zM} (hd : 4 ≤ d) (hC : qCI M) (a1 : Int) (ha1 : (-2147483648) ≤ a1 ∧ a1 ≤ 2147483647) (a2 : Int) (ha2 : (-2147483648) ≤ a2 ∧ a2 ≤ 2147483647) (a3 : Int) (ha3 : (-2147483648) ≤ a3 ∧ a3 ≤ 2147483647) (a4 : Int) (ha4 : (-2147483648) ≤ a4 ∧ a4 ≤ 2147483647) : qOkM n d 131 [.inr (.inr (some 8)), .inl a1, .inl a2, .inl a3, .inl a4] 6 qCI [18, 19] M (qRi (fun x => (-4) ≤ x ∧ x ≤ 249)) := by
  have hz := zp_131
  have hd0 : 0 < d := by omega
  have hW : qFr [18, 19] M M := qFr.rfl
  show zG n (0, 0) d 131 (0, [.inr (.inr (some 8)), .inl a1, .inl a2, .inl a3, .inl a4, zN], []) M _
  refine zG_blk (c' := (6, [.inr (.inr (some 8)), .inl a1, .inl a2, .inl a3, .inl a4, zN], [.inl a1, .inl 0, .inr (.inr (some 9))])) 4 hd0 hz (by rfl) ?_
  refine zG_call hd0 hz zp_19 rfl rfl (Nat.le_of_ble_eq_true rfl) ⟨Nat.le_refl _, Nat.le_refl _⟩ (qm_19_9 (by first | exact zdp hd (by decide) | omega) hC  0 (by first | decide | omega) a1 (by first | with_reducible exact ha1 | omega)) (fun vr M1 hr => ?_)
  obtain ⟨hq, x2, rfl, hx2⟩ := hr
  replace hq := hq.symm; subst hq
  show zG n (0, 0) d 131 (9, [.inr (.inr (some 8)), .inl a1, .inl a2, .inl a3, .inl a4, zN], [.inl x2]) M _
  have j29 : zG n (0, 0) d 131 (29, [.inr (.inr (some 8)), .inl a1, .inl a2, .inl a3, .inl a4, zN], []) M (fun v M' => qWf qCI [18, 19] M M' ∧ qRi (fun x => (-4) ≤ x ∧ x ≤ 249) v) := by
    refine zG_blk (c' := (31, [.inr (.inr (some 8)), .inl a1, .inl a2, .inl a3, .inl a4, zN], [.inl (-2)])) 1 hd0 hz (by rfl) ?_
    exact zG_ret hd0 hz rfl rfl ⟨⟨hC, hW⟩, _, rfl, by omega⟩
  refine zG_if_eq hd0 hz rfl (fun hb3 => ?_) (fun hb3 => ?_)
  · exact j29
  · refine zG_blk (c' := (13, [.inr (.inr (some 8)), .inl a1, .inl a2, .inl a3, .inl a4, zN], [.inl a2])) 1 hd0 hz (by rfl) ?_
    refine zG_call hd0 hz zp_171 rfl rfl (Nat.le_of_ble_eq_true rfl) ⟨Nat.le_refl _, Nat.le_refl _⟩ (qm_171 (by first | exact zdp hd (by decide) | omega) hC  a2 (by first | with_reducible exact ha2 | omega)) (fun vr M4 hr => ?_)
    obtain ⟨hq, x5, rfl, hx5⟩ := hr
    replace hq := hq.symm; subst hq
    show zG n (0, 0) d 131 (16, [.inr (.inr (some 8)), .inl a1, .inl a2, .inl a3, .inl a4, zN], [.inl x5]) M _
    refine zG_if_eq hd0 hz rfl (fun hb6 => ?_) (fun hb6 => ?_)
    · exact j29
    · refine zG_blk (c' := (23, [.inr (.inr (some 8)), .inl a1, .inl a2, .inl a3, .inl a4, zN], [.inl a4, .inl a3, .inr (.inr (some 8))])) 3 hd0 hz (by rfl) ?_
      refine zG_call hd0 hz zp_178 rfl rfl (Nat.le_of_ble_eq_true rfl) ⟨Nat.le_refl _, Nat.le_refl _⟩ (qm_178_8 (by first | exact zdp hd (by decide) | omega) hC  a3 (by first | with_reducible exact ha3 | omega) a4 (by first | with_reducible exact ha4 | omega)) (fun vr M7 hr => ?_)
      obtain ⟨hq, x8, rfl, hx8⟩ := hr
      replace hq := hq.symm; subst hq
      show zG n (0, 0) d 131 (26, [.inr (.inr (some 8)), .inl a1, .inl a2, .inl a3, .inl a4, zN], [.inl x8]) M _
      refine zG_if_ne hd0 hz rfl (fun hb9 => ?_) (fun hb9 => ?_)
      · refine zG_blk (c' := (37, [.inr (.inr (some 8)), .inl a1, .inl a2, .inl a3, .inl a4, zN], [.inl a4, .inl a3, .inl 2, .inr (.inr (some 8))])) 4 hd0 hz (by rfl) ?_
        refine zG_call hd0 hz zp_179 rfl rfl (Nat.le_of_ble_eq_true rfl) ⟨Nat.le_refl _, Nat.le_refl _⟩ (qm_179_8 (by first | exact zdp hd (by decide) | omega) hC  2 (by first | decide | omega) a3 (by first | with_reducible exact ha3 | omega) a4 (by first | with_reducible exact ha4 | omega)) (fun vr M10 hr => ?_)
        obtain ⟨⟨hCM10, hFM10⟩, x11, rfl, hx11⟩ := hr
        have hWM10 : qFr [18, 19] M M10 := hW.tr hFM10 (by decide)
        show zG n (0, 0) d 131 (40, [.inr (.inr (some 8)), .inl a1, .inl a2, .inl a3, .inl a4, zN], [.inl x11]) M10 _
        refine zG_blk (c' := (54, [.inr (.inr (some 8)), .inl a1, .inl a2, .inl a3, .inl a4, .inl x11], [.inl a1, .inl 6, .inl x11, .inr (.inr (some 18))])) 7 hd0 hz (by rfl) ?_
        refine zG_call hd0 hz zp_107 rfl rfl (Nat.le_of_ble_eq_true rfl) ⟨Nat.le_refl _, Nat.le_refl _⟩ (qw_set (by first | exact zdp hd (by decide) | omega) hCM10 (⟨by decide, rfl, rfl⟩ : qT n 18 250 11) x11 (by omega) 6 (by first | decide | omega) a1 (by first | with_reducible exact ha1 | omega)) (fun vr M12 hr => ?_)
        obtain ⟨⟨hCM12, hFM12⟩, rfl⟩ := hr
        have hWM12 : qFr [18, 19] M M12 := hWM10.tr hFM12 (by decide)
        show zG n (0, 0) d 131 (57, [.inr (.inr (some 8)), .inl a1, .inl a2, .inl a3, .inl a4, .inl x11], []) M12 _
        refine zG_blk (c' := (69, [.inr (.inr (some 8)), .inl a1, .inl a2, .inl a3, .inl a4, .inl x11], [.inl a2, .inl 7, .inl x11, .inr (.inr (some 18))])) 6 hd0 hz (by rfl) ?_
        refine zG_call hd0 hz zp_107 rfl rfl (Nat.le_of_ble_eq_true rfl) ⟨Nat.le_refl _, Nat.le_refl _⟩ (qw_set (by first | exact zdp hd (by decide) | omega) hCM12 (⟨by decide, rfl, rfl⟩ : qT n 18 250 11) x11 (by omega) 7 (by first | decide | omega) a2 (by first | with_reducible exact ha2 | omega)) (fun vr M14 hr => ?_)
        obtain ⟨⟨hCM14, hFM14⟩, rfl⟩ := hr
        have hWM14 : qFr [18, 19] M M14 := hWM12.tr hFM14 (by decide)
        show zG n (0, 0) d 131 (72, [.inr (.inr (some 8)), .inl a1, .inl a2, .inl a3, .inl a4, .inl x11], []) M14 _
        refine zG_blk (c' := (74, [.inr (.inr (some 8)), .inl a1, .inl a2, .inl a3, .inl a4, .inl x11], [.inl x11])) 1 hd0 hz (by rfl) ?_
        exact zG_ret hd0 hz rfl rfl ⟨⟨hCM14, hWM14⟩, _, rfl, by omega⟩
      · exact j29
theorem qm_132_8 {n d : Nat} {M : zM} (hd : 4 ≤ d) (hC : qCI M) (a1 : Int) (ha1 : (-2147483648) ≤ a1 ∧ a1 ≤ 2147483647) (a2 : Int) (ha2 : (-2147483648) ≤ a2 ∧ a2 ≤ 2147483647) (a3 : Int) (ha3 : (-2147483648) ≤ a3 ∧ a3 ≤ 2147483647) (a4 : Int) (ha4 : (-2147483648) ≤ a4 ∧ a4 ≤ 2147483647) (a5 : Int) (ha5 : (-2147483648) ≤ a5 ∧ a5 ≤ 2147483647) (a6 : Int) (ha6 : (-2147483648) ≤ a6 ∧ a6 ≤ 2147483647) : qOkM n d 132 [.inr (.inr (some 8)), .inl a1, .inl a2, .inl a3, .inl a4, .inl a5, .inl a6] 8 qCI [18, 19] M (qRi (fun x => (-4) ≤ x ∧ x ≤ 249)) := by
  have hz := zp_132
  have hd0 : 0 < d := by omega
  have hW : qFr [18, 19] M M := qFr.rfl
  show zG n (0, 0) d 132 (0, [.inr (.inr (some 8)), .inl a1, .inl a2, .inl a3, .inl a4, .inl a5, .inl a6, zN], []) M _
  refine zG_blk (c' := (2, [.inr (.inr (some 8)), .inl a1, .inl a2, .inl a3, .inl a4, .inl a5, .inl a6, zN], [.inl a1, .inr (.inr (some 8))])) 2 hd0 hz (by rfl) ?_
  refine zG_call hd0 hz zp_175 rfl rfl (Nat.le_of_ble_eq_true rfl) ⟨Nat.le_refl _, Nat.le_refl _⟩ (qm_175_8 (by first | exact zdp hd (by decide) | omega) hC  a1 (by first | with_reducible exact ha1 | omega)) (fun vr M1 hr => ?_)
  obtain ⟨hq, x2, rfl, hx2⟩ := hr
  replace hq := hq.symm; subst hq
  show zG n (0, 0) d 132 (5, [.inr (.inr (some 8)), .inl a1, .inl a2, .inl a3, .inl a4, .inl a5, .inl a6, zN], [.inl x2]) M _
  have j30 : zG n (0, 0) d 132 (30, [.inr (.inr (some 8)), .inl a1, .inl a2, .inl a3, .inl a4, .inl a5, .inl a6, zN], []) M (fun v M' => qWf qCI [18, 19] M M' ∧ qRi (fun x => (-4) ≤ x ∧ x ≤ 249) v) := by
    refine zG_blk (c' := (32, [.inr (.inr (some 8)), .inl a1, .inl a2, .inl a3, .inl a4, .inl a5, .inl a6, zN], [.inl (-2)])) 1 hd0 hz (by rfl) ?_
    exact zG_ret hd0 hz rfl rfl ⟨⟨hC, hW⟩, _, rfl, by omega⟩
  refine zG_if_eq hd0 hz rfl (fun hb3 => ?_) (fun hb3 => ?_)
  · exact j30
  · refine zG_blk (c' := (13, [.inr (.inr (some 8)), .inl a1, .inl a2, .inl a3, .inl a4, .inl a5, .inl a6, zN], [.inl 200, .inl 1, .inl a2])) 3 hd0 hz (by rfl) ?_
    refine zG_call hd0 hz zp_169 rfl rfl (Nat.le_of_ble_eq_true rfl) ⟨Nat.le_refl _, Nat.le_refl _⟩ (qm_169 (by first | exact zdp hd (by decide) | omega) hC  a2 (by first | with_reducible exact ha2 | omega) 1 (by first | decide | omega) 200 (by first | decide | omega)) (fun vr M4 hr => ?_)
    obtain ⟨hq, x5, rfl, hx5⟩ := hr
    replace hq := hq.symm; subst hq
    show zG n (0, 0) d 132 (16, [.inr (.inr (some 8)), .inl a1, .inl a2, .inl a3, .inl a4, .inl a5, .inl a6, zN], [.inl x5]) M _
    refine zG_if_eq hd0 hz rfl (fun hb6 => ?_) (fun hb6 => ?_)
    · exact j30
    · refine zG_blk (c' := (24, [.inr (.inr (some 8)), .inl a1, .inl a2, .inl a3, .inl a4, .inl a5, .inl a6, zN], [.inl 200, .inl 1, .inl a3])) 3 hd0 hz (by rfl) ?_
      refine zG_call hd0 hz zp_169 rfl rfl (Nat.le_of_ble_eq_true rfl) ⟨Nat.le_refl _, Nat.le_refl _⟩ (qm_169 (by first | exact zdp hd (by decide) | omega) hC  a3 (by first | with_reducible exact ha3 | omega) 1 (by first | decide | omega) 200 (by first | decide | omega)) (fun vr M7 hr => ?_)
      obtain ⟨hq, x8, rfl, hx8⟩ := hr
      replace hq := hq.symm; subst hq
      show zG n (0, 0) d 132 (27, [.inr (.inr (some 8)), .inl a1, .inl a2, .inl a3, .inl a4, .inl a5, .inl a6, zN], [.inl x8]) M _
      refine zG_if_ne hd0 hz rfl (fun hb9 => ?_) (fun hb9 => ?_)
      · refine zG_blk (c' := (39, [.inr (.inr (some 8)), .inl a1, .inl a2, .inl a3, .inl a4, .inl a5, .inl a6, zN], [.inl 50, .inl (-50), .inl a4])) 3 hd0 hz (by rfl) ?_
        refine zG_call hd0 hz zp_169 rfl rfl (Nat.le_of_ble_eq_true rfl) ⟨Nat.le_refl _, Nat.le_refl _⟩ (qm_169 (by first | exact zdp hd (by decide) | omega) hC  a4 (by first | with_reducible exact ha4 | omega) (-50) (by first | decide | omega) 50 (by first | decide | omega)) (fun vr M10 hr => ?_)
        obtain ⟨hq, x11, rfl, hx11⟩ := hr
        replace hq := hq.symm; subst hq
        show zG n (0, 0) d 132 (42, [.inr (.inr (some 8)), .inl a1, .inl a2, .inl a3, .inl a4, .inl a5, .inl a6, zN], [.inl x11]) M _
        have j56 : zG n (0, 0) d 132 (56, [.inr (.inr (some 8)), .inl a1, .inl a2, .inl a3, .inl a4, .inl a5, .inl a6, zN], []) M (fun v M' => qWf qCI [18, 19] M M' ∧ qRi (fun x => (-4) ≤ x ∧ x ≤ 249) v) := by
          refine zG_blk (c' := (58, [.inr (.inr (some 8)), .inl a1, .inl a2, .inl a3, .inl a4, .inl a5, .inl a6, zN], [.inl (-2)])) 1 hd0 hz (by rfl) ?_
          exact zG_ret hd0 hz rfl rfl ⟨⟨hC, hW⟩, _, rfl, by omega⟩
        refine zG_if_eq hd0 hz rfl (fun hb12 => ?_) (fun hb12 => ?_)
        · exact j56
        · refine zG_blk (c' := (50, [.inr (.inr (some 8)), .inl a1, .inl a2, .inl a3, .inl a4, .inl a5, .inl a6, zN], [.inl a6, .inl a5, .inr (.inr (some 8))])) 3 hd0 hz (by rfl) ?_
          refine zG_call hd0 hz zp_178 rfl rfl (Nat.le_of_ble_eq_true rfl) ⟨Nat.le_refl _, Nat.le_refl _⟩ (qm_178_8 (by first | exact zdp hd (by decide) | omega) hC  a5 (by first | with_reducible exact ha5 | omega) a6 (by first | with_reducible exact ha6 | omega)) (fun vr M13 hr => ?_)
          obtain ⟨hq, x14, rfl, hx14⟩ := hr
          replace hq := hq.symm; subst hq
          show zG n (0, 0) d 132 (53, [.inr (.inr (some 8)), .inl a1, .inl a2, .inl a3, .inl a4, .inl a5, .inl a6, zN], [.inl x14]) M _
          refine zG_if_ne hd0 hz rfl (fun hb15 => ?_) (fun hb15 => ?_)
          · refine zG_blk (c' := (65, [.inr (.inr (some 8)), .inl a1, .inl a2, .inl a3, .inl a4, .inl a5, .inl a6, zN], [.inl a6, .inl a5, .inl 3, .inr (.inr (some 8))])) 4 hd0 hz (by rfl) ?_
            refine zG_call hd0 hz zp_179 rfl rfl (Nat.le_of_ble_eq_true rfl) ⟨Nat.le_refl _, Nat.le_refl _⟩ (qm_179_8 (by first | exact zdp hd (by decide) | omega) hC  3 (by first | decide | omega) a5 (by first | with_reducible exact ha5 | omega) a6 (by first | with_reducible exact ha6 | omega)) (fun vr M16 hr => ?_)
            obtain ⟨⟨hCM16, hFM16⟩, x17, rfl, hx17⟩ := hr
            have hWM16 : qFr [18, 19] M M16 := hW.tr hFM16 (by decide)
            show zG n (0, 0) d 132 (68, [.inr (.inr (some 8)), .inl a1, .inl a2, .inl a3, .inl a4, .inl a5, .inl a6, zN], [.inl x17]) M16 _
            refine zG_blk (c' := (81, [.inr (.inr (some 8)), .inl a1, .inl a2, .inl a3, .inl a4, .inl a5, .inl a6, .inl x17], [.inl a1, .inl 5, .inl x17, .inr (.inr (some 18))])) 7 hd0 hz (by rfl) ?_
            refine zG_call hd0 hz zp_107 rfl rfl (Nat.le_of_ble_eq_true rfl) ⟨Nat.le_refl _, Nat.le_refl _⟩ (qw_set (by first | exact zdp hd (by decide) | omega) hCM16 (⟨by decide, rfl, rfl⟩ : qT n 18 250 11) x17 (by omega) 5 (by first | decide | omega) a1 (by first | with_reducible exact ha1 | omega)) (fun vr M18 hr => ?_)
            obtain ⟨⟨hCM18, hFM18⟩, rfl⟩ := hr
            have hWM18 : qFr [18, 19] M M18 := hWM16.tr hFM18 (by decide)
            show zG n (0, 0) d 132 (84, [.inr (.inr (some 8)), .inl a1, .inl a2, .inl a3, .inl a4, .inl a5, .inl a6, .inl x17], []) M18 _
            refine zG_blk (c' := (96, [.inr (.inr (some 8)), .inl a1, .inl a2, .inl a3, .inl a4, .inl a5, .inl a6, .inl x17], [.inl a2, .inl 8, .inl x17, .inr (.inr (some 18))])) 6 hd0 hz (by rfl) ?_
            refine zG_call hd0 hz zp_107 rfl rfl (Nat.le_of_ble_eq_true rfl) ⟨Nat.le_refl _, Nat.le_refl _⟩ (qw_set (by first | exact zdp hd (by decide) | omega) hCM18 (⟨by decide, rfl, rfl⟩ : qT n 18 250 11) x17 (by omega) 8 (by first | decide | omega) a2 (by first | with_reducible exact ha2 | omega)) (fun vr M20 hr => ?_)
            obtain ⟨⟨hCM20, hFM20⟩, rfl⟩ := hr
            have hWM20 : qFr [18, 19] M M20 := hWM18.tr hFM20 (by decide)
            show zG n (0, 0) d 132 (99, [.inr (.inr (some 8)), .inl a1, .inl a2, .inl a3, .inl a4, .inl a5, .inl a6, .inl x17], []) M20 _
            refine zG_blk (c' := (111, [.inr (.inr (some 8)), .inl a1, .inl a2, .inl a3, .inl a4, .inl a5, .inl a6, .inl x17], [.inl a3, .inl 9, .inl x17, .inr (.inr (some 18))])) 6 hd0 hz (by rfl) ?_
            refine zG_call hd0 hz zp_107 rfl rfl (Nat.le_of_ble_eq_true rfl) ⟨Nat.le_refl _, Nat.le_refl _⟩ (qw_set (by first | exact zdp hd (by decide) | omega) hCM20 (⟨by decide, rfl, rfl⟩ : qT n 18 250 11) x17 (by omega) 9 (by first | decide | omega) a3 (by first | with_reducible exact ha3 | omega)) (fun vr M22 hr => ?_)
            obtain ⟨⟨hCM22, hFM22⟩, rfl⟩ := hr
            have hWM22 : qFr [18, 19] M M22 := hWM20.tr hFM22 (by decide)
            show zG n (0, 0) d 132 (114, [.inr (.inr (some 8)), .inl a1, .inl a2, .inl a3, .inl a4, .inl a5, .inl a6, .inl x17], []) M22 _
            refine zG_blk (c' := (127, [.inr (.inr (some 8)), .inl a1, .inl a2, .inl a3, .inl a4, .inl a5, .inl a6, .inl x17], [.inl a4, .inl 10, .inl x17, .inr (.inr (some 18))])) 6 hd0 hz (by rfl) ?_
            refine zG_call hd0 hz zp_107 rfl rfl (Nat.le_of_ble_eq_true rfl) ⟨Nat.le_refl _, Nat.le_refl _⟩ (qw_set (by first | exact zdp hd (by decide) | omega) hCM22 (⟨by decide, rfl, rfl⟩ : qT n 18 250 11) x17 (by omega) 10 (by first | decide | omega) a4 (by first | with_reducible exact ha4 | omega)) (fun vr M24 hr => ?_)
            obtain ⟨⟨hCM24, hFM24⟩, rfl⟩ := hr
            have hWM24 : qFr [18, 19] M M24 := hWM22.tr hFM24 (by decide)
            show zG n (0, 0) d 132 (130, [.inr (.inr (some 8)), .inl a1, .inl a2, .inl a3, .inl a4, .inl a5, .inl a6, .inl x17], []) M24 _
            refine zG_blk (c' := (132, [.inr (.inr (some 8)), .inl a1, .inl a2, .inl a3, .inl a4, .inl a5, .inl a6, .inl x17], [.inl x17])) 1 hd0 hz (by rfl) ?_
            exact zG_ret hd0 hz rfl rfl ⟨⟨hCM24, hWM24⟩, _, rfl, by omega⟩
          · exact j56
      · exact j30
theorem qm_133_8 {n d : Nat} {M : zM} (hd : 4 ≤ d) (hC : qCI M) (a1 : Int) (ha1 : (-2147483648) ≤ a1 ∧ a1 ≤ 2147483647) (a2 : Int) (ha2 : (-2147483648) ≤ a2 ∧ a2 ≤ 2147483647) (a3 : Int) (ha3 : (-2147483648) ≤ a3 ∧ a3 ≤ 2147483647) (a4 : Int) (ha4 : (-2147483648) ≤ a4 ∧ a4 ≤ 2147483647) : qOkM n d 133 [.inr (.inr (some 8)), .inl a1, .inl a2, .inl a3, .inl a4] 6 qCI [18, 19] M (qRi (fun x => (-4) ≤ x ∧ x ≤ 249)) := by
  have hz := zp_133
  have hd0 : 0 < d := by omega
  have hW : qFr [18, 19] M M := qFr.rfl
  show zG n (0, 0) d 133 (0, [.inr (.inr (some 8)), .inl a1, .inl a2, .inl a3, .inl a4, zN], []) M _
  refine zG_blk (c' := (2, [.inr (.inr (some 8)), .inl a1, .inl a2, .inl a3, .inl a4, zN], [.inl a1, .inr (.inr (some 8))])) 2 hd0 hz (by rfl) ?_
  refine zG_call hd0 hz zp_174 rfl rfl (Nat.le_of_ble_eq_true rfl) ⟨Nat.le_refl _, Nat.le_refl _⟩ (qm_174_8 (by first | exact zdp hd (by decide) | omega) hC  a1 (by first | with_reducible exact ha1 | omega)) (fun vr M1 hr => ?_)
  obtain ⟨hq, x2, rfl, hx2⟩ := hr
  replace hq := hq.symm; subst hq
  show zG n (0, 0) d 133 (5, [.inr (.inr (some 8)), .inl a1, .inl a2, .inl a3, .inl a4, zN], [.inl x2]) M _
  have j26 : zG n (0, 0) d 133 (26, [.inr (.inr (some 8)), .inl a1, .inl a2, .inl a3, .inl a4, zN], []) M (fun v M' => qWf qCI [18, 19] M M' ∧ qRi (fun x => (-4) ≤ x ∧ x ≤ 249) v) := by
    refine zG_blk (c' := (28, [.inr (.inr (some 8)), .inl a1, .inl a2, .inl a3, .inl a4, zN], [.inl (-2)])) 1 hd0 hz (by rfl) ?_
    exact zG_ret hd0 hz rfl rfl ⟨⟨hC, hW⟩, _, rfl, by omega⟩
  refine zG_if_eq hd0 hz rfl (fun hb3 => ?_) (fun hb3 => ?_)
  · exact j26
  · refine zG_blk (c' := (10, [.inr (.inr (some 8)), .inl a1, .inl a2, .inl a3, .inl a4, zN], [.inl a2, .inr (.inr (some 8))])) 2 hd0 hz (by rfl) ?_
    refine zG_call hd0 hz zp_175 rfl rfl (Nat.le_of_ble_eq_true rfl) ⟨Nat.le_refl _, Nat.le_refl _⟩ (qm_175_8 (by first | exact zdp hd (by decide) | omega) hC  a2 (by first | with_reducible exact ha2 | omega)) (fun vr M4 hr => ?_)
    obtain ⟨hq, x5, rfl, hx5⟩ := hr
    replace hq := hq.symm; subst hq
    show zG n (0, 0) d 133 (13, [.inr (.inr (some 8)), .inl a1, .inl a2, .inl a3, .inl a4, zN], [.inl x5]) M _
    refine zG_if_eq hd0 hz rfl (fun hb6 => ?_) (fun hb6 => ?_)
    · exact j26
    · refine zG_blk (c' := (20, [.inr (.inr (some 8)), .inl a1, .inl a2, .inl a3, .inl a4, zN], [.inl a4, .inl a3, .inr (.inr (some 8))])) 3 hd0 hz (by rfl) ?_
      refine zG_call hd0 hz zp_178 rfl rfl (Nat.le_of_ble_eq_true rfl) ⟨Nat.le_refl _, Nat.le_refl _⟩ (qm_178_8 (by first | exact zdp hd (by decide) | omega) hC  a3 (by first | with_reducible exact ha3 | omega) a4 (by first | with_reducible exact ha4 | omega)) (fun vr M7 hr => ?_)
      obtain ⟨hq, x8, rfl, hx8⟩ := hr
      replace hq := hq.symm; subst hq
      show zG n (0, 0) d 133 (23, [.inr (.inr (some 8)), .inl a1, .inl a2, .inl a3, .inl a4, zN], [.inl x8]) M _
      refine zG_if_ne hd0 hz rfl (fun hb9 => ?_) (fun hb9 => ?_)
      · refine zG_blk (c' := (34, [.inr (.inr (some 8)), .inl a1, .inl a2, .inl a3, .inl a4, zN], [.inl a4, .inl a3, .inl 4, .inr (.inr (some 8))])) 4 hd0 hz (by rfl) ?_
        refine zG_call hd0 hz zp_179 rfl rfl (Nat.le_of_ble_eq_true rfl) ⟨Nat.le_refl _, Nat.le_refl _⟩ (qm_179_8 (by first | exact zdp hd (by decide) | omega) hC  4 (by first | decide | omega) a3 (by first | with_reducible exact ha3 | omega) a4 (by first | with_reducible exact ha4 | omega)) (fun vr M10 hr => ?_)
        obtain ⟨⟨hCM10, hFM10⟩, x11, rfl, hx11⟩ := hr
        have hWM10 : qFr [18, 19] M M10 := hW.tr hFM10 (by decide)
        show zG n (0, 0) d 133 (37, [.inr (.inr (some 8)), .inl a1, .inl a2, .inl a3, .inl a4, zN], [.inl x11]) M10 _
        refine zG_blk (c' := (50, [.inr (.inr (some 8)), .inl a1, .inl a2, .inl a3, .inl a4, .inl x11], [.inl a1, .inl 4, .inl x11, .inr (.inr (some 18))])) 7 hd0 hz (by rfl) ?_
        refine zG_call hd0 hz zp_107 rfl rfl (Nat.le_of_ble_eq_true rfl) ⟨Nat.le_refl _, Nat.le_refl _⟩ (qw_set (by first | exact zdp hd (by decide) | omega) hCM10 (⟨by decide, rfl, rfl⟩ : qT n 18 250 11) x11 (by omega) 4 (by first | decide | omega) a1 (by first | with_reducible exact ha1 | omega)) (fun vr M12 hr => ?_)
        obtain ⟨⟨hCM12, hFM12⟩, rfl⟩ := hr
        have hWM12 : qFr [18, 19] M M12 := hWM10.tr hFM12 (by decide)
        show zG n (0, 0) d 133 (53, [.inr (.inr (some 8)), .inl a1, .inl a2, .inl a3, .inl a4, .inl x11], []) M12 _
        refine zG_blk (c' := (64, [.inr (.inr (some 8)), .inl a1, .inl a2, .inl a3, .inl a4, .inl x11], [.inl a2, .inl 5, .inl x11, .inr (.inr (some 18))])) 6 hd0 hz (by rfl) ?_
        refine zG_call hd0 hz zp_107 rfl rfl (Nat.le_of_ble_eq_true rfl) ⟨Nat.le_refl _, Nat.le_refl _⟩ (qw_set (by first | exact zdp hd (by decide) | omega) hCM12 (⟨by decide, rfl, rfl⟩ : qT n 18 250 11) x11 (by omega) 5 (by first | decide | omega) a2 (by first | with_reducible exact ha2 | omega)) (fun vr M14 hr => ?_)
        obtain ⟨⟨hCM14, hFM14⟩, rfl⟩ := hr
        have hWM14 : qFr [18, 19] M M14 := hWM12.tr hFM14 (by decide)
        show zG n (0, 0) d 133 (67, [.inr (.inr (some 8)), .inl a1, .inl a2, .inl a3, .inl a4, .inl x11], []) M14 _
        refine zG_blk (c' := (69, [.inr (.inr (some 8)), .inl a1, .inl a2, .inl a3, .inl a4, .inl x11], [.inl x11])) 1 hd0 hz (by rfl) ?_
        exact zG_ret hd0 hz rfl rfl ⟨⟨hCM14, hWM14⟩, _, rfl, by omega⟩
      · exact j26
theorem qm_134_8 {n d : Nat} {M : zM} (hd : 4 ≤ d) (hC : qCI M) (a1 : Int) (ha1 : (-2147483648) ≤ a1 ∧ a1 ≤ 2147483647) (a2 : Int) (ha2 : (-2147483648) ≤ a2 ∧ a2 ≤ 2147483647) (a3 : Int) (ha3 : (-2147483648) ≤ a3 ∧ a3 ≤ 2147483647) : qOkM n d 134 [.inr (.inr (some 8)), .inl a1, .inl a2, .inl a3] 5 qCI [18, 19] M (qRi (fun x => (-4) ≤ x ∧ x ≤ 249)) := by
  have hz := zp_134
  have hd0 : 0 < d := by omega
  have hW : qFr [18, 19] M M := qFr.rfl
  show zG n (0, 0) d 134 (0, [.inr (.inr (some 8)), .inl a1, .inl a2, .inl a3, zN], []) M _
  refine zG_blk (c' := (8, [.inr (.inr (some 8)), .inl a1, .inl a2, .inl a3, zN], [.inl a1, .inr (.inr (some 18))])) 4 hd0 hz (by rfl) ?_
  refine zG_call hd0 hz zp_102 rfl rfl (Nat.le_of_ble_eq_true rfl) ⟨Nat.le_refl _, Nat.le_refl _⟩ (qw_has (by first | exact zdp hd (by decide) | omega) hC (⟨by decide, rfl, rfl⟩ : qT n 18 250 11) a1 (by first | with_reducible exact ha1 | omega)) (fun vr M1 hr => ?_)
  obtain ⟨hq, x2, rfl, hx2⟩ := hr
  replace hq := hq.symm; subst hq
  show zG n (0, 0) d 134 (11, [.inr (.inr (some 8)), .inl a1, .inl a2, .inl a3, zN], [.inl x2]) M _
  have j23 : zG n (0, 0) d 134 (23, [.inr (.inr (some 8)), .inl a1, .inl a2, .inl a3, zN], []) M (fun v M' => qWf qCI [18, 19] M M' ∧ qRi (fun x => (-4) ≤ x ∧ x ≤ 249) v) := by
    refine zG_blk (c' := (25, [.inr (.inr (some 8)), .inl a1, .inl a2, .inl a3, zN], [.inl (-2)])) 1 hd0 hz (by rfl) ?_
    exact zG_ret hd0 hz rfl rfl ⟨⟨hC, hW⟩, _, rfl, by omega⟩
  refine zG_if_eq hd0 hz rfl (fun hb3 => ?_) (fun hb3 => ?_)
  · exact j23
  · refine zG_blk (c' := (17, [.inr (.inr (some 8)), .inl a1, .inl a2, .inl a3, zN], [.inl a3, .inl a2, .inr (.inr (some 8))])) 3 hd0 hz (by rfl) ?_
    refine zG_call hd0 hz zp_178 rfl rfl (Nat.le_of_ble_eq_true rfl) ⟨Nat.le_refl _, Nat.le_refl _⟩ (qm_178_8 (by first | exact zdp hd (by decide) | omega) hC  a2 (by first | with_reducible exact ha2 | omega) a3 (by first | with_reducible exact ha3 | omega)) (fun vr M4 hr => ?_)
    obtain ⟨hq, x5, rfl, hx5⟩ := hr
    replace hq := hq.symm; subst hq
    show zG n (0, 0) d 134 (20, [.inr (.inr (some 8)), .inl a1, .inl a2, .inl a3, zN], [.inl x5]) M _
    refine zG_if_ne hd0 hz rfl (fun hb6 => ?_) (fun hb6 => ?_)
    · refine zG_blk (c' := (30, [.inr (.inr (some 8)), .inl a1, .inl a2, .inl a3, zN], [.inl a3, .inl a2, .inl 5, .inr (.inr (some 8))])) 4 hd0 hz (by rfl) ?_
      refine zG_call hd0 hz zp_179 rfl rfl (Nat.le_of_ble_eq_true rfl) ⟨Nat.le_refl _, Nat.le_refl _⟩ (qm_179_8 (by first | exact zdp hd (by decide) | omega) hC  5 (by first | decide | omega) a2 (by first | with_reducible exact ha2 | omega) a3 (by first | with_reducible exact ha3 | omega)) (fun vr M7 hr => ?_)
      obtain ⟨⟨hCM7, hFM7⟩, x8, rfl, hx8⟩ := hr
      have hWM7 : qFr [18, 19] M M7 := hW.tr hFM7 (by decide)
      show zG n (0, 0) d 134 (33, [.inr (.inr (some 8)), .inl a1, .inl a2, .inl a3, zN], [.inl x8]) M7 _
      refine zG_blk (c' := (47, [.inr (.inr (some 8)), .inl a1, .inl a2, .inl a3, .inl x8], [.inl a1, .inl 6, .inl x8, .inr (.inr (some 18))])) 7 hd0 hz (by rfl) ?_
      refine zG_call hd0 hz zp_107 rfl rfl (Nat.le_of_ble_eq_true rfl) ⟨Nat.le_refl _, Nat.le_refl _⟩ (qw_set (by first | exact zdp hd (by decide) | omega) hCM7 (⟨by decide, rfl, rfl⟩ : qT n 18 250 11) x8 (by omega) 6 (by first | decide | omega) a1 (by first | with_reducible exact ha1 | omega)) (fun vr M9 hr => ?_)
      obtain ⟨⟨hCM9, hFM9⟩, rfl⟩ := hr
      have hWM9 : qFr [18, 19] M M9 := hWM7.tr hFM9 (by decide)
      show zG n (0, 0) d 134 (50, [.inr (.inr (some 8)), .inl a1, .inl a2, .inl a3, .inl x8], []) M9 _
      refine zG_blk (c' := (52, [.inr (.inr (some 8)), .inl a1, .inl a2, .inl a3, .inl x8], [.inl x8])) 1 hd0 hz (by rfl) ?_
      exact zG_ret hd0 hz rfl rfl ⟨⟨hCM9, hWM9⟩, _, rfl, by omega⟩
    · exact j23
