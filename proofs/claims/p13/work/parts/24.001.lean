theorem qm_125_8 {n d : Nat} {M : zM} (hd : 2 ≤ d) (hC : qCI M) (a1 : Int) (ha1 : (-2147483648) ≤ a1 ∧ a1 ≤ 2147483647) (a2 : Int) (ha2 : (-2147483648) ≤ a2 ∧ a2 ≤ 2147483647) : qOkM n d 125 [.inr (.inr (some 8)), .inl a1, .inl a2] 4 qCI [14, 15] M (qRi (fun x => (-4) ≤ x ∧ x ≤ 3)) := by
  have hz := zp_125
  have hd0 : 0 < d := by omega
  have hW : qFr [14, 15] M M := qFr.rfl
  show zG n (0, 0) d 125 (0, [.inr (.inr (some 8)), .inl a1, .inl a2, zN], []) M _
  refine zG_blk (c' := (5, [.inr (.inr (some 8)), .inl a1, .inl a2, zN], [.inl 1023, .inl 1, .inl a1])) 3 hd0 hz (by rfl) ?_
  refine zG_call hd0 hz zp_169 rfl rfl (Nat.le_of_ble_eq_true rfl) ⟨Nat.le_refl _, Nat.le_refl _⟩ (qm_169 (by first | exact zdp hd (by decide) | omega) hC  a1 (by first | with_reducible exact ha1 | omega) 1 (by first | decide | omega) 1023 (by first | decide | omega)) (fun vr M1 hr => ?_)
  obtain ⟨hq, x2, rfl, hx2⟩ := hr
  replace hq := hq.symm; subst hq
  show zG n (0, 0) d 125 (8, [.inr (.inr (some 8)), .inl a1, .inl a2, zN], [.inl x2]) M _
  have j21 : zG n (0, 0) d 125 (21, [.inr (.inr (some 8)), .inl a1, .inl a2, zN], []) M (fun v M' => qWf qCI [14, 15] M M' ∧ qRi (fun x => (-4) ≤ x ∧ x ≤ 3) v) := by
    refine zG_blk (c' := (23, [.inr (.inr (some 8)), .inl a1, .inl a2, zN], [.inl (-2)])) 1 hd0 hz (by rfl) ?_
    exact zG_ret hd0 hz rfl rfl ⟨⟨hC, hW⟩, _, rfl, by omega⟩
  refine zG_if_eq hd0 hz rfl (fun hb3 => ?_) (fun hb3 => ?_)
  · exact j21
  · refine zG_blk (c' := (15, [.inr (.inr (some 8)), .inl a1, .inl a2, zN], [.inl 10, .inl 1, .inl a2])) 3 hd0 hz (by rfl) ?_
    refine zG_call hd0 hz zp_169 rfl rfl (Nat.le_of_ble_eq_true rfl) ⟨Nat.le_refl _, Nat.le_refl _⟩ (qm_169 (by first | exact zdp hd (by decide) | omega) hC  a2 (by first | with_reducible exact ha2 | omega) 1 (by first | decide | omega) 10 (by first | decide | omega)) (fun vr M4 hr => ?_)
    obtain ⟨hq, x5, rfl, hx5⟩ := hr
    replace hq := hq.symm; subst hq
    show zG n (0, 0) d 125 (18, [.inr (.inr (some 8)), .inl a1, .inl a2, zN], [.inl x5]) M _
    refine zG_if_ne hd0 hz rfl (fun hb6 => ?_) (fun hb6 => ?_)
    · refine zG_blk (c' := (31, [.inr (.inr (some 8)), .inl a1, .inl a2, zN], [.inr (.inr (some 14))])) 3 hd0 hz (by rfl) ?_
      refine zG_call hd0 hz zp_103 rfl rfl (Nat.le_of_ble_eq_true rfl) ⟨Nat.le_refl _, Nat.le_refl _⟩ (qw_open (by first | exact zdp hd (by decide) | omega) hC (⟨by decide, rfl, rfl⟩ : qT n 14 4 2) ) (fun vr M7 hr => ?_)
      obtain ⟨⟨hCM7, hFM7⟩, x8, rfl, hx8⟩ := hr
      have hWM7 : qFr [14, 15] M M7 := hW.tr hFM7 (by decide)
      show zG n (0, 0) d 125 (34, [.inr (.inr (some 8)), .inl a1, .inl a2, zN], [.inl x8]) M7 _
      refine zG_blk (c' := (45, [.inr (.inr (some 8)), .inl a1, .inl a2, .inl x8], [.inl a1, .inl 0, .inl x8, .inr (.inr (some 14))])) 7 hd0 hz (by rfl) ?_
      refine zG_call hd0 hz zp_107 rfl rfl (Nat.le_of_ble_eq_true rfl) ⟨Nat.le_refl _, Nat.le_refl _⟩ (qw_set (by first | exact zdp hd (by decide) | omega) hCM7 (⟨by decide, rfl, rfl⟩ : qT n 14 4 2) x8 (by omega) 0 (by first | decide | omega) a1 (by first | with_reducible exact ha1 | omega)) (fun vr M9 hr => ?_)
      obtain ⟨⟨hCM9, hFM9⟩, rfl⟩ := hr
      have hWM9 : qFr [14, 15] M M9 := hWM7.tr hFM9 (by decide)
      show zG n (0, 0) d 125 (48, [.inr (.inr (some 8)), .inl a1, .inl a2, .inl x8], []) M9 _
      refine zG_blk (c' := (58, [.inr (.inr (some 8)), .inl a1, .inl a2, .inl x8], [.inl a2, .inl 1, .inl x8, .inr (.inr (some 14))])) 6 hd0 hz (by rfl) ?_
      refine zG_call hd0 hz zp_107 rfl rfl (Nat.le_of_ble_eq_true rfl) ⟨Nat.le_refl _, Nat.le_refl _⟩ (qw_set (by first | exact zdp hd (by decide) | omega) hCM9 (⟨by decide, rfl, rfl⟩ : qT n 14 4 2) x8 (by omega) 1 (by first | decide | omega) a2 (by first | with_reducible exact ha2 | omega)) (fun vr M11 hr => ?_)
      obtain ⟨⟨hCM11, hFM11⟩, rfl⟩ := hr
      have hWM11 : qFr [14, 15] M M11 := hWM9.tr hFM11 (by decide)
      show zG n (0, 0) d 125 (61, [.inr (.inr (some 8)), .inl a1, .inl a2, .inl x8], []) M11 _
      refine zG_blk (c' := (62, [.inr (.inr (some 8)), .inl a1, .inl a2, .inl x8], [.inl x8])) 1 hd0 hz (by rfl) ?_
      exact zG_ret hd0 hz rfl rfl ⟨⟨hCM11, hWM11⟩, _, rfl, by omega⟩
    · exact j21
theorem qm_126_8 {n d : Nat} {M : zM} (hd : 3 ≤ d) (hC : qCI M) (a1 : Int) (ha1 : (-2147483648) ≤ a1 ∧ a1 ≤ 2147483647) (a2 : Int) (ha2 : (-2147483648) ≤ a2 ∧ a2 ≤ 2147483647) (a3 : Int) (ha3 : (-2147483648) ≤ a3 ∧ a3 ≤ 2147483647) (a4 : Int) (ha4 : (-2147483648) ≤ a4 ∧ a4 ≤ 2147483647) : qOkM n d 126 [.inr (.inr (some 8)), .inl a1, .inl a2, .inl a3, .inl a4] 6 qCI [16, 17] M (qRi (fun x => (-4) ≤ x ∧ x ≤ 39)) := by
  have hz := zp_126
  have hd0 : 0 < d := by omega
  have hW : qFr [16, 17] M M := qFr.rfl
  show zG n (0, 0) d 126 (0, [.inr (.inr (some 8)), .inl a1, .inl a2, .inl a3, .inl a4, zN], []) M _
  refine zG_blk (c' := (8, [.inr (.inr (some 8)), .inl a1, .inl a2, .inl a3, .inl a4, zN], [.inl a1, .inr (.inr (some 14))])) 4 hd0 hz (by rfl) ?_
  refine zG_call hd0 hz zp_102 rfl rfl (Nat.le_of_ble_eq_true rfl) ⟨Nat.le_refl _, Nat.le_refl _⟩ (qw_has (by first | exact zdp hd (by decide) | omega) hC (⟨by decide, rfl, rfl⟩ : qT n 14 4 2) a1 (by first | with_reducible exact ha1 | omega)) (fun vr M1 hr => ?_)
  obtain ⟨hq, x2, rfl, hx2⟩ := hr
  replace hq := hq.symm; subst hq
  show zG n (0, 0) d 126 (11, [.inr (.inr (some 8)), .inl a1, .inl a2, .inl a3, .inl a4, zN], [.inl x2]) M _
  have j21 : zG n (0, 0) d 126 (21, [.inr (.inr (some 8)), .inl a1, .inl a2, .inl a3, .inl a4, zN], []) M (fun v M' => qWf qCI [16, 17] M M' ∧ qRi (fun x => (-4) ≤ x ∧ x ≤ 39) v) := by
    refine zG_blk (c' := (23, [.inr (.inr (some 8)), .inl a1, .inl a2, .inl a3, .inl a4, zN], [.inl (-2)])) 1 hd0 hz (by rfl) ?_
    exact zG_ret hd0 hz rfl rfl ⟨⟨hC, hW⟩, _, rfl, by omega⟩
  refine zG_if_eq hd0 hz rfl (fun hb3 => ?_) (fun hb3 => ?_)
  · exact j21
  · refine zG_blk (c' := (15, [.inr (.inr (some 8)), .inl a1, .inl a2, .inl a3, .inl a4, zN], [.inl a2])) 1 hd0 hz (by rfl) ?_
    refine zG_call hd0 hz zp_170 rfl rfl (Nat.le_of_ble_eq_true rfl) ⟨Nat.le_refl _, Nat.le_refl _⟩ (qm_170 (by first | exact zdp hd (by decide) | omega) hC  a2 (by first | with_reducible exact ha2 | omega)) (fun vr M4 hr => ?_)
    obtain ⟨hq, x5, rfl, hx5⟩ := hr
    replace hq := hq.symm; subst hq
    show zG n (0, 0) d 126 (18, [.inr (.inr (some 8)), .inl a1, .inl a2, .inl a3, .inl a4, zN], [.inl x5]) M _
    refine zG_if_ne hd0 hz rfl (fun hb6 => ?_) (fun hb6 => ?_)
    · refine zG_blk (c' := (29, [.inr (.inr (some 8)), .inl a1, .inl a2, .inl a3, .inl a4, zN], [.inl 1023, .inl 0, .inl a3])) 3 hd0 hz (by rfl) ?_
      refine zG_call hd0 hz zp_169 rfl rfl (Nat.le_of_ble_eq_true rfl) ⟨Nat.le_refl _, Nat.le_refl _⟩ (qm_169 (by first | exact zdp hd (by decide) | omega) hC  a3 (by first | with_reducible exact ha3 | omega) 0 (by first | decide | omega) 1023 (by first | decide | omega)) (fun vr M7 hr => ?_)
      obtain ⟨hq, x8, rfl, hx8⟩ := hr
      replace hq := hq.symm; subst hq
      show zG n (0, 0) d 126 (32, [.inr (.inr (some 8)), .inl a1, .inl a2, .inl a3, .inl a4, zN], [.inl x8]) M _
      have j47 : zG n (0, 0) d 126 (47, [.inr (.inr (some 8)), .inl a1, .inl a2, .inl a3, .inl a4, zN], []) M (fun v M' => qWf qCI [16, 17] M M' ∧ qRi (fun x => (-4) ≤ x ∧ x ≤ 39) v) := by
        refine zG_blk (c' := (49, [.inr (.inr (some 8)), .inl a1, .inl a2, .inl a3, .inl a4, zN], [.inl (-2)])) 1 hd0 hz (by rfl) ?_
        exact zG_ret hd0 hz rfl rfl ⟨⟨hC, hW⟩, _, rfl, by omega⟩
      refine zG_if_eq hd0 hz rfl (fun hb9 => ?_) (fun hb9 => ?_)
      · exact j47
      · refine zG_blk (c' := (41, [.inr (.inr (some 8)), .inl a1, .inl a2, .inl a3, .inl a4, zN], [.inl 1023, .inl 0, .inl a4])) 3 hd0 hz (by rfl) ?_
        refine zG_call hd0 hz zp_169 rfl rfl (Nat.le_of_ble_eq_true rfl) ⟨Nat.le_refl _, Nat.le_refl _⟩ (qm_169 (by first | exact zdp hd (by decide) | omega) hC  a4 (by first | with_reducible exact ha4 | omega) 0 (by first | decide | omega) 1023 (by first | decide | omega)) (fun vr M10 hr => ?_)
        obtain ⟨hq, x11, rfl, hx11⟩ := hr
        replace hq := hq.symm; subst hq
        show zG n (0, 0) d 126 (44, [.inr (.inr (some 8)), .inl a1, .inl a2, .inl a3, .inl a4, zN], [.inl x11]) M _
        refine zG_if_ne hd0 hz rfl (fun hb12 => ?_) (fun hb12 => ?_)
        · refine zG_blk (c' := (57, [.inr (.inr (some 8)), .inl a1, .inl a2, .inl a3, .inl a4, zN], [.inr (.inr (some 16))])) 3 hd0 hz (by rfl) ?_
          refine zG_call hd0 hz zp_103 rfl rfl (Nat.le_of_ble_eq_true rfl) ⟨Nat.le_refl _, Nat.le_refl _⟩ (qw_open (by first | exact zdp hd (by decide) | omega) hC (⟨by decide, rfl, rfl⟩ : qT n 16 40 5) ) (fun vr M13 hr => ?_)
          obtain ⟨⟨hCM13, hFM13⟩, x14, rfl, hx14⟩ := hr
          have hWM13 : qFr [16, 17] M M13 := hW.tr hFM13 (by decide)
          show zG n (0, 0) d 126 (60, [.inr (.inr (some 8)), .inl a1, .inl a2, .inl a3, .inl a4, zN], [.inl x14]) M13 _
          refine zG_blk (c' := (73, [.inr (.inr (some 8)), .inl a1, .inl a2, .inl a3, .inl a4, .inl x14], [.inl a1, .inl 0, .inl x14, .inr (.inr (some 16))])) 7 hd0 hz (by rfl) ?_
          refine zG_call hd0 hz zp_107 rfl rfl (Nat.le_of_ble_eq_true rfl) ⟨Nat.le_refl _, Nat.le_refl _⟩ (qw_set (by first | exact zdp hd (by decide) | omega) hCM13 (⟨by decide, rfl, rfl⟩ : qT n 16 40 5) x14 (by omega) 0 (by first | decide | omega) a1 (by first | with_reducible exact ha1 | omega)) (fun vr M15 hr => ?_)
          obtain ⟨⟨hCM15, hFM15⟩, rfl⟩ := hr
          have hWM15 : qFr [16, 17] M M15 := hWM13.tr hFM15 (by decide)
          show zG n (0, 0) d 126 (76, [.inr (.inr (some 8)), .inl a1, .inl a2, .inl a3, .inl a4, .inl x14], []) M15 _
          refine zG_blk (c' := (87, [.inr (.inr (some 8)), .inl a1, .inl a2, .inl a3, .inl a4, .inl x14], [.inl a2, .inl 1, .inl x14, .inr (.inr (some 16))])) 6 hd0 hz (by rfl) ?_
          refine zG_call hd0 hz zp_107 rfl rfl (Nat.le_of_ble_eq_true rfl) ⟨Nat.le_refl _, Nat.le_refl _⟩ (qw_set (by first | exact zdp hd (by decide) | omega) hCM15 (⟨by decide, rfl, rfl⟩ : qT n 16 40 5) x14 (by omega) 1 (by first | decide | omega) a2 (by first | with_reducible exact ha2 | omega)) (fun vr M17 hr => ?_)
          obtain ⟨⟨hCM17, hFM17⟩, rfl⟩ := hr
          have hWM17 : qFr [16, 17] M M17 := hWM15.tr hFM17 (by decide)
          show zG n (0, 0) d 126 (90, [.inr (.inr (some 8)), .inl a1, .inl a2, .inl a3, .inl a4, .inl x14], []) M17 _
          refine zG_blk (c' := (101, [.inr (.inr (some 8)), .inl a1, .inl a2, .inl a3, .inl a4, .inl x14], [.inl a3, .inl 2, .inl x14, .inr (.inr (some 16))])) 6 hd0 hz (by rfl) ?_
          refine zG_call hd0 hz zp_107 rfl rfl (Nat.le_of_ble_eq_true rfl) ⟨Nat.le_refl _, Nat.le_refl _⟩ (qw_set (by first | exact zdp hd (by decide) | omega) hCM17 (⟨by decide, rfl, rfl⟩ : qT n 16 40 5) x14 (by omega) 2 (by first | decide | omega) a3 (by first | with_reducible exact ha3 | omega)) (fun vr M19 hr => ?_)
          obtain ⟨⟨hCM19, hFM19⟩, rfl⟩ := hr
          have hWM19 : qFr [16, 17] M M19 := hWM17.tr hFM19 (by decide)
          show zG n (0, 0) d 126 (104, [.inr (.inr (some 8)), .inl a1, .inl a2, .inl a3, .inl a4, .inl x14], []) M19 _
          refine zG_blk (c' := (116, [.inr (.inr (some 8)), .inl a1, .inl a2, .inl a3, .inl a4, .inl x14], [.inl a4, .inl 3, .inl x14, .inr (.inr (some 16))])) 6 hd0 hz (by rfl) ?_
          refine zG_call hd0 hz zp_107 rfl rfl (Nat.le_of_ble_eq_true rfl) ⟨Nat.le_refl _, Nat.le_refl _⟩ (qw_set (by first | exact zdp hd (by decide) | omega) hCM19 (⟨by decide, rfl, rfl⟩ : qT n 16 40 5) x14 (by omega) 3 (by first | decide | omega) a4 (by first | with_reducible exact ha4 | omega)) (fun vr M21 hr => ?_)
          obtain ⟨⟨hCM21, hFM21⟩, rfl⟩ := hr
          have hWM21 : qFr [16, 17] M M21 := hWM19.tr hFM21 (by decide)
          show zG n (0, 0) d 126 (119, [.inr (.inr (some 8)), .inl a1, .inl a2, .inl a3, .inl a4, .inl x14], []) M21 _
          refine zG_blk (c' := (130, [.inr (.inr (some 8)), .inl a1, .inl a2, .inl a3, .inl a4, .inl x14], [.inl 0, .inl 4, .inl x14, .inr (.inr (some 16))])) 6 hd0 hz (by rfl) ?_
          refine zG_call hd0 hz zp_107 rfl rfl (Nat.le_of_ble_eq_true rfl) ⟨Nat.le_refl _, Nat.le_refl _⟩ (qw_set (by first | exact zdp hd (by decide) | omega) hCM21 (⟨by decide, rfl, rfl⟩ : qT n 16 40 5) x14 (by omega) 4 (by first | decide | omega) 0 (by first | decide | omega)) (fun vr M23 hr => ?_)
          obtain ⟨⟨hCM23, hFM23⟩, rfl⟩ := hr
          have hWM23 : qFr [16, 17] M M23 := hWM21.tr hFM23 (by decide)
          show zG n (0, 0) d 126 (133, [.inr (.inr (some 8)), .inl a1, .inl a2, .inl a3, .inl a4, .inl x14], []) M23 _
          refine zG_blk (c' := (135, [.inr (.inr (some 8)), .inl a1, .inl a2, .inl a3, .inl a4, .inl x14], [.inl x14])) 1 hd0 hz (by rfl) ?_
          exact zG_ret hd0 hz rfl rfl ⟨⟨hCM23, hWM23⟩, _, rfl, by omega⟩
        · exact j47
    · exact j21
theorem qm_127_8 {n d : Nat} {M : zM} (hd : 2 ≤ d) (hC : qCI M) (a1 : Int) (ha1 : (-2147483648) ≤ a1 ∧ a1 ≤ 2147483647) (a2 : Int) (ha2 : 0 ≤ a2 ∧ a2 ≤ 1) : qOkM n d 127 [.inr (.inr (some 8)), .inl a1, .inl a2] 4 qCI [17] M (qRi (fun x => (-3) ≤ x ∧ x ≤ 1)) := by
  have hz := zp_127
  have hd0 : 0 < d := by omega
  have hW : qFr [17] M M := qFr.rfl
  show zG n (0, 0) d 127 (0, [.inr (.inr (some 8)), .inl a1, .inl a2, zN], []) M _
  refine zG_blk (c' := (8, [.inr (.inr (some 8)), .inl a1, .inl a2, zN], [.inl a1, .inr (.inr (some 16))])) 4 hd0 hz (by rfl) ?_
  refine zG_call hd0 hz zp_102 rfl rfl (Nat.le_of_ble_eq_true rfl) ⟨Nat.le_refl _, Nat.le_refl _⟩ (qw_has (by first | exact zdp hd (by decide) | omega) hC (⟨by decide, rfl, rfl⟩ : qT n 16 40 5) a1 (by first | with_reducible exact ha1 | omega)) (fun vr M1 hr => ?_)
  obtain ⟨hq, x2, rfl, hx2⟩ := hr
  replace hq := hq.symm; subst hq
  show zG n (0, 0) d 127 (11, [.inr (.inr (some 8)), .inl a1, .inl a2, zN], [.inl x2]) M _
  refine zG_if_ne hd0 hz rfl (fun hb3 => ?_) (fun hb3 => ?_)
  · refine zG_blk (c' := (18, [.inr (.inr (some 8)), .inl a1, .inl a2, zN], [.inl a2])) 1 hd0 hz (by rfl) ?_
    have j26 : ∀ (v4 : Int) , 0 ≤ v4 ∧ v4 ≤ 1 → zG n (0, 0) d 127 (26, [.inr (.inr (some 8)), .inl a1, .inl a2, zN], [.inl v4]) M (fun v M' => qWf qCI [17] M M' ∧ qRi (fun x => (-3) ≤ x ∧ x ≤ 1) v) := by
      intro v4 hv4
      refine zG_blk (c' := (36, [.inr (.inr (some 8)), .inl a1, .inl a2, .inl v4], [.inl 4, .inl a1, .inr (.inr (some 16))])) 6 hd0 hz (by rfl) ?_
      refine zG_call hd0 hz zp_106 rfl rfl (Nat.le_of_ble_eq_true rfl) ⟨Nat.le_refl _, Nat.le_refl _⟩ (qw_get (by first | exact zdp hd (by decide) | omega) hC (⟨by decide, rfl, rfl⟩ : qT n 16 40 5) a1 (by first | with_reducible exact ha1 | omega) 4 (by first | decide | omega)) (fun vr M5 hr => ?_)
      obtain ⟨hq, x6, rfl, hx6⟩ := hr
      replace hq := hq.symm; subst hq
      show zG n (0, 0) d 127 (39, [.inr (.inr (some 8)), .inl a1, .inl a2, .inl v4], [.inl x6]) M _
      refine zG_blk (c' := (40, [.inr (.inr (some 8)), .inl a1, .inl a2, .inl v4], [.inl v4, .inl x6])) 1 hd0 hz (by rfl) ?_
      refine zG_icmp_ne hd0 hz rfl (fun hb7 => ?_) (fun hb7 => ?_)
      · refine zG_blk (c' := (56, [.inr (.inr (some 8)), .inl a1, .inl a2, .inl v4], [.inl v4, .inl 4, .inl a1, .inr (.inr (some 16))])) 6 hd0 hz (by rfl) ?_
        refine zG_call hd0 hz zp_107 rfl rfl (Nat.le_of_ble_eq_true rfl) ⟨Nat.le_refl _, Nat.le_refl _⟩ (qw_set (by first | exact zdp hd (by decide) | omega) hC (⟨by decide, rfl, rfl⟩ : qT n 16 40 5) a1 (by first | with_reducible exact ha1 | omega) 4 (by first | decide | omega) v4 (by first | with_reducible exact hv4 | omega)) (fun vr M8 hr => ?_)
        obtain ⟨⟨hCM8, hFM8⟩, rfl⟩ := hr
        have hWM8 : qFr [17] M M8 := hW.tr hFM8 (by decide)
        show zG n (0, 0) d 127 (59, [.inr (.inr (some 8)), .inl a1, .inl a2, .inl v4], []) M8 _
        refine zG_blk (c' := (60, [.inr (.inr (some 8)), .inl a1, .inl a2, .inl v4], [.inl 1])) 1 hd0 hz (by rfl) ?_
        exact zG_ret hd0 hz rfl rfl ⟨⟨hCM8, hWM8⟩, _, rfl, by omega⟩
      · refine zG_blk (c' := (45, [.inr (.inr (some 8)), .inl a1, .inl a2, .inl v4], [.inl (-3)])) 1 hd0 hz (by rfl) ?_
        exact zG_ret hd0 hz rfl rfl ⟨⟨hC, hW⟩, _, rfl, by omega⟩
    refine zG_if_eq hd0 hz rfl (fun hb10 => ?_) (fun hb10 => ?_)
    · refine zG_blk (c' := (26, [.inr (.inr (some 8)), .inl a1, .inl a2, zN], [.inl 0])) 1 hd0 hz (by rfl) ?_
      exact j26 0 (by first | decide | omega)
    · refine zG_blk (c' := (26, [.inr (.inr (some 8)), .inl a1, .inl a2, zN], [.inl 1])) 2 hd0 hz (by rfl) ?_
      exact j26 1 (by first | decide | omega)
  · refine zG_blk (c' := (16, [.inr (.inr (some 8)), .inl a1, .inl a2, zN], [.inl (-2)])) 1 hd0 hz (by rfl) ?_
    exact zG_ret hd0 hz rfl rfl ⟨⟨hC, hW⟩, _, rfl, by omega⟩
theorem qm_296 {n d : Nat} {M : zM} (hd : 1 ≤ d) (hC : qCI M) (a0 : Int) (ha0 : (-2147483648) ≤ a0 ∧ a0 ≤ 2147483647) : qOkP n d 296 [.inl a0] 1 M (qRi (fun x => 0 ≤ x ∧ x ≤ 63)) := by
  have hz := zp_296
  have hd0 : 0 < d := by omega
  show zG n (0, 0) d 296 (0, [.inl a0], []) M _
  obtain ⟨x1, hx1⟩ : ∃ x : Int, x = zbushr a0 1 := ⟨_, rfl⟩
  have hx1r : qin x1 := by rw [hx1]; exact qb32 _
  obtain ⟨x2, hx2⟩ : ∃ x : Int, x = zband x1 1431655765 := ⟨_, rfl⟩
  have hx2r := qband_r x1 1431655765 (by first | decide | omega) (by omega); rw [← hx2] at hx2r
  obtain ⟨x3, hx3⟩ : ∃ x : Int, x = w32 (a0 - x2) := ⟨_, rfl⟩
  have hx3r : x3 = (a0 - x2 + 2147483648) % 4294967296 - 2147483648 := hx3
  obtain ⟨x4, hx4⟩ : ∃ x : Int, x = zband x3 858993459 := ⟨_, rfl⟩
  have hx4r := qband_r x3 858993459 (by first | decide | omega) (by omega); rw [← hx4] at hx4r
  obtain ⟨x5, hx5⟩ : ∃ x : Int, x = zbushr x3 2 := ⟨_, rfl⟩
  have hx5r : qin x5 := by rw [hx5]; exact qb32 _
  obtain ⟨x6, hx6⟩ : ∃ x : Int, x = zband x5 858993459 := ⟨_, rfl⟩
  have hx6r := qband_r x5 858993459 (by first | decide | omega) (by omega); rw [← hx6] at hx6r
  obtain ⟨x7, hx7⟩ : ∃ x : Int, x = w32 (x4 + x6) := ⟨_, rfl⟩
  have hx7e : x7 = x4 + x6 := by rw [hx7]; exact w32_id (by omega)
  obtain ⟨x8, hx8⟩ : ∃ x : Int, x = zbushr x7 4 := ⟨_, rfl⟩
  have hx8r := qushr x7 4 16 (by first | decide | omega) (by omega) (by decide); rw [← hx8] at hx8r
  obtain ⟨x9, hx9⟩ : ∃ x : Int, x = w32 (x7 + x8) := ⟨_, rfl⟩
  have hx9e : x9 = x7 + x8 := by rw [hx9]; exact w32_id (by omega)
  obtain ⟨x10, hx10⟩ : ∃ x : Int, x = zband x9 252645135 := ⟨_, rfl⟩
  have hx10r := qband_lr x9 252645135 (by first | decide | omega) (by omega); rw [← hx10] at hx10r
  obtain ⟨x11, hx11⟩ : ∃ x : Int, x = zbushr x10 8 := ⟨_, rfl⟩
  have hx11r := qushr x10 8 256 (by first | decide | omega) (by omega) (by decide); rw [← hx11] at hx11r
  obtain ⟨x12, hx12⟩ : ∃ x : Int, x = w32 (x10 + x11) := ⟨_, rfl⟩
  have hx12e : x12 = x10 + x11 := by rw [hx12]; exact w32_id (by omega)
  obtain ⟨x13, hx13⟩ : ∃ x : Int, x = zbushr x12 16 := ⟨_, rfl⟩
  have hx13r := qushr x12 16 65536 (by first | decide | omega) (by omega) (by decide); rw [← hx13] at hx13r
  obtain ⟨x14, hx14⟩ : ∃ x : Int, x = w32 (x12 + x13) := ⟨_, rfl⟩
  have hx14e : x14 = x12 + x13 := by rw [hx14]; exact w32_id (by omega)
  obtain ⟨x15, hx15⟩ : ∃ x : Int, x = zband x14 63 := ⟨_, rfl⟩
  have hx15r := qband_lr x14 63 (by first | decide | omega) (by omega); rw [← hx15] at hx15r
  refine zG_blk (c' := (52, [.inl x14], [.inl x15])) 41 hd0 hz (by subst hx15; subst hx14; subst hx13; subst hx12; subst hx11; subst hx10; subst hx9; subst hx8; subst hx7; subst hx6; subst hx5; subst hx4; subst hx3; subst hx2; subst hx1; rfl) ?_
  exact zG_ret hd0 hz rfl rfl ⟨rfl, _, rfl, by omega⟩
theorem qm_20_9 {n d : Nat} {M : zM} (hd : 2 ≤ d) (hC : qCI M) (a1 : Int) (ha1 : (-2147483648) ≤ a1 ∧ a1 ≤ 2147483647) : qOkP n d 20 [.inr (.inr (some 9)), .inl a1] 5 M (qRi (fun x => 0 ≤ x ∧ x ≤ 1)) := by
  have hz := zp_20
  have hd0 : 0 < d := by omega
  show zG n (0, 0) d 20 (0, [.inr (.inr (some 9)), .inl a1, zN, zN, zN], []) M _
  refine zG_blk (c' := (5, [.inr (.inr (some 9)), .inl a1, zN, zN, zN], [.inl a1, .inr (.inr (some 16))])) 3 hd0 hz (by rfl) ?_
  refine zG_call hd0 hz zp_102 rfl rfl (Nat.le_of_ble_eq_true rfl) ⟨Nat.le_refl _, Nat.le_refl _⟩ (qw_has (by first | exact zdp hd (by decide) | omega) hC (⟨by decide, rfl, rfl⟩ : qT n 16 40 5) a1 (by first | with_reducible exact ha1 | omega)) (fun vr M1 hr => ?_)
  obtain ⟨hq, x2, rfl, hx2⟩ := hr
  replace hq := hq.symm; subst hq
  show zG n (0, 0) d 20 (8, [.inr (.inr (some 9)), .inl a1, zN, zN, zN], [.inl x2]) M _
  have j24 : zG n (0, 0) d 20 (24, [.inr (.inr (some 9)), .inl a1, zN, zN, zN], []) M (fun v M' => M' = M ∧ qRi (fun x => 0 ≤ x ∧ x ≤ 1) v) := by
    refine zG_blk (c' := (25, [.inr (.inr (some 9)), .inl a1, zN, zN, zN], [.inl 0])) 1 hd0 hz (by rfl) ?_
    exact zG_ret hd0 hz rfl rfl ⟨rfl, _, rfl, by omega⟩
  refine zG_if_eq hd0 hz rfl (fun hb3 => ?_) (fun hb3 => ?_)
  · exact j24
  · refine zG_blk (c' := (17, [.inr (.inr (some 9)), .inl a1, zN, zN, zN], [.inl 4, .inl a1, .inr (.inr (some 16))])) 4 hd0 hz (by rfl) ?_
    refine zG_call hd0 hz zp_106 rfl rfl (Nat.le_of_ble_eq_true rfl) ⟨Nat.le_refl _, Nat.le_refl _⟩ (qw_get (by first | exact zdp hd (by decide) | omega) hC (⟨by decide, rfl, rfl⟩ : qT n 16 40 5) a1 (by first | with_reducible exact ha1 | omega) 4 (by first | decide | omega)) (fun vr M4 hr => ?_)
    obtain ⟨hq, x5, rfl, hx5⟩ := hr
    replace hq := hq.symm; subst hq
    show zG n (0, 0) d 20 (20, [.inr (.inr (some 9)), .inl a1, zN, zN, zN], [.inl x5]) M _
    refine zG_blk (c' := (21, [.inr (.inr (some 9)), .inl a1, zN, zN, zN], [.inl 1, .inl x5])) 1 hd0 hz (by rfl) ?_
    refine zG_icmp_ne hd0 hz rfl (fun hb6 => ?_) (fun hb6 => ?_)
    · refine zG_blk (c' := (32, [.inr (.inr (some 9)), .inl a1, zN, zN, zN], [.inl 0, .inl a1, .inr (.inr (some 16))])) 4 hd0 hz (by rfl) ?_
      refine zG_call hd0 hz zp_106 rfl rfl (Nat.le_of_ble_eq_true rfl) ⟨Nat.le_refl _, Nat.le_refl _⟩ (qw_get (by first | exact zdp hd (by decide) | omega) hC (⟨by decide, rfl, rfl⟩ : qT n 16 40 5) a1 (by first | with_reducible exact ha1 | omega) 0 (by first | decide | omega)) (fun vr M7 hr => ?_)
      obtain ⟨hq, x8, rfl, hx8⟩ := hr
      replace hq := hq.symm; subst hq
      show zG n (0, 0) d 20 (35, [.inr (.inr (some 9)), .inl a1, zN, zN, zN], [.inl x8]) M _
      refine zG_blk (c' := (42, [.inr (.inr (some 9)), .inl a1, .inl x8, zN, zN], [.inl 0, .inl x8, .inr (.inr (some 14))])) 5 hd0 hz (by rfl) ?_
      refine zG_call hd0 hz zp_106 rfl rfl (Nat.le_of_ble_eq_true rfl) ⟨Nat.le_refl _, Nat.le_refl _⟩ (qw_get (by first | exact zdp hd (by decide) | omega) hC (⟨by decide, rfl, rfl⟩ : qT n 14 4 2) x8 (by omega) 0 (by first | decide | omega)) (fun vr M9 hr => ?_)
      obtain ⟨hq, x10, rfl, hx10⟩ := hr
      replace hq := hq.symm; subst hq
      show zG n (0, 0) d 20 (45, [.inr (.inr (some 9)), .inl a1, .inl x8, zN, zN], [.inl x10]) M _
      refine zG_blk (c' := (53, [.inr (.inr (some 9)), .inl a1, .inl x8, .inl x10, zN], [.inl 2, .inl a1, .inr (.inr (some 16)), .inl x10])) 6 hd0 hz (by rfl) ?_
      refine zG_call hd0 hz zp_106 rfl rfl (Nat.le_of_ble_eq_true rfl) ⟨Nat.le_refl _, Nat.le_refl _⟩ (qw_get (by first | exact zdp hd (by decide) | omega) hC (⟨by decide, rfl, rfl⟩ : qT n 16 40 5) a1 (by first | with_reducible exact ha1 | omega) 2 (by first | decide | omega)) (fun vr M11 hr => ?_)
      obtain ⟨hq, x12, rfl, hx12⟩ := hr
      replace hq := hq.symm; subst hq
      show zG n (0, 0) d 20 (56, [.inr (.inr (some 9)), .inl a1, .inl x8, .inl x10, zN], [.inl x12, .inl x10]) M _
      obtain ⟨x13, hx13⟩ : ∃ x : Int, x = zband x10 x12 := ⟨_, rfl⟩
      have hx13r : qin x13 := by rw [hx13]; exact qb32 _
      refine zG_blk (c' := (58, [.inr (.inr (some 9)), .inl a1, .inl x8, .inl x10, zN], [.inl x10, .inl x13])) 2 hd0 hz (by subst hx13; rfl) ?_
      have j66 : ∀ (v14 : Int) , 0 ≤ v14 ∧ v14 ≤ 1 → zG n (0, 0) d 20 (66, [.inr (.inr (some 9)), .inl a1, .inl x8, .inl x10, zN], [.inl v14]) M (fun v M' => M' = M ∧ qRi (fun x => 0 ≤ x ∧ x ≤ 1) v) := by
        intro v14 hv14
        refine zG_blk (c' := (70, [.inr (.inr (some 9)), .inl a1, .inl x8, .inl x10, .inl v14], [.inl v14])) 2 hd0 hz (by rfl) ?_
        have j104 : ∀ (v15 : Int) , 0 ≤ v15 ∧ v15 ≤ 1 → zG n (0, 0) d 20 (104, [.inr (.inr (some 9)), .inl a1, .inl x8, .inl x10, .inl v14], [.inl v15]) M (fun v M' => M' = M ∧ qRi (fun x => 0 ≤ x ∧ x ≤ 1) v) := by
          intro v15 hv15
          exact zG_zret hd0 hz rfl (by omega) ⟨rfl, _, rfl, by omega⟩
        have j103 : zG n (0, 0) d 20 (103, [.inr (.inr (some 9)), .inl a1, .inl x8, .inl x10, .inl v14], []) M (fun v M' => M' = M ∧ qRi (fun x => 0 ≤ x ∧ x ≤ 1) v) := by
          refine zG_blk (c' := (104, [.inr (.inr (some 9)), .inl a1, .inl x8, .inl x10, .inl v14], [.inl 0])) 1 hd0 hz (by rfl) ?_
          exact j104 0 (by first | decide | omega)
        refine zG_if_eq hd0 hz rfl (fun hb16 => ?_) (fun hb16 => ?_)
        · exact j103
        · refine zG_blk (c' := (80, [.inr (.inr (some 9)), .inl a1, .inl x8, .inl x10, .inl v14], [.inl 3, .inl a1, .inr (.inr (some 16)), .inl x10])) 5 hd0 hz (by rfl) ?_
          refine zG_call hd0 hz zp_106 rfl rfl (Nat.le_of_ble_eq_true rfl) ⟨Nat.le_refl _, Nat.le_refl _⟩ (qw_get (by first | exact zdp hd (by decide) | omega) hC (⟨by decide, rfl, rfl⟩ : qT n 16 40 5) a1 (by first | with_reducible exact ha1 | omega) 3 (by first | decide | omega)) (fun vr M17 hr => ?_)
          obtain ⟨hq, x18, rfl, hx18⟩ := hr
          replace hq := hq.symm; subst hq
          show zG n (0, 0) d 20 (83, [.inr (.inr (some 9)), .inl a1, .inl x8, .inl x10, .inl v14], [.inl x18, .inl x10]) M _
          obtain ⟨x19, hx19⟩ : ∃ x : Int, x = zband x10 x18 := ⟨_, rfl⟩
          have hx19r : qin x19 := by rw [hx19]; exact qb32 _
          refine zG_blk (c' := (84, [.inr (.inr (some 9)), .inl a1, .inl x8, .inl x10, .inl v14], [.inl x19])) 1 hd0 hz (by subst hx19; rfl) ?_
          refine zG_call hd0 hz zp_296 rfl rfl (Nat.le_of_ble_eq_true rfl) ⟨Nat.le_refl _, Nat.le_refl _⟩ (qm_296 (by first | exact zdp hd (by decide) | omega) hC  x19 (by omega)) (fun vr M20 hr => ?_)
          obtain ⟨hq, x21, rfl, hx21⟩ := hr
          replace hq := hq.symm; subst hq
          show zG n (0, 0) d 20 (87, [.inr (.inr (some 9)), .inl a1, .inl x8, .inl x10, .inl v14], [.inl x21]) M _
          refine zG_blk (c' := (93, [.inr (.inr (some 9)), .inl a1, .inl x8, .inl x10, .inl v14], [.inl 1, .inl x8, .inr (.inr (some 14)), .inl x21])) 4 hd0 hz (by rfl) ?_
          refine zG_call hd0 hz zp_106 rfl rfl (Nat.le_of_ble_eq_true rfl) ⟨Nat.le_refl _, Nat.le_refl _⟩ (qw_get (by first | exact zdp hd (by decide) | omega) hC (⟨by decide, rfl, rfl⟩ : qT n 14 4 2) x8 (by omega) 1 (by first | decide | omega)) (fun vr M22 hr => ?_)
          obtain ⟨hq, x23, rfl, hx23⟩ := hr
          replace hq := hq.symm; subst hq
          show zG n (0, 0) d 20 (96, [.inr (.inr (some 9)), .inl a1, .inl x8, .inl x10, .inl v14], [.inl x23, .inl x21]) M _
          refine zG_icmp_lt hd0 hz rfl (fun hb24 => ?_) (fun hb24 => ?_)
          · exact j103
          · refine zG_blk (c' := (104, [.inr (.inr (some 9)), .inl a1, .inl x8, .inl x10, .inl v14], [.inl 1])) 2 hd0 hz (by rfl) ?_
            exact j104 1 (by first | decide | omega)
      refine zG_icmp_ne hd0 hz rfl (fun hb25 => ?_) (fun hb25 => ?_)
      · refine zG_blk (c' := (66, [.inr (.inr (some 9)), .inl a1, .inl x8, .inl x10, zN], [.inl 0])) 1 hd0 hz (by rfl) ?_
        exact j66 0 (by first | decide | omega)
      · refine zG_blk (c' := (66, [.inr (.inr (some 9)), .inl a1, .inl x8, .inl x10, zN], [.inl 1])) 2 hd0 hz (by rfl) ?_
        exact j66 1 (by first | decide | omega)
    · exact j24
