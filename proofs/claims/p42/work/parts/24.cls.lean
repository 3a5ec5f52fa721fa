/-! THE CLASS'S METHODS, BY PROGRAM -/
theorem qm_169 {n d : Nat} {M : zM} (hd : 1 ≤ d) (hC : qCI M) (a0 : Int) (ha0 : (-2147483648) ≤ a0 ∧ a0 ≤ 2147483647) (a1 : Int) (ha1 : (-2147483648) ≤ a1 ∧ a1 ≤ 2147483647) (a2 : Int) (ha2 : (-2147483648) ≤ a2 ∧ a2 ≤ 2147483647) : qOkP n d 169 [.inl a0, .inl a1, .inl a2] 3 M (qRi (fun x => 0 ≤ x ∧ x ≤ 1)) := by
  have hz : zP 169 = (zk_X10_within, 3, (0, 0)) := rfl
  have hd0 : 0 < d := by omega
  show zG n (0, 0) d 169 (0, [.inl a0, .inl a1, .inl a2], []) M _
  refine zG_blk (c' := (2, [.inl a0, .inl a1, .inl a2], [.inl a1, .inl a0])) 2 hd0 hz (by rfl) ?_
  have j15 : ∀ (v1 : Int) , 0 ≤ v1 ∧ v1 ≤ 1 → zG n (0, 0) d 169 (15, [.inl a0, .inl a1, .inl a2], [.inl v1]) M (fun v M' => M' = M ∧ qRi (fun x => 0 ≤ x ∧ x ≤ 1) v) := by
    intro v1 hv1
    exact zG_zret hd0 hz rfl (by omega) ⟨rfl, _, rfl, by omega⟩
  have j14 : zG n (0, 0) d 169 (14, [.inl a0, .inl a1, .inl a2], []) M (fun v M' => M' = M ∧ qRi (fun x => 0 ≤ x ∧ x ≤ 1) v) := by
    refine zG_blk (c' := (15, [.inl a0, .inl a1, .inl a2], [.inl 0])) 1 hd0 hz (by rfl) ?_
    exact j15 0 (by omega)
  refine zG_icmp_lt hd0 hz rfl (fun hb2 => ?_) (fun hb2 => ?_)
  · exact j14
  · refine zG_blk (c' := (7, [.inl a0, .inl a1, .inl a2], [.inl a2, .inl a0])) 2 hd0 hz (by rfl) ?_
    refine zG_icmp_gt hd0 hz rfl (fun hb3 => ?_) (fun hb3 => ?_)
    · exact j14
    · refine zG_blk (c' := (15, [.inl a0, .inl a1, .inl a2], [.inl 1])) 2 hd0 hz (by rfl) ?_
      exact j15 1 (by omega)
theorem qm_177_8 {n d : Nat} {M : zM} (hd : 2 ≤ d) (hC : qCI M)  : qOkP n d 177 [.inr (.inr (some 8))] 1 M (qRi (fun x => (-2147483648) ≤ x ∧ x ≤ 2147483647)) := by
  have hz : zP 177 = (zk_X10_allCourses, 1, (0, 0)) := rfl
  have hd0 : 0 < d := by omega
  show zG n (0, 0) d 177 (0, [.inr (.inr (some 8))], []) M _
  refine zG_blk (c' := (8, [.inr (.inr (some 8))], [.inr (.inr (some 10)), .inl 1])) 4 hd0 hz (by rfl) ?_
  refine zG_call hd0 hz (rfl : zP 101 = (zk_X8_size, 1, (0, 0))) rfl rfl (Nat.le_of_ble_eq_true rfl) ⟨Nat.le_refl _, Nat.le_refl _⟩ (qw_size (by omega) hC (⟨by decide, rfl, rfl⟩ : qT n 10 14 4) ) (fun vr M1 hr => ?_)
  obtain ⟨hq, x2, rfl, hx2⟩ := hr
  replace hq := hq.symm; subst hq
  show zG n (0, 0) d 177 (11, [.inr (.inr (some 8))], [.inl x2, .inl 1]) M _
  obtain ⟨x3, hx3⟩ : ∃ x : Int, x = zbshl 1 x2 := ⟨_, rfl⟩
  have hx3r : qin x3 := by rw [hx3]; exact qb32 _
  obtain ⟨x4, hx4⟩ : ∃ x : Int, x = w32 (x3 - 1) := ⟨_, rfl⟩
  have hx4r : qin x4 := by rw [hx4]; exact w32_in _
  refine zG_blk (c' := (14, [.inr (.inr (some 8))], [.inl x4])) 3 hd0 hz (by subst hx4; subst hx3; rfl) ?_
  exact zG_ret hd0 hz rfl rfl ⟨rfl, _, rfl, by omega⟩
theorem qm_123_8 {n d : Nat} {M : zM} (hd : 3 ≤ d) (hC : qCI M) (a1 : Int) (ha1 : (-2147483648) ≤ a1 ∧ a1 ≤ 2147483647) (a2 : Int) (ha2 : (-2147483648) ≤ a2 ∧ a2 ≤ 2147483647) (a3 : Int) (ha3 : (-2147483648) ≤ a3 ∧ a3 ≤ 2147483647) (a4 : Int) (ha4 : (-2147483648) ≤ a4 ∧ a4 ≤ 2147483647) : qOkM n d 123 [.inr (.inr (some 8)), .inl a1, .inl a2, .inl a3, .inl a4] 6 qCI [10, 11] M (qRi (fun x => (-4) ≤ x ∧ x ≤ 13)) := by
  have hz : zP 123 = (zk_X10_course, 6, (0, 0)) := rfl
  have hd0 : 0 < d := by omega
  have hW : qFr [10, 11] M M := qFr.rfl
  show zG n (0, 0) d 123 (0, [.inr (.inr (some 8)), .inl a1, .inl a2, .inl a3, .inl a4, zN], []) M _
  refine zG_blk (c' := (4, [.inr (.inr (some 8)), .inl a1, .inl a2, .inl a3, .inl a4, zN], [.inl 60, .inl 1, .inl a1])) 3 hd0 hz (by rfl) ?_
  refine zG_call hd0 hz (rfl : zP 169 = (zk_X10_within, 3, (0, 0))) rfl rfl (Nat.le_of_ble_eq_true rfl) ⟨Nat.le_refl _, Nat.le_refl _⟩ (qm_169 (by omega) hC  a1 (by omega) 1 (by omega) 60 (by omega)) (fun vr M1 hr => ?_)
  obtain ⟨hq, x2, rfl, hx2⟩ := hr
  replace hq := hq.symm; subst hq
  show zG n (0, 0) d 123 (7, [.inr (.inr (some 8)), .inl a1, .inl a2, .inl a3, .inl a4, zN], [.inl x2]) M _
  have j22 : zG n (0, 0) d 123 (22, [.inr (.inr (some 8)), .inl a1, .inl a2, .inl a3, .inl a4, zN], []) M (fun v M' => qWf qCI [10, 11] M M' ∧ qRi (fun x => (-4) ≤ x ∧ x ≤ 13) v) := by
    refine zG_blk (c' := (24, [.inr (.inr (some 8)), .inl a1, .inl a2, .inl a3, .inl a4, zN], [.inl (-2)])) 1 hd0 hz (by rfl) ?_
    exact zG_ret hd0 hz rfl rfl ⟨⟨hC, hW⟩, _, rfl, by omega⟩
  refine zG_if_eq hd0 hz rfl (fun hb3 => ?_) (fun hb3 => ?_)
  · exact j22
  · refine zG_blk (c' := (13, [.inr (.inr (some 8)), .inl a1, .inl a2, .inl a3, .inl a4, zN], [.inr (.inr (some 8)), .inl 0, .inl a2])) 3 hd0 hz (by rfl) ?_
    refine zG_call hd0 hz (rfl : zP 177 = (zk_X10_allCourses, 1, (0, 0))) rfl rfl (Nat.le_of_ble_eq_true rfl) ⟨Nat.le_refl _, Nat.le_refl _⟩ (qm_177_8 (by omega) hC  ) (fun vr M4 hr => ?_)
    obtain ⟨hq, x5, rfl, hx5⟩ := hr
    replace hq := hq.symm; subst hq
    show zG n (0, 0) d 123 (16, [.inr (.inr (some 8)), .inl a1, .inl a2, .inl a3, .inl a4, zN], [.inl x5, .inl 0, .inl a2]) M _
    refine zG_call hd0 hz (rfl : zP 169 = (zk_X10_within, 3, (0, 0))) rfl rfl (Nat.le_of_ble_eq_true rfl) ⟨Nat.le_refl _, Nat.le_refl _⟩ (qm_169 (by omega) hC  a2 (by omega) 0 (by omega) x5 (by omega)) (fun vr M6 hr => ?_)
    obtain ⟨hq, x7, rfl, hx7⟩ := hr
    replace hq := hq.symm; subst hq
    show zG n (0, 0) d 123 (19, [.inr (.inr (some 8)), .inl a1, .inl a2, .inl a3, .inl a4, zN], [.inl x7]) M _
    refine zG_if_ne hd0 hz rfl (fun hb8 => ?_) (fun hb8 => ?_)
    · refine zG_blk (c' := (29, [.inr (.inr (some 8)), .inl a1, .inl a2, .inl a3, .inl a4, zN], [.inl 7, .inl 1, .inl a3])) 3 hd0 hz (by rfl) ?_
      refine zG_call hd0 hz (rfl : zP 169 = (zk_X10_within, 3, (0, 0))) rfl rfl (Nat.le_of_ble_eq_true rfl) ⟨Nat.le_refl _, Nat.le_refl _⟩ (qm_169 (by omega) hC  a3 (by omega) 1 (by omega) 7 (by omega)) (fun vr M9 hr => ?_)
      obtain ⟨hq, x10, rfl, hx10⟩ := hr
      replace hq := hq.symm; subst hq
      show zG n (0, 0) d 123 (32, [.inr (.inr (some 8)), .inl a1, .inl a2, .inl a3, .inl a4, zN], [.inl x10]) M _
      have j46 : zG n (0, 0) d 123 (46, [.inr (.inr (some 8)), .inl a1, .inl a2, .inl a3, .inl a4, zN], []) M (fun v M' => qWf qCI [10, 11] M M' ∧ qRi (fun x => (-4) ≤ x ∧ x ≤ 13) v) := by
        refine zG_blk (c' := (48, [.inr (.inr (some 8)), .inl a1, .inl a2, .inl a3, .inl a4, zN], [.inl (-2)])) 1 hd0 hz (by rfl) ?_
        exact zG_ret hd0 hz rfl rfl ⟨⟨hC, hW⟩, _, rfl, by omega⟩
      refine zG_if_eq hd0 hz rfl (fun hb11 => ?_) (fun hb11 => ?_)
      · exact j46
      · refine zG_blk (c' := (40, [.inr (.inr (some 8)), .inl a1, .inl a2, .inl a3, .inl a4, zN], [.inl 100, .inl 0, .inl a4])) 3 hd0 hz (by rfl) ?_
        refine zG_call hd0 hz (rfl : zP 169 = (zk_X10_within, 3, (0, 0))) rfl rfl (Nat.le_of_ble_eq_true rfl) ⟨Nat.le_refl _, Nat.le_refl _⟩ (qm_169 (by omega) hC  a4 (by omega) 0 (by omega) 100 (by omega)) (fun vr M12 hr => ?_)
        obtain ⟨hq, x13, rfl, hx13⟩ := hr
        replace hq := hq.symm; subst hq
        show zG n (0, 0) d 123 (43, [.inr (.inr (some 8)), .inl a1, .inl a2, .inl a3, .inl a4, zN], [.inl x13]) M _
        refine zG_if_ne hd0 hz rfl (fun hb14 => ?_) (fun hb14 => ?_)
        · refine zG_blk (c' := (56, [.inr (.inr (some 8)), .inl a1, .inl a2, .inl a3, .inl a4, zN], [.inr (.inr (some 10))])) 3 hd0 hz (by rfl) ?_
          refine zG_call hd0 hz (rfl : zP 103 = (zk_X8_open, 1, (0, 0))) rfl rfl (Nat.le_of_ble_eq_true rfl) ⟨Nat.le_refl _, Nat.le_refl _⟩ (qw_open (by omega) hC (⟨by decide, rfl, rfl⟩ : qT n 10 14 4) ) (fun vr M15 hr => ?_)
          obtain ⟨⟨hCM15, hFM15⟩, x16, rfl, hx16⟩ := hr
          have hWM15 : qFr [10, 11] M M15 := hW.tr hFM15 (by decide)
          show zG n (0, 0) d 123 (59, [.inr (.inr (some 8)), .inl a1, .inl a2, .inl a3, .inl a4, zN], [.inl x16]) M15 _
          refine zG_blk (c' := (72, [.inr (.inr (some 8)), .inl a1, .inl a2, .inl a3, .inl a4, .inl x16], [.inl a1, .inl 0, .inl x16, .inr (.inr (some 10))])) 7 hd0 hz (by rfl) ?_
          refine zG_call hd0 hz (rfl : zP 107 = (zk_X8_set, 4, (0, 0))) rfl rfl (Nat.le_of_ble_eq_true rfl) ⟨Nat.le_refl _, Nat.le_refl _⟩ (qw_set (by omega) hCM15 (⟨by decide, rfl, rfl⟩ : qT n 10 14 4) x16 (by omega) 0 (by omega) a1 (by omega)) (fun vr M17 hr => ?_)
          obtain ⟨⟨hCM17, hFM17⟩, rfl⟩ := hr
          have hWM17 : qFr [10, 11] M M17 := hWM15.tr hFM17 (by decide)
          show zG n (0, 0) d 123 (75, [.inr (.inr (some 8)), .inl a1, .inl a2, .inl a3, .inl a4, .inl x16], []) M17 _
          refine zG_blk (c' := (86, [.inr (.inr (some 8)), .inl a1, .inl a2, .inl a3, .inl a4, .inl x16], [.inl a2, .inl 1, .inl x16, .inr (.inr (some 10))])) 6 hd0 hz (by rfl) ?_
          refine zG_call hd0 hz (rfl : zP 107 = (zk_X8_set, 4, (0, 0))) rfl rfl (Nat.le_of_ble_eq_true rfl) ⟨Nat.le_refl _, Nat.le_refl _⟩ (qw_set (by omega) hCM17 (⟨by decide, rfl, rfl⟩ : qT n 10 14 4) x16 (by omega) 1 (by omega) a2 (by omega)) (fun vr M19 hr => ?_)
          obtain ⟨⟨hCM19, hFM19⟩, rfl⟩ := hr
          have hWM19 : qFr [10, 11] M M19 := hWM17.tr hFM19 (by decide)
          show zG n (0, 0) d 123 (89, [.inr (.inr (some 8)), .inl a1, .inl a2, .inl a3, .inl a4, .inl x16], []) M19 _
          refine zG_blk (c' := (100, [.inr (.inr (some 8)), .inl a1, .inl a2, .inl a3, .inl a4, .inl x16], [.inl a3, .inl 2, .inl x16, .inr (.inr (some 10))])) 6 hd0 hz (by rfl) ?_
          refine zG_call hd0 hz (rfl : zP 107 = (zk_X8_set, 4, (0, 0))) rfl rfl (Nat.le_of_ble_eq_true rfl) ⟨Nat.le_refl _, Nat.le_refl _⟩ (qw_set (by omega) hCM19 (⟨by decide, rfl, rfl⟩ : qT n 10 14 4) x16 (by omega) 2 (by omega) a3 (by omega)) (fun vr M21 hr => ?_)
          obtain ⟨⟨hCM21, hFM21⟩, rfl⟩ := hr
          have hWM21 : qFr [10, 11] M M21 := hWM19.tr hFM21 (by decide)
          show zG n (0, 0) d 123 (103, [.inr (.inr (some 8)), .inl a1, .inl a2, .inl a3, .inl a4, .inl x16], []) M21 _
          refine zG_blk (c' := (115, [.inr (.inr (some 8)), .inl a1, .inl a2, .inl a3, .inl a4, .inl x16], [.inl a4, .inl 3, .inl x16, .inr (.inr (some 10))])) 6 hd0 hz (by rfl) ?_
          refine zG_call hd0 hz (rfl : zP 107 = (zk_X8_set, 4, (0, 0))) rfl rfl (Nat.le_of_ble_eq_true rfl) ⟨Nat.le_refl _, Nat.le_refl _⟩ (qw_set (by omega) hCM21 (⟨by decide, rfl, rfl⟩ : qT n 10 14 4) x16 (by omega) 3 (by omega) a4 (by omega)) (fun vr M23 hr => ?_)
          obtain ⟨⟨hCM23, hFM23⟩, rfl⟩ := hr
          have hWM23 : qFr [10, 11] M M23 := hWM21.tr hFM23 (by decide)
          show zG n (0, 0) d 123 (118, [.inr (.inr (some 8)), .inl a1, .inl a2, .inl a3, .inl a4, .inl x16], []) M23 _
          refine zG_blk (c' := (120, [.inr (.inr (some 8)), .inl a1, .inl a2, .inl a3, .inl a4, .inl x16], [.inl x16])) 1 hd0 hz (by rfl) ?_
          exact zG_ret hd0 hz rfl rfl ⟨⟨hCM23, hWM23⟩, _, rfl, by omega⟩
        · exact j46
    · exact j22
theorem qm_170 {n d : Nat} {M : zM} (hd : 2 ≤ d) (hC : qCI M) (a0 : Int) (ha0 : (-2147483648) ≤ a0 ∧ a0 ≤ 2147483647) : qOkP n d 170 [.inl a0] 1 M (qRi (fun x => 0 ≤ x ∧ x ≤ 1)) := by
  have hz : zP 170 = (zk_X10_isDay, 1, (0, 0)) := rfl
  have hd0 : 0 < d := by omega
  show zG n (0, 0) d 170 (0, [.inl a0], []) M _
  refine zG_blk (c' := (5, [.inl a0], [.inl 9999, .inl 0, .inl a0])) 3 hd0 hz (by rfl) ?_
  refine zG_call hd0 hz (rfl : zP 169 = (zk_X10_within, 3, (0, 0))) rfl rfl (Nat.le_of_ble_eq_true rfl) ⟨Nat.le_refl _, Nat.le_refl _⟩ (qm_169 (by omega) hC  a0 (by omega) 0 (by omega) 9999 (by omega)) (fun vr M1 hr => ?_)
  obtain ⟨hq, x2, rfl, hx2⟩ := hr
  replace hq := hq.symm; subst hq
  show zG n (0, 0) d 170 (8, [.inl a0], [.inl x2]) M _
  exact zG_zret hd0 hz rfl (by omega) ⟨rfl, _, rfl, by omega⟩
theorem qm_124_8 {n d : Nat} {M : zM} (hd : 3 ≤ d) (hC : qCI M) (a1 : Int) (ha1 : (-2147483648) ≤ a1 ∧ a1 ≤ 2147483647) : qOkM n d 124 [.inr (.inr (some 8)), .inl a1] 3 qCI [12, 13] M (qRi (fun x => (-4) ≤ x ∧ x ≤ 19)) := by
  have hz : zP 124 = (zk_X10_student, 3, (0, 0)) := rfl
  have hd0 : 0 < d := by omega
  have hW : qFr [12, 13] M M := qFr.rfl
  show zG n (0, 0) d 124 (0, [.inr (.inr (some 8)), .inl a1, zN], []) M _
  refine zG_blk (c' := (1, [.inr (.inr (some 8)), .inl a1, zN], [.inl a1])) 1 hd0 hz (by rfl) ?_
  refine zG_call hd0 hz (rfl : zP 170 = (zk_X10_isDay, 1, (0, 0))) rfl rfl (Nat.le_of_ble_eq_true rfl) ⟨Nat.le_refl _, Nat.le_refl _⟩ (qm_170 (by omega) hC  a1 (by omega)) (fun vr M1 hr => ?_)
  obtain ⟨hq, x2, rfl, hx2⟩ := hr
  replace hq := hq.symm; subst hq
  show zG n (0, 0) d 124 (4, [.inr (.inr (some 8)), .inl a1, zN], [.inl x2]) M _
  refine zG_if_ne hd0 hz rfl (fun hb3 => ?_) (fun hb3 => ?_)
  · refine zG_blk (c' := (17, [.inr (.inr (some 8)), .inl a1, zN], [.inr (.inr (some 12))])) 3 hd0 hz (by rfl) ?_
    refine zG_call hd0 hz (rfl : zP 103 = (zk_X8_open, 1, (0, 0))) rfl rfl (Nat.le_of_ble_eq_true rfl) ⟨Nat.le_refl _, Nat.le_refl _⟩ (qw_open (by omega) hC (⟨by decide, rfl, rfl⟩ : qT n 12 20 3) ) (fun vr M4 hr => ?_)
    obtain ⟨⟨hCM4, hFM4⟩, x5, rfl, hx5⟩ := hr
    have hWM4 : qFr [12, 13] M M4 := hW.tr hFM4 (by decide)
    show zG n (0, 0) d 124 (20, [.inr (.inr (some 8)), .inl a1, zN], [.inl x5]) M4 _
    refine zG_blk (c' := (31, [.inr (.inr (some 8)), .inl a1, .inl x5], [.inl a1, .inl 0, .inl x5, .inr (.inr (some 12))])) 7 hd0 hz (by rfl) ?_
    refine zG_call hd0 hz (rfl : zP 107 = (zk_X8_set, 4, (0, 0))) rfl rfl (Nat.le_of_ble_eq_true rfl) ⟨Nat.le_refl _, Nat.le_refl _⟩ (qw_set (by omega) hCM4 (⟨by decide, rfl, rfl⟩ : qT n 12 20 3) x5 (by omega) 0 (by omega) a1 (by omega)) (fun vr M6 hr => ?_)
    obtain ⟨⟨hCM6, hFM6⟩, rfl⟩ := hr
    have hWM6 : qFr [12, 13] M M6 := hWM4.tr hFM6 (by decide)
    show zG n (0, 0) d 124 (34, [.inr (.inr (some 8)), .inl a1, .inl x5], []) M6 _
    refine zG_blk (c' := (44, [.inr (.inr (some 8)), .inl a1, .inl x5], [.inl (-1), .inl 1, .inl x5, .inr (.inr (some 12))])) 6 hd0 hz (by rfl) ?_
    refine zG_call hd0 hz (rfl : zP 107 = (zk_X8_set, 4, (0, 0))) rfl rfl (Nat.le_of_ble_eq_true rfl) ⟨Nat.le_refl _, Nat.le_refl _⟩ (qw_set (by omega) hCM6 (⟨by decide, rfl, rfl⟩ : qT n 12 20 3) x5 (by omega) 1 (by omega) (-1) (by omega)) (fun vr M8 hr => ?_)
    obtain ⟨⟨hCM8, hFM8⟩, rfl⟩ := hr
    have hWM8 : qFr [12, 13] M M8 := hWM6.tr hFM8 (by decide)
    show zG n (0, 0) d 124 (47, [.inr (.inr (some 8)), .inl a1, .inl x5], []) M8 _
    refine zG_blk (c' := (57, [.inr (.inr (some 8)), .inl a1, .inl x5], [.inl 0, .inl 2, .inl x5, .inr (.inr (some 12))])) 6 hd0 hz (by rfl) ?_
    refine zG_call hd0 hz (rfl : zP 107 = (zk_X8_set, 4, (0, 0))) rfl rfl (Nat.le_of_ble_eq_true rfl) ⟨Nat.le_refl _, Nat.le_refl _⟩ (qw_set (by omega) hCM8 (⟨by decide, rfl, rfl⟩ : qT n 12 20 3) x5 (by omega) 2 (by omega) 0 (by omega)) (fun vr M10 hr => ?_)
    obtain ⟨⟨hCM10, hFM10⟩, rfl⟩ := hr
    have hWM10 : qFr [12, 13] M M10 := hWM8.tr hFM10 (by decide)
    show zG n (0, 0) d 124 (60, [.inr (.inr (some 8)), .inl a1, .inl x5], []) M10 _
    refine zG_blk (c' := (61, [.inr (.inr (some 8)), .inl a1, .inl x5], [.inl x5])) 1 hd0 hz (by rfl) ?_
    exact zG_ret hd0 hz rfl rfl ⟨⟨hCM10, hWM10⟩, _, rfl, by omega⟩
  · refine zG_blk (c' := (9, [.inr (.inr (some 8)), .inl a1, zN], [.inl (-2)])) 1 hd0 hz (by rfl) ?_
    exact zG_ret hd0 hz rfl rfl ⟨⟨hC, hW⟩, _, rfl, by omega⟩
theorem qm_125_8 {n d : Nat} {M : zM} (hd : 2 ≤ d) (hC : qCI M) (a1 : Int) (ha1 : (-2147483648) ≤ a1 ∧ a1 ≤ 2147483647) (a2 : Int) (ha2 : (-2147483648) ≤ a2 ∧ a2 ≤ 2147483647) : qOkM n d 125 [.inr (.inr (some 8)), .inl a1, .inl a2] 4 qCI [14, 15] M (qRi (fun x => (-4) ≤ x ∧ x ≤ 3)) := by
  have hz : zP 125 = (zk_X10_board, 4, (0, 0)) := rfl
  have hd0 : 0 < d := by omega
  have hW : qFr [14, 15] M M := qFr.rfl
  show zG n (0, 0) d 125 (0, [.inr (.inr (some 8)), .inl a1, .inl a2, zN], []) M _
  refine zG_blk (c' := (5, [.inr (.inr (some 8)), .inl a1, .inl a2, zN], [.inl 1023, .inl 1, .inl a1])) 3 hd0 hz (by rfl) ?_
  refine zG_call hd0 hz (rfl : zP 169 = (zk_X10_within, 3, (0, 0))) rfl rfl (Nat.le_of_ble_eq_true rfl) ⟨Nat.le_refl _, Nat.le_refl _⟩ (qm_169 (by omega) hC  a1 (by omega) 1 (by omega) 1023 (by omega)) (fun vr M1 hr => ?_)
  obtain ⟨hq, x2, rfl, hx2⟩ := hr
  replace hq := hq.symm; subst hq
  show zG n (0, 0) d 125 (8, [.inr (.inr (some 8)), .inl a1, .inl a2, zN], [.inl x2]) M _
  have j21 : zG n (0, 0) d 125 (21, [.inr (.inr (some 8)), .inl a1, .inl a2, zN], []) M (fun v M' => qWf qCI [14, 15] M M' ∧ qRi (fun x => (-4) ≤ x ∧ x ≤ 3) v) := by
    refine zG_blk (c' := (23, [.inr (.inr (some 8)), .inl a1, .inl a2, zN], [.inl (-2)])) 1 hd0 hz (by rfl) ?_
    exact zG_ret hd0 hz rfl rfl ⟨⟨hC, hW⟩, _, rfl, by omega⟩
  refine zG_if_eq hd0 hz rfl (fun hb3 => ?_) (fun hb3 => ?_)
  · exact j21
  · refine zG_blk (c' := (15, [.inr (.inr (some 8)), .inl a1, .inl a2, zN], [.inl 10, .inl 1, .inl a2])) 3 hd0 hz (by rfl) ?_
    refine zG_call hd0 hz (rfl : zP 169 = (zk_X10_within, 3, (0, 0))) rfl rfl (Nat.le_of_ble_eq_true rfl) ⟨Nat.le_refl _, Nat.le_refl _⟩ (qm_169 (by omega) hC  a2 (by omega) 1 (by omega) 10 (by omega)) (fun vr M4 hr => ?_)
    obtain ⟨hq, x5, rfl, hx5⟩ := hr
    replace hq := hq.symm; subst hq
    show zG n (0, 0) d 125 (18, [.inr (.inr (some 8)), .inl a1, .inl a2, zN], [.inl x5]) M _
    refine zG_if_ne hd0 hz rfl (fun hb6 => ?_) (fun hb6 => ?_)
    · refine zG_blk (c' := (31, [.inr (.inr (some 8)), .inl a1, .inl a2, zN], [.inr (.inr (some 14))])) 3 hd0 hz (by rfl) ?_
      refine zG_call hd0 hz (rfl : zP 103 = (zk_X8_open, 1, (0, 0))) rfl rfl (Nat.le_of_ble_eq_true rfl) ⟨Nat.le_refl _, Nat.le_refl _⟩ (qw_open (by omega) hC (⟨by decide, rfl, rfl⟩ : qT n 14 4 2) ) (fun vr M7 hr => ?_)
      obtain ⟨⟨hCM7, hFM7⟩, x8, rfl, hx8⟩ := hr
      have hWM7 : qFr [14, 15] M M7 := hW.tr hFM7 (by decide)
      show zG n (0, 0) d 125 (34, [.inr (.inr (some 8)), .inl a1, .inl a2, zN], [.inl x8]) M7 _
      refine zG_blk (c' := (45, [.inr (.inr (some 8)), .inl a1, .inl a2, .inl x8], [.inl a1, .inl 0, .inl x8, .inr (.inr (some 14))])) 7 hd0 hz (by rfl) ?_
      refine zG_call hd0 hz (rfl : zP 107 = (zk_X8_set, 4, (0, 0))) rfl rfl (Nat.le_of_ble_eq_true rfl) ⟨Nat.le_refl _, Nat.le_refl _⟩ (qw_set (by omega) hCM7 (⟨by decide, rfl, rfl⟩ : qT n 14 4 2) x8 (by omega) 0 (by omega) a1 (by omega)) (fun vr M9 hr => ?_)
      obtain ⟨⟨hCM9, hFM9⟩, rfl⟩ := hr
      have hWM9 : qFr [14, 15] M M9 := hWM7.tr hFM9 (by decide)
      show zG n (0, 0) d 125 (48, [.inr (.inr (some 8)), .inl a1, .inl a2, .inl x8], []) M9 _
      refine zG_blk (c' := (58, [.inr (.inr (some 8)), .inl a1, .inl a2, .inl x8], [.inl a2, .inl 1, .inl x8, .inr (.inr (some 14))])) 6 hd0 hz (by rfl) ?_
      refine zG_call hd0 hz (rfl : zP 107 = (zk_X8_set, 4, (0, 0))) rfl rfl (Nat.le_of_ble_eq_true rfl) ⟨Nat.le_refl _, Nat.le_refl _⟩ (qw_set (by omega) hCM9 (⟨by decide, rfl, rfl⟩ : qT n 14 4 2) x8 (by omega) 1 (by omega) a2 (by omega)) (fun vr M11 hr => ?_)
      obtain ⟨⟨hCM11, hFM11⟩, rfl⟩ := hr
      have hWM11 : qFr [14, 15] M M11 := hWM9.tr hFM11 (by decide)
      show zG n (0, 0) d 125 (61, [.inr (.inr (some 8)), .inl a1, .inl a2, .inl x8], []) M11 _
      refine zG_blk (c' := (62, [.inr (.inr (some 8)), .inl a1, .inl a2, .inl x8], [.inl x8])) 1 hd0 hz (by rfl) ?_
      exact zG_ret hd0 hz rfl rfl ⟨⟨hCM11, hWM11⟩, _, rfl, by omega⟩
    · exact j21
theorem qm_126_8 {n d : Nat} {M : zM} (hd : 3 ≤ d) (hC : qCI M) (a1 : Int) (ha1 : (-2147483648) ≤ a1 ∧ a1 ≤ 2147483647) (a2 : Int) (ha2 : (-2147483648) ≤ a2 ∧ a2 ≤ 2147483647) (a3 : Int) (ha3 : (-2147483648) ≤ a3 ∧ a3 ≤ 2147483647) (a4 : Int) (ha4 : (-2147483648) ≤ a4 ∧ a4 ≤ 2147483647) : qOkM n d 126 [.inr (.inr (some 8)), .inl a1, .inl a2, .inl a3, .inl a4] 6 qCI [16, 17] M (qRi (fun x => (-4) ≤ x ∧ x ≤ 39)) := by
  have hz : zP 126 = (zk_X10_meeting, 6, (0, 0)) := rfl
  have hd0 : 0 < d := by omega
  have hW : qFr [16, 17] M M := qFr.rfl
  show zG n (0, 0) d 126 (0, [.inr (.inr (some 8)), .inl a1, .inl a2, .inl a3, .inl a4, zN], []) M _
  refine zG_blk (c' := (8, [.inr (.inr (some 8)), .inl a1, .inl a2, .inl a3, .inl a4, zN], [.inl a1, .inr (.inr (some 14))])) 4 hd0 hz (by rfl) ?_
  refine zG_call hd0 hz (rfl : zP 102 = (zk_X8_has, 2, (0, 0))) rfl rfl (Nat.le_of_ble_eq_true rfl) ⟨Nat.le_refl _, Nat.le_refl _⟩ (qw_has (by omega) hC (⟨by decide, rfl, rfl⟩ : qT n 14 4 2) a1 (by omega)) (fun vr M1 hr => ?_)
  obtain ⟨hq, x2, rfl, hx2⟩ := hr
  replace hq := hq.symm; subst hq
  show zG n (0, 0) d 126 (11, [.inr (.inr (some 8)), .inl a1, .inl a2, .inl a3, .inl a4, zN], [.inl x2]) M _
  have j21 : zG n (0, 0) d 126 (21, [.inr (.inr (some 8)), .inl a1, .inl a2, .inl a3, .inl a4, zN], []) M (fun v M' => qWf qCI [16, 17] M M' ∧ qRi (fun x => (-4) ≤ x ∧ x ≤ 39) v) := by
    refine zG_blk (c' := (23, [.inr (.inr (some 8)), .inl a1, .inl a2, .inl a3, .inl a4, zN], [.inl (-2)])) 1 hd0 hz (by rfl) ?_
    exact zG_ret hd0 hz rfl rfl ⟨⟨hC, hW⟩, _, rfl, by omega⟩
  refine zG_if_eq hd0 hz rfl (fun hb3 => ?_) (fun hb3 => ?_)
  · exact j21
  · refine zG_blk (c' := (15, [.inr (.inr (some 8)), .inl a1, .inl a2, .inl a3, .inl a4, zN], [.inl a2])) 1 hd0 hz (by rfl) ?_
    refine zG_call hd0 hz (rfl : zP 170 = (zk_X10_isDay, 1, (0, 0))) rfl rfl (Nat.le_of_ble_eq_true rfl) ⟨Nat.le_refl _, Nat.le_refl _⟩ (qm_170 (by omega) hC  a2 (by omega)) (fun vr M4 hr => ?_)
    obtain ⟨hq, x5, rfl, hx5⟩ := hr
    replace hq := hq.symm; subst hq
    show zG n (0, 0) d 126 (18, [.inr (.inr (some 8)), .inl a1, .inl a2, .inl a3, .inl a4, zN], [.inl x5]) M _
    refine zG_if_ne hd0 hz rfl (fun hb6 => ?_) (fun hb6 => ?_)
    · refine zG_blk (c' := (29, [.inr (.inr (some 8)), .inl a1, .inl a2, .inl a3, .inl a4, zN], [.inl 1023, .inl 0, .inl a3])) 3 hd0 hz (by rfl) ?_
      refine zG_call hd0 hz (rfl : zP 169 = (zk_X10_within, 3, (0, 0))) rfl rfl (Nat.le_of_ble_eq_true rfl) ⟨Nat.le_refl _, Nat.le_refl _⟩ (qm_169 (by omega) hC  a3 (by omega) 0 (by omega) 1023 (by omega)) (fun vr M7 hr => ?_)
      obtain ⟨hq, x8, rfl, hx8⟩ := hr
      replace hq := hq.symm; subst hq
      show zG n (0, 0) d 126 (32, [.inr (.inr (some 8)), .inl a1, .inl a2, .inl a3, .inl a4, zN], [.inl x8]) M _
      have j47 : zG n (0, 0) d 126 (47, [.inr (.inr (some 8)), .inl a1, .inl a2, .inl a3, .inl a4, zN], []) M (fun v M' => qWf qCI [16, 17] M M' ∧ qRi (fun x => (-4) ≤ x ∧ x ≤ 39) v) := by
        refine zG_blk (c' := (49, [.inr (.inr (some 8)), .inl a1, .inl a2, .inl a3, .inl a4, zN], [.inl (-2)])) 1 hd0 hz (by rfl) ?_
        exact zG_ret hd0 hz rfl rfl ⟨⟨hC, hW⟩, _, rfl, by omega⟩
      refine zG_if_eq hd0 hz rfl (fun hb9 => ?_) (fun hb9 => ?_)
      · exact j47
      · refine zG_blk (c' := (41, [.inr (.inr (some 8)), .inl a1, .inl a2, .inl a3, .inl a4, zN], [.inl 1023, .inl 0, .inl a4])) 3 hd0 hz (by rfl) ?_
        refine zG_call hd0 hz (rfl : zP 169 = (zk_X10_within, 3, (0, 0))) rfl rfl (Nat.le_of_ble_eq_true rfl) ⟨Nat.le_refl _, Nat.le_refl _⟩ (qm_169 (by omega) hC  a4 (by omega) 0 (by omega) 1023 (by omega)) (fun vr M10 hr => ?_)
        obtain ⟨hq, x11, rfl, hx11⟩ := hr
        replace hq := hq.symm; subst hq
        show zG n (0, 0) d 126 (44, [.inr (.inr (some 8)), .inl a1, .inl a2, .inl a3, .inl a4, zN], [.inl x11]) M _
        refine zG_if_ne hd0 hz rfl (fun hb12 => ?_) (fun hb12 => ?_)
        · refine zG_blk (c' := (57, [.inr (.inr (some 8)), .inl a1, .inl a2, .inl a3, .inl a4, zN], [.inr (.inr (some 16))])) 3 hd0 hz (by rfl) ?_
          refine zG_call hd0 hz (rfl : zP 103 = (zk_X8_open, 1, (0, 0))) rfl rfl (Nat.le_of_ble_eq_true rfl) ⟨Nat.le_refl _, Nat.le_refl _⟩ (qw_open (by omega) hC (⟨by decide, rfl, rfl⟩ : qT n 16 40 5) ) (fun vr M13 hr => ?_)
          obtain ⟨⟨hCM13, hFM13⟩, x14, rfl, hx14⟩ := hr
          have hWM13 : qFr [16, 17] M M13 := hW.tr hFM13 (by decide)
          show zG n (0, 0) d 126 (60, [.inr (.inr (some 8)), .inl a1, .inl a2, .inl a3, .inl a4, zN], [.inl x14]) M13 _
          refine zG_blk (c' := (73, [.inr (.inr (some 8)), .inl a1, .inl a2, .inl a3, .inl a4, .inl x14], [.inl a1, .inl 0, .inl x14, .inr (.inr (some 16))])) 7 hd0 hz (by rfl) ?_
          refine zG_call hd0 hz (rfl : zP 107 = (zk_X8_set, 4, (0, 0))) rfl rfl (Nat.le_of_ble_eq_true rfl) ⟨Nat.le_refl _, Nat.le_refl _⟩ (qw_set (by omega) hCM13 (⟨by decide, rfl, rfl⟩ : qT n 16 40 5) x14 (by omega) 0 (by omega) a1 (by omega)) (fun vr M15 hr => ?_)
          obtain ⟨⟨hCM15, hFM15⟩, rfl⟩ := hr
          have hWM15 : qFr [16, 17] M M15 := hWM13.tr hFM15 (by decide)
          show zG n (0, 0) d 126 (76, [.inr (.inr (some 8)), .inl a1, .inl a2, .inl a3, .inl a4, .inl x14], []) M15 _
          refine zG_blk (c' := (87, [.inr (.inr (some 8)), .inl a1, .inl a2, .inl a3, .inl a4, .inl x14], [.inl a2, .inl 1, .inl x14, .inr (.inr (some 16))])) 6 hd0 hz (by rfl) ?_
          refine zG_call hd0 hz (rfl : zP 107 = (zk_X8_set, 4, (0, 0))) rfl rfl (Nat.le_of_ble_eq_true rfl) ⟨Nat.le_refl _, Nat.le_refl _⟩ (qw_set (by omega) hCM15 (⟨by decide, rfl, rfl⟩ : qT n 16 40 5) x14 (by omega) 1 (by omega) a2 (by omega)) (fun vr M17 hr => ?_)
          obtain ⟨⟨hCM17, hFM17⟩, rfl⟩ := hr
          have hWM17 : qFr [16, 17] M M17 := hWM15.tr hFM17 (by decide)
          show zG n (0, 0) d 126 (90, [.inr (.inr (some 8)), .inl a1, .inl a2, .inl a3, .inl a4, .inl x14], []) M17 _
          refine zG_blk (c' := (101, [.inr (.inr (some 8)), .inl a1, .inl a2, .inl a3, .inl a4, .inl x14], [.inl a3, .inl 2, .inl x14, .inr (.inr (some 16))])) 6 hd0 hz (by rfl) ?_
          refine zG_call hd0 hz (rfl : zP 107 = (zk_X8_set, 4, (0, 0))) rfl rfl (Nat.le_of_ble_eq_true rfl) ⟨Nat.le_refl _, Nat.le_refl _⟩ (qw_set (by omega) hCM17 (⟨by decide, rfl, rfl⟩ : qT n 16 40 5) x14 (by omega) 2 (by omega) a3 (by omega)) (fun vr M19 hr => ?_)
          obtain ⟨⟨hCM19, hFM19⟩, rfl⟩ := hr
          have hWM19 : qFr [16, 17] M M19 := hWM17.tr hFM19 (by decide)
          show zG n (0, 0) d 126 (104, [.inr (.inr (some 8)), .inl a1, .inl a2, .inl a3, .inl a4, .inl x14], []) M19 _
          refine zG_blk (c' := (116, [.inr (.inr (some 8)), .inl a1, .inl a2, .inl a3, .inl a4, .inl x14], [.inl a4, .inl 3, .inl x14, .inr (.inr (some 16))])) 6 hd0 hz (by rfl) ?_
          refine zG_call hd0 hz (rfl : zP 107 = (zk_X8_set, 4, (0, 0))) rfl rfl (Nat.le_of_ble_eq_true rfl) ⟨Nat.le_refl _, Nat.le_refl _⟩ (qw_set (by omega) hCM19 (⟨by decide, rfl, rfl⟩ : qT n 16 40 5) x14 (by omega) 3 (by omega) a4 (by omega)) (fun vr M21 hr => ?_)
          obtain ⟨⟨hCM21, hFM21⟩, rfl⟩ := hr
          have hWM21 : qFr [16, 17] M M21 := hWM19.tr hFM21 (by decide)
          show zG n (0, 0) d 126 (119, [.inr (.inr (some 8)), .inl a1, .inl a2, .inl a3, .inl a4, .inl x14], []) M21 _
          refine zG_blk (c' := (130, [.inr (.inr (some 8)), .inl a1, .inl a2, .inl a3, .inl a4, .inl x14], [.inl 0, .inl 4, .inl x14, .inr (.inr (some 16))])) 6 hd0 hz (by rfl) ?_
          refine zG_call hd0 hz (rfl : zP 107 = (zk_X8_set, 4, (0, 0))) rfl rfl (Nat.le_of_ble_eq_true rfl) ⟨Nat.le_refl _, Nat.le_refl _⟩ (qw_set (by omega) hCM21 (⟨by decide, rfl, rfl⟩ : qT n 16 40 5) x14 (by omega) 4 (by omega) 0 (by omega)) (fun vr M23 hr => ?_)
          obtain ⟨⟨hCM23, hFM23⟩, rfl⟩ := hr
          have hWM23 : qFr [16, 17] M M23 := hWM21.tr hFM23 (by decide)
          show zG n (0, 0) d 126 (133, [.inr (.inr (some 8)), .inl a1, .inl a2, .inl a3, .inl a4, .inl x14], []) M23 _
          refine zG_blk (c' := (135, [.inr (.inr (some 8)), .inl a1, .inl a2, .inl a3, .inl a4, .inl x14], [.inl x14])) 1 hd0 hz (by rfl) ?_
          exact zG_ret hd0 hz rfl rfl ⟨⟨hCM23, hWM23⟩, _, rfl, by omega⟩
        · exact j47
    · exact j21
theorem qm_127_8 {n d : Nat} {M : zM} (hd : 2 ≤ d) (hC : qCI M) (a1 : Int) (ha1 : (-2147483648) ≤ a1 ∧ a1 ≤ 2147483647) (a2 : Int) (ha2 : 0 ≤ a2 ∧ a2 ≤ 1) : qOkM n d 127 [.inr (.inr (some 8)), .inl a1, .inl a2] 4 qCI [17] M (qRi (fun x => (-3) ≤ x ∧ x ≤ 1)) := by
  have hz : zP 127 = (zk_X10_tear, 4, (0, 0)) := rfl
  have hd0 : 0 < d := by omega
  have hW : qFr [17] M M := qFr.rfl
  show zG n (0, 0) d 127 (0, [.inr (.inr (some 8)), .inl a1, .inl a2, zN], []) M _
  refine zG_blk (c' := (8, [.inr (.inr (some 8)), .inl a1, .inl a2, zN], [.inl a1, .inr (.inr (some 16))])) 4 hd0 hz (by rfl) ?_
  refine zG_call hd0 hz (rfl : zP 102 = (zk_X8_has, 2, (0, 0))) rfl rfl (Nat.le_of_ble_eq_true rfl) ⟨Nat.le_refl _, Nat.le_refl _⟩ (qw_has (by omega) hC (⟨by decide, rfl, rfl⟩ : qT n 16 40 5) a1 (by omega)) (fun vr M1 hr => ?_)
  obtain ⟨hq, x2, rfl, hx2⟩ := hr
  replace hq := hq.symm; subst hq
  show zG n (0, 0) d 127 (11, [.inr (.inr (some 8)), .inl a1, .inl a2, zN], [.inl x2]) M _
  refine zG_if_ne hd0 hz rfl (fun hb3 => ?_) (fun hb3 => ?_)
  · refine zG_blk (c' := (18, [.inr (.inr (some 8)), .inl a1, .inl a2, zN], [.inl a2])) 1 hd0 hz (by rfl) ?_
    have j26 : ∀ (v4 : Int) , 0 ≤ v4 ∧ v4 ≤ 1 → zG n (0, 0) d 127 (26, [.inr (.inr (some 8)), .inl a1, .inl a2, zN], [.inl v4]) M (fun v M' => qWf qCI [17] M M' ∧ qRi (fun x => (-3) ≤ x ∧ x ≤ 1) v) := by
      intro v4 hv4
      refine zG_blk (c' := (36, [.inr (.inr (some 8)), .inl a1, .inl a2, .inl v4], [.inl 4, .inl a1, .inr (.inr (some 16))])) 6 hd0 hz (by rfl) ?_
      refine zG_call hd0 hz (rfl : zP 106 = (zk_X8_get, 3, (0, 0))) rfl rfl (Nat.le_of_ble_eq_true rfl) ⟨Nat.le_refl _, Nat.le_refl _⟩ (qw_get (by omega) hC (⟨by decide, rfl, rfl⟩ : qT n 16 40 5) a1 (by omega) 4 (by omega)) (fun vr M5 hr => ?_)
      obtain ⟨hq, x6, rfl, hx6⟩ := hr
      replace hq := hq.symm; subst hq
      show zG n (0, 0) d 127 (39, [.inr (.inr (some 8)), .inl a1, .inl a2, .inl v4], [.inl x6]) M _
      refine zG_blk (c' := (40, [.inr (.inr (some 8)), .inl a1, .inl a2, .inl v4], [.inl v4, .inl x6])) 1 hd0 hz (by rfl) ?_
      refine zG_icmp_ne hd0 hz rfl (fun hb7 => ?_) (fun hb7 => ?_)
      · refine zG_blk (c' := (56, [.inr (.inr (some 8)), .inl a1, .inl a2, .inl v4], [.inl v4, .inl 4, .inl a1, .inr (.inr (some 16))])) 6 hd0 hz (by rfl) ?_
        refine zG_call hd0 hz (rfl : zP 107 = (zk_X8_set, 4, (0, 0))) rfl rfl (Nat.le_of_ble_eq_true rfl) ⟨Nat.le_refl _, Nat.le_refl _⟩ (qw_set (by omega) hC (⟨by decide, rfl, rfl⟩ : qT n 16 40 5) a1 (by omega) 4 (by omega) v4 (by omega)) (fun vr M8 hr => ?_)
        obtain ⟨⟨hCM8, hFM8⟩, rfl⟩ := hr
        have hWM8 : qFr [17] M M8 := hW.tr hFM8 (by decide)
        show zG n (0, 0) d 127 (59, [.inr (.inr (some 8)), .inl a1, .inl a2, .inl v4], []) M8 _
        refine zG_blk (c' := (60, [.inr (.inr (some 8)), .inl a1, .inl a2, .inl v4], [.inl 1])) 1 hd0 hz (by rfl) ?_
        exact zG_ret hd0 hz rfl rfl ⟨⟨hCM8, hWM8⟩, _, rfl, by omega⟩
      · refine zG_blk (c' := (45, [.inr (.inr (some 8)), .inl a1, .inl a2, .inl v4], [.inl (-3)])) 1 hd0 hz (by rfl) ?_
        exact zG_ret hd0 hz rfl rfl ⟨⟨hC, hW⟩, _, rfl, by omega⟩
    refine zG_if_eq hd0 hz rfl (fun hb10 => ?_) (fun hb10 => ?_)
    · refine zG_blk (c' := (26, [.inr (.inr (some 8)), .inl a1, .inl a2, zN], [.inl 0])) 1 hd0 hz (by rfl) ?_
      exact j26 0 (by omega)
    · refine zG_blk (c' := (26, [.inr (.inr (some 8)), .inl a1, .inl a2, zN], [.inl 1])) 2 hd0 hz (by rfl) ?_
      exact j26 1 (by omega)
  · refine zG_blk (c' := (16, [.inr (.inr (some 8)), .inl a1, .inl a2, zN], [.inl (-2)])) 1 hd0 hz (by rfl) ?_
    exact zG_ret hd0 hz rfl rfl ⟨⟨hC, hW⟩, _, rfl, by omega⟩
theorem qm_296 {n d : Nat} {M : zM} (hd : 1 ≤ d) (hC : qCI M) (a0 : Int) (ha0 : (-2147483648) ≤ a0 ∧ a0 ≤ 2147483647) : qOkP n d 296 [.inl a0] 1 M (qRi (fun x => 0 ≤ x ∧ x ≤ 63)) := by
  have hz : zP 296 = (zk_J6_bitCount_0f7a4, 1, (0, 0)) := rfl
  have hd0 : 0 < d := by omega
  show zG n (0, 0) d 296 (0, [.inl a0], []) M _
  obtain ⟨x1, hx1⟩ : ∃ x : Int, x = zbushr a0 1 := ⟨_, rfl⟩
  have hx1r : qin x1 := by rw [hx1]; exact qb32 _
  obtain ⟨x2, hx2⟩ : ∃ x : Int, x = zband x1 1431655765 := ⟨_, rfl⟩
  have hx2r := qband_r x1 1431655765 (by omega) (by omega); rw [← hx2] at hx2r
  obtain ⟨x3, hx3⟩ : ∃ x : Int, x = w32 (a0 - x2) := ⟨_, rfl⟩
  have hx3r : qin x3 := by rw [hx3]; exact w32_in _
  obtain ⟨x4, hx4⟩ : ∃ x : Int, x = zband x3 858993459 := ⟨_, rfl⟩
  have hx4r := qband_r x3 858993459 (by omega) (by omega); rw [← hx4] at hx4r
  obtain ⟨x5, hx5⟩ : ∃ x : Int, x = zbushr x3 2 := ⟨_, rfl⟩
  have hx5r : qin x5 := by rw [hx5]; exact qb32 _
  obtain ⟨x6, hx6⟩ : ∃ x : Int, x = zband x5 858993459 := ⟨_, rfl⟩
  have hx6r := qband_r x5 858993459 (by omega) (by omega); rw [← hx6] at hx6r
  obtain ⟨x7, hx7⟩ : ∃ x : Int, x = w32 (x4 + x6) := ⟨_, rfl⟩
  have hx7e : x7 = x4 + x6 := by rw [hx7]; exact w32_id (by omega)
  obtain ⟨x8, hx8⟩ : ∃ x : Int, x = zbushr x7 4 := ⟨_, rfl⟩
  have hx8r : qin x8 := by rw [hx8]; exact qb32 _
  obtain ⟨x9, hx9⟩ : ∃ x : Int, x = w32 (x7 + x8) := ⟨_, rfl⟩
  have hx9r : qin x9 := by rw [hx9]; exact w32_in _
  obtain ⟨x10, hx10⟩ : ∃ x : Int, x = zband x9 252645135 := ⟨_, rfl⟩
  have hx10r := qband_r x9 252645135 (by omega) (by omega); rw [← hx10] at hx10r
  obtain ⟨x11, hx11⟩ : ∃ x : Int, x = zbushr x10 8 := ⟨_, rfl⟩
  have hx11r : qin x11 := by rw [hx11]; exact qb32 _
  obtain ⟨x12, hx12⟩ : ∃ x : Int, x = w32 (x10 + x11) := ⟨_, rfl⟩
  have hx12r : qin x12 := by rw [hx12]; exact w32_in _
  obtain ⟨x13, hx13⟩ : ∃ x : Int, x = zbushr x12 16 := ⟨_, rfl⟩
  have hx13r : qin x13 := by rw [hx13]; exact qb32 _
  obtain ⟨x14, hx14⟩ : ∃ x : Int, x = w32 (x12 + x13) := ⟨_, rfl⟩
  have hx14r : qin x14 := by rw [hx14]; exact w32_in _
  obtain ⟨x15, hx15⟩ : ∃ x : Int, x = zband x14 63 := ⟨_, rfl⟩
  have hx15r := qband_r x14 63 (by omega) (by omega); rw [← hx15] at hx15r
  refine zG_blk (c' := (52, [.inl x14], [.inl x15])) 41 hd0 hz (by subst hx15; subst hx14; subst hx13; subst hx12; subst hx11; subst hx10; subst hx9; subst hx8; subst hx7; subst hx6; subst hx5; subst hx4; subst hx3; subst hx2; subst hx1; rfl) ?_
  exact zG_ret hd0 hz rfl rfl ⟨rfl, _, rfl, by omega⟩
theorem qm_20_9 {n d : Nat} {M : zM} (hd : 2 ≤ d) (hC : qCI M) (a1 : Int) (ha1 : (-2147483648) ≤ a1 ∧ a1 ≤ 2147483647) : qOkP n d 20 [.inr (.inr (some 9)), .inl a1] 5 M (qRi (fun x => 0 ≤ x ∧ x ≤ 1)) := by
  have hz : zP 20 = (zk_X2_isStanding, 5, (0, 0)) := rfl
  have hd0 : 0 < d := by omega
  show zG n (0, 0) d 20 (0, [.inr (.inr (some 9)), .inl a1, zN, zN, zN], []) M _
  refine zG_blk (c' := (5, [.inr (.inr (some 9)), .inl a1, zN, zN, zN], [.inl a1, .inr (.inr (some 16))])) 3 hd0 hz (by rfl) ?_
  refine zG_call hd0 hz (rfl : zP 102 = (zk_X8_has, 2, (0, 0))) rfl rfl (Nat.le_of_ble_eq_true rfl) ⟨Nat.le_refl _, Nat.le_refl _⟩ (qw_has (by omega) hC (⟨by decide, rfl, rfl⟩ : qT n 16 40 5) a1 (by omega)) (fun vr M1 hr => ?_)
  obtain ⟨hq, x2, rfl, hx2⟩ := hr
  replace hq := hq.symm; subst hq
  show zG n (0, 0) d 20 (8, [.inr (.inr (some 9)), .inl a1, zN, zN, zN], [.inl x2]) M _
  have j24 : zG n (0, 0) d 20 (24, [.inr (.inr (some 9)), .inl a1, zN, zN, zN], []) M (fun v M' => M' = M ∧ qRi (fun x => 0 ≤ x ∧ x ≤ 1) v) := by
    refine zG_blk (c' := (25, [.inr (.inr (some 9)), .inl a1, zN, zN, zN], [.inl 0])) 1 hd0 hz (by rfl) ?_
    exact zG_ret hd0 hz rfl rfl ⟨rfl, _, rfl, by omega⟩
  refine zG_if_eq hd0 hz rfl (fun hb3 => ?_) (fun hb3 => ?_)
  · exact j24
  · refine zG_blk (c' := (17, [.inr (.inr (some 9)), .inl a1, zN, zN, zN], [.inl 4, .inl a1, .inr (.inr (some 16))])) 4 hd0 hz (by rfl) ?_
    refine zG_call hd0 hz (rfl : zP 106 = (zk_X8_get, 3, (0, 0))) rfl rfl (Nat.le_of_ble_eq_true rfl) ⟨Nat.le_refl _, Nat.le_refl _⟩ (qw_get (by omega) hC (⟨by decide, rfl, rfl⟩ : qT n 16 40 5) a1 (by omega) 4 (by omega)) (fun vr M4 hr => ?_)
    obtain ⟨hq, x5, rfl, hx5⟩ := hr
    replace hq := hq.symm; subst hq
    show zG n (0, 0) d 20 (20, [.inr (.inr (some 9)), .inl a1, zN, zN, zN], [.inl x5]) M _
    refine zG_blk (c' := (21, [.inr (.inr (some 9)), .inl a1, zN, zN, zN], [.inl 1, .inl x5])) 1 hd0 hz (by rfl) ?_
    refine zG_icmp_ne hd0 hz rfl (fun hb6 => ?_) (fun hb6 => ?_)
    · refine zG_blk (c' := (32, [.inr (.inr (some 9)), .inl a1, zN, zN, zN], [.inl 0, .inl a1, .inr (.inr (some 16))])) 4 hd0 hz (by rfl) ?_
      refine zG_call hd0 hz (rfl : zP 106 = (zk_X8_get, 3, (0, 0))) rfl rfl (Nat.le_of_ble_eq_true rfl) ⟨Nat.le_refl _, Nat.le_refl _⟩ (qw_get (by omega) hC (⟨by decide, rfl, rfl⟩ : qT n 16 40 5) a1 (by omega) 0 (by omega)) (fun vr M7 hr => ?_)
      obtain ⟨hq, x8, rfl, hx8⟩ := hr
      replace hq := hq.symm; subst hq
      show zG n (0, 0) d 20 (35, [.inr (.inr (some 9)), .inl a1, zN, zN, zN], [.inl x8]) M _
      refine zG_blk (c' := (42, [.inr (.inr (some 9)), .inl a1, .inl x8, zN, zN], [.inl 0, .inl x8, .inr (.inr (some 14))])) 5 hd0 hz (by rfl) ?_
      refine zG_call hd0 hz (rfl : zP 106 = (zk_X8_get, 3, (0, 0))) rfl rfl (Nat.le_of_ble_eq_true rfl) ⟨Nat.le_refl _, Nat.le_refl _⟩ (qw_get (by omega) hC (⟨by decide, rfl, rfl⟩ : qT n 14 4 2) x8 (by omega) 0 (by omega)) (fun vr M9 hr => ?_)
      obtain ⟨hq, x10, rfl, hx10⟩ := hr
      replace hq := hq.symm; subst hq
      show zG n (0, 0) d 20 (45, [.inr (.inr (some 9)), .inl a1, .inl x8, zN, zN], [.inl x10]) M _
      refine zG_blk (c' := (53, [.inr (.inr (some 9)), .inl a1, .inl x8, .inl x10, zN], [.inl 2, .inl a1, .inr (.inr (some 16)), .inl x10])) 6 hd0 hz (by rfl) ?_
      refine zG_call hd0 hz (rfl : zP 106 = (zk_X8_get, 3, (0, 0))) rfl rfl (Nat.le_of_ble_eq_true rfl) ⟨Nat.le_refl _, Nat.le_refl _⟩ (qw_get (by omega) hC (⟨by decide, rfl, rfl⟩ : qT n 16 40 5) a1 (by omega) 2 (by omega)) (fun vr M11 hr => ?_)
      obtain ⟨hq, x12, rfl, hx12⟩ := hr
      replace hq := hq.symm; subst hq
      show zG n (0, 0) d 20 (56, [.inr (.inr (some 9)), .inl a1, .inl x8, .inl x10, zN], [.inl x12, .inl x10]) M _
      obtain ⟨x13, hx13⟩ : ∃ x : Int, x = zband x10 x12 := ⟨_, rfl⟩
      have hx13r : qin x13 := by rw [hx13]; exact qb32 _
      refine zG_blk (c' := (58, [.inr (.inr (some 9)), .inl a1, .inl x8, .inl x10, zN], [.inl x10, .inl x13])) 2 hd0 hz (by subst hx13; rfl) ?_
      have j66 : ∀ (v14 : Int) , 0 ≤ v14 ∧ v14 ≤ 1 → zG n (0, 0) d 20 (66, [.inr (.inr (some 9)), .inl a1, .inl x8, .inl x10, zN], [.inl v14]) M (fun v M' => M' = M ∧ qRi (fun x => 0 ≤ x ∧ x ≤ 1) v) := by
        intro v14 hv14
        refine zG_blk (c' := (70, [.inr (.inr (some 9)), .inl a1, .inl x8, .inl x10, .inl v14], [.inl v14])) 2 hd0 hz (by rfl) ?_
        have j104 : ∀ (v15 : Int) , 0 ≤ v15 ∧ v15 ≤ 1 → zG n (0, 0) d 20 (104, [.inr (.inr (some 9)), .inl a1, .inl x8, .inl x10, .inl v14], [.inl v15]) M (fun v M' => M' = M ∧ qRi (fun x => 0 ≤ x ∧ x ≤ 1) v) := by
          intro v15 hv15
          exact zG_zret hd0 hz rfl (by omega) ⟨rfl, _, rfl, by omega⟩
        have j103 : zG n (0, 0) d 20 (103, [.inr (.inr (some 9)), .inl a1, .inl x8, .inl x10, .inl v14], []) M (fun v M' => M' = M ∧ qRi (fun x => 0 ≤ x ∧ x ≤ 1) v) := by
          refine zG_blk (c' := (104, [.inr (.inr (some 9)), .inl a1, .inl x8, .inl x10, .inl v14], [.inl 0])) 1 hd0 hz (by rfl) ?_
          exact j104 0 (by omega)
        refine zG_if_eq hd0 hz rfl (fun hb16 => ?_) (fun hb16 => ?_)
        · exact j103
        · refine zG_blk (c' := (80, [.inr (.inr (some 9)), .inl a1, .inl x8, .inl x10, .inl v14], [.inl 3, .inl a1, .inr (.inr (some 16)), .inl x10])) 5 hd0 hz (by rfl) ?_
          refine zG_call hd0 hz (rfl : zP 106 = (zk_X8_get, 3, (0, 0))) rfl rfl (Nat.le_of_ble_eq_true rfl) ⟨Nat.le_refl _, Nat.le_refl _⟩ (qw_get (by omega) hC (⟨by decide, rfl, rfl⟩ : qT n 16 40 5) a1 (by omega) 3 (by omega)) (fun vr M17 hr => ?_)
          obtain ⟨hq, x18, rfl, hx18⟩ := hr
          replace hq := hq.symm; subst hq
          show zG n (0, 0) d 20 (83, [.inr (.inr (some 9)), .inl a1, .inl x8, .inl x10, .inl v14], [.inl x18, .inl x10]) M _
          obtain ⟨x19, hx19⟩ : ∃ x : Int, x = zband x10 x18 := ⟨_, rfl⟩
          have hx19r : qin x19 := by rw [hx19]; exact qb32 _
          refine zG_blk (c' := (84, [.inr (.inr (some 9)), .inl a1, .inl x8, .inl x10, .inl v14], [.inl x19])) 1 hd0 hz (by subst hx19; rfl) ?_
          refine zG_call hd0 hz (rfl : zP 296 = (zk_J6_bitCount_0f7a4, 1, (0, 0))) rfl rfl (Nat.le_of_ble_eq_true rfl) ⟨Nat.le_refl _, Nat.le_refl _⟩ (qm_296 (by omega) hC  x19 (by omega)) (fun vr M20 hr => ?_)
          obtain ⟨hq, x21, rfl, hx21⟩ := hr
          replace hq := hq.symm; subst hq
          show zG n (0, 0) d 20 (87, [.inr (.inr (some 9)), .inl a1, .inl x8, .inl x10, .inl v14], [.inl x21]) M _
          refine zG_blk (c' := (93, [.inr (.inr (some 9)), .inl a1, .inl x8, .inl x10, .inl v14], [.inl 1, .inl x8, .inr (.inr (some 14)), .inl x21])) 4 hd0 hz (by rfl) ?_
          refine zG_call hd0 hz (rfl : zP 106 = (zk_X8_get, 3, (0, 0))) rfl rfl (Nat.le_of_ble_eq_true rfl) ⟨Nat.le_refl _, Nat.le_refl _⟩ (qw_get (by omega) hC (⟨by decide, rfl, rfl⟩ : qT n 14 4 2) x8 (by omega) 1 (by omega)) (fun vr M22 hr => ?_)
          obtain ⟨hq, x23, rfl, hx23⟩ := hr
          replace hq := hq.symm; subst hq
          show zG n (0, 0) d 20 (96, [.inr (.inr (some 9)), .inl a1, .inl x8, .inl x10, .inl v14], [.inl x23, .inl x21]) M _
          refine zG_icmp_lt hd0 hz rfl (fun hb24 => ?_) (fun hb24 => ?_)
          · exact j103
          · refine zG_blk (c' := (104, [.inr (.inr (some 9)), .inl a1, .inl x8, .inl x10, .inl v14], [.inl 1])) 2 hd0 hz (by rfl) ?_
            exact j104 1 (by omega)
      refine zG_icmp_ne hd0 hz rfl (fun hb25 => ?_) (fun hb25 => ?_)
      · refine zG_blk (c' := (66, [.inr (.inr (some 9)), .inl a1, .inl x8, .inl x10, zN], [.inl 0])) 1 hd0 hz (by rfl) ?_
        exact j66 0 (by omega)
      · refine zG_blk (c' := (66, [.inr (.inr (some 9)), .inl a1, .inl x8, .inl x10, zN], [.inl 1])) 2 hd0 hz (by rfl) ?_
        exact j66 1 (by omega)
    · exact j24
theorem qm_128_8 {n d : Nat} {M : zM} (hd : 3 ≤ d) (hC : qCI M) (a1 : Int) (ha1 : (-2147483648) ≤ a1 ∧ a1 ≤ 2147483647) : qOkP n d 128 [.inr (.inr (some 8)), .inl a1] 2 M (qRi (fun x => (-2) ≤ x ∧ x ≤ 1)) := by
  have hz : zP 128 = (zk_X10_stands, 2, (0, 0)) := rfl
  have hd0 : 0 < d := by omega
  show zG n (0, 0) d 128 (0, [.inr (.inr (some 8)), .inl a1], []) M _
  refine zG_blk (c' := (8, [.inr (.inr (some 8)), .inl a1], [.inl a1, .inr (.inr (some 16))])) 4 hd0 hz (by rfl) ?_
  refine zG_call hd0 hz (rfl : zP 102 = (zk_X8_has, 2, (0, 0))) rfl rfl (Nat.le_of_ble_eq_true rfl) ⟨Nat.le_refl _, Nat.le_refl _⟩ (qw_has (by omega) hC (⟨by decide, rfl, rfl⟩ : qT n 16 40 5) a1 (by omega)) (fun vr M1 hr => ?_)
  obtain ⟨hq, x2, rfl, hx2⟩ := hr
  replace hq := hq.symm; subst hq
  show zG n (0, 0) d 128 (11, [.inr (.inr (some 8)), .inl a1], [.inl x2]) M _
  refine zG_if_ne hd0 hz rfl (fun hb3 => ?_) (fun hb3 => ?_)
  · refine zG_blk (c' := (22, [.inr (.inr (some 8)), .inl a1], [.inl a1, .inr (.inr (some 9))])) 3 hd0 hz (by rfl) ?_
    refine zG_call hd0 hz (rfl : zP 20 = (zk_X2_isStanding, 5, (0, 0))) rfl rfl (Nat.le_of_ble_eq_true rfl) ⟨Nat.le_refl _, Nat.le_refl _⟩ (qm_20_9 (by omega) hC  a1 (by omega)) (fun vr M4 hr => ?_)
    obtain ⟨hq, x5, rfl, hx5⟩ := hr
    replace hq := hq.symm; subst hq
    show zG n (0, 0) d 128 (25, [.inr (.inr (some 8)), .inl a1], [.inl x5]) M _
    have j33 : ∀ (v6 : Int) , 0 ≤ v6 ∧ v6 ≤ 1 → zG n (0, 0) d 128 (33, [.inr (.inr (some 8)), .inl a1], [.inl v6]) M (fun v M' => M' = M ∧ qRi (fun x => (-2) ≤ x ∧ x ≤ 1) v) := by
      intro v6 hv6
      exact zG_ret hd0 hz rfl rfl ⟨rfl, _, rfl, by omega⟩
    refine zG_if_eq hd0 hz rfl (fun hb7 => ?_) (fun hb7 => ?_)
    · refine zG_blk (c' := (33, [.inr (.inr (some 8)), .inl a1], [.inl 0])) 1 hd0 hz (by rfl) ?_
      exact j33 0 (by omega)
    · refine zG_blk (c' := (33, [.inr (.inr (some 8)), .inl a1], [.inl 1])) 2 hd0 hz (by rfl) ?_
      exact j33 1 (by omega)
  · refine zG_blk (c' := (16, [.inr (.inr (some 8)), .inl a1], [.inl (-2)])) 1 hd0 hz (by rfl) ?_
    exact zG_ret hd0 hz rfl rfl ⟨rfl, _, rfl, by omega⟩
theorem qm_174_8 {n d : Nat} {M : zM} (hd : 2 ≤ d) (hC : qCI M) (a1 : Int) (ha1 : (-2147483648) ≤ a1 ∧ a1 ≤ 2147483647) : qOkP n d 174 [.inr (.inr (some 8)), .inl a1] 2 M (qRi (fun x => 0 ≤ x ∧ x ≤ 1)) := by
  have hz : zP 174 = (zk_X10_isStudent, 2, (0, 0)) := rfl
  have hd0 : 0 < d := by omega
  show zG n (0, 0) d 174 (0, [.inr (.inr (some 8)), .inl a1], []) M _
  refine zG_blk (c' := (8, [.inr (.inr (some 8)), .inl a1], [.inl a1, .inr (.inr (some 12))])) 4 hd0 hz (by rfl) ?_
  refine zG_call hd0 hz (rfl : zP 102 = (zk_X8_has, 2, (0, 0))) rfl rfl (Nat.le_of_ble_eq_true rfl) ⟨Nat.le_refl _, Nat.le_refl _⟩ (qw_has (by omega) hC (⟨by decide, rfl, rfl⟩ : qT n 12 20 3) a1 (by omega)) (fun vr M1 hr => ?_)
  obtain ⟨hq, x2, rfl, hx2⟩ := hr
  replace hq := hq.symm; subst hq
  show zG n (0, 0) d 174 (11, [.inr (.inr (some 8)), .inl a1], [.inl x2]) M _
  exact zG_zret hd0 hz rfl (by omega) ⟨rfl, _, rfl, by omega⟩
theorem qm_175_8 {n d : Nat} {M : zM} (hd : 2 ≤ d) (hC : qCI M) (a1 : Int) (ha1 : (-2147483648) ≤ a1 ∧ a1 ≤ 2147483647) : qOkP n d 175 [.inr (.inr (some 8)), .inl a1] 2 M (qRi (fun x => 0 ≤ x ∧ x ≤ 1)) := by
  have hz : zP 175 = (zk_X10_isCourse, 2, (0, 0)) := rfl
  have hd0 : 0 < d := by omega
  show zG n (0, 0) d 175 (0, [.inr (.inr (some 8)), .inl a1], []) M _
  refine zG_blk (c' := (8, [.inr (.inr (some 8)), .inl a1], [.inl a1, .inr (.inr (some 10))])) 4 hd0 hz (by rfl) ?_
  refine zG_call hd0 hz (rfl : zP 102 = (zk_X8_has, 2, (0, 0))) rfl rfl (Nat.le_of_ble_eq_true rfl) ⟨Nat.le_refl _, Nat.le_refl _⟩ (qw_has (by omega) hC (⟨by decide, rfl, rfl⟩ : qT n 10 14 4) a1 (by omega)) (fun vr M1 hr => ?_)
  obtain ⟨hq, x2, rfl, hx2⟩ := hr
  replace hq := hq.symm; subst hq
  show zG n (0, 0) d 175 (11, [.inr (.inr (some 8)), .inl a1], [.inl x2]) M _
  exact zG_zret hd0 hz rfl (by omega) ⟨rfl, _, rfl, by omega⟩
theorem qm_171 {n d : Nat} {M : zM} (hd : 2 ≤ d) (hC : qCI M) (a0 : Int) (ha0 : (-2147483648) ≤ a0 ∧ a0 ≤ 2147483647) : qOkP n d 171 [.inl a0] 1 M (qRi (fun x => 0 ≤ x ∧ x ≤ 1)) := by
  have hz : zP 171 = (zk_X10_isMark, 1, (0, 0)) := rfl
  have hd0 : 0 < d := by omega
  show zG n (0, 0) d 171 (0, [.inl a0], []) M _
  refine zG_blk (c' := (4, [.inl a0], [.inl 100, .inl 0, .inl a0])) 3 hd0 hz (by rfl) ?_
  refine zG_call hd0 hz (rfl : zP 169 = (zk_X10_within, 3, (0, 0))) rfl rfl (Nat.le_of_ble_eq_true rfl) ⟨Nat.le_refl _, Nat.le_refl _⟩ (qm_169 (by omega) hC  a0 (by omega) 0 (by omega) 100 (by omega)) (fun vr M1 hr => ?_)
  obtain ⟨hq, x2, rfl, hx2⟩ := hr
  replace hq := hq.symm; subst hq
  show zG n (0, 0) d 171 (7, [.inl a0], [.inl x2]) M _
  exact zG_zret hd0 hz rfl (by omega) ⟨rfl, _, rfl, by omega⟩
theorem qm_172 {n d : Nat} {M : zM} (hd : 2 ≤ d) (hC : qCI M) (a0 : Int) (ha0 : (-2147483648) ≤ a0 ∧ a0 ≤ 2147483647) : qOkP n d 172 [.inl a0] 1 M (qRi (fun x => 0 ≤ x ∧ x ≤ 1)) := by
  have hz : zP 172 = (zk_X10_isExaminer, 1, (0, 0)) := rfl
  have hd0 : 0 < d := by omega
  show zG n (0, 0) d 172 (0, [.inl a0], []) M _
  refine zG_blk (c' := (3, [.inl a0], [.inl 4, .inl 0, .inl a0])) 3 hd0 hz (by rfl) ?_
  refine zG_call hd0 hz (rfl : zP 169 = (zk_X10_within, 3, (0, 0))) rfl rfl (Nat.le_of_ble_eq_true rfl) ⟨Nat.le_refl _, Nat.le_refl _⟩ (qm_169 (by omega) hC  a0 (by omega) 0 (by omega) 4 (by omega)) (fun vr M1 hr => ?_)
  obtain ⟨hq, x2, rfl, hx2⟩ := hr
  replace hq := hq.symm; subst hq
  show zG n (0, 0) d 172 (6, [.inl a0], [.inl x2]) M _
  exact zG_zret hd0 hz rfl (by omega) ⟨rfl, _, rfl, by omega⟩
theorem qm_19_9 {n d : Nat} {M : zM} (hd : 2 ≤ d) (hC : qCI M) (a1 : Int) (ha1 : (-2147483648) ≤ a1 ∧ a1 ≤ 2147483647) (a2 : Int) (ha2 : (-2147483648) ≤ a2 ∧ a2 ≤ 2147483647) : qOkP n d 19 [.inr (.inr (some 9)), .inl a1, .inl a2] 3 M (qRi (fun x => 0 ≤ x ∧ x ≤ 1)) := by
  have hz : zP 19 = (zk_X2_isA, 3, (0, 0)) := rfl
  have hd0 : 0 < d := by omega
  show zG n (0, 0) d 19 (0, [.inr (.inr (some 9)), .inl a1, .inl a2], []) M _
  refine zG_blk (c' := (5, [.inr (.inr (some 9)), .inl a1, .inl a2], [.inl a2, .inr (.inr (some 18))])) 3 hd0 hz (by rfl) ?_
  refine zG_call hd0 hz (rfl : zP 102 = (zk_X8_has, 2, (0, 0))) rfl rfl (Nat.le_of_ble_eq_true rfl) ⟨Nat.le_refl _, Nat.le_refl _⟩ (qw_has (by omega) hC (⟨by decide, rfl, rfl⟩ : qT n 18 250 11) a2 (by omega)) (fun vr M1 hr => ?_)
  obtain ⟨hq, x2, rfl, hx2⟩ := hr
  replace hq := hq.symm; subst hq
  show zG n (0, 0) d 19 (8, [.inr (.inr (some 9)), .inl a1, .inl a2], [.inl x2]) M _
  have j29 : ∀ (v3 : Int) , 0 ≤ v3 ∧ v3 ≤ 1 → zG n (0, 0) d 19 (29, [.inr (.inr (some 9)), .inl a1, .inl a2], [.inl v3]) M (fun v M' => M' = M ∧ qRi (fun x => 0 ≤ x ∧ x ≤ 1) v) := by
    intro v3 hv3
    exact zG_zret hd0 hz rfl (by omega) ⟨rfl, _, rfl, by omega⟩
  have j28 : zG n (0, 0) d 19 (28, [.inr (.inr (some 9)), .inl a1, .inl a2], []) M (fun v M' => M' = M ∧ qRi (fun x => 0 ≤ x ∧ x ≤ 1) v) := by
    refine zG_blk (c' := (29, [.inr (.inr (some 9)), .inl a1, .inl a2], [.inl 0])) 1 hd0 hz (by rfl) ?_
    exact j29 0 (by omega)
  refine zG_if_eq hd0 hz rfl (fun hb4 => ?_) (fun hb4 => ?_)
  · exact j28
  · refine zG_blk (c' := (17, [.inr (.inr (some 9)), .inl a1, .inl a2], [.inl 0, .inl a2, .inr (.inr (some 18))])) 4 hd0 hz (by rfl) ?_
    refine zG_call hd0 hz (rfl : zP 106 = (zk_X8_get, 3, (0, 0))) rfl rfl (Nat.le_of_ble_eq_true rfl) ⟨Nat.le_refl _, Nat.le_refl _⟩ (qw_get (by omega) hC (⟨by decide, rfl, rfl⟩ : qT n 18 250 11) a2 (by omega) 0 (by omega)) (fun vr M5 hr => ?_)
    obtain ⟨hq, x6, rfl, hx6⟩ := hr
    replace hq := hq.symm; subst hq
    show zG n (0, 0) d 19 (20, [.inr (.inr (some 9)), .inl a1, .inl a2], [.inl x6]) M _
    refine zG_blk (c' := (21, [.inr (.inr (some 9)), .inl a1, .inl a2], [.inl a1, .inl x6])) 1 hd0 hz (by rfl) ?_
    refine zG_icmp_ne hd0 hz rfl (fun hb7 => ?_) (fun hb7 => ?_)
    · exact j28
    · refine zG_blk (c' := (29, [.inr (.inr (some 9)), .inl a1, .inl a2], [.inl 1])) 2 hd0 hz (by rfl) ?_
      exact j29 1 (by omega)
theorem qm_178_8 {n d : Nat} {M : zM} (hd : 2 ≤ d) (hC : qCI M) (a1 : Int) (ha1 : (-2147483648) ≤ a1 ∧ a1 ≤ 2147483647) (a2 : Int) (ha2 : (-2147483648) ≤ a2 ∧ a2 ≤ 2147483647) : qOkP n d 178 [.inr (.inr (some 8)), .inl a1, .inl a2] 3 M (qRi (fun x => 0 ≤ x ∧ x ≤ 1)) := by
  have hz : zP 178 = (zk_X10_isKnownAfter, 3, (0, 0)) := rfl
  have hd0 : 0 < d := by omega
  show zG n (0, 0) d 178 (0, [.inr (.inr (some 8)), .inl a1, .inl a2], []) M _
  refine zG_blk (c' := (8, [.inr (.inr (some 8)), .inl a1, .inl a2], [.inl a1, .inr (.inr (some 16))])) 4 hd0 hz (by rfl) ?_
  refine zG_call hd0 hz (rfl : zP 102 = (zk_X8_has, 2, (0, 0))) rfl rfl (Nat.le_of_ble_eq_true rfl) ⟨Nat.le_refl _, Nat.le_refl _⟩ (qw_has (by omega) hC (⟨by decide, rfl, rfl⟩ : qT n 16 40 5) a1 (by omega)) (fun vr M1 hr => ?_)
  obtain ⟨hq, x2, rfl, hx2⟩ := hr
  replace hq := hq.symm; subst hq
  show zG n (0, 0) d 178 (11, [.inr (.inr (some 8)), .inl a1, .inl a2], [.inl x2]) M _
  have j41 : ∀ (v3 : Int) , 0 ≤ v3 ∧ v3 ≤ 1 → zG n (0, 0) d 178 (41, [.inr (.inr (some 8)), .inl a1, .inl a2], [.inl v3]) M (fun v M' => M' = M ∧ qRi (fun x => 0 ≤ x ∧ x ≤ 1) v) := by
    intro v3 hv3
    exact zG_zret hd0 hz rfl (by omega) ⟨rfl, _, rfl, by omega⟩
  have j40 : zG n (0, 0) d 178 (40, [.inr (.inr (some 8)), .inl a1, .inl a2], []) M (fun v M' => M' = M ∧ qRi (fun x => 0 ≤ x ∧ x ≤ 1) v) := by
    refine zG_blk (c' := (41, [.inr (.inr (some 8)), .inl a1, .inl a2], [.inl 0])) 1 hd0 hz (by rfl) ?_
    exact j41 0 (by omega)
  refine zG_if_eq hd0 hz rfl (fun hb4 => ?_) (fun hb4 => ?_)
  · exact j40
  · refine zG_blk (c' := (24, [.inr (.inr (some 8)), .inl a1, .inl a2], [.inl 1, .inl a1, .inr (.inr (some 16)), .inl a2])) 6 hd0 hz (by rfl) ?_
    refine zG_call hd0 hz (rfl : zP 106 = (zk_X8_get, 3, (0, 0))) rfl rfl (Nat.le_of_ble_eq_true rfl) ⟨Nat.le_refl _, Nat.le_refl _⟩ (qw_get (by omega) hC (⟨by decide, rfl, rfl⟩ : qT n 16 40 5) a1 (by omega) 1 (by omega)) (fun vr M5 hr => ?_)
    obtain ⟨hq, x6, rfl, hx6⟩ := hr
    replace hq := hq.symm; subst hq
    show zG n (0, 0) d 178 (27, [.inr (.inr (some 8)), .inl a1, .inl a2], [.inl x6, .inl a2]) M _
    refine zG_blk (c' := (30, [.inr (.inr (some 8)), .inl a1, .inl a2], [.inl 9999, .inl x6, .inl a2])) 1 hd0 hz (by rfl) ?_
    refine zG_call hd0 hz (rfl : zP 169 = (zk_X10_within, 3, (0, 0))) rfl rfl (Nat.le_of_ble_eq_true rfl) ⟨Nat.le_refl _, Nat.le_refl _⟩ (qm_169 (by omega) hC  a2 (by omega) x6 (by omega) 9999 (by omega)) (fun vr M7 hr => ?_)
    obtain ⟨hq, x8, rfl, hx8⟩ := hr
    replace hq := hq.symm; subst hq
    show zG n (0, 0) d 178 (33, [.inr (.inr (some 8)), .inl a1, .inl a2], [.inl x8]) M _
    refine zG_if_eq hd0 hz rfl (fun hb9 => ?_) (fun hb9 => ?_)
    · exact j40
    · refine zG_blk (c' := (41, [.inr (.inr (some 8)), .inl a1, .inl a2], [.inl 1])) 2 hd0 hz (by rfl) ?_
      exact j41 1 (by omega)
theorem qm_137_8 {n d : Nat} {M : zM} (hd : 2 ≤ d) (hC : qCI M) (a1 : Int) (ha1 : (-2147483648) ≤ a1 ∧ a1 ≤ 2147483647) : qOkM n d 137 [.inr (.inr (some 8)), .inl a1] 3 qCI [9] M (qRi (fun x => (-2147483648) ≤ x ∧ x ≤ 2147483647)) := by
  have hz : zP 137 = (zk_X10_days, 3, (0, 0)) := rfl
  have hd0 : 0 < d := by omega
  have hW : qFr [9] M M := qFr.rfl
  show zG n (0, 0) d 137 (0, [.inr (.inr (some 8)), .inl a1, zN], []) M _
  refine zG_blk (c' := (5, [.inr (.inr (some 8)), .inl a1, zN], [.inl 1000, .inl 0, .inl a1])) 3 hd0 hz (by rfl) ?_
  refine zG_call hd0 hz (rfl : zP 169 = (zk_X10_within, 3, (0, 0))) rfl rfl (Nat.le_of_ble_eq_true rfl) ⟨Nat.le_refl _, Nat.le_refl _⟩ (qm_169 (by omega) hC  a1 (by omega) 0 (by omega) 1000 (by omega)) (fun vr M1 hr => ?_)
  obtain ⟨hq, x2, rfl, hx2⟩ := hr
  replace hq := hq.symm; subst hq
  show zG n (0, 0) d 137 (8, [.inr (.inr (some 8)), .inl a1, zN], [.inl x2]) M _
  refine zG_if_ne hd0 hz rfl (fun hb3 => ?_) (fun hb3 => ?_)
  · have r4 := hC.rng 9 8 (by decide) (by decide)
    refine zG_blk (c' := (27, [.inr (.inr (some 8)), .inl a1, .inl (M 9 8)], [.inl a1, .inr (.inr (some 9))])) 7 hd0 hz (by rfl) ?_
    refine zG_putf (.inl rfl) hd0 hz rfl (by decide) rfl rfl ?_
    obtain ⟨M5, hM5⟩ : ∃ X : zM, X = zput M 9 8 a1 := ⟨_, rfl⟩
    rw [← hM5]
    have hCM5 : qCI M5 := by rw [hM5]; exact hC.put (r := 9) (k := 8) rfl (.inl (by omega))
    have hWM5 : qFr [9] M M5 := by rw [hM5]; exact hW.put (by decide)
    have e6 : M5 9 8 = a1 := by rw [hM5]; exact qput_eq
    show zG n (0, 0) d 137 (30, [.inr (.inr (some 8)), .inl a1, .inl (M 9 8)], []) M5 _
    refine zG_blk (c' := (31, [.inr (.inr (some 8)), .inl a1, .inl (M 9 8)], [.inl (M 9 8)])) 1 hd0 hz (by rfl) ?_
    exact zG_ret hd0 hz rfl rfl ⟨⟨hCM5, hWM5⟩, _, rfl, by omega⟩
  · refine zG_blk (c' := (13, [.inr (.inr (some 8)), .inl a1, zN], [.inl (-2)])) 1 hd0 hz (by rfl) ?_
    exact zG_ret hd0 hz rfl rfl ⟨⟨hC, hW⟩, _, rfl, by omega⟩
theorem qm_138_8 {n d : Nat} {M : zM} (hd : 2 ≤ d) (hC : qCI M) (a1 : Int) (ha1 : (-2147483648) ≤ a1 ∧ a1 ≤ 2147483647) (a2 : Int) (ha2 : (-2147483648) ≤ a2 ∧ a2 ≤ 2147483647) : qOkP n d 138 [.inr (.inr (some 8)), .inl a1, .inl a2] 3 M (qRi (fun x => (-2147483648) ≤ x ∧ x ≤ 2147483647)) := by
  have hz : zP 138 = (zk_X10_about, 3, (0, 0)) := rfl
  have hd0 : 0 < d := by omega
  show zG n (0, 0) d 138 (0, [.inr (.inr (some 8)), .inl a1, .inl a2], []) M _
  refine zG_blk (c' := (8, [.inr (.inr (some 8)), .inl a1, .inl a2], [.inl a1, .inr (.inr (some 18))])) 4 hd0 hz (by rfl) ?_
  refine zG_call hd0 hz (rfl : zP 102 = (zk_X8_has, 2, (0, 0))) rfl rfl (Nat.le_of_ble_eq_true rfl) ⟨Nat.le_refl _, Nat.le_refl _⟩ (qw_has (by omega) hC (⟨by decide, rfl, rfl⟩ : qT n 18 250 11) a1 (by omega)) (fun vr M1 hr => ?_)
  obtain ⟨hq, x2, rfl, hx2⟩ := hr
  replace hq := hq.symm; subst hq
  show zG n (0, 0) d 138 (11, [.inr (.inr (some 8)), .inl a1, .inl a2], [.inl x2]) M _
  have j41 : ∀ (v3 : Int) , (-2147483648) ≤ v3 ∧ v3 ≤ 2147483647 → zG n (0, 0) d 138 (41, [.inr (.inr (some 8)), .inl a1, .inl a2], [.inl v3]) M (fun v M' => M' = M ∧ qRi (fun x => (-2147483648) ≤ x ∧ x ≤ 2147483647) v) := by
    intro v3 hv3
    exact zG_ret hd0 hz rfl rfl ⟨rfl, _, rfl, by omega⟩
  have j39 : zG n (0, 0) d 138 (39, [.inr (.inr (some 8)), .inl a1, .inl a2], []) M (fun v M' => M' = M ∧ qRi (fun x => (-2147483648) ≤ x ∧ x ≤ 2147483647) v) := by
    refine zG_blk (c' := (41, [.inr (.inr (some 8)), .inl a1, .inl a2], [.inl (-2)])) 1 hd0 hz (by rfl) ?_
    exact j41 (-2) (by omega)
  refine zG_if_eq hd0 hz rfl (fun hb4 => ?_) (fun hb4 => ?_)
  · exact j39
  · refine zG_blk (c' := (18, [.inr (.inr (some 8)), .inl a1, .inl a2], [.inl 7, .inl 0, .inl a2])) 3 hd0 hz (by rfl) ?_
    refine zG_call hd0 hz (rfl : zP 169 = (zk_X10_within, 3, (0, 0))) rfl rfl (Nat.le_of_ble_eq_true rfl) ⟨Nat.le_refl _, Nat.le_refl _⟩ (qm_169 (by omega) hC  a2 (by omega) 0 (by omega) 7 (by omega)) (fun vr M5 hr => ?_)
    obtain ⟨hq, x6, rfl, hx6⟩ := hr
    replace hq := hq.symm; subst hq
    show zG n (0, 0) d 138 (21, [.inr (.inr (some 8)), .inl a1, .inl a2], [.inl x6]) M _
    refine zG_if_eq hd0 hz rfl (fun hb7 => ?_) (fun hb7 => ?_)
    · exact j39
    · refine zG_blk (c' := (33, [.inr (.inr (some 8)), .inl a1, .inl a2], [.inl a2, .inl a1, .inr (.inr (some 18))])) 5 hd0 hz (by rfl) ?_
      refine zG_call hd0 hz (rfl : zP 106 = (zk_X8_get, 3, (0, 0))) rfl rfl (Nat.le_of_ble_eq_true rfl) ⟨Nat.le_refl _, Nat.le_refl _⟩ (qw_get (by omega) hC (⟨by decide, rfl, rfl⟩ : qT n 18 250 11) a1 (by omega) a2 (by omega)) (fun vr M8 hr => ?_)
      obtain ⟨hq, x9, rfl, hx9⟩ := hr
      replace hq := hq.symm; subst hq
      show zG n (0, 0) d 138 (36, [.inr (.inr (some 8)), .inl a1, .inl a2], [.inl x9]) M _
      refine zG_blk (c' := (41, [.inr (.inr (some 8)), .inl a1, .inl a2], [.inl x9])) 1 hd0 hz (by rfl) ?_
      exact j41 x9 (by omega)
theorem qm_173 {n d : Nat} {M : zM} (hd : 2 ≤ d) (hC : qCI M) (a0 : Int) (ha0 : (-2147483648) ≤ a0 ∧ a0 ≤ 2147483647) : qOkP n d 173 [.inl a0] 1 M (qRi (fun x => 0 ≤ x ∧ x ≤ 1)) := by
  have hz : zP 173 = (zk_X10_isText, 1, (0, 0)) := rfl
  have hd0 : 0 < d := by omega
  show zG n (0, 0) d 173 (0, [.inl a0], []) M _
  refine zG_blk (c' := (4, [.inl a0], [.inl 7, .inl 0, .inl a0])) 3 hd0 hz (by rfl) ?_
  refine zG_call hd0 hz (rfl : zP 169 = (zk_X10_within, 3, (0, 0))) rfl rfl (Nat.le_of_ble_eq_true rfl) ⟨Nat.le_refl _, Nat.le_refl _⟩ (qm_169 (by omega) hC  a0 (by omega) 0 (by omega) 7 (by omega)) (fun vr M1 hr => ?_)
  obtain ⟨hq, x2, rfl, hx2⟩ := hr
  replace hq := hq.symm; subst hq
  show zG n (0, 0) d 173 (7, [.inl a0], [.inl x2]) M _
  exact zG_zret hd0 hz rfl (by omega) ⟨rfl, _, rfl, by omega⟩
theorem qm_148_8 {n d : Nat} {M : zM} (hd : 3 ≤ d) (hC : qCI M) (a1 : Int) (ha1 : (-2147483648) ≤ a1 ∧ a1 ≤ 2147483647) (a2 : Int) (ha2 : (-2147483648) ≤ a2 ∧ a2 ≤ 2147483647) : qOkM n d 148 [.inr (.inr (some 8)), .inl a1, .inl a2] 4 qCI [21] M (qRi (fun x => (-2147483647) ≤ x ∧ x ≤ 80)) := by
  have hz : zP 148 = (zk_X10_write, 4, (0, 0)) := rfl
  have hd0 : 0 < d := by omega
  have hW : qFr [21] M M := qFr.rfl
  show zG n (0, 0) d 148 (0, [.inr (.inr (some 8)), .inl a1, .inl a2, zN], []) M _
  refine zG_blk (c' := (1, [.inr (.inr (some 8)), .inl a1, .inl a2, zN], [.inl a1])) 1 hd0 hz (by rfl) ?_
  refine zG_call hd0 hz (rfl : zP 173 = (zk_X10_isText, 1, (0, 0))) rfl rfl (Nat.le_of_ble_eq_true rfl) ⟨Nat.le_refl _, Nat.le_refl _⟩ (qm_173 (by omega) hC  a1 (by omega)) (fun vr M1 hr => ?_)
  obtain ⟨hq, x2, rfl, hx2⟩ := hr
  replace hq := hq.symm; subst hq
  show zG n (0, 0) d 148 (4, [.inr (.inr (some 8)), .inl a1, .inl a2, zN], [.inl x2]) M _
  have j17 : zG n (0, 0) d 148 (17, [.inr (.inr (some 8)), .inl a1, .inl a2, zN], []) M (fun v M' => qWf qCI [21] M M' ∧ qRi (fun x => (-2147483647) ≤ x ∧ x ≤ 80) v) := by
    refine zG_blk (c' := (19, [.inr (.inr (some 8)), .inl a1, .inl a2, zN], [.inl (-2)])) 1 hd0 hz (by rfl) ?_
    exact zG_ret hd0 hz rfl rfl ⟨⟨hC, hW⟩, _, rfl, by omega⟩
  refine zG_if_eq hd0 hz rfl (fun hb3 => ?_) (fun hb3 => ?_)
  · exact j17
  · refine zG_blk (c' := (11, [.inr (.inr (some 8)), .inl a1, .inl a2, zN], [.inl 127, .inl 0, .inl a2])) 3 hd0 hz (by rfl) ?_
    refine zG_call hd0 hz (rfl : zP 169 = (zk_X10_within, 3, (0, 0))) rfl rfl (Nat.le_of_ble_eq_true rfl) ⟨Nat.le_refl _, Nat.le_refl _⟩ (qm_169 (by omega) hC  a2 (by omega) 0 (by omega) 127 (by omega)) (fun vr M4 hr => ?_)
    obtain ⟨hq, x5, rfl, hx5⟩ := hr
    replace hq := hq.symm; subst hq
    show zG n (0, 0) d 148 (14, [.inr (.inr (some 8)), .inl a1, .inl a2, zN], [.inl x5]) M _
    refine zG_if_ne hd0 hz rfl (fun hb6 => ?_) (fun hb6 => ?_)
    · refine zG_blk (c' := (29, [.inr (.inr (some 8)), .inl a1, .inl a2, zN], [.inl 0, .inl a1, .inr (.inr (some 20))])) 5 hd0 hz (by rfl) ?_
      refine zG_call hd0 hz (rfl : zP 106 = (zk_X8_get, 3, (0, 0))) rfl rfl (Nat.le_of_ble_eq_true rfl) ⟨Nat.le_refl _, Nat.le_refl _⟩ (qw_get (by omega) hC (⟨by decide, rfl, rfl⟩ : qT n 20 8 81) a1 (by omega) 0 (by omega)) (fun vr M7 hr => ?_)
      obtain ⟨hq, x8, rfl, hx8⟩ := hr
      replace hq := hq.symm; subst hq
      show zG n (0, 0) d 148 (32, [.inr (.inr (some 8)), .inl a1, .inl a2, zN], [.inl x8]) M _
      refine zG_blk (c' := (36, [.inr (.inr (some 8)), .inl a1, .inl a2, .inl x8], [.inl 80, .inl x8])) 3 hd0 hz (by rfl) ?_
      refine zG_icmp_lt hd0 hz rfl (fun hb9 => ?_) (fun hb9 => ?_)
      · obtain ⟨x10, hx10⟩ : ∃ x : Int, x = w32 (1 + x8) := ⟨_, rfl⟩
        have hx10e : x10 = 1 + x8 := by rw [hx10]; exact w32_id (by omega)
        refine zG_blk (c' := (54, [.inr (.inr (some 8)), .inl a1, .inl a2, .inl x8], [.inl a2, .inl x10, .inl a1, .inr (.inr (some 20))])) 8 hd0 hz (by subst hx10; rfl) ?_
        refine zG_call hd0 hz (rfl : zP 107 = (zk_X8_set, 4, (0, 0))) rfl rfl (Nat.le_of_ble_eq_true rfl) ⟨Nat.le_refl _, Nat.le_refl _⟩ (qw_set (by omega) hC (⟨by decide, rfl, rfl⟩ : qT n 20 8 81) a1 (by omega) x10 (by omega) a2 (by omega)) (fun vr M11 hr => ?_)
        obtain ⟨⟨hCM11, hFM11⟩, rfl⟩ := hr
        have hWM11 : qFr [21] M M11 := hW.tr hFM11 (by decide)
        show zG n (0, 0) d 148 (57, [.inr (.inr (some 8)), .inl a1, .inl a2, .inl x8], []) M11 _
        obtain ⟨x13, hx13⟩ : ∃ x : Int, x = w32 (x8 + 1) := ⟨_, rfl⟩
        have hx13e : x13 = x8 + 1 := by rw [hx13]; exact w32_id (by omega)
        refine zG_blk (c' := (69, [.inr (.inr (some 8)), .inl a1, .inl a2, .inl x8], [.inl x13, .inl 0, .inl a1, .inr (.inr (some 20))])) 8 hd0 hz (by subst hx13; rfl) ?_
        refine zG_call hd0 hz (rfl : zP 107 = (zk_X8_set, 4, (0, 0))) rfl rfl (Nat.le_of_ble_eq_true rfl) ⟨Nat.le_refl _, Nat.le_refl _⟩ (qw_set (by omega) hCM11 (⟨by decide, rfl, rfl⟩ : qT n 20 8 81) a1 (by omega) 0 (by omega) x13 (by omega)) (fun vr M14 hr => ?_)
        obtain ⟨⟨hCM14, hFM14⟩, rfl⟩ := hr
        have hWM14 : qFr [21] M M14 := hWM11.tr hFM14 (by decide)
        show zG n (0, 0) d 148 (72, [.inr (.inr (some 8)), .inl a1, .inl a2, .inl x8], []) M14 _
        obtain ⟨x16, hx16⟩ : ∃ x : Int, x = w32 (x8 + 1) := ⟨_, rfl⟩
        have hx16e : x16 = x8 + 1 := by rw [hx16]; exact w32_id (by omega)
        refine zG_blk (c' := (75, [.inr (.inr (some 8)), .inl a1, .inl a2, .inl x8], [.inl x16])) 3 hd0 hz (by subst hx16; rfl) ?_
        exact zG_ret hd0 hz rfl rfl ⟨⟨hCM14, hWM14⟩, _, rfl, by omega⟩
      · refine zG_blk (c' := (41, [.inr (.inr (some 8)), .inl a1, .inl a2, .inl x8], [.inl (-4)])) 1 hd0 hz (by rfl) ?_
        exact zG_ret hd0 hz rfl rfl ⟨⟨hC, hW⟩, _, rfl, by omega⟩
    · exact j17
theorem qm_149_8 {n d : Nat} {M : zM} (hd : 3 ≤ d) (hC : qCI M) (a1 : Int) (ha1 : (-2147483648) ≤ a1 ∧ a1 ≤ 2147483647) : qOkM n d 149 [.inr (.inr (some 8)), .inl a1] 3 qCI [21] M (qRi (fun x => (-2147483648) ≤ x ∧ x ≤ 2147483647)) := by
  have hz : zP 149 = (zk_X10_erase, 3, (0, 0)) := rfl
  have hd0 : 0 < d := by omega
  have hW : qFr [21] M M := qFr.rfl
  show zG n (0, 0) d 149 (0, [.inr (.inr (some 8)), .inl a1, zN], []) M _
  refine zG_blk (c' := (1, [.inr (.inr (some 8)), .inl a1, zN], [.inl a1])) 1 hd0 hz (by rfl) ?_
  refine zG_call hd0 hz (rfl : zP 173 = (zk_X10_isText, 1, (0, 0))) rfl rfl (Nat.le_of_ble_eq_true rfl) ⟨Nat.le_refl _, Nat.le_refl _⟩ (qm_173 (by omega) hC  a1 (by omega)) (fun vr M1 hr => ?_)
  obtain ⟨hq, x2, rfl, hx2⟩ := hr
  replace hq := hq.symm; subst hq
  show zG n (0, 0) d 149 (4, [.inr (.inr (some 8)), .inl a1, zN], [.inl x2]) M _
  refine zG_if_ne hd0 hz rfl (fun hb3 => ?_) (fun hb3 => ?_)
  · refine zG_blk (c' := (19, [.inr (.inr (some 8)), .inl a1, zN], [.inl 0, .inl a1, .inr (.inr (some 20))])) 5 hd0 hz (by rfl) ?_
    refine zG_call hd0 hz (rfl : zP 106 = (zk_X8_get, 3, (0, 0))) rfl rfl (Nat.le_of_ble_eq_true rfl) ⟨Nat.le_refl _, Nat.le_refl _⟩ (qw_get (by omega) hC (⟨by decide, rfl, rfl⟩ : qT n 20 8 81) a1 (by omega) 0 (by omega)) (fun vr M4 hr => ?_)
    obtain ⟨hq, x5, rfl, hx5⟩ := hr
    replace hq := hq.symm; subst hq
    show zG n (0, 0) d 149 (22, [.inr (.inr (some 8)), .inl a1, zN], [.inl x5]) M _
    refine zG_blk (c' := (33, [.inr (.inr (some 8)), .inl a1, .inl x5], [.inl 0, .inl 0, .inl a1, .inr (.inr (some 20))])) 7 hd0 hz (by rfl) ?_
    refine zG_call hd0 hz (rfl : zP 107 = (zk_X8_set, 4, (0, 0))) rfl rfl (Nat.le_of_ble_eq_true rfl) ⟨Nat.le_refl _, Nat.le_refl _⟩ (qw_set (by omega) hC (⟨by decide, rfl, rfl⟩ : qT n 20 8 81) a1 (by omega) 0 (by omega) 0 (by omega)) (fun vr M6 hr => ?_)
    obtain ⟨⟨hCM6, hFM6⟩, rfl⟩ := hr
    have hWM6 : qFr [21] M M6 := hW.tr hFM6 (by decide)
    show zG n (0, 0) d 149 (36, [.inr (.inr (some 8)), .inl a1, .inl x5], []) M6 _
    refine zG_blk (c' := (37, [.inr (.inr (some 8)), .inl a1, .inl x5], [.inl x5])) 1 hd0 hz (by rfl) ?_
    exact zG_ret hd0 hz rfl rfl ⟨⟨hCM6, hWM6⟩, _, rfl, by omega⟩
  · refine zG_blk (c' := (9, [.inr (.inr (some 8)), .inl a1, zN], [.inl (-2)])) 1 hd0 hz (by rfl) ?_
    exact zG_ret hd0 hz rfl rfl ⟨⟨hC, hW⟩, _, rfl, by omega⟩
theorem qm_97_67 {n d : Nat} {M : zM} (hd : 2 ≤ d) (hC : qCI M) (a1 : Int) (ha1 : (-2147483648) ≤ a1 ∧ a1 ≤ 2147483647) : qOkP n d 97 [.inr (.inr (some 67)), .inl a1] 2 M (qRi (fun x => (-2147483648) ≤ x ∧ x ≤ 2147483647)) := by
  have hz : zP 97 = (zk_X7_letter, 2, (0, 0)) := rfl
  have hd0 : 0 < d := by omega
  show zG n (0, 0) d 97 (0, [.inr (.inr (some 67)), .inl a1], []) M _
  have r1 := hC.rng 67 3 (by decide) (by decide)
  obtain ⟨x2, hx2⟩ : ∃ x : Int, x = w32 (1 + a1) := ⟨_, rfl⟩
  have hx2r : qin x2 := by rw [hx2]; exact w32_in _
  refine zG_blk (c' := (11, [.inr (.inr (some 67)), .inl a1], [.inl x2, .inl (M 67 3), .inr (.inr (some 20))])) 7 hd0 hz (by subst hx2; rfl) ?_
  refine zG_call hd0 hz (rfl : zP 106 = (zk_X8_get, 3, (0, 0))) rfl rfl (Nat.le_of_ble_eq_true rfl) ⟨Nat.le_refl _, Nat.le_refl _⟩ (qw_get (by omega) hC (⟨by decide, rfl, rfl⟩ : qT n 20 8 81) (M 67 3) (by omega) x2 (by omega)) (fun vr M3 hr => ?_)
  obtain ⟨hq, x4, rfl, hx4⟩ := hr
  replace hq := hq.symm; subst hq
  show zG n (0, 0) d 97 (14, [.inr (.inr (some 67)), .inl a1], [.inl x4]) M _
  exact zG_ret hd0 hz rfl rfl ⟨rfl, _, rfl, by omega⟩
theorem qm_98 {n d : Nat} {M : zM} (hd : 1 ≤ d) (hC : qCI M) (a0 : Int) (ha0 : (-2147483648) ≤ a0 ∧ a0 ≤ 2147483647) : qOkP n d 98 [.inl a0] 1 M (qRi (fun x => 0 ≤ x ∧ x ≤ 1)) := by
  have hz : zP 98 = (zk_X7_isDigit, 1, (0, 0)) := rfl
  have hd0 : 0 < d := by omega
  show zG n (0, 0) d 98 (0, [.inl a0], []) M _
  refine zG_blk (c' := (3, [.inl a0], [.inl 48, .inl a0])) 2 hd0 hz (by rfl) ?_
  have j17 : ∀ (v1 : Int) , 0 ≤ v1 ∧ v1 ≤ 1 → zG n (0, 0) d 98 (17, [.inl a0], [.inl v1]) M (fun v M' => M' = M ∧ qRi (fun x => 0 ≤ x ∧ x ≤ 1) v) := by
    intro v1 hv1
    exact zG_zret hd0 hz rfl (by omega) ⟨rfl, _, rfl, by omega⟩
  have j16 : zG n (0, 0) d 98 (16, [.inl a0], []) M (fun v M' => M' = M ∧ qRi (fun x => 0 ≤ x ∧ x ≤ 1) v) := by
    refine zG_blk (c' := (17, [.inl a0], [.inl 0])) 1 hd0 hz (by rfl) ?_
    exact j17 0 (by omega)
  refine zG_icmp_lt hd0 hz rfl (fun hb2 => ?_) (fun hb2 => ?_)
  · exact j16
  · refine zG_blk (c' := (9, [.inl a0], [.inl 57, .inl a0])) 2 hd0 hz (by rfl) ?_
    refine zG_icmp_gt hd0 hz rfl (fun hb3 => ?_) (fun hb3 => ?_)
    · exact j16
    · refine zG_blk (c' := (17, [.inl a0], [.inl 1])) 2 hd0 hz (by rfl) ?_
      exact j17 1 (by omega)
theorem qm_153_8 {n d : Nat} {M : zM} (hd : 3 ≤ d) (hC : qCI M) (a1 : Int) (ha1 : (-2147483648) ≤ a1 ∧ a1 ≤ 2147483647) (a2 : Int) (ha2 : (-2147483648) ≤ a2 ∧ a2 ≤ 2147483647) : qOkM n d 153 [.inr (.inr (some 8)), .inl a1, .inl a2] 4 qCI [13] M (qRi (fun x => (-2147483648) ≤ x ∧ x ≤ 2147483647)) := by
  have hz : zP 153 = (zk_X10_choose, 4, (0, 0)) := rfl
  have hd0 : 0 < d := by omega
  have hW : qFr [13] M M := qFr.rfl
  show zG n (0, 0) d 153 (0, [.inr (.inr (some 8)), .inl a1, .inl a2, zN], []) M _
  refine zG_blk (c' := (2, [.inr (.inr (some 8)), .inl a1, .inl a2, zN], [.inl a1, .inr (.inr (some 8))])) 2 hd0 hz (by rfl) ?_
  refine zG_call hd0 hz (rfl : zP 174 = (zk_X10_isStudent, 2, (0, 0))) rfl rfl (Nat.le_of_ble_eq_true rfl) ⟨Nat.le_refl _, Nat.le_refl _⟩ (qm_174_8 (by omega) hC  a1 (by omega)) (fun vr M1 hr => ?_)
  obtain ⟨hq, x2, rfl, hx2⟩ := hr
  replace hq := hq.symm; subst hq
  show zG n (0, 0) d 153 (5, [.inr (.inr (some 8)), .inl a1, .inl a2, zN], [.inl x2]) M _
  have j28 : zG n (0, 0) d 153 (28, [.inr (.inr (some 8)), .inl a1, .inl a2, zN], []) M (fun v M' => qWf qCI [13] M M' ∧ qRi (fun x => (-2147483648) ≤ x ∧ x ≤ 2147483647) v) := by
    refine zG_blk (c' := (30, [.inr (.inr (some 8)), .inl a1, .inl a2, zN], [.inl (-10)])) 1 hd0 hz (by rfl) ?_
    exact zG_ret hd0 hz rfl rfl ⟨⟨hC, hW⟩, _, rfl, by omega⟩
  refine zG_if_eq hd0 hz rfl (fun hb3 => ?_) (fun hb3 => ?_)
  · exact j28
  · refine zG_blk (c' := (17, [.inr (.inr (some 8)), .inl a1, .inl a2, zN], [.inr (.inr (some 22)), .inl (-1), .inl a2])) 5 hd0 hz (by rfl) ?_
    refine zG_call hd0 hz (rfl : zP 101 = (zk_X8_size, 1, (0, 0))) rfl rfl (Nat.le_of_ble_eq_true rfl) ⟨Nat.le_refl _, Nat.le_refl _⟩ (qw_size (by omega) hC (⟨by decide, rfl, rfl⟩ : qT n 22 10 164) ) (fun vr M4 hr => ?_)
    obtain ⟨hq, x5, rfl, hx5⟩ := hr
    replace hq := hq.symm; subst hq
    show zG n (0, 0) d 153 (20, [.inr (.inr (some 8)), .inl a1, .inl a2, zN], [.inl x5, .inl (-1), .inl a2]) M _
    obtain ⟨x6, hx6⟩ : ∃ x : Int, x = w32 (x5 - 1) := ⟨_, rfl⟩
    have hx6e : x6 = x5 - 1 := by rw [hx6]; exact w32_id (by omega)
    refine zG_blk (c' := (22, [.inr (.inr (some 8)), .inl a1, .inl a2, zN], [.inl x6, .inl (-1), .inl a2])) 2 hd0 hz (by subst hx6; rfl) ?_
    refine zG_call hd0 hz (rfl : zP 169 = (zk_X10_within, 3, (0, 0))) rfl rfl (Nat.le_of_ble_eq_true rfl) ⟨Nat.le_refl _, Nat.le_refl _⟩ (qm_169 (by omega) hC  a2 (by omega) (-1) (by omega) x6 (by omega)) (fun vr M7 hr => ?_)
    obtain ⟨hq, x8, rfl, hx8⟩ := hr
    replace hq := hq.symm; subst hq
    show zG n (0, 0) d 153 (25, [.inr (.inr (some 8)), .inl a1, .inl a2, zN], [.inl x8]) M _
    refine zG_if_ne hd0 hz rfl (fun hb9 => ?_) (fun hb9 => ?_)
    · refine zG_blk (c' := (40, [.inr (.inr (some 8)), .inl a1, .inl a2, zN], [.inl 1, .inl a1, .inr (.inr (some 12))])) 5 hd0 hz (by rfl) ?_
      refine zG_call hd0 hz (rfl : zP 106 = (zk_X8_get, 3, (0, 0))) rfl rfl (Nat.le_of_ble_eq_true rfl) ⟨Nat.le_refl _, Nat.le_refl _⟩ (qw_get (by omega) hC (⟨by decide, rfl, rfl⟩ : qT n 12 20 3) a1 (by omega) 1 (by omega)) (fun vr M10 hr => ?_)
      obtain ⟨hq, x11, rfl, hx11⟩ := hr
      replace hq := hq.symm; subst hq
      show zG n (0, 0) d 153 (43, [.inr (.inr (some 8)), .inl a1, .inl a2, zN], [.inl x11]) M _
      refine zG_blk (c' := (54, [.inr (.inr (some 8)), .inl a1, .inl a2, .inl x11], [.inl a2, .inl 1, .inl a1, .inr (.inr (some 12))])) 7 hd0 hz (by rfl) ?_
      refine zG_call hd0 hz (rfl : zP 107 = (zk_X8_set, 4, (0, 0))) rfl rfl (Nat.le_of_ble_eq_true rfl) ⟨Nat.le_refl _, Nat.le_refl _⟩ (qw_set (by omega) hC (⟨by decide, rfl, rfl⟩ : qT n 12 20 3) a1 (by omega) 1 (by omega) a2 (by omega)) (fun vr M12 hr => ?_)
      obtain ⟨⟨hCM12, hFM12⟩, rfl⟩ := hr
      have hWM12 : qFr [13] M M12 := hW.tr hFM12 (by decide)
      show zG n (0, 0) d 153 (57, [.inr (.inr (some 8)), .inl a1, .inl a2, .inl x11], []) M12 _
      refine zG_blk (c' := (58, [.inr (.inr (some 8)), .inl a1, .inl a2, .inl x11], [.inl x11])) 1 hd0 hz (by rfl) ?_
      exact zG_ret hd0 hz rfl rfl ⟨⟨hCM12, hWM12⟩, _, rfl, by omega⟩
    · exact j28
theorem qm_157_8 {n d : Nat} {M : zM} (hd : 3 ≤ d) (hC : qCI M) (a1 : Int) (ha1 : (-2147483648) ≤ a1 ∧ a1 ≤ 2147483647) (a2 : Int) (ha2 : (-2147483648) ≤ a2 ∧ a2 ≤ 2147483647) (a3 : Int) (ha3 : 0 ≤ a3 ∧ a3 ≤ 1) : qOkM n d 157 [.inr (.inr (some 8)), .inl a1, .inl a2, .inl a3] 6 qCI [13] M (qRi (fun x => (-3) ≤ x ∧ x ≤ 1)) := by
  have hz : zP 157 = (zk_X10_sits, 6, (0, 0)) := rfl
  have hd0 : 0 < d := by omega
  have hW : qFr [13] M M := qFr.rfl
  show zG n (0, 0) d 157 (0, [.inr (.inr (some 8)), .inl a1, .inl a2, .inl a3, zN, zN], []) M _
  refine zG_blk (c' := (2, [.inr (.inr (some 8)), .inl a1, .inl a2, .inl a3, zN, zN], [.inl a1, .inr (.inr (some 8))])) 2 hd0 hz (by rfl) ?_
  refine zG_call hd0 hz (rfl : zP 174 = (zk_X10_isStudent, 2, (0, 0))) rfl rfl (Nat.le_of_ble_eq_true rfl) ⟨Nat.le_refl _, Nat.le_refl _⟩ (qm_174_8 (by omega) hC  a1 (by omega)) (fun vr M1 hr => ?_)
  obtain ⟨hq, x2, rfl, hx2⟩ := hr
  replace hq := hq.symm; subst hq
  show zG n (0, 0) d 157 (5, [.inr (.inr (some 8)), .inl a1, .inl a2, .inl a3, zN, zN], [.inl x2]) M _
  have j16 : zG n (0, 0) d 157 (16, [.inr (.inr (some 8)), .inl a1, .inl a2, .inl a3, zN, zN], []) M (fun v M' => qWf qCI [13] M M' ∧ qRi (fun x => (-3) ≤ x ∧ x ≤ 1) v) := by
    refine zG_blk (c' := (18, [.inr (.inr (some 8)), .inl a1, .inl a2, .inl a3, zN, zN], [.inl (-2)])) 1 hd0 hz (by rfl) ?_
    exact zG_ret hd0 hz rfl rfl ⟨⟨hC, hW⟩, _, rfl, by omega⟩
  refine zG_if_eq hd0 hz rfl (fun hb3 => ?_) (fun hb3 => ?_)
  · exact j16
  · refine zG_blk (c' := (10, [.inr (.inr (some 8)), .inl a1, .inl a2, .inl a3, zN, zN], [.inl a2, .inr (.inr (some 8))])) 2 hd0 hz (by rfl) ?_
    refine zG_call hd0 hz (rfl : zP 175 = (zk_X10_isCourse, 2, (0, 0))) rfl rfl (Nat.le_of_ble_eq_true rfl) ⟨Nat.le_refl _, Nat.le_refl _⟩ (qm_175_8 (by omega) hC  a2 (by omega)) (fun vr M4 hr => ?_)
    obtain ⟨hq, x5, rfl, hx5⟩ := hr
    replace hq := hq.symm; subst hq
    show zG n (0, 0) d 157 (13, [.inr (.inr (some 8)), .inl a1, .inl a2, .inl a3, zN, zN], [.inl x5]) M _
    refine zG_if_ne hd0 hz rfl (fun hb6 => ?_) (fun hb6 => ?_)
    · refine zG_blk (c' := (28, [.inr (.inr (some 8)), .inl a1, .inl a2, .inl a3, zN, zN], [.inl 2, .inl a1, .inr (.inr (some 12))])) 5 hd0 hz (by rfl) ?_
      refine zG_call hd0 hz (rfl : zP 106 = (zk_X8_get, 3, (0, 0))) rfl rfl (Nat.le_of_ble_eq_true rfl) ⟨Nat.le_refl _, Nat.le_refl _⟩ (qw_get (by omega) hC (⟨by decide, rfl, rfl⟩ : qT n 12 20 3) a1 (by omega) 2 (by omega)) (fun vr M7 hr => ?_)
      obtain ⟨hq, x8, rfl, hx8⟩ := hr
      replace hq := hq.symm; subst hq
      show zG n (0, 0) d 157 (31, [.inr (.inr (some 8)), .inl a1, .inl a2, .inl a3, zN, zN], [.inl x8]) M _
      obtain ⟨x9, hx9⟩ : ∃ x : Int, x = zbshr x8 a2 := ⟨_, rfl⟩
      have hx9r : qin x9 := by rw [hx9]; exact qb32 _
      obtain ⟨x10, hx10⟩ : ∃ x : Int, x = zband x9 1 := ⟨_, rfl⟩
      have hx10r := qband_r x9 1 (by omega) (by omega); rw [← hx10] at hx10r
      refine zG_blk (c' := (40, [.inr (.inr (some 8)), .inl a1, .inl a2, .inl a3, .inl x8, zN], [.inl 1, .inl x10])) 7 hd0 hz (by subst hx10; subst hx9; rfl) ?_
      have j48 : ∀ (v11 : Int) , 0 ≤ v11 ∧ v11 ≤ 1 → zG n (0, 0) d 157 (48, [.inr (.inr (some 8)), .inl a1, .inl a2, .inl a3, .inl x8, zN], [.inl v11]) M (fun v M' => qWf qCI [13] M M' ∧ qRi (fun x => (-3) ≤ x ∧ x ≤ 1) v) := by
        intro v11 hv11
        refine zG_blk (c' := (53, [.inr (.inr (some 8)), .inl a1, .inl a2, .inl a3, .inl x8, .inl v11], [.inl a3, .inl v11])) 3 hd0 hz (by rfl) ?_
        refine zG_icmp_ne hd0 hz rfl (fun hb12 => ?_) (fun hb12 => ?_)
        · obtain ⟨x13, hx13⟩ : ∃ x : Int, x = zbshl 1 a2 := ⟨_, rfl⟩
          have hx13r : qin x13 := by rw [hx13]; exact qb32 _
          obtain ⟨x14, hx14⟩ : ∃ x : Int, x = zbxor x8 x13 := ⟨_, rfl⟩
          have hx14r : qin x14 := by rw [hx14]; exact qb32 _
          refine zG_blk (c' := (74, [.inr (.inr (some 8)), .inl a1, .inl a2, .inl a3, .inl x8, .inl v11], [.inl x14, .inl 2, .inl a1, .inr (.inr (some 12))])) 10 hd0 hz (by subst hx14; subst hx13; rfl) ?_
          refine zG_call hd0 hz (rfl : zP 107 = (zk_X8_set, 4, (0, 0))) rfl rfl (Nat.le_of_ble_eq_true rfl) ⟨Nat.le_refl _, Nat.le_refl _⟩ (qw_set (by omega) hC (⟨by decide, rfl, rfl⟩ : qT n 12 20 3) a1 (by omega) 2 (by omega) x14 (by omega)) (fun vr M15 hr => ?_)
          obtain ⟨⟨hCM15, hFM15⟩, rfl⟩ := hr
          have hWM15 : qFr [13] M M15 := hW.tr hFM15 (by decide)
          show zG n (0, 0) d 157 (77, [.inr (.inr (some 8)), .inl a1, .inl a2, .inl a3, .inl x8, .inl v11], []) M15 _
          refine zG_blk (c' := (78, [.inr (.inr (some 8)), .inl a1, .inl a2, .inl a3, .inl x8, .inl v11], [.inl 1])) 1 hd0 hz (by rfl) ?_
          exact zG_ret hd0 hz rfl rfl ⟨⟨hCM15, hWM15⟩, _, rfl, by omega⟩
        · refine zG_blk (c' := (58, [.inr (.inr (some 8)), .inl a1, .inl a2, .inl a3, .inl x8, .inl v11], [.inl (-3)])) 1 hd0 hz (by rfl) ?_
          exact zG_ret hd0 hz rfl rfl ⟨⟨hC, hW⟩, _, rfl, by omega⟩
      refine zG_icmp_ne hd0 hz rfl (fun hb17 => ?_) (fun hb17 => ?_)
      · refine zG_blk (c' := (48, [.inr (.inr (some 8)), .inl a1, .inl a2, .inl a3, .inl x8, zN], [.inl 0])) 1 hd0 hz (by rfl) ?_
        exact j48 0 (by omega)
      · refine zG_blk (c' := (48, [.inr (.inr (some 8)), .inl a1, .inl a2, .inl a3, .inl x8, zN], [.inl 1])) 2 hd0 hz (by rfl) ?_
        exact j48 1 (by omega)
    · exact j16
theorem qm_161_8 {n d : Nat} {M : zM} (hd : 2 ≤ d) (hC : qCI M) (a1 : Int) (ha1 : (-2147483648) ≤ a1 ∧ a1 ≤ 2147483647) : qOkM n d 161 [.inr (.inr (some 8)), .inl a1] 3 qCI [9] M (qRi (fun x => (-2147483648) ≤ x ∧ x ≤ 2147483647)) := by
  have hz : zP 161 = (zk_X10_odds, 3, (0, 0)) := rfl
  have hd0 : 0 < d := by omega
  have hW : qFr [9] M M := qFr.rfl
  show zG n (0, 0) d 161 (0, [.inr (.inr (some 8)), .inl a1, zN], []) M _
  refine zG_blk (c' := (5, [.inr (.inr (some 8)), .inl a1, zN], [.inl 10000, .inl 1, .inl a1])) 3 hd0 hz (by rfl) ?_
  refine zG_call hd0 hz (rfl : zP 169 = (zk_X10_within, 3, (0, 0))) rfl rfl (Nat.le_of_ble_eq_true rfl) ⟨Nat.le_refl _, Nat.le_refl _⟩ (qm_169 (by omega) hC  a1 (by omega) 1 (by omega) 10000 (by omega)) (fun vr M1 hr => ?_)
  obtain ⟨hq, x2, rfl, hx2⟩ := hr
  replace hq := hq.symm; subst hq
  show zG n (0, 0) d 161 (8, [.inr (.inr (some 8)), .inl a1, zN], [.inl x2]) M _
  refine zG_if_ne hd0 hz rfl (fun hb3 => ?_) (fun hb3 => ?_)
  · have r4 := hC.rng 9 9 (by decide) (by decide)
    refine zG_blk (c' := (27, [.inr (.inr (some 8)), .inl a1, .inl (M 9 9)], [.inl a1, .inr (.inr (some 9))])) 7 hd0 hz (by rfl) ?_
    refine zG_putf (.inl rfl) hd0 hz rfl (by decide) rfl rfl ?_
    obtain ⟨M5, hM5⟩ : ∃ X : zM, X = zput M 9 9 a1 := ⟨_, rfl⟩
    rw [← hM5]
    have hCM5 : qCI M5 := by rw [hM5]; exact hC.put (r := 9) (k := 9) rfl (.inl (by omega))
    have hWM5 : qFr [9] M M5 := by rw [hM5]; exact hW.put (by decide)
    have e6 : M5 9 9 = a1 := by rw [hM5]; exact qput_eq
    show zG n (0, 0) d 161 (30, [.inr (.inr (some 8)), .inl a1, .inl (M 9 9)], []) M5 _
    refine zG_blk (c' := (31, [.inr (.inr (some 8)), .inl a1, .inl (M 9 9)], [.inl (M 9 9)])) 1 hd0 hz (by rfl) ?_
    exact zG_ret hd0 hz rfl rfl ⟨⟨hCM5, hWM5⟩, _, rfl, by omega⟩
  · refine zG_blk (c' := (13, [.inr (.inr (some 8)), .inl a1, zN], [.inl (-2)])) 1 hd0 hz (by rfl) ?_
    exact zG_ret hd0 hz rfl rfl ⟨⟨hC, hW⟩, _, rfl, by omega⟩
theorem qm_162_8 {n d : Nat} {M : zM} (hd : 2 ≤ d) (hC : qCI M) (a1 : Int) (ha1 : (-2147483648) ≤ a1 ∧ a1 ≤ 2147483647) (a2 : Int) (ha2 : (-2147483648) ≤ a2 ∧ a2 ≤ 2147483647) : qOkM n d 162 [.inr (.inr (some 8)), .inl a1, .inl a2] 4 qCI [24, 25] M (qRi (fun x => (-4) ≤ x ∧ x ≤ 12)) := by
  have hz : zP 162 = (zk_X10_line, 4, (0, 0)) := rfl
  have hd0 : 0 < d := by omega
  have hW : qFr [24, 25] M M := qFr.rfl
  show zG n (0, 0) d 162 (0, [.inr (.inr (some 8)), .inl a1, .inl a2, zN], []) M _
  refine zG_blk (c' := (5, [.inr (.inr (some 8)), .inl a1, .inl a2, zN], [.inl 1000, .inl 0, .inl a1])) 3 hd0 hz (by rfl) ?_
  refine zG_call hd0 hz (rfl : zP 169 = (zk_X10_within, 3, (0, 0))) rfl rfl (Nat.le_of_ble_eq_true rfl) ⟨Nat.le_refl _, Nat.le_refl _⟩ (qm_169 (by omega) hC  a1 (by omega) 0 (by omega) 1000 (by omega)) (fun vr M1 hr => ?_)
  obtain ⟨hq, x2, rfl, hx2⟩ := hr
  replace hq := hq.symm; subst hq
  show zG n (0, 0) d 162 (8, [.inr (.inr (some 8)), .inl a1, .inl a2, zN], [.inl x2]) M _
  have j22 : zG n (0, 0) d 162 (22, [.inr (.inr (some 8)), .inl a1, .inl a2, zN], []) M (fun v M' => qWf qCI [24, 25] M M' ∧ qRi (fun x => (-4) ≤ x ∧ x ≤ 12) v) := by
    refine zG_blk (c' := (24, [.inr (.inr (some 8)), .inl a1, .inl a2, zN], [.inl (-2)])) 1 hd0 hz (by rfl) ?_
    exact zG_ret hd0 hz rfl rfl ⟨⟨hC, hW⟩, _, rfl, by omega⟩
  refine zG_if_eq hd0 hz rfl (fun hb3 => ?_) (fun hb3 => ?_)
  · exact j22
  · refine zG_blk (c' := (16, [.inr (.inr (some 8)), .inl a1, .inl a2, zN], [.inl 1000, .inl 0, .inl a2])) 3 hd0 hz (by rfl) ?_
    refine zG_call hd0 hz (rfl : zP 169 = (zk_X10_within, 3, (0, 0))) rfl rfl (Nat.le_of_ble_eq_true rfl) ⟨Nat.le_refl _, Nat.le_refl _⟩ (qm_169 (by omega) hC  a2 (by omega) 0 (by omega) 1000 (by omega)) (fun vr M4 hr => ?_)
    obtain ⟨hq, x5, rfl, hx5⟩ := hr
    replace hq := hq.symm; subst hq
    show zG n (0, 0) d 162 (19, [.inr (.inr (some 8)), .inl a1, .inl a2, zN], [.inl x5]) M _
    refine zG_if_ne hd0 hz rfl (fun hb6 => ?_) (fun hb6 => ?_)
    · refine zG_blk (c' := (32, [.inr (.inr (some 8)), .inl a1, .inl a2, zN], [.inr (.inr (some 24))])) 3 hd0 hz (by rfl) ?_
      refine zG_call hd0 hz (rfl : zP 103 = (zk_X8_open, 1, (0, 0))) rfl rfl (Nat.le_of_ble_eq_true rfl) ⟨Nat.le_refl _, Nat.le_refl _⟩ (qw_open (by omega) hC (⟨by decide, rfl, rfl⟩ : qT n 24 12 2) ) (fun vr M7 hr => ?_)
      obtain ⟨⟨hCM7, hFM7⟩, x8, rfl, hx8⟩ := hr
      have hWM7 : qFr [24, 25] M M7 := hW.tr hFM7 (by decide)
      show zG n (0, 0) d 162 (35, [.inr (.inr (some 8)), .inl a1, .inl a2, zN], [.inl x8]) M7 _
      refine zG_blk (c' := (39, [.inr (.inr (some 8)), .inl a1, .inl a2, .inl x8], [.inl (-4), .inl x8])) 3 hd0 hz (by rfl) ?_
      refine zG_icmp_ne hd0 hz rfl (fun hb9 => ?_) (fun hb9 => ?_)
      · refine zG_blk (c' := (55, [.inr (.inr (some 8)), .inl a1, .inl a2, .inl x8], [.inl a1, .inl 0, .inl x8, .inr (.inr (some 24))])) 6 hd0 hz (by rfl) ?_
        refine zG_call hd0 hz (rfl : zP 107 = (zk_X8_set, 4, (0, 0))) rfl rfl (Nat.le_of_ble_eq_true rfl) ⟨Nat.le_refl _, Nat.le_refl _⟩ (qw_set (by omega) hCM7 (⟨by decide, rfl, rfl⟩ : qT n 24 12 2) x8 (by omega) 0 (by omega) a1 (by omega)) (fun vr M10 hr => ?_)
        obtain ⟨⟨hCM10, hFM10⟩, rfl⟩ := hr
        have hWM10 : qFr [24, 25] M M10 := hWM7.tr hFM10 (by decide)
        show zG n (0, 0) d 162 (58, [.inr (.inr (some 8)), .inl a1, .inl a2, .inl x8], []) M10 _
        refine zG_blk (c' := (68, [.inr (.inr (some 8)), .inl a1, .inl a2, .inl x8], [.inl a2, .inl 1, .inl x8, .inr (.inr (some 24))])) 6 hd0 hz (by rfl) ?_
        refine zG_call hd0 hz (rfl : zP 107 = (zk_X8_set, 4, (0, 0))) rfl rfl (Nat.le_of_ble_eq_true rfl) ⟨Nat.le_refl _, Nat.le_refl _⟩ (qw_set (by omega) hCM10 (⟨by decide, rfl, rfl⟩ : qT n 24 12 2) x8 (by omega) 1 (by omega) a2 (by omega)) (fun vr M12 hr => ?_)
        obtain ⟨⟨hCM12, hFM12⟩, rfl⟩ := hr
        have hWM12 : qFr [24, 25] M M12 := hWM10.tr hFM12 (by decide)
        show zG n (0, 0) d 162 (71, [.inr (.inr (some 8)), .inl a1, .inl a2, .inl x8], []) M12 _
        obtain ⟨x14, hx14⟩ : ∃ x : Int, x = w32 (x8 + 1) := ⟨_, rfl⟩
        have hx14e : x14 = x8 + 1 := by rw [hx14]; exact w32_id (by omega)
        refine zG_blk (c' := (74, [.inr (.inr (some 8)), .inl a1, .inl a2, .inl x8], [.inl x14])) 3 hd0 hz (by subst hx14; rfl) ?_
        exact zG_ret hd0 hz rfl rfl ⟨⟨hCM12, hWM12⟩, _, rfl, by omega⟩
      · refine zG_blk (c' := (44, [.inr (.inr (some 8)), .inl a1, .inl a2, .inl x8], [.inl (-4)])) 1 hd0 hz (by rfl) ?_
        exact zG_ret hd0 hz rfl rfl ⟨⟨hCM7, hWM7⟩, _, rfl, by omega⟩
    · exact j22
theorem qm_163_8 {n d : Nat} {M : zM} (hd : 2 ≤ d) (hC : qCI M)  : qOkM n d 163 [.inr (.inr (some 8))] 2 qCI [24] M (qRi (fun x => 0 ≤ x ∧ x ≤ 12)) := by
  have hz : zP 163 = (zk_X10_clear, 2, (0, 0)) := rfl
  have hd0 : 0 < d := by omega
  have hW : qFr [24] M M := qFr.rfl
  show zG n (0, 0) d 163 (0, [.inr (.inr (some 8)), zN], []) M _
  refine zG_blk (c' := (7, [.inr (.inr (some 8)), zN], [.inr (.inr (some 24))])) 3 hd0 hz (by rfl) ?_
  refine zG_call hd0 hz (rfl : zP 101 = (zk_X8_size, 1, (0, 0))) rfl rfl (Nat.le_of_ble_eq_true rfl) ⟨Nat.le_refl _, Nat.le_refl _⟩ (qw_size (by omega) hC (⟨by decide, rfl, rfl⟩ : qT n 24 12 2) ) (fun vr M1 hr => ?_)
  obtain ⟨hq, x2, rfl, hx2⟩ := hr
  replace hq := hq.symm; subst hq
  show zG n (0, 0) d 163 (10, [.inr (.inr (some 8)), zN], [.inl x2]) M _
  refine zG_blk (c' := (18, [.inr (.inr (some 8)), .inl x2], [.inr (.inr (some 24))])) 4 hd0 hz (by rfl) ?_
  refine zG_call hd0 hz (rfl : zP 104 = (zk_X8_drop, 1, (0, 0))) rfl rfl (Nat.le_of_ble_eq_true rfl) ⟨Nat.le_refl _, Nat.le_refl _⟩ (qw_drop (by omega) hC (⟨by decide, rfl, rfl⟩ : qT n 24 12 2) ) (fun vr M3 hr => ?_)
  obtain ⟨⟨hCM3, hFM3⟩, rfl⟩ := hr
  have hWM3 : qFr [24] M M3 := hW.tr hFM3 (by decide)
  show zG n (0, 0) d 163 (21, [.inr (.inr (some 8)), .inl x2], []) M3 _
  refine zG_blk (c' := (22, [.inr (.inr (some 8)), .inl x2], [.inl x2])) 1 hd0 hz (by rfl) ?_
  exact zG_ret hd0 hz rfl rfl ⟨⟨hCM3, hWM3⟩, _, rfl, by omega⟩
