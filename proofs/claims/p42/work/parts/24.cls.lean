/-! THE CLASS'S METHODS, BY PROGRAM -/
theorem qm_169 {n d : Nat} {M : zM} (hd : 1 ≤ d) (hC : qCI M) (a0 : Int) (ha0 : (-2147483648) ≤ a0 ∧ a0 ≤ 2147483647) (a1 : Int) (ha1 : (-2147483648) ≤ a1 ∧ a1 ≤ 2147483647) (a2 : Int) (ha2 : (-2147483648) ≤ a2 ∧ a2 ≤ 2147483647) : qOkP n d 169 [.inl a0, .inl a1, .inl a2] 3 M (qRi (fun x => 0 ≤ x ∧ x ≤ 1)) := by
  have hz : zP 169 = (zk_X10_within, 3, (0, 0)) := rfl
  have hd0 : 0 < d := by omega
  show zG n (0, 0) d 169 (0, [.inl a0, .inl a1, .inl a2], []) M _
  refine zG_blk (c' := (2, [.inl a0, .inl a1, .inl a2], [.inl a1, .inl a0])) 2 hd0 hz (by rfl) ?_
  have j15 : ∀ (v1 : Int) , 0 ≤ v1 ∧ v1 ≤ 1 → zG n (0, 0) d 169 (15, [.inl a0, .inl a1, .inl a2], [.inl v1]) M (fun v M' => M' = M ∧ qRi (fun x => 0 ≤ x ∧ x ≤ 1) v) := by
    intro v1 hv1
    exact zG_zret hd0 hz rfl (by omega) ⟨rfl, _, rfl, by omega⟩
  have j14 : zG n (0, 0) d 169 (14, [.inl a0, .inl a1, .inl a2], []) M (fun v M' => M' = M ∧ qRi (fun x => 0 ≤ x ∧ x ≤ 1) v) := by
    refine zG_blk (c' := (15, [.inl a0, .inl a1, .inl a2], [.inl 0])) 1 hd0 hz (by rfl) ?_
    exact j15 0 (by omega)
  refine zG_icmp_lt hd0 hz rfl (fun hb2 => ?_) (fun hb2 => ?_)
  · exact j14
  · refine zG_blk (c' := (7, [.inl a0, .inl a1, .inl a2], [.inl a2, .inl a0])) 2 hd0 hz (by rfl) ?_
    refine zG_icmp_gt hd0 hz rfl (fun hb3 => ?_) (fun hb3 => ?_)
    · exact j14
    · refine zG_blk (c' := (15, [.inl a0, .inl a1, .inl a2], [.inl 1])) 2 hd0 hz (by rfl) ?_
      exact j15 1 (by omega)
theorem qm_177_8 {n d : Nat} {M : zM} (hd : 2 ≤ d) (hC : qCI M)  : qOkP n d 177 [.inr (.inr (some 8))] 1 M (qRi (fun x => (-2147483648) ≤ x ∧ x ≤ 2147483647)) := by
  have hz : zP 177 = (zk_X10_allCourses, 1, (0, 0)) := rfl
  have hd0 : 0 < d := by omega
  show zG n (0, 0) d 177 (0, [.inr (.inr (some 8))], []) M _
  refine zG_blk (c' := (8, [.inr (.inr (some 8))], [.inr (.inr (some 10)), .inl 1])) 4 hd0 hz (by rfl) ?_
  refine zG_call hd0 hz (rfl : zP 101 = (zk_X8_size, 1, (0, 0))) rfl rfl (Nat.le_of_ble_eq_true rfl) ⟨Nat.le_refl _, Nat.le_refl _⟩ (qw_size (by omega) hC (⟨by decide, rfl, rfl⟩ : qT n 10 14 4) ) (fun vr M1 hr => ?_)
  obtain ⟨hq, x2, rfl, hx2⟩ := hr
  replace hq := hq.symm; subst hq
  show zG n (0, 0) d 177 (11, [.inr (.inr (some 8))], [.inl x2, .inl 1]) M _
  obtain ⟨x3, hx3⟩ : ∃ x : Int, x = zbshl 1 x2 := ⟨_, rfl⟩
  have hx3r : qin x3 := by rw [hx3]; exact qb32 _
  obtain ⟨x4, hx4⟩ : ∃ x : Int, x = w32 (x3 - 1) := ⟨_, rfl⟩
  have hx4r : x4 = (x3 - 1 + 2147483648) % 4294967296 - 2147483648 := hx4
  refine zG_blk (c' := (14, [.inr (.inr (some 8))], [.inl x4])) 3 hd0 hz (by subst hx4; subst hx3; rfl) ?_
  exact zG_ret hd0 hz rfl rfl ⟨rfl, _, rfl, by omega⟩
theorem qm_123_8 {n d : Nat} {M : zM} (hd : 3 ≤ d) (hC : qCI M) (a1 : Int) (ha1 : (-2147483648) ≤ a1 ∧ a1 ≤ 2147483647) (a2 : Int) (ha2 : (-2147483648) ≤ a2 ∧ a2 ≤ 2147483647) (a3 : Int) (ha3 : (-2147483648) ≤ a3 ∧ a3 ≤ 2147483647) (a4 : Int) (ha4 : (-2147483648) ≤ a4 ∧ a4 ≤ 2147483647) : qOkM n d 123 [.inr (.inr (some 8)), .inl a1, .inl a2, .inl a3, .inl a4] 6 qCI [10, 11] M (qRi (fun x => (-4) ≤ x ∧ x ≤ 13)) := by
  have hz : zP 123 = (zk_X10_course, 6, (0, 0)) := rfl
  have hd0 : 0 < d := by omega
  have hW : qFr [10, 11] M M := qFr.rfl
  show zG n (0, 0) d 123 (0, [.inr (.inr (some 8)), .inl a1, .inl a2, .inl a3, .inl a4, zN], []) M _
  refine zG_blk (c' := (4, [.inr (.inr (some 8)), .inl a1, .inl a2, .inl a3, .inl a4, zN], [.inl 60, .inl 1, .inl a1])) 3 hd0 hz (by rfl) ?_
  refine zG_call hd0 hz (rfl : zP 169 = (zk_X10_within, 3, (0, 0))) rfl rfl (Nat.le_of_ble_eq_true rfl) ⟨Nat.le_refl _, Nat.le_refl _⟩ (qm_169 (by omega) hC  a1 (by omega) 1 (by omega) 60 (by omega)) (fun vr M1 hr => ?_)
  obtain ⟨hq, x2, rfl, hx2⟩ := hr
  replace hq := hq.symm; subst hq
  show zG n (0, 0) d 123 (7, [.inr (.inr (some 8)), .inl a1, .inl a2, .inl a3, .inl a4, zN], [.inl x2]) M _
  have j22 : zG n (0, 0) d 123 (22, [.inr (.inr (some 8)), .inl a1, .inl a2, .inl a3, .inl a4, zN], []) M (fun v M' => qWf qCI [10, 11] M M' ∧ qRi (fun x => (-4) ≤ x ∧ x ≤ 13) v) := by
    refine zG_blk (c' := (24, [.inr (.inr (some 8)), .inl a1, .inl a2, .inl a3, .inl a4, zN], [.inl (-2)])) 1 hd0 hz (by rfl) ?_
    exact zG_ret hd0 hz rfl rfl ⟨⟨hC, hW⟩, _, rfl, by omega⟩
  refine zG_if_eq hd0 hz rfl (fun hb3 => ?_) (fun hb3 => ?_)
  · exact j22
  · refine zG_blk (c' := (13, [.inr (.inr (some 8)), .inl a1, .inl a2, .inl a3, .inl a4, zN], [.inr (.inr (some 8)), .inl 0, .inl a2])) 3 hd0 hz (by rfl) ?_
    refine zG_call hd0 hz (rfl : zP 177 = (zk_X10_allCourses, 1, (0, 0))) rfl rfl (Nat.le_of_ble_eq_true rfl) ⟨Nat.le_refl _, Nat.le_refl _⟩ (qm_177_8 (by omega) hC  ) (fun vr M4 hr => ?_)
    obtain ⟨hq, x5, rfl, hx5⟩ := hr
    replace hq := hq.symm; subst hq
    show zG n (0, 0) d 123 (16, [.inr (.inr (some 8)), .inl a1, .inl a2, .inl a3, .inl a4, zN], [.inl x5, .inl 0, .inl a2]) M _
    refine zG_call hd0 hz (rfl : zP 169 = (zk_X10_within, 3, (0, 0))) rfl rfl (Nat.le_of_ble_eq_true rfl) ⟨Nat.le_refl _, Nat.le_refl _⟩ (qm_169 (by omega) hC  a2 (by omega) 0 (by omega) x5 (by omega)) (fun vr M6 hr => ?_)
    obtain ⟨hq, x7, rfl, hx7⟩ := hr
    replace hq := hq.symm; subst hq
    show zG n (0, 0) d 123 (19, [.inr (.inr (some 8)), .inl a1, .inl a2, .inl a3, .inl a4, zN], [.inl x7]) M _
    refine zG_if_ne hd0 hz rfl (fun hb8 => ?_) (fun hb8 => ?_)
    · refine zG_blk (c' := (29, [.inr (.inr (some 8)), .inl a1, .inl a2, .inl a3, .inl a4, zN], [.inl 7, .inl 1, .inl a3])) 3 hd0 hz (by rfl) ?_
      refine zG_call hd0 hz (rfl : zP 169 = (zk_X10_within, 3, (0, 0))) rfl rfl (Nat.le_of_ble_eq_true rfl) ⟨Nat.le_refl _, Nat.le_refl _⟩ (qm_169 (by omega) hC  a3 (by omega) 1 (by omega) 7 (by omega)) (fun vr M9 hr => ?_)
      obtain ⟨hq, x10, rfl, hx10⟩ := hr
      replace hq := hq.symm; subst hq
      show zG n (0, 0) d 123 (32, [.inr (.inr (some 8)), .inl a1, .inl a2, .inl a3, .inl a4, zN], [.inl x10]) M _
      have j46 : zG n (0, 0) d 123 (46, [.inr (.inr (some 8)), .inl a1, .inl a2, .inl a3, .inl a4, zN], []) M (fun v M' => qWf qCI [10, 11] M M' ∧ qRi (fun x => (-4) ≤ x ∧ x ≤ 13) v) := by
        refine zG_blk (c' := (48, [.inr (.inr (some 8)), .inl a1, .inl a2, .inl a3, .inl a4, zN], [.inl (-2)])) 1 hd0 hz (by rfl) ?_
        exact zG_ret hd0 hz rfl rfl ⟨⟨hC, hW⟩, _, rfl, by omega⟩
      refine zG_if_eq hd0 hz rfl (fun hb11 => ?_) (fun hb11 => ?_)
      · exact j46
      · refine zG_blk (c' := (40, [.inr (.inr (some 8)), .inl a1, .inl a2, .inl a3, .inl a4, zN], [.inl 100, .inl 0, .inl a4])) 3 hd0 hz (by rfl) ?_
        refine zG_call hd0 hz (rfl : zP 169 = (zk_X10_within, 3, (0, 0))) rfl rfl (Nat.le_of_ble_eq_true rfl) ⟨Nat.le_refl _, Nat.le_refl _⟩ (qm_169 (by omega) hC  a4 (by omega) 0 (by omega) 100 (by omega)) (fun vr M12 hr => ?_)
        obtain ⟨hq, x13, rfl, hx13⟩ := hr
        replace hq := hq.symm; subst hq
        show zG n (0, 0) d 123 (43, [.inr (.inr (some 8)), .inl a1, .inl a2, .inl a3, .inl a4, zN], [.inl x13]) M _
        refine zG_if_ne hd0 hz rfl (fun hb14 => ?_) (fun hb14 => ?_)
        · refine zG_blk (c' := (56, [.inr (.inr (some 8)), .inl a1, .inl a2, .inl a3, .inl a4, zN], [.inr (.inr (some 10))])) 3 hd0 hz (by rfl) ?_
          refine zG_call hd0 hz (rfl : zP 103 = (zk_X8_open, 1, (0, 0))) rfl rfl (Nat.le_of_ble_eq_true rfl) ⟨Nat.le_refl _, Nat.le_refl _⟩ (qw_open (by omega) hC (⟨by decide, rfl, rfl⟩ : qT n 10 14 4) ) (fun vr M15 hr => ?_)
          obtain ⟨⟨hCM15, hFM15⟩, x16, rfl, hx16⟩ := hr
          have hWM15 : qFr [10, 11] M M15 := hW.tr hFM15 (by decide)
          show zG n (0, 0) d 123 (59, [.inr (.inr (some 8)), .inl a1, .inl a2, .inl a3, .inl a4, zN], [.inl x16]) M15 _
          refine zG_blk (c' := (72, [.inr (.inr (some 8)), .inl a1, .inl a2, .inl a3, .inl a4, .inl x16], [.inl a1, .inl 0, .inl x16, .inr (.inr (some 10))])) 7 hd0 hz (by rfl) ?_
          refine zG_call hd0 hz (rfl : zP 107 = (zk_X8_set, 4, (0, 0))) rfl rfl (Nat.le_of_ble_eq_true rfl) ⟨Nat.le_refl _, Nat.le_refl _⟩ (qw_set (by omega) hCM15 (⟨by decide, rfl, rfl⟩ : qT n 10 14 4) x16 (by omega) 0 (by omega) a1 (by omega)) (fun vr M17 hr => ?_)
          obtain ⟨⟨hCM17, hFM17⟩, rfl⟩ := hr
          have hWM17 : qFr [10, 11] M M17 := hWM15.tr hFM17 (by decide)
          show zG n (0, 0) d 123 (75, [.inr (.inr (some 8)), .inl a1, .inl a2, .inl a3, .inl a4, .inl x16], []) M17 _
          refine zG_blk (c' := (86, [.inr (.inr (some 8)), .inl a1, .inl a2, .inl a3, .inl a4, .inl x16], [.inl a2, .inl 1, .inl x16, .inr (.inr (some 10))])) 6 hd0 hz (by rfl) ?_
          refine zG_call hd0 hz (rfl : zP 107 = (zk_X8_set, 4, (0, 0))) rfl rfl (Nat.le_of_ble_eq_true rfl) ⟨Nat.le_refl _, Nat.le_refl _⟩ (qw_set (by omega) hCM17 (⟨by decide, rfl, rfl⟩ : qT n 10 14 4) x16 (by omega) 1 (by omega) a2 (by omega)) (fun vr M19 hr => ?_)
          obtain ⟨⟨hCM19, hFM19⟩, rfl⟩ := hr
          have hWM19 : qFr [10, 11] M M19 := hWM17.tr hFM19 (by decide)
          show zG n (0, 0) d 123 (89, [.inr (.inr (some 8)), .inl a1, .inl a2, .inl a3, .inl a4, .inl x16], []) M19 _
          refine zG_blk (c' := (100, [.inr (.inr (some 8)), .inl a1, .inl a2, .inl a3, .inl a4, .inl x16], [.inl a3, .inl 2, .inl x16, .inr (.inr (some 10))])) 6 hd0 hz (by rfl) ?_
          refine zG_call hd0 hz (rfl : zP 107 = (zk_X8_set, 4, (0, 0))) rfl rfl (Nat.le_of_ble_eq_true rfl) ⟨Nat.le_refl _, Nat.le_refl _⟩ (qw_set (by omega) hCM19 (⟨by decide, rfl, rfl⟩ : qT n 10 14 4) x16 (by omega) 2 (by omega) a3 (by omega)) (fun vr M21 hr => ?_)
          obtain ⟨⟨hCM21, hFM21⟩, rfl⟩ := hr
          have hWM21 : qFr [10, 11] M M21 := hWM19.tr hFM21 (by decide)
          show zG n (0, 0) d 123 (103, [.inr (.inr (some 8)), .inl a1, .inl a2, .inl a3, .inl a4, .inl x16], []) M21 _
          refine zG_blk (c' := (115, [.inr (.inr (some 8)), .inl a1, .inl a2, .inl a3, .inl a4, .inl x16], [.inl a4, .inl 3, .inl x16, .inr (.inr (some 10))])) 6 hd0 hz (by rfl) ?_
          refine zG_call hd0 hz (rfl : zP 107 = (zk_X8_set, 4, (0, 0))) rfl rfl (Nat.le_of_ble_eq_true rfl) ⟨Nat.le_refl _, Nat.le_refl _⟩ (qw_set (by omega) hCM21 (⟨by decide, rfl, rfl⟩ : qT n 10 14 4) x16 (by omega) 3 (by omega) a4 (by omega)) (fun vr M23 hr => ?_)
          obtain ⟨⟨hCM23, hFM23⟩, rfl⟩ := hr
          have hWM23 : qFr [10, 11] M M23 := hWM21.tr hFM23 (by decide)
          show zG n (0, 0) d 123 (118, [.inr (.inr (some 8)), .inl a1, .inl a2, .inl a3, .inl a4, .inl x16], []) M23 _
          refine zG_blk (c' := (120, [.inr (.inr (some 8)), .inl a1, .inl a2, .inl a3, .inl a4, .inl x16], [.inl x16])) 1 hd0 hz (by rfl) ?_
          exact zG_ret hd0 hz rfl rfl ⟨⟨hCM23, hWM23⟩, _, rfl, by omega⟩
        · exact j46
    · exact j22
theorem qm_170 {n d : Nat} {M : zM} (hd : 2 ≤ d) (hC : qCI M) (a0 : Int) (ha0 : (-2147483648) ≤ a0 ∧ a0 ≤ 2147483647) : qOkP n d 170 [.inl a0] 1 M (qRi (fun x => 0 ≤ x ∧ x ≤ 1)) := by
  have hz : zP 170 = (zk_X10_isDay, 1, (0, 0)) := rfl
  have hd0 : 0 < d := by omega
  show zG n (0, 0) d 170 (0, [.inl a0], []) M _
  refine zG_blk (c' := (5, [.inl a0], [.inl 9999, .inl 0, .inl a0])) 3 hd0 hz (by rfl) ?_
  refine zG_call hd0 hz (rfl : zP 169 = (zk_X10_within, 3, (0, 0))) rfl rfl (Nat.le_of_ble_eq_true rfl) ⟨Nat.le_refl _, Nat.le_refl _⟩ (qm_169 (by omega) hC  a0 (by omega) 0 (by omega) 9999 (by omega)) (fun vr M1 hr => ?_)
  obtain ⟨hq, x2, rfl, hx2⟩ := hr
  replace hq := hq.symm; subst hq
  show zG n (0, 0) d 170 (8, [.inl a0], [.inl x2]) M _
  exact zG_zret hd0 hz rfl (by omega) ⟨rfl, _, rfl, by omega⟩
theorem qm_124_8 {n d : Nat} {M : zM} (hd : 3 ≤ d) (hC : qCI M) (a1 : Int) (ha1 : (-2147483648) ≤ a1 ∧ a1 ≤ 2147483647) : qOkM n d 124 [.inr (.inr (some 8)), .inl a1] 3 qCI [12, 13] M (qRi (fun x => (-4) ≤ x ∧ x ≤ 19)) := by
  have hz : zP 124 = (zk_X10_student, 3, (0, 0)) := rfl
  have hd0 : 0 < d := by omega
  have hW : qFr [12, 13] M M := qFr.rfl
  show zG n (0, 0) d 124 (0, [.inr (.inr (some 8)), .inl a1, zN], []) M _
  refine zG_blk (c' := (1, [.inr (.inr (some 8)), .inl a1, zN], [.inl a1])) 1 hd0 hz (by rfl) ?_
  refine zG_call hd0 hz (rfl : zP 170 = (zk_X10_isDay, 1, (0, 0))) rfl rfl (Nat.le_of_ble_eq_true rfl) ⟨Nat.le_refl _, Nat.le_refl _⟩ (qm_170 (by omega) hC  a1 (by omega)) (fun vr M1 hr => ?_)
  obtain ⟨hq, x2, rfl, hx2⟩ := hr
  replace hq := hq.symm; subst hq
  show zG n (0, 0) d 124 (4, [.inr (.inr (some 8)), .inl a1, zN], [.inl x2]) M _
  refine zG_if_ne hd0 hz rfl (fun hb3 => ?_) (fun hb3 => ?_)
  · refine zG_blk (c' := (17, [.inr (.inr (some 8)), .inl a1, zN], [.inr (.inr (some 12))])) 3 hd0 hz (by rfl) ?_
    refine zG_call hd0 hz (rfl : zP 103 = (zk_X8_open, 1, (0, 0))) rfl rfl (Nat.le_of_ble_eq_true rfl) ⟨Nat.le_refl _, Nat.le_refl _⟩ (qw_open (by omega) hC (⟨by decide, rfl, rfl⟩ : qT n 12 20 3) ) (fun vr M4 hr => ?_)
    obtain ⟨⟨hCM4, hFM4⟩, x5, rfl, hx5⟩ := hr
    have hWM4 : qFr [12, 13] M M4 := hW.tr hFM4 (by decide)
    show zG n (0, 0) d 124 (20, [.inr (.inr (some 8)), .inl a1, zN], [.inl x5]) M4 _
    refine zG_blk (c' := (31, [.inr (.inr (some 8)), .inl a1, .inl x5], [.inl a1, .inl 0, .inl x5, .inr (.inr (some 12))])) 7 hd0 hz (by rfl) ?_
    refine zG_call hd0 hz (rfl : zP 107 = (zk_X8_set, 4, (0, 0))) rfl rfl (Nat.le_of_ble_eq_true rfl) ⟨Nat.le_refl _, Nat.le_refl _⟩ (qw_set (by omega) hCM4 (⟨by decide, rfl, rfl⟩ : qT n 12 20 3) x5 (by omega) 0 (by omega) a1 (by omega)) (fun vr M6 hr => ?_)
    obtain ⟨⟨hCM6, hFM6⟩, rfl⟩ := hr
    have hWM6 : qFr [12, 13] M M6 := hWM4.tr hFM6 (by decide)
    show zG n (0, 0) d 124 (34, [.inr (.inr (some 8)), .inl a1, .inl x5], []) M6 _
    refine zG_blk (c' := (44, [.inr (.inr (some 8)), .inl a1, .inl x5], [.inl (-1), .inl 1, .inl x5, .inr (.inr (some 12))])) 6 hd0 hz (by rfl) ?_
    refine zG_call hd0 hz (rfl : zP 107 = (zk_X8_set, 4, (0, 0))) rfl rfl (Nat.le_of_ble_eq_true rfl) ⟨Nat.le_refl _, Nat.le_refl _⟩ (qw_set (by omega) hCM6 (⟨by decide, rfl, rfl⟩ : qT n 12 20 3) x5 (by omega) 1 (by omega) (-1) (by omega)) (fun vr M8 hr => ?_)
    obtain ⟨⟨hCM8, hFM8⟩, rfl⟩ := hr
    have hWM8 : qFr [12, 13] M M8 := hWM6.tr hFM8 (by decide)
    show zG n (0, 0) d 124 (47, [.inr (.inr (some 8)), .inl a1, .inl x5], []) M8 _
    refine zG_blk (c' := (57, [.inr (.inr (some 8)), .inl a1, .inl x5], [.inl 0, .inl 2, .inl x5, .inr (.inr (some 12))])) 6 hd0 hz (by rfl) ?_
    refine zG_call hd0 hz (rfl : zP 107 = (zk_X8_set, 4, (0, 0))) rfl rfl (Nat.le_of_ble_eq_true rfl) ⟨Nat.le_refl _, Nat.le_refl _⟩ (qw_set (by omega) hCM8 (⟨by decide, rfl, rfl⟩ : qT n 12 20 3) x5 (by omega) 2 (by omega) 0 (by omega)) (fun vr M10 hr => ?_)
    obtain ⟨⟨hCM10, hFM10⟩, rfl⟩ := hr
    have hWM10 : qFr [12, 13] M M10 := hWM8.tr hFM10 (by decide)
    show zG n (0, 0) d 124 (60, [.inr (.inr (some 8)), .inl a1, .inl x5], []) M10 _
    refine zG_blk (c' := (61, [.inr (.inr (some 8)), .inl a1, .inl x5], [.inl x5])) 1 hd0 hz (by rfl) ?_
    exact zG_ret hd0 hz rfl rfl ⟨⟨hCM10, hWM10⟩, _, rfl, by omega⟩
  · refine zG_blk (c' := (9, [.inr (.inr (some 8)), .inl a1, zN], [.inl (-2)])) 1 hd0 hz (by rfl) ?_
    exact zG_ret hd0 hz rfl rfl ⟨⟨hC, hW⟩, _, rfl, by omega⟩
theorem qm_125_8 {n d : Nat} {M : zM} (hd : 2 ≤ d) (hC : qCI M) (a1 : Int) (ha1 : (-2147483648) ≤ a1 ∧ a1 ≤ 2147483647) (a2 : Int) (ha2 : (-2147483648) ≤ a2 ∧ a2 ≤ 2147483647) : qOkM n d 125 [.inr (.inr (some 8)), .inl a1, .inl a2] 4 qCI [14, 15] M (qRi (fun x => (-4) ≤ x ∧ x ≤ 3)) := by
  have hz : zP 125 = (zk_X10_board, 4, (0, 0)) := rfl
  have hd0 : 0 < d := by omega
  have hW : qFr [14, 15] M M := qFr.rfl
  show zG n (0, 0) d 125 (0, [.inr (.inr (some 8)), .inl a1, .inl a2, zN], []) M _
  refine zG_blk (c' := (5, [.inr (.inr (some 8)), .inl a1, .inl a2, zN], [.inl 1023, .inl 1, .inl a1])) 3 hd0 hz (by rfl) ?_
  refine zG_call hd0 hz (rfl : zP 169 = (zk_X10_within, 3, (0, 0))) rfl rfl (Nat.le_of_ble_eq_true rfl) ⟨Nat.le_refl _, Nat.le_refl _⟩ (qm_169 (by omega) hC  a1 (by omega) 1 (by omega) 1023 (by omega)) (fun vr M1 hr => ?_)
  obtain ⟨hq, x2, rfl, hx2⟩ := hr
  replace hq := hq.symm; subst hq
  show zG n (0, 0) d 125 (8, [.inr (.inr (some 8)), .inl a1, .inl a2, zN], [.inl x2]) M _
  have j21 : zG n (0, 0) d 125 (21, [.inr (.inr (some 8)), .inl a1, .inl a2, zN], []) M (fun v M' => qWf qCI [14, 15] M M' ∧ qRi (fun x => (-4) ≤ x ∧ x ≤ 3) v) := by
    refine zG_blk (c' := (23, [.inr (.inr (some 8)), .inl a1, .inl a2, zN], [.inl (-2)])) 1 hd0 hz (by rfl) ?_
    exact zG_ret hd0 hz rfl rfl ⟨⟨hC, hW⟩, _, rfl, by omega⟩
  refine zG_if_eq hd0 hz rfl (fun hb3 => ?_) (fun hb3 => ?_)
  · exact j21
  · refine zG_blk (c' := (15, [.inr (.inr (some 8)), .inl a1, .inl a2, zN], [.inl 10, .inl 1, .inl a2])) 3 hd0 hz (by rfl) ?_
    refine zG_call hd0 hz (rfl : zP 169 = (zk_X10_within, 3, (0, 0))) rfl rfl (Nat.le_of_ble_eq_true rfl) ⟨Nat.le_refl _, Nat.le_refl _⟩ (qm_169 (by omega) hC  a2 (by omega) 1 (by omega) 10 (by omega)) (fun vr M4 hr => ?_)
    obtain ⟨hq, x5, rfl, hx5⟩ := hr
    replace hq := hq.symm; subst hq
    show zG n (0, 0) d 125 (18, [.inr (.inr (some 8)), .inl a1, .inl a2, zN], [.inl x5]) M _
    refine zG_if_ne hd0 hz rfl (fun hb6 => ?_) (fun hb6 => ?_)
    · refine zG_blk (c' := (31, [.inr (.inr (some 8)), .inl a1, .inl a2, zN], [.inr (.inr (some 14))])) 3 hd0 hz (by rfl) ?_
      refine zG_call hd0 hz (rfl : zP 103 = (zk_X8_open, 1, (0, 0))) rfl rfl (Nat.le_of_ble_eq_true rfl) ⟨Nat.le_refl _, Nat.le_refl _⟩ (qw_open (by omega) hC (⟨by decide, rfl, rfl⟩ : qT n 14 4 2) ) (fun vr M7 hr => ?_)
      obtain ⟨⟨hCM7, hFM7⟩, x8, rfl, hx8⟩ := hr
      have hWM7 : qFr [14, 15] M M7 := hW.tr hFM7 (by decide)
      show zG n (0, 0) d 125 (34, [.inr (.inr (some 8)), .inl a1, .inl a2, zN], [.inl x8]) M7 _
      refine zG_blk (c' := (45, [.inr (.inr (some 8)), .inl a1, .inl a2, .inl x8], [.inl a1, .inl 0, .inl x8, .inr (.inr (some 14))])) 7 hd0 hz (by rfl) ?_
      refine zG_call hd0 hz (rfl : zP 107 = (zk_X8_set, 4, (0, 0))) rfl rfl (Nat.le_of_ble_eq_true rfl) ⟨Nat.le_refl _, Nat.le_refl _⟩ (qw_set (by omega) hCM7 (⟨by decide, rfl, rfl⟩ : qT n 14 4 2) x8 (by omega) 0 (by omega) a1 (by omega)) (fun vr M9 hr => ?_)
      obtain ⟨⟨hCM9, hFM9⟩, rfl⟩ := hr
      have hWM9 : qFr [14, 15] M M9 := hWM7.tr hFM9 (by decide)
      show zG n (0, 0) d 125 (48, [.inr (.inr (some 8)), .inl a1, .inl a2, .inl x8], []) M9 _
      refine zG_blk (c' := (58, [.inr (.inr (some 8)), .inl a1, .inl a2, .inl x8], [.inl a2, .inl 1, .inl x8, .inr (.inr (some 14))])) 6 hd0 hz (by rfl) ?_
      refine zG_call hd0 hz (rfl : zP 107 = (zk_X8_set, 4, (0, 0))) rfl rfl (Nat.le_of_ble_eq_true rfl) ⟨Nat.le_refl _, Nat.le_refl _⟩ (qw_set (by omega) hCM9 (⟨by decide, rfl, rfl⟩ : qT n 14 4 2) x8 (by omega) 1 (by omega) a2 (by omega)) (fun vr M11 hr => ?_)
      obtain ⟨⟨hCM11, hFM11⟩, rfl⟩ := hr
      have hWM11 : qFr [14, 15] M M11 := hWM9.tr hFM11 (by decide)
      show zG n (0, 0) d 125 (61, [.inr (.inr (some 8)), .inl a1, .inl a2, .inl x8], []) M11 _
      refine zG_blk (c' := (62, [.inr (.inr (some 8)), .inl a1, .inl a2, .inl x8], [.inl x8])) 1 hd0 hz (by rfl) ?_
      exact zG_ret hd0 hz rfl rfl ⟨⟨hCM11, hWM11⟩, _, rfl, by omega⟩
    · exact j21
theorem qm_126_8 {n d : Nat} {M : zM} (hd : 3 ≤ d) (hC : qCI M) (a1 : Int) (ha1 : (-2147483648) ≤ a1 ∧ a1 ≤ 2147483647) (a2 : Int) (ha2 : (-2147483648) ≤ a2 ∧ a2 ≤ 2147483647) (a3 : Int) (ha3 : (-2147483648) ≤ a3 ∧ a3 ≤ 2147483647) (a4 : Int) (ha4 : (-2147483648) ≤ a4 ∧ a4 ≤ 2147483647) : qOkM n d 126 [.inr (.inr (some 8)), .inl a1, .inl a2, .inl a3, .inl a4] 6 qCI [16, 17] M (qRi (fun x => (-4) ≤ x ∧ x ≤ 39)) := by
  have hz : zP 126 = (zk_X10_meeting, 6, (0, 0)) := rfl
  have hd0 : 0 < d := by omega
  have hW : qFr [16, 17] M M := qFr.rfl
  show zG n (0, 0) d 126 (0, [.inr (.inr (some 8)), .inl a1, .inl a2, .inl a3, .inl a4, zN], []) M _
  refine zG_blk (c' := (8, [.inr (.inr (some 8)), .inl a1, .inl a2, .inl a3, .inl a4, zN], [.inl a1, .inr (.inr (some 14))])) 4 hd0 hz (by rfl) ?_
  refine zG_call hd0 hz (rfl : zP 102 = (zk_X8_has, 2, (0, 0))) rfl rfl (Nat.le_of_ble_eq_true rfl) ⟨Nat.le_refl _, Nat.le_refl _⟩ (qw_has (by omega) hC (⟨by decide, rfl, rfl⟩ : qT n 14 4 2) a1 (by omega)) (fun vr M1 hr => ?_)
  obtain ⟨hq, x2, rfl, hx2⟩ := hr
  replace hq := hq.symm; subst hq
  show zG n (0, 0) d 126 (11, [.inr (.inr (some 8)), .inl a1, .inl a2, .inl a3, .inl a4, zN], [.inl x2]) M _
  have j21 : zG n (0, 0) d 126 (21, [.inr (.inr (some 8)), .inl a1, .inl a2, .inl a3, .inl a4, zN], []) M (fun v M' => qWf qCI [16, 17] M M' ∧ qRi (fun x => (-4) ≤ x ∧ x ≤ 39) v) := by
    refine zG_blk (c' := (23, [.inr (.inr (some 8)), .inl a1, .inl a2, .inl a3, .inl a4, zN], [.inl (-2)])) 1 hd0 hz (by rfl) ?_
    exact zG_ret hd0 hz rfl rfl ⟨⟨hC, hW⟩, _, rfl, by omega⟩
  refine zG_if_eq hd0 hz rfl (fun hb3 => ?_) (fun hb3 => ?_)
  · exact j21
  · refine zG_blk (c' := (15, [.inr (.inr (some 8)), .inl a1, .inl a2, .inl a3, .inl a4, zN], [.inl a2])) 1 hd0 hz (by rfl) ?_
    refine zG_call hd0 hz (rfl : zP 170 = (zk_X10_isDay, 1, (0, 0))) rfl rfl (Nat.le_of_ble_eq_true rfl) ⟨Nat.le_refl _, Nat.le_refl _⟩ (qm_170 (by omega) hC  a2 (by omega)) (fun vr M4 hr => ?_)
    obtain ⟨hq, x5, rfl, hx5⟩ := hr
    replace hq := hq.symm; subst hq
    show zG n (0, 0) d 126 (18, [.inr (.inr (some 8)), .inl a1, .inl a2, .inl a3, .inl a4, zN], [.inl x5]) M _
    refine zG_if_ne hd0 hz rfl (fun hb6 => ?_) (fun hb6 => ?_)
    · refine zG_blk (c' := (29, [.inr (.inr (some 8)), .inl a1, .inl a2, .inl a3, .inl a4, zN], [.inl 1023, .inl 0, .inl a3])) 3 hd0 hz (by rfl) ?_
      refine zG_call hd0 hz (rfl : zP 169 = (zk_X10_within, 3, (0, 0))) rfl rfl (Nat.le_of_ble_eq_true rfl) ⟨Nat.le_refl _, Nat.le_refl _⟩ (qm_169 (by omega) hC  a3 (by omega) 0 (by omega) 1023 (by omega)) (fun vr M7 hr => ?_)
      obtain ⟨hq, x8, rfl, hx8⟩ := hr
      replace hq := hq.symm; subst hq
      show zG n (0, 0) d 126 (32, [.inr (.inr (some 8)), .inl a1, .inl a2, .inl a3, .inl a4, zN], [.inl x8]) M _
      have j47 : zG n (0, 0) d 126 (47, [.inr (.inr (some 8)), .inl a1, .inl a2, .inl a3, .inl a4, zN], []) M (fun v M' => qWf qCI [16, 17] M M' ∧ qRi (fun x => (-4) ≤ x ∧ x ≤ 39) v) := by
        refine zG_blk (c' := (49, [.inr (.inr (some 8)), .inl a1, .inl a2, .inl a3, .inl a4, zN], [.inl (-2)])) 1 hd0 hz (by rfl) ?_
        exact zG_ret hd0 hz rfl rfl ⟨⟨hC, hW⟩, _, rfl, by omega⟩
      refine zG_if_eq hd0 hz rfl (fun hb9 => ?_) (fun hb9 => ?_)
      · exact j47
      · refine zG_blk (c' := (41, [.inr (.inr (some 8)), .inl a1, .inl a2, .inl a3, .inl a4, zN], [.inl 1023, .inl 0, .inl a4])) 3 hd0 hz (by rfl) ?_
        refine zG_call hd0 hz (rfl : zP 169 = (zk_X10_within, 3, (0, 0))) rfl rfl (Nat.le_of_ble_eq_true rfl) ⟨Nat.le_refl _, Nat.le_refl _⟩ (qm_169 (by omega) hC  a4 (by omega) 0 (by omega) 1023 (by omega)) (fun vr M10 hr => ?_)
        obtain ⟨hq, x11, rfl, hx11⟩ := hr
        replace hq := hq.symm; subst hq
        show zG n (0, 0) d 126 (44, [.inr (.inr (some 8)), .inl a1, .inl a2, .inl a3, .inl a4, zN], [.inl x11]) M _
        refine zG_if_ne hd0 hz rfl (fun hb12 => ?_) (fun hb12 => ?_)
        · refine zG_blk (c' := (57, [.inr (.inr (some 8)), .inl a1, .inl a2, .inl a3, .inl a4, zN], [.inr (.inr (some 16))])) 3 hd0 hz (by rfl) ?_
          refine zG_call hd0 hz (rfl : zP 103 = (zk_X8_open, 1, (0, 0))) rfl rfl (Nat.le_of_ble_eq_true rfl) ⟨Nat.le_refl _, Nat.le_refl _⟩ (qw_open (by omega) hC (⟨by decide, rfl, rfl⟩ : qT n 16 40 5) ) (fun vr M13 hr => ?_)
          obtain ⟨⟨hCM13, hFM13⟩, x14, rfl, hx14⟩ := hr
          have hWM13 : qFr [16, 17] M M13 := hW.tr hFM13 (by decide)
          show zG n (0, 0) d 126 (60, [.inr (.inr (some 8)), .inl a1, .inl a2, .inl a3, .inl a4, zN], [.inl x14]) M13 _
          refine zG_blk (c' := (73, [.inr (.inr (some 8)), .inl a1, .inl a2, .inl a3, .inl a4, .inl x14], [.inl a1, .inl 0, .inl x14, .inr (.inr (some 16))])) 7 hd0 hz (by rfl) ?_
          refine zG_call hd0 hz (rfl : zP 107 = (zk_X8_set, 4, (0, 0))) rfl rfl (Nat.le_of_ble_eq_true rfl) ⟨Nat.le_refl _, Nat.le_refl _⟩ (qw_set (by omega) hCM13 (⟨by decide, rfl, rfl⟩ : qT n 16 40 5) x14 (by omega) 0 (by omega) a1 (by omega)) (fun vr M15 hr => ?_)
          obtain ⟨⟨hCM15, hFM15⟩, rfl⟩ := hr
          have hWM15 : qFr [16, 17] M M15 := hWM13.tr hFM15 (by decide)
          show zG n (0, 0) d 126 (76, [.inr (.inr (some 8)), .inl a1, .inl a2, .inl a3, .inl a4, .inl x14], []) M15 _
          refine zG_blk (c' := (87, [.inr (.inr (some 8)), .inl a1, .inl a2, .inl a3, .inl a4, .inl x14], [.inl a2, .inl 1, .inl x14, .inr (.inr (some 16))])) 6 hd0 hz (by rfl) ?_
          refine zG_call hd0 hz (rfl : zP 107 = (zk_X8_set, 4, (0, 0))) rfl rfl (Nat.le_of_ble_eq_true rfl) ⟨Nat.le_refl _, Nat.le_refl _⟩ (qw_set (by omega) hCM15 (⟨by decide, rfl, rfl⟩ : qT n 16 40 5) x14 (by omega) 1 (by omega) a2 (by omega)) (fun vr M17 hr => ?_)
          obtain ⟨⟨hCM17, hFM17⟩, rfl⟩ := hr
          have hWM17 : qFr [16, 17] M M17 := hWM15.tr hFM17 (by decide)
          show zG n (0, 0) d 126 (90, [.inr (.inr (some 8)), .inl a1, .inl a2, .inl a3, .inl a4, .inl x14], []) M17 _
          refine zG_blk (c' := (101, [.inr (.inr (some 8)), .inl a1, .inl a2, .inl a3, .inl a4, .inl x14], [.inl a3, .inl 2, .inl x14, .inr (.inr (some 16))])) 6 hd0 hz (by rfl) ?_
          refine zG_call hd0 hz (rfl : zP 107 = (zk_X8_set, 4, (0, 0))) rfl rfl (Nat.le_of_ble_eq_true rfl) ⟨Nat.le_refl _, Nat.le_refl _⟩ (qw_set (by omega) hCM17 (⟨by decide, rfl, rfl⟩ : qT n 16 40 5) x14 (by omega) 2 (by omega) a3 (by omega)) (fun vr M19 hr => ?_)
          obtain ⟨⟨hCM19, hFM19⟩, rfl⟩ := hr
          have hWM19 : qFr [16, 17] M M19 := hWM17.tr hFM19 (by decide)
          show zG n (0, 0) d 126 (104, [.inr (.inr (some 8)), .inl a1, .inl a2, .inl a3, .inl a4, .inl x14], []) M19 _
          refine zG_blk (c' := (116, [.inr (.inr (some 8)), .inl a1, .inl a2, .inl a3, .inl a4, .inl x14], [.inl a4, .inl 3, .inl x14, .inr (.inr (some 16))])) 6 hd0 hz (by rfl) ?_
          refine zG_call hd0 hz (rfl : zP 107 = (zk_X8_set, 4, (0, 0))) rfl rfl (Nat.le_of_ble_eq_true rfl) ⟨Nat.le_refl _, Nat.le_refl _⟩ (qw_set (by omega) hCM19 (⟨by decide, rfl, rfl⟩ : qT n 16 40 5) x14 (by omega) 3 (by omega) a4 (by omega)) (fun vr M21 hr => ?_)
          obtain ⟨⟨hCM21, hFM21⟩, rfl⟩ := hr
          have hWM21 : qFr [16, 17] M M21 := hWM19.tr hFM21 (by decide)
          show zG n (0, 0) d 126 (119, [.inr (.inr (some 8)), .inl a1, .inl a2, .inl a3, .inl a4, .inl x14], []) M21 _
          refine zG_blk (c' := (130, [.inr (.inr (some 8)), .inl a1, .inl a2, .inl a3, .inl a4, .inl x14], [.inl 0, .inl 4, .inl x14, .inr (.inr (some 16))])) 6 hd0 hz (by rfl) ?_
          refine zG_call hd0 hz (rfl : zP 107 = (zk_X8_set, 4, (0, 0))) rfl rfl (Nat.le_of_ble_eq_true rfl) ⟨Nat.le_refl _, Nat.le_refl _⟩ (qw_set (by omega) hCM21 (⟨by decide, rfl, rfl⟩ : qT n 16 40 5) x14 (by omega) 4 (by omega) 0 (by omega)) (fun vr M23 hr => ?_)
          obtain ⟨⟨hCM23, hFM23⟩, rfl⟩ := hr
          have hWM23 : qFr [16, 17] M M23 := hWM21.tr hFM23 (by decide)
          show zG n (0, 0) d 126 (133, [.inr (.inr (some 8)), .inl a1, .inl a2, .inl a3, .inl a4, .inl x14], []) M23 _
          refine zG_blk (c' := (135, [.inr (.inr (some 8)), .inl a1, .inl a2, .inl a3, .inl a4, .inl x14], [.inl x14])) 1 hd0 hz (by rfl) ?_
          exact zG_ret hd0 hz rfl rfl ⟨⟨hCM23, hWM23⟩, _, rfl, by omega⟩
        · exact j47
    · exact j21
theorem qm_127_8 {n d : Nat} {M : zM} (hd : 2 ≤ d) (hC : qCI M) (a1 : Int) (ha1 : (-2147483648) ≤ a1 ∧ a1 ≤ 2147483647) (a2 : Int) (ha2 : 0 ≤ a2 ∧ a2 ≤ 1) : qOkM n d 127 [.inr (.inr (some 8)), .inl a1, .inl a2] 4 qCI [17] M (qRi (fun x => (-3) ≤ x ∧ x ≤ 1)) := by
  have hz : zP 127 = (zk_X10_tear, 4, (0, 0)) := rfl
  have hd0 : 0 < d := by omega
  have hW : qFr [17] M M := qFr.rfl
  show zG n (0, 0) d 127 (0, [.inr (.inr (some 8)), .inl a1, .inl a2, zN], []) M _
  refine zG_blk (c' := (8, [.inr (.inr (some 8)), .inl a1, .inl a2, zN], [.inl a1, .inr (.inr (some 16))])) 4 hd0 hz (by rfl) ?_
  refine zG_call hd0 hz (rfl : zP 102 = (zk_X8_has, 2, (0, 0))) rfl rfl (Nat.le_of_ble_eq_true rfl) ⟨Nat.le_refl _, Nat.le_refl _⟩ (qw_has (by omega) hC (⟨by decide, rfl, rfl⟩ : qT n 16 40 5) a1 (by omega)) (fun vr M1 hr => ?_)
  obtain ⟨hq, x2, rfl, hx2⟩ := hr
  replace hq := hq.symm; subst hq
  show zG n (0, 0) d 127 (11, [.inr (.inr (some 8)), .inl a1, .inl a2, zN], [.inl x2]) M _
  refine zG_if_ne hd0 hz rfl (fun hb3 => ?_) (fun hb3 => ?_)
  · refine zG_blk (c' := (18, [.inr (.inr (some 8)), .inl a1, .inl a2, zN], [.inl a2])) 1 hd0 hz (by rfl) ?_
    have j26 : ∀ (v4 : Int) , 0 ≤ v4 ∧ v4 ≤ 1 → zG n (0, 0) d 127 (26, [.inr (.inr (some 8)), .inl a1, .inl a2, zN], [.inl v4]) M (fun v M' => qWf qCI [17] M M' ∧ qRi (fun x => (-3) ≤ x ∧ x ≤ 1) v) := by
      intro v4 hv4
      refine zG_blk (c' := (36, [.inr (.inr (some 8)), .inl a1, .inl a2, .inl v4], [.inl 4, .inl a1, .inr (.inr (some 16))])) 6 hd0 hz (by rfl) ?_
      refine zG_call hd0 hz (rfl : zP 106 = (zk_X8_get, 3, (0, 0))) rfl rfl (Nat.le_of_ble_eq_true rfl) ⟨Nat.le_refl _, Nat.le_refl _⟩ (qw_get (by omega) hC (⟨by decide, rfl, rfl⟩ : qT n 16 40 5) a1 (by omega) 4 (by omega)) (fun vr M5 hr => ?_)
      obtain ⟨hq, x6, rfl, hx6⟩ := hr
      replace hq := hq.symm; subst hq
      show zG n (0, 0) d 127 (39, [.inr (.inr (some 8)), .inl a1, .inl a2, .inl v4], [.inl x6]) M _
      refine zG_blk (c' := (40, [.inr (.inr (some 8)), .inl a1, .inl a2, .inl v4], [.inl v4, .inl x6])) 1 hd0 hz (by rfl) ?_
      refine zG_icmp_ne hd0 hz rfl (fun hb7 => ?_) (fun hb7 => ?_)
      · refine zG_blk (c' := (56, [.inr (.inr (some 8)), .inl a1, .inl a2, .inl v4], [.inl v4, .inl 4, .inl a1, .inr (.inr (some 16))])) 6 hd0 hz (by rfl) ?_
        refine zG_call hd0 hz (rfl : zP 107 = (zk_X8_set, 4, (0, 0))) rfl rfl (Nat.le_of_ble_eq_true rfl) ⟨Nat.le_refl _, Nat.le_refl _⟩ (qw_set (by omega) hC (⟨by decide, rfl, rfl⟩ : qT n 16 40 5) a1 (by omega) 4 (by omega) v4 (by omega)) (fun vr M8 hr => ?_)
        obtain ⟨⟨hCM8, hFM8⟩, rfl⟩ := hr
        have hWM8 : qFr [17] M M8 := hW.tr hFM8 (by decide)
        show zG n (0, 0) d 127 (59, [.inr (.inr (some 8)), .inl a1, .inl a2, .inl v4], []) M8 _
        refine zG_blk (c' := (60, [.inr (.inr (some 8)), .inl a1, .inl a2, .inl v4], [.inl 1])) 1 hd0 hz (by rfl) ?_
        exact zG_ret hd0 hz rfl rfl ⟨⟨hCM8, hWM8⟩, _, rfl, by omega⟩
      · refine zG_blk (c' := (45, [.inr (.inr (some 8)), .inl a1, .inl a2, .inl v4], [.inl (-3)])) 1 hd0 hz (by rfl) ?_
        exact zG_ret hd0 hz rfl rfl ⟨⟨hC, hW⟩, _, rfl, by omega⟩
    refine zG_if_eq hd0 hz rfl (fun hb10 => ?_) (fun hb10 => ?_)
    · refine zG_blk (c' := (26, [.inr (.inr (some 8)), .inl a1, .inl a2, zN], [.inl 0])) 1 hd0 hz (by rfl) ?_
      exact j26 0 (by omega)
    · refine zG_blk (c' := (26, [.inr (.inr (some 8)), .inl a1, .inl a2, zN], [.inl 1])) 2 hd0 hz (by rfl) ?_
      exact j26 1 (by omega)
  · refine zG_blk (c' := (16, [.inr (.inr (some 8)), .inl a1, .inl a2, zN], [.inl (-2)])) 1 hd0 hz (by rfl) ?_
    exact zG_ret hd0 hz rfl rfl ⟨⟨hC, hW⟩, _, rfl, by omega⟩
theorem qm_296 {n d : Nat} {M : zM} (hd : 1 ≤ d) (hC : qCI M) (a0 : Int) (ha0 : (-2147483648) ≤ a0 ∧ a0 ≤ 2147483647) : qOkP n d 296 [.inl a0] 1 M (qRi (fun x => 0 ≤ x ∧ x ≤ 63)) := by
  have hz : zP 296 = (zk_J6_bitCount_0f7a4, 1, (0, 0)) := rfl
  have hd0 : 0 < d := by omega
  show zG n (0, 0) d 296 (0, [.inl a0], []) M _
  obtain ⟨x1, hx1⟩ : ∃ x : Int, x = zbushr a0 1 := ⟨_, rfl⟩
  have hx1r : qin x1 := by rw [hx1]; exact qb32 _
  obtain ⟨x2, hx2⟩ : ∃ x : Int, x = zband x1 1431655765 := ⟨_, rfl⟩
  have hx2r := qband_r x1 1431655765 (by omega) (by omega); rw [← hx2] at hx2r
  obtain ⟨x3, hx3⟩ : ∃ x : Int, x = w32 (a0 - x2) := ⟨_, rfl⟩
  have hx3r : x3 = (a0 - x2 + 2147483648) % 4294967296 - 2147483648 := hx3
  obtain ⟨x4, hx4⟩ : ∃ x : Int, x = zband x3 858993459 := ⟨_, rfl⟩
  have hx4r := qband_r x3 858993459 (by omega) (by omega); rw [← hx4] at hx4r
  obtain ⟨x5, hx5⟩ : ∃ x : Int, x = zbushr x3 2 := ⟨_, rfl⟩
  have hx5r : qin x5 := by rw [hx5]; exact qb32 _
  obtain ⟨x6, hx6⟩ : ∃ x : Int, x = zband x5 858993459 := ⟨_, rfl⟩
  have hx6r := qband_r x5 858993459 (by omega) (by omega); rw [← hx6] at hx6r
  obtain ⟨x7, hx7⟩ : ∃ x : Int, x = w32 (x4 + x6) := ⟨_, rfl⟩
  have hx7e : x7 = x4 + x6 := by rw [hx7]; exact w32_id (by omega)
  obtain ⟨x8, hx8⟩ : ∃ x : Int, x = zbushr x7 4 := ⟨_, rfl⟩
  have hx8r : qin x8 := by rw [hx8]; exact qb32 _
  obtain ⟨x9, hx9⟩ : ∃ x : Int, x = w32 (x7 + x8) := ⟨_, rfl⟩
  have hx9r : x9 = (x7 + x8 + 2147483648) % 4294967296 - 2147483648 := hx9
  obtain ⟨x10, hx10⟩ : ∃ x : Int, x = zband x9 252645135 := ⟨_, rfl⟩
  have hx10r := qband_r x9 252645135 (by omega) (by omega); rw [← hx10] at hx10r
  obtain ⟨x11, hx11⟩ : ∃ x : Int, x = zbushr x10 8 := ⟨_, rfl⟩
  have hx11r : qin x11 := by rw [hx11]; exact qb32 _
  obtain ⟨x12, hx12⟩ : ∃ x : Int, x = w32 (x10 + x11) := ⟨_, rfl⟩
  have hx12r : x12 = (x10 + x11 + 2147483648) % 4294967296 - 2147483648 := hx12
  obtain ⟨x13, hx13⟩ : ∃ x : Int, x = zbushr x12 16 := ⟨_, rfl⟩
  have hx13r : qin x13 := by rw [hx13]; exact qb32 _
  obtain ⟨x14, hx14⟩ : ∃ x : Int, x = w32 (x12 + x13) := ⟨_, rfl⟩
  have hx14r : x14 = (x12 + x13 + 2147483648) % 4294967296 - 2147483648 := hx14
  obtain ⟨x15, hx15⟩ : ∃ x : Int, x = zband x14 63 := ⟨_, rfl⟩
  have hx15r := qband_r x14 63 (by omega) (by omega); rw [← hx15] at hx15r
  refine zG_blk (c' := (52, [.inl x14], [.inl x15])) 41 hd0 hz (by subst hx15; subst hx14; subst hx13; subst hx12; subst hx11; subst hx10; subst hx9; subst hx8; subst hx7; subst hx6; subst hx5; subst hx4; subst hx3; subst hx2; subst hx1; rfl) ?_
  exact zG_ret hd0 hz rfl rfl ⟨rfl, _, rfl, by omega⟩
theorem qm_20_9 {n d : Nat} {M : zM} (hd : 2 ≤ d) (hC : qCI M) (a1 : Int) (ha1 : (-2147483648) ≤ a1 ∧ a1 ≤ 2147483647) : qOkP n d 20 [.inr (.inr (some 9)), .inl a1] 5 M (qRi (fun x => 0 ≤ x ∧ x ≤ 1)) := by
  have hz : zP 20 = (zk_X2_isStanding, 5, (0, 0)) := rfl
  have hd0 : 0 < d := by omega
  show zG n (0, 0) d 20 (0, [.inr (.inr (some 9)), .inl a1, zN, zN, zN], []) M _
  refine zG_blk (c' := (5, [.inr (.inr (some 9)), .inl a1, zN, zN, zN], [.inl a1, .inr (.inr (some 16))])) 3 hd0 hz (by rfl) ?_
  refine zG_call hd0 hz (rfl : zP 102 = (zk_X8_has, 2, (0, 0))) rfl rfl (Nat.le_of_ble_eq_true rfl) ⟨Nat.le_refl _, Nat.le_refl _⟩ (qw_has (by omega) hC (⟨by decide, rfl, rfl⟩ : qT n 16 40 5) a1 (by omega)) (fun vr M1 hr => ?_)
  obtain ⟨hq, x2, rfl, hx2⟩ := hr
  replace hq := hq.symm; subst hq
  show zG n (0, 0) d 20 (8, [.inr (.inr (some 9)), .inl a1, zN, zN, zN], [.inl x2]) M _
  have j24 : zG n (0, 0) d 20 (24, [.inr (.inr (some 9)), .inl a1, zN, zN, zN], []) M (fun v M' => M' = M ∧ qRi (fun x => 0 ≤ x ∧ x ≤ 1) v) := by
    refine zG_blk (c' := (25, [.inr (.inr (some 9)), .inl a1, zN, zN, zN], [.inl 0])) 1 hd0 hz (by rfl) ?_
    exact zG_ret hd0 hz rfl rfl ⟨rfl, _, rfl, by omega⟩
  refine zG_if_eq hd0 hz rfl (fun hb3 => ?_) (fun hb3 => ?_)
  · exact j24
  · refine zG_blk (c' := (17, [.inr (.inr (some 9)), .inl a1, zN, zN, zN], [.inl 4, .inl a1, .inr (.inr (some 16))])) 4 hd0 hz (by rfl) ?_
    refine zG_call hd0 hz (rfl : zP 106 = (zk_X8_get, 3, (0, 0))) rfl rfl (Nat.le_of_ble_eq_true rfl) ⟨Nat.le_refl _, Nat.le_refl _⟩ (qw_get (by omega) hC (⟨by decide, rfl, rfl⟩ : qT n 16 40 5) a1 (by omega) 4 (by omega)) (fun vr M4 hr => ?_)
    obtain ⟨hq, x5, rfl, hx5⟩ := hr
    replace hq := hq.symm; subst hq
    show zG n (0, 0) d 20 (20, [.inr (.inr (some 9)), .inl a1, zN, zN, zN], [.inl x5]) M _
    refine zG_blk (c' := (21, [.inr (.inr (some 9)), .inl a1, zN, zN, zN], [.inl 1, .inl x5])) 1 hd0 hz (by rfl) ?_
    refine zG_icmp_ne hd0 hz rfl (fun hb6 => ?_) (fun hb6 => ?_)
    · refine zG_blk (c' := (32, [.inr (.inr (some 9)), .inl a1, zN, zN, zN], [.inl 0, .inl a1, .inr (.inr (some 16))])) 4 hd0 hz (by rfl) ?_
      refine zG_call hd0 hz (rfl : zP 106 = (zk_X8_get, 3, (0, 0))) rfl rfl (Nat.le_of_ble_eq_true rfl) ⟨Nat.le_refl _, Nat.le_refl _⟩ (qw_get (by omega) hC (⟨by decide, rfl, rfl⟩ : qT n 16 40 5) a1 (by omega) 0 (by omega)) (fun vr M7 hr => ?_)
      obtain ⟨hq, x8, rfl, hx8⟩ := hr
      replace hq := hq.symm; subst hq
      show zG n (0, 0) d 20 (35, [.inr (.inr (some 9)), .inl a1, zN, zN, zN], [.inl x8]) M _
      refine zG_blk (c' := (42, [.inr (.inr (some 9)), .inl a1, .inl x8, zN, zN], [.inl 0, .inl x8, .inr (.inr (some 14))])) 5 hd0 hz (by rfl) ?_
      refine zG_call hd0 hz (rfl : zP 106 = (zk_X8_get, 3, (0, 0))) rfl rfl (Nat.le_of_ble_eq_true rfl) ⟨Nat.le_refl _, Nat.le_refl _⟩ (qw_get (by omega) hC (⟨by decide, rfl, rfl⟩ : qT n 14 4 2) x8 (by omega) 0 (by omega)) (fun vr M9 hr => ?_)
      obtain ⟨hq, x10, rfl, hx10⟩ := hr
      replace hq := hq.symm; subst hq
      show zG n (0, 0) d 20 (45, [.inr (.inr (some 9)), .inl a1, .inl x8, zN, zN], [.inl x10]) M _
      refine zG_blk (c' := (53, [.inr (.inr (some 9)), .inl a1, .inl x8, .inl x10, zN], [.inl 2, .inl a1, .inr (.inr (some 16)), .inl x10])) 6 hd0 hz (by rfl) ?_
      refine zG_call hd0 hz (rfl : zP 106 = (zk_X8_get, 3, (0, 0))) rfl rfl (Nat.le_of_ble_eq_true rfl) ⟨Nat.le_refl _, Nat.le_refl _⟩ (qw_get (by omega) hC (⟨by decide, rfl, rfl⟩ : qT n 16 40 5) a1 (by omega) 2 (by omega)) (fun vr M11 hr => ?_)
      obtain ⟨hq, x12, rfl, hx12⟩ := hr
      replace hq := hq.symm; subst hq
      show zG n (0, 0) d 20 (56, [.inr (.inr (some 9)), .inl a1, .inl x8, .inl x10, zN], [.inl x12, .inl x10]) M _
      obtain ⟨x13, hx13⟩ : ∃ x : Int, x = zband x10 x12 := ⟨_, rfl⟩
      have hx13r : qin x13 := by rw [hx13]; exact qb32 _
      refine zG_blk (c' := (58, [.inr (.inr (some 9)), .inl a1, .inl x8, .inl x10, zN], [.inl x10, .inl x13])) 2 hd0 hz (by subst hx13; rfl) ?_
      have j66 : ∀ (v14 : Int) , 0 ≤ v14 ∧ v14 ≤ 1 → zG n (0, 0) d 20 (66, [.inr (.inr (some 9)), .inl a1, .inl x8, .inl x10, zN], [.inl v14]) M (fun v M' => M' = M ∧ qRi (fun x => 0 ≤ x ∧ x ≤ 1) v) := by
        intro v14 hv14
        refine zG_blk (c' := (70, [.inr (.inr (some 9)), .inl a1, .inl x8, .inl x10, .inl v14], [.inl v14])) 2 hd0 hz (by rfl) ?_
        have j104 : ∀ (v15 : Int) , 0 ≤ v15 ∧ v15 ≤ 1 → zG n (0, 0) d 20 (104, [.inr (.inr (some 9)), .inl a1, .inl x8, .inl x10, .inl v14], [.inl v15]) M (fun v M' => M' = M ∧ qRi (fun x => 0 ≤ x ∧ x ≤ 1) v) := by
          intro v15 hv15
          exact zG_zret hd0 hz rfl (by omega) ⟨rfl, _, rfl, by omega⟩
        have j103 : zG n (0, 0) d 20 (103, [.inr (.inr (some 9)), .inl a1, .inl x8, .inl x10, .inl v14], []) M (fun v M' => M' = M ∧ qRi (fun x => 0 ≤ x ∧ x ≤ 1) v) := by
          refine zG_blk (c' := (104, [.inr (.inr (some 9)), .inl a1, .inl x8, .inl x10, .inl v14], [.inl 0])) 1 hd0 hz (by rfl) ?_
          exact j104 0 (by omega)
        refine zG_if_eq hd0 hz rfl (fun hb16 => ?_) (fun hb16 => ?_)
        · exact j103
        · refine zG_blk (c' := (80, [.inr (.inr (some 9)), .inl a1, .inl x8, .inl x10, .inl v14], [.inl 3, .inl a1, .inr (.inr (some 16)), .inl x10])) 5 hd0 hz (by rfl) ?_
          refine zG_call hd0 hz (rfl : zP 106 = (zk_X8_get, 3, (0, 0))) rfl rfl (Nat.le_of_ble_eq_true rfl) ⟨Nat.le_refl _, Nat.le_refl _⟩ (qw_get (by omega) hC (⟨by decide, rfl, rfl⟩ : qT n 16 40 5) a1 (by omega) 3 (by omega)) (fun vr M17 hr => ?_)
          obtain ⟨hq, x18, rfl, hx18⟩ := hr
          replace hq := hq.symm; subst hq
          show zG n (0, 0) d 20 (83, [.inr (.inr (some 9)), .inl a1, .inl x8, .inl x10, .inl v14], [.inl x18, .inl x10]) M _
          obtain ⟨x19, hx19⟩ : ∃ x : Int, x = zband x10 x18 := ⟨_, rfl⟩
          have hx19r : qin x19 := by rw [hx19]; exact qb32 _
          refine zG_blk (c' := (84, [.inr (.inr (some 9)), .inl a1, .inl x8, .inl x10, .inl v14], [.inl x19])) 1 hd0 hz (by subst hx19; rfl) ?_
          refine zG_call hd0 hz (rfl : zP 296 = (zk_J6_bitCount_0f7a4, 1, (0, 0))) rfl rfl (Nat.le_of_ble_eq_true rfl) ⟨Nat.le_refl _, Nat.le_refl _⟩ (qm_296 (by omega) hC  x19 (by omega)) (fun vr M20 hr => ?_)
          obtain ⟨hq, x21, rfl, hx21⟩ := hr
          replace hq := hq.symm; subst hq
          show zG n (0, 0) d 20 (87, [.inr (.inr (some 9)), .inl a1, .inl x8, .inl x10, .inl v14], [.inl x21]) M _
          refine zG_blk (c' := (93, [.inr (.inr (some 9)), .inl a1, .inl x8, .inl x10, .inl v14], [.inl 1, .inl x8, .inr (.inr (some 14)), .inl x21])) 4 hd0 hz (by rfl) ?_
          refine zG_call hd0 hz (rfl : zP 106 = (zk_X8_get, 3, (0, 0))) rfl rfl (Nat.le_of_ble_eq_true rfl) ⟨Nat.le_refl _, Nat.le_refl _⟩ (qw_get (by omega) hC (⟨by decide, rfl, rfl⟩ : qT n 14 4 2) x8 (by omega) 1 (by omega)) (fun vr M22 hr => ?_)
          obtain ⟨hq, x23, rfl, hx23⟩ := hr
          replace hq := hq.symm; subst hq
          show zG n (0, 0) d 20 (96, [.inr (.inr (some 9)), .inl a1, .inl x8, .inl x10, .inl v14], [.inl x23, .inl x21]) M _
          refine zG_icmp_lt hd0 hz rfl (fun hb24 => ?_) (fun hb24 => ?_)
          · exact j103
          · refine zG_blk (c' := (104, [.inr (.inr (some 9)), .inl a1, .inl x8, .inl x10, .inl v14], [.inl 1])) 2 hd0 hz (by rfl) ?_
            exact j104 1 (by omega)
      refine zG_icmp_ne hd0 hz rfl (fun hb25 => ?_) (fun hb25 => ?_)
      · refine zG_blk (c' := (66, [.inr (.inr (some 9)), .inl a1, .inl x8, .inl x10, zN], [.inl 0])) 1 hd0 hz (by rfl) ?_
        exact j66 0 (by omega)
      · refine zG_blk (c' := (66, [.inr (.inr (some 9)), .inl a1, .inl x8, .inl x10, zN], [.inl 1])) 2 hd0 hz (by rfl) ?_
        exact j66 1 (by omega)
    · exact j24
theorem qm_128_8 {n d : Nat} {M : zM} (hd : 3 ≤ d) (hC : qCI M) (a1 : Int) (ha1 : (-2147483648) ≤ a1 ∧ a1 ≤ 2147483647) : qOkP n d 128 [.inr (.inr (some 8)), .inl a1] 2 M (qRi (fun x => (-2) ≤ x ∧ x ≤ 1)) := by
  have hz : zP 128 = (zk_X10_stands, 2, (0, 0)) := rfl
  have hd0 : 0 < d := by omega
  show zG n (0, 0) d 128 (0, [.inr (.inr (some 8)), .inl a1], []) M _
  refine zG_blk (c' := (8, [.inr (.inr (some 8)), .inl a1], [.inl a1, .inr (.inr (some 16))])) 4 hd0 hz (by rfl) ?_
  refine zG_call hd0 hz (rfl : zP 102 = (zk_X8_has, 2, (0, 0))) rfl rfl (Nat.le_of_ble_eq_true rfl) ⟨Nat.le_refl _, Nat.le_refl _⟩ (qw_has (by omega) hC (⟨by decide, rfl, rfl⟩ : qT n 16 40 5) a1 (by omega)) (fun vr M1 hr => ?_)
  obtain ⟨hq, x2, rfl, hx2⟩ := hr
  replace hq := hq.symm; subst hq
  show zG n (0, 0) d 128 (11, [.inr (.inr (some 8)), .inl a1], [.inl x2]) M _
  refine zG_if_ne hd0 hz rfl (fun hb3 => ?_) (fun hb3 => ?_)
  · refine zG_blk (c' := (22, [.inr (.inr (some 8)), .inl a1], [.inl a1, .inr (.inr (some 9))])) 3 hd0 hz (by rfl) ?_
    refine zG_call hd0 hz (rfl : zP 20 = (zk_X2_isStanding, 5, (0, 0))) rfl rfl (Nat.le_of_ble_eq_true rfl) ⟨Nat.le_refl _, Nat.le_refl _⟩ (qm_20_9 (by omega) hC  a1 (by omega)) (fun vr M4 hr => ?_)
    obtain ⟨hq, x5, rfl, hx5⟩ := hr
    replace hq := hq.symm; subst hq
    show zG n (0, 0) d 128 (25, [.inr (.inr (some 8)), .inl a1], [.inl x5]) M _
    have j33 : ∀ (v6 : Int) , 0 ≤ v6 ∧ v6 ≤ 1 → zG n (0, 0) d 128 (33, [.inr (.inr (some 8)), .inl a1], [.inl v6]) M (fun v M' => M' = M ∧ qRi (fun x => (-2) ≤ x ∧ x ≤ 1) v) := by
      intro v6 hv6
      exact zG_ret hd0 hz rfl rfl ⟨rfl, _, rfl, by omega⟩
    refine zG_if_eq hd0 hz rfl (fun hb7 => ?_) (fun hb7 => ?_)
    · refine zG_blk (c' := (33, [.inr (.inr (some 8)), .inl a1], [.inl 0])) 1 hd0 hz (by rfl) ?_
      exact j33 0 (by omega)
    · refine zG_blk (c' := (33, [.inr (.inr (some 8)), .inl a1], [.inl 1])) 2 hd0 hz (by rfl) ?_
      exact j33 1 (by omega)
  · refine zG_blk (c' := (16, [.inr (.inr (some 8)), .inl a1], [.inl (-2)])) 1 hd0 hz (by rfl) ?_
    exact zG_ret hd0 hz rfl rfl ⟨rfl, _, rfl, by omega⟩
theorem qm_174_8 {n d : Nat} {M : zM} (hd : 2 ≤ d) (hC : qCI M) (a1 : Int) (ha1 : (-2147483648) ≤ a1 ∧ a1 ≤ 2147483647) : qOkP n d 174 [.inr (.inr (some 8)), .inl a1] 2 M (qRi (fun x => 0 ≤ x ∧ x ≤ 1)) := by
  have hz : zP 174 = (zk_X10_isStudent, 2, (0, 0)) := rfl
  have hd0 : 0 < d := by omega
  show zG n (0, 0) d 174 (0, [.inr (.inr (some 8)), .inl a1], []) M _
  refine zG_blk (c' := (8, [.inr (.inr (some 8)), .inl a1], [.inl a1, .inr (.inr (some 12))])) 4 hd0 hz (by rfl) ?_
  refine zG_call hd0 hz (rfl : zP 102 = (zk_X8_has, 2, (0, 0))) rfl rfl (Nat.le_of_ble_eq_true rfl) ⟨Nat.le_refl _, Nat.le_refl _⟩ (qw_has (by omega) hC (⟨by decide, rfl, rfl⟩ : qT n 12 20 3) a1 (by omega)) (fun vr M1 hr => ?_)
  obtain ⟨hq, x2, rfl, hx2⟩ := hr
  replace hq := hq.symm; subst hq
  show zG n (0, 0) d 174 (11, [.inr (.inr (some 8)), .inl a1], [.inl x2]) M _
  exact zG_zret hd0 hz rfl (by omega) ⟨rfl, _, rfl, by omega⟩
theorem qm_175_8 {n d : Nat} {M : zM} (hd : 2 ≤ d) (hC : qCI M) (a1 : Int) (ha1 : (-2147483648) ≤ a1 ∧ a1 ≤ 2147483647) : qOkP n d 175 [.inr (.inr (some 8)), .inl a1] 2 M (qRi (fun x => 0 ≤ x ∧ x ≤ 1)) := by
  have hz : zP 175 = (zk_X10_isCourse, 2, (0, 0)) := rfl
  have hd0 : 0 < d := by omega
  show zG n (0, 0) d 175 (0, [.inr (.inr (some 8)), .inl a1], []) M _
  refine zG_blk (c' := (8, [.inr (.inr (some 8)), .inl a1], [.inl a1, .inr (.inr (some 10))])) 4 hd0 hz (by rfl) ?_
  refine zG_call hd0 hz (rfl : zP 102 = (zk_X8_has, 2, (0, 0))) rfl rfl (Nat.le_of_ble_eq_true rfl) ⟨Nat.le_refl _, Nat.le_refl _⟩ (qw_has (by omega) hC (⟨by decide, rfl, rfl⟩ : qT n 10 14 4) a1 (by omega)) (fun vr M1 hr => ?_)
  obtain ⟨hq, x2, rfl, hx2⟩ := hr
  replace hq := hq.symm; subst hq
  show zG n (0, 0) d 175 (11, [.inr (.inr (some 8)), .inl a1], [.inl x2]) M _
  exact zG_zret hd0 hz rfl (by omega) ⟨rfl, _, rfl, by omega⟩
theorem qm_171 {n d : Nat} {M : zM} (hd : 2 ≤ d) (hC : qCI M) (a0 : Int) (ha0 : (-2147483648) ≤ a0 ∧ a0 ≤ 2147483647) : qOkP n d 171 [.inl a0] 1 M (qRi (fun x => 0 ≤ x ∧ x ≤ 1)) := by
  have hz : zP 171 = (zk_X10_isMark, 1, (0, 0)) := rfl
  have hd0 : 0 < d := by omega
  show zG n (0, 0) d 171 (0, [.inl a0], []) M _
  refine zG_blk (c' := (4, [.inl a0], [.inl 100, .inl 0, .inl a0])) 3 hd0 hz (by rfl) ?_
  refine zG_call hd0 hz (rfl : zP 169 = (zk_X10_within, 3, (0, 0))) rfl rfl (Nat.le_of_ble_eq_true rfl) ⟨Nat.le_refl _, Nat.le_refl _⟩ (qm_169 (by omega) hC  a0 (by omega) 0 (by omega) 100 (by omega)) (fun vr M1 hr => ?_)
  obtain ⟨hq, x2, rfl, hx2⟩ := hr
  replace hq := hq.symm; subst hq
  show zG n (0, 0) d 171 (7, [.inl a0], [.inl x2]) M _
  exact zG_zret hd0 hz rfl (by omega) ⟨rfl, _, rfl, by omega⟩
theorem qm_172 {n d : Nat} {M : zM} (hd : 2 ≤ d) (hC : qCI M) (a0 : Int) (ha0 : (-2147483648) ≤ a0 ∧ a0 ≤ 2147483647) : qOkP n d 172 [.inl a0] 1 M (qRi (fun x => 0 ≤ x ∧ x ≤ 1)) := by
  have hz : zP 172 = (zk_X10_isExaminer, 1, (0, 0)) := rfl
  have hd0 : 0 < d := by omega
  show zG n (0, 0) d 172 (0, [.inl a0], []) M _
  refine zG_blk (c' := (3, [.inl a0], [.inl 4, .inl 0, .inl a0])) 3 hd0 hz (by rfl) ?_
  refine zG_call hd0 hz (rfl : zP 169 = (zk_X10_within, 3, (0, 0))) rfl rfl (Nat.le_of_ble_eq_true rfl) ⟨Nat.le_refl _, Nat.le_refl _⟩ (qm_169 (by omega) hC  a0 (by omega) 0 (by omega) 4 (by omega)) (fun vr M1 hr => ?_)
  obtain ⟨hq, x2, rfl, hx2⟩ := hr
  replace hq := hq.symm; subst hq
  show zG n (0, 0) d 172 (6, [.inl a0], [.inl x2]) M _
  exact zG_zret hd0 hz rfl (by omega) ⟨rfl, _, rfl, by omega⟩
theorem qm_18_9 {n d : Nat} {M : zM} (hd : 2 ≤ d) (hC : qCI M) (a1 : Int) (ha1 : (-2147483648) ≤ a1 ∧ a1 ≤ 2147483647) (a2 : Int) (ha2 : (-2147483648) ≤ a2 ∧ a2 ≤ 2147483647) (a3 : Int) (ha3 : (-2147483648) ≤ a3 ∧ a3 ≤ 2147483647) (a4 : Int) (ha4 : (-2147483648) ≤ a4 ∧ a4 ≤ 2147483647) : qOkM n d 18 [.inr (.inr (some 9)), .inl a1, .inl a2, .inl a3, .inl a4] 7 qCI [18, 19] M (qRi (fun x => (-4) ≤ x ∧ x ≤ 249)) := by
  have hz : zP 18 = (zk_X2_enter, 7, (0, 0)) := rfl
  have hd0 : 0 < d := by omega
  have hW : qFr [18, 19] M M := qFr.rfl
  show zG n (0, 0) d 18 (0, [.inr (.inr (some 9)), .inl a1, .inl a2, .inl a3, .inl a4, zN, zN], []) M _
  refine zG_blk (c' := (4, [.inr (.inr (some 9)), .inl a1, .inl a2, .inl a3, .inl a4, zN, zN], [.inr (.inr (some 18))])) 2 hd0 hz (by rfl) ?_
  refine zG_call hd0 hz (rfl : zP 103 = (zk_X8_open, 1, (0, 0))) rfl rfl (Nat.le_of_ble_eq_true rfl) ⟨Nat.le_refl _, Nat.le_refl _⟩ (qw_open (by omega) hC (⟨by decide, rfl, rfl⟩ : qT n 18 250 11) ) (fun vr M1 hr => ?_)
  obtain ⟨⟨hCM1, hFM1⟩, x2, rfl, hx2⟩ := hr
  have hWM1 : qFr [18, 19] M M1 := hW.tr hFM1 (by decide)
  show zG n (0, 0) d 18 (7, [.inr (.inr (some 9)), .inl a1, .inl a2, .inl a3, .inl a4, zN, zN], [.inl x2]) M1 _
  refine zG_blk (c' := (12, [.inr (.inr (some 9)), .inl a1, .inl a2, .inl a3, .inl a4, .inl x2, .inl 0], [])) 3 hd0 hz (by rfl) ?_
  have j12 : ∀ (N : Nat) (v3 : Int) (M4 : zM) , (11 - v3 : Int).toNat < N → 0 ≤ v3 ∧ v3 ≤ 11 → qCI M4 → qFr [18, 19] M M4 → zG n (0, 0) d 18 (12, [.inr (.inr (some 9)), .inl a1, .inl a2, .inl a3, .inl a4, .inl x2, .inl v3], []) M4 (fun v M' => qWf qCI [18, 19] M M' ∧ qRi (fun x => (-4) ≤ x ∧ x ≤ 249) v) := by
    intro N
    induction N with
    | zero => intro v3 M4 hN hv3 hCM4 hWM4; exact absurd hN (Nat.not_lt_zero _)
    | succ N ih12 =>
      intro v3 M4 hN hv3 hCM4 hWM4
      refine zG_blk (c' := (16, [.inr (.inr (some 9)), .inl a1, .inl a2, .inl a3, .inl a4, .inl x2, .inl v3], [.inl 11, .inl v3])) 2 hd0 hz (by rfl) ?_
      refine zG_icmp_ge hd0 hz rfl (fun hb5 => ?_) (fun hb5 => ?_)
      · refine zG_blk (c' := (45, [.inr (.inr (some 9)), .inl a1, .inl a2, .inl a3, .inl a4, .inl x2, .inl v3], [.inl a1, .inl 0, .inl x2, .inr (.inr (some 18))])) 5 hd0 hz (by rfl) ?_
        refine zG_call hd0 hz (rfl : zP 107 = (zk_X8_set, 4, (0, 0))) rfl rfl (Nat.le_of_ble_eq_true rfl) ⟨Nat.le_refl _, Nat.le_refl _⟩ (qw_set (by omega) hCM4 (⟨by decide, rfl, rfl⟩ : qT n 18 250 11) x2 (by omega) 0 (by omega) a1 (by omega)) (fun vr M6 hr => ?_)
        obtain ⟨⟨hCM6, hFM6⟩, rfl⟩ := hr
        have hWM6 : qFr [18, 19] M M6 := hWM4.tr hFM6 (by decide)
        show zG n (0, 0) d 18 (48, [.inr (.inr (some 9)), .inl a1, .inl a2, .inl a3, .inl a4, .inl x2, .inl v3], []) M6 _
        refine zG_blk (c' := (56, [.inr (.inr (some 9)), .inl a1, .inl a2, .inl a3, .inl a4, .inl x2, .inl v3], [.inl a2, .inl 1, .inl x2, .inr (.inr (some 18))])) 5 hd0 hz (by rfl) ?_
        refine zG_call hd0 hz (rfl : zP 107 = (zk_X8_set, 4, (0, 0))) rfl rfl (Nat.le_of_ble_eq_true rfl) ⟨Nat.le_refl _, Nat.le_refl _⟩ (qw_set (by omega) hCM6 (⟨by decide, rfl, rfl⟩ : qT n 18 250 11) x2 (by omega) 1 (by omega) a2 (by omega)) (fun vr M8 hr => ?_)
        obtain ⟨⟨hCM8, hFM8⟩, rfl⟩ := hr
        have hWM8 : qFr [18, 19] M M8 := hWM6.tr hFM8 (by decide)
        show zG n (0, 0) d 18 (59, [.inr (.inr (some 9)), .inl a1, .inl a2, .inl a3, .inl a4, .inl x2, .inl v3], []) M8 _
        refine zG_blk (c' := (67, [.inr (.inr (some 9)), .inl a1, .inl a2, .inl a3, .inl a4, .inl x2, .inl v3], [.inl a3, .inl 2, .inl x2, .inr (.inr (some 18))])) 5 hd0 hz (by rfl) ?_
        refine zG_call hd0 hz (rfl : zP 107 = (zk_X8_set, 4, (0, 0))) rfl rfl (Nat.le_of_ble_eq_true rfl) ⟨Nat.le_refl _, Nat.le_refl _⟩ (qw_set (by omega) hCM8 (⟨by decide, rfl, rfl⟩ : qT n 18 250 11) x2 (by omega) 2 (by omega) a3 (by omega)) (fun vr M10 hr => ?_)
        obtain ⟨⟨hCM10, hFM10⟩, rfl⟩ := hr
        have hWM10 : qFr [18, 19] M M10 := hWM8.tr hFM10 (by decide)
        show zG n (0, 0) d 18 (70, [.inr (.inr (some 9)), .inl a1, .inl a2, .inl a3, .inl a4, .inl x2, .inl v3], []) M10 _
        refine zG_blk (c' := (79, [.inr (.inr (some 9)), .inl a1, .inl a2, .inl a3, .inl a4, .inl x2, .inl v3], [.inl a4, .inl 3, .inl x2, .inr (.inr (some 18))])) 5 hd0 hz (by rfl) ?_
        refine zG_call hd0 hz (rfl : zP 107 = (zk_X8_set, 4, (0, 0))) rfl rfl (Nat.le_of_ble_eq_true rfl) ⟨Nat.le_refl _, Nat.le_refl _⟩ (qw_set (by omega) hCM10 (⟨by decide, rfl, rfl⟩ : qT n 18 250 11) x2 (by omega) 3 (by omega) a4 (by omega)) (fun vr M12 hr => ?_)
        obtain ⟨⟨hCM12, hFM12⟩, rfl⟩ := hr
        have hWM12 : qFr [18, 19] M M12 := hWM10.tr hFM12 (by decide)
        show zG n (0, 0) d 18 (82, [.inr (.inr (some 9)), .inl a1, .inl a2, .inl a3, .inl a4, .inl x2, .inl v3], []) M12 _
        refine zG_blk (c' := (84, [.inr (.inr (some 9)), .inl a1, .inl a2, .inl a3, .inl a4, .inl x2, .inl v3], [.inl x2])) 1 hd0 hz (by rfl) ?_
        exact zG_ret hd0 hz rfl rfl ⟨⟨hCM12, hWM12⟩, _, rfl, by omega⟩
      · refine zG_blk (c' := (28, [.inr (.inr (some 9)), .inl a1, .inl a2, .inl a3, .inl a4, .inl x2, .inl v3], [.inl (-1), .inl v3, .inl x2, .inr (.inr (some 18))])) 5 hd0 hz (by rfl) ?_
        refine zG_call hd0 hz (rfl : zP 107 = (zk_X8_set, 4, (0, 0))) rfl rfl (Nat.le_of_ble_eq_true rfl) ⟨Nat.le_refl _, Nat.le_refl _⟩ (qw_set (by omega) hCM4 (⟨by decide, rfl, rfl⟩ : qT n 18 250 11) x2 (by omega) v3 (by omega) (-1) (by omega)) (fun vr M14 hr => ?_)
        obtain ⟨⟨hCM14, hFM14⟩, rfl⟩ := hr
        have hWM14 : qFr [18, 19] M M14 := hWM4.tr hFM14 (by decide)
        show zG n (0, 0) d 18 (31, [.inr (.inr (some 9)), .inl a1, .inl a2, .inl a3, .inl a4, .inl x2, .inl v3], []) M14 _
        obtain ⟨x16, hx16⟩ : ∃ x : Int, x = w32 (v3 + 1) := ⟨_, rfl⟩
        have hx16e : x16 = v3 + 1 := by rw [hx16]; exact w32_id (by omega)
        refine zG_blk (c' := (12, [.inr (.inr (some 9)), .inl a1, .inl a2, .inl a3, .inl a4, .inl x2, .inl x16], [])) 2 hd0 hz (by subst hx16; rfl) ?_
        exact ih12 x16 M14 (by omega) (by omega) hCM14 hWM14
  exact j12 ((11 - 0 : Int).toNat + 1) 0 M1 (by omega) (by omega) hCM1 hWM1
theorem qm_129_8 {n d : Nat} {M : zM} (hd : 3 ≤ d) (hC : qCI M) (a1 : Int) (ha1 : (-2147483648) ≤ a1 ∧ a1 ≤ 2147483647) (a2 : Int) (ha2 : (-2147483648) ≤ a2 ∧ a2 ≤ 2147483647) (a3 : Int) (ha3 : (-2147483648) ≤ a3 ∧ a3 ≤ 2147483647) (a4 : Int) (ha4 : (-2147483648) ≤ a4 ∧ a4 ≤ 2147483647) (a5 : Int) (ha5 : (-2147483648) ≤ a5 ∧ a5 ≤ 2147483647) (a6 : Int) (ha6 : (-2147483648) ≤ a6 ∧ a6 ≤ 2147483647) : qOkM n d 129 [.inr (.inr (some 8)), .inl a1, .inl a2, .inl a3, .inl a4, .inl a5, .inl a6] 8 qCI [18, 19] M (qRi (fun x => (-4) ≤ x ∧ x ≤ 249)) := by
  have hz : zP 129 = (zk_X10_mark, 8, (0, 0)) := rfl
  have hd0 : 0 < d := by omega
  have hW : qFr [18, 19] M M := qFr.rfl
  show zG n (0, 0) d 129 (0, [.inr (.inr (some 8)), .inl a1, .inl a2, .inl a3, .inl a4, .inl a5, .inl a6, zN], []) M _
  refine zG_blk (c' := (2, [.inr (.inr (some 8)), .inl a1, .inl a2, .inl a3, .inl a4, .inl a5, .inl a6, zN], [.inl a1, .inr (.inr (some 8))])) 2 hd0 hz (by rfl) ?_
  refine zG_call hd0 hz (rfl : zP 174 = (zk_X10_isStudent, 2, (0, 0))) rfl rfl (Nat.le_of_ble_eq_true rfl) ⟨Nat.le_refl _, Nat.le_refl _⟩ (qm_174_8 (by omega) hC  a1 (by omega)) (fun vr M1 hr => ?_)
  obtain ⟨hq, x2, rfl, hx2⟩ := hr
  replace hq := hq.symm; subst hq
  show zG n (0, 0) d 129 (5, [.inr (.inr (some 8)), .inl a1, .inl a2, .inl a3, .inl a4, .inl a5, .inl a6, zN], [.inl x2]) M _
  have j31 : zG n (0, 0) d 129 (31, [.inr (.inr (some 8)), .inl a1, .inl a2, .inl a3, .inl a4, .inl a5, .inl a6, zN], []) M (fun v M' => qWf qCI [18, 19] M M' ∧ qRi (fun x => (-4) ≤ x ∧ x ≤ 249) v) := by
    refine zG_blk (c' := (33, [.inr (.inr (some 8)), .inl a1, .inl a2, .inl a3, .inl a4, .inl a5, .inl a6, zN], [.inl (-2)])) 1 hd0 hz (by rfl) ?_
    exact zG_ret hd0 hz rfl rfl ⟨⟨hC, hW⟩, _, rfl, by omega⟩
  refine zG_if_eq hd0 hz rfl (fun hb3 => ?_) (fun hb3 => ?_)
  · exact j31
  · refine zG_blk (c' := (10, [.inr (.inr (some 8)), .inl a1, .inl a2, .inl a3, .inl a4, .inl a5, .inl a6, zN], [.inl a2, .inr (.inr (some 8))])) 2 hd0 hz (by rfl) ?_
    refine zG_call hd0 hz (rfl : zP 175 = (zk_X10_isCourse, 2, (0, 0))) rfl rfl (Nat.le_of_ble_eq_true rfl) ⟨Nat.le_refl _, Nat.le_refl _⟩ (qm_175_8 (by omega) hC  a2 (by omega)) (fun vr M4 hr => ?_)
    obtain ⟨hq, x5, rfl, hx5⟩ := hr
    replace hq := hq.symm; subst hq
    show zG n (0, 0) d 129 (13, [.inr (.inr (some 8)), .inl a1, .inl a2, .inl a3, .inl a4, .inl a5, .inl a6, zN], [.inl x5]) M _
    refine zG_if_eq hd0 hz rfl (fun hb6 => ?_) (fun hb6 => ?_)
    · exact j31
    · refine zG_blk (c' := (17, [.inr (.inr (some 8)), .inl a1, .inl a2, .inl a3, .inl a4, .inl a5, .inl a6, zN], [.inl a3])) 1 hd0 hz (by rfl) ?_
      refine zG_call hd0 hz (rfl : zP 171 = (zk_X10_isMark, 1, (0, 0))) rfl rfl (Nat.le_of_ble_eq_true rfl) ⟨Nat.le_refl _, Nat.le_refl _⟩ (qm_171 (by omega) hC  a3 (by omega)) (fun vr M7 hr => ?_)
      obtain ⟨hq, x8, rfl, hx8⟩ := hr
      replace hq := hq.symm; subst hq
      show zG n (0, 0) d 129 (20, [.inr (.inr (some 8)), .inl a1, .inl a2, .inl a3, .inl a4, .inl a5, .inl a6, zN], [.inl x8]) M _
      refine zG_if_eq hd0 hz rfl (fun hb9 => ?_) (fun hb9 => ?_)
      · exact j31
      · refine zG_blk (c' := (25, [.inr (.inr (some 8)), .inl a1, .inl a2, .inl a3, .inl a4, .inl a5, .inl a6, zN], [.inl a4])) 1 hd0 hz (by rfl) ?_
        refine zG_call hd0 hz (rfl : zP 172 = (zk_X10_isExaminer, 1, (0, 0))) rfl rfl (Nat.le_of_ble_eq_true rfl) ⟨Nat.le_refl _, Nat.le_refl _⟩ (qm_172 (by omega) hC  a4 (by omega)) (fun vr M10 hr => ?_)
        obtain ⟨hq, x11, rfl, hx11⟩ := hr
        replace hq := hq.symm; subst hq
        show zG n (0, 0) d 129 (28, [.inr (.inr (some 8)), .inl a1, .inl a2, .inl a3, .inl a4, .inl a5, .inl a6, zN], [.inl x11]) M _
        refine zG_if_ne hd0 hz rfl (fun hb12 => ?_) (fun hb12 => ?_)
        · refine zG_blk (c' := (36, [.inr (.inr (some 8)), .inl a1, .inl a2, .inl a3, .inl a4, .inl a5, .inl a6, zN], [.inl a5])) 1 hd0 hz (by rfl) ?_
          refine zG_call hd0 hz (rfl : zP 170 = (zk_X10_isDay, 1, (0, 0))) rfl rfl (Nat.le_of_ble_eq_true rfl) ⟨Nat.le_refl _, Nat.le_refl _⟩ (qm_170 (by omega) hC  a5 (by omega)) (fun vr M13 hr => ?_)
          obtain ⟨hq, x14, rfl, hx14⟩ := hr
          replace hq := hq.symm; subst hq
          show zG n (0, 0) d 129 (39, [.inr (.inr (some 8)), .inl a1, .inl a2, .inl a3, .inl a4, .inl a5, .inl a6, zN], [.inl x14]) M _
          have j55 : zG n (0, 0) d 129 (55, [.inr (.inr (some 8)), .inl a1, .inl a2, .inl a3, .inl a4, .inl a5, .inl a6, zN], []) M (fun v M' => qWf qCI [18, 19] M M' ∧ qRi (fun x => (-4) ≤ x ∧ x ≤ 249) v) := by
            refine zG_blk (c' := (57, [.inr (.inr (some 8)), .inl a1, .inl a2, .inl a3, .inl a4, .inl a5, .inl a6, zN], [.inl (-2)])) 1 hd0 hz (by rfl) ?_
            exact zG_ret hd0 hz rfl rfl ⟨⟨hC, hW⟩, _, rfl, by omega⟩
          refine zG_if_eq hd0 hz rfl (fun hb15 => ?_) (fun hb15 => ?_)
          · exact j55
          · refine zG_blk (c' := (49, [.inr (.inr (some 8)), .inl a1, .inl a2, .inl a3, .inl a4, .inl a5, .inl a6, zN], [.inl 9999, .inl a5, .inl a6])) 3 hd0 hz (by rfl) ?_
            refine zG_call hd0 hz (rfl : zP 169 = (zk_X10_within, 3, (0, 0))) rfl rfl (Nat.le_of_ble_eq_true rfl) ⟨Nat.le_refl _, Nat.le_refl _⟩ (qm_169 (by omega) hC  a6 (by omega) a5 (by omega) 9999 (by omega)) (fun vr M16 hr => ?_)
            obtain ⟨hq, x17, rfl, hx17⟩ := hr
            replace hq := hq.symm; subst hq
            show zG n (0, 0) d 129 (52, [.inr (.inr (some 8)), .inl a1, .inl a2, .inl a3, .inl a4, .inl a5, .inl a6, zN], [.inl x17]) M _
            refine zG_if_ne hd0 hz rfl (fun hb18 => ?_) (fun hb18 => ?_)
            · refine zG_blk (c' := (68, [.inr (.inr (some 8)), .inl a1, .inl a2, .inl a3, .inl a4, .inl a5, .inl a6, zN], [.inl (-1), .inl a6, .inl a5, .inl 0, .inr (.inr (some 9))])) 6 hd0 hz (by rfl) ?_
              refine zG_call hd0 hz (rfl : zP 18 = (zk_X2_enter, 7, (0, 0))) rfl rfl (Nat.le_of_ble_eq_true rfl) ⟨Nat.le_refl _, Nat.le_refl _⟩ (qm_18_9 (by omega) hC  0 (by omega) a5 (by omega) a6 (by omega) (-1) (by omega)) (fun vr M19 hr => ?_)
              obtain ⟨⟨hCM19, hFM19⟩, x20, rfl, hx20⟩ := hr
              have hWM19 : qFr [18, 19] M M19 := hW.tr hFM19 (by decide)
              show zG n (0, 0) d 129 (71, [.inr (.inr (some 8)), .inl a1, .inl a2, .inl a3, .inl a4, .inl a5, .inl a6, zN], [.inl x20]) M19 _
              refine zG_blk (c' := (84, [.inr (.inr (some 8)), .inl a1, .inl a2, .inl a3, .inl a4, .inl a5, .inl a6, .inl x20], [.inl a1, .inl 4, .inl x20, .inr (.inr (some 18))])) 7 hd0 hz (by rfl) ?_
              refine zG_call hd0 hz (rfl : zP 107 = (zk_X8_set, 4, (0, 0))) rfl rfl (Nat.le_of_ble_eq_true rfl) ⟨Nat.le_refl _, Nat.le_refl _⟩ (qw_set (by omega) hCM19 (⟨by decide, rfl, rfl⟩ : qT n 18 250 11) x20 (by omega) 4 (by omega) a1 (by omega)) (fun vr M21 hr => ?_)
              obtain ⟨⟨hCM21, hFM21⟩, rfl⟩ := hr
              have hWM21 : qFr [18, 19] M M21 := hWM19.tr hFM21 (by decide)
              show zG n (0, 0) d 129 (87, [.inr (.inr (some 8)), .inl a1, .inl a2, .inl a3, .inl a4, .inl a5, .inl a6, .inl x20], []) M21 _
              refine zG_blk (c' := (98, [.inr (.inr (some 8)), .inl a1, .inl a2, .inl a3, .inl a4, .inl a5, .inl a6, .inl x20], [.inl a2, .inl 5, .inl x20, .inr (.inr (some 18))])) 6 hd0 hz (by rfl) ?_
              refine zG_call hd0 hz (rfl : zP 107 = (zk_X8_set, 4, (0, 0))) rfl rfl (Nat.le_of_ble_eq_true rfl) ⟨Nat.le_refl _, Nat.le_refl _⟩ (qw_set (by omega) hCM21 (⟨by decide, rfl, rfl⟩ : qT n 18 250 11) x20 (by omega) 5 (by omega) a2 (by omega)) (fun vr M23 hr => ?_)
              obtain ⟨⟨hCM23, hFM23⟩, rfl⟩ := hr
              have hWM23 : qFr [18, 19] M M23 := hWM21.tr hFM23 (by decide)
              show zG n (0, 0) d 129 (101, [.inr (.inr (some 8)), .inl a1, .inl a2, .inl a3, .inl a4, .inl a5, .inl a6, .inl x20], []) M23 _
              refine zG_blk (c' := (113, [.inr (.inr (some 8)), .inl a1, .inl a2, .inl a3, .inl a4, .inl a5, .inl a6, .inl x20], [.inl a3, .inl 7, .inl x20, .inr (.inr (some 18))])) 6 hd0 hz (by rfl) ?_
              refine zG_call hd0 hz (rfl : zP 107 = (zk_X8_set, 4, (0, 0))) rfl rfl (Nat.le_of_ble_eq_true rfl) ⟨Nat.le_refl _, Nat.le_refl _⟩ (qw_set (by omega) hCM23 (⟨by decide, rfl, rfl⟩ : qT n 18 250 11) x20 (by omega) 7 (by omega) a3 (by omega)) (fun vr M25 hr => ?_)
              obtain ⟨⟨hCM25, hFM25⟩, rfl⟩ := hr
              have hWM25 : qFr [18, 19] M M25 := hWM23.tr hFM25 (by decide)
              show zG n (0, 0) d 129 (116, [.inr (.inr (some 8)), .inl a1, .inl a2, .inl a3, .inl a4, .inl a5, .inl a6, .inl x20], []) M25 _
              refine zG_blk (c' := (129, [.inr (.inr (some 8)), .inl a1, .inl a2, .inl a3, .inl a4, .inl a5, .inl a6, .inl x20], [.inl a4, .inl 8, .inl x20, .inr (.inr (some 18))])) 6 hd0 hz (by rfl) ?_
              refine zG_call hd0 hz (rfl : zP 107 = (zk_X8_set, 4, (0, 0))) rfl rfl (Nat.le_of_ble_eq_true rfl) ⟨Nat.le_refl _, Nat.le_refl _⟩ (qw_set (by omega) hCM25 (⟨by decide, rfl, rfl⟩ : qT n 18 250 11) x20 (by omega) 8 (by omega) a4 (by omega)) (fun vr M27 hr => ?_)
              obtain ⟨⟨hCM27, hFM27⟩, rfl⟩ := hr
              have hWM27 : qFr [18, 19] M M27 := hWM25.tr hFM27 (by decide)
              show zG n (0, 0) d 129 (132, [.inr (.inr (some 8)), .inl a1, .inl a2, .inl a3, .inl a4, .inl a5, .inl a6, .inl x20], []) M27 _
              refine zG_blk (c' := (134, [.inr (.inr (some 8)), .inl a1, .inl a2, .inl a3, .inl a4, .inl a5, .inl a6, .inl x20], [.inl x20])) 1 hd0 hz (by rfl) ?_
              exact zG_ret hd0 hz rfl rfl ⟨⟨hCM27, hWM27⟩, _, rfl, by omega⟩
            · exact j55
        · exact j31
theorem qm_19_9 {n d : Nat} {M : zM} (hd : 2 ≤ d) (hC : qCI M) (a1 : Int) (ha1 : (-2147483648) ≤ a1 ∧ a1 ≤ 2147483647) (a2 : Int) (ha2 : (-2147483648) ≤ a2 ∧ a2 ≤ 2147483647) : qOkP n d 19 [.inr (.inr (some 9)), .inl a1, .inl a2] 3 M (qRi (fun x => 0 ≤ x ∧ x ≤ 1)) := by
  have hz : zP 19 = (zk_X2_isA, 3, (0, 0)) := rfl
  have hd0 : 0 < d := by omega
  show zG n (0, 0) d 19 (0, [.inr (.inr (some 9)), .inl a1, .inl a2], []) M _
  refine zG_blk (c' := (5, [.inr (.inr (some 9)), .inl a1, .inl a2], [.inl a2, .inr (.inr (some 18))])) 3 hd0 hz (by rfl) ?_
  refine zG_call hd0 hz (rfl : zP 102 = (zk_X8_has, 2, (0, 0))) rfl rfl (Nat.le_of_ble_eq_true rfl) ⟨Nat.le_refl _, Nat.le_refl _⟩ (qw_has (by omega) hC (⟨by decide, rfl, rfl⟩ : qT n 18 250 11) a2 (by omega)) (fun vr M1 hr => ?_)
  obtain ⟨hq, x2, rfl, hx2⟩ := hr
  replace hq := hq.symm; subst hq
  show zG n (0, 0) d 19 (8, [.inr (.inr (some 9)), .inl a1, .inl a2], [.inl x2]) M _
  have j29 : ∀ (v3 : Int) , 0 ≤ v3 ∧ v3 ≤ 1 → zG n (0, 0) d 19 (29, [.inr (.inr (some 9)), .inl a1, .inl a2], [.inl v3]) M (fun v M' => M' = M ∧ qRi (fun x => 0 ≤ x ∧ x ≤ 1) v) := by
    intro v3 hv3
    exact zG_zret hd0 hz rfl (by omega) ⟨rfl, _, rfl, by omega⟩
  have j28 : zG n (0, 0) d 19 (28, [.inr (.inr (some 9)), .inl a1, .inl a2], []) M (fun v M' => M' = M ∧ qRi (fun x => 0 ≤ x ∧ x ≤ 1) v) := by
    refine zG_blk (c' := (29, [.inr (.inr (some 9)), .inl a1, .inl a2], [.inl 0])) 1 hd0 hz (by rfl) ?_
    exact j29 0 (by omega)
  refine zG_if_eq hd0 hz rfl (fun hb4 => ?_) (fun hb4 => ?_)
  · exact j28
  · refine zG_blk (c' := (17, [.inr (.inr (some 9)), .inl a1, .inl a2], [.inl 0, .inl a2, .inr (.inr (some 18))])) 4 hd0 hz (by rfl) ?_
    refine zG_call hd0 hz (rfl : zP 106 = (zk_X8_get, 3, (0, 0))) rfl rfl (Nat.le_of_ble_eq_true rfl) ⟨Nat.le_refl _, Nat.le_refl _⟩ (qw_get (by omega) hC (⟨by decide, rfl, rfl⟩ : qT n 18 250 11) a2 (by omega) 0 (by omega)) (fun vr M5 hr => ?_)
    obtain ⟨hq, x6, rfl, hx6⟩ := hr
    replace hq := hq.symm; subst hq
    show zG n (0, 0) d 19 (20, [.inr (.inr (some 9)), .inl a1, .inl a2], [.inl x6]) M _
    refine zG_blk (c' := (21, [.inr (.inr (some 9)), .inl a1, .inl a2], [.inl a1, .inl x6])) 1 hd0 hz (by rfl) ?_
    refine zG_icmp_ne hd0 hz rfl (fun hb7 => ?_) (fun hb7 => ?_)
    · exact j28
    · refine zG_blk (c' := (29, [.inr (.inr (some 9)), .inl a1, .inl a2], [.inl 1])) 2 hd0 hz (by rfl) ?_
      exact j29 1 (by omega)
theorem qm_130_8 {n d : Nat} {M : zM} (hd : 3 ≤ d) (hC : qCI M) (a1 : Int) (ha1 : (-2147483648) ≤ a1 ∧ a1 ≤ 2147483647) (a2 : Int) (ha2 : (-2147483648) ≤ a2 ∧ a2 ≤ 2147483647) (a3 : Int) (ha3 : (-2147483648) ≤ a3 ∧ a3 ≤ 2147483647) (a4 : Int) (ha4 : (-2147483648) ≤ a4 ∧ a4 ≤ 2147483647) (a5 : Int) (ha5 : (-2147483648) ≤ a5 ∧ a5 ≤ 2147483647) : qOkM n d 130 [.inr (.inr (some 8)), .inl a1, .inl a2, .inl a3, .inl a4, .inl a5] 7 qCI [18, 19] M (qRi (fun x => (-4) ≤ x ∧ x ≤ 249)) := by
  have hz : zP 130 = (zk_X10_second, 7, (0, 0)) := rfl
  have hd0 : 0 < d := by omega
  have hW : qFr [18, 19] M M := qFr.rfl
  show zG n (0, 0) d 130 (0, [.inr (.inr (some 8)), .inl a1, .inl a2, .inl a3, .inl a4, .inl a5, zN], []) M _
  refine zG_blk (c' := (6, [.inr (.inr (some 8)), .inl a1, .inl a2, .inl a3, .inl a4, .inl a5, zN], [.inl a1, .inl 0, .inr (.inr (some 9))])) 4 hd0 hz (by rfl) ?_
  refine zG_call hd0 hz (rfl : zP 19 = (zk_X2_isA, 3, (0, 0))) rfl rfl (Nat.le_of_ble_eq_true rfl) ⟨Nat.le_refl _, Nat.le_refl _⟩ (qm_19_9 (by omega) hC  0 (by omega) a1 (by omega)) (fun vr M1 hr => ?_)
  obtain ⟨hq, x2, rfl, hx2⟩ := hr
  replace hq := hq.symm; subst hq
  show zG n (0, 0) d 130 (9, [.inr (.inr (some 8)), .inl a1, .inl a2, .inl a3, .inl a4, .inl a5, zN], [.inl x2]) M _
  have j26 : zG n (0, 0) d 130 (26, [.inr (.inr (some 8)), .inl a1, .inl a2, .inl a3, .inl a4, .inl a5, zN], []) M (fun v M' => qWf qCI [18, 19] M M' ∧ qRi (fun x => (-4) ≤ x ∧ x ≤ 249) v) := by
    refine zG_blk (c' := (28, [.inr (.inr (some 8)), .inl a1, .inl a2, .inl a3, .inl a4, .inl a5, zN], [.inl (-2)])) 1 hd0 hz (by rfl) ?_
    exact zG_ret hd0 hz rfl rfl ⟨⟨hC, hW⟩, _, rfl, by omega⟩
  refine zG_if_eq hd0 hz rfl (fun hb3 => ?_) (fun hb3 => ?_)
  · exact j26
  · refine zG_blk (c' := (13, [.inr (.inr (some 8)), .inl a1, .inl a2, .inl a3, .inl a4, .inl a5, zN], [.inl a2])) 1 hd0 hz (by rfl) ?_
    refine zG_call hd0 hz (rfl : zP 171 = (zk_X10_isMark, 1, (0, 0))) rfl rfl (Nat.le_of_ble_eq_true rfl) ⟨Nat.le_refl _, Nat.le_refl _⟩ (qm_171 (by omega) hC  a2 (by omega)) (fun vr M4 hr => ?_)
    obtain ⟨hq, x5, rfl, hx5⟩ := hr
    replace hq := hq.symm; subst hq
    show zG n (0, 0) d 130 (16, [.inr (.inr (some 8)), .inl a1, .inl a2, .inl a3, .inl a4, .inl a5, zN], [.inl x5]) M _
    refine zG_if_eq hd0 hz rfl (fun hb6 => ?_) (fun hb6 => ?_)
    · exact j26
    · refine zG_blk (c' := (20, [.inr (.inr (some 8)), .inl a1, .inl a2, .inl a3, .inl a4, .inl a5, zN], [.inl a3])) 1 hd0 hz (by rfl) ?_
      refine zG_call hd0 hz (rfl : zP 172 = (zk_X10_isExaminer, 1, (0, 0))) rfl rfl (Nat.le_of_ble_eq_true rfl) ⟨Nat.le_refl _, Nat.le_refl _⟩ (qm_172 (by omega) hC  a3 (by omega)) (fun vr M7 hr => ?_)
      obtain ⟨hq, x8, rfl, hx8⟩ := hr
      replace hq := hq.symm; subst hq
      show zG n (0, 0) d 130 (23, [.inr (.inr (some 8)), .inl a1, .inl a2, .inl a3, .inl a4, .inl a5, zN], [.inl x8]) M _
      refine zG_if_ne hd0 hz rfl (fun hb9 => ?_) (fun hb9 => ?_)
      · refine zG_blk (c' := (40, [.inr (.inr (some 8)), .inl a1, .inl a2, .inl a3, .inl a4, .inl a5, zN], [.inl 8, .inl a1, .inr (.inr (some 18)), .inl a3])) 6 hd0 hz (by rfl) ?_
        refine zG_call hd0 hz (rfl : zP 106 = (zk_X8_get, 3, (0, 0))) rfl rfl (Nat.le_of_ble_eq_true rfl) ⟨Nat.le_refl _, Nat.le_refl _⟩ (qw_get (by omega) hC (⟨by decide, rfl, rfl⟩ : qT n 18 250 11) a1 (by omega) 8 (by omega)) (fun vr M10 hr => ?_)
        obtain ⟨hq, x11, rfl, hx11⟩ := hr
        replace hq := hq.symm; subst hq
        show zG n (0, 0) d 130 (43, [.inr (.inr (some 8)), .inl a1, .inl a2, .inl a3, .inl a4, .inl a5, zN], [.inl x11, .inl a3]) M _
        refine zG_icmp_ne hd0 hz rfl (fun hb12 => ?_) (fun hb12 => ?_)
        · refine zG_blk (c' := (60, [.inr (.inr (some 8)), .inl a1, .inl a2, .inl a3, .inl a4, .inl a5, zN], [.inl 1, .inl a1, .inr (.inr (some 18)), .inl a4])) 6 hd0 hz (by rfl) ?_
          refine zG_call hd0 hz (rfl : zP 106 = (zk_X8_get, 3, (0, 0))) rfl rfl (Nat.le_of_ble_eq_true rfl) ⟨Nat.le_refl _, Nat.le_refl _⟩ (qw_get (by omega) hC (⟨by decide, rfl, rfl⟩ : qT n 18 250 11) a1 (by omega) 1 (by omega)) (fun vr M13 hr => ?_)
          obtain ⟨hq, x14, rfl, hx14⟩ := hr
          replace hq := hq.symm; subst hq
          show zG n (0, 0) d 130 (63, [.inr (.inr (some 8)), .inl a1, .inl a2, .inl a3, .inl a4, .inl a5, zN], [.inl x14, .inl a4]) M _
          refine zG_blk (c' := (66, [.inr (.inr (some 8)), .inl a1, .inl a2, .inl a3, .inl a4, .inl a5, zN], [.inl 9999, .inl x14, .inl a4])) 1 hd0 hz (by rfl) ?_
          refine zG_call hd0 hz (rfl : zP 169 = (zk_X10_within, 3, (0, 0))) rfl rfl (Nat.le_of_ble_eq_true rfl) ⟨Nat.le_refl _, Nat.le_refl _⟩ (qm_169 (by omega) hC  a4 (by omega) x14 (by omega) 9999 (by omega)) (fun vr M15 hr => ?_)
          obtain ⟨hq, x16, rfl, hx16⟩ := hr
          replace hq := hq.symm; subst hq
          show zG n (0, 0) d 130 (69, [.inr (.inr (some 8)), .inl a1, .inl a2, .inl a3, .inl a4, .inl a5, zN], [.inl x16]) M _
          have j85 : zG n (0, 0) d 130 (85, [.inr (.inr (some 8)), .inl a1, .inl a2, .inl a3, .inl a4, .inl a5, zN], []) M (fun v M' => qWf qCI [18, 19] M M' ∧ qRi (fun x => (-4) ≤ x ∧ x ≤ 249) v) := by
            refine zG_blk (c' := (87, [.inr (.inr (some 8)), .inl a1, .inl a2, .inl a3, .inl a4, .inl a5, zN], [.inl (-2)])) 1 hd0 hz (by rfl) ?_
            exact zG_ret hd0 hz rfl rfl ⟨⟨hC, hW⟩, _, rfl, by omega⟩
          refine zG_if_eq hd0 hz rfl (fun hb17 => ?_) (fun hb17 => ?_)
          · exact j85
          · refine zG_blk (c' := (79, [.inr (.inr (some 8)), .inl a1, .inl a2, .inl a3, .inl a4, .inl a5, zN], [.inl 9999, .inl a4, .inl a5])) 3 hd0 hz (by rfl) ?_
            refine zG_call hd0 hz (rfl : zP 169 = (zk_X10_within, 3, (0, 0))) rfl rfl (Nat.le_of_ble_eq_true rfl) ⟨Nat.le_refl _, Nat.le_refl _⟩ (qm_169 (by omega) hC  a5 (by omega) a4 (by omega) 9999 (by omega)) (fun vr M18 hr => ?_)
            obtain ⟨hq, x19, rfl, hx19⟩ := hr
            replace hq := hq.symm; subst hq
            show zG n (0, 0) d 130 (82, [.inr (.inr (some 8)), .inl a1, .inl a2, .inl a3, .inl a4, .inl a5, zN], [.inl x19]) M _
            refine zG_if_ne hd0 hz rfl (fun hb20 => ?_) (fun hb20 => ?_)
            · refine zG_blk (c' := (98, [.inr (.inr (some 8)), .inl a1, .inl a2, .inl a3, .inl a4, .inl a5, zN], [.inl (-1), .inl a5, .inl a4, .inl 1, .inr (.inr (some 9))])) 6 hd0 hz (by rfl) ?_
              refine zG_call hd0 hz (rfl : zP 18 = (zk_X2_enter, 7, (0, 0))) rfl rfl (Nat.le_of_ble_eq_true rfl) ⟨Nat.le_refl _, Nat.le_refl _⟩ (qm_18_9 (by omega) hC  1 (by omega) a4 (by omega) a5 (by omega) (-1) (by omega)) (fun vr M21 hr => ?_)
              obtain ⟨⟨hCM21, hFM21⟩, x22, rfl, hx22⟩ := hr
              have hWM21 : qFr [18, 19] M M21 := hW.tr hFM21 (by decide)
              show zG n (0, 0) d 130 (101, [.inr (.inr (some 8)), .inl a1, .inl a2, .inl a3, .inl a4, .inl a5, zN], [.inl x22]) M21 _
              refine zG_blk (c' := (115, [.inr (.inr (some 8)), .inl a1, .inl a2, .inl a3, .inl a4, .inl a5, .inl x22], [.inl a1, .inl 6, .inl x22, .inr (.inr (some 18))])) 7 hd0 hz (by rfl) ?_
              refine zG_call hd0 hz (rfl : zP 107 = (zk_X8_set, 4, (0, 0))) rfl rfl (Nat.le_of_ble_eq_true rfl) ⟨Nat.le_refl _, Nat.le_refl _⟩ (qw_set (by omega) hCM21 (⟨by decide, rfl, rfl⟩ : qT n 18 250 11) x22 (by omega) 6 (by omega) a1 (by omega)) (fun vr M23 hr => ?_)
              obtain ⟨⟨hCM23, hFM23⟩, rfl⟩ := hr
              have hWM23 : qFr [18, 19] M M23 := hWM21.tr hFM23 (by decide)
              show zG n (0, 0) d 130 (118, [.inr (.inr (some 8)), .inl a1, .inl a2, .inl a3, .inl a4, .inl a5, .inl x22], []) M23 _
              refine zG_blk (c' := (130, [.inr (.inr (some 8)), .inl a1, .inl a2, .inl a3, .inl a4, .inl a5, .inl x22], [.inl a2, .inl 7, .inl x22, .inr (.inr (some 18))])) 6 hd0 hz (by rfl) ?_
              refine zG_call hd0 hz (rfl : zP 107 = (zk_X8_set, 4, (0, 0))) rfl rfl (Nat.le_of_ble_eq_true rfl) ⟨Nat.le_refl _, Nat.le_refl _⟩ (qw_set (by omega) hCM23 (⟨by decide, rfl, rfl⟩ : qT n 18 250 11) x22 (by omega) 7 (by omega) a2 (by omega)) (fun vr M25 hr => ?_)
              obtain ⟨⟨hCM25, hFM25⟩, rfl⟩ := hr
              have hWM25 : qFr [18, 19] M M25 := hWM23.tr hFM25 (by decide)
              show zG n (0, 0) d 130 (133, [.inr (.inr (some 8)), .inl a1, .inl a2, .inl a3, .inl a4, .inl a5, .inl x22], []) M25 _
              refine zG_blk (c' := (145, [.inr (.inr (some 8)), .inl a1, .inl a2, .inl a3, .inl a4, .inl a5, .inl x22], [.inl a3, .inl 8, .inl x22, .inr (.inr (some 18))])) 6 hd0 hz (by rfl) ?_
              refine zG_call hd0 hz (rfl : zP 107 = (zk_X8_set, 4, (0, 0))) rfl rfl (Nat.le_of_ble_eq_true rfl) ⟨Nat.le_refl _, Nat.le_refl _⟩ (qw_set (by omega) hCM25 (⟨by decide, rfl, rfl⟩ : qT n 18 250 11) x22 (by omega) 8 (by omega) a3 (by omega)) (fun vr M27 hr => ?_)
              obtain ⟨⟨hCM27, hFM27⟩, rfl⟩ := hr
              have hWM27 : qFr [18, 19] M M27 := hWM25.tr hFM27 (by decide)
              show zG n (0, 0) d 130 (148, [.inr (.inr (some 8)), .inl a1, .inl a2, .inl a3, .inl a4, .inl a5, .inl x22], []) M27 _
              refine zG_blk (c' := (150, [.inr (.inr (some 8)), .inl a1, .inl a2, .inl a3, .inl a4, .inl a5, .inl x22], [.inl x22])) 1 hd0 hz (by rfl) ?_
              exact zG_ret hd0 hz rfl rfl ⟨⟨hCM27, hWM27⟩, _, rfl, by omega⟩
            · exact j85
        · refine zG_blk (c' := (48, [.inr (.inr (some 8)), .inl a1, .inl a2, .inl a3, .inl a4, .inl a5, zN], [.inl (-2)])) 1 hd0 hz (by rfl) ?_
          exact zG_ret hd0 hz rfl rfl ⟨⟨hC, hW⟩, _, rfl, by omega⟩
      · exact j26
theorem qm_178_8 {n d : Nat} {M : zM} (hd : 2 ≤ d) (hC : qCI M) (a1 : Int) (ha1 : (-2147483648) ≤ a1 ∧ a1 ≤ 2147483647) (a2 : Int) (ha2 : (-2147483648) ≤ a2 ∧ a2 ≤ 2147483647) : qOkP n d 178 [.inr (.inr (some 8)), .inl a1, .inl a2] 3 M (qRi (fun x => 0 ≤ x ∧ x ≤ 1)) := by
  have hz : zP 178 = (zk_X10_isKnownAfter, 3, (0, 0)) := rfl
  have hd0 : 0 < d := by omega
  show zG n (0, 0) d 178 (0, [.inr (.inr (some 8)), .inl a1, .inl a2], []) M _
  refine zG_blk (c' := (8, [.inr (.inr (some 8)), .inl a1, .inl a2], [.inl a1, .inr (.inr (some 16))])) 4 hd0 hz (by rfl) ?_
  refine zG_call hd0 hz (rfl : zP 102 = (zk_X8_has, 2, (0, 0))) rfl rfl (Nat.le_of_ble_eq_true rfl) ⟨Nat.le_refl _, Nat.le_refl _⟩ (qw_has (by omega) hC (⟨by decide, rfl, rfl⟩ : qT n 16 40 5) a1 (by omega)) (fun vr M1 hr => ?_)
  obtain ⟨hq, x2, rfl, hx2⟩ := hr
  replace hq := hq.symm; subst hq
  show zG n (0, 0) d 178 (11, [.inr (.inr (some 8)), .inl a1, .inl a2], [.inl x2]) M _
  have j41 : ∀ (v3 : Int) , 0 ≤ v3 ∧ v3 ≤ 1 → zG n (0, 0) d 178 (41, [.inr (.inr (some 8)), .inl a1, .inl a2], [.inl v3]) M (fun v M' => M' = M ∧ qRi (fun x => 0 ≤ x ∧ x ≤ 1) v) := by
    intro v3 hv3
    exact zG_zret hd0 hz rfl (by omega) ⟨rfl, _, rfl, by omega⟩
  have j40 : zG n (0, 0) d 178 (40, [.inr (.inr (some 8)), .inl a1, .inl a2], []) M (fun v M' => M' = M ∧ qRi (fun x => 0 ≤ x ∧ x ≤ 1) v) := by
    refine zG_blk (c' := (41, [.inr (.inr (some 8)), .inl a1, .inl a2], [.inl 0])) 1 hd0 hz (by rfl) ?_
    exact j41 0 (by omega)
  refine zG_if_eq hd0 hz rfl (fun hb4 => ?_) (fun hb4 => ?_)
  · exact j40
  · refine zG_blk (c' := (24, [.inr (.inr (some 8)), .inl a1, .inl a2], [.inl 1, .inl a1, .inr (.inr (some 16)), .inl a2])) 6 hd0 hz (by rfl) ?_
    refine zG_call hd0 hz (rfl : zP 106 = (zk_X8_get, 3, (0, 0))) rfl rfl (Nat.le_of_ble_eq_true rfl) ⟨Nat.le_refl _, Nat.le_refl _⟩ (qw_get (by omega) hC (⟨by decide, rfl, rfl⟩ : qT n 16 40 5) a1 (by omega) 1 (by omega)) (fun vr M5 hr => ?_)
    obtain ⟨hq, x6, rfl, hx6⟩ := hr
    replace hq := hq.symm; subst hq
    show zG n (0, 0) d 178 (27, [.inr (.inr (some 8)), .inl a1, .inl a2], [.inl x6, .inl a2]) M _
    refine zG_blk (c' := (30, [.inr (.inr (some 8)), .inl a1, .inl a2], [.inl 9999, .inl x6, .inl a2])) 1 hd0 hz (by rfl) ?_
    refine zG_call hd0 hz (rfl : zP 169 = (zk_X10_within, 3, (0, 0))) rfl rfl (Nat.le_of_ble_eq_true rfl) ⟨Nat.le_refl _, Nat.le_refl _⟩ (qm_169 (by omega) hC  a2 (by omega) x6 (by omega) 9999 (by omega)) (fun vr M7 hr => ?_)
    obtain ⟨hq, x8, rfl, hx8⟩ := hr
    replace hq := hq.symm; subst hq
    show zG n (0, 0) d 178 (33, [.inr (.inr (some 8)), .inl a1, .inl a2], [.inl x8]) M _
    refine zG_if_eq hd0 hz rfl (fun hb9 => ?_) (fun hb9 => ?_)
    · exact j40
    · refine zG_blk (c' := (41, [.inr (.inr (some 8)), .inl a1, .inl a2], [.inl 1])) 2 hd0 hz (by rfl) ?_
      exact j41 1 (by omega)
theorem qm_179_8 {n d : Nat} {M : zM} (hd : 3 ≤ d) (hC : qCI M) (a1 : Int) (ha1 : (-2147483648) ≤ a1 ∧ a1 ≤ 2147483647) (a2 : Int) (ha2 : (-2147483648) ≤ a2 ∧ a2 ≤ 2147483647) (a3 : Int) (ha3 : (-2147483648) ≤ a3 ∧ a3 ≤ 2147483647) : qOkM n d 179 [.inr (.inr (some 8)), .inl a1, .inl a2, .inl a3] 4 qCI [18, 19] M (qRi (fun x => (-4) ≤ x ∧ x ≤ 249)) := by
  have hz : zP 179 = (zk_X10_enterBy, 4, (0, 0)) := rfl
  have hd0 : 0 < d := by omega
  have hW : qFr [18, 19] M M := qFr.rfl
  show zG n (0, 0) d 179 (0, [.inr (.inr (some 8)), .inl a1, .inl a2, .inl a3], []) M _
  refine zG_blk (c' := (14, [.inr (.inr (some 8)), .inl a1, .inl a2, .inl a3], [.inl 1, .inl a2, .inr (.inr (some 16)), .inl a1, .inr (.inr (some 9))])) 8 hd0 hz (by rfl) ?_
  refine zG_call hd0 hz (rfl : zP 106 = (zk_X8_get, 3, (0, 0))) rfl rfl (Nat.le_of_ble_eq_true rfl) ⟨Nat.le_refl _, Nat.le_refl _⟩ (qw_get (by omega) hC (⟨by decide, rfl, rfl⟩ : qT n 16 40 5) a2 (by omega) 1 (by omega)) (fun vr M1 hr => ?_)
  obtain ⟨hq, x2, rfl, hx2⟩ := hr
  replace hq := hq.symm; subst hq
  show zG n (0, 0) d 179 (17, [.inr (.inr (some 8)), .inl a1, .inl a2, .inl a3], [.inl x2, .inl a1, .inr (.inr (some 9))]) M _
  refine zG_blk (c' := (19, [.inr (.inr (some 8)), .inl a1, .inl a2, .inl a3], [.inl a2, .inl a3, .inl x2, .inl a1, .inr (.inr (some 9))])) 2 hd0 hz (by rfl) ?_
  refine zG_call hd0 hz (rfl : zP 18 = (zk_X2_enter, 7, (0, 0))) rfl rfl (Nat.le_of_ble_eq_true rfl) ⟨Nat.le_refl _, Nat.le_refl _⟩ (qm_18_9 (by omega) hC  a1 (by omega) x2 (by omega) a3 (by omega) a2 (by omega)) (fun vr M3 hr => ?_)
  obtain ⟨⟨hCM3, hFM3⟩, x4, rfl, hx4⟩ := hr
  have hWM3 : qFr [18, 19] M M3 := hW.tr hFM3 (by decide)
  show zG n (0, 0) d 179 (22, [.inr (.inr (some 8)), .inl a1, .inl a2, .inl a3], [.inl x4]) M3 _
  exact zG_ret hd0 hz rfl rfl ⟨⟨hCM3, hWM3⟩, _, rfl, by omega⟩
theorem qm_131_8 {n d : Nat} {M : zM} (hd : 4 ≤ d) (hC : qCI M) (a1 : Int) (ha1 : (-2147483648) ≤ a1 ∧ a1 ≤ 2147483647) (a2 : Int) (ha2 : (-2147483648) ≤ a2 ∧ a2 ≤ 2147483647) (a3 : Int) (ha3 : (-2147483648) ≤ a3 ∧ a3 ≤ 2147483647) (a4 : Int) (ha4 : (-2147483648) ≤ a4 ∧ a4 ≤ 2147483647) : qOkM n d 131 [.inr (.inr (some 8)), .inl a1, .inl a2, .inl a3, .inl a4] 6 qCI [18, 19] M (qRi (fun x => (-4) ≤ x ∧ x ≤ 249)) := by
  have hz : zP 131 = (zk_X10_moderate, 6, (0, 0)) := rfl
  have hd0 : 0 < d := by omega
  have hW : qFr [18, 19] M M := qFr.rfl
  show zG n (0, 0) d 131 (0, [.inr (.inr (some 8)), .inl a1, .inl a2, .inl a3, .inl a4, zN], []) M _
  refine zG_blk (c' := (6, [.inr (.inr (some 8)), .inl a1, .inl a2, .inl a3, .inl a4, zN], [.inl a1, .inl 0, .inr (.inr (some 9))])) 4 hd0 hz (by rfl) ?_
  refine zG_call hd0 hz (rfl : zP 19 = (zk_X2_isA, 3, (0, 0))) rfl rfl (Nat.le_of_ble_eq_true rfl) ⟨Nat.le_refl _, Nat.le_refl _⟩ (qm_19_9 (by omega) hC  0 (by omega) a1 (by omega)) (fun vr M1 hr => ?_)
  obtain ⟨hq, x2, rfl, hx2⟩ := hr
  replace hq := hq.symm; subst hq
  show zG n (0, 0) d 131 (9, [.inr (.inr (some 8)), .inl a1, .inl a2, .inl a3, .inl a4, zN], [.inl x2]) M _
  have j29 : zG n (0, 0) d 131 (29, [.inr (.inr (some 8)), .inl a1, .inl a2, .inl a3, .inl a4, zN], []) M (fun v M' => qWf qCI [18, 19] M M' ∧ qRi (fun x => (-4) ≤ x ∧ x ≤ 249) v) := by
    refine zG_blk (c' := (31, [.inr (.inr (some 8)), .inl a1, .inl a2, .inl a3, .inl a4, zN], [.inl (-2)])) 1 hd0 hz (by rfl) ?_
    exact zG_ret hd0 hz rfl rfl ⟨⟨hC, hW⟩, _, rfl, by omega⟩
  refine zG_if_eq hd0 hz rfl (fun hb3 => ?_) (fun hb3 => ?_)
  · exact j29
  · refine zG_blk (c' := (13, [.inr (.inr (some 8)), .inl a1, .inl a2, .inl a3, .inl a4, zN], [.inl a2])) 1 hd0 hz (by rfl) ?_
    refine zG_call hd0 hz (rfl : zP 171 = (zk_X10_isMark, 1, (0, 0))) rfl rfl (Nat.le_of_ble_eq_true rfl) ⟨Nat.le_refl _, Nat.le_refl _⟩ (qm_171 (by omega) hC  a2 (by omega)) (fun vr M4 hr => ?_)
    obtain ⟨hq, x5, rfl, hx5⟩ := hr
    replace hq := hq.symm; subst hq
    show zG n (0, 0) d 131 (16, [.inr (.inr (some 8)), .inl a1, .inl a2, .inl a3, .inl a4, zN], [.inl x5]) M _
    refine zG_if_eq hd0 hz rfl (fun hb6 => ?_) (fun hb6 => ?_)
    · exact j29
    · refine zG_blk (c' := (23, [.inr (.inr (some 8)), .inl a1, .inl a2, .inl a3, .inl a4, zN], [.inl a4, .inl a3, .inr (.inr (some 8))])) 3 hd0 hz (by rfl) ?_
      refine zG_call hd0 hz (rfl : zP 178 = (zk_X10_isKnownAfter, 3, (0, 0))) rfl rfl (Nat.le_of_ble_eq_true rfl) ⟨Nat.le_refl _, Nat.le_refl _⟩ (qm_178_8 (by omega) hC  a3 (by omega) a4 (by omega)) (fun vr M7 hr => ?_)
      obtain ⟨hq, x8, rfl, hx8⟩ := hr
      replace hq := hq.symm; subst hq
      show zG n (0, 0) d 131 (26, [.inr (.inr (some 8)), .inl a1, .inl a2, .inl a3, .inl a4, zN], [.inl x8]) M _
      refine zG_if_ne hd0 hz rfl (fun hb9 => ?_) (fun hb9 => ?_)
      · refine zG_blk (c' := (37, [.inr (.inr (some 8)), .inl a1, .inl a2, .inl a3, .inl a4, zN], [.inl a4, .inl a3, .inl 2, .inr (.inr (some 8))])) 4 hd0 hz (by rfl) ?_
        refine zG_call hd0 hz (rfl : zP 179 = (zk_X10_enterBy, 4, (0, 0))) rfl rfl (Nat.le_of_ble_eq_true rfl) ⟨Nat.le_refl _, Nat.le_refl _⟩ (qm_179_8 (by omega) hC  2 (by omega) a3 (by omega) a4 (by omega)) (fun vr M10 hr => ?_)
        obtain ⟨⟨hCM10, hFM10⟩, x11, rfl, hx11⟩ := hr
        have hWM10 : qFr [18, 19] M M10 := hW.tr hFM10 (by decide)
        show zG n (0, 0) d 131 (40, [.inr (.inr (some 8)), .inl a1, .inl a2, .inl a3, .inl a4, zN], [.inl x11]) M10 _
        refine zG_blk (c' := (54, [.inr (.inr (some 8)), .inl a1, .inl a2, .inl a3, .inl a4, .inl x11], [.inl a1, .inl 6, .inl x11, .inr (.inr (some 18))])) 7 hd0 hz (by rfl) ?_
        refine zG_call hd0 hz (rfl : zP 107 = (zk_X8_set, 4, (0, 0))) rfl rfl (Nat.le_of_ble_eq_true rfl) ⟨Nat.le_refl _, Nat.le_refl _⟩ (qw_set (by omega) hCM10 (⟨by decide, rfl, rfl⟩ : qT n 18 250 11) x11 (by omega) 6 (by omega) a1 (by omega)) (fun vr M12 hr => ?_)
        obtain ⟨⟨hCM12, hFM12⟩, rfl⟩ := hr
        have hWM12 : qFr [18, 19] M M12 := hWM10.tr hFM12 (by decide)
        show zG n (0, 0) d 131 (57, [.inr (.inr (some 8)), .inl a1, .inl a2, .inl a3, .inl a4, .inl x11], []) M12 _
        refine zG_blk (c' := (69, [.inr (.inr (some 8)), .inl a1, .inl a2, .inl a3, .inl a4, .inl x11], [.inl a2, .inl 7, .inl x11, .inr (.inr (some 18))])) 6 hd0 hz (by rfl) ?_
        refine zG_call hd0 hz (rfl : zP 107 = (zk_X8_set, 4, (0, 0))) rfl rfl (Nat.le_of_ble_eq_true rfl) ⟨Nat.le_refl _, Nat.le_refl _⟩ (qw_set (by omega) hCM12 (⟨by decide, rfl, rfl⟩ : qT n 18 250 11) x11 (by omega) 7 (by omega) a2 (by omega)) (fun vr M14 hr => ?_)
        obtain ⟨⟨hCM14, hFM14⟩, rfl⟩ := hr
        have hWM14 : qFr [18, 19] M M14 := hWM12.tr hFM14 (by decide)
        show zG n (0, 0) d 131 (72, [.inr (.inr (some 8)), .inl a1, .inl a2, .inl a3, .inl a4, .inl x11], []) M14 _
        refine zG_blk (c' := (74, [.inr (.inr (some 8)), .inl a1, .inl a2, .inl a3, .inl a4, .inl x11], [.inl x11])) 1 hd0 hz (by rfl) ?_
        exact zG_ret hd0 hz rfl rfl ⟨⟨hCM14, hWM14⟩, _, rfl, by omega⟩
      · exact j29
theorem qm_132_8 {n d : Nat} {M : zM} (hd : 4 ≤ d) (hC : qCI M) (a1 : Int) (ha1 : (-2147483648) ≤ a1 ∧ a1 ≤ 2147483647) (a2 : Int) (ha2 : (-2147483648) ≤ a2 ∧ a2 ≤ 2147483647) (a3 : Int) (ha3 : (-2147483648) ≤ a3 ∧ a3 ≤ 2147483647) (a4 : Int) (ha4 : (-2147483648) ≤ a4 ∧ a4 ≤ 2147483647) (a5 : Int) (ha5 : (-2147483648) ≤ a5 ∧ a5 ≤ 2147483647) (a6 : Int) (ha6 : (-2147483648) ≤ a6 ∧ a6 ≤ 2147483647) : qOkM n d 132 [.inr (.inr (some 8)), .inl a1, .inl a2, .inl a3, .inl a4, .inl a5, .inl a6] 8 qCI [18, 19] M (qRi (fun x => (-4) ≤ x ∧ x ≤ 249)) := by
  have hz : zP 132 = (zk_X10_scale, 8, (0, 0)) := rfl
  have hd0 : 0 < d := by omega
  have hW : qFr [18, 19] M M := qFr.rfl
  show zG n (0, 0) d 132 (0, [.inr (.inr (some 8)), .inl a1, .inl a2, .inl a3, .inl a4, .inl a5, .inl a6, zN], []) M _
  refine zG_blk (c' := (2, [.inr (.inr (some 8)), .inl a1, .inl a2, .inl a3, .inl a4, .inl a5, .inl a6, zN], [.inl a1, .inr (.inr (some 8))])) 2 hd0 hz (by rfl) ?_
  refine zG_call hd0 hz (rfl : zP 175 = (zk_X10_isCourse, 2, (0, 0))) rfl rfl (Nat.le_of_ble_eq_true rfl) ⟨Nat.le_refl _, Nat.le_refl _⟩ (qm_175_8 (by omega) hC  a1 (by omega)) (fun vr M1 hr => ?_)
  obtain ⟨hq, x2, rfl, hx2⟩ := hr
  replace hq := hq.symm; subst hq
  show zG n (0, 0) d 132 (5, [.inr (.inr (some 8)), .inl a1, .inl a2, .inl a3, .inl a4, .inl a5, .inl a6, zN], [.inl x2]) M _
  have j30 : zG n (0, 0) d 132 (30, [.inr (.inr (some 8)), .inl a1, .inl a2, .inl a3, .inl a4, .inl a5, .inl a6, zN], []) M (fun v M' => qWf qCI [18, 19] M M' ∧ qRi (fun x => (-4) ≤ x ∧ x ≤ 249) v) := by
    refine zG_blk (c' := (32, [.inr (.inr (some 8)), .inl a1, .inl a2, .inl a3, .inl a4, .inl a5, .inl a6, zN], [.inl (-2)])) 1 hd0 hz (by rfl) ?_
    exact zG_ret hd0 hz rfl rfl ⟨⟨hC, hW⟩, _, rfl, by omega⟩
  refine zG_if_eq hd0 hz rfl (fun hb3 => ?_) (fun hb3 => ?_)
  · exact j30
  · refine zG_blk (c' := (13, [.inr (.inr (some 8)), .inl a1, .inl a2, .inl a3, .inl a4, .inl a5, .inl a6, zN], [.inl 200, .inl 1, .inl a2])) 3 hd0 hz (by rfl) ?_
    refine zG_call hd0 hz (rfl : zP 169 = (zk_X10_within, 3, (0, 0))) rfl rfl (Nat.le_of_ble_eq_true rfl) ⟨Nat.le_refl _, Nat.le_refl _⟩ (qm_169 (by omega) hC  a2 (by omega) 1 (by omega) 200 (by omega)) (fun vr M4 hr => ?_)
    obtain ⟨hq, x5, rfl, hx5⟩ := hr
    replace hq := hq.symm; subst hq
    show zG n (0, 0) d 132 (16, [.inr (.inr (some 8)), .inl a1, .inl a2, .inl a3, .inl a4, .inl a5, .inl a6, zN], [.inl x5]) M _
    refine zG_if_eq hd0 hz rfl (fun hb6 => ?_) (fun hb6 => ?_)
    · exact j30
    · refine zG_blk (c' := (24, [.inr (.inr (some 8)), .inl a1, .inl a2, .inl a3, .inl a4, .inl a5, .inl a6, zN], [.inl 200, .inl 1, .inl a3])) 3 hd0 hz (by rfl) ?_
      refine zG_call hd0 hz (rfl : zP 169 = (zk_X10_within, 3, (0, 0))) rfl rfl (Nat.le_of_ble_eq_true rfl) ⟨Nat.le_refl _, Nat.le_refl _⟩ (qm_169 (by omega) hC  a3 (by omega) 1 (by omega) 200 (by omega)) (fun vr M7 hr => ?_)
      obtain ⟨hq, x8, rfl, hx8⟩ := hr
      replace hq := hq.symm; subst hq
      show zG n (0, 0) d 132 (27, [.inr (.inr (some 8)), .inl a1, .inl a2, .inl a3, .inl a4, .inl a5, .inl a6, zN], [.inl x8]) M _
      refine zG_if_ne hd0 hz rfl (fun hb9 => ?_) (fun hb9 => ?_)
      · refine zG_blk (c' := (39, [.inr (.inr (some 8)), .inl a1, .inl a2, .inl a3, .inl a4, .inl a5, .inl a6, zN], [.inl 50, .inl (-50), .inl a4])) 3 hd0 hz (by rfl) ?_
        refine zG_call hd0 hz (rfl : zP 169 = (zk_X10_within, 3, (0, 0))) rfl rfl (Nat.le_of_ble_eq_true rfl) ⟨Nat.le_refl _, Nat.le_refl _⟩ (qm_169 (by omega) hC  a4 (by omega) (-50) (by omega) 50 (by omega)) (fun vr M10 hr => ?_)
        obtain ⟨hq, x11, rfl, hx11⟩ := hr
        replace hq := hq.symm; subst hq
        show zG n (0, 0) d 132 (42, [.inr (.inr (some 8)), .inl a1, .inl a2, .inl a3, .inl a4, .inl a5, .inl a6, zN], [.inl x11]) M _
        have j56 : zG n (0, 0) d 132 (56, [.inr (.inr (some 8)), .inl a1, .inl a2, .inl a3, .inl a4, .inl a5, .inl a6, zN], []) M (fun v M' => qWf qCI [18, 19] M M' ∧ qRi (fun x => (-4) ≤ x ∧ x ≤ 249) v) := by
          refine zG_blk (c' := (58, [.inr (.inr (some 8)), .inl a1, .inl a2, .inl a3, .inl a4, .inl a5, .inl a6, zN], [.inl (-2)])) 1 hd0 hz (by rfl) ?_
          exact zG_ret hd0 hz rfl rfl ⟨⟨hC, hW⟩, _, rfl, by omega⟩
        refine zG_if_eq hd0 hz rfl (fun hb12 => ?_) (fun hb12 => ?_)
        · exact j56
        · refine zG_blk (c' := (50, [.inr (.inr (some 8)), .inl a1, .inl a2, .inl a3, .inl a4, .inl a5, .inl a6, zN], [.inl a6, .inl a5, .inr (.inr (some 8))])) 3 hd0 hz (by rfl) ?_
          refine zG_call hd0 hz (rfl : zP 178 = (zk_X10_isKnownAfter, 3, (0, 0))) rfl rfl (Nat.le_of_ble_eq_true rfl) ⟨Nat.le_refl _, Nat.le_refl _⟩ (qm_178_8 (by omega) hC  a5 (by omega) a6 (by omega)) (fun vr M13 hr => ?_)
          obtain ⟨hq, x14, rfl, hx14⟩ := hr
          replace hq := hq.symm; subst hq
          show zG n (0, 0) d 132 (53, [.inr (.inr (some 8)), .inl a1, .inl a2, .inl a3, .inl a4, .inl a5, .inl a6, zN], [.inl x14]) M _
          refine zG_if_ne hd0 hz rfl (fun hb15 => ?_) (fun hb15 => ?_)
          · refine zG_blk (c' := (65, [.inr (.inr (some 8)), .inl a1, .inl a2, .inl a3, .inl a4, .inl a5, .inl a6, zN], [.inl a6, .inl a5, .inl 3, .inr (.inr (some 8))])) 4 hd0 hz (by rfl) ?_
            refine zG_call hd0 hz (rfl : zP 179 = (zk_X10_enterBy, 4, (0, 0))) rfl rfl (Nat.le_of_ble_eq_true rfl) ⟨Nat.le_refl _, Nat.le_refl _⟩ (qm_179_8 (by omega) hC  3 (by omega) a5 (by omega) a6 (by omega)) (fun vr M16 hr => ?_)
            obtain ⟨⟨hCM16, hFM16⟩, x17, rfl, hx17⟩ := hr
            have hWM16 : qFr [18, 19] M M16 := hW.tr hFM16 (by decide)
            show zG n (0, 0) d 132 (68, [.inr (.inr (some 8)), .inl a1, .inl a2, .inl a3, .inl a4, .inl a5, .inl a6, zN], [.inl x17]) M16 _
            refine zG_blk (c' := (81, [.inr (.inr (some 8)), .inl a1, .inl a2, .inl a3, .inl a4, .inl a5, .inl a6, .inl x17], [.inl a1, .inl 5, .inl x17, .inr (.inr (some 18))])) 7 hd0 hz (by rfl) ?_
            refine zG_call hd0 hz (rfl : zP 107 = (zk_X8_set, 4, (0, 0))) rfl rfl (Nat.le_of_ble_eq_true rfl) ⟨Nat.le_refl _, Nat.le_refl _⟩ (qw_set (by omega) hCM16 (⟨by decide, rfl, rfl⟩ : qT n 18 250 11) x17 (by omega) 5 (by omega) a1 (by omega)) (fun vr M18 hr => ?_)
            obtain ⟨⟨hCM18, hFM18⟩, rfl⟩ := hr
            have hWM18 : qFr [18, 19] M M18 := hWM16.tr hFM18 (by decide)
            show zG n (0, 0) d 132 (84, [.inr (.inr (some 8)), .inl a1, .inl a2, .inl a3, .inl a4, .inl a5, .inl a6, .inl x17], []) M18 _
            refine zG_blk (c' := (96, [.inr (.inr (some 8)), .inl a1, .inl a2, .inl a3, .inl a4, .inl a5, .inl a6, .inl x17], [.inl a2, .inl 8, .inl x17, .inr (.inr (some 18))])) 6 hd0 hz (by rfl) ?_
            refine zG_call hd0 hz (rfl : zP 107 = (zk_X8_set, 4, (0, 0))) rfl rfl (Nat.le_of_ble_eq_true rfl) ⟨Nat.le_refl _, Nat.le_refl _⟩ (qw_set (by omega) hCM18 (⟨by decide, rfl, rfl⟩ : qT n 18 250 11) x17 (by omega) 8 (by omega) a2 (by omega)) (fun vr M20 hr => ?_)
            obtain ⟨⟨hCM20, hFM20⟩, rfl⟩ := hr
            have hWM20 : qFr [18, 19] M M20 := hWM18.tr hFM20 (by decide)
            show zG n (0, 0) d 132 (99, [.inr (.inr (some 8)), .inl a1, .inl a2, .inl a3, .inl a4, .inl a5, .inl a6, .inl x17], []) M20 _
            refine zG_blk (c' := (111, [.inr (.inr (some 8)), .inl a1, .inl a2, .inl a3, .inl a4, .inl a5, .inl a6, .inl x17], [.inl a3, .inl 9, .inl x17, .inr (.inr (some 18))])) 6 hd0 hz (by rfl) ?_
            refine zG_call hd0 hz (rfl : zP 107 = (zk_X8_set, 4, (0, 0))) rfl rfl (Nat.le_of_ble_eq_true rfl) ⟨Nat.le_refl _, Nat.le_refl _⟩ (qw_set (by omega) hCM20 (⟨by decide, rfl, rfl⟩ : qT n 18 250 11) x17 (by omega) 9 (by omega) a3 (by omega)) (fun vr M22 hr => ?_)
            obtain ⟨⟨hCM22, hFM22⟩, rfl⟩ := hr
            have hWM22 : qFr [18, 19] M M22 := hWM20.tr hFM22 (by decide)
            show zG n (0, 0) d 132 (114, [.inr (.inr (some 8)), .inl a1, .inl a2, .inl a3, .inl a4, .inl a5, .inl a6, .inl x17], []) M22 _
            refine zG_blk (c' := (127, [.inr (.inr (some 8)), .inl a1, .inl a2, .inl a3, .inl a4, .inl a5, .inl a6, .inl x17], [.inl a4, .inl 10, .inl x17, .inr (.inr (some 18))])) 6 hd0 hz (by rfl) ?_
            refine zG_call hd0 hz (rfl : zP 107 = (zk_X8_set, 4, (0, 0))) rfl rfl (Nat.le_of_ble_eq_true rfl) ⟨Nat.le_refl _, Nat.le_refl _⟩ (qw_set (by omega) hCM22 (⟨by decide, rfl, rfl⟩ : qT n 18 250 11) x17 (by omega) 10 (by omega) a4 (by omega)) (fun vr M24 hr => ?_)
            obtain ⟨⟨hCM24, hFM24⟩, rfl⟩ := hr
            have hWM24 : qFr [18, 19] M M24 := hWM22.tr hFM24 (by decide)
            show zG n (0, 0) d 132 (130, [.inr (.inr (some 8)), .inl a1, .inl a2, .inl a3, .inl a4, .inl a5, .inl a6, .inl x17], []) M24 _
            refine zG_blk (c' := (132, [.inr (.inr (some 8)), .inl a1, .inl a2, .inl a3, .inl a4, .inl a5, .inl a6, .inl x17], [.inl x17])) 1 hd0 hz (by rfl) ?_
            exact zG_ret hd0 hz rfl rfl ⟨⟨hCM24, hWM24⟩, _, rfl, by omega⟩
          · exact j56
      · exact j30
theorem qm_133_8 {n d : Nat} {M : zM} (hd : 4 ≤ d) (hC : qCI M) (a1 : Int) (ha1 : (-2147483648) ≤ a1 ∧ a1 ≤ 2147483647) (a2 : Int) (ha2 : (-2147483648) ≤ a2 ∧ a2 ≤ 2147483647) (a3 : Int) (ha3 : (-2147483648) ≤ a3 ∧ a3 ≤ 2147483647) (a4 : Int) (ha4 : (-2147483648) ≤ a4 ∧ a4 ≤ 2147483647) : qOkM n d 133 [.inr (.inr (some 8)), .inl a1, .inl a2, .inl a3, .inl a4] 6 qCI [18, 19] M (qRi (fun x => (-4) ≤ x ∧ x ≤ 249)) := by
  have hz : zP 133 = (zk_X10_excuse, 6, (0, 0)) := rfl
  have hd0 : 0 < d := by omega
  have hW : qFr [18, 19] M M := qFr.rfl
  show zG n (0, 0) d 133 (0, [.inr (.inr (some 8)), .inl a1, .inl a2, .inl a3, .inl a4, zN], []) M _
  refine zG_blk (c' := (2, [.inr (.inr (some 8)), .inl a1, .inl a2, .inl a3, .inl a4, zN], [.inl a1, .inr (.inr (some 8))])) 2 hd0 hz (by rfl) ?_
  refine zG_call hd0 hz (rfl : zP 174 = (zk_X10_isStudent, 2, (0, 0))) rfl rfl (Nat.le_of_ble_eq_true rfl) ⟨Nat.le_refl _, Nat.le_refl _⟩ (qm_174_8 (by omega) hC  a1 (by omega)) (fun vr M1 hr => ?_)
  obtain ⟨hq, x2, rfl, hx2⟩ := hr
  replace hq := hq.symm; subst hq
  show zG n (0, 0) d 133 (5, [.inr (.inr (some 8)), .inl a1, .inl a2, .inl a3, .inl a4, zN], [.inl x2]) M _
  have j26 : zG n (0, 0) d 133 (26, [.inr (.inr (some 8)), .inl a1, .inl a2, .inl a3, .inl a4, zN], []) M (fun v M' => qWf qCI [18, 19] M M' ∧ qRi (fun x => (-4) ≤ x ∧ x ≤ 249) v) := by
    refine zG_blk (c' := (28, [.inr (.inr (some 8)), .inl a1, .inl a2, .inl a3, .inl a4, zN], [.inl (-2)])) 1 hd0 hz (by rfl) ?_
    exact zG_ret hd0 hz rfl rfl ⟨⟨hC, hW⟩, _, rfl, by omega⟩
  refine zG_if_eq hd0 hz rfl (fun hb3 => ?_) (fun hb3 => ?_)
  · exact j26
  · refine zG_blk (c' := (10, [.inr (.inr (some 8)), .inl a1, .inl a2, .inl a3, .inl a4, zN], [.inl a2, .inr (.inr (some 8))])) 2 hd0 hz (by rfl) ?_
    refine zG_call hd0 hz (rfl : zP 175 = (zk_X10_isCourse, 2, (0, 0))) rfl rfl (Nat.le_of_ble_eq_true rfl) ⟨Nat.le_refl _, Nat.le_refl _⟩ (qm_175_8 (by omega) hC  a2 (by omega)) (fun vr M4 hr => ?_)
    obtain ⟨hq, x5, rfl, hx5⟩ := hr
    replace hq := hq.symm; subst hq
    show zG n (0, 0) d 133 (13, [.inr (.inr (some 8)), .inl a1, .inl a2, .inl a3, .inl a4, zN], [.inl x5]) M _
    refine zG_if_eq hd0 hz rfl (fun hb6 => ?_) (fun hb6 => ?_)
    · exact j26
    · refine zG_blk (c' := (20, [.inr (.inr (some 8)), .inl a1, .inl a2, .inl a3, .inl a4, zN], [.inl a4, .inl a3, .inr (.inr (some 8))])) 3 hd0 hz (by rfl) ?_
      refine zG_call hd0 hz (rfl : zP 178 = (zk_X10_isKnownAfter, 3, (0, 0))) rfl rfl (Nat.le_of_ble_eq_true rfl) ⟨Nat.le_refl _, Nat.le_refl _⟩ (qm_178_8 (by omega) hC  a3 (by omega) a4 (by omega)) (fun vr M7 hr => ?_)
      obtain ⟨hq, x8, rfl, hx8⟩ := hr
      replace hq := hq.symm; subst hq
      show zG n (0, 0) d 133 (23, [.inr (.inr (some 8)), .inl a1, .inl a2, .inl a3, .inl a4, zN], [.inl x8]) M _
      refine zG_if_ne hd0 hz rfl (fun hb9 => ?_) (fun hb9 => ?_)
      · refine zG_blk (c' := (34, [.inr (.inr (some 8)), .inl a1, .inl a2, .inl a3, .inl a4, zN], [.inl a4, .inl a3, .inl 4, .inr (.inr (some 8))])) 4 hd0 hz (by rfl) ?_
        refine zG_call hd0 hz (rfl : zP 179 = (zk_X10_enterBy, 4, (0, 0))) rfl rfl (Nat.le_of_ble_eq_true rfl) ⟨Nat.le_refl _, Nat.le_refl _⟩ (qm_179_8 (by omega) hC  4 (by omega) a3 (by omega) a4 (by omega)) (fun vr M10 hr => ?_)
        obtain ⟨⟨hCM10, hFM10⟩, x11, rfl, hx11⟩ := hr
        have hWM10 : qFr [18, 19] M M10 := hW.tr hFM10 (by decide)
        show zG n (0, 0) d 133 (37, [.inr (.inr (some 8)), .inl a1, .inl a2, .inl a3, .inl a4, zN], [.inl x11]) M10 _
        refine zG_blk (c' := (50, [.inr (.inr (some 8)), .inl a1, .inl a2, .inl a3, .inl a4, .inl x11], [.inl a1, .inl 4, .inl x11, .inr (.inr (some 18))])) 7 hd0 hz (by rfl) ?_
        refine zG_call hd0 hz (rfl : zP 107 = (zk_X8_set, 4, (0, 0))) rfl rfl (Nat.le_of_ble_eq_true rfl) ⟨Nat.le_refl _, Nat.le_refl _⟩ (qw_set (by omega) hCM10 (⟨by decide, rfl, rfl⟩ : qT n 18 250 11) x11 (by omega) 4 (by omega) a1 (by omega)) (fun vr M12 hr => ?_)
        obtain ⟨⟨hCM12, hFM12⟩, rfl⟩ := hr
        have hWM12 : qFr [18, 19] M M12 := hWM10.tr hFM12 (by decide)
        show zG n (0, 0) d 133 (53, [.inr (.inr (some 8)), .inl a1, .inl a2, .inl a3, .inl a4, .inl x11], []) M12 _
        refine zG_blk (c' := (64, [.inr (.inr (some 8)), .inl a1, .inl a2, .inl a3, .inl a4, .inl x11], [.inl a2, .inl 5, .inl x11, .inr (.inr (some 18))])) 6 hd0 hz (by rfl) ?_
        refine zG_call hd0 hz (rfl : zP 107 = (zk_X8_set, 4, (0, 0))) rfl rfl (Nat.le_of_ble_eq_true rfl) ⟨Nat.le_refl _, Nat.le_refl _⟩ (qw_set (by omega) hCM12 (⟨by decide, rfl, rfl⟩ : qT n 18 250 11) x11 (by omega) 5 (by omega) a2 (by omega)) (fun vr M14 hr => ?_)
        obtain ⟨⟨hCM14, hFM14⟩, rfl⟩ := hr
        have hWM14 : qFr [18, 19] M M14 := hWM12.tr hFM14 (by decide)
        show zG n (0, 0) d 133 (67, [.inr (.inr (some 8)), .inl a1, .inl a2, .inl a3, .inl a4, .inl x11], []) M14 _
        refine zG_blk (c' := (69, [.inr (.inr (some 8)), .inl a1, .inl a2, .inl a3, .inl a4, .inl x11], [.inl x11])) 1 hd0 hz (by rfl) ?_
        exact zG_ret hd0 hz rfl rfl ⟨⟨hCM14, hWM14⟩, _, rfl, by omega⟩
      · exact j26
theorem qm_134_8 {n d : Nat} {M : zM} (hd : 4 ≤ d) (hC : qCI M) (a1 : Int) (ha1 : (-2147483648) ≤ a1 ∧ a1 ≤ 2147483647) (a2 : Int) (ha2 : (-2147483648) ≤ a2 ∧ a2 ≤ 2147483647) (a3 : Int) (ha3 : (-2147483648) ≤ a3 ∧ a3 ≤ 2147483647) : qOkM n d 134 [.inr (.inr (some 8)), .inl a1, .inl a2, .inl a3] 5 qCI [18, 19] M (qRi (fun x => (-4) ≤ x ∧ x ≤ 249)) := by
  have hz : zP 134 = (zk_X10_strike, 5, (0, 0)) := rfl
  have hd0 : 0 < d := by omega
  have hW : qFr [18, 19] M M := qFr.rfl
  show zG n (0, 0) d 134 (0, [.inr (.inr (some 8)), .inl a1, .inl a2, .inl a3, zN], []) M _
  refine zG_blk (c' := (8, [.inr (.inr (some 8)), .inl a1, .inl a2, .inl a3, zN], [.inl a1, .inr (.inr (some 18))])) 4 hd0 hz (by rfl) ?_
  refine zG_call hd0 hz (rfl : zP 102 = (zk_X8_has, 2, (0, 0))) rfl rfl (Nat.le_of_ble_eq_true rfl) ⟨Nat.le_refl _, Nat.le_refl _⟩ (qw_has (by omega) hC (⟨by decide, rfl, rfl⟩ : qT n 18 250 11) a1 (by omega)) (fun vr M1 hr => ?_)
  obtain ⟨hq, x2, rfl, hx2⟩ := hr
  replace hq := hq.symm; subst hq
  show zG n (0, 0) d 134 (11, [.inr (.inr (some 8)), .inl a1, .inl a2, .inl a3, zN], [.inl x2]) M _
  have j23 : zG n (0, 0) d 134 (23, [.inr (.inr (some 8)), .inl a1, .inl a2, .inl a3, zN], []) M (fun v M' => qWf qCI [18, 19] M M' ∧ qRi (fun x => (-4) ≤ x ∧ x ≤ 249) v) := by
    refine zG_blk (c' := (25, [.inr (.inr (some 8)), .inl a1, .inl a2, .inl a3, zN], [.inl (-2)])) 1 hd0 hz (by rfl) ?_
    exact zG_ret hd0 hz rfl rfl ⟨⟨hC, hW⟩, _, rfl, by omega⟩
  refine zG_if_eq hd0 hz rfl (fun hb3 => ?_) (fun hb3 => ?_)
  · exact j23
  · refine zG_blk (c' := (17, [.inr (.inr (some 8)), .inl a1, .inl a2, .inl a3, zN], [.inl a3, .inl a2, .inr (.inr (some 8))])) 3 hd0 hz (by rfl) ?_
    refine zG_call hd0 hz (rfl : zP 178 = (zk_X10_isKnownAfter, 3, (0, 0))) rfl rfl (Nat.le_of_ble_eq_true rfl) ⟨Nat.le_refl _, Nat.le_refl _⟩ (qm_178_8 (by omega) hC  a2 (by omega) a3 (by omega)) (fun vr M4 hr => ?_)
    obtain ⟨hq, x5, rfl, hx5⟩ := hr
    replace hq := hq.symm; subst hq
    show zG n (0, 0) d 134 (20, [.inr (.inr (some 8)), .inl a1, .inl a2, .inl a3, zN], [.inl x5]) M _
    refine zG_if_ne hd0 hz rfl (fun hb6 => ?_) (fun hb6 => ?_)
    · refine zG_blk (c' := (30, [.inr (.inr (some 8)), .inl a1, .inl a2, .inl a3, zN], [.inl a3, .inl a2, .inl 5, .inr (.inr (some 8))])) 4 hd0 hz (by rfl) ?_
      refine zG_call hd0 hz (rfl : zP 179 = (zk_X10_enterBy, 4, (0, 0))) rfl rfl (Nat.le_of_ble_eq_true rfl) ⟨Nat.le_refl _, Nat.le_refl _⟩ (qm_179_8 (by omega) hC  5 (by omega) a2 (by omega) a3 (by omega)) (fun vr M7 hr => ?_)
      obtain ⟨⟨hCM7, hFM7⟩, x8, rfl, hx8⟩ := hr
      have hWM7 : qFr [18, 19] M M7 := hW.tr hFM7 (by decide)
      show zG n (0, 0) d 134 (33, [.inr (.inr (some 8)), .inl a1, .inl a2, .inl a3, zN], [.inl x8]) M7 _
      refine zG_blk (c' := (47, [.inr (.inr (some 8)), .inl a1, .inl a2, .inl a3, .inl x8], [.inl a1, .inl 6, .inl x8, .inr (.inr (some 18))])) 7 hd0 hz (by rfl) ?_
      refine zG_call hd0 hz (rfl : zP 107 = (zk_X8_set, 4, (0, 0))) rfl rfl (Nat.le_of_ble_eq_true rfl) ⟨Nat.le_refl _, Nat.le_refl _⟩ (qw_set (by omega) hCM7 (⟨by decide, rfl, rfl⟩ : qT n 18 250 11) x8 (by omega) 6 (by omega) a1 (by omega)) (fun vr M9 hr => ?_)
      obtain ⟨⟨hCM9, hFM9⟩, rfl⟩ := hr
      have hWM9 : qFr [18, 19] M M9 := hWM7.tr hFM9 (by decide)
      show zG n (0, 0) d 134 (50, [.inr (.inr (some 8)), .inl a1, .inl a2, .inl a3, .inl x8], []) M9 _
      refine zG_blk (c' := (52, [.inr (.inr (some 8)), .inl a1, .inl a2, .inl a3, .inl x8], [.inl x8])) 1 hd0 hz (by rfl) ?_
      exact zG_ret hd0 hz rfl rfl ⟨⟨hCM9, hWM9⟩, _, rfl, by omega⟩
    · exact j23
theorem qm_135_8 {n d : Nat} {M : zM} (hd : 4 ≤ d) (hC : qCI M) (a1 : Int) (ha1 : (-2147483648) ≤ a1 ∧ a1 ≤ 2147483647) (a2 : Int) (ha2 : (-2147483648) ≤ a2 ∧ a2 ≤ 2147483647) (a3 : Int) (ha3 : (-2147483648) ≤ a3 ∧ a3 ≤ 2147483647) : qOkM n d 135 [.inr (.inr (some 8)), .inl a1, .inl a2, .inl a3] 5 qCI [18, 19] M (qRi (fun x => (-4) ≤ x ∧ x ≤ 249)) := by
  have hz : zP 135 = (zk_X10_degree, 5, (0, 0)) := rfl
  have hd0 : 0 < d := by omega
  have hW : qFr [18, 19] M M := qFr.rfl
  show zG n (0, 0) d 135 (0, [.inr (.inr (some 8)), .inl a1, .inl a2, .inl a3, zN], []) M _
  refine zG_blk (c' := (2, [.inr (.inr (some 8)), .inl a1, .inl a2, .inl a3, zN], [.inl a1, .inr (.inr (some 8))])) 2 hd0 hz (by rfl) ?_
  refine zG_call hd0 hz (rfl : zP 174 = (zk_X10_isStudent, 2, (0, 0))) rfl rfl (Nat.le_of_ble_eq_true rfl) ⟨Nat.le_refl _, Nat.le_refl _⟩ (qm_174_8 (by omega) hC  a1 (by omega)) (fun vr M1 hr => ?_)
  obtain ⟨hq, x2, rfl, hx2⟩ := hr
  replace hq := hq.symm; subst hq
  show zG n (0, 0) d 135 (5, [.inr (.inr (some 8)), .inl a1, .inl a2, .inl a3, zN], [.inl x2]) M _
  have j17 : zG n (0, 0) d 135 (17, [.inr (.inr (some 8)), .inl a1, .inl a2, .inl a3, zN], []) M (fun v M' => qWf qCI [18, 19] M M' ∧ qRi (fun x => (-4) ≤ x ∧ x ≤ 249) v) := by
    refine zG_blk (c' := (19, [.inr (.inr (some 8)), .inl a1, .inl a2, .inl a3, zN], [.inl (-2)])) 1 hd0 hz (by rfl) ?_
    exact zG_ret hd0 hz rfl rfl ⟨⟨hC, hW⟩, _, rfl, by omega⟩
  refine zG_if_eq hd0 hz rfl (fun hb3 => ?_) (fun hb3 => ?_)
  · exact j17
  · refine zG_blk (c' := (11, [.inr (.inr (some 8)), .inl a1, .inl a2, .inl a3, zN], [.inl a3, .inl a2, .inr (.inr (some 8))])) 3 hd0 hz (by rfl) ?_
    refine zG_call hd0 hz (rfl : zP 178 = (zk_X10_isKnownAfter, 3, (0, 0))) rfl rfl (Nat.le_of_ble_eq_true rfl) ⟨Nat.le_refl _, Nat.le_refl _⟩ (qm_178_8 (by omega) hC  a2 (by omega) a3 (by omega)) (fun vr M4 hr => ?_)
    obtain ⟨hq, x5, rfl, hx5⟩ := hr
    replace hq := hq.symm; subst hq
    show zG n (0, 0) d 135 (14, [.inr (.inr (some 8)), .inl a1, .inl a2, .inl a3, zN], [.inl x5]) M _
    refine zG_if_ne hd0 hz rfl (fun hb6 => ?_) (fun hb6 => ?_)
    · refine zG_blk (c' := (25, [.inr (.inr (some 8)), .inl a1, .inl a2, .inl a3, zN], [.inl a3, .inl a2, .inl 6, .inr (.inr (some 8))])) 4 hd0 hz (by rfl) ?_
      refine zG_call hd0 hz (rfl : zP 179 = (zk_X10_enterBy, 4, (0, 0))) rfl rfl (Nat.le_of_ble_eq_true rfl) ⟨Nat.le_refl _, Nat.le_refl _⟩ (qm_179_8 (by omega) hC  6 (by omega) a2 (by omega) a3 (by omega)) (fun vr M7 hr => ?_)
      obtain ⟨⟨hCM7, hFM7⟩, x8, rfl, hx8⟩ := hr
      have hWM7 : qFr [18, 19] M M7 := hW.tr hFM7 (by decide)
      show zG n (0, 0) d 135 (28, [.inr (.inr (some 8)), .inl a1, .inl a2, .inl a3, zN], [.inl x8]) M7 _
      refine zG_blk (c' := (41, [.inr (.inr (some 8)), .inl a1, .inl a2, .inl a3, .inl x8], [.inl a1, .inl 4, .inl x8, .inr (.inr (some 18))])) 7 hd0 hz (by rfl) ?_
      refine zG_call hd0 hz (rfl : zP 107 = (zk_X8_set, 4, (0, 0))) rfl rfl (Nat.le_of_ble_eq_true rfl) ⟨Nat.le_refl _, Nat.le_refl _⟩ (qw_set (by omega) hCM7 (⟨by decide, rfl, rfl⟩ : qT n 18 250 11) x8 (by omega) 4 (by omega) a1 (by omega)) (fun vr M9 hr => ?_)
      obtain ⟨⟨hCM9, hFM9⟩, rfl⟩ := hr
      have hWM9 : qFr [18, 19] M M9 := hWM7.tr hFM9 (by decide)
      show zG n (0, 0) d 135 (44, [.inr (.inr (some 8)), .inl a1, .inl a2, .inl a3, .inl x8], []) M9 _
      refine zG_blk (c' := (46, [.inr (.inr (some 8)), .inl a1, .inl a2, .inl a3, .inl x8], [.inl x8])) 1 hd0 hz (by rfl) ?_
      exact zG_ret hd0 hz rfl rfl ⟨⟨hCM9, hWM9⟩, _, rfl, by omega⟩
    · exact j17
theorem qm_136_8 {n d : Nat} {M : zM} (hd : 3 ≤ d) (hC : qCI M) (a1 : Int) (ha1 : (-2147483648) ≤ a1 ∧ a1 ≤ 2147483647) (a2 : Int) (ha2 : (-2147483648) ≤ a2 ∧ a2 ≤ 2147483647) : qOkM n d 136 [.inr (.inr (some 8)), .inl a1, .inl a2] 5 qCI [18, 19] M (qRi (fun x => (-4) ≤ x ∧ x ≤ 249)) := by
  have hz : zP 136 = (zk_X10_appeal, 5, (0, 0)) := rfl
  have hd0 : 0 < d := by omega
  have hW : qFr [18, 19] M M := qFr.rfl
  show zG n (0, 0) d 136 (0, [.inr (.inr (some 8)), .inl a1, .inl a2, zN, zN], []) M _
  refine zG_blk (c' := (8, [.inr (.inr (some 8)), .inl a1, .inl a2, zN, zN], [.inl a1, .inr (.inr (some 18))])) 4 hd0 hz (by rfl) ?_
  refine zG_call hd0 hz (rfl : zP 102 = (zk_X8_has, 2, (0, 0))) rfl rfl (Nat.le_of_ble_eq_true rfl) ⟨Nat.le_refl _, Nat.le_refl _⟩ (qw_has (by omega) hC (⟨by decide, rfl, rfl⟩ : qT n 18 250 11) a1 (by omega)) (fun vr M1 hr => ?_)
  obtain ⟨hq, x2, rfl, hx2⟩ := hr
  replace hq := hq.symm; subst hq
  show zG n (0, 0) d 136 (11, [.inr (.inr (some 8)), .inl a1, .inl a2, zN, zN], [.inl x2]) M _
  have j21 : zG n (0, 0) d 136 (21, [.inr (.inr (some 8)), .inl a1, .inl a2, zN, zN], []) M (fun v M' => qWf qCI [18, 19] M M' ∧ qRi (fun x => (-4) ≤ x ∧ x ≤ 249) v) := by
    refine zG_blk (c' := (23, [.inr (.inr (some 8)), .inl a1, .inl a2, zN, zN], [.inl (-2)])) 1 hd0 hz (by rfl) ?_
    exact zG_ret hd0 hz rfl rfl ⟨⟨hC, hW⟩, _, rfl, by omega⟩
  refine zG_if_eq hd0 hz rfl (fun hb3 => ?_) (fun hb3 => ?_)
  · exact j21
  · refine zG_blk (c' := (15, [.inr (.inr (some 8)), .inl a1, .inl a2, zN, zN], [.inl a2])) 1 hd0 hz (by rfl) ?_
    refine zG_call hd0 hz (rfl : zP 170 = (zk_X10_isDay, 1, (0, 0))) rfl rfl (Nat.le_of_ble_eq_true rfl) ⟨Nat.le_refl _, Nat.le_refl _⟩ (qm_170 (by omega) hC  a2 (by omega)) (fun vr M4 hr => ?_)
    obtain ⟨hq, x5, rfl, hx5⟩ := hr
    replace hq := hq.symm; subst hq
    show zG n (0, 0) d 136 (18, [.inr (.inr (some 8)), .inl a1, .inl a2, zN, zN], [.inl x5]) M _
    refine zG_if_ne hd0 hz rfl (fun hb6 => ?_) (fun hb6 => ?_)
    · refine zG_blk (c' := (33, [.inr (.inr (some 8)), .inl a1, .inl a2, zN, zN], [.inl 1, .inl a1, .inr (.inr (some 18))])) 5 hd0 hz (by rfl) ?_
      refine zG_call hd0 hz (rfl : zP 106 = (zk_X8_get, 3, (0, 0))) rfl rfl (Nat.le_of_ble_eq_true rfl) ⟨Nat.le_refl _, Nat.le_refl _⟩ (qw_get (by omega) hC (⟨by decide, rfl, rfl⟩ : qT n 18 250 11) a1 (by omega) 1 (by omega)) (fun vr M7 hr => ?_)
      obtain ⟨hq, x8, rfl, hx8⟩ := hr
      replace hq := hq.symm; subst hq
      show zG n (0, 0) d 136 (36, [.inr (.inr (some 8)), .inl a1, .inl a2, zN, zN], [.inl x8]) M _
      refine zG_blk (c' := (46, [.inr (.inr (some 8)), .inl a1, .inl a2, .inl x8, zN], [.inl 3, .inl a1, .inr (.inr (some 18))])) 6 hd0 hz (by rfl) ?_
      refine zG_call hd0 hz (rfl : zP 106 = (zk_X8_get, 3, (0, 0))) rfl rfl (Nat.le_of_ble_eq_true rfl) ⟨Nat.le_refl _, Nat.le_refl _⟩ (qw_get (by omega) hC (⟨by decide, rfl, rfl⟩ : qT n 18 250 11) a1 (by omega) 3 (by omega)) (fun vr M9 hr => ?_)
      obtain ⟨hq, x10, rfl, hx10⟩ := hr
      replace hq := hq.symm; subst hq
      show zG n (0, 0) d 136 (49, [.inr (.inr (some 8)), .inl a1, .inl a2, .inl x8, zN], [.inl x10]) M _
      refine zG_blk (c' := (50, [.inr (.inr (some 8)), .inl a1, .inl a2, .inl x8, zN], [.inl (-1), .inl x10])) 1 hd0 hz (by rfl) ?_
      have j70 : zG n (0, 0) d 136 (70, [.inr (.inr (some 8)), .inl a1, .inl a2, .inl x8, zN], []) M (fun v M' => qWf qCI [18, 19] M M' ∧ qRi (fun x => (-4) ≤ x ∧ x ≤ 249) v) := by
        refine zG_blk (c' := (72, [.inr (.inr (some 8)), .inl a1, .inl a2, .inl x8, zN], [.inl (-3)])) 1 hd0 hz (by rfl) ?_
        exact zG_ret hd0 hz rfl rfl ⟨⟨hC, hW⟩, _, rfl, by omega⟩
      refine zG_icmp_eq hd0 hz rfl (fun hb11 => ?_) (fun hb11 => ?_)
      · exact j70
      · have r12 := hC.rng 9 8 (by decide) (by decide)
        obtain ⟨x13, hx13⟩ : ∃ x : Int, x = w32 (x8 + (M 9 8)) := ⟨_, rfl⟩
        have hx13r : x13 = (x8 + (M 9 8) + 2147483648) % 4294967296 - 2147483648 := hx13
        refine zG_blk (c' := (64, [.inr (.inr (some 8)), .inl a1, .inl a2, .inl x8, zN], [.inl x13, .inl x8, .inl a2])) 7 hd0 hz (by subst hx13; rfl) ?_
        refine zG_call hd0 hz (rfl : zP 169 = (zk_X10_within, 3, (0, 0))) rfl rfl (Nat.le_of_ble_eq_true rfl) ⟨Nat.le_refl _, Nat.le_refl _⟩ (qm_169 (by omega) hC  a2 (by omega) x8 (by omega) x13 (by omega)) (fun vr M14 hr => ?_)
        obtain ⟨hq, x15, rfl, hx15⟩ := hr
        replace hq := hq.symm; subst hq
        show zG n (0, 0) d 136 (67, [.inr (.inr (some 8)), .inl a1, .inl a2, .inl x8, zN], [.inl x15]) M _
        refine zG_if_ne hd0 hz rfl (fun hb16 => ?_) (fun hb16 => ?_)
        · refine zG_blk (c' := (81, [.inr (.inr (some 8)), .inl a1, .inl a2, .inl x8, zN], [.inl (-1), .inl a2, .inl a2, .inl 5, .inr (.inr (some 9))])) 6 hd0 hz (by rfl) ?_
          refine zG_call hd0 hz (rfl : zP 18 = (zk_X2_enter, 7, (0, 0))) rfl rfl (Nat.le_of_ble_eq_true rfl) ⟨Nat.le_refl _, Nat.le_refl _⟩ (qm_18_9 (by omega) hC  5 (by omega) a2 (by omega) a2 (by omega) (-1) (by omega)) (fun vr M17 hr => ?_)
          obtain ⟨⟨hCM17, hFM17⟩, x18, rfl, hx18⟩ := hr
          have hWM17 : qFr [18, 19] M M17 := hW.tr hFM17 (by decide)
          have e19 : M17 9 8 = M 9 8 := hFM17 9 8 (by decide)
          show zG n (0, 0) d 136 (84, [.inr (.inr (some 8)), .inl a1, .inl a2, .inl x8, zN], [.inl x18]) M17 _
          refine zG_blk (c' := (98, [.inr (.inr (some 8)), .inl a1, .inl a2, .inl x8, .inl x18], [.inl a1, .inl 6, .inl x18, .inr (.inr (some 18))])) 7 hd0 hz (by rfl) ?_
          refine zG_call hd0 hz (rfl : zP 107 = (zk_X8_set, 4, (0, 0))) rfl rfl (Nat.le_of_ble_eq_true rfl) ⟨Nat.le_refl _, Nat.le_refl _⟩ (qw_set (by omega) hCM17 (⟨by decide, rfl, rfl⟩ : qT n 18 250 11) x18 (by omega) 6 (by omega) a1 (by omega)) (fun vr M20 hr => ?_)
          obtain ⟨⟨hCM20, hFM20⟩, rfl⟩ := hr
          have hWM20 : qFr [18, 19] M M20 := hWM17.tr hFM20 (by decide)
          have e22 : M20 9 8 = M17 9 8 := hFM20 9 8 (by decide)
          show zG n (0, 0) d 136 (101, [.inr (.inr (some 8)), .inl a1, .inl a2, .inl x8, .inl x18], []) M20 _
          refine zG_blk (c' := (103, [.inr (.inr (some 8)), .inl a1, .inl a2, .inl x8, .inl x18], [.inl x18])) 1 hd0 hz (by rfl) ?_
          exact zG_ret hd0 hz rfl rfl ⟨⟨hCM20, hWM20⟩, _, rfl, by omega⟩
        · exact j70
    · exact j21
theorem qm_137_8 {n d : Nat} {M : zM} (hd : 2 ≤ d) (hC : qCI M) (a1 : Int) (ha1 : (-2147483648) ≤ a1 ∧ a1 ≤ 2147483647) : qOkM n d 137 [.inr (.inr (some 8)), .inl a1] 3 qCI [9] M (qRi (fun x => (-2147483648) ≤ x ∧ x ≤ 2147483647)) := by
  have hz : zP 137 = (zk_X10_days, 3, (0, 0)) := rfl
  have hd0 : 0 < d := by omega
  have hW : qFr [9] M M := qFr.rfl
  show zG n (0, 0) d 137 (0, [.inr (.inr (some 8)), .inl a1, zN], []) M _
  refine zG_blk (c' := (5, [.inr (.inr (some 8)), .inl a1, zN], [.inl 1000, .inl 0, .inl a1])) 3 hd0 hz (by rfl) ?_
  refine zG_call hd0 hz (rfl : zP 169 = (zk_X10_within, 3, (0, 0))) rfl rfl (Nat.le_of_ble_eq_true rfl) ⟨Nat.le_refl _, Nat.le_refl _⟩ (qm_169 (by omega) hC  a1 (by omega) 0 (by omega) 1000 (by omega)) (fun vr M1 hr => ?_)
  obtain ⟨hq, x2, rfl, hx2⟩ := hr
  replace hq := hq.symm; subst hq
  show zG n (0, 0) d 137 (8, [.inr (.inr (some 8)), .inl a1, zN], [.inl x2]) M _
  refine zG_if_ne hd0 hz rfl (fun hb3 => ?_) (fun hb3 => ?_)
  · have r4 := hC.rng 9 8 (by decide) (by decide)
    refine zG_blk (c' := (27, [.inr (.inr (some 8)), .inl a1, .inl (M 9 8)], [.inl a1, .inr (.inr (some 9))])) 7 hd0 hz (by rfl) ?_
    refine zG_putf (.inl rfl) hd0 hz rfl (by decide) rfl rfl ?_
    obtain ⟨M5, hM5⟩ : ∃ X : zM, X = zput M 9 8 a1 := ⟨_, rfl⟩
    rw [← hM5]
    have hCM5 : qCI M5 := by rw [hM5]; exact hC.put (r := 9) (k := 8) rfl (.inl (by omega))
    have hWM5 : qFr [9] M M5 := by rw [hM5]; exact hW.put (by decide)
    have e6 : M5 9 8 = a1 := by rw [hM5]; exact qput_eq
    show zG n (0, 0) d 137 (30, [.inr (.inr (some 8)), .inl a1, .inl (M 9 8)], []) M5 _
    refine zG_blk (c' := (31, [.inr (.inr (some 8)), .inl a1, .inl (M 9 8)], [.inl (M 9 8)])) 1 hd0 hz (by rfl) ?_
    exact zG_ret hd0 hz rfl rfl ⟨⟨hCM5, hWM5⟩, _, rfl, by omega⟩
  · refine zG_blk (c' := (13, [.inr (.inr (some 8)), .inl a1, zN], [.inl (-2)])) 1 hd0 hz (by rfl) ?_
    exact zG_ret hd0 hz rfl rfl ⟨⟨hC, hW⟩, _, rfl, by omega⟩
theorem qm_138_8 {n d : Nat} {M : zM} (hd : 2 ≤ d) (hC : qCI M) (a1 : Int) (ha1 : (-2147483648) ≤ a1 ∧ a1 ≤ 2147483647) (a2 : Int) (ha2 : (-2147483648) ≤ a2 ∧ a2 ≤ 2147483647) : qOkP n d 138 [.inr (.inr (some 8)), .inl a1, .inl a2] 3 M (qRi (fun x => (-2147483648) ≤ x ∧ x ≤ 2147483647)) := by
  have hz : zP 138 = (zk_X10_about, 3, (0, 0)) := rfl
  have hd0 : 0 < d := by omega
  show zG n (0, 0) d 138 (0, [.inr (.inr (some 8)), .inl a1, .inl a2], []) M _
  refine zG_blk (c' := (8, [.inr (.inr (some 8)), .inl a1, .inl a2], [.inl a1, .inr (.inr (some 18))])) 4 hd0 hz (by rfl) ?_
  refine zG_call hd0 hz (rfl : zP 102 = (zk_X8_has, 2, (0, 0))) rfl rfl (Nat.le_of_ble_eq_true rfl) ⟨Nat.le_refl _, Nat.le_refl _⟩ (qw_has (by omega) hC (⟨by decide, rfl, rfl⟩ : qT n 18 250 11) a1 (by omega)) (fun vr M1 hr => ?_)
  obtain ⟨hq, x2, rfl, hx2⟩ := hr
  replace hq := hq.symm; subst hq
  show zG n (0, 0) d 138 (11, [.inr (.inr (some 8)), .inl a1, .inl a2], [.inl x2]) M _
  have j41 : ∀ (v3 : Int) , (-2147483648) ≤ v3 ∧ v3 ≤ 2147483647 → zG n (0, 0) d 138 (41, [.inr (.inr (some 8)), .inl a1, .inl a2], [.inl v3]) M (fun v M' => M' = M ∧ qRi (fun x => (-2147483648) ≤ x ∧ x ≤ 2147483647) v) := by
    intro v3 hv3
    exact zG_ret hd0 hz rfl rfl ⟨rfl, _, rfl, by omega⟩
  have j39 : zG n (0, 0) d 138 (39, [.inr (.inr (some 8)), .inl a1, .inl a2], []) M (fun v M' => M' = M ∧ qRi (fun x => (-2147483648) ≤ x ∧ x ≤ 2147483647) v) := by
    refine zG_blk (c' := (41, [.inr (.inr (some 8)), .inl a1, .inl a2], [.inl (-2)])) 1 hd0 hz (by rfl) ?_
    exact j41 (-2) (by omega)
  refine zG_if_eq hd0 hz rfl (fun hb4 => ?_) (fun hb4 => ?_)
  · exact j39
  · refine zG_blk (c' := (18, [.inr (.inr (some 8)), .inl a1, .inl a2], [.inl 7, .inl 0, .inl a2])) 3 hd0 hz (by rfl) ?_
    refine zG_call hd0 hz (rfl : zP 169 = (zk_X10_within, 3, (0, 0))) rfl rfl (Nat.le_of_ble_eq_true rfl) ⟨Nat.le_refl _, Nat.le_refl _⟩ (qm_169 (by omega) hC  a2 (by omega) 0 (by omega) 7 (by omega)) (fun vr M5 hr => ?_)
    obtain ⟨hq, x6, rfl, hx6⟩ := hr
    replace hq := hq.symm; subst hq
    show zG n (0, 0) d 138 (21, [.inr (.inr (some 8)), .inl a1, .inl a2], [.inl x6]) M _
    refine zG_if_eq hd0 hz rfl (fun hb7 => ?_) (fun hb7 => ?_)
    · exact j39
    · refine zG_blk (c' := (33, [.inr (.inr (some 8)), .inl a1, .inl a2], [.inl a2, .inl a1, .inr (.inr (some 18))])) 5 hd0 hz (by rfl) ?_
      refine zG_call hd0 hz (rfl : zP 106 = (zk_X8_get, 3, (0, 0))) rfl rfl (Nat.le_of_ble_eq_true rfl) ⟨Nat.le_refl _, Nat.le_refl _⟩ (qw_get (by omega) hC (⟨by decide, rfl, rfl⟩ : qT n 18 250 11) a1 (by omega) a2 (by omega)) (fun vr M8 hr => ?_)
      obtain ⟨hq, x9, rfl, hx9⟩ := hr
      replace hq := hq.symm; subst hq
      show zG n (0, 0) d 138 (36, [.inr (.inr (some 8)), .inl a1, .inl a2], [.inl x9]) M _
      refine zG_blk (c' := (41, [.inr (.inr (some 8)), .inl a1, .inl a2], [.inl x9])) 1 hd0 hz (by rfl) ?_
      exact j41 x9 (by omega)
theorem qm_48_60 {n d : Nat} {M : zM} (hd : 3 ≤ d) (hC : qCI M) (a1 : Int) (ha1 : (-2147483648) ≤ a1 ∧ a1 ≤ 2147483647) (a2 : Int) (ha2 : (-2147483648) ≤ a2 ∧ a2 ≤ 2147483647) : qOkM n d 48 [.inr (.inr (some 60)), .inl a1, .inl a2] 7 qCI [62] M qRn := by
  have hz : zP 48 = (zk_X4_sift, 7, (0, 0)) := rfl
  have hd0 : 0 < d := by omega
  have hW : qFr [62] M M := qFr.rfl
  show zG n (0, 0) d 48 (0, [.inr (.inr (some 60)), .inl a1, .inl a2, zN, zN, zN, zN], []) M _
  refine zG_blk (c' := (13, [.inr (.inr (some 60)), .inl a1, .inl a2, zN, zN, zN, zN], [.inr (.inr (some 18)), .inl (-1), .inl 1, .inr (.inr (some 61))])) 7 hd0 hz (by rfl) ?_
  refine zG_call hd0 hz (rfl : zP 101 = (zk_X8_size, 1, (0, 0))) rfl rfl (Nat.le_of_ble_eq_true rfl) ⟨Nat.le_refl _, Nat.le_refl _⟩ (qw_size (by omega) hC (⟨by decide, rfl, rfl⟩ : qT n 18 250 11) ) (fun vr M1 hr => ?_)
  obtain ⟨hq, x2, rfl, hx2⟩ := hr
  replace hq := hq.symm; subst hq
  show zG n (0, 0) d 48 (16, [.inr (.inr (some 60)), .inl a1, .inl a2, zN, zN, zN, zN], [.inl x2, .inl (-1), .inl 1, .inr (.inr (some 61))]) M _
  refine zG_call hd0 hz (rfl : zP 109 = (zk_X8_fillColumn, 5, (0, 0))) rfl rfl (Nat.le_of_ble_eq_true rfl) ⟨Nat.le_refl _, Nat.le_refl _⟩ (qw_fillColumn (by omega) hC (⟨by decide, rfl, rfl⟩ : qT n 61 250 4) 1 (by omega) (-1) (by omega) x2 (by omega)) (fun vr M3 hr => ?_)
  obtain ⟨⟨hCM3, hFM3⟩, rfl⟩ := hr
  have hWM3 : qFr [62] M M3 := hW.tr hFM3 (by decide)
  show zG n (0, 0) d 48 (19, [.inr (.inr (some 60)), .inl a1, .inl a2, zN, zN, zN, zN], []) M3 _
  refine zG_blk (c' := (26, [.inr (.inr (some 60)), .inl a1, .inl a2, zN, zN, zN, zN], [.inr (.inr (some 18))])) 3 hd0 hz (by rfl) ?_
  refine zG_call hd0 hz (rfl : zP 101 = (zk_X8_size, 1, (0, 0))) rfl rfl (Nat.le_of_ble_eq_true rfl) ⟨Nat.le_refl _, Nat.le_refl _⟩ (qw_size (by omega) hCM3 (⟨by decide, rfl, rfl⟩ : qT n 18 250 11) ) (fun vr M5 hr => ?_)
  obtain ⟨hq, x6, rfl, hx6⟩ := hr
  replace hq := hq.symm; subst hq
  show zG n (0, 0) d 48 (29, [.inr (.inr (some 60)), .inl a1, .inl a2, zN, zN, zN, zN], [.inl x6]) M3 _
  obtain ⟨x7, hx7⟩ : ∃ x : Int, x = w32 (x6 - 1) := ⟨_, rfl⟩
  have hx7e : x7 = x6 - 1 := by rw [hx7]; exact w32_id (by omega)
  refine zG_blk (c' := (32, [.inr (.inr (some 60)), .inl a1, .inl a2, .inl x7, zN, zN, zN], [])) 3 hd0 hz (by subst hx7; rfl) ?_
  have j32 : ∀ (N : Nat) (v8 : Int) (M9 : zM) , (v8 + 1 : Int).toNat < N → (-1) ≤ v8 ∧ v8 ≤ 249 → qCI M9 → qFr [62] M M9 → zG n (0, 0) d 48 (32, [.inr (.inr (some 60)), .inl a1, .inl a2, .inl v8, zN, zN, zN], []) M9 (fun v M' => qWf qCI [62] M M' ∧ qRn v) := by
    intro N
    induction N with
    | zero => intro v8 M9 hN hv8 hCM9 hWM9; exact absurd hN (Nat.not_lt_zero _)
    | succ N ih32 =>
      intro v8 M9 hN hv8 hCM9 hWM9
      refine zG_blk (c' := (33, [.inr (.inr (some 60)), .inl a1, .inl a2, .inl v8, zN, zN, zN], [.inl v8])) 1 hd0 hz (by rfl) ?_
      refine zG_if_lt hd0 hz rfl (fun hb10 => ?_) (fun hb10 => ?_)
      · exact zG_ret hd0 hz rfl rfl ⟨⟨hCM9, hWM9⟩, rfl⟩
      · refine zG_blk (c' := (45, [.inr (.inr (some 60)), .inl a1, .inl a2, .inl v8, zN, zN, zN], [.inl 3, .inl v8, .inr (.inr (some 18))])) 5 hd0 hz (by rfl) ?_
        refine zG_call hd0 hz (rfl : zP 106 = (zk_X8_get, 3, (0, 0))) rfl rfl (Nat.le_of_ble_eq_true rfl) ⟨Nat.le_refl _, Nat.le_refl _⟩ (qw_get (by omega) hCM9 (⟨by decide, rfl, rfl⟩ : qT n 18 250 11) v8 (by omega) 3 (by omega)) (fun vr M11 hr => ?_)
        obtain ⟨hq, x12, rfl, hx12⟩ := hr
        replace hq := hq.symm; subst hq
        show zG n (0, 0) d 48 (48, [.inr (.inr (some 60)), .inl a1, .inl a2, .inl v8, zN, zN, zN], [.inl x12]) M9 _
        refine zG_blk (c' := (53, [.inr (.inr (some 60)), .inl a1, .inl a2, .inl v8, .inl x12, zN, zN], [.inl (-1), .inl x12])) 3 hd0 hz (by rfl) ?_
        have j79 : ∀ (v13 : Int) , 0 ≤ v13 ∧ v13 ≤ 1 → zG n (0, 0) d 48 (79, [.inr (.inr (some 60)), .inl a1, .inl a2, .inl v8, .inl x12, zN, zN], [.inl v13]) M9 (fun v M' => qWf qCI [62] M M' ∧ qRn v) := by
          intro v13 hv13
          refine zG_blk (c' := (83, [.inr (.inr (some 60)), .inl a1, .inl a2, .inl v8, .inl x12, .inl v13, zN], [.inl v13])) 2 hd0 hz (by rfl) ?_
          have j120 : ∀ (v14 : Int) , 0 ≤ v14 ∧ v14 ≤ 1 → zG n (0, 0) d 48 (120, [.inr (.inr (some 60)), .inl a1, .inl a2, .inl v8, .inl x12, .inl v13, zN], [.inl v14]) M9 (fun v M' => qWf qCI [62] M M' ∧ qRn v) := by
            intro v14 hv14
            refine zG_blk (c' := (130, [.inr (.inr (some 60)), .inl a1, .inl a2, .inl v8, .inl x12, .inl v13, .inl v14], [.inl v14, .inl 0, .inl v8, .inr (.inr (some 61))])) 6 hd0 hz (by rfl) ?_
            have j138 : ∀ (v15 v16 v17 : Int) , 0 ≤ v15 ∧ v15 ≤ 249 → 0 ≤ v16 ∧ v16 ≤ 0 → 0 ≤ v17 ∧ v17 ≤ 1 → zG n (0, 0) d 48 (138, [.inr (.inr (some 60)), .inl a1, .inl a2, .inl v8, .inl x12, .inl v13, .inl v14], [.inl v17, .inl v16, .inl v15, .inr (.inr (some 61))]) M9 (fun v M' => qWf qCI [62] M M' ∧ qRn v) := by
              intro v15 v16 v17 hv15 hv16 hv17
              refine zG_call hd0 hz (rfl : zP 107 = (zk_X8_set, 4, (0, 0))) rfl rfl (Nat.le_of_ble_eq_true rfl) ⟨Nat.le_refl _, Nat.le_refl _⟩ (qw_set (by omega) hCM9 (⟨by decide, rfl, rfl⟩ : qT n 61 250 4) v15 (by omega) v16 (by omega) v17 (by omega)) (fun vr M18 hr => ?_)
              obtain ⟨⟨hCM18, hFM18⟩, rfl⟩ := hr
              have hWM18 : qFr [62] M M18 := hWM9.tr hFM18 (by decide)
              show zG n (0, 0) d 48 (141, [.inr (.inr (some 60)), .inl a1, .inl a2, .inl v8, .inl x12, .inl v13, .inl v14], []) M18 _
              refine zG_blk (c' := (143, [.inr (.inr (some 60)), .inl a1, .inl a2, .inl v8, .inl x12, .inl v13, .inl v14], [.inl v14])) 1 hd0 hz (by rfl) ?_
              have j184 : ∀ (M20 : zM) , qCI M20 → qFr [62] M M20 → zG n (0, 0) d 48 (184, [.inr (.inr (some 60)), .inl a1, .inl a2, .inl v8, .inl x12, .inl v13, .inl v14], []) M20 (fun v M' => qWf qCI [62] M M' ∧ qRn v) := by
                intro M20 hCM20 hWM20
                obtain ⟨x21, hx21⟩ : ∃ x : Int, x = w32 (v8 + (-1)) := ⟨_, rfl⟩
                have hx21e : x21 = v8 + (-1) := by rw [hx21]; exact w32_id (by omega)
                refine zG_blk (c' := (32, [.inr (.inr (some 60)), .inl a1, .inl a2, .inl x21, .inl x12, .inl v13, .inl v14], [])) 2 hd0 hz (by subst hx21; rfl) ?_
                exact zG_weak (ih32 x21 M20 (by omega) (by omega) hCM20 hWM20) ⟨.inr rfl, .inr rfl, .inr rfl, .inr rfl, .inl rfl, .inl rfl, .inl rfl, trivial⟩
              refine zG_if_eq hd0 hz rfl (fun hb22 => ?_) (fun hb22 => ?_)
              · exact j184 M18 hCM18 hWM18
              · refine zG_blk (c' := (155, [.inr (.inr (some 60)), .inl a1, .inl a2, .inl v8, .inl x12, .inl v13, .inl v14], [.inl 0, .inl v8, .inr (.inr (some 18))])) 5 hd0 hz (by rfl) ?_
                refine zG_call hd0 hz (rfl : zP 106 = (zk_X8_get, 3, (0, 0))) rfl rfl (Nat.le_of_ble_eq_true rfl) ⟨Nat.le_refl _, Nat.le_refl _⟩ (qw_get (by omega) hCM18 (⟨by decide, rfl, rfl⟩ : qT n 18 250 11) v8 (by omega) 0 (by omega)) (fun vr M23 hr => ?_)
                obtain ⟨hq, x24, rfl, hx24⟩ := hr
                replace hq := hq.symm; subst hq
                show zG n (0, 0) d 48 (158, [.inr (.inr (some 60)), .inl a1, .inl a2, .inl v8, .inl x12, .inl v13, .inl v14], [.inl x24]) M18 _
                refine zG_blk (c' := (159, [.inr (.inr (some 60)), .inl a1, .inl a2, .inl v8, .inl x12, .inl v13, .inl v14], [.inl 5, .inl x24])) 1 hd0 hz (by rfl) ?_
                refine zG_icmp_ne hd0 hz rfl (fun hb25 => ?_) (fun hb25 => ?_)
                · exact j184 M18 hCM18 hWM18
                · refine zG_blk (c' := (176, [.inr (.inr (some 60)), .inl a1, .inl a2, .inl v8, .inl x12, .inl v13, .inl v14], [.inl 6, .inl v8, .inr (.inr (some 18)), .inr (.inr (some 61))])) 7 hd0 hz (by rfl) ?_
                  refine zG_call hd0 hz (rfl : zP 106 = (zk_X8_get, 3, (0, 0))) rfl rfl (Nat.le_of_ble_eq_true rfl) ⟨Nat.le_refl _, Nat.le_refl _⟩ (qw_get (by omega) hCM18 (⟨by decide, rfl, rfl⟩ : qT n 18 250 11) v8 (by omega) 6 (by omega)) (fun vr M26 hr => ?_)
                  obtain ⟨hq, x27, rfl, hx27⟩ := hr
                  replace hq := hq.symm; subst hq
                  show zG n (0, 0) d 48 (179, [.inr (.inr (some 60)), .inl a1, .inl a2, .inl v8, .inl x12, .inl v13, .inl v14], [.inl x27, .inr (.inr (some 61))]) M18 _
                  refine zG_blk (c' := (181, [.inr (.inr (some 60)), .inl a1, .inl a2, .inl v8, .inl x12, .inl v13, .inl v14], [.inl v8, .inl 1, .inl x27, .inr (.inr (some 61))])) 2 hd0 hz (by rfl) ?_
                  refine zG_call hd0 hz (rfl : zP 107 = (zk_X8_set, 4, (0, 0))) rfl rfl (Nat.le_of_ble_eq_true rfl) ⟨Nat.le_refl _, Nat.le_refl _⟩ (qw_set (by omega) hCM18 (⟨by decide, rfl, rfl⟩ : qT n 61 250 4) x27 (by omega) 1 (by omega) v8 (by omega)) (fun vr M28 hr => ?_)
                  obtain ⟨⟨hCM28, hFM28⟩, rfl⟩ := hr
                  have hWM28 : qFr [62] M M28 := hWM18.tr hFM28 (by decide)
                  show zG n (0, 0) d 48 (184, [.inr (.inr (some 60)), .inl a1, .inl a2, .inl v8, .inl x12, .inl v13, .inl v14], []) M28 _
                  exact j184 M28 hCM28 hWM28
            refine zG_if_eq hd0 hz rfl (fun hb30 => ?_) (fun hb30 => ?_)
            · refine zG_blk (c' := (138, [.inr (.inr (some 60)), .inl a1, .inl a2, .inl v8, .inl x12, .inl v13, .inl v14], [.inl 0, .inl 0, .inl v8, .inr (.inr (some 61))])) 1 hd0 hz (by rfl) ?_
              exact j138 v8 0 0 (by omega) (by omega) (by omega)
            · refine zG_blk (c' := (138, [.inr (.inr (some 60)), .inl a1, .inl a2, .inl v8, .inl x12, .inl v13, .inl v14], [.inl 1, .inl 0, .inl v8, .inr (.inr (some 61))])) 2 hd0 hz (by rfl) ?_
              exact j138 v8 0 1 (by omega) (by omega) (by omega)
          have j119 : zG n (0, 0) d 48 (119, [.inr (.inr (some 60)), .inl a1, .inl a2, .inl v8, .inl x12, .inl v13, zN], []) M9 (fun v M' => qWf qCI [62] M M' ∧ qRn v) := by
            refine zG_blk (c' := (120, [.inr (.inr (some 60)), .inl a1, .inl a2, .inl v8, .inl x12, .inl v13, zN], [.inl 0])) 1 hd0 hz (by rfl) ?_
            exact j120 0 (by omega)
          refine zG_if_eq hd0 hz rfl (fun hb31 => ?_) (fun hb31 => ?_)
          · exact j119
          · refine zG_blk (c' := (95, [.inr (.inr (some 60)), .inl a1, .inl a2, .inl v8, .inl x12, .inl v13, zN], [.inl 2, .inl v8, .inr (.inr (some 18))])) 5 hd0 hz (by rfl) ?_
            refine zG_call hd0 hz (rfl : zP 106 = (zk_X8_get, 3, (0, 0))) rfl rfl (Nat.le_of_ble_eq_true rfl) ⟨Nat.le_refl _, Nat.le_refl _⟩ (qw_get (by omega) hCM9 (⟨by decide, rfl, rfl⟩ : qT n 18 250 11) v8 (by omega) 2 (by omega)) (fun vr M32 hr => ?_)
            obtain ⟨hq, x33, rfl, hx33⟩ := hr
            replace hq := hq.symm; subst hq
            show zG n (0, 0) d 48 (98, [.inr (.inr (some 60)), .inl a1, .inl a2, .inl v8, .inl x12, .inl v13, zN], [.inl x33]) M9 _
            refine zG_blk (c' := (99, [.inr (.inr (some 60)), .inl a1, .inl a2, .inl v8, .inl x12, .inl v13, zN], [.inl a1, .inl x33])) 1 hd0 hz (by rfl) ?_
            refine zG_icmp_gt hd0 hz rfl (fun hb34 => ?_) (fun hb34 => ?_)
            · exact j119
            · refine zG_blk (c' := (108, [.inr (.inr (some 60)), .inl a1, .inl a2, .inl v8, .inl x12, .inl v13, zN], [.inl 1, .inl v8, .inr (.inr (some 61))])) 4 hd0 hz (by rfl) ?_
              refine zG_call hd0 hz (rfl : zP 106 = (zk_X8_get, 3, (0, 0))) rfl rfl (Nat.le_of_ble_eq_true rfl) ⟨Nat.le_refl _, Nat.le_refl _⟩ (qw_get (by omega) hCM9 (⟨by decide, rfl, rfl⟩ : qT n 61 250 4) v8 (by omega) 1 (by omega)) (fun vr M35 hr => ?_)
              obtain ⟨hq, x36, rfl, hx36⟩ := hr
              replace hq := hq.symm; subst hq
              show zG n (0, 0) d 48 (111, [.inr (.inr (some 60)), .inl a1, .inl a2, .inl v8, .inl x12, .inl v13, zN], [.inl x36]) M9 _
              refine zG_blk (c' := (112, [.inr (.inr (some 60)), .inl a1, .inl a2, .inl v8, .inl x12, .inl v13, zN], [.inl (-1), .inl x36])) 1 hd0 hz (by rfl) ?_
              refine zG_icmp_ne hd0 hz rfl (fun hb37 => ?_) (fun hb37 => ?_)
              · exact j119
              · refine zG_blk (c' := (120, [.inr (.inr (some 60)), .inl a1, .inl a2, .inl v8, .inl x12, .inl v13, zN], [.inl 1])) 2 hd0 hz (by rfl) ?_
                exact j120 1 (by omega)
        have j74 : zG n (0, 0) d 48 (74, [.inr (.inr (some 60)), .inl a1, .inl a2, .inl v8, .inl x12, zN, zN], []) M9 (fun v M' => qWf qCI [62] M M' ∧ qRn v) := by
          refine zG_blk (c' := (79, [.inr (.inr (some 60)), .inl a1, .inl a2, .inl v8, .inl x12, zN, zN], [.inl 1])) 2 hd0 hz (by rfl) ?_
          exact j79 1 (by omega)
        refine zG_icmp_eq hd0 hz rfl (fun hb38 => ?_) (fun hb38 => ?_)
        · exact j74
        · refine zG_blk (c' := (59, [.inr (.inr (some 60)), .inl a1, .inl a2, .inl v8, .inl x12, zN, zN], [.inl a2, .inl x12])) 2 hd0 hz (by rfl) ?_
          have j78 : zG n (0, 0) d 48 (78, [.inr (.inr (some 60)), .inl a1, .inl a2, .inl v8, .inl x12, zN, zN], []) M9 (fun v M' => qWf qCI [62] M M' ∧ qRn v) := by
            refine zG_blk (c' := (79, [.inr (.inr (some 60)), .inl a1, .inl a2, .inl v8, .inl x12, zN, zN], [.inl 0])) 1 hd0 hz (by rfl) ?_
            exact j79 0 (by omega)
          refine zG_icmp_eq hd0 hz rfl (fun hb39 => ?_) (fun hb39 => ?_)
          · exact j78
          · refine zG_blk (c' := (68, [.inr (.inr (some 60)), .inl a1, .inl a2, .inl v8, .inl x12, zN, zN], [.inl x12, .inr (.inr (some 9))])) 3 hd0 hz (by rfl) ?_
            refine zG_call hd0 hz (rfl : zP 20 = (zk_X2_isStanding, 5, (0, 0))) rfl rfl (Nat.le_of_ble_eq_true rfl) ⟨Nat.le_refl _, Nat.le_refl _⟩ (qm_20_9 (by omega) hCM9  x12 (by omega)) (fun vr M40 hr => ?_)
            obtain ⟨hq, x41, rfl, hx41⟩ := hr
            replace hq := hq.symm; subst hq
            show zG n (0, 0) d 48 (71, [.inr (.inr (some 60)), .inl a1, .inl a2, .inl v8, .inl x12, zN, zN], [.inl x41]) M9 _
            refine zG_if_eq hd0 hz rfl (fun hb42 => ?_) (fun hb42 => ?_)
            · exact j78
            · exact j74
  exact j32 ((x7 + 1 : Int).toNat + 1) x7 M3 (by omega) (by omega) hCM3 hWM3
theorem qm_42_60 {n d : Nat} {M : zM} (hd : 2 ≤ d) (hC : qCI M) (a1 : Int) (ha1 : (-2147483648) ≤ a1 ∧ a1 ≤ 2147483647) : qOkP n d 42 [.inr (.inr (some 60)), .inl a1] 2 M (qRi (fun x => 0 ≤ x ∧ x ≤ 1)) := by
  have hz : zP 42 = (zk_X4_holds, 2, (0, 0)) := rfl
  have hd0 : 0 < d := by omega
  show zG n (0, 0) d 42 (0, [.inr (.inr (some 60)), .inl a1], []) M _
  refine zG_blk (c' := (6, [.inr (.inr (some 60)), .inl a1], [.inl 0, .inl a1, .inr (.inr (some 61))])) 4 hd0 hz (by rfl) ?_
  refine zG_call hd0 hz (rfl : zP 106 = (zk_X8_get, 3, (0, 0))) rfl rfl (Nat.le_of_ble_eq_true rfl) ⟨Nat.le_refl _, Nat.le_refl _⟩ (qw_get (by omega) hC (⟨by decide, rfl, rfl⟩ : qT n 61 250 4) a1 (by omega) 0 (by omega)) (fun vr M1 hr => ?_)
  obtain ⟨hq, x2, rfl, hx2⟩ := hr
  replace hq := hq.symm; subst hq
  show zG n (0, 0) d 42 (9, [.inr (.inr (some 60)), .inl a1], [.inl x2]) M _
  refine zG_blk (c' := (10, [.inr (.inr (some 60)), .inl a1], [.inl 1, .inl x2])) 1 hd0 hz (by rfl) ?_
  have j18 : ∀ (v3 : Int) , 0 ≤ v3 ∧ v3 ≤ 1 → zG n (0, 0) d 42 (18, [.inr (.inr (some 60)), .inl a1], [.inl v3]) M (fun v M' => M' = M ∧ qRi (fun x => 0 ≤ x ∧ x ≤ 1) v) := by
    intro v3 hv3
    exact zG_zret hd0 hz rfl (by omega) ⟨rfl, _, rfl, by omega⟩
  refine zG_icmp_ne hd0 hz rfl (fun hb4 => ?_) (fun hb4 => ?_)
  · refine zG_blk (c' := (18, [.inr (.inr (some 60)), .inl a1], [.inl 0])) 1 hd0 hz (by rfl) ?_
    exact j18 0 (by omega)
  · refine zG_blk (c' := (18, [.inr (.inr (some 60)), .inl a1], [.inl 1])) 2 hd0 hz (by rfl) ?_
    exact j18 1 (by omega)
theorem qm_52_60 {n d : Nat} {M : zM} (hd : 2 ≤ d) (hC : qCI M) (a1 : Int) (ha1 : (-2147483648) ≤ a1 ∧ a1 ≤ 2147483647) : qOkP n d 52 [.inr (.inr (some 60)), .inl a1] 2 M (qRi (fun x => (-2147483648) ≤ x ∧ x ≤ 2147483647)) := by
  have hz : zP 52 = (zk_X4_rowOf, 2, (0, 0)) := rfl
  have hd0 : 0 < d := by omega
  show zG n (0, 0) d 52 (0, [.inr (.inr (some 60)), .inl a1], []) M _
  refine zG_blk (c' := (9, [.inr (.inr (some 60)), .inl a1], [.inl 4, .inl a1, .inr (.inr (some 18))])) 5 hd0 hz (by rfl) ?_
  refine zG_call hd0 hz (rfl : zP 106 = (zk_X8_get, 3, (0, 0))) rfl rfl (Nat.le_of_ble_eq_true rfl) ⟨Nat.le_refl _, Nat.le_refl _⟩ (qw_get (by omega) hC (⟨by decide, rfl, rfl⟩ : qT n 18 250 11) a1 (by omega) 4 (by omega)) (fun vr M1 hr => ?_)
  obtain ⟨hq, x2, rfl, hx2⟩ := hr
  replace hq := hq.symm; subst hq
  show zG n (0, 0) d 52 (12, [.inr (.inr (some 60)), .inl a1], [.inl x2]) M _
  obtain ⟨x3, hx3⟩ : ∃ x : Int, x = w32 (x2 * 14) := ⟨_, rfl⟩
  have hx3r : qin x3 := by rw [hx3]; exact w32_in _
  refine zG_blk (c' := (24, [.inr (.inr (some 60)), .inl a1], [.inl 5, .inl a1, .inr (.inr (some 18)), .inl x3])) 7 hd0 hz (by subst hx3; rfl) ?_
  refine zG_call hd0 hz (rfl : zP 106 = (zk_X8_get, 3, (0, 0))) rfl rfl (Nat.le_of_ble_eq_true rfl) ⟨Nat.le_refl _, Nat.le_refl _⟩ (qw_get (by omega) hC (⟨by decide, rfl, rfl⟩ : qT n 18 250 11) a1 (by omega) 5 (by omega)) (fun vr M4 hr => ?_)
  obtain ⟨hq, x5, rfl, hx5⟩ := hr
  replace hq := hq.symm; subst hq
  show zG n (0, 0) d 52 (27, [.inr (.inr (some 60)), .inl a1], [.inl x5, .inl x3]) M _
  obtain ⟨x6, hx6⟩ : ∃ x : Int, x = w32 (x3 + x5) := ⟨_, rfl⟩
  have hx6r : x6 = (x3 + x5 + 2147483648) % 4294967296 - 2147483648 := hx6
  refine zG_blk (c' := (28, [.inr (.inr (some 60)), .inl a1], [.inl x6])) 1 hd0 hz (by subst hx6; rfl) ?_
  exact zG_ret hd0 hz rfl rfl ⟨rfl, _, rfl, by omega⟩
theorem qm_51_60 {n d : Nat} {M : zM} (hd : 3 ≤ d) (hC : qCI M) (a1 : Int) (ha1 : (-2147483648) ≤ a1 ∧ a1 ≤ 2147483647) : qOkM n d 51 [.inr (.inr (some 60)), .inl a1] 4 qCI [64] M qRn := by
  have hz : zP 51 = (zk_X4_bringFirst, 4, (0, 0)) := rfl
  have hd0 : 0 < d := by omega
  have hW : qFr [64] M M := qFr.rfl
  show zG n (0, 0) d 51 (0, [.inr (.inr (some 60)), .inl a1, zN, zN], []) M _
  refine zG_blk (c' := (2, [.inr (.inr (some 60)), .inl a1, zN, zN], [.inl a1, .inr (.inr (some 60))])) 2 hd0 hz (by rfl) ?_
  refine zG_call hd0 hz (rfl : zP 52 = (zk_X4_rowOf, 2, (0, 0))) rfl rfl (Nat.le_of_ble_eq_true rfl) ⟨Nat.le_refl _, Nat.le_refl _⟩ (qm_52_60 (by omega) hC  a1 (by omega)) (fun vr M1 hr => ?_)
  obtain ⟨hq, x2, rfl, hx2⟩ := hr
  replace hq := hq.symm; subst hq
  show zG n (0, 0) d 51 (5, [.inr (.inr (some 60)), .inl a1, zN, zN], [.inl x2]) M _
  refine zG_blk (c' := (12, [.inr (.inr (some 60)), .inl a1, .inl x2, zN], [.inl 3, .inl x2, .inr (.inr (some 63))])) 5 hd0 hz (by rfl) ?_
  refine zG_call hd0 hz (rfl : zP 106 = (zk_X8_get, 3, (0, 0))) rfl rfl (Nat.le_of_ble_eq_true rfl) ⟨Nat.le_refl _, Nat.le_refl _⟩ (qw_get (by omega) hC (⟨by decide, rfl, rfl⟩ : qT n 63 280 4) x2 (by omega) 3 (by omega)) (fun vr M3 hr => ?_)
  obtain ⟨hq, x4, rfl, hx4⟩ := hr
  replace hq := hq.symm; subst hq
  show zG n (0, 0) d 51 (15, [.inr (.inr (some 60)), .inl a1, .inl x2, zN], [.inl x4]) M _
  refine zG_blk (c' := (18, [.inr (.inr (some 60)), .inl a1, .inl x2, .inl x4], [.inl (-1), .inl x4])) 3 hd0 hz (by rfl) ?_
  have j58 : ∀ (M5 : zM) , qCI M5 → qFr [64] M M5 → zG n (0, 0) d 51 (58, [.inr (.inr (some 60)), .inl a1, .inl x2, .inl x4], []) M5 (fun v M' => qWf qCI [64] M M' ∧ qRn v) := by
    intro M5 hCM5 hWM5
    exact zG_ret hd0 hz rfl rfl ⟨⟨hCM5, hWM5⟩, rfl⟩
  have j48 : zG n (0, 0) d 51 (48, [.inr (.inr (some 60)), .inl a1, .inl x2, .inl x4], []) M (fun v M' => qWf qCI [64] M M' ∧ qRn v) := by
    refine zG_blk (c' := (55, [.inr (.inr (some 60)), .inl a1, .inl x2, .inl x4], [.inl a1, .inl 3, .inl x2, .inr (.inr (some 63))])) 5 hd0 hz (by rfl) ?_
    refine zG_call hd0 hz (rfl : zP 107 = (zk_X8_set, 4, (0, 0))) rfl rfl (Nat.le_of_ble_eq_true rfl) ⟨Nat.le_refl _, Nat.le_refl _⟩ (qw_set (by omega) hC (⟨by decide, rfl, rfl⟩ : qT n 63 280 4) x2 (by omega) 3 (by omega) a1 (by omega)) (fun vr M6 hr => ?_)
    obtain ⟨⟨hCM6, hFM6⟩, rfl⟩ := hr
    have hWM6 : qFr [64] M M6 := hW.tr hFM6 (by decide)
    show zG n (0, 0) d 51 (58, [.inr (.inr (some 60)), .inl a1, .inl x2, .inl x4], []) M6 _
    exact j58 M6 hCM6 hWM6
  refine zG_icmp_eq hd0 hz rfl (fun hb8 => ?_) (fun hb8 => ?_)
  · exact j48
  · refine zG_blk (c' := (30, [.inr (.inr (some 60)), .inl a1, .inl x2, .inl x4], [.inl 1, .inl a1, .inr (.inr (some 18))])) 5 hd0 hz (by rfl) ?_
    refine zG_call hd0 hz (rfl : zP 106 = (zk_X8_get, 3, (0, 0))) rfl rfl (Nat.le_of_ble_eq_true rfl) ⟨Nat.le_refl _, Nat.le_refl _⟩ (qw_get (by omega) hC (⟨by decide, rfl, rfl⟩ : qT n 18 250 11) a1 (by omega) 1 (by omega)) (fun vr M9 hr => ?_)
    obtain ⟨hq, x10, rfl, hx10⟩ := hr
    replace hq := hq.symm; subst hq
    show zG n (0, 0) d 51 (33, [.inr (.inr (some 60)), .inl a1, .inl x2, .inl x4], [.inl x10]) M _
    refine zG_blk (c' := (42, [.inr (.inr (some 60)), .inl a1, .inl x2, .inl x4], [.inl 1, .inl x4, .inr (.inr (some 18)), .inl x10])) 5 hd0 hz (by rfl) ?_
    refine zG_call hd0 hz (rfl : zP 106 = (zk_X8_get, 3, (0, 0))) rfl rfl (Nat.le_of_ble_eq_true rfl) ⟨Nat.le_refl _, Nat.le_refl _⟩ (qw_get (by omega) hC (⟨by decide, rfl, rfl⟩ : qT n 18 250 11) x4 (by omega) 1 (by omega)) (fun vr M11 hr => ?_)
    obtain ⟨hq, x12, rfl, hx12⟩ := hr
    replace hq := hq.symm; subst hq
    show zG n (0, 0) d 51 (45, [.inr (.inr (some 60)), .inl a1, .inl x2, .inl x4], [.inl x12, .inl x10]) M _
    refine zG_icmp_ge hd0 hz rfl (fun hb13 => ?_) (fun hb13 => ?_)
    · exact j58 M hC hW
    · exact j48
theorem qm_50_60 {n d : Nat} {M : zM} (hd : 4 ≤ d) (hC : qCI M) (a1 : Int) (ha1 : (-2147483648) ≤ a1 ∧ a1 ≤ 2147483647) : qOkM n d 50 [.inr (.inr (some 60)), .inl a1] 2 qCI [62, 64, 65, 66] M qRn := by
  have hz : zP 50 = (zk_X4_gatherOne, 2, (0, 0)) := rfl
  have hd0 : 0 < d := by omega
  have hW : qFr [62, 64, 65, 66] M M := qFr.rfl
  show zG n (0, 0) d 50 (0, [.inr (.inr (some 60)), .inl a1], []) M _
  refine zG_blk (c' := (9, [.inr (.inr (some 60)), .inl a1], [.inl 0, .inl a1, .inr (.inr (some 18))])) 5 hd0 hz (by rfl) ?_
  refine zG_call hd0 hz (rfl : zP 106 = (zk_X8_get, 3, (0, 0))) rfl rfl (Nat.le_of_ble_eq_true rfl) ⟨Nat.le_refl _, Nat.le_refl _⟩ (qw_get (by omega) hC (⟨by decide, rfl, rfl⟩ : qT n 18 250 11) a1 (by omega) 0 (by omega)) (fun vr M1 hr => ?_)
  obtain ⟨hq, x2, rfl, hx2⟩ := hr
  replace hq := hq.symm; subst hq
  show zG n (0, 0) d 50 (12, [.inr (.inr (some 60)), .inl a1], [.inl x2]) M _
  have j156 : ∀ (M3 : zM) , qCI M3 → qFr [62, 64, 65, 66] M M3 → zG n (0, 0) d 50 (156, [.inr (.inr (some 60)), .inl a1], []) M3 (fun v M' => qWf qCI [62, 64, 65, 66] M M' ∧ qRn v) := by
    intro M3 hCM3 hWM3
    exact zG_ret hd0 hz rfl rfl ⟨⟨hCM3, hWM3⟩, rfl⟩
  have j48 : zG n (0, 0) d 50 (48, [.inr (.inr (some 60)), .inl a1], []) M (fun v M' => qWf qCI [62, 64, 65, 66] M M' ∧ qRn v) := by
    refine zG_blk (c' := (54, [.inr (.inr (some 60)), .inl a1], [.inl a1, .inr (.inr (some 60)), .inr (.inr (some 63))])) 4 hd0 hz (by rfl) ?_
    refine zG_call hd0 hz (rfl : zP 52 = (zk_X4_rowOf, 2, (0, 0))) rfl rfl (Nat.le_of_ble_eq_true rfl) ⟨Nat.le_refl _, Nat.le_refl _⟩ (qm_52_60 (by omega) hC  a1 (by omega)) (fun vr M4 hr => ?_)
    obtain ⟨hq, x5, rfl, hx5⟩ := hr
    replace hq := hq.symm; subst hq
    show zG n (0, 0) d 50 (57, [.inr (.inr (some 60)), .inl a1], [.inl x5, .inr (.inr (some 63))]) M _
    refine zG_blk (c' := (59, [.inr (.inr (some 60)), .inl a1], [.inl 1, .inl 1, .inl x5, .inr (.inr (some 63))])) 2 hd0 hz (by rfl) ?_
    refine zG_call hd0 hz (rfl : zP 108 = (zk_X8_add, 4, (0, 0))) rfl rfl (Nat.le_of_ble_eq_true rfl) ⟨Nat.le_refl _, Nat.le_refl _⟩ (qw_add (by omega) hC (⟨by decide, rfl, rfl⟩ : qT n 63 280 4) x5 (by omega) 1 (by omega) 1 (by omega)) (fun vr M6 hr => ?_)
    obtain ⟨⟨hCM6, hFM6⟩, rfl⟩ := hr
    have hWM6 : qFr [62, 64, 65, 66] M M6 := hW.tr hFM6 (by decide)
    show zG n (0, 0) d 50 (62, [.inr (.inr (some 60)), .inl a1], []) M6 _
    refine zG_blk (c' := (64, [.inr (.inr (some 60)), .inl a1], [.inl a1, .inr (.inr (some 60))])) 2 hd0 hz (by rfl) ?_
    refine zG_call hd0 hz (rfl : zP 51 = (zk_X4_bringFirst, 4, (0, 0))) rfl rfl (Nat.le_of_ble_eq_true rfl) ⟨Nat.le_refl _, Nat.le_refl _⟩ (qm_51_60 (by omega) hCM6  a1 (by omega)) (fun vr M8 hr => ?_)
    obtain ⟨⟨hCM8, hFM8⟩, rfl⟩ := hr
    have hWM8 : qFr [62, 64, 65, 66] M M8 := hWM6.tr hFM8 (by decide)
    show zG n (0, 0) d 50 (67, [.inr (.inr (some 60)), .inl a1], []) M8 _
    refine zG_blk (c' := (156, [.inr (.inr (some 60)), .inl a1], [])) 1 hd0 hz (by rfl) ?_
    exact j156 M8 hCM8 hWM8
  have j70 : zG n (0, 0) d 50 (70, [.inr (.inr (some 60)), .inl a1], []) M (fun v M' => qWf qCI [62, 64, 65, 66] M M' ∧ qRn v) := by
    refine zG_blk (c' := (84, [.inr (.inr (some 60)), .inl a1], [.inl 6, .inl a1, .inr (.inr (some 18)), .inr (.inr (some 61))])) 7 hd0 hz (by rfl) ?_
    refine zG_call hd0 hz (rfl : zP 106 = (zk_X8_get, 3, (0, 0))) rfl rfl (Nat.le_of_ble_eq_true rfl) ⟨Nat.le_refl _, Nat.le_refl _⟩ (qw_get (by omega) hC (⟨by decide, rfl, rfl⟩ : qT n 18 250 11) a1 (by omega) 6 (by omega)) (fun vr M10 hr => ?_)
    obtain ⟨hq, x11, rfl, hx11⟩ := hr
    replace hq := hq.symm; subst hq
    show zG n (0, 0) d 50 (87, [.inr (.inr (some 60)), .inl a1], [.inl x11, .inr (.inr (some 61))]) M _
    refine zG_blk (c' := (89, [.inr (.inr (some 60)), .inl a1], [.inl a1, .inl 2, .inl x11, .inr (.inr (some 61))])) 2 hd0 hz (by rfl) ?_
    refine zG_call hd0 hz (rfl : zP 107 = (zk_X8_set, 4, (0, 0))) rfl rfl (Nat.le_of_ble_eq_true rfl) ⟨Nat.le_refl _, Nat.le_refl _⟩ (qw_set (by omega) hC (⟨by decide, rfl, rfl⟩ : qT n 61 250 4) x11 (by omega) 2 (by omega) a1 (by omega)) (fun vr M12 hr => ?_)
    obtain ⟨⟨hCM12, hFM12⟩, rfl⟩ := hr
    have hWM12 : qFr [62, 64, 65, 66] M M12 := hW.tr hFM12 (by decide)
    show zG n (0, 0) d 50 (92, [.inr (.inr (some 60)), .inl a1], []) M12 _
    refine zG_blk (c' := (156, [.inr (.inr (some 60)), .inl a1], [])) 1 hd0 hz (by rfl) ?_
    exact j156 M12 hCM12 hWM12
  have j95 : zG n (0, 0) d 50 (95, [.inr (.inr (some 60)), .inl a1], []) M (fun v M' => qWf qCI [62, 64, 65, 66] M M' ∧ qRn v) := by
    refine zG_blk (c' := (109, [.inr (.inr (some 60)), .inl a1], [.inl 6, .inl a1, .inr (.inr (some 18)), .inr (.inr (some 61))])) 7 hd0 hz (by rfl) ?_
    refine zG_call hd0 hz (rfl : zP 106 = (zk_X8_get, 3, (0, 0))) rfl rfl (Nat.le_of_ble_eq_true rfl) ⟨Nat.le_refl _, Nat.le_refl _⟩ (qw_get (by omega) hC (⟨by decide, rfl, rfl⟩ : qT n 18 250 11) a1 (by omega) 6 (by omega)) (fun vr M14 hr => ?_)
    obtain ⟨hq, x15, rfl, hx15⟩ := hr
    replace hq := hq.symm; subst hq
    show zG n (0, 0) d 50 (112, [.inr (.inr (some 60)), .inl a1], [.inl x15, .inr (.inr (some 61))]) M _
    refine zG_blk (c' := (114, [.inr (.inr (some 60)), .inl a1], [.inl a1, .inl 3, .inl x15, .inr (.inr (some 61))])) 2 hd0 hz (by rfl) ?_
    refine zG_call hd0 hz (rfl : zP 107 = (zk_X8_set, 4, (0, 0))) rfl rfl (Nat.le_of_ble_eq_true rfl) ⟨Nat.le_refl _, Nat.le_refl _⟩ (qw_set (by omega) hC (⟨by decide, rfl, rfl⟩ : qT n 61 250 4) x15 (by omega) 3 (by omega) a1 (by omega)) (fun vr M16 hr => ?_)
    obtain ⟨⟨hCM16, hFM16⟩, rfl⟩ := hr
    have hWM16 : qFr [62, 64, 65, 66] M M16 := hW.tr hFM16 (by decide)
    show zG n (0, 0) d 50 (117, [.inr (.inr (some 60)), .inl a1], []) M16 _
    refine zG_blk (c' := (156, [.inr (.inr (some 60)), .inl a1], [])) 1 hd0 hz (by rfl) ?_
    exact j156 M16 hCM16 hWM16
  have j120 : zG n (0, 0) d 50 (120, [.inr (.inr (some 60)), .inl a1], []) M (fun v M' => qWf qCI [62, 64, 65, 66] M M' ∧ qRn v) := by
    refine zG_blk (c' := (128, [.inr (.inr (some 60)), .inl a1], [.inr (.inr (some 65)), .inr (.inr (some 65))])) 4 hd0 hz (by rfl) ?_
    refine zG_call hd0 hz (rfl : zP 103 = (zk_X8_open, 1, (0, 0))) rfl rfl (Nat.le_of_ble_eq_true rfl) ⟨Nat.le_refl _, Nat.le_refl _⟩ (qw_open (by omega) hC (⟨by decide, rfl, rfl⟩ : qT n 65 250 1) ) (fun vr M18 hr => ?_)
    obtain ⟨⟨hCM18, hFM18⟩, x19, rfl, hx19⟩ := hr
    have hWM18 : qFr [62, 64, 65, 66] M M18 := hW.tr hFM18 (by decide)
    show zG n (0, 0) d 50 (131, [.inr (.inr (some 60)), .inl a1], [.inl x19, .inr (.inr (some 65))]) M18 _
    refine zG_blk (c' := (133, [.inr (.inr (some 60)), .inl a1], [.inl a1, .inl 0, .inl x19, .inr (.inr (some 65))])) 2 hd0 hz (by rfl) ?_
    refine zG_call hd0 hz (rfl : zP 107 = (zk_X8_set, 4, (0, 0))) rfl rfl (Nat.le_of_ble_eq_true rfl) ⟨Nat.le_refl _, Nat.le_refl _⟩ (qw_set (by omega) hCM18 (⟨by decide, rfl, rfl⟩ : qT n 65 250 1) x19 (by omega) 0 (by omega) a1 (by omega)) (fun vr M20 hr => ?_)
    obtain ⟨⟨hCM20, hFM20⟩, rfl⟩ := hr
    have hWM20 : qFr [62, 64, 65, 66] M M20 := hWM18.tr hFM20 (by decide)
    show zG n (0, 0) d 50 (136, [.inr (.inr (some 60)), .inl a1], []) M20 _
    refine zG_blk (c' := (156, [.inr (.inr (some 60)), .inl a1], [])) 1 hd0 hz (by rfl) ?_
    exact j156 M20 hCM20 hWM20
  have j139 : zG n (0, 0) d 50 (139, [.inr (.inr (some 60)), .inl a1], []) M (fun v M' => qWf qCI [62, 64, 65, 66] M M' ∧ qRn v) := by
    refine zG_blk (c' := (145, [.inr (.inr (some 60)), .inl a1], [.inl a1, .inr (.inr (some 60)), .inr (.inr (some 63))])) 4 hd0 hz (by rfl) ?_
    refine zG_call hd0 hz (rfl : zP 52 = (zk_X4_rowOf, 2, (0, 0))) rfl rfl (Nat.le_of_ble_eq_true rfl) ⟨Nat.le_refl _, Nat.le_refl _⟩ (qm_52_60 (by omega) hC  a1 (by omega)) (fun vr M22 hr => ?_)
    obtain ⟨hq, x23, rfl, hx23⟩ := hr
    replace hq := hq.symm; subst hq
    show zG n (0, 0) d 50 (148, [.inr (.inr (some 60)), .inl a1], [.inl x23, .inr (.inr (some 63))]) M _
    refine zG_blk (c' := (150, [.inr (.inr (some 60)), .inl a1], [.inl 1, .inl 2, .inl x23, .inr (.inr (some 63))])) 2 hd0 hz (by rfl) ?_
    refine zG_call hd0 hz (rfl : zP 107 = (zk_X8_set, 4, (0, 0))) rfl rfl (Nat.le_of_ble_eq_true rfl) ⟨Nat.le_refl _, Nat.le_refl _⟩ (qw_set (by omega) hC (⟨by decide, rfl, rfl⟩ : qT n 63 280 4) x23 (by omega) 2 (by omega) 1 (by omega)) (fun vr M24 hr => ?_)
    obtain ⟨⟨hCM24, hFM24⟩, rfl⟩ := hr
    have hWM24 : qFr [62, 64, 65, 66] M M24 := hW.tr hFM24 (by decide)
    show zG n (0, 0) d 50 (153, [.inr (.inr (some 60)), .inl a1], []) M24 _
    refine zG_blk (c' := (156, [.inr (.inr (some 60)), .inl a1], [])) 1 hd0 hz (by rfl) ?_
    exact j156 M24 hCM24 hWM24
  refine zG_sw hd0 hz rfl ?_
  refine zts_all (P := fun t => zG n (0, 0) d 50 (t, [.inr (.inr (some 60)), .inl a1], []) M _) ?_ ?_
  · exact j156 M hC hW
  · intro t ht
    simp only [List.mem_cons, List.not_mem_nil, or_false] at ht
    rcases ht with rfl | rfl | rfl | rfl | rfl
    · exact j48
    · exact j70
    · exact j95
    · exact j120
    · exact j139
theorem qm_49_60 {n d : Nat} {M : zM} (hd : 5 ≤ d) (hC : qCI M)  : qOkM n d 49 [.inr (.inr (some 60))] 3 qCI [62, 64, 65, 66] M qRn := by
  have hz : zP 49 = (zk_X4_gather, 3, (0, 0)) := rfl
  have hd0 : 0 < d := by omega
  have hW : qFr [62, 64, 65, 66] M M := qFr.rfl
  show zG n (0, 0) d 49 (0, [.inr (.inr (some 60)), zN, zN], []) M _
  refine zG_blk (c' := (7, [.inr (.inr (some 60)), zN, zN], [.inr (.inr (some 12))])) 3 hd0 hz (by rfl) ?_
  refine zG_call hd0 hz (rfl : zP 101 = (zk_X8_size, 1, (0, 0))) rfl rfl (Nat.le_of_ble_eq_true rfl) ⟨Nat.le_refl _, Nat.le_refl _⟩ (qw_size (by omega) hC (⟨by decide, rfl, rfl⟩ : qT n 12 20 3) ) (fun vr M1 hr => ?_)
  obtain ⟨hq, x2, rfl, hx2⟩ := hr
  replace hq := hq.symm; subst hq
  show zG n (0, 0) d 49 (10, [.inr (.inr (some 60)), zN, zN], [.inl x2]) M _
  obtain ⟨x3, hx3⟩ : ∃ x : Int, x = w32 (x2 * 14) := ⟨_, rfl⟩
  have hx3e : x3 = x2 * 14 := by rw [hx3]; exact w32_id (by omega)
  refine zG_blk (c' := (27, [.inr (.inr (some 60)), .inl x3, zN], [.inr (.inr (some 18)), .inl (-1), .inl 2, .inr (.inr (some 61))])) 10 hd0 hz (by subst hx3; rfl) ?_
  refine zG_call hd0 hz (rfl : zP 101 = (zk_X8_size, 1, (0, 0))) rfl rfl (Nat.le_of_ble_eq_true rfl) ⟨Nat.le_refl _, Nat.le_refl _⟩ (qw_size (by omega) hC (⟨by decide, rfl, rfl⟩ : qT n 18 250 11) ) (fun vr M4 hr => ?_)
  obtain ⟨hq, x5, rfl, hx5⟩ := hr
  replace hq := hq.symm; subst hq
  show zG n (0, 0) d 49 (30, [.inr (.inr (some 60)), .inl x3, zN], [.inl x5, .inl (-1), .inl 2, .inr (.inr (some 61))]) M _
  refine zG_call hd0 hz (rfl : zP 109 = (zk_X8_fillColumn, 5, (0, 0))) rfl rfl (Nat.le_of_ble_eq_true rfl) ⟨Nat.le_refl _, Nat.le_refl _⟩ (qw_fillColumn (by omega) hC (⟨by decide, rfl, rfl⟩ : qT n 61 250 4) 2 (by omega) (-1) (by omega) x5 (by omega)) (fun vr M6 hr => ?_)
  obtain ⟨⟨hCM6, hFM6⟩, rfl⟩ := hr
  have hWM6 : qFr [62, 64, 65, 66] M M6 := hW.tr hFM6 (by decide)
  show zG n (0, 0) d 49 (33, [.inr (.inr (some 60)), .inl x3, zN], []) M6 _
  refine zG_blk (c' := (46, [.inr (.inr (some 60)), .inl x3, zN], [.inr (.inr (some 18)), .inl (-1), .inl 3, .inr (.inr (some 61))])) 7 hd0 hz (by rfl) ?_
  refine zG_call hd0 hz (rfl : zP 101 = (zk_X8_size, 1, (0, 0))) rfl rfl (Nat.le_of_ble_eq_true rfl) ⟨Nat.le_refl _, Nat.le_refl _⟩ (qw_size (by omega) hCM6 (⟨by decide, rfl, rfl⟩ : qT n 18 250 11) ) (fun vr M8 hr => ?_)
  obtain ⟨hq, x9, rfl, hx9⟩ := hr
  replace hq := hq.symm; subst hq
  show zG n (0, 0) d 49 (49, [.inr (.inr (some 60)), .inl x3, zN], [.inl x9, .inl (-1), .inl 3, .inr (.inr (some 61))]) M6 _
  refine zG_call hd0 hz (rfl : zP 109 = (zk_X8_fillColumn, 5, (0, 0))) rfl rfl (Nat.le_of_ble_eq_true rfl) ⟨Nat.le_refl _, Nat.le_refl _⟩ (qw_fillColumn (by omega) hCM6 (⟨by decide, rfl, rfl⟩ : qT n 61 250 4) 3 (by omega) (-1) (by omega) x9 (by omega)) (fun vr M10 hr => ?_)
  obtain ⟨⟨hCM10, hFM10⟩, rfl⟩ := hr
  have hWM10 : qFr [62, 64, 65, 66] M M10 := hWM6.tr hFM10 (by decide)
  show zG n (0, 0) d 49 (52, [.inr (.inr (some 60)), .inl x3, zN], []) M10 _
  refine zG_blk (c' := (59, [.inr (.inr (some 60)), .inl x3, zN], [.inl x3, .inl (-1), .inl 0, .inr (.inr (some 63))])) 5 hd0 hz (by rfl) ?_
  refine zG_call hd0 hz (rfl : zP 109 = (zk_X8_fillColumn, 5, (0, 0))) rfl rfl (Nat.le_of_ble_eq_true rfl) ⟨Nat.le_refl _, Nat.le_refl _⟩ (qw_fillColumn (by omega) hCM10 (⟨by decide, rfl, rfl⟩ : qT n 63 280 4) 0 (by omega) (-1) (by omega) x3 (by omega)) (fun vr M12 hr => ?_)
  obtain ⟨⟨hCM12, hFM12⟩, rfl⟩ := hr
  have hWM12 : qFr [62, 64, 65, 66] M M12 := hWM10.tr hFM12 (by decide)
  show zG n (0, 0) d 49 (62, [.inr (.inr (some 60)), .inl x3, zN], []) M12 _
  refine zG_blk (c' := (69, [.inr (.inr (some 60)), .inl x3, zN], [.inl x3, .inl 0, .inl 1, .inr (.inr (some 63))])) 5 hd0 hz (by rfl) ?_
  refine zG_call hd0 hz (rfl : zP 109 = (zk_X8_fillColumn, 5, (0, 0))) rfl rfl (Nat.le_of_ble_eq_true rfl) ⟨Nat.le_refl _, Nat.le_refl _⟩ (qw_fillColumn (by omega) hCM12 (⟨by decide, rfl, rfl⟩ : qT n 63 280 4) 1 (by omega) 0 (by omega) x3 (by omega)) (fun vr M14 hr => ?_)
  obtain ⟨⟨hCM14, hFM14⟩, rfl⟩ := hr
  have hWM14 : qFr [62, 64, 65, 66] M M14 := hWM12.tr hFM14 (by decide)
  show zG n (0, 0) d 49 (72, [.inr (.inr (some 60)), .inl x3, zN], []) M14 _
  refine zG_blk (c' := (79, [.inr (.inr (some 60)), .inl x3, zN], [.inl x3, .inl 0, .inl 2, .inr (.inr (some 63))])) 5 hd0 hz (by rfl) ?_
  refine zG_call hd0 hz (rfl : zP 109 = (zk_X8_fillColumn, 5, (0, 0))) rfl rfl (Nat.le_of_ble_eq_true rfl) ⟨Nat.le_refl _, Nat.le_refl _⟩ (qw_fillColumn (by omega) hCM14 (⟨by decide, rfl, rfl⟩ : qT n 63 280 4) 2 (by omega) 0 (by omega) x3 (by omega)) (fun vr M16 hr => ?_)
  obtain ⟨⟨hCM16, hFM16⟩, rfl⟩ := hr
  have hWM16 : qFr [62, 64, 65, 66] M M16 := hWM14.tr hFM16 (by decide)
  show zG n (0, 0) d 49 (82, [.inr (.inr (some 60)), .inl x3, zN], []) M16 _
  refine zG_blk (c' := (89, [.inr (.inr (some 60)), .inl x3, zN], [.inl x3, .inl (-1), .inl 3, .inr (.inr (some 63))])) 5 hd0 hz (by rfl) ?_
  refine zG_call hd0 hz (rfl : zP 109 = (zk_X8_fillColumn, 5, (0, 0))) rfl rfl (Nat.le_of_ble_eq_true rfl) ⟨Nat.le_refl _, Nat.le_refl _⟩ (qw_fillColumn (by omega) hCM16 (⟨by decide, rfl, rfl⟩ : qT n 63 280 4) 3 (by omega) (-1) (by omega) x3 (by omega)) (fun vr M18 hr => ?_)
  obtain ⟨⟨hCM18, hFM18⟩, rfl⟩ := hr
  have hWM18 : qFr [62, 64, 65, 66] M M18 := hWM16.tr hFM18 (by decide)
  show zG n (0, 0) d 49 (92, [.inr (.inr (some 60)), .inl x3, zN], []) M18 _
  refine zG_blk (c' := (96, [.inr (.inr (some 60)), .inl x3, zN], [.inr (.inr (some 65))])) 2 hd0 hz (by rfl) ?_
  refine zG_call hd0 hz (rfl : zP 104 = (zk_X8_drop, 1, (0, 0))) rfl rfl (Nat.le_of_ble_eq_true rfl) ⟨Nat.le_refl _, Nat.le_refl _⟩ (qw_drop (by omega) hCM18 (⟨by decide, rfl, rfl⟩ : qT n 65 250 1) ) (fun vr M20 hr => ?_)
  obtain ⟨⟨hCM20, hFM20⟩, rfl⟩ := hr
  have hWM20 : qFr [62, 64, 65, 66] M M20 := hWM18.tr hFM20 (by decide)
  show zG n (0, 0) d 49 (99, [.inr (.inr (some 60)), .inl x3, zN], []) M20 _
  refine zG_blk (c' := (101, [.inr (.inr (some 60)), .inl x3, .inl 0], [])) 2 hd0 hz (by rfl) ?_
  have j101 : ∀ (N : Nat) (v22 : Int) (M23 : zM) , (250 - v22 : Int).toNat < N → 0 ≤ v22 ∧ v22 ≤ 250 → qCI M23 → qFr [62, 64, 65, 66] M M23 → zG n (0, 0) d 49 (101, [.inr (.inr (some 60)), .inl x3, .inl v22], []) M23 (fun v M' => qWf qCI [62, 64, 65, 66] M M' ∧ qRn v) := by
    intro N
    induction N with
    | zero => intro v22 M23 hN hv22 hCM23 hWM23; exact absurd hN (Nat.not_lt_zero _)
    | succ N ih101 =>
      intro v22 M23 hN hv22 hCM23 hWM23
      refine zG_blk (c' := (109, [.inr (.inr (some 60)), .inl x3, .inl v22], [.inr (.inr (some 18)), .inl v22])) 4 hd0 hz (by rfl) ?_
      refine zG_call hd0 hz (rfl : zP 101 = (zk_X8_size, 1, (0, 0))) rfl rfl (Nat.le_of_ble_eq_true rfl) ⟨Nat.le_refl _, Nat.le_refl _⟩ (qw_size (by omega) hCM23 (⟨by decide, rfl, rfl⟩ : qT n 18 250 11) ) (fun vr M24 hr => ?_)
      obtain ⟨hq, x25, rfl, hx25⟩ := hr
      replace hq := hq.symm; subst hq
      show zG n (0, 0) d 49 (112, [.inr (.inr (some 60)), .inl x3, .inl v22], [.inl x25, .inl v22]) M23 _
      refine zG_icmp_ge hd0 hz rfl (fun hb26 => ?_) (fun hb26 => ?_)
      · exact zG_ret hd0 hz rfl rfl ⟨⟨hCM23, hWM23⟩, rfl⟩
      · refine zG_blk (c' := (117, [.inr (.inr (some 60)), .inl x3, .inl v22], [.inl v22, .inr (.inr (some 60))])) 2 hd0 hz (by rfl) ?_
        refine zG_call hd0 hz (rfl : zP 42 = (zk_X4_holds, 2, (0, 0))) rfl rfl (Nat.le_of_ble_eq_true rfl) ⟨Nat.le_refl _, Nat.le_refl _⟩ (qm_42_60 (by omega) hCM23  v22 (by omega)) (fun vr M27 hr => ?_)
        obtain ⟨hq, x28, rfl, hx28⟩ := hr
        replace hq := hq.symm; subst hq
        show zG n (0, 0) d 49 (120, [.inr (.inr (some 60)), .inl x3, .inl v22], [.inl x28]) M23 _
        have j128 : ∀ (M29 : zM) , qCI M29 → qFr [62, 64, 65, 66] M M29 → zG n (0, 0) d 49 (128, [.inr (.inr (some 60)), .inl x3, .inl v22], []) M29 (fun v M' => qWf qCI [62, 64, 65, 66] M M' ∧ qRn v) := by
          intro M29 hCM29 hWM29
          obtain ⟨x30, hx30⟩ : ∃ x : Int, x = w32 (v22 + 1) := ⟨_, rfl⟩
          have hx30e : x30 = v22 + 1 := by rw [hx30]; exact w32_id (by omega)
          refine zG_blk (c' := (101, [.inr (.inr (some 60)), .inl x3, .inl x30], [])) 2 hd0 hz (by subst hx30; rfl) ?_
          exact ih101 x30 M29 (by omega) (by omega) hCM29 hWM29
        refine zG_if_eq hd0 hz rfl (fun hb31 => ?_) (fun hb31 => ?_)
        · exact j128 M23 hCM23 hWM23
        · refine zG_blk (c' := (125, [.inr (.inr (some 60)), .inl x3, .inl v22], [.inl v22, .inr (.inr (some 60))])) 2 hd0 hz (by rfl) ?_
          refine zG_call hd0 hz (rfl : zP 50 = (zk_X4_gatherOne, 2, (0, 0))) rfl rfl (Nat.le_of_ble_eq_true rfl) ⟨Nat.le_refl _, Nat.le_refl _⟩ (qm_50_60 (by omega) hCM23  v22 (by omega)) (fun vr M32 hr => ?_)
          obtain ⟨⟨hCM32, hFM32⟩, rfl⟩ := hr
          have hWM32 : qFr [62, 64, 65, 66] M M32 := hWM23.tr hFM32 (by decide)
          show zG n (0, 0) d 49 (128, [.inr (.inr (some 60)), .inl x3, .inl v22], []) M32 _
          exact j128 M32 hCM32 hWM32
  exact j101 ((250 - 0 : Int).toNat + 1) 0 M20 (by omega) (by omega) hCM20 hWM20
theorem qm_53 {n d : Nat} {M : zM} (hd : 1 ≤ d) (hC : qCI M) (a0 : Int) (ha0 : (-2147483648) ≤ a0 ∧ a0 ≤ 2147483647) (a1 : Int) (ha1 : (-2147483648) ≤ a1 ∧ a1 ≤ 2147483647) : qOkP n d 53 [.inl a0, .inl a1] 2 M (qRi (fun x => (-2147483648) ≤ x ∧ x ≤ 2147483647)) := by
  have hz : zP 53 = (zk_X4_bothOf, 2, (0, 0)) := rfl
  have hd0 : 0 < d := by omega
  show zG n (0, 0) d 53 (0, [.inl a0, .inl a1], []) M _
  obtain ⟨x1, hx1⟩ : ∃ x : Int, x = w32 (a0 - a1) := ⟨_, rfl⟩
  have hx1r : x1 = (a0 - a1 + 2147483648) % 4294967296 - 2147483648 := hx1
  obtain ⟨x2, hx2⟩ : ∃ x : Int, x = (if 0 ≤ x1 then x1 else w32 (0 - x1)) := ⟨_, rfl⟩
  have hx2r : qin x2 := by rw [hx2]; split <;> first | omega | exact w32_in _
  refine zG_blk (c' := (8, [.inl a0, .inl a1], [.inl 10, .inl x2])) 5 hd0 hz (by subst hx2; subst hx1; rfl) ?_
  have j24 : ∀ (v3 : Int) , (-2147483648) ≤ v3 ∧ v3 ≤ 2147483647 → zG n (0, 0) d 53 (24, [.inl a0, .inl a1], [.inl v3]) M (fun v M' => M' = M ∧ qRi (fun x => (-2147483648) ≤ x ∧ x ≤ 2147483647) v) := by
    intro v3 hv3
    exact zG_ret hd0 hz rfl rfl ⟨rfl, _, rfl, by omega⟩
  refine zG_icmp_gt hd0 hz rfl (fun hb4 => ?_) (fun hb4 => ?_)
  · obtain ⟨x5, hx5⟩ : ∃ x : Int, x = (if a1 < a0 then a1 else a0) := ⟨_, rfl⟩
    have hx5r := qite hx5
    refine zG_blk (c' := (24, [.inl a0, .inl a1], [.inl x5])) 3 hd0 hz (by subst hx5; rfl) ?_
    exact j24 x5 (by omega)
  · obtain ⟨x6, hx6⟩ : ∃ x : Int, x = w32 (a0 + a1) := ⟨_, rfl⟩
    have hx6r : x6 = (a0 + a1 + 2147483648) % 4294967296 - 2147483648 := hx6
    refine zG_blk (c' := (15, [.inl a0, .inl a1], [.inl 2, .inl x6])) 4 hd0 hz (by subst hx6; rfl) ?_
    refine zG_idiv hd0 hz rfl (by omega) ?_
    have hx7 := qtdiv_in x6 2 (by omega) (by omega)
    generalize w32 (x6.tdiv 2) = x7 at hx7 ⊢
    show zG n (0, 0) d 53 (16, [.inl a0, .inl a1], [.inl x7]) M _
    refine zG_blk (c' := (24, [.inl a0, .inl a1], [.inl x7])) 1 hd0 hz (by rfl) ?_
    exact j24 x7 (by omega)
theorem qm_54_60 {n d : Nat} {M : zM} (hd : 2 ≤ d) (hC : qCI M) (a1 : Int) (ha1 : (-2147483648) ≤ a1 ∧ a1 ≤ 2147483647) (a2 : Int) (ha2 : (-2147483648) ≤ a2 ∧ a2 ≤ 2147483647) : qOkP n d 54 [.inr (.inr (some 60)), .inl a1, .inl a2] 10 M (qRi (fun x => (-2147483648) ≤ x ∧ x ≤ 2147483647)) := by
  have hz : zP 54 = (zk_X4_scaledOf, 10, (0, 0)) := rfl
  have hd0 : 0 < d := by omega
  show zG n (0, 0) d 54 (0, [.inr (.inr (some 60)), .inl a1, .inl a2, zN, zN, zN, zN, zN, zN, zN], []) M _
  refine zG_blk (c' := (9, [.inr (.inr (some 60)), .inl a1, .inl a2, zN, zN, zN, zN, zN, zN, zN], [.inl 5, .inl a1, .inr (.inr (some 18))])) 5 hd0 hz (by rfl) ?_
  refine zG_call hd0 hz (rfl : zP 106 = (zk_X8_get, 3, (0, 0))) rfl rfl (Nat.le_of_ble_eq_true rfl) ⟨Nat.le_refl _, Nat.le_refl _⟩ (qw_get (by omega) hC (⟨by decide, rfl, rfl⟩ : qT n 18 250 11) a1 (by omega) 5 (by omega)) (fun vr M1 hr => ?_)
  obtain ⟨hq, x2, rfl, hx2⟩ := hr
  replace hq := hq.symm; subst hq
  show zG n (0, 0) d 54 (12, [.inr (.inr (some 60)), .inl a1, .inl a2, zN, zN, zN, zN, zN, zN, zN], [.inl x2]) M _
  refine zG_blk (c' := (22, [.inr (.inr (some 60)), .inl a1, .inl a2, .inl x2, zN, zN, zN, zN, zN, zN], [.inl 1, .inl a1, .inr (.inr (some 18))])) 6 hd0 hz (by rfl) ?_
  refine zG_call hd0 hz (rfl : zP 106 = (zk_X8_get, 3, (0, 0))) rfl rfl (Nat.le_of_ble_eq_true rfl) ⟨Nat.le_refl _, Nat.le_refl _⟩ (qw_get (by omega) hC (⟨by decide, rfl, rfl⟩ : qT n 18 250 11) a1 (by omega) 1 (by omega)) (fun vr M3 hr => ?_)
  obtain ⟨hq, x4, rfl, hx4⟩ := hr
  replace hq := hq.symm; subst hq
  show zG n (0, 0) d 54 (25, [.inr (.inr (some 60)), .inl a1, .inl a2, .inl x2, zN, zN, zN, zN, zN, zN], [.inl x4]) M _
  refine zG_blk (c' := (31, [.inr (.inr (some 60)), .inl a1, .inl a2, .inl x2, .inl x4, zN, zN, zN, zN, zN], [.inr (.inr (some 65))])) 3 hd0 hz (by rfl) ?_
  refine zG_call hd0 hz (rfl : zP 101 = (zk_X8_size, 1, (0, 0))) rfl rfl (Nat.le_of_ble_eq_true rfl) ⟨Nat.le_refl _, Nat.le_refl _⟩ (qw_size (by omega) hC (⟨by decide, rfl, rfl⟩ : qT n 65 250 1) ) (fun vr M5 hr => ?_)
  obtain ⟨hq, x6, rfl, hx6⟩ := hr
  replace hq := hq.symm; subst hq
  show zG n (0, 0) d 54 (34, [.inr (.inr (some 60)), .inl a1, .inl a2, .inl x2, .inl x4, zN, zN, zN, zN, zN], [.inl x6]) M _
  obtain ⟨x7, hx7⟩ : ∃ x : Int, x = w32 (x6 - 1) := ⟨_, rfl⟩
  have hx7e : x7 = x6 - 1 := by rw [hx7]; exact w32_id (by omega)
  refine zG_blk (c' := (38, [.inr (.inr (some 60)), .inl a1, .inl a2, .inl x2, .inl x4, .inl x7, zN, zN, zN, zN], [])) 3 hd0 hz (by subst hx7; rfl) ?_
  have j38 : ∀ (N : Nat) (v8 : Int) , (v8 + 1 : Int).toNat < N → (-1) ≤ v8 ∧ v8 ≤ 249 → zG n (0, 0) d 54 (38, [.inr (.inr (some 60)), .inl a1, .inl a2, .inl x2, .inl x4, .inl v8, zN, zN, zN, zN], []) M (fun v M' => M' = M ∧ qRi (fun x => (-2147483648) ≤ x ∧ x ≤ 2147483647) v) := by
    intro N
    induction N with
    | zero => intro v8 hN hv8; exact absurd hN (Nat.not_lt_zero _)
    | succ N ih38 =>
      intro v8 hN hv8
      refine zG_blk (c' := (40, [.inr (.inr (some 60)), .inl a1, .inl a2, .inl x2, .inl x4, .inl v8, zN, zN, zN, zN], [.inl v8])) 1 hd0 hz (by rfl) ?_
      refine zG_if_lt hd0 hz rfl (fun hb9 => ?_) (fun hb9 => ?_)
      · refine zG_blk (c' := (178, [.inr (.inr (some 60)), .inl a1, .inl a2, .inl x2, .inl x4, .inl v8, zN, zN, zN, zN], [.inl a2])) 1 hd0 hz (by rfl) ?_
        exact zG_ret hd0 hz rfl rfl ⟨rfl, _, rfl, by omega⟩
      · refine zG_blk (c' := (50, [.inr (.inr (some 60)), .inl a1, .inl a2, .inl x2, .inl x4, .inl v8, zN, zN, zN, zN], [.inl 0, .inl v8, .inr (.inr (some 65))])) 4 hd0 hz (by rfl) ?_
        refine zG_call hd0 hz (rfl : zP 106 = (zk_X8_get, 3, (0, 0))) rfl rfl (Nat.le_of_ble_eq_true rfl) ⟨Nat.le_refl _, Nat.le_refl _⟩ (qw_get (by omega) hC (⟨by decide, rfl, rfl⟩ : qT n 65 250 1) v8 (by omega) 0 (by omega)) (fun vr M10 hr => ?_)
        obtain ⟨hq, x11, rfl, hx11⟩ := hr
        replace hq := hq.symm; subst hq
        show zG n (0, 0) d 54 (53, [.inr (.inr (some 60)), .inl a1, .inl a2, .inl x2, .inl x4, .inl v8, zN, zN, zN, zN], [.inl x11]) M _
        refine zG_blk (c' := (66, [.inr (.inr (some 60)), .inl a1, .inl a2, .inl x2, .inl x4, .inl v8, .inl x11, zN, zN, zN], [.inl 9, .inl x11, .inr (.inr (some 18))])) 6 hd0 hz (by rfl) ?_
        refine zG_call hd0 hz (rfl : zP 106 = (zk_X8_get, 3, (0, 0))) rfl rfl (Nat.le_of_ble_eq_true rfl) ⟨Nat.le_refl _, Nat.le_refl _⟩ (qw_get (by omega) hC (⟨by decide, rfl, rfl⟩ : qT n 18 250 11) x11 (by omega) 9 (by omega)) (fun vr M12 hr => ?_)
        obtain ⟨hq, x13, rfl, hx13⟩ := hr
        replace hq := hq.symm; subst hq
        show zG n (0, 0) d 54 (69, [.inr (.inr (some 60)), .inl a1, .inl a2, .inl x2, .inl x4, .inl v8, .inl x11, zN, zN, zN], [.inl x13]) M _
        refine zG_blk (c' := (81, [.inr (.inr (some 60)), .inl a1, .inl a2, .inl x2, .inl x4, .inl v8, .inl x11, .inl x13, zN, zN], [.inl 5, .inl x11, .inr (.inr (some 18))])) 6 hd0 hz (by rfl) ?_
        refine zG_call hd0 hz (rfl : zP 106 = (zk_X8_get, 3, (0, 0))) rfl rfl (Nat.le_of_ble_eq_true rfl) ⟨Nat.le_refl _, Nat.le_refl _⟩ (qw_get (by omega) hC (⟨by decide, rfl, rfl⟩ : qT n 18 250 11) x11 (by omega) 5 (by omega)) (fun vr M14 hr => ?_)
        obtain ⟨hq, x15, rfl, hx15⟩ := hr
        replace hq := hq.symm; subst hq
        show zG n (0, 0) d 54 (84, [.inr (.inr (some 60)), .inl a1, .inl a2, .inl x2, .inl x4, .inl v8, .inl x11, .inl x13, zN, zN], [.inl x15]) M _
        refine zG_blk (c' := (85, [.inr (.inr (some 60)), .inl a1, .inl a2, .inl x2, .inl x4, .inl v8, .inl x11, .inl x13, zN, zN], [.inl x2, .inl x15])) 1 hd0 hz (by rfl) ?_
        have j93 : ∀ (v16 : Int) , 0 ≤ v16 ∧ v16 ≤ 1 → zG n (0, 0) d 54 (93, [.inr (.inr (some 60)), .inl a1, .inl a2, .inl x2, .inl x4, .inl v8, .inl x11, .inl x13, zN, zN], [.inl v16]) M (fun v M' => M' = M ∧ qRi (fun x => (-2147483648) ≤ x ∧ x ≤ 2147483647) v) := by
          intro v16 hv16
          refine zG_blk (c' := (97, [.inr (.inr (some 60)), .inl a1, .inl a2, .inl x2, .inl x4, .inl v8, .inl x11, .inl x13, .inl v16, zN], [.inl v16])) 2 hd0 hz (by rfl) ?_
          have j171 : zG n (0, 0) d 54 (171, [.inr (.inr (some 60)), .inl a1, .inl a2, .inl x2, .inl x4, .inl v8, .inl x11, .inl x13, .inl v16, zN], []) M (fun v M' => M' = M ∧ qRi (fun x => (-2147483648) ≤ x ∧ x ≤ 2147483647) v) := by
            obtain ⟨x17, hx17⟩ : ∃ x : Int, x = w32 (v8 + (-1)) := ⟨_, rfl⟩
            have hx17e : x17 = v8 + (-1) := by rw [hx17]; exact w32_id (by omega)
            refine zG_blk (c' := (38, [.inr (.inr (some 60)), .inl a1, .inl a2, .inl x2, .inl x4, .inl x17, .inl x11, .inl x13, .inl v16, zN], [])) 2 hd0 hz (by subst hx17; rfl) ?_
            exact zG_weak (ih38 x17 (by omega) (by omega)) ⟨.inr rfl, .inr rfl, .inr rfl, .inr rfl, .inr rfl, .inr rfl, .inl rfl, .inl rfl, .inl rfl, .inr rfl, trivial⟩
          refine zG_if_eq hd0 hz rfl (fun hb18 => ?_) (fun hb18 => ?_)
          · exact j171
          · refine zG_blk (c' := (110, [.inr (.inr (some 60)), .inl a1, .inl a2, .inl x2, .inl x4, .inl v8, .inl x11, .inl x13, .inl v16, zN], [.inl 1, .inl x11, .inr (.inr (some 18))])) 5 hd0 hz (by rfl) ?_
            refine zG_call hd0 hz (rfl : zP 106 = (zk_X8_get, 3, (0, 0))) rfl rfl (Nat.le_of_ble_eq_true rfl) ⟨Nat.le_refl _, Nat.le_refl _⟩ (qw_get (by omega) hC (⟨by decide, rfl, rfl⟩ : qT n 18 250 11) x11 (by omega) 1 (by omega)) (fun vr M19 hr => ?_)
            obtain ⟨hq, x20, rfl, hx20⟩ := hr
            replace hq := hq.symm; subst hq
            show zG n (0, 0) d 54 (113, [.inr (.inr (some 60)), .inl a1, .inl a2, .inl x2, .inl x4, .inl v8, .inl x11, .inl x13, .inl v16, zN], [.inl x20]) M _
            refine zG_blk (c' := (115, [.inr (.inr (some 60)), .inl a1, .inl a2, .inl x2, .inl x4, .inl v8, .inl x11, .inl x13, .inl v16, zN], [.inl x4, .inl x20])) 1 hd0 hz (by rfl) ?_
            refine zG_icmp_lt hd0 hz rfl (fun hb21 => ?_) (fun hb21 => ?_)
            · exact j171
            · refine zG_blk (c' := (120, [.inr (.inr (some 60)), .inl a1, .inl a2, .inl x2, .inl x4, .inl v8, .inl x11, .inl x13, .inl v16, zN], [.inl x13])) 1 hd0 hz (by rfl) ?_
              refine zG_if_le hd0 hz rfl (fun hb22 => ?_) (fun hb22 => ?_)
              · exact j171
              · refine zG_blk (c' := (135, [.inr (.inr (some 60)), .inl a1, .inl a2, .inl x2, .inl x4, .inl v8, .inl x11, .inl x13, .inl v16, zN], [.inl 8, .inl x11, .inr (.inr (some 18)), .inl a2])) 6 hd0 hz (by rfl) ?_
                refine zG_call hd0 hz (rfl : zP 106 = (zk_X8_get, 3, (0, 0))) rfl rfl (Nat.le_of_ble_eq_true rfl) ⟨Nat.le_refl _, Nat.le_refl _⟩ (qw_get (by omega) hC (⟨by decide, rfl, rfl⟩ : qT n 18 250 11) x11 (by omega) 8 (by omega)) (fun vr M23 hr => ?_)
                obtain ⟨hq, x24, rfl, hx24⟩ := hr
                replace hq := hq.symm; subst hq
                show zG n (0, 0) d 54 (138, [.inr (.inr (some 60)), .inl a1, .inl a2, .inl x2, .inl x4, .inl v8, .inl x11, .inl x13, .inl v16, zN], [.inl x24, .inl a2]) M _
                obtain ⟨x25, hx25⟩ : ∃ x : Int, x = w32 (a2 * x24) := ⟨_, rfl⟩
                have hx25r : qin x25 := by rw [hx25]; exact w32_in _
                refine zG_blk (c' := (141, [.inr (.inr (some 60)), .inl a1, .inl a2, .inl x2, .inl x4, .inl v8, .inl x11, .inl x13, .inl v16, zN], [.inl x13, .inl x25])) 2 hd0 hz (by subst hx25; rfl) ?_
                refine zG_idiv hd0 hz rfl (by omega) ?_
                have hx26 := qtdiv_in x25 x13 (by omega) (by omega)
                generalize w32 (x25.tdiv x13) = x26 at hx26 ⊢
                show zG n (0, 0) d 54 (142, [.inr (.inr (some 60)), .inl a1, .inl a2, .inl x2, .inl x4, .inl v8, .inl x11, .inl x13, .inl v16, zN], [.inl x26]) M _
                refine zG_blk (c' := (153, [.inr (.inr (some 60)), .inl a1, .inl a2, .inl x2, .inl x4, .inl v8, .inl x11, .inl x13, .inl v16, zN], [.inl 10, .inl x11, .inr (.inr (some 18)), .inl x26])) 5 hd0 hz (by rfl) ?_
                refine zG_call hd0 hz (rfl : zP 106 = (zk_X8_get, 3, (0, 0))) rfl rfl (Nat.le_of_ble_eq_true rfl) ⟨Nat.le_refl _, Nat.le_refl _⟩ (qw_get (by omega) hC (⟨by decide, rfl, rfl⟩ : qT n 18 250 11) x11 (by omega) 10 (by omega)) (fun vr M27 hr => ?_)
                obtain ⟨hq, x28, rfl, hx28⟩ := hr
                replace hq := hq.symm; subst hq
                show zG n (0, 0) d 54 (156, [.inr (.inr (some 60)), .inl a1, .inl a2, .inl x2, .inl x4, .inl v8, .inl x11, .inl x13, .inl v16, zN], [.inl x28, .inl x26]) M _
                obtain ⟨x29, hx29⟩ : ∃ x : Int, x = w32 (x26 + x28) := ⟨_, rfl⟩
                have hx29r : x29 = (x26 + x28 + 2147483648) % 4294967296 - 2147483648 := hx29
                obtain ⟨x30, hx30⟩ : ∃ x : Int, x = (if x29 < 100 then x29 else 100) := ⟨_, rfl⟩
                have hx30r := qite hx30
                obtain ⟨x31, hx31⟩ : ∃ x : Int, x = (if 0 < x30 then x30 else 0) := ⟨_, rfl⟩
                have hx31r := qite hx31
                refine zG_blk (c' := (170, [.inr (.inr (some 60)), .inl a1, .inl a2, .inl x2, .inl x4, .inl v8, .inl x11, .inl x13, .inl v16, .inl x29], [.inl x31])) 7 hd0 hz (by subst hx31; subst hx30; subst hx29; rfl) ?_
                exact zG_ret hd0 hz rfl rfl ⟨rfl, _, rfl, by omega⟩
        refine zG_icmp_ne hd0 hz rfl (fun hb32 => ?_) (fun hb32 => ?_)
        · refine zG_blk (c' := (93, [.inr (.inr (some 60)), .inl a1, .inl a2, .inl x2, .inl x4, .inl v8, .inl x11, .inl x13, zN, zN], [.inl 0])) 1 hd0 hz (by rfl) ?_
          exact j93 0 (by omega)
        · refine zG_blk (c' := (93, [.inr (.inr (some 60)), .inl a1, .inl a2, .inl x2, .inl x4, .inl v8, .inl x11, .inl x13, zN, zN], [.inl 1])) 2 hd0 hz (by rfl) ?_
          exact j93 1 (by omega)
  exact j38 ((x7 + 1 : Int).toNat + 1) x7 (by omega) (by omega)
theorem qm_47_60 {n d : Nat} {M : zM} (hd : 3 ≤ d) (hC : qCI M) (a1 : Int) (ha1 : (-2147483648) ≤ a1 ∧ a1 ≤ 2147483647) (a2 : Int) (ha2 : (-2147483648) ≤ a2 ∧ a2 ≤ 2147483647) : qOkP n d 47 [.inr (.inr (some 60)), .inl a1, .inl a2] 4 M (qRi (fun x => (-2147483648) ≤ x ∧ x ≤ 2147483647)) := by
  have hz : zP 47 = (zk_X4_stepOf, 4, (0, 0)) := rfl
  have hd0 : 0 < d := by omega
  show zG n (0, 0) d 47 (0, [.inr (.inr (some 60)), .inl a1, .inl a2, zN], []) M _
  refine zG_blk (c' := (10, [.inr (.inr (some 60)), .inl a1, .inl a2, zN], [.inl 7, .inl a1, .inr (.inr (some 18))])) 5 hd0 hz (by rfl) ?_
  refine zG_call hd0 hz (rfl : zP 106 = (zk_X8_get, 3, (0, 0))) rfl rfl (Nat.le_of_ble_eq_true rfl) ⟨Nat.le_refl _, Nat.le_refl _⟩ (qw_get (by omega) hC (⟨by decide, rfl, rfl⟩ : qT n 18 250 11) a1 (by omega) 7 (by omega)) (fun vr M1 hr => ?_)
  obtain ⟨hq, x2, rfl, hx2⟩ := hr
  replace hq := hq.symm; subst hq
  show zG n (0, 0) d 47 (13, [.inr (.inr (some 60)), .inl a1, .inl a2, zN], [.inl x2]) M _
  refine zG_blk (c' := (16, [.inr (.inr (some 60)), .inl a1, .inl a2, .inl x2], [.inl 1, .inl a2])) 3 hd0 hz (by rfl) ?_
  have j58 : ∀ (v3 : Int) , (-2147483648) ≤ v3 ∧ v3 ≤ 2147483647 → zG n (0, 0) d 47 (58, [.inr (.inr (some 60)), .inl a1, .inl a2, .inl v3], []) M (fun v M' => M' = M ∧ qRi (fun x => (-2147483648) ≤ x ∧ x ≤ 2147483647) v) := by
    intro v3 hv3
    refine zG_blk (c' := (60, [.inr (.inr (some 60)), .inl a1, .inl a2, .inl v3], [.inl 2, .inl a2])) 2 hd0 hz (by rfl) ?_
    have j98 : ∀ (v4 : Int) , (-2147483648) ≤ v4 ∧ v4 ≤ 2147483647 → zG n (0, 0) d 47 (98, [.inr (.inr (some 60)), .inl a1, .inl a2, .inl v4], []) M (fun v M' => M' = M ∧ qRi (fun x => (-2147483648) ≤ x ∧ x ≤ 2147483647) v) := by
      intro v4 hv4
      refine zG_blk (c' := (100, [.inr (.inr (some 60)), .inl a1, .inl a2, .inl v4], [.inl 3, .inl a2])) 2 hd0 hz (by rfl) ?_
      have j110 : ∀ (v5 : Int) , (-2147483648) ≤ v5 ∧ v5 ≤ 2147483647 → zG n (0, 0) d 47 (110, [.inr (.inr (some 60)), .inl a1, .inl a2, .inl v5], []) M (fun v M' => M' = M ∧ qRi (fun x => (-2147483648) ≤ x ∧ x ≤ 2147483647) v) := by
        intro v5 hv5
        refine zG_blk (c' := (112, [.inr (.inr (some 60)), .inl a1, .inl a2, .inl v5], [.inl 4, .inl a2])) 2 hd0 hz (by rfl) ?_
        have j160 : ∀ (v6 : Int) , (-2147483648) ≤ v6 ∧ v6 ≤ 2147483647 → zG n (0, 0) d 47 (160, [.inr (.inr (some 60)), .inl a1, .inl a2, .inl v6], []) M (fun v M' => M' = M ∧ qRi (fun x => (-2147483648) ≤ x ∧ x ≤ 2147483647) v) := by
          intro v6 hv6
          refine zG_blk (c' := (161, [.inr (.inr (some 60)), .inl a1, .inl a2, .inl v6], [.inl v6])) 1 hd0 hz (by rfl) ?_
          exact zG_ret hd0 hz rfl rfl ⟨rfl, _, rfl, by omega⟩
        refine zG_icmp_lt hd0 hz rfl (fun hb7 => ?_) (fun hb7 => ?_)
        · exact j160 v5 (by omega)
        · refine zG_blk (c' := (121, [.inr (.inr (some 60)), .inl a1, .inl a2, .inl v5], [.inl a1, .inr (.inr (some 60)), .inr (.inr (some 63))])) 4 hd0 hz (by rfl) ?_
          refine zG_call hd0 hz (rfl : zP 52 = (zk_X4_rowOf, 2, (0, 0))) rfl rfl (Nat.le_of_ble_eq_true rfl) ⟨Nat.le_refl _, Nat.le_refl _⟩ (qm_52_60 (by omega) hC  a1 (by omega)) (fun vr M8 hr => ?_)
          obtain ⟨hq, x9, rfl, hx9⟩ := hr
          replace hq := hq.symm; subst hq
          show zG n (0, 0) d 47 (124, [.inr (.inr (some 60)), .inl a1, .inl a2, .inl v5], [.inl x9, .inr (.inr (some 63))]) M _
          refine zG_blk (c' := (125, [.inr (.inr (some 60)), .inl a1, .inl a2, .inl v5], [.inl 3, .inl x9, .inr (.inr (some 63))])) 1 hd0 hz (by rfl) ?_
          refine zG_call hd0 hz (rfl : zP 106 = (zk_X8_get, 3, (0, 0))) rfl rfl (Nat.le_of_ble_eq_true rfl) ⟨Nat.le_refl _, Nat.le_refl _⟩ (qw_get (by omega) hC (⟨by decide, rfl, rfl⟩ : qT n 63 280 4) x9 (by omega) 3 (by omega)) (fun vr M10 hr => ?_)
          obtain ⟨hq, x11, rfl, hx11⟩ := hr
          replace hq := hq.symm; subst hq
          show zG n (0, 0) d 47 (128, [.inr (.inr (some 60)), .inl a1, .inl a2, .inl v5], [.inl x11]) M _
          refine zG_blk (c' := (129, [.inr (.inr (some 60)), .inl a1, .inl a2, .inl v5], [.inl a1, .inl x11])) 1 hd0 hz (by rfl) ?_
          refine zG_icmp_eq hd0 hz rfl (fun hb12 => ?_) (fun hb12 => ?_)
          · exact j160 v5 (by omega)
          · refine zG_blk (c' := (149, [.inr (.inr (some 60)), .inl a1, .inl a2, .inl v5], [.inl 5, .inl a1, .inr (.inr (some 18)), .inr (.inr (some 10)), .inl v5])) 9 hd0 hz (by rfl) ?_
            refine zG_call hd0 hz (rfl : zP 106 = (zk_X8_get, 3, (0, 0))) rfl rfl (Nat.le_of_ble_eq_true rfl) ⟨Nat.le_refl _, Nat.le_refl _⟩ (qw_get (by omega) hC (⟨by decide, rfl, rfl⟩ : qT n 18 250 11) a1 (by omega) 5 (by omega)) (fun vr M13 hr => ?_)
            obtain ⟨hq, x14, rfl, hx14⟩ := hr
            replace hq := hq.symm; subst hq
            show zG n (0, 0) d 47 (152, [.inr (.inr (some 60)), .inl a1, .inl a2, .inl v5], [.inl x14, .inr (.inr (some 10)), .inl v5]) M _
            refine zG_blk (c' := (153, [.inr (.inr (some 60)), .inl a1, .inl a2, .inl v5], [.inl 3, .inl x14, .inr (.inr (some 10)), .inl v5])) 1 hd0 hz (by rfl) ?_
            refine zG_call hd0 hz (rfl : zP 106 = (zk_X8_get, 3, (0, 0))) rfl rfl (Nat.le_of_ble_eq_true rfl) ⟨Nat.le_refl _, Nat.le_refl _⟩ (qw_get (by omega) hC (⟨by decide, rfl, rfl⟩ : qT n 10 14 4) x14 (by omega) 3 (by omega)) (fun vr M15 hr => ?_)
            obtain ⟨hq, x16, rfl, hx16⟩ := hr
            replace hq := hq.symm; subst hq
            show zG n (0, 0) d 47 (156, [.inr (.inr (some 60)), .inl a1, .inl a2, .inl v5], [.inl x16, .inl v5]) M _
            obtain ⟨x17, hx17⟩ : ∃ x : Int, x = (if x16 < v5 then x16 else v5) := ⟨_, rfl⟩
            have hx17r := qite hx17
            refine zG_blk (c' := (160, [.inr (.inr (some 60)), .inl a1, .inl a2, .inl x17], [])) 2 hd0 hz (by subst hx17; rfl) ?_
            exact j160 x17 (by omega)
      refine zG_icmp_lt hd0 hz rfl (fun hb18 => ?_) (fun hb18 => ?_)
      · exact j110 v4 (by omega)
      · refine zG_blk (c' := (106, [.inr (.inr (some 60)), .inl a1, .inl a2, .inl v4], [.inl v4, .inl a1, .inr (.inr (some 60))])) 3 hd0 hz (by rfl) ?_
        refine zG_call hd0 hz (rfl : zP 54 = (zk_X4_scaledOf, 10, (0, 0))) rfl rfl (Nat.le_of_ble_eq_true rfl) ⟨Nat.le_refl _, Nat.le_refl _⟩ (qm_54_60 (by omega) hC  a1 (by omega) v4 (by omega)) (fun vr M19 hr => ?_)
        obtain ⟨hq, x20, rfl, hx20⟩ := hr
        replace hq := hq.symm; subst hq
        show zG n (0, 0) d 47 (109, [.inr (.inr (some 60)), .inl a1, .inl a2, .inl v4], [.inl x20]) M _
        refine zG_blk (c' := (110, [.inr (.inr (some 60)), .inl a1, .inl a2, .inl x20], [])) 1 hd0 hz (by rfl) ?_
        exact j110 x20 (by omega)
    refine zG_icmp_lt hd0 hz rfl (fun hb21 => ?_) (fun hb21 => ?_)
    · exact j98 v3 (by omega)
    · refine zG_blk (c' := (69, [.inr (.inr (some 60)), .inl a1, .inl a2, .inl v3], [.inl 3, .inl a1, .inr (.inr (some 61))])) 4 hd0 hz (by rfl) ?_
      refine zG_call hd0 hz (rfl : zP 106 = (zk_X8_get, 3, (0, 0))) rfl rfl (Nat.le_of_ble_eq_true rfl) ⟨Nat.le_refl _, Nat.le_refl _⟩ (qw_get (by omega) hC (⟨by decide, rfl, rfl⟩ : qT n 61 250 4) a1 (by omega) 3 (by omega)) (fun vr M22 hr => ?_)
      obtain ⟨hq, x23, rfl, hx23⟩ := hr
      replace hq := hq.symm; subst hq
      show zG n (0, 0) d 47 (72, [.inr (.inr (some 60)), .inl a1, .inl a2, .inl v3], [.inl x23]) M _
      refine zG_blk (c' := (73, [.inr (.inr (some 60)), .inl a1, .inl a2, .inl v3], [.inl (-1), .inl x23])) 1 hd0 hz (by rfl) ?_
      refine zG_icmp_eq hd0 hz rfl (fun hb24 => ?_) (fun hb24 => ?_)
      · exact j98 v3 (by omega)
      · refine zG_blk (c' := (89, [.inr (.inr (some 60)), .inl a1, .inl a2, .inl v3], [.inl 3, .inl a1, .inr (.inr (some 61)), .inr (.inr (some 18))])) 7 hd0 hz (by rfl) ?_
        refine zG_call hd0 hz (rfl : zP 106 = (zk_X8_get, 3, (0, 0))) rfl rfl (Nat.le_of_ble_eq_true rfl) ⟨Nat.le_refl _, Nat.le_refl _⟩ (qw_get (by omega) hC (⟨by decide, rfl, rfl⟩ : qT n 61 250 4) a1 (by omega) 3 (by omega)) (fun vr M25 hr => ?_)
        obtain ⟨hq, x26, rfl, hx26⟩ := hr
        replace hq := hq.symm; subst hq
        show zG n (0, 0) d 47 (92, [.inr (.inr (some 60)), .inl a1, .inl a2, .inl v3], [.inl x26, .inr (.inr (some 18))]) M _
        refine zG_blk (c' := (94, [.inr (.inr (some 60)), .inl a1, .inl a2, .inl v3], [.inl 7, .inl x26, .inr (.inr (some 18))])) 1 hd0 hz (by rfl) ?_
        refine zG_call hd0 hz (rfl : zP 106 = (zk_X8_get, 3, (0, 0))) rfl rfl (Nat.le_of_ble_eq_true rfl) ⟨Nat.le_refl _, Nat.le_refl _⟩ (qw_get (by omega) hC (⟨by decide, rfl, rfl⟩ : qT n 18 250 11) x26 (by omega) 7 (by omega)) (fun vr M27 hr => ?_)
        obtain ⟨hq, x28, rfl, hx28⟩ := hr
        replace hq := hq.symm; subst hq
        show zG n (0, 0) d 47 (97, [.inr (.inr (some 60)), .inl a1, .inl a2, .inl v3], [.inl x28]) M _
        refine zG_blk (c' := (98, [.inr (.inr (some 60)), .inl a1, .inl a2, .inl x28], [])) 1 hd0 hz (by rfl) ?_
        exact j98 x28 (by omega)
  refine zG_icmp_lt hd0 hz rfl (fun hb29 => ?_) (fun hb29 => ?_)
  · exact j58 x2 (by omega)
  · refine zG_blk (c' := (25, [.inr (.inr (some 60)), .inl a1, .inl a2, .inl x2], [.inl 2, .inl a1, .inr (.inr (some 61))])) 4 hd0 hz (by rfl) ?_
    refine zG_call hd0 hz (rfl : zP 106 = (zk_X8_get, 3, (0, 0))) rfl rfl (Nat.le_of_ble_eq_true rfl) ⟨Nat.le_refl _, Nat.le_refl _⟩ (qw_get (by omega) hC (⟨by decide, rfl, rfl⟩ : qT n 61 250 4) a1 (by omega) 2 (by omega)) (fun vr M30 hr => ?_)
    obtain ⟨hq, x31, rfl, hx31⟩ := hr
    replace hq := hq.symm; subst hq
    show zG n (0, 0) d 47 (28, [.inr (.inr (some 60)), .inl a1, .inl a2, .inl x2], [.inl x31]) M _
    refine zG_blk (c' := (29, [.inr (.inr (some 60)), .inl a1, .inl a2, .inl x2], [.inl (-1), .inl x31])) 1 hd0 hz (by rfl) ?_
    refine zG_icmp_eq hd0 hz rfl (fun hb32 => ?_) (fun hb32 => ?_)
    · exact j58 x2 (by omega)
    · refine zG_blk (c' := (46, [.inr (.inr (some 60)), .inl a1, .inl a2, .inl x2], [.inl 2, .inl a1, .inr (.inr (some 61)), .inr (.inr (some 18)), .inl x2])) 8 hd0 hz (by rfl) ?_
      refine zG_call hd0 hz (rfl : zP 106 = (zk_X8_get, 3, (0, 0))) rfl rfl (Nat.le_of_ble_eq_true rfl) ⟨Nat.le_refl _, Nat.le_refl _⟩ (qw_get (by omega) hC (⟨by decide, rfl, rfl⟩ : qT n 61 250 4) a1 (by omega) 2 (by omega)) (fun vr M33 hr => ?_)
      obtain ⟨hq, x34, rfl, hx34⟩ := hr
      replace hq := hq.symm; subst hq
      show zG n (0, 0) d 47 (49, [.inr (.inr (some 60)), .inl a1, .inl a2, .inl x2], [.inl x34, .inr (.inr (some 18)), .inl x2]) M _
      refine zG_blk (c' := (51, [.inr (.inr (some 60)), .inl a1, .inl a2, .inl x2], [.inl 7, .inl x34, .inr (.inr (some 18)), .inl x2])) 1 hd0 hz (by rfl) ?_
      refine zG_call hd0 hz (rfl : zP 106 = (zk_X8_get, 3, (0, 0))) rfl rfl (Nat.le_of_ble_eq_true rfl) ⟨Nat.le_refl _, Nat.le_refl _⟩ (qw_get (by omega) hC (⟨by decide, rfl, rfl⟩ : qT n 18 250 11) x34 (by omega) 7 (by omega)) (fun vr M35 hr => ?_)
      obtain ⟨hq, x36, rfl, hx36⟩ := hr
      replace hq := hq.symm; subst hq
      show zG n (0, 0) d 47 (54, [.inr (.inr (some 60)), .inl a1, .inl a2, .inl x2], [.inl x36, .inl x2]) M _
      refine zG_call hd0 hz (rfl : zP 53 = (zk_X4_bothOf, 2, (0, 0))) rfl rfl (Nat.le_of_ble_eq_true rfl) ⟨Nat.le_refl _, Nat.le_refl _⟩ (qm_53 (by omega) hC  x2 (by omega) x36 (by omega)) (fun vr M37 hr => ?_)
      obtain ⟨hq, x38, rfl, hx38⟩ := hr
      replace hq := hq.symm; subst hq
      show zG n (0, 0) d 47 (57, [.inr (.inr (some 60)), .inl a1, .inl a2, .inl x2], [.inl x38]) M _
      refine zG_blk (c' := (58, [.inr (.inr (some 60)), .inl a1, .inl a2, .inl x38], [])) 1 hd0 hz (by rfl) ?_
      exact j58 x38 (by omega)
theorem qm_41_60 {n d : Nat} {M : zM} (hd : 6 ≤ d) (hC : qCI M) (a1 : Int) (ha1 : (-2147483648) ≤ a1 ∧ a1 ≤ 2147483647) (a2 : Int) (ha2 : (-2147483648) ≤ a2 ∧ a2 ≤ 2147483647) : qOkM n d 41 [.inr (.inr (some 60)), .inl a1, .inl a2] 5 qCI [62, 64, 65, 66] M qRn := by
  have hz : zP 41 = (zk_X4_learn, 5, (0, 0)) := rfl
  have hd0 : 0 < d := by omega
  have hW : qFr [62, 64, 65, 66] M M := qFr.rfl
  show zG n (0, 0) d 41 (0, [.inr (.inr (some 60)), .inl a1, .inl a2, zN, zN], []) M _
  refine zG_blk (c' := (3, [.inr (.inr (some 60)), .inl a1, .inl a2, zN, zN], [.inl a2, .inl a1, .inr (.inr (some 60))])) 3 hd0 hz (by rfl) ?_
  refine zG_call hd0 hz (rfl : zP 48 = (zk_X4_sift, 7, (0, 0))) rfl rfl (Nat.le_of_ble_eq_true rfl) ⟨Nat.le_refl _, Nat.le_refl _⟩ (qm_48_60 (by omega) hC  a1 (by omega) a2 (by omega)) (fun vr M1 hr => ?_)
  obtain ⟨⟨hCM1, hFM1⟩, rfl⟩ := hr
  have hWM1 : qFr [62, 64, 65, 66] M M1 := hW.tr hFM1 (by decide)
  show zG n (0, 0) d 41 (6, [.inr (.inr (some 60)), .inl a1, .inl a2, zN, zN], []) M1 _
  refine zG_blk (c' := (7, [.inr (.inr (some 60)), .inl a1, .inl a2, zN, zN], [.inr (.inr (some 60))])) 1 hd0 hz (by rfl) ?_
  refine zG_call hd0 hz (rfl : zP 49 = (zk_X4_gather, 3, (0, 0))) rfl rfl (Nat.le_of_ble_eq_true rfl) ⟨Nat.le_refl _, Nat.le_refl _⟩ (qm_49_60 (by omega) hCM1  ) (fun vr M3 hr => ?_)
  obtain ⟨⟨hCM3, hFM3⟩, rfl⟩ := hr
  have hWM3 : qFr [62, 64, 65, 66] M M3 := hWM1.tr hFM3 (by decide)
  show zG n (0, 0) d 41 (10, [.inr (.inr (some 60)), .inl a1, .inl a2, zN, zN], []) M3 _
  refine zG_blk (c' := (12, [.inr (.inr (some 60)), .inl a1, .inl a2, .inl 0, zN], [])) 2 hd0 hz (by rfl) ?_
  have j12 : ∀ (N : Nat) (v5 : Int) (M6 : zM) , (250 - v5 : Int).toNat < N → 0 ≤ v5 ∧ v5 ≤ 250 → qCI M6 → qFr [62, 64, 65, 66] M M6 → zG n (0, 0) d 41 (12, [.inr (.inr (some 60)), .inl a1, .inl a2, .inl v5, zN], []) M6 (fun v M' => qWf qCI [62, 64, 65, 66] M M' ∧ qRn v) := by
    intro N
    induction N with
    | zero => intro v5 M6 hN hv5 hCM6 hWM6; exact absurd hN (Nat.not_lt_zero _)
    | succ N ih12 =>
      intro v5 M6 hN hv5 hCM6 hWM6
      refine zG_blk (c' := (20, [.inr (.inr (some 60)), .inl a1, .inl a2, .inl v5, zN], [.inr (.inr (some 18)), .inl v5])) 4 hd0 hz (by rfl) ?_
      refine zG_call hd0 hz (rfl : zP 101 = (zk_X8_size, 1, (0, 0))) rfl rfl (Nat.le_of_ble_eq_true rfl) ⟨Nat.le_refl _, Nat.le_refl _⟩ (qw_size (by omega) hCM6 (⟨by decide, rfl, rfl⟩ : qT n 18 250 11) ) (fun vr M7 hr => ?_)
      obtain ⟨hq, x8, rfl, hx8⟩ := hr
      replace hq := hq.symm; subst hq
      show zG n (0, 0) d 41 (23, [.inr (.inr (some 60)), .inl a1, .inl a2, .inl v5, zN], [.inl x8, .inl v5]) M6 _
      refine zG_icmp_ge hd0 hz rfl (fun hb9 => ?_) (fun hb9 => ?_)
      · exact zG_ret hd0 hz rfl rfl ⟨⟨hCM6, hWM6⟩, rfl⟩
      · refine zG_blk (c' := (32, [.inr (.inr (some 60)), .inl a1, .inl a2, .inl v5, zN], [.inl v5, .inl 0, .inr (.inr (some 9))])) 4 hd0 hz (by rfl) ?_
        refine zG_call hd0 hz (rfl : zP 19 = (zk_X2_isA, 3, (0, 0))) rfl rfl (Nat.le_of_ble_eq_true rfl) ⟨Nat.le_refl _, Nat.le_refl _⟩ (qm_19_9 (by omega) hCM6  0 (by omega) v5 (by omega)) (fun vr M10 hr => ?_)
        obtain ⟨hq, x11, rfl, hx11⟩ := hr
        replace hq := hq.symm; subst hq
        show zG n (0, 0) d 41 (35, [.inr (.inr (some 60)), .inl a1, .inl a2, .inl v5, zN], [.inl x11]) M6 _
        have j82 : ∀ (M12 : zM) , qCI M12 → qFr [62, 64, 65, 66] M M12 → zG n (0, 0) d 41 (82, [.inr (.inr (some 60)), .inl a1, .inl a2, .inl v5, zN], []) M12 (fun v M' => qWf qCI [62, 64, 65, 66] M M' ∧ qRn v) := by
          intro M12 hCM12 hWM12
          obtain ⟨x13, hx13⟩ : ∃ x : Int, x = w32 (v5 + 1) := ⟨_, rfl⟩
          have hx13e : x13 = v5 + 1 := by rw [hx13]; exact w32_id (by omega)
          refine zG_blk (c' := (12, [.inr (.inr (some 60)), .inl a1, .inl a2, .inl x13, zN], [])) 2 hd0 hz (by subst hx13; rfl) ?_
          exact ih12 x13 M12 (by omega) (by omega) hCM12 hWM12
        refine zG_if_eq hd0 hz rfl (fun hb14 => ?_) (fun hb14 => ?_)
        · exact j82 M6 hCM6 hWM6
        · refine zG_blk (c' := (40, [.inr (.inr (some 60)), .inl a1, .inl a2, .inl v5, zN], [.inl v5, .inr (.inr (some 60))])) 2 hd0 hz (by rfl) ?_
          refine zG_call hd0 hz (rfl : zP 42 = (zk_X4_holds, 2, (0, 0))) rfl rfl (Nat.le_of_ble_eq_true rfl) ⟨Nat.le_refl _, Nat.le_refl _⟩ (qm_42_60 (by omega) hCM6  v5 (by omega)) (fun vr M15 hr => ?_)
          obtain ⟨hq, x16, rfl, hx16⟩ := hr
          replace hq := hq.symm; subst hq
          show zG n (0, 0) d 41 (43, [.inr (.inr (some 60)), .inl a1, .inl a2, .inl v5, zN], [.inl x16]) M6 _
          refine zG_if_eq hd0 hz rfl (fun hb17 => ?_) (fun hb17 => ?_)
          · exact j82 M6 hCM6 hWM6
          · refine zG_blk (c' := (48, [.inr (.inr (some 60)), .inl a1, .inl a2, .inl v5, zN], [.inl v5, .inr (.inr (some 60))])) 2 hd0 hz (by rfl) ?_
            refine zG_call hd0 hz (rfl : zP 52 = (zk_X4_rowOf, 2, (0, 0))) rfl rfl (Nat.le_of_ble_eq_true rfl) ⟨Nat.le_refl _, Nat.le_refl _⟩ (qm_52_60 (by omega) hCM6  v5 (by omega)) (fun vr M18 hr => ?_)
            obtain ⟨hq, x19, rfl, hx19⟩ := hr
            replace hq := hq.symm; subst hq
            show zG n (0, 0) d 41 (51, [.inr (.inr (some 60)), .inl a1, .inl a2, .inl v5, zN], [.inl x19]) M6 _
            refine zG_blk (c' := (67, [.inr (.inr (some 60)), .inl a1, .inl a2, .inl v5, .inl x19], [.inl 0, .inl x19, .inr (.inr (some 63)), .inl 0, .inl x19, .inr (.inr (some 63))])) 9 hd0 hz (by rfl) ?_
            refine zG_call hd0 hz (rfl : zP 106 = (zk_X8_get, 3, (0, 0))) rfl rfl (Nat.le_of_ble_eq_true rfl) ⟨Nat.le_refl _, Nat.le_refl _⟩ (qw_get (by omega) hCM6 (⟨by decide, rfl, rfl⟩ : qT n 63 280 4) x19 (by omega) 0 (by omega)) (fun vr M20 hr => ?_)
            obtain ⟨hq, x21, rfl, hx21⟩ := hr
            replace hq := hq.symm; subst hq
            show zG n (0, 0) d 41 (70, [.inr (.inr (some 60)), .inl a1, .inl a2, .inl v5, .inl x19], [.inl x21, .inl 0, .inl x19, .inr (.inr (some 63))]) M6 _
            refine zG_blk (c' := (73, [.inr (.inr (some 60)), .inl a1, .inl a2, .inl v5, .inl x19], [.inl 4, .inl v5, .inr (.inr (some 60)), .inl x21, .inl 0, .inl x19, .inr (.inr (some 63))])) 3 hd0 hz (by rfl) ?_
            refine zG_call hd0 hz (rfl : zP 47 = (zk_X4_stepOf, 4, (0, 0))) rfl rfl (Nat.le_of_ble_eq_true rfl) ⟨Nat.le_refl _, Nat.le_refl _⟩ (qm_47_60 (by omega) hCM6  v5 (by omega) 4 (by omega)) (fun vr M22 hr => ?_)
            obtain ⟨hq, x23, rfl, hx23⟩ := hr
            replace hq := hq.symm; subst hq
            show zG n (0, 0) d 41 (76, [.inr (.inr (some 60)), .inl a1, .inl a2, .inl v5, .inl x19], [.inl x23, .inl x21, .inl 0, .inl x19, .inr (.inr (some 63))]) M6 _
            obtain ⟨x24, hx24⟩ : ∃ x : Int, x = (if x21 < x23 then x23 else x21) := ⟨_, rfl⟩
            have hx24r := qite hx24
            refine zG_blk (c' := (79, [.inr (.inr (some 60)), .inl a1, .inl a2, .inl v5, .inl x19], [.inl x24, .inl 0, .inl x19, .inr (.inr (some 63))])) 1 hd0 hz (by subst hx24; rfl) ?_
            refine zG_call hd0 hz (rfl : zP 107 = (zk_X8_set, 4, (0, 0))) rfl rfl (Nat.le_of_ble_eq_true rfl) ⟨Nat.le_refl _, Nat.le_refl _⟩ (qw_set (by omega) hCM6 (⟨by decide, rfl, rfl⟩ : qT n 63 280 4) x19 (by omega) 0 (by omega) x24 (by omega)) (fun vr M25 hr => ?_)
            obtain ⟨⟨hCM25, hFM25⟩, rfl⟩ := hr
            have hWM25 : qFr [62, 64, 65, 66] M M25 := hWM6.tr hFM25 (by decide)
            show zG n (0, 0) d 41 (82, [.inr (.inr (some 60)), .inl a1, .inl a2, .inl v5, .inl x19], []) M25 _
            exact zG_weak (j82 M25 hCM25 hWM25) ⟨.inr rfl, .inr rfl, .inr rfl, .inr rfl, .inl rfl, trivial⟩
  exact j12 ((250 - 0 : Int).toNat + 1) 0 M3 (by omega) (by omega) hCM3 hWM3
theorem qm_139_8 {n d : Nat} {M : zM} (hd : 7 ≤ d) (hC : qCI M) (a1 : Int) (ha1 : (-2147483648) ≤ a1 ∧ a1 ≤ 2147483647) (a2 : Int) (ha2 : (-2147483648) ≤ a2 ∧ a2 ≤ 2147483647) : qOkM n d 139 [.inr (.inr (some 8)), .inl a1, .inl a2] 3 qCI [62, 64, 65, 66] M (qRi (fun x => (-2) ≤ x ∧ x ≤ 1)) := by
  have hz : zP 139 = (zk_X10_counts, 3, (0, 0)) := rfl
  have hd0 : 0 < d := by omega
  have hW : qFr [62, 64, 65, 66] M M := qFr.rfl
  show zG n (0, 0) d 139 (0, [.inr (.inr (some 8)), .inl a1, .inl a2], []) M _
  refine zG_blk (c' := (8, [.inr (.inr (some 8)), .inl a1, .inl a2], [.inl a1, .inr (.inr (some 18))])) 4 hd0 hz (by rfl) ?_
  refine zG_call hd0 hz (rfl : zP 102 = (zk_X8_has, 2, (0, 0))) rfl rfl (Nat.le_of_ble_eq_true rfl) ⟨Nat.le_refl _, Nat.le_refl _⟩ (qw_has (by omega) hC (⟨by decide, rfl, rfl⟩ : qT n 18 250 11) a1 (by omega)) (fun vr M1 hr => ?_)
  obtain ⟨hq, x2, rfl, hx2⟩ := hr
  replace hq := hq.symm; subst hq
  show zG n (0, 0) d 139 (11, [.inr (.inr (some 8)), .inl a1, .inl a2], [.inl x2]) M _
  have j21 : zG n (0, 0) d 139 (21, [.inr (.inr (some 8)), .inl a1, .inl a2], []) M (fun v M' => qWf qCI [62, 64, 65, 66] M M' ∧ qRi (fun x => (-2) ≤ x ∧ x ≤ 1) v) := by
    refine zG_blk (c' := (23, [.inr (.inr (some 8)), .inl a1, .inl a2], [.inl (-2)])) 1 hd0 hz (by rfl) ?_
    exact zG_ret hd0 hz rfl rfl ⟨⟨hC, hW⟩, _, rfl, by omega⟩
  refine zG_if_eq hd0 hz rfl (fun hb3 => ?_) (fun hb3 => ?_)
  · exact j21
  · refine zG_blk (c' := (15, [.inr (.inr (some 8)), .inl a1, .inl a2], [.inl a2])) 1 hd0 hz (by rfl) ?_
    refine zG_call hd0 hz (rfl : zP 170 = (zk_X10_isDay, 1, (0, 0))) rfl rfl (Nat.le_of_ble_eq_true rfl) ⟨Nat.le_refl _, Nat.le_refl _⟩ (qm_170 (by omega) hC  a2 (by omega)) (fun vr M4 hr => ?_)
    obtain ⟨hq, x5, rfl, hx5⟩ := hr
    replace hq := hq.symm; subst hq
    show zG n (0, 0) d 139 (18, [.inr (.inr (some 8)), .inl a1, .inl a2], [.inl x5]) M _
    refine zG_if_ne hd0 hz rfl (fun hb6 => ?_) (fun hb6 => ?_)
    · refine zG_blk (c' := (30, [.inr (.inr (some 8)), .inl a1, .inl a2], [.inl (-1), .inl a2, .inr (.inr (some 60))])) 4 hd0 hz (by rfl) ?_
      refine zG_call hd0 hz (rfl : zP 41 = (zk_X4_learn, 5, (0, 0))) rfl rfl (Nat.le_of_ble_eq_true rfl) ⟨Nat.le_refl _, Nat.le_refl _⟩ (qm_41_60 (by omega) hC  a2 (by omega) (-1) (by omega)) (fun vr M7 hr => ?_)
      obtain ⟨⟨hCM7, hFM7⟩, rfl⟩ := hr
      have hWM7 : qFr [62, 64, 65, 66] M M7 := hW.tr hFM7 (by decide)
      show zG n (0, 0) d 139 (33, [.inr (.inr (some 8)), .inl a1, .inl a2], []) M7 _
      refine zG_blk (c' := (38, [.inr (.inr (some 8)), .inl a1, .inl a2], [.inl a1, .inr (.inr (some 60))])) 3 hd0 hz (by rfl) ?_
      refine zG_call hd0 hz (rfl : zP 42 = (zk_X4_holds, 2, (0, 0))) rfl rfl (Nat.le_of_ble_eq_true rfl) ⟨Nat.le_refl _, Nat.le_refl _⟩ (qm_42_60 (by omega) hCM7  a1 (by omega)) (fun vr M9 hr => ?_)
      obtain ⟨hq, x10, rfl, hx10⟩ := hr
      replace hq := hq.symm; subst hq
      show zG n (0, 0) d 139 (41, [.inr (.inr (some 8)), .inl a1, .inl a2], [.inl x10]) M7 _
      have j49 : ∀ (v11 : Int) , 0 ≤ v11 ∧ v11 ≤ 1 → zG n (0, 0) d 139 (49, [.inr (.inr (some 8)), .inl a1, .inl a2], [.inl v11]) M7 (fun v M' => qWf qCI [62, 64, 65, 66] M M' ∧ qRi (fun x => (-2) ≤ x ∧ x ≤ 1) v) := by
        intro v11 hv11
        exact zG_ret hd0 hz rfl rfl ⟨⟨hCM7, hWM7⟩, _, rfl, by omega⟩
      refine zG_if_eq hd0 hz rfl (fun hb12 => ?_) (fun hb12 => ?_)
      · refine zG_blk (c' := (49, [.inr (.inr (some 8)), .inl a1, .inl a2], [.inl 0])) 1 hd0 hz (by rfl) ?_
        exact j49 0 (by omega)
      · refine zG_blk (c' := (49, [.inr (.inr (some 8)), .inl a1, .inl a2], [.inl 1])) 2 hd0 hz (by rfl) ?_
        exact j49 1 (by omega)
    · exact j21
theorem qm_140_8 {n d : Nat} {M : zM} (hd : 7 ≤ d) (hC : qCI M) (a1 : Int) (ha1 : (-2147483648) ≤ a1 ∧ a1 ≤ 2147483647) (a2 : Int) (ha2 : (-2147483648) ≤ a2 ∧ a2 ≤ 2147483647) (a3 : Int) (ha3 : (-2147483648) ≤ a3 ∧ a3 ≤ 2147483647) : qOkM n d 140 [.inr (.inr (some 8)), .inl a1, .inl a2, .inl a3] 4 qCI [62, 64, 65, 66] M (qRi (fun x => (-2147483648) ≤ x ∧ x ≤ 2147483647)) := by
  have hz : zP 140 = (zk_X10_step, 4, (0, 0)) := rfl
  have hd0 : 0 < d := by omega
  have hW : qFr [62, 64, 65, 66] M M := qFr.rfl
  show zG n (0, 0) d 140 (0, [.inr (.inr (some 8)), .inl a1, .inl a2, .inl a3], []) M _
  refine zG_blk (c' := (6, [.inr (.inr (some 8)), .inl a1, .inl a2, .inl a3], [.inl a1, .inl 0, .inr (.inr (some 9))])) 4 hd0 hz (by rfl) ?_
  refine zG_call hd0 hz (rfl : zP 19 = (zk_X2_isA, 3, (0, 0))) rfl rfl (Nat.le_of_ble_eq_true rfl) ⟨Nat.le_refl _, Nat.le_refl _⟩ (qm_19_9 (by omega) hC  0 (by omega) a1 (by omega)) (fun vr M1 hr => ?_)
  obtain ⟨hq, x2, rfl, hx2⟩ := hr
  replace hq := hq.symm; subst hq
  show zG n (0, 0) d 140 (9, [.inr (.inr (some 8)), .inl a1, .inl a2, .inl a3], [.inl x2]) M _
  have j28 : zG n (0, 0) d 140 (28, [.inr (.inr (some 8)), .inl a1, .inl a2, .inl a3], []) M (fun v M' => qWf qCI [62, 64, 65, 66] M M' ∧ qRi (fun x => (-2147483648) ≤ x ∧ x ≤ 2147483647) v) := by
    refine zG_blk (c' := (30, [.inr (.inr (some 8)), .inl a1, .inl a2, .inl a3], [.inl (-2)])) 1 hd0 hz (by rfl) ?_
    exact zG_ret hd0 hz rfl rfl ⟨⟨hC, hW⟩, _, rfl, by omega⟩
  refine zG_if_eq hd0 hz rfl (fun hb3 => ?_) (fun hb3 => ?_)
  · exact j28
  · refine zG_blk (c' := (15, [.inr (.inr (some 8)), .inl a1, .inl a2, .inl a3], [.inl 4, .inl 0, .inl a2])) 3 hd0 hz (by rfl) ?_
    refine zG_call hd0 hz (rfl : zP 169 = (zk_X10_within, 3, (0, 0))) rfl rfl (Nat.le_of_ble_eq_true rfl) ⟨Nat.le_refl _, Nat.le_refl _⟩ (qm_169 (by omega) hC  a2 (by omega) 0 (by omega) 4 (by omega)) (fun vr M4 hr => ?_)
    obtain ⟨hq, x5, rfl, hx5⟩ := hr
    replace hq := hq.symm; subst hq
    show zG n (0, 0) d 140 (18, [.inr (.inr (some 8)), .inl a1, .inl a2, .inl a3], [.inl x5]) M _
    refine zG_if_eq hd0 hz rfl (fun hb6 => ?_) (fun hb6 => ?_)
    · exact j28
    · refine zG_blk (c' := (22, [.inr (.inr (some 8)), .inl a1, .inl a2, .inl a3], [.inl a3])) 1 hd0 hz (by rfl) ?_
      refine zG_call hd0 hz (rfl : zP 170 = (zk_X10_isDay, 1, (0, 0))) rfl rfl (Nat.le_of_ble_eq_true rfl) ⟨Nat.le_refl _, Nat.le_refl _⟩ (qm_170 (by omega) hC  a3 (by omega)) (fun vr M7 hr => ?_)
      obtain ⟨hq, x8, rfl, hx8⟩ := hr
      replace hq := hq.symm; subst hq
      show zG n (0, 0) d 140 (25, [.inr (.inr (some 8)), .inl a1, .inl a2, .inl a3], [.inl x8]) M _
      refine zG_if_ne hd0 hz rfl (fun hb9 => ?_) (fun hb9 => ?_)
      · refine zG_blk (c' := (37, [.inr (.inr (some 8)), .inl a1, .inl a2, .inl a3], [.inl (-1), .inl a3, .inr (.inr (some 60))])) 4 hd0 hz (by rfl) ?_
        refine zG_call hd0 hz (rfl : zP 41 = (zk_X4_learn, 5, (0, 0))) rfl rfl (Nat.le_of_ble_eq_true rfl) ⟨Nat.le_refl _, Nat.le_refl _⟩ (qm_41_60 (by omega) hC  a3 (by omega) (-1) (by omega)) (fun vr M10 hr => ?_)
        obtain ⟨⟨hCM10, hFM10⟩, rfl⟩ := hr
        have hWM10 : qFr [62, 64, 65, 66] M M10 := hW.tr hFM10 (by decide)
        show zG n (0, 0) d 140 (40, [.inr (.inr (some 8)), .inl a1, .inl a2, .inl a3], []) M10 _
        refine zG_blk (c' := (45, [.inr (.inr (some 8)), .inl a1, .inl a2, .inl a3], [.inl a1, .inr (.inr (some 60))])) 3 hd0 hz (by rfl) ?_
        refine zG_call hd0 hz (rfl : zP 42 = (zk_X4_holds, 2, (0, 0))) rfl rfl (Nat.le_of_ble_eq_true rfl) ⟨Nat.le_refl _, Nat.le_refl _⟩ (qm_42_60 (by omega) hCM10  a1 (by omega)) (fun vr M12 hr => ?_)
        obtain ⟨hq, x13, rfl, hx13⟩ := hr
        replace hq := hq.symm; subst hq
        show zG n (0, 0) d 140 (48, [.inr (.inr (some 8)), .inl a1, .inl a2, .inl a3], [.inl x13]) M10 _
        have j64 : ∀ (v14 : Int) , (-2147483648) ≤ v14 ∧ v14 ≤ 2147483647 → zG n (0, 0) d 140 (64, [.inr (.inr (some 8)), .inl a1, .inl a2, .inl a3], [.inl v14]) M10 (fun v M' => qWf qCI [62, 64, 65, 66] M M' ∧ qRi (fun x => (-2147483648) ≤ x ∧ x ≤ 2147483647) v) := by
          intro v14 hv14
          exact zG_ret hd0 hz rfl rfl ⟨⟨hCM10, hWM10⟩, _, rfl, by omega⟩
        refine zG_if_eq hd0 hz rfl (fun hb15 => ?_) (fun hb15 => ?_)
        · refine zG_blk (c' := (64, [.inr (.inr (some 8)), .inl a1, .inl a2, .inl a3], [.inl (-1)])) 1 hd0 hz (by rfl) ?_
          exact j64 (-1) (by omega)
        · refine zG_blk (c' := (57, [.inr (.inr (some 8)), .inl a1, .inl a2, .inl a3], [.inl a2, .inl a1, .inr (.inr (some 60))])) 4 hd0 hz (by rfl) ?_
          refine zG_call hd0 hz (rfl : zP 47 = (zk_X4_stepOf, 4, (0, 0))) rfl rfl (Nat.le_of_ble_eq_true rfl) ⟨Nat.le_refl _, Nat.le_refl _⟩ (qm_47_60 (by omega) hCM10  a1 (by omega) a2 (by omega)) (fun vr M16 hr => ?_)
          obtain ⟨hq, x17, rfl, hx17⟩ := hr
          replace hq := hq.symm; subst hq
          show zG n (0, 0) d 140 (60, [.inr (.inr (some 8)), .inl a1, .inl a2, .inl a3], [.inl x17]) M10 _
          refine zG_blk (c' := (64, [.inr (.inr (some 8)), .inl a1, .inl a2, .inl a3], [.inl x17])) 1 hd0 hz (by rfl) ?_
          exact j64 x17 (by omega)
      · exact j28
theorem qm_44_60 {n d : Nat} {M : zM} (hd : 2 ≤ d) (hC : qCI M) (a1 : Int) (ha1 : (-2147483648) ≤ a1 ∧ a1 ≤ 2147483647) (a2 : Int) (ha2 : (-2147483648) ≤ a2 ∧ a2 ≤ 2147483647) : qOkP n d 44 [.inr (.inr (some 60)), .inl a1, .inl a2] 3 M (qRi (fun x => (-2147483648) ≤ x ∧ x ≤ 2147483647)) := by
  have hz : zP 44 = (zk_X4_finalOf, 3, (0, 0)) := rfl
  have hd0 : 0 < d := by omega
  show zG n (0, 0) d 44 (0, [.inr (.inr (some 60)), .inl a1, .inl a2], []) M _
  obtain ⟨x1, hx1⟩ : ∃ x : Int, x = w32 (a1 * 14) := ⟨_, rfl⟩
  have hx1r : qin x1 := by rw [hx1]; exact w32_in _
  obtain ⟨x2, hx2⟩ : ∃ x : Int, x = w32 (x1 + a2) := ⟨_, rfl⟩
  have hx2r : x2 = (x1 + a2 + 2147483648) % 4294967296 - 2147483648 := hx2
  refine zG_blk (c' := (11, [.inr (.inr (some 60)), .inl a1, .inl a2], [.inl 0, .inl x2, .inr (.inr (some 63))])) 8 hd0 hz (by subst hx2; subst hx1; rfl) ?_
  refine zG_call hd0 hz (rfl : zP 106 = (zk_X8_get, 3, (0, 0))) rfl rfl (Nat.le_of_ble_eq_true rfl) ⟨Nat.le_refl _, Nat.le_refl _⟩ (qw_get (by omega) hC (⟨by decide, rfl, rfl⟩ : qT n 63 280 4) x2 (by omega) 0 (by omega)) (fun vr M3 hr => ?_)
  obtain ⟨hq, x4, rfl, hx4⟩ := hr
  replace hq := hq.symm; subst hq
  show zG n (0, 0) d 44 (14, [.inr (.inr (some 60)), .inl a1, .inl a2], [.inl x4]) M _
  exact zG_ret hd0 hz rfl rfl ⟨rfl, _, rfl, by omega⟩
theorem qm_45_60 {n d : Nat} {M : zM} (hd : 2 ≤ d) (hC : qCI M) (a1 : Int) (ha1 : (-2147483648) ≤ a1 ∧ a1 ≤ 2147483647) (a2 : Int) (ha2 : (-2147483648) ≤ a2 ∧ a2 ≤ 2147483647) : qOkP n d 45 [.inr (.inr (some 60)), .inl a1, .inl a2] 3 M (qRi (fun x => (-2147483648) ≤ x ∧ x ≤ 2147483647)) := by
  have hz : zP 45 = (zk_X4_triesOf, 3, (0, 0)) := rfl
  have hd0 : 0 < d := by omega
  show zG n (0, 0) d 45 (0, [.inr (.inr (some 60)), .inl a1, .inl a2], []) M _
  obtain ⟨x1, hx1⟩ : ∃ x : Int, x = w32 (a1 * 14) := ⟨_, rfl⟩
  have hx1r : qin x1 := by rw [hx1]; exact w32_in _
  obtain ⟨x2, hx2⟩ : ∃ x : Int, x = w32 (x1 + a2) := ⟨_, rfl⟩
  have hx2r : x2 = (x1 + a2 + 2147483648) % 4294967296 - 2147483648 := hx2
  refine zG_blk (c' := (11, [.inr (.inr (some 60)), .inl a1, .inl a2], [.inl 1, .inl x2, .inr (.inr (some 63))])) 8 hd0 hz (by subst hx2; subst hx1; rfl) ?_
  refine zG_call hd0 hz (rfl : zP 106 = (zk_X8_get, 3, (0, 0))) rfl rfl (Nat.le_of_ble_eq_true rfl) ⟨Nat.le_refl _, Nat.le_refl _⟩ (qw_get (by omega) hC (⟨by decide, rfl, rfl⟩ : qT n 63 280 4) x2 (by omega) 1 (by omega)) (fun vr M3 hr => ?_)
  obtain ⟨hq, x4, rfl, hx4⟩ := hr
  replace hq := hq.symm; subst hq
  show zG n (0, 0) d 45 (14, [.inr (.inr (some 60)), .inl a1, .inl a2], [.inl x4]) M _
  exact zG_ret hd0 hz rfl rfl ⟨rfl, _, rfl, by omega⟩
theorem qm_46_60 {n d : Nat} {M : zM} (hd : 2 ≤ d) (hC : qCI M) (a1 : Int) (ha1 : (-2147483648) ≤ a1 ∧ a1 ≤ 2147483647) (a2 : Int) (ha2 : (-2147483648) ≤ a2 ∧ a2 ≤ 2147483647) : qOkP n d 46 [.inr (.inr (some 60)), .inl a1, .inl a2] 3 M (qRi (fun x => (-2147483648) ≤ x ∧ x ≤ 2147483647)) := by
  have hz : zP 46 = (zk_X4_excusedOf, 3, (0, 0)) := rfl
  have hd0 : 0 < d := by omega
  show zG n (0, 0) d 46 (0, [.inr (.inr (some 60)), .inl a1, .inl a2], []) M _
  obtain ⟨x1, hx1⟩ : ∃ x : Int, x = w32 (a1 * 14) := ⟨_, rfl⟩
  have hx1r : qin x1 := by rw [hx1]; exact w32_in _
  obtain ⟨x2, hx2⟩ : ∃ x : Int, x = w32 (x1 + a2) := ⟨_, rfl⟩
  have hx2r : x2 = (x1 + a2 + 2147483648) % 4294967296 - 2147483648 := hx2
  refine zG_blk (c' := (11, [.inr (.inr (some 60)), .inl a1, .inl a2], [.inl 2, .inl x2, .inr (.inr (some 63))])) 8 hd0 hz (by subst hx2; subst hx1; rfl) ?_
  refine zG_call hd0 hz (rfl : zP 106 = (zk_X8_get, 3, (0, 0))) rfl rfl (Nat.le_of_ble_eq_true rfl) ⟨Nat.le_refl _, Nat.le_refl _⟩ (qw_get (by omega) hC (⟨by decide, rfl, rfl⟩ : qT n 63 280 4) x2 (by omega) 2 (by omega)) (fun vr M3 hr => ?_)
  obtain ⟨hq, x4, rfl, hx4⟩ := hr
  replace hq := hq.symm; subst hq
  show zG n (0, 0) d 46 (14, [.inr (.inr (some 60)), .inl a1, .inl a2], [.inl x4]) M _
  exact zG_ret hd0 hz rfl rfl ⟨rfl, _, rfl, by omega⟩
theorem qm_141_8 {n d : Nat} {M : zM} (hd : 7 ≤ d) (hC : qCI M) (a1 : Int) (ha1 : (-2147483648) ≤ a1 ∧ a1 ≤ 2147483647) (a2 : Int) (ha2 : (-2147483648) ≤ a2 ∧ a2 ≤ 2147483647) (a3 : Int) (ha3 : (-2147483648) ≤ a3 ∧ a3 ≤ 2147483647) (a4 : Int) (ha4 : (-2147483648) ≤ a4 ∧ a4 ≤ 2147483647) : qOkM n d 141 [.inr (.inr (some 8)), .inl a1, .inl a2, .inl a3, .inl a4] 5 qCI [62, 64, 65, 66] M (qRi (fun x => (-2147483648) ≤ x ∧ x ≤ 2147483647)) := by
  have hz : zP 141 = (zk_X10_outcome, 5, (0, 0)) := rfl
  have hd0 : 0 < d := by omega
  have hW : qFr [62, 64, 65, 66] M M := qFr.rfl
  show zG n (0, 0) d 141 (0, [.inr (.inr (some 8)), .inl a1, .inl a2, .inl a3, .inl a4], []) M _
  refine zG_blk (c' := (2, [.inr (.inr (some 8)), .inl a1, .inl a2, .inl a3, .inl a4], [.inl a1, .inr (.inr (some 8))])) 2 hd0 hz (by rfl) ?_
  refine zG_call hd0 hz (rfl : zP 174 = (zk_X10_isStudent, 2, (0, 0))) rfl rfl (Nat.le_of_ble_eq_true rfl) ⟨Nat.le_refl _, Nat.le_refl _⟩ (qm_174_8 (by omega) hC  a1 (by omega)) (fun vr M1 hr => ?_)
  obtain ⟨hq, x2, rfl, hx2⟩ := hr
  replace hq := hq.symm; subst hq
  show zG n (0, 0) d 141 (5, [.inr (.inr (some 8)), .inl a1, .inl a2, .inl a3, .inl a4], [.inl x2]) M _
  have j33 : zG n (0, 0) d 141 (33, [.inr (.inr (some 8)), .inl a1, .inl a2, .inl a3, .inl a4], []) M (fun v M' => qWf qCI [62, 64, 65, 66] M M' ∧ qRi (fun x => (-2147483648) ≤ x ∧ x ≤ 2147483647) v) := by
    refine zG_blk (c' := (35, [.inr (.inr (some 8)), .inl a1, .inl a2, .inl a3, .inl a4], [.inl (-2)])) 1 hd0 hz (by rfl) ?_
    exact zG_ret hd0 hz rfl rfl ⟨⟨hC, hW⟩, _, rfl, by omega⟩
  refine zG_if_eq hd0 hz rfl (fun hb3 => ?_) (fun hb3 => ?_)
  · exact j33
  · refine zG_blk (c' := (10, [.inr (.inr (some 8)), .inl a1, .inl a2, .inl a3, .inl a4], [.inl a2, .inr (.inr (some 8))])) 2 hd0 hz (by rfl) ?_
    refine zG_call hd0 hz (rfl : zP 175 = (zk_X10_isCourse, 2, (0, 0))) rfl rfl (Nat.le_of_ble_eq_true rfl) ⟨Nat.le_refl _, Nat.le_refl _⟩ (qm_175_8 (by omega) hC  a2 (by omega)) (fun vr M4 hr => ?_)
    obtain ⟨hq, x5, rfl, hx5⟩ := hr
    replace hq := hq.symm; subst hq
    show zG n (0, 0) d 141 (13, [.inr (.inr (some 8)), .inl a1, .inl a2, .inl a3, .inl a4], [.inl x5]) M _
    refine zG_if_eq hd0 hz rfl (fun hb6 => ?_) (fun hb6 => ?_)
    · exact j33
    · refine zG_blk (c' := (17, [.inr (.inr (some 8)), .inl a1, .inl a2, .inl a3, .inl a4], [.inl a3])) 1 hd0 hz (by rfl) ?_
      refine zG_call hd0 hz (rfl : zP 170 = (zk_X10_isDay, 1, (0, 0))) rfl rfl (Nat.le_of_ble_eq_true rfl) ⟨Nat.le_refl _, Nat.le_refl _⟩ (qm_170 (by omega) hC  a3 (by omega)) (fun vr M7 hr => ?_)
      obtain ⟨hq, x8, rfl, hx8⟩ := hr
      replace hq := hq.symm; subst hq
      show zG n (0, 0) d 141 (20, [.inr (.inr (some 8)), .inl a1, .inl a2, .inl a3, .inl a4], [.inl x8]) M _
      refine zG_if_eq hd0 hz rfl (fun hb9 => ?_) (fun hb9 => ?_)
      · exact j33
      · refine zG_blk (c' := (27, [.inr (.inr (some 8)), .inl a1, .inl a2, .inl a3, .inl a4], [.inl 2, .inl 0, .inl a4])) 3 hd0 hz (by rfl) ?_
        refine zG_call hd0 hz (rfl : zP 169 = (zk_X10_within, 3, (0, 0))) rfl rfl (Nat.le_of_ble_eq_true rfl) ⟨Nat.le_refl _, Nat.le_refl _⟩ (qm_169 (by omega) hC  a4 (by omega) 0 (by omega) 2 (by omega)) (fun vr M10 hr => ?_)
        obtain ⟨hq, x11, rfl, hx11⟩ := hr
        replace hq := hq.symm; subst hq
        show zG n (0, 0) d 141 (30, [.inr (.inr (some 8)), .inl a1, .inl a2, .inl a3, .inl a4], [.inl x11]) M _
        refine zG_if_ne hd0 hz rfl (fun hb12 => ?_) (fun hb12 => ?_)
        · refine zG_blk (c' := (42, [.inr (.inr (some 8)), .inl a1, .inl a2, .inl a3, .inl a4], [.inl (-1), .inl a3, .inr (.inr (some 60))])) 4 hd0 hz (by rfl) ?_
          refine zG_call hd0 hz (rfl : zP 41 = (zk_X4_learn, 5, (0, 0))) rfl rfl (Nat.le_of_ble_eq_true rfl) ⟨Nat.le_refl _, Nat.le_refl _⟩ (qm_41_60 (by omega) hC  a3 (by omega) (-1) (by omega)) (fun vr M13 hr => ?_)
          obtain ⟨⟨hCM13, hFM13⟩, rfl⟩ := hr
          have hWM13 : qFr [62, 64, 65, 66] M M13 := hW.tr hFM13 (by decide)
          show zG n (0, 0) d 141 (45, [.inr (.inr (some 8)), .inl a1, .inl a2, .inl a3, .inl a4], []) M13 _
          refine zG_blk (c' := (47, [.inr (.inr (some 8)), .inl a1, .inl a2, .inl a3, .inl a4], [.inl a4])) 1 hd0 hz (by rfl) ?_
          refine zG_if_ne hd0 hz rfl (fun hb15 => ?_) (fun hb15 => ?_)
          · refine zG_blk (c' := (63, [.inr (.inr (some 8)), .inl a1, .inl a2, .inl a3, .inl a4], [.inl 1, .inl a4])) 2 hd0 hz (by rfl) ?_
            have j87 : ∀ (v16 : Int) , (-2147483648) ≤ v16 ∧ v16 ≤ 2147483647 → zG n (0, 0) d 141 (87, [.inr (.inr (some 8)), .inl a1, .inl a2, .inl a3, .inl a4], [.inl v16]) M13 (fun v M' => qWf qCI [62, 64, 65, 66] M M' ∧ qRi (fun x => (-2147483648) ≤ x ∧ x ≤ 2147483647) v) := by
              intro v16 hv16
              exact zG_ret hd0 hz rfl rfl ⟨⟨hCM13, hWM13⟩, _, rfl, by omega⟩
            refine zG_icmp_ne hd0 hz rfl (fun hb17 => ?_) (fun hb17 => ?_)
            · refine zG_blk (c' := (84, [.inr (.inr (some 8)), .inl a1, .inl a2, .inl a3, .inl a4], [.inl a2, .inl a1, .inr (.inr (some 60))])) 4 hd0 hz (by rfl) ?_
              refine zG_call hd0 hz (rfl : zP 46 = (zk_X4_excusedOf, 3, (0, 0))) rfl rfl (Nat.le_of_ble_eq_true rfl) ⟨Nat.le_refl _, Nat.le_refl _⟩ (qm_46_60 (by omega) hCM13  a1 (by omega) a2 (by omega)) (fun vr M18 hr => ?_)
              obtain ⟨hq, x19, rfl, hx19⟩ := hr
              replace hq := hq.symm; subst hq
              show zG n (0, 0) d 141 (87, [.inr (.inr (some 8)), .inl a1, .inl a2, .inl a3, .inl a4], [.inl x19]) M13 _
              exact j87 x19 (by omega)
            · refine zG_blk (c' := (72, [.inr (.inr (some 8)), .inl a1, .inl a2, .inl a3, .inl a4], [.inl a2, .inl a1, .inr (.inr (some 60))])) 4 hd0 hz (by rfl) ?_
              refine zG_call hd0 hz (rfl : zP 45 = (zk_X4_triesOf, 3, (0, 0))) rfl rfl (Nat.le_of_ble_eq_true rfl) ⟨Nat.le_refl _, Nat.le_refl _⟩ (qm_45_60 (by omega) hCM13  a1 (by omega) a2 (by omega)) (fun vr M20 hr => ?_)
              obtain ⟨hq, x21, rfl, hx21⟩ := hr
              replace hq := hq.symm; subst hq
              show zG n (0, 0) d 141 (75, [.inr (.inr (some 8)), .inl a1, .inl a2, .inl a3, .inl a4], [.inl x21]) M13 _
              refine zG_blk (c' := (87, [.inr (.inr (some 8)), .inl a1, .inl a2, .inl a3, .inl a4], [.inl x21])) 1 hd0 hz (by rfl) ?_
              exact j87 x21 (by omega)
          · refine zG_blk (c' := (56, [.inr (.inr (some 8)), .inl a1, .inl a2, .inl a3, .inl a4], [.inl a2, .inl a1, .inr (.inr (some 60))])) 4 hd0 hz (by rfl) ?_
            refine zG_call hd0 hz (rfl : zP 44 = (zk_X4_finalOf, 3, (0, 0))) rfl rfl (Nat.le_of_ble_eq_true rfl) ⟨Nat.le_refl _, Nat.le_refl _⟩ (qm_44_60 (by omega) hCM13  a1 (by omega) a2 (by omega)) (fun vr M22 hr => ?_)
            obtain ⟨hq, x23, rfl, hx23⟩ := hr
            replace hq := hq.symm; subst hq
            show zG n (0, 0) d 141 (59, [.inr (.inr (some 8)), .inl a1, .inl a2, .inl a3, .inl a4], [.inl x23]) M13 _
            exact zG_ret hd0 hz rfl rfl ⟨⟨hCM13, hWM13⟩, _, rfl, by omega⟩
        · exact j33
theorem qm_30_76 {n d : Nat} {M : zM} (hd : 2 ≤ d) (hC : qCI M) (a1 : Int) (ha1 : (-2147483648) ≤ a1 ∧ a1 ≤ 2147483647) (a2 : Int) (ha2 : 0 ≤ a2 ∧ a2 ≤ 1) : qOkP n d 30 [.inr (.inr (some 76)), .inl a1, .inl a2] 8 M (qRi (fun x => (-1) ≤ x ∧ x ≤ 9)) := by
  have hz : zP 30 = (zk_X3_latestOf, 8, (0, 0)) := rfl
  have hd0 : 0 < d := by omega
  show zG n (0, 0) d 30 (0, [.inr (.inr (some 76)), .inl a1, .inl a2, zN, zN, zN, zN, zN], []) M _
  refine zG_blk (c' := (8, [.inr (.inr (some 76)), .inl a1, .inl a2, .inl (-1), .inl (-1), .inl 0, zN, zN], [])) 6 hd0 hz (by rfl) ?_
  have j8 : ∀ (N : Nat) (v1 v2 v3 : Int) , (10 - v3 : Int).toNat < N → (-1) ≤ v1 ∧ v1 ≤ 9 → (-1) ≤ v2 ∧ v2 ≤ 2147483647 → 0 ≤ v3 ∧ v3 ≤ 10 → zG n (0, 0) d 30 (8, [.inr (.inr (some 76)), .inl a1, .inl a2, .inl v1, .inl v2, .inl v3, zN, zN], []) M (fun v M' => M' = M ∧ qRi (fun x => (-1) ≤ x ∧ x ≤ 9) v) := by
    intro N
    induction N with
    | zero => intro v1 v2 v3 hN hv1 hv2 hv3; exact absurd hN (Nat.not_lt_zero _)
    | succ N ih8 =>
      intro v1 v2 v3 hN hv1 hv2 hv3
      refine zG_blk (c' := (17, [.inr (.inr (some 76)), .inl a1, .inl a2, .inl v1, .inl v2, .inl v3, zN, zN], [.inr (.inr (some 22)), .inl v3])) 4 hd0 hz (by rfl) ?_
      refine zG_call hd0 hz (rfl : zP 101 = (zk_X8_size, 1, (0, 0))) rfl rfl (Nat.le_of_ble_eq_true rfl) ⟨Nat.le_refl _, Nat.le_refl _⟩ (qw_size (by omega) hC (⟨by decide, rfl, rfl⟩ : qT n 22 10 164) ) (fun vr M4 hr => ?_)
      obtain ⟨hq, x5, rfl, hx5⟩ := hr
      replace hq := hq.symm; subst hq
      show zG n (0, 0) d 30 (20, [.inr (.inr (some 76)), .inl a1, .inl a2, .inl v1, .inl v2, .inl v3, zN, zN], [.inl x5, .inl v3]) M _
      refine zG_icmp_ge hd0 hz rfl (fun hb6 => ?_) (fun hb6 => ?_)
      · refine zG_blk (c' := (98, [.inr (.inr (some 76)), .inl a1, .inl a2, .inl v1, .inl v2, .inl v3, zN, zN], [.inl v1])) 1 hd0 hz (by rfl) ?_
        exact zG_ret hd0 hz rfl rfl ⟨rfl, _, rfl, by omega⟩
      · refine zG_blk (c' := (33, [.inr (.inr (some 76)), .inl a1, .inl a2, .inl v1, .inl v2, .inl v3, zN, zN], [.inl 0, .inl v3, .inr (.inr (some 22))])) 5 hd0 hz (by rfl) ?_
        refine zG_call hd0 hz (rfl : zP 106 = (zk_X8_get, 3, (0, 0))) rfl rfl (Nat.le_of_ble_eq_true rfl) ⟨Nat.le_refl _, Nat.le_refl _⟩ (qw_get (by omega) hC (⟨by decide, rfl, rfl⟩ : qT n 22 10 164) v3 (by omega) 0 (by omega)) (fun vr M7 hr => ?_)
        obtain ⟨hq, x8, rfl, hx8⟩ := hr
        replace hq := hq.symm; subst hq
        show zG n (0, 0) d 30 (36, [.inr (.inr (some 76)), .inl a1, .inl a2, .inl v1, .inl v2, .inl v3, zN, zN], [.inl x8]) M _
        refine zG_blk (c' := (39, [.inr (.inr (some 76)), .inl a1, .inl a2, .inl v1, .inl v2, .inl v3, .inl x8, zN], [.inl a2])) 2 hd0 hz (by rfl) ?_
        have j64 : ∀ (v9 : Int) , 0 ≤ v9 ∧ v9 ≤ 1 → zG n (0, 0) d 30 (64, [.inr (.inr (some 76)), .inl a1, .inl a2, .inl v1, .inl v2, .inl v3, .inl x8, zN], [.inl v9]) M (fun v M' => M' = M ∧ qRi (fun x => (-1) ≤ x ∧ x ≤ 9) v) := by
          intro v9 hv9
          refine zG_blk (c' := (68, [.inr (.inr (some 76)), .inl a1, .inl a2, .inl v1, .inl v2, .inl v3, .inl x8, .inl v9], [.inl v9])) 2 hd0 hz (by rfl) ?_
          have j91 : ∀ (v10 v11 : Int) , (-1) ≤ v10 ∧ v10 ≤ 9 → (-1) ≤ v11 ∧ v11 ≤ 2147483647 → zG n (0, 0) d 30 (91, [.inr (.inr (some 76)), .inl a1, .inl a2, .inl v10, .inl v11, .inl v3, .inl x8, .inl v9], []) M (fun v M' => M' = M ∧ qRi (fun x => (-1) ≤ x ∧ x ≤ 9) v) := by
            intro v10 v11 hv10 hv11
            obtain ⟨x12, hx12⟩ : ∃ x : Int, x = w32 (v3 + 1) := ⟨_, rfl⟩
            have hx12e : x12 = v3 + 1 := by rw [hx12]; exact w32_id (by omega)
            refine zG_blk (c' := (8, [.inr (.inr (some 76)), .inl a1, .inl a2, .inl v10, .inl v11, .inl x12, .inl x8, .inl v9], [])) 2 hd0 hz (by subst hx12; rfl) ?_
            exact zG_weak (ih8 v10 v11 x12 (by omega) (by omega) (by omega) (by omega)) ⟨.inr rfl, .inr rfl, .inr rfl, .inr rfl, .inr rfl, .inr rfl, .inl rfl, .inl rfl, trivial⟩
          refine zG_if_eq hd0 hz rfl (fun hb13 => ?_) (fun hb13 => ?_)
          · exact j91 v1 v2 (by omega) (by omega)
          · refine zG_blk (c' := (74, [.inr (.inr (some 76)), .inl a1, .inl a2, .inl v1, .inl v2, .inl v3, .inl x8, .inl v9], [.inl a1, .inl x8])) 2 hd0 hz (by rfl) ?_
            refine zG_icmp_gt hd0 hz rfl (fun hb14 => ?_) (fun hb14 => ?_)
            · exact j91 v1 v2 (by omega) (by omega)
            · refine zG_blk (c' := (81, [.inr (.inr (some 76)), .inl a1, .inl a2, .inl v1, .inl v2, .inl v3, .inl x8, .inl v9], [.inl v2, .inl x8])) 2 hd0 hz (by rfl) ?_
              refine zG_icmp_lt hd0 hz rfl (fun hb15 => ?_) (fun hb15 => ?_)
              · exact j91 v1 v2 (by omega) (by omega)
              · refine zG_blk (c' := (91, [.inr (.inr (some 76)), .inl a1, .inl a2, .inl v3, .inl x8, .inl v3, .inl x8, .inl v9], [])) 4 hd0 hz (by rfl) ?_
                exact j91 v3 x8 (by omega) (by omega)
        have j59 : zG n (0, 0) d 30 (59, [.inr (.inr (some 76)), .inl a1, .inl a2, .inl v1, .inl v2, .inl v3, .inl x8, zN], []) M (fun v M' => M' = M ∧ qRi (fun x => (-1) ≤ x ∧ x ≤ 9) v) := by
          refine zG_blk (c' := (64, [.inr (.inr (some 76)), .inl a1, .inl a2, .inl v1, .inl v2, .inl v3, .inl x8, zN], [.inl 1])) 2 hd0 hz (by rfl) ?_
          exact j64 1 (by omega)
        refine zG_if_eq hd0 hz rfl (fun hb16 => ?_) (fun hb16 => ?_)
        · exact j59
        · refine zG_blk (c' := (52, [.inr (.inr (some 76)), .inl a1, .inl a2, .inl v1, .inl v2, .inl v3, .inl x8, zN], [.inl 1, .inl v3, .inr (.inr (some 22))])) 5 hd0 hz (by rfl) ?_
          refine zG_call hd0 hz (rfl : zP 106 = (zk_X8_get, 3, (0, 0))) rfl rfl (Nat.le_of_ble_eq_true rfl) ⟨Nat.le_refl _, Nat.le_refl _⟩ (qw_get (by omega) hC (⟨by decide, rfl, rfl⟩ : qT n 22 10 164) v3 (by omega) 1 (by omega)) (fun vr M17 hr => ?_)
          obtain ⟨hq, x18, rfl, hx18⟩ := hr
          replace hq := hq.symm; subst hq
          show zG n (0, 0) d 30 (55, [.inr (.inr (some 76)), .inl a1, .inl a2, .inl v1, .inl v2, .inl v3, .inl x8, zN], [.inl x18]) M _
          refine zG_blk (c' := (56, [.inr (.inr (some 76)), .inl a1, .inl a2, .inl v1, .inl v2, .inl v3, .inl x8, zN], [.inl 1, .inl x18])) 1 hd0 hz (by rfl) ?_
          refine zG_icmp_ne hd0 hz rfl (fun hb19 => ?_) (fun hb19 => ?_)
          · refine zG_blk (c' := (64, [.inr (.inr (some 76)), .inl a1, .inl a2, .inl v1, .inl v2, .inl v3, .inl x8, zN], [.inl 0])) 1 hd0 hz (by rfl) ?_
            exact j64 0 (by omega)
          · exact j59
  exact j8 ((10 - 0 : Int).toNat + 1) (-1) (-1) 0 (by omega) (by omega) (by omega) (by omega)
theorem qm_29_76 {n d : Nat} {M : zM} (hd : 3 ≤ d) (hC : qCI M) (a1 : Int) (ha1 : (-2147483648) ≤ a1 ∧ a1 ≤ 2147483647) (a2 : Int) (ha2 : (-2147483648) ≤ a2 ∧ a2 ≤ 2147483647) : qOkP n d 29 [.inr (.inr (some 76)), .inl a1, .inl a2] 5 M (qRi (fun x => (-2147483648) ≤ x ∧ x ≤ 2147483647)) := by
  have hz : zP 29 = (zk_X3_bindingOf, 5, (0, 0)) := rfl
  have hd0 : 0 < d := by omega
  show zG n (0, 0) d 29 (0, [.inr (.inr (some 76)), .inl a1, .inl a2, zN, zN], []) M _
  refine zG_blk (c' := (3, [.inr (.inr (some 76)), .inl a1, .inl a2, zN, zN], [.inl 1, .inl a2, .inr (.inr (some 76))])) 3 hd0 hz (by rfl) ?_
  refine zG_call hd0 hz (rfl : zP 30 = (zk_X3_latestOf, 8, (0, 0))) rfl rfl (Nat.le_of_ble_eq_true rfl) ⟨Nat.le_refl _, Nat.le_refl _⟩ (qm_30_76 (by omega) hC  a2 (by omega) 1 (by omega)) (fun vr M1 hr => ?_)
  obtain ⟨hq, x2, rfl, hx2⟩ := hr
  replace hq := hq.symm; subst hq
  show zG n (0, 0) d 29 (6, [.inr (.inr (some 76)), .inl a1, .inl a2, zN, zN], [.inl x2]) M _
  refine zG_blk (c' := (9, [.inr (.inr (some 76)), .inl a1, .inl a2, .inl x2, zN], [.inl (-1), .inl x2])) 3 hd0 hz (by rfl) ?_
  refine zG_icmp_eq hd0 hz rfl (fun hb3 => ?_) (fun hb3 => ?_)
  · refine zG_blk (c' := (23, [.inr (.inr (some 76)), .inl a1, .inl a2, .inl x2, zN], [.inl 1, .inl a1, .inr (.inr (some 12))])) 5 hd0 hz (by rfl) ?_
    refine zG_call hd0 hz (rfl : zP 106 = (zk_X8_get, 3, (0, 0))) rfl rfl (Nat.le_of_ble_eq_true rfl) ⟨Nat.le_refl _, Nat.le_refl _⟩ (qw_get (by omega) hC (⟨by decide, rfl, rfl⟩ : qT n 12 20 3) a1 (by omega) 1 (by omega)) (fun vr M4 hr => ?_)
    obtain ⟨hq, x5, rfl, hx5⟩ := hr
    replace hq := hq.symm; subst hq
    show zG n (0, 0) d 29 (26, [.inr (.inr (some 76)), .inl a1, .inl a2, .inl x2, zN], [.inl x5]) M _
    refine zG_blk (c' := (31, [.inr (.inr (some 76)), .inl a1, .inl a2, .inl x2, .inl x5], [.inl (-1), .inl x5])) 3 hd0 hz (by rfl) ?_
    have j56 : ∀ (v6 : Int) , (-2147483648) ≤ v6 ∧ v6 ≤ 2147483647 → zG n (0, 0) d 29 (56, [.inr (.inr (some 76)), .inl a1, .inl a2, .inl x2, .inl x5], [.inl v6]) M (fun v M' => M' = M ∧ qRi (fun x => (-2147483648) ≤ x ∧ x ≤ 2147483647) v) := by
      intro v6 hv6
      exact zG_ret hd0 hz rfl rfl ⟨rfl, _, rfl, by omega⟩
    refine zG_icmp_eq hd0 hz rfl (fun hb7 => ?_) (fun hb7 => ?_)
    · refine zG_blk (c' := (49, [.inr (.inr (some 76)), .inl a1, .inl a2, .inl x2, .inl x5], [.inl 0, .inl a1, .inr (.inr (some 12)), .inr (.inr (some 76))])) 6 hd0 hz (by rfl) ?_
      refine zG_call hd0 hz (rfl : zP 106 = (zk_X8_get, 3, (0, 0))) rfl rfl (Nat.le_of_ble_eq_true rfl) ⟨Nat.le_refl _, Nat.le_refl _⟩ (qw_get (by omega) hC (⟨by decide, rfl, rfl⟩ : qT n 12 20 3) a1 (by omega) 0 (by omega)) (fun vr M8 hr => ?_)
      obtain ⟨hq, x9, rfl, hx9⟩ := hr
      replace hq := hq.symm; subst hq
      show zG n (0, 0) d 29 (52, [.inr (.inr (some 76)), .inl a1, .inl a2, .inl x2, .inl x5], [.inl x9, .inr (.inr (some 76))]) M _
      refine zG_blk (c' := (53, [.inr (.inr (some 76)), .inl a1, .inl a2, .inl x2, .inl x5], [.inl 0, .inl x9, .inr (.inr (some 76))])) 1 hd0 hz (by rfl) ?_
      refine zG_call hd0 hz (rfl : zP 30 = (zk_X3_latestOf, 8, (0, 0))) rfl rfl (Nat.le_of_ble_eq_true rfl) ⟨Nat.le_refl _, Nat.le_refl _⟩ (qm_30_76 (by omega) hC  x9 (by omega) 0 (by omega)) (fun vr M10 hr => ?_)
      obtain ⟨hq, x11, rfl, hx11⟩ := hr
      replace hq := hq.symm; subst hq
      show zG n (0, 0) d 29 (56, [.inr (.inr (some 76)), .inl a1, .inl a2, .inl x2, .inl x5], [.inl x11]) M _
      exact j56 x11 (by omega)
    · refine zG_blk (c' := (56, [.inr (.inr (some 76)), .inl a1, .inl a2, .inl x2, .inl x5], [.inl x5])) 2 hd0 hz (by rfl) ?_
      exact j56 x5 (by omega)
  · refine zG_blk (c' := (13, [.inr (.inr (some 76)), .inl a1, .inl a2, .inl x2, zN], [.inl x2])) 1 hd0 hz (by rfl) ?_
    exact zG_ret hd0 hz rfl rfl ⟨rfl, _, rfl, by omega⟩
theorem qm_173 {n d : Nat} {M : zM} (hd : 2 ≤ d) (hC : qCI M) (a0 : Int) (ha0 : (-2147483648) ≤ a0 ∧ a0 ≤ 2147483647) : qOkP n d 173 [.inl a0] 1 M (qRi (fun x => 0 ≤ x ∧ x ≤ 1)) := by
  have hz : zP 173 = (zk_X10_isText, 1, (0, 0)) := rfl
  have hd0 : 0 < d := by omega
  show zG n (0, 0) d 173 (0, [.inl a0], []) M _
  refine zG_blk (c' := (4, [.inl a0], [.inl 7, .inl 0, .inl a0])) 3 hd0 hz (by rfl) ?_
  refine zG_call hd0 hz (rfl : zP 169 = (zk_X10_within, 3, (0, 0))) rfl rfl (Nat.le_of_ble_eq_true rfl) ⟨Nat.le_refl _, Nat.le_refl _⟩ (qm_169 (by omega) hC  a0 (by omega) 0 (by omega) 7 (by omega)) (fun vr M1 hr => ?_)
  obtain ⟨hq, x2, rfl, hx2⟩ := hr
  replace hq := hq.symm; subst hq
  show zG n (0, 0) d 173 (7, [.inl a0], [.inl x2]) M _
  exact zG_zret hd0 hz rfl (by omega) ⟨rfl, _, rfl, by omega⟩
theorem qm_148_8 {n d : Nat} {M : zM} (hd : 3 ≤ d) (hC : qCI M) (a1 : Int) (ha1 : (-2147483648) ≤ a1 ∧ a1 ≤ 2147483647) (a2 : Int) (ha2 : (-2147483648) ≤ a2 ∧ a2 ≤ 2147483647) : qOkM n d 148 [.inr (.inr (some 8)), .inl a1, .inl a2] 4 qCI [21] M (qRi (fun x => (-2147483647) ≤ x ∧ x ≤ 80)) := by
  have hz : zP 148 = (zk_X10_write, 4, (0, 0)) := rfl
  have hd0 : 0 < d := by omega
  have hW : qFr [21] M M := qFr.rfl
  show zG n (0, 0) d 148 (0, [.inr (.inr (some 8)), .inl a1, .inl a2, zN], []) M _
  refine zG_blk (c' := (1, [.inr (.inr (some 8)), .inl a1, .inl a2, zN], [.inl a1])) 1 hd0 hz (by rfl) ?_
  refine zG_call hd0 hz (rfl : zP 173 = (zk_X10_isText, 1, (0, 0))) rfl rfl (Nat.le_of_ble_eq_true rfl) ⟨Nat.le_refl _, Nat.le_refl _⟩ (qm_173 (by omega) hC  a1 (by omega)) (fun vr M1 hr => ?_)
  obtain ⟨hq, x2, rfl, hx2⟩ := hr
  replace hq := hq.symm; subst hq
  show zG n (0, 0) d 148 (4, [.inr (.inr (some 8)), .inl a1, .inl a2, zN], [.inl x2]) M _
  have j17 : zG n (0, 0) d 148 (17, [.inr (.inr (some 8)), .inl a1, .inl a2, zN], []) M (fun v M' => qWf qCI [21] M M' ∧ qRi (fun x => (-2147483647) ≤ x ∧ x ≤ 80) v) := by
    refine zG_blk (c' := (19, [.inr (.inr (some 8)), .inl a1, .inl a2, zN], [.inl (-2)])) 1 hd0 hz (by rfl) ?_
    exact zG_ret hd0 hz rfl rfl ⟨⟨hC, hW⟩, _, rfl, by omega⟩
  refine zG_if_eq hd0 hz rfl (fun hb3 => ?_) (fun hb3 => ?_)
  · exact j17
  · refine zG_blk (c' := (11, [.inr (.inr (some 8)), .inl a1, .inl a2, zN], [.inl 127, .inl 0, .inl a2])) 3 hd0 hz (by rfl) ?_
    refine zG_call hd0 hz (rfl : zP 169 = (zk_X10_within, 3, (0, 0))) rfl rfl (Nat.le_of_ble_eq_true rfl) ⟨Nat.le_refl _, Nat.le_refl _⟩ (qm_169 (by omega) hC  a2 (by omega) 0 (by omega) 127 (by omega)) (fun vr M4 hr => ?_)
    obtain ⟨hq, x5, rfl, hx5⟩ := hr
    replace hq := hq.symm; subst hq
    show zG n (0, 0) d 148 (14, [.inr (.inr (some 8)), .inl a1, .inl a2, zN], [.inl x5]) M _
    refine zG_if_ne hd0 hz rfl (fun hb6 => ?_) (fun hb6 => ?_)
    · refine zG_blk (c' := (29, [.inr (.inr (some 8)), .inl a1, .inl a2, zN], [.inl 0, .inl a1, .inr (.inr (some 20))])) 5 hd0 hz (by rfl) ?_
      refine zG_call hd0 hz (rfl : zP 106 = (zk_X8_get, 3, (0, 0))) rfl rfl (Nat.le_of_ble_eq_true rfl) ⟨Nat.le_refl _, Nat.le_refl _⟩ (qw_get (by omega) hC (⟨by decide, rfl, rfl⟩ : qT n 20 8 81) a1 (by omega) 0 (by omega)) (fun vr M7 hr => ?_)
      obtain ⟨hq, x8, rfl, hx8⟩ := hr
      replace hq := hq.symm; subst hq
      show zG n (0, 0) d 148 (32, [.inr (.inr (some 8)), .inl a1, .inl a2, zN], [.inl x8]) M _
      refine zG_blk (c' := (36, [.inr (.inr (some 8)), .inl a1, .inl a2, .inl x8], [.inl 80, .inl x8])) 3 hd0 hz (by rfl) ?_
      refine zG_icmp_lt hd0 hz rfl (fun hb9 => ?_) (fun hb9 => ?_)
      · obtain ⟨x10, hx10⟩ : ∃ x : Int, x = w32 (1 + x8) := ⟨_, rfl⟩
        have hx10e : x10 = 1 + x8 := by rw [hx10]; exact w32_id (by omega)
        refine zG_blk (c' := (54, [.inr (.inr (some 8)), .inl a1, .inl a2, .inl x8], [.inl a2, .inl x10, .inl a1, .inr (.inr (some 20))])) 8 hd0 hz (by subst hx10; rfl) ?_
        refine zG_call hd0 hz (rfl : zP 107 = (zk_X8_set, 4, (0, 0))) rfl rfl (Nat.le_of_ble_eq_true rfl) ⟨Nat.le_refl _, Nat.le_refl _⟩ (qw_set (by omega) hC (⟨by decide, rfl, rfl⟩ : qT n 20 8 81) a1 (by omega) x10 (by omega) a2 (by omega)) (fun vr M11 hr => ?_)
        obtain ⟨⟨hCM11, hFM11⟩, rfl⟩ := hr
        have hWM11 : qFr [21] M M11 := hW.tr hFM11 (by decide)
        show zG n (0, 0) d 148 (57, [.inr (.inr (some 8)), .inl a1, .inl a2, .inl x8], []) M11 _
        obtain ⟨x13, hx13⟩ : ∃ x : Int, x = w32 (x8 + 1) := ⟨_, rfl⟩
        have hx13e : x13 = x8 + 1 := by rw [hx13]; exact w32_id (by omega)
        refine zG_blk (c' := (69, [.inr (.inr (some 8)), .inl a1, .inl a2, .inl x8], [.inl x13, .inl 0, .inl a1, .inr (.inr (some 20))])) 8 hd0 hz (by subst hx13; rfl) ?_
        refine zG_call hd0 hz (rfl : zP 107 = (zk_X8_set, 4, (0, 0))) rfl rfl (Nat.le_of_ble_eq_true rfl) ⟨Nat.le_refl _, Nat.le_refl _⟩ (qw_set (by omega) hCM11 (⟨by decide, rfl, rfl⟩ : qT n 20 8 81) a1 (by omega) 0 (by omega) x13 (by omega)) (fun vr M14 hr => ?_)
        obtain ⟨⟨hCM14, hFM14⟩, rfl⟩ := hr
        have hWM14 : qFr [21] M M14 := hWM11.tr hFM14 (by decide)
        show zG n (0, 0) d 148 (72, [.inr (.inr (some 8)), .inl a1, .inl a2, .inl x8], []) M14 _
        obtain ⟨x16, hx16⟩ : ∃ x : Int, x = w32 (x8 + 1) := ⟨_, rfl⟩
        have hx16e : x16 = x8 + 1 := by rw [hx16]; exact w32_id (by omega)
        refine zG_blk (c' := (75, [.inr (.inr (some 8)), .inl a1, .inl a2, .inl x8], [.inl x16])) 3 hd0 hz (by subst hx16; rfl) ?_
        exact zG_ret hd0 hz rfl rfl ⟨⟨hCM14, hWM14⟩, _, rfl, by omega⟩
      · refine zG_blk (c' := (41, [.inr (.inr (some 8)), .inl a1, .inl a2, .inl x8], [.inl (-4)])) 1 hd0 hz (by rfl) ?_
        exact zG_ret hd0 hz rfl rfl ⟨⟨hC, hW⟩, _, rfl, by omega⟩
    · exact j17
theorem qm_149_8 {n d : Nat} {M : zM} (hd : 3 ≤ d) (hC : qCI M) (a1 : Int) (ha1 : (-2147483648) ≤ a1 ∧ a1 ≤ 2147483647) : qOkM n d 149 [.inr (.inr (some 8)), .inl a1] 3 qCI [21] M (qRi (fun x => (-2147483648) ≤ x ∧ x ≤ 2147483647)) := by
  have hz : zP 149 = (zk_X10_erase, 3, (0, 0)) := rfl
  have hd0 : 0 < d := by omega
  have hW : qFr [21] M M := qFr.rfl
  show zG n (0, 0) d 149 (0, [.inr (.inr (some 8)), .inl a1, zN], []) M _
  refine zG_blk (c' := (1, [.inr (.inr (some 8)), .inl a1, zN], [.inl a1])) 1 hd0 hz (by rfl) ?_
  refine zG_call hd0 hz (rfl : zP 173 = (zk_X10_isText, 1, (0, 0))) rfl rfl (Nat.le_of_ble_eq_true rfl) ⟨Nat.le_refl _, Nat.le_refl _⟩ (qm_173 (by omega) hC  a1 (by omega)) (fun vr M1 hr => ?_)
  obtain ⟨hq, x2, rfl, hx2⟩ := hr
  replace hq := hq.symm; subst hq
  show zG n (0, 0) d 149 (4, [.inr (.inr (some 8)), .inl a1, zN], [.inl x2]) M _
  refine zG_if_ne hd0 hz rfl (fun hb3 => ?_) (fun hb3 => ?_)
  · refine zG_blk (c' := (19, [.inr (.inr (some 8)), .inl a1, zN], [.inl 0, .inl a1, .inr (.inr (some 20))])) 5 hd0 hz (by rfl) ?_
    refine zG_call hd0 hz (rfl : zP 106 = (zk_X8_get, 3, (0, 0))) rfl rfl (Nat.le_of_ble_eq_true rfl) ⟨Nat.le_refl _, Nat.le_refl _⟩ (qw_get (by omega) hC (⟨by decide, rfl, rfl⟩ : qT n 20 8 81) a1 (by omega) 0 (by omega)) (fun vr M4 hr => ?_)
    obtain ⟨hq, x5, rfl, hx5⟩ := hr
    replace hq := hq.symm; subst hq
    show zG n (0, 0) d 149 (22, [.inr (.inr (some 8)), .inl a1, zN], [.inl x5]) M _
    refine zG_blk (c' := (33, [.inr (.inr (some 8)), .inl a1, .inl x5], [.inl 0, .inl 0, .inl a1, .inr (.inr (some 20))])) 7 hd0 hz (by rfl) ?_
    refine zG_call hd0 hz (rfl : zP 107 = (zk_X8_set, 4, (0, 0))) rfl rfl (Nat.le_of_ble_eq_true rfl) ⟨Nat.le_refl _, Nat.le_refl _⟩ (qw_set (by omega) hC (⟨by decide, rfl, rfl⟩ : qT n 20 8 81) a1 (by omega) 0 (by omega) 0 (by omega)) (fun vr M6 hr => ?_)
    obtain ⟨⟨hCM6, hFM6⟩, rfl⟩ := hr
    have hWM6 : qFr [21] M M6 := hW.tr hFM6 (by decide)
    show zG n (0, 0) d 149 (36, [.inr (.inr (some 8)), .inl a1, .inl x5], []) M6 _
    refine zG_blk (c' := (37, [.inr (.inr (some 8)), .inl a1, .inl x5], [.inl x5])) 1 hd0 hz (by rfl) ?_
    exact zG_ret hd0 hz rfl rfl ⟨⟨hCM6, hWM6⟩, _, rfl, by omega⟩
  · refine zG_blk (c' := (9, [.inr (.inr (some 8)), .inl a1, zN], [.inl (-2)])) 1 hd0 hz (by rfl) ?_
    exact zG_ret hd0 hz rfl rfl ⟨⟨hC, hW⟩, _, rfl, by omega⟩
theorem qm_97_67 {n d : Nat} {M : zM} (hd : 2 ≤ d) (hC : qCI M) (a1 : Int) (ha1 : (-2147483648) ≤ a1 ∧ a1 ≤ 2147483647) : qOkP n d 97 [.inr (.inr (some 67)), .inl a1] 2 M (qRi (fun x => (-2147483648) ≤ x ∧ x ≤ 2147483647)) := by
  have hz : zP 97 = (zk_X7_letter, 2, (0, 0)) := rfl
  have hd0 : 0 < d := by omega
  show zG n (0, 0) d 97 (0, [.inr (.inr (some 67)), .inl a1], []) M _
  have r1 := hC.rng 67 3 (by decide) (by decide)
  obtain ⟨x2, hx2⟩ : ∃ x : Int, x = w32 (1 + a1) := ⟨_, rfl⟩
  have hx2r : x2 = (1 + a1 + 2147483648) % 4294967296 - 2147483648 := hx2
  refine zG_blk (c' := (11, [.inr (.inr (some 67)), .inl a1], [.inl x2, .inl (M 67 3), .inr (.inr (some 20))])) 7 hd0 hz (by subst hx2; rfl) ?_
  refine zG_call hd0 hz (rfl : zP 106 = (zk_X8_get, 3, (0, 0))) rfl rfl (Nat.le_of_ble_eq_true rfl) ⟨Nat.le_refl _, Nat.le_refl _⟩ (qw_get (by omega) hC (⟨by decide, rfl, rfl⟩ : qT n 20 8 81) (M 67 3) (by omega) x2 (by omega)) (fun vr M3 hr => ?_)
  obtain ⟨hq, x4, rfl, hx4⟩ := hr
  replace hq := hq.symm; subst hq
  show zG n (0, 0) d 97 (14, [.inr (.inr (some 67)), .inl a1], [.inl x4]) M _
  exact zG_ret hd0 hz rfl rfl ⟨rfl, _, rfl, by omega⟩
theorem qm_98 {n d : Nat} {M : zM} (hd : 1 ≤ d) (hC : qCI M) (a0 : Int) (ha0 : (-2147483648) ≤ a0 ∧ a0 ≤ 2147483647) : qOkP n d 98 [.inl a0] 1 M (qRi (fun x => 0 ≤ x ∧ x ≤ 1)) := by
  have hz : zP 98 = (zk_X7_isDigit, 1, (0, 0)) := rfl
  have hd0 : 0 < d := by omega
  show zG n (0, 0) d 98 (0, [.inl a0], []) M _
  refine zG_blk (c' := (3, [.inl a0], [.inl 48, .inl a0])) 2 hd0 hz (by rfl) ?_
  have j17 : ∀ (v1 : Int) , 0 ≤ v1 ∧ v1 ≤ 1 → zG n (0, 0) d 98 (17, [.inl a0], [.inl v1]) M (fun v M' => M' = M ∧ qRi (fun x => 0 ≤ x ∧ x ≤ 1) v) := by
    intro v1 hv1
    exact zG_zret hd0 hz rfl (by omega) ⟨rfl, _, rfl, by omega⟩
  have j16 : zG n (0, 0) d 98 (16, [.inl a0], []) M (fun v M' => M' = M ∧ qRi (fun x => 0 ≤ x ∧ x ≤ 1) v) := by
    refine zG_blk (c' := (17, [.inl a0], [.inl 0])) 1 hd0 hz (by rfl) ?_
    exact j17 0 (by omega)
  refine zG_icmp_lt hd0 hz rfl (fun hb2 => ?_) (fun hb2 => ?_)
  · exact j16
  · refine zG_blk (c' := (9, [.inl a0], [.inl 57, .inl a0])) 2 hd0 hz (by rfl) ?_
    refine zG_icmp_gt hd0 hz rfl (fun hb3 => ?_) (fun hb3 => ?_)
    · exact j16
    · refine zG_blk (c' := (17, [.inl a0], [.inl 1])) 2 hd0 hz (by rfl) ?_
      exact j17 1 (by omega)
theorem qm_94_67 {n d : Nat} {M : zM} (hd : 3 ≤ d) (hC : qCI M)  : qOkM n d 94 [.inr (.inr (some 67))] 1 qCI [67] M qRn := by
  have hz : zP 94 = (zk_X7_nextNumber, 1, (0, 0)) := rfl
  have hd0 : 0 < d := by omega
  have hW : qFr [67] M M := qFr.rfl
  show zG n (0, 0) d 94 (0, [.inr (.inr (some 67))], []) M _
  refine zG_blk (c' := (3, [.inr (.inr (some 67))], [.inl 24, .inr (.inr (some 67))])) 2 hd0 hz (by rfl) ?_
  refine zG_putf (.inl rfl) hd0 hz rfl (by decide) rfl rfl ?_
  obtain ⟨M1, hM1⟩ : ∃ X : zM, X = zput M 67 7 24 := ⟨_, rfl⟩
  rw [← hM1]
  have hCM1 : qCI M1 := by rw [hM1]; exact hC.put (r := 67) (k := 7) rfl (.inl (by omega))
  have hWM1 : qFr [67] M M1 := by rw [hM1]; exact hW.put (by decide)
  have e2 : M1 67 7 = 24 := by rw [hM1]; exact qput_eq
  show zG n (0, 0) d 94 (6, [.inr (.inr (some 67))], []) M1 _
  refine zG_blk (c' := (8, [.inr (.inr (some 67))], [.inl 0, .inr (.inr (some 67))])) 2 hd0 hz (by rfl) ?_
  refine zG_putf (.inl rfl) hd0 hz rfl (by decide) rfl rfl ?_
  obtain ⟨M3, hM3⟩ : ∃ X : zM, X = zput M1 67 8 0 := ⟨_, rfl⟩
  rw [← hM3]
  have hCM3 : qCI M3 := by rw [hM3]; exact hCM1.put (r := 67) (k := 8) rfl (.inl (by omega))
  have hWM3 : qFr [67] M M3 := by rw [hM3]; exact hWM1.put (by decide)
  have e4 : M3 67 7 = M1 67 7 := by rw [hM3]; exact qput_nk (by decide)
  have e5 : M3 67 8 = 0 := by rw [hM3]; exact qput_eq
  show zG n (0, 0) d 94 (11, [.inr (.inr (some 67))], []) M3 _
  have j11 : ∀ (N : Nat) (M6 : zM) , (M6 67 4 - M6 67 6 : Int).toNat < N → qCI M6 → qFr [67] M M6 → zG n (0, 0) d 94 (11, [.inr (.inr (some 67))], []) M6 (fun v M' => qWf qCI [67] M M' ∧ qRn v) := by
    intro N
    induction N with
    | zero => intro M6 hN hCM6 hWM6; exact absurd hN (Nat.not_lt_zero _)
    | succ N ih11 =>
      intro M6 hN hCM6 hWM6
      have r7 := hCM6.rng 67 6 (by decide) (by decide)
      have r8 := hCM6.rng 67 4 (by decide) (by decide)
      refine zG_blk (c' := (19, [.inr (.inr (some 67))], [.inl (M6 67 4), .inl (M6 67 6)])) 4 hd0 hz (by rfl) ?_
      have j72 : zG n (0, 0) d 94 (72, [.inr (.inr (some 67))], []) M6 (fun v M' => qWf qCI [67] M M' ∧ qRn v) := by
        exact zG_ret hd0 hz rfl rfl ⟨⟨hCM6, hWM6⟩, rfl⟩
      refine zG_icmp_ge hd0 hz rfl (fun hb9 => ?_) (fun hb9 => ?_)
      · exact j72
      · refine zG_blk (c' := (27, [.inr (.inr (some 67))], [.inl (M6 67 6), .inr (.inr (some 67))])) 3 hd0 hz (by rfl) ?_
        refine zG_call hd0 hz (rfl : zP 97 = (zk_X7_letter, 2, (0, 0))) rfl rfl (Nat.le_of_ble_eq_true rfl) ⟨Nat.le_refl _, Nat.le_refl _⟩ (qm_97_67 (by omega) hCM6  (M6 67 6) (by omega)) (fun vr M10 hr => ?_)
        obtain ⟨hq, x11, rfl, hx11⟩ := hr
        replace hq := hq.symm; subst hq
        show zG n (0, 0) d 94 (30, [.inr (.inr (some 67))], [.inl x11]) M6 _
        refine zG_call hd0 hz (rfl : zP 98 = (zk_X7_isDigit, 1, (0, 0))) rfl rfl (Nat.le_of_ble_eq_true rfl) ⟨Nat.le_refl _, Nat.le_refl _⟩ (qm_98 (by omega) hCM6  x11 (by omega)) (fun vr M12 hr => ?_)
        obtain ⟨hq, x13, rfl, hx13⟩ := hr
        replace hq := hq.symm; subst hq
        show zG n (0, 0) d 94 (33, [.inr (.inr (some 67))], [.inl x13]) M6 _
        refine zG_if_eq hd0 hz rfl (fun hb14 => ?_) (fun hb14 => ?_)
        · exact j72
        · have r15 := hCM6.rng 67 8 (by decide) (by decide)
          obtain ⟨x16, hx16⟩ : ∃ x : Int, x = w32 (10 * (M6 67 8)) := ⟨_, rfl⟩
          have hx16r : qin x16 := by rw [hx16]; exact w32_in _
          refine zG_blk (c' := (49, [.inr (.inr (some 67))], [.inl (M6 67 6), .inr (.inr (some 67)), .inl x16, .inr (.inr (some 67))])) 8 hd0 hz (by subst hx16; rfl) ?_
          refine zG_call hd0 hz (rfl : zP 97 = (zk_X7_letter, 2, (0, 0))) rfl rfl (Nat.le_of_ble_eq_true rfl) ⟨Nat.le_refl _, Nat.le_refl _⟩ (qm_97_67 (by omega) hCM6  (M6 67 6) (by omega)) (fun vr M17 hr => ?_)
          obtain ⟨hq, x18, rfl, hx18⟩ := hr
          replace hq := hq.symm; subst hq
          show zG n (0, 0) d 94 (52, [.inr (.inr (some 67))], [.inl x18, .inl x16, .inr (.inr (some 67))]) M6 _
          obtain ⟨x19, hx19⟩ : ∃ x : Int, x = w32 (x16 + x18) := ⟨_, rfl⟩
          have hx19r : x19 = (x16 + x18 + 2147483648) % 4294967296 - 2147483648 := hx19
          obtain ⟨x20, hx20⟩ : ∃ x : Int, x = w32 (x19 - 48) := ⟨_, rfl⟩
          have hx20r : x20 = (x19 - 48 + 2147483648) % 4294967296 - 2147483648 := hx20
          refine zG_blk (c' := (56, [.inr (.inr (some 67))], [.inl x20, .inr (.inr (some 67))])) 3 hd0 hz (by subst hx20; subst hx19; rfl) ?_
          refine zG_putf (.inl rfl) hd0 hz rfl (by decide) rfl rfl ?_
          obtain ⟨M21, hM21⟩ : ∃ X : zM, X = zput M6 67 8 x20 := ⟨_, rfl⟩
          rw [← hM21]
          have hCM21 : qCI M21 := by rw [hM21]; exact hCM6.put (r := 67) (k := 8) rfl (.inl (by omega))
          have hWM21 : qFr [67] M M21 := by rw [hM21]; exact hWM6.put (by decide)
          have e22 : M21 67 6 = M6 67 6 := by rw [hM21]; exact qput_nk (by decide)
          have e23 : M21 67 4 = M6 67 4 := by rw [hM21]; exact qput_nk (by decide)
          have e24 : M21 67 8 = x20 := by rw [hM21]; exact qput_eq
          show zG n (0, 0) d 94 (59, [.inr (.inr (some 67))], []) M21 _
          obtain ⟨x25, hx25⟩ : ∃ x : Int, x = w32 ((M21 67 6) + 1) := ⟨_, rfl⟩
          have hx25r : x25 = ((M21 67 6) + 1 + 2147483648) % 4294967296 - 2147483648 := hx25
          refine zG_blk (c' := (66, [.inr (.inr (some 67))], [.inl x25, .inr (.inr (some 67))])) 5 hd0 hz (by subst hx25; rfl) ?_
          refine zG_putf (.inl rfl) hd0 hz rfl (by decide) rfl rfl ?_
          obtain ⟨M26, hM26⟩ : ∃ X : zM, X = zput M21 67 6 x25 := ⟨_, rfl⟩
          rw [← hM26]
          have hCM26 : qCI M26 := by rw [hM26]; exact hCM21.put (r := 67) (k := 6) rfl (.inl (by omega))
          have hWM26 : qFr [67] M M26 := by rw [hM26]; exact hWM21.put (by decide)
          have e27 : M26 67 4 = M21 67 4 := by rw [hM26]; exact qput_nk (by decide)
          have e28 : M26 67 8 = M21 67 8 := by rw [hM26]; exact qput_nk (by decide)
          have e29 : M26 67 6 = x25 := by rw [hM26]; exact qput_eq
          show zG n (0, 0) d 94 (69, [.inr (.inr (some 67))], []) M26 _
          refine zG_blk (c' := (11, [.inr (.inr (some 67))], [])) 1 hd0 hz (by rfl) ?_
          exact ih11 M26 (by omega) hCM26 hWM26
  exact j11 ((M3 67 4 - M3 67 6 : Int).toNat + 1) M3 (by omega) hCM3 hWM3
theorem qm_99 {n d : Nat} {M : zM} (hd : 1 ≤ d) (hC : qCI M) (a0 : Int) (ha0 : (-2147483648) ≤ a0 ∧ a0 ≤ 2147483647) : qOkP n d 99 [.inl a0] 1 M (qRi (fun x => 0 ≤ x ∧ x ≤ 1)) := by
  have hz : zP 99 = (zk_X7_isLetter, 1, (0, 0)) := rfl
  have hd0 : 0 < d := by omega
  show zG n (0, 0) d 99 (0, [.inl a0], []) M _
  refine zG_blk (c' := (3, [.inl a0], [.inl 97, .inl a0])) 2 hd0 hz (by rfl) ?_
  have j17 : ∀ (v1 : Int) , 0 ≤ v1 ∧ v1 ≤ 1 → zG n (0, 0) d 99 (17, [.inl a0], [.inl v1]) M (fun v M' => M' = M ∧ qRi (fun x => 0 ≤ x ∧ x ≤ 1) v) := by
    intro v1 hv1
    exact zG_zret hd0 hz rfl (by omega) ⟨rfl, _, rfl, by omega⟩
  have j16 : zG n (0, 0) d 99 (16, [.inl a0], []) M (fun v M' => M' = M ∧ qRi (fun x => 0 ≤ x ∧ x ≤ 1) v) := by
    refine zG_blk (c' := (17, [.inl a0], [.inl 0])) 1 hd0 hz (by rfl) ?_
    exact j17 0 (by omega)
  refine zG_icmp_lt hd0 hz rfl (fun hb2 => ?_) (fun hb2 => ?_)
  · exact j16
  · refine zG_blk (c' := (9, [.inl a0], [.inl 122, .inl a0])) 2 hd0 hz (by rfl) ?_
    refine zG_icmp_gt hd0 hz rfl (fun hb3 => ?_) (fun hb3 => ?_)
    · exact j16
    · refine zG_blk (c' := (17, [.inl a0], [.inl 1])) 2 hd0 hz (by rfl) ?_
      exact j17 1 (by omega)
theorem qm_303_4 {n d : Nat} {M : zM} (hd : 1 ≤ d) (hC : qCI M)  : qOkP n d 303 [.inr (.inr (some 4))] 1 M (qRi (fun x => 0 ≤ x ∧ x ≤ 0)) := by
  have hz : zP 303 = (zk_J0_coder_7d493, 1, (0, 0)) := rfl
  have hd0 : 0 < d := by omega
  show zG n (0, 0) d 303 (0, [.inr (.inr (some 4))], []) M _
  refine zG_blk (c' := (6, [.inr (.inr (some 4))], [])) 2 hd0 hz (by rfl) ?_
  have j14 : ∀ (v1 : Int) , 0 ≤ v1 ∧ v1 ≤ 0 → zG n (0, 0) d 303 (14, [.inr (.inr (some 4))], [.inl v1]) M (fun v M' => M' = M ∧ qRi (fun x => 0 ≤ x ∧ x ≤ 0) v) := by
    intro v1 hv1
    exact zG_ret hd0 hz rfl (if_pos (by omega)) ⟨rfl, _, rfl, by omega⟩
  have r2 := hC.st.1
  refine zG_blk (c' := (14, [.inr (.inr (some 4))], [.inl (M 4 1)])) 3 hd0 hz (by rfl) ?_
  exact j14 (M 4 1) (by omega)
theorem qm_302_4 {n d : Nat} {M : zM} (hd : 2 ≤ d) (hC : qCI M)  : qOkP n d 302 [.inr (.inr (some 4))] 1 M (qRi (fun x => 0 ≤ x ∧ x ≤ 82)) := by
  have hz : zP 302 = (zk_J0_length_8abf5, 1, (0, 0)) := rfl
  have hd0 : 0 < d := by omega
  show zG n (0, 0) d 302 (0, [.inr (.inr (some 4))], []) M _
  refine zG_blk (c' := (6, [.inr (.inr (some 4))], [.inr (.inr (some 4)), .inl 82])) 4 hd0 hz (by rfl) ?_
  refine zG_call hd0 hz (rfl : zP 303 = (zk_J0_coder_7d493, 1, (0, 0))) rfl rfl (Nat.le_of_ble_eq_true rfl) ⟨Nat.le_refl _, Nat.le_refl _⟩ (qm_303_4 (by omega) hC  ) (fun vr M1 hr => ?_)
  obtain ⟨hq, x2, rfl, hx2⟩ := hr
  replace hq := hq.symm; subst hq
  show zG n (0, 0) d 302 (9, [.inr (.inr (some 4))], [.inl x2, .inl 82]) M _
  obtain ⟨x3, hx3⟩ : ∃ x : Int, x = zbshr 82 x2 := ⟨_, rfl⟩
  have hx3r := qbshr_n 82 x2 (by omega); rw [← hx3] at hx3r
  refine zG_blk (c' := (10, [.inr (.inr (some 4))], [.inl x3])) 1 hd0 hz (by subst hx3; rfl) ?_
  exact zG_ret hd0 hz rfl rfl ⟨rfl, _, rfl, by omega⟩
theorem qm_304_4 {n d : Nat} {M : zM} (hd : 1 ≤ d) (hC : qCI M)  : qOkP n d 304 [.inr (.inr (some 4))] 1 M (qRi (fun x => 1 ≤ x ∧ x ≤ 1)) := by
  have hz : zP 304 = (zk_J0_isLatin1_aae02, 1, (0, 0)) := rfl
  have hd0 : 0 < d := by omega
  show zG n (0, 0) d 304 (0, [.inr (.inr (some 4))], []) M _
  refine zG_blk (c' := (6, [.inr (.inr (some 4))], [])) 2 hd0 hz (by rfl) ?_
  have j18 : ∀ (v1 : Int) , 1 ≤ v1 ∧ v1 ≤ 1 → zG n (0, 0) d 304 (18, [.inr (.inr (some 4))], [.inl v1]) M (fun v M' => M' = M ∧ qRi (fun x => 1 ≤ x ∧ x ≤ 1) v) := by
    intro v1 hv1
    exact zG_zret hd0 hz rfl (by omega) ⟨rfl, _, rfl, by omega⟩
  have r2 := hC.st.1
  refine zG_blk (c' := (10, [.inr (.inr (some 4))], [.inl (M 4 1)])) 2 hd0 hz (by rfl) ?_
  refine zG_if_ne hd0 hz rfl (fun hb3 => ?_) (fun hb3 => ?_)
  · exfalso; omega
  · refine zG_blk (c' := (18, [.inr (.inr (some 4))], [.inl 1])) 2 hd0 hz (by rfl) ?_
    exact j18 1 (by omega)
theorem qm_310 {n d : Nat} {M : zM} (hd : 1 ≤ d) (hC : qCI M) (a0 : Int) (ha0 : 0 ≤ a0 ∧ a0 ≤ 81) (a1 : Int) (ha1 : 82 ≤ a1 ∧ a1 ≤ 82) : qOkP n d 310 [.inl a0, .inl a1, zN] 3 M (qRi (fun x => 0 ≤ x ∧ x ≤ 81)) := by
  have hz : zP 310 = (zk_J3_checkIndex_8e157, 3, (0, 0)) := rfl
  have hd0 : 0 < d := by omega
  show zG n (0, 0) d 310 (0, [.inl a0, .inl a1, zN], []) M _
  refine zG_blk (c' := (1, [.inl a0, .inl a1, zN], [.inl a0])) 1 hd0 hz (by rfl) ?_
  refine zG_if_lt hd0 hz rfl (fun hb1 => ?_) (fun hb1 => ?_)
  · exfalso; omega
  · refine zG_blk (c' := (6, [.inl a0, .inl a1, zN], [.inl a1, .inl a0])) 2 hd0 hz (by rfl) ?_
    refine zG_icmp_lt hd0 hz rfl (fun hb2 => ?_) (fun hb2 => ?_)
    · refine zG_blk (c' := (17, [.inl a0, .inl a1, zN], [.inl a0])) 1 hd0 hz (by rfl) ?_
      exact zG_ret hd0 hz rfl rfl ⟨rfl, _, rfl, by omega⟩
    · exfalso; omega
theorem qm_305 {n d : Nat} {M : zM} (hd : 2 ≤ d) (hC : qCI M) (a0 : Int) (ha0 : 0 ≤ a0 ∧ a0 ≤ 81) (a1 : Int) (ha1 : 82 ≤ a1 ∧ a1 ≤ 82) : qOkP n d 305 [.inl a0, .inl a1] 2 M qRn := by
  have hz : zP 305 = (zk_J0_checkIndex_df160, 2, (0, 0)) := rfl
  have hd0 : 0 < d := by omega
  show zG n (0, 0) d 305 (0, [.inl a0, .inl a1], []) M _
  refine zG_blk (c' := (5, [.inl a0, .inl a1], [zN, .inl a1, .inl a0])) 3 hd0 hz (by rfl) ?_
  refine zG_call hd0 hz (rfl : zP 310 = (zk_J3_checkIndex_8e157, 3, (0, 0))) rfl rfl (Nat.le_of_ble_eq_true rfl) ⟨Nat.le_refl _, Nat.le_refl _⟩ (qm_310 (by omega) hC  a0 (by omega) a1 (by omega)) (fun vr M1 hr => ?_)
  obtain ⟨hq, x2, rfl, hx2⟩ := hr
  replace hq := hq.symm; subst hq
  show zG n (0, 0) d 305 (8, [.inl a0, .inl a1], [.inl x2]) M _
  refine zG_blk (c' := (9, [.inl a0, .inl a1], [])) 1 hd0 hz (by rfl) ?_
  exact zG_ret hd0 hz rfl rfl ⟨rfl, rfl⟩
theorem qm_306_5 {n d : Nat} {M : zM} (hd : 3 ≤ d) (hC : qCI M) (a1 : Int) (ha1 : 0 ≤ a1 ∧ a1 ≤ 81) : qOkP n d 306 [.inr (.inr (some 5)), .inl a1] 2 M (qRi (fun x => 0 ≤ x ∧ x ≤ 65535)) := by
  have hz : zP 306 = (zk_J1_charAt_3b067, 2, (0, 0)) := rfl
  have hd0 : 0 < d := by omega
  show zG n (0, 0) d 306 (0, [.inr (.inr (some 5)), .inl a1], []) M _
  refine zG_blk (c' := (3, [.inr (.inr (some 5)), .inl a1], [.inl 82, .inl a1])) 3 hd0 hz (by rfl) ?_
  refine zG_call hd0 hz (rfl : zP 305 = (zk_J0_checkIndex_df160, 2, (0, 0))) rfl rfl (Nat.le_of_ble_eq_true rfl) ⟨Nat.le_refl _, Nat.le_refl _⟩ (qm_305 (by omega) hC  a1 (by omega) 82 (by omega)) (fun vr M1 hr => ?_)
  obtain ⟨hq, rfl⟩ := hr
  replace hq := hq.symm; subst hq
  show zG n (0, 0) d 306 (6, [.inr (.inr (some 5)), .inl a1], []) M _
  refine zG_blk (c' := (8, [.inr (.inr (some 5)), .inl a1], [.inl a1, .inr (.inr (some 5))])) 2 hd0 hz (by rfl) ?_
  refine zG_bald hd0 hz rfl rfl (.inr rfl) (by omega) ?_
  have hx3 := hC.rng 5 (a1).toNat (by decide) (by decide)
  generalize M 5 (a1).toNat = x3 at hx3 ⊢
  show zG n (0, 0) d 306 (9, [.inr (.inr (some 5)), .inl a1], [.inl x3]) M _
  obtain ⟨x4, hx4⟩ : ∃ x : Int, x = zband x3 255 := ⟨_, rfl⟩
  have hx4r := qband_r x3 255 (by omega) (by omega); rw [← hx4] at hx4r
  obtain ⟨x5, hx5⟩ : ∃ x : Int, x = x4 % 65536 := ⟨_, rfl⟩
  refine zG_blk (c' := (14, [.inr (.inr (some 5)), .inl a1], [.inl x5])) 3 hd0 hz (by subst hx5; subst hx4; rfl) ?_
  exact zG_ret hd0 hz rfl (if_pos (by omega)) ⟨rfl, _, rfl, by omega⟩
theorem qm_299_4 {n d : Nat} {M : zM} (hd : 4 ≤ d) (hC : qCI M) (a1 : Int) (ha1 : 0 ≤ a1 ∧ a1 ≤ 81) : qOkP n d 299 [.inr (.inr (some 4)), .inl a1] 2 M (qRi (fun x => 0 ≤ x ∧ x ≤ 65535)) := by
  have hz : zP 299 = (zk_J0_charAt_5068e, 2, (0, 0)) := rfl
  have hd0 : 0 < d := by omega
  show zG n (0, 0) d 299 (0, [.inr (.inr (some 4)), .inl a1], []) M _
  refine zG_blk (c' := (1, [.inr (.inr (some 4)), .inl a1], [.inr (.inr (some 4))])) 1 hd0 hz (by rfl) ?_
  refine zG_call hd0 hz (rfl : zP 304 = (zk_J0_isLatin1_aae02, 1, (0, 0))) rfl rfl (Nat.le_of_ble_eq_true rfl) ⟨Nat.le_refl _, Nat.le_refl _⟩ (qm_304_4 (by omega) hC  ) (fun vr M1 hr => ?_)
  obtain ⟨hq, x2, rfl, hx2⟩ := hr
  replace hq := hq.symm; subst hq
  show zG n (0, 0) d 299 (4, [.inr (.inr (some 4)), .inl a1], [.inl x2]) M _
  refine zG_if_eq hd0 hz rfl (fun hb3 => ?_) (fun hb3 => ?_)
  · exfalso; omega
  · refine zG_blk (c' := (12, [.inr (.inr (some 4)), .inl a1], [.inl a1, .inr (.inr (some 5))])) 3 hd0 hz (by rfl) ?_
    refine zG_call hd0 hz (rfl : zP 306 = (zk_J1_charAt_3b067, 2, (0, 0))) rfl rfl (Nat.le_of_ble_eq_true rfl) ⟨Nat.le_refl _, Nat.le_refl _⟩ (qm_306_5 (by omega) hC  a1 (by omega)) (fun vr M4 hr => ?_)
    obtain ⟨hq, x5, rfl, hx5⟩ := hr
    replace hq := hq.symm; subst hq
    show zG n (0, 0) d 299 (15, [.inr (.inr (some 4)), .inl a1], [.inl x5]) M _
    exact zG_ret hd0 hz rfl (if_pos (by omega)) ⟨rfl, _, rfl, by omega⟩
theorem qm_96_67 {n d : Nat} {M : zM} (hd : 5 ≤ d) (hC : qCI M)  : qOkP n d 96 [.inr (.inr (some 67))] 6 M (qRi (fun x => (-2147483648) ≤ x ∧ x ≤ 2147483647)) := by
  have hz : zP 96 = (zk_X7_wordThere, 6, (0, 0)) := rfl
  have hd0 : 0 < d := by omega
  show zG n (0, 0) d 96 (0, [.inr (.inr (some 67)), zN, zN, zN, zN, zN], []) M _
  have r1 := hC.rng 67 5 (by decide) (by decide)
  refine zG_blk (c' := (12, [.inr (.inr (some 67)), .inl 0, .inl (M 67 5), .inl 1, .inl 0, zN], [])) 9 hd0 hz (by rfl) ?_
  have j12 : ∀ (N : Nat) (v2 v3 v4 v5 : Int) , (82 - v5 : Int).toNat < N → (-2147483648) ≤ v2 ∧ v2 ≤ 2147483647 → (-2147483648) ≤ v3 ∧ v3 ≤ 2147483647 → 0 ≤ v4 ∧ v4 ≤ 1 → 0 ≤ v5 ∧ v5 ≤ 82 → zG n (0, 0) d 96 (12, [.inr (.inr (some 67)), .inl v2, .inl v3, .inl v4, .inl v5, zN], []) M (fun v M' => M' = M ∧ qRi (fun x => (-2147483648) ≤ x ∧ x ≤ 2147483647) v) := by
    intro N
    induction N with
    | zero => intro v2 v3 v4 v5 hN hv2 hv3 hv4 hv5; exact absurd hN (Nat.not_lt_zero _)
    | succ N ih12 =>
      intro v2 v3 v4 v5 hN hv2 hv3 hv4 hv5
      refine zG_blk (c' := (16, [.inr (.inr (some 67)), .inl v2, .inl v3, .inl v4, .inl v5, zN], [.inr (.inr (some 4)), .inl v5])) 2 hd0 hz (by rfl) ?_
      refine zG_call hd0 hz (rfl : zP 302 = (zk_J0_length_8abf5, 1, (0, 0))) rfl rfl (Nat.le_of_ble_eq_true rfl) ⟨Nat.le_refl _, Nat.le_refl _⟩ (qm_302_4 (by omega) hC  ) (fun vr M6 hr => ?_)
      obtain ⟨hq, x7, rfl, hx7⟩ := hr
      replace hq := hq.symm; subst hq
      show zG n (0, 0) d 96 (19, [.inr (.inr (some 67)), .inl v2, .inl v3, .inl v4, .inl v5, zN], [.inl x7, .inl v5]) M _
      refine zG_icmp_ge hd0 hz rfl (fun hb8 => ?_) (fun hb8 => ?_)
      · refine zG_blk (c' := (103, [.inr (.inr (some 67)), .inl v2, .inl v3, .inl v4, .inl v5, zN], [.inl (-1)])) 1 hd0 hz (by rfl) ?_
        exact zG_ret hd0 hz rfl rfl ⟨rfl, _, rfl, by omega⟩
      · refine zG_blk (c' := (26, [.inr (.inr (some 67)), .inl v2, .inl v3, .inl v4, .inl v5, zN], [.inl v5, .inr (.inr (some 4))])) 2 hd0 hz (by rfl) ?_
        refine zG_call hd0 hz (rfl : zP 299 = (zk_J0_charAt_5068e, 2, (0, 0))) rfl rfl (Nat.le_of_ble_eq_true rfl) ⟨Nat.le_refl _, Nat.le_refl _⟩ (qm_299_4 (by omega) hC  v5 (by omega)) (fun vr M9 hr => ?_)
        obtain ⟨hq, x10, rfl, hx10⟩ := hr
        replace hq := hq.symm; subst hq
        show zG n (0, 0) d 96 (29, [.inr (.inr (some 67)), .inl v2, .inl v3, .inl v4, .inl v5, zN], [.inl x10]) M _
        refine zG_blk (c' := (35, [.inr (.inr (some 67)), .inl v2, .inl v3, .inl v4, .inl v5, .inl x10], [.inl 32, .inl x10])) 3 hd0 hz (by rfl) ?_
        have j96 : ∀ (v11 v12 v13 : Int) , (-2147483648) ≤ v11 ∧ v11 ≤ 2147483647 → (-2147483648) ≤ v12 ∧ v12 ≤ 2147483647 → 0 ≤ v13 ∧ v13 ≤ 1 → zG n (0, 0) d 96 (96, [.inr (.inr (some 67)), .inl v11, .inl v12, .inl v13, .inl v5, .inl x10], []) M (fun v M' => M' = M ∧ qRi (fun x => (-2147483648) ≤ x ∧ x ≤ 2147483647) v) := by
          intro v11 v12 v13 hv11 hv12 hv13
          obtain ⟨x14, hx14⟩ : ∃ x : Int, x = w32 (v5 + 1) := ⟨_, rfl⟩
          have hx14e : x14 = v5 + 1 := by rw [hx14]; exact w32_id (by omega)
          refine zG_blk (c' := (12, [.inr (.inr (some 67)), .inl v11, .inl v12, .inl v13, .inl x14, .inl x10], [])) 2 hd0 hz (by subst hx14; rfl) ?_
          exact zG_weak (ih12 v11 v12 v13 x14 (by omega) (by omega) (by omega) (by omega) (by omega)) ⟨.inr rfl, .inr rfl, .inr rfl, .inr rfl, .inr rfl, .inl rfl, trivial⟩
        refine zG_icmp_ne hd0 hz rfl (fun hb15 => ?_) (fun hb15 => ?_)
        · refine zG_blk (c' := (66, [.inr (.inr (some 67)), .inl v2, .inl v3, .inl v4, .inl v5, .inl x10], [.inl v4])) 1 hd0 hz (by rfl) ?_
          have j92 : ∀ (v16 : Int) , 0 ≤ v16 ∧ v16 ≤ 1 → zG n (0, 0) d 96 (92, [.inr (.inr (some 67)), .inl v2, .inl v3, .inl v4, .inl v5, .inl x10], [.inl v16]) M (fun v M' => M' = M ∧ qRi (fun x => (-2147483648) ≤ x ∧ x ≤ 2147483647) v) := by
            intro v16 hv16
            obtain ⟨x17, hx17⟩ : ∃ x : Int, x = w32 (v3 + 1) := ⟨_, rfl⟩
            have hx17r : x17 = (v3 + 1 + 2147483648) % 4294967296 - 2147483648 := hx17
            refine zG_blk (c' := (96, [.inr (.inr (some 67)), .inl v2, .inl x17, .inl v16, .inl v5, .inl x10], [])) 2 hd0 hz (by subst hx17; rfl) ?_
            exact j96 v2 x17 v16 (by omega) (by omega) (by omega)
          have j91 : zG n (0, 0) d 96 (91, [.inr (.inr (some 67)), .inl v2, .inl v3, .inl v4, .inl v5, .inl x10], []) M (fun v M' => M' = M ∧ qRi (fun x => (-2147483648) ≤ x ∧ x ≤ 2147483647) v) := by
            refine zG_blk (c' := (92, [.inr (.inr (some 67)), .inl v2, .inl v3, .inl v4, .inl v5, .inl x10], [.inl 0])) 1 hd0 hz (by rfl) ?_
            exact j92 0 (by omega)
          refine zG_if_eq hd0 hz rfl (fun hb18 => ?_) (fun hb18 => ?_)
          · exact j91
          · have r19 := hC.rng 67 6 (by decide) (by decide)
            refine zG_blk (c' := (74, [.inr (.inr (some 67)), .inl v2, .inl v3, .inl v4, .inl v5, .inl x10], [.inl (M 67 6), .inl v3])) 3 hd0 hz (by rfl) ?_
            refine zG_icmp_ge hd0 hz rfl (fun hb20 => ?_) (fun hb20 => ?_)
            · exact j91
            · refine zG_blk (c' := (79, [.inr (.inr (some 67)), .inl v2, .inl v3, .inl v4, .inl v5, .inl x10], [.inl v3, .inr (.inr (some 67))])) 2 hd0 hz (by rfl) ?_
              refine zG_call hd0 hz (rfl : zP 97 = (zk_X7_letter, 2, (0, 0))) rfl rfl (Nat.le_of_ble_eq_true rfl) ⟨Nat.le_refl _, Nat.le_refl _⟩ (qm_97_67 (by omega) hC  v3 (by omega)) (fun vr M21 hr => ?_)
              obtain ⟨hq, x22, rfl, hx22⟩ := hr
              replace hq := hq.symm; subst hq
              show zG n (0, 0) d 96 (82, [.inr (.inr (some 67)), .inl v2, .inl v3, .inl v4, .inl v5, .inl x10], [.inl x22]) M _
              refine zG_blk (c' := (84, [.inr (.inr (some 67)), .inl v2, .inl v3, .inl v4, .inl v5, .inl x10], [.inl x10, .inl x22])) 1 hd0 hz (by rfl) ?_
              refine zG_icmp_ne hd0 hz rfl (fun hb23 => ?_) (fun hb23 => ?_)
              · exact j91
              · refine zG_blk (c' := (92, [.inr (.inr (some 67)), .inl v2, .inl v3, .inl v4, .inl v5, .inl x10], [.inl 1])) 2 hd0 hz (by rfl) ?_
                exact j92 1 (by omega)
        · refine zG_blk (c' := (39, [.inr (.inr (some 67)), .inl v2, .inl v3, .inl v4, .inl v5, .inl x10], [.inl v4])) 1 hd0 hz (by rfl) ?_
          have j52 : zG n (0, 0) d 96 (52, [.inr (.inr (some 67)), .inl v2, .inl v3, .inl v4, .inl v5, .inl x10], []) M (fun v M' => M' = M ∧ qRi (fun x => (-2147483648) ≤ x ∧ x ≤ 2147483647) v) := by
            obtain ⟨x24, hx24⟩ : ∃ x : Int, x = w32 (v2 + 1) := ⟨_, rfl⟩
            have hx24r : x24 = (v2 + 1 + 2147483648) % 4294967296 - 2147483648 := hx24
            refine zG_blk (c' := (96, [.inr (.inr (some 67)), .inl x24, .inl (M 67 5), .inl 1, .inl v5, .inl x10], [])) 7 hd0 hz (by subst hx24; rfl) ?_
            exact j96 x24 (M 67 5) 1 (by omega) (by omega) (by omega)
          refine zG_if_eq hd0 hz rfl (fun hb25 => ?_) (fun hb25 => ?_)
          · exact j52
          · have r26 := hC.rng 67 6 (by decide) (by decide)
            refine zG_blk (c' := (47, [.inr (.inr (some 67)), .inl v2, .inl v3, .inl v4, .inl v5, .inl x10], [.inl (M 67 6), .inl v3])) 3 hd0 hz (by rfl) ?_
            refine zG_icmp_ne hd0 hz rfl (fun hb27 => ?_) (fun hb27 => ?_)
            · exact j52
            · refine zG_blk (c' := (51, [.inr (.inr (some 67)), .inl v2, .inl v3, .inl v4, .inl v5, .inl x10], [.inl v2])) 1 hd0 hz (by rfl) ?_
              exact zG_ret hd0 hz rfl rfl ⟨rfl, _, rfl, by omega⟩
  exact j12 ((82 - 0 : Int).toNat + 1) 0 (M 67 5) 1 0 (by omega) (by omega) (by omega) (by omega) (by omega)
theorem qm_92_67 {n d : Nat} {M : zM} (hd : 1 ≤ d) (hC : qCI M) (a1 : Int) (ha1 : (-2147483648) ≤ a1 ∧ a1 ≤ 2147483647) : qOkM n d 92 [.inr (.inr (some 67)), .inl a1] 2 qCI [67] M qRn := by
  have hz : zP 92 = (zk_X7_fail, 2, (0, 0)) := rfl
  have hd0 : 0 < d := by omega
  have hW : qFr [67] M M := qFr.rfl
  show zG n (0, 0) d 92 (0, [.inr (.inr (some 67)), .inl a1], []) M _
  have r1 := hC.rng 67 10 (by decide) (by decide)
  refine zG_blk (c' := (5, [.inr (.inr (some 67)), .inl a1], [.inl (-1), .inl (M 67 10)])) 3 hd0 hz (by rfl) ?_
  have j21 : ∀ (M2 : zM) , qCI M2 → qFr [67] M M2 → zG n (0, 0) d 92 (21, [.inr (.inr (some 67)), .inl a1], []) M2 (fun v M' => qWf qCI [67] M M' ∧ qRn v) := by
    intro M2 hCM2 hWM2
    exact zG_ret hd0 hz rfl rfl ⟨⟨hCM2, hWM2⟩, rfl⟩
  refine zG_icmp_ne hd0 hz rfl (fun hb3 => ?_) (fun hb3 => ?_)
  · exact j21 M hC hW
  · have r4 := hC.rng 67 5 (by decide) (by decide)
    obtain ⟨x5, hx5⟩ : ∃ x : Int, x = w32 (10 * (M 67 5)) := ⟨_, rfl⟩
    have hx5r : qin x5 := by rw [hx5]; exact w32_in _
    obtain ⟨x6, hx6⟩ : ∃ x : Int, x = w32 (x5 + a1) := ⟨_, rfl⟩
    have hx6r : x6 = (x5 + a1 + 2147483648) % 4294967296 - 2147483648 := hx6
    refine zG_blk (c' := (18, [.inr (.inr (some 67)), .inl a1], [.inl x6, .inr (.inr (some 67))])) 7 hd0 hz (by subst hx6; subst hx5; rfl) ?_
    refine zG_putf (.inl rfl) hd0 hz rfl (by decide) rfl rfl ?_
    obtain ⟨M7, hM7⟩ : ∃ X : zM, X = zput M 67 10 x6 := ⟨_, rfl⟩
    rw [← hM7]
    have hCM7 : qCI M7 := by rw [hM7]; exact hC.put (r := 67) (k := 10) rfl (.inl (by omega))
    have hWM7 : qFr [67] M M7 := by rw [hM7]; exact hW.put (by decide)
    have e8 : M7 67 5 = M 67 5 := by rw [hM7]; exact qput_nk (by decide)
    have e9 : M7 67 10 = x6 := by rw [hM7]; exact qput_eq
    show zG n (0, 0) d 92 (21, [.inr (.inr (some 67)), .inl a1], []) M7 _
    exact j21 M7 hCM7 hWM7
theorem qm_95_67 {n d : Nat} {M : zM} (hd : 6 ≤ d) (hC : qCI M)  : qOkM n d 95 [.inr (.inr (some 67))] 1 qCI [67] M qRn := by
  have hz : zP 95 = (zk_X7_nextWord, 1, (0, 0)) := rfl
  have hd0 : 0 < d := by omega
  have hW : qFr [67] M M := qFr.rfl
  show zG n (0, 0) d 95 (0, [.inr (.inr (some 67))], []) M _
  have j0 : ∀ (N : Nat) (M1 : zM) , (M1 67 4 - M1 67 6 : Int).toNat < N → qCI M1 → qFr [67] M M1 → zG n (0, 0) d 95 (0, [.inr (.inr (some 67))], []) M1 (fun v M' => qWf qCI [67] M M' ∧ qRn v) := by
    intro N
    induction N with
    | zero => intro M1 hN hCM1 hWM1; exact absurd hN (Nat.not_lt_zero _)
    | succ N ih0 =>
      intro M1 hN hCM1 hWM1
      have r2 := hCM1.rng 67 6 (by decide) (by decide)
      have r3 := hCM1.rng 67 4 (by decide) (by decide)
      refine zG_blk (c' := (8, [.inr (.inr (some 67))], [.inl (M1 67 4), .inl (M1 67 6)])) 4 hd0 hz (by rfl) ?_
      have j38 : zG n (0, 0) d 95 (38, [.inr (.inr (some 67))], []) M1 (fun v M' => qWf qCI [67] M M' ∧ qRn v) := by
        refine zG_blk (c' := (40, [.inr (.inr (some 67))], [.inr (.inr (some 67)), .inr (.inr (some 67))])) 2 hd0 hz (by rfl) ?_
        refine zG_call hd0 hz (rfl : zP 96 = (zk_X7_wordThere, 6, (0, 0))) rfl rfl (Nat.le_of_ble_eq_true rfl) ⟨Nat.le_refl _, Nat.le_refl _⟩ (qm_96_67 (by omega) hCM1  ) (fun vr M4 hr => ?_)
        obtain ⟨hq, x5, rfl, hx5⟩ := hr
        replace hq := hq.symm; subst hq
        show zG n (0, 0) d 95 (43, [.inr (.inr (some 67))], [.inl x5, .inr (.inr (some 67))]) M1 _
        refine zG_putf (.inl rfl) hd0 hz rfl (by decide) rfl rfl ?_
        obtain ⟨M6, hM6⟩ : ∃ X : zM, X = zput M1 67 7 x5 := ⟨_, rfl⟩
        rw [← hM6]
        have hCM6 : qCI M6 := by rw [hM6]; exact hCM1.put (r := 67) (k := 7) rfl (.inl (by omega))
        have hWM6 : qFr [67] M M6 := by rw [hM6]; exact hWM1.put (by decide)
        have e7 : M6 67 6 = M1 67 6 := by rw [hM6]; exact qput_nk (by decide)
        have e8 : M6 67 4 = M1 67 4 := by rw [hM6]; exact qput_nk (by decide)
        have e9 : M6 67 7 = x5 := by rw [hM6]; exact qput_eq
        show zG n (0, 0) d 95 (46, [.inr (.inr (some 67))], []) M6 _
        refine zG_blk (c' := (51, [.inr (.inr (some 67))], [.inl (-1), .inl (M6 67 7)])) 3 hd0 hz (by rfl) ?_
        have j59 : ∀ (M10 : zM) , qCI M10 → qFr [67] M M10 → zG n (0, 0) d 95 (59, [.inr (.inr (some 67))], []) M10 (fun v M' => qWf qCI [67] M M' ∧ qRn v) := by
          intro M10 hCM10 hWM10
          exact zG_ret hd0 hz rfl rfl ⟨⟨hCM10, hWM10⟩, rfl⟩
        refine zG_icmp_ne hd0 hz rfl (fun hb11 => ?_) (fun hb11 => ?_)
        · exact j59 M6 hCM6 hWM6
        · refine zG_blk (c' := (56, [.inr (.inr (some 67))], [.inl 4, .inr (.inr (some 67))])) 2 hd0 hz (by rfl) ?_
          refine zG_call hd0 hz (rfl : zP 92 = (zk_X7_fail, 2, (0, 0))) rfl rfl (Nat.le_of_ble_eq_true rfl) ⟨Nat.le_refl _, Nat.le_refl _⟩ (qm_92_67 (by omega) hCM6  4 (by omega)) (fun vr M12 hr => ?_)
          obtain ⟨⟨hCM12, hFM12⟩, rfl⟩ := hr
          have hWM12 : qFr [67] M M12 := hWM6.tr hFM12 (by decide)
          show zG n (0, 0) d 95 (59, [.inr (.inr (some 67))], []) M12 _
          exact j59 M12 hCM12 hWM12
      refine zG_icmp_ge hd0 hz rfl (fun hb14 => ?_) (fun hb14 => ?_)
      · exact j38
      · refine zG_blk (c' := (16, [.inr (.inr (some 67))], [.inl (M1 67 6), .inr (.inr (some 67))])) 3 hd0 hz (by rfl) ?_
        refine zG_call hd0 hz (rfl : zP 97 = (zk_X7_letter, 2, (0, 0))) rfl rfl (Nat.le_of_ble_eq_true rfl) ⟨Nat.le_refl _, Nat.le_refl _⟩ (qm_97_67 (by omega) hCM1  (M1 67 6) (by omega)) (fun vr M15 hr => ?_)
        obtain ⟨hq, x16, rfl, hx16⟩ := hr
        replace hq := hq.symm; subst hq
        show zG n (0, 0) d 95 (19, [.inr (.inr (some 67))], [.inl x16]) M1 _
        refine zG_call hd0 hz (rfl : zP 99 = (zk_X7_isLetter, 1, (0, 0))) rfl rfl (Nat.le_of_ble_eq_true rfl) ⟨Nat.le_refl _, Nat.le_refl _⟩ (qm_99 (by omega) hCM1  x16 (by omega)) (fun vr M17 hr => ?_)
        obtain ⟨hq, x18, rfl, hx18⟩ := hr
        replace hq := hq.symm; subst hq
        show zG n (0, 0) d 95 (22, [.inr (.inr (some 67))], [.inl x18]) M1 _
        refine zG_if_eq hd0 hz rfl (fun hb19 => ?_) (fun hb19 => ?_)
        · exact j38
        · obtain ⟨x20, hx20⟩ : ∃ x : Int, x = w32 ((M1 67 6) + 1) := ⟨_, rfl⟩
          have hx20r : x20 = ((M1 67 6) + 1 + 2147483648) % 4294967296 - 2147483648 := hx20
          refine zG_blk (c' := (32, [.inr (.inr (some 67))], [.inl x20, .inr (.inr (some 67))])) 5 hd0 hz (by subst hx20; rfl) ?_
          refine zG_putf (.inl rfl) hd0 hz rfl (by decide) rfl rfl ?_
          obtain ⟨M21, hM21⟩ : ∃ X : zM, X = zput M1 67 6 x20 := ⟨_, rfl⟩
          rw [← hM21]
          have hCM21 : qCI M21 := by rw [hM21]; exact hCM1.put (r := 67) (k := 6) rfl (.inl (by omega))
          have hWM21 : qFr [67] M M21 := by rw [hM21]; exact hWM1.put (by decide)
          have e22 : M21 67 4 = M1 67 4 := by rw [hM21]; exact qput_nk (by decide)
          have e23 : M21 67 6 = x20 := by rw [hM21]; exact qput_eq
          show zG n (0, 0) d 95 (35, [.inr (.inr (some 67))], []) M21 _
          refine zG_blk (c' := (0, [.inr (.inr (some 67))], [])) 1 hd0 hz (by rfl) ?_
          exact ih0 M21 (by omega) hCM21 hWM21
  exact j0 ((M 67 4 - M 67 6 : Int).toNat + 1) M (by omega) hC hW
theorem qm_304_6 {n d : Nat} {M : zM} (hd : 1 ≤ d) (hC : qCI M)  : qOkP n d 304 [.inr (.inr (some 6))] 1 M (qRi (fun x => 1 ≤ x ∧ x ≤ 1)) := by
  have hz : zP 304 = (zk_J0_isLatin1_aae02, 1, (0, 0)) := rfl
  have hd0 : 0 < d := by omega
  show zG n (0, 0) d 304 (0, [.inr (.inr (some 6))], []) M _
  refine zG_blk (c' := (6, [.inr (.inr (some 6))], [])) 2 hd0 hz (by rfl) ?_
  have j18 : ∀ (v1 : Int) , 1 ≤ v1 ∧ v1 ≤ 1 → zG n (0, 0) d 304 (18, [.inr (.inr (some 6))], [.inl v1]) M (fun v M' => M' = M ∧ qRi (fun x => 1 ≤ x ∧ x ≤ 1) v) := by
    intro v1 hv1
    exact zG_zret hd0 hz rfl (by omega) ⟨rfl, _, rfl, by omega⟩
  have r2 := hC.st.2
  refine zG_blk (c' := (10, [.inr (.inr (some 6))], [.inl (M 6 1)])) 2 hd0 hz (by rfl) ?_
  refine zG_if_ne hd0 hz rfl (fun hb3 => ?_) (fun hb3 => ?_)
  · exfalso; omega
  · refine zG_blk (c' := (18, [.inr (.inr (some 6))], [.inl 1])) 2 hd0 hz (by rfl) ?_
    exact j18 1 (by omega)
theorem qm_303_6 {n d : Nat} {M : zM} (hd : 1 ≤ d) (hC : qCI M)  : qOkP n d 303 [.inr (.inr (some 6))] 1 M (qRi (fun x => 0 ≤ x ∧ x ≤ 0)) := by
  have hz : zP 303 = (zk_J0_coder_7d493, 1, (0, 0)) := rfl
  have hd0 : 0 < d := by omega
  show zG n (0, 0) d 303 (0, [.inr (.inr (some 6))], []) M _
  refine zG_blk (c' := (6, [.inr (.inr (some 6))], [])) 2 hd0 hz (by rfl) ?_
  have j14 : ∀ (v1 : Int) , 0 ≤ v1 ∧ v1 ≤ 0 → zG n (0, 0) d 303 (14, [.inr (.inr (some 6))], [.inl v1]) M (fun v M' => M' = M ∧ qRi (fun x => 0 ≤ x ∧ x ≤ 0) v) := by
    intro v1 hv1
    exact zG_ret hd0 hz rfl (if_pos (by omega)) ⟨rfl, _, rfl, by omega⟩
  have r2 := hC.st.2
  refine zG_blk (c' := (14, [.inr (.inr (some 6))], [.inl (M 6 1)])) 3 hd0 hz (by rfl) ?_
  exact j14 (M 6 1) (by omega)
theorem qm_302_6 {n d : Nat} {M : zM} (hd : 2 ≤ d) (hC : qCI M)  : qOkP n d 302 [.inr (.inr (some 6))] 1 M (qRi (fun x => 0 ≤ x ∧ x ≤ 9)) := by
  have hz : zP 302 = (zk_J0_length_8abf5, 1, (0, 0)) := rfl
  have hd0 : 0 < d := by omega
  show zG n (0, 0) d 302 (0, [.inr (.inr (some 6))], []) M _
  refine zG_blk (c' := (6, [.inr (.inr (some 6))], [.inr (.inr (some 6)), .inl 9])) 4 hd0 hz (by rfl) ?_
  refine zG_call hd0 hz (rfl : zP 303 = (zk_J0_coder_7d493, 1, (0, 0))) rfl rfl (Nat.le_of_ble_eq_true rfl) ⟨Nat.le_refl _, Nat.le_refl _⟩ (qm_303_6 (by omega) hC  ) (fun vr M1 hr => ?_)
  obtain ⟨hq, x2, rfl, hx2⟩ := hr
  replace hq := hq.symm; subst hq
  show zG n (0, 0) d 302 (9, [.inr (.inr (some 6))], [.inl x2, .inl 9]) M _
  obtain ⟨x3, hx3⟩ : ∃ x : Int, x = zbshr 9 x2 := ⟨_, rfl⟩
  have hx3r := qbshr_n 9 x2 (by omega); rw [← hx3] at hx3r
  refine zG_blk (c' := (10, [.inr (.inr (some 6))], [.inl x3])) 1 hd0 hz (by subst hx3; rfl) ?_
  exact zG_ret hd0 hz rfl rfl ⟨rfl, _, rfl, by omega⟩
theorem qm_307 {n d : Nat} {M : zM} (hd : 1 ≤ d) (hC : qCI M) (a0 : Int) (ha0 : (-2147483648) ≤ a0 ∧ a0 ≤ 2147483647) : qOkP n d 307 [.inl a0] 1 M (qRi (fun x => 0 ≤ x ∧ x ≤ 1)) := by
  have hz : zP 307 = (zk_J1_canEncode_9a6ad, 1, (0, 0)) := rfl
  have hd0 : 0 < d := by omega
  show zG n (0, 0) d 307 (0, [.inl a0], []) M _
  refine zG_blk (c' := (1, [.inl a0], [.inl a0])) 1 hd0 hz (by rfl) ?_
  have j16 : ∀ (v1 : Int) , 0 ≤ v1 ∧ v1 ≤ 1 → zG n (0, 0) d 307 (16, [.inl a0], [.inl v1]) M (fun v M' => M' = M ∧ qRi (fun x => 0 ≤ x ∧ x ≤ 1) v) := by
    intro v1 hv1
    exact zG_zret hd0 hz rfl (by omega) ⟨rfl, _, rfl, by omega⟩
  have j15 : zG n (0, 0) d 307 (15, [.inl a0], []) M (fun v M' => M' = M ∧ qRi (fun x => 0 ≤ x ∧ x ≤ 1) v) := by
    refine zG_blk (c' := (16, [.inl a0], [.inl 0])) 1 hd0 hz (by rfl) ?_
    exact j16 0 (by omega)
  refine zG_if_lt hd0 hz rfl (fun hb2 => ?_) (fun hb2 => ?_)
  · exact j15
  · refine zG_blk (c' := (8, [.inl a0], [.inl 255, .inl a0])) 2 hd0 hz (by rfl) ?_
    refine zG_icmp_gt hd0 hz rfl (fun hb3 => ?_) (fun hb3 => ?_)
    · exact j15
    · refine zG_blk (c' := (16, [.inl a0], [.inl 1])) 2 hd0 hz (by rfl) ?_
      exact j16 1 (by omega)
theorem qm_309_7 {n d : Nat} {M : zM} (hd : 1 ≤ d) (hC : qCI M) (a1 : Int) (ha1 : (-2147483648) ≤ a1 ∧ a1 ≤ 2147483647) (a2 : Int) (ha2 : 0 ≤ a2 ∧ a2 ≤ 2147483647) (a3 : Int) (ha3 : (-2147483648) ≤ a3 ∧ a3 ≤ 9) : qOkP n d 309 [.inr (.inr (some 7)), .inl a1, .inl a2, .inl a3] 6 M (qRi (fun x => (-1) ≤ x ∧ x ≤ 8)) := by
  have hz : zP 309 = (zk_J1_indexOfChar_4cfef, 6, (0, 0)) := rfl
  have hd0 : 0 < d := by omega
  show zG n (0, 0) d 309 (0, [.inr (.inr (some 7)), .inl a1, .inl a2, .inl a3, zN, zN], []) M _
  obtain ⟨x1, hx1⟩ : ∃ x : Int, x = (a1 + 128) % 256 - 128 := ⟨_, rfl⟩
  refine zG_blk (c' := (7, [.inr (.inr (some 7)), .inl a1, .inl a2, .inl a3, .inl x1, .inl a2], [])) 5 hd0 hz (by subst hx1; rfl) ?_
  have j7 : ∀ (N : Nat) (v2 : Int) , (a3 - v2 : Int).toNat < N → 0 ≤ v2 ∧ v2 ≤ 2147483647 → zG n (0, 0) d 309 (7, [.inr (.inr (some 7)), .inl a1, .inl a2, .inl a3, .inl x1, .inl v2], []) M (fun v M' => M' = M ∧ qRi (fun x => (-1) ≤ x ∧ x ≤ 8) v) := by
    intro N
    induction N with
    | zero => intro v2 hN hv2; exact absurd hN (Nat.not_lt_zero _)
    | succ N ih7 =>
      intro v2 hN hv2
      refine zG_blk (c' := (10, [.inr (.inr (some 7)), .inl a1, .inl a2, .inl a3, .inl x1, .inl v2], [.inl a3, .inl v2])) 2 hd0 hz (by rfl) ?_
      refine zG_icmp_ge hd0 hz rfl (fun hb3 => ?_) (fun hb3 => ?_)
      · refine zG_blk (c' := (32, [.inr (.inr (some 7)), .inl a1, .inl a2, .inl a3, .inl x1, .inl v2], [.inl (-1)])) 1 hd0 hz (by rfl) ?_
        exact zG_ret hd0 hz rfl rfl ⟨rfl, _, rfl, by omega⟩
      · refine zG_blk (c' := (16, [.inr (.inr (some 7)), .inl a1, .inl a2, .inl a3, .inl x1, .inl v2], [.inl v2, .inr (.inr (some 7))])) 2 hd0 hz (by rfl) ?_
        refine zG_bald hd0 hz rfl rfl (.inr rfl) (by omega) ?_
        have hx4 := hC.rng 7 (v2).toNat (by decide) (by decide)
        generalize M 7 (v2).toNat = x4 at hx4 ⊢
        show zG n (0, 0) d 309 (17, [.inr (.inr (some 7)), .inl a1, .inl a2, .inl a3, .inl x1, .inl v2], [.inl x4]) M _
        refine zG_blk (c' := (19, [.inr (.inr (some 7)), .inl a1, .inl a2, .inl a3, .inl x1, .inl v2], [.inl x1, .inl x4])) 1 hd0 hz (by rfl) ?_
        refine zG_icmp_ne hd0 hz rfl (fun hb5 => ?_) (fun hb5 => ?_)
        · obtain ⟨x6, hx6⟩ : ∃ x : Int, x = w32 (v2 + 1) := ⟨_, rfl⟩
          have hx6e : x6 = v2 + 1 := by rw [hx6]; exact w32_id (by omega)
          refine zG_blk (c' := (7, [.inr (.inr (some 7)), .inl a1, .inl a2, .inl a3, .inl x1, .inl x6], [])) 2 hd0 hz (by subst hx6; rfl) ?_
          exact ih7 x6 (by omega) (by omega)
        · refine zG_blk (c' := (24, [.inr (.inr (some 7)), .inl a1, .inl a2, .inl a3, .inl x1, .inl v2], [.inl v2])) 1 hd0 hz (by rfl) ?_
          exact zG_ret hd0 hz rfl rfl ⟨rfl, _, rfl, by omega⟩
  exact j7 ((a3 - a2 : Int).toNat + 1) a2 (by omega) (by omega)
theorem qm_308_7 {n d : Nat} {M : zM} (hd : 2 ≤ d) (hC : qCI M) (a1 : Int) (ha1 : (-2147483648) ≤ a1 ∧ a1 ≤ 2147483647) (a2 : Int) (ha2 : (-2147483648) ≤ a2 ∧ a2 ≤ 2147483647) (a3 : Int) (ha3 : (-2147483648) ≤ a3 ∧ a3 ≤ 2147483647) : qOkP n d 308 [.inr (.inr (some 7)), .inl a1, .inl a2, .inl a3] 4 M (qRi (fun x => (-1) ≤ x ∧ x ≤ 8)) := by
  have hz : zP 308 = (zk_J1_indexOf_4cfef, 4, (0, 0)) := rfl
  have hd0 : 0 < d := by omega
  show zG n (0, 0) d 308 (0, [.inr (.inr (some 7)), .inl a1, .inl a2, .inl a3], []) M _
  refine zG_blk (c' := (1, [.inr (.inr (some 7)), .inl a1, .inl a2, .inl a3], [.inl a1])) 1 hd0 hz (by rfl) ?_
  refine zG_call hd0 hz (rfl : zP 307 = (zk_J1_canEncode_9a6ad, 1, (0, 0))) rfl rfl (Nat.le_of_ble_eq_true rfl) ⟨Nat.le_refl _, Nat.le_refl _⟩ (qm_307 (by omega) hC  a1 (by omega)) (fun vr M1 hr => ?_)
  obtain ⟨hq, x2, rfl, hx2⟩ := hr
  replace hq := hq.symm; subst hq
  show zG n (0, 0) d 308 (4, [.inr (.inr (some 7)), .inl a1, .inl a2, .inl a3], [.inl x2]) M _
  refine zG_if_ne hd0 hz rfl (fun hb3 => ?_) (fun hb3 => ?_)
  · obtain ⟨x4, hx4⟩ : ∃ x : Int, x = (if a2 < 0 then 0 else a2) := ⟨_, rfl⟩
    have hx4r := qite hx4
    obtain ⟨x5, hx5⟩ : ∃ x : Int, x = (if 9 < a3 then 9 else a3) := ⟨_, rfl⟩
    have hx5r := qite hx5
    refine zG_blk (c' := (24, [.inr (.inr (some 7)), .inl a1, .inl x4, .inl x5], [.inl x5, .inl x4])) 11 hd0 hz (by subst hx5; subst hx4; rfl) ?_
    refine zG_icmp_lt hd0 hz rfl (fun hb6 => ?_) (fun hb6 => ?_)
    · refine zG_blk (c' := (33, [.inr (.inr (some 7)), .inl a1, .inl x4, .inl x5], [.inl x5, .inl x4, .inl a1, .inr (.inr (some 7))])) 4 hd0 hz (by rfl) ?_
      refine zG_call hd0 hz (rfl : zP 309 = (zk_J1_indexOfChar_4cfef, 6, (0, 0))) rfl rfl (Nat.le_of_ble_eq_true rfl) ⟨Nat.le_refl _, Nat.le_refl _⟩ (qm_309_7 (by omega) hC  a1 (by omega) x4 (by omega) x5 (by omega)) (fun vr M7 hr => ?_)
      obtain ⟨hq, x8, rfl, hx8⟩ := hr
      replace hq := hq.symm; subst hq
      show zG n (0, 0) d 308 (36, [.inr (.inr (some 7)), .inl a1, .inl x4, .inl x5], [.inl x8]) M _
      exact zG_ret hd0 hz rfl rfl ⟨rfl, _, rfl, by omega⟩
    · refine zG_blk (c' := (28, [.inr (.inr (some 7)), .inl a1, .inl x4, .inl x5], [.inl (-1)])) 1 hd0 hz (by rfl) ?_
      exact zG_ret hd0 hz rfl rfl ⟨rfl, _, rfl, by omega⟩
  · refine zG_blk (c' := (8, [.inr (.inr (some 7)), .inl a1, .inl a2, .inl a3], [.inl (-1)])) 1 hd0 hz (by rfl) ?_
    exact zG_ret hd0 hz rfl rfl ⟨rfl, _, rfl, by omega⟩
theorem qm_301_6 {n d : Nat} {M : zM} (hd : 3 ≤ d) (hC : qCI M) (a1 : Int) (ha1 : (-2147483648) ≤ a1 ∧ a1 ≤ 2147483647) (a2 : Int) (ha2 : (-2147483648) ≤ a2 ∧ a2 ≤ 2147483647) : qOkP n d 301 [.inr (.inr (some 6)), .inl a1, .inl a2] 3 M (qRi (fun x => (-1) ≤ x ∧ x ≤ 8)) := by
  have hz : zP 301 = (zk_J0_indexOf_7cf53, 3, (0, 0)) := rfl
  have hd0 : 0 < d := by omega
  show zG n (0, 0) d 301 (0, [.inr (.inr (some 6)), .inl a1, .inl a2], []) M _
  refine zG_blk (c' := (1, [.inr (.inr (some 6)), .inl a1, .inl a2], [.inr (.inr (some 6))])) 1 hd0 hz (by rfl) ?_
  refine zG_call hd0 hz (rfl : zP 304 = (zk_J0_isLatin1_aae02, 1, (0, 0))) rfl rfl (Nat.le_of_ble_eq_true rfl) ⟨Nat.le_refl _, Nat.le_refl _⟩ (qm_304_6 (by omega) hC  ) (fun vr M1 hr => ?_)
  obtain ⟨hq, x2, rfl, hx2⟩ := hr
  replace hq := hq.symm; subst hq
  show zG n (0, 0) d 301 (4, [.inr (.inr (some 6)), .inl a1, .inl a2], [.inl x2]) M _
  refine zG_if_eq hd0 hz rfl (fun hb3 => ?_) (fun hb3 => ?_)
  · exfalso; omega
  · refine zG_blk (c' := (14, [.inr (.inr (some 6)), .inl a1, .inl a2], [.inr (.inr (some 6)), .inl a2, .inl a1, .inr (.inr (some 7))])) 5 hd0 hz (by rfl) ?_
    refine zG_call hd0 hz (rfl : zP 302 = (zk_J0_length_8abf5, 1, (0, 0))) rfl rfl (Nat.le_of_ble_eq_true rfl) ⟨Nat.le_refl _, Nat.le_refl _⟩ (qm_302_6 (by omega) hC  ) (fun vr M4 hr => ?_)
    obtain ⟨hq, x5, rfl, hx5⟩ := hr
    replace hq := hq.symm; subst hq
    show zG n (0, 0) d 301 (17, [.inr (.inr (some 6)), .inl a1, .inl a2], [.inl x5, .inl a2, .inl a1, .inr (.inr (some 7))]) M _
    refine zG_call hd0 hz (rfl : zP 308 = (zk_J1_indexOf_4cfef, 4, (0, 0))) rfl rfl (Nat.le_of_ble_eq_true rfl) ⟨Nat.le_refl _, Nat.le_refl _⟩ (qm_308_7 (by omega) hC  a1 (by omega) a2 (by omega) x5 (by omega)) (fun vr M6 hr => ?_)
    obtain ⟨hq, x7, rfl, hx7⟩ := hr
    replace hq := hq.symm; subst hq
    show zG n (0, 0) d 301 (20, [.inr (.inr (some 6)), .inl a1, .inl a2], [.inl x7]) M _
    refine zG_blk (c' := (36, [.inr (.inr (some 6)), .inl a1, .inl a2], [.inl x7])) 1 hd0 hz (by rfl) ?_
    exact zG_ret hd0 hz rfl rfl ⟨rfl, _, rfl, by omega⟩
theorem qm_300_6 {n d : Nat} {M : zM} (hd : 4 ≤ d) (hC : qCI M) (a1 : Int) (ha1 : (-2147483648) ≤ a1 ∧ a1 ≤ 2147483647) : qOkP n d 300 [.inr (.inr (some 6)), .inl a1] 2 M (qRi (fun x => (-1) ≤ x ∧ x ≤ 8)) := by
  have hz : zP 300 = (zk_J0_indexOf_0f7a4, 2, (0, 0)) := rfl
  have hd0 : 0 < d := by omega
  show zG n (0, 0) d 300 (0, [.inr (.inr (some 6)), .inl a1], []) M _
  refine zG_blk (c' := (3, [.inr (.inr (some 6)), .inl a1], [.inl 0, .inl a1, .inr (.inr (some 6))])) 3 hd0 hz (by rfl) ?_
  refine zG_call hd0 hz (rfl : zP 301 = (zk_J0_indexOf_7cf53, 3, (0, 0))) rfl rfl (Nat.le_of_ble_eq_true rfl) ⟨Nat.le_refl _, Nat.le_refl _⟩ (qm_301_6 (by omega) hC  a1 (by omega) 0 (by omega)) (fun vr M1 hr => ?_)
  obtain ⟨hq, x2, rfl, hx2⟩ := hr
  replace hq := hq.symm; subst hq
  show zG n (0, 0) d 300 (6, [.inr (.inr (some 6)), .inl a1], [.inl x2]) M _
  exact zG_ret hd0 hz rfl rfl ⟨rfl, _, rfl, by omega⟩
theorem qm_91_67 {n d : Nat} {M : zM} (hd : 2 ≤ d) (hC : qCI M) (a1 : Int) (ha1 : 0 ≤ a1 ∧ a1 ≤ 1) : qOkM n d 91 [.inr (.inr (some 67)), .inl a1] 2 qCI [67] M qRn := by
  have hz : zP 91 = (zk_X7_failUnless, 2, (0, 0)) := rfl
  have hd0 : 0 < d := by omega
  have hW : qFr [67] M M := qFr.rfl
  show zG n (0, 0) d 91 (0, [.inr (.inr (some 67)), .inl a1], []) M _
  refine zG_blk (c' := (1, [.inr (.inr (some 67)), .inl a1], [.inl a1])) 1 hd0 hz (by rfl) ?_
  have j9 : ∀ (M1 : zM) , qCI M1 → qFr [67] M M1 → zG n (0, 0) d 91 (9, [.inr (.inr (some 67)), .inl a1], []) M1 (fun v M' => qWf qCI [67] M M' ∧ qRn v) := by
    intro M1 hCM1 hWM1
    exact zG_ret hd0 hz rfl rfl ⟨⟨hCM1, hWM1⟩, rfl⟩
  refine zG_if_ne hd0 hz rfl (fun hb2 => ?_) (fun hb2 => ?_)
  · exact j9 M hC hW
  · refine zG_blk (c' := (6, [.inr (.inr (some 67)), .inl a1], [.inl 1, .inr (.inr (some 67))])) 2 hd0 hz (by rfl) ?_
    refine zG_call hd0 hz (rfl : zP 92 = (zk_X7_fail, 2, (0, 0))) rfl rfl (Nat.le_of_ble_eq_true rfl) ⟨Nat.le_refl _, Nat.le_refl _⟩ (qm_92_67 (by omega) hC  1 (by omega)) (fun vr M3 hr => ?_)
    obtain ⟨⟨hCM3, hFM3⟩, rfl⟩ := hr
    have hWM3 : qFr [67] M M3 := hW.tr hFM3 (by decide)
    show zG n (0, 0) d 91 (9, [.inr (.inr (some 67)), .inl a1], []) M3 _
    exact j9 M3 hCM3 hWM3
theorem qm_153_8 {n d : Nat} {M : zM} (hd : 3 ≤ d) (hC : qCI M) (a1 : Int) (ha1 : (-2147483648) ≤ a1 ∧ a1 ≤ 2147483647) (a2 : Int) (ha2 : (-2147483648) ≤ a2 ∧ a2 ≤ 2147483647) : qOkM n d 153 [.inr (.inr (some 8)), .inl a1, .inl a2] 4 qCI [13] M (qRi (fun x => (-2147483648) ≤ x ∧ x ≤ 2147483647)) := by
  have hz : zP 153 = (zk_X10_choose, 4, (0, 0)) := rfl
  have hd0 : 0 < d := by omega
  have hW : qFr [13] M M := qFr.rfl
  show zG n (0, 0) d 153 (0, [.inr (.inr (some 8)), .inl a1, .inl a2, zN], []) M _
  refine zG_blk (c' := (2, [.inr (.inr (some 8)), .inl a1, .inl a2, zN], [.inl a1, .inr (.inr (some 8))])) 2 hd0 hz (by rfl) ?_
  refine zG_call hd0 hz (rfl : zP 174 = (zk_X10_isStudent, 2, (0, 0))) rfl rfl (Nat.le_of_ble_eq_true rfl) ⟨Nat.le_refl _, Nat.le_refl _⟩ (qm_174_8 (by omega) hC  a1 (by omega)) (fun vr M1 hr => ?_)
  obtain ⟨hq, x2, rfl, hx2⟩ := hr
  replace hq := hq.symm; subst hq
  show zG n (0, 0) d 153 (5, [.inr (.inr (some 8)), .inl a1, .inl a2, zN], [.inl x2]) M _
  have j28 : zG n (0, 0) d 153 (28, [.inr (.inr (some 8)), .inl a1, .inl a2, zN], []) M (fun v M' => qWf qCI [13] M M' ∧ qRi (fun x => (-2147483648) ≤ x ∧ x ≤ 2147483647) v) := by
    refine zG_blk (c' := (30, [.inr (.inr (some 8)), .inl a1, .inl a2, zN], [.inl (-10)])) 1 hd0 hz (by rfl) ?_
    exact zG_ret hd0 hz rfl rfl ⟨⟨hC, hW⟩, _, rfl, by omega⟩
  refine zG_if_eq hd0 hz rfl (fun hb3 => ?_) (fun hb3 => ?_)
  · exact j28
  · refine zG_blk (c' := (17, [.inr (.inr (some 8)), .inl a1, .inl a2, zN], [.inr (.inr (some 22)), .inl (-1), .inl a2])) 5 hd0 hz (by rfl) ?_
    refine zG_call hd0 hz (rfl : zP 101 = (zk_X8_size, 1, (0, 0))) rfl rfl (Nat.le_of_ble_eq_true rfl) ⟨Nat.le_refl _, Nat.le_refl _⟩ (qw_size (by omega) hC (⟨by decide, rfl, rfl⟩ : qT n 22 10 164) ) (fun vr M4 hr => ?_)
    obtain ⟨hq, x5, rfl, hx5⟩ := hr
    replace hq := hq.symm; subst hq
    show zG n (0, 0) d 153 (20, [.inr (.inr (some 8)), .inl a1, .inl a2, zN], [.inl x5, .inl (-1), .inl a2]) M _
    obtain ⟨x6, hx6⟩ : ∃ x : Int, x = w32 (x5 - 1) := ⟨_, rfl⟩
    have hx6e : x6 = x5 - 1 := by rw [hx6]; exact w32_id (by omega)
    refine zG_blk (c' := (22, [.inr (.inr (some 8)), .inl a1, .inl a2, zN], [.inl x6, .inl (-1), .inl a2])) 2 hd0 hz (by subst hx6; rfl) ?_
    refine zG_call hd0 hz (rfl : zP 169 = (zk_X10_within, 3, (0, 0))) rfl rfl (Nat.le_of_ble_eq_true rfl) ⟨Nat.le_refl _, Nat.le_refl _⟩ (qm_169 (by omega) hC  a2 (by omega) (-1) (by omega) x6 (by omega)) (fun vr M7 hr => ?_)
    obtain ⟨hq, x8, rfl, hx8⟩ := hr
    replace hq := hq.symm; subst hq
    show zG n (0, 0) d 153 (25, [.inr (.inr (some 8)), .inl a1, .inl a2, zN], [.inl x8]) M _
    refine zG_if_ne hd0 hz rfl (fun hb9 => ?_) (fun hb9 => ?_)
    · refine zG_blk (c' := (40, [.inr (.inr (some 8)), .inl a1, .inl a2, zN], [.inl 1, .inl a1, .inr (.inr (some 12))])) 5 hd0 hz (by rfl) ?_
      refine zG_call hd0 hz (rfl : zP 106 = (zk_X8_get, 3, (0, 0))) rfl rfl (Nat.le_of_ble_eq_true rfl) ⟨Nat.le_refl _, Nat.le_refl _⟩ (qw_get (by omega) hC (⟨by decide, rfl, rfl⟩ : qT n 12 20 3) a1 (by omega) 1 (by omega)) (fun vr M10 hr => ?_)
      obtain ⟨hq, x11, rfl, hx11⟩ := hr
      replace hq := hq.symm; subst hq
      show zG n (0, 0) d 153 (43, [.inr (.inr (some 8)), .inl a1, .inl a2, zN], [.inl x11]) M _
      refine zG_blk (c' := (54, [.inr (.inr (some 8)), .inl a1, .inl a2, .inl x11], [.inl a2, .inl 1, .inl a1, .inr (.inr (some 12))])) 7 hd0 hz (by rfl) ?_
      refine zG_call hd0 hz (rfl : zP 107 = (zk_X8_set, 4, (0, 0))) rfl rfl (Nat.le_of_ble_eq_true rfl) ⟨Nat.le_refl _, Nat.le_refl _⟩ (qw_set (by omega) hC (⟨by decide, rfl, rfl⟩ : qT n 12 20 3) a1 (by omega) 1 (by omega) a2 (by omega)) (fun vr M12 hr => ?_)
      obtain ⟨⟨hCM12, hFM12⟩, rfl⟩ := hr
      have hWM12 : qFr [13] M M12 := hW.tr hFM12 (by decide)
      show zG n (0, 0) d 153 (57, [.inr (.inr (some 8)), .inl a1, .inl a2, .inl x11], []) M12 _
      refine zG_blk (c' := (58, [.inr (.inr (some 8)), .inl a1, .inl a2, .inl x11], [.inl x11])) 1 hd0 hz (by rfl) ?_
      exact zG_ret hd0 hz rfl rfl ⟨⟨hCM12, hWM12⟩, _, rfl, by omega⟩
    · exact j28
theorem qm_154_8 {n d : Nat} {M : zM} (hd : 4 ≤ d) (hC : qCI M) (a1 : Int) (ha1 : (-2147483648) ≤ a1 ∧ a1 ≤ 2147483647) (a2 : Int) (ha2 : (-2147483648) ≤ a2 ∧ a2 ≤ 2147483647) : qOkP n d 154 [.inr (.inr (some 8)), .inl a1, .inl a2] 3 M (qRi (fun x => (-2147483648) ≤ x ∧ x ≤ 2147483647)) := by
  have hz : zP 154 = (zk_X10_binds, 3, (0, 0)) := rfl
  have hd0 : 0 < d := by omega
  show zG n (0, 0) d 154 (0, [.inr (.inr (some 8)), .inl a1, .inl a2], []) M _
  refine zG_blk (c' := (2, [.inr (.inr (some 8)), .inl a1, .inl a2], [.inl a1, .inr (.inr (some 8))])) 2 hd0 hz (by rfl) ?_
  refine zG_call hd0 hz (rfl : zP 174 = (zk_X10_isStudent, 2, (0, 0))) rfl rfl (Nat.le_of_ble_eq_true rfl) ⟨Nat.le_refl _, Nat.le_refl _⟩ (qm_174_8 (by omega) hC  a1 (by omega)) (fun vr M1 hr => ?_)
  obtain ⟨hq, x2, rfl, hx2⟩ := hr
  replace hq := hq.symm; subst hq
  show zG n (0, 0) d 154 (5, [.inr (.inr (some 8)), .inl a1, .inl a2], [.inl x2]) M _
  have j29 : ∀ (v3 : Int) , (-2147483648) ≤ v3 ∧ v3 ≤ 2147483647 → zG n (0, 0) d 154 (29, [.inr (.inr (some 8)), .inl a1, .inl a2], [.inl v3]) M (fun v M' => M' = M ∧ qRi (fun x => (-2147483648) ≤ x ∧ x ≤ 2147483647) v) := by
    intro v3 hv3
    exact zG_ret hd0 hz rfl rfl ⟨rfl, _, rfl, by omega⟩
  have j27 : zG n (0, 0) d 154 (27, [.inr (.inr (some 8)), .inl a1, .inl a2], []) M (fun v M' => M' = M ∧ qRi (fun x => (-2147483648) ≤ x ∧ x ≤ 2147483647) v) := by
    refine zG_blk (c' := (29, [.inr (.inr (some 8)), .inl a1, .inl a2], [.inl (-2)])) 1 hd0 hz (by rfl) ?_
    exact j29 (-2) (by omega)
  refine zG_if_eq hd0 hz rfl (fun hb4 => ?_) (fun hb4 => ?_)
  · exact j27
  · refine zG_blk (c' := (9, [.inr (.inr (some 8)), .inl a1, .inl a2], [.inl a2])) 1 hd0 hz (by rfl) ?_
    refine zG_call hd0 hz (rfl : zP 170 = (zk_X10_isDay, 1, (0, 0))) rfl rfl (Nat.le_of_ble_eq_true rfl) ⟨Nat.le_refl _, Nat.le_refl _⟩ (qm_170 (by omega) hC  a2 (by omega)) (fun vr M5 hr => ?_)
    obtain ⟨hq, x6, rfl, hx6⟩ := hr
    replace hq := hq.symm; subst hq
    show zG n (0, 0) d 154 (12, [.inr (.inr (some 8)), .inl a1, .inl a2], [.inl x6]) M _
    refine zG_if_eq hd0 hz rfl (fun hb7 => ?_) (fun hb7 => ?_)
    · exact j27
    · refine zG_blk (c' := (21, [.inr (.inr (some 8)), .inl a1, .inl a2], [.inl a2, .inl a1, .inr (.inr (some 76))])) 4 hd0 hz (by rfl) ?_
      refine zG_call hd0 hz (rfl : zP 29 = (zk_X3_bindingOf, 5, (0, 0))) rfl rfl (Nat.le_of_ble_eq_true rfl) ⟨Nat.le_refl _, Nat.le_refl _⟩ (qm_29_76 (by omega) hC  a1 (by omega) a2 (by omega)) (fun vr M8 hr => ?_)
      obtain ⟨hq, x9, rfl, hx9⟩ := hr
      replace hq := hq.symm; subst hq
      show zG n (0, 0) d 154 (24, [.inr (.inr (some 8)), .inl a1, .inl a2], [.inl x9]) M _
      refine zG_blk (c' := (29, [.inr (.inr (some 8)), .inl a1, .inl a2], [.inl x9])) 1 hd0 hz (by rfl) ?_
      exact j29 x9 (by omega)
theorem qm_157_8 {n d : Nat} {M : zM} (hd : 3 ≤ d) (hC : qCI M) (a1 : Int) (ha1 : (-2147483648) ≤ a1 ∧ a1 ≤ 2147483647) (a2 : Int) (ha2 : (-2147483648) ≤ a2 ∧ a2 ≤ 2147483647) (a3 : Int) (ha3 : 0 ≤ a3 ∧ a3 ≤ 1) : qOkM n d 157 [.inr (.inr (some 8)), .inl a1, .inl a2, .inl a3] 6 qCI [13] M (qRi (fun x => (-3) ≤ x ∧ x ≤ 1)) := by
  have hz : zP 157 = (zk_X10_sits, 6, (0, 0)) := rfl
  have hd0 : 0 < d := by omega
  have hW : qFr [13] M M := qFr.rfl
  show zG n (0, 0) d 157 (0, [.inr (.inr (some 8)), .inl a1, .inl a2, .inl a3, zN, zN], []) M _
  refine zG_blk (c' := (2, [.inr (.inr (some 8)), .inl a1, .inl a2, .inl a3, zN, zN], [.inl a1, .inr (.inr (some 8))])) 2 hd0 hz (by rfl) ?_
  refine zG_call hd0 hz (rfl : zP 174 = (zk_X10_isStudent, 2, (0, 0))) rfl rfl (Nat.le_of_ble_eq_true rfl) ⟨Nat.le_refl _, Nat.le_refl _⟩ (qm_174_8 (by omega) hC  a1 (by omega)) (fun vr M1 hr => ?_)
  obtain ⟨hq, x2, rfl, hx2⟩ := hr
  replace hq := hq.symm; subst hq
  show zG n (0, 0) d 157 (5, [.inr (.inr (some 8)), .inl a1, .inl a2, .inl a3, zN, zN], [.inl x2]) M _
  have j16 : zG n (0, 0) d 157 (16, [.inr (.inr (some 8)), .inl a1, .inl a2, .inl a3, zN, zN], []) M (fun v M' => qWf qCI [13] M M' ∧ qRi (fun x => (-3) ≤ x ∧ x ≤ 1) v) := by
    refine zG_blk (c' := (18, [.inr (.inr (some 8)), .inl a1, .inl a2, .inl a3, zN, zN], [.inl (-2)])) 1 hd0 hz (by rfl) ?_
    exact zG_ret hd0 hz rfl rfl ⟨⟨hC, hW⟩, _, rfl, by omega⟩
  refine zG_if_eq hd0 hz rfl (fun hb3 => ?_) (fun hb3 => ?_)
  · exact j16
  · refine zG_blk (c' := (10, [.inr (.inr (some 8)), .inl a1, .inl a2, .inl a3, zN, zN], [.inl a2, .inr (.inr (some 8))])) 2 hd0 hz (by rfl) ?_
    refine zG_call hd0 hz (rfl : zP 175 = (zk_X10_isCourse, 2, (0, 0))) rfl rfl (Nat.le_of_ble_eq_true rfl) ⟨Nat.le_refl _, Nat.le_refl _⟩ (qm_175_8 (by omega) hC  a2 (by omega)) (fun vr M4 hr => ?_)
    obtain ⟨hq, x5, rfl, hx5⟩ := hr
    replace hq := hq.symm; subst hq
    show zG n (0, 0) d 157 (13, [.inr (.inr (some 8)), .inl a1, .inl a2, .inl a3, zN, zN], [.inl x5]) M _
    refine zG_if_ne hd0 hz rfl (fun hb6 => ?_) (fun hb6 => ?_)
    · refine zG_blk (c' := (28, [.inr (.inr (some 8)), .inl a1, .inl a2, .inl a3, zN, zN], [.inl 2, .inl a1, .inr (.inr (some 12))])) 5 hd0 hz (by rfl) ?_
      refine zG_call hd0 hz (rfl : zP 106 = (zk_X8_get, 3, (0, 0))) rfl rfl (Nat.le_of_ble_eq_true rfl) ⟨Nat.le_refl _, Nat.le_refl _⟩ (qw_get (by omega) hC (⟨by decide, rfl, rfl⟩ : qT n 12 20 3) a1 (by omega) 2 (by omega)) (fun vr M7 hr => ?_)
      obtain ⟨hq, x8, rfl, hx8⟩ := hr
      replace hq := hq.symm; subst hq
      show zG n (0, 0) d 157 (31, [.inr (.inr (some 8)), .inl a1, .inl a2, .inl a3, zN, zN], [.inl x8]) M _
      obtain ⟨x9, hx9⟩ : ∃ x : Int, x = zbshr x8 a2 := ⟨_, rfl⟩
      have hx9r : qin x9 := by rw [hx9]; exact qb32 _
      obtain ⟨x10, hx10⟩ : ∃ x : Int, x = zband x9 1 := ⟨_, rfl⟩
      have hx10r := qband_r x9 1 (by omega) (by omega); rw [← hx10] at hx10r
      refine zG_blk (c' := (40, [.inr (.inr (some 8)), .inl a1, .inl a2, .inl a3, .inl x8, zN], [.inl 1, .inl x10])) 7 hd0 hz (by subst hx10; subst hx9; rfl) ?_
      have j48 : ∀ (v11 : Int) , 0 ≤ v11 ∧ v11 ≤ 1 → zG n (0, 0) d 157 (48, [.inr (.inr (some 8)), .inl a1, .inl a2, .inl a3, .inl x8, zN], [.inl v11]) M (fun v M' => qWf qCI [13] M M' ∧ qRi (fun x => (-3) ≤ x ∧ x ≤ 1) v) := by
        intro v11 hv11
        refine zG_blk (c' := (53, [.inr (.inr (some 8)), .inl a1, .inl a2, .inl a3, .inl x8, .inl v11], [.inl a3, .inl v11])) 3 hd0 hz (by rfl) ?_
        refine zG_icmp_ne hd0 hz rfl (fun hb12 => ?_) (fun hb12 => ?_)
        · obtain ⟨x13, hx13⟩ : ∃ x : Int, x = zbshl 1 a2 := ⟨_, rfl⟩
          have hx13r : qin x13 := by rw [hx13]; exact qb32 _
          obtain ⟨x14, hx14⟩ : ∃ x : Int, x = zbxor x8 x13 := ⟨_, rfl⟩
          have hx14r : qin x14 := by rw [hx14]; exact qb32 _
          refine zG_blk (c' := (74, [.inr (.inr (some 8)), .inl a1, .inl a2, .inl a3, .inl x8, .inl v11], [.inl x14, .inl 2, .inl a1, .inr (.inr (some 12))])) 10 hd0 hz (by subst hx14; subst hx13; rfl) ?_
          refine zG_call hd0 hz (rfl : zP 107 = (zk_X8_set, 4, (0, 0))) rfl rfl (Nat.le_of_ble_eq_true rfl) ⟨Nat.le_refl _, Nat.le_refl _⟩ (qw_set (by omega) hC (⟨by decide, rfl, rfl⟩ : qT n 12 20 3) a1 (by omega) 2 (by omega) x14 (by omega)) (fun vr M15 hr => ?_)
          obtain ⟨⟨hCM15, hFM15⟩, rfl⟩ := hr
          have hWM15 : qFr [13] M M15 := hW.tr hFM15 (by decide)
          show zG n (0, 0) d 157 (77, [.inr (.inr (some 8)), .inl a1, .inl a2, .inl a3, .inl x8, .inl v11], []) M15 _
          refine zG_blk (c' := (78, [.inr (.inr (some 8)), .inl a1, .inl a2, .inl a3, .inl x8, .inl v11], [.inl 1])) 1 hd0 hz (by rfl) ?_
          exact zG_ret hd0 hz rfl rfl ⟨⟨hCM15, hWM15⟩, _, rfl, by omega⟩
        · refine zG_blk (c' := (58, [.inr (.inr (some 8)), .inl a1, .inl a2, .inl a3, .inl x8, .inl v11], [.inl (-3)])) 1 hd0 hz (by rfl) ?_
          exact zG_ret hd0 hz rfl rfl ⟨⟨hC, hW⟩, _, rfl, by omega⟩
      refine zG_icmp_ne hd0 hz rfl (fun hb17 => ?_) (fun hb17 => ?_)
      · refine zG_blk (c' := (48, [.inr (.inr (some 8)), .inl a1, .inl a2, .inl a3, .inl x8, zN], [.inl 0])) 1 hd0 hz (by rfl) ?_
        exact j48 0 (by omega)
      · refine zG_blk (c' := (48, [.inr (.inr (some 8)), .inl a1, .inl a2, .inl a3, .inl x8, zN], [.inl 1])) 2 hd0 hz (by rfl) ?_
        exact j48 1 (by omega)
    · exact j16
theorem qm_70_87 {n d : Nat} {M : zM} (hd : 2 ≤ d) (hC : qCI M) (a1 : Int) (ha1 : (-2147483648) ≤ a1 ∧ a1 ≤ 2147483647) : qOkP n d 70 [.inr (.inr (some 87)), .inl a1] 4 M (qRi (fun x => (-2147483648) ≤ x ∧ x ≤ 2147483647)) := by
  have hz : zP 70 = (zk_X6_sittersOf, 4, (0, 0)) := rfl
  have hd0 : 0 < d := by omega
  show zG n (0, 0) d 70 (0, [.inr (.inr (some 87)), .inl a1, zN, zN], []) M _
  refine zG_blk (c' := (4, [.inr (.inr (some 87)), .inl a1, .inl 0, .inl 0], [])) 4 hd0 hz (by rfl) ?_
  have j4 : ∀ (N : Nat) (v1 v2 : Int) , (20 - v2 : Int).toNat < N → (-2147483648) ≤ v1 ∧ v1 ≤ 2147483647 → 0 ≤ v2 ∧ v2 ≤ 20 → zG n (0, 0) d 70 (4, [.inr (.inr (some 87)), .inl a1, .inl v1, .inl v2], []) M (fun v M' => M' = M ∧ qRi (fun x => (-2147483648) ≤ x ∧ x ≤ 2147483647) v) := by
    intro N
    induction N with
    | zero => intro v1 v2 hN hv1 hv2; exact absurd hN (Nat.not_lt_zero _)
    | succ N ih4 =>
      intro v1 v2 hN hv1 hv2
      refine zG_blk (c' := (12, [.inr (.inr (some 87)), .inl a1, .inl v1, .inl v2], [.inr (.inr (some 12)), .inl v2])) 4 hd0 hz (by rfl) ?_
      refine zG_call hd0 hz (rfl : zP 101 = (zk_X8_size, 1, (0, 0))) rfl rfl (Nat.le_of_ble_eq_true rfl) ⟨Nat.le_refl _, Nat.le_refl _⟩ (qw_size (by omega) hC (⟨by decide, rfl, rfl⟩ : qT n 12 20 3) ) (fun vr M3 hr => ?_)
      obtain ⟨hq, x4, rfl, hx4⟩ := hr
      replace hq := hq.symm; subst hq
      show zG n (0, 0) d 70 (15, [.inr (.inr (some 87)), .inl a1, .inl v1, .inl v2], [.inl x4, .inl v2]) M _
      refine zG_icmp_ge hd0 hz rfl (fun hb5 => ?_) (fun hb5 => ?_)
      · refine zG_blk (c' := (51, [.inr (.inr (some 87)), .inl a1, .inl v1, .inl v2], [.inl v1])) 1 hd0 hz (by rfl) ?_
        exact zG_ret hd0 hz rfl rfl ⟨rfl, _, rfl, by omega⟩
      · refine zG_blk (c' := (27, [.inr (.inr (some 87)), .inl a1, .inl v1, .inl v2], [.inl 2, .inl v2, .inr (.inr (some 12))])) 5 hd0 hz (by rfl) ?_
        refine zG_call hd0 hz (rfl : zP 106 = (zk_X8_get, 3, (0, 0))) rfl rfl (Nat.le_of_ble_eq_true rfl) ⟨Nat.le_refl _, Nat.le_refl _⟩ (qw_get (by omega) hC (⟨by decide, rfl, rfl⟩ : qT n 12 20 3) v2 (by omega) 2 (by omega)) (fun vr M6 hr => ?_)
        obtain ⟨hq, x7, rfl, hx7⟩ := hr
        replace hq := hq.symm; subst hq
        show zG n (0, 0) d 70 (30, [.inr (.inr (some 87)), .inl a1, .inl v1, .inl v2], [.inl x7]) M _
        obtain ⟨x8, hx8⟩ : ∃ x : Int, x = zbshr x7 a1 := ⟨_, rfl⟩
        have hx8r : qin x8 := by rw [hx8]; exact qb32 _
        obtain ⟨x9, hx9⟩ : ∃ x : Int, x = zband x8 1 := ⟨_, rfl⟩
        have hx9r := qband_r x8 1 (by omega) (by omega); rw [← hx9] at hx9r
        refine zG_blk (c' := (35, [.inr (.inr (some 87)), .inl a1, .inl v1, .inl v2], [.inl 1, .inl x9])) 5 hd0 hz (by subst hx9; subst hx8; rfl) ?_
        have j44 : ∀ (v10 : Int) , (-2147483648) ≤ v10 ∧ v10 ≤ 2147483647 → zG n (0, 0) d 70 (44, [.inr (.inr (some 87)), .inl a1, .inl v10, .inl v2], []) M (fun v M' => M' = M ∧ qRi (fun x => (-2147483648) ≤ x ∧ x ≤ 2147483647) v) := by
          intro v10 hv10
          obtain ⟨x11, hx11⟩ : ∃ x : Int, x = w32 (v2 + 1) := ⟨_, rfl⟩
          have hx11e : x11 = v2 + 1 := by rw [hx11]; exact w32_id (by omega)
          refine zG_blk (c' := (4, [.inr (.inr (some 87)), .inl a1, .inl v10, .inl x11], [])) 2 hd0 hz (by subst hx11; rfl) ?_
          exact ih4 v10 x11 (by omega) (by omega) (by omega)
        refine zG_icmp_ne hd0 hz rfl (fun hb12 => ?_) (fun hb12 => ?_)
        · exact j44 v1 (by omega)
        · obtain ⟨x13, hx13⟩ : ∃ x : Int, x = zbshl 1 v2 := ⟨_, rfl⟩
          have hx13r : qin x13 := by rw [hx13]; exact qb32 _
          obtain ⟨x14, hx14⟩ : ∃ x : Int, x = zbor v1 x13 := ⟨_, rfl⟩
          have hx14r : qin x14 := by rw [hx14]; exact qb32 _
          refine zG_blk (c' := (44, [.inr (.inr (some 87)), .inl a1, .inl x14, .inl v2], [])) 6 hd0 hz (by subst hx14; subst hx13; rfl) ?_
          exact j44 x14 (by omega)
  exact j4 ((20 - 0 : Int).toNat + 1) 0 0 (by omega) (by omega) (by omega)
theorem qm_72_87 {n d : Nat} {M : zM} (hd : 2 ≤ d) (hC : qCI M) (a1 : Int) (ha1 : 0 ≤ a1 ∧ a1 ≤ 8) (a2 : Int) (ha2 : 0 ≤ a2 ∧ a2 ≤ 8) : qOkP n d 72 [.inr (.inr (some 87)), .inl a1, .inl a2] 3 M (qRi (fun x => 0 ≤ x ∧ x ≤ 1)) := by
  have hz : zP 72 = (zk_X6_takes, 3, (0, 0)) := rfl
  have hd0 : 0 < d := by omega
  show zG n (0, 0) d 72 (0, [.inr (.inr (some 87)), .inl a1, .inl a2], []) M _
  refine zG_blk (c' := (5, [.inr (.inr (some 87)), .inl a1, .inl a2], [.inl a1, .inr (.inr (some 90))])) 3 hd0 hz (by rfl) ?_
  refine zG_iald hd0 hz rfl rfl (.inl rfl) (by omega) ?_
  have hx1 := hC.rng 90 (a1).toNat (by decide) (by decide)
  generalize M 90 (a1).toNat = x1 at hx1 ⊢
  show zG n (0, 0) d 72 (6, [.inr (.inr (some 87)), .inl a1, .inl a2], [.inl x1]) M _
  refine zG_blk (c' := (11, [.inr (.inr (some 87)), .inl a1, .inl a2], [.inl a2, .inr (.inr (some 88)), .inl x1])) 3 hd0 hz (by rfl) ?_
  refine zG_iald hd0 hz rfl rfl (.inl rfl) (by omega) ?_
  have hx2 := hC.rng 88 (a2).toNat (by decide) (by decide)
  generalize M 88 (a2).toNat = x2 at hx2 ⊢
  show zG n (0, 0) d 72 (12, [.inr (.inr (some 87)), .inl a1, .inl a2], [.inl x2, .inl x1]) M _
  obtain ⟨x3, hx3⟩ : ∃ x : Int, x = zband x1 x2 := ⟨_, rfl⟩
  have hx3r : qin x3 := by rw [hx3]; exact qb32 _
  refine zG_blk (c' := (13, [.inr (.inr (some 87)), .inl a1, .inl a2], [.inl x3])) 1 hd0 hz (by subst hx3; rfl) ?_
  have j44 : ∀ (v4 : Int) , 0 ≤ v4 ∧ v4 ≤ 1 → zG n (0, 0) d 72 (44, [.inr (.inr (some 87)), .inl a1, .inl a2], [.inl v4]) M (fun v M' => M' = M ∧ qRi (fun x => 0 ≤ x ∧ x ≤ 1) v) := by
    intro v4 hv4
    exact zG_zret hd0 hz rfl (by omega) ⟨rfl, _, rfl, by omega⟩
  have j43 : zG n (0, 0) d 72 (43, [.inr (.inr (some 87)), .inl a1, .inl a2], []) M (fun v M' => M' = M ∧ qRi (fun x => 0 ≤ x ∧ x ≤ 1) v) := by
    refine zG_blk (c' := (44, [.inr (.inr (some 87)), .inl a1, .inl a2], [.inl 0])) 1 hd0 hz (by rfl) ?_
    exact j44 0 (by omega)
  refine zG_if_ne hd0 hz rfl (fun hb5 => ?_) (fun hb5 => ?_)
  · exact j43
  · refine zG_blk (c' := (21, [.inr (.inr (some 87)), .inl a1, .inl a2], [.inl a1, .inr (.inr (some 91))])) 3 hd0 hz (by rfl) ?_
    refine zG_iald hd0 hz rfl rfl (.inl rfl) (by omega) ?_
    have hx6 := hC.rng 91 (a1).toNat (by decide) (by decide)
    generalize M 91 (a1).toNat = x6 at hx6 ⊢
    show zG n (0, 0) d 72 (22, [.inr (.inr (some 87)), .inl a1, .inl a2], [.inl x6]) M _
    refine zG_blk (c' := (27, [.inr (.inr (some 87)), .inl a1, .inl a2], [.inl a2, .inr (.inr (some 88)), .inl x6])) 3 hd0 hz (by rfl) ?_
    refine zG_iald hd0 hz rfl rfl (.inl rfl) (by omega) ?_
    have hx7 := hC.rng 88 (a2).toNat (by decide) (by decide)
    generalize M 88 (a2).toNat = x7 at hx7 ⊢
    show zG n (0, 0) d 72 (28, [.inr (.inr (some 87)), .inl a1, .inl a2], [.inl x7, .inl x6]) M _
    refine zG_call hd0 hz (rfl : zP 296 = (zk_J6_bitCount_0f7a4, 1, (0, 0))) rfl rfl (Nat.le_of_ble_eq_true rfl) ⟨Nat.le_refl _, Nat.le_refl _⟩ (qm_296 (by omega) hC  x7 (by omega)) (fun vr M8 hr => ?_)
    obtain ⟨hq, x9, rfl, hx9⟩ := hr
    replace hq := hq.symm; subst hq
    show zG n (0, 0) d 72 (31, [.inr (.inr (some 87)), .inl a1, .inl a2], [.inl x9, .inl x6]) M _
    obtain ⟨x10, hx10⟩ : ∃ x : Int, x = w32 (x6 + x9) := ⟨_, rfl⟩
    have hx10r : x10 = (x6 + x9 + 2147483648) % 4294967296 - 2147483648 := hx10
    have r11 := hC.rng 87 6 (by decide) (by decide)
    refine zG_blk (c' := (36, [.inr (.inr (some 87)), .inl a1, .inl a2], [.inl (M 87 6), .inl x10])) 3 hd0 hz (by subst hx10; rfl) ?_
    refine zG_icmp_gt hd0 hz rfl (fun hb12 => ?_) (fun hb12 => ?_)
    · exact j43
    · refine zG_blk (c' := (44, [.inr (.inr (some 87)), .inl a1, .inl a2], [.inl 1])) 2 hd0 hz (by rfl) ?_
      exact j44 1 (by omega)
theorem qm_43_60 {n d : Nat} {M : zM} (hd : 2 ≤ d) (hC : qCI M) (a1 : Int) (ha1 : (-2147483648) ≤ a1 ∧ a1 ≤ 2147483647) : qOkP n d 43 [.inr (.inr (some 60)), .inl a1] 2 M (qRi (fun x => (-2147483648) ≤ x ∧ x ≤ 2147483647)) := by
  have hz : zP 43 = (zk_X4_secondOf, 2, (0, 0)) := rfl
  have hd0 : 0 < d := by omega
  show zG n (0, 0) d 43 (0, [.inr (.inr (some 60)), .inl a1], []) M _
  refine zG_blk (c' := (6, [.inr (.inr (some 60)), .inl a1], [.inl 2, .inl a1, .inr (.inr (some 61))])) 4 hd0 hz (by rfl) ?_
  refine zG_call hd0 hz (rfl : zP 106 = (zk_X8_get, 3, (0, 0))) rfl rfl (Nat.le_of_ble_eq_true rfl) ⟨Nat.le_refl _, Nat.le_refl _⟩ (qw_get (by omega) hC (⟨by decide, rfl, rfl⟩ : qT n 61 250 4) a1 (by omega) 2 (by omega)) (fun vr M1 hr => ?_)
  obtain ⟨hq, x2, rfl, hx2⟩ := hr
  replace hq := hq.symm; subst hq
  show zG n (0, 0) d 43 (9, [.inr (.inr (some 60)), .inl a1], [.inl x2]) M _
  exact zG_ret hd0 hz rfl rfl ⟨rfl, _, rfl, by omega⟩
theorem qm_7_92 {n d : Nat} {M : zM} (hd : 2 ≤ d) (hC : qCI M) (a1 : Int) (ha1 : (-2147483648) ≤ a1 ∧ a1 ≤ 2147483647) (a2 : Int) (ha2 : (-2147483648) ≤ a2 ∧ a2 ≤ 2147483647) : qOkM n d 7 [.inr (.inr (some 92)), .inl a1, .inl a2] 4 qCI [92] M qRn := by
  have hz : zP 7 = (zk_X1_addPair, 4, (0, 0)) := rfl
  have hd0 : 0 < d := by omega
  have hW : qFr [92] M M := qFr.rfl
  show zG n (0, 0) d 7 (0, [.inr (.inr (some 92)), .inl a1, .inl a2, zN], []) M _
  refine zG_blk (c' := (10, [.inr (.inr (some 92)), .inl a1, .inl a2, zN], [.inl 7, .inl a1, .inr (.inr (some 18))])) 5 hd0 hz (by rfl) ?_
  refine zG_call hd0 hz (rfl : zP 106 = (zk_X8_get, 3, (0, 0))) rfl rfl (Nat.le_of_ble_eq_true rfl) ⟨Nat.le_refl _, Nat.le_refl _⟩ (qw_get (by omega) hC (⟨by decide, rfl, rfl⟩ : qT n 18 250 11) a1 (by omega) 7 (by omega)) (fun vr M1 hr => ?_)
  obtain ⟨hq, x2, rfl, hx2⟩ := hr
  replace hq := hq.symm; subst hq
  show zG n (0, 0) d 7 (13, [.inr (.inr (some 92)), .inl a1, .inl a2, zN], [.inl x2]) M _
  refine zG_blk (c' := (23, [.inr (.inr (some 92)), .inl a1, .inl a2, zN], [.inl 7, .inl a2, .inr (.inr (some 18)), .inl x2])) 5 hd0 hz (by rfl) ?_
  refine zG_call hd0 hz (rfl : zP 106 = (zk_X8_get, 3, (0, 0))) rfl rfl (Nat.le_of_ble_eq_true rfl) ⟨Nat.le_refl _, Nat.le_refl _⟩ (qw_get (by omega) hC (⟨by decide, rfl, rfl⟩ : qT n 18 250 11) a2 (by omega) 7 (by omega)) (fun vr M3 hr => ?_)
  obtain ⟨hq, x4, rfl, hx4⟩ := hr
  replace hq := hq.symm; subst hq
  show zG n (0, 0) d 7 (26, [.inr (.inr (some 92)), .inl a1, .inl a2, zN], [.inl x4, .inl x2]) M _
  obtain ⟨x5, hx5⟩ : ∃ x : Int, x = w32 (x2 - x4) := ⟨_, rfl⟩
  have hx5r : x5 = (x2 - x4 + 2147483648) % 4294967296 - 2147483648 := hx5
  have r6 := hC.rng 92 4 (by decide) (by decide)
  obtain ⟨x7, hx7⟩ : ∃ x : Int, x = w32 ((M 92 4) + 1) := ⟨_, rfl⟩
  have hx7r : x7 = ((M 92 4) + 1 + 2147483648) % 4294967296 - 2147483648 := hx7
  refine zG_blk (c' := (35, [.inr (.inr (some 92)), .inl a1, .inl a2, .inl x5], [.inl x7, .inr (.inr (some 92))])) 7 hd0 hz (by subst hx7; subst hx5; rfl) ?_
  refine zG_putf (.inl rfl) hd0 hz rfl (by decide) rfl rfl ?_
  obtain ⟨M8, hM8⟩ : ∃ X : zM, X = zput M 92 4 x7 := ⟨_, rfl⟩
  rw [← hM8]
  have hCM8 : qCI M8 := by rw [hM8]; exact hC.put (r := 92) (k := 4) rfl (.inl (by omega))
  have hWM8 : qFr [92] M M8 := by rw [hM8]; exact hW.put (by decide)
  have e9 : M8 92 4 = x7 := by rw [hM8]; exact qput_eq
  show zG n (0, 0) d 7 (38, [.inr (.inr (some 92)), .inl a1, .inl a2, .inl x5], []) M8 _
  have r10 := hCM8.rng 92 7 (by decide) (by decide)
  obtain ⟨x11, hx11⟩ : ∃ x : Int, x = w32 ((M8 92 7) + x5) := ⟨_, rfl⟩
  have hx11r : x11 = ((M8 92 7) + x5 + 2147483648) % 4294967296 - 2147483648 := hx11
  refine zG_blk (c' := (45, [.inr (.inr (some 92)), .inl a1, .inl a2, .inl x5], [.inl x11, .inr (.inr (some 92))])) 5 hd0 hz (by subst hx11; rfl) ?_
  refine zG_putf (.inl rfl) hd0 hz rfl (by decide) rfl rfl ?_
  obtain ⟨M12, hM12⟩ : ∃ X : zM, X = zput M8 92 7 x11 := ⟨_, rfl⟩
  rw [← hM12]
  have hCM12 : qCI M12 := by rw [hM12]; exact hCM8.put (r := 92) (k := 7) rfl (.inl (by omega))
  have hWM12 : qFr [92] M M12 := by rw [hM12]; exact hWM8.put (by decide)
  have e13 : M12 92 4 = M8 92 4 := by rw [hM12]; exact qput_nk (by decide)
  have e14 : M12 92 7 = x11 := by rw [hM12]; exact qput_eq
  show zG n (0, 0) d 7 (48, [.inr (.inr (some 92)), .inl a1, .inl a2, .inl x5], []) M12 _
  have r15 := hCM12.rng 92 5 (by decide) (by decide)
  refine zG_blk (c' := (54, [.inr (.inr (some 92)), .inl a1, .inl a2, .inl x5], [.inl x5, .inl (M12 92 5), .inr (.inr (some 92))])) 4 hd0 hz (by rfl) ?_
  have j62 : ∀ (v16 v17 : Int) , (-2147483648) ≤ v16 ∧ v16 ≤ 2147483647 → 0 ≤ v17 ∧ v17 ≤ 1 → zG n (0, 0) d 7 (62, [.inr (.inr (some 92)), .inl a1, .inl a2, .inl x5], [.inl v17, .inl v16, .inr (.inr (some 92))]) M12 (fun v M' => qWf qCI [92] M M' ∧ qRn v) := by
    intro v16 v17 hv16 hv17
    obtain ⟨x18, hx18⟩ : ∃ x : Int, x = w32 (v16 + v17) := ⟨_, rfl⟩
    have hx18r : x18 = (v16 + v17 + 2147483648) % 4294967296 - 2147483648 := hx18
    refine zG_blk (c' := (63, [.inr (.inr (some 92)), .inl a1, .inl a2, .inl x5], [.inl x18, .inr (.inr (some 92))])) 1 hd0 hz (by subst hx18; rfl) ?_
    refine zG_putf (.inl rfl) hd0 hz rfl (by decide) rfl rfl ?_
    obtain ⟨M19, hM19⟩ : ∃ X : zM, X = zput M12 92 5 x18 := ⟨_, rfl⟩
    rw [← hM19]
    have hCM19 : qCI M19 := by rw [hM19]; exact hCM12.put (r := 92) (k := 5) rfl (.inl (by omega))
    have hWM19 : qFr [92] M M19 := by rw [hM19]; exact hWM12.put (by decide)
    have e20 : M19 92 4 = M12 92 4 := by rw [hM19]; exact qput_nk (by decide)
    have e21 : M19 92 7 = M12 92 7 := by rw [hM19]; exact qput_nk (by decide)
    have e22 : M19 92 5 = x18 := by rw [hM19]; exact qput_eq
    show zG n (0, 0) d 7 (66, [.inr (.inr (some 92)), .inl a1, .inl a2, .inl x5], []) M19 _
    have r23 := hCM19.rng 92 6 (by decide) (by decide)
    refine zG_blk (c' := (72, [.inr (.inr (some 92)), .inl a1, .inl a2, .inl x5], [.inl x5, .inl (M19 92 6), .inr (.inr (some 92))])) 4 hd0 hz (by rfl) ?_
    have j80 : ∀ (v24 v25 : Int) , (-2147483648) ≤ v24 ∧ v24 ≤ 2147483647 → 0 ≤ v25 ∧ v25 ≤ 1 → zG n (0, 0) d 7 (80, [.inr (.inr (some 92)), .inl a1, .inl a2, .inl x5], [.inl v25, .inl v24, .inr (.inr (some 92))]) M19 (fun v M' => qWf qCI [92] M M' ∧ qRn v) := by
      intro v24 v25 hv24 hv25
      obtain ⟨x26, hx26⟩ : ∃ x : Int, x = w32 (v24 + v25) := ⟨_, rfl⟩
      have hx26r : x26 = (v24 + v25 + 2147483648) % 4294967296 - 2147483648 := hx26
      refine zG_blk (c' := (81, [.inr (.inr (some 92)), .inl a1, .inl a2, .inl x5], [.inl x26, .inr (.inr (some 92))])) 1 hd0 hz (by subst hx26; rfl) ?_
      refine zG_putf (.inl rfl) hd0 hz rfl (by decide) rfl rfl ?_
      obtain ⟨M27, hM27⟩ : ∃ X : zM, X = zput M19 92 6 x26 := ⟨_, rfl⟩
      rw [← hM27]
      have hCM27 : qCI M27 := by rw [hM27]; exact hCM19.put (r := 92) (k := 6) rfl (.inl (by omega))
      have hWM27 : qFr [92] M M27 := by rw [hM27]; exact hWM19.put (by decide)
      have e28 : M27 92 4 = M19 92 4 := by rw [hM27]; exact qput_nk (by decide)
      have e29 : M27 92 7 = M19 92 7 := by rw [hM27]; exact qput_nk (by decide)
      have e30 : M27 92 5 = M19 92 5 := by rw [hM27]; exact qput_nk (by decide)
      have e31 : M27 92 6 = x26 := by rw [hM27]; exact qput_eq
      show zG n (0, 0) d 7 (84, [.inr (.inr (some 92)), .inl a1, .inl a2, .inl x5], []) M27 _
      exact zG_ret hd0 hz rfl rfl ⟨⟨hCM27, hWM27⟩, rfl⟩
    refine zG_if_le hd0 hz rfl (fun hb32 => ?_) (fun hb32 => ?_)
    · refine zG_blk (c' := (80, [.inr (.inr (some 92)), .inl a1, .inl a2, .inl x5], [.inl 0, .inl (M19 92 6), .inr (.inr (some 92))])) 1 hd0 hz (by rfl) ?_
      exact j80 (M19 92 6) 0 (by omega) (by omega)
    · refine zG_blk (c' := (80, [.inr (.inr (some 92)), .inl a1, .inl a2, .inl x5], [.inl 1, .inl (M19 92 6), .inr (.inr (some 92))])) 2 hd0 hz (by rfl) ?_
      exact j80 (M19 92 6) 1 (by omega) (by omega)
  refine zG_if_eq hd0 hz rfl (fun hb33 => ?_) (fun hb33 => ?_)
  · refine zG_blk (c' := (62, [.inr (.inr (some 92)), .inl a1, .inl a2, .inl x5], [.inl 0, .inl (M12 92 5), .inr (.inr (some 92))])) 1 hd0 hz (by rfl) ?_
    exact j62 (M12 92 5) 0 (by omega) (by omega)
  · refine zG_blk (c' := (62, [.inr (.inr (some 92)), .inl a1, .inl a2, .inl x5], [.inl 1, .inl (M12 92 5), .inr (.inr (some 92))])) 2 hd0 hz (by rfl) ?_
    exact j62 (M12 92 5) 1 (by omega) (by omega)
theorem qm_161_8 {n d : Nat} {M : zM} (hd : 2 ≤ d) (hC : qCI M) (a1 : Int) (ha1 : (-2147483648) ≤ a1 ∧ a1 ≤ 2147483647) : qOkM n d 161 [.inr (.inr (some 8)), .inl a1] 3 qCI [9] M (qRi (fun x => (-2147483648) ≤ x ∧ x ≤ 2147483647)) := by
  have hz : zP 161 = (zk_X10_odds, 3, (0, 0)) := rfl
  have hd0 : 0 < d := by omega
  have hW : qFr [9] M M := qFr.rfl
  show zG n (0, 0) d 161 (0, [.inr (.inr (some 8)), .inl a1, zN], []) M _
  refine zG_blk (c' := (5, [.inr (.inr (some 8)), .inl a1, zN], [.inl 10000, .inl 1, .inl a1])) 3 hd0 hz (by rfl) ?_
  refine zG_call hd0 hz (rfl : zP 169 = (zk_X10_within, 3, (0, 0))) rfl rfl (Nat.le_of_ble_eq_true rfl) ⟨Nat.le_refl _, Nat.le_refl _⟩ (qm_169 (by omega) hC  a1 (by omega) 1 (by omega) 10000 (by omega)) (fun vr M1 hr => ?_)
  obtain ⟨hq, x2, rfl, hx2⟩ := hr
  replace hq := hq.symm; subst hq
  show zG n (0, 0) d 161 (8, [.inr (.inr (some 8)), .inl a1, zN], [.inl x2]) M _
  refine zG_if_ne hd0 hz rfl (fun hb3 => ?_) (fun hb3 => ?_)
  · have r4 := hC.rng 9 9 (by decide) (by decide)
    refine zG_blk (c' := (27, [.inr (.inr (some 8)), .inl a1, .inl (M 9 9)], [.inl a1, .inr (.inr (some 9))])) 7 hd0 hz (by rfl) ?_
    refine zG_putf (.inl rfl) hd0 hz rfl (by decide) rfl rfl ?_
    obtain ⟨M5, hM5⟩ : ∃ X : zM, X = zput M 9 9 a1 := ⟨_, rfl⟩
    rw [← hM5]
    have hCM5 : qCI M5 := by rw [hM5]; exact hC.put (r := 9) (k := 9) rfl (.inl (by omega))
    have hWM5 : qFr [9] M M5 := by rw [hM5]; exact hW.put (by decide)
    have e6 : M5 9 9 = a1 := by rw [hM5]; exact qput_eq
    show zG n (0, 0) d 161 (30, [.inr (.inr (some 8)), .inl a1, .inl (M 9 9)], []) M5 _
    refine zG_blk (c' := (31, [.inr (.inr (some 8)), .inl a1, .inl (M 9 9)], [.inl (M 9 9)])) 1 hd0 hz (by rfl) ?_
    exact zG_ret hd0 hz rfl rfl ⟨⟨hCM5, hWM5⟩, _, rfl, by omega⟩
  · refine zG_blk (c' := (13, [.inr (.inr (some 8)), .inl a1, zN], [.inl (-2)])) 1 hd0 hz (by rfl) ?_
    exact zG_ret hd0 hz rfl rfl ⟨⟨hC, hW⟩, _, rfl, by omega⟩
theorem qm_162_8 {n d : Nat} {M : zM} (hd : 2 ≤ d) (hC : qCI M) (a1 : Int) (ha1 : (-2147483648) ≤ a1 ∧ a1 ≤ 2147483647) (a2 : Int) (ha2 : (-2147483648) ≤ a2 ∧ a2 ≤ 2147483647) : qOkM n d 162 [.inr (.inr (some 8)), .inl a1, .inl a2] 4 qCI [24, 25] M (qRi (fun x => (-4) ≤ x ∧ x ≤ 12)) := by
  have hz : zP 162 = (zk_X10_line, 4, (0, 0)) := rfl
  have hd0 : 0 < d := by omega
  have hW : qFr [24, 25] M M := qFr.rfl
  show zG n (0, 0) d 162 (0, [.inr (.inr (some 8)), .inl a1, .inl a2, zN], []) M _
  refine zG_blk (c' := (5, [.inr (.inr (some 8)), .inl a1, .inl a2, zN], [.inl 1000, .inl 0, .inl a1])) 3 hd0 hz (by rfl) ?_
  refine zG_call hd0 hz (rfl : zP 169 = (zk_X10_within, 3, (0, 0))) rfl rfl (Nat.le_of_ble_eq_true rfl) ⟨Nat.le_refl _, Nat.le_refl _⟩ (qm_169 (by omega) hC  a1 (by omega) 0 (by omega) 1000 (by omega)) (fun vr M1 hr => ?_)
  obtain ⟨hq, x2, rfl, hx2⟩ := hr
  replace hq := hq.symm; subst hq
  show zG n (0, 0) d 162 (8, [.inr (.inr (some 8)), .inl a1, .inl a2, zN], [.inl x2]) M _
  have j22 : zG n (0, 0) d 162 (22, [.inr (.inr (some 8)), .inl a1, .inl a2, zN], []) M (fun v M' => qWf qCI [24, 25] M M' ∧ qRi (fun x => (-4) ≤ x ∧ x ≤ 12) v) := by
    refine zG_blk (c' := (24, [.inr (.inr (some 8)), .inl a1, .inl a2, zN], [.inl (-2)])) 1 hd0 hz (by rfl) ?_
    exact zG_ret hd0 hz rfl rfl ⟨⟨hC, hW⟩, _, rfl, by omega⟩
  refine zG_if_eq hd0 hz rfl (fun hb3 => ?_) (fun hb3 => ?_)
  · exact j22
  · refine zG_blk (c' := (16, [.inr (.inr (some 8)), .inl a1, .inl a2, zN], [.inl 1000, .inl 0, .inl a2])) 3 hd0 hz (by rfl) ?_
    refine zG_call hd0 hz (rfl : zP 169 = (zk_X10_within, 3, (0, 0))) rfl rfl (Nat.le_of_ble_eq_true rfl) ⟨Nat.le_refl _, Nat.le_refl _⟩ (qm_169 (by omega) hC  a2 (by omega) 0 (by omega) 1000 (by omega)) (fun vr M4 hr => ?_)
    obtain ⟨hq, x5, rfl, hx5⟩ := hr
    replace hq := hq.symm; subst hq
    show zG n (0, 0) d 162 (19, [.inr (.inr (some 8)), .inl a1, .inl a2, zN], [.inl x5]) M _
    refine zG_if_ne hd0 hz rfl (fun hb6 => ?_) (fun hb6 => ?_)
    · refine zG_blk (c' := (32, [.inr (.inr (some 8)), .inl a1, .inl a2, zN], [.inr (.inr (some 24))])) 3 hd0 hz (by rfl) ?_
      refine zG_call hd0 hz (rfl : zP 103 = (zk_X8_open, 1, (0, 0))) rfl rfl (Nat.le_of_ble_eq_true rfl) ⟨Nat.le_refl _, Nat.le_refl _⟩ (qw_open (by omega) hC (⟨by decide, rfl, rfl⟩ : qT n 24 12 2) ) (fun vr M7 hr => ?_)
      obtain ⟨⟨hCM7, hFM7⟩, x8, rfl, hx8⟩ := hr
      have hWM7 : qFr [24, 25] M M7 := hW.tr hFM7 (by decide)
      show zG n (0, 0) d 162 (35, [.inr (.inr (some 8)), .inl a1, .inl a2, zN], [.inl x8]) M7 _
      refine zG_blk (c' := (39, [.inr (.inr (some 8)), .inl a1, .inl a2, .inl x8], [.inl (-4), .inl x8])) 3 hd0 hz (by rfl) ?_
      refine zG_icmp_ne hd0 hz rfl (fun hb9 => ?_) (fun hb9 => ?_)
      · refine zG_blk (c' := (55, [.inr (.inr (some 8)), .inl a1, .inl a2, .inl x8], [.inl a1, .inl 0, .inl x8, .inr (.inr (some 24))])) 6 hd0 hz (by rfl) ?_
        refine zG_call hd0 hz (rfl : zP 107 = (zk_X8_set, 4, (0, 0))) rfl rfl (Nat.le_of_ble_eq_true rfl) ⟨Nat.le_refl _, Nat.le_refl _⟩ (qw_set (by omega) hCM7 (⟨by decide, rfl, rfl⟩ : qT n 24 12 2) x8 (by omega) 0 (by omega) a1 (by omega)) (fun vr M10 hr => ?_)
        obtain ⟨⟨hCM10, hFM10⟩, rfl⟩ := hr
        have hWM10 : qFr [24, 25] M M10 := hWM7.tr hFM10 (by decide)
        show zG n (0, 0) d 162 (58, [.inr (.inr (some 8)), .inl a1, .inl a2, .inl x8], []) M10 _
        refine zG_blk (c' := (68, [.inr (.inr (some 8)), .inl a1, .inl a2, .inl x8], [.inl a2, .inl 1, .inl x8, .inr (.inr (some 24))])) 6 hd0 hz (by rfl) ?_
        refine zG_call hd0 hz (rfl : zP 107 = (zk_X8_set, 4, (0, 0))) rfl rfl (Nat.le_of_ble_eq_true rfl) ⟨Nat.le_refl _, Nat.le_refl _⟩ (qw_set (by omega) hCM10 (⟨by decide, rfl, rfl⟩ : qT n 24 12 2) x8 (by omega) 1 (by omega) a2 (by omega)) (fun vr M12 hr => ?_)
        obtain ⟨⟨hCM12, hFM12⟩, rfl⟩ := hr
        have hWM12 : qFr [24, 25] M M12 := hWM10.tr hFM12 (by decide)
        show zG n (0, 0) d 162 (71, [.inr (.inr (some 8)), .inl a1, .inl a2, .inl x8], []) M12 _
        obtain ⟨x14, hx14⟩ : ∃ x : Int, x = w32 (x8 + 1) := ⟨_, rfl⟩
        have hx14e : x14 = x8 + 1 := by rw [hx14]; exact w32_id (by omega)
        refine zG_blk (c' := (74, [.inr (.inr (some 8)), .inl a1, .inl a2, .inl x8], [.inl x14])) 3 hd0 hz (by subst hx14; rfl) ?_
        exact zG_ret hd0 hz rfl rfl ⟨⟨hCM12, hWM12⟩, _, rfl, by omega⟩
      · refine zG_blk (c' := (44, [.inr (.inr (some 8)), .inl a1, .inl a2, .inl x8], [.inl (-4)])) 1 hd0 hz (by rfl) ?_
        exact zG_ret hd0 hz rfl rfl ⟨⟨hCM7, hWM7⟩, _, rfl, by omega⟩
    · exact j22
theorem qm_163_8 {n d : Nat} {M : zM} (hd : 2 ≤ d) (hC : qCI M)  : qOkM n d 163 [.inr (.inr (some 8))] 2 qCI [24] M (qRi (fun x => 0 ≤ x ∧ x ≤ 12)) := by
  have hz : zP 163 = (zk_X10_clear, 2, (0, 0)) := rfl
  have hd0 : 0 < d := by omega
  have hW : qFr [24] M M := qFr.rfl
  show zG n (0, 0) d 163 (0, [.inr (.inr (some 8)), zN], []) M _
  refine zG_blk (c' := (7, [.inr (.inr (some 8)), zN], [.inr (.inr (some 24))])) 3 hd0 hz (by rfl) ?_
  refine zG_call hd0 hz (rfl : zP 101 = (zk_X8_size, 1, (0, 0))) rfl rfl (Nat.le_of_ble_eq_true rfl) ⟨Nat.le_refl _, Nat.le_refl _⟩ (qw_size (by omega) hC (⟨by decide, rfl, rfl⟩ : qT n 24 12 2) ) (fun vr M1 hr => ?_)
  obtain ⟨hq, x2, rfl, hx2⟩ := hr
  replace hq := hq.symm; subst hq
  show zG n (0, 0) d 163 (10, [.inr (.inr (some 8)), zN], [.inl x2]) M _
  refine zG_blk (c' := (18, [.inr (.inr (some 8)), .inl x2], [.inr (.inr (some 24))])) 4 hd0 hz (by rfl) ?_
  refine zG_call hd0 hz (rfl : zP 104 = (zk_X8_drop, 1, (0, 0))) rfl rfl (Nat.le_of_ble_eq_true rfl) ⟨Nat.le_refl _, Nat.le_refl _⟩ (qw_drop (by omega) hC (⟨by decide, rfl, rfl⟩ : qT n 24 12 2) ) (fun vr M3 hr => ?_)
  obtain ⟨⟨hCM3, hFM3⟩, rfl⟩ := hr
  have hWM3 : qFr [24] M M3 := hW.tr hFM3 (by decide)
  show zG n (0, 0) d 163 (21, [.inr (.inr (some 8)), .inl x2], []) M3 _
  refine zG_blk (c' := (22, [.inr (.inr (some 8)), .inl x2], [.inl x2])) 1 hd0 hz (by rfl) ?_
  exact zG_ret hd0 hz rfl rfl ⟨⟨hCM3, hWM3⟩, _, rfl, by omega⟩
theorem qm_4_95_24 {n d : Nat} {M : zM} (hd : 2 ≤ d) (hC : qCI M)  : qOkM n d 4 [.inr (.inr (some 95)), .inr (.inr (some 24))] 7 qCI [96] M (qRi (fun x => (-2147483648) ≤ x ∧ x ≤ 2147483647)) := by
  have hz : zP 4 = (zk_X0_prepare, 7, (0, 0)) := rfl
  have hd0 : 0 < d := by omega
  have hW : qFr [96] M M := qFr.rfl
  show zG n (0, 0) d 4 (0, [.inr (.inr (some 95)), .inr (.inr (some 24)), zN, zN, zN, zN, zN], []) M _
  refine zG_blk (c' := (7, [.inr (.inr (some 95)), .inr (.inr (some 24)), .inl 0, .inl 0, .inl 0, zN, zN], [])) 6 hd0 hz (by rfl) ?_
  have j7 : ∀ (N : Nat) (v1 v2 v3 : Int) (M4 : zM) , (12 - v3 : Int).toNat < N → (-2147483648) ≤ v1 ∧ v1 ≤ 2147483647 → (-2147483648) ≤ v2 ∧ v2 ≤ 2147483647 → 0 ≤ v3 ∧ v3 ≤ 12 → qCI M4 → qFr [96] M M4 → zG n (0, 0) d 4 (7, [.inr (.inr (some 95)), .inr (.inr (some 24)), .inl v1, .inl v2, .inl v3, zN, zN], []) M4 (fun v M' => qWf qCI [96] M M' ∧ qRi (fun x => (-2147483648) ≤ x ∧ x ≤ 2147483647) v) := by
    intro N
    induction N with
    | zero => intro v1 v2 v3 M4 hN hv1 hv2 hv3 hCM4 hWM4; exact absurd hN (Nat.not_lt_zero _)
    | succ N ih7 =>
      intro v1 v2 v3 M4 hN hv1 hv2 hv3 hCM4 hWM4
      refine zG_blk (c' := (10, [.inr (.inr (some 95)), .inr (.inr (some 24)), .inl v1, .inl v2, .inl v3, zN, zN], [.inr (.inr (some 24)), .inl v3])) 2 hd0 hz (by rfl) ?_
      refine zG_call hd0 hz (rfl : zP 101 = (zk_X8_size, 1, (0, 0))) rfl rfl (Nat.le_of_ble_eq_true rfl) ⟨Nat.le_refl _, Nat.le_refl _⟩ (qw_size (by omega) hCM4 (⟨by decide, rfl, rfl⟩ : qT n 24 12 2) ) (fun vr M5 hr => ?_)
      obtain ⟨hq, x6, rfl, hx6⟩ := hr
      replace hq := hq.symm; subst hq
      show zG n (0, 0) d 4 (13, [.inr (.inr (some 95)), .inr (.inr (some 24)), .inl v1, .inl v2, .inl v3, zN, zN], [.inl x6, .inl v3]) M4 _
      have j74 : zG n (0, 0) d 4 (74, [.inr (.inr (some 95)), .inr (.inr (some 24)), .inl v1, .inl v2, .inl v3, zN, zN], []) M4 (fun v M' => qWf qCI [96] M M' ∧ qRi (fun x => (-2147483648) ≤ x ∧ x ≤ 2147483647) v) := by
        refine zG_blk (c' := (75, [.inr (.inr (some 95)), .inr (.inr (some 24)), .inl v1, .inl v2, .inl v3, zN, zN], [.inl v1])) 1 hd0 hz (by rfl) ?_
        exact zG_ret hd0 hz rfl rfl ⟨⟨hCM4, hWM4⟩, _, rfl, by omega⟩
      refine zG_icmp_ge hd0 hz rfl (fun hb7 => ?_) (fun hb7 => ?_)
      · exact j74
      · refine zG_blk (c' := (23, [.inr (.inr (some 95)), .inr (.inr (some 24)), .inl v1, .inl v2, .inl v3, zN, zN], [.inl 12, .inl v3])) 4 hd0 hz (by rfl) ?_
        refine zG_icmp_ge hd0 hz rfl (fun hb8 => ?_) (fun hb8 => ?_)
        · exfalso; omega
        · refine zG_blk (c' := (30, [.inr (.inr (some 95)), .inr (.inr (some 24)), .inl v1, .inl v2, .inl v3, zN, zN], [.inl 0, .inl v3, .inr (.inr (some 24))])) 3 hd0 hz (by rfl) ?_
          refine zG_call hd0 hz (rfl : zP 106 = (zk_X8_get, 3, (0, 0))) rfl rfl (Nat.le_of_ble_eq_true rfl) ⟨Nat.le_refl _, Nat.le_refl _⟩ (qw_get (by omega) hCM4 (⟨by decide, rfl, rfl⟩ : qT n 24 12 2) v3 (by omega) 0 (by omega)) (fun vr M9 hr => ?_)
          obtain ⟨hq, x10, rfl, hx10⟩ := hr
          replace hq := hq.symm; subst hq
          show zG n (0, 0) d 4 (33, [.inr (.inr (some 95)), .inr (.inr (some 24)), .inl v1, .inl v2, .inl v3, zN, zN], [.inl x10]) M4 _
          refine zG_blk (c' := (39, [.inr (.inr (some 95)), .inr (.inr (some 24)), .inl v1, .inl v2, .inl v3, .inl x10, zN], [.inl 1, .inl v3, .inr (.inr (some 24))])) 4 hd0 hz (by rfl) ?_
          refine zG_call hd0 hz (rfl : zP 106 = (zk_X8_get, 3, (0, 0))) rfl rfl (Nat.le_of_ble_eq_true rfl) ⟨Nat.le_refl _, Nat.le_refl _⟩ (qw_get (by omega) hCM4 (⟨by decide, rfl, rfl⟩ : qT n 24 12 2) v3 (by omega) 1 (by omega)) (fun vr M11 hr => ?_)
          obtain ⟨hq, x12, rfl, hx12⟩ := hr
          replace hq := hq.symm; subst hq
          show zG n (0, 0) d 4 (42, [.inr (.inr (some 95)), .inr (.inr (some 24)), .inl v1, .inl v2, .inl v3, .inl x10, zN], [.inl x12]) M4 _
          obtain ⟨x13, hx13⟩ : ∃ x : Int, x = w32 (x12 - x10) := ⟨_, rfl⟩
          have hx13r : x13 = (x12 - x10 + 2147483648) % 4294967296 - 2147483648 := hx13
          obtain ⟨x14, hx14⟩ : ∃ x : Int, x = w32 (v1 + x10) := ⟨_, rfl⟩
          have hx14r : x14 = (v1 + x10 + 2147483648) % 4294967296 - 2147483648 := hx14
          obtain ⟨x15, hx15⟩ : ∃ x : Int, x = w32 (x13 - v2) := ⟨_, rfl⟩
          have hx15r : x15 = (x13 - v2 + 2147483648) % 4294967296 - 2147483648 := hx15
          refine zG_blk (c' := (62, [.inr (.inr (some 95)), .inr (.inr (some 24)), .inl x14, .inl v2, .inl v3, .inl x10, .inl x13], [.inl x15, .inl v3, .inr (.inr (some 96))])) 13 hd0 hz (by subst hx15; subst hx14; subst hx13; rfl) ?_
          refine zG_iast hd0 hz rfl rfl (by omega) ?_
          obtain ⟨M16, hM16⟩ : ∃ X : zM, X = zput M4 96 (v3).toNat x15 := ⟨_, rfl⟩
          rw [← hM16]
          have hCM16 : qCI M16 := by rw [hM16]; exact hCM4.put (r := 96) rfl (.inl (by omega))
          have hWM16 : qFr [96] M M16 := by rw [hM16]; exact hWM4.put (by decide)
          show zG n (0, 0) d 4 (63, [.inr (.inr (some 95)), .inr (.inr (some 24)), .inl x14, .inl v2, .inl v3, .inl x10, .inl x13], []) M16 _
          obtain ⟨x17, hx17⟩ : ∃ x : Int, x = w32 (v2 + x13) := ⟨_, rfl⟩
          have hx17r : x17 = (v2 + x13 + 2147483648) % 4294967296 - 2147483648 := hx17
          obtain ⟨x18, hx18⟩ : ∃ x : Int, x = w32 (v3 + 1) := ⟨_, rfl⟩
          have hx18e : x18 = v3 + 1 := by rw [hx18]; exact w32_id (by omega)
          refine zG_blk (c' := (7, [.inr (.inr (some 95)), .inr (.inr (some 24)), .inl x14, .inl x17, .inl x18, .inl x10, .inl x13], [])) 6 hd0 hz (by subst hx18; subst hx17; rfl) ?_
          exact zG_weak (ih7 x14 x17 x18 M16 (by omega) (by omega) (by omega) (by omega) hCM16 hWM16) ⟨.inr rfl, .inr rfl, .inr rfl, .inr rfl, .inr rfl, .inl rfl, .inl rfl, trivial⟩
  exact j7 ((12 - 0 : Int).toNat + 1) 0 0 0 M (by omega) (by omega) (by omega) (by omega) hC hW
theorem qm_297 {n d : Nat} {M : zM} (hd : 1 ≤ d) (hC : qCI M) (a0 : Int) (ha0 : (-2147483648) ≤ a0 ∧ a0 ≤ 2147483647) : qOkP n d 297 [.inl a0] 2 M (qRi (fun x => (-2147483648) ≤ x ∧ x ≤ 2147483647)) := by
  have hz : zP 297 = (zk_J6_numberOfTrailingZeros_0f7a4, 2, (0, 0)) := rfl
  have hd0 : 0 < d := by omega
  show zG n (0, 0) d 297 (0, [.inl a0, zN], []) M _
  obtain ⟨x1, hx1⟩ : ∃ x : Int, x = zbxor a0 (-1) := ⟨_, rfl⟩
  have hx1r : qin x1 := by rw [hx1]; exact qb32 _
  obtain ⟨x2, hx2⟩ : ∃ x : Int, x = w32 (a0 - 1) := ⟨_, rfl⟩
  have hx2r : x2 = (a0 - 1 + 2147483648) % 4294967296 - 2147483648 := hx2
  obtain ⟨x3, hx3⟩ : ∃ x : Int, x = zband x1 x2 := ⟨_, rfl⟩
  have hx3r : qin x3 := by rw [hx3]; exact qb32 _
  refine zG_blk (c' := (9, [.inl x3, zN], [.inl x3])) 9 hd0 hz (by subst hx3; subst hx2; subst hx1; rfl) ?_
  refine zG_if_gt hd0 hz rfl (fun hb4 => ?_) (fun hb4 => ?_)
  · refine zG_blk (c' := (23, [.inl x3, .inl 1], [.inl 65536, .inl x3])) 4 hd0 hz (by rfl) ?_
    have j34 : ∀ (v5 v6 : Int) , (-2147483648) ≤ v5 ∧ v5 ≤ 2147483647 → 1 ≤ v6 ∧ v6 ≤ 17 → zG n (0, 0) d 297 (34, [.inl v5, .inl v6], []) M (fun v M' => M' = M ∧ qRi (fun x => (-2147483648) ≤ x ∧ x ≤ 2147483647) v) := by
      intro v5 v6 hv5 hv6
      refine zG_blk (c' := (38, [.inl v5, .inl v6], [.inl 256, .inl v5])) 2 hd0 hz (by rfl) ?_
      have j49 : ∀ (v7 v8 : Int) , (-2147483648) ≤ v7 ∧ v7 ≤ 2147483647 → 1 ≤ v8 ∧ v8 ≤ 25 → zG n (0, 0) d 297 (49, [.inl v7, .inl v8], []) M (fun v M' => M' = M ∧ qRi (fun x => (-2147483648) ≤ x ∧ x ≤ 2147483647) v) := by
        intro v7 v8 hv7 hv8
        refine zG_blk (c' := (52, [.inl v7, .inl v8], [.inl 16, .inl v7])) 2 hd0 hz (by rfl) ?_
        have j62 : ∀ (v9 v10 : Int) , (-2147483648) ≤ v9 ∧ v9 ≤ 2147483647 → 1 ≤ v10 ∧ v10 ≤ 29 → zG n (0, 0) d 297 (62, [.inl v9, .inl v10], []) M (fun v M' => M' = M ∧ qRi (fun x => (-2147483648) ≤ x ∧ x ≤ 2147483647) v) := by
          intro v9 v10 hv9 hv10
          refine zG_blk (c' := (64, [.inl v9, .inl v10], [.inl 4, .inl v9])) 2 hd0 hz (by rfl) ?_
          have j74 : ∀ (v11 v12 : Int) , (-2147483648) ≤ v11 ∧ v11 ≤ 2147483647 → 1 ≤ v12 ∧ v12 ≤ 31 → zG n (0, 0) d 297 (74, [.inl v11, .inl v12], []) M (fun v M' => M' = M ∧ qRi (fun x => (-2147483648) ≤ x ∧ x ≤ 2147483647) v) := by
            intro v11 v12 hv11 hv12
            obtain ⟨x13, hx13⟩ : ∃ x : Int, x = zbushr v11 1 := ⟨_, rfl⟩
            have hx13r : qin x13 := by rw [hx13]; exact qb32 _
            obtain ⟨x14, hx14⟩ : ∃ x : Int, x = w32 (v12 + x13) := ⟨_, rfl⟩
            have hx14r : x14 = (v12 + x13 + 2147483648) % 4294967296 - 2147483648 := hx14
            refine zG_blk (c' := (79, [.inl v11, .inl v12], [.inl x14])) 5 hd0 hz (by subst hx14; subst hx13; rfl) ?_
            exact zG_ret hd0 hz rfl rfl ⟨rfl, _, rfl, by omega⟩
          refine zG_icmp_le hd0 hz rfl (fun hb15 => ?_) (fun hb15 => ?_)
          · exact j74 v9 v10 (by omega) (by omega)
          · obtain ⟨x16, hx16⟩ : ∃ x : Int, x = w32 (v10 + 2) := ⟨_, rfl⟩
            have hx16e : x16 = v10 + 2 := by rw [hx16]; exact w32_id (by omega)
            obtain ⟨x17, hx17⟩ : ∃ x : Int, x = zbushr v9 2 := ⟨_, rfl⟩
            have hx17r : qin x17 := by rw [hx17]; exact qb32 _
            refine zG_blk (c' := (74, [.inl x17, .inl x16], [])) 5 hd0 hz (by subst hx17; subst hx16; rfl) ?_
            exact j74 x17 x16 (by omega) (by omega)
        refine zG_icmp_le hd0 hz rfl (fun hb18 => ?_) (fun hb18 => ?_)
        · exact j62 v7 v8 (by omega) (by omega)
        · obtain ⟨x19, hx19⟩ : ∃ x : Int, x = w32 (v8 + 4) := ⟨_, rfl⟩
          have hx19e : x19 = v8 + 4 := by rw [hx19]; exact w32_id (by omega)
          obtain ⟨x20, hx20⟩ : ∃ x : Int, x = zbushr v7 4 := ⟨_, rfl⟩
          have hx20r : qin x20 := by rw [hx20]; exact qb32 _
          refine zG_blk (c' := (62, [.inl x20, .inl x19], [])) 5 hd0 hz (by subst hx20; subst hx19; rfl) ?_
          exact j62 x20 x19 (by omega) (by omega)
      refine zG_icmp_le hd0 hz rfl (fun hb21 => ?_) (fun hb21 => ?_)
      · exact j49 v5 v6 (by omega) (by omega)
      · obtain ⟨x22, hx22⟩ : ∃ x : Int, x = w32 (v6 + 8) := ⟨_, rfl⟩
        have hx22e : x22 = v6 + 8 := by rw [hx22]; exact w32_id (by omega)
        obtain ⟨x23, hx23⟩ : ∃ x : Int, x = zbushr v5 8 := ⟨_, rfl⟩
        have hx23r : qin x23 := by rw [hx23]; exact qb32 _
        refine zG_blk (c' := (49, [.inl x23, .inl x22], [])) 5 hd0 hz (by subst hx23; subst hx22; rfl) ?_
        exact j49 x23 x22 (by omega) (by omega)
    refine zG_icmp_le hd0 hz rfl (fun hb24 => ?_) (fun hb24 => ?_)
    · exact j34 x3 1 (by omega) (by omega)
    · obtain ⟨x25, hx25⟩ : ∃ x : Int, x = zbushr x3 16 := ⟨_, rfl⟩
      have hx25r : qin x25 := by rw [hx25]; exact qb32 _
      refine zG_blk (c' := (34, [.inl x25, .inl 17], [])) 5 hd0 hz (by subst hx25; rfl) ?_
      exact j34 x25 17 (by omega) (by omega)
  · obtain ⟨x26, hx26⟩ : ∃ x : Int, x = zband x3 32 := ⟨_, rfl⟩
    have hx26r := qband_r x3 32 (by omega) (by omega); rw [← hx26] at hx26r
    refine zG_blk (c' := (16, [.inl x3, zN], [.inl x26])) 3 hd0 hz (by subst hx26; rfl) ?_
    exact zG_ret hd0 hz rfl rfl ⟨rfl, _, rfl, by omega⟩
theorem qm_176_8 {n d : Nat} {M : zM} (hd : 1 ≤ d) (hC : qCI M) (a1 : Int) (ha1 : (-2147483648) ≤ a1 ∧ a1 ≤ 2147483647) : qOkP n d 176 [.inr (.inr (some 8)), .inl a1] 2 M (fun v => v = some (.inr (.inr (some 26))) ∨ v = some (.inr (.inr (some 43)))) := by
  have hz : zP 176 = (zk_X10_imageAt, 2, (0, 0)) := rfl
  have hd0 : 0 < d := by omega
  show zG n (0, 0) d 176 (0, [.inr (.inr (some 8)), .inl a1], []) M _
  refine zG_blk (c' := (1, [.inr (.inr (some 8)), .inl a1], [.inl a1])) 1 hd0 hz (by rfl) ?_
  refine zG_if_ne hd0 hz rfl (fun hb1 => ?_) (fun hb1 => ?_)
  · refine zG_blk (c' := (15, [.inr (.inr (some 8)), .inl a1], [.inr (.inr (some 43))])) 2 hd0 hz (by rfl) ?_
    exact zG_ret hd0 hz rfl rfl ⟨rfl, by first | exact .inl rfl | exact .inr rfl⟩
  · refine zG_blk (c' := (15, [.inr (.inr (some 8)), .inl a1], [.inr (.inr (some 26))])) 3 hd0 hz (by rfl) ?_
    exact zG_ret hd0 hz rfl rfl ⟨rfl, by first | exact .inl rfl | exact .inr rfl⟩
theorem qm_22_9 {n d : Nat} {M : zM} (hd : 3 ≤ d) (hC : qCI M)  : qOkP n d 22 [.inr (.inr (some 9))] 3 M (qRi (fun x => (-2147483648) ≤ x ∧ x ≤ 2147483647)) := by
  have hz : zP 22 = (zk_X2_standing, 3, (0, 0)) := rfl
  have hd0 : 0 < d := by omega
  show zG n (0, 0) d 22 (0, [.inr (.inr (some 9)), zN, zN], []) M _
  refine zG_blk (c' := (4, [.inr (.inr (some 9)), .inl 0, .inl 0], [])) 4 hd0 hz (by rfl) ?_
  have j4 : ∀ (N : Nat) (v1 v2 : Int) , (40 - v2 : Int).toNat < N → (-2147483648) ≤ v1 ∧ v1 ≤ 2147483647 → 0 ≤ v2 ∧ v2 ≤ 40 → zG n (0, 0) d 22 (4, [.inr (.inr (some 9)), .inl v1, .inl v2], []) M (fun v M' => M' = M ∧ qRi (fun x => (-2147483648) ≤ x ∧ x ≤ 2147483647) v) := by
    intro N
    induction N with
    | zero => intro v1 v2 hN hv1 hv2; exact absurd hN (Nat.not_lt_zero _)
    | succ N ih4 =>
      intro v1 v2 hN hv1 hv2
      refine zG_blk (c' := (9, [.inr (.inr (some 9)), .inl v1, .inl v2], [.inr (.inr (some 16)), .inl v2])) 3 hd0 hz (by rfl) ?_
      refine zG_call hd0 hz (rfl : zP 101 = (zk_X8_size, 1, (0, 0))) rfl rfl (Nat.le_of_ble_eq_true rfl) ⟨Nat.le_refl _, Nat.le_refl _⟩ (qw_size (by omega) hC (⟨by decide, rfl, rfl⟩ : qT n 16 40 5) ) (fun vr M3 hr => ?_)
      obtain ⟨hq, x4, rfl, hx4⟩ := hr
      replace hq := hq.symm; subst hq
      show zG n (0, 0) d 22 (12, [.inr (.inr (some 9)), .inl v1, .inl v2], [.inl x4, .inl v2]) M _
      refine zG_icmp_ge hd0 hz rfl (fun hb5 => ?_) (fun hb5 => ?_)
      · refine zG_blk (c' := (33, [.inr (.inr (some 9)), .inl v1, .inl v2], [.inl v1])) 1 hd0 hz (by rfl) ?_
        exact zG_ret hd0 hz rfl rfl ⟨rfl, _, rfl, by omega⟩
      · refine zG_blk (c' := (17, [.inr (.inr (some 9)), .inl v1, .inl v2], [.inl v2, .inr (.inr (some 9))])) 2 hd0 hz (by rfl) ?_
        refine zG_call hd0 hz (rfl : zP 20 = (zk_X2_isStanding, 5, (0, 0))) rfl rfl (Nat.le_of_ble_eq_true rfl) ⟨Nat.le_refl _, Nat.le_refl _⟩ (qm_20_9 (by omega) hC  v2 (by omega)) (fun vr M6 hr => ?_)
        obtain ⟨hq, x7, rfl, hx7⟩ := hr
        replace hq := hq.symm; subst hq
        show zG n (0, 0) d 22 (20, [.inr (.inr (some 9)), .inl v1, .inl v2], [.inl x7]) M _
        have j26 : ∀ (v8 : Int) , (-2147483648) ≤ v8 ∧ v8 ≤ 2147483647 → zG n (0, 0) d 22 (26, [.inr (.inr (some 9)), .inl v8, .inl v2], []) M (fun v M' => M' = M ∧ qRi (fun x => (-2147483648) ≤ x ∧ x ≤ 2147483647) v) := by
          intro v8 hv8
          obtain ⟨x9, hx9⟩ : ∃ x : Int, x = w32 (v2 + 1) := ⟨_, rfl⟩
          have hx9e : x9 = v2 + 1 := by rw [hx9]; exact w32_id (by omega)
          refine zG_blk (c' := (4, [.inr (.inr (some 9)), .inl v8, .inl x9], [])) 2 hd0 hz (by subst hx9; rfl) ?_
          exact ih4 v8 x9 (by omega) (by omega) (by omega)
        refine zG_if_eq hd0 hz rfl (fun hb10 => ?_) (fun hb10 => ?_)
        · exact j26 v1 (by omega)
        · obtain ⟨x11, hx11⟩ : ∃ x : Int, x = w32 (v1 + 1) := ⟨_, rfl⟩
          have hx11r : x11 = (v1 + 1 + 2147483648) % 4294967296 - 2147483648 := hx11
          refine zG_blk (c' := (26, [.inr (.inr (some 9)), .inl x11, .inl v2], [])) 1 hd0 hz (by subst hx11; rfl) ?_
          exact j26 x11 (by omega)
  exact j4 ((40 - 0 : Int).toNat + 1) 0 0 (by omega) (by omega) (by omega)
theorem qm_21_9 {n d : Nat} {M : zM} (hd : 4 ≤ d) (hC : qCI M) (a1 : Int) (ha1 : (-2147483648) ≤ a1 ∧ a1 ≤ 2147483647) : qOkP n d 21 [.inr (.inr (some 9)), .inl a1] 2 M (qRi (fun x => (-2147483648) ≤ x ∧ x ≤ 2147483647)) := by
  have hz : zP 21 = (zk_X2_howMany, 2, (0, 0)) := rfl
  have hd0 : 0 < d := by omega
  show zG n (0, 0) d 21 (0, [.inr (.inr (some 9)), .inl a1], []) M _
  refine zG_blk (c' := (1, [.inr (.inr (some 9)), .inl a1], [.inl a1])) 1 hd0 hz (by rfl) ?_
  have j44 : zG n (0, 0) d 21 (44, [.inr (.inr (some 9)), .inl a1], []) M (fun v M' => M' = M ∧ qRi (fun x => (-2147483648) ≤ x ∧ x ≤ 2147483647) v) := by
    refine zG_blk (c' := (48, [.inr (.inr (some 9)), .inl a1], [.inr (.inr (some 10))])) 2 hd0 hz (by rfl) ?_
    refine zG_call hd0 hz (rfl : zP 101 = (zk_X8_size, 1, (0, 0))) rfl rfl (Nat.le_of_ble_eq_true rfl) ⟨Nat.le_refl _, Nat.le_refl _⟩ (qw_size (by omega) hC (⟨by decide, rfl, rfl⟩ : qT n 10 14 4) ) (fun vr M1 hr => ?_)
    obtain ⟨hq, x2, rfl, hx2⟩ := hr
    replace hq := hq.symm; subst hq
    show zG n (0, 0) d 21 (51, [.inr (.inr (some 9)), .inl a1], [.inl x2]) M _
    exact zG_ret hd0 hz rfl rfl ⟨rfl, _, rfl, by omega⟩
  have j52 : zG n (0, 0) d 21 (52, [.inr (.inr (some 9)), .inl a1], []) M (fun v M' => M' = M ∧ qRi (fun x => (-2147483648) ≤ x ∧ x ≤ 2147483647) v) := by
    refine zG_blk (c' := (56, [.inr (.inr (some 9)), .inl a1], [.inr (.inr (some 12))])) 2 hd0 hz (by rfl) ?_
    refine zG_call hd0 hz (rfl : zP 101 = (zk_X8_size, 1, (0, 0))) rfl rfl (Nat.le_of_ble_eq_true rfl) ⟨Nat.le_refl _, Nat.le_refl _⟩ (qw_size (by omega) hC (⟨by decide, rfl, rfl⟩ : qT n 12 20 3) ) (fun vr M3 hr => ?_)
    obtain ⟨hq, x4, rfl, hx4⟩ := hr
    replace hq := hq.symm; subst hq
    show zG n (0, 0) d 21 (59, [.inr (.inr (some 9)), .inl a1], [.inl x4]) M _
    exact zG_ret hd0 hz rfl rfl ⟨rfl, _, rfl, by omega⟩
  have j60 : zG n (0, 0) d 21 (60, [.inr (.inr (some 9)), .inl a1], []) M (fun v M' => M' = M ∧ qRi (fun x => (-2147483648) ≤ x ∧ x ≤ 2147483647) v) := by
    refine zG_blk (c' := (64, [.inr (.inr (some 9)), .inl a1], [.inr (.inr (some 14))])) 2 hd0 hz (by rfl) ?_
    refine zG_call hd0 hz (rfl : zP 101 = (zk_X8_size, 1, (0, 0))) rfl rfl (Nat.le_of_ble_eq_true rfl) ⟨Nat.le_refl _, Nat.le_refl _⟩ (qw_size (by omega) hC (⟨by decide, rfl, rfl⟩ : qT n 14 4 2) ) (fun vr M5 hr => ?_)
    obtain ⟨hq, x6, rfl, hx6⟩ := hr
    replace hq := hq.symm; subst hq
    show zG n (0, 0) d 21 (67, [.inr (.inr (some 9)), .inl a1], [.inl x6]) M _
    exact zG_ret hd0 hz rfl rfl ⟨rfl, _, rfl, by omega⟩
  have j68 : zG n (0, 0) d 21 (68, [.inr (.inr (some 9)), .inl a1], []) M (fun v M' => M' = M ∧ qRi (fun x => (-2147483648) ≤ x ∧ x ≤ 2147483647) v) := by
    refine zG_blk (c' := (72, [.inr (.inr (some 9)), .inl a1], [.inr (.inr (some 16))])) 2 hd0 hz (by rfl) ?_
    refine zG_call hd0 hz (rfl : zP 101 = (zk_X8_size, 1, (0, 0))) rfl rfl (Nat.le_of_ble_eq_true rfl) ⟨Nat.le_refl _, Nat.le_refl _⟩ (qw_size (by omega) hC (⟨by decide, rfl, rfl⟩ : qT n 16 40 5) ) (fun vr M7 hr => ?_)
    obtain ⟨hq, x8, rfl, hx8⟩ := hr
    replace hq := hq.symm; subst hq
    show zG n (0, 0) d 21 (75, [.inr (.inr (some 9)), .inl a1], [.inl x8]) M _
    exact zG_ret hd0 hz rfl rfl ⟨rfl, _, rfl, by omega⟩
  have j76 : zG n (0, 0) d 21 (76, [.inr (.inr (some 9)), .inl a1], []) M (fun v M' => M' = M ∧ qRi (fun x => (-2147483648) ≤ x ∧ x ≤ 2147483647) v) := by
    refine zG_blk (c' := (80, [.inr (.inr (some 9)), .inl a1], [.inr (.inr (some 18))])) 2 hd0 hz (by rfl) ?_
    refine zG_call hd0 hz (rfl : zP 101 = (zk_X8_size, 1, (0, 0))) rfl rfl (Nat.le_of_ble_eq_true rfl) ⟨Nat.le_refl _, Nat.le_refl _⟩ (qw_size (by omega) hC (⟨by decide, rfl, rfl⟩ : qT n 18 250 11) ) (fun vr M9 hr => ?_)
    obtain ⟨hq, x10, rfl, hx10⟩ := hr
    replace hq := hq.symm; subst hq
    show zG n (0, 0) d 21 (83, [.inr (.inr (some 9)), .inl a1], [.inl x10]) M _
    exact zG_ret hd0 hz rfl rfl ⟨rfl, _, rfl, by omega⟩
  have j84 : zG n (0, 0) d 21 (84, [.inr (.inr (some 9)), .inl a1], []) M (fun v M' => M' = M ∧ qRi (fun x => (-2147483648) ≤ x ∧ x ≤ 2147483647) v) := by
    refine zG_blk (c' := (88, [.inr (.inr (some 9)), .inl a1], [.inr (.inr (some 22))])) 2 hd0 hz (by rfl) ?_
    refine zG_call hd0 hz (rfl : zP 101 = (zk_X8_size, 1, (0, 0))) rfl rfl (Nat.le_of_ble_eq_true rfl) ⟨Nat.le_refl _, Nat.le_refl _⟩ (qw_size (by omega) hC (⟨by decide, rfl, rfl⟩ : qT n 22 10 164) ) (fun vr M11 hr => ?_)
    obtain ⟨hq, x12, rfl, hx12⟩ := hr
    replace hq := hq.symm; subst hq
    show zG n (0, 0) d 21 (91, [.inr (.inr (some 9)), .inl a1], [.inl x12]) M _
    exact zG_ret hd0 hz rfl rfl ⟨rfl, _, rfl, by omega⟩
  have j92 : zG n (0, 0) d 21 (92, [.inr (.inr (some 9)), .inl a1], []) M (fun v M' => M' = M ∧ qRi (fun x => (-2147483648) ≤ x ∧ x ≤ 2147483647) v) := by
    refine zG_blk (c' := (96, [.inr (.inr (some 9)), .inl a1], [.inr (.inr (some 24))])) 2 hd0 hz (by rfl) ?_
    refine zG_call hd0 hz (rfl : zP 101 = (zk_X8_size, 1, (0, 0))) rfl rfl (Nat.le_of_ble_eq_true rfl) ⟨Nat.le_refl _, Nat.le_refl _⟩ (qw_size (by omega) hC (⟨by decide, rfl, rfl⟩ : qT n 24 12 2) ) (fun vr M13 hr => ?_)
    obtain ⟨hq, x14, rfl, hx14⟩ := hr
    replace hq := hq.symm; subst hq
    show zG n (0, 0) d 21 (99, [.inr (.inr (some 9)), .inl a1], [.inl x14]) M _
    exact zG_ret hd0 hz rfl rfl ⟨rfl, _, rfl, by omega⟩
  have j100 : zG n (0, 0) d 21 (100, [.inr (.inr (some 9)), .inl a1], []) M (fun v M' => M' = M ∧ qRi (fun x => (-2147483648) ≤ x ∧ x ≤ 2147483647) v) := by
    refine zG_blk (c' := (101, [.inr (.inr (some 9)), .inl a1], [.inr (.inr (some 9))])) 1 hd0 hz (by rfl) ?_
    refine zG_call hd0 hz (rfl : zP 22 = (zk_X2_standing, 3, (0, 0))) rfl rfl (Nat.le_of_ble_eq_true rfl) ⟨Nat.le_refl _, Nat.le_refl _⟩ (qm_22_9 (by omega) hC  ) (fun vr M15 hr => ?_)
    obtain ⟨hq, x16, rfl, hx16⟩ := hr
    replace hq := hq.symm; subst hq
    show zG n (0, 0) d 21 (104, [.inr (.inr (some 9)), .inl a1], [.inl x16]) M _
    exact zG_ret hd0 hz rfl rfl ⟨rfl, _, rfl, by omega⟩
  refine zG_sw hd0 hz rfl ?_
  refine zts_all (P := fun t => zG n (0, 0) d 21 (t, [.inr (.inr (some 9)), .inl a1], []) M _) ?_ ?_
  · exact j100
  · intro t ht
    simp only [List.mem_cons, List.not_mem_nil, or_false] at ht
    rcases ht with rfl | rfl | rfl | rfl | rfl | rfl | rfl
    · exact j44
    · exact j52
    · exact j60
    · exact j68
    · exact j76
    · exact j84
    · exact j92
theorem qm_167_8 {n d : Nat} {M : zM} (hd : 5 ≤ d) (hC : qCI M) (a1 : Int) (ha1 : (-2147483648) ≤ a1 ∧ a1 ≤ 2147483647) : qOkP n d 167 [.inr (.inr (some 8)), .inl a1] 2 M (qRi (fun x => (-2147483648) ≤ x ∧ x ≤ 2147483647)) := by
  have hz : zP 167 = (zk_X10_count, 2, (0, 0)) := rfl
  have hd0 : 0 < d := by omega
  show zG n (0, 0) d 167 (0, [.inr (.inr (some 8)), .inl a1], []) M _
  refine zG_blk (c' := (4, [.inr (.inr (some 8)), .inl a1], [.inl 7, .inl 0, .inl a1])) 3 hd0 hz (by rfl) ?_
  refine zG_call hd0 hz (rfl : zP 169 = (zk_X10_within, 3, (0, 0))) rfl rfl (Nat.le_of_ble_eq_true rfl) ⟨Nat.le_refl _, Nat.le_refl _⟩ (qm_169 (by omega) hC  a1 (by omega) 0 (by omega) 7 (by omega)) (fun vr M1 hr => ?_)
  obtain ⟨hq, x2, rfl, hx2⟩ := hr
  replace hq := hq.symm; subst hq
  show zG n (0, 0) d 167 (7, [.inr (.inr (some 8)), .inl a1], [.inl x2]) M _
  have j23 : ∀ (v3 : Int) , (-2147483648) ≤ v3 ∧ v3 ≤ 2147483647 → zG n (0, 0) d 167 (23, [.inr (.inr (some 8)), .inl a1], [.inl v3]) M (fun v M' => M' = M ∧ qRi (fun x => (-2147483648) ≤ x ∧ x ≤ 2147483647) v) := by
    intro v3 hv3
    exact zG_ret hd0 hz rfl rfl ⟨rfl, _, rfl, by omega⟩
  refine zG_if_eq hd0 hz rfl (fun hb4 => ?_) (fun hb4 => ?_)
  · refine zG_blk (c' := (23, [.inr (.inr (some 8)), .inl a1], [.inl (-2)])) 1 hd0 hz (by rfl) ?_
    exact j23 (-2) (by omega)
  · refine zG_blk (c' := (15, [.inr (.inr (some 8)), .inl a1], [.inl a1, .inr (.inr (some 9))])) 3 hd0 hz (by rfl) ?_
    refine zG_call hd0 hz (rfl : zP 21 = (zk_X2_howMany, 2, (0, 0))) rfl rfl (Nat.le_of_ble_eq_true rfl) ⟨Nat.le_refl _, Nat.le_refl _⟩ (qm_21_9 (by omega) hC  a1 (by omega)) (fun vr M5 hr => ?_)
    obtain ⟨hq, x6, rfl, hx6⟩ := hr
    replace hq := hq.symm; subst hq
    show zG n (0, 0) d 167 (18, [.inr (.inr (some 8)), .inl a1], [.inl x6]) M _
    refine zG_blk (c' := (23, [.inr (.inr (some 8)), .inl a1], [.inl x6])) 1 hd0 hz (by rfl) ?_
    exact j23 x6 (by omega)
theorem qm_24_10 {n d : Nat} {M : zM} (hd : 2 ≤ d) (hC : qCI M) (a0 : Int) (a2 : Int) (ha2 : (-2147483648) ≤ a2 ∧ a2 ≤ 2147483647) : qOkP n d 24 [.inr (.inl (a0)), .inr (.inr (some 10)), .inl a2] 8 M qRl := by
  have hz : zP 24 = (zk_X2_sumUpRows, 8, (0, 0)) := rfl
  have hd0 : 0 < d := by omega
  show zG n (0, 0) d 24 (0, [.inr (.inl (a0)), zN, .inr (.inr (some 10)), .inl a2, zN, zN, zN, zN], []) M _
  refine zG_blk (c' := (6, [.inr (.inl (a0)), zN, .inr (.inr (some 10)), .inl a2, .inr (.inl (a0)), zN, .inl 0, zN], [])) 4 hd0 hz (by rfl) ?_
  have j6 : ∀ (N : Nat) (v1 v2 : Int) , (1000 - v2 : Int).toNat < N → 0 ≤ v2 ∧ v2 ≤ 14 → zG n (0, 0) d 24 (6, [.inr (.inl (a0)), zN, .inr (.inr (some 10)), .inl a2, .inr (.inl (v1)), zN, .inl v2, zN], []) M (fun v M' => M' = M ∧ qRl v) := by
    intro N
    induction N with
    | zero => intro v1 v2 hN hv2; exact absurd hN (Nat.not_lt_zero _)
    | succ N ih6 =>
      intro v1 v2 hN hv2
      refine zG_blk (c' := (9, [.inr (.inl (a0)), zN, .inr (.inr (some 10)), .inl a2, .inr (.inl (v1)), zN, .inl v2, zN], [.inr (.inr (some 10)), .inl v2])) 2 hd0 hz (by rfl) ?_
      refine zG_call hd0 hz (rfl : zP 101 = (zk_X8_size, 1, (0, 0))) rfl rfl (Nat.le_of_ble_eq_true rfl) ⟨Nat.le_refl _, Nat.le_refl _⟩ (qw_size (by omega) hC (⟨by decide, rfl, rfl⟩ : qT n 10 14 4) ) (fun vr M3 hr => ?_)
      obtain ⟨hq, x4, rfl, hx4⟩ := hr
      replace hq := hq.symm; subst hq
      show zG n (0, 0) d 24 (12, [.inr (.inl (a0)), zN, .inr (.inr (some 10)), .inl a2, .inr (.inl (v1)), zN, .inl v2, zN], [.inl x4, .inl v2]) M _
      refine zG_icmp_ge hd0 hz rfl (fun hb5 => ?_) (fun hb5 => ?_)
      · refine zG_blk (c' := (56, [.inr (.inl (a0)), zN, .inr (.inr (some 10)), .inl a2, .inr (.inl (v1)), zN, .inl v2, zN], [.inr (.inl (v1))])) 1 hd0 hz (by rfl) ?_
        exact zG_ret hd0 hz rfl rfl ⟨rfl, _, rfl⟩
      · refine zG_blk (c' := (18, [.inr (.inl (a0)), zN, .inr (.inr (some 10)), .inl a2, .inr (.inl (v1)), zN, .inl v2, .inl 0], [])) 2 hd0 hz (by rfl) ?_
        have j18 : ∀ (N : Nat) (v6 v7 : Int) , (a2 - v7 : Int).toNat < N → 0 ≤ v7 ∧ v7 ≤ 2147483647 → zG n (0, 0) d 24 (18, [.inr (.inl (a0)), zN, .inr (.inr (some 10)), .inl a2, .inr (.inl (v6)), zN, .inl v2, .inl v7], []) M (fun v M' => M' = M ∧ qRl v) := by
          intro N
          induction N with
          | zero => intro v6 v7 hN hv7; exact absurd hN (Nat.not_lt_zero _)
          | succ N ih18 =>
            intro v6 v7 hN hv7
            refine zG_blk (c' := (21, [.inr (.inl (a0)), zN, .inr (.inr (some 10)), .inl a2, .inr (.inl (v6)), zN, .inl v2, .inl v7], [.inl a2, .inl v7])) 2 hd0 hz (by rfl) ?_
            refine zG_icmp_ge hd0 hz rfl (fun hb8 => ?_) (fun hb8 => ?_)
            · obtain ⟨x9, hx9⟩ : ∃ x : Int, x = w32 (v2 + 1) := ⟨_, rfl⟩
              have hx9e : x9 = v2 + 1 := by rw [hx9]; exact w32_id (by omega)
              refine zG_blk (c' := (6, [.inr (.inl (a0)), zN, .inr (.inr (some 10)), .inl a2, .inr (.inl (v6)), zN, .inl x9, .inl v7], [])) 2 hd0 hz (by subst hx9; rfl) ?_
              exact zG_weak (ih6 v6 x9 (by omega) (by omega)) ⟨.inr rfl, .inr rfl, .inr rfl, .inr rfl, .inr rfl, .inr rfl, .inr rfl, .inl rfl, trivial⟩
            · obtain ⟨x10, hx10⟩ : ∃ x : Int, x = w64 (31 * v6) := ⟨_, rfl⟩
              refine zG_blk (c' := (35, [.inr (.inl (a0)), zN, .inr (.inr (some 10)), .inl a2, .inr (.inl (v6)), zN, .inl v2, .inl v7], [.inl v7, .inl v2, .inr (.inr (some 10)), .inr (.inl (x10))])) 6 hd0 hz (by subst hx10; rfl) ?_
              refine zG_call hd0 hz (rfl : zP 106 = (zk_X8_get, 3, (0, 0))) rfl rfl (Nat.le_of_ble_eq_true rfl) ⟨Nat.le_refl _, Nat.le_refl _⟩ (qw_get (by omega) hC (⟨by decide, rfl, rfl⟩ : qT n 10 14 4) v2 (by omega) v7 (by omega)) (fun vr M11 hr => ?_)
              obtain ⟨hq, x12, rfl, hx12⟩ := hr
              replace hq := hq.symm; subst hq
              show zG n (0, 0) d 24 (38, [.inr (.inl (a0)), zN, .inr (.inr (some 10)), .inl a2, .inr (.inl (v6)), zN, .inl v2, .inl v7], [.inl x12, .inr (.inl (x10))]) M _
              obtain ⟨x13, hx13⟩ : ∃ x : Int, x = w64 (x10 + x12) := ⟨_, rfl⟩
              obtain ⟨x14, hx14⟩ : ∃ x : Int, x = w32 (v7 + 1) := ⟨_, rfl⟩
              have hx14e : x14 = v7 + 1 := by rw [hx14]; exact w32_id (by omega)
              refine zG_blk (c' := (18, [.inr (.inl (a0)), zN, .inr (.inr (some 10)), .inl a2, .inr (.inl (x13)), zN, .inl v2, .inl x14], [])) 5 hd0 hz (by subst hx14; subst hx13; rfl) ?_
              exact ih18 x13 x14 (by omega) (by omega)
        exact j18 ((a2 - 0 : Int).toNat + 1) v1 0 (by omega) (by omega)
  exact j6 ((1000 - 0 : Int).toNat + 1) a0 0 (by omega) (by omega)
theorem qm_24_12 {n d : Nat} {M : zM} (hd : 2 ≤ d) (hC : qCI M) (a0 : Int) (a2 : Int) (ha2 : (-2147483648) ≤ a2 ∧ a2 ≤ 2147483647) : qOkP n d 24 [.inr (.inl (a0)), .inr (.inr (some 12)), .inl a2] 8 M qRl := by
  have hz : zP 24 = (zk_X2_sumUpRows, 8, (0, 0)) := rfl
  have hd0 : 0 < d := by omega
  show zG n (0, 0) d 24 (0, [.inr (.inl (a0)), zN, .inr (.inr (some 12)), .inl a2, zN, zN, zN, zN], []) M _
  refine zG_blk (c' := (6, [.inr (.inl (a0)), zN, .inr (.inr (some 12)), .inl a2, .inr (.inl (a0)), zN, .inl 0, zN], [])) 4 hd0 hz (by rfl) ?_
  have j6 : ∀ (N : Nat) (v1 v2 : Int) , (1000 - v2 : Int).toNat < N → 0 ≤ v2 ∧ v2 ≤ 20 → zG n (0, 0) d 24 (6, [.inr (.inl (a0)), zN, .inr (.inr (some 12)), .inl a2, .inr (.inl (v1)), zN, .inl v2, zN], []) M (fun v M' => M' = M ∧ qRl v) := by
    intro N
    induction N with
    | zero => intro v1 v2 hN hv2; exact absurd hN (Nat.not_lt_zero _)
    | succ N ih6 =>
      intro v1 v2 hN hv2
      refine zG_blk (c' := (9, [.inr (.inl (a0)), zN, .inr (.inr (some 12)), .inl a2, .inr (.inl (v1)), zN, .inl v2, zN], [.inr (.inr (some 12)), .inl v2])) 2 hd0 hz (by rfl) ?_
      refine zG_call hd0 hz (rfl : zP 101 = (zk_X8_size, 1, (0, 0))) rfl rfl (Nat.le_of_ble_eq_true rfl) ⟨Nat.le_refl _, Nat.le_refl _⟩ (qw_size (by omega) hC (⟨by decide, rfl, rfl⟩ : qT n 12 20 3) ) (fun vr M3 hr => ?_)
      obtain ⟨hq, x4, rfl, hx4⟩ := hr
      replace hq := hq.symm; subst hq
      show zG n (0, 0) d 24 (12, [.inr (.inl (a0)), zN, .inr (.inr (some 12)), .inl a2, .inr (.inl (v1)), zN, .inl v2, zN], [.inl x4, .inl v2]) M _
      refine zG_icmp_ge hd0 hz rfl (fun hb5 => ?_) (fun hb5 => ?_)
      · refine zG_blk (c' := (56, [.inr (.inl (a0)), zN, .inr (.inr (some 12)), .inl a2, .inr (.inl (v1)), zN, .inl v2, zN], [.inr (.inl (v1))])) 1 hd0 hz (by rfl) ?_
        exact zG_ret hd0 hz rfl rfl ⟨rfl, _, rfl⟩
      · refine zG_blk (c' := (18, [.inr (.inl (a0)), zN, .inr (.inr (some 12)), .inl a2, .inr (.inl (v1)), zN, .inl v2, .inl 0], [])) 2 hd0 hz (by rfl) ?_
        have j18 : ∀ (N : Nat) (v6 v7 : Int) , (a2 - v7 : Int).toNat < N → 0 ≤ v7 ∧ v7 ≤ 2147483647 → zG n (0, 0) d 24 (18, [.inr (.inl (a0)), zN, .inr (.inr (some 12)), .inl a2, .inr (.inl (v6)), zN, .inl v2, .inl v7], []) M (fun v M' => M' = M ∧ qRl v) := by
          intro N
          induction N with
          | zero => intro v6 v7 hN hv7; exact absurd hN (Nat.not_lt_zero _)
          | succ N ih18 =>
            intro v6 v7 hN hv7
            refine zG_blk (c' := (21, [.inr (.inl (a0)), zN, .inr (.inr (some 12)), .inl a2, .inr (.inl (v6)), zN, .inl v2, .inl v7], [.inl a2, .inl v7])) 2 hd0 hz (by rfl) ?_
            refine zG_icmp_ge hd0 hz rfl (fun hb8 => ?_) (fun hb8 => ?_)
            · obtain ⟨x9, hx9⟩ : ∃ x : Int, x = w32 (v2 + 1) := ⟨_, rfl⟩
              have hx9e : x9 = v2 + 1 := by rw [hx9]; exact w32_id (by omega)
              refine zG_blk (c' := (6, [.inr (.inl (a0)), zN, .inr (.inr (some 12)), .inl a2, .inr (.inl (v6)), zN, .inl x9, .inl v7], [])) 2 hd0 hz (by subst hx9; rfl) ?_
              exact zG_weak (ih6 v6 x9 (by omega) (by omega)) ⟨.inr rfl, .inr rfl, .inr rfl, .inr rfl, .inr rfl, .inr rfl, .inr rfl, .inl rfl, trivial⟩
            · obtain ⟨x10, hx10⟩ : ∃ x : Int, x = w64 (31 * v6) := ⟨_, rfl⟩
              refine zG_blk (c' := (35, [.inr (.inl (a0)), zN, .inr (.inr (some 12)), .inl a2, .inr (.inl (v6)), zN, .inl v2, .inl v7], [.inl v7, .inl v2, .inr (.inr (some 12)), .inr (.inl (x10))])) 6 hd0 hz (by subst hx10; rfl) ?_
              refine zG_call hd0 hz (rfl : zP 106 = (zk_X8_get, 3, (0, 0))) rfl rfl (Nat.le_of_ble_eq_true rfl) ⟨Nat.le_refl _, Nat.le_refl _⟩ (qw_get (by omega) hC (⟨by decide, rfl, rfl⟩ : qT n 12 20 3) v2 (by omega) v7 (by omega)) (fun vr M11 hr => ?_)
              obtain ⟨hq, x12, rfl, hx12⟩ := hr
              replace hq := hq.symm; subst hq
              show zG n (0, 0) d 24 (38, [.inr (.inl (a0)), zN, .inr (.inr (some 12)), .inl a2, .inr (.inl (v6)), zN, .inl v2, .inl v7], [.inl x12, .inr (.inl (x10))]) M _
              obtain ⟨x13, hx13⟩ : ∃ x : Int, x = w64 (x10 + x12) := ⟨_, rfl⟩
              obtain ⟨x14, hx14⟩ : ∃ x : Int, x = w32 (v7 + 1) := ⟨_, rfl⟩
              have hx14e : x14 = v7 + 1 := by rw [hx14]; exact w32_id (by omega)
              refine zG_blk (c' := (18, [.inr (.inl (a0)), zN, .inr (.inr (some 12)), .inl a2, .inr (.inl (x13)), zN, .inl v2, .inl x14], [])) 5 hd0 hz (by subst hx14; subst hx13; rfl) ?_
              exact ih18 x13 x14 (by omega) (by omega)
        exact j18 ((a2 - 0 : Int).toNat + 1) v1 0 (by omega) (by omega)
  exact j6 ((1000 - 0 : Int).toNat + 1) a0 0 (by omega) (by omega)
theorem qm_24_16 {n d : Nat} {M : zM} (hd : 2 ≤ d) (hC : qCI M) (a0 : Int) (a2 : Int) (ha2 : (-2147483648) ≤ a2 ∧ a2 ≤ 2147483647) : qOkP n d 24 [.inr (.inl (a0)), .inr (.inr (some 16)), .inl a2] 8 M qRl := by
  have hz : zP 24 = (zk_X2_sumUpRows, 8, (0, 0)) := rfl
  have hd0 : 0 < d := by omega
  show zG n (0, 0) d 24 (0, [.inr (.inl (a0)), zN, .inr (.inr (some 16)), .inl a2, zN, zN, zN, zN], []) M _
  refine zG_blk (c' := (6, [.inr (.inl (a0)), zN, .inr (.inr (some 16)), .inl a2, .inr (.inl (a0)), zN, .inl 0, zN], [])) 4 hd0 hz (by rfl) ?_
  have j6 : ∀ (N : Nat) (v1 v2 : Int) , (1000 - v2 : Int).toNat < N → 0 ≤ v2 ∧ v2 ≤ 40 → zG n (0, 0) d 24 (6, [.inr (.inl (a0)), zN, .inr (.inr (some 16)), .inl a2, .inr (.inl (v1)), zN, .inl v2, zN], []) M (fun v M' => M' = M ∧ qRl v) := by
    intro N
    induction N with
    | zero => intro v1 v2 hN hv2; exact absurd hN (Nat.not_lt_zero _)
    | succ N ih6 =>
      intro v1 v2 hN hv2
      refine zG_blk (c' := (9, [.inr (.inl (a0)), zN, .inr (.inr (some 16)), .inl a2, .inr (.inl (v1)), zN, .inl v2, zN], [.inr (.inr (some 16)), .inl v2])) 2 hd0 hz (by rfl) ?_
      refine zG_call hd0 hz (rfl : zP 101 = (zk_X8_size, 1, (0, 0))) rfl rfl (Nat.le_of_ble_eq_true rfl) ⟨Nat.le_refl _, Nat.le_refl _⟩ (qw_size (by omega) hC (⟨by decide, rfl, rfl⟩ : qT n 16 40 5) ) (fun vr M3 hr => ?_)
      obtain ⟨hq, x4, rfl, hx4⟩ := hr
      replace hq := hq.symm; subst hq
      show zG n (0, 0) d 24 (12, [.inr (.inl (a0)), zN, .inr (.inr (some 16)), .inl a2, .inr (.inl (v1)), zN, .inl v2, zN], [.inl x4, .inl v2]) M _
      refine zG_icmp_ge hd0 hz rfl (fun hb5 => ?_) (fun hb5 => ?_)
      · refine zG_blk (c' := (56, [.inr (.inl (a0)), zN, .inr (.inr (some 16)), .inl a2, .inr (.inl (v1)), zN, .inl v2, zN], [.inr (.inl (v1))])) 1 hd0 hz (by rfl) ?_
        exact zG_ret hd0 hz rfl rfl ⟨rfl, _, rfl⟩
      · refine zG_blk (c' := (18, [.inr (.inl (a0)), zN, .inr (.inr (some 16)), .inl a2, .inr (.inl (v1)), zN, .inl v2, .inl 0], [])) 2 hd0 hz (by rfl) ?_
        have j18 : ∀ (N : Nat) (v6 v7 : Int) , (a2 - v7 : Int).toNat < N → 0 ≤ v7 ∧ v7 ≤ 2147483647 → zG n (0, 0) d 24 (18, [.inr (.inl (a0)), zN, .inr (.inr (some 16)), .inl a2, .inr (.inl (v6)), zN, .inl v2, .inl v7], []) M (fun v M' => M' = M ∧ qRl v) := by
          intro N
          induction N with
          | zero => intro v6 v7 hN hv7; exact absurd hN (Nat.not_lt_zero _)
          | succ N ih18 =>
            intro v6 v7 hN hv7
            refine zG_blk (c' := (21, [.inr (.inl (a0)), zN, .inr (.inr (some 16)), .inl a2, .inr (.inl (v6)), zN, .inl v2, .inl v7], [.inl a2, .inl v7])) 2 hd0 hz (by rfl) ?_
            refine zG_icmp_ge hd0 hz rfl (fun hb8 => ?_) (fun hb8 => ?_)
            · obtain ⟨x9, hx9⟩ : ∃ x : Int, x = w32 (v2 + 1) := ⟨_, rfl⟩
              have hx9e : x9 = v2 + 1 := by rw [hx9]; exact w32_id (by omega)
              refine zG_blk (c' := (6, [.inr (.inl (a0)), zN, .inr (.inr (some 16)), .inl a2, .inr (.inl (v6)), zN, .inl x9, .inl v7], [])) 2 hd0 hz (by subst hx9; rfl) ?_
              exact zG_weak (ih6 v6 x9 (by omega) (by omega)) ⟨.inr rfl, .inr rfl, .inr rfl, .inr rfl, .inr rfl, .inr rfl, .inr rfl, .inl rfl, trivial⟩
            · obtain ⟨x10, hx10⟩ : ∃ x : Int, x = w64 (31 * v6) := ⟨_, rfl⟩
              refine zG_blk (c' := (35, [.inr (.inl (a0)), zN, .inr (.inr (some 16)), .inl a2, .inr (.inl (v6)), zN, .inl v2, .inl v7], [.inl v7, .inl v2, .inr (.inr (some 16)), .inr (.inl (x10))])) 6 hd0 hz (by subst hx10; rfl) ?_
              refine zG_call hd0 hz (rfl : zP 106 = (zk_X8_get, 3, (0, 0))) rfl rfl (Nat.le_of_ble_eq_true rfl) ⟨Nat.le_refl _, Nat.le_refl _⟩ (qw_get (by omega) hC (⟨by decide, rfl, rfl⟩ : qT n 16 40 5) v2 (by omega) v7 (by omega)) (fun vr M11 hr => ?_)
              obtain ⟨hq, x12, rfl, hx12⟩ := hr
              replace hq := hq.symm; subst hq
              show zG n (0, 0) d 24 (38, [.inr (.inl (a0)), zN, .inr (.inr (some 16)), .inl a2, .inr (.inl (v6)), zN, .inl v2, .inl v7], [.inl x12, .inr (.inl (x10))]) M _
              obtain ⟨x13, hx13⟩ : ∃ x : Int, x = w64 (x10 + x12) := ⟨_, rfl⟩
              obtain ⟨x14, hx14⟩ : ∃ x : Int, x = w32 (v7 + 1) := ⟨_, rfl⟩
              have hx14e : x14 = v7 + 1 := by rw [hx14]; exact w32_id (by omega)
              refine zG_blk (c' := (18, [.inr (.inl (a0)), zN, .inr (.inr (some 16)), .inl a2, .inr (.inl (x13)), zN, .inl v2, .inl x14], [])) 5 hd0 hz (by subst hx14; subst hx13; rfl) ?_
              exact ih18 x13 x14 (by omega) (by omega)
        exact j18 ((a2 - 0 : Int).toNat + 1) v1 0 (by omega) (by omega)
  exact j6 ((1000 - 0 : Int).toNat + 1) a0 0 (by omega) (by omega)
theorem qm_24_18 {n d : Nat} {M : zM} (hd : 2 ≤ d) (hC : qCI M) (a0 : Int) (a2 : Int) (ha2 : (-2147483648) ≤ a2 ∧ a2 ≤ 2147483647) : qOkP n d 24 [.inr (.inl (a0)), .inr (.inr (some 18)), .inl a2] 8 M qRl := by
  have hz : zP 24 = (zk_X2_sumUpRows, 8, (0, 0)) := rfl
  have hd0 : 0 < d := by omega
  show zG n (0, 0) d 24 (0, [.inr (.inl (a0)), zN, .inr (.inr (some 18)), .inl a2, zN, zN, zN, zN], []) M _
  refine zG_blk (c' := (6, [.inr (.inl (a0)), zN, .inr (.inr (some 18)), .inl a2, .inr (.inl (a0)), zN, .inl 0, zN], [])) 4 hd0 hz (by rfl) ?_
  have j6 : ∀ (N : Nat) (v1 v2 : Int) , (1000 - v2 : Int).toNat < N → 0 ≤ v2 ∧ v2 ≤ 250 → zG n (0, 0) d 24 (6, [.inr (.inl (a0)), zN, .inr (.inr (some 18)), .inl a2, .inr (.inl (v1)), zN, .inl v2, zN], []) M (fun v M' => M' = M ∧ qRl v) := by
    intro N
    induction N with
    | zero => intro v1 v2 hN hv2; exact absurd hN (Nat.not_lt_zero _)
    | succ N ih6 =>
      intro v1 v2 hN hv2
      refine zG_blk (c' := (9, [.inr (.inl (a0)), zN, .inr (.inr (some 18)), .inl a2, .inr (.inl (v1)), zN, .inl v2, zN], [.inr (.inr (some 18)), .inl v2])) 2 hd0 hz (by rfl) ?_
      refine zG_call hd0 hz (rfl : zP 101 = (zk_X8_size, 1, (0, 0))) rfl rfl (Nat.le_of_ble_eq_true rfl) ⟨Nat.le_refl _, Nat.le_refl _⟩ (qw_size (by omega) hC (⟨by decide, rfl, rfl⟩ : qT n 18 250 11) ) (fun vr M3 hr => ?_)
      obtain ⟨hq, x4, rfl, hx4⟩ := hr
      replace hq := hq.symm; subst hq
      show zG n (0, 0) d 24 (12, [.inr (.inl (a0)), zN, .inr (.inr (some 18)), .inl a2, .inr (.inl (v1)), zN, .inl v2, zN], [.inl x4, .inl v2]) M _
      refine zG_icmp_ge hd0 hz rfl (fun hb5 => ?_) (fun hb5 => ?_)
      · refine zG_blk (c' := (56, [.inr (.inl (a0)), zN, .inr (.inr (some 18)), .inl a2, .inr (.inl (v1)), zN, .inl v2, zN], [.inr (.inl (v1))])) 1 hd0 hz (by rfl) ?_
        exact zG_ret hd0 hz rfl rfl ⟨rfl, _, rfl⟩
      · refine zG_blk (c' := (18, [.inr (.inl (a0)), zN, .inr (.inr (some 18)), .inl a2, .inr (.inl (v1)), zN, .inl v2, .inl 0], [])) 2 hd0 hz (by rfl) ?_
        have j18 : ∀ (N : Nat) (v6 v7 : Int) , (a2 - v7 : Int).toNat < N → 0 ≤ v7 ∧ v7 ≤ 2147483647 → zG n (0, 0) d 24 (18, [.inr (.inl (a0)), zN, .inr (.inr (some 18)), .inl a2, .inr (.inl (v6)), zN, .inl v2, .inl v7], []) M (fun v M' => M' = M ∧ qRl v) := by
          intro N
          induction N with
          | zero => intro v6 v7 hN hv7; exact absurd hN (Nat.not_lt_zero _)
          | succ N ih18 =>
            intro v6 v7 hN hv7
            refine zG_blk (c' := (21, [.inr (.inl (a0)), zN, .inr (.inr (some 18)), .inl a2, .inr (.inl (v6)), zN, .inl v2, .inl v7], [.inl a2, .inl v7])) 2 hd0 hz (by rfl) ?_
            refine zG_icmp_ge hd0 hz rfl (fun hb8 => ?_) (fun hb8 => ?_)
            · obtain ⟨x9, hx9⟩ : ∃ x : Int, x = w32 (v2 + 1) := ⟨_, rfl⟩
              have hx9e : x9 = v2 + 1 := by rw [hx9]; exact w32_id (by omega)
              refine zG_blk (c' := (6, [.inr (.inl (a0)), zN, .inr (.inr (some 18)), .inl a2, .inr (.inl (v6)), zN, .inl x9, .inl v7], [])) 2 hd0 hz (by subst hx9; rfl) ?_
              exact zG_weak (ih6 v6 x9 (by omega) (by omega)) ⟨.inr rfl, .inr rfl, .inr rfl, .inr rfl, .inr rfl, .inr rfl, .inr rfl, .inl rfl, trivial⟩
            · obtain ⟨x10, hx10⟩ : ∃ x : Int, x = w64 (31 * v6) := ⟨_, rfl⟩
              refine zG_blk (c' := (35, [.inr (.inl (a0)), zN, .inr (.inr (some 18)), .inl a2, .inr (.inl (v6)), zN, .inl v2, .inl v7], [.inl v7, .inl v2, .inr (.inr (some 18)), .inr (.inl (x10))])) 6 hd0 hz (by subst hx10; rfl) ?_
              refine zG_call hd0 hz (rfl : zP 106 = (zk_X8_get, 3, (0, 0))) rfl rfl (Nat.le_of_ble_eq_true rfl) ⟨Nat.le_refl _, Nat.le_refl _⟩ (qw_get (by omega) hC (⟨by decide, rfl, rfl⟩ : qT n 18 250 11) v2 (by omega) v7 (by omega)) (fun vr M11 hr => ?_)
              obtain ⟨hq, x12, rfl, hx12⟩ := hr
              replace hq := hq.symm; subst hq
              show zG n (0, 0) d 24 (38, [.inr (.inl (a0)), zN, .inr (.inr (some 18)), .inl a2, .inr (.inl (v6)), zN, .inl v2, .inl v7], [.inl x12, .inr (.inl (x10))]) M _
              obtain ⟨x13, hx13⟩ : ∃ x : Int, x = w64 (x10 + x12) := ⟨_, rfl⟩
              obtain ⟨x14, hx14⟩ : ∃ x : Int, x = w32 (v7 + 1) := ⟨_, rfl⟩
              have hx14e : x14 = v7 + 1 := by rw [hx14]; exact w32_id (by omega)
              refine zG_blk (c' := (18, [.inr (.inl (a0)), zN, .inr (.inr (some 18)), .inl a2, .inr (.inl (x13)), zN, .inl v2, .inl x14], [])) 5 hd0 hz (by subst hx14; subst hx13; rfl) ?_
              exact ih18 x13 x14 (by omega) (by omega)
        exact j18 ((a2 - 0 : Int).toNat + 1) v1 0 (by omega) (by omega)
  exact j6 ((1000 - 0 : Int).toNat + 1) a0 0 (by omega) (by omega)
theorem qm_25_9 {n d : Nat} {M : zM} (hd : 2 ≤ d) (hC : qCI M) (a1 : Int) : qOkP n d 25 [.inr (.inr (some 9)), .inr (.inl (a1))] 8 M qRl := by
  have hz : zP 25 = (zk_X2_sumUpTexts, 8, (0, 0)) := rfl
  have hd0 : 0 < d := by omega
  show zG n (0, 0) d 25 (0, [.inr (.inr (some 9)), .inr (.inl (a1)), zN, zN, zN, zN, zN, zN], []) M _
  refine zG_blk (c' := (5, [.inr (.inr (some 9)), .inr (.inl (a1)), zN, .inr (.inl (a1)), zN, .inl 0, zN, zN], [])) 4 hd0 hz (by rfl) ?_
  have j5 : ∀ (N : Nat) (v1 v2 : Int) , (8 - v2 : Int).toNat < N → 0 ≤ v2 ∧ v2 ≤ 8 → zG n (0, 0) d 25 (5, [.inr (.inr (some 9)), .inr (.inl (a1)), zN, .inr (.inl (v1)), zN, .inl v2, zN, zN], []) M (fun v M' => M' = M ∧ qRl v) := by
    intro N
    induction N with
    | zero => intro v1 v2 hN hv2; exact absurd hN (Nat.not_lt_zero _)
    | succ N ih5 =>
      intro v1 v2 hN hv2
      refine zG_blk (c' := (9, [.inr (.inr (some 9)), .inr (.inl (a1)), zN, .inr (.inl (v1)), zN, .inl v2, zN, zN], [.inl 8, .inl v2])) 2 hd0 hz (by rfl) ?_
      refine zG_icmp_ge hd0 hz rfl (fun hb3 => ?_) (fun hb3 => ?_)
      · refine zG_blk (c' := (85, [.inr (.inr (some 9)), .inr (.inl (a1)), zN, .inr (.inl (v1)), zN, .inl v2, zN, zN], [.inr (.inl (v1))])) 1 hd0 hz (by rfl) ?_
        exact zG_ret hd0 hz rfl rfl ⟨rfl, _, rfl⟩
      · refine zG_blk (c' := (19, [.inr (.inr (some 9)), .inr (.inl (a1)), zN, .inr (.inl (v1)), zN, .inl v2, zN, zN], [.inl 0, .inl v2, .inr (.inr (some 20))])) 4 hd0 hz (by rfl) ?_
        refine zG_call hd0 hz (rfl : zP 106 = (zk_X8_get, 3, (0, 0))) rfl rfl (Nat.le_of_ble_eq_true rfl) ⟨Nat.le_refl _, Nat.le_refl _⟩ (qw_get (by omega) hC (⟨by decide, rfl, rfl⟩ : qT n 20 8 81) v2 (by omega) 0 (by omega)) (fun vr M4 hr => ?_)
        obtain ⟨hq, x5, rfl, hx5⟩ := hr
        replace hq := hq.symm; subst hq
        show zG n (0, 0) d 25 (22, [.inr (.inr (some 9)), .inr (.inl (a1)), zN, .inr (.inl (v1)), zN, .inl v2, zN, zN], [.inl x5]) M _
        obtain ⟨x6, hx6⟩ : ∃ x : Int, x = w64 (31 * v1) := ⟨_, rfl⟩
        obtain ⟨x7, hx7⟩ : ∃ x : Int, x = w64 (x6 + x5) := ⟨_, rfl⟩
        refine zG_blk (c' := (37, [.inr (.inr (some 9)), .inr (.inl (a1)), zN, .inr (.inl (x7)), zN, .inl v2, .inl x5, .inl 0], [])) 10 hd0 hz (by subst hx7; subst hx6; rfl) ?_
        have j37 : ∀ (N : Nat) (v8 v9 : Int) , (80 - v9 : Int).toNat < N → 0 ≤ v9 ∧ v9 ≤ 80 → zG n (0, 0) d 25 (37, [.inr (.inr (some 9)), .inr (.inl (a1)), zN, .inr (.inl (v8)), zN, .inl v2, .inl x5, .inl v9], []) M (fun v M' => M' = M ∧ qRl v) := by
          intro N
          induction N with
          | zero => intro v8 v9 hN hv9; exact absurd hN (Nat.not_lt_zero _)
          | succ N ih37 =>
            intro v8 v9 hN hv9
            refine zG_blk (c' := (41, [.inr (.inr (some 9)), .inr (.inl (a1)), zN, .inr (.inl (v8)), zN, .inl v2, .inl x5, .inl v9], [.inl x5, .inl v9])) 2 hd0 hz (by rfl) ?_
            have j78 : zG n (0, 0) d 25 (78, [.inr (.inr (some 9)), .inr (.inl (a1)), zN, .inr (.inl (v8)), zN, .inl v2, .inl x5, .inl v9], []) M (fun v M' => M' = M ∧ qRl v) := by
              obtain ⟨x10, hx10⟩ : ∃ x : Int, x = w32 (v2 + 1) := ⟨_, rfl⟩
              have hx10e : x10 = v2 + 1 := by rw [hx10]; exact w32_id (by omega)
              refine zG_blk (c' := (5, [.inr (.inr (some 9)), .inr (.inl (a1)), zN, .inr (.inl (v8)), zN, .inl x10, .inl x5, .inl v9], [])) 2 hd0 hz (by subst hx10; rfl) ?_
              exact zG_weak (ih5 v8 x10 (by omega) (by omega)) ⟨.inr rfl, .inr rfl, .inr rfl, .inr rfl, .inr rfl, .inr rfl, .inl rfl, .inl rfl, trivial⟩
            refine zG_icmp_ge hd0 hz rfl (fun hb11 => ?_) (fun hb11 => ?_)
            · exact j78
            · refine zG_blk (c' := (48, [.inr (.inr (some 9)), .inr (.inl (a1)), zN, .inr (.inl (v8)), zN, .inl v2, .inl x5, .inl v9], [.inl 80, .inl v9])) 2 hd0 hz (by rfl) ?_
              refine zG_icmp_ge hd0 hz rfl (fun hb12 => ?_) (fun hb12 => ?_)
              · exact j78
              · obtain ⟨x13, hx13⟩ : ∃ x : Int, x = w64 (31 * v8) := ⟨_, rfl⟩
                obtain ⟨x14, hx14⟩ : ∃ x : Int, x = w32 (1 + v9) := ⟨_, rfl⟩
                have hx14e : x14 = 1 + v9 := by rw [hx14]; exact w32_id (by omega)
                refine zG_blk (c' := (66, [.inr (.inr (some 9)), .inr (.inl (a1)), zN, .inr (.inl (v8)), zN, .inl v2, .inl x5, .inl v9], [.inl x14, .inl v2, .inr (.inr (some 20)), .inr (.inl (x13))])) 9 hd0 hz (by subst hx14; subst hx13; rfl) ?_
                refine zG_call hd0 hz (rfl : zP 106 = (zk_X8_get, 3, (0, 0))) rfl rfl (Nat.le_of_ble_eq_true rfl) ⟨Nat.le_refl _, Nat.le_refl _⟩ (qw_get (by omega) hC (⟨by decide, rfl, rfl⟩ : qT n 20 8 81) v2 (by omega) x14 (by omega)) (fun vr M15 hr => ?_)
                obtain ⟨hq, x16, rfl, hx16⟩ := hr
                replace hq := hq.symm; subst hq
                show zG n (0, 0) d 25 (69, [.inr (.inr (some 9)), .inr (.inl (a1)), zN, .inr (.inl (v8)), zN, .inl v2, .inl x5, .inl v9], [.inl x16, .inr (.inl (x13))]) M _
                obtain ⟨x17, hx17⟩ : ∃ x : Int, x = w64 (x13 + x16) := ⟨_, rfl⟩
                obtain ⟨x18, hx18⟩ : ∃ x : Int, x = w32 (v9 + 1) := ⟨_, rfl⟩
                have hx18e : x18 = v9 + 1 := by rw [hx18]; exact w32_id (by omega)
                refine zG_blk (c' := (37, [.inr (.inr (some 9)), .inr (.inl (a1)), zN, .inr (.inl (x17)), zN, .inl v2, .inl x5, .inl x18], [])) 5 hd0 hz (by subst hx18; subst hx17; rfl) ?_
                exact ih37 x17 x18 (by omega) (by omega)
        exact j37 ((80 - 0 : Int).toNat + 1) x7 0 (by omega) (by omega)
  exact j5 ((8 - 0 : Int).toNat + 1) a1 0 (by omega) (by omega)
theorem qm_23_9 {n d : Nat} {M : zM} (hd : 5 ≤ d) (hC : qCI M)  : qOkP n d 23 [.inr (.inr (some 9))] 4 M qRl := by
  have hz : zP 23 = (zk_X2_sumUp, 4, (0, 0)) := rfl
  have hd0 : 0 < d := by omega
  show zG n (0, 0) d 23 (0, [.inr (.inr (some 9)), zN, zN, zN], []) M _
  refine zG_blk (c' := (6, [.inr (.inr (some 9)), .inr (.inl (283)), zN, .inl 0], [])) 4 hd0 hz (by rfl) ?_
  have j6 : ∀ (N : Nat) (v1 v2 : Int) , (8 - v2 : Int).toNat < N → 0 ≤ v2 ∧ v2 ≤ 8 → zG n (0, 0) d 23 (6, [.inr (.inr (some 9)), .inr (.inl (v1)), zN, .inl v2], []) M (fun v M' => M' = M ∧ qRl v) := by
    intro N
    induction N with
    | zero => intro v1 v2 hN hv2; exact absurd hN (Nat.not_lt_zero _)
    | succ N ih6 =>
      intro v1 v2 hN hv2
      refine zG_blk (c' := (9, [.inr (.inr (some 9)), .inr (.inl (v1)), zN, .inl v2], [.inl 7, .inl v2])) 2 hd0 hz (by rfl) ?_
      refine zG_icmp_gt hd0 hz rfl (fun hb3 => ?_) (fun hb3 => ?_)
      · refine zG_blk (c' := (37, [.inr (.inr (some 9)), .inr (.inl (v1)), zN, .inl v2], [.inl 4, .inr (.inr (some 10)), .inr (.inl (v1))])) 4 hd0 hz (by rfl) ?_
        refine zG_call hd0 hz (rfl : zP 24 = (zk_X2_sumUpRows, 8, (0, 0))) rfl rfl (Nat.le_of_ble_eq_true rfl) ⟨Nat.le_refl _, Nat.le_refl _⟩ (qm_24_10 (by omega) hC  v1 4 (by omega)) (fun vr M4 hr => ?_)
        obtain ⟨hq, x5, rfl⟩ := hr
        replace hq := hq.symm; subst hq
        show zG n (0, 0) d 23 (40, [.inr (.inr (some 9)), .inr (.inl (v1)), zN, .inl v2], [.inr (.inl (x5))]) M _
        refine zG_blk (c' := (47, [.inr (.inr (some 9)), .inr (.inl (x5)), zN, .inl v2], [.inl 3, .inr (.inr (some 12)), .inr (.inl (x5))])) 5 hd0 hz (by rfl) ?_
        refine zG_call hd0 hz (rfl : zP 24 = (zk_X2_sumUpRows, 8, (0, 0))) rfl rfl (Nat.le_of_ble_eq_true rfl) ⟨Nat.le_refl _, Nat.le_refl _⟩ (qm_24_12 (by omega) hC  x5 3 (by omega)) (fun vr M6 hr => ?_)
        obtain ⟨hq, x7, rfl⟩ := hr
        replace hq := hq.symm; subst hq
        show zG n (0, 0) d 23 (50, [.inr (.inr (some 9)), .inr (.inl (x5)), zN, .inl v2], [.inr (.inl (x7))]) M _
        refine zG_blk (c' := (57, [.inr (.inr (some 9)), .inr (.inl (x7)), zN, .inl v2], [.inl 5, .inr (.inr (some 16)), .inr (.inl (x7))])) 5 hd0 hz (by rfl) ?_
        refine zG_call hd0 hz (rfl : zP 24 = (zk_X2_sumUpRows, 8, (0, 0))) rfl rfl (Nat.le_of_ble_eq_true rfl) ⟨Nat.le_refl _, Nat.le_refl _⟩ (qm_24_16 (by omega) hC  x7 5 (by omega)) (fun vr M8 hr => ?_)
        obtain ⟨hq, x9, rfl⟩ := hr
        replace hq := hq.symm; subst hq
        show zG n (0, 0) d 23 (60, [.inr (.inr (some 9)), .inr (.inl (x7)), zN, .inl v2], [.inr (.inl (x9))]) M _
        refine zG_blk (c' := (68, [.inr (.inr (some 9)), .inr (.inl (x9)), zN, .inl v2], [.inl 8, .inr (.inr (some 18)), .inr (.inl (x9))])) 5 hd0 hz (by rfl) ?_
        refine zG_call hd0 hz (rfl : zP 24 = (zk_X2_sumUpRows, 8, (0, 0))) rfl rfl (Nat.le_of_ble_eq_true rfl) ⟨Nat.le_refl _, Nat.le_refl _⟩ (qm_24_18 (by omega) hC  x9 8 (by omega)) (fun vr M10 hr => ?_)
        obtain ⟨hq, x11, rfl⟩ := hr
        replace hq := hq.symm; subst hq
        show zG n (0, 0) d 23 (71, [.inr (.inr (some 9)), .inr (.inl (x9)), zN, .inl v2], [.inr (.inl (x11))]) M _
        refine zG_blk (c' := (74, [.inr (.inr (some 9)), .inr (.inl (x11)), zN, .inl v2], [.inr (.inl (x11)), .inr (.inr (some 9))])) 3 hd0 hz (by rfl) ?_
        refine zG_call hd0 hz (rfl : zP 25 = (zk_X2_sumUpTexts, 8, (0, 0))) rfl rfl (Nat.le_of_ble_eq_true rfl) ⟨Nat.le_refl _, Nat.le_refl _⟩ (qm_25_9 (by omega) hC  x11) (fun vr M12 hr => ?_)
        obtain ⟨hq, x13, rfl⟩ := hr
        replace hq := hq.symm; subst hq
        show zG n (0, 0) d 23 (77, [.inr (.inr (some 9)), .inr (.inl (x11)), zN, .inl v2], [.inr (.inl (x13))]) M _
        obtain ⟨x14, hx14⟩ : ∃ x : Int, x = w64 (31 * x13) := ⟨_, rfl⟩
        have r15 := hC.rng 9 8 (by decide) (by decide)
        obtain ⟨x16, hx16⟩ : ∃ x : Int, x = w64 (x14 + (M 9 8)) := ⟨_, rfl⟩
        obtain ⟨x17, hx17⟩ : ∃ x : Int, x = w64 (31 * x16) := ⟨_, rfl⟩
        have r18 := hC.rng 9 9 (by decide) (by decide)
        obtain ⟨x19, hx19⟩ : ∃ x : Int, x = w64 (x17 + (M 9 9)) := ⟨_, rfl⟩
        refine zG_blk (c' := (101, [.inr (.inr (some 9)), .inr (.inl (x16)), zN, .inl v2], [.inr (.inl (x19))])) 16 hd0 hz (by subst hx19; subst hx17; subst hx16; subst hx14; rfl) ?_
        exact zG_ret hd0 hz rfl rfl ⟨rfl, _, rfl⟩
      · obtain ⟨x20, hx20⟩ : ∃ x : Int, x = w64 (31 * v1) := ⟨_, rfl⟩
        refine zG_blk (c' := (19, [.inr (.inr (some 9)), .inr (.inl (v1)), zN, .inl v2], [.inl v2, .inr (.inr (some 9)), .inr (.inl (x20))])) 5 hd0 hz (by subst hx20; rfl) ?_
        refine zG_call hd0 hz (rfl : zP 21 = (zk_X2_howMany, 2, (0, 0))) rfl rfl (Nat.le_of_ble_eq_true rfl) ⟨Nat.le_refl _, Nat.le_refl _⟩ (qm_21_9 (by omega) hC  v2 (by omega)) (fun vr M21 hr => ?_)
        obtain ⟨hq, x22, rfl, hx22⟩ := hr
        replace hq := hq.symm; subst hq
        show zG n (0, 0) d 23 (22, [.inr (.inr (some 9)), .inr (.inl (v1)), zN, .inl v2], [.inl x22, .inr (.inl (x20))]) M _
        obtain ⟨x23, hx23⟩ : ∃ x : Int, x = w64 (x20 + x22) := ⟨_, rfl⟩
        obtain ⟨x24, hx24⟩ : ∃ x : Int, x = w32 (v2 + 1) := ⟨_, rfl⟩
        have hx24e : x24 = v2 + 1 := by rw [hx24]; exact w32_id (by omega)
        refine zG_blk (c' := (6, [.inr (.inr (some 9)), .inr (.inl (x23)), zN, .inl x24], [])) 5 hd0 hz (by subst hx24; subst hx23; rfl) ?_
        exact ih6 x23 x24 (by omega) (by omega)
  exact j6 ((8 - 0 : Int).toNat + 1) 283 0 (by omega) (by omega)
theorem qm_168_8 {n d : Nat} {M : zM} (hd : 6 ≤ d) (hC : qCI M)  : qOkP n d 168 [.inr (.inr (some 8))] 1 M qRl := by
  have hz : zP 168 = (zk_X10_digest, 1, (0, 0)) := rfl
  have hd0 : 0 < d := by omega
  show zG n (0, 0) d 168 (0, [.inr (.inr (some 8))], []) M _
  refine zG_blk (c' := (4, [.inr (.inr (some 8))], [.inr (.inr (some 9))])) 2 hd0 hz (by rfl) ?_
  refine zG_call hd0 hz (rfl : zP 23 = (zk_X2_sumUp, 4, (0, 0))) rfl rfl (Nat.le_of_ble_eq_true rfl) ⟨Nat.le_refl _, Nat.le_refl _⟩ (qm_23_9 (by omega) hC  ) (fun vr M1 hr => ?_)
  obtain ⟨hq, x2, rfl⟩ := hr
  replace hq := hq.symm; subst hq
  show zG n (0, 0) d 168 (7, [.inr (.inr (some 8))], [.inr (.inl (x2))]) M _
  exact zG_ret hd0 hz rfl rfl ⟨rfl, _, rfl⟩
