/-! THE CLASS'S METHODS, BY PROGRAM -/
theorem qm_169 {n d : Nat} {M : zM} (hd : 1 ≤ d) (hC : qCI M) (a0 : Int) (ha0 : (-2147483648) ≤ a0 ∧ a0 ≤ 2147483647) (a1 : Int) (ha1 : (-2147483648) ≤ a1 ∧ a1 ≤ 2147483647) (a2 : Int) (ha2 : (-2147483648) ≤ a2 ∧ a2 ≤ 2147483647) : qOkP n d 169 [.inl a0, .inl a1, .inl a2] 3 M (qRi (fun x => 0 ≤ x ∧ x ≤ 1)) := by
  have hz := zp_169
  have hd0 : 0 < d := by omega
  show zG n (0, 0) d 169 (0, [.inl a0, .inl a1, .inl a2], []) M _
  refine zG_blk (c' := (2, [.inl a0, .inl a1, .inl a2], [.inl a1, .inl a0])) 2 hd0 hz (by rfl) ?_
  have j15 : ∀ (v1 : Int) , 0 ≤ v1 ∧ v1 ≤ 1 → zG n (0, 0) d 169 (15, [.inl a0, .inl a1, .inl a2], [.inl v1]) M (fun v M' => M' = M ∧ qRi (fun x => 0 ≤ x ∧ x ≤ 1) v) := by
    intro v1 hv1
    exact zG_zret hd0 hz rfl (by omega) ⟨rfl, _, rfl, by omega⟩
  have j14 : zG n (0, 0) d 169 (14, [.inl a0, .inl a1, .inl a2], []) M (fun v M' => M' = M ∧ qRi (fun x => 0 ≤ x ∧ x ≤ 1) v) := by
    refine zG_blk (c' := (15, [.inl a0, .inl a1, .inl a2], [.inl 0])) 1 hd0 hz (by rfl) ?_
    exact j15 0 (by first | decide | omega)
  refine zG_icmp_lt hd0 hz rfl (fun hb2 => ?_) (fun hb2 => ?_)
  · exact j14
  · refine zG_blk (c' := (7, [.inl a0, .inl a1, .inl a2], [.inl a2, .inl a0])) 2 hd0 hz (by rfl) ?_
    refine zG_icmp_gt hd0 hz rfl (fun hb3 => ?_) (fun hb3 => ?_)
    · exact j14
    · refine zG_blk (c' := (15, [.inl a0, .inl a1, .inl a2], [.inl 1])) 2 hd0 hz (by rfl) ?_
      exact j15 1 (by first | decide | omega)
theorem qm_177_8 {n d : Nat} {M : zM} (hd : 2 ≤ d) (hC : qCI M)  : qOkP n d 177 [.inr (.inr (some 8))] 1 M (qRi (fun x => (-2147483648) ≤ x ∧ x ≤ 2147483647)) := by
  have hz := zp_177
  have hd0 : 0 < d := by omega
  show zG n (0, 0) d 177 (0, [.inr (.inr (some 8))], []) M _
  refine zG_blk (c' := (8, [.inr (.inr (some 8))], [.inr (.inr (some 10)), .inl 1])) 4 hd0 hz (by rfl) ?_
  refine zG_call hd0 hz zp_101 rfl rfl (Nat.le_of_ble_eq_true rfl) ⟨Nat.le_refl _, Nat.le_refl _⟩ (qw_size (by first | exact zdp hd (by decide) | omega) hC (⟨by decide, rfl, rfl⟩ : qT n 10 14 4) ) (fun vr M1 hr => ?_)
  obtain ⟨hq, x2, rfl, hx2⟩ := hr
  replace hq := hq.symm; subst hq
  show zG n (0, 0) d 177 (11, [.inr (.inr (some 8))], [.inl x2, .inl 1]) M _
  obtain ⟨x3, hx3⟩ : ∃ x : Int, x = zbshl 1 x2 := ⟨_, rfl⟩
  have hx3r : qin x3 := by rw [hx3]; exact qb32 _
  obtain ⟨x4, hx4⟩ : ∃ x : Int, x = w32 (x3 - 1) := ⟨_, rfl⟩
  have hx4r : x4 = (x3 - 1 + 2147483648) % 4294967296 - 2147483648 := hx4
  refine zG_blk (c' := (14, [.inr (.inr (some 8))], [.inl x4])) 3 hd0 hz (by subst hx4; subst hx3; rfl) ?_
  exact zG_ret hd0 hz rfl rfl ⟨rfl, _, rfl, by omega⟩
theorem qm_123_8 {n d : Nat} {M : zM} (hd : 3 ≤ d) (hC : qCI M) (a1 : Int) (ha1 : (-2147483648) ≤ a1 ∧ a1 ≤ 2147483647) (a2 : Int) (ha2 : (-2147483648) ≤ a2 ∧ a2 ≤ 2147483647) (a3 : Int) (ha3 : (-2147483648) ≤ a3 ∧ a3 ≤ 2147483647) (a4 : Int) (ha4 : (-2147483648) ≤ a4 ∧ a4 ≤ 2147483647) : qOkM n d 123 [.inr (.inr (some 8)), .inl a1, .inl a2, .inl a3, .inl a4] 6 qCI [10, 11] M (qRi (fun x => (-4) ≤ x ∧ x ≤ 13)) := by
  have hz := zp_123
  have hd0 : 0 < d := by omega
  have hW : qFr [10, 11] M M := qFr.rfl
  show zG n (0, 0) d 123 (0, [.inr (.inr (some 8)), .inl a1, .inl a2, .inl a3, .inl a4, zN], []) M _
  refine zG_blk (c' := (4, [.inr (.inr (some 8)), .inl a1, .inl a2, .inl a3, .inl a4, zN], [.inl 60, .inl 1, .inl a1])) 3 hd0 hz (by rfl) ?_
  refine zG_call hd0 hz zp_169 rfl rfl (Nat.le_of_ble_eq_true rfl) ⟨Nat.le_refl _, Nat.le_refl _⟩ (qm_169 (by first | exact zdp hd (by decide) | omega) hC  a1 (by first | with_reducible exact ha1 | omega) 1 (by first | decide | omega) 60 (by first | decide | omega)) (fun vr M1 hr => ?_)
  obtain ⟨hq, x2, rfl, hx2⟩ := hr
  replace hq := hq.symm; subst hq
  show zG n (0, 0) d 123 (7, [.inr (.inr (some 8)), .inl a1, .inl a2, .inl a3, .inl a4, zN], [.inl x2]) M _
  have j22 : zG n (0, 0) d 123 (22, [.inr (.inr (some 8)), .inl a1, .inl a2, .inl a3, .inl a4, zN], []) M (fun v M' => qWf qCI [10, 11] M M' ∧ qRi (fun x => (-4) ≤ x ∧ x ≤ 13) v) := by
    refine zG_blk (c' := (24, [.inr (.inr (some 8)), .inl a1, .inl a2, .inl a3, .inl a4, zN], [.inl (-2)])) 1 hd0 hz (by rfl) ?_
    exact zG_ret hd0 hz rfl rfl ⟨⟨hC, hW⟩, _, rfl, by omega⟩
  refine zG_if_eq hd0 hz rfl (fun hb3 => ?_) (fun hb3 => ?_)
  · exact j22
  · refine zG_blk (c' := (13, [.inr (.inr (some 8)), .inl a1, .inl a2, .inl a3, .inl a4, zN], [.inr (.inr (some 8)), .inl 0, .inl a2])) 3 hd0 hz (by rfl) ?_
    refine zG_call hd0 hz zp_177 rfl rfl (Nat.le_of_ble_eq_true rfl) ⟨Nat.le_refl _, Nat.le_refl _⟩ (qm_177_8 (by first | exact zdp hd (by decide) | omega) hC  ) (fun vr M4 hr => ?_)
    obtain ⟨hq, x5, rfl, hx5⟩ := hr
    replace hq := hq.symm; subst hq
    show zG n (0, 0) d 123 (16, [.inr (.inr (some 8)), .inl a1, .inl a2, .inl a3, .inl a4, zN], [.inl x5, .inl 0, .inl a2]) M _
    refine zG_call hd0 hz zp_169 rfl rfl (Nat.le_of_ble_eq_true rfl) ⟨Nat.le_refl _, Nat.le_refl _⟩ (qm_169 (by first | exact zdp hd (by decide) | omega) hC  a2 (by first | with_reducible exact ha2 | omega) 0 (by first | decide | omega) x5 (by omega)) (fun vr M6 hr => ?_)
    obtain ⟨hq, x7, rfl, hx7⟩ := hr
    replace hq := hq.symm; subst hq
    show zG n (0, 0) d 123 (19, [.inr (.inr (some 8)), .inl a1, .inl a2, .inl a3, .inl a4, zN], [.inl x7]) M _
    refine zG_if_ne hd0 hz rfl (fun hb8 => ?_) (fun hb8 => ?_)
    · refine zG_blk (c' := (29, [.inr (.inr (some 8)), .inl a1, .inl a2, .inl a3, .inl a4, zN], [.inl 7, .inl 1, .inl a3])) 3 hd0 hz (by rfl) ?_
      refine zG_call hd0 hz zp_169 rfl rfl (Nat.le_of_ble_eq_true rfl) ⟨Nat.le_refl _, Nat.le_refl _⟩ (qm_169 (by first | exact zdp hd (by decide) | omega) hC  a3 (by first | with_reducible exact ha3 | omega) 1 (by first | decide | omega) 7 (by first | decide | omega)) (fun vr M9 hr => ?_)
      obtain ⟨hq, x10, rfl, hx10⟩ := hr
      replace hq := hq.symm; subst hq
      show zG n (0, 0) d 123 (32, [.inr (.inr (some 8)), .inl a1, .inl a2, .inl a3, .inl a4, zN], [.inl x10]) M _
      have j46 : zG n (0, 0) d 123 (46, [.inr (.inr (some 8)), .inl a1, .inl a2, .inl a3, .inl a4, zN], []) M (fun v M' => qWf qCI [10, 11] M M' ∧ qRi (fun x => (-4) ≤ x ∧ x ≤ 13) v) := by
        refine zG_blk (c' := (48, [.inr (.inr (some 8)), .inl a1, .inl a2, .inl a3, .inl a4, zN], [.inl (-2)])) 1 hd0 hz (by rfl) ?_
        exact zG_ret hd0 hz rfl rfl ⟨⟨hC, hW⟩, _, rfl, by omega⟩
      refine zG_if_eq hd0 hz rfl (fun hb11 => ?_) (fun hb11 => ?_)
      · exact j46
      · refine zG_blk (c' := (40, [.inr (.inr (some 8)), .inl a1, .inl a2, .inl a3, .inl a4, zN], [.inl 100, .inl 0, .inl a4])) 3 hd0 hz (by rfl) ?_
        refine zG_call hd0 hz zp_169 rfl rfl (Nat.le_of_ble_eq_true rfl) ⟨Nat.le_refl _, Nat.le_refl _⟩ (qm_169 (by first | exact zdp hd (by decide) | omega) hC  a4 (by first | with_reducible exact ha4 | omega) 0 (by first | decide | omega) 100 (by first | decide | omega)) (fun vr M12 hr => ?_)
        obtain ⟨hq, x13, rfl, hx13⟩ := hr
        replace hq := hq.symm; subst hq
        show zG n (0, 0) d 123 (43, [.inr (.inr (some 8)), .inl a1, .inl a2, .inl a3, .inl a4, zN], [.inl x13]) M _
        refine zG_if_ne hd0 hz rfl (fun hb14 => ?_) (fun hb14 => ?_)
        · refine zG_blk (c' := (56, [.inr (.inr (some 8)), .inl a1, .inl a2, .inl a3, .inl a4, zN], [.inr (.inr (some 10))])) 3 hd0 hz (by rfl) ?_
          refine zG_call hd0 hz zp_103 rfl rfl (Nat.le_of_ble_eq_true rfl) ⟨Nat.le_refl _, Nat.le_refl _⟩ (qw_open (by first | exact zdp hd (by decide) | omega) hC (⟨by decide, rfl, rfl⟩ : qT n 10 14 4) ) (fun vr M15 hr => ?_)
          obtain ⟨⟨hCM15, hFM15⟩, x16, rfl, hx16⟩ := hr
          have hWM15 : qFr [10, 11] M M15 := hW.tr hFM15 (by decide)
          show zG n (0, 0) d 123 (59, [.inr (.inr (some 8)), .inl a1, .inl a2, .inl a3, .inl a4, zN], [.inl x16]) M15 _
          refine zG_blk (c' := (72, [.inr (.inr (some 8)), .inl a1, .inl a2, .inl a3, .inl a4, .inl x16], [.inl a1, .inl 0, .inl x16, .inr (.inr (some 10))])) 7 hd0 hz (by rfl) ?_
          refine zG_call hd0 hz zp_107 rfl rfl (Nat.le_of_ble_eq_true rfl) ⟨Nat.le_refl _, Nat.le_refl _⟩ (qw_set (by first | exact zdp hd (by decide) | omega) hCM15 (⟨by decide, rfl, rfl⟩ : qT n 10 14 4) x16 (by omega) 0 (by first | decide | omega) a1 (by first | with_reducible exact ha1 | omega)) (fun vr M17 hr => ?_)
          obtain ⟨⟨hCM17, hFM17⟩, rfl⟩ := hr
          have hWM17 : qFr [10, 11] M M17 := hWM15.tr hFM17 (by decide)
          show zG n (0, 0) d 123 (75, [.inr (.inr (some 8)), .inl a1, .inl a2, .inl a3, .inl a4, .inl x16], []) M17 _
          refine zG_blk (c' := (86, [.inr (.inr (some 8)), .inl a1, .inl a2, .inl a3, .inl a4, .inl x16], [.inl a2, .inl 1, .inl x16, .inr (.inr (some 10))])) 6 hd0 hz (by rfl) ?_
          refine zG_call hd0 hz zp_107 rfl rfl (Nat.le_of_ble_eq_true rfl) ⟨Nat.le_refl _, Nat.le_refl _⟩ (qw_set (by first | exact zdp hd (by decide) | omega) hCM17 (⟨by decide, rfl, rfl⟩ : qT n 10 14 4) x16 (by omega) 1 (by first | decide | omega) a2 (by first | with_reducible exact ha2 | omega)) (fun vr M19 hr => ?_)
          obtain ⟨⟨hCM19, hFM19⟩, rfl⟩ := hr
          have hWM19 : qFr [10, 11] M M19 := hWM17.tr hFM19 (by decide)
          show zG n (0, 0) d 123 (89, [.inr (.inr (some 8)), .inl a1, .inl a2, .inl a3, .inl a4, .inl x16], []) M19 _
          refine zG_blk (c' := (100, [.inr (.inr (some 8)), .inl a1, .inl a2, .inl a3, .inl a4, .inl x16], [.inl a3, .inl 2, .inl x16, .inr (.inr (some 10))])) 6 hd0 hz (by rfl) ?_
          refine zG_call hd0 hz zp_107 rfl rfl (Nat.le_of_ble_eq_true rfl) ⟨Nat.le_refl _, Nat.le_refl _⟩ (qw_set (by first | exact zdp hd (by decide) | omega) hCM19 (⟨by decide, rfl, rfl⟩ : qT n 10 14 4) x16 (by omega) 2 (by first | decide | omega) a3 (by first | with_reducible exact ha3 | omega)) (fun vr M21 hr => ?_)
          obtain ⟨⟨hCM21, hFM21⟩, rfl⟩ := hr
          have hWM21 : qFr [10, 11] M M21 := hWM19.tr hFM21 (by decide)
          show zG n (0, 0) d 123 (103, [.inr (.inr (some 8)), .inl a1, .inl a2, .inl a3, .inl a4, .inl x16], []) M21 _
          refine zG_blk (c' := (115, [.inr (.inr (some 8)), .inl a1, .inl a2, .inl a3, .inl a4, .inl x16], [.inl a4, .inl 3, .inl x16, .inr (.inr (some 10))])) 6 hd0 hz (by rfl) ?_
          refine zG_call hd0 hz zp_107 rfl rfl (Nat.le_of_ble_eq_true rfl) ⟨Nat.le_refl _, Nat.le_refl _⟩ (qw_set (by first | exact zdp hd (by decide) | omega) hCM21 (⟨by decide, rfl, rfl⟩ : qT n 10 14 4) x16 (by omega) 3 (by first | decide | omega) a4 (by first | with_reducible exact ha4 | omega)) (fun vr M23 hr => ?_)
          obtain ⟨⟨hCM23, hFM23⟩, rfl⟩ := hr
          have hWM23 : qFr [10, 11] M M23 := hWM21.tr hFM23 (by decide)
          show zG n (0, 0) d 123 (118, [.inr (.inr (some 8)), .inl a1, .inl a2, .inl a3, .inl a4, .inl x16], []) M23 _
          refine zG_blk (c' := (120, [.inr (.inr (some 8)), .inl a1, .inl a2, .inl a3, .inl a4, .inl x16], [.inl x16])) 1 hd0 hz (by rfl) ?_
          exact zG_ret hd0 hz rfl rfl ⟨⟨hCM23, hWM23⟩, _, rfl, by omega⟩
        · exact j46
    · exact j22
theorem qm_170 {n d : Nat} {M : zM} (hd : 2 ≤ d) (hC : qCI M) (a0 : Int) (ha0 : (-2147483648) ≤ a0 ∧ a0 ≤ 2147483647) : qOkP n d 170 [.inl a0] 1 M (qRi (fun x => 0 ≤ x ∧ x ≤ 1)) := by
  have hz := zp_170
  have hd0 : 0 < d := by omega
  show zG n (0, 0) d 170 (0, [.inl a0], []) M _
  refine zG_blk (c' := (5, [.inl a0], [.inl 9999, .inl 0, .inl a0])) 3 hd0 hz (by rfl) ?_
  refine zG_call hd0 hz zp_169 rfl rfl (Nat.le_of_ble_eq_true rfl) ⟨Nat.le_refl _, Nat.le_refl _⟩ (qm_169 (by first | exact zdp hd (by decide) | omega) hC  a0 (by first | with_reducible exact ha0 | omega) 0 (by first | decide | omega) 9999 (by first | decide | omega)) (fun vr M1 hr => ?_)
  obtain ⟨hq, x2, rfl, hx2⟩ := hr
  replace hq := hq.symm; subst hq
  show zG n (0, 0) d 170 (8, [.inl a0], [.inl x2]) M _
  exact zG_zret hd0 hz rfl (by omega) ⟨rfl, _, rfl, by omega⟩
theorem qm_124_8 {n d : Nat} {M : zM} (hd : 3 ≤ d) (hC : qCI M) (a1 : Int) (ha1 : (-2147483648) ≤ a1 ∧ a1 ≤ 2147483647) : qOkM n d 124 [.inr (.inr (some 8)), .inl a1] 3 qCI [12, 13] M (qRi (fun x => (-4) ≤ x ∧ x ≤ 19)) := by
  have hz := zp_124
  have hd0 : 0 < d := by omega
  have hW : qFr [12, 13] M M := qFr.rfl
  show zG n (0, 0) d 124 (0, [.inr (.inr (some 8)), .inl a1, zN], []) M _
  refine zG_blk (c' := (1, [.inr (.inr (some 8)), .inl a1, zN], [.inl a1])) 1 hd0 hz (by rfl) ?_
  refine zG_call hd0 hz zp_170 rfl rfl (Nat.le_of_ble_eq_true rfl) ⟨Nat.le_refl _, Nat.le_refl _⟩ (qm_170 (by first | exact zdp hd (by decide) | omega) hC  a1 (by first | with_reducible exact ha1 | omega)) (fun vr M1 hr => ?_)
  obtain ⟨hq, x2, rfl, hx2⟩ := hr
  replace hq := hq.symm; subst hq
  show zG n (0, 0) d 124 (4, [.inr (.inr (some 8)), .inl a1, zN], [.inl x2]) M _
  refine zG_if_ne hd0 hz rfl (fun hb3 => ?_) (fun hb3 => ?_)
  · refine zG_blk (c' := (17, [.inr (.inr (some 8)), .inl a1, zN], [.inr (.inr (some 12))])) 3 hd0 hz (by rfl) ?_
    refine zG_call hd0 hz zp_103 rfl rfl (Nat.le_of_ble_eq_true rfl) ⟨Nat.le_refl _, Nat.le_refl _⟩ (qw_open (by first | exact zdp hd (by decide) | omega) hC (⟨by decide, rfl, rfl⟩ : qT n 12 20 3) ) (fun vr M4 hr => ?_)
    obtain ⟨⟨hCM4, hFM4⟩, x5, rfl, hx5⟩ := hr
    have hWM4 : qFr [12, 13] M M4 := hW.tr hFM4 (by decide)
    show zG n (0, 0) d 124 (20, [.inr (.inr (some 8)), .inl a1, zN], [.inl x5]) M4 _
    refine zG_blk (c' := (31, [.inr (.inr (some 8)), .inl a1, .inl x5], [.inl a1, .inl 0, .inl x5, .inr (.inr (some 12))])) 7 hd0 hz (by rfl) ?_
    refine zG_call hd0 hz zp_107 rfl rfl (Nat.le_of_ble_eq_true rfl) ⟨Nat.le_refl _, Nat.le_refl _⟩ (qw_set (by first | exact zdp hd (by decide) | omega) hCM4 (⟨by decide, rfl, rfl⟩ : qT n 12 20 3) x5 (by omega) 0 (by first | decide | omega) a1 (by first | with_reducible exact ha1 | omega)) (fun vr M6 hr => ?_)
    obtain ⟨⟨hCM6, hFM6⟩, rfl⟩ := hr
    have hWM6 : qFr [12, 13] M M6 := hWM4.tr hFM6 (by decide)
    show zG n (0, 0) d 124 (34, [.inr (.inr (some 8)), .inl a1, .inl x5], []) M6 _
    refine zG_blk (c' := (44, [.inr (.inr (some 8)), .inl a1, .inl x5], [.inl (-1), .inl 1, .inl x5, .inr (.inr (some 12))])) 6 hd0 hz (by rfl) ?_
    refine zG_call hd0 hz zp_107 rfl rfl (Nat.le_of_ble_eq_true rfl) ⟨Nat.le_refl _, Nat.le_refl _⟩ (qw_set (by first | exact zdp hd (by decide) | omega) hCM6 (⟨by decide, rfl, rfl⟩ : qT n 12 20 3) x5 (by omega) 1 (by first | decide | omega) (-1) (by first | decide | omega)) (fun vr M8 hr => ?_)
    obtain ⟨⟨hCM8, hFM8⟩, rfl⟩ := hr
    have hWM8 : qFr [12, 13] M M8 := hWM6.tr hFM8 (by decide)
    show zG n (0, 0) d 124 (47, [.inr (.inr (some 8)), .inl a1, .inl x5], []) M8 _
    refine zG_blk (c' := (57, [.inr (.inr (some 8)), .inl a1, .inl x5], [.inl 0, .inl 2, .inl x5, .inr (.inr (some 12))])) 6 hd0 hz (by rfl) ?_
    refine zG_call hd0 hz zp_107 rfl rfl (Nat.le_of_ble_eq_true rfl) ⟨Nat.le_refl _, Nat.le_refl _⟩ (qw_set (by first | exact zdp hd (by decide) | omega) hCM8 (⟨by decide, rfl, rfl⟩ : qT n 12 20 3) x5 (by omega) 2 (by first | decide | omega) 0 (by first | decide | omega)) (fun vr M10 hr => ?_)
    obtain ⟨⟨hCM10, hFM10⟩, rfl⟩ := hr
    have hWM10 : qFr [12, 13] M M10 := hWM8.tr hFM10 (by decide)
    show zG n (0, 0) d 124 (60, [.inr (.inr (some 8)), .inl a1, .inl x5], []) M10 _
    refine zG_blk (c' := (61, [.inr (.inr (some 8)), .inl a1, .inl x5], [.inl x5])) 1 hd0 hz (by rfl) ?_
    exact zG_ret hd0 hz rfl rfl ⟨⟨hCM10, hWM10⟩, _, rfl, by omega⟩
  · refine zG_blk (c' := (9, [.inr (.inr (some 8)), .inl a1, zN], [.inl (-2)])) 1 hd0 hz (by rfl) ?_
    exact zG_ret hd0 hz rfl rfl ⟨⟨hC, hW⟩, _, rfl, by omega⟩
