theorem qm_42_60 {n d : Nat} {M : zM} (hd : 2 ≤ d) (hC : qCI M) (a1 : Int) (ha1 : (-2147483648) ≤ a1 ∧ a1 ≤ 2147483647) : qOkP n d 42 [.inr (.inr (some 60)), .inl a1] 2 M (qRi (fun x => 0 ≤ x ∧ x ≤ 1)) := by
  have hz := zp_42
  have hd0 : 0 < d := by omega
  show zG n (0, 0) d 42 (0, [.inr (.inr (some 60)), .inl a1], []) M _
  refine zG_blk (c' := (6, [.inr (.inr (some 60)), .inl a1], [.inl 0, .inl a1, .inr (.inr (some 61))])) 4 hd0 hz (by rfl) ?_
  refine zG_call hd0 hz zp_106 rfl rfl (Nat.le_of_ble_eq_true rfl) ⟨Nat.le_refl _, Nat.le_refl _⟩ (qw_get (by first | exact zdp hd (by decide) | omega) hC (⟨by decide, rfl, rfl⟩ : qT n 61 250 4) a1 (by first | with_reducible exact ha1 | omega) 0 (by first | decide | omega)) (fun vr M1 hr => ?_)
  obtain ⟨hq, x2, rfl, hx2⟩ := hr
  replace hq := hq.symm; subst hq
  show zG n (0, 0) d 42 (9, [.inr (.inr (some 60)), .inl a1], [.inl x2]) M _
  refine zG_blk (c' := (10, [.inr (.inr (some 60)), .inl a1], [.inl 1, .inl x2])) 1 hd0 hz (by rfl) ?_
  have j18 : ∀ (v3 : Int) , 0 ≤ v3 ∧ v3 ≤ 1 → zG n (0, 0) d 42 (18, [.inr (.inr (some 60)), .inl a1], [.inl v3]) M (fun v M' => M' = M ∧ qRi (fun x => 0 ≤ x ∧ x ≤ 1) v) := by
    intro v3 hv3
    exact zG_zret hd0 hz rfl (by omega) ⟨rfl, _, rfl, by omega⟩
  refine zG_icmp_ne hd0 hz rfl (fun hb4 => ?_) (fun hb4 => ?_)
  · refine zG_blk (c' := (18, [.inr (.inr (some 60)), .inl a1], [.inl 0])) 1 hd0 hz (by rfl) ?_
    exact j18 0 (by first | decide | omega)
  · refine zG_blk (c' := (18, [.inr (.inr (some 60)), .inl a1], [.inl 1])) 2 hd0 hz (by rfl) ?_
    exact j18 1 (by first | decide | omega)
theorem qm_52_60 {n d : Nat} {M : zM} (hd : 2 ≤ d) (hC : qCI M) (a1 : Int) (ha1 : (-2147483648) ≤ a1 ∧ a1 ≤ 2147483647) : qOkP n d 52 [.inr (.inr (some 60)), .inl a1] 2 M (qRi (fun x => (-2147483648) ≤ x ∧ x ≤ 2147483647)) := by
  have hz := zp_52
  have hd0 : 0 < d := by omega
  show zG n (0, 0) d 52 (0, [.inr (.inr (some 60)), .inl a1], []) M _
  refine zG_blk (c' := (9, [.inr (.inr (some 60)), .inl a1], [.inl 4, .inl a1, .inr (.inr (some 18))])) 5 hd0 hz (by rfl) ?_
  refine zG_call hd0 hz zp_106 rfl rfl (Nat.le_of_ble_eq_true rfl) ⟨Nat.le_refl _, Nat.le_refl _⟩ (qw_get (by first | exact zdp hd (by decide) | omega) hC (⟨by decide, rfl, rfl⟩ : qT n 18 250 11) a1 (by first | with_reducible exact ha1 | omega) 4 (by first | decide | omega)) (fun vr M1 hr => ?_)
  obtain ⟨hq, x2, rfl, hx2⟩ := hr
  replace hq := hq.symm; subst hq
  show zG n (0, 0) d 52 (12, [.inr (.inr (some 60)), .inl a1], [.inl x2]) M _
  obtain ⟨x3, hx3⟩ : ∃ x : Int, x = w32 (x2 * 14) := ⟨_, rfl⟩
  have hx3r : qin x3 := by rw [hx3]; exact w32_in _
  refine zG_blk (c' := (24, [.inr (.inr (some 60)), .inl a1], [.inl 5, .inl a1, .inr (.inr (some 18)), .inl x3])) 7 hd0 hz (by subst hx3; rfl) ?_
  refine zG_call hd0 hz zp_106 rfl rfl (Nat.le_of_ble_eq_true rfl) ⟨Nat.le_refl _, Nat.le_refl _⟩ (qw_get (by first | exact zdp hd (by decide) | omega) hC (⟨by decide, rfl, rfl⟩ : qT n 18 250 11) a1 (by first | with_reducible exact ha1 | omega) 5 (by first | decide | omega)) (fun vr M4 hr => ?_)
  obtain ⟨hq, x5, rfl, hx5⟩ := hr
  replace hq := hq.symm; subst hq
  show zG n (0, 0) d 52 (27, [.inr (.inr (some 60)), .inl a1], [.inl x5, .inl x3]) M _
  obtain ⟨x6, hx6⟩ : ∃ x : Int, x = w32 (x3 + x5) := ⟨_, rfl⟩
  have hx6r : x6 = (x3 + x5 + 2147483648) % 4294967296 - 2147483648 := hx6
  refine zG_blk (c' := (28, [.inr (.inr (some 60)), .inl a1], [.inl x6])) 1 hd0 hz (by subst hx6; rfl) ?_
  exact zG_ret hd0 hz rfl rfl ⟨rfl, _, rfl, by omega⟩
theorem qm_51_60 {n d : Nat} {M : zM} (hd : 3 ≤ d) (hC : qCI M) (a1 : Int) (ha1 : (-2147483648) ≤ a1 ∧ a1 ≤ 2147483647) : qOkM n d 51 [.inr (.inr (some 60)), .inl a1] 4 qCI [64] M qRn := by
  have hz := zp_51
  have hd0 : 0 < d := by omega
  have hW : qFr [64] M M := qFr.rfl
  show zG n (0, 0) d 51 (0, [.inr (.inr (some 60)), .inl a1, zN, zN], []) M _
  refine zG_blk (c' := (2, [.inr (.inr (some 60)), .inl a1, zN, zN], [.inl a1, .inr (.inr (some 60))])) 2 hd0 hz (by rfl) ?_
  refine zG_call hd0 hz zp_52 rfl rfl (Nat.le_of_ble_eq_true rfl) ⟨Nat.le_refl _, Nat.le_refl _⟩ (qm_52_60 (by first | exact zdp hd (by decide) | omega) hC  a1 (by first | with_reducible exact ha1 | omega)) (fun vr M1 hr => ?_)
  obtain ⟨hq, x2, rfl, hx2⟩ := hr
  replace hq := hq.symm; subst hq
  show zG n (0, 0) d 51 (5, [.inr (.inr (some 60)), .inl a1, zN, zN], [.inl x2]) M _
  refine zG_blk (c' := (12, [.inr (.inr (some 60)), .inl a1, .inl x2, zN], [.inl 3, .inl x2, .inr (.inr (some 63))])) 5 hd0 hz (by rfl) ?_
  refine zG_call hd0 hz zp_106 rfl rfl (Nat.le_of_ble_eq_true rfl) ⟨Nat.le_refl _, Nat.le_refl _⟩ (qw_get (by first | exact zdp hd (by decide) | omega) hC (⟨by decide, rfl, rfl⟩ : qT n 63 280 4) x2 (by omega) 3 (by first | decide | omega)) (fun vr M3 hr => ?_)
  obtain ⟨hq, x4, rfl, hx4⟩ := hr
  replace hq := hq.symm; subst hq
  show zG n (0, 0) d 51 (15, [.inr (.inr (some 60)), .inl a1, .inl x2, zN], [.inl x4]) M _
  refine zG_blk (c' := (18, [.inr (.inr (some 60)), .inl a1, .inl x2, .inl x4], [.inl (-1), .inl x4])) 3 hd0 hz (by rfl) ?_
  have j58 : ∀ (M5 : zM) , qCI M5 → qFr [64] M M5 → zG n (0, 0) d 51 (58, [.inr (.inr (some 60)), .inl a1, .inl x2, .inl x4], []) M5 (fun v M' => qWf qCI [64] M M' ∧ qRn v) := by
    intro M5 hCM5 hWM5
    exact zG_ret hd0 hz rfl rfl ⟨⟨hCM5, hWM5⟩, rfl⟩
  have j48 : zG n (0, 0) d 51 (48, [.inr (.inr (some 60)), .inl a1, .inl x2, .inl x4], []) M (fun v M' => qWf qCI [64] M M' ∧ qRn v) := by
    refine zG_blk (c' := (55, [.inr (.inr (some 60)), .inl a1, .inl x2, .inl x4], [.inl a1, .inl 3, .inl x2, .inr (.inr (some 63))])) 5 hd0 hz (by rfl) ?_
    refine zG_call hd0 hz zp_107 rfl rfl (Nat.le_of_ble_eq_true rfl) ⟨Nat.le_refl _, Nat.le_refl _⟩ (qw_set (by first | exact zdp hd (by decide) | omega) hC (⟨by decide, rfl, rfl⟩ : qT n 63 280 4) x2 (by omega) 3 (by first | decide | omega) a1 (by first | with_reducible exact ha1 | omega)) (fun vr M6 hr => ?_)
    obtain ⟨⟨hCM6, hFM6⟩, rfl⟩ := hr
    have hWM6 : qFr [64] M M6 := hW.tr hFM6 (by decide)
    show zG n (0, 0) d 51 (58, [.inr (.inr (some 60)), .inl a1, .inl x2, .inl x4], []) M6 _
    exact j58 M6 hCM6 hWM6
  refine zG_icmp_eq hd0 hz rfl (fun hb8 => ?_) (fun hb8 => ?_)
  · exact j48
  · refine zG_blk (c' := (30, [.inr (.inr (some 60)), .inl a1, .inl x2, .inl x4], [.inl 1, .inl a1, .inr (.inr (some 18))])) 5 hd0 hz (by rfl) ?_
    refine zG_call hd0 hz zp_106 rfl rfl (Nat.le_of_ble_eq_true rfl) ⟨Nat.le_refl _, Nat.le_refl _⟩ (qw_get (by first | exact zdp hd (by decide) | omega) hC (⟨by decide, rfl, rfl⟩ : qT n 18 250 11) a1 (by first | with_reducible exact ha1 | omega) 1 (by first | decide | omega)) (fun vr M9 hr => ?_)
    obtain ⟨hq, x10, rfl, hx10⟩ := hr
    replace hq := hq.symm; subst hq
    show zG n (0, 0) d 51 (33, [.inr (.inr (some 60)), .inl a1, .inl x2, .inl x4], [.inl x10]) M _
    refine zG_blk (c' := (42, [.inr (.inr (some 60)), .inl a1, .inl x2, .inl x4], [.inl 1, .inl x4, .inr (.inr (some 18)), .inl x10])) 5 hd0 hz (by rfl) ?_
    refine zG_call hd0 hz zp_106 rfl rfl (Nat.le_of_ble_eq_true rfl) ⟨Nat.le_refl _, Nat.le_refl _⟩ (qw_get (by first | exact zdp hd (by decide) | omega) hC (⟨by decide, rfl, rfl⟩ : qT n 18 250 11) x4 (by omega) 1 (by first | decide | omega)) (fun vr M11 hr => ?_)
    obtain ⟨hq, x12, rfl, hx12⟩ := hr
    replace hq := hq.symm; subst hq
    show zG n (0, 0) d 51 (45, [.inr (.inr (some 60)), .inl a1, .inl x2, .inl x4], [.inl x12, .inl x10]) M _
    refine zG_icmp_ge hd0 hz rfl (fun hb13 => ?_) (fun hb13 => ?_)
    · exact j58 M hC hW
    · exact j48
theorem qm_50_60 {n d : Nat} {M : zM} (hd : 4 ≤ d) (hC : qCI M) (a1 : Int) (ha1 : (-2147483648) ≤ a1 ∧ a1 ≤ 2147483647) : qOkM n d 50 [.inr (.inr (some 60)), .inl a1] 2 qCI [62, 64, 65, 66] M qRn := by
  have hz := zp_50
  have hd0 : 0 < d := by omega
  have hW : qFr [62, 64, 65, 66] M M := qFr.rfl
  show zG n (0, 0) d 50 (0, [.inr (.inr (some 60)), .inl a1], []) M _
  refine zG_blk (c' := (9, [.inr (.inr (some 60)), .inl a1], [.inl 0, .inl a1, .inr (.inr (some 18))])) 5 hd0 hz (by rfl) ?_
  refine zG_call hd0 hz zp_106 rfl rfl (Nat.le_of_ble_eq_true rfl) ⟨Nat.le_refl _, Nat.le_refl _⟩ (qw_get (by first | exact zdp hd (by decide) | omega) hC (⟨by decide, rfl, rfl⟩ : qT n 18 250 11) a1 (by first | with_reducible exact ha1 | omega) 0 (by first | decide | omega)) (fun vr M1 hr => ?_)
  obtain ⟨hq, x2, rfl, hx2⟩ := hr
  replace hq := hq.symm; subst hq
  show zG n (0, 0) d 50 (12, [.inr (.inr (some 60)), .inl a1], [.inl x2]) M _
  have j156 : ∀ (M3 : zM) , qCI M3 → qFr [62, 64, 65, 66] M M3 → zG n (0, 0) d 50 (156, [.inr (.inr (some 60)), .inl a1], []) M3 (fun v M' => qWf qCI [62, 64, 65, 66] M M' ∧ qRn v) := by
    intro M3 hCM3 hWM3
    exact zG_ret hd0 hz rfl rfl ⟨⟨hCM3, hWM3⟩, rfl⟩
  have j48 : zG n (0, 0) d 50 (48, [.inr (.inr (some 60)), .inl a1], []) M (fun v M' => qWf qCI [62, 64, 65, 66] M M' ∧ qRn v) := by
    refine zG_blk (c' := (54, [.inr (.inr (some 60)), .inl a1], [.inl a1, .inr (.inr (some 60)), .inr (.inr (some 63))])) 4 hd0 hz (by rfl) ?_
    refine zG_call hd0 hz zp_52 rfl rfl (Nat.le_of_ble_eq_true rfl) ⟨Nat.le_refl _, Nat.le_refl _⟩ (qm_52_60 (by first | exact zdp hd (by decide) | omega) hC  a1 (by first | with_reducible exact ha1 | omega)) (fun vr M4 hr => ?_)
    obtain ⟨hq, x5, rfl, hx5⟩ := hr
    replace hq := hq.symm; subst hq
    show zG n (0, 0) d 50 (57, [.inr (.inr (some 60)), .inl a1], [.inl x5, .inr (.inr (some 63))]) M _
    refine zG_blk (c' := (59, [.inr (.inr (some 60)), .inl a1], [.inl 1, .inl 1, .inl x5, .inr (.inr (some 63))])) 2 hd0 hz (by rfl) ?_
    refine zG_call hd0 hz zp_108 rfl rfl (Nat.le_of_ble_eq_true rfl) ⟨Nat.le_refl _, Nat.le_refl _⟩ (qw_add (by first | exact zdp hd (by decide) | omega) hC (⟨by decide, rfl, rfl⟩ : qT n 63 280 4) x5 (by omega) 1 (by first | decide | omega) 1 (by first | decide | omega)) (fun vr M6 hr => ?_)
    obtain ⟨⟨hCM6, hFM6⟩, rfl⟩ := hr
    have hWM6 : qFr [62, 64, 65, 66] M M6 := hW.tr hFM6 (by decide)
    show zG n (0, 0) d 50 (62, [.inr (.inr (some 60)), .inl a1], []) M6 _
    refine zG_blk (c' := (64, [.inr (.inr (some 60)), .inl a1], [.inl a1, .inr (.inr (some 60))])) 2 hd0 hz (by rfl) ?_
    refine zG_call hd0 hz zp_51 rfl rfl (Nat.le_of_ble_eq_true rfl) ⟨Nat.le_refl _, Nat.le_refl _⟩ (qm_51_60 (by first | exact zdp hd (by decide) | omega) hCM6  a1 (by first | with_reducible exact ha1 | omega)) (fun vr M8 hr => ?_)
    obtain ⟨⟨hCM8, hFM8⟩, rfl⟩ := hr
    have hWM8 : qFr [62, 64, 65, 66] M M8 := hWM6.tr hFM8 (by decide)
    show zG n (0, 0) d 50 (67, [.inr (.inr (some 60)), .inl a1], []) M8 _
    refine zG_blk (c' := (156, [.inr (.inr (some 60)), .inl a1], [])) 1 hd0 hz (by rfl) ?_
    exact j156 M8 hCM8 hWM8
  have j70 : zG n (0, 0) d 50 (70, [.inr (.inr (some 60)), .inl a1], []) M (fun v M' => qWf qCI [62, 64, 65, 66] M M' ∧ qRn v) := by
    refine zG_blk (c' := (84, [.inr (.inr (some 60)), .inl a1], [.inl 6, .inl a1, .inr (.inr (some 18)), .inr (.inr (some 61))])) 7 hd0 hz (by rfl) ?_
    refine zG_call hd0 hz zp_106 rfl rfl (Nat.le_of_ble_eq_true rfl) ⟨Nat.le_refl _, Nat.le_refl _⟩ (qw_get (by first | exact zdp hd (by decide) | omega) hC (⟨by decide, rfl, rfl⟩ : qT n 18 250 11) a1 (by first | with_reducible exact ha1 | omega) 6 (by first | decide | omega)) (fun vr M10 hr => ?_)
    obtain ⟨hq, x11, rfl, hx11⟩ := hr
    replace hq := hq.symm; subst hq
    show zG n (0, 0) d 50 (87, [.inr (.inr (some 60)), .inl a1], [.inl x11, .inr (.inr (some 61))]) M _
    refine zG_blk (c' := (89, [.inr (.inr (some 60)), .inl a1], [.inl a1, .inl 2, .inl x11, .inr (.inr (some 61))])) 2 hd0 hz (by rfl) ?_
    refine zG_call hd0 hz zp_107 rfl rfl (Nat.le_of_ble_eq_true rfl) ⟨Nat.le_refl _, Nat.le_refl _⟩ (qw_set (by first | exact zdp hd (by decide) | omega) hC (⟨by decide, rfl, rfl⟩ : qT n 61 250 4) x11 (by omega) 2 (by first | decide | omega) a1 (by first | with_reducible exact ha1 | omega)) (fun vr M12 hr => ?_)
    obtain ⟨⟨hCM12, hFM12⟩, rfl⟩ := hr
    have hWM12 : qFr [62, 64, 65, 66] M M12 := hW.tr hFM12 (by decide)
    show zG n (0, 0) d 50 (92, [.inr (.inr (some 60)), .inl a1], []) M12 _
    refine zG_blk (c' := (156, [.inr (.inr (some 60)), .inl a1], [])) 1 hd0 hz (by rfl) ?_
    exact j156 M12 hCM12 hWM12
  have j95 : zG n (0, 0) d 50 (95, [.inr (.inr (some 60)), .inl a1], []) M (fun v M' => qWf qCI [62, 64, 65, 66] M M' ∧ qRn v) := by
    refine zG_blk (c' := (109, [.inr (.inr (some 60)), .inl a1], [.inl 6, .inl a1, .inr (.inr (some 18)), .inr (.inr (some 61))])) 7 hd0 hz (by rfl) ?_
    refine zG_call hd0 hz zp_106 rfl rfl (Nat.le_of_ble_eq_true rfl) ⟨Nat.le_refl _, Nat.le_refl _⟩ (qw_get (by first | exact zdp hd (by decide) | omega) hC (⟨by decide, rfl, rfl⟩ : qT n 18 250 11) a1 (by first | with_reducible exact ha1 | omega) 6 (by first | decide | omega)) (fun vr M14 hr => ?_)
    obtain ⟨hq, x15, rfl, hx15⟩ := hr
    replace hq := hq.symm; subst hq
    show zG n (0, 0) d 50 (112, [.inr (.inr (some 60)), .inl a1], [.inl x15, .inr (.inr (some 61))]) M _
    refine zG_blk (c' := (114, [.inr (.inr (some 60)), .inl a1], [.inl a1, .inl 3, .inl x15, .inr (.inr (some 61))])) 2 hd0 hz (by rfl) ?_
    refine zG_call hd0 hz zp_107 rfl rfl (Nat.le_of_ble_eq_true rfl) ⟨Nat.le_refl _, Nat.le_refl _⟩ (qw_set (by first | exact zdp hd (by decide) | omega) hC (⟨by decide, rfl, rfl⟩ : qT n 61 250 4) x15 (by omega) 3 (by first | decide | omega) a1 (by first | with_reducible exact ha1 | omega)) (fun vr M16 hr => ?_)
    obtain ⟨⟨hCM16, hFM16⟩, rfl⟩ := hr
    have hWM16 : qFr [62, 64, 65, 66] M M16 := hW.tr hFM16 (by decide)
    show zG n (0, 0) d 50 (117, [.inr (.inr (some 60)), .inl a1], []) M16 _
    refine zG_blk (c' := (156, [.inr (.inr (some 60)), .inl a1], [])) 1 hd0 hz (by rfl) ?_
    exact j156 M16 hCM16 hWM16
  have j120 : zG n (0, 0) d 50 (120, [.inr (.inr (some 60)), .inl a1], []) M (fun v M' => qWf qCI [62, 64, 65, 66] M M' ∧ qRn v) := by
    refine zG_blk (c' := (128, [.inr (.inr (some 60)), .inl a1], [.inr (.inr (some 65)), .inr (.inr (some 65))])) 4 hd0 hz (by rfl) ?_
    refine zG_call hd0 hz zp_103 rfl rfl (Nat.le_of_ble_eq_true rfl) ⟨Nat.le_refl _, Nat.le_refl _⟩ (qw_open (by first | exact zdp hd (by decide) | omega) hC (⟨by decide, rfl, rfl⟩ : qT n 65 250 1) ) (fun vr M18 hr => ?_)
    obtain ⟨⟨hCM18, hFM18⟩, x19, rfl, hx19⟩ := hr
    have hWM18 : qFr [62, 64, 65, 66] M M18 := hW.tr hFM18 (by decide)
    show zG n (0, 0) d 50 (131, [.inr (.inr (some 60)), .inl a1], [.inl x19, .inr (.inr (some 65))]) M18 _
    refine zG_blk (c' := (133, [.inr (.inr (some 60)), .inl a1], [.inl a1, .inl 0, .inl x19, .inr (.inr (some 65))])) 2 hd0 hz (by rfl) ?_
    refine zG_call hd0 hz zp_107 rfl rfl (Nat.le_of_ble_eq_true rfl) ⟨Nat.le_refl _, Nat.le_refl _⟩ (qw_set (by first | exact zdp hd (by decide) | omega) hCM18 (⟨by decide, rfl, rfl⟩ : qT n 65 250 1) x19 (by omega) 0 (by first | decide | omega) a1 (by first | with_reducible exact ha1 | omega)) (fun vr M20 hr => ?_)
    obtain ⟨⟨hCM20, hFM20⟩, rfl⟩ := hr
    have hWM20 : qFr [62, 64, 65, 66] M M20 := hWM18.tr hFM20 (by decide)
    show zG n (0, 0) d 50 (136, [.inr (.inr (some 60)), .inl a1], []) M20 _
    refine zG_blk (c' := (156, [.inr (.inr (some 60)), .inl a1], [])) 1 hd0 hz (by rfl) ?_
    exact j156 M20 hCM20 hWM20
  have j139 : zG n (0, 0) d 50 (139, [.inr (.inr (some 60)), .inl a1], []) M (fun v M' => qWf qCI [62, 64, 65, 66] M M' ∧ qRn v) := by
    refine zG_blk (c' := (145, [.inr (.inr (some 60)), .inl a1], [.inl a1, .inr (.inr (some 60)), .inr (.inr (some 63))])) 4 hd0 hz (by rfl) ?_
    refine zG_call hd0 hz zp_52 rfl rfl (Nat.le_of_ble_eq_true rfl) ⟨Nat.le_refl _, Nat.le_refl _⟩ (qm_52_60 (by first | exact zdp hd (by decide) | omega) hC  a1 (by first | with_reducible exact ha1 | omega)) (fun vr M22 hr => ?_)
    obtain ⟨hq, x23, rfl, hx23⟩ := hr
    replace hq := hq.symm; subst hq
    show zG n (0, 0) d 50 (148, [.inr (.inr (some 60)), .inl a1], [.inl x23, .inr (.inr (some 63))]) M _
    refine zG_blk (c' := (150, [.inr (.inr (some 60)), .inl a1], [.inl 1, .inl 2, .inl x23, .inr (.inr (some 63))])) 2 hd0 hz (by rfl) ?_
    refine zG_call hd0 hz zp_107 rfl rfl (Nat.le_of_ble_eq_true rfl) ⟨Nat.le_refl _, Nat.le_refl _⟩ (qw_set (by first | exact zdp hd (by decide) | omega) hC (⟨by decide, rfl, rfl⟩ : qT n 63 280 4) x23 (by omega) 2 (by first | decide | omega) 1 (by first | decide | omega)) (fun vr M24 hr => ?_)
    obtain ⟨⟨hCM24, hFM24⟩, rfl⟩ := hr
    have hWM24 : qFr [62, 64, 65, 66] M M24 := hW.tr hFM24 (by decide)
    show zG n (0, 0) d 50 (153, [.inr (.inr (some 60)), .inl a1], []) M24 _
    refine zG_blk (c' := (156, [.inr (.inr (some 60)), .inl a1], [])) 1 hd0 hz (by rfl) ?_
    exact j156 M24 hCM24 hWM24
  refine zG_sw hd0 hz rfl ?_
  refine zts_all (P := fun t => zG n (0, 0) d 50 (t, [.inr (.inr (some 60)), .inl a1], []) M _) ?_ ?_
  · exact j156 M hC hW
  · intro t ht
    simp only [List.mem_cons, List.not_mem_nil, or_false] at ht
    rcases ht with rfl | rfl | rfl | rfl | rfl
    · exact j48
    · exact j70
    · exact j95
    · exact j120
    · exact j139
theorem qm_49_60 {n d : Nat} {M : zM} (hd : 5 ≤ d) (hC : qCI M)  : qOkM n d 49 [.inr (.inr (some 60))] 3 qCI [62, 64, 65, 66] M qRn := by
  have hz := zp_49
  have hd0 : 0 < d := by omega
  have hW : qFr [62, 64, 65, 66] M M := qFr.rfl
  show zG n (0, 0) d 49 (0, [.inr (.inr (some 60)), zN, zN], []) M _
  refine zG_blk (c' := (7, [.inr (.inr (some 60)), zN, zN], [.inr (.inr (some 12))])) 3 hd0 hz (by rfl) ?_
  refine zG_call hd0 hz zp_101 rfl rfl (Nat.le_of_ble_eq_true rfl) ⟨Nat.le_refl _, Nat.le_refl _⟩ (qw_size (by first | exact zdp hd (by decide) | omega) hC (⟨by decide, rfl, rfl⟩ : qT n 12 20 3) ) (fun vr M1 hr => ?_)
  obtain ⟨hq, x2, rfl, hx2⟩ := hr
  replace hq := hq.symm; subst hq
  show zG n (0, 0) d 49 (10, [.inr (.inr (some 60)), zN, zN], [.inl x2]) M _
  obtain ⟨x3, hx3⟩ : ∃ x : Int, x = w32 (x2 * 14) := ⟨_, rfl⟩
  have hx3e : x3 = x2 * 14 := by rw [hx3]; exact w32_id (by omega)
  refine zG_blk (c' := (27, [.inr (.inr (some 60)), .inl x3, zN], [.inr (.inr (some 18)), .inl (-1), .inl 2, .inr (.inr (some 61))])) 10 hd0 hz (by subst hx3; rfl) ?_
  refine zG_call hd0 hz zp_101 rfl rfl (Nat.le_of_ble_eq_true rfl) ⟨Nat.le_refl _, Nat.le_refl _⟩ (qw_size (by first | exact zdp hd (by decide) | omega) hC (⟨by decide, rfl, rfl⟩ : qT n 18 250 11) ) (fun vr M4 hr => ?_)
  obtain ⟨hq, x5, rfl, hx5⟩ := hr
  replace hq := hq.symm; subst hq
  show zG n (0, 0) d 49 (30, [.inr (.inr (some 60)), .inl x3, zN], [.inl x5, .inl (-1), .inl 2, .inr (.inr (some 61))]) M _
  refine zG_call hd0 hz zp_109 rfl rfl (Nat.le_of_ble_eq_true rfl) ⟨Nat.le_refl _, Nat.le_refl _⟩ (qw_fillColumn (by first | exact zdp hd (by decide) | omega) hC (⟨by decide, rfl, rfl⟩ : qT n 61 250 4) 2 (by first | decide | omega) (-1) (by first | decide | omega) x5 (by omega)) (fun vr M6 hr => ?_)
  obtain ⟨⟨hCM6, hFM6⟩, rfl⟩ := hr
  have hWM6 : qFr [62, 64, 65, 66] M M6 := hW.tr hFM6 (by decide)
  show zG n (0, 0) d 49 (33, [.inr (.inr (some 60)), .inl x3, zN], []) M6 _
  refine zG_blk (c' := (46, [.inr (.inr (some 60)), .inl x3, zN], [.inr (.inr (some 18)), .inl (-1), .inl 3, .inr (.inr (some 61))])) 7 hd0 hz (by rfl) ?_
  refine zG_call hd0 hz zp_101 rfl rfl (Nat.le_of_ble_eq_true rfl) ⟨Nat.le_refl _, Nat.le_refl _⟩ (qw_size (by first | exact zdp hd (by decide) | omega) hCM6 (⟨by decide, rfl, rfl⟩ : qT n 18 250 11) ) (fun vr M8 hr => ?_)
  obtain ⟨hq, x9, rfl, hx9⟩ := hr
  replace hq := hq.symm; subst hq
  show zG n (0, 0) d 49 (49, [.inr (.inr (some 60)), .inl x3, zN], [.inl x9, .inl (-1), .inl 3, .inr (.inr (some 61))]) M6 _
  refine zG_call hd0 hz zp_109 rfl rfl (Nat.le_of_ble_eq_true rfl) ⟨Nat.le_refl _, Nat.le_refl _⟩ (qw_fillColumn (by first | exact zdp hd (by decide) | omega) hCM6 (⟨by decide, rfl, rfl⟩ : qT n 61 250 4) 3 (by first | decide | omega) (-1) (by first | decide | omega) x9 (by omega)) (fun vr M10 hr => ?_)
  obtain ⟨⟨hCM10, hFM10⟩, rfl⟩ := hr
  have hWM10 : qFr [62, 64, 65, 66] M M10 := hWM6.tr hFM10 (by decide)
  show zG n (0, 0) d 49 (52, [.inr (.inr (some 60)), .inl x3, zN], []) M10 _
  refine zG_blk (c' := (59, [.inr (.inr (some 60)), .inl x3, zN], [.inl x3, .inl (-1), .inl 0, .inr (.inr (some 63))])) 5 hd0 hz (by rfl) ?_
  refine zG_call hd0 hz zp_109 rfl rfl (Nat.le_of_ble_eq_true rfl) ⟨Nat.le_refl _, Nat.le_refl _⟩ (qw_fillColumn (by first | exact zdp hd (by decide) | omega) hCM10 (⟨by decide, rfl, rfl⟩ : qT n 63 280 4) 0 (by first | decide | omega) (-1) (by first | decide | omega) x3 (by omega)) (fun vr M12 hr => ?_)
  obtain ⟨⟨hCM12, hFM12⟩, rfl⟩ := hr
  have hWM12 : qFr [62, 64, 65, 66] M M12 := hWM10.tr hFM12 (by decide)
  show zG n (0, 0) d 49 (62, [.inr (.inr (some 60)), .inl x3, zN], []) M12 _
  refine zG_blk (c' := (69, [.inr (.inr (some 60)), .inl x3, zN], [.inl x3, .inl 0, .inl 1, .inr (.inr (some 63))])) 5 hd0 hz (by rfl) ?_
  refine zG_call hd0 hz zp_109 rfl rfl (Nat.le_of_ble_eq_true rfl) ⟨Nat.le_refl _, Nat.le_refl _⟩ (qw_fillColumn (by first | exact zdp hd (by decide) | omega) hCM12 (⟨by decide, rfl, rfl⟩ : qT n 63 280 4) 1 (by first | decide | omega) 0 (by first | decide | omega) x3 (by omega)) (fun vr M14 hr => ?_)
  obtain ⟨⟨hCM14, hFM14⟩, rfl⟩ := hr
  have hWM14 : qFr [62, 64, 65, 66] M M14 := hWM12.tr hFM14 (by decide)
  show zG n (0, 0) d 49 (72, [.inr (.inr (some 60)), .inl x3, zN], []) M14 _
  refine zG_blk (c' := (79, [.inr (.inr (some 60)), .inl x3, zN], [.inl x3, .inl 0, .inl 2, .inr (.inr (some 63))])) 5 hd0 hz (by rfl) ?_
  refine zG_call hd0 hz zp_109 rfl rfl (Nat.le_of_ble_eq_true rfl) ⟨Nat.le_refl _, Nat.le_refl _⟩ (qw_fillColumn (by first | exact zdp hd (by decide) | omega) hCM14 (⟨by decide, rfl, rfl⟩ : qT n 63 280 4) 2 (by first | decide | omega) 0 (by first | decide | omega) x3 (by omega)) (fun vr M16 hr => ?_)
  obtain ⟨⟨hCM16, hFM16⟩, rfl⟩ := hr
  have hWM16 : qFr [62, 64, 65, 66] M M16 := hWM14.tr hFM16 (by decide)
  show zG n (0, 0) d 49 (82, [.inr (.inr (some 60)), .inl x3, zN], []) M16 _
  refine zG_blk (c' := (89, [.inr (.inr (some 60)), .inl x3, zN], [.inl x3, .inl (-1), .inl 3, .inr (.inr (some 63))])) 5 hd0 hz (by rfl) ?_
  refine zG_call hd0 hz zp_109 rfl rfl (Nat.le_of_ble_eq_true rfl) ⟨Nat.le_refl _, Nat.le_refl _⟩ (qw_fillColumn (by first | exact zdp hd (by decide) | omega) hCM16 (⟨by decide, rfl, rfl⟩ : qT n 63 280 4) 3 (by first | decide | omega) (-1) (by first | decide | omega) x3 (by omega)) (fun vr M18 hr => ?_)
  obtain ⟨⟨hCM18, hFM18⟩, rfl⟩ := hr
  have hWM18 : qFr [62, 64, 65, 66] M M18 := hWM16.tr hFM18 (by decide)
  show zG n (0, 0) d 49 (92, [.inr (.inr (some 60)), .inl x3, zN], []) M18 _
  refine zG_blk (c' := (96, [.inr (.inr (some 60)), .inl x3, zN], [.inr (.inr (some 65))])) 2 hd0 hz (by rfl) ?_
  refine zG_call hd0 hz zp_104 rfl rfl (Nat.le_of_ble_eq_true rfl) ⟨Nat.le_refl _, Nat.le_refl _⟩ (qw_drop (by first | exact zdp hd (by decide) | omega) hCM18 (⟨by decide, rfl, rfl⟩ : qT n 65 250 1) ) (fun vr M20 hr => ?_)
  obtain ⟨⟨hCM20, hFM20⟩, rfl⟩ := hr
  have hWM20 : qFr [62, 64, 65, 66] M M20 := hWM18.tr hFM20 (by decide)
  show zG n (0, 0) d 49 (99, [.inr (.inr (some 60)), .inl x3, zN], []) M20 _
  refine zG_blk (c' := (101, [.inr (.inr (some 60)), .inl x3, .inl 0], [])) 2 hd0 hz (by rfl) ?_
  have j101 : ∀ (N : Nat) (v22 : Int) (M23 : zM) , (250 - v22 : Int).toNat < N → 0 ≤ v22 ∧ v22 ≤ 250 → qCI M23 → qFr [62, 64, 65, 66] M M23 → zG n (0, 0) d 49 (101, [.inr (.inr (some 60)), .inl x3, .inl v22], []) M23 (fun v M' => qWf qCI [62, 64, 65, 66] M M' ∧ qRn v) := by
    intro N
    induction N with
    | zero => intro v22 M23 hN hv22 hCM23 hWM23; exact absurd hN (Nat.not_lt_zero _)
    | succ N ih101 =>
      intro v22 M23 hN hv22 hCM23 hWM23
      refine zG_blk (c' := (109, [.inr (.inr (some 60)), .inl x3, .inl v22], [.inr (.inr (some 18)), .inl v22])) 4 hd0 hz (by rfl) ?_
      refine zG_call hd0 hz zp_101 rfl rfl (Nat.le_of_ble_eq_true rfl) ⟨Nat.le_refl _, Nat.le_refl _⟩ (qw_size (by first | exact zdp hd (by decide) | omega) hCM23 (⟨by decide, rfl, rfl⟩ : qT n 18 250 11) ) (fun vr M24 hr => ?_)
      obtain ⟨hq, x25, rfl, hx25⟩ := hr
      replace hq := hq.symm; subst hq
      show zG n (0, 0) d 49 (112, [.inr (.inr (some 60)), .inl x3, .inl v22], [.inl x25, .inl v22]) M23 _
      refine zG_icmp_ge hd0 hz rfl (fun hb26 => ?_) (fun hb26 => ?_)
      · exact zG_ret hd0 hz rfl rfl ⟨⟨hCM23, hWM23⟩, rfl⟩
      · refine zG_blk (c' := (117, [.inr (.inr (some 60)), .inl x3, .inl v22], [.inl v22, .inr (.inr (some 60))])) 2 hd0 hz (by rfl) ?_
        refine zG_call hd0 hz zp_42 rfl rfl (Nat.le_of_ble_eq_true rfl) ⟨Nat.le_refl _, Nat.le_refl _⟩ (qm_42_60 (by first | exact zdp hd (by decide) | omega) hCM23  v22 (by first | with_reducible exact hv22 | omega)) (fun vr M27 hr => ?_)
        obtain ⟨hq, x28, rfl, hx28⟩ := hr
        replace hq := hq.symm; subst hq
        show zG n (0, 0) d 49 (120, [.inr (.inr (some 60)), .inl x3, .inl v22], [.inl x28]) M23 _
        have j128 : ∀ (M29 : zM) , qCI M29 → qFr [62, 64, 65, 66] M M29 → zG n (0, 0) d 49 (128, [.inr (.inr (some 60)), .inl x3, .inl v22], []) M29 (fun v M' => qWf qCI [62, 64, 65, 66] M M' ∧ qRn v) := by
          intro M29 hCM29 hWM29
          obtain ⟨x30, hx30⟩ : ∃ x : Int, x = w32 (v22 + 1) := ⟨_, rfl⟩
          have hx30e : x30 = v22 + 1 := by rw [hx30]; exact w32_id (by omega)
          refine zG_blk (c' := (101, [.inr (.inr (some 60)), .inl x3, .inl x30], [])) 2 hd0 hz (by subst hx30; rfl) ?_
          exact ih101 x30 M29 (by omega) (by omega) hCM29 hWM29
        refine zG_if_eq hd0 hz rfl (fun hb31 => ?_) (fun hb31 => ?_)
        · exact j128 M23 hCM23 hWM23
        · refine zG_blk (c' := (125, [.inr (.inr (some 60)), .inl x3, .inl v22], [.inl v22, .inr (.inr (some 60))])) 2 hd0 hz (by rfl) ?_
          refine zG_call hd0 hz zp_50 rfl rfl (Nat.le_of_ble_eq_true rfl) ⟨Nat.le_refl _, Nat.le_refl _⟩ (qm_50_60 (by first | exact zdp hd (by decide) | omega) hCM23  v22 (by first | with_reducible exact hv22 | omega)) (fun vr M32 hr => ?_)
          obtain ⟨⟨hCM32, hFM32⟩, rfl⟩ := hr
          have hWM32 : qFr [62, 64, 65, 66] M M32 := hWM23.tr hFM32 (by decide)
          show zG n (0, 0) d 49 (128, [.inr (.inr (some 60)), .inl x3, .inl v22], []) M32 _
          exact j128 M32 hCM32 hWM32
  exact j101 ((250 - 0 : Int).toNat + 1) 0 M20 (by omega) (by omega) hCM20 hWM20
