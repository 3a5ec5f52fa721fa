theorem qm_83_67 {n d : Nat} {M : zM} (hd : 4 ≤ d) (hC : qCI M)  : qOkM n d 83 [.inr (.inr (some 67))] 1 qCI [67, 69, 70] M qRn := by
  have hz := zp_83
  have hd0 : 0 < d := by omega
  have hW : qFr [67, 69, 70] M M := qFr.rfl
  show zG n (0, 0) d 83 (0, [.inr (.inr (some 67))], []) M _
  refine zG_blk (c' := (2, [.inr (.inr (some 67))], [.inl 3, .inr (.inr (some 67))])) 2 hd0 hz (by rfl) ?_
  refine zG_call hd0 hz zp_84 rfl rfl (Nat.le_of_ble_eq_true rfl) ⟨Nat.le_refl _, Nat.le_refl _⟩ (qm_84_67 (by first | exact zdp hd (by decide) | omega) hC  3 (by first | decide | omega)) (fun vr M1 hr => ?_)
  obtain ⟨⟨hCM1, hFM1⟩, rfl⟩ := hr
  have hWM1 : qFr [67, 69, 70] M M1 := hW.tr hFM1 (by decide)
  show zG n (0, 0) d 83 (5, [.inr (.inr (some 67))], []) M1 _
  refine zG_blk (c' := (7, [.inr (.inr (some 67))], [.inr (.inr (some 67)), .inr (.inr (some 67))])) 2 hd0 hz (by rfl) ?_
  refine zG_call hd0 hz zp_88 rfl rfl (Nat.le_of_ble_eq_true rfl) ⟨Nat.le_refl _, Nat.le_refl _⟩ (qm_88_67 (by first | exact zdp hd (by decide) | omega) hCM1  ) (fun vr M3 hr => ?_)
  obtain ⟨hq, x4, rfl, hx4⟩ := hr
  replace hq := hq.symm; subst hq
  show zG n (0, 0) d 83 (10, [.inr (.inr (some 67))], [.inl x4, .inr (.inr (some 67))]) M1 _
  refine zG_blk (c' := (11, [.inr (.inr (some 67))], [.inl 1, .inl x4, .inr (.inr (some 67))])) 1 hd0 hz (by rfl) ?_
  have j19 : ∀ (v5 : Int) , 0 ≤ v5 ∧ v5 ≤ 1 → zG n (0, 0) d 83 (19, [.inr (.inr (some 67))], [.inl v5, .inr (.inr (some 67))]) M1 (fun v M' => qWf qCI [67, 69, 70] M M' ∧ qRn v) := by
    intro v5 hv5
    refine zG_call hd0 hz zp_91 rfl rfl (Nat.le_of_ble_eq_true rfl) ⟨Nat.le_refl _, Nat.le_refl _⟩ (qm_91_67 (by first | exact zdp hd (by decide) | omega) hCM1  v5 (by first | with_reducible exact hv5 | omega)) (fun vr M6 hr => ?_)
    obtain ⟨⟨hCM6, hFM6⟩, rfl⟩ := hr
    have hWM6 : qFr [67, 69, 70] M M6 := hWM1.tr hFM6 (by decide)
    show zG n (0, 0) d 83 (22, [.inr (.inr (some 67))], []) M6 _
    refine zG_blk (c' := (24, [.inr (.inr (some 67))], [.inl 1, .inr (.inr (some 67))])) 2 hd0 hz (by rfl) ?_
    refine zG_call hd0 hz zp_84 rfl rfl (Nat.le_of_ble_eq_true rfl) ⟨Nat.le_refl _, Nat.le_refl _⟩ (qm_84_67 (by first | exact zdp hd (by decide) | omega) hCM6  1 (by first | decide | omega)) (fun vr M8 hr => ?_)
    obtain ⟨⟨hCM8, hFM8⟩, rfl⟩ := hr
    have hWM8 : qFr [67, 69, 70] M M8 := hWM6.tr hFM8 (by decide)
    show zG n (0, 0) d 83 (27, [.inr (.inr (some 67))], []) M8 _
    exact zG_ret hd0 hz rfl rfl ⟨⟨hCM8, hWM8⟩, rfl⟩
  refine zG_icmp_eq hd0 hz rfl (fun hb10 => ?_) (fun hb10 => ?_)
  · refine zG_blk (c' := (19, [.inr (.inr (some 67))], [.inl 0, .inr (.inr (some 67))])) 1 hd0 hz (by rfl) ?_
    exact j19 0 (by first | decide | omega)
  · refine zG_blk (c' := (19, [.inr (.inr (some 67))], [.inl 1, .inr (.inr (some 67))])) 2 hd0 hz (by rfl) ?_
    exact j19 1 (by first | decide | omega)
theorem qm_81_67 {n d : Nat} {M : zM} (hd : 3 ≤ d) (hC : qCI M)  : qOkM n d 81 [.inr (.inr (some 67))] 1 qCI [67, 70] M qRn := by
  have hz := zp_81
  have hd0 : 0 < d := by omega
  have hW : qFr [67, 70] M M := qFr.rfl
  show zG n (0, 0) d 81 (0, [.inr (.inr (some 67))], []) M _
  refine zG_blk (c' := (2, [.inr (.inr (some 67))], [.inr (.inr (some 67)), .inr (.inr (some 67))])) 2 hd0 hz (by rfl) ?_
  refine zG_call hd0 hz zp_88 rfl rfl (Nat.le_of_ble_eq_true rfl) ⟨Nat.le_refl _, Nat.le_refl _⟩ (qm_88_67 (by first | exact zdp hd (by decide) | omega) hC  ) (fun vr M1 hr => ?_)
  obtain ⟨hq, x2, rfl, hx2⟩ := hr
  replace hq := hq.symm; subst hq
  show zG n (0, 0) d 81 (5, [.inr (.inr (some 67))], [.inl x2, .inr (.inr (some 67))]) M _
  refine zG_blk (c' := (7, [.inr (.inr (some 67))], [.inl 22, .inl x2, .inr (.inr (some 67))])) 1 hd0 hz (by rfl) ?_
  have j15 : ∀ (v3 : Int) , 0 ≤ v3 ∧ v3 ≤ 1 → zG n (0, 0) d 81 (15, [.inr (.inr (some 67))], [.inl v3, .inr (.inr (some 67))]) M (fun v M' => qWf qCI [67, 70] M M' ∧ qRn v) := by
    intro v3 hv3
    refine zG_call hd0 hz zp_91 rfl rfl (Nat.le_of_ble_eq_true rfl) ⟨Nat.le_refl _, Nat.le_refl _⟩ (qm_91_67 (by first | exact zdp hd (by decide) | omega) hC  v3 (by first | with_reducible exact hv3 | omega)) (fun vr M4 hr => ?_)
    obtain ⟨⟨hCM4, hFM4⟩, rfl⟩ := hr
    have hWM4 : qFr [67, 70] M M4 := hW.tr hFM4 (by decide)
    show zG n (0, 0) d 81 (18, [.inr (.inr (some 67))], []) M4 _
    have r6 := hCM4.rng 67 10 (by decide) (by decide)
    refine zG_blk (c' := (23, [.inr (.inr (some 67))], [.inl (-1), .inl (M4 67 10)])) 3 hd0 hz (by rfl) ?_
    have j43 : ∀ (M7 : zM) , qCI M7 → qFr [67, 70] M M7 → zG n (0, 0) d 81 (43, [.inr (.inr (some 67))], []) M7 (fun v M' => qWf qCI [67, 70] M M' ∧ qRn v) := by
      intro M7 hCM7 hWM7
      exact zG_ret hd0 hz rfl rfl ⟨⟨hCM7, hWM7⟩, rfl⟩
    refine zG_icmp_ne hd0 hz rfl (fun hb8 => ?_) (fun hb8 => ?_)
    · exact j43 M4 hCM4 hWM4
    · have r9 := hCM4.rng 67 9 (by decide) (by decide)
      obtain ⟨x10, hx10⟩ : ∃ x : Int, x = w32 ((M4 67 9) - 1) := ⟨_, rfl⟩
      have hx10r : x10 = ((M4 67 9) - 1 + 2147483648) % 4294967296 - 2147483648 := hx10
      refine zG_blk (c' := (33, [.inr (.inr (some 67))], [.inl x10, .inr (.inr (some 67))])) 5 hd0 hz (by subst hx10; rfl) ?_
      refine zG_putf (.inl rfl) hd0 hz rfl (by decide) rfl rfl ?_
      obtain ⟨M11, hM11⟩ : ∃ X : zM, X = zput M4 67 9 x10 := ⟨_, rfl⟩
      rw [← hM11]
      have hCM11 : qCI M11 := by rw [hM11]; exact hCM4.put (r := 67) (k := 9) rfl (.inl (by omega))
      have hWM11 : qFr [67, 70] M M11 := by rw [hM11]; exact hWM4.put (by decide)
      have e12 : M11 67 10 = M4 67 10 := by rw [hM11]; exact qput_nk (by decide)
      have e13 : M11 67 9 = x10 := by rw [hM11]; exact qput_eq
      show zG n (0, 0) d 81 (36, [.inr (.inr (some 67))], []) M11 _
      refine zG_blk (c' := (40, [.inr (.inr (some 67))], [.inr (.inr (some 70))])) 2 hd0 hz (by rfl) ?_
      refine zG_call hd0 hz zp_105 rfl rfl (Nat.le_of_ble_eq_true rfl) ⟨Nat.le_refl _, Nat.le_refl _⟩ (qw_dropLast (by first | exact zdp hd (by decide) | omega) hCM11 (⟨by decide, rfl, rfl⟩ : qT n 70 80 1) ) (fun vr M14 hr => ?_)
      obtain ⟨⟨hCM14, hFM14⟩, rfl⟩ := hr
      have hWM14 : qFr [67, 70] M M14 := hWM11.tr hFM14 (by decide)
      have e16 : M14 67 10 = M11 67 10 := hFM14 67 10 (by decide)
      have e17 : M14 67 9 = M11 67 9 := hFM14 67 9 (by decide)
      show zG n (0, 0) d 81 (43, [.inr (.inr (some 67))], []) M14 _
      exact j43 M14 hCM14 hWM14
  refine zG_icmp_ne hd0 hz rfl (fun hb18 => ?_) (fun hb18 => ?_)
  · refine zG_blk (c' := (15, [.inr (.inr (some 67))], [.inl 0, .inr (.inr (some 67))])) 1 hd0 hz (by rfl) ?_
    exact j15 0 (by first | decide | omega)
  · refine zG_blk (c' := (15, [.inr (.inr (some 67))], [.inl 1, .inr (.inr (some 67))])) 2 hd0 hz (by rfl) ?_
    exact j15 1 (by first | decide | omega)
theorem qm_86_67 {n d : Nat} {M : zM} (hd : 3 ≤ d) (hC : qCI M)  : qOkM n d 86 [.inr (.inr (some 67))] 1 qCI [67, 70, 71] M qRn := by
  have hz := zp_86
  have hd0 : 0 < d := by omega
  have hW : qFr [67, 70, 71] M M := qFr.rfl
  show zG n (0, 0) d 86 (0, [.inr (.inr (some 67))], []) M _
  have r1 := hC.rng 67 7 (by decide) (by decide)
  refine zG_blk (c' := (5, [.inr (.inr (some 67))], [.inl (M 67 7), .inr (.inr (some 67))])) 3 hd0 hz (by rfl) ?_
  refine zG_call hd0 hz zp_87 rfl rfl (Nat.le_of_ble_eq_true rfl) ⟨Nat.le_refl _, Nat.le_refl _⟩ (qm_87_67 (by first | exact zdp hd (by decide) | omega) hC  (M 67 7) (by omega)) (fun vr M2 hr => ?_)
  obtain ⟨⟨hCM2, hFM2⟩, rfl⟩ := hr
  have hWM2 : qFr [67, 70, 71] M M2 := hW.tr hFM2 (by decide)
  have e4 : M2 67 7 = M 67 7 := hFM2 67 7 (by decide)
  show zG n (0, 0) d 86 (8, [.inr (.inr (some 67))], []) M2 _
  refine zG_blk (c' := (10, [.inr (.inr (some 67))], [.inl 1, .inr (.inr (some 67))])) 2 hd0 hz (by rfl) ?_
  refine zG_putf (.inr ⟨rfl, by omega⟩) hd0 hz rfl (by decide) rfl rfl ?_
  obtain ⟨M5, hM5⟩ : ∃ X : zM, X = zput M2 67 11 1 := ⟨_, rfl⟩
  rw [← hM5]
  have hCM5 : qCI M5 := by rw [hM5]; exact hCM2.put (r := 67) (k := 11) rfl (.inl (by omega))
  have hWM5 : qFr [67, 70, 71] M M5 := by rw [hM5]; exact hWM2.put (by decide)
  have e6 : M5 67 7 = M2 67 7 := by rw [hM5]; exact qput_nk (by decide)
  have e7 : M5 67 11 = 1 := by rw [hM5]; exact qput_eq
  show zG n (0, 0) d 86 (13, [.inr (.inr (some 67))], []) M5 _
  exact zG_ret hd0 hz rfl rfl ⟨⟨hCM5, hWM5⟩, rfl⟩
theorem qm_85_67 {n d : Nat} {M : zM} (hd : 4 ≤ d) (hC : qCI M) (a1 : Int) (ha1 : 0 ≤ a1 ∧ a1 ≤ 1) : qOkM n d 85 [.inr (.inr (some 67)), .inl a1] 2 qCI [67, 70, 71] M qRn := by
  have hz := zp_85
  have hd0 : 0 < d := by omega
  have hW : qFr [67, 70, 71] M M := qFr.rfl
  show zG n (0, 0) d 85 (0, [.inr (.inr (some 67)), .inl a1], []) M _
  refine zG_blk (c' := (2, [.inr (.inr (some 67)), .inl a1], [.inl a1, .inr (.inr (some 67))])) 2 hd0 hz (by rfl) ?_
  have j10 : ∀ (v1 : Int) , 0 ≤ v1 ∧ v1 ≤ 1 → zG n (0, 0) d 85 (10, [.inr (.inr (some 67)), .inl a1], [.inl v1, .inr (.inr (some 67))]) M (fun v M' => qWf qCI [67, 70, 71] M M' ∧ qRn v) := by
    intro v1 hv1
    refine zG_call hd0 hz zp_91 rfl rfl (Nat.le_of_ble_eq_true rfl) ⟨Nat.le_refl _, Nat.le_refl _⟩ (qm_91_67 (by first | exact zdp hd (by decide) | omega) hC  v1 (by first | with_reducible exact hv1 | omega)) (fun vr M2 hr => ?_)
    obtain ⟨⟨hCM2, hFM2⟩, rfl⟩ := hr
    have hWM2 : qFr [67, 70, 71] M M2 := hW.tr hFM2 (by decide)
    show zG n (0, 0) d 85 (13, [.inr (.inr (some 67)), .inl a1], []) M2 _
    refine zG_blk (c' := (14, [.inr (.inr (some 67)), .inl a1], [.inr (.inr (some 67))])) 1 hd0 hz (by rfl) ?_
    refine zG_call hd0 hz zp_86 rfl rfl (Nat.le_of_ble_eq_true rfl) ⟨Nat.le_refl _, Nat.le_refl _⟩ (qm_86_67 (by first | exact zdp hd (by decide) | omega) hCM2  ) (fun vr M4 hr => ?_)
    obtain ⟨⟨hCM4, hFM4⟩, rfl⟩ := hr
    have hWM4 : qFr [67, 70, 71] M M4 := hWM2.tr hFM4 (by decide)
    show zG n (0, 0) d 85 (17, [.inr (.inr (some 67)), .inl a1], []) M4 _
    exact zG_ret hd0 hz rfl rfl ⟨⟨hCM4, hWM4⟩, rfl⟩
  refine zG_if_ne hd0 hz rfl (fun hb6 => ?_) (fun hb6 => ?_)
  · refine zG_blk (c' := (10, [.inr (.inr (some 67)), .inl a1], [.inl 0, .inr (.inr (some 67))])) 1 hd0 hz (by rfl) ?_
    exact j10 0 (by first | decide | omega)
  · refine zG_blk (c' := (10, [.inr (.inr (some 67)), .inl a1], [.inl 1, .inr (.inr (some 67))])) 2 hd0 hz (by rfl) ?_
    exact j10 1 (by first | decide | omega)
theorem qm_82_67 {n d : Nat} {M : zM} (hd : 3 ≤ d) (hC : qCI M)  : qOkM n d 82 [.inr (.inr (some 67))] 1 qCI [67, 71] M qRn := by
  have hz := zp_82
  have hd0 : 0 < d := by omega
  have hW : qFr [67, 71] M M := qFr.rfl
  show zG n (0, 0) d 82 (0, [.inr (.inr (some 67))], []) M _
  refine zG_blk (c' := (2, [.inr (.inr (some 67))], [.inr (.inr (some 67)), .inr (.inr (some 67))])) 2 hd0 hz (by rfl) ?_
  refine zG_call hd0 hz zp_88 rfl rfl (Nat.le_of_ble_eq_true rfl) ⟨Nat.le_refl _, Nat.le_refl _⟩ (qm_88_67 (by first | exact zdp hd (by decide) | omega) hC  ) (fun vr M1 hr => ?_)
  obtain ⟨hq, x2, rfl, hx2⟩ := hr
  replace hq := hq.symm; subst hq
  show zG n (0, 0) d 82 (5, [.inr (.inr (some 67))], [.inl x2, .inr (.inr (some 67))]) M _
  refine zG_blk (c' := (6, [.inr (.inr (some 67))], [.inl 1, .inl x2, .inr (.inr (some 67))])) 1 hd0 hz (by rfl) ?_
  have j14 : ∀ (v3 : Int) , 0 ≤ v3 ∧ v3 ≤ 1 → zG n (0, 0) d 82 (14, [.inr (.inr (some 67))], [.inl v3, .inr (.inr (some 67))]) M (fun v M' => qWf qCI [67, 71] M M' ∧ qRn v) := by
    intro v3 hv3
    refine zG_call hd0 hz zp_91 rfl rfl (Nat.le_of_ble_eq_true rfl) ⟨Nat.le_refl _, Nat.le_refl _⟩ (qm_91_67 (by first | exact zdp hd (by decide) | omega) hC  v3 (by first | with_reducible exact hv3 | omega)) (fun vr M4 hr => ?_)
    obtain ⟨⟨hCM4, hFM4⟩, rfl⟩ := hr
    have hWM4 : qFr [67, 71] M M4 := hW.tr hFM4 (by decide)
    show zG n (0, 0) d 82 (17, [.inr (.inr (some 67))], []) M4 _
    refine zG_blk (c' := (25, [.inr (.inr (some 67))], [.inr (.inr (some 70)), .inr (.inr (some 70))])) 4 hd0 hz (by rfl) ?_
    refine zG_call hd0 hz zp_101 rfl rfl (Nat.le_of_ble_eq_true rfl) ⟨Nat.le_refl _, Nat.le_refl _⟩ (qw_size (by first | exact zdp hd (by decide) | omega) hCM4 (⟨by decide, rfl, rfl⟩ : qT n 70 80 1) ) (fun vr M6 hr => ?_)
    obtain ⟨hq, x7, rfl, hx7⟩ := hr
    replace hq := hq.symm; subst hq
    show zG n (0, 0) d 82 (28, [.inr (.inr (some 67))], [.inl x7, .inr (.inr (some 70))]) M4 _
    obtain ⟨x8, hx8⟩ : ∃ x : Int, x = w32 (x7 - 1) := ⟨_, rfl⟩
    have hx8e : x8 = x7 - 1 := by rw [hx8]; exact w32_id (by omega)
    refine zG_blk (c' := (32, [.inr (.inr (some 67))], [.inl 2, .inl 0, .inl x8, .inr (.inr (some 70))])) 4 hd0 hz (by subst hx8; rfl) ?_
    refine zG_call hd0 hz zp_107 rfl rfl (Nat.le_of_ble_eq_true rfl) ⟨Nat.le_refl _, Nat.le_refl _⟩ (qw_set (by first | exact zdp hd (by decide) | omega) hCM4 (⟨by decide, rfl, rfl⟩ : qT n 70 80 1) x8 (by omega) 0 (by first | decide | omega) 2 (by first | decide | omega)) (fun vr M9 hr => ?_)
    obtain ⟨⟨hCM9, hFM9⟩, rfl⟩ := hr
    have hWM9 : qFr [67, 71] M M9 := hWM4.tr hFM9 (by decide)
    show zG n (0, 0) d 82 (35, [.inr (.inr (some 67))], []) M9 _
    refine zG_blk (c' := (37, [.inr (.inr (some 67))], [.inl 1, .inr (.inr (some 67))])) 2 hd0 hz (by rfl) ?_
    refine zG_putf (.inr ⟨rfl, by omega⟩) hd0 hz rfl (by decide) rfl rfl ?_
    obtain ⟨M11, hM11⟩ : ∃ X : zM, X = zput M9 67 11 1 := ⟨_, rfl⟩
    rw [← hM11]
    have hCM11 : qCI M11 := by rw [hM11]; exact hCM9.put (r := 67) (k := 11) rfl (.inl (by omega))
    have hWM11 : qFr [67, 71] M M11 := by rw [hM11]; exact hWM9.put (by decide)
    have e12 : M11 67 11 = 1 := by rw [hM11]; exact qput_eq
    show zG n (0, 0) d 82 (40, [.inr (.inr (some 67))], []) M11 _
    exact zG_ret hd0 hz rfl rfl ⟨⟨hCM11, hWM11⟩, rfl⟩
  refine zG_icmp_ne hd0 hz rfl (fun hb13 => ?_) (fun hb13 => ?_)
  · refine zG_blk (c' := (14, [.inr (.inr (some 67))], [.inl 0, .inr (.inr (some 67))])) 1 hd0 hz (by rfl) ?_
    exact j14 0 (by first | decide | omega)
  · refine zG_blk (c' := (14, [.inr (.inr (some 67))], [.inl 1, .inr (.inr (some 67))])) 2 hd0 hz (by rfl) ?_
    exact j14 1 (by first | decide | omega)
