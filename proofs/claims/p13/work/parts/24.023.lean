theorem qm_78_67 {n d : Nat} {M : zM} (hd : 5 ≤ d) (hC : qCI M)  : qOkM n d 78 [.inr (.inr (some 67))] 1 qCI [67, 69, 70, 71] M qRn := by
  have hz := zp_78
  have hd0 : 0 < d := by omega
  have hW : qFr [67, 69, 70, 71] M M := qFr.rfl
  show zG n (0, 0) d 78 (0, [.inr (.inr (some 67))], []) M _
  have r1 := hC.rng 67 7 (by decide) (by decide)
  refine zG_blk (c' := (4, [.inr (.inr (some 67))], [.inl (M 67 7)])) 2 hd0 hz (by rfl) ?_
  have j274 : ∀ (M2 : zM) , qCI M2 → qFr [67, 69, 70, 71] M M2 → zG n (0, 0) d 78 (274, [.inr (.inr (some 67))], []) M2 (fun v M' => qWf qCI [67, 69, 70, 71] M M' ∧ qRn v) := by
    intro M2 hCM2 hWM2
    exact zG_ret hd0 hz rfl rfl ⟨⟨hCM2, hWM2⟩, rfl⟩
  have j124 : zG n (0, 0) d 78 (124, [.inr (.inr (some 67))], []) M (fun v M' => qWf qCI [67, 69, 70, 71] M M' ∧ qRn v) := by
    refine zG_blk (c' := (129, [.inr (.inr (some 67))], [.inl (M 67 7), .inr (.inr (some 67))])) 3 hd0 hz (by rfl) ?_
    refine zG_call hd0 hz zp_90 rfl rfl (Nat.le_of_ble_eq_true rfl) ⟨Nat.le_refl _, Nat.le_refl _⟩ (qm_90 (by first | exact zdp hd (by decide) | omega) hC  (M 67 7) (by omega)) (fun vr M3 hr => ?_)
    obtain ⟨hq, x4, rfl, hx4⟩ := hr
    replace hq := hq.symm; subst hq
    show zG n (0, 0) d 78 (132, [.inr (.inr (some 67))], [.inl x4, .inr (.inr (some 67))]) M _
    refine zG_call hd0 hz zp_84 rfl rfl (Nat.le_of_ble_eq_true rfl) ⟨Nat.le_refl _, Nat.le_refl _⟩ (qm_84_67 (by first | exact zdp hd (by decide) | omega) hC  x4 (by omega)) (fun vr M5 hr => ?_)
    obtain ⟨⟨hCM5, hFM5⟩, rfl⟩ := hr
    have hWM5 : qFr [67, 69, 70, 71] M M5 := hW.tr hFM5 (by decide)
    have e7 : M5 67 7 = M 67 7 := hFM5 67 7 (by decide)
    show zG n (0, 0) d 78 (135, [.inr (.inr (some 67))], []) M5 _
    refine zG_blk (c' := (136, [.inr (.inr (some 67))], [.inr (.inr (some 67))])) 1 hd0 hz (by rfl) ?_
    refine zG_call hd0 hz zp_86 rfl rfl (Nat.le_of_ble_eq_true rfl) ⟨Nat.le_refl _, Nat.le_refl _⟩ (qm_86_67 (by first | exact zdp hd (by decide) | omega) hCM5  ) (fun vr M8 hr => ?_)
    obtain ⟨⟨hCM8, hFM8⟩, rfl⟩ := hr
    have hWM8 : qFr [67, 69, 70, 71] M M8 := hWM5.tr hFM8 (by decide)
    show zG n (0, 0) d 78 (139, [.inr (.inr (some 67))], []) M8 _
    refine zG_blk (c' := (274, [.inr (.inr (some 67))], [])) 1 hd0 hz (by rfl) ?_
    exact j274 M8 hCM8 hWM8
  have j142 : zG n (0, 0) d 78 (142, [.inr (.inr (some 67))], []) M (fun v M' => qWf qCI [67, 69, 70, 71] M M' ∧ qRn v) := by
    refine zG_blk (c' := (145, [.inr (.inr (some 67))], [.inl 6, .inr (.inr (some 67))])) 2 hd0 hz (by rfl) ?_
    refine zG_call hd0 hz zp_84 rfl rfl (Nat.le_of_ble_eq_true rfl) ⟨Nat.le_refl _, Nat.le_refl _⟩ (qm_84_67 (by first | exact zdp hd (by decide) | omega) hC  6 (by first | decide | omega)) (fun vr M10 hr => ?_)
    obtain ⟨⟨hCM10, hFM10⟩, rfl⟩ := hr
    have hWM10 : qFr [67, 69, 70, 71] M M10 := hW.tr hFM10 (by decide)
    have e12 : M10 67 7 = M 67 7 := hFM10 67 7 (by decide)
    show zG n (0, 0) d 78 (148, [.inr (.inr (some 67))], []) M10 _
    refine zG_blk (c' := (150, [.inr (.inr (some 67))], [.inr (.inr (some 67)), .inr (.inr (some 67))])) 2 hd0 hz (by rfl) ?_
    refine zG_call hd0 hz zp_88 rfl rfl (Nat.le_of_ble_eq_true rfl) ⟨Nat.le_refl _, Nat.le_refl _⟩ (qm_88_67 (by first | exact zdp hd (by decide) | omega) hCM10  ) (fun vr M13 hr => ?_)
    obtain ⟨hq, x14, rfl, hx14⟩ := hr
    replace hq := hq.symm; subst hq
    show zG n (0, 0) d 78 (153, [.inr (.inr (some 67))], [.inl x14, .inr (.inr (some 67))]) M10 _
    refine zG_call hd0 hz zp_90 rfl rfl (Nat.le_of_ble_eq_true rfl) ⟨Nat.le_refl _, Nat.le_refl _⟩ (qm_90 (by first | exact zdp hd (by decide) | omega) hCM10  x14 (by omega)) (fun vr M15 hr => ?_)
    obtain ⟨hq, x16, rfl, hx16⟩ := hr
    replace hq := hq.symm; subst hq
    show zG n (0, 0) d 78 (156, [.inr (.inr (some 67))], [.inl x16, .inr (.inr (some 67))]) M10 _
    refine zG_blk (c' := (157, [.inr (.inr (some 67))], [.inl 5, .inl x16, .inr (.inr (some 67))])) 1 hd0 hz (by rfl) ?_
    have j165 : ∀ (v17 : Int) , 0 ≤ v17 ∧ v17 ≤ 1 → zG n (0, 0) d 78 (165, [.inr (.inr (some 67))], [.inl v17, .inr (.inr (some 67))]) M10 (fun v M' => qWf qCI [67, 69, 70, 71] M M' ∧ qRn v) := by
      intro v17 hv17
      refine zG_call hd0 hz zp_85 rfl rfl (Nat.le_of_ble_eq_true rfl) ⟨Nat.le_refl _, Nat.le_refl _⟩ (qm_85_67 (by first | exact zdp hd (by decide) | omega) hCM10  v17 (by first | with_reducible exact hv17 | omega)) (fun vr M18 hr => ?_)
      obtain ⟨⟨hCM18, hFM18⟩, rfl⟩ := hr
      have hWM18 : qFr [67, 69, 70, 71] M M18 := hWM10.tr hFM18 (by decide)
      show zG n (0, 0) d 78 (168, [.inr (.inr (some 67))], []) M18 _
      refine zG_blk (c' := (274, [.inr (.inr (some 67))], [])) 1 hd0 hz (by rfl) ?_
      exact j274 M18 hCM18 hWM18
    refine zG_icmp_ne hd0 hz rfl (fun hb20 => ?_) (fun hb20 => ?_)
    · refine zG_blk (c' := (165, [.inr (.inr (some 67))], [.inl 0, .inr (.inr (some 67))])) 1 hd0 hz (by rfl) ?_
      exact j165 0 (by first | decide | omega)
    · refine zG_blk (c' := (165, [.inr (.inr (some 67))], [.inl 1, .inr (.inr (some 67))])) 2 hd0 hz (by rfl) ?_
      exact j165 1 (by first | decide | omega)
  have j171 : zG n (0, 0) d 78 (171, [.inr (.inr (some 67))], []) M (fun v M' => qWf qCI [67, 69, 70, 71] M M' ∧ qRn v) := by
    refine zG_blk (c' := (173, [.inr (.inr (some 67))], [.inl 3, .inr (.inr (some 67))])) 2 hd0 hz (by rfl) ?_
    refine zG_call hd0 hz zp_84 rfl rfl (Nat.le_of_ble_eq_true rfl) ⟨Nat.le_refl _, Nat.le_refl _⟩ (qm_84_67 (by first | exact zdp hd (by decide) | omega) hC  3 (by first | decide | omega)) (fun vr M21 hr => ?_)
    obtain ⟨⟨hCM21, hFM21⟩, rfl⟩ := hr
    have hWM21 : qFr [67, 69, 70, 71] M M21 := hW.tr hFM21 (by decide)
    have e23 : M21 67 7 = M 67 7 := hFM21 67 7 (by decide)
    show zG n (0, 0) d 78 (176, [.inr (.inr (some 67))], []) M21 _
    refine zG_blk (c' := (178, [.inr (.inr (some 67))], [.inr (.inr (some 67)), .inr (.inr (some 67))])) 2 hd0 hz (by rfl) ?_
    refine zG_call hd0 hz zp_88 rfl rfl (Nat.le_of_ble_eq_true rfl) ⟨Nat.le_refl _, Nat.le_refl _⟩ (qm_88_67 (by first | exact zdp hd (by decide) | omega) hCM21  ) (fun vr M24 hr => ?_)
    obtain ⟨hq, x25, rfl, hx25⟩ := hr
    replace hq := hq.symm; subst hq
    show zG n (0, 0) d 78 (181, [.inr (.inr (some 67))], [.inl x25, .inr (.inr (some 67))]) M21 _
    refine zG_blk (c' := (182, [.inr (.inr (some 67))], [.inl 1, .inl x25, .inr (.inr (some 67))])) 1 hd0 hz (by rfl) ?_
    have j190 : ∀ (v26 : Int) , 0 ≤ v26 ∧ v26 ≤ 1 → zG n (0, 0) d 78 (190, [.inr (.inr (some 67))], [.inl v26, .inr (.inr (some 67))]) M21 (fun v M' => qWf qCI [67, 69, 70, 71] M M' ∧ qRn v) := by
      intro v26 hv26
      refine zG_call hd0 hz zp_85 rfl rfl (Nat.le_of_ble_eq_true rfl) ⟨Nat.le_refl _, Nat.le_refl _⟩ (qm_85_67 (by first | exact zdp hd (by decide) | omega) hCM21  v26 (by first | with_reducible exact hv26 | omega)) (fun vr M27 hr => ?_)
      obtain ⟨⟨hCM27, hFM27⟩, rfl⟩ := hr
      have hWM27 : qFr [67, 69, 70, 71] M M27 := hWM21.tr hFM27 (by decide)
      show zG n (0, 0) d 78 (193, [.inr (.inr (some 67))], []) M27 _
      refine zG_blk (c' := (274, [.inr (.inr (some 67))], [])) 1 hd0 hz (by rfl) ?_
      exact j274 M27 hCM27 hWM27
    refine zG_icmp_ne hd0 hz rfl (fun hb29 => ?_) (fun hb29 => ?_)
    · refine zG_blk (c' := (190, [.inr (.inr (some 67))], [.inl 0, .inr (.inr (some 67))])) 1 hd0 hz (by rfl) ?_
      exact j190 0 (by first | decide | omega)
    · refine zG_blk (c' := (190, [.inr (.inr (some 67))], [.inl 1, .inr (.inr (some 67))])) 2 hd0 hz (by rfl) ?_
      exact j190 1 (by first | decide | omega)
  have j196 : zG n (0, 0) d 78 (196, [.inr (.inr (some 67))], []) M (fun v M' => qWf qCI [67, 69, 70, 71] M M' ∧ qRn v) := by
    refine zG_blk (c' := (198, [.inr (.inr (some 67))], [.inl 3, .inr (.inr (some 67))])) 2 hd0 hz (by rfl) ?_
    refine zG_call hd0 hz zp_84 rfl rfl (Nat.le_of_ble_eq_true rfl) ⟨Nat.le_refl _, Nat.le_refl _⟩ (qm_84_67 (by first | exact zdp hd (by decide) | omega) hC  3 (by first | decide | omega)) (fun vr M30 hr => ?_)
    obtain ⟨⟨hCM30, hFM30⟩, rfl⟩ := hr
    have hWM30 : qFr [67, 69, 70, 71] M M30 := hW.tr hFM30 (by decide)
    have e32 : M30 67 7 = M 67 7 := hFM30 67 7 (by decide)
    show zG n (0, 0) d 78 (201, [.inr (.inr (some 67))], []) M30 _
    refine zG_blk (c' := (202, [.inr (.inr (some 67))], [.inr (.inr (some 67))])) 1 hd0 hz (by rfl) ?_
    refine zG_call hd0 hz zp_82 rfl rfl (Nat.le_of_ble_eq_true rfl) ⟨Nat.le_refl _, Nat.le_refl _⟩ (qm_82_67 (by first | exact zdp hd (by decide) | omega) hCM30  ) (fun vr M33 hr => ?_)
    obtain ⟨⟨hCM33, hFM33⟩, rfl⟩ := hr
    have hWM33 : qFr [67, 69, 70, 71] M M33 := hWM30.tr hFM33 (by decide)
    show zG n (0, 0) d 78 (205, [.inr (.inr (some 67))], []) M33 _
    refine zG_blk (c' := (274, [.inr (.inr (some 67))], [])) 1 hd0 hz (by rfl) ?_
    exact j274 M33 hCM33 hWM33
  have j208 : zG n (0, 0) d 78 (208, [.inr (.inr (some 67))], []) M (fun v M' => qWf qCI [67, 69, 70, 71] M M' ∧ qRn v) := by
    refine zG_blk (c' := (209, [.inr (.inr (some 67))], [.inr (.inr (some 67))])) 1 hd0 hz (by rfl) ?_
    refine zG_call hd0 hz zp_83 rfl rfl (Nat.le_of_ble_eq_true rfl) ⟨Nat.le_refl _, Nat.le_refl _⟩ (qm_83_67 (by first | exact zdp hd (by decide) | omega) hC  ) (fun vr M35 hr => ?_)
    obtain ⟨⟨hCM35, hFM35⟩, rfl⟩ := hr
    have hWM35 : qFr [67, 69, 70, 71] M M35 := hW.tr hFM35 (by decide)
    show zG n (0, 0) d 78 (212, [.inr (.inr (some 67))], []) M35 _
    have r37 := hCM35.rng 67 10 (by decide) (by decide)
    refine zG_blk (c' := (218, [.inr (.inr (some 67))], [.inl (-1), .inl (M35 67 10), .inr (.inr (some 67))])) 4 hd0 hz (by rfl) ?_
    have j226 : ∀ (v38 : Int) , 0 ≤ v38 ∧ v38 ≤ 1 → zG n (0, 0) d 78 (226, [.inr (.inr (some 67))], [.inl v38, .inr (.inr (some 67))]) M35 (fun v M' => qWf qCI [67, 69, 70, 71] M M' ∧ qRn v) := by
      intro v38 hv38
      refine zG_call hd0 hz zp_85 rfl rfl (Nat.le_of_ble_eq_true rfl) ⟨Nat.le_refl _, Nat.le_refl _⟩ (qm_85_67 (by first | exact zdp hd (by decide) | omega) hCM35  v38 (by first | with_reducible exact hv38 | omega)) (fun vr M39 hr => ?_)
      obtain ⟨⟨hCM39, hFM39⟩, rfl⟩ := hr
      have hWM39 : qFr [67, 69, 70, 71] M M39 := hWM35.tr hFM39 (by decide)
      show zG n (0, 0) d 78 (229, [.inr (.inr (some 67))], []) M39 _
      refine zG_blk (c' := (274, [.inr (.inr (some 67))], [])) 1 hd0 hz (by rfl) ?_
      exact j274 M39 hCM39 hWM39
    refine zG_icmp_eq hd0 hz rfl (fun hb41 => ?_) (fun hb41 => ?_)
    · refine zG_blk (c' := (226, [.inr (.inr (some 67))], [.inl 0, .inr (.inr (some 67))])) 1 hd0 hz (by rfl) ?_
      exact j226 0 (by first | decide | omega)
    · refine zG_blk (c' := (226, [.inr (.inr (some 67))], [.inl 1, .inr (.inr (some 67))])) 2 hd0 hz (by rfl) ?_
      exact j226 1 (by first | decide | omega)
  have j232 : zG n (0, 0) d 78 (232, [.inr (.inr (some 67))], []) M (fun v M' => qWf qCI [67, 69, 70, 71] M M' ∧ qRn v) := by
    refine zG_blk (c' := (233, [.inr (.inr (some 67))], [.inr (.inr (some 67))])) 1 hd0 hz (by rfl) ?_
    refine zG_call hd0 hz zp_83 rfl rfl (Nat.le_of_ble_eq_true rfl) ⟨Nat.le_refl _, Nat.le_refl _⟩ (qm_83_67 (by first | exact zdp hd (by decide) | omega) hC  ) (fun vr M42 hr => ?_)
    obtain ⟨⟨hCM42, hFM42⟩, rfl⟩ := hr
    have hWM42 : qFr [67, 69, 70, 71] M M42 := hW.tr hFM42 (by decide)
    show zG n (0, 0) d 78 (236, [.inr (.inr (some 67))], []) M42 _
    refine zG_blk (c' := (237, [.inr (.inr (some 67))], [.inr (.inr (some 67))])) 1 hd0 hz (by rfl) ?_
    refine zG_call hd0 hz zp_81 rfl rfl (Nat.le_of_ble_eq_true rfl) ⟨Nat.le_refl _, Nat.le_refl _⟩ (qm_81_67 (by first | exact zdp hd (by decide) | omega) hCM42  ) (fun vr M44 hr => ?_)
    obtain ⟨⟨hCM44, hFM44⟩, rfl⟩ := hr
    have hWM44 : qFr [67, 69, 70, 71] M M44 := hWM42.tr hFM44 (by decide)
    show zG n (0, 0) d 78 (240, [.inr (.inr (some 67))], []) M44 _
    refine zG_blk (c' := (274, [.inr (.inr (some 67))], [])) 1 hd0 hz (by rfl) ?_
    exact j274 M44 hCM44 hWM44
  have j243 : zG n (0, 0) d 78 (243, [.inr (.inr (some 67))], []) M (fun v M' => qWf qCI [67, 69, 70, 71] M M' ∧ qRn v) := by
    refine zG_blk (c' := (244, [.inr (.inr (some 67))], [.inr (.inr (some 67))])) 1 hd0 hz (by rfl) ?_
    refine zG_call hd0 hz zp_83 rfl rfl (Nat.le_of_ble_eq_true rfl) ⟨Nat.le_refl _, Nat.le_refl _⟩ (qm_83_67 (by first | exact zdp hd (by decide) | omega) hC  ) (fun vr M46 hr => ?_)
    obtain ⟨⟨hCM46, hFM46⟩, rfl⟩ := hr
    have hWM46 : qFr [67, 69, 70, 71] M M46 := hW.tr hFM46 (by decide)
    show zG n (0, 0) d 78 (247, [.inr (.inr (some 67))], []) M46 _
    refine zG_blk (c' := (252, [.inr (.inr (some 67))], [.inr (.inr (some 70)), .inr (.inr (some 67))])) 3 hd0 hz (by rfl) ?_
    refine zG_call hd0 hz zp_101 rfl rfl (Nat.le_of_ble_eq_true rfl) ⟨Nat.le_refl _, Nat.le_refl _⟩ (qw_size (by first | exact zdp hd (by decide) | omega) hCM46 (⟨by decide, rfl, rfl⟩ : qT n 70 80 1) ) (fun vr M48 hr => ?_)
    obtain ⟨hq, x49, rfl, hx49⟩ := hr
    replace hq := hq.symm; subst hq
    show zG n (0, 0) d 78 (255, [.inr (.inr (some 67))], [.inl x49, .inr (.inr (some 67))]) M46 _
    have j263 : ∀ (v50 : Int) , 0 ≤ v50 ∧ v50 ≤ 1 → zG n (0, 0) d 78 (263, [.inr (.inr (some 67))], [.inl v50, .inr (.inr (some 67))]) M46 (fun v M' => qWf qCI [67, 69, 70, 71] M M' ∧ qRn v) := by
      intro v50 hv50
      refine zG_call hd0 hz zp_91 rfl rfl (Nat.le_of_ble_eq_true rfl) ⟨Nat.le_refl _, Nat.le_refl _⟩ (qm_91_67 (by first | exact zdp hd (by decide) | omega) hCM46  v50 (by first | with_reducible exact hv50 | omega)) (fun vr M51 hr => ?_)
      obtain ⟨⟨hCM51, hFM51⟩, rfl⟩ := hr
      have hWM51 : qFr [67, 69, 70, 71] M M51 := hWM46.tr hFM51 (by decide)
      show zG n (0, 0) d 78 (266, [.inr (.inr (some 67))], []) M51 _
      refine zG_blk (c' := (274, [.inr (.inr (some 67))], [])) 1 hd0 hz (by rfl) ?_
      exact j274 M51 hCM51 hWM51
    refine zG_if_ne hd0 hz rfl (fun hb53 => ?_) (fun hb53 => ?_)
    · refine zG_blk (c' := (263, [.inr (.inr (some 67))], [.inl 0, .inr (.inr (some 67))])) 1 hd0 hz (by rfl) ?_
      exact j263 0 (by first | decide | omega)
    · refine zG_blk (c' := (263, [.inr (.inr (some 67))], [.inl 1, .inr (.inr (some 67))])) 2 hd0 hz (by rfl) ?_
      exact j263 1 (by first | decide | omega)
  have j269 : zG n (0, 0) d 78 (269, [.inr (.inr (some 67))], []) M (fun v M' => qWf qCI [67, 69, 70, 71] M M' ∧ qRn v) := by
    refine zG_blk (c' := (271, [.inr (.inr (some 67))], [.inl 1, .inr (.inr (some 67))])) 2 hd0 hz (by rfl) ?_
    refine zG_call hd0 hz zp_92 rfl rfl (Nat.le_of_ble_eq_true rfl) ⟨Nat.le_refl _, Nat.le_refl _⟩ (qm_92_67 (by first | exact zdp hd (by decide) | omega) hC  1 (by first | decide | omega)) (fun vr M54 hr => ?_)
    obtain ⟨⟨hCM54, hFM54⟩, rfl⟩ := hr
    have hWM54 : qFr [67, 69, 70, 71] M M54 := hW.tr hFM54 (by decide)
    show zG n (0, 0) d 78 (274, [.inr (.inr (some 67))], []) M54 _
    exact j274 M54 hCM54 hWM54
  refine zG_sw hd0 hz rfl ?_
  refine zts_all (P := fun t => zG n (0, 0) d 78 (t, [.inr (.inr (some 67))], []) M _) ?_ ?_
  · exact j269
  · intro t ht
    simp only [List.mem_cons, List.not_mem_nil, or_false] at ht
    rcases ht with rfl | rfl | rfl | rfl | rfl | rfl | rfl | rfl | rfl | rfl | rfl | rfl | rfl | rfl | rfl | rfl | rfl | rfl | rfl | rfl | rfl | rfl | rfl | rfl | rfl | rfl
    · exact j208
    · exact j171
    · exact j196
    · exact j124
    · exact j124
    · exact j269
    · exact j269
    · exact j269
    · exact j269
    · exact j269
    · exact j269
    · exact j269
    · exact j269
    · exact j269
    · exact j269
    · exact j142
    · exact j142
    · exact j142
    · exact j124
    · exact j124
    · exact j124
    · exact j124
    · exact j269
    · exact j232
    · exact j269
    · exact j243
theorem qm_75_67 {n d : Nat} {M : zM} (hd : 8 ≤ d) (hC : qCI M) (a1 : Int) (ha1 : (-2147483648) ≤ a1 ∧ a1 ≤ 2147483647) : qOkM n d 75 [.inr (.inr (some 67)), .inl a1] 3 qCI [67, 69, 70, 71] M (qRi (fun x => (-2147483648) ≤ x ∧ x ≤ 2147483647)) := by
  have hz := zp_75
  have hd0 : 0 < d := by omega
  have hW : qFr [67, 69, 70, 71] M M := qFr.rfl
  show zG n (0, 0) d 75 (0, [.inr (.inr (some 67)), .inl a1, zN], []) M _
  refine zG_blk (c' := (2, [.inr (.inr (some 67)), .inl a1, zN], [.inl a1, .inr (.inr (some 67))])) 2 hd0 hz (by rfl) ?_
  refine zG_putf (.inl rfl) hd0 hz rfl (by decide) rfl rfl ?_
  obtain ⟨M1, hM1⟩ : ∃ X : zM, X = zput M 67 3 a1 := ⟨_, rfl⟩
  rw [← hM1]
  have hCM1 : qCI M1 := by rw [hM1]; exact hC.put (r := 67) (k := 3) rfl (.inl (by omega))
  have hWM1 : qFr [67, 69, 70, 71] M M1 := by rw [hM1]; exact hW.put (by decide)
  have e2 : M1 67 3 = a1 := by rw [hM1]; exact qput_eq
  show zG n (0, 0) d 75 (5, [.inr (.inr (some 67)), .inl a1, zN], []) M1 _
  refine zG_blk (c' := (12, [.inr (.inr (some 67)), .inl a1, zN], [.inl 0, .inl a1, .inr (.inr (some 20)), .inr (.inr (some 67))])) 5 hd0 hz (by rfl) ?_
  refine zG_call hd0 hz zp_106 rfl rfl (Nat.le_of_ble_eq_true rfl) ⟨Nat.le_refl _, Nat.le_refl _⟩ (qw_get (by first | exact zdp hd (by decide) | omega) hCM1 (⟨by decide, rfl, rfl⟩ : qT n 20 8 81) a1 (by first | with_reducible exact ha1 | omega) 0 (by first | decide | omega)) (fun vr M3 hr => ?_)
  obtain ⟨hq, x4, rfl, hx4⟩ := hr
  replace hq := hq.symm; subst hq
  show zG n (0, 0) d 75 (15, [.inr (.inr (some 67)), .inl a1, zN], [.inl x4, .inr (.inr (some 67))]) M1 _
  refine zG_putf (.inl rfl) hd0 hz rfl (by decide) rfl rfl ?_
  obtain ⟨M5, hM5⟩ : ∃ X : zM, X = zput M1 67 4 x4 := ⟨_, rfl⟩
  rw [← hM5]
  have hCM5 : qCI M5 := by rw [hM5]; exact hCM1.put (r := 67) (k := 4) rfl (.inl (by omega))
  have hWM5 : qFr [67, 69, 70, 71] M M5 := by rw [hM5]; exact hWM1.put (by decide)
  have e6 : M5 67 3 = M1 67 3 := by rw [hM5]; exact qput_nk (by decide)
  have e7 : M5 67 4 = x4 := by rw [hM5]; exact qput_eq
  show zG n (0, 0) d 75 (18, [.inr (.inr (some 67)), .inl a1, zN], []) M5 _
  refine zG_blk (c' := (20, [.inr (.inr (some 67)), .inl a1, zN], [.inl 0, .inr (.inr (some 67))])) 2 hd0 hz (by rfl) ?_
  refine zG_putf (.inl rfl) hd0 hz rfl (by decide) rfl rfl ?_
  obtain ⟨M8, hM8⟩ : ∃ X : zM, X = zput M5 67 6 0 := ⟨_, rfl⟩
  rw [← hM8]
  have hCM8 : qCI M8 := by rw [hM8]; exact hCM5.put (r := 67) (k := 6) rfl (.inl (by omega))
  have hWM8 : qFr [67, 69, 70, 71] M M8 := by rw [hM8]; exact hWM5.put (by decide)
  have e9 : M8 67 3 = M5 67 3 := by rw [hM8]; exact qput_nk (by decide)
  have e10 : M8 67 4 = M5 67 4 := by rw [hM8]; exact qput_nk (by decide)
  have e11 : M8 67 6 = 0 := by rw [hM8]; exact qput_eq
  show zG n (0, 0) d 75 (23, [.inr (.inr (some 67)), .inl a1, zN], []) M8 _
  refine zG_blk (c' := (25, [.inr (.inr (some 67)), .inl a1, zN], [.inl 0, .inr (.inr (some 67))])) 2 hd0 hz (by rfl) ?_
  refine zG_putf (.inl rfl) hd0 hz rfl (by decide) rfl rfl ?_
  obtain ⟨M12, hM12⟩ : ∃ X : zM, X = zput M8 67 9 0 := ⟨_, rfl⟩
  rw [← hM12]
  have hCM12 : qCI M12 := by rw [hM12]; exact hCM8.put (r := 67) (k := 9) rfl (.inl (by omega))
  have hWM12 : qFr [67, 69, 70, 71] M M12 := by rw [hM12]; exact hWM8.put (by decide)
  have e13 : M12 67 3 = M8 67 3 := by rw [hM12]; exact qput_nk (by decide)
  have e14 : M12 67 4 = M8 67 4 := by rw [hM12]; exact qput_nk (by decide)
  have e15 : M12 67 6 = M8 67 6 := by rw [hM12]; exact qput_nk (by decide)
  have e16 : M12 67 9 = 0 := by rw [hM12]; exact qput_eq
  show zG n (0, 0) d 75 (28, [.inr (.inr (some 67)), .inl a1, zN], []) M12 _
  refine zG_blk (c' := (30, [.inr (.inr (some 67)), .inl a1, zN], [.inl (-1), .inr (.inr (some 67))])) 2 hd0 hz (by rfl) ?_
  refine zG_putf (.inl rfl) hd0 hz rfl (by decide) rfl rfl ?_
  obtain ⟨M17, hM17⟩ : ∃ X : zM, X = zput M12 67 10 (-1) := ⟨_, rfl⟩
  rw [← hM17]
  have hCM17 : qCI M17 := by rw [hM17]; exact hCM12.put (r := 67) (k := 10) rfl (.inl (by omega))
  have hWM17 : qFr [67, 69, 70, 71] M M17 := by rw [hM17]; exact hWM12.put (by decide)
  have e18 : M17 67 3 = M12 67 3 := by rw [hM17]; exact qput_nk (by decide)
  have e19 : M17 67 4 = M12 67 4 := by rw [hM17]; exact qput_nk (by decide)
  have e20 : M17 67 6 = M12 67 6 := by rw [hM17]; exact qput_nk (by decide)
  have e21 : M17 67 9 = M12 67 9 := by rw [hM17]; exact qput_nk (by decide)
  have e22 : M17 67 10 = (-1) := by rw [hM17]; exact qput_eq
  show zG n (0, 0) d 75 (33, [.inr (.inr (some 67)), .inl a1, zN], []) M17 _
  refine zG_blk (c' := (36, [.inr (.inr (some 67)), .inl a1, zN], [.inl 24, .inr (.inr (some 67))])) 2 hd0 hz (by rfl) ?_
  refine zG_putf (.inl rfl) hd0 hz rfl (by decide) rfl rfl ?_
  obtain ⟨M23, hM23⟩ : ∃ X : zM, X = zput M17 67 7 24 := ⟨_, rfl⟩
  rw [← hM23]
  have hCM23 : qCI M23 := by rw [hM23]; exact hCM17.put (r := 67) (k := 7) rfl (.inl (by omega))
  have hWM23 : qFr [67, 69, 70, 71] M M23 := by rw [hM23]; exact hWM17.put (by decide)
  have e24 : M23 67 3 = M17 67 3 := by rw [hM23]; exact qput_nk (by decide)
  have e25 : M23 67 4 = M17 67 4 := by rw [hM23]; exact qput_nk (by decide)
  have e26 : M23 67 6 = M17 67 6 := by rw [hM23]; exact qput_nk (by decide)
  have e27 : M23 67 9 = M17 67 9 := by rw [hM23]; exact qput_nk (by decide)
  have e28 : M23 67 10 = M17 67 10 := by rw [hM23]; exact qput_nk (by decide)
  have e29 : M23 67 7 = 24 := by rw [hM23]; exact qput_eq
  show zG n (0, 0) d 75 (39, [.inr (.inr (some 67)), .inl a1, zN], []) M23 _
  refine zG_blk (c' := (41, [.inr (.inr (some 67)), .inl a1, zN], [.inl 1, .inr (.inr (some 67))])) 2 hd0 hz (by rfl) ?_
  refine zG_putf (.inr ⟨rfl, by omega⟩) hd0 hz rfl (by decide) rfl rfl ?_
  obtain ⟨M30, hM30⟩ : ∃ X : zM, X = zput M23 67 11 1 := ⟨_, rfl⟩
  rw [← hM30]
  have hCM30 : qCI M30 := by rw [hM30]; exact hCM23.put (r := 67) (k := 11) rfl (.inl (by omega))
  have hWM30 : qFr [67, 69, 70, 71] M M30 := by rw [hM30]; exact hWM23.put (by decide)
  have e31 : M30 67 3 = M23 67 3 := by rw [hM30]; exact qput_nk (by decide)
  have e32 : M30 67 4 = M23 67 4 := by rw [hM30]; exact qput_nk (by decide)
  have e33 : M30 67 6 = M23 67 6 := by rw [hM30]; exact qput_nk (by decide)
  have e34 : M30 67 9 = M23 67 9 := by rw [hM30]; exact qput_nk (by decide)
  have e35 : M30 67 10 = M23 67 10 := by rw [hM30]; exact qput_nk (by decide)
  have e36 : M30 67 7 = M23 67 7 := by rw [hM30]; exact qput_nk (by decide)
  have e37 : M30 67 11 = 1 := by rw [hM30]; exact qput_eq
  show zG n (0, 0) d 75 (44, [.inr (.inr (some 67)), .inl a1, zN], []) M30 _
  refine zG_blk (c' := (48, [.inr (.inr (some 67)), .inl a1, zN], [.inr (.inr (some 70))])) 2 hd0 hz (by rfl) ?_
  refine zG_call hd0 hz zp_104 rfl rfl (Nat.le_of_ble_eq_true rfl) ⟨Nat.le_refl _, Nat.le_refl _⟩ (qw_drop (by first | exact zdp hd (by decide) | omega) hCM30 (⟨by decide, rfl, rfl⟩ : qT n 70 80 1) ) (fun vr M38 hr => ?_)
  obtain ⟨⟨hCM38, hFM38⟩, rfl⟩ := hr
  have hWM38 : qFr [67, 69, 70, 71] M M38 := hWM30.tr hFM38 (by decide)
  have e40 : M38 67 3 = M30 67 3 := hFM38 67 3 (by decide)
  have e41 : M38 67 4 = M30 67 4 := hFM38 67 4 (by decide)
  have e42 : M38 67 6 = M30 67 6 := hFM38 67 6 (by decide)
  have e43 : M38 67 9 = M30 67 9 := hFM38 67 9 (by decide)
  have e44 : M38 67 10 = M30 67 10 := hFM38 67 10 (by decide)
  have e45 : M38 67 7 = M30 67 7 := hFM38 67 7 (by decide)
  have e46 : M38 67 11 = M30 67 11 := hFM38 67 11 (by decide)
  show zG n (0, 0) d 75 (51, [.inr (.inr (some 67)), .inl a1, zN], []) M38 _
  refine zG_blk (c' := (58, [.inr (.inr (some 67)), .inl a1, zN], [.inl 0, .inl 0, .inl 0, .inr (.inr (some 68))])) 5 hd0 hz (by rfl) ?_
  refine zG_call hd0 hz zp_107 rfl rfl (Nat.le_of_ble_eq_true rfl) ⟨Nat.le_refl _, Nat.le_refl _⟩ (qw_set (by first | exact zdp hd (by decide) | omega) hCM38 (⟨by decide, rfl, rfl⟩ : qT n 68 1 81) 0 (by first | decide | omega) 0 (by first | decide | omega) 0 (by first | decide | omega)) (fun vr M47 hr => ?_)
  obtain ⟨⟨hCM47, hFM47⟩, rfl⟩ := hr
  have hWM47 : qFr [67, 69, 70, 71] M M47 := hWM38.tr hFM47 (by decide)
  have e49 : M47 67 3 = M38 67 3 := hFM47 67 3 (by decide)
  have e50 : M47 67 4 = M38 67 4 := hFM47 67 4 (by decide)
  have e51 : M47 67 6 = M38 67 6 := hFM47 67 6 (by decide)
  have e52 : M47 67 9 = M38 67 9 := hFM47 67 9 (by decide)
  have e53 : M47 67 10 = M38 67 10 := hFM47 67 10 (by decide)
  have e54 : M47 67 7 = M38 67 7 := hFM47 67 7 (by decide)
  have e55 : M47 67 11 = M38 67 11 := hFM47 67 11 (by decide)
  show zG n (0, 0) d 75 (61, [.inr (.inr (some 67)), .inl a1, zN], []) M47 _
  refine zG_blk (c' := (63, [.inr (.inr (some 67)), .inl a1, .inl 0], [])) 2 hd0 hz (by rfl) ?_
  have j63 : ∀ (N : Nat) (v56 : Int) (M57 : zM) , (81 - v56 : Int).toNat < N → 0 ≤ v56 ∧ v56 ≤ 81 → qCI M57 → qFr [67, 69, 70, 71] M M57 → zG n (0, 0) d 75 (63, [.inr (.inr (some 67)), .inl a1, .inl v56], []) M57 (fun v M' => qWf qCI [67, 69, 70, 71] M M' ∧ qRi (fun x => (-2147483648) ≤ x ∧ x ≤ 2147483647) v) := by
    intro N
    induction N with
    | zero => intro v56 M57 hN hv56 hCM57 hWM57; exact absurd hN (Nat.not_lt_zero _)
    | succ N ih63 =>
      intro v56 M57 hN hv56 hCM57 hWM57
      refine zG_blk (c' := (66, [.inr (.inr (some 67)), .inl a1, .inl v56], [.inl 80, .inl v56])) 2 hd0 hz (by rfl) ?_
      have j130 : zG n (0, 0) d 75 (130, [.inr (.inr (some 67)), .inl a1, .inl v56], []) M57 (fun v M' => qWf qCI [67, 69, 70, 71] M M' ∧ qRi (fun x => (-2147483648) ≤ x ∧ x ≤ 2147483647) v) := by
        have r58 := hCM57.rng 67 10 (by decide) (by decide)
        refine zG_blk (c' := (134, [.inr (.inr (some 67)), .inl a1, .inl v56], [.inl (M57 67 10)])) 2 hd0 hz (by rfl) ?_
        exact zG_ret hd0 hz rfl rfl ⟨⟨hCM57, hWM57⟩, _, rfl, by omega⟩
      refine zG_icmp_gt hd0 hz rfl (fun hb59 => ?_) (fun hb59 => ?_)
      · exact j130
      · have r60 := hCM57.rng 67 10 (by decide) (by decide)
        refine zG_blk (c' := (74, [.inr (.inr (some 67)), .inl a1, .inl v56], [.inl (-1), .inl (M57 67 10)])) 3 hd0 hz (by rfl) ?_
        refine zG_icmp_ne hd0 hz rfl (fun hb61 => ?_) (fun hb61 => ?_)
        · exact j130
        · have r62 := hCM57.rng 67 7 (by decide) (by decide)
          refine zG_blk (c' := (83, [.inr (.inr (some 67)), .inl a1, .inl v56], [.inl 25, .inl (M57 67 7)])) 3 hd0 hz (by rfl) ?_
          refine zG_icmp_eq hd0 hz rfl (fun hb63 => ?_) (fun hb63 => ?_)
          · exact j130
          · refine zG_blk (c' := (87, [.inr (.inr (some 67)), .inl a1, .inl v56], [.inr (.inr (some 67))])) 1 hd0 hz (by rfl) ?_
            refine zG_call hd0 hz zp_93 rfl rfl (Nat.le_of_ble_eq_true rfl) ⟨Nat.le_refl _, Nat.le_refl _⟩ (qm_93_67 (by first | exact zdp hd (by decide) | omega) hCM57  ) (fun vr M64 hr => ?_)
            obtain ⟨⟨hCM64, hFM64⟩, rfl⟩ := hr
            have hWM64 : qFr [67, 69, 70, 71] M M64 := hWM57.tr hFM64 (by decide)
            show zG n (0, 0) d 75 (90, [.inr (.inr (some 67)), .inl a1, .inl v56], []) M64 _
            have r66 := hCM64.rng 67 10 (by decide) (by decide)
            refine zG_blk (c' := (95, [.inr (.inr (some 67)), .inl a1, .inl v56], [.inl (-1), .inl (M64 67 10)])) 3 hd0 hz (by rfl) ?_
            have j124 : ∀ (M67 : zM) , qCI M67 → qFr [67, 69, 70, 71] M M67 → zG n (0, 0) d 75 (124, [.inr (.inr (some 67)), .inl a1, .inl v56], []) M67 (fun v M' => qWf qCI [67, 69, 70, 71] M M' ∧ qRi (fun x => (-2147483648) ≤ x ∧ x ≤ 2147483647) v) := by
              intro M67 hCM67 hWM67
              obtain ⟨x68, hx68⟩ : ∃ x : Int, x = w32 (v56 + 1) := ⟨_, rfl⟩
              have hx68e : x68 = v56 + 1 := by rw [hx68]; exact w32_id (by omega)
              refine zG_blk (c' := (63, [.inr (.inr (some 67)), .inl a1, .inl x68], [])) 2 hd0 hz (by subst hx68; rfl) ?_
              exact ih63 x68 M67 (by omega) (by omega) hCM67 hWM67
            have j112 : zG n (0, 0) d 75 (112, [.inr (.inr (some 67)), .inl a1, .inl v56], []) M64 (fun v M' => qWf qCI [67, 69, 70, 71] M M' ∧ qRi (fun x => (-2147483648) ≤ x ∧ x ≤ 2147483647) v) := by
              refine zG_blk (c' := (117, [.inr (.inr (some 67)), .inl a1, .inl v56], [.inl (-1), .inl (M64 67 10)])) 3 hd0 hz (by rfl) ?_
              refine zG_icmp_ne hd0 hz rfl (fun hb69 => ?_) (fun hb69 => ?_)
              · exact j124 M64 hCM64 hWM64
              · refine zG_blk (c' := (121, [.inr (.inr (some 67)), .inl a1, .inl v56], [.inr (.inr (some 67))])) 1 hd0 hz (by rfl) ?_
                refine zG_call hd0 hz zp_78 rfl rfl (Nat.le_of_ble_eq_true rfl) ⟨Nat.le_refl _, Nat.le_refl _⟩ (qm_78_67 (by first | exact zdp hd (by decide) | omega) hCM64  ) (fun vr M70 hr => ?_)
                obtain ⟨⟨hCM70, hFM70⟩, rfl⟩ := hr
                have hWM70 : qFr [67, 69, 70, 71] M M70 := hWM64.tr hFM70 (by decide)
                show zG n (0, 0) d 75 (124, [.inr (.inr (some 67)), .inl a1, .inl v56], []) M70 _
                exact j124 M70 hCM70 hWM70
            refine zG_icmp_ne hd0 hz rfl (fun hb72 => ?_) (fun hb72 => ?_)
            · exact j112
            · have r73 := hCM64.rng 67 11 (by decide) (by decide)
              refine zG_blk (c' := (102, [.inr (.inr (some 67)), .inl a1, .inl v56], [.inl (M64 67 11)])) 2 hd0 hz (by rfl) ?_
              refine zG_if_eq hd0 hz rfl (fun hb74 => ?_) (fun hb74 => ?_)
              · exact j112
              · refine zG_blk (c' := (106, [.inr (.inr (some 67)), .inl a1, .inl v56], [.inr (.inr (some 67))])) 1 hd0 hz (by rfl) ?_
                refine zG_call hd0 hz zp_77 rfl rfl (Nat.le_of_ble_eq_true rfl) ⟨Nat.le_refl _, Nat.le_refl _⟩ (qm_77_67 (by first | exact zdp hd (by decide) | omega) hCM64  ) (fun vr M75 hr => ?_)
                obtain ⟨⟨hCM75, hFM75⟩, rfl⟩ := hr
                have hWM75 : qFr [67, 69, 70, 71] M M75 := hWM64.tr hFM75 (by decide)
                show zG n (0, 0) d 75 (109, [.inr (.inr (some 67)), .inl a1, .inl v56], []) M75 _
                refine zG_blk (c' := (124, [.inr (.inr (some 67)), .inl a1, .inl v56], [])) 1 hd0 hz (by rfl) ?_
                exact j124 M75 hCM75 hWM75
  exact j63 ((81 - 0 : Int).toNat + 1) 0 M47 (by omega) (by omega) hCM47 hWM47
theorem qm_150_8 {n d : Nat} {M : zM} (hd : 9 ≤ d) (hC : qCI M) (a1 : Int) (ha1 : (-2147483648) ≤ a1 ∧ a1 ≤ 2147483647) : qOkM n d 150 [.inr (.inr (some 8)), .inl a1] 2 qCI [67, 69, 70, 71] M (qRi (fun x => (-2147483648) ≤ x ∧ x ≤ 2147483647)) := by
  have hz := zp_150
  have hd0 : 0 < d := by omega
  have hW : qFr [67, 69, 70, 71] M M := qFr.rfl
  show zG n (0, 0) d 150 (0, [.inr (.inr (some 8)), .inl a1], []) M _
  refine zG_blk (c' := (1, [.inr (.inr (some 8)), .inl a1], [.inl a1])) 1 hd0 hz (by rfl) ?_
  refine zG_call hd0 hz zp_173 rfl rfl (Nat.le_of_ble_eq_true rfl) ⟨Nat.le_refl _, Nat.le_refl _⟩ (qm_173 (by first | exact zdp hd (by decide) | omega) hC  a1 (by first | with_reducible exact ha1 | omega)) (fun vr M1 hr => ?_)
  obtain ⟨hq, x2, rfl, hx2⟩ := hr
  replace hq := hq.symm; subst hq
  show zG n (0, 0) d 150 (4, [.inr (.inr (some 8)), .inl a1], [.inl x2]) M _
  have j20 : ∀ (v3 : Int) (M4 : zM) , (-2147483648) ≤ v3 ∧ v3 ≤ 2147483647 → qCI M4 → qFr [67, 69, 70, 71] M M4 → zG n (0, 0) d 150 (20, [.inr (.inr (some 8)), .inl a1], [.inl v3]) M4 (fun v M' => qWf qCI [67, 69, 70, 71] M M' ∧ qRi (fun x => (-2147483648) ≤ x ∧ x ≤ 2147483647) v) := by
    intro v3 M4 hv3 hCM4 hWM4
    exact zG_ret hd0 hz rfl rfl ⟨⟨hCM4, hWM4⟩, _, rfl, by omega⟩
  refine zG_if_eq hd0 hz rfl (fun hb5 => ?_) (fun hb5 => ?_)
  · refine zG_blk (c' := (20, [.inr (.inr (some 8)), .inl a1], [.inl (-2)])) 1 hd0 hz (by rfl) ?_
    exact j20 (-2) M (by omega) hC hW
  · refine zG_blk (c' := (12, [.inr (.inr (some 8)), .inl a1], [.inl a1, .inr (.inr (some 67))])) 3 hd0 hz (by rfl) ?_
    refine zG_call hd0 hz zp_75 rfl rfl (Nat.le_of_ble_eq_true rfl) ⟨Nat.le_refl _, Nat.le_refl _⟩ (qm_75_67 (by first | exact zdp hd (by decide) | omega) hC  a1 (by first | with_reducible exact ha1 | omega)) (fun vr M6 hr => ?_)
    obtain ⟨⟨hCM6, hFM6⟩, x7, rfl, hx7⟩ := hr
    have hWM6 : qFr [67, 69, 70, 71] M M6 := hW.tr hFM6 (by decide)
    show zG n (0, 0) d 150 (15, [.inr (.inr (some 8)), .inl a1], [.inl x7]) M6 _
    refine zG_blk (c' := (20, [.inr (.inr (some 8)), .inl a1], [.inl x7])) 1 hd0 hz (by rfl) ?_
    exact j20 x7 M6 (by omega) hCM6 hWM6
theorem qm_74_67 {n d : Nat} {M : zM} (hd : 1 ≤ d) (hC : qCI M)  : qOkP n d 74 [.inr (.inr (some 67))] 1 M (fun v => v = some (.inr (.inr (some 68)))) := by
  have hz := zp_74
  have hd0 : 0 < d := by omega
  show zG n (0, 0) d 74 (0, [.inr (.inr (some 67))], []) M _
  refine zG_blk (c' := (4, [.inr (.inr (some 67))], [.inr (.inr (some 68))])) 2 hd0 hz (by rfl) ?_
  exact zG_ret hd0 hz rfl rfl ⟨rfl, rfl⟩
theorem qm_62_72_68 {n d : Nat} {M : zM} (hd : 3 ≤ d) (hC : qCI M) (a2 : Int) (ha2 : (-2147483648) ≤ a2 ∧ a2 ≤ 2147483647) (a3 : Int) (ha3 : (-2147483648) ≤ a3 ∧ a3 ≤ 2147483647) (a4 : Int) (ha4 : (-2147483648) ≤ a4 ∧ a4 ≤ 2147483647) : qOkM n d 62 [.inr (.inr (some 72)), .inr (.inr (some 68)), .inl a2, .inl a3, .inl a4] 8 qCI [72, 73] M qRl := by
  have hz := zp_62
  have hd0 : 0 < d := by omega
  have hW : qFr [72, 73] M M := qFr.rfl
  show zG n (0, 0) d 62 (0, [.inr (.inr (some 72)), .inr (.inr (some 68)), .inl a2, .inl a3, .inl a4, zN, zN, zN], []) M _
  refine zG_blk (c' := (3, [.inr (.inr (some 72)), .inr (.inr (some 68)), .inl a2, .inl a3, .inl a4, zN, zN, zN], [.inl a3, .inl a2, .inr (.inr (some 68))])) 3 hd0 hz (by rfl) ?_
  refine zG_call hd0 hz zp_106 rfl rfl (Nat.le_of_ble_eq_true rfl) ⟨Nat.le_refl _, Nat.le_refl _⟩ (qw_get (by first | exact zdp hd (by decide) | omega) hC (⟨by decide, rfl, rfl⟩ : qT n 68 1 81) a2 (by first | with_reducible exact ha2 | omega) a3 (by first | with_reducible exact ha3 | omega)) (fun vr M1 hr => ?_)
  obtain ⟨hq, x2, rfl, hx2⟩ := hr
  replace hq := hq.symm; subst hq
  show zG n (0, 0) d 62 (6, [.inr (.inr (some 72)), .inr (.inr (some 68)), .inl a2, .inl a3, .inl a4, zN, zN, zN], [.inl x2]) M _
  refine zG_blk (c' := (10, [.inr (.inr (some 72)), .inr (.inr (some 68)), .inl a2, .inl a3, .inl a4, .inl x2, zN, zN], [.inl 0, .inr (.inr (some 72))])) 3 hd0 hz (by rfl) ?_
  refine zG_putf (.inl rfl) hd0 hz rfl (by decide) rfl rfl ?_
  obtain ⟨M3, hM3⟩ : ∃ X : zM, X = zput M 72 4 0 := ⟨_, rfl⟩
  rw [← hM3]
  have hCM3 : qCI M3 := by rw [hM3]; exact hC.put (r := 72) (k := 4) rfl (.inl (by omega))
  have hWM3 : qFr [72, 73] M M3 := by rw [hM3]; exact hW.put (by decide)
  have e4 : M3 72 4 = 0 := by rw [hM3]; exact qput_eq
  show zG n (0, 0) d 62 (13, [.inr (.inr (some 72)), .inr (.inr (some 68)), .inl a2, .inl a3, .inl a4, .inl x2, zN, zN], []) M3 _
  refine zG_blk (c' := (15, [.inr (.inr (some 72)), .inr (.inr (some 68)), .inl a2, .inl a3, .inl a4, .inl x2, zN, zN], [.inl 0, .inr (.inr (some 72))])) 2 hd0 hz (by rfl) ?_
  refine zG_putf (.inr ⟨rfl, by omega⟩) hd0 hz rfl (by decide) rfl rfl ?_
  obtain ⟨M5, hM5⟩ : ∃ X : zM, X = zput M3 72 5 0 := ⟨_, rfl⟩
  rw [← hM5]
  have hCM5 : qCI M5 := by rw [hM5]; exact hCM3.putUm (by omega)
  have hWM5 : qFr [72, 73] M M5 := by rw [hM5]; exact hWM3.put (by decide)
  have e6 : M5 72 4 = M3 72 4 := by rw [hM5]; exact qput_nk (by decide)
  have e7 : M5 72 5 = 0 := by rw [hM5]; exact qput_eq
  show zG n (0, 0) d 62 (18, [.inr (.inr (some 72)), .inr (.inr (some 68)), .inl a2, .inl a3, .inl a4, .inl x2, zN, zN], []) M5 _
  refine zG_blk (c' := (21, [.inr (.inr (some 72)), .inr (.inr (some 68)), .inl a2, .inl a3, .inl a4, .inl x2, .inl 1, zN], [])) 2 hd0 hz (by rfl) ?_
  have j21 : ∀ (N : Nat) (v8 : Int) (M9 : zM) , (81 - v8 : Int).toNat < N → 1 ≤ v8 ∧ v8 ≤ 81 → qCI M9 → qFr [72, 73] M M9 → zG n (0, 0) d 62 (21, [.inr (.inr (some 72)), .inr (.inr (some 68)), .inl a2, .inl a3, .inl a4, .inl x2, .inl v8, zN], []) M9 (fun v M' => qWf qCI [72, 73] M M' ∧ qRl v) := by
    intro N
    induction N with
    | zero => intro v8 M9 hN hv8 hCM9 hWM9; exact absurd hN (Nat.not_lt_zero _)
    | succ N ih21 =>
      intro v8 M9 hN hv8 hCM9 hWM9
      refine zG_blk (c' := (25, [.inr (.inr (some 72)), .inr (.inr (some 68)), .inl a2, .inl a3, .inl a4, .inl x2, .inl v8, zN], [.inl x2, .inl v8])) 2 hd0 hz (by rfl) ?_
      have j77 : zG n (0, 0) d 62 (77, [.inr (.inr (some 72)), .inr (.inr (some 68)), .inl a2, .inl a3, .inl a4, .inl x2, .inl v8, zN], []) M9 (fun v M' => qWf qCI [72, 73] M M' ∧ qRl v) := by
        refine zG_blk (c' := (78, [.inr (.inr (some 72)), .inr (.inr (some 68)), .inl a2, .inl a3, .inl a4, .inl x2, .inl v8, zN], [.inr (.inr (some 72))])) 1 hd0 hz (by rfl) ?_
        refine zG_call hd0 hz zp_66 rfl rfl (Nat.le_of_ble_eq_true rfl) ⟨Nat.le_refl _, Nat.le_refl _⟩ (qm_66_72 (by first | exact zdp hd (by decide) | omega) hCM9  ) (fun vr M10 hr => ?_)
        obtain ⟨⟨hCM10, hFM10⟩, x11, rfl⟩ := hr
        have hWM10 : qFr [72, 73] M M10 := hWM9.tr hFM10 (by decide)
        show zG n (0, 0) d 62 (81, [.inr (.inr (some 72)), .inr (.inr (some 68)), .inl a2, .inl a3, .inl a4, .inl x2, .inl v8, zN], [.inr (.inl (x11))]) M10 _
        exact zG_ret hd0 hz rfl rfl ⟨⟨hCM10, hWM10⟩, _, rfl⟩
      refine zG_icmp_gt hd0 hz rfl (fun hb12 => ?_) (fun hb12 => ?_)
      · exact j77
      · refine zG_blk (c' := (32, [.inr (.inr (some 72)), .inr (.inr (some 68)), .inl a2, .inl a3, .inl a4, .inl x2, .inl v8, zN], [.inl 80, .inl v8])) 2 hd0 hz (by rfl) ?_
        refine zG_icmp_gt hd0 hz rfl (fun hb13 => ?_) (fun hb13 => ?_)
        · exact j77
        · obtain ⟨x14, hx14⟩ : ∃ x : Int, x = w32 (a3 + v8) := ⟨_, rfl⟩
          have hx14r : x14 = (a3 + v8 + 2147483648) % 4294967296 - 2147483648 := hx14
          refine zG_blk (c' := (41, [.inr (.inr (some 72)), .inr (.inr (some 68)), .inl a2, .inl a3, .inl a4, .inl x2, .inl v8, zN], [.inl x14, .inl a2, .inr (.inr (some 68))])) 5 hd0 hz (by subst hx14; rfl) ?_
          refine zG_call hd0 hz zp_106 rfl rfl (Nat.le_of_ble_eq_true rfl) ⟨Nat.le_refl _, Nat.le_refl _⟩ (qw_get (by first | exact zdp hd (by decide) | omega) hCM9 (⟨by decide, rfl, rfl⟩ : qT n 68 1 81) a2 (by first | with_reducible exact ha2 | omega) x14 (by omega)) (fun vr M15 hr => ?_)
          obtain ⟨hq, x16, rfl, hx16⟩ := hr
          replace hq := hq.symm; subst hq
          show zG n (0, 0) d 62 (44, [.inr (.inr (some 72)), .inr (.inr (some 68)), .inl a2, .inl a3, .inl a4, .inl x2, .inl v8, zN], [.inl x16]) M9 _
          refine zG_blk (c' := (48, [.inr (.inr (some 72)), .inr (.inr (some 68)), .inl a2, .inl a3, .inl a4, .inl x2, .inl v8, .inl x16], [.inl x16])) 2 hd0 hz (by rfl) ?_
          have j71 : ∀ (M17 : zM) , qCI M17 → qFr [72, 73] M M17 → zG n (0, 0) d 62 (71, [.inr (.inr (some 72)), .inr (.inr (some 68)), .inl a2, .inl a3, .inl a4, .inl x2, .inl v8, .inl x16], []) M17 (fun v M' => qWf qCI [72, 73] M M' ∧ qRl v) := by
            intro M17 hCM17 hWM17
            obtain ⟨x18, hx18⟩ : ∃ x : Int, x = w32 (v8 + 1) := ⟨_, rfl⟩
            have hx18e : x18 = v8 + 1 := by rw [hx18]; exact w32_id (by omega)
            refine zG_blk (c' := (21, [.inr (.inr (some 72)), .inr (.inr (some 68)), .inl a2, .inl a3, .inl a4, .inl x2, .inl x18, .inl x16], [])) 2 hd0 hz (by subst hx18; rfl) ?_
            exact zG_weak (ih21 x18 M17 (by omega) (by omega) hCM17 hWM17) ⟨.inr rfl, .inr rfl, .inr rfl, .inr rfl, .inr rfl, .inr rfl, .inr rfl, .inl rfl, trivial⟩
          refine zG_if_lt hd0 hz rfl (fun hb19 => ?_) (fun hb19 => ?_)
          · obtain ⟨x20, hx20⟩ : ∃ x : Int, x = zbxor x16 (-1) := ⟨_, rfl⟩
            have hx20r : qin x20 := by rw [hx20]; exact qb32 _
            refine zG_blk (c' := (68, [.inr (.inr (some 72)), .inr (.inr (some 68)), .inl a2, .inl a3, .inl a4, .inl x2, .inl v8, .inl x16], [.inl a4, .inl x20, .inr (.inr (some 72))])) 5 hd0 hz (by subst hx20; rfl) ?_
            refine zG_call hd0 hz zp_63 rfl rfl (Nat.le_of_ble_eq_true rfl) ⟨Nat.le_refl _, Nat.le_refl _⟩ (qm_63_72 (by first | exact zdp hd (by decide) | omega) hCM9  x20 (by omega) a4 (by first | with_reducible exact ha4 | omega)) (fun vr M21 hr => ?_)
            obtain ⟨⟨hCM21, hFM21⟩, rfl⟩ := hr
            have hWM21 : qFr [72, 73] M M21 := hWM9.tr hFM21 (by decide)
            show zG n (0, 0) d 62 (71, [.inr (.inr (some 72)), .inr (.inr (some 68)), .inl a2, .inl a3, .inl a4, .inl x2, .inl v8, .inl x16], []) M21 _
            exact j71 M21 hCM21 hWM21
          · refine zG_blk (c' := (55, [.inr (.inr (some 72)), .inr (.inr (some 68)), .inl a2, .inl a3, .inl a4, .inl x2, .inl v8, .inl x16], [.inr (.inl (x16)), .inr (.inr (some 72))])) 3 hd0 hz (by rfl) ?_
            refine zG_call hd0 hz zp_65 rfl rfl (Nat.le_of_ble_eq_true rfl) ⟨Nat.le_refl _, Nat.le_refl _⟩ (qm_65_72 (by first | exact zdp hd (by decide) | omega) hCM9  x16) (fun vr M23 hr => ?_)
            obtain ⟨⟨hCM23, hFM23⟩, rfl⟩ := hr
            have hWM23 : qFr [72, 73] M M23 := hWM9.tr hFM23 (by decide)
            show zG n (0, 0) d 62 (58, [.inr (.inr (some 72)), .inr (.inr (some 68)), .inl a2, .inl a3, .inl a4, .inl x2, .inl v8, .inl x16], []) M23 _
            refine zG_blk (c' := (71, [.inr (.inr (some 72)), .inr (.inr (some 68)), .inl a2, .inl a3, .inl a4, .inl x2, .inl v8, .inl x16], [])) 1 hd0 hz (by rfl) ?_
            exact j71 M23 hCM23 hWM23
  exact j21 ((81 - 1 : Int).toNat + 1) 1 M5 (by omega) (by omega) hCM5 hWM5
