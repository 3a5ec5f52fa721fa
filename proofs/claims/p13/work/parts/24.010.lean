theorem qm_38_76 {n d : Nat} {M : zM} (hd : 3 ≤ d) (hC : qCI M) (a1 : Int) (ha1 : (-2147483648) ≤ a1 ∧ a1 ≤ 2147483647) (a2 : Int) (ha2 : (-2147483648) ≤ a2 ∧ a2 ≤ 2147483647) (a3 : Int) (ha3 : (-2147483648) ≤ a3 ∧ a3 ≤ 2147483647) : qOkM n d 38 [.inr (.inr (some 76)), .inl a1, .inl a2, .inl a3] 5 qCI [72, 74] M qRn := by
  have hz := zp_38
  have hd0 : 0 < d := by omega
  have hW : qFr [72, 74] M M := qFr.rfl
  show zG n (0, 0) d 38 (0, [.inr (.inr (some 76)), .inl a1, .inl a2, .inl a3, zN], []) M _
  refine zG_blk (c' := (9, [.inr (.inr (some 76)), .inl a1, .inl a2, .inl a3, zN], [.inl 1, .inl a2, .inr (.inr (some 10))])) 5 hd0 hz (by rfl) ?_
  refine zG_call hd0 hz zp_106 rfl rfl (Nat.le_of_ble_eq_true rfl) ⟨Nat.le_refl _, Nat.le_refl _⟩ (qw_get (by first | exact zdp hd (by decide) | omega) hC (⟨by decide, rfl, rfl⟩ : qT n 10 14 4) a2 (by first | with_reducible exact ha2 | omega) 1 (by first | decide | omega)) (fun vr M1 hr => ?_)
  obtain ⟨hq, x2, rfl, hx2⟩ := hr
  replace hq := hq.symm; subst hq
  show zG n (0, 0) d 38 (12, [.inr (.inr (some 76)), .inl a1, .inl a2, .inl a3, zN], [.inl x2]) M _
  refine zG_blk (c' := (18, [.inr (.inr (some 76)), .inl a1, .inl a2, .inl a3, .inl x2], [.inr (.inr (some 72))])) 3 hd0 hz (by rfl) ?_
  refine zG_call hd0 hz zp_56 rfl rfl (Nat.le_of_ble_eq_true rfl) ⟨Nat.le_refl _, Nat.le_refl _⟩ (qm_56_72 (by first | exact zdp hd (by decide) | omega) hC  ) (fun vr M3 hr => ?_)
  obtain ⟨⟨hCM3, hFM3⟩, rfl⟩ := hr
  have hWM3 : qFr [72, 74] M M3 := hW.tr hFM3 (by decide)
  show zG n (0, 0) d 38 (21, [.inr (.inr (some 76)), .inl a1, .inl a2, .inl a3, .inl x2], []) M3 _
  refine zG_blk (c' := (33, [.inr (.inr (some 76)), .inl a1, .inl a2, .inl a3, .inl x2], [.inl a2, .inl a1, .inr (.inr (some 60)), .inl 7, .inr (.inr (some 72))])) 7 hd0 hz (by rfl) ?_
  refine zG_call hd0 hz zp_44 rfl rfl (Nat.le_of_ble_eq_true rfl) ⟨Nat.le_refl _, Nat.le_refl _⟩ (qm_44_60 (by first | exact zdp hd (by decide) | omega) hCM3  a1 (by first | with_reducible exact ha1 | omega) a2 (by first | with_reducible exact ha2 | omega)) (fun vr M5 hr => ?_)
  obtain ⟨hq, x6, rfl, hx6⟩ := hr
  replace hq := hq.symm; subst hq
  show zG n (0, 0) d 38 (36, [.inr (.inr (some 76)), .inl a1, .inl a2, .inl a3, .inl x2], [.inl x6, .inl 7, .inr (.inr (some 72))]) M3 _
  refine zG_blk (c' := (37, [.inr (.inr (some 76)), .inl a1, .inl a2, .inl a3, .inl x2], [.inr (.inl (x6)), .inl 7, .inr (.inr (some 72))])) 1 hd0 hz (by rfl) ?_
  refine zG_call hd0 hz zp_57 rfl rfl (Nat.le_of_ble_eq_true rfl) ⟨Nat.le_refl _, Nat.le_refl _⟩ (qm_57_72 (by first | exact zdp hd (by decide) | omega) hCM3  7 (by first | decide | omega) x6) (fun vr M7 hr => ?_)
  obtain ⟨⟨hCM7, hFM7⟩, rfl⟩ := hr
  have hWM7 : qFr [72, 74] M M7 := hWM3.tr hFM7 (by decide)
  show zG n (0, 0) d 38 (40, [.inr (.inr (some 76)), .inl a1, .inl a2, .inl a3, .inl x2], []) M7 _
  refine zG_blk (c' := (52, [.inr (.inr (some 76)), .inl a1, .inl a2, .inl a3, .inl x2], [.inl a2, .inl a1, .inr (.inr (some 60)), .inl 8, .inr (.inr (some 72))])) 7 hd0 hz (by rfl) ?_
  refine zG_call hd0 hz zp_45 rfl rfl (Nat.le_of_ble_eq_true rfl) ⟨Nat.le_refl _, Nat.le_refl _⟩ (qm_45_60 (by first | exact zdp hd (by decide) | omega) hCM7  a1 (by first | with_reducible exact ha1 | omega) a2 (by first | with_reducible exact ha2 | omega)) (fun vr M9 hr => ?_)
  obtain ⟨hq, x10, rfl, hx10⟩ := hr
  replace hq := hq.symm; subst hq
  show zG n (0, 0) d 38 (55, [.inr (.inr (some 76)), .inl a1, .inl a2, .inl a3, .inl x2], [.inl x10, .inl 8, .inr (.inr (some 72))]) M7 _
  refine zG_blk (c' := (56, [.inr (.inr (some 76)), .inl a1, .inl a2, .inl a3, .inl x2], [.inr (.inl (x10)), .inl 8, .inr (.inr (some 72))])) 1 hd0 hz (by rfl) ?_
  refine zG_call hd0 hz zp_57 rfl rfl (Nat.le_of_ble_eq_true rfl) ⟨Nat.le_refl _, Nat.le_refl _⟩ (qm_57_72 (by first | exact zdp hd (by decide) | omega) hCM7  8 (by first | decide | omega) x10) (fun vr M11 hr => ?_)
  obtain ⟨⟨hCM11, hFM11⟩, rfl⟩ := hr
  have hWM11 : qFr [72, 74] M M11 := hWM7.tr hFM11 (by decide)
  show zG n (0, 0) d 38 (59, [.inr (.inr (some 76)), .inl a1, .inl a2, .inl a3, .inl x2], []) M11 _
  refine zG_blk (c' := (71, [.inr (.inr (some 76)), .inl a1, .inl a2, .inl a3, .inl x2], [.inl a2, .inl a1, .inr (.inr (some 60)), .inl 9, .inr (.inr (some 72))])) 7 hd0 hz (by rfl) ?_
  refine zG_call hd0 hz zp_46 rfl rfl (Nat.le_of_ble_eq_true rfl) ⟨Nat.le_refl _, Nat.le_refl _⟩ (qm_46_60 (by first | exact zdp hd (by decide) | omega) hCM11  a1 (by first | with_reducible exact ha1 | omega) a2 (by first | with_reducible exact ha2 | omega)) (fun vr M13 hr => ?_)
  obtain ⟨hq, x14, rfl, hx14⟩ := hr
  replace hq := hq.symm; subst hq
  show zG n (0, 0) d 38 (74, [.inr (.inr (some 76)), .inl a1, .inl a2, .inl a3, .inl x2], [.inl x14, .inl 9, .inr (.inr (some 72))]) M11 _
  refine zG_blk (c' := (75, [.inr (.inr (some 76)), .inl a1, .inl a2, .inl a3, .inl x2], [.inr (.inl (x14)), .inl 9, .inr (.inr (some 72))])) 1 hd0 hz (by rfl) ?_
  refine zG_call hd0 hz zp_57 rfl rfl (Nat.le_of_ble_eq_true rfl) ⟨Nat.le_refl _, Nat.le_refl _⟩ (qm_57_72 (by first | exact zdp hd (by decide) | omega) hCM11  9 (by first | decide | omega) x14) (fun vr M15 hr => ?_)
  obtain ⟨⟨hCM15, hFM15⟩, rfl⟩ := hr
  have hWM15 : qFr [72, 74] M M15 := hWM11.tr hFM15 (by decide)
  show zG n (0, 0) d 38 (78, [.inr (.inr (some 76)), .inl a1, .inl a2, .inl a3, .inl x2], []) M15 _
  obtain ⟨x17, hx17⟩ : ∃ x : Int, x = zband x2 a3 := ⟨_, rfl⟩
  have hx17r : qin x17 := by rw [hx17]; exact qb32 _
  refine zG_blk (c' := (90, [.inr (.inr (some 76)), .inl a1, .inl a2, .inl a3, .inl x2], [.inl x2, .inl x17, .inl 10, .inr (.inr (some 72))])) 7 hd0 hz (by subst hx17; rfl) ?_
  have j98 : ∀ (v18 v19 : Int) , 10 ≤ v18 ∧ v18 ≤ 10 → zG n (0, 0) d 38 (98, [.inr (.inr (some 76)), .inl a1, .inl a2, .inl a3, .inl x2], [.inr (.inl (v19)), .inl v18, .inr (.inr (some 72))]) M15 (fun v M' => qWf qCI [72, 74] M M' ∧ qRn v) := by
    intro v18 v19 hv18
    refine zG_call hd0 hz zp_57 rfl rfl (Nat.le_of_ble_eq_true rfl) ⟨Nat.le_refl _, Nat.le_refl _⟩ (qm_57_72 (by first | exact zdp hd (by decide) | omega) hCM15  v18 (by first | with_reducible exact hv18 | omega) v19) (fun vr M20 hr => ?_)
    obtain ⟨⟨hCM20, hFM20⟩, rfl⟩ := hr
    have hWM20 : qFr [72, 74] M M20 := hWM15.tr hFM20 (by decide)
    show zG n (0, 0) d 38 (101, [.inr (.inr (some 76)), .inl a1, .inl a2, .inl a3, .inl x2], []) M20 _
    refine zG_blk (c' := (109, [.inr (.inr (some 76)), .inl a1, .inl a2, .inl a3, .inl x2], [.inr (.inl (a2)), .inl 11, .inr (.inr (some 72))])) 5 hd0 hz (by rfl) ?_
    refine zG_call hd0 hz zp_57 rfl rfl (Nat.le_of_ble_eq_true rfl) ⟨Nat.le_refl _, Nat.le_refl _⟩ (qm_57_72 (by first | exact zdp hd (by decide) | omega) hCM20  11 (by first | decide | omega) a2) (fun vr M22 hr => ?_)
    obtain ⟨⟨hCM22, hFM22⟩, rfl⟩ := hr
    have hWM22 : qFr [72, 74] M M22 := hWM20.tr hFM22 (by decide)
    show zG n (0, 0) d 38 (112, [.inr (.inr (some 76)), .inl a1, .inl a2, .inl a3, .inl x2], []) M22 _
    exact zG_ret hd0 hz rfl rfl ⟨⟨hCM22, hWM22⟩, rfl⟩
  refine zG_icmp_ne hd0 hz rfl (fun hb24 => ?_) (fun hb24 => ?_)
  · refine zG_blk (c' := (98, [.inr (.inr (some 76)), .inl a1, .inl a2, .inl a3, .inl x2], [.inr (.inl (0)), .inl 10, .inr (.inr (some 72))])) 1 hd0 hz (by rfl) ?_
    exact j98 10 0 (by first | decide | omega)
  · refine zG_blk (c' := (98, [.inr (.inr (some 76)), .inl a1, .inl a2, .inl a3, .inl x2], [.inr (.inl (1)), .inl 10, .inr (.inr (some 72))])) 2 hd0 hz (by rfl) ?_
    exact j98 10 1 (by first | decide | omega)
theorem qm_31_76 {n d : Nat} {M : zM} (hd : 1 ≤ d) (hC : qCI M) (a1 : Int) (ha1 : (-2147483648) ≤ a1 ∧ a1 ≤ 2147483647) : qOkP n d 31 [.inr (.inr (some 76)), .inl a1] 2 M (fun v => v = some (.inr (.inr (some 22))) ∨ v = some (.inr (.inr (some 77)))) := by
  have hz := zp_31
  have hd0 : 0 < d := by omega
  show zG n (0, 0) d 31 (0, [.inr (.inr (some 76)), .inl a1], []) M _
  refine zG_blk (c' := (2, [.inr (.inr (some 76)), .inl a1], [.inl (-1), .inl a1])) 2 hd0 hz (by rfl) ?_
  refine zG_icmp_ne hd0 hz rfl (fun hb1 => ?_) (fun hb1 => ?_)
  · refine zG_blk (c' := (19, [.inr (.inr (some 76)), .inl a1], [.inr (.inr (some 22))])) 3 hd0 hz (by rfl) ?_
    exact zG_ret hd0 hz rfl rfl ⟨rfl, by first | exact .inl rfl | exact .inr rfl⟩
  · refine zG_blk (c' := (19, [.inr (.inr (some 76)), .inl a1], [.inr (.inr (some 77))])) 3 hd0 hz (by rfl) ?_
    exact zG_ret hd0 hz rfl rfl ⟨rfl, by first | exact .inl rfl | exact .inr rfl⟩
theorem qm_65_72 {n d : Nat} {M : zM} (hd : 1 ≤ d) (hC : qCI M) (a1 : Int) : qOkM n d 65 [.inr (.inr (some 72)), .inr (.inl (a1))] 3 qCI [72, 73] M qRn := by
  have hz := zp_65
  have hd0 : 0 < d := by omega
  have hW : qFr [72, 73] M M := qFr.rfl
  show zG n (0, 0) d 65 (0, [.inr (.inr (some 72)), .inr (.inl (a1)), zN], []) M _
  have r1 := hC.rng 72 4 (by decide) (by decide)
  refine zG_blk (c' := (4, [.inr (.inr (some 72)), .inr (.inl (a1)), zN], [.inl (M 72 4)])) 2 hd0 hz (by rfl) ?_
  have j39 : ∀ (M2 : zM) , qCI M2 → qFr [72, 73] M M2 → zG n (0, 0) d 65 (39, [.inr (.inr (some 72)), .inr (.inl (a1)), zN], []) M2 (fun v M' => qWf qCI [72, 73] M M' ∧ qRn v) := by
    intro M2 hCM2 hWM2
    exact zG_ret hd0 hz rfl rfl ⟨⟨hCM2, hWM2⟩, rfl⟩
  refine zG_if_lt hd0 hz rfl (fun hb3 => ?_) (fun hb3 => ?_)
  · exact j39 M hC hW
  · refine zG_blk (c' := (16, [.inr (.inr (some 72)), .inr (.inl (a1)), zN], [.inl 80, .inl (M 72 4)])) 5 hd0 hz (by rfl) ?_
    refine zG_icmp_ge hd0 hz rfl (fun hb4 => ?_) (fun hb4 => ?_)
    · exact j39 M hC hW
    · refine zG_blk (c' := (28, [.inr (.inr (some 72)), .inr (.inl (a1)), zN], [.inr (.inl (a1)), .inl (M 72 4), .inr (.inr (some 73))])) 5 hd0 hz (by rfl) ?_
      refine zG_last hd0 hz rfl rfl (by omega) ?_
      obtain ⟨M5, hM5⟩ : ∃ X : zM, X = zput M 73 ((M 72 4) : Int).toNat a1 := ⟨_, rfl⟩
      rw [← hM5]
      have hCM5 : qCI M5 := by rw [hM5]; exact hC.put (r := 73) rfl (.inr (.inl (by decide)))
      have hWM5 : qFr [72, 73] M M5 := by rw [hM5]; exact hW.put (by decide)
      have e6 : M5 72 4 = M 72 4 := by rw [hM5]; exact qput_ne (by decide)
      show zG n (0, 0) d 65 (29, [.inr (.inr (some 72)), .inr (.inl (a1)), zN], []) M5 _
      obtain ⟨x7, hx7⟩ : ∃ x : Int, x = w32 ((M5 72 4) + 1) := ⟨_, rfl⟩
      have hx7r : x7 = ((M5 72 4) + 1 + 2147483648) % 4294967296 - 2147483648 := hx7
      refine zG_blk (c' := (36, [.inr (.inr (some 72)), .inr (.inl (a1)), zN], [.inl x7, .inr (.inr (some 72))])) 5 hd0 hz (by subst hx7; rfl) ?_
      refine zG_putf (.inl rfl) hd0 hz rfl (by decide) rfl rfl ?_
      obtain ⟨M8, hM8⟩ : ∃ X : zM, X = zput M5 72 4 x7 := ⟨_, rfl⟩
      rw [← hM8]
      have hCM8 : qCI M8 := by rw [hM8]; exact hCM5.put (r := 72) (k := 4) rfl (.inl (by omega))
      have hWM8 : qFr [72, 73] M M8 := by rw [hM8]; exact hWM5.put (by decide)
      have e9 : M8 72 4 = x7 := by rw [hM8]; exact qput_eq
      show zG n (0, 0) d 65 (39, [.inr (.inr (some 72)), .inr (.inl (a1)), zN], []) M8 _
      exact j39 M8 hCM8 hWM8
theorem qm_66_72 {n d : Nat} {M : zM} (hd : 1 ≤ d) (hC : qCI M)  : qOkM n d 66 [.inr (.inr (some 72))] 1 qCI [72] M qRl := by
  have hz := zp_66
  have hd0 : 0 < d := by omega
  have hW : qFr [72] M M := qFr.rfl
  show zG n (0, 0) d 66 (0, [.inr (.inr (some 72))], []) M _
  have r1 := hC.rng 72 4 (by decide) (by decide)
  refine zG_blk (c' := (5, [.inr (.inr (some 72))], [.inl 1, .inl (M 72 4)])) 3 hd0 hz (by rfl) ?_
  have j20 : zG n (0, 0) d 66 (20, [.inr (.inr (some 72))], []) M (fun v M' => qWf qCI [72] M M' ∧ qRl v) := by
    refine zG_blk (c' := (21, [.inr (.inr (some 72))], [.inr (.inl (0))])) 1 hd0 hz (by rfl) ?_
    exact zG_ret hd0 hz rfl rfl ⟨⟨hC, hW⟩, _, rfl⟩
  refine zG_icmp_lt hd0 hz rfl (fun hb2 => ?_) (fun hb2 => ?_)
  · exact j20
  · refine zG_blk (c' := (17, [.inr (.inr (some 72))], [.inl 80, .inl (M 72 4)])) 5 hd0 hz (by rfl) ?_
    refine zG_icmp_le hd0 hz rfl (fun hb3 => ?_) (fun hb3 => ?_)
    · obtain ⟨x4, hx4⟩ : ∃ x : Int, x = w32 ((M 72 4) - 1) := ⟨_, rfl⟩
      have hx4r : x4 = ((M 72 4) - 1 + 2147483648) % 4294967296 - 2147483648 := hx4
      refine zG_blk (c' := (29, [.inr (.inr (some 72))], [.inl x4, .inr (.inr (some 72))])) 5 hd0 hz (by subst hx4; rfl) ?_
      refine zG_putf (.inl rfl) hd0 hz rfl (by decide) rfl rfl ?_
      obtain ⟨M5, hM5⟩ : ∃ X : zM, X = zput M 72 4 x4 := ⟨_, rfl⟩
      rw [← hM5]
      have hCM5 : qCI M5 := by rw [hM5]; exact hC.put (r := 72) (k := 4) rfl (.inl (by omega))
      have hWM5 : qFr [72] M M5 := by rw [hM5]; exact hW.put (by decide)
      have e6 : M5 72 4 = x4 := by rw [hM5]; exact qput_eq
      show zG n (0, 0) d 66 (32, [.inr (.inr (some 72))], []) M5 _
      refine zG_blk (c' := (40, [.inr (.inr (some 72))], [.inl (M5 72 4), .inr (.inr (some 73))])) 4 hd0 hz (by rfl) ?_
      refine zG_lald hd0 hz rfl rfl (.inl rfl) (by omega) ?_
      generalize M5 73 ((M5 72 4) : Int).toNat = x7
      show zG n (0, 0) d 66 (41, [.inr (.inr (some 72))], [.inr (.inl (x7))]) M5 _
      exact zG_ret hd0 hz rfl rfl ⟨⟨hCM5, hWM5⟩, _, rfl⟩
    · exact j20
theorem qm_64 {n d : Nat} {M : zM} (hd : 1 ≤ d) (hC : qCI M) (a0 : Int) (ha0 : (-2147483648) ≤ a0 ∧ a0 ≤ 2147483647) (a1 : Int) (a2 : Int) : qOkP n d 64 [.inl a0, .inr (.inl (a1)), .inr (.inl (a2))] 5 M qRl := by
  have hz := zp_64
  have hd0 : 0 < d := by omega
  show zG n (0, 0) d 64 (0, [.inl a0, .inr (.inl (a1)), zN, .inr (.inl (a2)), zN], []) M _
  refine zG_blk (c' := (1, [.inl a0, .inr (.inl (a1)), zN, .inr (.inl (a2)), zN], [.inl a0])) 1 hd0 hz (by rfl) ?_
  have j104 : zG n (0, 0) d 64 (104, [.inl a0, .inr (.inl (a1)), zN, .inr (.inl (a2)), zN], []) M (fun v M' => M' = M ∧ qRl v) := by
    refine zG_blk (c' := (106, [.inl a0, .inr (.inl (a1)), zN, .inr (.inl (a2)), zN], [.inr (.inl (0)), .inr (.inl (a2))])) 2 hd0 hz (by rfl) ?_
    have j115 : ∀ (v1 : Int) , zG n (0, 0) d 64 (115, [.inl a0, .inr (.inl (a1)), zN, .inr (.inl (a2)), zN], [.inr (.inl (v1))]) M (fun v M' => M' = M ∧ qRl v) := by
      intro v1
      exact zG_ret hd0 hz rfl rfl ⟨rfl, _, rfl⟩
    refine zG_lc_eq hd0 hz rfl rfl (fun hb106 => ?_) (fun hb106 => ?_)
    · refine zG_blk (c' := (115, [.inl a0, .inr (.inl (a1)), zN, .inr (.inl (a2)), zN], [.inr (.inl (a1))])) 1 hd0 hz (by rfl) ?_
      exact j115 a1
    · refine zG_blk (c' := (115, [.inl a0, .inr (.inl (a1)), zN, .inr (.inl (a2)), zN], [.inr (.inl (0))])) 2 hd0 hz (by rfl) ?_
      exact j115 0
  have j116 : zG n (0, 0) d 64 (116, [.inl a0, .inr (.inl (a1)), zN, .inr (.inl (a2)), zN], []) M (fun v M' => M' = M ∧ qRl v) := by
    refine zG_blk (c' := (118, [.inl a0, .inr (.inl (a1)), zN, .inr (.inl (a2)), zN], [.inr (.inl (0)), .inr (.inl (a1))])) 2 hd0 hz (by rfl) ?_
    have j133 : ∀ (v2 : Int) , zG n (0, 0) d 64 (133, [.inl a0, .inr (.inl (a1)), zN, .inr (.inl (a2)), zN], [.inr (.inl (v2))]) M (fun v M' => M' = M ∧ qRl v) := by
      intro v2
      exact zG_ret hd0 hz rfl rfl ⟨rfl, _, rfl⟩
    have j128 : zG n (0, 0) d 64 (128, [.inl a0, .inr (.inl (a1)), zN, .inr (.inl (a2)), zN], []) M (fun v M' => M' = M ∧ qRl v) := by
      refine zG_blk (c' := (133, [.inl a0, .inr (.inl (a1)), zN, .inr (.inl (a2)), zN], [.inr (.inl (1))])) 2 hd0 hz (by rfl) ?_
      exact j133 1
    refine zG_lc_ne hd0 hz rfl rfl (fun hb118 => ?_) (fun hb118 => ?_)
    · exact j128
    · refine zG_blk (c' := (124, [.inl a0, .inr (.inl (a1)), zN, .inr (.inl (a2)), zN], [.inr (.inl (0)), .inr (.inl (a2))])) 2 hd0 hz (by rfl) ?_
      refine zG_lc_eq hd0 hz rfl rfl (fun hb124 => ?_) (fun hb124 => ?_)
      · refine zG_blk (c' := (133, [.inl a0, .inr (.inl (a1)), zN, .inr (.inl (a2)), zN], [.inr (.inl (0))])) 1 hd0 hz (by rfl) ?_
        exact j133 0
      · exact j128
  have j134 : zG n (0, 0) d 64 (134, [.inl a0, .inr (.inl (a1)), zN, .inr (.inl (a2)), zN], []) M (fun v M' => M' = M ∧ qRl v) := by
    refine zG_blk (c' := (136, [.inl a0, .inr (.inl (a1)), zN, .inr (.inl (a2)), zN], [.inr (.inl (0)), .inr (.inl (a1))])) 2 hd0 hz (by rfl) ?_
    have j151 : ∀ (v3 : Int) , zG n (0, 0) d 64 (151, [.inl a0, .inr (.inl (a1)), zN, .inr (.inl (a2)), zN], [.inr (.inl (v3))]) M (fun v M' => M' = M ∧ qRl v) := by
      intro v3
      exact zG_ret hd0 hz rfl rfl ⟨rfl, _, rfl⟩
    have j150 : zG n (0, 0) d 64 (150, [.inl a0, .inr (.inl (a1)), zN, .inr (.inl (a2)), zN], []) M (fun v M' => M' = M ∧ qRl v) := by
      refine zG_blk (c' := (151, [.inl a0, .inr (.inl (a1)), zN, .inr (.inl (a2)), zN], [.inr (.inl (0))])) 1 hd0 hz (by rfl) ?_
      exact j151 0
    refine zG_lc_eq hd0 hz rfl rfl (fun hb136 => ?_) (fun hb136 => ?_)
    · exact j150
    · refine zG_blk (c' := (142, [.inl a0, .inr (.inl (a1)), zN, .inr (.inl (a2)), zN], [.inr (.inl (0)), .inr (.inl (a2))])) 2 hd0 hz (by rfl) ?_
      refine zG_lc_eq hd0 hz rfl rfl (fun hb142 => ?_) (fun hb142 => ?_)
      · exact j150
      · refine zG_blk (c' := (151, [.inl a0, .inr (.inl (a1)), zN, .inr (.inl (a2)), zN], [.inr (.inl (1))])) 2 hd0 hz (by rfl) ?_
        exact j151 1
  have j152 : zG n (0, 0) d 64 (152, [.inl a0, .inr (.inl (a1)), zN, .inr (.inl (a2)), zN], []) M (fun v M' => M' = M ∧ qRl v) := by
    refine zG_blk (c' := (154, [.inl a0, .inr (.inl (a1)), zN, .inr (.inl (a2)), zN], [.inr (.inl (a2)), .inr (.inl (a1))])) 2 hd0 hz (by rfl) ?_
    have j163 : ∀ (v4 : Int) , zG n (0, 0) d 64 (163, [.inl a0, .inr (.inl (a1)), zN, .inr (.inl (a2)), zN], [.inr (.inl (v4))]) M (fun v M' => M' = M ∧ qRl v) := by
      intro v4
      exact zG_ret hd0 hz rfl rfl ⟨rfl, _, rfl⟩
    refine zG_lc_ge hd0 hz rfl rfl (fun hb154 => ?_) (fun hb154 => ?_)
    · refine zG_blk (c' := (163, [.inl a0, .inr (.inl (a1)), zN, .inr (.inl (a2)), zN], [.inr (.inl (0))])) 1 hd0 hz (by rfl) ?_
      exact j163 0
    · refine zG_blk (c' := (163, [.inl a0, .inr (.inl (a1)), zN, .inr (.inl (a2)), zN], [.inr (.inl (1))])) 2 hd0 hz (by rfl) ?_
      exact j163 1
  have j164 : zG n (0, 0) d 64 (164, [.inl a0, .inr (.inl (a1)), zN, .inr (.inl (a2)), zN], []) M (fun v M' => M' = M ∧ qRl v) := by
    refine zG_blk (c' := (166, [.inl a0, .inr (.inl (a1)), zN, .inr (.inl (a2)), zN], [.inr (.inl (a2)), .inr (.inl (a1))])) 2 hd0 hz (by rfl) ?_
    have j175 : ∀ (v5 : Int) , zG n (0, 0) d 64 (175, [.inl a0, .inr (.inl (a1)), zN, .inr (.inl (a2)), zN], [.inr (.inl (v5))]) M (fun v M' => M' = M ∧ qRl v) := by
      intro v5
      exact zG_ret hd0 hz rfl rfl ⟨rfl, _, rfl⟩
    refine zG_lc_le hd0 hz rfl rfl (fun hb166 => ?_) (fun hb166 => ?_)
    · refine zG_blk (c' := (175, [.inl a0, .inr (.inl (a1)), zN, .inr (.inl (a2)), zN], [.inr (.inl (0))])) 1 hd0 hz (by rfl) ?_
      exact j175 0
    · refine zG_blk (c' := (175, [.inl a0, .inr (.inl (a1)), zN, .inr (.inl (a2)), zN], [.inr (.inl (1))])) 2 hd0 hz (by rfl) ?_
      exact j175 1
  have j176 : zG n (0, 0) d 64 (176, [.inl a0, .inr (.inl (a1)), zN, .inr (.inl (a2)), zN], []) M (fun v M' => M' = M ∧ qRl v) := by
    refine zG_blk (c' := (178, [.inl a0, .inr (.inl (a1)), zN, .inr (.inl (a2)), zN], [.inr (.inl (a2)), .inr (.inl (a1))])) 2 hd0 hz (by rfl) ?_
    have j187 : ∀ (v6 : Int) , zG n (0, 0) d 64 (187, [.inl a0, .inr (.inl (a1)), zN, .inr (.inl (a2)), zN], [.inr (.inl (v6))]) M (fun v M' => M' = M ∧ qRl v) := by
      intro v6
      exact zG_ret hd0 hz rfl rfl ⟨rfl, _, rfl⟩
    refine zG_lc_ne hd0 hz rfl rfl (fun hb178 => ?_) (fun hb178 => ?_)
    · refine zG_blk (c' := (187, [.inl a0, .inr (.inl (a1)), zN, .inr (.inl (a2)), zN], [.inr (.inl (0))])) 1 hd0 hz (by rfl) ?_
      exact j187 0
    · refine zG_blk (c' := (187, [.inl a0, .inr (.inl (a1)), zN, .inr (.inl (a2)), zN], [.inr (.inl (1))])) 2 hd0 hz (by rfl) ?_
      exact j187 1
  have j188 : zG n (0, 0) d 64 (188, [.inl a0, .inr (.inl (a1)), zN, .inr (.inl (a2)), zN], []) M (fun v M' => M' = M ∧ qRl v) := by
    obtain ⟨x7, hx7⟩ : ∃ x : Int, x = w64 (a1 + a2) := ⟨_, rfl⟩
    refine zG_blk (c' := (191, [.inl a0, .inr (.inl (a1)), zN, .inr (.inl (a2)), zN], [.inr (.inl (x7))])) 3 hd0 hz (by subst hx7; rfl) ?_
    exact zG_ret hd0 hz rfl rfl ⟨rfl, _, rfl⟩
  have j192 : zG n (0, 0) d 64 (192, [.inl a0, .inr (.inl (a1)), zN, .inr (.inl (a2)), zN], []) M (fun v M' => M' = M ∧ qRl v) := by
    obtain ⟨x8, hx8⟩ : ∃ x : Int, x = w64 (a1 - a2) := ⟨_, rfl⟩
    refine zG_blk (c' := (195, [.inl a0, .inr (.inl (a1)), zN, .inr (.inl (a2)), zN], [.inr (.inl (x8))])) 3 hd0 hz (by subst hx8; rfl) ?_
    exact zG_ret hd0 hz rfl rfl ⟨rfl, _, rfl⟩
  have j196 : zG n (0, 0) d 64 (196, [.inl a0, .inr (.inl (a1)), zN, .inr (.inl (a2)), zN], []) M (fun v M' => M' = M ∧ qRl v) := by
    obtain ⟨x9, hx9⟩ : ∃ x : Int, x = w64 (a1 * a2) := ⟨_, rfl⟩
    refine zG_blk (c' := (199, [.inl a0, .inr (.inl (a1)), zN, .inr (.inl (a2)), zN], [.inr (.inl (x9))])) 3 hd0 hz (by subst hx9; rfl) ?_
    exact zG_ret hd0 hz rfl rfl ⟨rfl, _, rfl⟩
  have j200 : zG n (0, 0) d 64 (200, [.inl a0, .inr (.inl (a1)), zN, .inr (.inl (a2)), zN], []) M (fun v M' => M' = M ∧ qRl v) := by
    refine zG_blk (c' := (202, [.inl a0, .inr (.inl (a1)), zN, .inr (.inl (a2)), zN], [.inr (.inl (0)), .inr (.inl (a2))])) 2 hd0 hz (by rfl) ?_
    have j213 : ∀ (v10 : Int) , zG n (0, 0) d 64 (213, [.inl a0, .inr (.inl (a1)), zN, .inr (.inl (a2)), zN], [.inr (.inl (v10))]) M (fun v M' => M' = M ∧ qRl v) := by
      intro v10
      exact zG_ret hd0 hz rfl rfl ⟨rfl, _, rfl⟩
    refine zG_lc_ne hd0 hz rfl rfl (fun hb202 => ?_) (fun hb202 => ?_)
    · refine zG_blk (c' := (212, [.inl a0, .inr (.inl (a1)), zN, .inr (.inl (a2)), zN], [.inr (.inl (a2)), .inr (.inl (a1))])) 2 hd0 hz (by rfl) ?_
      refine zG_ldiv hd0 hz rfl (by omega) ?_
      generalize w64 (a1.tdiv a2) = x11
      show zG n (0, 0) d 64 (213, [.inl a0, .inr (.inl (a1)), zN, .inr (.inl (a2)), zN], [.inr (.inl (x11))]) M _
      exact j213 x11
    · refine zG_blk (c' := (213, [.inl a0, .inr (.inl (a1)), zN, .inr (.inl (a2)), zN], [.inr (.inl (0))])) 2 hd0 hz (by rfl) ?_
      exact j213 0
  have j214 : zG n (0, 0) d 64 (214, [.inl a0, .inr (.inl (a1)), zN, .inr (.inl (a2)), zN], []) M (fun v M' => M' = M ∧ qRl v) := by
    refine zG_blk (c' := (215, [.inl a0, .inr (.inl (a1)), zN, .inr (.inl (a2)), zN], [.inr (.inl (0))])) 1 hd0 hz (by rfl) ?_
    exact zG_ret hd0 hz rfl rfl ⟨rfl, _, rfl⟩
  refine zG_sw hd0 hz rfl ?_
  refine zts_all (P := fun t => zG n (0, 0) d 64 (t, [.inl a0, .inr (.inl (a1)), zN, .inr (.inl (a2)), zN], []) M _) ?_ ?_
  · exact j214
  · intro t ht
    simp only [List.mem_cons, List.not_mem_nil, or_false] at ht
    rcases ht with rfl | rfl | rfl | rfl | rfl | rfl | rfl | rfl | rfl | rfl | rfl | rfl | rfl | rfl | rfl | rfl | rfl | rfl | rfl | rfl | rfl | rfl
    · exact j104
    · exact j214
    · exact j214
    · exact j116
    · exact j134
    · exact j214
    · exact j214
    · exact j214
    · exact j214
    · exact j214
    · exact j214
    · exact j214
    · exact j214
    · exact j214
    · exact j214
    · exact j152
    · exact j164
    · exact j176
    · exact j188
    · exact j192
    · exact j196
    · exact j200
