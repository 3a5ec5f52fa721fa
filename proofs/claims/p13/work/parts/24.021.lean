theorem qm_79_67 {n d : Nat} {M : zM} (hd : 3 ≤ d) (hC : qCI M)  : qOkM n d 79 [.inr (.inr (some 67))] 1 qCI [67, 69] M qRn := by
  have hz := zp_79
  have hd0 : 0 < d := by omega
  have hW : qFr [67, 69] M M := qFr.rfl
  show zG n (0, 0) d 79 (0, [.inr (.inr (some 67))], []) M _
  have r1 := hC.rng 67 6 (by decide) (by decide)
  have r2 := hC.rng 67 5 (by decide) (by decide)
  obtain ⟨x3, hx3⟩ : ∃ x : Int, x = w32 ((M 67 6) - (M 67 5)) := ⟨_, rfl⟩
  have hx3r : x3 = ((M 67 6) - (M 67 5) + 2147483648) % 4294967296 - 2147483648 := hx3
  refine zG_blk (c' := (11, [.inr (.inr (some 67))], [.inl 6, .inl x3])) 6 hd0 hz (by subst hx3; rfl) ?_
  refine zG_icmp_le hd0 hz rfl (fun hb4 => ?_) (fun hb4 => ?_)
  · have r5 := hC.rng 67 8 (by decide) (by decide)
    refine zG_blk (c' := (25, [.inr (.inr (some 67))], [.inl (M 67 8), .inr (.inr (some 67))])) 3 hd0 hz (by rfl) ?_
    refine zG_call hd0 hz zp_89 rfl rfl (Nat.le_of_ble_eq_true rfl) ⟨Nat.le_refl _, Nat.le_refl _⟩ (qm_89_67 (by first | exact zdp hd (by decide) | omega) hC  (M 67 8) (by omega)) (fun vr M6 hr => ?_)
    obtain ⟨⟨hCM6, hFM6⟩, rfl⟩ := hr
    have hWM6 : qFr [67, 69] M M6 := hW.tr hFM6 (by decide)
    have e8 : M6 67 6 = M 67 6 := hFM6 67 6 (by decide)
    have e9 : M6 67 5 = M 67 5 := hFM6 67 5 (by decide)
    have e10 : M6 67 8 = M 67 8 := hFM6 67 8 (by decide)
    show zG n (0, 0) d 79 (28, [.inr (.inr (some 67))], []) M6 _
    refine zG_blk (c' := (30, [.inr (.inr (some 67))], [.inl 0, .inr (.inr (some 67))])) 2 hd0 hz (by rfl) ?_
    refine zG_putf (.inr ⟨rfl, by omega⟩) hd0 hz rfl (by decide) rfl rfl ?_
    obtain ⟨M11, hM11⟩ : ∃ X : zM, X = zput M6 67 11 0 := ⟨_, rfl⟩
    rw [← hM11]
    have hCM11 : qCI M11 := by rw [hM11]; exact hCM6.put (r := 67) (k := 11) rfl (.inl (by omega))
    have hWM11 : qFr [67, 69] M M11 := by rw [hM11]; exact hWM6.put (by decide)
    have e12 : M11 67 6 = M6 67 6 := by rw [hM11]; exact qput_nk (by decide)
    have e13 : M11 67 5 = M6 67 5 := by rw [hM11]; exact qput_nk (by decide)
    have e14 : M11 67 8 = M6 67 8 := by rw [hM11]; exact qput_nk (by decide)
    have e15 : M11 67 11 = 0 := by rw [hM11]; exact qput_eq
    show zG n (0, 0) d 79 (33, [.inr (.inr (some 67))], []) M11 _
    exact zG_ret hd0 hz rfl rfl ⟨⟨hCM11, hWM11⟩, rfl⟩
  · refine zG_blk (c' := (16, [.inr (.inr (some 67))], [.inl 2, .inr (.inr (some 67))])) 2 hd0 hz (by rfl) ?_
    refine zG_call hd0 hz zp_92 rfl rfl (Nat.le_of_ble_eq_true rfl) ⟨Nat.le_refl _, Nat.le_refl _⟩ (qm_92_67 (by first | exact zdp hd (by decide) | omega) hC  2 (by first | decide | omega)) (fun vr M16 hr => ?_)
    obtain ⟨⟨hCM16, hFM16⟩, rfl⟩ := hr
    have hWM16 : qFr [67, 69] M M16 := hW.tr hFM16 (by decide)
    show zG n (0, 0) d 79 (19, [.inr (.inr (some 67))], []) M16 _
    exact zG_ret hd0 hz rfl rfl ⟨⟨hCM16, hWM16⟩, rfl⟩
theorem qm_77_67 {n d : Nat} {M : zM} (hd : 4 ≤ d) (hC : qCI M)  : qOkM n d 77 [.inr (.inr (some 67))] 1 qCI [67, 69, 70, 71] M qRn := by
  have hz := zp_77
  have hd0 : 0 < d := by omega
  have hW : qFr [67, 69, 70, 71] M M := qFr.rfl
  show zG n (0, 0) d 77 (0, [.inr (.inr (some 67))], []) M _
  have r1 := hC.rng 67 7 (by decide) (by decide)
  refine zG_blk (c' := (4, [.inr (.inr (some 67))], [.inl (M 67 7)])) 2 hd0 hz (by rfl) ?_
  have j157 : ∀ (M2 : zM) , qCI M2 → qFr [67, 69, 70, 71] M M2 → zG n (0, 0) d 77 (157, [.inr (.inr (some 67))], []) M2 (fun v M' => qWf qCI [67, 69, 70, 71] M M' ∧ qRn v) := by
    intro M2 hCM2 hWM2
    exact zG_ret hd0 hz rfl rfl ⟨⟨hCM2, hWM2⟩, rfl⟩
  have j100 : zG n (0, 0) d 77 (100, [.inr (.inr (some 67))], []) M (fun v M' => qWf qCI [67, 69, 70, 71] M M' ∧ qRn v) := by
    refine zG_blk (c' := (101, [.inr (.inr (some 67))], [.inr (.inr (some 67))])) 1 hd0 hz (by rfl) ?_
    refine zG_call hd0 hz zp_79 rfl rfl (Nat.le_of_ble_eq_true rfl) ⟨Nat.le_refl _, Nat.le_refl _⟩ (qm_79_67 (by first | exact zdp hd (by decide) | omega) hC  ) (fun vr M3 hr => ?_)
    obtain ⟨⟨hCM3, hFM3⟩, rfl⟩ := hr
    have hWM3 : qFr [67, 69, 70, 71] M M3 := hW.tr hFM3 (by decide)
    show zG n (0, 0) d 77 (104, [.inr (.inr (some 67))], []) M3 _
    refine zG_blk (c' := (157, [.inr (.inr (some 67))], [])) 1 hd0 hz (by rfl) ?_
    exact j157 M3 hCM3 hWM3
  have j107 : zG n (0, 0) d 77 (107, [.inr (.inr (some 67))], []) M (fun v M' => qWf qCI [67, 69, 70, 71] M M' ∧ qRn v) := by
    obtain ⟨x5, hx5⟩ : ∃ x : Int, x = zbxor (M 67 7) (-1) := ⟨_, rfl⟩
    have hx5r : qin x5 := by rw [hx5]; exact qb32 _
    refine zG_blk (c' := (114, [.inr (.inr (some 67))], [.inl x5, .inr (.inr (some 67))])) 5 hd0 hz (by subst hx5; rfl) ?_
    refine zG_call hd0 hz zp_89 rfl rfl (Nat.le_of_ble_eq_true rfl) ⟨Nat.le_refl _, Nat.le_refl _⟩ (qm_89_67 (by first | exact zdp hd (by decide) | omega) hC  x5 (by omega)) (fun vr M6 hr => ?_)
    obtain ⟨⟨hCM6, hFM6⟩, rfl⟩ := hr
    have hWM6 : qFr [67, 69, 70, 71] M M6 := hW.tr hFM6 (by decide)
    have e8 : M6 67 7 = M 67 7 := hFM6 67 7 (by decide)
    show zG n (0, 0) d 77 (117, [.inr (.inr (some 67))], []) M6 _
    refine zG_blk (c' := (119, [.inr (.inr (some 67))], [.inl 0, .inr (.inr (some 67))])) 2 hd0 hz (by rfl) ?_
    refine zG_putf (.inr ⟨rfl, by omega⟩) hd0 hz rfl (by decide) rfl rfl ?_
    obtain ⟨M9, hM9⟩ : ∃ X : zM, X = zput M6 67 11 0 := ⟨_, rfl⟩
    rw [← hM9]
    have hCM9 : qCI M9 := by rw [hM9]; exact hCM6.put (r := 67) (k := 11) rfl (.inl (by omega))
    have hWM9 : qFr [67, 69, 70, 71] M M9 := by rw [hM9]; exact hWM6.put (by decide)
    have e10 : M9 67 7 = M6 67 7 := by rw [hM9]; exact qput_nk (by decide)
    have e11 : M9 67 11 = 0 := by rw [hM9]; exact qput_eq
    show zG n (0, 0) d 77 (122, [.inr (.inr (some 67))], []) M9 _
    refine zG_blk (c' := (157, [.inr (.inr (some 67))], [])) 1 hd0 hz (by rfl) ?_
    exact j157 M9 hCM9 hWM9
  have j125 : zG n (0, 0) d 77 (125, [.inr (.inr (some 67))], []) M (fun v M' => qWf qCI [67, 69, 70, 71] M M' ∧ qRn v) := by
    refine zG_blk (c' := (130, [.inr (.inr (some 67))], [.inl (M 67 7), .inr (.inr (some 67))])) 3 hd0 hz (by rfl) ?_
    refine zG_call hd0 hz zp_87 rfl rfl (Nat.le_of_ble_eq_true rfl) ⟨Nat.le_refl _, Nat.le_refl _⟩ (qm_87_67 (by first | exact zdp hd (by decide) | omega) hC  (M 67 7) (by omega)) (fun vr M12 hr => ?_)
    obtain ⟨⟨hCM12, hFM12⟩, rfl⟩ := hr
    have hWM12 : qFr [67, 69, 70, 71] M M12 := hW.tr hFM12 (by decide)
    have e14 : M12 67 7 = M 67 7 := hFM12 67 7 (by decide)
    show zG n (0, 0) d 77 (133, [.inr (.inr (some 67))], []) M12 _
    refine zG_blk (c' := (157, [.inr (.inr (some 67))], [])) 1 hd0 hz (by rfl) ?_
    exact j157 M12 hCM12 hWM12
  have j136 : zG n (0, 0) d 77 (136, [.inr (.inr (some 67))], []) M (fun v M' => qWf qCI [67, 69, 70, 71] M M' ∧ qRn v) := by
    refine zG_blk (c' := (139, [.inr (.inr (some 67))], [.inl 26, .inr (.inr (some 67))])) 2 hd0 hz (by rfl) ?_
    refine zG_call hd0 hz zp_87 rfl rfl (Nat.le_of_ble_eq_true rfl) ⟨Nat.le_refl _, Nat.le_refl _⟩ (qm_87_67 (by first | exact zdp hd (by decide) | omega) hC  26 (by first | decide | omega)) (fun vr M15 hr => ?_)
    obtain ⟨⟨hCM15, hFM15⟩, rfl⟩ := hr
    have hWM15 : qFr [67, 69, 70, 71] M M15 := hW.tr hFM15 (by decide)
    have e17 : M15 67 7 = M 67 7 := hFM15 67 7 (by decide)
    show zG n (0, 0) d 77 (142, [.inr (.inr (some 67))], []) M15 _
    refine zG_blk (c' := (157, [.inr (.inr (some 67))], [])) 1 hd0 hz (by rfl) ?_
    exact j157 M15 hCM15 hWM15
  have j145 : zG n (0, 0) d 77 (145, [.inr (.inr (some 67))], []) M (fun v M' => qWf qCI [67, 69, 70, 71] M M' ∧ qRn v) := by
    refine zG_blk (c' := (146, [.inr (.inr (some 67))], [.inr (.inr (some 67))])) 1 hd0 hz (by rfl) ?_
    refine zG_call hd0 hz zp_80 rfl rfl (Nat.le_of_ble_eq_true rfl) ⟨Nat.le_refl _, Nat.le_refl _⟩ (qm_80_67 (by first | exact zdp hd (by decide) | omega) hC  ) (fun vr M18 hr => ?_)
    obtain ⟨⟨hCM18, hFM18⟩, rfl⟩ := hr
    have hWM18 : qFr [67, 69, 70, 71] M M18 := hW.tr hFM18 (by decide)
    show zG n (0, 0) d 77 (149, [.inr (.inr (some 67))], []) M18 _
    refine zG_blk (c' := (157, [.inr (.inr (some 67))], [])) 1 hd0 hz (by rfl) ?_
    exact j157 M18 hCM18 hWM18
  have j152 : zG n (0, 0) d 77 (152, [.inr (.inr (some 67))], []) M (fun v M' => qWf qCI [67, 69, 70, 71] M M' ∧ qRn v) := by
    refine zG_blk (c' := (154, [.inr (.inr (some 67))], [.inl 1, .inr (.inr (some 67))])) 2 hd0 hz (by rfl) ?_
    refine zG_call hd0 hz zp_92 rfl rfl (Nat.le_of_ble_eq_true rfl) ⟨Nat.le_refl _, Nat.le_refl _⟩ (qm_92_67 (by first | exact zdp hd (by decide) | omega) hC  1 (by first | decide | omega)) (fun vr M20 hr => ?_)
    obtain ⟨⟨hCM20, hFM20⟩, rfl⟩ := hr
    have hWM20 : qFr [67, 69, 70, 71] M M20 := hW.tr hFM20 (by decide)
    show zG n (0, 0) d 77 (157, [.inr (.inr (some 67))], []) M20 _
    exact j157 M20 hCM20 hWM20
  refine zG_sw hd0 hz rfl ?_
  refine zts_all (P := fun t => zG n (0, 0) d 77 (t, [.inr (.inr (some 67))], []) M _) ?_ ?_
  · exact j152
  · intro t ht
    simp only [List.mem_cons, List.not_mem_nil, or_false] at ht
    rcases ht with rfl | rfl | rfl | rfl | rfl | rfl | rfl | rfl | rfl | rfl | rfl | rfl | rfl | rfl | rfl | rfl | rfl | rfl | rfl | rfl
    · exact j125
    · exact j125
    · exact j107
    · exact j107
    · exact j107
    · exact j107
    · exact j107
    · exact j107
    · exact j107
    · exact j107
    · exact j152
    · exact j152
    · exact j152
    · exact j152
    · exact j136
    · exact j152
    · exact j152
    · exact j145
    · exact j152
    · exact j100
theorem qm_88_67 {n d : Nat} {M : zM} (hd : 2 ≤ d) (hC : qCI M)  : qOkP n d 88 [.inr (.inr (some 67))] 1 M (qRi (fun x => (-2147483648) ≤ x ∧ x ≤ 2147483647)) := by
  have hz := zp_88
  have hd0 : 0 < d := by omega
  show zG n (0, 0) d 88 (0, [.inr (.inr (some 67))], []) M _
  refine zG_blk (c' := (8, [.inr (.inr (some 67))], [.inr (.inr (some 70)), .inr (.inr (some 70))])) 4 hd0 hz (by rfl) ?_
  refine zG_call hd0 hz zp_101 rfl rfl (Nat.le_of_ble_eq_true rfl) ⟨Nat.le_refl _, Nat.le_refl _⟩ (qw_size (by first | exact zdp hd (by decide) | omega) hC (⟨by decide, rfl, rfl⟩ : qT n 70 80 1) ) (fun vr M1 hr => ?_)
  obtain ⟨hq, x2, rfl, hx2⟩ := hr
  replace hq := hq.symm; subst hq
  show zG n (0, 0) d 88 (11, [.inr (.inr (some 67))], [.inl x2, .inr (.inr (some 70))]) M _
  obtain ⟨x3, hx3⟩ : ∃ x : Int, x = w32 (x2 - 1) := ⟨_, rfl⟩
  have hx3e : x3 = x2 - 1 := by rw [hx3]; exact w32_id (by omega)
  refine zG_blk (c' := (14, [.inr (.inr (some 67))], [.inl 0, .inl x3, .inr (.inr (some 70))])) 3 hd0 hz (by subst hx3; rfl) ?_
  refine zG_call hd0 hz zp_106 rfl rfl (Nat.le_of_ble_eq_true rfl) ⟨Nat.le_refl _, Nat.le_refl _⟩ (qw_get (by first | exact zdp hd (by decide) | omega) hC (⟨by decide, rfl, rfl⟩ : qT n 70 80 1) x3 (by omega) 0 (by first | decide | omega)) (fun vr M4 hr => ?_)
  obtain ⟨hq, x5, rfl, hx5⟩ := hr
  replace hq := hq.symm; subst hq
  show zG n (0, 0) d 88 (17, [.inr (.inr (some 67))], [.inl x5]) M _
  exact zG_ret hd0 hz rfl rfl ⟨rfl, _, rfl, by omega⟩
theorem qm_90 {n d : Nat} {M : zM} (hd : 1 ≤ d) (hC : qCI M) (a0 : Int) (ha0 : (-2147483648) ≤ a0 ∧ a0 ≤ 2147483647) : qOkP n d 90 [.inl a0] 1 M (qRi (fun x => (-2147483648) ≤ x ∧ x ≤ 2147483647)) := by
  have hz := zp_90
  have hd0 : 0 < d := by omega
  show zG n (0, 0) d 90 (0, [.inl a0], []) M _
  refine zG_blk (c' := (1, [.inl a0], [.inl a0])) 1 hd0 hz (by rfl) ?_
  have j21 : ∀ (v1 : Int) , (-2147483648) ≤ v1 ∧ v1 ≤ 2147483647 → zG n (0, 0) d 90 (21, [.inl a0], [.inl v1]) M (fun v M' => M' = M ∧ qRi (fun x => (-2147483648) ≤ x ∧ x ≤ 2147483647) v) := by
    intro v1 hv1
    exact zG_ret hd0 hz rfl rfl ⟨rfl, _, rfl, by omega⟩
  have j20 : zG n (0, 0) d 90 (20, [.inl a0], []) M (fun v M' => M' = M ∧ qRi (fun x => (-2147483648) ≤ x ∧ x ≤ 2147483647) v) := by
    refine zG_blk (c' := (21, [.inl a0], [.inl 0])) 1 hd0 hz (by rfl) ?_
    exact j21 0 (by first | decide | omega)
  refine zG_if_lt hd0 hz rfl (fun hb2 => ?_) (fun hb2 => ?_)
  · exact j20
  · refine zG_blk (c' := (9, [.inl a0], [.inl 27, .inl a0])) 3 hd0 hz (by rfl) ?_
    refine zG_icmp_ge hd0 hz rfl (fun hb3 => ?_) (fun hb3 => ?_)
    · exact j20
    · refine zG_blk (c' := (16, [.inl a0], [.inl a0, .inr (.inr (some 1))])) 2 hd0 hz (by rfl) ?_
      refine zG_iald hd0 hz rfl rfl (.inr rfl) (by omega) ?_
      have hx4 := hC.rng 1 (a0 : Int).toNat (by decide) (by decide)
      generalize M 1 (a0 : Int).toNat = x4 at hx4 ⊢
      show zG n (0, 0) d 90 (17, [.inl a0], [.inl x4]) M _
      refine zG_blk (c' := (21, [.inl a0], [.inl x4])) 1 hd0 hz (by rfl) ?_
      exact j21 x4 (by omega)
theorem qm_84_67 {n d : Nat} {M : zM} (hd : 3 ≤ d) (hC : qCI M) (a1 : Int) (ha1 : (-2147483648) ≤ a1 ∧ a1 ≤ 2147483647) : qOkM n d 84 [.inr (.inr (some 67)), .inl a1] 3 qCI [69, 70] M qRn := by
  have hz := zp_84
  have hd0 : 0 < d := by omega
  have hW : qFr [69, 70] M M := qFr.rfl
  show zG n (0, 0) d 84 (0, [.inr (.inr (some 67)), .inl a1, zN], []) M _
  refine zG_blk (c' := (4, [.inr (.inr (some 67)), .inl a1, zN], [.inr (.inr (some 70))])) 2 hd0 hz (by rfl) ?_
  refine zG_call hd0 hz zp_101 rfl rfl (Nat.le_of_ble_eq_true rfl) ⟨Nat.le_refl _, Nat.le_refl _⟩ (qw_size (by first | exact zdp hd (by decide) | omega) hC (⟨by decide, rfl, rfl⟩ : qT n 70 80 1) ) (fun vr M1 hr => ?_)
  obtain ⟨hq, x2, rfl, hx2⟩ := hr
  replace hq := hq.symm; subst hq
  show zG n (0, 0) d 84 (7, [.inr (.inr (some 67)), .inl a1, zN], [.inl x2]) M _
  refine zG_blk (c' := (8, [.inr (.inr (some 67)), .inl a1, .inl x2], [])) 1 hd0 hz (by rfl) ?_
  have j8 : ∀ (N : Nat) (v3 : Int) (M4 : zM) , (v3 : Int).toNat < N → 0 ≤ v3 ∧ v3 ≤ 80 → qCI M4 → qFr [69, 70] M M4 → zG n (0, 0) d 84 (8, [.inr (.inr (some 67)), .inl a1, .inl v3], []) M4 (fun v M' => qWf qCI [69, 70] M M' ∧ qRn v) := by
    intro N
    induction N with
    | zero => intro v3 M4 hN hv3 hCM4 hWM4; exact absurd hN (Nat.not_lt_zero _)
    | succ N ih8 =>
      intro v3 M4 hN hv3 hCM4 hWM4
      refine zG_blk (c' := (9, [.inr (.inr (some 67)), .inl a1, .inl v3], [.inl v3])) 1 hd0 hz (by rfl) ?_
      have j46 : zG n (0, 0) d 84 (46, [.inr (.inr (some 67)), .inl a1, .inl v3], []) M4 (fun v M' => qWf qCI [69, 70] M M' ∧ qRn v) := by
        exact zG_ret hd0 hz rfl rfl ⟨⟨hCM4, hWM4⟩, rfl⟩
      refine zG_if_le hd0 hz rfl (fun hb5 => ?_) (fun hb5 => ?_)
      · exact j46
      · refine zG_blk (c' := (13, [.inr (.inr (some 67)), .inl a1, .inl v3], [.inr (.inr (some 67))])) 1 hd0 hz (by rfl) ?_
        refine zG_call hd0 hz zp_88 rfl rfl (Nat.le_of_ble_eq_true rfl) ⟨Nat.le_refl _, Nat.le_refl _⟩ (qm_88_67 (by first | exact zdp hd (by decide) | omega) hCM4  ) (fun vr M6 hr => ?_)
        obtain ⟨hq, x7, rfl, hx7⟩ := hr
        replace hq := hq.symm; subst hq
        show zG n (0, 0) d 84 (16, [.inr (.inr (some 67)), .inl a1, .inl v3], [.inl x7]) M4 _
        refine zG_call hd0 hz zp_90 rfl rfl (Nat.le_of_ble_eq_true rfl) ⟨Nat.le_refl _, Nat.le_refl _⟩ (qm_90 (by first | exact zdp hd (by decide) | omega) hCM4  x7 (by omega)) (fun vr M8 hr => ?_)
        obtain ⟨hq, x9, rfl, hx9⟩ := hr
        replace hq := hq.symm; subst hq
        show zG n (0, 0) d 84 (19, [.inr (.inr (some 67)), .inl a1, .inl v3], [.inl x9]) M4 _
        refine zG_blk (c' := (20, [.inr (.inr (some 67)), .inl a1, .inl v3], [.inl a1, .inl x9])) 1 hd0 hz (by rfl) ?_
        refine zG_icmp_lt hd0 hz rfl (fun hb10 => ?_) (fun hb10 => ?_)
        · exact j46
        · refine zG_blk (c' := (25, [.inr (.inr (some 67)), .inl a1, .inl v3], [.inr (.inr (some 67)), .inr (.inr (some 67))])) 2 hd0 hz (by rfl) ?_
          refine zG_call hd0 hz zp_88 rfl rfl (Nat.le_of_ble_eq_true rfl) ⟨Nat.le_refl _, Nat.le_refl _⟩ (qm_88_67 (by first | exact zdp hd (by decide) | omega) hCM4  ) (fun vr M11 hr => ?_)
          obtain ⟨hq, x12, rfl, hx12⟩ := hr
          replace hq := hq.symm; subst hq
          show zG n (0, 0) d 84 (28, [.inr (.inr (some 67)), .inl a1, .inl v3], [.inl x12, .inr (.inr (some 67))]) M4 _
          obtain ⟨x13, hx13⟩ : ∃ x : Int, x = zbxor x12 (-1) := ⟨_, rfl⟩
          have hx13r : qin x13 := by rw [hx13]; exact qb32 _
          refine zG_blk (c' := (30, [.inr (.inr (some 67)), .inl a1, .inl v3], [.inl x13, .inr (.inr (some 67))])) 2 hd0 hz (by subst hx13; rfl) ?_
          refine zG_call hd0 hz zp_89 rfl rfl (Nat.le_of_ble_eq_true rfl) ⟨Nat.le_refl _, Nat.le_refl _⟩ (qm_89_67 (by first | exact zdp hd (by decide) | omega) hCM4  x13 (by omega)) (fun vr M14 hr => ?_)
          obtain ⟨⟨hCM14, hFM14⟩, rfl⟩ := hr
          have hWM14 : qFr [69, 70] M M14 := hWM4.tr hFM14 (by decide)
          show zG n (0, 0) d 84 (33, [.inr (.inr (some 67)), .inl a1, .inl v3], []) M14 _
          refine zG_blk (c' := (37, [.inr (.inr (some 67)), .inl a1, .inl v3], [.inr (.inr (some 70))])) 2 hd0 hz (by rfl) ?_
          refine zG_call hd0 hz zp_105 rfl rfl (Nat.le_of_ble_eq_true rfl) ⟨Nat.le_refl _, Nat.le_refl _⟩ (qw_dropLast (by first | exact zdp hd (by decide) | omega) hCM14 (⟨by decide, rfl, rfl⟩ : qT n 70 80 1) ) (fun vr M16 hr => ?_)
          obtain ⟨⟨hCM16, hFM16⟩, rfl⟩ := hr
          have hWM16 : qFr [69, 70] M M16 := hWM14.tr hFM16 (by decide)
          show zG n (0, 0) d 84 (40, [.inr (.inr (some 67)), .inl a1, .inl v3], []) M16 _
          obtain ⟨x18, hx18⟩ : ∃ x : Int, x = w32 (v3 + (-1)) := ⟨_, rfl⟩
          have hx18e : x18 = v3 + (-1) := by rw [hx18]; exact w32_id (by omega)
          refine zG_blk (c' := (8, [.inr (.inr (some 67)), .inl a1, .inl x18], [])) 2 hd0 hz (by subst hx18; rfl) ?_
          exact ih8 x18 M16 (by omega) (by omega) hCM16 hWM16
  exact j8 ((x2 : Int).toNat + 1) x2 M (by omega) (by omega) hC hW
