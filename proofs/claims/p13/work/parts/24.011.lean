theorem qm_60_72 {n d : Nat} {M : zM} (hd : 1 ≤ d) (hC : qCI M) (a1 : Int) : qOkP n d 60 [.inr (.inr (some 72)), .inr (.inl (a1))] 6 M qRl := by
  have hz := zp_60
  have hd0 : 0 < d := by omega
  show zG n (0, 0) d 60 (0, [.inr (.inr (some 72)), .inr (.inl (a1)), zN, zN, zN, zN], []) M _
  refine zG_blk (c' := (2, [.inr (.inr (some 72)), .inr (.inl (a1)), zN, zN, zN, zN], [.inr (.inl (1)), .inr (.inl (a1))])) 2 hd0 hz (by rfl) ?_
  have j16 : zG n (0, 0) d 60 (16, [.inr (.inr (some 72)), .inr (.inl (a1)), zN, zN, zN, zN], []) M (fun v M' => M' = M ∧ qRl v) := by
    refine zG_blk (c' := (17, [.inr (.inr (some 72)), .inr (.inl (a1)), zN, zN, zN, zN], [.inr (.inl (0))])) 1 hd0 hz (by rfl) ?_
    exact zG_ret hd0 hz rfl rfl ⟨rfl, _, rfl⟩
  refine zG_lc_lt hd0 hz rfl rfl (fun hb2 => ?_) (fun hb2 => ?_)
  · exact j16
  · have r1 := hC.rk
    refine zG_blk (c' := (12, [.inr (.inr (some 72)), .inr (.inl (a1)), zN, zN, zN, zN], [.inr (.inl ((M 72 3))), .inr (.inl (a1))])) 4 hd0 hz (by rfl) ?_
    refine zG_lc_le hd0 hz rfl rfl (fun hb12 => ?_) (fun hb12 => ?_)
    · refine zG_blk (c' := (23, [.inr (.inr (some 72)), .inr (.inl (a1)), zN, .inr (.inl (0)), zN, .inl 0], [])) 4 hd0 hz (by rfl) ?_
      have j23 : ∀ (N : Nat) (v2 v3 : Int) , (14 - v3 : Int).toNat < N → 0 ≤ v3 ∧ v3 ≤ 14 → zG n (0, 0) d 60 (23, [.inr (.inr (some 72)), .inr (.inl (a1)), zN, .inr (.inl (v2)), zN, .inl v3], []) M (fun v M' => M' = M ∧ qRl v) := by
        intro N
        induction N with
        | zero => intro v2 v3 hN hv3; exact absurd hN (Nat.not_lt_zero _)
        | succ N ih23 =>
          intro v2 v3 hN hv3
          refine zG_blk (c' := (27, [.inr (.inr (some 72)), .inr (.inl (a1)), zN, .inr (.inl (v2)), zN, .inl v3], [.inr (.inl (a1)), .inr (.inl (v3))])) 3 hd0 hz (by rfl) ?_
          have j58 : zG n (0, 0) d 60 (58, [.inr (.inr (some 72)), .inr (.inl (a1)), zN, .inr (.inl (v2)), zN, .inl v3], []) M (fun v M' => M' = M ∧ qRl v) := by
            obtain ⟨x4, hx4⟩ : ∃ x : Int, x = w64 (v2 * 100) := ⟨_, rfl⟩
            refine zG_blk (c' := (64, [.inr (.inr (some 72)), .inr (.inl (a1)), zN, .inr (.inl (v2)), zN, .inl v3], [.inr (.inl (a1)), .inr (.inl (x4))])) 4 hd0 hz (by subst hx4; rfl) ?_
            refine zG_ldiv hd0 hz rfl (by omega) ?_
            generalize w64 (x4.tdiv a1) = x5
            show zG n (0, 0) d 60 (65, [.inr (.inr (some 72)), .inr (.inl (a1)), zN, .inr (.inl (v2)), zN, .inl v3], [.inr (.inl (x5))]) M _
            exact zG_ret hd0 hz rfl rfl ⟨rfl, _, rfl⟩
          refine zG_lc_ge hd0 hz rfl rfl (fun hb27 => ?_) (fun hb27 => ?_)
          · exact j58
          · refine zG_blk (c' := (38, [.inr (.inr (some 72)), .inr (.inl (a1)), zN, .inr (.inl (v2)), zN, .inl v3], [.inl 14, .inl v3])) 4 hd0 hz (by rfl) ?_
            refine zG_icmp_ge hd0 hz rfl (fun hb6 => ?_) (fun hb6 => ?_)
            · exact j58
            · refine zG_blk (c' := (48, [.inr (.inr (some 72)), .inr (.inl (a1)), zN, .inr (.inl (v2)), zN, .inl v3], [.inl v3, .inr (.inr (some 75)), .inr (.inl (v2))])) 4 hd0 hz (by rfl) ?_
              refine zG_iald hd0 hz rfl rfl (.inl rfl) (by omega) ?_
              have hx7 := hC.rng 75 (v3 : Int).toNat (by decide) (by decide)
              generalize M 75 (v3 : Int).toNat = x7 at hx7 ⊢
              show zG n (0, 0) d 60 (49, [.inr (.inr (some 72)), .inr (.inl (a1)), zN, .inr (.inl (v2)), zN, .inl v3], [.inl x7, .inr (.inl (v2))]) M _
              obtain ⟨x8, hx8⟩ : ∃ x : Int, x = w64 (v2 + x7) := ⟨_, rfl⟩
              obtain ⟨x9, hx9⟩ : ∃ x : Int, x = w32 (v3 + 1) := ⟨_, rfl⟩
              have hx9e : x9 = v3 + 1 := by rw [hx9]; exact w32_id (by omega)
              refine zG_blk (c' := (23, [.inr (.inr (some 72)), .inr (.inl (a1)), zN, .inr (.inl (x8)), zN, .inl x9], [])) 5 hd0 hz (by subst hx9; subst hx8; rfl) ?_
              exact ih23 x8 x9 (by omega) (by omega)
      exact j23 ((14 - 0 : Int).toNat + 1) 0 0 (by first | decide | omega) (by omega)
    · exact j16
theorem qm_58_72 {n d : Nat} {M : zM} (hd : 1 ≤ d) (hC : qCI M) (a1 : Int) (ha1 : (-2147483648) ≤ a1 ∧ a1 ≤ 2147483647) : qOkP n d 58 [.inr (.inr (some 72)), .inl a1] 2 M qRl := by
  have hz := zp_58
  have hd0 : 0 < d := by omega
  show zG n (0, 0) d 58 (0, [.inr (.inr (some 72)), .inl a1], []) M _
  refine zG_blk (c' := (1, [.inr (.inr (some 72)), .inl a1], [.inl a1])) 1 hd0 hz (by rfl) ?_
  have j23 : ∀ (v1 : Int) , zG n (0, 0) d 58 (23, [.inr (.inr (some 72)), .inl a1], [.inr (.inl (v1))]) M (fun v M' => M' = M ∧ qRl v) := by
    intro v1
    exact zG_ret hd0 hz rfl rfl ⟨rfl, _, rfl⟩
  have j22 : zG n (0, 0) d 58 (22, [.inr (.inr (some 72)), .inl a1], []) M (fun v M' => M' = M ∧ qRl v) := by
    refine zG_blk (c' := (23, [.inr (.inr (some 72)), .inl a1], [.inr (.inl (0))])) 1 hd0 hz (by rfl) ?_
    exact j23 0
  refine zG_if_lt hd0 hz rfl (fun hb2 => ?_) (fun hb2 => ?_)
  · exact j22
  · refine zG_blk (c' := (10, [.inr (.inr (some 72)), .inl a1], [.inl 15, .inl a1])) 4 hd0 hz (by rfl) ?_
    refine zG_icmp_ge hd0 hz rfl (fun hb3 => ?_) (fun hb3 => ?_)
    · exact j22
    · refine zG_blk (c' := (18, [.inr (.inr (some 72)), .inl a1], [.inl a1, .inr (.inr (some 74))])) 3 hd0 hz (by rfl) ?_
      refine zG_lald hd0 hz rfl rfl (.inl rfl) (by omega) ?_
      generalize M 74 (a1 : Int).toNat = x4
      show zG n (0, 0) d 58 (19, [.inr (.inr (some 72)), .inl a1], [.inr (.inl (x4))]) M _
      refine zG_blk (c' := (23, [.inr (.inr (some 72)), .inl a1], [.inr (.inl (x4))])) 1 hd0 hz (by rfl) ?_
      exact j23 x4
theorem qm_63_72 {n d : Nat} {M : zM} (hd : 2 ≤ d) (hC : qCI M) (a1 : Int) (ha1 : (-2147483648) ≤ a1 ∧ a1 ≤ 2147483647) (a2 : Int) (ha2 : (-2147483648) ≤ a2 ∧ a2 ≤ 2147483647) : qOkM n d 63 [.inr (.inr (some 72)), .inl a1, .inl a2] 11 qCI [72, 73] M qRn := by
  have hz := zp_63
  have hd0 : 0 < d := by omega
  have hW : qFr [72, 73] M M := qFr.rfl
  show zG n (0, 0) d 63 (0, [.inr (.inr (some 72)), .inl a1, .inl a2, zN, zN, zN, zN, zN, zN, zN, zN], []) M _
  refine zG_blk (c' := (1, [.inr (.inr (some 72)), .inl a1, .inl a2, zN, zN, zN, zN, zN, zN, zN, zN], [.inl a1])) 1 hd0 hz (by rfl) ?_
  have j261 : ∀ (M1 : zM) , qCI M1 → qFr [72, 73] M M1 → zG n (0, 0) d 63 (261, [.inr (.inr (some 72)), .inl a1, .inl a2, zN, zN, zN, zN, zN, zN, zN, zN], []) M1 (fun v M' => qWf qCI [72, 73] M M' ∧ qRn v) := by
    intro M1 hCM1 hWM1
    exact zG_ret hd0 hz rfl rfl ⟨⟨hCM1, hWM1⟩, rfl⟩
  have j116 : zG n (0, 0) d 63 (116, [.inr (.inr (some 72)), .inl a1, .inl a2, zN, zN, zN, zN, zN, zN, zN, zN], []) M (fun v M' => qWf qCI [72, 73] M M' ∧ qRn v) := by
    refine zG_blk (c' := (119, [.inr (.inr (some 72)), .inl a1, .inl a2, zN, zN, zN, zN, zN, zN, zN, zN], [.inl a1, .inr (.inr (some 72)), .inr (.inr (some 72))])) 3 hd0 hz (by rfl) ?_
    refine zG_call hd0 hz zp_58 rfl rfl (Nat.le_of_ble_eq_true rfl) ⟨Nat.le_refl _, Nat.le_refl _⟩ (qm_58_72 (by first | exact zdp hd (by decide) | omega) hC  a1 (by first | with_reducible exact ha1 | omega)) (fun vr M2 hr => ?_)
    obtain ⟨hq, x3, rfl⟩ := hr
    replace hq := hq.symm; subst hq
    show zG n (0, 0) d 63 (122, [.inr (.inr (some 72)), .inl a1, .inl a2, zN, zN, zN, zN, zN, zN, zN, zN], [.inr (.inl (x3)), .inr (.inr (some 72))]) M _
    refine zG_call hd0 hz zp_65 rfl rfl (Nat.le_of_ble_eq_true rfl) ⟨Nat.le_refl _, Nat.le_refl _⟩ (qm_65_72 (by first | exact zdp hd (by decide) | omega) hC  x3) (fun vr M4 hr => ?_)
    obtain ⟨⟨hCM4, hFM4⟩, rfl⟩ := hr
    have hWM4 : qFr [72, 73] M M4 := hW.tr hFM4 (by decide)
    show zG n (0, 0) d 63 (125, [.inr (.inr (some 72)), .inl a1, .inl a2, zN, zN, zN, zN, zN, zN, zN, zN], []) M4 _
    refine zG_blk (c' := (261, [.inr (.inr (some 72)), .inl a1, .inl a2, zN, zN, zN, zN, zN, zN, zN, zN], [])) 1 hd0 hz (by rfl) ?_
    exact j261 M4 hCM4 hWM4
  have j128 : zG n (0, 0) d 63 (128, [.inr (.inr (some 72)), .inl a1, .inl a2, zN, zN, zN, zN, zN, zN, zN, zN], []) M (fun v M' => qWf qCI [72, 73] M M' ∧ qRn v) := by
    refine zG_blk (c' := (130, [.inr (.inr (some 72)), .inl a1, .inl a2, zN, zN, zN, zN, zN, zN, zN, zN], [.inl 1, .inr (.inr (some 72))])) 2 hd0 hz (by rfl) ?_
    refine zG_putf (.inr ⟨rfl, by omega⟩) hd0 hz rfl (by decide) rfl rfl ?_
    obtain ⟨M6, hM6⟩ : ∃ X : zM, X = zput M 72 5 1 := ⟨_, rfl⟩
    rw [← hM6]
    have hCM6 : qCI M6 := by rw [hM6]; exact hC.putUm (by omega)
    have hWM6 : qFr [72, 73] M M6 := by rw [hM6]; exact hW.put (by decide)
    have e7 : M6 72 5 = 1 := by rw [hM6]; exact qput_eq
    show zG n (0, 0) d 63 (133, [.inr (.inr (some 72)), .inl a1, .inl a2, zN, zN, zN, zN, zN, zN, zN, zN], []) M6 _
    refine zG_blk (c' := (136, [.inr (.inr (some 72)), .inl a1, .inl a2, zN, zN, zN, zN, zN, zN, zN, zN], [.inl a1, .inr (.inr (some 72)), .inr (.inr (some 72))])) 3 hd0 hz (by rfl) ?_
    refine zG_call hd0 hz zp_58 rfl rfl (Nat.le_of_ble_eq_true rfl) ⟨Nat.le_refl _, Nat.le_refl _⟩ (qm_58_72 (by first | exact zdp hd (by decide) | omega) hCM6  a1 (by first | with_reducible exact ha1 | omega)) (fun vr M8 hr => ?_)
    obtain ⟨hq, x9, rfl⟩ := hr
    replace hq := hq.symm; subst hq
    show zG n (0, 0) d 63 (139, [.inr (.inr (some 72)), .inl a1, .inl a2, zN, zN, zN, zN, zN, zN, zN, zN], [.inr (.inl (x9)), .inr (.inr (some 72))]) M6 _
    obtain ⟨x10, hx10⟩ : ∃ x : Int, x = w64 (x9 + a2) := ⟨_, rfl⟩
    refine zG_blk (c' := (142, [.inr (.inr (some 72)), .inl a1, .inl a2, zN, zN, zN, zN, zN, zN, zN, zN], [.inr (.inl (x10)), .inr (.inr (some 72))])) 3 hd0 hz (by subst hx10; rfl) ?_
    refine zG_call hd0 hz zp_65 rfl rfl (Nat.le_of_ble_eq_true rfl) ⟨Nat.le_refl _, Nat.le_refl _⟩ (qm_65_72 (by first | exact zdp hd (by decide) | omega) hCM6  x10) (fun vr M11 hr => ?_)
    obtain ⟨⟨hCM11, hFM11⟩, rfl⟩ := hr
    have hWM11 : qFr [72, 73] M M11 := hWM6.tr hFM11 (by decide)
    show zG n (0, 0) d 63 (145, [.inr (.inr (some 72)), .inl a1, .inl a2, zN, zN, zN, zN, zN, zN, zN, zN], []) M11 _
    refine zG_blk (c' := (261, [.inr (.inr (some 72)), .inl a1, .inl a2, zN, zN, zN, zN, zN, zN, zN, zN], [])) 1 hd0 hz (by rfl) ?_
    exact j261 M11 hCM11 hWM11
  have j148 : zG n (0, 0) d 63 (148, [.inr (.inr (some 72)), .inl a1, .inl a2, zN, zN, zN, zN, zN, zN, zN, zN], []) M (fun v M' => qWf qCI [72, 73] M M' ∧ qRn v) := by
    refine zG_blk (c' := (150, [.inr (.inr (some 72)), .inl a1, .inl a2, zN, zN, zN, zN, zN, zN, zN, zN], [.inl 1, .inr (.inr (some 72))])) 2 hd0 hz (by rfl) ?_
    refine zG_putf (.inr ⟨rfl, by omega⟩) hd0 hz rfl (by decide) rfl rfl ?_
    obtain ⟨M13, hM13⟩ : ∃ X : zM, X = zput M 72 5 1 := ⟨_, rfl⟩
    rw [← hM13]
    have hCM13 : qCI M13 := by rw [hM13]; exact hC.putUm (by omega)
    have hWM13 : qFr [72, 73] M M13 := by rw [hM13]; exact hW.put (by decide)
    have e14 : M13 72 5 = 1 := by rw [hM13]; exact qput_eq
    show zG n (0, 0) d 63 (153, [.inr (.inr (some 72)), .inl a1, .inl a2, zN, zN, zN, zN, zN, zN, zN, zN], []) M13 _
    refine zG_blk (c' := (156, [.inr (.inr (some 72)), .inl a1, .inl a2, zN, zN, zN, zN, zN, zN, zN, zN], [.inr (.inr (some 72)), .inr (.inr (some 72)), .inr (.inr (some 72))])) 3 hd0 hz (by rfl) ?_
    refine zG_call hd0 hz zp_66 rfl rfl (Nat.le_of_ble_eq_true rfl) ⟨Nat.le_refl _, Nat.le_refl _⟩ (qm_66_72 (by first | exact zdp hd (by decide) | omega) hCM13  ) (fun vr M15 hr => ?_)
    obtain ⟨⟨hCM15, hFM15⟩, x16, rfl⟩ := hr
    have hWM15 : qFr [72, 73] M M15 := hWM13.tr hFM15 (by decide)
    show zG n (0, 0) d 63 (159, [.inr (.inr (some 72)), .inl a1, .inl a2, zN, zN, zN, zN, zN, zN, zN, zN], [.inr (.inl (x16)), .inr (.inr (some 72)), .inr (.inr (some 72))]) M15 _
    refine zG_call hd0 hz zp_60 rfl rfl (Nat.le_of_ble_eq_true rfl) ⟨Nat.le_refl _, Nat.le_refl _⟩ (qm_60_72 (by first | exact zdp hd (by decide) | omega) hCM15  x16) (fun vr M17 hr => ?_)
    obtain ⟨hq, x18, rfl⟩ := hr
    replace hq := hq.symm; subst hq
    show zG n (0, 0) d 63 (162, [.inr (.inr (some 72)), .inl a1, .inl a2, zN, zN, zN, zN, zN, zN, zN, zN], [.inr (.inl (x18)), .inr (.inr (some 72))]) M15 _
    obtain ⟨x19, hx19⟩ : ∃ x : Int, x = w64 (x18 + a2) := ⟨_, rfl⟩
    refine zG_blk (c' := (165, [.inr (.inr (some 72)), .inl a1, .inl a2, zN, zN, zN, zN, zN, zN, zN, zN], [.inr (.inl (x19)), .inr (.inr (some 72))])) 3 hd0 hz (by subst hx19; rfl) ?_
    refine zG_call hd0 hz zp_65 rfl rfl (Nat.le_of_ble_eq_true rfl) ⟨Nat.le_refl _, Nat.le_refl _⟩ (qm_65_72 (by first | exact zdp hd (by decide) | omega) hCM15  x19) (fun vr M20 hr => ?_)
    obtain ⟨⟨hCM20, hFM20⟩, rfl⟩ := hr
    have hWM20 : qFr [72, 73] M M20 := hWM15.tr hFM20 (by decide)
    show zG n (0, 0) d 63 (168, [.inr (.inr (some 72)), .inl a1, .inl a2, zN, zN, zN, zN, zN, zN, zN, zN], []) M20 _
    refine zG_blk (c' := (261, [.inr (.inr (some 72)), .inl a1, .inl a2, zN, zN, zN, zN, zN, zN, zN, zN], [])) 1 hd0 hz (by rfl) ?_
    exact j261 M20 hCM20 hWM20
  have j171 : zG n (0, 0) d 63 (171, [.inr (.inr (some 72)), .inl a1, .inl a2, zN, zN, zN, zN, zN, zN, zN, zN], []) M (fun v M' => qWf qCI [72, 73] M M' ∧ qRn v) := by
    refine zG_blk (c' := (173, [.inr (.inr (some 72)), .inl a1, .inl a2, zN, zN, zN, zN, zN, zN, zN, zN], [.inr (.inr (some 72)), .inr (.inr (some 72))])) 2 hd0 hz (by rfl) ?_
    refine zG_call hd0 hz zp_66 rfl rfl (Nat.le_of_ble_eq_true rfl) ⟨Nat.le_refl _, Nat.le_refl _⟩ (qm_66_72 (by first | exact zdp hd (by decide) | omega) hC  ) (fun vr M22 hr => ?_)
    obtain ⟨⟨hCM22, hFM22⟩, x23, rfl⟩ := hr
    have hWM22 : qFr [72, 73] M M22 := hW.tr hFM22 (by decide)
    show zG n (0, 0) d 63 (176, [.inr (.inr (some 72)), .inl a1, .inl a2, zN, zN, zN, zN, zN, zN, zN, zN], [.inr (.inl (x23)), .inr (.inr (some 72))]) M22 _
    refine zG_blk (c' := (177, [.inr (.inr (some 72)), .inl a1, .inl a2, zN, zN, zN, zN, zN, zN, zN, zN], [.inr (.inl (0)), .inr (.inl (x23)), .inr (.inr (some 72))])) 1 hd0 hz (by rfl) ?_
    have j186 : ∀ (v24 : Int) , zG n (0, 0) d 63 (186, [.inr (.inr (some 72)), .inl a1, .inl a2, zN, zN, zN, zN, zN, zN, zN, zN], [.inr (.inl (v24)), .inr (.inr (some 72))]) M22 (fun v M' => qWf qCI [72, 73] M M' ∧ qRn v) := by
      intro v24
      refine zG_call hd0 hz zp_65 rfl rfl (Nat.le_of_ble_eq_true rfl) ⟨Nat.le_refl _, Nat.le_refl _⟩ (qm_65_72 (by first | exact zdp hd (by decide) | omega) hCM22  v24) (fun vr M25 hr => ?_)
      obtain ⟨⟨hCM25, hFM25⟩, rfl⟩ := hr
      have hWM25 : qFr [72, 73] M M25 := hWM22.tr hFM25 (by decide)
      show zG n (0, 0) d 63 (189, [.inr (.inr (some 72)), .inl a1, .inl a2, zN, zN, zN, zN, zN, zN, zN, zN], []) M25 _
      refine zG_blk (c' := (261, [.inr (.inr (some 72)), .inl a1, .inl a2, zN, zN, zN, zN, zN, zN, zN, zN], [])) 1 hd0 hz (by rfl) ?_
      exact j261 M25 hCM25 hWM25
    refine zG_lc_ne hd0 hz rfl rfl (fun hb177 => ?_) (fun hb177 => ?_)
    · refine zG_blk (c' := (186, [.inr (.inr (some 72)), .inl a1, .inl a2, zN, zN, zN, zN, zN, zN, zN, zN], [.inr (.inl (0)), .inr (.inr (some 72))])) 1 hd0 hz (by rfl) ?_
      exact j186 0
    · refine zG_blk (c' := (186, [.inr (.inr (some 72)), .inl a1, .inl a2, zN, zN, zN, zN, zN, zN, zN, zN], [.inr (.inl (1)), .inr (.inr (some 72))])) 2 hd0 hz (by rfl) ?_
      exact j186 1
  have j192 : zG n (0, 0) d 63 (192, [.inr (.inr (some 72)), .inl a1, .inl a2, zN, zN, zN, zN, zN, zN, zN, zN], []) M (fun v M' => qWf qCI [72, 73] M M' ∧ qRn v) := by
    refine zG_blk (c' := (194, [.inr (.inr (some 72)), .inl a1, .inl a2, zN, zN, zN, zN, zN, zN, zN, zN], [.inr (.inr (some 72)), .inr (.inr (some 72))])) 2 hd0 hz (by rfl) ?_
    refine zG_call hd0 hz zp_66 rfl rfl (Nat.le_of_ble_eq_true rfl) ⟨Nat.le_refl _, Nat.le_refl _⟩ (qm_66_72 (by first | exact zdp hd (by decide) | omega) hC  ) (fun vr M27 hr => ?_)
    obtain ⟨⟨hCM27, hFM27⟩, x28, rfl⟩ := hr
    have hWM27 : qFr [72, 73] M M27 := hW.tr hFM27 (by decide)
    show zG n (0, 0) d 63 (197, [.inr (.inr (some 72)), .inl a1, .inl a2, zN, zN, zN, zN, zN, zN, zN, zN], [.inr (.inl (x28)), .inr (.inr (some 72))]) M27 _
    obtain ⟨x29, hx29⟩ : ∃ x : Int, x = w64 (-x28) := ⟨_, rfl⟩
    refine zG_blk (c' := (198, [.inr (.inr (some 72)), .inl a1, .inl a2, zN, zN, zN, zN, zN, zN, zN, zN], [.inr (.inl (x29)), .inr (.inr (some 72))])) 1 hd0 hz (by subst hx29; rfl) ?_
    refine zG_call hd0 hz zp_65 rfl rfl (Nat.le_of_ble_eq_true rfl) ⟨Nat.le_refl _, Nat.le_refl _⟩ (qm_65_72 (by first | exact zdp hd (by decide) | omega) hCM27  x29) (fun vr M30 hr => ?_)
    obtain ⟨⟨hCM30, hFM30⟩, rfl⟩ := hr
    have hWM30 : qFr [72, 73] M M30 := hWM27.tr hFM30 (by decide)
    show zG n (0, 0) d 63 (201, [.inr (.inr (some 72)), .inl a1, .inl a2, zN, zN, zN, zN, zN, zN, zN, zN], []) M30 _
    refine zG_blk (c' := (261, [.inr (.inr (some 72)), .inl a1, .inl a2, zN, zN, zN, zN, zN, zN, zN, zN], [])) 1 hd0 hz (by rfl) ?_
    exact j261 M30 hCM30 hWM30
  have j204 : zG n (0, 0) d 63 (204, [.inr (.inr (some 72)), .inl a1, .inl a2, zN, zN, zN, zN, zN, zN, zN, zN], []) M (fun v M' => qWf qCI [72, 73] M M' ∧ qRn v) := by
    refine zG_blk (c' := (205, [.inr (.inr (some 72)), .inl a1, .inl a2, zN, zN, zN, zN, zN, zN, zN, zN], [.inr (.inr (some 72))])) 1 hd0 hz (by rfl) ?_
    refine zG_call hd0 hz zp_66 rfl rfl (Nat.le_of_ble_eq_true rfl) ⟨Nat.le_refl _, Nat.le_refl _⟩ (qm_66_72 (by first | exact zdp hd (by decide) | omega) hC  ) (fun vr M32 hr => ?_)
    obtain ⟨⟨hCM32, hFM32⟩, x33, rfl⟩ := hr
    have hWM32 : qFr [72, 73] M M32 := hW.tr hFM32 (by decide)
    show zG n (0, 0) d 63 (208, [.inr (.inr (some 72)), .inl a1, .inl a2, zN, zN, zN, zN, zN, zN, zN, zN], [.inr (.inl (x33))]) M32 _
    refine zG_blk (c' := (210, [.inr (.inr (some 72)), .inl a1, .inl a2, .inr (.inl (x33)), zN, zN, zN, zN, zN, zN, zN], [.inr (.inr (some 72))])) 2 hd0 hz (by rfl) ?_
    refine zG_call hd0 hz zp_66 rfl rfl (Nat.le_of_ble_eq_true rfl) ⟨Nat.le_refl _, Nat.le_refl _⟩ (qm_66_72 (by first | exact zdp hd (by decide) | omega) hCM32  ) (fun vr M34 hr => ?_)
    obtain ⟨⟨hCM34, hFM34⟩, x35, rfl⟩ := hr
    have hWM34 : qFr [72, 73] M M34 := hWM32.tr hFM34 (by decide)
    show zG n (0, 0) d 63 (213, [.inr (.inr (some 72)), .inl a1, .inl a2, .inr (.inl (x33)), zN, zN, zN, zN, zN, zN, zN], [.inr (.inl (x35))]) M34 _
    refine zG_blk (c' := (216, [.inr (.inr (some 72)), .inl a1, .inl a2, .inr (.inl (x33)), zN, .inr (.inl (x35)), zN, zN, zN, zN, zN], [.inr (.inr (some 72))])) 2 hd0 hz (by rfl) ?_
    refine zG_call hd0 hz zp_66 rfl rfl (Nat.le_of_ble_eq_true rfl) ⟨Nat.le_refl _, Nat.le_refl _⟩ (qm_66_72 (by first | exact zdp hd (by decide) | omega) hCM34  ) (fun vr M36 hr => ?_)
    obtain ⟨⟨hCM36, hFM36⟩, x37, rfl⟩ := hr
    have hWM36 : qFr [72, 73] M M36 := hWM34.tr hFM36 (by decide)
    show zG n (0, 0) d 63 (219, [.inr (.inr (some 72)), .inl a1, .inl a2, .inr (.inl (x33)), zN, .inr (.inl (x35)), zN, zN, zN, zN, zN], [.inr (.inl (x37))]) M36 _
    refine zG_blk (c' := (225, [.inr (.inr (some 72)), .inl a1, .inl a2, .inr (.inl (x33)), zN, .inr (.inl (x35)), zN, .inr (.inl (x37)), zN, zN, zN], [.inr (.inl (0)), .inr (.inl (x35)), .inr (.inr (some 72))])) 4 hd0 hz (by rfl) ?_
    have j235 : ∀ (v38 : Int) , zG n (0, 0) d 63 (235, [.inr (.inr (some 72)), .inl a1, .inl a2, .inr (.inl (x33)), zN, .inr (.inl (x35)), zN, .inr (.inl (x37)), zN, zN, zN], [.inr (.inl (v38)), .inr (.inr (some 72))]) M36 (fun v M' => qWf qCI [72, 73] M M' ∧ qRn v) := by
      intro v38
      refine zG_call hd0 hz zp_65 rfl rfl (Nat.le_of_ble_eq_true rfl) ⟨Nat.le_refl _, Nat.le_refl _⟩ (qm_65_72 (by first | exact zdp hd (by decide) | omega) hCM36  v38) (fun vr M39 hr => ?_)
      obtain ⟨⟨hCM39, hFM39⟩, rfl⟩ := hr
      have hWM39 : qFr [72, 73] M M39 := hWM36.tr hFM39 (by decide)
      show zG n (0, 0) d 63 (238, [.inr (.inr (some 72)), .inl a1, .inl a2, .inr (.inl (x33)), zN, .inr (.inl (x35)), zN, .inr (.inl (x37)), zN, zN, zN], []) M39 _
      refine zG_blk (c' := (261, [.inr (.inr (some 72)), .inl a1, .inl a2, .inr (.inl (x33)), zN, .inr (.inl (x35)), zN, .inr (.inl (x37)), zN, zN, zN], [])) 1 hd0 hz (by rfl) ?_
      exact zG_weak (j261 M39 hCM39 hWM39) ⟨.inr rfl, .inr rfl, .inr rfl, .inl rfl, .inr rfl, .inl rfl, .inr rfl, .inl rfl, .inr rfl, .inr rfl, .inr rfl, trivial⟩
    refine zG_lc_eq hd0 hz rfl rfl (fun hb225 => ?_) (fun hb225 => ?_)
    · refine zG_blk (c' := (235, [.inr (.inr (some 72)), .inl a1, .inl a2, .inr (.inl (x33)), zN, .inr (.inl (x35)), zN, .inr (.inl (x37)), zN, zN, zN], [.inr (.inl (x33)), .inr (.inr (some 72))])) 1 hd0 hz (by rfl) ?_
      exact j235 x33
    · refine zG_blk (c' := (235, [.inr (.inr (some 72)), .inl a1, .inl a2, .inr (.inl (x33)), zN, .inr (.inl (x35)), zN, .inr (.inl (x37)), zN, zN, zN], [.inr (.inl (x37)), .inr (.inr (some 72))])) 2 hd0 hz (by rfl) ?_
      exact j235 x37
  have j241 : zG n (0, 0) d 63 (241, [.inr (.inr (some 72)), .inl a1, .inl a2, zN, zN, zN, zN, zN, zN, zN, zN], []) M (fun v M' => qWf qCI [72, 73] M M' ∧ qRn v) := by
    refine zG_blk (c' := (242, [.inr (.inr (some 72)), .inl a1, .inl a2, zN, zN, zN, zN, zN, zN, zN, zN], [.inr (.inr (some 72))])) 1 hd0 hz (by rfl) ?_
    refine zG_call hd0 hz zp_66 rfl rfl (Nat.le_of_ble_eq_true rfl) ⟨Nat.le_refl _, Nat.le_refl _⟩ (qm_66_72 (by first | exact zdp hd (by decide) | omega) hC  ) (fun vr M41 hr => ?_)
    obtain ⟨⟨hCM41, hFM41⟩, x42, rfl⟩ := hr
    have hWM41 : qFr [72, 73] M M41 := hW.tr hFM41 (by decide)
    show zG n (0, 0) d 63 (245, [.inr (.inr (some 72)), .inl a1, .inl a2, zN, zN, zN, zN, zN, zN, zN, zN], [.inr (.inl (x42))]) M41 _
    refine zG_blk (c' := (250, [.inr (.inr (some 72)), .inl a1, .inl a2, zN, zN, zN, zN, zN, zN, .inr (.inl (x42)), zN], [.inr (.inr (some 72)), .inl a1, .inr (.inr (some 72))])) 4 hd0 hz (by rfl) ?_
    refine zG_call hd0 hz zp_66 rfl rfl (Nat.le_of_ble_eq_true rfl) ⟨Nat.le_refl _, Nat.le_refl _⟩ (qm_66_72 (by first | exact zdp hd (by decide) | omega) hCM41  ) (fun vr M43 hr => ?_)
    obtain ⟨⟨hCM43, hFM43⟩, x44, rfl⟩ := hr
    have hWM43 : qFr [72, 73] M M43 := hWM41.tr hFM43 (by decide)
    show zG n (0, 0) d 63 (253, [.inr (.inr (some 72)), .inl a1, .inl a2, zN, zN, zN, zN, zN, zN, .inr (.inl (x42)), zN], [.inr (.inl (x44)), .inl a1, .inr (.inr (some 72))]) M43 _
    refine zG_blk (c' := (255, [.inr (.inr (some 72)), .inl a1, .inl a2, zN, zN, zN, zN, zN, zN, .inr (.inl (x42)), zN], [.inr (.inl (x42)), .inr (.inl (x44)), .inl a1, .inr (.inr (some 72))])) 1 hd0 hz (by rfl) ?_
    refine zG_call hd0 hz zp_64 rfl rfl (Nat.le_of_ble_eq_true rfl) ⟨Nat.le_refl _, Nat.le_refl _⟩ (qm_64 (by first | exact zdp hd (by decide) | omega) hCM43  a1 (by first | with_reducible exact ha1 | omega) x44 x42) (fun vr M45 hr => ?_)
    obtain ⟨hq, x46, rfl⟩ := hr
    replace hq := hq.symm; subst hq
    show zG n (0, 0) d 63 (258, [.inr (.inr (some 72)), .inl a1, .inl a2, zN, zN, zN, zN, zN, zN, .inr (.inl (x42)), zN], [.inr (.inl (x46)), .inr (.inr (some 72))]) M43 _
    refine zG_call hd0 hz zp_65 rfl rfl (Nat.le_of_ble_eq_true rfl) ⟨Nat.le_refl _, Nat.le_refl _⟩ (qm_65_72 (by first | exact zdp hd (by decide) | omega) hCM43  x46) (fun vr M47 hr => ?_)
    obtain ⟨⟨hCM47, hFM47⟩, rfl⟩ := hr
    have hWM47 : qFr [72, 73] M M47 := hWM43.tr hFM47 (by decide)
    show zG n (0, 0) d 63 (261, [.inr (.inr (some 72)), .inl a1, .inl a2, zN, zN, zN, zN, zN, zN, .inr (.inl (x42)), zN], []) M47 _
    exact zG_weak (j261 M47 hCM47 hWM47) ⟨.inr rfl, .inr rfl, .inr rfl, .inr rfl, .inr rfl, .inr rfl, .inr rfl, .inr rfl, .inr rfl, .inl rfl, .inr rfl, trivial⟩
  refine zG_sw hd0 hz rfl ?_
  refine zts_all (P := fun t => zG n (0, 0) d 63 (t, [.inr (.inr (some 72)), .inl a1, .inl a2, zN, zN, zN, zN, zN, zN, zN, zN], []) M _) ?_ ?_
  · exact j241
  · intro t ht
    simp only [List.mem_cons, List.not_mem_nil, or_false] at ht
    rcases ht with rfl | rfl | rfl | rfl | rfl | rfl | rfl | rfl | rfl | rfl | rfl | rfl | rfl | rfl | rfl | rfl | rfl | rfl | rfl | rfl | rfl | rfl | rfl | rfl | rfl
    · exact j204
    · exact j241
    · exact j241
    · exact j171
    · exact j148
    · exact j116
    · exact j116
    · exact j116
    · exact j116
    · exact j116
    · exact j116
    · exact j128
    · exact j116
    · exact j241
    · exact j241
    · exact j241
    · exact j241
    · exact j241
    · exact j241
    · exact j241
    · exact j241
    · exact j241
    · exact j241
    · exact j241
    · exact j192
theorem qm_62_72_22 {n d : Nat} {M : zM} (hd : 3 ≤ d) (hC : qCI M) (a2 : Int) (ha2 : (-2147483648) ≤ a2 ∧ a2 ≤ 2147483647) (a3 : Int) (ha3 : (-2147483648) ≤ a3 ∧ a3 ≤ 2147483647) (a4 : Int) (ha4 : (-2147483648) ≤ a4 ∧ a4 ≤ 2147483647) : qOkM n d 62 [.inr (.inr (some 72)), .inr (.inr (some 22)), .inl a2, .inl a3, .inl a4] 8 qCI [72, 73] M qRl := by
  have hz := zp_62
  have hd0 : 0 < d := by omega
  have hW : qFr [72, 73] M M := qFr.rfl
  show zG n (0, 0) d 62 (0, [.inr (.inr (some 72)), .inr (.inr (some 22)), .inl a2, .inl a3, .inl a4, zN, zN, zN], []) M _
  refine zG_blk (c' := (3, [.inr (.inr (some 72)), .inr (.inr (some 22)), .inl a2, .inl a3, .inl a4, zN, zN, zN], [.inl a3, .inl a2, .inr (.inr (some 22))])) 3 hd0 hz (by rfl) ?_
  refine zG_call hd0 hz zp_106 rfl rfl (Nat.le_of_ble_eq_true rfl) ⟨Nat.le_refl _, Nat.le_refl _⟩ (qw_get (by first | exact zdp hd (by decide) | omega) hC (⟨by decide, rfl, rfl⟩ : qT n 22 10 164) a2 (by first | with_reducible exact ha2 | omega) a3 (by first | with_reducible exact ha3 | omega)) (fun vr M1 hr => ?_)
  obtain ⟨hq, x2, rfl, hx2⟩ := hr
  replace hq := hq.symm; subst hq
  show zG n (0, 0) d 62 (6, [.inr (.inr (some 72)), .inr (.inr (some 22)), .inl a2, .inl a3, .inl a4, zN, zN, zN], [.inl x2]) M _
  refine zG_blk (c' := (10, [.inr (.inr (some 72)), .inr (.inr (some 22)), .inl a2, .inl a3, .inl a4, .inl x2, zN, zN], [.inl 0, .inr (.inr (some 72))])) 3 hd0 hz (by rfl) ?_
  refine zG_putf (.inl rfl) hd0 hz rfl (by decide) rfl rfl ?_
  obtain ⟨M3, hM3⟩ : ∃ X : zM, X = zput M 72 4 0 := ⟨_, rfl⟩
  rw [← hM3]
  have hCM3 : qCI M3 := by rw [hM3]; exact hC.put (r := 72) (k := 4) rfl (.inl (by omega))
  have hWM3 : qFr [72, 73] M M3 := by rw [hM3]; exact hW.put (by decide)
  have e4 : M3 72 4 = 0 := by rw [hM3]; exact qput_eq
  show zG n (0, 0) d 62 (13, [.inr (.inr (some 72)), .inr (.inr (some 22)), .inl a2, .inl a3, .inl a4, .inl x2, zN, zN], []) M3 _
  refine zG_blk (c' := (15, [.inr (.inr (some 72)), .inr (.inr (some 22)), .inl a2, .inl a3, .inl a4, .inl x2, zN, zN], [.inl 0, .inr (.inr (some 72))])) 2 hd0 hz (by rfl) ?_
  refine zG_putf (.inr ⟨rfl, by omega⟩) hd0 hz rfl (by decide) rfl rfl ?_
  obtain ⟨M5, hM5⟩ : ∃ X : zM, X = zput M3 72 5 0 := ⟨_, rfl⟩
  rw [← hM5]
  have hCM5 : qCI M5 := by rw [hM5]; exact hCM3.putUm (by omega)
  have hWM5 : qFr [72, 73] M M5 := by rw [hM5]; exact hWM3.put (by decide)
  have e6 : M5 72 4 = M3 72 4 := by rw [hM5]; exact qput_nk (by decide)
  have e7 : M5 72 5 = 0 := by rw [hM5]; exact qput_eq
  show zG n (0, 0) d 62 (18, [.inr (.inr (some 72)), .inr (.inr (some 22)), .inl a2, .inl a3, .inl a4, .inl x2, zN, zN], []) M5 _
  refine zG_blk (c' := (21, [.inr (.inr (some 72)), .inr (.inr (some 22)), .inl a2, .inl a3, .inl a4, .inl x2, .inl 1, zN], [])) 2 hd0 hz (by rfl) ?_
  have j21 : ∀ (N : Nat) (v8 : Int) (M9 : zM) , (81 - v8 : Int).toNat < N → 1 ≤ v8 ∧ v8 ≤ 81 → qCI M9 → qFr [72, 73] M M9 → zG n (0, 0) d 62 (21, [.inr (.inr (some 72)), .inr (.inr (some 22)), .inl a2, .inl a3, .inl a4, .inl x2, .inl v8, zN], []) M9 (fun v M' => qWf qCI [72, 73] M M' ∧ qRl v) := by
    intro N
    induction N with
    | zero => intro v8 M9 hN hv8 hCM9 hWM9; exact absurd hN (Nat.not_lt_zero _)
    | succ N ih21 =>
      intro v8 M9 hN hv8 hCM9 hWM9
      refine zG_blk (c' := (25, [.inr (.inr (some 72)), .inr (.inr (some 22)), .inl a2, .inl a3, .inl a4, .inl x2, .inl v8, zN], [.inl x2, .inl v8])) 2 hd0 hz (by rfl) ?_
      have j77 : zG n (0, 0) d 62 (77, [.inr (.inr (some 72)), .inr (.inr (some 22)), .inl a2, .inl a3, .inl a4, .inl x2, .inl v8, zN], []) M9 (fun v M' => qWf qCI [72, 73] M M' ∧ qRl v) := by
        refine zG_blk (c' := (78, [.inr (.inr (some 72)), .inr (.inr (some 22)), .inl a2, .inl a3, .inl a4, .inl x2, .inl v8, zN], [.inr (.inr (some 72))])) 1 hd0 hz (by rfl) ?_
        refine zG_call hd0 hz zp_66 rfl rfl (Nat.le_of_ble_eq_true rfl) ⟨Nat.le_refl _, Nat.le_refl _⟩ (qm_66_72 (by first | exact zdp hd (by decide) | omega) hCM9  ) (fun vr M10 hr => ?_)
        obtain ⟨⟨hCM10, hFM10⟩, x11, rfl⟩ := hr
        have hWM10 : qFr [72, 73] M M10 := hWM9.tr hFM10 (by decide)
        show zG n (0, 0) d 62 (81, [.inr (.inr (some 72)), .inr (.inr (some 22)), .inl a2, .inl a3, .inl a4, .inl x2, .inl v8, zN], [.inr (.inl (x11))]) M10 _
        exact zG_ret hd0 hz rfl rfl ⟨⟨hCM10, hWM10⟩, _, rfl⟩
      refine zG_icmp_gt hd0 hz rfl (fun hb12 => ?_) (fun hb12 => ?_)
      · exact j77
      · refine zG_blk (c' := (32, [.inr (.inr (some 72)), .inr (.inr (some 22)), .inl a2, .inl a3, .inl a4, .inl x2, .inl v8, zN], [.inl 80, .inl v8])) 2 hd0 hz (by rfl) ?_
        refine zG_icmp_gt hd0 hz rfl (fun hb13 => ?_) (fun hb13 => ?_)
        · exact j77
        · obtain ⟨x14, hx14⟩ : ∃ x : Int, x = w32 (a3 + v8) := ⟨_, rfl⟩
          have hx14r : x14 = (a3 + v8 + 2147483648) % 4294967296 - 2147483648 := hx14
          refine zG_blk (c' := (41, [.inr (.inr (some 72)), .inr (.inr (some 22)), .inl a2, .inl a3, .inl a4, .inl x2, .inl v8, zN], [.inl x14, .inl a2, .inr (.inr (some 22))])) 5 hd0 hz (by subst hx14; rfl) ?_
          refine zG_call hd0 hz zp_106 rfl rfl (Nat.le_of_ble_eq_true rfl) ⟨Nat.le_refl _, Nat.le_refl _⟩ (qw_get (by first | exact zdp hd (by decide) | omega) hCM9 (⟨by decide, rfl, rfl⟩ : qT n 22 10 164) a2 (by first | with_reducible exact ha2 | omega) x14 (by omega)) (fun vr M15 hr => ?_)
          obtain ⟨hq, x16, rfl, hx16⟩ := hr
          replace hq := hq.symm; subst hq
          show zG n (0, 0) d 62 (44, [.inr (.inr (some 72)), .inr (.inr (some 22)), .inl a2, .inl a3, .inl a4, .inl x2, .inl v8, zN], [.inl x16]) M9 _
          refine zG_blk (c' := (48, [.inr (.inr (some 72)), .inr (.inr (some 22)), .inl a2, .inl a3, .inl a4, .inl x2, .inl v8, .inl x16], [.inl x16])) 2 hd0 hz (by rfl) ?_
          have j71 : ∀ (M17 : zM) , qCI M17 → qFr [72, 73] M M17 → zG n (0, 0) d 62 (71, [.inr (.inr (some 72)), .inr (.inr (some 22)), .inl a2, .inl a3, .inl a4, .inl x2, .inl v8, .inl x16], []) M17 (fun v M' => qWf qCI [72, 73] M M' ∧ qRl v) := by
            intro M17 hCM17 hWM17
            obtain ⟨x18, hx18⟩ : ∃ x : Int, x = w32 (v8 + 1) := ⟨_, rfl⟩
            have hx18e : x18 = v8 + 1 := by rw [hx18]; exact w32_id (by omega)
            refine zG_blk (c' := (21, [.inr (.inr (some 72)), .inr (.inr (some 22)), .inl a2, .inl a3, .inl a4, .inl x2, .inl x18, .inl x16], [])) 2 hd0 hz (by subst hx18; rfl) ?_
            exact zG_weak (ih21 x18 M17 (by omega) (by omega) hCM17 hWM17) ⟨.inr rfl, .inr rfl, .inr rfl, .inr rfl, .inr rfl, .inr rfl, .inr rfl, .inl rfl, trivial⟩
          refine zG_if_lt hd0 hz rfl (fun hb19 => ?_) (fun hb19 => ?_)
          · obtain ⟨x20, hx20⟩ : ∃ x : Int, x = zbxor x16 (-1) := ⟨_, rfl⟩
            have hx20r : qin x20 := by rw [hx20]; exact qb32 _
            refine zG_blk (c' := (68, [.inr (.inr (some 72)), .inr (.inr (some 22)), .inl a2, .inl a3, .inl a4, .inl x2, .inl v8, .inl x16], [.inl a4, .inl x20, .inr (.inr (some 72))])) 5 hd0 hz (by subst hx20; rfl) ?_
            refine zG_call hd0 hz zp_63 rfl rfl (Nat.le_of_ble_eq_true rfl) ⟨Nat.le_refl _, Nat.le_refl _⟩ (qm_63_72 (by first | exact zdp hd (by decide) | omega) hCM9  x20 (by omega) a4 (by first | with_reducible exact ha4 | omega)) (fun vr M21 hr => ?_)
            obtain ⟨⟨hCM21, hFM21⟩, rfl⟩ := hr
            have hWM21 : qFr [72, 73] M M21 := hWM9.tr hFM21 (by decide)
            show zG n (0, 0) d 62 (71, [.inr (.inr (some 72)), .inr (.inr (some 22)), .inl a2, .inl a3, .inl a4, .inl x2, .inl v8, .inl x16], []) M21 _
            exact j71 M21 hCM21 hWM21
          · refine zG_blk (c' := (55, [.inr (.inr (some 72)), .inr (.inr (some 22)), .inl a2, .inl a3, .inl a4, .inl x2, .inl v8, .inl x16], [.inr (.inl (x16)), .inr (.inr (some 72))])) 3 hd0 hz (by rfl) ?_
            refine zG_call hd0 hz zp_65 rfl rfl (Nat.le_of_ble_eq_true rfl) ⟨Nat.le_refl _, Nat.le_refl _⟩ (qm_65_72 (by first | exact zdp hd (by decide) | omega) hCM9  x16) (fun vr M23 hr => ?_)
            obtain ⟨⟨hCM23, hFM23⟩, rfl⟩ := hr
            have hWM23 : qFr [72, 73] M M23 := hWM9.tr hFM23 (by decide)
            show zG n (0, 0) d 62 (58, [.inr (.inr (some 72)), .inr (.inr (some 22)), .inl a2, .inl a3, .inl a4, .inl x2, .inl v8, .inl x16], []) M23 _
            refine zG_blk (c' := (71, [.inr (.inr (some 72)), .inr (.inr (some 22)), .inl a2, .inl a3, .inl a4, .inl x2, .inl v8, .inl x16], [])) 1 hd0 hz (by rfl) ?_
            exact j71 M23 hCM23 hWM23
  exact j21 ((81 - 1 : Int).toNat + 1) 1 M5 (by omega) (by omega) hCM5 hWM5
theorem qm_62_72_77 {n d : Nat} {M : zM} (hd : 3 ≤ d) (hC : qCI M) (a2 : Int) (ha2 : (-2147483648) ≤ a2 ∧ a2 ≤ 2147483647) (a3 : Int) (ha3 : (-2147483648) ≤ a3 ∧ a3 ≤ 2147483647) (a4 : Int) (ha4 : (-2147483648) ≤ a4 ∧ a4 ≤ 2147483647) : qOkM n d 62 [.inr (.inr (some 72)), .inr (.inr (some 77)), .inl a2, .inl a3, .inl a4] 8 qCI [72, 73] M qRl := by
  have hz := zp_62
  have hd0 : 0 < d := by omega
  have hW : qFr [72, 73] M M := qFr.rfl
  show zG n (0, 0) d 62 (0, [.inr (.inr (some 72)), .inr (.inr (some 77)), .inl a2, .inl a3, .inl a4, zN, zN, zN], []) M _
  refine zG_blk (c' := (3, [.inr (.inr (some 72)), .inr (.inr (some 77)), .inl a2, .inl a3, .inl a4, zN, zN, zN], [.inl a3, .inl a2, .inr (.inr (some 77))])) 3 hd0 hz (by rfl) ?_
  refine zG_call hd0 hz zp_106 rfl rfl (Nat.le_of_ble_eq_true rfl) ⟨Nat.le_refl _, Nat.le_refl _⟩ (qw_get (by first | exact zdp hd (by decide) | omega) hC (⟨by decide, rfl, rfl⟩ : qT n 77 1 164) a2 (by first | with_reducible exact ha2 | omega) a3 (by first | with_reducible exact ha3 | omega)) (fun vr M1 hr => ?_)
  obtain ⟨hq, x2, rfl, hx2⟩ := hr
  replace hq := hq.symm; subst hq
  show zG n (0, 0) d 62 (6, [.inr (.inr (some 72)), .inr (.inr (some 77)), .inl a2, .inl a3, .inl a4, zN, zN, zN], [.inl x2]) M _
  refine zG_blk (c' := (10, [.inr (.inr (some 72)), .inr (.inr (some 77)), .inl a2, .inl a3, .inl a4, .inl x2, zN, zN], [.inl 0, .inr (.inr (some 72))])) 3 hd0 hz (by rfl) ?_
  refine zG_putf (.inl rfl) hd0 hz rfl (by decide) rfl rfl ?_
  obtain ⟨M3, hM3⟩ : ∃ X : zM, X = zput M 72 4 0 := ⟨_, rfl⟩
  rw [← hM3]
  have hCM3 : qCI M3 := by rw [hM3]; exact hC.put (r := 72) (k := 4) rfl (.inl (by omega))
  have hWM3 : qFr [72, 73] M M3 := by rw [hM3]; exact hW.put (by decide)
  have e4 : M3 72 4 = 0 := by rw [hM3]; exact qput_eq
  show zG n (0, 0) d 62 (13, [.inr (.inr (some 72)), .inr (.inr (some 77)), .inl a2, .inl a3, .inl a4, .inl x2, zN, zN], []) M3 _
  refine zG_blk (c' := (15, [.inr (.inr (some 72)), .inr (.inr (some 77)), .inl a2, .inl a3, .inl a4, .inl x2, zN, zN], [.inl 0, .inr (.inr (some 72))])) 2 hd0 hz (by rfl) ?_
  refine zG_putf (.inr ⟨rfl, by omega⟩) hd0 hz rfl (by decide) rfl rfl ?_
  obtain ⟨M5, hM5⟩ : ∃ X : zM, X = zput M3 72 5 0 := ⟨_, rfl⟩
  rw [← hM5]
  have hCM5 : qCI M5 := by rw [hM5]; exact hCM3.putUm (by omega)
  have hWM5 : qFr [72, 73] M M5 := by rw [hM5]; exact hWM3.put (by decide)
  have e6 : M5 72 4 = M3 72 4 := by rw [hM5]; exact qput_nk (by decide)
  have e7 : M5 72 5 = 0 := by rw [hM5]; exact qput_eq
  show zG n (0, 0) d 62 (18, [.inr (.inr (some 72)), .inr (.inr (some 77)), .inl a2, .inl a3, .inl a4, .inl x2, zN, zN], []) M5 _
  refine zG_blk (c' := (21, [.inr (.inr (some 72)), .inr (.inr (some 77)), .inl a2, .inl a3, .inl a4, .inl x2, .inl 1, zN], [])) 2 hd0 hz (by rfl) ?_
  have j21 : ∀ (N : Nat) (v8 : Int) (M9 : zM) , (81 - v8 : Int).toNat < N → 1 ≤ v8 ∧ v8 ≤ 81 → qCI M9 → qFr [72, 73] M M9 → zG n (0, 0) d 62 (21, [.inr (.inr (some 72)), .inr (.inr (some 77)), .inl a2, .inl a3, .inl a4, .inl x2, .inl v8, zN], []) M9 (fun v M' => qWf qCI [72, 73] M M' ∧ qRl v) := by
    intro N
    induction N with
    | zero => intro v8 M9 hN hv8 hCM9 hWM9; exact absurd hN (Nat.not_lt_zero _)
    | succ N ih21 =>
      intro v8 M9 hN hv8 hCM9 hWM9
      refine zG_blk (c' := (25, [.inr (.inr (some 72)), .inr (.inr (some 77)), .inl a2, .inl a3, .inl a4, .inl x2, .inl v8, zN], [.inl x2, .inl v8])) 2 hd0 hz (by rfl) ?_
      have j77 : zG n (0, 0) d 62 (77, [.inr (.inr (some 72)), .inr (.inr (some 77)), .inl a2, .inl a3, .inl a4, .inl x2, .inl v8, zN], []) M9 (fun v M' => qWf qCI [72, 73] M M' ∧ qRl v) := by
        refine zG_blk (c' := (78, [.inr (.inr (some 72)), .inr (.inr (some 77)), .inl a2, .inl a3, .inl a4, .inl x2, .inl v8, zN], [.inr (.inr (some 72))])) 1 hd0 hz (by rfl) ?_
        refine zG_call hd0 hz zp_66 rfl rfl (Nat.le_of_ble_eq_true rfl) ⟨Nat.le_refl _, Nat.le_refl _⟩ (qm_66_72 (by first | exact zdp hd (by decide) | omega) hCM9  ) (fun vr M10 hr => ?_)
        obtain ⟨⟨hCM10, hFM10⟩, x11, rfl⟩ := hr
        have hWM10 : qFr [72, 73] M M10 := hWM9.tr hFM10 (by decide)
        show zG n (0, 0) d 62 (81, [.inr (.inr (some 72)), .inr (.inr (some 77)), .inl a2, .inl a3, .inl a4, .inl x2, .inl v8, zN], [.inr (.inl (x11))]) M10 _
        exact zG_ret hd0 hz rfl rfl ⟨⟨hCM10, hWM10⟩, _, rfl⟩
      refine zG_icmp_gt hd0 hz rfl (fun hb12 => ?_) (fun hb12 => ?_)
      · exact j77
      · refine zG_blk (c' := (32, [.inr (.inr (some 72)), .inr (.inr (some 77)), .inl a2, .inl a3, .inl a4, .inl x2, .inl v8, zN], [.inl 80, .inl v8])) 2 hd0 hz (by rfl) ?_
        refine zG_icmp_gt hd0 hz rfl (fun hb13 => ?_) (fun hb13 => ?_)
        · exact j77
        · obtain ⟨x14, hx14⟩ : ∃ x : Int, x = w32 (a3 + v8) := ⟨_, rfl⟩
          have hx14r : x14 = (a3 + v8 + 2147483648) % 4294967296 - 2147483648 := hx14
          refine zG_blk (c' := (41, [.inr (.inr (some 72)), .inr (.inr (some 77)), .inl a2, .inl a3, .inl a4, .inl x2, .inl v8, zN], [.inl x14, .inl a2, .inr (.inr (some 77))])) 5 hd0 hz (by subst hx14; rfl) ?_
          refine zG_call hd0 hz zp_106 rfl rfl (Nat.le_of_ble_eq_true rfl) ⟨Nat.le_refl _, Nat.le_refl _⟩ (qw_get (by first | exact zdp hd (by decide) | omega) hCM9 (⟨by decide, rfl, rfl⟩ : qT n 77 1 164) a2 (by first | with_reducible exact ha2 | omega) x14 (by omega)) (fun vr M15 hr => ?_)
          obtain ⟨hq, x16, rfl, hx16⟩ := hr
          replace hq := hq.symm; subst hq
          show zG n (0, 0) d 62 (44, [.inr (.inr (some 72)), .inr (.inr (some 77)), .inl a2, .inl a3, .inl a4, .inl x2, .inl v8, zN], [.inl x16]) M9 _
          refine zG_blk (c' := (48, [.inr (.inr (some 72)), .inr (.inr (some 77)), .inl a2, .inl a3, .inl a4, .inl x2, .inl v8, .inl x16], [.inl x16])) 2 hd0 hz (by rfl) ?_
          have j71 : ∀ (M17 : zM) , qCI M17 → qFr [72, 73] M M17 → zG n (0, 0) d 62 (71, [.inr (.inr (some 72)), .inr (.inr (some 77)), .inl a2, .inl a3, .inl a4, .inl x2, .inl v8, .inl x16], []) M17 (fun v M' => qWf qCI [72, 73] M M' ∧ qRl v) := by
            intro M17 hCM17 hWM17
            obtain ⟨x18, hx18⟩ : ∃ x : Int, x = w32 (v8 + 1) := ⟨_, rfl⟩
            have hx18e : x18 = v8 + 1 := by rw [hx18]; exact w32_id (by omega)
            refine zG_blk (c' := (21, [.inr (.inr (some 72)), .inr (.inr (some 77)), .inl a2, .inl a3, .inl a4, .inl x2, .inl x18, .inl x16], [])) 2 hd0 hz (by subst hx18; rfl) ?_
            exact zG_weak (ih21 x18 M17 (by omega) (by omega) hCM17 hWM17) ⟨.inr rfl, .inr rfl, .inr rfl, .inr rfl, .inr rfl, .inr rfl, .inr rfl, .inl rfl, trivial⟩
          refine zG_if_lt hd0 hz rfl (fun hb19 => ?_) (fun hb19 => ?_)
          · obtain ⟨x20, hx20⟩ : ∃ x : Int, x = zbxor x16 (-1) := ⟨_, rfl⟩
            have hx20r : qin x20 := by rw [hx20]; exact qb32 _
            refine zG_blk (c' := (68, [.inr (.inr (some 72)), .inr (.inr (some 77)), .inl a2, .inl a3, .inl a4, .inl x2, .inl v8, .inl x16], [.inl a4, .inl x20, .inr (.inr (some 72))])) 5 hd0 hz (by subst hx20; rfl) ?_
            refine zG_call hd0 hz zp_63 rfl rfl (Nat.le_of_ble_eq_true rfl) ⟨Nat.le_refl _, Nat.le_refl _⟩ (qm_63_72 (by first | exact zdp hd (by decide) | omega) hCM9  x20 (by omega) a4 (by first | with_reducible exact ha4 | omega)) (fun vr M21 hr => ?_)
            obtain ⟨⟨hCM21, hFM21⟩, rfl⟩ := hr
            have hWM21 : qFr [72, 73] M M21 := hWM9.tr hFM21 (by decide)
            show zG n (0, 0) d 62 (71, [.inr (.inr (some 72)), .inr (.inr (some 77)), .inl a2, .inl a3, .inl a4, .inl x2, .inl v8, .inl x16], []) M21 _
            exact j71 M21 hCM21 hWM21
          · refine zG_blk (c' := (55, [.inr (.inr (some 72)), .inr (.inr (some 77)), .inl a2, .inl a3, .inl a4, .inl x2, .inl v8, .inl x16], [.inr (.inl (x16)), .inr (.inr (some 72))])) 3 hd0 hz (by rfl) ?_
            refine zG_call hd0 hz zp_65 rfl rfl (Nat.le_of_ble_eq_true rfl) ⟨Nat.le_refl _, Nat.le_refl _⟩ (qm_65_72 (by first | exact zdp hd (by decide) | omega) hCM9  x16) (fun vr M23 hr => ?_)
            obtain ⟨⟨hCM23, hFM23⟩, rfl⟩ := hr
            have hWM23 : qFr [72, 73] M M23 := hWM9.tr hFM23 (by decide)
            show zG n (0, 0) d 62 (58, [.inr (.inr (some 72)), .inr (.inr (some 77)), .inl a2, .inl a3, .inl a4, .inl x2, .inl v8, .inl x16], []) M23 _
            refine zG_blk (c' := (71, [.inr (.inr (some 72)), .inr (.inr (some 77)), .inl a2, .inl a3, .inl a4, .inl x2, .inl v8, .inl x16], [])) 1 hd0 hz (by rfl) ?_
            exact j71 M23 hCM23 hWM23
  exact j21 ((81 - 1 : Int).toNat + 1) 1 M5 (by omega) (by omega) hCM5 hWM5
