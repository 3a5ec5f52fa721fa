theorem qm_92_67 {n d : Nat} {M : zM} (hd : 1 ≤ d) (hC : qCI M) (a1 : Int) (ha1 : (-2147483648) ≤ a1 ∧ a1 ≤ 2147483647) : qOkM n d 92 [.inr (.inr (some 67)), .inl a1] 2 qCI [67] M qRn := by
  have hz := zp_92
  have hd0 : 0 < d := by omega
  have hW : qFr [67] M M := qFr.rfl
  show zG n (0, 0) d 92 (0, [.inr (.inr (some 67)), .inl a1], []) M _
  have r1 := hC.rng 67 10 (by decide) (by decide)
  refine zG_blk (c' := (5, [.inr (.inr (some 67)), .inl a1], [.inl (-1), .inl (M 67 10)])) 3 hd0 hz (by rfl) ?_
  have j21 : ∀ (M2 : zM) , qCI M2 → qFr [67] M M2 → zG n (0, 0) d 92 (21, [.inr (.inr (some 67)), .inl a1], []) M2 (fun v M' => qWf qCI [67] M M' ∧ qRn v) := by
    intro M2 hCM2 hWM2
    exact zG_ret hd0 hz rfl rfl ⟨⟨hCM2, hWM2⟩, rfl⟩
  refine zG_icmp_ne hd0 hz rfl (fun hb3 => ?_) (fun hb3 => ?_)
  · exact j21 M hC hW
  · have r4 := hC.rng 67 5 (by decide) (by decide)
    obtain ⟨x5, hx5⟩ : ∃ x : Int, x = w32 (10 * (M 67 5)) := ⟨_, rfl⟩
    have hx5r : qin x5 := by rw [hx5]; exact w32_in _
    obtain ⟨x6, hx6⟩ : ∃ x : Int, x = w32 (x5 + a1) := ⟨_, rfl⟩
    have hx6r : x6 = (x5 + a1 + 2147483648) % 4294967296 - 2147483648 := hx6
    refine zG_blk (c' := (18, [.inr (.inr (some 67)), .inl a1], [.inl x6, .inr (.inr (some 67))])) 7 hd0 hz (by subst hx6; subst hx5; rfl) ?_
    refine zG_putf (.inl rfl) hd0 hz rfl (by decide) rfl rfl ?_
    obtain ⟨M7, hM7⟩ : ∃ X : zM, X = zput M 67 10 x6 := ⟨_, rfl⟩
    rw [← hM7]
    have hCM7 : qCI M7 := by rw [hM7]; exact hC.put (r := 67) (k := 10) rfl (.inl (by omega))
    have hWM7 : qFr [67] M M7 := by rw [hM7]; exact hW.put (by decide)
    have e8 : M7 67 5 = M 67 5 := by rw [hM7]; exact qput_nk (by decide)
    have e9 : M7 67 10 = x6 := by rw [hM7]; exact qput_eq
    show zG n (0, 0) d 92 (21, [.inr (.inr (some 67)), .inl a1], []) M7 _
    exact j21 M7 hCM7 hWM7
theorem qm_95_67 {n d : Nat} {M : zM} (hd : 6 ≤ d) (hC : qCI M)  : qOkM n d 95 [.inr (.inr (some 67))] 1 qCI [67] M qRn := by
  have hz := zp_95
  have hd0 : 0 < d := by omega
  have hW : qFr [67] M M := qFr.rfl
  show zG n (0, 0) d 95 (0, [.inr (.inr (some 67))], []) M _
  have j0 : ∀ (N : Nat) (M1 : zM) , (M1 67 4 - M1 67 6 : Int).toNat < N → qCI M1 → qFr [67] M M1 → zG n (0, 0) d 95 (0, [.inr (.inr (some 67))], []) M1 (fun v M' => qWf qCI [67] M M' ∧ qRn v) := by
    intro N
    induction N with
    | zero => intro M1 hN hCM1 hWM1; exact absurd hN (Nat.not_lt_zero _)
    | succ N ih0 =>
      intro M1 hN hCM1 hWM1
      have r2 := hCM1.rng 67 6 (by decide) (by decide)
      have r3 := hCM1.rng 67 4 (by decide) (by decide)
      refine zG_blk (c' := (8, [.inr (.inr (some 67))], [.inl (M1 67 4), .inl (M1 67 6)])) 4 hd0 hz (by rfl) ?_
      have j38 : zG n (0, 0) d 95 (38, [.inr (.inr (some 67))], []) M1 (fun v M' => qWf qCI [67] M M' ∧ qRn v) := by
        refine zG_blk (c' := (40, [.inr (.inr (some 67))], [.inr (.inr (some 67)), .inr (.inr (some 67))])) 2 hd0 hz (by rfl) ?_
        refine zG_call hd0 hz zp_96 rfl rfl (Nat.le_of_ble_eq_true rfl) ⟨Nat.le_refl _, Nat.le_refl _⟩ (qm_96_67 (by first | exact zdp hd (by decide) | omega) hCM1  ) (fun vr M4 hr => ?_)
        obtain ⟨hq, x5, rfl, hx5⟩ := hr
        replace hq := hq.symm; subst hq
        show zG n (0, 0) d 95 (43, [.inr (.inr (some 67))], [.inl x5, .inr (.inr (some 67))]) M1 _
        refine zG_putf (.inl rfl) hd0 hz rfl (by decide) rfl rfl ?_
        obtain ⟨M6, hM6⟩ : ∃ X : zM, X = zput M1 67 7 x5 := ⟨_, rfl⟩
        rw [← hM6]
        have hCM6 : qCI M6 := by rw [hM6]; exact hCM1.put (r := 67) (k := 7) rfl (.inl (by omega))
        have hWM6 : qFr [67] M M6 := by rw [hM6]; exact hWM1.put (by decide)
        have e7 : M6 67 6 = M1 67 6 := by rw [hM6]; exact qput_nk (by decide)
        have e8 : M6 67 4 = M1 67 4 := by rw [hM6]; exact qput_nk (by decide)
        have e9 : M6 67 7 = x5 := by rw [hM6]; exact qput_eq
        show zG n (0, 0) d 95 (46, [.inr (.inr (some 67))], []) M6 _
        refine zG_blk (c' := (51, [.inr (.inr (some 67))], [.inl (-1), .inl (M6 67 7)])) 3 hd0 hz (by rfl) ?_
        have j59 : ∀ (M10 : zM) , qCI M10 → qFr [67] M M10 → zG n (0, 0) d 95 (59, [.inr (.inr (some 67))], []) M10 (fun v M' => qWf qCI [67] M M' ∧ qRn v) := by
          intro M10 hCM10 hWM10
          exact zG_ret hd0 hz rfl rfl ⟨⟨hCM10, hWM10⟩, rfl⟩
        refine zG_icmp_ne hd0 hz rfl (fun hb11 => ?_) (fun hb11 => ?_)
        · exact j59 M6 hCM6 hWM6
        · refine zG_blk (c' := (56, [.inr (.inr (some 67))], [.inl 4, .inr (.inr (some 67))])) 2 hd0 hz (by rfl) ?_
          refine zG_call hd0 hz zp_92 rfl rfl (Nat.le_of_ble_eq_true rfl) ⟨Nat.le_refl _, Nat.le_refl _⟩ (qm_92_67 (by first | exact zdp hd (by decide) | omega) hCM6  4 (by first | decide | omega)) (fun vr M12 hr => ?_)
          obtain ⟨⟨hCM12, hFM12⟩, rfl⟩ := hr
          have hWM12 : qFr [67] M M12 := hWM6.tr hFM12 (by decide)
          show zG n (0, 0) d 95 (59, [.inr (.inr (some 67))], []) M12 _
          exact j59 M12 hCM12 hWM12
      refine zG_icmp_ge hd0 hz rfl (fun hb14 => ?_) (fun hb14 => ?_)
      · exact j38
      · refine zG_blk (c' := (16, [.inr (.inr (some 67))], [.inl (M1 67 6), .inr (.inr (some 67))])) 3 hd0 hz (by rfl) ?_
        refine zG_call hd0 hz zp_97 rfl rfl (Nat.le_of_ble_eq_true rfl) ⟨Nat.le_refl _, Nat.le_refl _⟩ (qm_97_67 (by first | exact zdp hd (by decide) | omega) hCM1  (M1 67 6) (by omega)) (fun vr M15 hr => ?_)
        obtain ⟨hq, x16, rfl, hx16⟩ := hr
        replace hq := hq.symm; subst hq
        show zG n (0, 0) d 95 (19, [.inr (.inr (some 67))], [.inl x16]) M1 _
        refine zG_call hd0 hz zp_99 rfl rfl (Nat.le_of_ble_eq_true rfl) ⟨Nat.le_refl _, Nat.le_refl _⟩ (qm_99 (by first | exact zdp hd (by decide) | omega) hCM1  x16 (by omega)) (fun vr M17 hr => ?_)
        obtain ⟨hq, x18, rfl, hx18⟩ := hr
        replace hq := hq.symm; subst hq
        show zG n (0, 0) d 95 (22, [.inr (.inr (some 67))], [.inl x18]) M1 _
        refine zG_if_eq hd0 hz rfl (fun hb19 => ?_) (fun hb19 => ?_)
        · exact j38
        · obtain ⟨x20, hx20⟩ : ∃ x : Int, x = w32 ((M1 67 6) + 1) := ⟨_, rfl⟩
          have hx20r : x20 = ((M1 67 6) + 1 + 2147483648) % 4294967296 - 2147483648 := hx20
          refine zG_blk (c' := (32, [.inr (.inr (some 67))], [.inl x20, .inr (.inr (some 67))])) 5 hd0 hz (by subst hx20; rfl) ?_
          refine zG_putf (.inl rfl) hd0 hz rfl (by decide) rfl rfl ?_
          obtain ⟨M21, hM21⟩ : ∃ X : zM, X = zput M1 67 6 x20 := ⟨_, rfl⟩
          rw [← hM21]
          have hCM21 : qCI M21 := by rw [hM21]; exact hCM1.put (r := 67) (k := 6) rfl (.inl (by omega))
          have hWM21 : qFr [67] M M21 := by rw [hM21]; exact hWM1.put (by decide)
          have e22 : M21 67 4 = M1 67 4 := by rw [hM21]; exact qput_nk (by decide)
          have e23 : M21 67 6 = x20 := by rw [hM21]; exact qput_eq
          show zG n (0, 0) d 95 (35, [.inr (.inr (some 67))], []) M21 _
          refine zG_blk (c' := (0, [.inr (.inr (some 67))], [])) 1 hd0 hz (by rfl) ?_
          exact ih0 M21 (by omega) hCM21 hWM21
  exact j0 ((M 67 4 - M 67 6 : Int).toNat + 1) M (by omega) hC hW
theorem qm_304_6 {n d : Nat} {M : zM} (hd : 1 ≤ d) (hC : qCI M)  : qOkP n d 304 [.inr (.inr (some 6))] 1 M (qRi (fun x => 1 ≤ x ∧ x ≤ 1)) := by
  have hz := zp_304
  have hd0 : 0 < d := by omega
  show zG n (0, 0) d 304 (0, [.inr (.inr (some 6))], []) M _
  refine zG_blk (c' := (6, [.inr (.inr (some 6))], [])) 2 hd0 hz (by rfl) ?_
  have j18 : ∀ (v1 : Int) , 1 ≤ v1 ∧ v1 ≤ 1 → zG n (0, 0) d 304 (18, [.inr (.inr (some 6))], [.inl v1]) M (fun v M' => M' = M ∧ qRi (fun x => 1 ≤ x ∧ x ≤ 1) v) := by
    intro v1 hv1
    exact zG_zret hd0 hz rfl (by omega) ⟨rfl, _, rfl, by omega⟩
  have r2 := hC.st.2
  refine zG_blk (c' := (10, [.inr (.inr (some 6))], [.inl (M 6 1)])) 2 hd0 hz (by rfl) ?_
  refine zG_if_ne hd0 hz rfl (fun hb3 => ?_) (fun hb3 => ?_)
  · exfalso; omega
  · refine zG_blk (c' := (18, [.inr (.inr (some 6))], [.inl 1])) 2 hd0 hz (by rfl) ?_
    exact j18 1 (by first | decide | omega)
theorem qm_303_6 {n d : Nat} {M : zM} (hd : 1 ≤ d) (hC : qCI M)  : qOkP n d 303 [.inr (.inr (some 6))] 1 M (qRi (fun x => 0 ≤ x ∧ x ≤ 0)) := by
  have hz := zp_303
  have hd0 : 0 < d := by omega
  show zG n (0, 0) d 303 (0, [.inr (.inr (some 6))], []) M _
  refine zG_blk (c' := (6, [.inr (.inr (some 6))], [])) 2 hd0 hz (by rfl) ?_
  have j14 : ∀ (v1 : Int) , 0 ≤ v1 ∧ v1 ≤ 0 → zG n (0, 0) d 303 (14, [.inr (.inr (some 6))], [.inl v1]) M (fun v M' => M' = M ∧ qRi (fun x => 0 ≤ x ∧ x ≤ 0) v) := by
    intro v1 hv1
    exact zG_ret hd0 hz rfl (if_pos (by omega)) ⟨rfl, _, rfl, by omega⟩
  have r2 := hC.st.2
  refine zG_blk (c' := (14, [.inr (.inr (some 6))], [.inl (M 6 1)])) 3 hd0 hz (by rfl) ?_
  exact j14 (M 6 1) (by omega)
theorem qm_302_6 {n d : Nat} {M : zM} (hd : 2 ≤ d) (hC : qCI M)  : qOkP n d 302 [.inr (.inr (some 6))] 1 M (qRi (fun x => 0 ≤ x ∧ x ≤ 9)) := by
  have hz := zp_302
  have hd0 : 0 < d := by omega
  show zG n (0, 0) d 302 (0, [.inr (.inr (some 6))], []) M _
  refine zG_blk (c' := (6, [.inr (.inr (some 6))], [.inr (.inr (some 6)), .inl 9])) 4 hd0 hz (by rfl) ?_
  refine zG_call hd0 hz zp_303 rfl rfl (Nat.le_of_ble_eq_true rfl) ⟨Nat.le_refl _, Nat.le_refl _⟩ (qm_303_6 (by first | exact zdp hd (by decide) | omega) hC  ) (fun vr M1 hr => ?_)
  obtain ⟨hq, x2, rfl, hx2⟩ := hr
  replace hq := hq.symm; subst hq
  show zG n (0, 0) d 302 (9, [.inr (.inr (some 6))], [.inl x2, .inl 9]) M _
  obtain ⟨x3, hx3⟩ : ∃ x : Int, x = zbshr 9 x2 := ⟨_, rfl⟩
  have hx3r := qbshr_n 9 x2 (by omega); rw [← hx3] at hx3r
  refine zG_blk (c' := (10, [.inr (.inr (some 6))], [.inl x3])) 1 hd0 hz (by subst hx3; rfl) ?_
  exact zG_ret hd0 hz rfl rfl ⟨rfl, _, rfl, by omega⟩
