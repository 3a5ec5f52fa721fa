theorem qm_2_95 {n d : Nat} {M : zM} (hd : 1 ≤ d) (hC : qCI M)  : qOkP n d 2 [.inr (.inr (some 95))] 1 M (qRi (fun x => (-2147483648) ≤ x ∧ x ≤ 2147483647)) := by
  have hz := zp_2
  have hd0 : 0 < d := by omega
  show zG n (0, 0) d 2 (0, [.inr (.inr (some 95))], []) M _
  have r1 := hC.rng 95 2 (by decide) (by decide)
  refine zG_blk (c' := (4, [.inr (.inr (some 95))], [.inl (M 95 2)])) 2 hd0 hz (by rfl) ?_
  exact zG_ret hd0 hz rfl rfl ⟨rfl, _, rfl, by omega⟩
theorem qm_164_8 {n d : Nat} {M : zM} (hd : 4 ≤ d) (hC : qCI M) (a1 : Int) (ha1 : (-2147483648) ≤ a1 ∧ a1 ≤ 2147483647) (a2 : Int) (ha2 : (-2147483648) ≤ a2 ∧ a2 ≤ 2147483647) : qOkM n d 164 [.inr (.inr (some 8)), .inl a1, .inl a2] 3 qCI [95, 96] M (qRi (fun x => (-2147483648) ≤ x ∧ x ≤ 2147483647)) := by
  have hz := zp_164
  have hd0 : 0 < d := by omega
  have hW : qFr [95, 96] M M := qFr.rfl
  show zG n (0, 0) d 164 (0, [.inr (.inr (some 8)), .inl a1, .inl a2], []) M _
  refine zG_blk (c' := (5, [.inr (.inr (some 8)), .inl a1, .inl a2], [.inl 12000, .inl 0, .inl a1])) 3 hd0 hz (by rfl) ?_
  refine zG_call hd0 hz zp_169 rfl rfl (Nat.le_of_ble_eq_true rfl) ⟨Nat.le_refl _, Nat.le_refl _⟩ (qm_169 (by first | exact zdp hd (by decide) | omega) hC  a1 (by first | with_reducible exact ha1 | omega) 0 (by first | decide | omega) 12000 (by first | decide | omega)) (fun vr M1 hr => ?_)
  obtain ⟨hq, x2, rfl, hx2⟩ := hr
  replace hq := hq.symm; subst hq
  show zG n (0, 0) d 164 (8, [.inr (.inr (some 8)), .inl a1, .inl a2], [.inl x2]) M _
  have j20 : zG n (0, 0) d 164 (20, [.inr (.inr (some 8)), .inl a1, .inl a2], []) M (fun v M' => qWf qCI [95, 96] M M' ∧ qRi (fun x => (-2147483648) ≤ x ∧ x ≤ 2147483647) v) := by
    refine zG_blk (c' := (22, [.inr (.inr (some 8)), .inl a1, .inl a2], [.inl (-2)])) 1 hd0 hz (by rfl) ?_
    exact zG_ret hd0 hz rfl rfl ⟨⟨hC, hW⟩, _, rfl, by omega⟩
  refine zG_if_eq hd0 hz rfl (fun hb3 => ?_) (fun hb3 => ?_)
  · exact j20
  · refine zG_blk (c' := (14, [.inr (.inr (some 8)), .inl a1, .inl a2], [.inl 1, .inl 0, .inl a2])) 3 hd0 hz (by rfl) ?_
    refine zG_call hd0 hz zp_169 rfl rfl (Nat.le_of_ble_eq_true rfl) ⟨Nat.le_refl _, Nat.le_refl _⟩ (qm_169 (by first | exact zdp hd (by decide) | omega) hC  a2 (by first | with_reducible exact ha2 | omega) 0 (by first | decide | omega) 1 (by first | decide | omega)) (fun vr M4 hr => ?_)
    obtain ⟨hq, x5, rfl, hx5⟩ := hr
    replace hq := hq.symm; subst hq
    show zG n (0, 0) d 164 (17, [.inr (.inr (some 8)), .inl a1, .inl a2], [.inl x5]) M _
    refine zG_if_ne hd0 hz rfl (fun hb6 => ?_) (fun hb6 => ?_)
    · refine zG_blk (c' := (35, [.inr (.inr (some 8)), .inl a1, .inl a2], [.inl a1, .inr (.inr (some 24)), .inr (.inr (some 95))])) 6 hd0 hz (by rfl) ?_
      refine zG_call hd0 hz zp_3 rfl rfl (Nat.le_of_ble_eq_true rfl) ⟨Nat.le_refl _, Nat.le_refl _⟩ (qm_3_95_24 (by first | exact zdp hd (by decide) | omega) hC  a1 (by first | with_reducible exact ha1 | omega)) (fun vr M7 hr => ?_)
      obtain ⟨⟨hCM7, hFM7⟩, rfl⟩ := hr
      have hWM7 : qFr [95, 96] M M7 := hW.tr hFM7 (by decide)
      show zG n (0, 0) d 164 (38, [.inr (.inr (some 8)), .inl a1, .inl a2], []) M7 _
      refine zG_blk (c' := (42, [.inr (.inr (some 8)), .inl a1, .inl a2], [.inr (.inr (some 95))])) 2 hd0 hz (by rfl) ?_
      refine zG_call hd0 hz zp_1 rfl rfl (Nat.le_of_ble_eq_true rfl) ⟨Nat.le_refl _, Nat.le_refl _⟩ (qm_1_95 (by first | exact zdp hd (by decide) | omega) hCM7  ) (fun vr M9 hr => ?_)
      obtain ⟨hq, x10, rfl, hx10⟩ := hr
      replace hq := hq.symm; subst hq
      show zG n (0, 0) d 164 (45, [.inr (.inr (some 8)), .inl a1, .inl a2], [.inl x10]) M7 _
      refine zG_blk (c' := (46, [.inr (.inr (some 8)), .inl a1, .inl a2], [.inl (-1), .inl x10])) 1 hd0 hz (by rfl) ?_
      refine zG_icmp_ne hd0 hz rfl (fun hb11 => ?_) (fun hb11 => ?_)
      · refine zG_blk (c' := (52, [.inr (.inr (some 8)), .inl a1, .inl a2], [.inl a2])) 1 hd0 hz (by rfl) ?_
        have j72 : ∀ (v12 : Int) , (-2147483648) ≤ v12 ∧ v12 ≤ 2147483647 → zG n (0, 0) d 164 (72, [.inr (.inr (some 8)), .inl a1, .inl a2], [.inl v12]) M7 (fun v M' => qWf qCI [95, 96] M M' ∧ qRi (fun x => (-2147483648) ≤ x ∧ x ≤ 2147483647) v) := by
          intro v12 hv12
          exact zG_ret hd0 hz rfl rfl ⟨⟨hCM7, hWM7⟩, _, rfl, by omega⟩
        refine zG_if_ne hd0 hz rfl (fun hb13 => ?_) (fun hb13 => ?_)
        · refine zG_blk (c' := (69, [.inr (.inr (some 8)), .inl a1, .inl a2], [.inr (.inr (some 95))])) 2 hd0 hz (by rfl) ?_
          refine zG_call hd0 hz zp_2 rfl rfl (Nat.le_of_ble_eq_true rfl) ⟨Nat.le_refl _, Nat.le_refl _⟩ (qm_2_95 (by first | exact zdp hd (by decide) | omega) hCM7  ) (fun vr M14 hr => ?_)
          obtain ⟨hq, x15, rfl, hx15⟩ := hr
          replace hq := hq.symm; subst hq
          show zG n (0, 0) d 164 (72, [.inr (.inr (some 8)), .inl a1, .inl a2], [.inl x15]) M7 _
          exact j72 x15 (by omega)
        · refine zG_blk (c' := (59, [.inr (.inr (some 8)), .inl a1, .inl a2], [.inr (.inr (some 95))])) 2 hd0 hz (by rfl) ?_
          refine zG_call hd0 hz zp_1 rfl rfl (Nat.le_of_ble_eq_true rfl) ⟨Nat.le_refl _, Nat.le_refl _⟩ (qm_1_95 (by first | exact zdp hd (by decide) | omega) hCM7  ) (fun vr M16 hr => ?_)
          obtain ⟨hq, x17, rfl, hx17⟩ := hr
          replace hq := hq.symm; subst hq
          show zG n (0, 0) d 164 (62, [.inr (.inr (some 8)), .inl a1, .inl a2], [.inl x17]) M7 _
          refine zG_blk (c' := (72, [.inr (.inr (some 8)), .inl a1, .inl a2], [.inl x17])) 1 hd0 hz (by rfl) ?_
          exact j72 x17 (by omega)
      · refine zG_blk (c' := (50, [.inr (.inr (some 8)), .inl a1, .inl a2], [.inl (-1)])) 1 hd0 hz (by rfl) ?_
        exact zG_ret hd0 hz rfl rfl ⟨⟨hCM7, hWM7⟩, _, rfl, by omega⟩
    · exact j20
theorem qm_176_8 {n d : Nat} {M : zM} (hd : 1 ≤ d) (hC : qCI M) (a1 : Int) (ha1 : (-2147483648) ≤ a1 ∧ a1 ≤ 2147483647) : qOkP n d 176 [.inr (.inr (some 8)), .inl a1] 2 M (fun v => v = some (.inr (.inr (some 26))) ∨ v = some (.inr (.inr (some 43)))) := by
  have hz := zp_176
  have hd0 : 0 < d := by omega
  show zG n (0, 0) d 176 (0, [.inr (.inr (some 8)), .inl a1], []) M _
  refine zG_blk (c' := (1, [.inr (.inr (some 8)), .inl a1], [.inl a1])) 1 hd0 hz (by rfl) ?_
  refine zG_if_ne hd0 hz rfl (fun hb1 => ?_) (fun hb1 => ?_)
  · refine zG_blk (c' := (15, [.inr (.inr (some 8)), .inl a1], [.inr (.inr (some 43))])) 2 hd0 hz (by rfl) ?_
    exact zG_ret hd0 hz rfl rfl ⟨rfl, by first | exact .inl rfl | exact .inr rfl⟩
  · refine zG_blk (c' := (15, [.inr (.inr (some 8)), .inl a1], [.inr (.inr (some 26))])) 3 hd0 hz (by rfl) ?_
    exact zG_ret hd0 hz rfl rfl ⟨rfl, by first | exact .inl rfl | exact .inr rfl⟩
theorem qm_26_26_9 {n d : Nat} {M : zM} (hd : 2 ≤ d) (hC : qCI M)  : qOkM n d 26 [.inr (.inr (some 26)), .inr (.inr (some 9))] 2 qCI [26, 27, 28, 29, 30, 31, 32, 33, 34, 35, 36, 37, 38, 39, 40, 41, 42] M qRn := by
  have hz := zp_26
  have hd0 : 0 < d := by omega
  have hW : qFr [26, 27, 28, 29, 30, 31, 32, 33, 34, 35, 36, 37, 38, 39, 40, 41, 42] M M := qFr.rfl
  show zG n (0, 0) d 26 (0, [.inr (.inr (some 26)), .inr (.inr (some 9))], []) M _
  refine zG_blk (c' := (8, [.inr (.inr (some 26)), .inr (.inr (some 9))], [.inr (.inr (some 10)), .inr (.inr (some 27))])) 4 hd0 hz (by rfl) ?_
  refine zG_call hd0 hz zp_110 rfl rfl (Nat.le_of_ble_eq_true rfl) ⟨Nat.le_refl _, Nat.le_refl _⟩ (qw_takeOver (by first | exact zdp hd (by decide) | omega) hC (⟨by decide, rfl, rfl⟩ : qT n 27 14 4) (⟨by decide, rfl, rfl⟩ : qT n 10 14 4) ) (fun vr M1 hr => ?_)
  obtain ⟨⟨hCM1, hFM1⟩, rfl⟩ := hr
  have hWM1 : qFr [26, 27, 28, 29, 30, 31, 32, 33, 34, 35, 36, 37, 38, 39, 40, 41, 42] M M1 := hW.tr hFM1 (by decide)
  show zG n (0, 0) d 26 (11, [.inr (.inr (some 26)), .inr (.inr (some 9))], []) M1 _
  refine zG_blk (c' := (19, [.inr (.inr (some 26)), .inr (.inr (some 9))], [.inr (.inr (some 12)), .inr (.inr (some 29))])) 4 hd0 hz (by rfl) ?_
  refine zG_call hd0 hz zp_110 rfl rfl (Nat.le_of_ble_eq_true rfl) ⟨Nat.le_refl _, Nat.le_refl _⟩ (qw_takeOver (by first | exact zdp hd (by decide) | omega) hCM1 (⟨by decide, rfl, rfl⟩ : qT n 29 20 3) (⟨by decide, rfl, rfl⟩ : qT n 12 20 3) ) (fun vr M3 hr => ?_)
  obtain ⟨⟨hCM3, hFM3⟩, rfl⟩ := hr
  have hWM3 : qFr [26, 27, 28, 29, 30, 31, 32, 33, 34, 35, 36, 37, 38, 39, 40, 41, 42] M M3 := hWM1.tr hFM3 (by decide)
  show zG n (0, 0) d 26 (22, [.inr (.inr (some 26)), .inr (.inr (some 9))], []) M3 _
  refine zG_blk (c' := (30, [.inr (.inr (some 26)), .inr (.inr (some 9))], [.inr (.inr (some 14)), .inr (.inr (some 31))])) 4 hd0 hz (by rfl) ?_
  refine zG_call hd0 hz zp_110 rfl rfl (Nat.le_of_ble_eq_true rfl) ⟨Nat.le_refl _, Nat.le_refl _⟩ (qw_takeOver (by first | exact zdp hd (by decide) | omega) hCM3 (⟨by decide, rfl, rfl⟩ : qT n 31 4 2) (⟨by decide, rfl, rfl⟩ : qT n 14 4 2) ) (fun vr M5 hr => ?_)
  obtain ⟨⟨hCM5, hFM5⟩, rfl⟩ := hr
  have hWM5 : qFr [26, 27, 28, 29, 30, 31, 32, 33, 34, 35, 36, 37, 38, 39, 40, 41, 42] M M5 := hWM3.tr hFM5 (by decide)
  show zG n (0, 0) d 26 (33, [.inr (.inr (some 26)), .inr (.inr (some 9))], []) M5 _
  refine zG_blk (c' := (41, [.inr (.inr (some 26)), .inr (.inr (some 9))], [.inr (.inr (some 16)), .inr (.inr (some 33))])) 4 hd0 hz (by rfl) ?_
  refine zG_call hd0 hz zp_110 rfl rfl (Nat.le_of_ble_eq_true rfl) ⟨Nat.le_refl _, Nat.le_refl _⟩ (qw_takeOver (by first | exact zdp hd (by decide) | omega) hCM5 (⟨by decide, rfl, rfl⟩ : qT n 33 40 5) (⟨by decide, rfl, rfl⟩ : qT n 16 40 5) ) (fun vr M7 hr => ?_)
  obtain ⟨⟨hCM7, hFM7⟩, rfl⟩ := hr
  have hWM7 : qFr [26, 27, 28, 29, 30, 31, 32, 33, 34, 35, 36, 37, 38, 39, 40, 41, 42] M M7 := hWM5.tr hFM7 (by decide)
  show zG n (0, 0) d 26 (44, [.inr (.inr (some 26)), .inr (.inr (some 9))], []) M7 _
  refine zG_blk (c' := (52, [.inr (.inr (some 26)), .inr (.inr (some 9))], [.inr (.inr (some 18)), .inr (.inr (some 35))])) 4 hd0 hz (by rfl) ?_
  refine zG_call hd0 hz zp_110 rfl rfl (Nat.le_of_ble_eq_true rfl) ⟨Nat.le_refl _, Nat.le_refl _⟩ (qw_takeOver (by first | exact zdp hd (by decide) | omega) hCM7 (⟨by decide, rfl, rfl⟩ : qT n 35 250 11) (⟨by decide, rfl, rfl⟩ : qT n 18 250 11) ) (fun vr M9 hr => ?_)
  obtain ⟨⟨hCM9, hFM9⟩, rfl⟩ := hr
  have hWM9 : qFr [26, 27, 28, 29, 30, 31, 32, 33, 34, 35, 36, 37, 38, 39, 40, 41, 42] M M9 := hWM7.tr hFM9 (by decide)
  show zG n (0, 0) d 26 (55, [.inr (.inr (some 26)), .inr (.inr (some 9))], []) M9 _
  refine zG_blk (c' := (63, [.inr (.inr (some 26)), .inr (.inr (some 9))], [.inr (.inr (some 20)), .inr (.inr (some 37))])) 4 hd0 hz (by rfl) ?_
  refine zG_call hd0 hz zp_110 rfl rfl (Nat.le_of_ble_eq_true rfl) ⟨Nat.le_refl _, Nat.le_refl _⟩ (qw_takeOver (by first | exact zdp hd (by decide) | omega) hCM9 (⟨by decide, rfl, rfl⟩ : qT n 37 8 81) (⟨by decide, rfl, rfl⟩ : qT n 20 8 81) ) (fun vr M11 hr => ?_)
  obtain ⟨⟨hCM11, hFM11⟩, rfl⟩ := hr
  have hWM11 : qFr [26, 27, 28, 29, 30, 31, 32, 33, 34, 35, 36, 37, 38, 39, 40, 41, 42] M M11 := hWM9.tr hFM11 (by decide)
  show zG n (0, 0) d 26 (66, [.inr (.inr (some 26)), .inr (.inr (some 9))], []) M11 _
  refine zG_blk (c' := (74, [.inr (.inr (some 26)), .inr (.inr (some 9))], [.inr (.inr (some 22)), .inr (.inr (some 39))])) 4 hd0 hz (by rfl) ?_
  refine zG_call hd0 hz zp_110 rfl rfl (Nat.le_of_ble_eq_true rfl) ⟨Nat.le_refl _, Nat.le_refl _⟩ (qw_takeOver (by first | exact zdp hd (by decide) | omega) hCM11 (⟨by decide, rfl, rfl⟩ : qT n 39 10 164) (⟨by decide, rfl, rfl⟩ : qT n 22 10 164) ) (fun vr M13 hr => ?_)
  obtain ⟨⟨hCM13, hFM13⟩, rfl⟩ := hr
  have hWM13 : qFr [26, 27, 28, 29, 30, 31, 32, 33, 34, 35, 36, 37, 38, 39, 40, 41, 42] M M13 := hWM11.tr hFM13 (by decide)
  show zG n (0, 0) d 26 (77, [.inr (.inr (some 26)), .inr (.inr (some 9))], []) M13 _
  refine zG_blk (c' := (85, [.inr (.inr (some 26)), .inr (.inr (some 9))], [.inr (.inr (some 24)), .inr (.inr (some 41))])) 4 hd0 hz (by rfl) ?_
  refine zG_call hd0 hz zp_110 rfl rfl (Nat.le_of_ble_eq_true rfl) ⟨Nat.le_refl _, Nat.le_refl _⟩ (qw_takeOver (by first | exact zdp hd (by decide) | omega) hCM13 (⟨by decide, rfl, rfl⟩ : qT n 41 12 2) (⟨by decide, rfl, rfl⟩ : qT n 24 12 2) ) (fun vr M15 hr => ?_)
  obtain ⟨⟨hCM15, hFM15⟩, rfl⟩ := hr
  have hWM15 : qFr [26, 27, 28, 29, 30, 31, 32, 33, 34, 35, 36, 37, 38, 39, 40, 41, 42] M M15 := hWM13.tr hFM15 (by decide)
  show zG n (0, 0) d 26 (88, [.inr (.inr (some 26)), .inr (.inr (some 9))], []) M15 _
  have r17 := hCM15.rng 9 8 (by decide) (by decide)
  refine zG_blk (c' := (93, [.inr (.inr (some 26)), .inr (.inr (some 9))], [.inl (M15 9 8), .inr (.inr (some 26))])) 3 hd0 hz (by rfl) ?_
  refine zG_putf (.inl rfl) hd0 hz rfl (by decide) rfl rfl ?_
  obtain ⟨M18, hM18⟩ : ∃ X : zM, X = zput M15 26 8 (M15 9 8) := ⟨_, rfl⟩
  rw [← hM18]
  have hCM18 : qCI M18 := by rw [hM18]; exact hCM15.put (r := 26) (k := 8) rfl (.inl (by omega))
  have hWM18 : qFr [26, 27, 28, 29, 30, 31, 32, 33, 34, 35, 36, 37, 38, 39, 40, 41, 42] M M18 := by rw [hM18]; exact hWM15.put (by decide)
  have e19 : M18 9 8 = M15 9 8 := by rw [hM18]; exact qput_ne (by decide)
  have e20 : M18 26 8 = (M15 9 8) := by rw [hM18]; exact qput_eq
  show zG n (0, 0) d 26 (96, [.inr (.inr (some 26)), .inr (.inr (some 9))], []) M18 _
  have r21 := hCM18.rng 9 9 (by decide) (by decide)
  refine zG_blk (c' := (101, [.inr (.inr (some 26)), .inr (.inr (some 9))], [.inl (M18 9 9), .inr (.inr (some 26))])) 3 hd0 hz (by rfl) ?_
  refine zG_putf (.inl rfl) hd0 hz rfl (by decide) rfl rfl ?_
  obtain ⟨M22, hM22⟩ : ∃ X : zM, X = zput M18 26 9 (M18 9 9) := ⟨_, rfl⟩
  rw [← hM22]
  have hCM22 : qCI M22 := by rw [hM22]; exact hCM18.put (r := 26) (k := 9) rfl (.inl (by omega))
  have hWM22 : qFr [26, 27, 28, 29, 30, 31, 32, 33, 34, 35, 36, 37, 38, 39, 40, 41, 42] M M22 := by rw [hM22]; exact hWM18.put (by decide)
  have e23 : M22 9 8 = M18 9 8 := by rw [hM22]; exact qput_ne (by decide)
  have e24 : M22 26 8 = M18 26 8 := by rw [hM22]; exact qput_nk (by decide)
  have e25 : M22 9 9 = M18 9 9 := by rw [hM22]; exact qput_ne (by decide)
  have e26 : M22 26 9 = (M18 9 9) := by rw [hM22]; exact qput_eq
  show zG n (0, 0) d 26 (104, [.inr (.inr (some 26)), .inr (.inr (some 9))], []) M22 _
  exact zG_ret hd0 hz rfl rfl ⟨⟨hCM22, hWM22⟩, rfl⟩
theorem qm_26_43_9 {n d : Nat} {M : zM} (hd : 2 ≤ d) (hC : qCI M)  : qOkM n d 26 [.inr (.inr (some 43)), .inr (.inr (some 9))] 2 qCI [43, 44, 45, 46, 47, 48, 49, 50, 51, 52, 53, 54, 55, 56, 57, 58, 59] M qRn := by
  have hz := zp_26
  have hd0 : 0 < d := by omega
  have hW : qFr [43, 44, 45, 46, 47, 48, 49, 50, 51, 52, 53, 54, 55, 56, 57, 58, 59] M M := qFr.rfl
  show zG n (0, 0) d 26 (0, [.inr (.inr (some 43)), .inr (.inr (some 9))], []) M _
  refine zG_blk (c' := (8, [.inr (.inr (some 43)), .inr (.inr (some 9))], [.inr (.inr (some 10)), .inr (.inr (some 44))])) 4 hd0 hz (by rfl) ?_
  refine zG_call hd0 hz zp_110 rfl rfl (Nat.le_of_ble_eq_true rfl) ⟨Nat.le_refl _, Nat.le_refl _⟩ (qw_takeOver (by first | exact zdp hd (by decide) | omega) hC (⟨by decide, rfl, rfl⟩ : qT n 44 14 4) (⟨by decide, rfl, rfl⟩ : qT n 10 14 4) ) (fun vr M1 hr => ?_)
  obtain ⟨⟨hCM1, hFM1⟩, rfl⟩ := hr
  have hWM1 : qFr [43, 44, 45, 46, 47, 48, 49, 50, 51, 52, 53, 54, 55, 56, 57, 58, 59] M M1 := hW.tr hFM1 (by decide)
  show zG n (0, 0) d 26 (11, [.inr (.inr (some 43)), .inr (.inr (some 9))], []) M1 _
  refine zG_blk (c' := (19, [.inr (.inr (some 43)), .inr (.inr (some 9))], [.inr (.inr (some 12)), .inr (.inr (some 46))])) 4 hd0 hz (by rfl) ?_
  refine zG_call hd0 hz zp_110 rfl rfl (Nat.le_of_ble_eq_true rfl) ⟨Nat.le_refl _, Nat.le_refl _⟩ (qw_takeOver (by first | exact zdp hd (by decide) | omega) hCM1 (⟨by decide, rfl, rfl⟩ : qT n 46 20 3) (⟨by decide, rfl, rfl⟩ : qT n 12 20 3) ) (fun vr M3 hr => ?_)
  obtain ⟨⟨hCM3, hFM3⟩, rfl⟩ := hr
  have hWM3 : qFr [43, 44, 45, 46, 47, 48, 49, 50, 51, 52, 53, 54, 55, 56, 57, 58, 59] M M3 := hWM1.tr hFM3 (by decide)
  show zG n (0, 0) d 26 (22, [.inr (.inr (some 43)), .inr (.inr (some 9))], []) M3 _
  refine zG_blk (c' := (30, [.inr (.inr (some 43)), .inr (.inr (some 9))], [.inr (.inr (some 14)), .inr (.inr (some 48))])) 4 hd0 hz (by rfl) ?_
  refine zG_call hd0 hz zp_110 rfl rfl (Nat.le_of_ble_eq_true rfl) ⟨Nat.le_refl _, Nat.le_refl _⟩ (qw_takeOver (by first | exact zdp hd (by decide) | omega) hCM3 (⟨by decide, rfl, rfl⟩ : qT n 48 4 2) (⟨by decide, rfl, rfl⟩ : qT n 14 4 2) ) (fun vr M5 hr => ?_)
  obtain ⟨⟨hCM5, hFM5⟩, rfl⟩ := hr
  have hWM5 : qFr [43, 44, 45, 46, 47, 48, 49, 50, 51, 52, 53, 54, 55, 56, 57, 58, 59] M M5 := hWM3.tr hFM5 (by decide)
  show zG n (0, 0) d 26 (33, [.inr (.inr (some 43)), .inr (.inr (some 9))], []) M5 _
  refine zG_blk (c' := (41, [.inr (.inr (some 43)), .inr (.inr (some 9))], [.inr (.inr (some 16)), .inr (.inr (some 50))])) 4 hd0 hz (by rfl) ?_
  refine zG_call hd0 hz zp_110 rfl rfl (Nat.le_of_ble_eq_true rfl) ⟨Nat.le_refl _, Nat.le_refl _⟩ (qw_takeOver (by first | exact zdp hd (by decide) | omega) hCM5 (⟨by decide, rfl, rfl⟩ : qT n 50 40 5) (⟨by decide, rfl, rfl⟩ : qT n 16 40 5) ) (fun vr M7 hr => ?_)
  obtain ⟨⟨hCM7, hFM7⟩, rfl⟩ := hr
  have hWM7 : qFr [43, 44, 45, 46, 47, 48, 49, 50, 51, 52, 53, 54, 55, 56, 57, 58, 59] M M7 := hWM5.tr hFM7 (by decide)
  show zG n (0, 0) d 26 (44, [.inr (.inr (some 43)), .inr (.inr (some 9))], []) M7 _
  refine zG_blk (c' := (52, [.inr (.inr (some 43)), .inr (.inr (some 9))], [.inr (.inr (some 18)), .inr (.inr (some 52))])) 4 hd0 hz (by rfl) ?_
  refine zG_call hd0 hz zp_110 rfl rfl (Nat.le_of_ble_eq_true rfl) ⟨Nat.le_refl _, Nat.le_refl _⟩ (qw_takeOver (by first | exact zdp hd (by decide) | omega) hCM7 (⟨by decide, rfl, rfl⟩ : qT n 52 250 11) (⟨by decide, rfl, rfl⟩ : qT n 18 250 11) ) (fun vr M9 hr => ?_)
  obtain ⟨⟨hCM9, hFM9⟩, rfl⟩ := hr
  have hWM9 : qFr [43, 44, 45, 46, 47, 48, 49, 50, 51, 52, 53, 54, 55, 56, 57, 58, 59] M M9 := hWM7.tr hFM9 (by decide)
  show zG n (0, 0) d 26 (55, [.inr (.inr (some 43)), .inr (.inr (some 9))], []) M9 _
  refine zG_blk (c' := (63, [.inr (.inr (some 43)), .inr (.inr (some 9))], [.inr (.inr (some 20)), .inr (.inr (some 54))])) 4 hd0 hz (by rfl) ?_
  refine zG_call hd0 hz zp_110 rfl rfl (Nat.le_of_ble_eq_true rfl) ⟨Nat.le_refl _, Nat.le_refl _⟩ (qw_takeOver (by first | exact zdp hd (by decide) | omega) hCM9 (⟨by decide, rfl, rfl⟩ : qT n 54 8 81) (⟨by decide, rfl, rfl⟩ : qT n 20 8 81) ) (fun vr M11 hr => ?_)
  obtain ⟨⟨hCM11, hFM11⟩, rfl⟩ := hr
  have hWM11 : qFr [43, 44, 45, 46, 47, 48, 49, 50, 51, 52, 53, 54, 55, 56, 57, 58, 59] M M11 := hWM9.tr hFM11 (by decide)
  show zG n (0, 0) d 26 (66, [.inr (.inr (some 43)), .inr (.inr (some 9))], []) M11 _
  refine zG_blk (c' := (74, [.inr (.inr (some 43)), .inr (.inr (some 9))], [.inr (.inr (some 22)), .inr (.inr (some 56))])) 4 hd0 hz (by rfl) ?_
  refine zG_call hd0 hz zp_110 rfl rfl (Nat.le_of_ble_eq_true rfl) ⟨Nat.le_refl _, Nat.le_refl _⟩ (qw_takeOver (by first | exact zdp hd (by decide) | omega) hCM11 (⟨by decide, rfl, rfl⟩ : qT n 56 10 164) (⟨by decide, rfl, rfl⟩ : qT n 22 10 164) ) (fun vr M13 hr => ?_)
  obtain ⟨⟨hCM13, hFM13⟩, rfl⟩ := hr
  have hWM13 : qFr [43, 44, 45, 46, 47, 48, 49, 50, 51, 52, 53, 54, 55, 56, 57, 58, 59] M M13 := hWM11.tr hFM13 (by decide)
  show zG n (0, 0) d 26 (77, [.inr (.inr (some 43)), .inr (.inr (some 9))], []) M13 _
  refine zG_blk (c' := (85, [.inr (.inr (some 43)), .inr (.inr (some 9))], [.inr (.inr (some 24)), .inr (.inr (some 58))])) 4 hd0 hz (by rfl) ?_
  refine zG_call hd0 hz zp_110 rfl rfl (Nat.le_of_ble_eq_true rfl) ⟨Nat.le_refl _, Nat.le_refl _⟩ (qw_takeOver (by first | exact zdp hd (by decide) | omega) hCM13 (⟨by decide, rfl, rfl⟩ : qT n 58 12 2) (⟨by decide, rfl, rfl⟩ : qT n 24 12 2) ) (fun vr M15 hr => ?_)
  obtain ⟨⟨hCM15, hFM15⟩, rfl⟩ := hr
  have hWM15 : qFr [43, 44, 45, 46, 47, 48, 49, 50, 51, 52, 53, 54, 55, 56, 57, 58, 59] M M15 := hWM13.tr hFM15 (by decide)
  show zG n (0, 0) d 26 (88, [.inr (.inr (some 43)), .inr (.inr (some 9))], []) M15 _
  have r17 := hCM15.rng 9 8 (by decide) (by decide)
  refine zG_blk (c' := (93, [.inr (.inr (some 43)), .inr (.inr (some 9))], [.inl (M15 9 8), .inr (.inr (some 43))])) 3 hd0 hz (by rfl) ?_
  refine zG_putf (.inl rfl) hd0 hz rfl (by decide) rfl rfl ?_
  obtain ⟨M18, hM18⟩ : ∃ X : zM, X = zput M15 43 8 (M15 9 8) := ⟨_, rfl⟩
  rw [← hM18]
  have hCM18 : qCI M18 := by rw [hM18]; exact hCM15.put (r := 43) (k := 8) rfl (.inl (by omega))
  have hWM18 : qFr [43, 44, 45, 46, 47, 48, 49, 50, 51, 52, 53, 54, 55, 56, 57, 58, 59] M M18 := by rw [hM18]; exact hWM15.put (by decide)
  have e19 : M18 9 8 = M15 9 8 := by rw [hM18]; exact qput_ne (by decide)
  have e20 : M18 43 8 = (M15 9 8) := by rw [hM18]; exact qput_eq
  show zG n (0, 0) d 26 (96, [.inr (.inr (some 43)), .inr (.inr (some 9))], []) M18 _
  have r21 := hCM18.rng 9 9 (by decide) (by decide)
  refine zG_blk (c' := (101, [.inr (.inr (some 43)), .inr (.inr (some 9))], [.inl (M18 9 9), .inr (.inr (some 43))])) 3 hd0 hz (by rfl) ?_
  refine zG_putf (.inl rfl) hd0 hz rfl (by decide) rfl rfl ?_
  obtain ⟨M22, hM22⟩ : ∃ X : zM, X = zput M18 43 9 (M18 9 9) := ⟨_, rfl⟩
  rw [← hM22]
  have hCM22 : qCI M22 := by rw [hM22]; exact hCM18.put (r := 43) (k := 9) rfl (.inl (by omega))
  have hWM22 : qFr [43, 44, 45, 46, 47, 48, 49, 50, 51, 52, 53, 54, 55, 56, 57, 58, 59] M M22 := by rw [hM22]; exact hWM18.put (by decide)
  have e23 : M22 9 8 = M18 9 8 := by rw [hM22]; exact qput_ne (by decide)
  have e24 : M22 43 8 = M18 43 8 := by rw [hM22]; exact qput_nk (by decide)
  have e25 : M22 9 9 = M18 9 9 := by rw [hM22]; exact qput_ne (by decide)
  have e26 : M22 43 9 = (M18 9 9) := by rw [hM22]; exact qput_eq
  show zG n (0, 0) d 26 (104, [.inr (.inr (some 43)), .inr (.inr (some 9))], []) M22 _
  exact zG_ret hd0 hz rfl rfl ⟨⟨hCM22, hWM22⟩, rfl⟩
