theorem qm_165_8 {n d : Nat} {M : zM} (hd : 3 ≤ d) (hC : qCI M) (a1 : Int) (ha1 : (-2147483648) ≤ a1 ∧ a1 ≤ 2147483647) : qOkM n d 165 [.inr (.inr (some 8)), .inl a1] 2 qCI [8, 26, 27, 28, 29, 30, 31, 32, 33, 34, 35, 36, 37, 38, 39, 40, 41, 42, 43, 44, 45, 46, 47, 48, 49, 50, 51, 52, 53, 54, 55, 56, 57, 58, 59] M (qRi (fun x => (-2) ≤ x ∧ x ≤ 1)) := by
  have hz := zp_165
  have hd0 : 0 < d := by omega
  have hW : qFr [8, 26, 27, 28, 29, 30, 31, 32, 33, 34, 35, 36, 37, 38, 39, 40, 41, 42, 43, 44, 45, 46, 47, 48, 49, 50, 51, 52, 53, 54, 55, 56, 57, 58, 59] M M := qFr.rfl
  show zG n (0, 0) d 165 (0, [.inr (.inr (some 8)), .inl a1], []) M _
  refine zG_blk (c' := (3, [.inr (.inr (some 8)), .inl a1], [.inl 1, .inl 0, .inl a1])) 3 hd0 hz (by rfl) ?_
  refine zG_call hd0 hz zp_169 rfl rfl (Nat.le_of_ble_eq_true rfl) ⟨Nat.le_refl _, Nat.le_refl _⟩ (qm_169 (by first | exact zdp hd (by decide) | omega) hC  a1 (by first | with_reducible exact ha1 | omega) 0 (by first | decide | omega) 1 (by first | decide | omega)) (fun vr M1 hr => ?_)
  obtain ⟨hq, x2, rfl, hx2⟩ := hr
  replace hq := hq.symm; subst hq
  show zG n (0, 0) d 165 (6, [.inr (.inr (some 8)), .inl a1], [.inl x2]) M _
  refine zG_if_ne hd0 hz rfl (fun hb3 => ?_) (fun hb3 => ?_)
  · refine zG_blk (c' := (14, [.inr (.inr (some 8)), .inl a1], [.inl a1, .inr (.inr (some 8))])) 2 hd0 hz (by rfl) ?_
    refine zG_call hd0 hz zp_176 rfl rfl (Nat.le_of_ble_eq_true rfl) ⟨Nat.le_refl _, Nat.le_refl _⟩ (qm_176_8 (by first | exact zdp hd (by decide) | omega) hC  a1 (by first | with_reducible exact ha1 | omega)) (fun vr M4 hr => ?_)
    obtain ⟨hq, hv⟩ := hr
    replace hq := hq.symm; subst hq
    rcases hv with rfl | rfl
    · show zG n (0, 0) d 165 (17, [.inr (.inr (some 8)), .inl a1], [.inr (.inr (some 26))]) M _
      refine zG_blk (c' := (21, [.inr (.inr (some 8)), .inl a1], [.inr (.inr (some 9)), .inr (.inr (some 26))])) 2 hd0 hz (by rfl) ?_
      refine zG_call hd0 hz zp_26 rfl rfl (Nat.le_of_ble_eq_true rfl) ⟨Nat.le_refl _, Nat.le_refl _⟩ (qm_26_26_9 (by first | exact zdp hd (by decide) | omega) hC  ) (fun vr M6 hr => ?_)
      obtain ⟨⟨hCM6, hFM6⟩, rfl⟩ := hr
      have hWM6 : qFr [8, 26, 27, 28, 29, 30, 31, 32, 33, 34, 35, 36, 37, 38, 39, 40, 41, 42, 43, 44, 45, 46, 47, 48, 49, 50, 51, 52, 53, 54, 55, 56, 57, 58, 59] M M6 := hW.tr hFM6 (by decide)
      show zG n (0, 0) d 165 (24, [.inr (.inr (some 8)), .inl a1], []) M6 _
      have r8 := hCM6.rng 8 3 (by decide) (by decide)
      obtain ⟨x9, hx9⟩ : ∃ x : Int, x = zbshl 1 a1 := ⟨_, rfl⟩
      have hx9r : qin x9 := by rw [hx9]; exact qb32 _
      obtain ⟨x10, hx10⟩ : ∃ x : Int, x = zbor (M6 8 3) x9 := ⟨_, rfl⟩
      have hx10r : qin x10 := by rw [hx10]; exact qb32 _
      refine zG_blk (c' := (33, [.inr (.inr (some 8)), .inl a1], [.inl x10, .inr (.inr (some 8))])) 7 hd0 hz (by subst hx10; subst hx9; rfl) ?_
      refine zG_putf (.inl rfl) hd0 hz rfl (by decide) rfl rfl ?_
      obtain ⟨M11, hM11⟩ : ∃ X : zM, X = zput M6 8 3 x10 := ⟨_, rfl⟩
      rw [← hM11]
      have hCM11 : qCI M11 := by rw [hM11]; exact hCM6.put (r := 8) (k := 3) rfl (.inl (by omega))
      have hWM11 : qFr [8, 26, 27, 28, 29, 30, 31, 32, 33, 34, 35, 36, 37, 38, 39, 40, 41, 42, 43, 44, 45, 46, 47, 48, 49, 50, 51, 52, 53, 54, 55, 56, 57, 58, 59] M M11 := by rw [hM11]; exact hWM6.put (by decide)
      have e12 : M11 8 3 = x10 := by rw [hM11]; exact qput_eq
      show zG n (0, 0) d 165 (36, [.inr (.inr (some 8)), .inl a1], []) M11 _
      refine zG_blk (c' := (37, [.inr (.inr (some 8)), .inl a1], [.inl 1])) 1 hd0 hz (by rfl) ?_
      exact zG_ret hd0 hz rfl rfl ⟨⟨hCM11, hWM11⟩, _, rfl, by omega⟩
    · show zG n (0, 0) d 165 (17, [.inr (.inr (some 8)), .inl a1], [.inr (.inr (some 43))]) M _
      refine zG_blk (c' := (21, [.inr (.inr (some 8)), .inl a1], [.inr (.inr (some 9)), .inr (.inr (some 43))])) 2 hd0 hz (by rfl) ?_
      refine zG_call hd0 hz zp_26 rfl rfl (Nat.le_of_ble_eq_true rfl) ⟨Nat.le_refl _, Nat.le_refl _⟩ (qm_26_43_9 (by first | exact zdp hd (by decide) | omega) hC  ) (fun vr M13 hr => ?_)
      obtain ⟨⟨hCM13, hFM13⟩, rfl⟩ := hr
      have hWM13 : qFr [8, 26, 27, 28, 29, 30, 31, 32, 33, 34, 35, 36, 37, 38, 39, 40, 41, 42, 43, 44, 45, 46, 47, 48, 49, 50, 51, 52, 53, 54, 55, 56, 57, 58, 59] M M13 := hW.tr hFM13 (by decide)
      show zG n (0, 0) d 165 (24, [.inr (.inr (some 8)), .inl a1], []) M13 _
      have r15 := hCM13.rng 8 3 (by decide) (by decide)
      obtain ⟨x16, hx16⟩ : ∃ x : Int, x = zbshl 1 a1 := ⟨_, rfl⟩
      have hx16r : qin x16 := by rw [hx16]; exact qb32 _
      obtain ⟨x17, hx17⟩ : ∃ x : Int, x = zbor (M13 8 3) x16 := ⟨_, rfl⟩
      have hx17r : qin x17 := by rw [hx17]; exact qb32 _
      refine zG_blk (c' := (33, [.inr (.inr (some 8)), .inl a1], [.inl x17, .inr (.inr (some 8))])) 7 hd0 hz (by subst hx17; subst hx16; rfl) ?_
      refine zG_putf (.inl rfl) hd0 hz rfl (by decide) rfl rfl ?_
      obtain ⟨M18, hM18⟩ : ∃ X : zM, X = zput M13 8 3 x17 := ⟨_, rfl⟩
      rw [← hM18]
      have hCM18 : qCI M18 := by rw [hM18]; exact hCM13.put (r := 8) (k := 3) rfl (.inl (by omega))
      have hWM18 : qFr [8, 26, 27, 28, 29, 30, 31, 32, 33, 34, 35, 36, 37, 38, 39, 40, 41, 42, 43, 44, 45, 46, 47, 48, 49, 50, 51, 52, 53, 54, 55, 56, 57, 58, 59] M M18 := by rw [hM18]; exact hWM13.put (by decide)
      have e19 : M18 8 3 = x17 := by rw [hM18]; exact qput_eq
      show zG n (0, 0) d 165 (36, [.inr (.inr (some 8)), .inl a1], []) M18 _
      refine zG_blk (c' := (37, [.inr (.inr (some 8)), .inl a1], [.inl 1])) 1 hd0 hz (by rfl) ?_
      exact zG_ret hd0 hz rfl rfl ⟨⟨hCM18, hWM18⟩, _, rfl, by omega⟩
  · refine zG_blk (c' := (11, [.inr (.inr (some 8)), .inl a1], [.inl (-2)])) 1 hd0 hz (by rfl) ?_
    exact zG_ret hd0 hz rfl rfl ⟨⟨hC, hW⟩, _, rfl, by omega⟩
theorem qm_26_9_26 {n d : Nat} {M : zM} (hd : 2 ≤ d) (hC : qCI M)  : qOkM n d 26 [.inr (.inr (some 9)), .inr (.inr (some 26))] 2 qCI [9, 10, 11, 12, 13, 14, 15, 16, 17, 18, 19, 20, 21, 22, 23, 24, 25] M qRn := by
  have hz := zp_26
  have hd0 : 0 < d := by omega
  have hW : qFr [9, 10, 11, 12, 13, 14, 15, 16, 17, 18, 19, 20, 21, 22, 23, 24, 25] M M := qFr.rfl
  show zG n (0, 0) d 26 (0, [.inr (.inr (some 9)), .inr (.inr (some 26))], []) M _
  refine zG_blk (c' := (8, [.inr (.inr (some 9)), .inr (.inr (some 26))], [.inr (.inr (some 27)), .inr (.inr (some 10))])) 4 hd0 hz (by rfl) ?_
  refine zG_call hd0 hz zp_110 rfl rfl (Nat.le_of_ble_eq_true rfl) ⟨Nat.le_refl _, Nat.le_refl _⟩ (qw_takeOver (by first | exact zdp hd (by decide) | omega) hC (⟨by decide, rfl, rfl⟩ : qT n 10 14 4) (⟨by decide, rfl, rfl⟩ : qT n 27 14 4) ) (fun vr M1 hr => ?_)
  obtain ⟨⟨hCM1, hFM1⟩, rfl⟩ := hr
  have hWM1 : qFr [9, 10, 11, 12, 13, 14, 15, 16, 17, 18, 19, 20, 21, 22, 23, 24, 25] M M1 := hW.tr hFM1 (by decide)
  show zG n (0, 0) d 26 (11, [.inr (.inr (some 9)), .inr (.inr (some 26))], []) M1 _
  refine zG_blk (c' := (19, [.inr (.inr (some 9)), .inr (.inr (some 26))], [.inr (.inr (some 29)), .inr (.inr (some 12))])) 4 hd0 hz (by rfl) ?_
  refine zG_call hd0 hz zp_110 rfl rfl (Nat.le_of_ble_eq_true rfl) ⟨Nat.le_refl _, Nat.le_refl _⟩ (qw_takeOver (by first | exact zdp hd (by decide) | omega) hCM1 (⟨by decide, rfl, rfl⟩ : qT n 12 20 3) (⟨by decide, rfl, rfl⟩ : qT n 29 20 3) ) (fun vr M3 hr => ?_)
  obtain ⟨⟨hCM3, hFM3⟩, rfl⟩ := hr
  have hWM3 : qFr [9, 10, 11, 12, 13, 14, 15, 16, 17, 18, 19, 20, 21, 22, 23, 24, 25] M M3 := hWM1.tr hFM3 (by decide)
  show zG n (0, 0) d 26 (22, [.inr (.inr (some 9)), .inr (.inr (some 26))], []) M3 _
  refine zG_blk (c' := (30, [.inr (.inr (some 9)), .inr (.inr (some 26))], [.inr (.inr (some 31)), .inr (.inr (some 14))])) 4 hd0 hz (by rfl) ?_
  refine zG_call hd0 hz zp_110 rfl rfl (Nat.le_of_ble_eq_true rfl) ⟨Nat.le_refl _, Nat.le_refl _⟩ (qw_takeOver (by first | exact zdp hd (by decide) | omega) hCM3 (⟨by decide, rfl, rfl⟩ : qT n 14 4 2) (⟨by decide, rfl, rfl⟩ : qT n 31 4 2) ) (fun vr M5 hr => ?_)
  obtain ⟨⟨hCM5, hFM5⟩, rfl⟩ := hr
  have hWM5 : qFr [9, 10, 11, 12, 13, 14, 15, 16, 17, 18, 19, 20, 21, 22, 23, 24, 25] M M5 := hWM3.tr hFM5 (by decide)
  show zG n (0, 0) d 26 (33, [.inr (.inr (some 9)), .inr (.inr (some 26))], []) M5 _
  refine zG_blk (c' := (41, [.inr (.inr (some 9)), .inr (.inr (some 26))], [.inr (.inr (some 33)), .inr (.inr (some 16))])) 4 hd0 hz (by rfl) ?_
  refine zG_call hd0 hz zp_110 rfl rfl (Nat.le_of_ble_eq_true rfl) ⟨Nat.le_refl _, Nat.le_refl _⟩ (qw_takeOver (by first | exact zdp hd (by decide) | omega) hCM5 (⟨by decide, rfl, rfl⟩ : qT n 16 40 5) (⟨by decide, rfl, rfl⟩ : qT n 33 40 5) ) (fun vr M7 hr => ?_)
  obtain ⟨⟨hCM7, hFM7⟩, rfl⟩ := hr
  have hWM7 : qFr [9, 10, 11, 12, 13, 14, 15, 16, 17, 18, 19, 20, 21, 22, 23, 24, 25] M M7 := hWM5.tr hFM7 (by decide)
  show zG n (0, 0) d 26 (44, [.inr (.inr (some 9)), .inr (.inr (some 26))], []) M7 _
  refine zG_blk (c' := (52, [.inr (.inr (some 9)), .inr (.inr (some 26))], [.inr (.inr (some 35)), .inr (.inr (some 18))])) 4 hd0 hz (by rfl) ?_
  refine zG_call hd0 hz zp_110 rfl rfl (Nat.le_of_ble_eq_true rfl) ⟨Nat.le_refl _, Nat.le_refl _⟩ (qw_takeOver (by first | exact zdp hd (by decide) | omega) hCM7 (⟨by decide, rfl, rfl⟩ : qT n 18 250 11) (⟨by decide, rfl, rfl⟩ : qT n 35 250 11) ) (fun vr M9 hr => ?_)
  obtain ⟨⟨hCM9, hFM9⟩, rfl⟩ := hr
  have hWM9 : qFr [9, 10, 11, 12, 13, 14, 15, 16, 17, 18, 19, 20, 21, 22, 23, 24, 25] M M9 := hWM7.tr hFM9 (by decide)
  show zG n (0, 0) d 26 (55, [.inr (.inr (some 9)), .inr (.inr (some 26))], []) M9 _
  refine zG_blk (c' := (63, [.inr (.inr (some 9)), .inr (.inr (some 26))], [.inr (.inr (some 37)), .inr (.inr (some 20))])) 4 hd0 hz (by rfl) ?_
  refine zG_call hd0 hz zp_110 rfl rfl (Nat.le_of_ble_eq_true rfl) ⟨Nat.le_refl _, Nat.le_refl _⟩ (qw_takeOver (by first | exact zdp hd (by decide) | omega) hCM9 (⟨by decide, rfl, rfl⟩ : qT n 20 8 81) (⟨by decide, rfl, rfl⟩ : qT n 37 8 81) ) (fun vr M11 hr => ?_)
  obtain ⟨⟨hCM11, hFM11⟩, rfl⟩ := hr
  have hWM11 : qFr [9, 10, 11, 12, 13, 14, 15, 16, 17, 18, 19, 20, 21, 22, 23, 24, 25] M M11 := hWM9.tr hFM11 (by decide)
  show zG n (0, 0) d 26 (66, [.inr (.inr (some 9)), .inr (.inr (some 26))], []) M11 _
  refine zG_blk (c' := (74, [.inr (.inr (some 9)), .inr (.inr (some 26))], [.inr (.inr (some 39)), .inr (.inr (some 22))])) 4 hd0 hz (by rfl) ?_
  refine zG_call hd0 hz zp_110 rfl rfl (Nat.le_of_ble_eq_true rfl) ⟨Nat.le_refl _, Nat.le_refl _⟩ (qw_takeOver (by first | exact zdp hd (by decide) | omega) hCM11 (⟨by decide, rfl, rfl⟩ : qT n 22 10 164) (⟨by decide, rfl, rfl⟩ : qT n 39 10 164) ) (fun vr M13 hr => ?_)
  obtain ⟨⟨hCM13, hFM13⟩, rfl⟩ := hr
  have hWM13 : qFr [9, 10, 11, 12, 13, 14, 15, 16, 17, 18, 19, 20, 21, 22, 23, 24, 25] M M13 := hWM11.tr hFM13 (by decide)
  show zG n (0, 0) d 26 (77, [.inr (.inr (some 9)), .inr (.inr (some 26))], []) M13 _
  refine zG_blk (c' := (85, [.inr (.inr (some 9)), .inr (.inr (some 26))], [.inr (.inr (some 41)), .inr (.inr (some 24))])) 4 hd0 hz (by rfl) ?_
  refine zG_call hd0 hz zp_110 rfl rfl (Nat.le_of_ble_eq_true rfl) ⟨Nat.le_refl _, Nat.le_refl _⟩ (qw_takeOver (by first | exact zdp hd (by decide) | omega) hCM13 (⟨by decide, rfl, rfl⟩ : qT n 24 12 2) (⟨by decide, rfl, rfl⟩ : qT n 41 12 2) ) (fun vr M15 hr => ?_)
  obtain ⟨⟨hCM15, hFM15⟩, rfl⟩ := hr
  have hWM15 : qFr [9, 10, 11, 12, 13, 14, 15, 16, 17, 18, 19, 20, 21, 22, 23, 24, 25] M M15 := hWM13.tr hFM15 (by decide)
  show zG n (0, 0) d 26 (88, [.inr (.inr (some 9)), .inr (.inr (some 26))], []) M15 _
  have r17 := hCM15.rng 26 8 (by decide) (by decide)
  refine zG_blk (c' := (93, [.inr (.inr (some 9)), .inr (.inr (some 26))], [.inl (M15 26 8), .inr (.inr (some 9))])) 3 hd0 hz (by rfl) ?_
  refine zG_putf (.inl rfl) hd0 hz rfl (by decide) rfl rfl ?_
  obtain ⟨M18, hM18⟩ : ∃ X : zM, X = zput M15 9 8 (M15 26 8) := ⟨_, rfl⟩
  rw [← hM18]
  have hCM18 : qCI M18 := by rw [hM18]; exact hCM15.put (r := 9) (k := 8) rfl (.inl (by omega))
  have hWM18 : qFr [9, 10, 11, 12, 13, 14, 15, 16, 17, 18, 19, 20, 21, 22, 23, 24, 25] M M18 := by rw [hM18]; exact hWM15.put (by decide)
  have e19 : M18 26 8 = M15 26 8 := by rw [hM18]; exact qput_ne (by decide)
  have e20 : M18 9 8 = (M15 26 8) := by rw [hM18]; exact qput_eq
  show zG n (0, 0) d 26 (96, [.inr (.inr (some 9)), .inr (.inr (some 26))], []) M18 _
  have r21 := hCM18.rng 26 9 (by decide) (by decide)
  refine zG_blk (c' := (101, [.inr (.inr (some 9)), .inr (.inr (some 26))], [.inl (M18 26 9), .inr (.inr (some 9))])) 3 hd0 hz (by rfl) ?_
  refine zG_putf (.inl rfl) hd0 hz rfl (by decide) rfl rfl ?_
  obtain ⟨M22, hM22⟩ : ∃ X : zM, X = zput M18 9 9 (M18 26 9) := ⟨_, rfl⟩
  rw [← hM22]
  have hCM22 : qCI M22 := by rw [hM22]; exact hCM18.put (r := 9) (k := 9) rfl (.inl (by omega))
  have hWM22 : qFr [9, 10, 11, 12, 13, 14, 15, 16, 17, 18, 19, 20, 21, 22, 23, 24, 25] M M22 := by rw [hM22]; exact hWM18.put (by decide)
  have e23 : M22 26 8 = M18 26 8 := by rw [hM22]; exact qput_ne (by decide)
  have e24 : M22 9 8 = M18 9 8 := by rw [hM22]; exact qput_nk (by decide)
  have e25 : M22 26 9 = M18 26 9 := by rw [hM22]; exact qput_ne (by decide)
  have e26 : M22 9 9 = (M18 26 9) := by rw [hM22]; exact qput_eq
  show zG n (0, 0) d 26 (104, [.inr (.inr (some 9)), .inr (.inr (some 26))], []) M22 _
  exact zG_ret hd0 hz rfl rfl ⟨⟨hCM22, hWM22⟩, rfl⟩
theorem qm_26_9_43 {n d : Nat} {M : zM} (hd : 2 ≤ d) (hC : qCI M)  : qOkM n d 26 [.inr (.inr (some 9)), .inr (.inr (some 43))] 2 qCI [9, 10, 11, 12, 13, 14, 15, 16, 17, 18, 19, 20, 21, 22, 23, 24, 25] M qRn := by
  have hz := zp_26
  have hd0 : 0 < d := by omega
  have hW : qFr [9, 10, 11, 12, 13, 14, 15, 16, 17, 18, 19, 20, 21, 22, 23, 24, 25] M M := qFr.rfl
  show zG n (0, 0) d 26 (0, [.inr (.inr (some 9)), .inr (.inr (some 43))], []) M _
  refine zG_blk (c' := (8, [.inr (.inr (some 9)), .inr (.inr (some 43))], [.inr (.inr (some 44)), .inr (.inr (some 10))])) 4 hd0 hz (by rfl) ?_
  refine zG_call hd0 hz zp_110 rfl rfl (Nat.le_of_ble_eq_true rfl) ⟨Nat.le_refl _, Nat.le_refl _⟩ (qw_takeOver (by first | exact zdp hd (by decide) | omega) hC (⟨by decide, rfl, rfl⟩ : qT n 10 14 4) (⟨by decide, rfl, rfl⟩ : qT n 44 14 4) ) (fun vr M1 hr => ?_)
  obtain ⟨⟨hCM1, hFM1⟩, rfl⟩ := hr
  have hWM1 : qFr [9, 10, 11, 12, 13, 14, 15, 16, 17, 18, 19, 20, 21, 22, 23, 24, 25] M M1 := hW.tr hFM1 (by decide)
  show zG n (0, 0) d 26 (11, [.inr (.inr (some 9)), .inr (.inr (some 43))], []) M1 _
  refine zG_blk (c' := (19, [.inr (.inr (some 9)), .inr (.inr (some 43))], [.inr (.inr (some 46)), .inr (.inr (some 12))])) 4 hd0 hz (by rfl) ?_
  refine zG_call hd0 hz zp_110 rfl rfl (Nat.le_of_ble_eq_true rfl) ⟨Nat.le_refl _, Nat.le_refl _⟩ (qw_takeOver (by first | exact zdp hd (by decide) | omega) hCM1 (⟨by decide, rfl, rfl⟩ : qT n 12 20 3) (⟨by decide, rfl, rfl⟩ : qT n 46 20 3) ) (fun vr M3 hr => ?_)
  obtain ⟨⟨hCM3, hFM3⟩, rfl⟩ := hr
  have hWM3 : qFr [9, 10, 11, 12, 13, 14, 15, 16, 17, 18, 19, 20, 21, 22, 23, 24, 25] M M3 := hWM1.tr hFM3 (by decide)
  show zG n (0, 0) d 26 (22, [.inr (.inr (some 9)), .inr (.inr (some 43))], []) M3 _
  refine zG_blk (c' := (30, [.inr (.inr (some 9)), .inr (.inr (some 43))], [.inr (.inr (some 48)), .inr (.inr (some 14))])) 4 hd0 hz (by rfl) ?_
  refine zG_call hd0 hz zp_110 rfl rfl (Nat.le_of_ble_eq_true rfl) ⟨Nat.le_refl _, Nat.le_refl _⟩ (qw_takeOver (by first | exact zdp hd (by decide) | omega) hCM3 (⟨by decide, rfl, rfl⟩ : qT n 14 4 2) (⟨by decide, rfl, rfl⟩ : qT n 48 4 2) ) (fun vr M5 hr => ?_)
  obtain ⟨⟨hCM5, hFM5⟩, rfl⟩ := hr
  have hWM5 : qFr [9, 10, 11, 12, 13, 14, 15, 16, 17, 18, 19, 20, 21, 22, 23, 24, 25] M M5 := hWM3.tr hFM5 (by decide)
  show zG n (0, 0) d 26 (33, [.inr (.inr (some 9)), .inr (.inr (some 43))], []) M5 _
  refine zG_blk (c' := (41, [.inr (.inr (some 9)), .inr (.inr (some 43))], [.inr (.inr (some 50)), .inr (.inr (some 16))])) 4 hd0 hz (by rfl) ?_
  refine zG_call hd0 hz zp_110 rfl rfl (Nat.le_of_ble_eq_true rfl) ⟨Nat.le_refl _, Nat.le_refl _⟩ (qw_takeOver (by first | exact zdp hd (by decide) | omega) hCM5 (⟨by decide, rfl, rfl⟩ : qT n 16 40 5) (⟨by decide, rfl, rfl⟩ : qT n 50 40 5) ) (fun vr M7 hr => ?_)
  obtain ⟨⟨hCM7, hFM7⟩, rfl⟩ := hr
  have hWM7 : qFr [9, 10, 11, 12, 13, 14, 15, 16, 17, 18, 19, 20, 21, 22, 23, 24, 25] M M7 := hWM5.tr hFM7 (by decide)
  show zG n (0, 0) d 26 (44, [.inr (.inr (some 9)), .inr (.inr (some 43))], []) M7 _
  refine zG_blk (c' := (52, [.inr (.inr (some 9)), .inr (.inr (some 43))], [.inr (.inr (some 52)), .inr (.inr (some 18))])) 4 hd0 hz (by rfl) ?_
  refine zG_call hd0 hz zp_110 rfl rfl (Nat.le_of_ble_eq_true rfl) ⟨Nat.le_refl _, Nat.le_refl _⟩ (qw_takeOver (by first | exact zdp hd (by decide) | omega) hCM7 (⟨by decide, rfl, rfl⟩ : qT n 18 250 11) (⟨by decide, rfl, rfl⟩ : qT n 52 250 11) ) (fun vr M9 hr => ?_)
  obtain ⟨⟨hCM9, hFM9⟩, rfl⟩ := hr
  have hWM9 : qFr [9, 10, 11, 12, 13, 14, 15, 16, 17, 18, 19, 20, 21, 22, 23, 24, 25] M M9 := hWM7.tr hFM9 (by decide)
  show zG n (0, 0) d 26 (55, [.inr (.inr (some 9)), .inr (.inr (some 43))], []) M9 _
  refine zG_blk (c' := (63, [.inr (.inr (some 9)), .inr (.inr (some 43))], [.inr (.inr (some 54)), .inr (.inr (some 20))])) 4 hd0 hz (by rfl) ?_
  refine zG_call hd0 hz zp_110 rfl rfl (Nat.le_of_ble_eq_true rfl) ⟨Nat.le_refl _, Nat.le_refl _⟩ (qw_takeOver (by first | exact zdp hd (by decide) | omega) hCM9 (⟨by decide, rfl, rfl⟩ : qT n 20 8 81) (⟨by decide, rfl, rfl⟩ : qT n 54 8 81) ) (fun vr M11 hr => ?_)
  obtain ⟨⟨hCM11, hFM11⟩, rfl⟩ := hr
  have hWM11 : qFr [9, 10, 11, 12, 13, 14, 15, 16, 17, 18, 19, 20, 21, 22, 23, 24, 25] M M11 := hWM9.tr hFM11 (by decide)
  show zG n (0, 0) d 26 (66, [.inr (.inr (some 9)), .inr (.inr (some 43))], []) M11 _
  refine zG_blk (c' := (74, [.inr (.inr (some 9)), .inr (.inr (some 43))], [.inr (.inr (some 56)), .inr (.inr (some 22))])) 4 hd0 hz (by rfl) ?_
  refine zG_call hd0 hz zp_110 rfl rfl (Nat.le_of_ble_eq_true rfl) ⟨Nat.le_refl _, Nat.le_refl _⟩ (qw_takeOver (by first | exact zdp hd (by decide) | omega) hCM11 (⟨by decide, rfl, rfl⟩ : qT n 22 10 164) (⟨by decide, rfl, rfl⟩ : qT n 56 10 164) ) (fun vr M13 hr => ?_)
  obtain ⟨⟨hCM13, hFM13⟩, rfl⟩ := hr
  have hWM13 : qFr [9, 10, 11, 12, 13, 14, 15, 16, 17, 18, 19, 20, 21, 22, 23, 24, 25] M M13 := hWM11.tr hFM13 (by decide)
  show zG n (0, 0) d 26 (77, [.inr (.inr (some 9)), .inr (.inr (some 43))], []) M13 _
  refine zG_blk (c' := (85, [.inr (.inr (some 9)), .inr (.inr (some 43))], [.inr (.inr (some 58)), .inr (.inr (some 24))])) 4 hd0 hz (by rfl) ?_
  refine zG_call hd0 hz zp_110 rfl rfl (Nat.le_of_ble_eq_true rfl) ⟨Nat.le_refl _, Nat.le_refl _⟩ (qw_takeOver (by first | exact zdp hd (by decide) | omega) hCM13 (⟨by decide, rfl, rfl⟩ : qT n 24 12 2) (⟨by decide, rfl, rfl⟩ : qT n 58 12 2) ) (fun vr M15 hr => ?_)
  obtain ⟨⟨hCM15, hFM15⟩, rfl⟩ := hr
  have hWM15 : qFr [9, 10, 11, 12, 13, 14, 15, 16, 17, 18, 19, 20, 21, 22, 23, 24, 25] M M15 := hWM13.tr hFM15 (by decide)
  show zG n (0, 0) d 26 (88, [.inr (.inr (some 9)), .inr (.inr (some 43))], []) M15 _
  have r17 := hCM15.rng 43 8 (by decide) (by decide)
  refine zG_blk (c' := (93, [.inr (.inr (some 9)), .inr (.inr (some 43))], [.inl (M15 43 8), .inr (.inr (some 9))])) 3 hd0 hz (by rfl) ?_
  refine zG_putf (.inl rfl) hd0 hz rfl (by decide) rfl rfl ?_
  obtain ⟨M18, hM18⟩ : ∃ X : zM, X = zput M15 9 8 (M15 43 8) := ⟨_, rfl⟩
  rw [← hM18]
  have hCM18 : qCI M18 := by rw [hM18]; exact hCM15.put (r := 9) (k := 8) rfl (.inl (by omega))
  have hWM18 : qFr [9, 10, 11, 12, 13, 14, 15, 16, 17, 18, 19, 20, 21, 22, 23, 24, 25] M M18 := by rw [hM18]; exact hWM15.put (by decide)
  have e19 : M18 43 8 = M15 43 8 := by rw [hM18]; exact qput_ne (by decide)
  have e20 : M18 9 8 = (M15 43 8) := by rw [hM18]; exact qput_eq
  show zG n (0, 0) d 26 (96, [.inr (.inr (some 9)), .inr (.inr (some 43))], []) M18 _
  have r21 := hCM18.rng 43 9 (by decide) (by decide)
  refine zG_blk (c' := (101, [.inr (.inr (some 9)), .inr (.inr (some 43))], [.inl (M18 43 9), .inr (.inr (some 9))])) 3 hd0 hz (by rfl) ?_
  refine zG_putf (.inl rfl) hd0 hz rfl (by decide) rfl rfl ?_
  obtain ⟨M22, hM22⟩ : ∃ X : zM, X = zput M18 9 9 (M18 43 9) := ⟨_, rfl⟩
  rw [← hM22]
  have hCM22 : qCI M22 := by rw [hM22]; exact hCM18.put (r := 9) (k := 9) rfl (.inl (by omega))
  have hWM22 : qFr [9, 10, 11, 12, 13, 14, 15, 16, 17, 18, 19, 20, 21, 22, 23, 24, 25] M M22 := by rw [hM22]; exact hWM18.put (by decide)
  have e23 : M22 43 8 = M18 43 8 := by rw [hM22]; exact qput_ne (by decide)
  have e24 : M22 9 8 = M18 9 8 := by rw [hM22]; exact qput_nk (by decide)
  have e25 : M22 43 9 = M18 43 9 := by rw [hM22]; exact qput_ne (by decide)
  have e26 : M22 9 9 = (M18 43 9) := by rw [hM22]; exact qput_eq
  show zG n (0, 0) d 26 (104, [.inr (.inr (some 9)), .inr (.inr (some 43))], []) M22 _
  exact zG_ret hd0 hz rfl rfl ⟨⟨hCM22, hWM22⟩, rfl⟩
theorem qm_166_8 {n d : Nat} {M : zM} (hd : 3 ≤ d) (hC : qCI M) (a1 : Int) (ha1 : (-2147483648) ≤ a1 ∧ a1 ≤ 2147483647) : qOkM n d 166 [.inr (.inr (some 8)), .inl a1] 2 qCI [9, 10, 11, 12, 13, 14, 15, 16, 17, 18, 19, 20, 21, 22, 23, 24, 25] M (qRi (fun x => (-3) ≤ x ∧ x ≤ 1)) := by
  have hz := zp_166
  have hd0 : 0 < d := by omega
  have hW : qFr [9, 10, 11, 12, 13, 14, 15, 16, 17, 18, 19, 20, 21, 22, 23, 24, 25] M M := qFr.rfl
  show zG n (0, 0) d 166 (0, [.inr (.inr (some 8)), .inl a1], []) M _
  refine zG_blk (c' := (3, [.inr (.inr (some 8)), .inl a1], [.inl 1, .inl 0, .inl a1])) 3 hd0 hz (by rfl) ?_
  refine zG_call hd0 hz zp_169 rfl rfl (Nat.le_of_ble_eq_true rfl) ⟨Nat.le_refl _, Nat.le_refl _⟩ (qm_169 (by first | exact zdp hd (by decide) | omega) hC  a1 (by first | with_reducible exact ha1 | omega) 0 (by first | decide | omega) 1 (by first | decide | omega)) (fun vr M1 hr => ?_)
  obtain ⟨hq, x2, rfl, hx2⟩ := hr
  replace hq := hq.symm; subst hq
  show zG n (0, 0) d 166 (6, [.inr (.inr (some 8)), .inl a1], [.inl x2]) M _
  refine zG_if_ne hd0 hz rfl (fun hb3 => ?_) (fun hb3 => ?_)
  · have r4 := hC.rng 8 3 (by decide) (by decide)
    obtain ⟨x5, hx5⟩ : ∃ x : Int, x = zbshr (M 8 3) a1 := ⟨_, rfl⟩
    have hx5r : qin x5 := by rw [hx5]; exact qb32 _
    obtain ⟨x6, hx6⟩ : ∃ x : Int, x = zband x5 1 := ⟨_, rfl⟩
    have hx6r := qband_r x5 1 (by first | decide | omega) (by omega); rw [← hx6] at hx6r
    refine zG_blk (c' := (20, [.inr (.inr (some 8)), .inl a1], [.inl x6])) 6 hd0 hz (by subst hx6; subst hx5; rfl) ?_
    refine zG_if_ne hd0 hz rfl (fun hb7 => ?_) (fun hb7 => ?_)
    · refine zG_blk (c' := (32, [.inr (.inr (some 8)), .inl a1], [.inl a1, .inr (.inr (some 8)), .inr (.inr (some 9))])) 4 hd0 hz (by rfl) ?_
      refine zG_call hd0 hz zp_176 rfl rfl (Nat.le_of_ble_eq_true rfl) ⟨Nat.le_refl _, Nat.le_refl _⟩ (qm_176_8 (by first | exact zdp hd (by decide) | omega) hC  a1 (by first | with_reducible exact ha1 | omega)) (fun vr M8 hr => ?_)
      obtain ⟨hq, hv⟩ := hr
      replace hq := hq.symm; subst hq
      rcases hv with rfl | rfl
      · show zG n (0, 0) d 166 (35, [.inr (.inr (some 8)), .inl a1], [.inr (.inr (some 26)), .inr (.inr (some 9))]) M _
        refine zG_call hd0 hz zp_26 rfl rfl (Nat.le_of_ble_eq_true rfl) ⟨Nat.le_refl _, Nat.le_refl _⟩ (qm_26_9_26 (by first | exact zdp hd (by decide) | omega) hC  ) (fun vr M10 hr => ?_)
        obtain ⟨⟨hCM10, hFM10⟩, rfl⟩ := hr
        have hWM10 : qFr [9, 10, 11, 12, 13, 14, 15, 16, 17, 18, 19, 20, 21, 22, 23, 24, 25] M M10 := hW.tr hFM10 (by decide)
        have e12 : M10 8 3 = M 8 3 := hFM10 8 3 (by decide)
        show zG n (0, 0) d 166 (38, [.inr (.inr (some 8)), .inl a1], []) M10 _
        refine zG_blk (c' := (39, [.inr (.inr (some 8)), .inl a1], [.inl 1])) 1 hd0 hz (by rfl) ?_
        exact zG_ret hd0 hz rfl rfl ⟨⟨hCM10, hWM10⟩, _, rfl, by omega⟩
      · show zG n (0, 0) d 166 (35, [.inr (.inr (some 8)), .inl a1], [.inr (.inr (some 43)), .inr (.inr (some 9))]) M _
        refine zG_call hd0 hz zp_26 rfl rfl (Nat.le_of_ble_eq_true rfl) ⟨Nat.le_refl _, Nat.le_refl _⟩ (qm_26_9_43 (by first | exact zdp hd (by decide) | omega) hC  ) (fun vr M13 hr => ?_)
        obtain ⟨⟨hCM13, hFM13⟩, rfl⟩ := hr
        have hWM13 : qFr [9, 10, 11, 12, 13, 14, 15, 16, 17, 18, 19, 20, 21, 22, 23, 24, 25] M M13 := hW.tr hFM13 (by decide)
        have e15 : M13 8 3 = M 8 3 := hFM13 8 3 (by decide)
        show zG n (0, 0) d 166 (38, [.inr (.inr (some 8)), .inl a1], []) M13 _
        refine zG_blk (c' := (39, [.inr (.inr (some 8)), .inl a1], [.inl 1])) 1 hd0 hz (by rfl) ?_
        exact zG_ret hd0 hz rfl rfl ⟨⟨hCM13, hWM13⟩, _, rfl, by omega⟩
    · refine zG_blk (c' := (25, [.inr (.inr (some 8)), .inl a1], [.inl (-3)])) 1 hd0 hz (by rfl) ?_
      exact zG_ret hd0 hz rfl rfl ⟨⟨hC, hW⟩, _, rfl, by omega⟩
  · refine zG_blk (c' := (11, [.inr (.inr (some 8)), .inl a1], [.inl (-2)])) 1 hd0 hz (by rfl) ?_
    exact zG_ret hd0 hz rfl rfl ⟨⟨hC, hW⟩, _, rfl, by omega⟩
theorem qm_22_9 {n d : Nat} {M : zM} (hd : 3 ≤ d) (hC : qCI M)  : qOkP n d 22 [.inr (.inr (some 9))] 3 M (qRi (fun x => (-2147483648) ≤ x ∧ x ≤ 2147483647)) := by
  have hz := zp_22
  have hd0 : 0 < d := by omega
  show zG n (0, 0) d 22 (0, [.inr (.inr (some 9)), zN, zN], []) M _
  refine zG_blk (c' := (4, [.inr (.inr (some 9)), .inl 0, .inl 0], [])) 4 hd0 hz (by rfl) ?_
  have j4 : ∀ (N : Nat) (v1 v2 : Int) , (40 - v2 : Int).toNat < N → (-2147483648) ≤ v1 ∧ v1 ≤ 2147483647 → 0 ≤ v2 ∧ v2 ≤ 40 → zG n (0, 0) d 22 (4, [.inr (.inr (some 9)), .inl v1, .inl v2], []) M (fun v M' => M' = M ∧ qRi (fun x => (-2147483648) ≤ x ∧ x ≤ 2147483647) v) := by
    intro N
    induction N with
    | zero => intro v1 v2 hN hv1 hv2; exact absurd hN (Nat.not_lt_zero _)
    | succ N ih4 =>
      intro v1 v2 hN hv1 hv2
      refine zG_blk (c' := (9, [.inr (.inr (some 9)), .inl v1, .inl v2], [.inr (.inr (some 16)), .inl v2])) 3 hd0 hz (by rfl) ?_
      refine zG_call hd0 hz zp_101 rfl rfl (Nat.le_of_ble_eq_true rfl) ⟨Nat.le_refl _, Nat.le_refl _⟩ (qw_size (by first | exact zdp hd (by decide) | omega) hC (⟨by decide, rfl, rfl⟩ : qT n 16 40 5) ) (fun vr M3 hr => ?_)
      obtain ⟨hq, x4, rfl, hx4⟩ := hr
      replace hq := hq.symm; subst hq
      show zG n (0, 0) d 22 (12, [.inr (.inr (some 9)), .inl v1, .inl v2], [.inl x4, .inl v2]) M _
      refine zG_icmp_ge hd0 hz rfl (fun hb5 => ?_) (fun hb5 => ?_)
      · refine zG_blk (c' := (33, [.inr (.inr (some 9)), .inl v1, .inl v2], [.inl v1])) 1 hd0 hz (by rfl) ?_
        exact zG_ret hd0 hz rfl rfl ⟨rfl, _, rfl, by omega⟩
      · refine zG_blk (c' := (17, [.inr (.inr (some 9)), .inl v1, .inl v2], [.inl v2, .inr (.inr (some 9))])) 2 hd0 hz (by rfl) ?_
        refine zG_call hd0 hz zp_20 rfl rfl (Nat.le_of_ble_eq_true rfl) ⟨Nat.le_refl _, Nat.le_refl _⟩ (qm_20_9 (by first | exact zdp hd (by decide) | omega) hC  v2 (by first | with_reducible exact hv2 | omega)) (fun vr M6 hr => ?_)
        obtain ⟨hq, x7, rfl, hx7⟩ := hr
        replace hq := hq.symm; subst hq
        show zG n (0, 0) d 22 (20, [.inr (.inr (some 9)), .inl v1, .inl v2], [.inl x7]) M _
        have j26 : ∀ (v8 : Int) , (-2147483648) ≤ v8 ∧ v8 ≤ 2147483647 → zG n (0, 0) d 22 (26, [.inr (.inr (some 9)), .inl v8, .inl v2], []) M (fun v M' => M' = M ∧ qRi (fun x => (-2147483648) ≤ x ∧ x ≤ 2147483647) v) := by
          intro v8 hv8
          obtain ⟨x9, hx9⟩ : ∃ x : Int, x = w32 (v2 + 1) := ⟨_, rfl⟩
          have hx9e : x9 = v2 + 1 := by rw [hx9]; exact w32_id (by omega)
          refine zG_blk (c' := (4, [.inr (.inr (some 9)), .inl v8, .inl x9], [])) 2 hd0 hz (by subst hx9; rfl) ?_
          exact ih4 v8 x9 (by omega) (by omega) (by omega)
        refine zG_if_eq hd0 hz rfl (fun hb10 => ?_) (fun hb10 => ?_)
        · exact j26 v1 (by first | with_reducible exact hv1 | omega)
        · obtain ⟨x11, hx11⟩ : ∃ x : Int, x = w32 (v1 + 1) := ⟨_, rfl⟩
          have hx11r : x11 = (v1 + 1 + 2147483648) % 4294967296 - 2147483648 := hx11
          refine zG_blk (c' := (26, [.inr (.inr (some 9)), .inl x11, .inl v2], [])) 1 hd0 hz (by subst hx11; rfl) ?_
          exact j26 x11 (by omega)
  exact j4 ((40 - 0 : Int).toNat + 1) 0 0 (by first | decide | omega) (by omega) (by omega)
