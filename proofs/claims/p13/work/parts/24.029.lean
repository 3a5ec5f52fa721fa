theorem qm_69_87 {n d : Nat} {M : zM} (hd : 1 ≤ d) (hC : qCI M) (a1 : Int) (ha1 : (-2147483648) ≤ a1 ∧ a1 ≤ 2147483647) : qOkP n d 69 [.inr (.inr (some 87)), .inl a1] 2 M (qRi (fun x => (-2147483648) ≤ x ∧ x ≤ 2147483647)) := by
  have hz := zp_69
  have hd0 : 0 < d := by omega
  show zG n (0, 0) d 69 (0, [.inr (.inr (some 87)), .inl a1], []) M _
  refine zG_blk (c' := (1, [.inr (.inr (some 87)), .inl a1], [.inl a1])) 1 hd0 hz (by rfl) ?_
  have j31 : ∀ (v1 : Int) , (-2147483648) ≤ v1 ∧ v1 ≤ 2147483647 → zG n (0, 0) d 69 (31, [.inr (.inr (some 87)), .inl a1], [.inl v1]) M (fun v M' => M' = M ∧ qRi (fun x => (-2147483648) ≤ x ∧ x ≤ 2147483647) v) := by
    intro v1 hv1
    exact zG_ret hd0 hz rfl rfl ⟨rfl, _, rfl, by omega⟩
  have j30 : zG n (0, 0) d 69 (30, [.inr (.inr (some 87)), .inl a1], []) M (fun v M' => M' = M ∧ qRi (fun x => (-2147483648) ≤ x ∧ x ≤ 2147483647) v) := by
    refine zG_blk (c' := (31, [.inr (.inr (some 87)), .inl a1], [.inl (-1)])) 1 hd0 hz (by rfl) ?_
    exact j31 (-1) (by first | decide | omega)
  refine zG_if_lt hd0 hz rfl (fun hb2 => ?_) (fun hb2 => ?_)
  · exact j30
  · have r3 := hC.pp
    refine zG_blk (c' := (9, [.inr (.inr (some 87)), .inl a1], [.inl (M 87 5), .inl a1])) 3 hd0 hz (by rfl) ?_
    refine zG_icmp_ge hd0 hz rfl (fun hb4 => ?_) (fun hb4 => ?_)
    · exact j30
    · refine zG_blk (c' := (18, [.inr (.inr (some 87)), .inl a1], [.inl 9, .inl a1])) 4 hd0 hz (by rfl) ?_
      refine zG_icmp_ge hd0 hz rfl (fun hb5 => ?_) (fun hb5 => ?_)
      · exfalso; omega
      · refine zG_blk (c' := (26, [.inr (.inr (some 87)), .inl a1], [.inl a1, .inr (.inr (some 89))])) 3 hd0 hz (by rfl) ?_
        refine zG_iald hd0 hz rfl rfl (.inl rfl) (by omega) ?_
        have hx6 := hC.rng 89 (a1 : Int).toNat (by decide) (by decide)
        generalize M 89 (a1 : Int).toNat = x6 at hx6 ⊢
        show zG n (0, 0) d 69 (27, [.inr (.inr (some 87)), .inl a1], [.inl x6]) M _
        refine zG_blk (c' := (31, [.inr (.inr (some 87)), .inl a1], [.inl x6])) 1 hd0 hz (by rfl) ?_
        exact j31 x6 (by omega)
theorem qm_159_8 {n d : Nat} {M : zM} (hd : 16 ≤ d) (hC : qCI M) (a1 : Int) (ha1 : (-2147483648) ≤ a1 ∧ a1 ≤ 2147483647) (a2 : Int) (ha2 : (-2147483648) ≤ a2 ∧ a2 ≤ 2147483647) (a3 : Int) (ha3 : (-2147483648) ≤ a3 ∧ a3 ≤ 2147483647) : qOkM n d 159 [.inr (.inr (some 8)), .inl a1, .inl a2, .inl a3] 5 qCI [87, 88, 89, 90, 91] M (qRi (fun x => (-2147483648) ≤ x ∧ x ≤ 2147483647)) := by
  have hz := zp_159
  have hd0 : 0 < d := by omega
  have hW : qFr [87, 88, 89, 90, 91] M M := qFr.rfl
  show zG n (0, 0) d 159 (0, [.inr (.inr (some 8)), .inl a1, .inl a2, .inl a3, zN], []) M _
  refine zG_blk (c' := (2, [.inr (.inr (some 8)), .inl a1, .inl a2, .inl a3, zN], [.inl a3, .inr (.inr (some 8))])) 2 hd0 hz (by rfl) ?_
  refine zG_call hd0 hz zp_175 rfl rfl (Nat.le_of_ble_eq_true rfl) ⟨Nat.le_refl _, Nat.le_refl _⟩ (qm_175_8 (by first | exact zdp hd (by decide) | omega) hC  a3 (by first | with_reducible exact ha3 | omega)) (fun vr M1 hr => ?_)
  obtain ⟨hq, x2, rfl, hx2⟩ := hr
  replace hq := hq.symm; subst hq
  show zG n (0, 0) d 159 (5, [.inr (.inr (some 8)), .inl a1, .inl a2, .inl a3, zN], [.inl x2]) M _
  have j16 : zG n (0, 0) d 159 (16, [.inr (.inr (some 8)), .inl a1, .inl a2, .inl a3, zN], []) M (fun v M' => qWf qCI [87, 88, 89, 90, 91] M M' ∧ qRi (fun x => (-2147483648) ≤ x ∧ x ≤ 2147483647) v) := by
    refine zG_blk (c' := (18, [.inr (.inr (some 8)), .inl a1, .inl a2, .inl a3, zN], [.inl (-2)])) 1 hd0 hz (by rfl) ?_
    exact zG_ret hd0 hz rfl rfl ⟨⟨hC, hW⟩, _, rfl, by omega⟩
  refine zG_if_eq hd0 hz rfl (fun hb3 => ?_) (fun hb3 => ?_)
  · exact j16
  · obtain ⟨x4, hx4⟩ : ∃ x : Int, x = zbshr a1 a3 := ⟨_, rfl⟩
    have hx4r : qin x4 := by rw [hx4]; exact qb32 _
    obtain ⟨x5, hx5⟩ : ∃ x : Int, x = zband x4 1 := ⟨_, rfl⟩
    have hx5r := qband_r x4 1 (by first | decide | omega) (by omega); rw [← hx5] at hx5r
    refine zG_blk (c' := (13, [.inr (.inr (some 8)), .inl a1, .inl a2, .inl a3, zN], [.inl x5])) 5 hd0 hz (by subst hx5; subst hx4; rfl) ?_
    refine zG_if_ne hd0 hz rfl (fun hb6 => ?_) (fun hb6 => ?_)
    · refine zG_blk (c' := (22, [.inr (.inr (some 8)), .inl a1, .inl a2, .inl a3, zN], [.inl a2, .inl a1, .inr (.inr (some 8))])) 3 hd0 hz (by rfl) ?_
      refine zG_call hd0 hz zp_158 rfl rfl (Nat.le_of_ble_eq_true rfl) ⟨Nat.le_refl _, Nat.le_refl _⟩ (qm_158_8 (by first | exact zdp hd (by decide) | omega) hC  a1 (by first | with_reducible exact ha1 | omega) a2 (by first | with_reducible exact ha2 | omega)) (fun vr M7 hr => ?_)
      obtain ⟨⟨hCM7, hFM7⟩, x8, rfl, hx8⟩ := hr
      have hWM7 : qFr [87, 88, 89, 90, 91] M M7 := hW.tr hFM7 (by decide)
      show zG n (0, 0) d 159 (25, [.inr (.inr (some 8)), .inl a1, .inl a2, .inl a3, zN], [.inl x8]) M7 _
      refine zG_blk (c' := (29, [.inr (.inr (some 8)), .inl a1, .inl a2, .inl a3, .inl x8], [.inl x8])) 2 hd0 hz (by rfl) ?_
      have j54 : ∀ (v9 : Int) , (-2147483648) ≤ v9 ∧ v9 ≤ 2147483647 → zG n (0, 0) d 159 (54, [.inr (.inr (some 8)), .inl a1, .inl a2, .inl a3, .inl x8], [.inl v9]) M7 (fun v M' => qWf qCI [87, 88, 89, 90, 91] M M' ∧ qRi (fun x => (-2147483648) ≤ x ∧ x ≤ 2147483647) v) := by
        intro v9 hv9
        exact zG_ret hd0 hz rfl rfl ⟨⟨hCM7, hWM7⟩, _, rfl, by omega⟩
      refine zG_if_ge hd0 hz rfl (fun hb10 => ?_) (fun hb10 => ?_)
      · obtain ⟨x11, hx11⟩ : ∃ x : Int, x = zbshl 1 a3 := ⟨_, rfl⟩
        have hx11r : qin x11 := by rw [hx11]; exact qb32 _
        obtain ⟨x12, hx12⟩ : ∃ x : Int, x = w32 (x11 - 1) := ⟨_, rfl⟩
        have hx12r : x12 = (x11 - 1 + 2147483648) % 4294967296 - 2147483648 := hx12
        obtain ⟨x13, hx13⟩ : ∃ x : Int, x = zband a1 x12 := ⟨_, rfl⟩
        have hx13r : qin x13 := by rw [hx13]; exact qb32 _
        refine zG_blk (c' := (48, [.inr (.inr (some 8)), .inl a1, .inl a2, .inl a3, .inl x8], [.inl x13, .inr (.inr (some 87))])) 9 hd0 hz (by subst hx13; subst hx12; subst hx11; rfl) ?_
        refine zG_call hd0 hz zp_296 rfl rfl (Nat.le_of_ble_eq_true rfl) ⟨Nat.le_refl _, Nat.le_refl _⟩ (qm_296 (by first | exact zdp hd (by decide) | omega) hCM7  x13 (by omega)) (fun vr M14 hr => ?_)
        obtain ⟨hq, x15, rfl, hx15⟩ := hr
        replace hq := hq.symm; subst hq
        show zG n (0, 0) d 159 (51, [.inr (.inr (some 8)), .inl a1, .inl a2, .inl a3, .inl x8], [.inl x15, .inr (.inr (some 87))]) M7 _
        refine zG_call hd0 hz zp_69 rfl rfl (Nat.le_of_ble_eq_true rfl) ⟨Nat.le_refl _, Nat.le_refl _⟩ (qm_69_87 (by first | exact zdp hd (by decide) | omega) hCM7  x15 (by omega)) (fun vr M16 hr => ?_)
        obtain ⟨hq, x17, rfl, hx17⟩ := hr
        replace hq := hq.symm; subst hq
        show zG n (0, 0) d 159 (54, [.inr (.inr (some 8)), .inl a1, .inl a2, .inl a3, .inl x8], [.inl x17]) M7 _
        exact j54 x17 (by omega)
      · refine zG_blk (c' := (54, [.inr (.inr (some 8)), .inl a1, .inl a2, .inl a3, .inl x8], [.inl x8])) 2 hd0 hz (by rfl) ?_
        exact j54 x8 (by omega)
    · exact j16
theorem qm_43_60 {n d : Nat} {M : zM} (hd : 2 ≤ d) (hC : qCI M) (a1 : Int) (ha1 : (-2147483648) ≤ a1 ∧ a1 ≤ 2147483647) : qOkP n d 43 [.inr (.inr (some 60)), .inl a1] 2 M (qRi (fun x => (-2147483648) ≤ x ∧ x ≤ 2147483647)) := by
  have hz := zp_43
  have hd0 : 0 < d := by omega
  show zG n (0, 0) d 43 (0, [.inr (.inr (some 60)), .inl a1], []) M _
  refine zG_blk (c' := (6, [.inr (.inr (some 60)), .inl a1], [.inl 2, .inl a1, .inr (.inr (some 61))])) 4 hd0 hz (by rfl) ?_
  refine zG_call hd0 hz zp_106 rfl rfl (Nat.le_of_ble_eq_true rfl) ⟨Nat.le_refl _, Nat.le_refl _⟩ (qw_get (by first | exact zdp hd (by decide) | omega) hC (⟨by decide, rfl, rfl⟩ : qT n 61 250 4) a1 (by first | with_reducible exact ha1 | omega) 2 (by first | decide | omega)) (fun vr M1 hr => ?_)
  obtain ⟨hq, x2, rfl, hx2⟩ := hr
  replace hq := hq.symm; subst hq
  show zG n (0, 0) d 43 (9, [.inr (.inr (some 60)), .inl a1], [.inl x2]) M _
  exact zG_ret hd0 hz rfl rfl ⟨rfl, _, rfl, by omega⟩
theorem qm_7_92 {n d : Nat} {M : zM} (hd : 2 ≤ d) (hC : qCI M) (a1 : Int) (ha1 : (-2147483648) ≤ a1 ∧ a1 ≤ 2147483647) (a2 : Int) (ha2 : (-2147483648) ≤ a2 ∧ a2 ≤ 2147483647) : qOkM n d 7 [.inr (.inr (some 92)), .inl a1, .inl a2] 4 qCI [92] M qRn := by
  have hz := zp_7
  have hd0 : 0 < d := by omega
  have hW : qFr [92] M M := qFr.rfl
  show zG n (0, 0) d 7 (0, [.inr (.inr (some 92)), .inl a1, .inl a2, zN], []) M _
  refine zG_blk (c' := (10, [.inr (.inr (some 92)), .inl a1, .inl a2, zN], [.inl 7, .inl a1, .inr (.inr (some 18))])) 5 hd0 hz (by rfl) ?_
  refine zG_call hd0 hz zp_106 rfl rfl (Nat.le_of_ble_eq_true rfl) ⟨Nat.le_refl _, Nat.le_refl _⟩ (qw_get (by first | exact zdp hd (by decide) | omega) hC (⟨by decide, rfl, rfl⟩ : qT n 18 250 11) a1 (by first | with_reducible exact ha1 | omega) 7 (by first | decide | omega)) (fun vr M1 hr => ?_)
  obtain ⟨hq, x2, rfl, hx2⟩ := hr
  replace hq := hq.symm; subst hq
  show zG n (0, 0) d 7 (13, [.inr (.inr (some 92)), .inl a1, .inl a2, zN], [.inl x2]) M _
  refine zG_blk (c' := (23, [.inr (.inr (some 92)), .inl a1, .inl a2, zN], [.inl 7, .inl a2, .inr (.inr (some 18)), .inl x2])) 5 hd0 hz (by rfl) ?_
  refine zG_call hd0 hz zp_106 rfl rfl (Nat.le_of_ble_eq_true rfl) ⟨Nat.le_refl _, Nat.le_refl _⟩ (qw_get (by first | exact zdp hd (by decide) | omega) hC (⟨by decide, rfl, rfl⟩ : qT n 18 250 11) a2 (by first | with_reducible exact ha2 | omega) 7 (by first | decide | omega)) (fun vr M3 hr => ?_)
  obtain ⟨hq, x4, rfl, hx4⟩ := hr
  replace hq := hq.symm; subst hq
  show zG n (0, 0) d 7 (26, [.inr (.inr (some 92)), .inl a1, .inl a2, zN], [.inl x4, .inl x2]) M _
  obtain ⟨x5, hx5⟩ : ∃ x : Int, x = w32 (x2 - x4) := ⟨_, rfl⟩
  have hx5r : x5 = (x2 - x4 + 2147483648) % 4294967296 - 2147483648 := hx5
  have r6 := hC.rng 92 4 (by decide) (by decide)
  obtain ⟨x7, hx7⟩ : ∃ x : Int, x = w32 ((M 92 4) + 1) := ⟨_, rfl⟩
  have hx7r : x7 = ((M 92 4) + 1 + 2147483648) % 4294967296 - 2147483648 := hx7
  refine zG_blk (c' := (35, [.inr (.inr (some 92)), .inl a1, .inl a2, .inl x5], [.inl x7, .inr (.inr (some 92))])) 7 hd0 hz (by subst hx7; subst hx5; rfl) ?_
  refine zG_putf (.inl rfl) hd0 hz rfl (by decide) rfl rfl ?_
  obtain ⟨M8, hM8⟩ : ∃ X : zM, X = zput M 92 4 x7 := ⟨_, rfl⟩
  rw [← hM8]
  have hCM8 : qCI M8 := by rw [hM8]; exact hC.put (r := 92) (k := 4) rfl (.inl (by omega))
  have hWM8 : qFr [92] M M8 := by rw [hM8]; exact hW.put (by decide)
  have e9 : M8 92 4 = x7 := by rw [hM8]; exact qput_eq
  show zG n (0, 0) d 7 (38, [.inr (.inr (some 92)), .inl a1, .inl a2, .inl x5], []) M8 _
  have r10 := hCM8.rng 92 7 (by decide) (by decide)
  obtain ⟨x11, hx11⟩ : ∃ x : Int, x = w32 ((M8 92 7) + x5) := ⟨_, rfl⟩
  have hx11r : x11 = ((M8 92 7) + x5 + 2147483648) % 4294967296 - 2147483648 := hx11
  refine zG_blk (c' := (45, [.inr (.inr (some 92)), .inl a1, .inl a2, .inl x5], [.inl x11, .inr (.inr (some 92))])) 5 hd0 hz (by subst hx11; rfl) ?_
  refine zG_putf (.inl rfl) hd0 hz rfl (by decide) rfl rfl ?_
  obtain ⟨M12, hM12⟩ : ∃ X : zM, X = zput M8 92 7 x11 := ⟨_, rfl⟩
  rw [← hM12]
  have hCM12 : qCI M12 := by rw [hM12]; exact hCM8.put (r := 92) (k := 7) rfl (.inl (by omega))
  have hWM12 : qFr [92] M M12 := by rw [hM12]; exact hWM8.put (by decide)
  have e13 : M12 92 4 = M8 92 4 := by rw [hM12]; exact qput_nk (by decide)
  have e14 : M12 92 7 = x11 := by rw [hM12]; exact qput_eq
  show zG n (0, 0) d 7 (48, [.inr (.inr (some 92)), .inl a1, .inl a2, .inl x5], []) M12 _
  have r15 := hCM12.rng 92 5 (by decide) (by decide)
  refine zG_blk (c' := (54, [.inr (.inr (some 92)), .inl a1, .inl a2, .inl x5], [.inl x5, .inl (M12 92 5), .inr (.inr (some 92))])) 4 hd0 hz (by rfl) ?_
  have j62 : ∀ (v16 v17 : Int) , (-2147483648) ≤ v16 ∧ v16 ≤ 2147483647 → 0 ≤ v17 ∧ v17 ≤ 1 → zG n (0, 0) d 7 (62, [.inr (.inr (some 92)), .inl a1, .inl a2, .inl x5], [.inl v17, .inl v16, .inr (.inr (some 92))]) M12 (fun v M' => qWf qCI [92] M M' ∧ qRn v) := by
    intro v16 v17 hv16 hv17
    obtain ⟨x18, hx18⟩ : ∃ x : Int, x = w32 (v16 + v17) := ⟨_, rfl⟩
    have hx18r : x18 = (v16 + v17 + 2147483648) % 4294967296 - 2147483648 := hx18
    refine zG_blk (c' := (63, [.inr (.inr (some 92)), .inl a1, .inl a2, .inl x5], [.inl x18, .inr (.inr (some 92))])) 1 hd0 hz (by subst hx18; rfl) ?_
    refine zG_putf (.inl rfl) hd0 hz rfl (by decide) rfl rfl ?_
    obtain ⟨M19, hM19⟩ : ∃ X : zM, X = zput M12 92 5 x18 := ⟨_, rfl⟩
    rw [← hM19]
    have hCM19 : qCI M19 := by rw [hM19]; exact hCM12.put (r := 92) (k := 5) rfl (.inl (by omega))
    have hWM19 : qFr [92] M M19 := by rw [hM19]; exact hWM12.put (by decide)
    have e20 : M19 92 4 = M12 92 4 := by rw [hM19]; exact qput_nk (by decide)
    have e21 : M19 92 7 = M12 92 7 := by rw [hM19]; exact qput_nk (by decide)
    have e22 : M19 92 5 = x18 := by rw [hM19]; exact qput_eq
    show zG n (0, 0) d 7 (66, [.inr (.inr (some 92)), .inl a1, .inl a2, .inl x5], []) M19 _
    have r23 := hCM19.rng 92 6 (by decide) (by decide)
    refine zG_blk (c' := (72, [.inr (.inr (some 92)), .inl a1, .inl a2, .inl x5], [.inl x5, .inl (M19 92 6), .inr (.inr (some 92))])) 4 hd0 hz (by rfl) ?_
    have j80 : ∀ (v24 v25 : Int) , (-2147483648) ≤ v24 ∧ v24 ≤ 2147483647 → 0 ≤ v25 ∧ v25 ≤ 1 → zG n (0, 0) d 7 (80, [.inr (.inr (some 92)), .inl a1, .inl a2, .inl x5], [.inl v25, .inl v24, .inr (.inr (some 92))]) M19 (fun v M' => qWf qCI [92] M M' ∧ qRn v) := by
      intro v24 v25 hv24 hv25
      obtain ⟨x26, hx26⟩ : ∃ x : Int, x = w32 (v24 + v25) := ⟨_, rfl⟩
      have hx26r : x26 = (v24 + v25 + 2147483648) % 4294967296 - 2147483648 := hx26
      refine zG_blk (c' := (81, [.inr (.inr (some 92)), .inl a1, .inl a2, .inl x5], [.inl x26, .inr (.inr (some 92))])) 1 hd0 hz (by subst hx26; rfl) ?_
      refine zG_putf (.inl rfl) hd0 hz rfl (by decide) rfl rfl ?_
      obtain ⟨M27, hM27⟩ : ∃ X : zM, X = zput M19 92 6 x26 := ⟨_, rfl⟩
      rw [← hM27]
      have hCM27 : qCI M27 := by rw [hM27]; exact hCM19.put (r := 92) (k := 6) rfl (.inl (by omega))
      have hWM27 : qFr [92] M M27 := by rw [hM27]; exact hWM19.put (by decide)
      have e28 : M27 92 4 = M19 92 4 := by rw [hM27]; exact qput_nk (by decide)
      have e29 : M27 92 7 = M19 92 7 := by rw [hM27]; exact qput_nk (by decide)
      have e30 : M27 92 5 = M19 92 5 := by rw [hM27]; exact qput_nk (by decide)
      have e31 : M27 92 6 = x26 := by rw [hM27]; exact qput_eq
      show zG n (0, 0) d 7 (84, [.inr (.inr (some 92)), .inl a1, .inl a2, .inl x5], []) M27 _
      exact zG_ret hd0 hz rfl rfl ⟨⟨hCM27, hWM27⟩, rfl⟩
    refine zG_if_le hd0 hz rfl (fun hb32 => ?_) (fun hb32 => ?_)
    · refine zG_blk (c' := (80, [.inr (.inr (some 92)), .inl a1, .inl a2, .inl x5], [.inl 0, .inl (M19 92 6), .inr (.inr (some 92))])) 1 hd0 hz (by rfl) ?_
      exact j80 (M19 92 6) 0 (by first | decide | omega) (by omega)
    · refine zG_blk (c' := (80, [.inr (.inr (some 92)), .inl a1, .inl a2, .inl x5], [.inl 1, .inl (M19 92 6), .inr (.inr (some 92))])) 2 hd0 hz (by rfl) ?_
      exact j80 (M19 92 6) 1 (by first | decide | omega) (by omega)
  refine zG_if_eq hd0 hz rfl (fun hb33 => ?_) (fun hb33 => ?_)
  · refine zG_blk (c' := (62, [.inr (.inr (some 92)), .inl a1, .inl a2, .inl x5], [.inl 0, .inl (M12 92 5), .inr (.inr (some 92))])) 1 hd0 hz (by rfl) ?_
    exact j62 (M12 92 5) 0 (by first | decide | omega) (by omega)
  · refine zG_blk (c' := (62, [.inr (.inr (some 92)), .inl a1, .inl a2, .inl x5], [.inl 1, .inl (M12 92 5), .inr (.inr (some 92))])) 2 hd0 hz (by rfl) ?_
    exact j62 (M12 92 5) 1 (by first | decide | omega) (by omega)
theorem qm_6_92 {n d : Nat} {M : zM} (hd : 3 ≤ d) (hC : qCI M) (a1 : Int) (ha1 : (-2147483648) ≤ a1 ∧ a1 ≤ 2147483647) : qOkM n d 6 [.inr (.inr (some 92)), .inl a1] 3 qCI [92] M qRn := by
  have hz := zp_6
  have hd0 : 0 < d := by omega
  have hW : qFr [92] M M := qFr.rfl
  show zG n (0, 0) d 6 (0, [.inr (.inr (some 92)), .inl a1, zN], []) M _
  refine zG_blk (c' := (2, [.inr (.inr (some 92)), .inl a1, zN], [.inl 0, .inr (.inr (some 92))])) 2 hd0 hz (by rfl) ?_
  refine zG_putf (.inl rfl) hd0 hz rfl (by decide) rfl rfl ?_
  obtain ⟨M1, hM1⟩ : ∃ X : zM, X = zput M 92 4 0 := ⟨_, rfl⟩
  rw [← hM1]
  have hCM1 : qCI M1 := by rw [hM1]; exact hC.put (r := 92) (k := 4) rfl (.inl (by omega))
  have hWM1 : qFr [92] M M1 := by rw [hM1]; exact hW.put (by decide)
  have e2 : M1 92 4 = 0 := by rw [hM1]; exact qput_eq
  show zG n (0, 0) d 6 (5, [.inr (.inr (some 92)), .inl a1, zN], []) M1 _
  refine zG_blk (c' := (7, [.inr (.inr (some 92)), .inl a1, zN], [.inl 0, .inr (.inr (some 92))])) 2 hd0 hz (by rfl) ?_
  refine zG_putf (.inl rfl) hd0 hz rfl (by decide) rfl rfl ?_
  obtain ⟨M3, hM3⟩ : ∃ X : zM, X = zput M1 92 5 0 := ⟨_, rfl⟩
  rw [← hM3]
  have hCM3 : qCI M3 := by rw [hM3]; exact hCM1.put (r := 92) (k := 5) rfl (.inl (by omega))
  have hWM3 : qFr [92] M M3 := by rw [hM3]; exact hWM1.put (by decide)
  have e4 : M3 92 4 = M1 92 4 := by rw [hM3]; exact qput_nk (by decide)
  have e5 : M3 92 5 = 0 := by rw [hM3]; exact qput_eq
  show zG n (0, 0) d 6 (10, [.inr (.inr (some 92)), .inl a1, zN], []) M3 _
  refine zG_blk (c' := (12, [.inr (.inr (some 92)), .inl a1, zN], [.inl 0, .inr (.inr (some 92))])) 2 hd0 hz (by rfl) ?_
  refine zG_putf (.inl rfl) hd0 hz rfl (by decide) rfl rfl ?_
  obtain ⟨M6, hM6⟩ : ∃ X : zM, X = zput M3 92 6 0 := ⟨_, rfl⟩
  rw [← hM6]
  have hCM6 : qCI M6 := by rw [hM6]; exact hCM3.put (r := 92) (k := 6) rfl (.inl (by omega))
  have hWM6 : qFr [92] M M6 := by rw [hM6]; exact hWM3.put (by decide)
  have e7 : M6 92 4 = M3 92 4 := by rw [hM6]; exact qput_nk (by decide)
  have e8 : M6 92 5 = M3 92 5 := by rw [hM6]; exact qput_nk (by decide)
  have e9 : M6 92 6 = 0 := by rw [hM6]; exact qput_eq
  show zG n (0, 0) d 6 (15, [.inr (.inr (some 92)), .inl a1, zN], []) M6 _
  refine zG_blk (c' := (17, [.inr (.inr (some 92)), .inl a1, zN], [.inl 0, .inr (.inr (some 92))])) 2 hd0 hz (by rfl) ?_
  refine zG_putf (.inl rfl) hd0 hz rfl (by decide) rfl rfl ?_
  obtain ⟨M10, hM10⟩ : ∃ X : zM, X = zput M6 92 7 0 := ⟨_, rfl⟩
  rw [← hM10]
  have hCM10 : qCI M10 := by rw [hM10]; exact hCM6.put (r := 92) (k := 7) rfl (.inl (by omega))
  have hWM10 : qFr [92] M M10 := by rw [hM10]; exact hWM6.put (by decide)
  have e11 : M10 92 4 = M6 92 4 := by rw [hM10]; exact qput_nk (by decide)
  have e12 : M10 92 5 = M6 92 5 := by rw [hM10]; exact qput_nk (by decide)
  have e13 : M10 92 6 = M6 92 6 := by rw [hM10]; exact qput_nk (by decide)
  have e14 : M10 92 7 = 0 := by rw [hM10]; exact qput_eq
  show zG n (0, 0) d 6 (20, [.inr (.inr (some 92)), .inl a1, zN], []) M10 _
  refine zG_blk (c' := (22, [.inr (.inr (some 92)), .inl a1, .inl 0], [])) 2 hd0 hz (by rfl) ?_
  have j22 : ∀ (N : Nat) (v15 : Int) (M16 : zM) , (250 - v15 : Int).toNat < N → 0 ≤ v15 ∧ v15 ≤ 250 → qCI M16 → qFr [92] M M16 → zG n (0, 0) d 6 (22, [.inr (.inr (some 92)), .inl a1, .inl v15], []) M16 (fun v M' => qWf qCI [92] M M' ∧ qRn v) := by
    intro N
    induction N with
    | zero => intro v15 M16 hN hv15 hCM16 hWM16; exact absurd hN (Nat.not_lt_zero _)
    | succ N ih22 =>
      intro v15 M16 hN hv15 hCM16 hWM16
      refine zG_blk (c' := (30, [.inr (.inr (some 92)), .inl a1, .inl v15], [.inr (.inr (some 18)), .inl v15])) 4 hd0 hz (by rfl) ?_
      refine zG_call hd0 hz zp_101 rfl rfl (Nat.le_of_ble_eq_true rfl) ⟨Nat.le_refl _, Nat.le_refl _⟩ (qw_size (by first | exact zdp hd (by decide) | omega) hCM16 (⟨by decide, rfl, rfl⟩ : qT n 18 250 11) ) (fun vr M17 hr => ?_)
      obtain ⟨hq, x18, rfl, hx18⟩ := hr
      replace hq := hq.symm; subst hq
      show zG n (0, 0) d 6 (33, [.inr (.inr (some 92)), .inl a1, .inl v15], [.inl x18, .inl v15]) M16 _
      refine zG_icmp_ge hd0 hz rfl (fun hb19 => ?_) (fun hb19 => ?_)
      · exact zG_ret hd0 hz rfl rfl ⟨⟨hCM16, hWM16⟩, rfl⟩
      · refine zG_blk (c' := (41, [.inr (.inr (some 92)), .inl a1, .inl v15], [.inl v15, .inr (.inr (some 60))])) 3 hd0 hz (by rfl) ?_
        refine zG_call hd0 hz zp_42 rfl rfl (Nat.le_of_ble_eq_true rfl) ⟨Nat.le_refl _, Nat.le_refl _⟩ (qm_42_60 (by first | exact zdp hd (by decide) | omega) hCM16  v15 (by first | with_reducible exact hv15 | omega)) (fun vr M20 hr => ?_)
        obtain ⟨hq, x21, rfl, hx21⟩ := hr
        replace hq := hq.symm; subst hq
        show zG n (0, 0) d 6 (44, [.inr (.inr (some 92)), .inl a1, .inl v15], [.inl x21]) M16 _
        have j134 : ∀ (M22 : zM) , qCI M22 → qFr [92] M M22 → zG n (0, 0) d 6 (134, [.inr (.inr (some 92)), .inl a1, .inl v15], []) M22 (fun v M' => qWf qCI [92] M M' ∧ qRn v) := by
          intro M22 hCM22 hWM22
          obtain ⟨x23, hx23⟩ : ∃ x : Int, x = w32 (v15 + 1) := ⟨_, rfl⟩
          have hx23e : x23 = v15 + 1 := by rw [hx23]; exact w32_id (by omega)
          refine zG_blk (c' := (22, [.inr (.inr (some 92)), .inl a1, .inl x23], [])) 2 hd0 hz (by subst hx23; rfl) ?_
          exact ih22 x23 M22 (by omega) (by omega) hCM22 hWM22
        refine zG_if_eq hd0 hz rfl (fun hb24 => ?_) (fun hb24 => ?_)
        · exact j134 M16 hCM16 hWM16
        · refine zG_blk (c' := (57, [.inr (.inr (some 92)), .inl a1, .inl v15], [.inl 8, .inl v15, .inr (.inr (some 18))])) 5 hd0 hz (by rfl) ?_
          refine zG_call hd0 hz zp_106 rfl rfl (Nat.le_of_ble_eq_true rfl) ⟨Nat.le_refl _, Nat.le_refl _⟩ (qw_get (by first | exact zdp hd (by decide) | omega) hCM16 (⟨by decide, rfl, rfl⟩ : qT n 18 250 11) v15 (by first | with_reducible exact hv15 | omega) 8 (by first | decide | omega)) (fun vr M25 hr => ?_)
          obtain ⟨hq, x26, rfl, hx26⟩ := hr
          replace hq := hq.symm; subst hq
          show zG n (0, 0) d 6 (60, [.inr (.inr (some 92)), .inl a1, .inl v15], [.inl x26]) M16 _
          refine zG_blk (c' := (61, [.inr (.inr (some 92)), .inl a1, .inl v15], [.inl a1, .inl x26])) 1 hd0 hz (by rfl) ?_
          refine zG_icmp_ne hd0 hz rfl (fun hb27 => ?_) (fun hb27 => ?_)
          · exact j134 M16 hCM16 hWM16
          · refine zG_blk (c' := (70, [.inr (.inr (some 92)), .inl a1, .inl v15], [.inl v15, .inl 0, .inr (.inr (some 9))])) 4 hd0 hz (by rfl) ?_
            refine zG_call hd0 hz zp_19 rfl rfl (Nat.le_of_ble_eq_true rfl) ⟨Nat.le_refl _, Nat.le_refl _⟩ (qm_19_9 (by first | exact zdp hd (by decide) | omega) hCM16  0 (by first | decide | omega) v15 (by first | with_reducible exact hv15 | omega)) (fun vr M28 hr => ?_)
            obtain ⟨hq, x29, rfl, hx29⟩ := hr
            replace hq := hq.symm; subst hq
            show zG n (0, 0) d 6 (73, [.inr (.inr (some 92)), .inl a1, .inl v15], [.inl x29]) M16 _
            have j104 : zG n (0, 0) d 6 (104, [.inr (.inr (some 92)), .inl a1, .inl v15], []) M16 (fun v M' => qWf qCI [92] M M' ∧ qRn v) := by
              refine zG_blk (c' := (110, [.inr (.inr (some 92)), .inl a1, .inl v15], [.inl v15, .inl 1, .inr (.inr (some 9))])) 4 hd0 hz (by rfl) ?_
              refine zG_call hd0 hz zp_19 rfl rfl (Nat.le_of_ble_eq_true rfl) ⟨Nat.le_refl _, Nat.le_refl _⟩ (qm_19_9 (by first | exact zdp hd (by decide) | omega) hCM16  1 (by first | decide | omega) v15 (by first | with_reducible exact hv15 | omega)) (fun vr M30 hr => ?_)
              obtain ⟨hq, x31, rfl, hx31⟩ := hr
              replace hq := hq.symm; subst hq
              show zG n (0, 0) d 6 (113, [.inr (.inr (some 92)), .inl a1, .inl v15], [.inl x31]) M16 _
              refine zG_if_eq hd0 hz rfl (fun hb32 => ?_) (fun hb32 => ?_)
              · exact j134 M16 hCM16 hWM16
              · refine zG_blk (c' := (128, [.inr (.inr (some 92)), .inl a1, .inl v15], [.inl 6, .inl v15, .inr (.inr (some 18)), .inl v15, .inr (.inr (some 92))])) 7 hd0 hz (by rfl) ?_
                refine zG_call hd0 hz zp_106 rfl rfl (Nat.le_of_ble_eq_true rfl) ⟨Nat.le_refl _, Nat.le_refl _⟩ (qw_get (by first | exact zdp hd (by decide) | omega) hCM16 (⟨by decide, rfl, rfl⟩ : qT n 18 250 11) v15 (by first | with_reducible exact hv15 | omega) 6 (by first | decide | omega)) (fun vr M33 hr => ?_)
                obtain ⟨hq, x34, rfl, hx34⟩ := hr
                replace hq := hq.symm; subst hq
                show zG n (0, 0) d 6 (131, [.inr (.inr (some 92)), .inl a1, .inl v15], [.inl x34, .inl v15, .inr (.inr (some 92))]) M16 _
                refine zG_call hd0 hz zp_7 rfl rfl (Nat.le_of_ble_eq_true rfl) ⟨Nat.le_refl _, Nat.le_refl _⟩ (qm_7_92 (by first | exact zdp hd (by decide) | omega) hCM16  v15 (by first | with_reducible exact hv15 | omega) x34 (by omega)) (fun vr M35 hr => ?_)
                obtain ⟨⟨hCM35, hFM35⟩, rfl⟩ := hr
                have hWM35 : qFr [92] M M35 := hWM16.tr hFM35 (by decide)
                show zG n (0, 0) d 6 (134, [.inr (.inr (some 92)), .inl a1, .inl v15], []) M35 _
                exact j134 M35 hCM35 hWM35
            refine zG_if_eq hd0 hz rfl (fun hb37 => ?_) (fun hb37 => ?_)
            · exact j104
            · refine zG_blk (c' := (81, [.inr (.inr (some 92)), .inl a1, .inl v15], [.inl v15, .inr (.inr (some 60))])) 3 hd0 hz (by rfl) ?_
              refine zG_call hd0 hz zp_43 rfl rfl (Nat.le_of_ble_eq_true rfl) ⟨Nat.le_refl _, Nat.le_refl _⟩ (qm_43_60 (by first | exact zdp hd (by decide) | omega) hCM16  v15 (by first | with_reducible exact hv15 | omega)) (fun vr M38 hr => ?_)
              obtain ⟨hq, x39, rfl, hx39⟩ := hr
              replace hq := hq.symm; subst hq
              show zG n (0, 0) d 6 (84, [.inr (.inr (some 92)), .inl a1, .inl v15], [.inl x39]) M16 _
              refine zG_blk (c' := (85, [.inr (.inr (some 92)), .inl a1, .inl v15], [.inl (-1), .inl x39])) 1 hd0 hz (by rfl) ?_
              refine zG_icmp_eq hd0 hz rfl (fun hb40 => ?_) (fun hb40 => ?_)
              · exact j104
              · refine zG_blk (c' := (95, [.inr (.inr (some 92)), .inl a1, .inl v15], [.inl v15, .inr (.inr (some 60)), .inl v15, .inr (.inr (some 92))])) 5 hd0 hz (by rfl) ?_
                refine zG_call hd0 hz zp_43 rfl rfl (Nat.le_of_ble_eq_true rfl) ⟨Nat.le_refl _, Nat.le_refl _⟩ (qm_43_60 (by first | exact zdp hd (by decide) | omega) hCM16  v15 (by first | with_reducible exact hv15 | omega)) (fun vr M41 hr => ?_)
                obtain ⟨hq, x42, rfl, hx42⟩ := hr
                replace hq := hq.symm; subst hq
                show zG n (0, 0) d 6 (98, [.inr (.inr (some 92)), .inl a1, .inl v15], [.inl x42, .inl v15, .inr (.inr (some 92))]) M16 _
                refine zG_call hd0 hz zp_7 rfl rfl (Nat.le_of_ble_eq_true rfl) ⟨Nat.le_refl _, Nat.le_refl _⟩ (qm_7_92 (by first | exact zdp hd (by decide) | omega) hCM16  v15 (by first | with_reducible exact hv15 | omega) x42 (by omega)) (fun vr M43 hr => ?_)
                obtain ⟨⟨hCM43, hFM43⟩, rfl⟩ := hr
                have hWM43 : qFr [92] M M43 := hWM16.tr hFM43 (by decide)
                show zG n (0, 0) d 6 (101, [.inr (.inr (some 92)), .inl a1, .inl v15], []) M43 _
                refine zG_blk (c' := (134, [.inr (.inr (some 92)), .inl a1, .inl v15], [])) 1 hd0 hz (by rfl) ?_
                exact j134 M43 hCM43 hWM43
  exact j22 ((250 - 0 : Int).toNat + 1) 0 M10 (by omega) (by omega) hCM10 hWM10
