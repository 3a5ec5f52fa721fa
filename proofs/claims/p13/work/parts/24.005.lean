theorem qm_135_8 {n d : Nat} {M : zM} (hd : 4 ≤ d) (hC : qCI M) (a1 : Int) (ha1 : (-2147483648) ≤ a1 ∧ a1 ≤ 2147483647) (a2 : Int) (ha2 : (-2147483648) ≤ a2 ∧ a2 ≤ 2147483647) (a3 : Int) (ha3 : (-2147483648) ≤ a3 ∧ a3 ≤ 2147483647) : qOkM n d 135 [.inr (.inr (some 8)), .inl a1, .inl a2, .inl a3] 5 qCI [18, 19] M (qRi (fun x => (-4) ≤ x ∧ x ≤ 249)) := by
  have hz := zp_135
  have hd0 : 0 < d := by omega
  have hW : qFr [18, 19] M M := qFr.rfl
  show zG n (0, 0) d 135 (0, [.inr (.inr (some 8)), .inl a1, .inl a2, .inl a3, zN], []) M _
  refine zG_blk (c' := (2, [.inr (.inr (some 8)), .inl a1, .inl a2, .inl a3, zN], [.inl a1, .inr (.inr (some 8))])) 2 hd0 hz (by rfl) ?_
  refine zG_call hd0 hz zp_174 rfl rfl (Nat.le_of_ble_eq_true rfl) ⟨Nat.le_refl _, Nat.le_refl _⟩ (qm_174_8 (by first | exact zdp hd (by decide) | omega) hC  a1 (by first | with_reducible exact ha1 | omega)) (fun vr M1 hr => ?_)
  obtain ⟨hq, x2, rfl, hx2⟩ := hr
  replace hq := hq.symm; subst hq
  show zG n (0, 0) d 135 (5, [.inr (.inr (some 8)), .inl a1, .inl a2, .inl a3, zN], [.inl x2]) M _
  have j17 : zG n (0, 0) d 135 (17, [.inr (.inr (some 8)), .inl a1, .inl a2, .inl a3, zN], []) M (fun v M' => qWf qCI [18, 19] M M' ∧ qRi (fun x => (-4) ≤ x ∧ x ≤ 249) v) := by
    refine zG_blk (c' := (19, [.inr (.inr (some 8)), .inl a1, .inl a2, .inl a3, zN], [.inl (-2)])) 1 hd0 hz (by rfl) ?_
    exact zG_ret hd0 hz rfl rfl ⟨⟨hC, hW⟩, _, rfl, by omega⟩
  refine zG_if_eq hd0 hz rfl (fun hb3 => ?_) (fun hb3 => ?_)
  · exact j17
  · refine zG_blk (c' := (11, [.inr (.inr (some 8)), .inl a1, .inl a2, .inl a3, zN], [.inl a3, .inl a2, .inr (.inr (some 8))])) 3 hd0 hz (by rfl) ?_
    refine zG_call hd0 hz zp_178 rfl rfl (Nat.le_of_ble_eq_true rfl) ⟨Nat.le_refl _, Nat.le_refl _⟩ (qm_178_8 (by first | exact zdp hd (by decide) | omega) hC  a2 (by first | with_reducible exact ha2 | omega) a3 (by first | with_reducible exact ha3 | omega)) (fun vr M4 hr => ?_)
    obtain ⟨hq, x5, rfl, hx5⟩ := hr
    replace hq := hq.symm; subst hq
    show zG n (0, 0) d 135 (14, [.inr (.inr (some 8)), .inl a1, .inl a2, .inl a3, zN], [.inl x5]) M _
    refine zG_if_ne hd0 hz rfl (fun hb6 => ?_) (fun hb6 => ?_)
    · refine zG_blk (c' := (25, [.inr (.inr (some 8)), .inl a1, .inl a2, .inl a3, zN], [.inl a3, .inl a2, .inl 6, .inr (.inr (some 8))])) 4 hd0 hz (by rfl) ?_
      refine zG_call hd0 hz zp_179 rfl rfl (Nat.le_of_ble_eq_true rfl) ⟨Nat.le_refl _, Nat.le_refl _⟩ (qm_179_8 (by first | exact zdp hd (by decide) | omega) hC  6 (by first | decide | omega) a2 (by first | with_reducible exact ha2 | omega) a3 (by first | with_reducible exact ha3 | omega)) (fun vr M7 hr => ?_)
      obtain ⟨⟨hCM7, hFM7⟩, x8, rfl, hx8⟩ := hr
      have hWM7 : qFr [18, 19] M M7 := hW.tr hFM7 (by decide)
      show zG n (0, 0) d 135 (28, [.inr (.inr (some 8)), .inl a1, .inl a2, .inl a3, zN], [.inl x8]) M7 _
      refine zG_blk (c' := (41, [.inr (.inr (some 8)), .inl a1, .inl a2, .inl a3, .inl x8], [.inl a1, .inl 4, .inl x8, .inr (.inr (some 18))])) 7 hd0 hz (by rfl) ?_
      refine zG_call hd0 hz zp_107 rfl rfl (Nat.le_of_ble_eq_true rfl) ⟨Nat.le_refl _, Nat.le_refl _⟩ (qw_set (by first | exact zdp hd (by decide) | omega) hCM7 (⟨by decide, rfl, rfl⟩ : qT n 18 250 11) x8 (by omega) 4 (by first | decide | omega) a1 (by first | with_reducible exact ha1 | omega)) (fun vr M9 hr => ?_)
      obtain ⟨⟨hCM9, hFM9⟩, rfl⟩ := hr
      have hWM9 : qFr [18, 19] M M9 := hWM7.tr hFM9 (by decide)
      show zG n (0, 0) d 135 (44, [.inr (.inr (some 8)), .inl a1, .inl a2, .inl a3, .inl x8], []) M9 _
      refine zG_blk (c' := (46, [.inr (.inr (some 8)), .inl a1, .inl a2, .inl a3, .inl x8], [.inl x8])) 1 hd0 hz (by rfl) ?_
      exact zG_ret hd0 hz rfl rfl ⟨⟨hCM9, hWM9⟩, _, rfl, by omega⟩
    · exact j17
theorem qm_136_8 {n d : Nat} {M : zM} (hd : 3 ≤ d) (hC : qCI M) (a1 : Int) (ha1 : (-2147483648) ≤ a1 ∧ a1 ≤ 2147483647) (a2 : Int) (ha2 : (-2147483648) ≤ a2 ∧ a2 ≤ 2147483647) : qOkM n d 136 [.inr (.inr (some 8)), .inl a1, .inl a2] 5 qCI [18, 19] M (qRi (fun x => (-4) ≤ x ∧ x ≤ 249)) := by
  have hz := zp_136
  have hd0 : 0 < d := by omega
  have hW : qFr [18, 19] M M := qFr.rfl
  show zG n (0, 0) d 136 (0, [.inr (.inr (some 8)), .inl a1, .inl a2, zN, zN], []) M _
  refine zG_blk (c' := (8, [.inr (.inr (some 8)), .inl a1, .inl a2, zN, zN], [.inl a1, .inr (.inr (some 18))])) 4 hd0 hz (by rfl) ?_
  refine zG_call hd0 hz zp_102 rfl rfl (Nat.le_of_ble_eq_true rfl) ⟨Nat.le_refl _, Nat.le_refl _⟩ (qw_has (by first | exact zdp hd (by decide) | omega) hC (⟨by decide, rfl, rfl⟩ : qT n 18 250 11) a1 (by first | with_reducible exact ha1 | omega)) (fun vr M1 hr => ?_)
  obtain ⟨hq, x2, rfl, hx2⟩ := hr
  replace hq := hq.symm; subst hq
  show zG n (0, 0) d 136 (11, [.inr (.inr (some 8)), .inl a1, .inl a2, zN, zN], [.inl x2]) M _
  have j21 : zG n (0, 0) d 136 (21, [.inr (.inr (some 8)), .inl a1, .inl a2, zN, zN], []) M (fun v M' => qWf qCI [18, 19] M M' ∧ qRi (fun x => (-4) ≤ x ∧ x ≤ 249) v) := by
    refine zG_blk (c' := (23, [.inr (.inr (some 8)), .inl a1, .inl a2, zN, zN], [.inl (-2)])) 1 hd0 hz (by rfl) ?_
    exact zG_ret hd0 hz rfl rfl ⟨⟨hC, hW⟩, _, rfl, by omega⟩
  refine zG_if_eq hd0 hz rfl (fun hb3 => ?_) (fun hb3 => ?_)
  · exact j21
  · refine zG_blk (c' := (15, [.inr (.inr (some 8)), .inl a1, .inl a2, zN, zN], [.inl a2])) 1 hd0 hz (by rfl) ?_
    refine zG_call hd0 hz zp_170 rfl rfl (Nat.le_of_ble_eq_true rfl) ⟨Nat.le_refl _, Nat.le_refl _⟩ (qm_170 (by first | exact zdp hd (by decide) | omega) hC  a2 (by first | with_reducible exact ha2 | omega)) (fun vr M4 hr => ?_)
    obtain ⟨hq, x5, rfl, hx5⟩ := hr
    replace hq := hq.symm; subst hq
    show zG n (0, 0) d 136 (18, [.inr (.inr (some 8)), .inl a1, .inl a2, zN, zN], [.inl x5]) M _
    refine zG_if_ne hd0 hz rfl (fun hb6 => ?_) (fun hb6 => ?_)
    · refine zG_blk (c' := (33, [.inr (.inr (some 8)), .inl a1, .inl a2, zN, zN], [.inl 1, .inl a1, .inr (.inr (some 18))])) 5 hd0 hz (by rfl) ?_
      refine zG_call hd0 hz zp_106 rfl rfl (Nat.le_of_ble_eq_true rfl) ⟨Nat.le_refl _, Nat.le_refl _⟩ (qw_get (by first | exact zdp hd (by decide) | omega) hC (⟨by decide, rfl, rfl⟩ : qT n 18 250 11) a1 (by first | with_reducible exact ha1 | omega) 1 (by first | decide | omega)) (fun vr M7 hr => ?_)
      obtain ⟨hq, x8, rfl, hx8⟩ := hr
      replace hq := hq.symm; subst hq
      show zG n (0, 0) d 136 (36, [.inr (.inr (some 8)), .inl a1, .inl a2, zN, zN], [.inl x8]) M _
      refine zG_blk (c' := (46, [.inr (.inr (some 8)), .inl a1, .inl a2, .inl x8, zN], [.inl 3, .inl a1, .inr (.inr (some 18))])) 6 hd0 hz (by rfl) ?_
      refine zG_call hd0 hz zp_106 rfl rfl (Nat.le_of_ble_eq_true rfl) ⟨Nat.le_refl _, Nat.le_refl _⟩ (qw_get (by first | exact zdp hd (by decide) | omega) hC (⟨by decide, rfl, rfl⟩ : qT n 18 250 11) a1 (by first | with_reducible exact ha1 | omega) 3 (by first | decide | omega)) (fun vr M9 hr => ?_)
      obtain ⟨hq, x10, rfl, hx10⟩ := hr
      replace hq := hq.symm; subst hq
      show zG n (0, 0) d 136 (49, [.inr (.inr (some 8)), .inl a1, .inl a2, .inl x8, zN], [.inl x10]) M _
      refine zG_blk (c' := (50, [.inr (.inr (some 8)), .inl a1, .inl a2, .inl x8, zN], [.inl (-1), .inl x10])) 1 hd0 hz (by rfl) ?_
      have j70 : zG n (0, 0) d 136 (70, [.inr (.inr (some 8)), .inl a1, .inl a2, .inl x8, zN], []) M (fun v M' => qWf qCI [18, 19] M M' ∧ qRi (fun x => (-4) ≤ x ∧ x ≤ 249) v) := by
        refine zG_blk (c' := (72, [.inr (.inr (some 8)), .inl a1, .inl a2, .inl x8, zN], [.inl (-3)])) 1 hd0 hz (by rfl) ?_
        exact zG_ret hd0 hz rfl rfl ⟨⟨hC, hW⟩, _, rfl, by omega⟩
      refine zG_icmp_eq hd0 hz rfl (fun hb11 => ?_) (fun hb11 => ?_)
      · exact j70
      · have r12 := hC.rng 9 8 (by decide) (by decide)
        obtain ⟨x13, hx13⟩ : ∃ x : Int, x = w32 (x8 + (M 9 8)) := ⟨_, rfl⟩
        have hx13r : x13 = (x8 + (M 9 8) + 2147483648) % 4294967296 - 2147483648 := hx13
        refine zG_blk (c' := (64, [.inr (.inr (some 8)), .inl a1, .inl a2, .inl x8, zN], [.inl x13, .inl x8, .inl a2])) 7 hd0 hz (by subst hx13; rfl) ?_
        refine zG_call hd0 hz zp_169 rfl rfl (Nat.le_of_ble_eq_true rfl) ⟨Nat.le_refl _, Nat.le_refl _⟩ (qm_169 (by first | exact zdp hd (by decide) | omega) hC  a2 (by first | with_reducible exact ha2 | omega) x8 (by omega) x13 (by omega)) (fun vr M14 hr => ?_)
        obtain ⟨hq, x15, rfl, hx15⟩ := hr
        replace hq := hq.symm; subst hq
        show zG n (0, 0) d 136 (67, [.inr (.inr (some 8)), .inl a1, .inl a2, .inl x8, zN], [.inl x15]) M _
        refine zG_if_ne hd0 hz rfl (fun hb16 => ?_) (fun hb16 => ?_)
        · refine zG_blk (c' := (81, [.inr (.inr (some 8)), .inl a1, .inl a2, .inl x8, zN], [.inl (-1), .inl a2, .inl a2, .inl 5, .inr (.inr (some 9))])) 6 hd0 hz (by rfl) ?_
          refine zG_call hd0 hz zp_18 rfl rfl (Nat.le_of_ble_eq_true rfl) ⟨Nat.le_refl _, Nat.le_refl _⟩ (qm_18_9 (by first | exact zdp hd (by decide) | omega) hC  5 (by first | decide | omega) a2 (by first | with_reducible exact ha2 | omega) a2 (by first | with_reducible exact ha2 | omega) (-1) (by first | decide | omega)) (fun vr M17 hr => ?_)
          obtain ⟨⟨hCM17, hFM17⟩, x18, rfl, hx18⟩ := hr
          have hWM17 : qFr [18, 19] M M17 := hW.tr hFM17 (by decide)
          have e19 : M17 9 8 = M 9 8 := hFM17 9 8 (by decide)
          show zG n (0, 0) d 136 (84, [.inr (.inr (some 8)), .inl a1, .inl a2, .inl x8, zN], [.inl x18]) M17 _
          refine zG_blk (c' := (98, [.inr (.inr (some 8)), .inl a1, .inl a2, .inl x8, .inl x18], [.inl a1, .inl 6, .inl x18, .inr (.inr (some 18))])) 7 hd0 hz (by rfl) ?_
          refine zG_call hd0 hz zp_107 rfl rfl (Nat.le_of_ble_eq_true rfl) ⟨Nat.le_refl _, Nat.le_refl _⟩ (qw_set (by first | exact zdp hd (by decide) | omega) hCM17 (⟨by decide, rfl, rfl⟩ : qT n 18 250 11) x18 (by omega) 6 (by first | decide | omega) a1 (by first | with_reducible exact ha1 | omega)) (fun vr M20 hr => ?_)
          obtain ⟨⟨hCM20, hFM20⟩, rfl⟩ := hr
          have hWM20 : qFr [18, 19] M M20 := hWM17.tr hFM20 (by decide)
          have e22 : M20 9 8 = M17 9 8 := hFM20 9 8 (by decide)
          show zG n (0, 0) d 136 (101, [.inr (.inr (some 8)), .inl a1, .inl a2, .inl x8, .inl x18], []) M20 _
          refine zG_blk (c' := (103, [.inr (.inr (some 8)), .inl a1, .inl a2, .inl x8, .inl x18], [.inl x18])) 1 hd0 hz (by rfl) ?_
          exact zG_ret hd0 hz rfl rfl ⟨⟨hCM20, hWM20⟩, _, rfl, by omega⟩
        · exact j70
    · exact j21
theorem qm_137_8 {n d : Nat} {M : zM} (hd : 2 ≤ d) (hC : qCI M) (a1 : Int) (ha1 : (-2147483648) ≤ a1 ∧ a1 ≤ 2147483647) : qOkM n d 137 [.inr (.inr (some 8)), .inl a1] 3 qCI [9] M (qRi (fun x => (-2147483648) ≤ x ∧ x ≤ 2147483647)) := by
  have hz := zp_137
  have hd0 : 0 < d := by omega
  have hW : qFr [9] M M := qFr.rfl
  show zG n (0, 0) d 137 (0, [.inr (.inr (some 8)), .inl a1, zN], []) M _
  refine zG_blk (c' := (5, [.inr (.inr (some 8)), .inl a1, zN], [.inl 1000, .inl 0, .inl a1])) 3 hd0 hz (by rfl) ?_
  refine zG_call hd0 hz zp_169 rfl rfl (Nat.le_of_ble_eq_true rfl) ⟨Nat.le_refl _, Nat.le_refl _⟩ (qm_169 (by first | exact zdp hd (by decide) | omega) hC  a1 (by first | with_reducible exact ha1 | omega) 0 (by first | decide | omega) 1000 (by first | decide | omega)) (fun vr M1 hr => ?_)
  obtain ⟨hq, x2, rfl, hx2⟩ := hr
  replace hq := hq.symm; subst hq
  show zG n (0, 0) d 137 (8, [.inr (.inr (some 8)), .inl a1, zN], [.inl x2]) M _
  refine zG_if_ne hd0 hz rfl (fun hb3 => ?_) (fun hb3 => ?_)
  · have r4 := hC.rng 9 8 (by decide) (by decide)
    refine zG_blk (c' := (27, [.inr (.inr (some 8)), .inl a1, .inl (M 9 8)], [.inl a1, .inr (.inr (some 9))])) 7 hd0 hz (by rfl) ?_
    refine zG_putf (.inl rfl) hd0 hz rfl (by decide) rfl rfl ?_
    obtain ⟨M5, hM5⟩ : ∃ X : zM, X = zput M 9 8 a1 := ⟨_, rfl⟩
    rw [← hM5]
    have hCM5 : qCI M5 := by rw [hM5]; exact hC.put (r := 9) (k := 8) rfl (.inl (by omega))
    have hWM5 : qFr [9] M M5 := by rw [hM5]; exact hW.put (by decide)
    have e6 : M5 9 8 = a1 := by rw [hM5]; exact qput_eq
    show zG n (0, 0) d 137 (30, [.inr (.inr (some 8)), .inl a1, .inl (M 9 8)], []) M5 _
    refine zG_blk (c' := (31, [.inr (.inr (some 8)), .inl a1, .inl (M 9 8)], [.inl (M 9 8)])) 1 hd0 hz (by rfl) ?_
    exact zG_ret hd0 hz rfl rfl ⟨⟨hCM5, hWM5⟩, _, rfl, by omega⟩
  · refine zG_blk (c' := (13, [.inr (.inr (some 8)), .inl a1, zN], [.inl (-2)])) 1 hd0 hz (by rfl) ?_
    exact zG_ret hd0 hz rfl rfl ⟨⟨hC, hW⟩, _, rfl, by omega⟩
theorem qm_138_8 {n d : Nat} {M : zM} (hd : 2 ≤ d) (hC : qCI M) (a1 : Int) (ha1 : (-2147483648) ≤ a1 ∧ a1 ≤ 2147483647) (a2 : Int) (ha2 : (-2147483648) ≤ a2 ∧ a2 ≤ 2147483647) : qOkP n d 138 [.inr (.inr (some 8)), .inl a1, .inl a2] 3 M (qRi (fun x => (-2147483648) ≤ x ∧ x ≤ 2147483647)) := by
  have hz := zp_138
  have hd0 : 0 < d := by omega
  show zG n (0, 0) d 138 (0, [.inr (.inr (some 8)), .inl a1, .inl a2], []) M _
  refine zG_blk (c' := (8, [.inr (.inr (some 8)), .inl a1, .inl a2], [.inl a1, .inr (.inr (some 18))])) 4 hd0 hz (by rfl) ?_
  refine zG_call hd0 hz zp_102 rfl rfl (Nat.le_of_ble_eq_true rfl) ⟨Nat.le_refl _, Nat.le_refl _⟩ (qw_has (by first | exact zdp hd (by decide) | omega) hC (⟨by decide, rfl, rfl⟩ : qT n 18 250 11) a1 (by first | with_reducible exact ha1 | omega)) (fun vr M1 hr => ?_)
  obtain ⟨hq, x2, rfl, hx2⟩ := hr
  replace hq := hq.symm; subst hq
  show zG n (0, 0) d 138 (11, [.inr (.inr (some 8)), .inl a1, .inl a2], [.inl x2]) M _
  have j41 : ∀ (v3 : Int) , (-2147483648) ≤ v3 ∧ v3 ≤ 2147483647 → zG n (0, 0) d 138 (41, [.inr (.inr (some 8)), .inl a1, .inl a2], [.inl v3]) M (fun v M' => M' = M ∧ qRi (fun x => (-2147483648) ≤ x ∧ x ≤ 2147483647) v) := by
    intro v3 hv3
    exact zG_ret hd0 hz rfl rfl ⟨rfl, _, rfl, by omega⟩
  have j39 : zG n (0, 0) d 138 (39, [.inr (.inr (some 8)), .inl a1, .inl a2], []) M (fun v M' => M' = M ∧ qRi (fun x => (-2147483648) ≤ x ∧ x ≤ 2147483647) v) := by
    refine zG_blk (c' := (41, [.inr (.inr (some 8)), .inl a1, .inl a2], [.inl (-2)])) 1 hd0 hz (by rfl) ?_
    exact j41 (-2) (by first | decide | omega)
  refine zG_if_eq hd0 hz rfl (fun hb4 => ?_) (fun hb4 => ?_)
  · exact j39
  · refine zG_blk (c' := (18, [.inr (.inr (some 8)), .inl a1, .inl a2], [.inl 7, .inl 0, .inl a2])) 3 hd0 hz (by rfl) ?_
    refine zG_call hd0 hz zp_169 rfl rfl (Nat.le_of_ble_eq_true rfl) ⟨Nat.le_refl _, Nat.le_refl _⟩ (qm_169 (by first | exact zdp hd (by decide) | omega) hC  a2 (by first | with_reducible exact ha2 | omega) 0 (by first | decide | omega) 7 (by first | decide | omega)) (fun vr M5 hr => ?_)
    obtain ⟨hq, x6, rfl, hx6⟩ := hr
    replace hq := hq.symm; subst hq
    show zG n (0, 0) d 138 (21, [.inr (.inr (some 8)), .inl a1, .inl a2], [.inl x6]) M _
    refine zG_if_eq hd0 hz rfl (fun hb7 => ?_) (fun hb7 => ?_)
    · exact j39
    · refine zG_blk (c' := (33, [.inr (.inr (some 8)), .inl a1, .inl a2], [.inl a2, .inl a1, .inr (.inr (some 18))])) 5 hd0 hz (by rfl) ?_
      refine zG_call hd0 hz zp_106 rfl rfl (Nat.le_of_ble_eq_true rfl) ⟨Nat.le_refl _, Nat.le_refl _⟩ (qw_get (by first | exact zdp hd (by decide) | omega) hC (⟨by decide, rfl, rfl⟩ : qT n 18 250 11) a1 (by first | with_reducible exact ha1 | omega) a2 (by first | with_reducible exact ha2 | omega)) (fun vr M8 hr => ?_)
      obtain ⟨hq, x9, rfl, hx9⟩ := hr
      replace hq := hq.symm; subst hq
      show zG n (0, 0) d 138 (36, [.inr (.inr (some 8)), .inl a1, .inl a2], [.inl x9]) M _
      refine zG_blk (c' := (41, [.inr (.inr (some 8)), .inl a1, .inl a2], [.inl x9])) 1 hd0 hz (by rfl) ?_
      exact j41 x9 (by omega)
theorem qm_48_60 {n d : Nat} {M : zM} (hd : 3 ≤ d) (hC : qCI M) (a1 : Int) (ha1 : (-2147483648) ≤ a1 ∧ a1 ≤ 2147483647) (a2 : Int) (ha2 : (-2147483648) ≤ a2 ∧ a2 ≤ 2147483647) : qOkM n d 48 [.inr (.inr (some 60)), .inl a1, .inl a2] 7 qCI [62] M qRn := by
  have hz := zp_48
  have hd0 : 0 < d := by omega
  have hW : qFr [62] M M := qFr.rfl
  show zG n (0, 0) d 48 (0, [.inr (.inr (some 60)), .inl a1, .inl a2, zN, zN, zN, zN], []) M _
  refine zG_blk (c' := (13, [.inr (.inr (some 60)), .inl a1, .inl a2, zN, zN, zN, zN], [.inr (.inr (some 18)), .inl (-1), .inl 1, .inr (.inr (some 61))])) 7 hd0 hz (by rfl) ?_
  refine zG_call hd0 hz zp_101 rfl rfl (Nat.le_of_ble_eq_true rfl) ⟨Nat.le_refl _, Nat.le_refl _⟩ (qw_size (by first | exact zdp hd (by decide) | omega) hC (⟨by decide, rfl, rfl⟩ : qT n 18 250 11) ) (fun vr M1 hr => ?_)
  obtain ⟨hq, x2, rfl, hx2⟩ := hr
  replace hq := hq.symm; subst hq
  show zG n (0, 0) d 48 (16, [.inr (.inr (some 60)), .inl a1, .inl a2, zN, zN, zN, zN], [.inl x2, .inl (-1), .inl 1, .inr (.inr (some 61))]) M _
  refine zG_call hd0 hz zp_109 rfl rfl (Nat.le_of_ble_eq_true rfl) ⟨Nat.le_refl _, Nat.le_refl _⟩ (qw_fillColumn (by first | exact zdp hd (by decide) | omega) hC (⟨by decide, rfl, rfl⟩ : qT n 61 250 4) 1 (by first | decide | omega) (-1) (by first | decide | omega) x2 (by omega)) (fun vr M3 hr => ?_)
  obtain ⟨⟨hCM3, hFM3⟩, rfl⟩ := hr
  have hWM3 : qFr [62] M M3 := hW.tr hFM3 (by decide)
  show zG n (0, 0) d 48 (19, [.inr (.inr (some 60)), .inl a1, .inl a2, zN, zN, zN, zN], []) M3 _
  refine zG_blk (c' := (26, [.inr (.inr (some 60)), .inl a1, .inl a2, zN, zN, zN, zN], [.inr (.inr (some 18))])) 3 hd0 hz (by rfl) ?_
  refine zG_call hd0 hz zp_101 rfl rfl (Nat.le_of_ble_eq_true rfl) ⟨Nat.le_refl _, Nat.le_refl _⟩ (qw_size (by first | exact zdp hd (by decide) | omega) hCM3 (⟨by decide, rfl, rfl⟩ : qT n 18 250 11) ) (fun vr M5 hr => ?_)
  obtain ⟨hq, x6, rfl, hx6⟩ := hr
  replace hq := hq.symm; subst hq
  show zG n (0, 0) d 48 (29, [.inr (.inr (some 60)), .inl a1, .inl a2, zN, zN, zN, zN], [.inl x6]) M3 _
  obtain ⟨x7, hx7⟩ : ∃ x : Int, x = w32 (x6 - 1) := ⟨_, rfl⟩
  have hx7e : x7 = x6 - 1 := by rw [hx7]; exact w32_id (by omega)
  refine zG_blk (c' := (32, [.inr (.inr (some 60)), .inl a1, .inl a2, .inl x7, zN, zN, zN], [])) 3 hd0 hz (by subst hx7; rfl) ?_
  have j32 : ∀ (N : Nat) (v8 : Int) (M9 : zM) , (v8 + 1 : Int).toNat < N → (-1) ≤ v8 ∧ v8 ≤ 249 → qCI M9 → qFr [62] M M9 → zG n (0, 0) d 48 (32, [.inr (.inr (some 60)), .inl a1, .inl a2, .inl v8, zN, zN, zN], []) M9 (fun v M' => qWf qCI [62] M M' ∧ qRn v) := by
    intro N
    induction N with
    | zero => intro v8 M9 hN hv8 hCM9 hWM9; exact absurd hN (Nat.not_lt_zero _)
    | succ N ih32 =>
      intro v8 M9 hN hv8 hCM9 hWM9
      refine zG_blk (c' := (33, [.inr (.inr (some 60)), .inl a1, .inl a2, .inl v8, zN, zN, zN], [.inl v8])) 1 hd0 hz (by rfl) ?_
      refine zG_if_lt hd0 hz rfl (fun hb10 => ?_) (fun hb10 => ?_)
      · exact zG_ret hd0 hz rfl rfl ⟨⟨hCM9, hWM9⟩, rfl⟩
      · refine zG_blk (c' := (45, [.inr (.inr (some 60)), .inl a1, .inl a2, .inl v8, zN, zN, zN], [.inl 3, .inl v8, .inr (.inr (some 18))])) 5 hd0 hz (by rfl) ?_
        refine zG_call hd0 hz zp_106 rfl rfl (Nat.le_of_ble_eq_true rfl) ⟨Nat.le_refl _, Nat.le_refl _⟩ (qw_get (by first | exact zdp hd (by decide) | omega) hCM9 (⟨by decide, rfl, rfl⟩ : qT n 18 250 11) v8 (by first | with_reducible exact hv8 | omega) 3 (by first | decide | omega)) (fun vr M11 hr => ?_)
        obtain ⟨hq, x12, rfl, hx12⟩ := hr
        replace hq := hq.symm; subst hq
        show zG n (0, 0) d 48 (48, [.inr (.inr (some 60)), .inl a1, .inl a2, .inl v8, zN, zN, zN], [.inl x12]) M9 _
        refine zG_blk (c' := (53, [.inr (.inr (some 60)), .inl a1, .inl a2, .inl v8, .inl x12, zN, zN], [.inl (-1), .inl x12])) 3 hd0 hz (by rfl) ?_
        have j79 : ∀ (v13 : Int) , 0 ≤ v13 ∧ v13 ≤ 1 → zG n (0, 0) d 48 (79, [.inr (.inr (some 60)), .inl a1, .inl a2, .inl v8, .inl x12, zN, zN], [.inl v13]) M9 (fun v M' => qWf qCI [62] M M' ∧ qRn v) := by
          intro v13 hv13
          refine zG_blk (c' := (83, [.inr (.inr (some 60)), .inl a1, .inl a2, .inl v8, .inl x12, .inl v13, zN], [.inl v13])) 2 hd0 hz (by rfl) ?_
          have j120 : ∀ (v14 : Int) , 0 ≤ v14 ∧ v14 ≤ 1 → zG n (0, 0) d 48 (120, [.inr (.inr (some 60)), .inl a1, .inl a2, .inl v8, .inl x12, .inl v13, zN], [.inl v14]) M9 (fun v M' => qWf qCI [62] M M' ∧ qRn v) := by
            intro v14 hv14
            refine zG_blk (c' := (130, [.inr (.inr (some 60)), .inl a1, .inl a2, .inl v8, .inl x12, .inl v13, .inl v14], [.inl v14, .inl 0, .inl v8, .inr (.inr (some 61))])) 6 hd0 hz (by rfl) ?_
            have j138 : ∀ (v15 v16 v17 : Int) , 0 ≤ v15 ∧ v15 ≤ 249 → 0 ≤ v16 ∧ v16 ≤ 0 → 0 ≤ v17 ∧ v17 ≤ 1 → zG n (0, 0) d 48 (138, [.inr (.inr (some 60)), .inl a1, .inl a2, .inl v8, .inl x12, .inl v13, .inl v14], [.inl v17, .inl v16, .inl v15, .inr (.inr (some 61))]) M9 (fun v M' => qWf qCI [62] M M' ∧ qRn v) := by
              intro v15 v16 v17 hv15 hv16 hv17
              refine zG_call hd0 hz zp_107 rfl rfl (Nat.le_of_ble_eq_true rfl) ⟨Nat.le_refl _, Nat.le_refl _⟩ (qw_set (by first | exact zdp hd (by decide) | omega) hCM9 (⟨by decide, rfl, rfl⟩ : qT n 61 250 4) v15 (by first | with_reducible exact hv15 | omega) v16 (by first | with_reducible exact hv16 | omega) v17 (by first | with_reducible exact hv17 | omega)) (fun vr M18 hr => ?_)
              obtain ⟨⟨hCM18, hFM18⟩, rfl⟩ := hr
              have hWM18 : qFr [62] M M18 := hWM9.tr hFM18 (by decide)
              show zG n (0, 0) d 48 (141, [.inr (.inr (some 60)), .inl a1, .inl a2, .inl v8, .inl x12, .inl v13, .inl v14], []) M18 _
              refine zG_blk (c' := (143, [.inr (.inr (some 60)), .inl a1, .inl a2, .inl v8, .inl x12, .inl v13, .inl v14], [.inl v14])) 1 hd0 hz (by rfl) ?_
              have j184 : ∀ (M20 : zM) , qCI M20 → qFr [62] M M20 → zG n (0, 0) d 48 (184, [.inr (.inr (some 60)), .inl a1, .inl a2, .inl v8, .inl x12, .inl v13, .inl v14], []) M20 (fun v M' => qWf qCI [62] M M' ∧ qRn v) := by
                intro M20 hCM20 hWM20
                obtain ⟨x21, hx21⟩ : ∃ x : Int, x = w32 (v8 + (-1)) := ⟨_, rfl⟩
                have hx21e : x21 = v8 + (-1) := by rw [hx21]; exact w32_id (by omega)
                refine zG_blk (c' := (32, [.inr (.inr (some 60)), .inl a1, .inl a2, .inl x21, .inl x12, .inl v13, .inl v14], [])) 2 hd0 hz (by subst hx21; rfl) ?_
                exact zG_weak (ih32 x21 M20 (by omega) (by omega) hCM20 hWM20) ⟨.inr rfl, .inr rfl, .inr rfl, .inr rfl, .inl rfl, .inl rfl, .inl rfl, trivial⟩
              refine zG_if_eq hd0 hz rfl (fun hb22 => ?_) (fun hb22 => ?_)
              · exact j184 M18 hCM18 hWM18
              · refine zG_blk (c' := (155, [.inr (.inr (some 60)), .inl a1, .inl a2, .inl v8, .inl x12, .inl v13, .inl v14], [.inl 0, .inl v8, .inr (.inr (some 18))])) 5 hd0 hz (by rfl) ?_
                refine zG_call hd0 hz zp_106 rfl rfl (Nat.le_of_ble_eq_true rfl) ⟨Nat.le_refl _, Nat.le_refl _⟩ (qw_get (by first | exact zdp hd (by decide) | omega) hCM18 (⟨by decide, rfl, rfl⟩ : qT n 18 250 11) v8 (by first | with_reducible exact hv8 | omega) 0 (by first | decide | omega)) (fun vr M23 hr => ?_)
                obtain ⟨hq, x24, rfl, hx24⟩ := hr
                replace hq := hq.symm; subst hq
                show zG n (0, 0) d 48 (158, [.inr (.inr (some 60)), .inl a1, .inl a2, .inl v8, .inl x12, .inl v13, .inl v14], [.inl x24]) M18 _
                refine zG_blk (c' := (159, [.inr (.inr (some 60)), .inl a1, .inl a2, .inl v8, .inl x12, .inl v13, .inl v14], [.inl 5, .inl x24])) 1 hd0 hz (by rfl) ?_
                refine zG_icmp_ne hd0 hz rfl (fun hb25 => ?_) (fun hb25 => ?_)
                · exact j184 M18 hCM18 hWM18
                · refine zG_blk (c' := (176, [.inr (.inr (some 60)), .inl a1, .inl a2, .inl v8, .inl x12, .inl v13, .inl v14], [.inl 6, .inl v8, .inr (.inr (some 18)), .inr (.inr (some 61))])) 7 hd0 hz (by rfl) ?_
                  refine zG_call hd0 hz zp_106 rfl rfl (Nat.le_of_ble_eq_true rfl) ⟨Nat.le_refl _, Nat.le_refl _⟩ (qw_get (by first | exact zdp hd (by decide) | omega) hCM18 (⟨by decide, rfl, rfl⟩ : qT n 18 250 11) v8 (by first | with_reducible exact hv8 | omega) 6 (by first | decide | omega)) (fun vr M26 hr => ?_)
                  obtain ⟨hq, x27, rfl, hx27⟩ := hr
                  replace hq := hq.symm; subst hq
                  show zG n (0, 0) d 48 (179, [.inr (.inr (some 60)), .inl a1, .inl a2, .inl v8, .inl x12, .inl v13, .inl v14], [.inl x27, .inr (.inr (some 61))]) M18 _
                  refine zG_blk (c' := (181, [.inr (.inr (some 60)), .inl a1, .inl a2, .inl v8, .inl x12, .inl v13, .inl v14], [.inl v8, .inl 1, .inl x27, .inr (.inr (some 61))])) 2 hd0 hz (by rfl) ?_
                  refine zG_call hd0 hz zp_107 rfl rfl (Nat.le_of_ble_eq_true rfl) ⟨Nat.le_refl _, Nat.le_refl _⟩ (qw_set (by first | exact zdp hd (by decide) | omega) hCM18 (⟨by decide, rfl, rfl⟩ : qT n 61 250 4) x27 (by omega) 1 (by first | decide | omega) v8 (by first | with_reducible exact hv8 | omega)) (fun vr M28 hr => ?_)
                  obtain ⟨⟨hCM28, hFM28⟩, rfl⟩ := hr
                  have hWM28 : qFr [62] M M28 := hWM18.tr hFM28 (by decide)
                  show zG n (0, 0) d 48 (184, [.inr (.inr (some 60)), .inl a1, .inl a2, .inl v8, .inl x12, .inl v13, .inl v14], []) M28 _
                  exact j184 M28 hCM28 hWM28
            refine zG_if_eq hd0 hz rfl (fun hb30 => ?_) (fun hb30 => ?_)
            · refine zG_blk (c' := (138, [.inr (.inr (some 60)), .inl a1, .inl a2, .inl v8, .inl x12, .inl v13, .inl v14], [.inl 0, .inl 0, .inl v8, .inr (.inr (some 61))])) 1 hd0 hz (by rfl) ?_
              exact j138 v8 0 0 (by first | decide | omega) (by omega) (by omega)
            · refine zG_blk (c' := (138, [.inr (.inr (some 60)), .inl a1, .inl a2, .inl v8, .inl x12, .inl v13, .inl v14], [.inl 1, .inl 0, .inl v8, .inr (.inr (some 61))])) 2 hd0 hz (by rfl) ?_
              exact j138 v8 0 1 (by first | decide | omega) (by omega) (by omega)
          have j119 : zG n (0, 0) d 48 (119, [.inr (.inr (some 60)), .inl a1, .inl a2, .inl v8, .inl x12, .inl v13, zN], []) M9 (fun v M' => qWf qCI [62] M M' ∧ qRn v) := by
            refine zG_blk (c' := (120, [.inr (.inr (some 60)), .inl a1, .inl a2, .inl v8, .inl x12, .inl v13, zN], [.inl 0])) 1 hd0 hz (by rfl) ?_
            exact j120 0 (by first | decide | omega)
          refine zG_if_eq hd0 hz rfl (fun hb31 => ?_) (fun hb31 => ?_)
          · exact j119
          · refine zG_blk (c' := (95, [.inr (.inr (some 60)), .inl a1, .inl a2, .inl v8, .inl x12, .inl v13, zN], [.inl 2, .inl v8, .inr (.inr (some 18))])) 5 hd0 hz (by rfl) ?_
            refine zG_call hd0 hz zp_106 rfl rfl (Nat.le_of_ble_eq_true rfl) ⟨Nat.le_refl _, Nat.le_refl _⟩ (qw_get (by first | exact zdp hd (by decide) | omega) hCM9 (⟨by decide, rfl, rfl⟩ : qT n 18 250 11) v8 (by first | with_reducible exact hv8 | omega) 2 (by first | decide | omega)) (fun vr M32 hr => ?_)
            obtain ⟨hq, x33, rfl, hx33⟩ := hr
            replace hq := hq.symm; subst hq
            show zG n (0, 0) d 48 (98, [.inr (.inr (some 60)), .inl a1, .inl a2, .inl v8, .inl x12, .inl v13, zN], [.inl x33]) M9 _
            refine zG_blk (c' := (99, [.inr (.inr (some 60)), .inl a1, .inl a2, .inl v8, .inl x12, .inl v13, zN], [.inl a1, .inl x33])) 1 hd0 hz (by rfl) ?_
            refine zG_icmp_gt hd0 hz rfl (fun hb34 => ?_) (fun hb34 => ?_)
            · exact j119
            · refine zG_blk (c' := (108, [.inr (.inr (some 60)), .inl a1, .inl a2, .inl v8, .inl x12, .inl v13, zN], [.inl 1, .inl v8, .inr (.inr (some 61))])) 4 hd0 hz (by rfl) ?_
              refine zG_call hd0 hz zp_106 rfl rfl (Nat.le_of_ble_eq_true rfl) ⟨Nat.le_refl _, Nat.le_refl _⟩ (qw_get (by first | exact zdp hd (by decide) | omega) hCM9 (⟨by decide, rfl, rfl⟩ : qT n 61 250 4) v8 (by first | with_reducible exact hv8 | omega) 1 (by first | decide | omega)) (fun vr M35 hr => ?_)
              obtain ⟨hq, x36, rfl, hx36⟩ := hr
              replace hq := hq.symm; subst hq
              show zG n (0, 0) d 48 (111, [.inr (.inr (some 60)), .inl a1, .inl a2, .inl v8, .inl x12, .inl v13, zN], [.inl x36]) M9 _
              refine zG_blk (c' := (112, [.inr (.inr (some 60)), .inl a1, .inl a2, .inl v8, .inl x12, .inl v13, zN], [.inl (-1), .inl x36])) 1 hd0 hz (by rfl) ?_
              refine zG_icmp_ne hd0 hz rfl (fun hb37 => ?_) (fun hb37 => ?_)
              · exact j119
              · refine zG_blk (c' := (120, [.inr (.inr (some 60)), .inl a1, .inl a2, .inl v8, .inl x12, .inl v13, zN], [.inl 1])) 2 hd0 hz (by rfl) ?_
                exact j120 1 (by first | decide | omega)
        have j74 : zG n (0, 0) d 48 (74, [.inr (.inr (some 60)), .inl a1, .inl a2, .inl v8, .inl x12, zN, zN], []) M9 (fun v M' => qWf qCI [62] M M' ∧ qRn v) := by
          refine zG_blk (c' := (79, [.inr (.inr (some 60)), .inl a1, .inl a2, .inl v8, .inl x12, zN, zN], [.inl 1])) 2 hd0 hz (by rfl) ?_
          exact j79 1 (by first | decide | omega)
        refine zG_icmp_eq hd0 hz rfl (fun hb38 => ?_) (fun hb38 => ?_)
        · exact j74
        · refine zG_blk (c' := (59, [.inr (.inr (some 60)), .inl a1, .inl a2, .inl v8, .inl x12, zN, zN], [.inl a2, .inl x12])) 2 hd0 hz (by rfl) ?_
          have j78 : zG n (0, 0) d 48 (78, [.inr (.inr (some 60)), .inl a1, .inl a2, .inl v8, .inl x12, zN, zN], []) M9 (fun v M' => qWf qCI [62] M M' ∧ qRn v) := by
            refine zG_blk (c' := (79, [.inr (.inr (some 60)), .inl a1, .inl a2, .inl v8, .inl x12, zN, zN], [.inl 0])) 1 hd0 hz (by rfl) ?_
            exact j79 0 (by first | decide | omega)
          refine zG_icmp_eq hd0 hz rfl (fun hb39 => ?_) (fun hb39 => ?_)
          · exact j78
          · refine zG_blk (c' := (68, [.inr (.inr (some 60)), .inl a1, .inl a2, .inl v8, .inl x12, zN, zN], [.inl x12, .inr (.inr (some 9))])) 3 hd0 hz (by rfl) ?_
            refine zG_call hd0 hz zp_20 rfl rfl (Nat.le_of_ble_eq_true rfl) ⟨Nat.le_refl _, Nat.le_refl _⟩ (qm_20_9 (by first | exact zdp hd (by decide) | omega) hCM9  x12 (by omega)) (fun vr M40 hr => ?_)
            obtain ⟨hq, x41, rfl, hx41⟩ := hr
            replace hq := hq.symm; subst hq
            show zG n (0, 0) d 48 (71, [.inr (.inr (some 60)), .inl a1, .inl a2, .inl v8, .inl x12, zN, zN], [.inl x41]) M9 _
            refine zG_if_eq hd0 hz rfl (fun hb42 => ?_) (fun hb42 => ?_)
            · exact j78
            · exact j74
  exact j32 ((x7 + 1 : Int).toNat + 1) x7 M3 (by omega) (by omega) hCM3 hWM3
