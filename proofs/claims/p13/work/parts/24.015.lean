theorem qm_173 {n d : Nat} {M : zM} (hd : 2 ≤ d) (hC : qCI M) (a0 : Int) (ha0 : (-2147483648) ≤ a0 ∧ a0 ≤ 2147483647) : qOkP n d 173 [.inl a0] 1 M (qRi (fun x => 0 ≤ x ∧ x ≤ 1)) := by
  have hz := zp_173
  have hd0 : 0 < d := by omega
  show zG n (0, 0) d 173 (0, [.inl a0], []) M _
  refine zG_blk (c' := (4, [.inl a0], [.inl 7, .inl 0, .inl a0])) 3 hd0 hz (by rfl) ?_
  refine zG_call hd0 hz zp_169 rfl rfl (Nat.le_of_ble_eq_true rfl) ⟨Nat.le_refl _, Nat.le_refl _⟩ (qm_169 (by first | exact zdp hd (by decide) | omega) hC  a0 (by first | with_reducible exact ha0 | omega) 0 (by first | decide | omega) 7 (by first | decide | omega)) (fun vr M1 hr => ?_)
  obtain ⟨hq, x2, rfl, hx2⟩ := hr
  replace hq := hq.symm; subst hq
  show zG n (0, 0) d 173 (7, [.inl a0], [.inl x2]) M _
  exact zG_zret hd0 hz rfl (by omega) ⟨rfl, _, rfl, by omega⟩
theorem qm_148_8 {n d : Nat} {M : zM} (hd : 3 ≤ d) (hC : qCI M) (a1 : Int) (ha1 : (-2147483648) ≤ a1 ∧ a1 ≤ 2147483647) (a2 : Int) (ha2 : (-2147483648) ≤ a2 ∧ a2 ≤ 2147483647) : qOkM n d 148 [.inr (.inr (some 8)), .inl a1, .inl a2] 4 qCI [21] M (qRi (fun x => (-2147483647) ≤ x ∧ x ≤ 80)) := by
  have hz := zp_148
  have hd0 : 0 < d := by omega
  have hW : qFr [21] M M := qFr.rfl
  show zG n (0, 0) d 148 (0, [.inr (.inr (some 8)), .inl a1, .inl a2, zN], []) M _
  refine zG_blk (c' := (1, [.inr (.inr (some 8)), .inl a1, .inl a2, zN], [.inl a1])) 1 hd0 hz (by rfl) ?_
  refine zG_call hd0 hz zp_173 rfl rfl (Nat.le_of_ble_eq_true rfl) ⟨Nat.le_refl _, Nat.le_refl _⟩ (qm_173 (by first | exact zdp hd (by decide) | omega) hC  a1 (by first | with_reducible exact ha1 | omega)) (fun vr M1 hr => ?_)
  obtain ⟨hq, x2, rfl, hx2⟩ := hr
  replace hq := hq.symm; subst hq
  show zG n (0, 0) d 148 (4, [.inr (.inr (some 8)), .inl a1, .inl a2, zN], [.inl x2]) M _
  have j17 : zG n (0, 0) d 148 (17, [.inr (.inr (some 8)), .inl a1, .inl a2, zN], []) M (fun v M' => qWf qCI [21] M M' ∧ qRi (fun x => (-2147483647) ≤ x ∧ x ≤ 80) v) := by
    refine zG_blk (c' := (19, [.inr (.inr (some 8)), .inl a1, .inl a2, zN], [.inl (-2)])) 1 hd0 hz (by rfl) ?_
    exact zG_ret hd0 hz rfl rfl ⟨⟨hC, hW⟩, _, rfl, by omega⟩
  refine zG_if_eq hd0 hz rfl (fun hb3 => ?_) (fun hb3 => ?_)
  · exact j17
  · refine zG_blk (c' := (11, [.inr (.inr (some 8)), .inl a1, .inl a2, zN], [.inl 127, .inl 0, .inl a2])) 3 hd0 hz (by rfl) ?_
    refine zG_call hd0 hz zp_169 rfl rfl (Nat.le_of_ble_eq_true rfl) ⟨Nat.le_refl _, Nat.le_refl _⟩ (qm_169 (by first | exact zdp hd (by decide) | omega) hC  a2 (by first | with_reducible exact ha2 | omega) 0 (by first | decide | omega) 127 (by first | decide | omega)) (fun vr M4 hr => ?_)
    obtain ⟨hq, x5, rfl, hx5⟩ := hr
    replace hq := hq.symm; subst hq
    show zG n (0, 0) d 148 (14, [.inr (.inr (some 8)), .inl a1, .inl a2, zN], [.inl x5]) M _
    refine zG_if_ne hd0 hz rfl (fun hb6 => ?_) (fun hb6 => ?_)
    · refine zG_blk (c' := (29, [.inr (.inr (some 8)), .inl a1, .inl a2, zN], [.inl 0, .inl a1, .inr (.inr (some 20))])) 5 hd0 hz (by rfl) ?_
      refine zG_call hd0 hz zp_106 rfl rfl (Nat.le_of_ble_eq_true rfl) ⟨Nat.le_refl _, Nat.le_refl _⟩ (qw_get (by first | exact zdp hd (by decide) | omega) hC (⟨by decide, rfl, rfl⟩ : qT n 20 8 81) a1 (by first | with_reducible exact ha1 | omega) 0 (by first | decide | omega)) (fun vr M7 hr => ?_)
      obtain ⟨hq, x8, rfl, hx8⟩ := hr
      replace hq := hq.symm; subst hq
      show zG n (0, 0) d 148 (32, [.inr (.inr (some 8)), .inl a1, .inl a2, zN], [.inl x8]) M _
      refine zG_blk (c' := (36, [.inr (.inr (some 8)), .inl a1, .inl a2, .inl x8], [.inl 80, .inl x8])) 3 hd0 hz (by rfl) ?_
      refine zG_icmp_lt hd0 hz rfl (fun hb9 => ?_) (fun hb9 => ?_)
      · obtain ⟨x10, hx10⟩ : ∃ x : Int, x = w32 (1 + x8) := ⟨_, rfl⟩
        have hx10e : x10 = 1 + x8 := by rw [hx10]; exact w32_id (by omega)
        refine zG_blk (c' := (54, [.inr (.inr (some 8)), .inl a1, .inl a2, .inl x8], [.inl a2, .inl x10, .inl a1, .inr (.inr (some 20))])) 8 hd0 hz (by subst hx10; rfl) ?_
        refine zG_call hd0 hz zp_107 rfl rfl (Nat.le_of_ble_eq_true rfl) ⟨Nat.le_refl _, Nat.le_refl _⟩ (qw_set (by first | exact zdp hd (by decide) | omega) hC (⟨by decide, rfl, rfl⟩ : qT n 20 8 81) a1 (by first | with_reducible exact ha1 | omega) x10 (by omega) a2 (by first | with_reducible exact ha2 | omega)) (fun vr M11 hr => ?_)
        obtain ⟨⟨hCM11, hFM11⟩, rfl⟩ := hr
        have hWM11 : qFr [21] M M11 := hW.tr hFM11 (by decide)
        show zG n (0, 0) d 148 (57, [.inr (.inr (some 8)), .inl a1, .inl a2, .inl x8], []) M11 _
        obtain ⟨x13, hx13⟩ : ∃ x : Int, x = w32 (x8 + 1) := ⟨_, rfl⟩
        have hx13e : x13 = x8 + 1 := by rw [hx13]; exact w32_id (by omega)
        refine zG_blk (c' := (69, [.inr (.inr (some 8)), .inl a1, .inl a2, .inl x8], [.inl x13, .inl 0, .inl a1, .inr (.inr (some 20))])) 8 hd0 hz (by subst hx13; rfl) ?_
        refine zG_call hd0 hz zp_107 rfl rfl (Nat.le_of_ble_eq_true rfl) ⟨Nat.le_refl _, Nat.le_refl _⟩ (qw_set (by first | exact zdp hd (by decide) | omega) hCM11 (⟨by decide, rfl, rfl⟩ : qT n 20 8 81) a1 (by first | with_reducible exact ha1 | omega) 0 (by first | decide | omega) x13 (by omega)) (fun vr M14 hr => ?_)
        obtain ⟨⟨hCM14, hFM14⟩, rfl⟩ := hr
        have hWM14 : qFr [21] M M14 := hWM11.tr hFM14 (by decide)
        show zG n (0, 0) d 148 (72, [.inr (.inr (some 8)), .inl a1, .inl a2, .inl x8], []) M14 _
        obtain ⟨x16, hx16⟩ : ∃ x : Int, x = w32 (x8 + 1) := ⟨_, rfl⟩
        have hx16e : x16 = x8 + 1 := by rw [hx16]; exact w32_id (by omega)
        refine zG_blk (c' := (75, [.inr (.inr (some 8)), .inl a1, .inl a2, .inl x8], [.inl x16])) 3 hd0 hz (by subst hx16; rfl) ?_
        exact zG_ret hd0 hz rfl rfl ⟨⟨hCM14, hWM14⟩, _, rfl, by omega⟩
      · refine zG_blk (c' := (41, [.inr (.inr (some 8)), .inl a1, .inl a2, .inl x8], [.inl (-4)])) 1 hd0 hz (by rfl) ?_
        exact zG_ret hd0 hz rfl rfl ⟨⟨hC, hW⟩, _, rfl, by omega⟩
    · exact j17
theorem qm_149_8 {n d : Nat} {M : zM} (hd : 3 ≤ d) (hC : qCI M) (a1 : Int) (ha1 : (-2147483648) ≤ a1 ∧ a1 ≤ 2147483647) : qOkM n d 149 [.inr (.inr (some 8)), .inl a1] 3 qCI [21] M (qRi (fun x => (-2147483648) ≤ x ∧ x ≤ 2147483647)) := by
  have hz := zp_149
  have hd0 : 0 < d := by omega
  have hW : qFr [21] M M := qFr.rfl
  show zG n (0, 0) d 149 (0, [.inr (.inr (some 8)), .inl a1, zN], []) M _
  refine zG_blk (c' := (1, [.inr (.inr (some 8)), .inl a1, zN], [.inl a1])) 1 hd0 hz (by rfl) ?_
  refine zG_call hd0 hz zp_173 rfl rfl (Nat.le_of_ble_eq_true rfl) ⟨Nat.le_refl _, Nat.le_refl _⟩ (qm_173 (by first | exact zdp hd (by decide) | omega) hC  a1 (by first | with_reducible exact ha1 | omega)) (fun vr M1 hr => ?_)
  obtain ⟨hq, x2, rfl, hx2⟩ := hr
  replace hq := hq.symm; subst hq
  show zG n (0, 0) d 149 (4, [.inr (.inr (some 8)), .inl a1, zN], [.inl x2]) M _
  refine zG_if_ne hd0 hz rfl (fun hb3 => ?_) (fun hb3 => ?_)
  · refine zG_blk (c' := (19, [.inr (.inr (some 8)), .inl a1, zN], [.inl 0, .inl a1, .inr (.inr (some 20))])) 5 hd0 hz (by rfl) ?_
    refine zG_call hd0 hz zp_106 rfl rfl (Nat.le_of_ble_eq_true rfl) ⟨Nat.le_refl _, Nat.le_refl _⟩ (qw_get (by first | exact zdp hd (by decide) | omega) hC (⟨by decide, rfl, rfl⟩ : qT n 20 8 81) a1 (by first | with_reducible exact ha1 | omega) 0 (by first | decide | omega)) (fun vr M4 hr => ?_)
    obtain ⟨hq, x5, rfl, hx5⟩ := hr
    replace hq := hq.symm; subst hq
    show zG n (0, 0) d 149 (22, [.inr (.inr (some 8)), .inl a1, zN], [.inl x5]) M _
    refine zG_blk (c' := (33, [.inr (.inr (some 8)), .inl a1, .inl x5], [.inl 0, .inl 0, .inl a1, .inr (.inr (some 20))])) 7 hd0 hz (by rfl) ?_
    refine zG_call hd0 hz zp_107 rfl rfl (Nat.le_of_ble_eq_true rfl) ⟨Nat.le_refl _, Nat.le_refl _⟩ (qw_set (by first | exact zdp hd (by decide) | omega) hC (⟨by decide, rfl, rfl⟩ : qT n 20 8 81) a1 (by first | with_reducible exact ha1 | omega) 0 (by first | decide | omega) 0 (by first | decide | omega)) (fun vr M6 hr => ?_)
    obtain ⟨⟨hCM6, hFM6⟩, rfl⟩ := hr
    have hWM6 : qFr [21] M M6 := hW.tr hFM6 (by decide)
    show zG n (0, 0) d 149 (36, [.inr (.inr (some 8)), .inl a1, .inl x5], []) M6 _
    refine zG_blk (c' := (37, [.inr (.inr (some 8)), .inl a1, .inl x5], [.inl x5])) 1 hd0 hz (by rfl) ?_
    exact zG_ret hd0 hz rfl rfl ⟨⟨hCM6, hWM6⟩, _, rfl, by omega⟩
  · refine zG_blk (c' := (9, [.inr (.inr (some 8)), .inl a1, zN], [.inl (-2)])) 1 hd0 hz (by rfl) ?_
    exact zG_ret hd0 hz rfl rfl ⟨⟨hC, hW⟩, _, rfl, by omega⟩
theorem qm_97_67 {n d : Nat} {M : zM} (hd : 2 ≤ d) (hC : qCI M) (a1 : Int) (ha1 : (-2147483648) ≤ a1 ∧ a1 ≤ 2147483647) : qOkP n d 97 [.inr (.inr (some 67)), .inl a1] 2 M (qRi (fun x => (-2147483648) ≤ x ∧ x ≤ 2147483647)) := by
  have hz := zp_97
  have hd0 : 0 < d := by omega
  show zG n (0, 0) d 97 (0, [.inr (.inr (some 67)), .inl a1], []) M _
  have r1 := hC.rng 67 3 (by decide) (by decide)
  obtain ⟨x2, hx2⟩ : ∃ x : Int, x = w32 (1 + a1) := ⟨_, rfl⟩
  have hx2r : x2 = (1 + a1 + 2147483648) % 4294967296 - 2147483648 := hx2
  refine zG_blk (c' := (11, [.inr (.inr (some 67)), .inl a1], [.inl x2, .inl (M 67 3), .inr (.inr (some 20))])) 7 hd0 hz (by subst hx2; rfl) ?_
  refine zG_call hd0 hz zp_106 rfl rfl (Nat.le_of_ble_eq_true rfl) ⟨Nat.le_refl _, Nat.le_refl _⟩ (qw_get (by first | exact zdp hd (by decide) | omega) hC (⟨by decide, rfl, rfl⟩ : qT n 20 8 81) (M 67 3) (by omega) x2 (by omega)) (fun vr M3 hr => ?_)
  obtain ⟨hq, x4, rfl, hx4⟩ := hr
  replace hq := hq.symm; subst hq
  show zG n (0, 0) d 97 (14, [.inr (.inr (some 67)), .inl a1], [.inl x4]) M _
  exact zG_ret hd0 hz rfl rfl ⟨rfl, _, rfl, by omega⟩
theorem qm_98 {n d : Nat} {M : zM} (hd : 1 ≤ d) (hC : qCI M) (a0 : Int) (ha0 : (-2147483648) ≤ a0 ∧ a0 ≤ 2147483647) : qOkP n d 98 [.inl a0] 1 M (qRi (fun x => 0 ≤ x ∧ x ≤ 1)) := by
  have hz := zp_98
  have hd0 : 0 < d := by omega
  show zG n (0, 0) d 98 (0, [.inl a0], []) M _
  refine zG_blk (c' := (3, [.inl a0], [.inl 48, .inl a0])) 2 hd0 hz (by rfl) ?_
  have j17 : ∀ (v1 : Int) , 0 ≤ v1 ∧ v1 ≤ 1 → zG n (0, 0) d 98 (17, [.inl a0], [.inl v1]) M (fun v M' => M' = M ∧ qRi (fun x => 0 ≤ x ∧ x ≤ 1) v) := by
    intro v1 hv1
    exact zG_zret hd0 hz rfl (by omega) ⟨rfl, _, rfl, by omega⟩
  have j16 : zG n (0, 0) d 98 (16, [.inl a0], []) M (fun v M' => M' = M ∧ qRi (fun x => 0 ≤ x ∧ x ≤ 1) v) := by
    refine zG_blk (c' := (17, [.inl a0], [.inl 0])) 1 hd0 hz (by rfl) ?_
    exact j17 0 (by first | decide | omega)
  refine zG_icmp_lt hd0 hz rfl (fun hb2 => ?_) (fun hb2 => ?_)
  · exact j16
  · refine zG_blk (c' := (9, [.inl a0], [.inl 57, .inl a0])) 2 hd0 hz (by rfl) ?_
    refine zG_icmp_gt hd0 hz rfl (fun hb3 => ?_) (fun hb3 => ?_)
    · exact j16
    · refine zG_blk (c' := (17, [.inl a0], [.inl 1])) 2 hd0 hz (by rfl) ?_
      exact j17 1 (by first | decide | omega)
