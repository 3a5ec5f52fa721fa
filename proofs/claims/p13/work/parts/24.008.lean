theorem qm_140_8 {n d : Nat} {M : zM} (hd : 7 ≤ d) (hC : qCI M) (a1 : Int) (ha1 : (-2147483648) ≤ a1 ∧ a1 ≤ 2147483647) (a2 : Int) (ha2 : (-2147483648) ≤ a2 ∧ a2 ≤ 2147483647) (a3 : Int) (ha3 : (-2147483648) ≤ a3 ∧ a3 ≤ 2147483647) : qOkM n d 140 [.inr (.inr (some 8)), .inl a1, .inl a2, .inl a3] 4 qCI [62, 64, 65, 66] M (qRi (fun x => (-2147483648) ≤ x ∧ x ≤ 2147483647)) := by
  have hz := zp_140
  have hd0 : 0 < d := by omega
  have hW : qFr [62, 64, 65, 66] M M := qFr.rfl
  show zG n (0, 0) d 140 (0, [.inr (.inr (some 8)), .inl a1, .inl a2, .inl a3], []) M _
  refine zG_blk (c' := (6, [.inr (.inr (some 8)), .inl a1, .inl a2, .inl a3], [.inl a1, .inl 0, .inr (.inr (some 9))])) 4 hd0 hz (by rfl) ?_
  refine zG_call hd0 hz zp_19 rfl rfl (Nat.le_of_ble_eq_true rfl) ⟨Nat.le_refl _, Nat.le_refl _⟩ (qm_19_9 (by first | exact zdp hd (by decide) | omega) hC  0 (by first | decide | omega) a1 (by first | with_reducible exact ha1 | omega)) (fun vr M1 hr => ?_)
  obtain ⟨hq, x2, rfl, hx2⟩ := hr
  replace hq := hq.symm; subst hq
  show zG n (0, 0) d 140 (9, [.inr (.inr (some 8)), .inl a1, .inl a2, .inl a3], [.inl x2]) M _
  have j28 : zG n (0, 0) d 140 (28, [.inr (.inr (some 8)), .inl a1, .inl a2, .inl a3], []) M (fun v M' => qWf qCI [62, 64, 65, 66] M M' ∧ qRi (fun x => (-2147483648) ≤ x ∧ x ≤ 2147483647) v) := by
    refine zG_blk (c' := (30, [.inr (.inr (some 8)), .inl a1, .inl a2, .inl a3], [.inl (-2)])) 1 hd0 hz (by rfl) ?_
    exact zG_ret hd0 hz rfl rfl ⟨⟨hC, hW⟩, _, rfl, by omega⟩
  refine zG_if_eq hd0 hz rfl (fun hb3 => ?_) (fun hb3 => ?_)
  · exact j28
  · refine zG_blk (c' := (15, [.inr (.inr (some 8)), .inl a1, .inl a2, .inl a3], [.inl 4, .inl 0, .inl a2])) 3 hd0 hz (by rfl) ?_
    refine zG_call hd0 hz zp_169 rfl rfl (Nat.le_of_ble_eq_true rfl) ⟨Nat.le_refl _, Nat.le_refl _⟩ (qm_169 (by first | exact zdp hd (by decide) | omega) hC  a2 (by first | with_reducible exact ha2 | omega) 0 (by first | decide | omega) 4 (by first | decide | omega)) (fun vr M4 hr => ?_)
    obtain ⟨hq, x5, rfl, hx5⟩ := hr
    replace hq := hq.symm; subst hq
    show zG n (0, 0) d 140 (18, [.inr (.inr (some 8)), .inl a1, .inl a2, .inl a3], [.inl x5]) M _
    refine zG_if_eq hd0 hz rfl (fun hb6 => ?_) (fun hb6 => ?_)
    · exact j28
    · refine zG_blk (c' := (22, [.inr (.inr (some 8)), .inl a1, .inl a2, .inl a3], [.inl a3])) 1 hd0 hz (by rfl) ?_
      refine zG_call hd0 hz zp_170 rfl rfl (Nat.le_of_ble_eq_true rfl) ⟨Nat.le_refl _, Nat.le_refl _⟩ (qm_170 (by first | exact zdp hd (by decide) | omega) hC  a3 (by first | with_reducible exact ha3 | omega)) (fun vr M7 hr => ?_)
      obtain ⟨hq, x8, rfl, hx8⟩ := hr
      replace hq := hq.symm; subst hq
      show zG n (0, 0) d 140 (25, [.inr (.inr (some 8)), .inl a1, .inl a2, .inl a3], [.inl x8]) M _
      refine zG_if_ne hd0 hz rfl (fun hb9 => ?_) (fun hb9 => ?_)
      · refine zG_blk (c' := (37, [.inr (.inr (some 8)), .inl a1, .inl a2, .inl a3], [.inl (-1), .inl a3, .inr (.inr (some 60))])) 4 hd0 hz (by rfl) ?_
        refine zG_call hd0 hz zp_41 rfl rfl (Nat.le_of_ble_eq_true rfl) ⟨Nat.le_refl _, Nat.le_refl _⟩ (qm_41_60 (by first | exact zdp hd (by decide) | omega) hC  a3 (by first | with_reducible exact ha3 | omega) (-1) (by first | decide | omega)) (fun vr M10 hr => ?_)
        obtain ⟨⟨hCM10, hFM10⟩, rfl⟩ := hr
        have hWM10 : qFr [62, 64, 65, 66] M M10 := hW.tr hFM10 (by decide)
        show zG n (0, 0) d 140 (40, [.inr (.inr (some 8)), .inl a1, .inl a2, .inl a3], []) M10 _
        refine zG_blk (c' := (45, [.inr (.inr (some 8)), .inl a1, .inl a2, .inl a3], [.inl a1, .inr (.inr (some 60))])) 3 hd0 hz (by rfl) ?_
        refine zG_call hd0 hz zp_42 rfl rfl (Nat.le_of_ble_eq_true rfl) ⟨Nat.le_refl _, Nat.le_refl _⟩ (qm_42_60 (by first | exact zdp hd (by decide) | omega) hCM10  a1 (by first | with_reducible exact ha1 | omega)) (fun vr M12 hr => ?_)
        obtain ⟨hq, x13, rfl, hx13⟩ := hr
        replace hq := hq.symm; subst hq
        show zG n (0, 0) d 140 (48, [.inr (.inr (some 8)), .inl a1, .inl a2, .inl a3], [.inl x13]) M10 _
        have j64 : ∀ (v14 : Int) , (-2147483648) ≤ v14 ∧ v14 ≤ 2147483647 → zG n (0, 0) d 140 (64, [.inr (.inr (some 8)), .inl a1, .inl a2, .inl a3], [.inl v14]) M10 (fun v M' => qWf qCI [62, 64, 65, 66] M M' ∧ qRi (fun x => (-2147483648) ≤ x ∧ x ≤ 2147483647) v) := by
          intro v14 hv14
          exact zG_ret hd0 hz rfl rfl ⟨⟨hCM10, hWM10⟩, _, rfl, by omega⟩
        refine zG_if_eq hd0 hz rfl (fun hb15 => ?_) (fun hb15 => ?_)
        · refine zG_blk (c' := (64, [.inr (.inr (some 8)), .inl a1, .inl a2, .inl a3], [.inl (-1)])) 1 hd0 hz (by rfl) ?_
          exact j64 (-1) (by first | decide | omega)
        · refine zG_blk (c' := (57, [.inr (.inr (some 8)), .inl a1, .inl a2, .inl a3], [.inl a2, .inl a1, .inr (.inr (some 60))])) 4 hd0 hz (by rfl) ?_
          refine zG_call hd0 hz zp_47 rfl rfl (Nat.le_of_ble_eq_true rfl) ⟨Nat.le_refl _, Nat.le_refl _⟩ (qm_47_60 (by first | exact zdp hd (by decide) | omega) hCM10  a1 (by first | with_reducible exact ha1 | omega) a2 (by first | with_reducible exact ha2 | omega)) (fun vr M16 hr => ?_)
          obtain ⟨hq, x17, rfl, hx17⟩ := hr
          replace hq := hq.symm; subst hq
          show zG n (0, 0) d 140 (60, [.inr (.inr (some 8)), .inl a1, .inl a2, .inl a3], [.inl x17]) M10 _
          refine zG_blk (c' := (64, [.inr (.inr (some 8)), .inl a1, .inl a2, .inl a3], [.inl x17])) 1 hd0 hz (by rfl) ?_
          exact j64 x17 (by omega)
      · exact j28
theorem qm_44_60 {n d : Nat} {M : zM} (hd : 2 ≤ d) (hC : qCI M) (a1 : Int) (ha1 : (-2147483648) ≤ a1 ∧ a1 ≤ 2147483647) (a2 : Int) (ha2 : (-2147483648) ≤ a2 ∧ a2 ≤ 2147483647) : qOkP n d 44 [.inr (.inr (some 60)), .inl a1, .inl a2] 3 M (qRi (fun x => (-2147483648) ≤ x ∧ x ≤ 2147483647)) := by
  have hz := zp_44
  have hd0 : 0 < d := by omega
  show zG n (0, 0) d 44 (0, [.inr (.inr (some 60)), .inl a1, .inl a2], []) M _
  obtain ⟨x1, hx1⟩ : ∃ x : Int, x = w32 (a1 * 14) := ⟨_, rfl⟩
  have hx1r : qin x1 := by rw [hx1]; exact w32_in _
  obtain ⟨x2, hx2⟩ : ∃ x : Int, x = w32 (x1 + a2) := ⟨_, rfl⟩
  have hx2r : x2 = (x1 + a2 + 2147483648) % 4294967296 - 2147483648 := hx2
  refine zG_blk (c' := (11, [.inr (.inr (some 60)), .inl a1, .inl a2], [.inl 0, .inl x2, .inr (.inr (some 63))])) 8 hd0 hz (by subst hx2; subst hx1; rfl) ?_
  refine zG_call hd0 hz zp_106 rfl rfl (Nat.le_of_ble_eq_true rfl) ⟨Nat.le_refl _, Nat.le_refl _⟩ (qw_get (by first | exact zdp hd (by decide) | omega) hC (⟨by decide, rfl, rfl⟩ : qT n 63 280 4) x2 (by omega) 0 (by first | decide | omega)) (fun vr M3 hr => ?_)
  obtain ⟨hq, x4, rfl, hx4⟩ := hr
  replace hq := hq.symm; subst hq
  show zG n (0, 0) d 44 (14, [.inr (.inr (some 60)), .inl a1, .inl a2], [.inl x4]) M _
  exact zG_ret hd0 hz rfl rfl ⟨rfl, _, rfl, by omega⟩
theorem qm_45_60 {n d : Nat} {M : zM} (hd : 2 ≤ d) (hC : qCI M) (a1 : Int) (ha1 : (-2147483648) ≤ a1 ∧ a1 ≤ 2147483647) (a2 : Int) (ha2 : (-2147483648) ≤ a2 ∧ a2 ≤ 2147483647) : qOkP n d 45 [.inr (.inr (some 60)), .inl a1, .inl a2] 3 M (qRi (fun x => (-2147483648) ≤ x ∧ x ≤ 2147483647)) := by
  have hz := zp_45
  have hd0 : 0 < d := by omega
  show zG n (0, 0) d 45 (0, [.inr (.inr (some 60)), .inl a1, .inl a2], []) M _
  obtain ⟨x1, hx1⟩ : ∃ x : Int, x = w32 (a1 * 14) := ⟨_, rfl⟩
  have hx1r : qin x1 := by rw [hx1]; exact w32_in _
  obtain ⟨x2, hx2⟩ : ∃ x : Int, x = w32 (x1 + a2) := ⟨_, rfl⟩
  have hx2r : x2 = (x1 + a2 + 2147483648) % 4294967296 - 2147483648 := hx2
  refine zG_blk (c' := (11, [.inr (.inr (some 60)), .inl a1, .inl a2], [.inl 1, .inl x2, .inr (.inr (some 63))])) 8 hd0 hz (by subst hx2; subst hx1; rfl) ?_
  refine zG_call hd0 hz zp_106 rfl rfl (Nat.le_of_ble_eq_true rfl) ⟨Nat.le_refl _, Nat.le_refl _⟩ (qw_get (by first | exact zdp hd (by decide) | omega) hC (⟨by decide, rfl, rfl⟩ : qT n 63 280 4) x2 (by omega) 1 (by first | decide | omega)) (fun vr M3 hr => ?_)
  obtain ⟨hq, x4, rfl, hx4⟩ := hr
  replace hq := hq.symm; subst hq
  show zG n (0, 0) d 45 (14, [.inr (.inr (some 60)), .inl a1, .inl a2], [.inl x4]) M _
  exact zG_ret hd0 hz rfl rfl ⟨rfl, _, rfl, by omega⟩
theorem qm_46_60 {n d : Nat} {M : zM} (hd : 2 ≤ d) (hC : qCI M) (a1 : Int) (ha1 : (-2147483648) ≤ a1 ∧ a1 ≤ 2147483647) (a2 : Int) (ha2 : (-2147483648) ≤ a2 ∧ a2 ≤ 2147483647) : qOkP n d 46 [.inr (.inr (some 60)), .inl a1, .inl a2] 3 M (qRi (fun x => (-2147483648) ≤ x ∧ x ≤ 2147483647)) := by
  have hz := zp_46
  have hd0 : 0 < d := by omega
  show zG n (0, 0) d 46 (0, [.inr (.inr (some 60)), .inl a1, .inl a2], []) M _
  obtain ⟨x1, hx1⟩ : ∃ x : Int, x = w32 (a1 * 14) := ⟨_, rfl⟩
  have hx1r : qin x1 := by rw [hx1]; exact w32_in _
  obtain ⟨x2, hx2⟩ : ∃ x : Int, x = w32 (x1 + a2) := ⟨_, rfl⟩
  have hx2r : x2 = (x1 + a2 + 2147483648) % 4294967296 - 2147483648 := hx2
  refine zG_blk (c' := (11, [.inr (.inr (some 60)), .inl a1, .inl a2], [.inl 2, .inl x2, .inr (.inr (some 63))])) 8 hd0 hz (by subst hx2; subst hx1; rfl) ?_
  refine zG_call hd0 hz zp_106 rfl rfl (Nat.le_of_ble_eq_true rfl) ⟨Nat.le_refl _, Nat.le_refl _⟩ (qw_get (by first | exact zdp hd (by decide) | omega) hC (⟨by decide, rfl, rfl⟩ : qT n 63 280 4) x2 (by omega) 2 (by first | decide | omega)) (fun vr M3 hr => ?_)
  obtain ⟨hq, x4, rfl, hx4⟩ := hr
  replace hq := hq.symm; subst hq
  show zG n (0, 0) d 46 (14, [.inr (.inr (some 60)), .inl a1, .inl a2], [.inl x4]) M _
  exact zG_ret hd0 hz rfl rfl ⟨rfl, _, rfl, by omega⟩
theorem qm_141_8 {n d : Nat} {M : zM} (hd : 7 ≤ d) (hC : qCI M) (a1 : Int) (ha1 : (-2147483648) ≤ a1 ∧ a1 ≤ 2147483647) (a2 : Int) (ha2 : (-2147483648) ≤ a2 ∧ a2 ≤ 2147483647) (a3 : Int) (ha3 : (-2147483648) ≤ a3 ∧ a3 ≤ 2147483647) (a4 : Int) (ha4 : (-2147483648) ≤ a4 ∧ a4 ≤ 2147483647) : qOkM n d 141 [.inr (.inr (some 8)), .inl a1, .inl a2, .inl a3, .inl a4] 5 qCI [62, 64, 65, 66] M (qRi (fun x => (-2147483648) ≤ x ∧ x ≤ 2147483647)) := by
  have hz := zp_141
  have hd0 : 0 < d := by omega
  have hW : qFr [62, 64, 65, 66] M M := qFr.rfl
  show zG n (0, 0) d 141 (0, [.inr (.inr (some 8)), .inl a1, .inl a2, .inl a3, .inl a4], []) M _
  refine zG_blk (c' := (2, [.inr (.inr (some 8)), .inl a1, .inl a2, .inl a3, .inl a4], [.inl a1, .inr (.inr (some 8))])) 2 hd0 hz (by rfl) ?_
  refine zG_call hd0 hz zp_174 rfl rfl (Nat.le_of_ble_eq_true rfl) ⟨Nat.le_refl _, Nat.le_refl _⟩ (qm_174_8 (by first | exact zdp hd (by decide) | omega) hC  a1 (by first | with_reducible exact ha1 | omega)) (fun vr M1 hr => ?_)
  obtain ⟨hq, x2, rfl, hx2⟩ := hr
  replace hq := hq.symm; subst hq
  show zG n (0, 0) d 141 (5, [.inr (.inr (some 8)), .inl a1, .inl a2, .inl a3, .inl a4], [.inl x2]) M _
  have j33 : zG n (0, 0) d 141 (33, [.inr (.inr (some 8)), .inl a1, .inl a2, .inl a3, .inl a4], []) M (fun v M' => qWf qCI [62, 64, 65, 66] M M' ∧ qRi (fun x => (-2147483648) ≤ x ∧ x ≤ 2147483647) v) := by
    refine zG_blk (c' := (35, [.inr (.inr (some 8)), .inl a1, .inl a2, .inl a3, .inl a4], [.inl (-2)])) 1 hd0 hz (by rfl) ?_
    exact zG_ret hd0 hz rfl rfl ⟨⟨hC, hW⟩, _, rfl, by omega⟩
  refine zG_if_eq hd0 hz rfl (fun hb3 => ?_) (fun hb3 => ?_)
  · exact j33
  · refine zG_blk (c' := (10, [.inr (.inr (some 8)), .inl a1, .inl a2, .inl a3, .inl a4], [.inl a2, .inr (.inr (some 8))])) 2 hd0 hz (by rfl) ?_
    refine zG_call hd0 hz zp_175 rfl rfl (Nat.le_of_ble_eq_true rfl) ⟨Nat.le_refl _, Nat.le_refl _⟩ (qm_175_8 (by first | exact zdp hd (by decide) | omega) hC  a2 (by first | with_reducible exact ha2 | omega)) (fun vr M4 hr => ?_)
    obtain ⟨hq, x5, rfl, hx5⟩ := hr
    replace hq := hq.symm; subst hq
    show zG n (0, 0) d 141 (13, [.inr (.inr (some 8)), .inl a1, .inl a2, .inl a3, .inl a4], [.inl x5]) M _
    refine zG_if_eq hd0 hz rfl (fun hb6 => ?_) (fun hb6 => ?_)
    · exact j33
    · refine zG_blk (c' := (17, [.inr (.inr (some 8)), .inl a1, .inl a2, .inl a3, .inl a4], [.inl a3])) 1 hd0 hz (by rfl) ?_
      refine zG_call hd0 hz zp_170 rfl rfl (Nat.le_of_ble_eq_true rfl) ⟨Nat.le_refl _, Nat.le_refl _⟩ (qm_170 (by first | exact zdp hd (by decide) | omega) hC  a3 (by first | with_reducible exact ha3 | omega)) (fun vr M7 hr => ?_)
      obtain ⟨hq, x8, rfl, hx8⟩ := hr
      replace hq := hq.symm; subst hq
      show zG n (0, 0) d 141 (20, [.inr (.inr (some 8)), .inl a1, .inl a2, .inl a3, .inl a4], [.inl x8]) M _
      refine zG_if_eq hd0 hz rfl (fun hb9 => ?_) (fun hb9 => ?_)
      · exact j33
      · refine zG_blk (c' := (27, [.inr (.inr (some 8)), .inl a1, .inl a2, .inl a3, .inl a4], [.inl 2, .inl 0, .inl a4])) 3 hd0 hz (by rfl) ?_
        refine zG_call hd0 hz zp_169 rfl rfl (Nat.le_of_ble_eq_true rfl) ⟨Nat.le_refl _, Nat.le_refl _⟩ (qm_169 (by first | exact zdp hd (by decide) | omega) hC  a4 (by first | with_reducible exact ha4 | omega) 0 (by first | decide | omega) 2 (by first | decide | omega)) (fun vr M10 hr => ?_)
        obtain ⟨hq, x11, rfl, hx11⟩ := hr
        replace hq := hq.symm; subst hq
        show zG n (0, 0) d 141 (30, [.inr (.inr (some 8)), .inl a1, .inl a2, .inl a3, .inl a4], [.inl x11]) M _
        refine zG_if_ne hd0 hz rfl (fun hb12 => ?_) (fun hb12 => ?_)
        · refine zG_blk (c' := (42, [.inr (.inr (some 8)), .inl a1, .inl a2, .inl a3, .inl a4], [.inl (-1), .inl a3, .inr (.inr (some 60))])) 4 hd0 hz (by rfl) ?_
          refine zG_call hd0 hz zp_41 rfl rfl (Nat.le_of_ble_eq_true rfl) ⟨Nat.le_refl _, Nat.le_refl _⟩ (qm_41_60 (by first | exact zdp hd (by decide) | omega) hC  a3 (by first | with_reducible exact ha3 | omega) (-1) (by first | decide | omega)) (fun vr M13 hr => ?_)
          obtain ⟨⟨hCM13, hFM13⟩, rfl⟩ := hr
          have hWM13 : qFr [62, 64, 65, 66] M M13 := hW.tr hFM13 (by decide)
          show zG n (0, 0) d 141 (45, [.inr (.inr (some 8)), .inl a1, .inl a2, .inl a3, .inl a4], []) M13 _
          refine zG_blk (c' := (47, [.inr (.inr (some 8)), .inl a1, .inl a2, .inl a3, .inl a4], [.inl a4])) 1 hd0 hz (by rfl) ?_
          refine zG_if_ne hd0 hz rfl (fun hb15 => ?_) (fun hb15 => ?_)
          · refine zG_blk (c' := (63, [.inr (.inr (some 8)), .inl a1, .inl a2, .inl a3, .inl a4], [.inl 1, .inl a4])) 2 hd0 hz (by rfl) ?_
            have j87 : ∀ (v16 : Int) , (-2147483648) ≤ v16 ∧ v16 ≤ 2147483647 → zG n (0, 0) d 141 (87, [.inr (.inr (some 8)), .inl a1, .inl a2, .inl a3, .inl a4], [.inl v16]) M13 (fun v M' => qWf qCI [62, 64, 65, 66] M M' ∧ qRi (fun x => (-2147483648) ≤ x ∧ x ≤ 2147483647) v) := by
              intro v16 hv16
              exact zG_ret hd0 hz rfl rfl ⟨⟨hCM13, hWM13⟩, _, rfl, by omega⟩
            refine zG_icmp_ne hd0 hz rfl (fun hb17 => ?_) (fun hb17 => ?_)
            · refine zG_blk (c' := (84, [.inr (.inr (some 8)), .inl a1, .inl a2, .inl a3, .inl a4], [.inl a2, .inl a1, .inr (.inr (some 60))])) 4 hd0 hz (by rfl) ?_
              refine zG_call hd0 hz zp_46 rfl rfl (Nat.le_of_ble_eq_true rfl) ⟨Nat.le_refl _, Nat.le_refl _⟩ (qm_46_60 (by first | exact zdp hd (by decide) | omega) hCM13  a1 (by first | with_reducible exact ha1 | omega) a2 (by first | with_reducible exact ha2 | omega)) (fun vr M18 hr => ?_)
              obtain ⟨hq, x19, rfl, hx19⟩ := hr
              replace hq := hq.symm; subst hq
              show zG n (0, 0) d 141 (87, [.inr (.inr (some 8)), .inl a1, .inl a2, .inl a3, .inl a4], [.inl x19]) M13 _
              exact j87 x19 (by omega)
            · refine zG_blk (c' := (72, [.inr (.inr (some 8)), .inl a1, .inl a2, .inl a3, .inl a4], [.inl a2, .inl a1, .inr (.inr (some 60))])) 4 hd0 hz (by rfl) ?_
              refine zG_call hd0 hz zp_45 rfl rfl (Nat.le_of_ble_eq_true rfl) ⟨Nat.le_refl _, Nat.le_refl _⟩ (qm_45_60 (by first | exact zdp hd (by decide) | omega) hCM13  a1 (by first | with_reducible exact ha1 | omega) a2 (by first | with_reducible exact ha2 | omega)) (fun vr M20 hr => ?_)
              obtain ⟨hq, x21, rfl, hx21⟩ := hr
              replace hq := hq.symm; subst hq
              show zG n (0, 0) d 141 (75, [.inr (.inr (some 8)), .inl a1, .inl a2, .inl a3, .inl a4], [.inl x21]) M13 _
              refine zG_blk (c' := (87, [.inr (.inr (some 8)), .inl a1, .inl a2, .inl a3, .inl a4], [.inl x21])) 1 hd0 hz (by rfl) ?_
              exact j87 x21 (by omega)
          · refine zG_blk (c' := (56, [.inr (.inr (some 8)), .inl a1, .inl a2, .inl a3, .inl a4], [.inl a2, .inl a1, .inr (.inr (some 60))])) 4 hd0 hz (by rfl) ?_
            refine zG_call hd0 hz zp_44 rfl rfl (Nat.le_of_ble_eq_true rfl) ⟨Nat.le_refl _, Nat.le_refl _⟩ (qm_44_60 (by first | exact zdp hd (by decide) | omega) hCM13  a1 (by first | with_reducible exact ha1 | omega) a2 (by first | with_reducible exact ha2 | omega)) (fun vr M22 hr => ?_)
            obtain ⟨hq, x23, rfl, hx23⟩ := hr
            replace hq := hq.symm; subst hq
            show zG n (0, 0) d 141 (59, [.inr (.inr (some 8)), .inl a1, .inl a2, .inl a3, .inl a4], [.inl x23]) M13 _
            exact zG_ret hd0 hz rfl rfl ⟨⟨hCM13, hWM13⟩, _, rfl, by omega⟩
        · exact j33
