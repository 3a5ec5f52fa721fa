theorem qm_33_76 {n d : Nat} {M : zM} (hd : 5 ≤ d) (hC : qCI M) (a1 : Int) (ha1 : (-2147483648) ≤ a1 ∧ a1 ≤ 2147483647) (a2 : Int) (ha2 : (-2147483648) ≤ a2 ∧ a2 ≤ 2147483647) : qOkM n d 33 [.inr (.inr (some 76)), .inl a1, .inl a2] 3 qCI [72, 73, 74, 75] M (qRi (fun x => (-2147483648) ≤ x ∧ x ≤ 2147483647)) := by
  have hz := zp_33
  have hd0 : 0 < d := by omega
  have hW : qFr [72, 73, 74, 75] M M := qFr.rfl
  show zG n (0, 0) d 33 (0, [.inr (.inr (some 76)), .inl a1, .inl a2], []) M _
  refine zG_blk (c' := (5, [.inr (.inr (some 76)), .inl a1, .inl a2], [.inl a2, .inl a1, .inr (.inr (some 76)), .inl a1, .inr (.inr (some 76))])) 5 hd0 hz (by rfl) ?_
  refine zG_call hd0 hz zp_32 rfl rfl (Nat.le_of_ble_eq_true rfl) ⟨Nat.le_refl _, Nat.le_refl _⟩ (qm_32_76 (by first | exact zdp hd (by decide) | omega) hC  a1 (by first | with_reducible exact ha1 | omega) a2 (by first | with_reducible exact ha2 | omega)) (fun vr M1 hr => ?_)
  obtain ⟨⟨hCM1, hFM1⟩, x2, rfl, hx2⟩ := hr
  have hWM1 : qFr [72, 73, 74, 75] M M1 := hW.tr hFM1 (by decide)
  show zG n (0, 0) d 33 (8, [.inr (.inr (some 76)), .inl a1, .inl a2], [.inl x2, .inl a1, .inr (.inr (some 76))]) M1 _
  refine zG_call hd0 hz zp_39 rfl rfl (Nat.le_of_ble_eq_true rfl) ⟨Nat.le_refl _, Nat.le_refl _⟩ (qm_39_76 (by first | exact zdp hd (by decide) | omega) hCM1  a1 (by first | with_reducible exact ha1 | omega) x2 (by omega)) (fun vr M3 hr => ?_)
  obtain ⟨⟨hCM3, hFM3⟩, rfl⟩ := hr
  have hWM3 : qFr [72, 73, 74, 75] M M3 := hWM1.tr hFM3 (by decide)
  show zG n (0, 0) d 33 (11, [.inr (.inr (some 76)), .inl a1, .inl a2], []) M3 _
  refine zG_blk (c' := (15, [.inr (.inr (some 76)), .inl a1, .inl a2], [.inl a2, .inl a1, .inr (.inr (some 76)), .inr (.inr (some 76))])) 4 hd0 hz (by rfl) ?_
  refine zG_call hd0 hz zp_29 rfl rfl (Nat.le_of_ble_eq_true rfl) ⟨Nat.le_refl _, Nat.le_refl _⟩ (qm_29_76 (by first | exact zdp hd (by decide) | omega) hCM3  a1 (by first | with_reducible exact ha1 | omega) a2 (by first | with_reducible exact ha2 | omega)) (fun vr M5 hr => ?_)
  obtain ⟨hq, x6, rfl, hx6⟩ := hr
  replace hq := hq.symm; subst hq
  show zG n (0, 0) d 33 (18, [.inr (.inr (some 76)), .inl a1, .inl a2], [.inl x6, .inr (.inr (some 76))]) M3 _
  refine zG_blk (c' := (19, [.inr (.inr (some 76)), .inl a1, .inl a2], [.inl 0, .inl x6, .inr (.inr (some 76))])) 1 hd0 hz (by rfl) ?_
  refine zG_call hd0 hz zp_34 rfl rfl (Nat.le_of_ble_eq_true rfl) ⟨Nat.le_refl _, Nat.le_refl _⟩ (qm_34_76 (by first | exact zdp hd (by decide) | omega) hCM3  x6 (by omega) 0 (by first | decide | omega)) (fun vr M7 hr => ?_)
  obtain ⟨⟨hCM7, hFM7⟩, x8, rfl, hx8⟩ := hr
  have hWM7 : qFr [72, 73, 74, 75] M M7 := hWM3.tr hFM7 (by decide)
  show zG n (0, 0) d 33 (22, [.inr (.inr (some 76)), .inl a1, .inl a2], [.inl x8]) M7 _
  exact zG_ret hd0 hz rfl rfl ⟨⟨hCM7, hWM7⟩, _, rfl, by omega⟩
theorem qm_143_8 {n d : Nat} {M : zM} (hd : 7 ≤ d) (hC : qCI M) (a1 : Int) (ha1 : (-2147483648) ≤ a1 ∧ a1 ≤ 2147483647) (a2 : Int) (ha2 : (-2147483648) ≤ a2 ∧ a2 ≤ 2147483647) (a3 : Int) (ha3 : (-2147483648) ≤ a3 ∧ a3 ≤ 2147483647) : qOkM n d 143 [.inr (.inr (some 8)), .inl a1, .inl a2, .inl a3] 4 qCI [62, 64, 65, 66, 72, 73, 74, 75] M (qRi (fun x => (-2147483648) ≤ x ∧ x ≤ 2147483647)) := by
  have hz := zp_143
  have hd0 : 0 < d := by omega
  have hW : qFr [62, 64, 65, 66, 72, 73, 74, 75] M M := qFr.rfl
  show zG n (0, 0) d 143 (0, [.inr (.inr (some 8)), .inl a1, .inl a2, .inl a3], []) M _
  refine zG_blk (c' := (2, [.inr (.inr (some 8)), .inl a1, .inl a2, .inl a3], [.inl a1, .inr (.inr (some 8))])) 2 hd0 hz (by rfl) ?_
  refine zG_call hd0 hz zp_174 rfl rfl (Nat.le_of_ble_eq_true rfl) ⟨Nat.le_refl _, Nat.le_refl _⟩ (qm_174_8 (by first | exact zdp hd (by decide) | omega) hC  a1 (by first | with_reducible exact ha1 | omega)) (fun vr M1 hr => ?_)
  obtain ⟨hq, x2, rfl, hx2⟩ := hr
  replace hq := hq.symm; subst hq
  show zG n (0, 0) d 143 (5, [.inr (.inr (some 8)), .inl a1, .inl a2, .inl a3], [.inl x2]) M _
  have j22 : zG n (0, 0) d 143 (22, [.inr (.inr (some 8)), .inl a1, .inl a2, .inl a3], []) M (fun v M' => qWf qCI [62, 64, 65, 66, 72, 73, 74, 75] M M' ∧ qRi (fun x => (-2147483648) ≤ x ∧ x ≤ 2147483647) v) := by
    refine zG_blk (c' := (24, [.inr (.inr (some 8)), .inl a1, .inl a2, .inl a3], [.inl (-2)])) 1 hd0 hz (by rfl) ?_
    exact zG_ret hd0 hz rfl rfl ⟨⟨hC, hW⟩, _, rfl, by omega⟩
  refine zG_if_eq hd0 hz rfl (fun hb3 => ?_) (fun hb3 => ?_)
  · exact j22
  · refine zG_blk (c' := (9, [.inr (.inr (some 8)), .inl a1, .inl a2, .inl a3], [.inl a2])) 1 hd0 hz (by rfl) ?_
    refine zG_call hd0 hz zp_170 rfl rfl (Nat.le_of_ble_eq_true rfl) ⟨Nat.le_refl _, Nat.le_refl _⟩ (qm_170 (by first | exact zdp hd (by decide) | omega) hC  a2 (by first | with_reducible exact ha2 | omega)) (fun vr M4 hr => ?_)
    obtain ⟨hq, x5, rfl, hx5⟩ := hr
    replace hq := hq.symm; subst hq
    show zG n (0, 0) d 143 (12, [.inr (.inr (some 8)), .inl a1, .inl a2, .inl a3], [.inl x5]) M _
    refine zG_if_eq hd0 hz rfl (fun hb6 => ?_) (fun hb6 => ?_)
    · exact j22
    · refine zG_blk (c' := (16, [.inr (.inr (some 8)), .inl a1, .inl a2, .inl a3], [.inl a3])) 1 hd0 hz (by rfl) ?_
      refine zG_call hd0 hz zp_170 rfl rfl (Nat.le_of_ble_eq_true rfl) ⟨Nat.le_refl _, Nat.le_refl _⟩ (qm_170 (by first | exact zdp hd (by decide) | omega) hC  a3 (by first | with_reducible exact ha3 | omega)) (fun vr M7 hr => ?_)
      obtain ⟨hq, x8, rfl, hx8⟩ := hr
      replace hq := hq.symm; subst hq
      show zG n (0, 0) d 143 (19, [.inr (.inr (some 8)), .inl a1, .inl a2, .inl a3], [.inl x8]) M _
      refine zG_if_ne hd0 hz rfl (fun hb9 => ?_) (fun hb9 => ?_)
      · refine zG_blk (c' := (31, [.inr (.inr (some 8)), .inl a1, .inl a2, .inl a3], [.inl (-1), .inl a3, .inr (.inr (some 60))])) 4 hd0 hz (by rfl) ?_
        refine zG_call hd0 hz zp_41 rfl rfl (Nat.le_of_ble_eq_true rfl) ⟨Nat.le_refl _, Nat.le_refl _⟩ (qm_41_60 (by first | exact zdp hd (by decide) | omega) hC  a3 (by first | with_reducible exact ha3 | omega) (-1) (by first | decide | omega)) (fun vr M10 hr => ?_)
        obtain ⟨⟨hCM10, hFM10⟩, rfl⟩ := hr
        have hWM10 : qFr [62, 64, 65, 66, 72, 73, 74, 75] M M10 := hW.tr hFM10 (by decide)
        show zG n (0, 0) d 143 (34, [.inr (.inr (some 8)), .inl a1, .inl a2, .inl a3], []) M10 _
        refine zG_blk (c' := (40, [.inr (.inr (some 8)), .inl a1, .inl a2, .inl a3], [.inl a2, .inl a1, .inr (.inr (some 76))])) 4 hd0 hz (by rfl) ?_
        refine zG_call hd0 hz zp_33 rfl rfl (Nat.le_of_ble_eq_true rfl) ⟨Nat.le_refl _, Nat.le_refl _⟩ (qm_33_76 (by first | exact zdp hd (by decide) | omega) hCM10  a1 (by first | with_reducible exact ha1 | omega) a2 (by first | with_reducible exact ha2 | omega)) (fun vr M12 hr => ?_)
        obtain ⟨⟨hCM12, hFM12⟩, x13, rfl, hx13⟩ := hr
        have hWM12 : qFr [62, 64, 65, 66, 72, 73, 74, 75] M M12 := hWM10.tr hFM12 (by decide)
        show zG n (0, 0) d 143 (43, [.inr (.inr (some 8)), .inl a1, .inl a2, .inl a3], [.inl x13]) M12 _
        exact zG_ret hd0 hz rfl rfl ⟨⟨hCM12, hWM12⟩, _, rfl, by omega⟩
      · exact j22
theorem qm_144_8 {n d : Nat} {M : zM} (hd : 7 ≤ d) (hC : qCI M) (a1 : Int) (ha1 : (-2147483648) ≤ a1 ∧ a1 ≤ 2147483647) (a2 : Int) (ha2 : (-2147483648) ≤ a2 ∧ a2 ≤ 2147483647) (a3 : Int) (ha3 : (-2147483648) ≤ a3 ∧ a3 ≤ 2147483647) (a4 : Int) (ha4 : (-2147483648) ≤ a4 ∧ a4 ≤ 2147483647) : qOkM n d 144 [.inr (.inr (some 8)), .inl a1, .inl a2, .inl a3, .inl a4] 5 qCI [62, 64, 65, 66, 72, 73, 74, 75] M qRl := by
  have hz := zp_144
  have hd0 : 0 < d := by omega
  have hW : qFr [62, 64, 65, 66, 72, 73, 74, 75] M M := qFr.rfl
  show zG n (0, 0) d 144 (0, [.inr (.inr (some 8)), .inl a1, .inl a2, .inl a3, .inl a4], []) M _
  refine zG_blk (c' := (2, [.inr (.inr (some 8)), .inl a1, .inl a2, .inl a3, .inl a4], [.inl a1, .inr (.inr (some 8))])) 2 hd0 hz (by rfl) ?_
  refine zG_call hd0 hz zp_174 rfl rfl (Nat.le_of_ble_eq_true rfl) ⟨Nat.le_refl _, Nat.le_refl _⟩ (qm_174_8 (by first | exact zdp hd (by decide) | omega) hC  a1 (by first | with_reducible exact ha1 | omega)) (fun vr M1 hr => ?_)
  obtain ⟨hq, x2, rfl, hx2⟩ := hr
  replace hq := hq.symm; subst hq
  show zG n (0, 0) d 144 (5, [.inr (.inr (some 8)), .inl a1, .inl a2, .inl a3, .inl a4], [.inl x2]) M _
  have j33 : zG n (0, 0) d 144 (33, [.inr (.inr (some 8)), .inl a1, .inl a2, .inl a3, .inl a4], []) M (fun v M' => qWf qCI [62, 64, 65, 66, 72, 73, 74, 75] M M' ∧ qRl v) := by
    refine zG_blk (c' := (36, [.inr (.inr (some 8)), .inl a1, .inl a2, .inl a3, .inl a4], [.inr (.inl ((-2)))])) 1 hd0 hz (by rfl) ?_
    exact zG_ret hd0 hz rfl rfl ⟨⟨hC, hW⟩, _, rfl⟩
  refine zG_if_eq hd0 hz rfl (fun hb3 => ?_) (fun hb3 => ?_)
  · exact j33
  · refine zG_blk (c' := (9, [.inr (.inr (some 8)), .inl a1, .inl a2, .inl a3, .inl a4], [.inl a2])) 1 hd0 hz (by rfl) ?_
    refine zG_call hd0 hz zp_170 rfl rfl (Nat.le_of_ble_eq_true rfl) ⟨Nat.le_refl _, Nat.le_refl _⟩ (qm_170 (by first | exact zdp hd (by decide) | omega) hC  a2 (by first | with_reducible exact ha2 | omega)) (fun vr M4 hr => ?_)
    obtain ⟨hq, x5, rfl, hx5⟩ := hr
    replace hq := hq.symm; subst hq
    show zG n (0, 0) d 144 (12, [.inr (.inr (some 8)), .inl a1, .inl a2, .inl a3, .inl a4], [.inl x5]) M _
    refine zG_if_eq hd0 hz rfl (fun hb6 => ?_) (fun hb6 => ?_)
    · exact j33
    · refine zG_blk (c' := (16, [.inr (.inr (some 8)), .inl a1, .inl a2, .inl a3, .inl a4], [.inl a3])) 1 hd0 hz (by rfl) ?_
      refine zG_call hd0 hz zp_170 rfl rfl (Nat.le_of_ble_eq_true rfl) ⟨Nat.le_refl _, Nat.le_refl _⟩ (qm_170 (by first | exact zdp hd (by decide) | omega) hC  a3 (by first | with_reducible exact ha3 | omega)) (fun vr M7 hr => ?_)
      obtain ⟨hq, x8, rfl, hx8⟩ := hr
      replace hq := hq.symm; subst hq
      show zG n (0, 0) d 144 (19, [.inr (.inr (some 8)), .inl a1, .inl a2, .inl a3, .inl a4], [.inl x8]) M _
      refine zG_if_eq hd0 hz rfl (fun hb9 => ?_) (fun hb9 => ?_)
      · exact j33
      · refine zG_blk (c' := (27, [.inr (.inr (some 8)), .inl a1, .inl a2, .inl a3, .inl a4], [.inl 15, .inl 0, .inl a4])) 3 hd0 hz (by rfl) ?_
        refine zG_call hd0 hz zp_169 rfl rfl (Nat.le_of_ble_eq_true rfl) ⟨Nat.le_refl _, Nat.le_refl _⟩ (qm_169 (by first | exact zdp hd (by decide) | omega) hC  a4 (by first | with_reducible exact ha4 | omega) 0 (by first | decide | omega) 15 (by first | decide | omega)) (fun vr M10 hr => ?_)
        obtain ⟨hq, x11, rfl, hx11⟩ := hr
        replace hq := hq.symm; subst hq
        show zG n (0, 0) d 144 (30, [.inr (.inr (some 8)), .inl a1, .inl a2, .inl a3, .inl a4], [.inl x11]) M _
        refine zG_if_ne hd0 hz rfl (fun hb12 => ?_) (fun hb12 => ?_)
        · refine zG_blk (c' := (43, [.inr (.inr (some 8)), .inl a1, .inl a2, .inl a3, .inl a4], [.inl (-1), .inl a3, .inr (.inr (some 60))])) 4 hd0 hz (by rfl) ?_
          refine zG_call hd0 hz zp_41 rfl rfl (Nat.le_of_ble_eq_true rfl) ⟨Nat.le_refl _, Nat.le_refl _⟩ (qm_41_60 (by first | exact zdp hd (by decide) | omega) hC  a3 (by first | with_reducible exact ha3 | omega) (-1) (by first | decide | omega)) (fun vr M13 hr => ?_)
          obtain ⟨⟨hCM13, hFM13⟩, rfl⟩ := hr
          have hWM13 : qFr [62, 64, 65, 66, 72, 73, 74, 75] M M13 := hW.tr hFM13 (by decide)
          show zG n (0, 0) d 144 (46, [.inr (.inr (some 8)), .inl a1, .inl a2, .inl a3, .inl a4], []) M13 _
          refine zG_blk (c' := (57, [.inr (.inr (some 8)), .inl a1, .inl a2, .inl a3, .inl a4], [.inl a2, .inl a1, .inr (.inr (some 76)), .inl a1, .inr (.inr (some 76))])) 7 hd0 hz (by rfl) ?_
          refine zG_call hd0 hz zp_32 rfl rfl (Nat.le_of_ble_eq_true rfl) ⟨Nat.le_refl _, Nat.le_refl _⟩ (qm_32_76 (by first | exact zdp hd (by decide) | omega) hCM13  a1 (by first | with_reducible exact ha1 | omega) a2 (by first | with_reducible exact ha2 | omega)) (fun vr M15 hr => ?_)
          obtain ⟨⟨hCM15, hFM15⟩, x16, rfl, hx16⟩ := hr
          have hWM15 : qFr [62, 64, 65, 66, 72, 73, 74, 75] M M15 := hWM13.tr hFM15 (by decide)
          show zG n (0, 0) d 144 (60, [.inr (.inr (some 8)), .inl a1, .inl a2, .inl a3, .inl a4], [.inl x16, .inl a1, .inr (.inr (some 76))]) M15 _
          refine zG_call hd0 hz zp_39 rfl rfl (Nat.le_of_ble_eq_true rfl) ⟨Nat.le_refl _, Nat.le_refl _⟩ (qm_39_76 (by first | exact zdp hd (by decide) | omega) hCM15  a1 (by first | with_reducible exact ha1 | omega) x16 (by omega)) (fun vr M17 hr => ?_)
          obtain ⟨⟨hCM17, hFM17⟩, rfl⟩ := hr
          have hWM17 : qFr [62, 64, 65, 66, 72, 73, 74, 75] M M17 := hWM15.tr hFM17 (by decide)
          show zG n (0, 0) d 144 (63, [.inr (.inr (some 8)), .inl a1, .inl a2, .inl a3, .inl a4], []) M17 _
          refine zG_blk (c' := (65, [.inr (.inr (some 8)), .inl a1, .inl a2, .inl a3, .inl a4], [.inl a4])) 1 hd0 hz (by rfl) ?_
          refine zG_if_ne hd0 hz rfl (fun hb19 => ?_) (fun hb19 => ?_)
          · refine zG_blk (c' := (82, [.inr (.inr (some 8)), .inl a1, .inl a2, .inl a3, .inl a4], [.inl 15, .inl a4])) 2 hd0 hz (by rfl) ?_
            have j107 : ∀ (v20 : Int) , zG n (0, 0) d 144 (107, [.inr (.inr (some 8)), .inl a1, .inl a2, .inl a3, .inl a4], [.inr (.inl (v20))]) M17 (fun v M' => qWf qCI [62, 64, 65, 66, 72, 73, 74, 75] M M' ∧ qRl v) := by
              intro v20
              exact zG_ret hd0 hz rfl rfl ⟨⟨hCM17, hWM17⟩, _, rfl⟩
            refine zG_icmp_ne hd0 hz rfl (fun hb21 => ?_) (fun hb21 => ?_)
            · refine zG_blk (c' := (104, [.inr (.inr (some 8)), .inl a1, .inl a2, .inl a3, .inl a4], [.inr (.inl (a4)), .inr (.inr (some 72))])) 4 hd0 hz (by rfl) ?_
              refine zG_call hd0 hz zp_60 rfl rfl (Nat.le_of_ble_eq_true rfl) ⟨Nat.le_refl _, Nat.le_refl _⟩ (qm_60_72 (by first | exact zdp hd (by decide) | omega) hCM17  a4) (fun vr M22 hr => ?_)
              obtain ⟨hq, x23, rfl⟩ := hr
              replace hq := hq.symm; subst hq
              show zG n (0, 0) d 144 (107, [.inr (.inr (some 8)), .inl a1, .inl a2, .inl a3, .inl a4], [.inr (.inl (x23))]) M17 _
              exact j107 x23
            · refine zG_blk (c' := (91, [.inr (.inr (some 8)), .inl a1, .inl a2, .inl a3, .inl a4], [.inl 12, .inr (.inr (some 72))])) 3 hd0 hz (by rfl) ?_
              refine zG_call hd0 hz zp_58 rfl rfl (Nat.le_of_ble_eq_true rfl) ⟨Nat.le_refl _, Nat.le_refl _⟩ (qm_58_72 (by first | exact zdp hd (by decide) | omega) hCM17  12 (by first | decide | omega)) (fun vr M24 hr => ?_)
              obtain ⟨hq, x25, rfl⟩ := hr
              replace hq := hq.symm; subst hq
              show zG n (0, 0) d 144 (94, [.inr (.inr (some 8)), .inl a1, .inl a2, .inl a3, .inl a4], [.inr (.inl (x25))]) M17 _
              refine zG_blk (c' := (107, [.inr (.inr (some 8)), .inl a1, .inl a2, .inl a3, .inl a4], [.inr (.inl (x25))])) 1 hd0 hz (by rfl) ?_
              exact j107 x25
          · refine zG_blk (c' := (74, [.inr (.inr (some 8)), .inl a1, .inl a2, .inl a3, .inl a4], [.inl 13, .inr (.inr (some 72))])) 3 hd0 hz (by rfl) ?_
            refine zG_call hd0 hz zp_58 rfl rfl (Nat.le_of_ble_eq_true rfl) ⟨Nat.le_refl _, Nat.le_refl _⟩ (qm_58_72 (by first | exact zdp hd (by decide) | omega) hCM17  13 (by first | decide | omega)) (fun vr M26 hr => ?_)
            obtain ⟨hq, x27, rfl⟩ := hr
            replace hq := hq.symm; subst hq
            show zG n (0, 0) d 144 (77, [.inr (.inr (some 8)), .inl a1, .inl a2, .inl a3, .inl a4], [.inr (.inl (x27))]) M17 _
            exact zG_ret hd0 hz rfl rfl ⟨⟨hCM17, hWM17⟩, _, rfl⟩
        · exact j33
theorem qm_61_72 {n d : Nat} {M : zM} (hd : 1 ≤ d) (hC : qCI M)  : qOkP n d 61 [.inr (.inr (some 72))] 1 M (qRi (fun x => 0 ≤ x ∧ x ≤ 1)) := by
  have hz := zp_61
  have hd0 : 0 < d := by omega
  show zG n (0, 0) d 61 (0, [.inr (.inr (some 72))], []) M _
  have r1 := hC.um
  refine zG_blk (c' := (4, [.inr (.inr (some 72))], [.inl (M 72 5)])) 2 hd0 hz (by rfl) ?_
  exact zG_zret hd0 hz rfl (by omega) ⟨rfl, _, rfl, by omega⟩
theorem qm_35_76 {n d : Nat} {M : zM} (hd : 6 ≤ d) (hC : qCI M) (a1 : Int) (ha1 : (-2147483648) ≤ a1 ∧ a1 ≤ 2147483647) (a2 : Int) (ha2 : (-2147483648) ≤ a2 ∧ a2 ≤ 2147483647) : qOkM n d 35 [.inr (.inr (some 76)), .inl a1, .inl a2] 6 qCI [72, 73, 74, 75] M (qRi (fun x => (-1) ≤ x ∧ x ≤ 2000)) := by
  have hz := zp_35
  have hd0 : 0 < d := by omega
  have hW : qFr [72, 73, 74, 75] M M := qFr.rfl
  show zG n (0, 0) d 35 (0, [.inr (.inr (some 76)), .inl a1, .inl a2, zN, zN, zN], []) M _
  refine zG_blk (c' := (3, [.inr (.inr (some 76)), .inl a1, .inl a2, zN, zN, zN], [.inl a2, .inl a1, .inr (.inr (some 76))])) 3 hd0 hz (by rfl) ?_
  refine zG_call hd0 hz zp_33 rfl rfl (Nat.le_of_ble_eq_true rfl) ⟨Nat.le_refl _, Nat.le_refl _⟩ (qm_33_76 (by first | exact zdp hd (by decide) | omega) hC  a1 (by first | with_reducible exact ha1 | omega) a2 (by first | with_reducible exact ha2 | omega)) (fun vr M1 hr => ?_)
  obtain ⟨⟨hCM1, hFM1⟩, x2, rfl, hx2⟩ := hr
  have hWM1 : qFr [72, 73, 74, 75] M M1 := hW.tr hFM1 (by decide)
  show zG n (0, 0) d 35 (6, [.inr (.inr (some 76)), .inl a1, .inl a2, zN, zN, zN], [.inl x2]) M1 _
  refine zG_blk (c' := (10, [.inr (.inr (some 76)), .inl a1, .inl a2, .inl x2, zN, zN], [.inl a2, .inl a1, .inr (.inr (some 76))])) 4 hd0 hz (by rfl) ?_
  refine zG_call hd0 hz zp_29 rfl rfl (Nat.le_of_ble_eq_true rfl) ⟨Nat.le_refl _, Nat.le_refl _⟩ (qm_29_76 (by first | exact zdp hd (by decide) | omega) hCM1  a1 (by first | with_reducible exact ha1 | omega) a2 (by first | with_reducible exact ha2 | omega)) (fun vr M3 hr => ?_)
  obtain ⟨hq, x4, rfl, hx4⟩ := hr
  replace hq := hq.symm; subst hq
  show zG n (0, 0) d 35 (13, [.inr (.inr (some 76)), .inl a1, .inl a2, .inl x2, zN, zN], [.inl x4]) M1 _
  refine zG_blk (c' := (19, [.inr (.inr (some 76)), .inl a1, .inl a2, .inl x2, .inl x4, zN], [.inr (.inr (some 72))])) 3 hd0 hz (by rfl) ?_
  refine zG_call hd0 hz zp_61 rfl rfl (Nat.le_of_ble_eq_true rfl) ⟨Nat.le_refl _, Nat.le_refl _⟩ (qm_61_72 (by first | exact zdp hd (by decide) | omega) hCM1  ) (fun vr M5 hr => ?_)
  obtain ⟨hq, x6, rfl, hx6⟩ := hr
  replace hq := hq.symm; subst hq
  show zG n (0, 0) d 35 (22, [.inr (.inr (some 76)), .inl a1, .inl a2, .inl x2, .inl x4, zN], [.inl x6]) M1 _
  refine zG_if_ne hd0 hz rfl (fun hb7 => ?_) (fun hb7 => ?_)
  · refine zG_blk (c' := (30, [.inr (.inr (some 76)), .inl a1, .inl a2, .inl x2, .inl x4, .inl 1], [])) 2 hd0 hz (by rfl) ?_
    have j30 : ∀ (N : Nat) (v8 : Int) (M9 : zM) , (2001 - v8 : Int).toNat < N → 1 ≤ v8 ∧ v8 ≤ 2001 → qCI M9 → qFr [72, 73, 74, 75] M M9 → zG n (0, 0) d 35 (30, [.inr (.inr (some 76)), .inl a1, .inl a2, .inl x2, .inl x4, .inl v8], []) M9 (fun v M' => qWf qCI [72, 73, 74, 75] M M' ∧ qRi (fun x => (-1) ≤ x ∧ x ≤ 2000) v) := by
      intro N
      induction N with
      | zero => intro v8 M9 hN hv8 hCM9 hWM9; exact absurd hN (Nat.not_lt_zero _)
      | succ N ih30 =>
        intro v8 M9 hN hv8 hCM9 hWM9
        refine zG_blk (c' := (35, [.inr (.inr (some 76)), .inl a1, .inl a2, .inl x2, .inl x4, .inl v8], [.inl 2000, .inl v8])) 2 hd0 hz (by rfl) ?_
        refine zG_icmp_gt hd0 hz rfl (fun hb10 => ?_) (fun hb10 => ?_)
        · refine zG_blk (c' := (60, [.inr (.inr (some 76)), .inl a1, .inl a2, .inl x2, .inl x4, .inl v8], [.inl (-1)])) 1 hd0 hz (by rfl) ?_
          exact zG_ret hd0 hz rfl rfl ⟨⟨hCM9, hWM9⟩, _, rfl, by omega⟩
        · refine zG_blk (c' := (43, [.inr (.inr (some 76)), .inl a1, .inl a2, .inl x2, .inl x4, .inl v8], [.inl v8, .inl x4, .inr (.inr (some 76))])) 3 hd0 hz (by rfl) ?_
          refine zG_call hd0 hz zp_34 rfl rfl (Nat.le_of_ble_eq_true rfl) ⟨Nat.le_refl _, Nat.le_refl _⟩ (qm_34_76 (by first | exact zdp hd (by decide) | omega) hCM9  x4 (by omega) v8 (by first | with_reducible exact hv8 | omega)) (fun vr M11 hr => ?_)
          obtain ⟨⟨hCM11, hFM11⟩, x12, rfl, hx12⟩ := hr
          have hWM11 : qFr [72, 73, 74, 75] M M11 := hWM9.tr hFM11 (by decide)
          show zG n (0, 0) d 35 (46, [.inr (.inr (some 76)), .inl a1, .inl a2, .inl x2, .inl x4, .inl v8], [.inl x12]) M11 _
          refine zG_blk (c' := (47, [.inr (.inr (some 76)), .inl a1, .inl a2, .inl x2, .inl x4, .inl v8], [.inl x2, .inl x12])) 1 hd0 hz (by rfl) ?_
          refine zG_icmp_eq hd0 hz rfl (fun hb13 => ?_) (fun hb13 => ?_)
          · obtain ⟨x14, hx14⟩ : ∃ x : Int, x = w32 (v8 + 1) := ⟨_, rfl⟩
            have hx14e : x14 = v8 + 1 := by rw [hx14]; exact w32_id (by omega)
            refine zG_blk (c' := (30, [.inr (.inr (some 76)), .inl a1, .inl a2, .inl x2, .inl x4, .inl x14], [])) 2 hd0 hz (by subst hx14; rfl) ?_
            exact ih30 x14 M11 (by omega) (by omega) hCM11 hWM11
          · refine zG_blk (c' := (52, [.inr (.inr (some 76)), .inl a1, .inl a2, .inl x2, .inl x4, .inl v8], [.inl v8])) 1 hd0 hz (by rfl) ?_
            exact zG_ret hd0 hz rfl rfl ⟨⟨hCM11, hWM11⟩, _, rfl, by omega⟩
    exact j30 ((2001 - 1 : Int).toNat + 1) 1 M1 (by omega) (by omega) hCM1 hWM1
  · refine zG_blk (c' := (26, [.inr (.inr (some 76)), .inl a1, .inl a2, .inl x2, .inl x4, zN], [.inl (-1)])) 1 hd0 hz (by rfl) ?_
    exact zG_ret hd0 hz rfl rfl ⟨⟨hCM1, hWM1⟩, _, rfl, by omega⟩
