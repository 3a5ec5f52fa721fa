theorem qm_9_92 {n d : Nat} {M : zM} (hd : 1 ≤ d) (hC : qCI M)  : qOkP n d 9 [.inr (.inr (some 92))] 1 M (qRi (fun x => (-2147483648) ≤ x ∧ x ≤ 2147483647)) := by
  have hz := zp_9
  have hd0 : 0 < d := by omega
  show zG n (0, 0) d 9 (0, [.inr (.inr (some 92))], []) M _
  have r1 := hC.rng 92 6 (by decide) (by decide)
  refine zG_blk (c' := (4, [.inr (.inr (some 92))], [.inl (M 92 6)])) 2 hd0 hz (by rfl) ?_
  exact zG_ret hd0 hz rfl rfl ⟨rfl, _, rfl, by omega⟩
theorem qm_10_92 {n d : Nat} {M : zM} (hd : 1 ≤ d) (hC : qCI M)  : qOkP n d 10 [.inr (.inr (some 92))] 1 M (qRi (fun x => (-2147483648) ≤ x ∧ x ≤ 2147483647)) := by
  have hz := zp_10
  have hd0 : 0 < d := by omega
  show zG n (0, 0) d 10 (0, [.inr (.inr (some 92))], []) M _
  have r1 := hC.rng 92 4 (by decide) (by decide)
  refine zG_blk (c' := (4, [.inr (.inr (some 92))], [.inl (M 92 4)])) 2 hd0 hz (by rfl) ?_
  have j20 : ∀ (v2 : Int) , (-2147483648) ≤ v2 ∧ v2 ≤ 2147483647 → zG n (0, 0) d 10 (20, [.inr (.inr (some 92))], [.inl v2]) M (fun v M' => M' = M ∧ qRi (fun x => (-2147483648) ≤ x ∧ x ≤ 2147483647) v) := by
    intro v2 hv2
    exact zG_ret hd0 hz rfl rfl ⟨rfl, _, rfl, by omega⟩
  refine zG_if_ne hd0 hz rfl (fun hb3 => ?_) (fun hb3 => ?_)
  · have r4 := hC.rng 92 7 (by decide) (by decide)
    refine zG_blk (c' := (19, [.inr (.inr (some 92))], [.inl (M 92 4), .inl (M 92 7)])) 4 hd0 hz (by rfl) ?_
    refine zG_idiv hd0 hz rfl (by omega) ?_
    have hx5 := w32_in ((M 92 7).tdiv (M 92 4))
    generalize w32 ((M 92 7).tdiv (M 92 4)) = x5 at hx5 ⊢
    show zG n (0, 0) d 10 (20, [.inr (.inr (some 92))], [.inl x5]) M _
    exact j20 x5 (by omega)
  · refine zG_blk (c' := (20, [.inr (.inr (some 92))], [.inl 0])) 2 hd0 hz (by rfl) ?_
    exact j20 0 (by first | decide | omega)
theorem qm_160_8 {n d : Nat} {M : zM} (hd : 7 ≤ d) (hC : qCI M) (a1 : Int) (ha1 : (-2147483648) ≤ a1 ∧ a1 ≤ 2147483647) (a2 : Int) (ha2 : (-2147483648) ≤ a2 ∧ a2 ≤ 2147483647) (a3 : Int) (ha3 : (-2147483648) ≤ a3 ∧ a3 ≤ 2147483647) : qOkM n d 160 [.inr (.inr (some 8)), .inl a1, .inl a2, .inl a3] 4 qCI [62, 64, 65, 66, 92, 93, 94] M (qRi (fun x => (-2147483648) ≤ x ∧ x ≤ 2147483647)) := by
  have hz := zp_160
  have hd0 : 0 < d := by omega
  have hW : qFr [62, 64, 65, 66, 92, 93, 94] M M := qFr.rfl
  show zG n (0, 0) d 160 (0, [.inr (.inr (some 8)), .inl a1, .inl a2, .inl a3], []) M _
  refine zG_blk (c' := (1, [.inr (.inr (some 8)), .inl a1, .inl a2, .inl a3], [.inl a1])) 1 hd0 hz (by rfl) ?_
  refine zG_call hd0 hz zp_172 rfl rfl (Nat.le_of_ble_eq_true rfl) ⟨Nat.le_refl _, Nat.le_refl _⟩ (qm_172 (by first | exact zdp hd (by decide) | omega) hC  a1 (by first | with_reducible exact ha1 | omega)) (fun vr M1 hr => ?_)
  obtain ⟨hq, x2, rfl, hx2⟩ := hr
  replace hq := hq.symm; subst hq
  show zG n (0, 0) d 160 (4, [.inr (.inr (some 8)), .inl a1, .inl a2, .inl a3], [.inl x2]) M _
  have j23 : zG n (0, 0) d 160 (23, [.inr (.inr (some 8)), .inl a1, .inl a2, .inl a3], []) M (fun v M' => qWf qCI [62, 64, 65, 66, 92, 93, 94] M M' ∧ qRi (fun x => (-2147483648) ≤ x ∧ x ≤ 2147483647) v) := by
    refine zG_blk (c' := (26, [.inr (.inr (some 8)), .inl a1, .inl a2, .inl a3], [.inl (-1000)])) 1 hd0 hz (by rfl) ?_
    exact zG_ret hd0 hz rfl rfl ⟨⟨hC, hW⟩, _, rfl, by omega⟩
  refine zG_if_eq hd0 hz rfl (fun hb3 => ?_) (fun hb3 => ?_)
  · exact j23
  · refine zG_blk (c' := (8, [.inr (.inr (some 8)), .inl a1, .inl a2, .inl a3], [.inl a2])) 1 hd0 hz (by rfl) ?_
    refine zG_call hd0 hz zp_170 rfl rfl (Nat.le_of_ble_eq_true rfl) ⟨Nat.le_refl _, Nat.le_refl _⟩ (qm_170 (by first | exact zdp hd (by decide) | omega) hC  a2 (by first | with_reducible exact ha2 | omega)) (fun vr M4 hr => ?_)
    obtain ⟨hq, x5, rfl, hx5⟩ := hr
    replace hq := hq.symm; subst hq
    show zG n (0, 0) d 160 (11, [.inr (.inr (some 8)), .inl a1, .inl a2, .inl a3], [.inl x5]) M _
    refine zG_if_eq hd0 hz rfl (fun hb6 => ?_) (fun hb6 => ?_)
    · exact j23
    · refine zG_blk (c' := (17, [.inr (.inr (some 8)), .inl a1, .inl a2, .inl a3], [.inl 3, .inl 0, .inl a3])) 3 hd0 hz (by rfl) ?_
      refine zG_call hd0 hz zp_169 rfl rfl (Nat.le_of_ble_eq_true rfl) ⟨Nat.le_refl _, Nat.le_refl _⟩ (qm_169 (by first | exact zdp hd (by decide) | omega) hC  a3 (by first | with_reducible exact ha3 | omega) 0 (by first | decide | omega) 3 (by first | decide | omega)) (fun vr M7 hr => ?_)
      obtain ⟨hq, x8, rfl, hx8⟩ := hr
      replace hq := hq.symm; subst hq
      show zG n (0, 0) d 160 (20, [.inr (.inr (some 8)), .inl a1, .inl a2, .inl a3], [.inl x8]) M _
      refine zG_if_ne hd0 hz rfl (fun hb9 => ?_) (fun hb9 => ?_)
      · refine zG_blk (c' := (33, [.inr (.inr (some 8)), .inl a1, .inl a2, .inl a3], [.inl (-1), .inl a2, .inr (.inr (some 60))])) 4 hd0 hz (by rfl) ?_
        refine zG_call hd0 hz zp_41 rfl rfl (Nat.le_of_ble_eq_true rfl) ⟨Nat.le_refl _, Nat.le_refl _⟩ (qm_41_60 (by first | exact zdp hd (by decide) | omega) hC  a2 (by first | with_reducible exact ha2 | omega) (-1) (by first | decide | omega)) (fun vr M10 hr => ?_)
        obtain ⟨⟨hCM10, hFM10⟩, rfl⟩ := hr
        have hWM10 : qFr [62, 64, 65, 66, 92, 93, 94] M M10 := hW.tr hFM10 (by decide)
        show zG n (0, 0) d 160 (36, [.inr (.inr (some 8)), .inl a1, .inl a2, .inl a3], []) M10 _
        refine zG_blk (c' := (38, [.inr (.inr (some 8)), .inl a1, .inl a2, .inl a3], [.inl 3, .inl a3])) 2 hd0 hz (by rfl) ?_
        refine zG_icmp_ne hd0 hz rfl (fun hb12 => ?_) (fun hb12 => ?_)
        · refine zG_blk (c' := (63, [.inr (.inr (some 8)), .inl a1, .inl a2, .inl a3], [.inl a1, .inr (.inr (some 92))])) 3 hd0 hz (by rfl) ?_
          refine zG_call hd0 hz zp_6 rfl rfl (Nat.le_of_ble_eq_true rfl) ⟨Nat.le_refl _, Nat.le_refl _⟩ (qm_6_92 (by first | exact zdp hd (by decide) | omega) hCM10  a1 (by first | with_reducible exact ha1 | omega)) (fun vr M13 hr => ?_)
          obtain ⟨⟨hCM13, hFM13⟩, rfl⟩ := hr
          have hWM13 : qFr [62, 64, 65, 66, 92, 93, 94] M M13 := hWM10.tr hFM13 (by decide)
          show zG n (0, 0) d 160 (66, [.inr (.inr (some 8)), .inl a1, .inl a2, .inl a3], []) M13 _
          refine zG_blk (c' := (67, [.inr (.inr (some 8)), .inl a1, .inl a2, .inl a3], [.inl a3])) 1 hd0 hz (by rfl) ?_
          refine zG_if_ne hd0 hz rfl (fun hb15 => ?_) (fun hb15 => ?_)
          · refine zG_blk (c' := (80, [.inr (.inr (some 8)), .inl a1, .inl a2, .inl a3], [.inl 1, .inl a3])) 2 hd0 hz (by rfl) ?_
            have j100 : ∀ (v16 : Int) , (-2147483648) ≤ v16 ∧ v16 ≤ 2147483647 → zG n (0, 0) d 160 (100, [.inr (.inr (some 8)), .inl a1, .inl a2, .inl a3], [.inl v16]) M13 (fun v M' => qWf qCI [62, 64, 65, 66, 92, 93, 94] M M' ∧ qRi (fun x => (-2147483648) ≤ x ∧ x ≤ 2147483647) v) := by
              intro v16 hv16
              exact zG_ret hd0 hz rfl rfl ⟨⟨hCM13, hWM13⟩, _, rfl, by omega⟩
            refine zG_icmp_ne hd0 hz rfl (fun hb17 => ?_) (fun hb17 => ?_)
            · refine zG_blk (c' := (97, [.inr (.inr (some 8)), .inl a1, .inl a2, .inl a3], [.inr (.inr (some 92))])) 2 hd0 hz (by rfl) ?_
              refine zG_call hd0 hz zp_10 rfl rfl (Nat.le_of_ble_eq_true rfl) ⟨Nat.le_refl _, Nat.le_refl _⟩ (qm_10_92 (by first | exact zdp hd (by decide) | omega) hCM13  ) (fun vr M18 hr => ?_)
              obtain ⟨hq, x19, rfl, hx19⟩ := hr
              replace hq := hq.symm; subst hq
              show zG n (0, 0) d 160 (100, [.inr (.inr (some 8)), .inl a1, .inl a2, .inl a3], [.inl x19]) M13 _
              exact j100 x19 (by omega)
            · refine zG_blk (c' := (87, [.inr (.inr (some 8)), .inl a1, .inl a2, .inl a3], [.inr (.inr (some 92))])) 2 hd0 hz (by rfl) ?_
              refine zG_call hd0 hz zp_9 rfl rfl (Nat.le_of_ble_eq_true rfl) ⟨Nat.le_refl _, Nat.le_refl _⟩ (qm_9_92 (by first | exact zdp hd (by decide) | omega) hCM13  ) (fun vr M20 hr => ?_)
              obtain ⟨hq, x21, rfl, hx21⟩ := hr
              replace hq := hq.symm; subst hq
              show zG n (0, 0) d 160 (90, [.inr (.inr (some 8)), .inl a1, .inl a2, .inl a3], [.inl x21]) M13 _
              refine zG_blk (c' := (100, [.inr (.inr (some 8)), .inl a1, .inl a2, .inl a3], [.inl x21])) 1 hd0 hz (by rfl) ?_
              exact j100 x21 (by omega)
          · refine zG_blk (c' := (74, [.inr (.inr (some 8)), .inl a1, .inl a2, .inl a3], [.inr (.inr (some 92))])) 2 hd0 hz (by rfl) ?_
            refine zG_call hd0 hz zp_8 rfl rfl (Nat.le_of_ble_eq_true rfl) ⟨Nat.le_refl _, Nat.le_refl _⟩ (qm_8_92 (by first | exact zdp hd (by decide) | omega) hCM13  ) (fun vr M22 hr => ?_)
            obtain ⟨hq, x23, rfl, hx23⟩ := hr
            replace hq := hq.symm; subst hq
            show zG n (0, 0) d 160 (77, [.inr (.inr (some 8)), .inl a1, .inl a2, .inl a3], [.inl x23]) M13 _
            exact zG_ret hd0 hz rfl rfl ⟨⟨hCM13, hWM13⟩, _, rfl, by omega⟩
        · refine zG_blk (c' := (46, [.inr (.inr (some 8)), .inl a1, .inl a2, .inl a3], [.inl a1, .inr (.inr (some 92))])) 3 hd0 hz (by rfl) ?_
          refine zG_call hd0 hz zp_11 rfl rfl (Nat.le_of_ble_eq_true rfl) ⟨Nat.le_refl _, Nat.le_refl _⟩ (qm_11_92 (by first | exact zdp hd (by decide) | omega) hCM10  a1 (by first | with_reducible exact ha1 | omega)) (fun vr M24 hr => ?_)
          obtain ⟨⟨hCM24, hFM24⟩, x25, rfl, hx25⟩ := hr
          have hWM24 : qFr [62, 64, 65, 66, 92, 93, 94] M M24 := hWM10.tr hFM24 (by decide)
          show zG n (0, 0) d 160 (49, [.inr (.inr (some 8)), .inl a1, .inl a2, .inl a3], [.inl x25]) M24 _
          have j57 : ∀ (v26 : Int) , 0 ≤ v26 ∧ v26 ≤ 1 → zG n (0, 0) d 160 (57, [.inr (.inr (some 8)), .inl a1, .inl a2, .inl a3], [.inl v26]) M24 (fun v M' => qWf qCI [62, 64, 65, 66, 92, 93, 94] M M' ∧ qRi (fun x => (-2147483648) ≤ x ∧ x ≤ 2147483647) v) := by
            intro v26 hv26
            exact zG_ret hd0 hz rfl rfl ⟨⟨hCM24, hWM24⟩, _, rfl, by omega⟩
          refine zG_if_eq hd0 hz rfl (fun hb27 => ?_) (fun hb27 => ?_)
          · refine zG_blk (c' := (57, [.inr (.inr (some 8)), .inl a1, .inl a2, .inl a3], [.inl 0])) 1 hd0 hz (by rfl) ?_
            exact j57 0 (by first | decide | omega)
          · refine zG_blk (c' := (57, [.inr (.inr (some 8)), .inl a1, .inl a2, .inl a3], [.inl 1])) 2 hd0 hz (by rfl) ?_
            exact j57 1 (by first | decide | omega)
      · exact j23
theorem qm_161_8 {n d : Nat} {M : zM} (hd : 2 ≤ d) (hC : qCI M) (a1 : Int) (ha1 : (-2147483648) ≤ a1 ∧ a1 ≤ 2147483647) : qOkM n d 161 [.inr (.inr (some 8)), .inl a1] 3 qCI [9] M (qRi (fun x => (-2147483648) ≤ x ∧ x ≤ 2147483647)) := by
  have hz := zp_161
  have hd0 : 0 < d := by omega
  have hW : qFr [9] M M := qFr.rfl
  show zG n (0, 0) d 161 (0, [.inr (.inr (some 8)), .inl a1, zN], []) M _
  refine zG_blk (c' := (5, [.inr (.inr (some 8)), .inl a1, zN], [.inl 10000, .inl 1, .inl a1])) 3 hd0 hz (by rfl) ?_
  refine zG_call hd0 hz zp_169 rfl rfl (Nat.le_of_ble_eq_true rfl) ⟨Nat.le_refl _, Nat.le_refl _⟩ (qm_169 (by first | exact zdp hd (by decide) | omega) hC  a1 (by first | with_reducible exact ha1 | omega) 1 (by first | decide | omega) 10000 (by first | decide | omega)) (fun vr M1 hr => ?_)
  obtain ⟨hq, x2, rfl, hx2⟩ := hr
  replace hq := hq.symm; subst hq
  show zG n (0, 0) d 161 (8, [.inr (.inr (some 8)), .inl a1, zN], [.inl x2]) M _
  refine zG_if_ne hd0 hz rfl (fun hb3 => ?_) (fun hb3 => ?_)
  · have r4 := hC.rng 9 9 (by decide) (by decide)
    refine zG_blk (c' := (27, [.inr (.inr (some 8)), .inl a1, .inl (M 9 9)], [.inl a1, .inr (.inr (some 9))])) 7 hd0 hz (by rfl) ?_
    refine zG_putf (.inl rfl) hd0 hz rfl (by decide) rfl rfl ?_
    obtain ⟨M5, hM5⟩ : ∃ X : zM, X = zput M 9 9 a1 := ⟨_, rfl⟩
    rw [← hM5]
    have hCM5 : qCI M5 := by rw [hM5]; exact hC.put (r := 9) (k := 9) rfl (.inl (by omega))
    have hWM5 : qFr [9] M M5 := by rw [hM5]; exact hW.put (by decide)
    have e6 : M5 9 9 = a1 := by rw [hM5]; exact qput_eq
    show zG n (0, 0) d 161 (30, [.inr (.inr (some 8)), .inl a1, .inl (M 9 9)], []) M5 _
    refine zG_blk (c' := (31, [.inr (.inr (some 8)), .inl a1, .inl (M 9 9)], [.inl (M 9 9)])) 1 hd0 hz (by rfl) ?_
    exact zG_ret hd0 hz rfl rfl ⟨⟨hCM5, hWM5⟩, _, rfl, by omega⟩
  · refine zG_blk (c' := (13, [.inr (.inr (some 8)), .inl a1, zN], [.inl (-2)])) 1 hd0 hz (by rfl) ?_
    exact zG_ret hd0 hz rfl rfl ⟨⟨hC, hW⟩, _, rfl, by omega⟩
theorem qm_162_8 {n d : Nat} {M : zM} (hd : 2 ≤ d) (hC : qCI M) (a1 : Int) (ha1 : (-2147483648) ≤ a1 ∧ a1 ≤ 2147483647) (a2 : Int) (ha2 : (-2147483648) ≤ a2 ∧ a2 ≤ 2147483647) : qOkM n d 162 [.inr (.inr (some 8)), .inl a1, .inl a2] 4 qCI [24, 25] M (qRi (fun x => (-4) ≤ x ∧ x ≤ 12)) := by
  have hz := zp_162
  have hd0 : 0 < d := by omega
  have hW : qFr [24, 25] M M := qFr.rfl
  show zG n (0, 0) d 162 (0, [.inr (.inr (some 8)), .inl a1, .inl a2, zN], []) M _
  refine zG_blk (c' := (5, [.inr (.inr (some 8)), .inl a1, .inl a2, zN], [.inl 1000, .inl 0, .inl a1])) 3 hd0 hz (by rfl) ?_
  refine zG_call hd0 hz zp_169 rfl rfl (Nat.le_of_ble_eq_true rfl) ⟨Nat.le_refl _, Nat.le_refl _⟩ (qm_169 (by first | exact zdp hd (by decide) | omega) hC  a1 (by first | with_reducible exact ha1 | omega) 0 (by first | decide | omega) 1000 (by first | decide | omega)) (fun vr M1 hr => ?_)
  obtain ⟨hq, x2, rfl, hx2⟩ := hr
  replace hq := hq.symm; subst hq
  show zG n (0, 0) d 162 (8, [.inr (.inr (some 8)), .inl a1, .inl a2, zN], [.inl x2]) M _
  have j22 : zG n (0, 0) d 162 (22, [.inr (.inr (some 8)), .inl a1, .inl a2, zN], []) M (fun v M' => qWf qCI [24, 25] M M' ∧ qRi (fun x => (-4) ≤ x ∧ x ≤ 12) v) := by
    refine zG_blk (c' := (24, [.inr (.inr (some 8)), .inl a1, .inl a2, zN], [.inl (-2)])) 1 hd0 hz (by rfl) ?_
    exact zG_ret hd0 hz rfl rfl ⟨⟨hC, hW⟩, _, rfl, by omega⟩
  refine zG_if_eq hd0 hz rfl (fun hb3 => ?_) (fun hb3 => ?_)
  · exact j22
  · refine zG_blk (c' := (16, [.inr (.inr (some 8)), .inl a1, .inl a2, zN], [.inl 1000, .inl 0, .inl a2])) 3 hd0 hz (by rfl) ?_
    refine zG_call hd0 hz zp_169 rfl rfl (Nat.le_of_ble_eq_true rfl) ⟨Nat.le_refl _, Nat.le_refl _⟩ (qm_169 (by first | exact zdp hd (by decide) | omega) hC  a2 (by first | with_reducible exact ha2 | omega) 0 (by first | decide | omega) 1000 (by first | decide | omega)) (fun vr M4 hr => ?_)
    obtain ⟨hq, x5, rfl, hx5⟩ := hr
    replace hq := hq.symm; subst hq
    show zG n (0, 0) d 162 (19, [.inr (.inr (some 8)), .inl a1, .inl a2, zN], [.inl x5]) M _
    refine zG_if_ne hd0 hz rfl (fun hb6 => ?_) (fun hb6 => ?_)
    · refine zG_blk (c' := (32, [.inr (.inr (some 8)), .inl a1, .inl a2, zN], [.inr (.inr (some 24))])) 3 hd0 hz (by rfl) ?_
      refine zG_call hd0 hz zp_103 rfl rfl (Nat.le_of_ble_eq_true rfl) ⟨Nat.le_refl _, Nat.le_refl _⟩ (qw_open (by first | exact zdp hd (by decide) | omega) hC (⟨by decide, rfl, rfl⟩ : qT n 24 12 2) ) (fun vr M7 hr => ?_)
      obtain ⟨⟨hCM7, hFM7⟩, x8, rfl, hx8⟩ := hr
      have hWM7 : qFr [24, 25] M M7 := hW.tr hFM7 (by decide)
      show zG n (0, 0) d 162 (35, [.inr (.inr (some 8)), .inl a1, .inl a2, zN], [.inl x8]) M7 _
      refine zG_blk (c' := (39, [.inr (.inr (some 8)), .inl a1, .inl a2, .inl x8], [.inl (-4), .inl x8])) 3 hd0 hz (by rfl) ?_
      refine zG_icmp_ne hd0 hz rfl (fun hb9 => ?_) (fun hb9 => ?_)
      · refine zG_blk (c' := (55, [.inr (.inr (some 8)), .inl a1, .inl a2, .inl x8], [.inl a1, .inl 0, .inl x8, .inr (.inr (some 24))])) 6 hd0 hz (by rfl) ?_
        refine zG_call hd0 hz zp_107 rfl rfl (Nat.le_of_ble_eq_true rfl) ⟨Nat.le_refl _, Nat.le_refl _⟩ (qw_set (by first | exact zdp hd (by decide) | omega) hCM7 (⟨by decide, rfl, rfl⟩ : qT n 24 12 2) x8 (by omega) 0 (by first | decide | omega) a1 (by first | with_reducible exact ha1 | omega)) (fun vr M10 hr => ?_)
        obtain ⟨⟨hCM10, hFM10⟩, rfl⟩ := hr
        have hWM10 : qFr [24, 25] M M10 := hWM7.tr hFM10 (by decide)
        show zG n (0, 0) d 162 (58, [.inr (.inr (some 8)), .inl a1, .inl a2, .inl x8], []) M10 _
        refine zG_blk (c' := (68, [.inr (.inr (some 8)), .inl a1, .inl a2, .inl x8], [.inl a2, .inl 1, .inl x8, .inr (.inr (some 24))])) 6 hd0 hz (by rfl) ?_
        refine zG_call hd0 hz zp_107 rfl rfl (Nat.le_of_ble_eq_true rfl) ⟨Nat.le_refl _, Nat.le_refl _⟩ (qw_set (by first | exact zdp hd (by decide) | omega) hCM10 (⟨by decide, rfl, rfl⟩ : qT n 24 12 2) x8 (by omega) 1 (by first | decide | omega) a2 (by first | with_reducible exact ha2 | omega)) (fun vr M12 hr => ?_)
        obtain ⟨⟨hCM12, hFM12⟩, rfl⟩ := hr
        have hWM12 : qFr [24, 25] M M12 := hWM10.tr hFM12 (by decide)
        show zG n (0, 0) d 162 (71, [.inr (.inr (some 8)), .inl a1, .inl a2, .inl x8], []) M12 _
        obtain ⟨x14, hx14⟩ : ∃ x : Int, x = w32 (x8 + 1) := ⟨_, rfl⟩
        have hx14e : x14 = x8 + 1 := by rw [hx14]; exact w32_id (by omega)
        refine zG_blk (c' := (74, [.inr (.inr (some 8)), .inl a1, .inl a2, .inl x8], [.inl x14])) 3 hd0 hz (by subst hx14; rfl) ?_
        exact zG_ret hd0 hz rfl rfl ⟨⟨hCM12, hWM12⟩, _, rfl, by omega⟩
      · refine zG_blk (c' := (44, [.inr (.inr (some 8)), .inl a1, .inl a2, .inl x8], [.inl (-4)])) 1 hd0 hz (by rfl) ?_
        exact zG_ret hd0 hz rfl rfl ⟨⟨hCM7, hWM7⟩, _, rfl, by omega⟩
    · exact j22
