theorem qm_145_8 {n d : Nat} {M : zM} (hd : 7 ≤ d) (hC : qCI M) (a1 : Int) (ha1 : (-2147483648) ≤ a1 ∧ a1 ≤ 2147483647) (a2 : Int) (ha2 : (-2147483648) ≤ a2 ∧ a2 ≤ 2147483647) (a3 : Int) (ha3 : (-2147483648) ≤ a3 ∧ a3 ≤ 2147483647) : qOkM n d 145 [.inr (.inr (some 8)), .inl a1, .inl a2, .inl a3] 4 qCI [62, 64, 65, 66, 72, 73, 74, 75] M (qRi (fun x => (-2) ≤ x ∧ x ≤ 2000)) := by
  have hz := zp_145
  have hd0 : 0 < d := by omega
  have hW : qFr [62, 64, 65, 66, 72, 73, 74, 75] M M := qFr.rfl
  show zG n (0, 0) d 145 (0, [.inr (.inr (some 8)), .inl a1, .inl a2, .inl a3], []) M _
  refine zG_blk (c' := (2, [.inr (.inr (some 8)), .inl a1, .inl a2, .inl a3], [.inl a1, .inr (.inr (some 8))])) 2 hd0 hz (by rfl) ?_
  refine zG_call hd0 hz zp_174 rfl rfl (Nat.le_of_ble_eq_true rfl) ⟨Nat.le_refl _, Nat.le_refl _⟩ (qm_174_8 (by first | exact zdp hd (by decide) | omega) hC  a1 (by first | with_reducible exact ha1 | omega)) (fun vr M1 hr => ?_)
  obtain ⟨hq, x2, rfl, hx2⟩ := hr
  replace hq := hq.symm; subst hq
  show zG n (0, 0) d 145 (5, [.inr (.inr (some 8)), .inl a1, .inl a2, .inl a3], [.inl x2]) M _
  have j22 : zG n (0, 0) d 145 (22, [.inr (.inr (some 8)), .inl a1, .inl a2, .inl a3], []) M (fun v M' => qWf qCI [62, 64, 65, 66, 72, 73, 74, 75] M M' ∧ qRi (fun x => (-2) ≤ x ∧ x ≤ 2000) v) := by
    refine zG_blk (c' := (24, [.inr (.inr (some 8)), .inl a1, .inl a2, .inl a3], [.inl (-2)])) 1 hd0 hz (by rfl) ?_
    exact zG_ret hd0 hz rfl rfl ⟨⟨hC, hW⟩, _, rfl, by omega⟩
  refine zG_if_eq hd0 hz rfl (fun hb3 => ?_) (fun hb3 => ?_)
  · exact j22
  · refine zG_blk (c' := (9, [.inr (.inr (some 8)), .inl a1, .inl a2, .inl a3], [.inl a2])) 1 hd0 hz (by rfl) ?_
    refine zG_call hd0 hz zp_170 rfl rfl (Nat.le_of_ble_eq_true rfl) ⟨Nat.le_refl _, Nat.le_refl _⟩ (qm_170 (by first | exact zdp hd (by decide) | omega) hC  a2 (by first | with_reducible exact ha2 | omega)) (fun vr M4 hr => ?_)
    obtain ⟨hq, x5, rfl, hx5⟩ := hr
    replace hq := hq.symm; subst hq
    show zG n (0, 0) d 145 (12, [.inr (.inr (some 8)), .inl a1, .inl a2, .inl a3], [.inl x5]) M _
    refine zG_if_eq hd0 hz rfl (fun hb6 => ?_) (fun hb6 => ?_)
    · exact j22
    · refine zG_blk (c' := (16, [.inr (.inr (some 8)), .inl a1, .inl a2, .inl a3], [.inl a3])) 1 hd0 hz (by rfl) ?_
      refine zG_call hd0 hz zp_170 rfl rfl (Nat.le_of_ble_eq_true rfl) ⟨Nat.le_refl _, Nat.le_refl _⟩ (qm_170 (by first | exact zdp hd (by decide) | omega) hC  a3 (by first | with_reducible exact ha3 | omega)) (fun vr M7 hr => ?_)
      obtain ⟨hq, x8, rfl, hx8⟩ := hr
      replace hq := hq.symm; subst hq
      show zG n (0, 0) d 145 (19, [.inr (.inr (some 8)), .inl a1, .inl a2, .inl a3], [.inl x8]) M _
      refine zG_if_ne hd0 hz rfl (fun hb9 => ?_) (fun hb9 => ?_)
      · refine zG_blk (c' := (31, [.inr (.inr (some 8)), .inl a1, .inl a2, .inl a3], [.inl (-1), .inl a3, .inr (.inr (some 60))])) 4 hd0 hz (by rfl) ?_
        refine zG_call hd0 hz zp_41 rfl rfl (Nat.le_of_ble_eq_true rfl) ⟨Nat.le_refl _, Nat.le_refl _⟩ (qm_41_60 (by first | exact zdp hd (by decide) | omega) hC  a3 (by first | with_reducible exact ha3 | omega) (-1) (by first | decide | omega)) (fun vr M10 hr => ?_)
        obtain ⟨⟨hCM10, hFM10⟩, rfl⟩ := hr
        have hWM10 : qFr [62, 64, 65, 66, 72, 73, 74, 75] M M10 := hW.tr hFM10 (by decide)
        show zG n (0, 0) d 145 (34, [.inr (.inr (some 8)), .inl a1, .inl a2, .inl a3], []) M10 _
        refine zG_blk (c' := (40, [.inr (.inr (some 8)), .inl a1, .inl a2, .inl a3], [.inl a2, .inl a1, .inr (.inr (some 76))])) 4 hd0 hz (by rfl) ?_
        refine zG_call hd0 hz zp_35 rfl rfl (Nat.le_of_ble_eq_true rfl) ⟨Nat.le_refl _, Nat.le_refl _⟩ (qm_35_76 (by first | exact zdp hd (by decide) | omega) hCM10  a1 (by first | with_reducible exact ha1 | omega) a2 (by first | with_reducible exact ha2 | omega)) (fun vr M12 hr => ?_)
        obtain ⟨⟨hCM12, hFM12⟩, x13, rfl, hx13⟩ := hr
        have hWM12 : qFr [62, 64, 65, 66, 72, 73, 74, 75] M M12 := hWM10.tr hFM12 (by decide)
        show zG n (0, 0) d 145 (43, [.inr (.inr (some 8)), .inl a1, .inl a2, .inl a3], [.inl x13]) M12 _
        exact zG_ret hd0 hz rfl rfl ⟨⟨hCM12, hWM12⟩, _, rfl, by omega⟩
      · exact j22
theorem qm_36_76 {n d : Nat} {M : zM} (hd : 6 ≤ d) (hC : qCI M) (a1 : Int) (ha1 : (-2147483648) ≤ a1 ∧ a1 ≤ 2147483647) (a2 : Int) (ha2 : (-2147483648) ≤ a2 ∧ a2 ≤ 2147483647) : qOkM n d 36 [.inr (.inr (some 76)), .inl a1, .inl a2] 7 qCI [72, 73, 74, 75] M (qRi (fun x => (-2147483648) ≤ x ∧ x ≤ 2147483647)) := by
  have hz := zp_36
  have hd0 : 0 < d := by omega
  have hW : qFr [72, 73, 74, 75] M M := qFr.rfl
  show zG n (0, 0) d 36 (0, [.inr (.inr (some 76)), .inl a1, .inl a2, zN, zN, zN, zN], []) M _
  refine zG_blk (c' := (5, [.inr (.inr (some 76)), .inl a1, .inl a2, .inl (-1), .inl 0, zN, zN], [])) 4 hd0 hz (by rfl) ?_
  have j5 : ∀ (N : Nat) (v1 v2 : Int) , (250 - v2 : Int).toNat < N → (-1) ≤ v1 ∧ v1 ≤ 2147483647 → 0 ≤ v2 ∧ v2 ≤ 250 → zG n (0, 0) d 36 (5, [.inr (.inr (some 76)), .inl a1, .inl a2, .inl v1, .inl v2, zN, zN], []) M (fun v M' => qWf qCI [72, 73, 74, 75] M M' ∧ qRi (fun x => (-2147483648) ≤ x ∧ x ≤ 2147483647) v) := by
    intro N
    induction N with
    | zero => intro v1 v2 hN hv1 hv2; exact absurd hN (Nat.not_lt_zero _)
    | succ N ih5 =>
      intro v1 v2 hN hv1 hv2
      refine zG_blk (c' := (14, [.inr (.inr (some 76)), .inl a1, .inl a2, .inl v1, .inl v2, zN, zN], [.inr (.inr (some 18)), .inl v2])) 4 hd0 hz (by rfl) ?_
      refine zG_call hd0 hz zp_101 rfl rfl (Nat.le_of_ble_eq_true rfl) ⟨Nat.le_refl _, Nat.le_refl _⟩ (qw_size (by first | exact zdp hd (by decide) | omega) hC (⟨by decide, rfl, rfl⟩ : qT n 18 250 11) ) (fun vr M3 hr => ?_)
      obtain ⟨hq, x4, rfl, hx4⟩ := hr
      replace hq := hq.symm; subst hq
      show zG n (0, 0) d 36 (17, [.inr (.inr (some 76)), .inl a1, .inl a2, .inl v1, .inl v2, zN, zN], [.inl x4, .inl v2]) M _
      refine zG_icmp_ge hd0 hz rfl (fun hb5 => ?_) (fun hb5 => ?_)
      · refine zG_blk (c' := (111, [.inr (.inr (some 76)), .inl a1, .inl a2, .inl v1, .inl v2, zN, zN], [.inl (-1), .inl v1])) 2 hd0 hz (by rfl) ?_
        have j124 : ∀ (v6 : Int) (M7 : zM) , (-2147483648) ≤ v6 ∧ v6 ≤ 2147483647 → qCI M7 → qFr [72, 73, 74, 75] M M7 → zG n (0, 0) d 36 (124, [.inr (.inr (some 76)), .inl a1, .inl a2, .inl v1, .inl v2, zN, zN], [.inl v6]) M7 (fun v M' => qWf qCI [72, 73, 74, 75] M M' ∧ qRi (fun x => (-2147483648) ≤ x ∧ x ≤ 2147483647) v) := by
          intro v6 M7 hv6 hCM7 hWM7
          exact zG_ret hd0 hz rfl rfl ⟨⟨hCM7, hWM7⟩, _, rfl, by omega⟩
        refine zG_icmp_ne hd0 hz rfl (fun hb8 => ?_) (fun hb8 => ?_)
        · refine zG_blk (c' := (121, [.inr (.inr (some 76)), .inl a1, .inl a2, .inl v1, .inl v2, zN, zN], [.inl v1, .inl a1, .inr (.inr (some 76))])) 3 hd0 hz (by rfl) ?_
          refine zG_call hd0 hz zp_33 rfl rfl (Nat.le_of_ble_eq_true rfl) ⟨Nat.le_refl _, Nat.le_refl _⟩ (qm_33_76 (by first | exact zdp hd (by decide) | omega) hC  a1 (by first | with_reducible exact ha1 | omega) v1 (by first | with_reducible exact hv1 | omega)) (fun vr M9 hr => ?_)
          obtain ⟨⟨hCM9, hFM9⟩, x10, rfl, hx10⟩ := hr
          have hWM9 : qFr [72, 73, 74, 75] M M9 := hW.tr hFM9 (by decide)
          show zG n (0, 0) d 36 (124, [.inr (.inr (some 76)), .inl a1, .inl a2, .inl v1, .inl v2, zN, zN], [.inl x10]) M9 _
          exact j124 x10 M9 (by omega) hCM9 hWM9
        · refine zG_blk (c' := (124, [.inr (.inr (some 76)), .inl a1, .inl a2, .inl v1, .inl v2, zN, zN], [.inl (-1)])) 2 hd0 hz (by rfl) ?_
          exact j124 (-1) M (by omega) hC hW
      · refine zG_blk (c' := (30, [.inr (.inr (some 76)), .inl a1, .inl a2, .inl v1, .inl v2, zN, zN], [.inl 1, .inl v2, .inr (.inr (some 18))])) 5 hd0 hz (by rfl) ?_
        refine zG_call hd0 hz zp_106 rfl rfl (Nat.le_of_ble_eq_true rfl) ⟨Nat.le_refl _, Nat.le_refl _⟩ (qw_get (by first | exact zdp hd (by decide) | omega) hC (⟨by decide, rfl, rfl⟩ : qT n 18 250 11) v2 (by first | with_reducible exact hv2 | omega) 1 (by first | decide | omega)) (fun vr M11 hr => ?_)
        obtain ⟨hq, x12, rfl, hx12⟩ := hr
        replace hq := hq.symm; subst hq
        show zG n (0, 0) d 36 (33, [.inr (.inr (some 76)), .inl a1, .inl a2, .inl v1, .inl v2, zN, zN], [.inl x12]) M _
        refine zG_blk (c' := (43, [.inr (.inr (some 76)), .inl a1, .inl a2, .inl v1, .inl v2, .inl x12, zN], [.inl v2, .inl 6, .inr (.inr (some 9))])) 5 hd0 hz (by rfl) ?_
        refine zG_call hd0 hz zp_19 rfl rfl (Nat.le_of_ble_eq_true rfl) ⟨Nat.le_refl _, Nat.le_refl _⟩ (qm_19_9 (by first | exact zdp hd (by decide) | omega) hC  6 (by first | decide | omega) v2 (by first | with_reducible exact hv2 | omega)) (fun vr M13 hr => ?_)
        obtain ⟨hq, x14, rfl, hx14⟩ := hr
        replace hq := hq.symm; subst hq
        show zG n (0, 0) d 36 (46, [.inr (.inr (some 76)), .inl a1, .inl a2, .inl v1, .inl v2, .inl x12, zN], [.inl x14]) M _
        have j71 : ∀ (v15 : Int) , 0 ≤ v15 ∧ v15 ≤ 1 → zG n (0, 0) d 36 (71, [.inr (.inr (some 76)), .inl a1, .inl a2, .inl v1, .inl v2, .inl x12, zN], [.inl v15]) M (fun v M' => qWf qCI [72, 73, 74, 75] M M' ∧ qRi (fun x => (-2147483648) ≤ x ∧ x ≤ 2147483647) v) := by
          intro v15 hv15
          refine zG_blk (c' := (75, [.inr (.inr (some 76)), .inl a1, .inl a2, .inl v1, .inl v2, .inl x12, .inl v15], [.inl v15])) 2 hd0 hz (by rfl) ?_
          have j103 : ∀ (v16 : Int) , (-1) ≤ v16 ∧ v16 ≤ 2147483647 → zG n (0, 0) d 36 (103, [.inr (.inr (some 76)), .inl a1, .inl a2, .inl v16, .inl v2, .inl x12, .inl v15], []) M (fun v M' => qWf qCI [72, 73, 74, 75] M M' ∧ qRi (fun x => (-2147483648) ≤ x ∧ x ≤ 2147483647) v) := by
            intro v16 hv16
            obtain ⟨x17, hx17⟩ : ∃ x : Int, x = w32 (v2 + 1) := ⟨_, rfl⟩
            have hx17e : x17 = v2 + 1 := by rw [hx17]; exact w32_id (by omega)
            refine zG_blk (c' := (5, [.inr (.inr (some 76)), .inl a1, .inl a2, .inl v16, .inl x17, .inl x12, .inl v15], [])) 2 hd0 hz (by subst hx17; rfl) ?_
            exact zG_weak (ih5 v16 x17 (by omega) (by omega) (by omega)) ⟨.inr rfl, .inr rfl, .inr rfl, .inr rfl, .inr rfl, .inl rfl, .inl rfl, trivial⟩
          refine zG_if_eq hd0 hz rfl (fun hb18 => ?_) (fun hb18 => ?_)
          · exact j103 v1 (by first | with_reducible exact hv1 | omega)
          · refine zG_blk (c' := (84, [.inr (.inr (some 76)), .inl a1, .inl a2, .inl v1, .inl v2, .inl x12, .inl v15], [.inl v2, .inr (.inr (some 60))])) 3 hd0 hz (by rfl) ?_
            refine zG_call hd0 hz zp_42 rfl rfl (Nat.le_of_ble_eq_true rfl) ⟨Nat.le_refl _, Nat.le_refl _⟩ (qm_42_60 (by first | exact zdp hd (by decide) | omega) hC  v2 (by first | with_reducible exact hv2 | omega)) (fun vr M19 hr => ?_)
            obtain ⟨hq, x20, rfl, hx20⟩ := hr
            replace hq := hq.symm; subst hq
            show zG n (0, 0) d 36 (87, [.inr (.inr (some 76)), .inl a1, .inl a2, .inl v1, .inl v2, .inl x12, .inl v15], [.inl x20]) M _
            refine zG_if_eq hd0 hz rfl (fun hb21 => ?_) (fun hb21 => ?_)
            · exact j103 v1 (by first | with_reducible exact hv1 | omega)
            · refine zG_blk (c' := (93, [.inr (.inr (some 76)), .inl a1, .inl a2, .inl v1, .inl v2, .inl x12, .inl v15], [.inl a2, .inl x12])) 2 hd0 hz (by rfl) ?_
              refine zG_icmp_gt hd0 hz rfl (fun hb22 => ?_) (fun hb22 => ?_)
              · exact j103 v1 (by first | with_reducible exact hv1 | omega)
              · obtain ⟨x23, hx23⟩ : ∃ x : Int, x = (if v1 < x12 then x12 else v1) := ⟨_, rfl⟩
                have hx23r := qite hx23
                refine zG_blk (c' := (103, [.inr (.inr (some 76)), .inl a1, .inl a2, .inl x23, .inl v2, .inl x12, .inl v15], [])) 4 hd0 hz (by subst hx23; rfl) ?_
                exact j103 x23 (by omega)
        have j70 : zG n (0, 0) d 36 (70, [.inr (.inr (some 76)), .inl a1, .inl a2, .inl v1, .inl v2, .inl x12, zN], []) M (fun v M' => qWf qCI [72, 73, 74, 75] M M' ∧ qRi (fun x => (-2147483648) ≤ x ∧ x ≤ 2147483647) v) := by
          refine zG_blk (c' := (71, [.inr (.inr (some 76)), .inl a1, .inl a2, .inl v1, .inl v2, .inl x12, zN], [.inl 0])) 1 hd0 hz (by rfl) ?_
          exact j71 0 (by first | decide | omega)
        refine zG_if_eq hd0 hz rfl (fun hb24 => ?_) (fun hb24 => ?_)
        · exact j70
        · refine zG_blk (c' := (59, [.inr (.inr (some 76)), .inl a1, .inl a2, .inl v1, .inl v2, .inl x12, zN], [.inl 4, .inl v2, .inr (.inr (some 18))])) 5 hd0 hz (by rfl) ?_
          refine zG_call hd0 hz zp_106 rfl rfl (Nat.le_of_ble_eq_true rfl) ⟨Nat.le_refl _, Nat.le_refl _⟩ (qw_get (by first | exact zdp hd (by decide) | omega) hC (⟨by decide, rfl, rfl⟩ : qT n 18 250 11) v2 (by first | with_reducible exact hv2 | omega) 4 (by first | decide | omega)) (fun vr M25 hr => ?_)
          obtain ⟨hq, x26, rfl, hx26⟩ := hr
          replace hq := hq.symm; subst hq
          show zG n (0, 0) d 36 (62, [.inr (.inr (some 76)), .inl a1, .inl a2, .inl v1, .inl v2, .inl x12, zN], [.inl x26]) M _
          refine zG_blk (c' := (63, [.inr (.inr (some 76)), .inl a1, .inl a2, .inl v1, .inl v2, .inl x12, zN], [.inl a1, .inl x26])) 1 hd0 hz (by rfl) ?_
          refine zG_icmp_ne hd0 hz rfl (fun hb27 => ?_) (fun hb27 => ?_)
          · exact j70
          · refine zG_blk (c' := (71, [.inr (.inr (some 76)), .inl a1, .inl a2, .inl v1, .inl v2, .inl x12, zN], [.inl 1])) 2 hd0 hz (by rfl) ?_
            exact j71 1 (by first | decide | omega)
  exact j5 ((250 - 0 : Int).toNat + 1) (-1) 0 (by first | decide | omega) (by omega) (by omega)
theorem qm_146_8 {n d : Nat} {M : zM} (hd : 7 ≤ d) (hC : qCI M) (a1 : Int) (ha1 : (-2147483648) ≤ a1 ∧ a1 ≤ 2147483647) (a2 : Int) (ha2 : (-2147483648) ≤ a2 ∧ a2 ≤ 2147483647) (a3 : Int) (ha3 : (-2147483648) ≤ a3 ∧ a3 ≤ 2147483647) : qOkM n d 146 [.inr (.inr (some 8)), .inl a1, .inl a2, .inl a3] 4 qCI [62, 64, 65, 66, 72, 73, 74, 75] M (qRi (fun x => (-2147483648) ≤ x ∧ x ≤ 2147483647)) := by
  have hz := zp_146
  have hd0 : 0 < d := by omega
  have hW : qFr [62, 64, 65, 66, 72, 73, 74, 75] M M := qFr.rfl
  show zG n (0, 0) d 146 (0, [.inr (.inr (some 8)), .inl a1, .inl a2, .inl a3], []) M _
  refine zG_blk (c' := (2, [.inr (.inr (some 8)), .inl a1, .inl a2, .inl a3], [.inl a1, .inr (.inr (some 8))])) 2 hd0 hz (by rfl) ?_
  refine zG_call hd0 hz zp_174 rfl rfl (Nat.le_of_ble_eq_true rfl) ⟨Nat.le_refl _, Nat.le_refl _⟩ (qm_174_8 (by first | exact zdp hd (by decide) | omega) hC  a1 (by first | with_reducible exact ha1 | omega)) (fun vr M1 hr => ?_)
  obtain ⟨hq, x2, rfl, hx2⟩ := hr
  replace hq := hq.symm; subst hq
  show zG n (0, 0) d 146 (5, [.inr (.inr (some 8)), .inl a1, .inl a2, .inl a3], [.inl x2]) M _
  have j22 : zG n (0, 0) d 146 (22, [.inr (.inr (some 8)), .inl a1, .inl a2, .inl a3], []) M (fun v M' => qWf qCI [62, 64, 65, 66, 72, 73, 74, 75] M M' ∧ qRi (fun x => (-2147483648) ≤ x ∧ x ≤ 2147483647) v) := by
    refine zG_blk (c' := (24, [.inr (.inr (some 8)), .inl a1, .inl a2, .inl a3], [.inl (-2)])) 1 hd0 hz (by rfl) ?_
    exact zG_ret hd0 hz rfl rfl ⟨⟨hC, hW⟩, _, rfl, by omega⟩
  refine zG_if_eq hd0 hz rfl (fun hb3 => ?_) (fun hb3 => ?_)
  · exact j22
  · refine zG_blk (c' := (9, [.inr (.inr (some 8)), .inl a1, .inl a2, .inl a3], [.inl a2])) 1 hd0 hz (by rfl) ?_
    refine zG_call hd0 hz zp_170 rfl rfl (Nat.le_of_ble_eq_true rfl) ⟨Nat.le_refl _, Nat.le_refl _⟩ (qm_170 (by first | exact zdp hd (by decide) | omega) hC  a2 (by first | with_reducible exact ha2 | omega)) (fun vr M4 hr => ?_)
    obtain ⟨hq, x5, rfl, hx5⟩ := hr
    replace hq := hq.symm; subst hq
    show zG n (0, 0) d 146 (12, [.inr (.inr (some 8)), .inl a1, .inl a2, .inl a3], [.inl x5]) M _
    refine zG_if_eq hd0 hz rfl (fun hb6 => ?_) (fun hb6 => ?_)
    · exact j22
    · refine zG_blk (c' := (16, [.inr (.inr (some 8)), .inl a1, .inl a2, .inl a3], [.inl a3])) 1 hd0 hz (by rfl) ?_
      refine zG_call hd0 hz zp_170 rfl rfl (Nat.le_of_ble_eq_true rfl) ⟨Nat.le_refl _, Nat.le_refl _⟩ (qm_170 (by first | exact zdp hd (by decide) | omega) hC  a3 (by first | with_reducible exact ha3 | omega)) (fun vr M7 hr => ?_)
      obtain ⟨hq, x8, rfl, hx8⟩ := hr
      replace hq := hq.symm; subst hq
      show zG n (0, 0) d 146 (19, [.inr (.inr (some 8)), .inl a1, .inl a2, .inl a3], [.inl x8]) M _
      refine zG_if_ne hd0 hz rfl (fun hb9 => ?_) (fun hb9 => ?_)
      · refine zG_blk (c' := (31, [.inr (.inr (some 8)), .inl a1, .inl a2, .inl a3], [.inl (-1), .inl a3, .inr (.inr (some 60))])) 4 hd0 hz (by rfl) ?_
        refine zG_call hd0 hz zp_41 rfl rfl (Nat.le_of_ble_eq_true rfl) ⟨Nat.le_refl _, Nat.le_refl _⟩ (qm_41_60 (by first | exact zdp hd (by decide) | omega) hC  a3 (by first | with_reducible exact ha3 | omega) (-1) (by first | decide | omega)) (fun vr M10 hr => ?_)
        obtain ⟨⟨hCM10, hFM10⟩, rfl⟩ := hr
        have hWM10 : qFr [62, 64, 65, 66, 72, 73, 74, 75] M M10 := hW.tr hFM10 (by decide)
        show zG n (0, 0) d 146 (34, [.inr (.inr (some 8)), .inl a1, .inl a2, .inl a3], []) M10 _
        refine zG_blk (c' := (40, [.inr (.inr (some 8)), .inl a1, .inl a2, .inl a3], [.inl a2, .inl a1, .inr (.inr (some 76))])) 4 hd0 hz (by rfl) ?_
        refine zG_call hd0 hz zp_36 rfl rfl (Nat.le_of_ble_eq_true rfl) ⟨Nat.le_refl _, Nat.le_refl _⟩ (qm_36_76 (by first | exact zdp hd (by decide) | omega) hCM10  a1 (by first | with_reducible exact ha1 | omega) a2 (by first | with_reducible exact ha2 | omega)) (fun vr M12 hr => ?_)
        obtain ⟨⟨hCM12, hFM12⟩, x13, rfl, hx13⟩ := hr
        have hWM12 : qFr [62, 64, 65, 66, 72, 73, 74, 75] M M12 := hWM10.tr hFM12 (by decide)
        show zG n (0, 0) d 146 (43, [.inr (.inr (some 8)), .inl a1, .inl a2, .inl a3], [.inl x13]) M12 _
        exact zG_ret hd0 hz rfl rfl ⟨⟨hCM12, hWM12⟩, _, rfl, by omega⟩
      · exact j22
theorem qm_37_76 {n d : Nat} {M : zM} (hd : 7 ≤ d) (hC : qCI M) (a1 : Int) (ha1 : (-2147483648) ≤ a1 ∧ a1 ≤ 2147483647) (a2 : Int) (ha2 : (-2147483648) ≤ a2 ∧ a2 ≤ 2147483647) (a3 : Int) (ha3 : (-2147483648) ≤ a3 ∧ a3 ≤ 2147483647) : qOkM n d 37 [.inr (.inr (some 76)), .inl a1, .inl a2, .inl a3] 7 qCI [62, 64, 65, 66, 72, 73, 74, 75, 80] M (qRi (fun x => (-2147483648) ≤ x ∧ x ≤ 2147483647)) := by
  have hz := zp_37
  have hd0 : 0 < d := by omega
  have hW : qFr [62, 64, 65, 66, 72, 73, 74, 75, 80] M M := qFr.rfl
  show zG n (0, 0) d 37 (0, [.inr (.inr (some 76)), .inl a1, .inl a2, .inl a3, zN, zN, zN], []) M _
  refine zG_blk (c' := (6, [.inr (.inr (some 76)), .inl a1, .inl a2, .inl a3, zN, zN, zN], [.inl (-1), .inl a3, .inr (.inr (some 60))])) 4 hd0 hz (by rfl) ?_
  refine zG_call hd0 hz zp_41 rfl rfl (Nat.le_of_ble_eq_true rfl) ⟨Nat.le_refl _, Nat.le_refl _⟩ (qm_41_60 (by first | exact zdp hd (by decide) | omega) hC  a3 (by first | with_reducible exact ha3 | omega) (-1) (by first | decide | omega)) (fun vr M1 hr => ?_)
  obtain ⟨⟨hCM1, hFM1⟩, rfl⟩ := hr
  have hWM1 : qFr [62, 64, 65, 66, 72, 73, 74, 75, 80] M M1 := hW.tr hFM1 (by decide)
  show zG n (0, 0) d 37 (9, [.inr (.inr (some 76)), .inl a1, .inl a2, .inl a3, zN, zN, zN], []) M1 _
  refine zG_blk (c' := (12, [.inr (.inr (some 76)), .inl a1, .inl a2, .inl a3, .inl 0, zN, zN], [])) 2 hd0 hz (by rfl) ?_
  have j12 : ∀ (N : Nat) (v3 : Int) (M4 : zM) , (20 - v3 : Int).toNat < N → 0 ≤ v3 ∧ v3 ≤ 20 → qCI M4 → qFr [62, 64, 65, 66, 72, 73, 74, 75, 80] M M4 → zG n (0, 0) d 37 (12, [.inr (.inr (some 76)), .inl a1, .inl a2, .inl a3, .inl v3, zN, zN], []) M4 (fun v M' => qWf qCI [62, 64, 65, 66, 72, 73, 74, 75, 80] M M' ∧ qRi (fun x => (-2147483648) ≤ x ∧ x ≤ 2147483647) v) := by
    intro N
    induction N with
    | zero => intro v3 M4 hN hv3 hCM4 hWM4; exact absurd hN (Nat.not_lt_zero _)
    | succ N ih12 =>
      intro v3 M4 hN hv3 hCM4 hWM4
      refine zG_blk (c' := (21, [.inr (.inr (some 76)), .inl a1, .inl a2, .inl a3, .inl v3, zN, zN], [.inr (.inr (some 12)), .inl v3])) 4 hd0 hz (by rfl) ?_
      refine zG_call hd0 hz zp_101 rfl rfl (Nat.le_of_ble_eq_true rfl) ⟨Nat.le_refl _, Nat.le_refl _⟩ (qw_size (by first | exact zdp hd (by decide) | omega) hCM4 (⟨by decide, rfl, rfl⟩ : qT n 12 20 3) ) (fun vr M5 hr => ?_)
      obtain ⟨hq, x6, rfl, hx6⟩ := hr
      replace hq := hq.symm; subst hq
      show zG n (0, 0) d 37 (24, [.inr (.inr (some 76)), .inl a1, .inl a2, .inl a3, .inl v3, zN, zN], [.inl x6, .inl v3]) M4 _
      refine zG_icmp_ge hd0 hz rfl (fun hb7 => ?_) (fun hb7 => ?_)
      · refine zG_blk (c' := (90, [.inr (.inr (some 76)), .inl a1, .inl a2, .inl a3, .inl v3, zN, zN], [.inl a1, .inl a3, .inr (.inr (some 60))])) 4 hd0 hz (by rfl) ?_
        refine zG_call hd0 hz zp_41 rfl rfl (Nat.le_of_ble_eq_true rfl) ⟨Nat.le_refl _, Nat.le_refl _⟩ (qm_41_60 (by first | exact zdp hd (by decide) | omega) hCM4  a3 (by first | with_reducible exact ha3 | omega) a1 (by first | with_reducible exact ha1 | omega)) (fun vr M8 hr => ?_)
        obtain ⟨⟨hCM8, hFM8⟩, rfl⟩ := hr
        have hWM8 : qFr [62, 64, 65, 66, 72, 73, 74, 75, 80] M M8 := hWM4.tr hFM8 (by decide)
        show zG n (0, 0) d 37 (93, [.inr (.inr (some 76)), .inl a1, .inl a2, .inl a3, .inl v3, zN, zN], []) M8 _
        refine zG_blk (c' := (99, [.inr (.inr (some 76)), .inl a1, .inl a2, .inl a3, .inl 0, .inl 0, zN], [])) 4 hd0 hz (by rfl) ?_
        have j99 : ∀ (N : Nat) (v10 v11 : Int) (M12 : zM) , (20 - v11 : Int).toNat < N → (-2147483648) ≤ v10 ∧ v10 ≤ 2147483647 → 0 ≤ v11 ∧ v11 ≤ 20 → qCI M12 → qFr [62, 64, 65, 66, 72, 73, 74, 75, 80] M M12 → zG n (0, 0) d 37 (99, [.inr (.inr (some 76)), .inl a1, .inl a2, .inl a3, .inl v10, .inl v11, zN], []) M12 (fun v M' => qWf qCI [62, 64, 65, 66, 72, 73, 74, 75, 80] M M' ∧ qRi (fun x => (-2147483648) ≤ x ∧ x ≤ 2147483647) v) := by
          intro N
          induction N with
          | zero => intro v10 v11 M12 hN hv10 hv11 hCM12 hWM12; exact absurd hN (Nat.not_lt_zero _)
          | succ N ih99 =>
            intro v10 v11 M12 hN hv10 hv11 hCM12 hWM12
            refine zG_blk (c' := (108, [.inr (.inr (some 76)), .inl a1, .inl a2, .inl a3, .inl v10, .inl v11, zN], [.inr (.inr (some 12)), .inl v11])) 4 hd0 hz (by rfl) ?_
            refine zG_call hd0 hz zp_101 rfl rfl (Nat.le_of_ble_eq_true rfl) ⟨Nat.le_refl _, Nat.le_refl _⟩ (qw_size (by first | exact zdp hd (by decide) | omega) hCM12 (⟨by decide, rfl, rfl⟩ : qT n 12 20 3) ) (fun vr M13 hr => ?_)
            obtain ⟨hq, x14, rfl, hx14⟩ := hr
            replace hq := hq.symm; subst hq
            show zG n (0, 0) d 37 (111, [.inr (.inr (some 76)), .inl a1, .inl a2, .inl a3, .inl v10, .inl v11, zN], [.inl x14, .inl v11]) M12 _
            refine zG_icmp_ge hd0 hz rfl (fun hb15 => ?_) (fun hb15 => ?_)
            · refine zG_blk (c' := (203, [.inr (.inr (some 76)), .inl a1, .inl a2, .inl a3, .inl v10, .inl v11, zN], [.inl v10])) 1 hd0 hz (by rfl) ?_
              exact zG_ret hd0 hz rfl rfl ⟨⟨hCM12, hWM12⟩, _, rfl, by omega⟩
            · refine zG_blk (c' := (121, [.inr (.inr (some 76)), .inl a1, .inl a2, .inl a3, .inl v10, .inl v11, zN], [.inl 0, .inl v11, .inr (.inr (some 79))])) 4 hd0 hz (by rfl) ?_
              refine zG_call hd0 hz zp_106 rfl rfl (Nat.le_of_ble_eq_true rfl) ⟨Nat.le_refl _, Nat.le_refl _⟩ (qw_get (by first | exact zdp hd (by decide) | omega) hCM12 (⟨by decide, rfl, rfl⟩ : qT n 79 20 3) v11 (by first | with_reducible exact hv11 | omega) 0 (by first | decide | omega)) (fun vr M16 hr => ?_)
              obtain ⟨hq, x17, rfl, hx17⟩ := hr
              replace hq := hq.symm; subst hq
              show zG n (0, 0) d 37 (124, [.inr (.inr (some 76)), .inl a1, .inl a2, .inl a3, .inl v10, .inl v11, zN], [.inl x17]) M12 _
              refine zG_blk (c' := (128, [.inr (.inr (some 76)), .inl a1, .inl a2, .inl a3, .inl v10, .inl v11, zN], [.inl a2, .inl v11, .inr (.inr (some 76)), .inl x17])) 3 hd0 hz (by rfl) ?_
              refine zG_call hd0 hz zp_32 rfl rfl (Nat.le_of_ble_eq_true rfl) ⟨Nat.le_refl _, Nat.le_refl _⟩ (qm_32_76 (by first | exact zdp hd (by decide) | omega) hCM12  v11 (by first | with_reducible exact hv11 | omega) a2 (by first | with_reducible exact ha2 | omega)) (fun vr M18 hr => ?_)
              obtain ⟨⟨hCM18, hFM18⟩, x19, rfl, hx19⟩ := hr
              have hWM18 : qFr [62, 64, 65, 66, 72, 73, 74, 75, 80] M M18 := hWM12.tr hFM18 (by decide)
              show zG n (0, 0) d 37 (131, [.inr (.inr (some 76)), .inl a1, .inl a2, .inl a3, .inl v10, .inl v11, zN], [.inl x19, .inl x17]) M18 _
              have j179 : ∀ (v20 : Int) (M21 : zM) , 0 ≤ v20 ∧ v20 ≤ 1 → qCI M21 → qFr [62, 64, 65, 66, 72, 73, 74, 75, 80] M M21 → zG n (0, 0) d 37 (179, [.inr (.inr (some 76)), .inl a1, .inl a2, .inl a3, .inl v10, .inl v11, zN], [.inl v20]) M21 (fun v M' => qWf qCI [62, 64, 65, 66, 72, 73, 74, 75, 80] M M' ∧ qRi (fun x => (-2147483648) ≤ x ∧ x ≤ 2147483647) v) := by
                intro v20 M21 hv20 hCM21 hWM21
                refine zG_blk (c' := (183, [.inr (.inr (some 76)), .inl a1, .inl a2, .inl a3, .inl v10, .inl v11, .inl v20], [.inl v20])) 2 hd0 hz (by rfl) ?_
                have j195 : ∀ (v22 : Int) , (-2147483648) ≤ v22 ∧ v22 ≤ 2147483647 → zG n (0, 0) d 37 (195, [.inr (.inr (some 76)), .inl a1, .inl a2, .inl a3, .inl v22, .inl v11, .inl v20], []) M21 (fun v M' => qWf qCI [62, 64, 65, 66, 72, 73, 74, 75, 80] M M' ∧ qRi (fun x => (-2147483648) ≤ x ∧ x ≤ 2147483647) v) := by
                  intro v22 hv22
                  obtain ⟨x23, hx23⟩ : ∃ x : Int, x = w32 (v11 + 1) := ⟨_, rfl⟩
                  have hx23e : x23 = v11 + 1 := by rw [hx23]; exact w32_id (by omega)
                  refine zG_blk (c' := (99, [.inr (.inr (some 76)), .inl a1, .inl a2, .inl a3, .inl v22, .inl x23, .inl v20], [])) 2 hd0 hz (by subst hx23; rfl) ?_
                  exact zG_weak (ih99 v22 x23 M21 (by omega) (by omega) (by omega) hCM21 hWM21) ⟨.inr rfl, .inr rfl, .inr rfl, .inr rfl, .inr rfl, .inr rfl, .inl rfl, trivial⟩
                refine zG_if_ne hd0 hz rfl (fun hb24 => ?_) (fun hb24 => ?_)
                · exact j195 v10 (by first | with_reducible exact hv10 | omega)
                · obtain ⟨x25, hx25⟩ : ∃ x : Int, x = zbshl 1 v11 := ⟨_, rfl⟩
                  have hx25r : qin x25 := by rw [hx25]; exact qb32 _
                  obtain ⟨x26, hx26⟩ : ∃ x : Int, x = zbor v10 x25 := ⟨_, rfl⟩
                  have hx26r : qin x26 := by rw [hx26]; exact qb32 _
                  refine zG_blk (c' := (195, [.inr (.inr (some 76)), .inl a1, .inl a2, .inl a3, .inl x26, .inl v11, .inl v20], [])) 6 hd0 hz (by subst hx26; subst hx25; rfl) ?_
                  exact j195 x26 (by omega)
              have j178 : ∀ (M27 : zM) , qCI M27 → qFr [62, 64, 65, 66, 72, 73, 74, 75, 80] M M27 → zG n (0, 0) d 37 (178, [.inr (.inr (some 76)), .inl a1, .inl a2, .inl a3, .inl v10, .inl v11, zN], []) M27 (fun v M' => qWf qCI [62, 64, 65, 66, 72, 73, 74, 75, 80] M M' ∧ qRi (fun x => (-2147483648) ≤ x ∧ x ≤ 2147483647) v) := by
                intro M27 hCM27 hWM27
                refine zG_blk (c' := (179, [.inr (.inr (some 76)), .inl a1, .inl a2, .inl a3, .inl v10, .inl v11, zN], [.inl 0])) 1 hd0 hz (by rfl) ?_
                exact j179 0 M27 (by omega) hCM27 hWM27
              refine zG_icmp_ne hd0 hz rfl (fun hb28 => ?_) (fun hb28 => ?_)
              · exact j178 M18 hCM18 hWM18
              · refine zG_blk (c' := (141, [.inr (.inr (some 76)), .inl a1, .inl a2, .inl a3, .inl v10, .inl v11, zN], [.inl 1, .inl v11, .inr (.inr (some 79))])) 4 hd0 hz (by rfl) ?_
                refine zG_call hd0 hz zp_106 rfl rfl (Nat.le_of_ble_eq_true rfl) ⟨Nat.le_refl _, Nat.le_refl _⟩ (qw_get (by first | exact zdp hd (by decide) | omega) hCM18 (⟨by decide, rfl, rfl⟩ : qT n 79 20 3) v11 (by first | with_reducible exact hv11 | omega) 1 (by first | decide | omega)) (fun vr M29 hr => ?_)
                obtain ⟨hq, x30, rfl, hx30⟩ := hr
                replace hq := hq.symm; subst hq
                show zG n (0, 0) d 37 (144, [.inr (.inr (some 76)), .inl a1, .inl a2, .inl a3, .inl v10, .inl v11, zN], [.inl x30]) M18 _
                refine zG_blk (c' := (148, [.inr (.inr (some 76)), .inl a1, .inl a2, .inl a3, .inl v10, .inl v11, zN], [.inl a2, .inl v11, .inr (.inr (some 76)), .inl x30])) 3 hd0 hz (by rfl) ?_
                refine zG_call hd0 hz zp_33 rfl rfl (Nat.le_of_ble_eq_true rfl) ⟨Nat.le_refl _, Nat.le_refl _⟩ (qm_33_76 (by first | exact zdp hd (by decide) | omega) hCM18  v11 (by first | with_reducible exact hv11 | omega) a2 (by first | with_reducible exact ha2 | omega)) (fun vr M31 hr => ?_)
                obtain ⟨⟨hCM31, hFM31⟩, x32, rfl, hx32⟩ := hr
                have hWM31 : qFr [62, 64, 65, 66, 72, 73, 74, 75, 80] M M31 := hWM18.tr hFM31 (by decide)
                show zG n (0, 0) d 37 (151, [.inr (.inr (some 76)), .inl a1, .inl a2, .inl a3, .inl v10, .inl v11, zN], [.inl x32, .inl x30]) M31 _
                refine zG_icmp_ne hd0 hz rfl (fun hb33 => ?_) (fun hb33 => ?_)
                · exact j178 M31 hCM31 hWM31
                · refine zG_blk (c' := (161, [.inr (.inr (some 76)), .inl a1, .inl a2, .inl a3, .inl v10, .inl v11, zN], [.inl 2, .inl v11, .inr (.inr (some 79))])) 4 hd0 hz (by rfl) ?_
                  refine zG_call hd0 hz zp_106 rfl rfl (Nat.le_of_ble_eq_true rfl) ⟨Nat.le_refl _, Nat.le_refl _⟩ (qw_get (by first | exact zdp hd (by decide) | omega) hCM31 (⟨by decide, rfl, rfl⟩ : qT n 79 20 3) v11 (by first | with_reducible exact hv11 | omega) 2 (by first | decide | omega)) (fun vr M34 hr => ?_)
                  obtain ⟨hq, x35, rfl, hx35⟩ := hr
                  replace hq := hq.symm; subst hq
                  show zG n (0, 0) d 37 (164, [.inr (.inr (some 76)), .inl a1, .inl a2, .inl a3, .inl v10, .inl v11, zN], [.inl x35]) M31 _
                  refine zG_blk (c' := (168, [.inr (.inr (some 76)), .inl a1, .inl a2, .inl a3, .inl v10, .inl v11, zN], [.inl a2, .inl v11, .inr (.inr (some 76)), .inl x35])) 3 hd0 hz (by rfl) ?_
                  refine zG_call hd0 hz zp_36 rfl rfl (Nat.le_of_ble_eq_true rfl) ⟨Nat.le_refl _, Nat.le_refl _⟩ (qm_36_76 (by first | exact zdp hd (by decide) | omega) hCM31  v11 (by first | with_reducible exact hv11 | omega) a2 (by first | with_reducible exact ha2 | omega)) (fun vr M36 hr => ?_)
                  obtain ⟨⟨hCM36, hFM36⟩, x37, rfl, hx37⟩ := hr
                  have hWM36 : qFr [62, 64, 65, 66, 72, 73, 74, 75, 80] M M36 := hWM31.tr hFM36 (by decide)
                  show zG n (0, 0) d 37 (171, [.inr (.inr (some 76)), .inl a1, .inl a2, .inl a3, .inl v10, .inl v11, zN], [.inl x37, .inl x35]) M36 _
                  refine zG_icmp_ne hd0 hz rfl (fun hb38 => ?_) (fun hb38 => ?_)
                  · exact j178 M36 hCM36 hWM36
                  · refine zG_blk (c' := (179, [.inr (.inr (some 76)), .inl a1, .inl a2, .inl a3, .inl v10, .inl v11, zN], [.inl 1])) 2 hd0 hz (by rfl) ?_
                    exact j179 1 M36 (by omega) hCM36 hWM36
        exact j99 ((20 - 0 : Int).toNat + 1) 0 0 M8 (by omega) (by omega) (by omega) hCM8 hWM8
      · refine zG_blk (c' := (38, [.inr (.inr (some 76)), .inl a1, .inl a2, .inl a3, .inl v3, zN, zN], [.inl a2, .inl v3, .inr (.inr (some 76)), .inl 0, .inl v3, .inr (.inr (some 79))])) 7 hd0 hz (by rfl) ?_
        refine zG_call hd0 hz zp_32 rfl rfl (Nat.le_of_ble_eq_true rfl) ⟨Nat.le_refl _, Nat.le_refl _⟩ (qm_32_76 (by first | exact zdp hd (by decide) | omega) hCM4  v3 (by first | with_reducible exact hv3 | omega) a2 (by first | with_reducible exact ha2 | omega)) (fun vr M39 hr => ?_)
        obtain ⟨⟨hCM39, hFM39⟩, x40, rfl, hx40⟩ := hr
        have hWM39 : qFr [62, 64, 65, 66, 72, 73, 74, 75, 80] M M39 := hWM4.tr hFM39 (by decide)
        show zG n (0, 0) d 37 (41, [.inr (.inr (some 76)), .inl a1, .inl a2, .inl a3, .inl v3, zN, zN], [.inl x40, .inl 0, .inl v3, .inr (.inr (some 79))]) M39 _
        refine zG_call hd0 hz zp_107 rfl rfl (Nat.le_of_ble_eq_true rfl) ⟨Nat.le_refl _, Nat.le_refl _⟩ (qw_set (by first | exact zdp hd (by decide) | omega) hCM39 (⟨by decide, rfl, rfl⟩ : qT n 79 20 3) v3 (by first | with_reducible exact hv3 | omega) 0 (by first | decide | omega) x40 (by omega)) (fun vr M41 hr => ?_)
        obtain ⟨⟨hCM41, hFM41⟩, rfl⟩ := hr
        have hWM41 : qFr [62, 64, 65, 66, 72, 73, 74, 75, 80] M M41 := hWM39.tr hFM41 (by decide)
        show zG n (0, 0) d 37 (44, [.inr (.inr (some 76)), .inl a1, .inl a2, .inl a3, .inl v3, zN, zN], []) M41 _
        refine zG_blk (c' := (55, [.inr (.inr (some 76)), .inl a1, .inl a2, .inl a3, .inl v3, zN, zN], [.inl a2, .inl v3, .inr (.inr (some 76)), .inl 1, .inl v3, .inr (.inr (some 79))])) 7 hd0 hz (by rfl) ?_
        refine zG_call hd0 hz zp_33 rfl rfl (Nat.le_of_ble_eq_true rfl) ⟨Nat.le_refl _, Nat.le_refl _⟩ (qm_33_76 (by first | exact zdp hd (by decide) | omega) hCM41  v3 (by first | with_reducible exact hv3 | omega) a2 (by first | with_reducible exact ha2 | omega)) (fun vr M43 hr => ?_)
        obtain ⟨⟨hCM43, hFM43⟩, x44, rfl, hx44⟩ := hr
        have hWM43 : qFr [62, 64, 65, 66, 72, 73, 74, 75, 80] M M43 := hWM41.tr hFM43 (by decide)
        show zG n (0, 0) d 37 (58, [.inr (.inr (some 76)), .inl a1, .inl a2, .inl a3, .inl v3, zN, zN], [.inl x44, .inl 1, .inl v3, .inr (.inr (some 79))]) M43 _
        refine zG_call hd0 hz zp_107 rfl rfl (Nat.le_of_ble_eq_true rfl) ⟨Nat.le_refl _, Nat.le_refl _⟩ (qw_set (by first | exact zdp hd (by decide) | omega) hCM43 (⟨by decide, rfl, rfl⟩ : qT n 79 20 3) v3 (by first | with_reducible exact hv3 | omega) 1 (by first | decide | omega) x44 (by omega)) (fun vr M45 hr => ?_)
        obtain ⟨⟨hCM45, hFM45⟩, rfl⟩ := hr
        have hWM45 : qFr [62, 64, 65, 66, 72, 73, 74, 75, 80] M M45 := hWM43.tr hFM45 (by decide)
        show zG n (0, 0) d 37 (61, [.inr (.inr (some 76)), .inl a1, .inl a2, .inl a3, .inl v3, zN, zN], []) M45 _
        refine zG_blk (c' := (72, [.inr (.inr (some 76)), .inl a1, .inl a2, .inl a3, .inl v3, zN, zN], [.inl a2, .inl v3, .inr (.inr (some 76)), .inl 2, .inl v3, .inr (.inr (some 79))])) 7 hd0 hz (by rfl) ?_
        refine zG_call hd0 hz zp_36 rfl rfl (Nat.le_of_ble_eq_true rfl) ⟨Nat.le_refl _, Nat.le_refl _⟩ (qm_36_76 (by first | exact zdp hd (by decide) | omega) hCM45  v3 (by first | with_reducible exact hv3 | omega) a2 (by first | with_reducible exact ha2 | omega)) (fun vr M47 hr => ?_)
        obtain ⟨⟨hCM47, hFM47⟩, x48, rfl, hx48⟩ := hr
        have hWM47 : qFr [62, 64, 65, 66, 72, 73, 74, 75, 80] M M47 := hWM45.tr hFM47 (by decide)
        show zG n (0, 0) d 37 (75, [.inr (.inr (some 76)), .inl a1, .inl a2, .inl a3, .inl v3, zN, zN], [.inl x48, .inl 2, .inl v3, .inr (.inr (some 79))]) M47 _
        refine zG_call hd0 hz zp_107 rfl rfl (Nat.le_of_ble_eq_true rfl) ⟨Nat.le_refl _, Nat.le_refl _⟩ (qw_set (by first | exact zdp hd (by decide) | omega) hCM47 (⟨by decide, rfl, rfl⟩ : qT n 79 20 3) v3 (by first | with_reducible exact hv3 | omega) 2 (by first | decide | omega) x48 (by omega)) (fun vr M49 hr => ?_)
        obtain ⟨⟨hCM49, hFM49⟩, rfl⟩ := hr
        have hWM49 : qFr [62, 64, 65, 66, 72, 73, 74, 75, 80] M M49 := hWM47.tr hFM49 (by decide)
        show zG n (0, 0) d 37 (78, [.inr (.inr (some 76)), .inl a1, .inl a2, .inl a3, .inl v3, zN, zN], []) M49 _
        obtain ⟨x51, hx51⟩ : ∃ x : Int, x = w32 (v3 + 1) := ⟨_, rfl⟩
        have hx51e : x51 = v3 + 1 := by rw [hx51]; exact w32_id (by omega)
        refine zG_blk (c' := (12, [.inr (.inr (some 76)), .inl a1, .inl a2, .inl a3, .inl x51, zN, zN], [])) 2 hd0 hz (by subst hx51; rfl) ?_
        exact ih12 x51 M49 (by omega) (by omega) hCM49 hWM49
  exact j12 ((20 - 0 : Int).toNat + 1) 0 M1 (by omega) (by omega) hCM1 hWM1
theorem qm_147_8 {n d : Nat} {M : zM} (hd : 8 ≤ d) (hC : qCI M) (a1 : Int) (ha1 : (-2147483648) ≤ a1 ∧ a1 ≤ 2147483647) (a2 : Int) (ha2 : (-2147483648) ≤ a2 ∧ a2 ≤ 2147483647) (a3 : Int) (ha3 : (-2147483648) ≤ a3 ∧ a3 ≤ 2147483647) : qOkM n d 147 [.inr (.inr (some 8)), .inl a1, .inl a2, .inl a3] 4 qCI [62, 64, 65, 66, 72, 73, 74, 75, 80] M (qRi (fun x => (-2147483648) ≤ x ∧ x ≤ 2147483647)) := by
  have hz := zp_147
  have hd0 : 0 < d := by omega
  have hW : qFr [62, 64, 65, 66, 72, 73, 74, 75, 80] M M := qFr.rfl
  show zG n (0, 0) d 147 (0, [.inr (.inr (some 8)), .inl a1, .inl a2, .inl a3], []) M _
  refine zG_blk (c' := (8, [.inr (.inr (some 8)), .inl a1, .inl a2, .inl a3], [.inl a1, .inr (.inr (some 16))])) 4 hd0 hz (by rfl) ?_
  refine zG_call hd0 hz zp_102 rfl rfl (Nat.le_of_ble_eq_true rfl) ⟨Nat.le_refl _, Nat.le_refl _⟩ (qw_has (by first | exact zdp hd (by decide) | omega) hC (⟨by decide, rfl, rfl⟩ : qT n 16 40 5) a1 (by first | with_reducible exact ha1 | omega)) (fun vr M1 hr => ?_)
  obtain ⟨hq, x2, rfl, hx2⟩ := hr
  replace hq := hq.symm; subst hq
  show zG n (0, 0) d 147 (11, [.inr (.inr (some 8)), .inl a1, .inl a2, .inl a3], [.inl x2]) M _
  have j28 : zG n (0, 0) d 147 (28, [.inr (.inr (some 8)), .inl a1, .inl a2, .inl a3], []) M (fun v M' => qWf qCI [62, 64, 65, 66, 72, 73, 74, 75, 80] M M' ∧ qRi (fun x => (-2147483648) ≤ x ∧ x ≤ 2147483647) v) := by
    refine zG_blk (c' := (30, [.inr (.inr (some 8)), .inl a1, .inl a2, .inl a3], [.inl (-2)])) 1 hd0 hz (by rfl) ?_
    exact zG_ret hd0 hz rfl rfl ⟨⟨hC, hW⟩, _, rfl, by omega⟩
  refine zG_if_eq hd0 hz rfl (fun hb3 => ?_) (fun hb3 => ?_)
  · exact j28
  · refine zG_blk (c' := (15, [.inr (.inr (some 8)), .inl a1, .inl a2, .inl a3], [.inl a2])) 1 hd0 hz (by rfl) ?_
    refine zG_call hd0 hz zp_170 rfl rfl (Nat.le_of_ble_eq_true rfl) ⟨Nat.le_refl _, Nat.le_refl _⟩ (qm_170 (by first | exact zdp hd (by decide) | omega) hC  a2 (by first | with_reducible exact ha2 | omega)) (fun vr M4 hr => ?_)
    obtain ⟨hq, x5, rfl, hx5⟩ := hr
    replace hq := hq.symm; subst hq
    show zG n (0, 0) d 147 (18, [.inr (.inr (some 8)), .inl a1, .inl a2, .inl a3], [.inl x5]) M _
    refine zG_if_eq hd0 hz rfl (fun hb6 => ?_) (fun hb6 => ?_)
    · exact j28
    · refine zG_blk (c' := (22, [.inr (.inr (some 8)), .inl a1, .inl a2, .inl a3], [.inl a3])) 1 hd0 hz (by rfl) ?_
      refine zG_call hd0 hz zp_170 rfl rfl (Nat.le_of_ble_eq_true rfl) ⟨Nat.le_refl _, Nat.le_refl _⟩ (qm_170 (by first | exact zdp hd (by decide) | omega) hC  a3 (by first | with_reducible exact ha3 | omega)) (fun vr M7 hr => ?_)
      obtain ⟨hq, x8, rfl, hx8⟩ := hr
      replace hq := hq.symm; subst hq
      show zG n (0, 0) d 147 (25, [.inr (.inr (some 8)), .inl a1, .inl a2, .inl a3], [.inl x8]) M _
      refine zG_if_ne hd0 hz rfl (fun hb9 => ?_) (fun hb9 => ?_)
      · refine zG_blk (c' := (36, [.inr (.inr (some 8)), .inl a1, .inl a2, .inl a3], [.inl a1, .inr (.inr (some 9))])) 3 hd0 hz (by rfl) ?_
        refine zG_call hd0 hz zp_20 rfl rfl (Nat.le_of_ble_eq_true rfl) ⟨Nat.le_refl _, Nat.le_refl _⟩ (qm_20_9 (by first | exact zdp hd (by decide) | omega) hC  a1 (by first | with_reducible exact ha1 | omega)) (fun vr M10 hr => ?_)
        obtain ⟨hq, x11, rfl, hx11⟩ := hr
        replace hq := hq.symm; subst hq
        show zG n (0, 0) d 147 (39, [.inr (.inr (some 8)), .inl a1, .inl a2, .inl a3], [.inl x11]) M _
        have j57 : ∀ (v12 : Int) (M13 : zM) , (-2147483648) ≤ v12 ∧ v12 ≤ 2147483647 → qCI M13 → qFr [62, 64, 65, 66, 72, 73, 74, 75, 80] M M13 → zG n (0, 0) d 147 (57, [.inr (.inr (some 8)), .inl a1, .inl a2, .inl a3], [.inl v12]) M13 (fun v M' => qWf qCI [62, 64, 65, 66, 72, 73, 74, 75, 80] M M' ∧ qRi (fun x => (-2147483648) ≤ x ∧ x ≤ 2147483647) v) := by
          intro v12 M13 hv12 hCM13 hWM13
          exact zG_ret hd0 hz rfl rfl ⟨⟨hCM13, hWM13⟩, _, rfl, by omega⟩
        refine zG_if_eq hd0 hz rfl (fun hb14 => ?_) (fun hb14 => ?_)
        · refine zG_blk (c' := (57, [.inr (.inr (some 8)), .inl a1, .inl a2, .inl a3], [.inl (-3)])) 1 hd0 hz (by rfl) ?_
          exact j57 (-3) M (by omega) hC hW
        · refine zG_blk (c' := (49, [.inr (.inr (some 8)), .inl a1, .inl a2, .inl a3], [.inl a3, .inl a2, .inl a1, .inr (.inr (some 76))])) 5 hd0 hz (by rfl) ?_
          refine zG_call hd0 hz zp_37 rfl rfl (Nat.le_of_ble_eq_true rfl) ⟨Nat.le_refl _, Nat.le_refl _⟩ (qm_37_76 (by first | exact zdp hd (by decide) | omega) hC  a1 (by first | with_reducible exact ha1 | omega) a2 (by first | with_reducible exact ha2 | omega) a3 (by first | with_reducible exact ha3 | omega)) (fun vr M15 hr => ?_)
          obtain ⟨⟨hCM15, hFM15⟩, x16, rfl, hx16⟩ := hr
          have hWM15 : qFr [62, 64, 65, 66, 72, 73, 74, 75, 80] M M15 := hW.tr hFM15 (by decide)
          show zG n (0, 0) d 147 (52, [.inr (.inr (some 8)), .inl a1, .inl a2, .inl a3], [.inl x16]) M15 _
          refine zG_blk (c' := (57, [.inr (.inr (some 8)), .inl a1, .inl a2, .inl a3], [.inl x16])) 1 hd0 hz (by rfl) ?_
          exact j57 x16 M15 (by omega) hCM15 hWM15
      · exact j28
