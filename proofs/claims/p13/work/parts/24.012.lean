theorem qm_32_76 {n d : Nat} {M : zM} (hd : 4 ≤ d) (hC : qCI M) (a1 : Int) (ha1 : (-2147483648) ≤ a1 ∧ a1 ≤ 2147483647) (a2 : Int) (ha2 : (-2147483648) ≤ a2 ∧ a2 ≤ 2147483647) : qOkM n d 32 [.inr (.inr (some 76)), .inl a1, .inl a2] 6 qCI [72, 73, 74] M (qRi (fun x => (-2147483648) ≤ x ∧ x ≤ 2147483647)) := by
  have hz := zp_32
  have hd0 : 0 < d := by omega
  have hW : qFr [72, 73, 74] M M := qFr.rfl
  show zG n (0, 0) d 32 (0, [.inr (.inr (some 76)), .inl a1, .inl a2, zN, zN, zN], []) M _
  refine zG_blk (c' := (3, [.inr (.inr (some 76)), .inl a1, .inl a2, zN, zN, zN], [.inl a2, .inl a1, .inr (.inr (some 76))])) 3 hd0 hz (by rfl) ?_
  refine zG_call hd0 hz zp_29 rfl rfl (Nat.le_of_ble_eq_true rfl) ⟨Nat.le_refl _, Nat.le_refl _⟩ (qm_29_76 (by first | exact zdp hd (by decide) | omega) hC  a1 (by first | with_reducible exact ha1 | omega) a2 (by first | with_reducible exact ha2 | omega)) (fun vr M1 hr => ?_)
  obtain ⟨hq, x2, rfl, hx2⟩ := hr
  replace hq := hq.symm; subst hq
  show zG n (0, 0) d 32 (6, [.inr (.inr (some 76)), .inl a1, .inl a2, zN, zN, zN], [.inl x2]) M _
  refine zG_blk (c' := (13, [.inr (.inr (some 76)), .inl a1, .inl a2, .inl x2, .inl 0, .inl 0], [])) 5 hd0 hz (by rfl) ?_
  have j13 : ∀ (N : Nat) (v3 v4 : Int) (M5 : zM) , (14 - v4 : Int).toNat < N → (-2147483648) ≤ v3 ∧ v3 ≤ 2147483647 → 0 ≤ v4 ∧ v4 ≤ 14 → qCI M5 → qFr [72, 73, 74] M M5 → zG n (0, 0) d 32 (13, [.inr (.inr (some 76)), .inl a1, .inl a2, .inl x2, .inl v3, .inl v4], []) M5 (fun v M' => qWf qCI [72, 73, 74] M M' ∧ qRi (fun x => (-2147483648) ≤ x ∧ x ≤ 2147483647) v) := by
    intro N
    induction N with
    | zero => intro v3 v4 M5 hN hv3 hv4 hCM5 hWM5; exact absurd hN (Nat.not_lt_zero _)
    | succ N ih13 =>
      intro v3 v4 M5 hN hv3 hv4 hCM5 hWM5
      refine zG_blk (c' := (22, [.inr (.inr (some 76)), .inl a1, .inl a2, .inl x2, .inl v3, .inl v4], [.inr (.inr (some 10)), .inl v4])) 4 hd0 hz (by rfl) ?_
      refine zG_call hd0 hz zp_101 rfl rfl (Nat.le_of_ble_eq_true rfl) ⟨Nat.le_refl _, Nat.le_refl _⟩ (qw_size (by first | exact zdp hd (by decide) | omega) hCM5 (⟨by decide, rfl, rfl⟩ : qT n 10 14 4) ) (fun vr M6 hr => ?_)
      obtain ⟨hq, x7, rfl, hx7⟩ := hr
      replace hq := hq.symm; subst hq
      show zG n (0, 0) d 32 (25, [.inr (.inr (some 76)), .inl a1, .inl a2, .inl x2, .inl v3, .inl v4], [.inl x7, .inl v4]) M5 _
      refine zG_icmp_ge hd0 hz rfl (fun hb8 => ?_) (fun hb8 => ?_)
      · refine zG_blk (c' := (78, [.inr (.inr (some 76)), .inl a1, .inl a2, .inl x2, .inl v3, .inl v4], [.inl v3])) 1 hd0 hz (by rfl) ?_
        exact zG_ret hd0 hz rfl rfl ⟨⟨hCM5, hWM5⟩, _, rfl, by omega⟩
      · refine zG_blk (c' := (34, [.inr (.inr (some 76)), .inl a1, .inl a2, .inl x2, .inl v3, .inl v4], [.inl v3, .inl v4, .inl a1, .inr (.inr (some 76))])) 4 hd0 hz (by rfl) ?_
        refine zG_call hd0 hz zp_38 rfl rfl (Nat.le_of_ble_eq_true rfl) ⟨Nat.le_refl _, Nat.le_refl _⟩ (qm_38_76 (by first | exact zdp hd (by decide) | omega) hCM5  a1 (by first | with_reducible exact ha1 | omega) v4 (by first | with_reducible exact hv4 | omega) v3 (by first | with_reducible exact hv3 | omega)) (fun vr M9 hr => ?_)
        obtain ⟨⟨hCM9, hFM9⟩, rfl⟩ := hr
        have hWM9 : qFr [72, 73, 74] M M9 := hWM5.tr hFM9 (by decide)
        show zG n (0, 0) d 32 (37, [.inr (.inr (some 76)), .inl a1, .inl a2, .inl x2, .inl v3, .inl v4], []) M9 _
        refine zG_blk (c' := (43, [.inr (.inr (some 76)), .inl a1, .inl a2, .inl x2, .inl v3, .inl v4], [.inl x2, .inr (.inr (some 76)), .inr (.inr (some 72))])) 4 hd0 hz (by rfl) ?_
        refine zG_call hd0 hz zp_31 rfl rfl (Nat.le_of_ble_eq_true rfl) ⟨Nat.le_refl _, Nat.le_refl _⟩ (qm_31_76 (by first | exact zdp hd (by decide) | omega) hCM9  x2 (by omega)) (fun vr M11 hr => ?_)
        obtain ⟨hq, hv⟩ := hr
        replace hq := hq.symm; subst hq
        rcases hv with rfl | rfl
        · show zG n (0, 0) d 32 (46, [.inr (.inr (some 76)), .inl a1, .inl a2, .inl x2, .inl v3, .inl v4], [.inr (.inr (some 22)), .inr (.inr (some 72))]) M9 _
          obtain ⟨x13, hx13⟩ : ∃ x : Int, x = (if x2 < 0 then 0 else x2) := ⟨_, rfl⟩
          have hx13r := qite hx13
          refine zG_blk (c' := (53, [.inr (.inr (some 76)), .inl a1, .inl a2, .inl x2, .inl v3, .inl v4], [.inl 0, .inl 2, .inl x13, .inr (.inr (some 22)), .inr (.inr (some 72))])) 5 hd0 hz (by subst hx13; rfl) ?_
          refine zG_call hd0 hz zp_62 rfl rfl (Nat.le_of_ble_eq_true rfl) ⟨Nat.le_refl _, Nat.le_refl _⟩ (qm_62_72_22 (by first | exact zdp hd (by decide) | omega) hCM9  x13 (by omega) 2 (by first | decide | omega) 0 (by first | decide | omega)) (fun vr M14 hr => ?_)
          obtain ⟨⟨hCM14, hFM14⟩, x15, rfl⟩ := hr
          have hWM14 : qFr [72, 73, 74] M M14 := hWM9.tr hFM14 (by decide)
          show zG n (0, 0) d 32 (56, [.inr (.inr (some 76)), .inl a1, .inl a2, .inl x2, .inl v3, .inl v4], [.inr (.inl (x15))]) M14 _
          refine zG_blk (c' := (57, [.inr (.inr (some 76)), .inl a1, .inl a2, .inl x2, .inl v3, .inl v4], [.inr (.inl (0)), .inr (.inl (x15))])) 1 hd0 hz (by rfl) ?_
          have j70 : ∀ (v16 : Int) , (-2147483648) ≤ v16 ∧ v16 ≤ 2147483647 → zG n (0, 0) d 32 (70, [.inr (.inr (some 76)), .inl a1, .inl a2, .inl x2, .inl v16, .inl v4], []) M14 (fun v M' => qWf qCI [72, 73, 74] M M' ∧ qRi (fun x => (-2147483648) ≤ x ∧ x ≤ 2147483647) v) := by
            intro v16 hv16
            obtain ⟨x17, hx17⟩ : ∃ x : Int, x = w32 (v4 + 1) := ⟨_, rfl⟩
            have hx17e : x17 = v4 + 1 := by rw [hx17]; exact w32_id (by omega)
            refine zG_blk (c' := (13, [.inr (.inr (some 76)), .inl a1, .inl a2, .inl x2, .inl v16, .inl x17], [])) 2 hd0 hz (by subst hx17; rfl) ?_
            exact ih13 v16 x17 M14 (by omega) (by omega) (by omega) hCM14 hWM14
          refine zG_lc_eq hd0 hz rfl rfl (fun hb57 => ?_) (fun hb57 => ?_)
          · exact j70 v3 (by first | with_reducible exact hv3 | omega)
          · obtain ⟨x18, hx18⟩ : ∃ x : Int, x = zbshl 1 v4 := ⟨_, rfl⟩
            have hx18r : qin x18 := by rw [hx18]; exact qb32 _
            obtain ⟨x19, hx19⟩ : ∃ x : Int, x = zbor v3 x18 := ⟨_, rfl⟩
            have hx19r : qin x19 := by rw [hx19]; exact qb32 _
            refine zG_blk (c' := (70, [.inr (.inr (some 76)), .inl a1, .inl a2, .inl x2, .inl x19, .inl v4], [])) 6 hd0 hz (by subst hx19; subst hx18; rfl) ?_
            exact j70 x19 (by omega)
        · show zG n (0, 0) d 32 (46, [.inr (.inr (some 76)), .inl a1, .inl a2, .inl x2, .inl v3, .inl v4], [.inr (.inr (some 77)), .inr (.inr (some 72))]) M9 _
          obtain ⟨x20, hx20⟩ : ∃ x : Int, x = (if x2 < 0 then 0 else x2) := ⟨_, rfl⟩
          have hx20r := qite hx20
          refine zG_blk (c' := (53, [.inr (.inr (some 76)), .inl a1, .inl a2, .inl x2, .inl v3, .inl v4], [.inl 0, .inl 2, .inl x20, .inr (.inr (some 77)), .inr (.inr (some 72))])) 5 hd0 hz (by subst hx20; rfl) ?_
          refine zG_call hd0 hz zp_62 rfl rfl (Nat.le_of_ble_eq_true rfl) ⟨Nat.le_refl _, Nat.le_refl _⟩ (qm_62_72_77 (by first | exact zdp hd (by decide) | omega) hCM9  x20 (by omega) 2 (by first | decide | omega) 0 (by first | decide | omega)) (fun vr M21 hr => ?_)
          obtain ⟨⟨hCM21, hFM21⟩, x22, rfl⟩ := hr
          have hWM21 : qFr [72, 73, 74] M M21 := hWM9.tr hFM21 (by decide)
          show zG n (0, 0) d 32 (56, [.inr (.inr (some 76)), .inl a1, .inl a2, .inl x2, .inl v3, .inl v4], [.inr (.inl (x22))]) M21 _
          refine zG_blk (c' := (57, [.inr (.inr (some 76)), .inl a1, .inl a2, .inl x2, .inl v3, .inl v4], [.inr (.inl (0)), .inr (.inl (x22))])) 1 hd0 hz (by rfl) ?_
          have j70 : ∀ (v23 : Int) , (-2147483648) ≤ v23 ∧ v23 ≤ 2147483647 → zG n (0, 0) d 32 (70, [.inr (.inr (some 76)), .inl a1, .inl a2, .inl x2, .inl v23, .inl v4], []) M21 (fun v M' => qWf qCI [72, 73, 74] M M' ∧ qRi (fun x => (-2147483648) ≤ x ∧ x ≤ 2147483647) v) := by
            intro v23 hv23
            obtain ⟨x24, hx24⟩ : ∃ x : Int, x = w32 (v4 + 1) := ⟨_, rfl⟩
            have hx24e : x24 = v4 + 1 := by rw [hx24]; exact w32_id (by omega)
            refine zG_blk (c' := (13, [.inr (.inr (some 76)), .inl a1, .inl a2, .inl x2, .inl v23, .inl x24], [])) 2 hd0 hz (by subst hx24; rfl) ?_
            exact ih13 v23 x24 M21 (by omega) (by omega) (by omega) hCM21 hWM21
          refine zG_lc_eq hd0 hz rfl rfl (fun hb57 => ?_) (fun hb57 => ?_)
          · exact j70 v3 (by first | with_reducible exact hv3 | omega)
          · obtain ⟨x25, hx25⟩ : ∃ x : Int, x = zbshl 1 v4 := ⟨_, rfl⟩
            have hx25r : qin x25 := by rw [hx25]; exact qb32 _
            obtain ⟨x26, hx26⟩ : ∃ x : Int, x = zbor v3 x25 := ⟨_, rfl⟩
            have hx26r : qin x26 := by rw [hx26]; exact qb32 _
            refine zG_blk (c' := (70, [.inr (.inr (some 76)), .inl a1, .inl a2, .inl x2, .inl x26, .inl v4], [])) 6 hd0 hz (by subst hx26; subst hx25; rfl) ?_
            exact j70 x26 (by omega)
  exact j13 ((14 - 0 : Int).toNat + 1) 0 0 M (by omega) (by omega) (by omega) hC hW
theorem qm_142_8 {n d : Nat} {M : zM} (hd : 7 ≤ d) (hC : qCI M) (a1 : Int) (ha1 : (-2147483648) ≤ a1 ∧ a1 ≤ 2147483647) (a2 : Int) (ha2 : (-2147483648) ≤ a2 ∧ a2 ≤ 2147483647) (a3 : Int) (ha3 : (-2147483648) ≤ a3 ∧ a3 ≤ 2147483647) : qOkM n d 142 [.inr (.inr (some 8)), .inl a1, .inl a2, .inl a3] 4 qCI [62, 64, 65, 66, 72, 73, 74] M (qRi (fun x => (-2147483648) ≤ x ∧ x ≤ 2147483647)) := by
  have hz := zp_142
  have hd0 : 0 < d := by omega
  have hW : qFr [62, 64, 65, 66, 72, 73, 74] M M := qFr.rfl
  show zG n (0, 0) d 142 (0, [.inr (.inr (some 8)), .inl a1, .inl a2, .inl a3], []) M _
  refine zG_blk (c' := (2, [.inr (.inr (some 8)), .inl a1, .inl a2, .inl a3], [.inl a1, .inr (.inr (some 8))])) 2 hd0 hz (by rfl) ?_
  refine zG_call hd0 hz zp_174 rfl rfl (Nat.le_of_ble_eq_true rfl) ⟨Nat.le_refl _, Nat.le_refl _⟩ (qm_174_8 (by first | exact zdp hd (by decide) | omega) hC  a1 (by first | with_reducible exact ha1 | omega)) (fun vr M1 hr => ?_)
  obtain ⟨hq, x2, rfl, hx2⟩ := hr
  replace hq := hq.symm; subst hq
  show zG n (0, 0) d 142 (5, [.inr (.inr (some 8)), .inl a1, .inl a2, .inl a3], [.inl x2]) M _
  have j22 : zG n (0, 0) d 142 (22, [.inr (.inr (some 8)), .inl a1, .inl a2, .inl a3], []) M (fun v M' => qWf qCI [62, 64, 65, 66, 72, 73, 74] M M' ∧ qRi (fun x => (-2147483648) ≤ x ∧ x ≤ 2147483647) v) := by
    refine zG_blk (c' := (24, [.inr (.inr (some 8)), .inl a1, .inl a2, .inl a3], [.inl (-2)])) 1 hd0 hz (by rfl) ?_
    exact zG_ret hd0 hz rfl rfl ⟨⟨hC, hW⟩, _, rfl, by omega⟩
  refine zG_if_eq hd0 hz rfl (fun hb3 => ?_) (fun hb3 => ?_)
  · exact j22
  · refine zG_blk (c' := (9, [.inr (.inr (some 8)), .inl a1, .inl a2, .inl a3], [.inl a2])) 1 hd0 hz (by rfl) ?_
    refine zG_call hd0 hz zp_170 rfl rfl (Nat.le_of_ble_eq_true rfl) ⟨Nat.le_refl _, Nat.le_refl _⟩ (qm_170 (by first | exact zdp hd (by decide) | omega) hC  a2 (by first | with_reducible exact ha2 | omega)) (fun vr M4 hr => ?_)
    obtain ⟨hq, x5, rfl, hx5⟩ := hr
    replace hq := hq.symm; subst hq
    show zG n (0, 0) d 142 (12, [.inr (.inr (some 8)), .inl a1, .inl a2, .inl a3], [.inl x5]) M _
    refine zG_if_eq hd0 hz rfl (fun hb6 => ?_) (fun hb6 => ?_)
    · exact j22
    · refine zG_blk (c' := (16, [.inr (.inr (some 8)), .inl a1, .inl a2, .inl a3], [.inl a3])) 1 hd0 hz (by rfl) ?_
      refine zG_call hd0 hz zp_170 rfl rfl (Nat.le_of_ble_eq_true rfl) ⟨Nat.le_refl _, Nat.le_refl _⟩ (qm_170 (by first | exact zdp hd (by decide) | omega) hC  a3 (by first | with_reducible exact ha3 | omega)) (fun vr M7 hr => ?_)
      obtain ⟨hq, x8, rfl, hx8⟩ := hr
      replace hq := hq.symm; subst hq
      show zG n (0, 0) d 142 (19, [.inr (.inr (some 8)), .inl a1, .inl a2, .inl a3], [.inl x8]) M _
      refine zG_if_ne hd0 hz rfl (fun hb9 => ?_) (fun hb9 => ?_)
      · refine zG_blk (c' := (31, [.inr (.inr (some 8)), .inl a1, .inl a2, .inl a3], [.inl (-1), .inl a3, .inr (.inr (some 60))])) 4 hd0 hz (by rfl) ?_
        refine zG_call hd0 hz zp_41 rfl rfl (Nat.le_of_ble_eq_true rfl) ⟨Nat.le_refl _, Nat.le_refl _⟩ (qm_41_60 (by first | exact zdp hd (by decide) | omega) hC  a3 (by first | with_reducible exact ha3 | omega) (-1) (by first | decide | omega)) (fun vr M10 hr => ?_)
        obtain ⟨⟨hCM10, hFM10⟩, rfl⟩ := hr
        have hWM10 : qFr [62, 64, 65, 66, 72, 73, 74] M M10 := hW.tr hFM10 (by decide)
        show zG n (0, 0) d 142 (34, [.inr (.inr (some 8)), .inl a1, .inl a2, .inl a3], []) M10 _
        refine zG_blk (c' := (40, [.inr (.inr (some 8)), .inl a1, .inl a2, .inl a3], [.inl a2, .inl a1, .inr (.inr (some 76))])) 4 hd0 hz (by rfl) ?_
        refine zG_call hd0 hz zp_32 rfl rfl (Nat.le_of_ble_eq_true rfl) ⟨Nat.le_refl _, Nat.le_refl _⟩ (qm_32_76 (by first | exact zdp hd (by decide) | omega) hCM10  a1 (by first | with_reducible exact ha1 | omega) a2 (by first | with_reducible exact ha2 | omega)) (fun vr M12 hr => ?_)
        obtain ⟨⟨hCM12, hFM12⟩, x13, rfl, hx13⟩ := hr
        have hWM12 : qFr [62, 64, 65, 66, 72, 73, 74] M M12 := hWM10.tr hFM12 (by decide)
        show zG n (0, 0) d 142 (43, [.inr (.inr (some 8)), .inl a1, .inl a2, .inl a3], [.inl x13]) M12 _
        exact zG_ret hd0 hz rfl rfl ⟨⟨hCM12, hWM12⟩, _, rfl, by omega⟩
      · exact j22
theorem qm_59_72 {n d : Nat} {M : zM} (hd : 1 ≤ d) (hC : qCI M) (a1 : Int) (ha1 : (-2147483648) ≤ a1 ∧ a1 ≤ 2147483647) : qOkM n d 59 [.inr (.inr (some 72)), .inl a1] 3 qCI [72, 75] M qRn := by
  have hz := zp_59
  have hd0 : 0 < d := by omega
  have hW : qFr [72, 75] M M := qFr.rfl
  show zG n (0, 0) d 59 (0, [.inr (.inr (some 72)), .inl a1, zN], []) M _
  have r1 := hC.rk
  obtain ⟨x2, hx2⟩ : ∃ x : Int, x = (if 13 < (M 72 3) then 13 else (M 72 3)) := ⟨_, rfl⟩
  have hx2r := qite hx2
  refine zG_blk (c' := (15, [.inr (.inr (some 72)), .inl a1, .inl x2], [])) 9 hd0 hz (by subst hx2; rfl) ?_
  have j15 : ∀ (N : Nat) (v3 : Int) (M4 : zM) , (v3 : Int).toNat < N → 0 ≤ v3 ∧ v3 ≤ 13 → qCI M4 → qFr [72, 75] M M4 → zG n (0, 0) d 59 (15, [.inr (.inr (some 72)), .inl a1, .inl v3], []) M4 (fun v M' => qWf qCI [72, 75] M M' ∧ qRn v) := by
    intro N
    induction N with
    | zero => intro v3 M4 hN hv3 hCM4 hWM4; exact absurd hN (Nat.not_lt_zero _)
    | succ N ih15 =>
      intro v3 M4 hN hv3 hCM4 hWM4
      refine zG_blk (c' := (16, [.inr (.inr (some 72)), .inl a1, .inl v3], [.inl v3])) 1 hd0 hz (by rfl) ?_
      have j51 : zG n (0, 0) d 59 (51, [.inr (.inr (some 72)), .inl a1, .inl v3], []) M4 (fun v M' => qWf qCI [72, 75] M M' ∧ qRn v) := by
        refine zG_blk (c' := (57, [.inr (.inr (some 72)), .inl a1, .inl v3], [.inl a1, .inl v3, .inr (.inr (some 75))])) 4 hd0 hz (by rfl) ?_
        refine zG_iast hd0 hz rfl rfl (by omega) ?_
        obtain ⟨M5, hM5⟩ : ∃ X : zM, X = zput M4 75 (v3 : Int).toNat a1 := ⟨_, rfl⟩
        rw [← hM5]
        have hCM5 : qCI M5 := by rw [hM5]; exact hCM4.put (r := 75) rfl (.inl (by omega))
        have hWM5 : qFr [72, 75] M M5 := by rw [hM5]; exact hWM4.put (by decide)
        show zG n (0, 0) d 59 (58, [.inr (.inr (some 72)), .inl a1, .inl v3], []) M5 _
        have r6 := hCM5.rk
        obtain ⟨x7, hx7⟩ : ∃ x : Int, x = w32 ((M5 72 3) + 1) := ⟨_, rfl⟩
        have hx7e : x7 = (M5 72 3) + 1 := by rw [hx7]; exact w32_id (by omega)
        obtain ⟨x8, hx8⟩ : ∃ x : Int, x = (if 14 < x7 then 14 else x7) := ⟨_, rfl⟩
        have hx8r := qite hx8
        refine zG_blk (c' := (73, [.inr (.inr (some 72)), .inl a1, .inl v3], [.inl x8, .inr (.inr (some 72))])) 9 hd0 hz (by subst hx8; subst hx7; rfl) ?_
        refine zG_putf (.inl rfl) hd0 hz rfl (by decide) rfl rfl ?_
        obtain ⟨M9, hM9⟩ : ∃ X : zM, X = zput M5 72 3 x8 := ⟨_, rfl⟩
        rw [← hM9]
        have hCM9 : qCI M9 := by rw [hM9]; exact hCM5.putRk (by omega)
        have hWM9 : qFr [72, 75] M M9 := by rw [hM9]; exact hWM5.put (by decide)
        have e10 : M9 72 3 = x8 := by rw [hM9]; exact qput_eq
        show zG n (0, 0) d 59 (76, [.inr (.inr (some 72)), .inl a1, .inl v3], []) M9 _
        exact zG_ret hd0 hz rfl rfl ⟨⟨hCM9, hWM9⟩, rfl⟩
      refine zG_if_le hd0 hz rfl (fun hb11 => ?_) (fun hb11 => ?_)
      · exact j51
      · obtain ⟨x12, hx12⟩ : ∃ x : Int, x = w32 (v3 - 1) := ⟨_, rfl⟩
        have hx12e : x12 = v3 - 1 := by rw [hx12]; exact w32_id (by omega)
        refine zG_blk (c' := (26, [.inr (.inr (some 72)), .inl a1, .inl v3], [.inl x12, .inr (.inr (some 75))])) 5 hd0 hz (by subst hx12; rfl) ?_
        refine zG_iald hd0 hz rfl rfl (.inl rfl) (by omega) ?_
        have hx13 := hCM4.rng 75 (x12 : Int).toNat (by decide) (by decide)
        generalize M4 75 (x12 : Int).toNat = x13 at hx13 ⊢
        show zG n (0, 0) d 59 (27, [.inr (.inr (some 72)), .inl a1, .inl v3], [.inl x13]) M4 _
        refine zG_blk (c' := (28, [.inr (.inr (some 72)), .inl a1, .inl v3], [.inl a1, .inl x13])) 1 hd0 hz (by rfl) ?_
        refine zG_icmp_ge hd0 hz rfl (fun hb14 => ?_) (fun hb14 => ?_)
        · exact j51
        · obtain ⟨x15, hx15⟩ : ∃ x : Int, x = w32 (v3 - 1) := ⟨_, rfl⟩
          have hx15e : x15 = v3 - 1 := by rw [hx15]; exact w32_id (by omega)
          refine zG_blk (c' := (43, [.inr (.inr (some 72)), .inl a1, .inl v3], [.inl x15, .inr (.inr (some 75)), .inl v3, .inr (.inr (some 75))])) 8 hd0 hz (by subst hx15; rfl) ?_
          refine zG_iald hd0 hz rfl rfl (.inl rfl) (by omega) ?_
          have hx16 := hCM4.rng 75 (x15 : Int).toNat (by decide) (by decide)
          generalize M4 75 (x15 : Int).toNat = x16 at hx16 ⊢
          show zG n (0, 0) d 59 (44, [.inr (.inr (some 72)), .inl a1, .inl v3], [.inl x16, .inl v3, .inr (.inr (some 75))]) M4 _
          refine zG_iast hd0 hz rfl rfl (by omega) ?_
          obtain ⟨M17, hM17⟩ : ∃ X : zM, X = zput M4 75 (v3 : Int).toNat x16 := ⟨_, rfl⟩
          rw [← hM17]
          have hCM17 : qCI M17 := by rw [hM17]; exact hCM4.put (r := 75) rfl (.inl (by omega))
          have hWM17 : qFr [72, 75] M M17 := by rw [hM17]; exact hWM4.put (by decide)
          show zG n (0, 0) d 59 (45, [.inr (.inr (some 72)), .inl a1, .inl v3], []) M17 _
          obtain ⟨x18, hx18⟩ : ∃ x : Int, x = w32 (v3 + (-1)) := ⟨_, rfl⟩
          have hx18e : x18 = v3 + (-1) := by rw [hx18]; exact w32_id (by omega)
          refine zG_blk (c' := (15, [.inr (.inr (some 72)), .inl a1, .inl x18], [])) 2 hd0 hz (by subst hx18; rfl) ?_
          exact ih15 x18 M17 (by omega) (by omega) hCM17 hWM17
  exact j15 ((x2 : Int).toNat + 1) x2 M (by omega) (by omega) hC hW
theorem qm_39_76 {n d : Nat} {M : zM} (hd : 3 ≤ d) (hC : qCI M) (a1 : Int) (ha1 : (-2147483648) ≤ a1 ∧ a1 ≤ 2147483647) (a2 : Int) (ha2 : (-2147483648) ≤ a2 ∧ a2 ≤ 2147483647) : qOkM n d 39 [.inr (.inr (some 76)), .inl a1, .inl a2] 10 qCI [72, 74, 75] M qRn := by
  have hz := zp_39
  have hd0 : 0 < d := by omega
  have hW : qFr [72, 74, 75] M M := qFr.rfl
  show zG n (0, 0) d 39 (0, [.inr (.inr (some 76)), .inl a1, .inl a2, zN, zN, zN, zN, zN, zN, zN], []) M _
  refine zG_blk (c' := (9, [.inr (.inr (some 76)), .inl a1, .inl a2, .inr (.inl (0)), zN, .inr (.inl (0)), zN, zN, zN, zN], [.inr (.inr (some 72))])) 6 hd0 hz (by rfl) ?_
  refine zG_call hd0 hz zp_56 rfl rfl (Nat.le_of_ble_eq_true rfl) ⟨Nat.le_refl _, Nat.le_refl _⟩ (qm_56_72 (by first | exact zdp hd (by decide) | omega) hC  ) (fun vr M1 hr => ?_)
  obtain ⟨⟨hCM1, hFM1⟩, rfl⟩ := hr
  have hWM1 : qFr [72, 74, 75] M M1 := hW.tr hFM1 (by decide)
  show zG n (0, 0) d 39 (12, [.inr (.inr (some 76)), .inl a1, .inl a2, .inr (.inl (0)), zN, .inr (.inl (0)), zN, zN, zN, zN], []) M1 _
  refine zG_blk (c' := (15, [.inr (.inr (some 76)), .inl a1, .inl a2, .inr (.inl (0)), zN, .inr (.inl (0)), zN, .inl 0, zN, zN], [])) 2 hd0 hz (by rfl) ?_
  have j15 : ∀ (N : Nat) (v3 v4 v5 : Int) (M6 : zM) , (14 - v5 : Int).toNat < N → 0 ≤ v5 ∧ v5 ≤ 14 → qCI M6 → qFr [72, 74, 75] M M6 → zG n (0, 0) d 39 (15, [.inr (.inr (some 76)), .inl a1, .inl a2, .inr (.inl (v3)), zN, .inr (.inl (v4)), zN, .inl v5, zN, zN], []) M6 (fun v M' => qWf qCI [72, 74, 75] M M' ∧ qRn v) := by
    intro N
    induction N with
    | zero => intro v3 v4 v5 M6 hN hv5 hCM6 hWM6; exact absurd hN (Nat.not_lt_zero _)
    | succ N ih15 =>
      intro v3 v4 v5 M6 hN hv5 hCM6 hWM6
      refine zG_blk (c' := (24, [.inr (.inr (some 76)), .inl a1, .inl a2, .inr (.inl (v3)), zN, .inr (.inl (v4)), zN, .inl v5, zN, zN], [.inr (.inr (some 10)), .inl v5])) 4 hd0 hz (by rfl) ?_
      refine zG_call hd0 hz zp_101 rfl rfl (Nat.le_of_ble_eq_true rfl) ⟨Nat.le_refl _, Nat.le_refl _⟩ (qw_size (by first | exact zdp hd (by decide) | omega) hCM6 (⟨by decide, rfl, rfl⟩ : qT n 10 14 4) ) (fun vr M7 hr => ?_)
      obtain ⟨hq, x8, rfl, hx8⟩ := hr
      replace hq := hq.symm; subst hq
      show zG n (0, 0) d 39 (27, [.inr (.inr (some 76)), .inl a1, .inl a2, .inr (.inl (v3)), zN, .inr (.inl (v4)), zN, .inl v5, zN, zN], [.inl x8, .inl v5]) M6 _
      refine zG_icmp_ge hd0 hz rfl (fun hb9 => ?_) (fun hb9 => ?_)
      · refine zG_blk (c' := (113, [.inr (.inr (some 76)), .inl a1, .inl a2, .inr (.inl (v3)), zN, .inr (.inl (v4)), zN, .inl v5, zN, zN], [.inr (.inl ((-1))), .inl 7, .inr (.inr (some 72))])) 4 hd0 hz (by rfl) ?_
        refine zG_call hd0 hz zp_57 rfl rfl (Nat.le_of_ble_eq_true rfl) ⟨Nat.le_refl _, Nat.le_refl _⟩ (qm_57_72 (by first | exact zdp hd (by decide) | omega) hCM6  7 (by first | decide | omega) (-1)) (fun vr M10 hr => ?_)
        obtain ⟨⟨hCM10, hFM10⟩, rfl⟩ := hr
        have hWM10 : qFr [72, 74, 75] M M10 := hWM6.tr hFM10 (by decide)
        show zG n (0, 0) d 39 (116, [.inr (.inr (some 76)), .inl a1, .inl a2, .inr (.inl (v3)), zN, .inr (.inl (v4)), zN, .inl v5, zN, zN], []) M10 _
        refine zG_blk (c' := (123, [.inr (.inr (some 76)), .inl a1, .inl a2, .inr (.inl (v3)), zN, .inr (.inl (v4)), zN, .inl v5, zN, zN], [.inr (.inl (v3)), .inl 12, .inr (.inr (some 72))])) 4 hd0 hz (by rfl) ?_
        refine zG_call hd0 hz zp_57 rfl rfl (Nat.le_of_ble_eq_true rfl) ⟨Nat.le_refl _, Nat.le_refl _⟩ (qm_57_72 (by first | exact zdp hd (by decide) | omega) hCM10  12 (by first | decide | omega) v3) (fun vr M12 hr => ?_)
        obtain ⟨⟨hCM12, hFM12⟩, rfl⟩ := hr
        have hWM12 : qFr [72, 74, 75] M M12 := hWM10.tr hFM12 (by decide)
        show zG n (0, 0) d 39 (126, [.inr (.inr (some 76)), .inl a1, .inl a2, .inr (.inl (v3)), zN, .inr (.inl (v4)), zN, .inl v5, zN, zN], []) M12 _
        refine zG_blk (c' := (134, [.inr (.inr (some 76)), .inl a1, .inl a2, .inr (.inl (v3)), zN, .inr (.inl (v4)), zN, .inl v5, zN, zN], [.inr (.inl (0)), .inr (.inl (v3)), .inl 13, .inr (.inr (some 72))])) 5 hd0 hz (by rfl) ?_
        have j150 : ∀ (v14 v15 : Int) , 13 ≤ v14 ∧ v14 ≤ 13 → zG n (0, 0) d 39 (150, [.inr (.inr (some 76)), .inl a1, .inl a2, .inr (.inl (v3)), zN, .inr (.inl (v4)), zN, .inl v5, zN, zN], [.inr (.inl (v15)), .inl v14, .inr (.inr (some 72))]) M12 (fun v M' => qWf qCI [72, 74, 75] M M' ∧ qRn v) := by
          intro v14 v15 hv14
          refine zG_call hd0 hz zp_57 rfl rfl (Nat.le_of_ble_eq_true rfl) ⟨Nat.le_refl _, Nat.le_refl _⟩ (qm_57_72 (by first | exact zdp hd (by decide) | omega) hCM12  v14 (by first | with_reducible exact hv14 | omega) v15) (fun vr M16 hr => ?_)
          obtain ⟨⟨hCM16, hFM16⟩, rfl⟩ := hr
          have hWM16 : qFr [72, 74, 75] M M16 := hWM12.tr hFM16 (by decide)
          show zG n (0, 0) d 39 (153, [.inr (.inr (some 76)), .inl a1, .inl a2, .inr (.inl (v3)), zN, .inr (.inl (v4)), zN, .inl v5, zN, zN], []) M16 _
          refine zG_blk (c' := (160, [.inr (.inr (some 76)), .inl a1, .inl a2, .inr (.inl (v3)), zN, .inr (.inl (v4)), zN, .inl v5, zN, zN], [.inl a2, .inl 14, .inr (.inr (some 72))])) 4 hd0 hz (by rfl) ?_
          refine zG_call hd0 hz zp_296 rfl rfl (Nat.le_of_ble_eq_true rfl) ⟨Nat.le_refl _, Nat.le_refl _⟩ (qm_296 (by first | exact zdp hd (by decide) | omega) hCM16  a2 (by first | with_reducible exact ha2 | omega)) (fun vr M18 hr => ?_)
          obtain ⟨hq, x19, rfl, hx19⟩ := hr
          replace hq := hq.symm; subst hq
          show zG n (0, 0) d 39 (163, [.inr (.inr (some 76)), .inl a1, .inl a2, .inr (.inl (v3)), zN, .inr (.inl (v4)), zN, .inl v5, zN, zN], [.inl x19, .inl 14, .inr (.inr (some 72))]) M16 _
          refine zG_blk (c' := (164, [.inr (.inr (some 76)), .inl a1, .inl a2, .inr (.inl (v3)), zN, .inr (.inl (v4)), zN, .inl v5, zN, zN], [.inr (.inl (x19)), .inl 14, .inr (.inr (some 72))])) 1 hd0 hz (by rfl) ?_
          refine zG_call hd0 hz zp_57 rfl rfl (Nat.le_of_ble_eq_true rfl) ⟨Nat.le_refl _, Nat.le_refl _⟩ (qm_57_72 (by first | exact zdp hd (by decide) | omega) hCM16  14 (by first | decide | omega) x19) (fun vr M20 hr => ?_)
          obtain ⟨⟨hCM20, hFM20⟩, rfl⟩ := hr
          have hWM20 : qFr [72, 74, 75] M M20 := hWM16.tr hFM20 (by decide)
          show zG n (0, 0) d 39 (167, [.inr (.inr (some 76)), .inl a1, .inl a2, .inr (.inl (v3)), zN, .inr (.inl (v4)), zN, .inl v5, zN, zN], []) M20 _
          exact zG_ret hd0 hz rfl rfl ⟨⟨hCM20, hWM20⟩, rfl⟩
        refine zG_lc_ne hd0 hz rfl rfl (fun hb134 => ?_) (fun hb134 => ?_)
        · obtain ⟨x22, hx22⟩ : ∃ x : Int, x = w64 (v4 * 100) := ⟨_, rfl⟩
          refine zG_blk (c' := (149, [.inr (.inr (some 76)), .inl a1, .inl a2, .inr (.inl (v3)), zN, .inr (.inl (v4)), zN, .inl v5, zN, zN], [.inr (.inl (v3)), .inr (.inl (x22)), .inl 13, .inr (.inr (some 72))])) 4 hd0 hz (by subst hx22; rfl) ?_
          refine zG_ldiv hd0 hz rfl (by omega) ?_
          generalize w64 (x22.tdiv v3) = x23
          show zG n (0, 0) d 39 (150, [.inr (.inr (some 76)), .inl a1, .inl a2, .inr (.inl (v3)), zN, .inr (.inl (v4)), zN, .inl v5, zN, zN], [.inr (.inl (x23)), .inl 13, .inr (.inr (some 72))]) M12 _
          exact j150 13 x23 (by omega)
        · refine zG_blk (c' := (150, [.inr (.inr (some 76)), .inl a1, .inl a2, .inr (.inl (v3)), zN, .inr (.inl (v4)), zN, .inl v5, zN, zN], [.inr (.inl (0)), .inl 13, .inr (.inr (some 72))])) 2 hd0 hz (by rfl) ?_
          exact j150 13 0 (by first | decide | omega)
      · obtain ⟨x24, hx24⟩ : ∃ x : Int, x = zbshr a2 v5 := ⟨_, rfl⟩
        have hx24r : qin x24 := by rw [hx24]; exact qb32 _
        obtain ⟨x25, hx25⟩ : ∃ x : Int, x = zband x24 1 := ⟨_, rfl⟩
        have hx25r := qband_r x24 1 (by first | decide | omega) (by omega); rw [← hx25] at hx25r
        refine zG_blk (c' := (37, [.inr (.inr (some 76)), .inl a1, .inl a2, .inr (.inl (v3)), zN, .inr (.inl (v4)), zN, .inl v5, zN, zN], [.inl 1, .inl x25])) 6 hd0 hz (by subst hx25; subst hx24; rfl) ?_
        have j98 : ∀ (v26 v27 : Int) (M28 : zM) , qCI M28 → qFr [72, 74, 75] M M28 → zG n (0, 0) d 39 (98, [.inr (.inr (some 76)), .inl a1, .inl a2, .inr (.inl (v26)), zN, .inr (.inl (v27)), zN, .inl v5, zN, zN], []) M28 (fun v M' => qWf qCI [72, 74, 75] M M' ∧ qRn v) := by
          intro v26 v27 M28 hCM28 hWM28
          obtain ⟨x29, hx29⟩ : ∃ x : Int, x = w32 (v5 + 1) := ⟨_, rfl⟩
          have hx29e : x29 = v5 + 1 := by rw [hx29]; exact w32_id (by omega)
          refine zG_blk (c' := (15, [.inr (.inr (some 76)), .inl a1, .inl a2, .inr (.inl (v26)), zN, .inr (.inl (v27)), zN, .inl x29, zN, zN], [])) 2 hd0 hz (by subst hx29; rfl) ?_
          exact ih15 v26 v27 x29 M28 (by omega) (by omega) hCM28 hWM28
        refine zG_icmp_ne hd0 hz rfl (fun hb30 => ?_) (fun hb30 => ?_)
        · exact j98 v3 v4 M6 hCM6 hWM6
        · refine zG_blk (c' := (50, [.inr (.inr (some 76)), .inl a1, .inl a2, .inr (.inl (v3)), zN, .inr (.inl (v4)), zN, .inl v5, zN, zN], [.inl 0, .inl v5, .inr (.inr (some 10))])) 5 hd0 hz (by rfl) ?_
          refine zG_call hd0 hz zp_106 rfl rfl (Nat.le_of_ble_eq_true rfl) ⟨Nat.le_refl _, Nat.le_refl _⟩ (qw_get (by first | exact zdp hd (by decide) | omega) hCM6 (⟨by decide, rfl, rfl⟩ : qT n 10 14 4) v5 (by first | with_reducible exact hv5 | omega) 0 (by first | decide | omega)) (fun vr M31 hr => ?_)
          obtain ⟨hq, x32, rfl, hx32⟩ := hr
          replace hq := hq.symm; subst hq
          show zG n (0, 0) d 39 (53, [.inr (.inr (some 76)), .inl a1, .inl a2, .inr (.inl (v3)), zN, .inr (.inl (v4)), zN, .inl v5, zN, zN], [.inl x32]) M6 _
          refine zG_blk (c' := (63, [.inr (.inr (some 76)), .inl a1, .inl a2, .inr (.inl (v3)), zN, .inr (.inl (v4)), zN, .inl v5, .inl x32, zN], [.inl v5, .inl a1, .inr (.inr (some 60)), .inl 0])) 6 hd0 hz (by rfl) ?_
          refine zG_call hd0 hz zp_44 rfl rfl (Nat.le_of_ble_eq_true rfl) ⟨Nat.le_refl _, Nat.le_refl _⟩ (qm_44_60 (by first | exact zdp hd (by decide) | omega) hCM6  a1 (by first | with_reducible exact ha1 | omega) v5 (by first | with_reducible exact hv5 | omega)) (fun vr M33 hr => ?_)
          obtain ⟨hq, x34, rfl, hx34⟩ := hr
          replace hq := hq.symm; subst hq
          show zG n (0, 0) d 39 (66, [.inr (.inr (some 76)), .inl a1, .inl a2, .inr (.inl (v3)), zN, .inr (.inl (v4)), zN, .inl v5, .inl x32, zN], [.inl x34, .inl 0]) M6 _
          obtain ⟨x35, hx35⟩ : ∃ x : Int, x = (if 0 < x34 then x34 else 0) := ⟨_, rfl⟩
          have hx35r := qite hx35
          obtain ⟨x36, hx36⟩ : ∃ x : Int, x = w64 (v3 + x32) := ⟨_, rfl⟩
          obtain ⟨x37, hx37⟩ : ∃ x : Int, x = w64 (x35 * x32) := ⟨_, rfl⟩
          obtain ⟨x38, hx38⟩ : ∃ x : Int, x = w64 (v4 + x37) := ⟨_, rfl⟩
          refine zG_blk (c' := (95, [.inr (.inr (some 76)), .inl a1, .inl a2, .inr (.inl (x36)), zN, .inr (.inl (x38)), zN, .inl v5, .inl x32, .inl x35], [.inl x35, .inr (.inr (some 72))])) 18 hd0 hz (by subst hx38; subst hx37; subst hx36; subst hx35; rfl) ?_
          refine zG_call hd0 hz zp_59 rfl rfl (Nat.le_of_ble_eq_true rfl) ⟨Nat.le_refl _, Nat.le_refl _⟩ (qm_59_72 (by first | exact zdp hd (by decide) | omega) hCM6  x35 (by omega)) (fun vr M39 hr => ?_)
          obtain ⟨⟨hCM39, hFM39⟩, rfl⟩ := hr
          have hWM39 : qFr [72, 74, 75] M M39 := hWM6.tr hFM39 (by decide)
          show zG n (0, 0) d 39 (98, [.inr (.inr (some 76)), .inl a1, .inl a2, .inr (.inl (x36)), zN, .inr (.inl (x38)), zN, .inl v5, .inl x32, .inl x35], []) M39 _
          exact zG_weak (j98 x36 x38 M39 hCM39 hWM39) ⟨.inr rfl, .inr rfl, .inr rfl, .inr rfl, .inr rfl, .inr rfl, .inr rfl, .inr rfl, .inl rfl, .inl rfl, trivial⟩
  exact j15 ((14 - 0 : Int).toNat + 1) 0 0 0 M1 (by omega) (by omega) hCM1 hWM1
theorem qm_34_76 {n d : Nat} {M : zM} (hd : 4 ≤ d) (hC : qCI M) (a1 : Int) (ha1 : (-2147483648) ≤ a1 ∧ a1 ≤ 2147483647) (a2 : Int) (ha2 : (-2147483648) ≤ a2 ∧ a2 ≤ 2147483647) : qOkM n d 34 [.inr (.inr (some 76)), .inl a1, .inl a2] 5 qCI [72, 73] M (qRi (fun x => (-2147483648) ≤ x ∧ x ≤ 2147483647)) := by
  have hz := zp_34
  have hd0 : 0 < d := by omega
  have hW : qFr [72, 73] M M := qFr.rfl
  show zG n (0, 0) d 34 (0, [.inr (.inr (some 76)), .inl a1, .inl a2, zN, zN], []) M _
  refine zG_blk (c' := (6, [.inr (.inr (some 76)), .inl a1, .inl a2, zN, zN], [.inl a1, .inr (.inr (some 76)), .inr (.inr (some 72))])) 4 hd0 hz (by rfl) ?_
  refine zG_call hd0 hz zp_31 rfl rfl (Nat.le_of_ble_eq_true rfl) ⟨Nat.le_refl _, Nat.le_refl _⟩ (qm_31_76 (by first | exact zdp hd (by decide) | omega) hC  a1 (by first | with_reducible exact ha1 | omega)) (fun vr M1 hr => ?_)
  obtain ⟨hq, hv⟩ := hr
  replace hq := hq.symm; subst hq
  rcases hv with rfl | rfl
  · show zG n (0, 0) d 34 (9, [.inr (.inr (some 76)), .inl a1, .inl a2, zN, zN], [.inr (.inr (some 22)), .inr (.inr (some 72))]) M _
    obtain ⟨x3, hx3⟩ : ∃ x : Int, x = (if a1 < 0 then 0 else a1) := ⟨_, rfl⟩
    have hx3r := qite hx3
    refine zG_blk (c' := (17, [.inr (.inr (some 76)), .inl a1, .inl a2, zN, zN], [.inl a2, .inl 83, .inl x3, .inr (.inr (some 22)), .inr (.inr (some 72))])) 5 hd0 hz (by subst hx3; rfl) ?_
    refine zG_call hd0 hz zp_62 rfl rfl (Nat.le_of_ble_eq_true rfl) ⟨Nat.le_refl _, Nat.le_refl _⟩ (qm_62_72_22 (by first | exact zdp hd (by decide) | omega) hC  x3 (by omega) 83 (by first | decide | omega) a2 (by first | with_reducible exact ha2 | omega)) (fun vr M4 hr => ?_)
    obtain ⟨⟨hCM4, hFM4⟩, x5, rfl⟩ := hr
    have hWM4 : qFr [72, 73] M M4 := hW.tr hFM4 (by decide)
    show zG n (0, 0) d 34 (20, [.inr (.inr (some 76)), .inl a1, .inl a2, zN, zN], [.inr (.inl (x5))]) M4 _
    obtain ⟨x6, hx6⟩ : ∃ x : Int, x = (if x5 < 9 then x5 else 9) := ⟨_, rfl⟩
    obtain ⟨x7, hx7⟩ : ∃ x : Int, x = (if x6 < 0 then 0 else x6) := ⟨_, rfl⟩
    obtain ⟨x8, hx8⟩ : ∃ x : Int, x = w32 x7 := ⟨_, rfl⟩
    have hx8r : qin x8 := by rw [hx8]; exact w32_in _
    refine zG_blk (c' := (33, [.inr (.inr (some 76)), .inl a1, .inl a2, .inr (.inl (x5)), zN], [.inl x8])) 7 hd0 hz (by subst hx8; subst hx7; subst hx6; rfl) ?_
    exact zG_ret hd0 hz rfl rfl ⟨⟨hCM4, hWM4⟩, _, rfl, by omega⟩
  · show zG n (0, 0) d 34 (9, [.inr (.inr (some 76)), .inl a1, .inl a2, zN, zN], [.inr (.inr (some 77)), .inr (.inr (some 72))]) M _
    obtain ⟨x9, hx9⟩ : ∃ x : Int, x = (if a1 < 0 then 0 else a1) := ⟨_, rfl⟩
    have hx9r := qite hx9
    refine zG_blk (c' := (17, [.inr (.inr (some 76)), .inl a1, .inl a2, zN, zN], [.inl a2, .inl 83, .inl x9, .inr (.inr (some 77)), .inr (.inr (some 72))])) 5 hd0 hz (by subst hx9; rfl) ?_
    refine zG_call hd0 hz zp_62 rfl rfl (Nat.le_of_ble_eq_true rfl) ⟨Nat.le_refl _, Nat.le_refl _⟩ (qm_62_72_77 (by first | exact zdp hd (by decide) | omega) hC  x9 (by omega) 83 (by first | decide | omega) a2 (by first | with_reducible exact ha2 | omega)) (fun vr M10 hr => ?_)
    obtain ⟨⟨hCM10, hFM10⟩, x11, rfl⟩ := hr
    have hWM10 : qFr [72, 73] M M10 := hW.tr hFM10 (by decide)
    show zG n (0, 0) d 34 (20, [.inr (.inr (some 76)), .inl a1, .inl a2, zN, zN], [.inr (.inl (x11))]) M10 _
    obtain ⟨x12, hx12⟩ : ∃ x : Int, x = (if x11 < 9 then x11 else 9) := ⟨_, rfl⟩
    obtain ⟨x13, hx13⟩ : ∃ x : Int, x = (if x12 < 0 then 0 else x12) := ⟨_, rfl⟩
    obtain ⟨x14, hx14⟩ : ∃ x : Int, x = w32 x13 := ⟨_, rfl⟩
    have hx14r : qin x14 := by rw [hx14]; exact w32_in _
    refine zG_blk (c' := (33, [.inr (.inr (some 76)), .inl a1, .inl a2, .inr (.inl (x11)), zN], [.inl x14])) 7 hd0 hz (by subst hx14; subst hx13; subst hx12; rfl) ?_
    exact zG_ret hd0 hz rfl rfl ⟨⟨hCM10, hWM10⟩, _, rfl, by omega⟩
