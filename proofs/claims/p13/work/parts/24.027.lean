theorem qm_115_81 {n d : Nat} {M : zM} (hd : 67 ≤ d) (hC : qCI M) (a1 : Int) (ha1 : (-2147483648) ≤ a1 ∧ a1 ≤ 2147483647) (a2 : Int) (ha2 : (-2147483648) ≤ a2 ∧ a2 ≤ 2147483647) (a3 : Int) (ha3 : (-2147483648) ≤ a3 ∧ a3 ≤ 2147483647) : qOkM n d 115 [.inr (.inr (some 81)), .inl a1, .inl a2, .inl a3] 8 qCI [82, 84, 86] M (qRi (fun x => 0 ≤ x ∧ x ≤ 2147483647)) := by
  have hz := zp_115
  have hd0 : 0 < d := by omega
  have hW : qFr [82, 84, 86] M M := qFr.rfl
  show zG n (0, 0) d 115 (0, [.inr (.inr (some 81)), .inl a1, .inl a2, .inl a3, zN, zN, zN, zN], []) M _
  refine zG_blk (c' := (3, [.inr (.inr (some 81)), .inl a1, .inl a2, .inl a3, zN, zN, zN, zN], [.inl a2, .inl a1, .inr (.inr (some 81))])) 3 hd0 hz (by rfl) ?_
  refine zG_call hd0 hz zp_117 rfl rfl (Nat.le_of_ble_eq_true rfl) ⟨Nat.le_refl _, Nat.le_refl _⟩ (qm_117_81 (by first | exact zdp hd (by decide) | omega) hC  a1 (by first | with_reducible exact ha1 | omega) a2 (by first | with_reducible exact ha2 | omega)) (fun vr M1 hr => ?_)
  obtain ⟨hq, x2, rfl, hx2⟩ := hr
  replace hq := hq.symm; subst hq
  show zG n (0, 0) d 115 (6, [.inr (.inr (some 81)), .inl a1, .inl a2, .inl a3, zN, zN, zN, zN], [.inl x2]) M _
  have r3 := hC.rng 81 5 (by decide) (by decide)
  refine zG_blk (c' := (14, [.inr (.inr (some 81)), .inl a1, .inl a2, .inl a3, .inl x2, zN, zN, zN], [.inl x2, .inl (M 81 5)])) 4 hd0 hz (by rfl) ?_
  refine zG_call hd0 hz zp_296 rfl rfl (Nat.le_of_ble_eq_true rfl) ⟨Nat.le_refl _, Nat.le_refl _⟩ (qm_296 (by first | exact zdp hd (by decide) | omega) hC  x2 (by omega)) (fun vr M4 hr => ?_)
  obtain ⟨hq, x5, rfl, hx5⟩ := hr
  replace hq := hq.symm; subst hq
  show zG n (0, 0) d 115 (17, [.inr (.inr (some 81)), .inl a1, .inl a2, .inl a3, .inl x2, zN, zN, zN], [.inl x5, .inl (M 81 5)]) M _
  obtain ⟨x6, hx6⟩ : ∃ x : Int, x = (if x5 < (M 81 5) then x5 else (M 81 5)) := ⟨_, rfl⟩
  have hx6r := qite hx6
  obtain ⟨x7, hx7⟩ : ∃ x : Int, x = w32 (a2 + 1) := ⟨_, rfl⟩
  have hx7r : x7 = (a2 + 1 + 2147483648) % 4294967296 - 2147483648 := hx7
  refine zG_blk (c' := (26, [.inr (.inr (some 81)), .inl a1, .inl a2, .inl a3, .inl x2, .inl x6, zN, zN], [.inl 3, .inl x7])) 6 hd0 hz (by subst hx7; subst hx6; rfl) ?_
  refine zG_irem hd0 hz rfl (by omega) ?_
  have hx8 := qtmod_in x7 3 (by first | decide | omega)
  generalize x7.tmod 3 = x8 at hx8 ⊢
  show zG n (0, 0) d 115 (27, [.inr (.inr (some 81)), .inl a1, .inl a2, .inl a3, .inl x2, .inl x6, zN, zN], [.inl x8]) M _
  refine zG_blk (c' := (33, [.inr (.inr (some 81)), .inl a1, .inl a2, .inl a3, .inl x2, .inl x6, .inl x8, .inl x2], [])) 3 hd0 hz (by rfl) ?_
  have j33 : ∀ (N : Nat) (v9 : Int) (M10 : zM) , (v9 : Int).toNat < N → (-2147483648) ≤ v9 ∧ v9 ≤ 2147483647 → qCI M10 → qFr [82, 84, 86] M M10 → zG n (0, 0) d 115 (33, [.inr (.inr (some 81)), .inl a1, .inl a2, .inl a3, .inl x2, .inl x6, .inl x8, .inl v9], []) M10 (fun v M' => qWf qCI [82, 84, 86] M M' ∧ qRi (fun x => 0 ≤ x ∧ x ≤ 2147483647) v) := by
    intro N
    induction N with
    | zero => intro v9 M10 hN hv9 hCM10 hWM10; exact absurd hN (Nat.not_lt_zero _)
    | succ N ih33 =>
      intro v9 M10 hN hv9 hCM10 hWM10
      refine zG_blk (c' := (35, [.inr (.inr (some 81)), .inl a1, .inl a2, .inl a3, .inl x2, .inl x6, .inl x8, .inl v9], [.inl v9])) 1 hd0 hz (by rfl) ?_
      refine zG_if_le hd0 hz rfl (fun hb11 => ?_) (fun hb11 => ?_)
      · refine zG_blk (c' := (81, [.inr (.inr (some 81)), .inl a1, .inl a2, .inl a3, .inl x2, .inl x6, .inl x8, .inl v9], [.inl 0])) 1 hd0 hz (by rfl) ?_
        exact zG_ret hd0 hz rfl rfl ⟨⟨hCM10, hWM10⟩, _, rfl, by omega⟩
      · refine zG_blk (c' := (40, [.inr (.inr (some 81)), .inl a1, .inl a2, .inl a3, .inl x2, .inl x6, .inl x8, .inl v9], [.inl v9])) 1 hd0 hz (by rfl) ?_
        refine zG_call hd0 hz zp_296 rfl rfl (Nat.le_of_ble_eq_true rfl) ⟨Nat.le_refl _, Nat.le_refl _⟩ (qm_296 (by first | exact zdp hd (by decide) | omega) hCM10  v9 (by first | with_reducible exact hv9 | omega)) (fun vr M12 hr => ?_)
        obtain ⟨hq, x13, rfl, hx13⟩ := hr
        replace hq := hq.symm; subst hq
        show zG n (0, 0) d 115 (43, [.inr (.inr (some 81)), .inl a1, .inl a2, .inl a3, .inl x2, .inl x6, .inl x8, .inl v9], [.inl x13]) M10 _
        refine zG_blk (c' := (45, [.inr (.inr (some 81)), .inl a1, .inl a2, .inl a3, .inl x2, .inl x6, .inl x8, .inl v9], [.inl x6, .inl x13])) 1 hd0 hz (by rfl) ?_
        have j68 : ∀ (M14 : zM) , qCI M14 → qFr [82, 84, 86] M M14 → zG n (0, 0) d 115 (68, [.inr (.inr (some 81)), .inl a1, .inl a2, .inl a3, .inl x2, .inl x6, .inl x8, .inl v9], []) M14 (fun v M' => qWf qCI [82, 84, 86] M M' ∧ qRi (fun x => 0 ≤ x ∧ x ≤ 2147483647) v) := by
          intro M14 hCM14 hWM14
          obtain ⟨x15, hx15⟩ : ∃ x : Int, x = w32 (v9 - 1) := ⟨_, rfl⟩
          have hx15e : x15 = v9 - 1 := by rw [hx15]; exact w32_id (by omega)
          obtain ⟨x16, hx16⟩ : ∃ x : Int, x = zband x15 x2 := ⟨_, rfl⟩
          have hx16r := qband_l x15 x2 (by omega) (by omega); rw [← hx16] at hx16r
          refine zG_blk (c' := (33, [.inr (.inr (some 81)), .inl a1, .inl a2, .inl a3, .inl x2, .inl x6, .inl x8, .inl x16], [])) 7 hd0 hz (by subst hx16; subst hx15; rfl) ?_
          exact ih33 x16 M14 (by omega) (by omega) hCM14 hWM14
        refine zG_icmp_ne hd0 hz rfl (fun hb17 => ?_) (fun hb17 => ?_)
        · exact j68 M10 hCM10 hWM10
        · obtain ⟨x18, hx18⟩ : ∃ x : Int, x = zbxor v9 (-1) := ⟨_, rfl⟩
          have hx18r : qin x18 := by rw [hx18]; exact qb32 _
          obtain ⟨x19, hx19⟩ : ∃ x : Int, x = zband a1 x18 := ⟨_, rfl⟩
          have hx19r : qin x19 := by rw [hx19]; exact qb32 _
          refine zG_blk (c' := (58, [.inr (.inr (some 81)), .inl a1, .inl a2, .inl a3, .inl x2, .inl x6, .inl x8, .inl v9], [.inl 1, .inl x8, .inl x19, .inr (.inr (some 81))])) 8 hd0 hz (by subst hx19; subst hx18; rfl) ?_
          refine zG_call hd0 hz zp_116 rfl rfl (Nat.le_of_ble_eq_true rfl) ⟨Nat.le_refl _, Nat.le_refl _⟩ (qm_116_81 (by first | exact zdp hd (by decide) | omega) hCM10  x19 (by omega) x8 (by omega) 1 (by first | decide | omega)) (fun vr M20 hr => ?_)
          obtain ⟨⟨hCM20, hFM20⟩, x21, rfl, hx21⟩ := hr
          have hWM20 : qFr [82, 84, 86] M M20 := hWM10.tr hFM20 (by decide)
          show zG n (0, 0) d 115 (61, [.inr (.inr (some 81)), .inl a1, .inl a2, .inl a3, .inl x2, .inl x6, .inl x8, .inl v9], [.inl x21]) M20 _
          refine zG_blk (c' := (62, [.inr (.inr (some 81)), .inl a1, .inl a2, .inl a3, .inl x2, .inl x6, .inl x8, .inl v9], [.inl a3, .inl x21])) 1 hd0 hz (by rfl) ?_
          refine zG_icmp_gt hd0 hz rfl (fun hb22 => ?_) (fun hb22 => ?_)
          · exact j68 M20 hCM20 hWM20
          · refine zG_blk (c' := (67, [.inr (.inr (some 81)), .inl a1, .inl a2, .inl a3, .inl x2, .inl x6, .inl x8, .inl v9], [.inl v9])) 1 hd0 hz (by rfl) ?_
            exact zG_ret hd0 hz rfl rfl ⟨⟨hCM20, hWM20⟩, _, rfl, by omega⟩
  exact j33 ((x2 : Int).toNat + 1) x2 M (by omega) (by omega) hC hW
theorem qm_114_81 {n d : Nat} {M : zM} (hd : 68 ≤ d) (hC : qCI M) (a1 : Int) (ha1 : (-2147483648) ≤ a1 ∧ a1 ≤ 2147483647) (a2 : Int) (ha2 : (-2147483648) ≤ a2 ∧ a2 ≤ 2147483647) (a3 : Int) (ha3 : (-2147483648) ≤ a3 ∧ a3 ≤ 2147483647) : qOkM n d 114 [.inr (.inr (some 81)), .inl a1, .inl a2, .inl a3] 7 qCI [82, 84, 86] M (qRi (fun x => (-1) ≤ x ∧ x ≤ 2147483647)) := by
  have hz := zp_114
  have hd0 : 0 < d := by omega
  have hW : qFr [82, 84, 86] M M := qFr.rfl
  show zG n (0, 0) d 114 (0, [.inr (.inr (some 81)), .inl a1, .inl a2, .inl a3, zN, zN, zN], []) M _
  refine zG_blk (c' := (2, [.inr (.inr (some 81)), .inl a1, .inl a2, .inl a3, zN, zN, zN], [.inl a2, .inl a3])) 2 hd0 hz (by rfl) ?_
  refine zG_icmp_lt hd0 hz rfl (fun hb1 => ?_) (fun hb1 => ?_)
  · have r2 := hC.rng 81 4 (by decide) (by decide)
    refine zG_blk (c' := (19, [.inr (.inr (some 81)), .inl a1, .inl a2, .inl a3, .inl (M 81 4), .inl 0, .inl 0], [])) 7 hd0 hz (by rfl) ?_
    have j19 : ∀ (N : Nat) (v3 v4 v5 : Int) (M6 : zM) , (a3 - v5 + 1 : Int).toNat < N → (-2147483648) ≤ v3 ∧ v3 ≤ 2147483647 → 0 ≤ v4 ∧ v4 ≤ 2147483647 → 0 ≤ v5 ∧ v5 ≤ 2147483647 → qCI M6 → qFr [82, 84, 86] M M6 → zG n (0, 0) d 114 (19, [.inr (.inr (some 81)), .inl a1, .inl a2, .inl a3, .inl v3, .inl v4, .inl v5], []) M6 (fun v M' => qWf qCI [82, 84, 86] M M' ∧ qRi (fun x => (-1) ≤ x ∧ x ≤ 2147483647) v) := by
      intro N
      induction N with
      | zero => intro v3 v4 v5 M6 hN hv3 hv4 hv5 hCM6 hWM6; exact absurd hN (Nat.not_lt_zero _)
      | succ N ih19 =>
        intro v3 v4 v5 M6 hN hv3 hv4 hv5 hCM6 hWM6
        refine zG_blk (c' := (22, [.inr (.inr (some 81)), .inl a1, .inl a2, .inl a3, .inl v3, .inl v4, .inl v5], [.inl a3, .inl v5])) 2 hd0 hz (by rfl) ?_
        refine zG_icmp_gt hd0 hz rfl (fun hb7 => ?_) (fun hb7 => ?_)
        · refine zG_blk (c' := (62, [.inr (.inr (some 81)), .inl a1, .inl a2, .inl a3, .inl v3, .inl v4, .inl v5], [.inl v4])) 1 hd0 hz (by rfl) ?_
          exact zG_ret hd0 hz rfl rfl ⟨⟨hCM6, hWM6⟩, _, rfl, by omega⟩
        · obtain ⟨x8, hx8⟩ : ∃ x : Int, x = w32 (a1 + v5) := ⟨_, rfl⟩
          have hx8r : x8 = (a1 + v5 + 2147483648) % 4294967296 - 2147483648 := hx8
          refine zG_blk (c' := (33, [.inr (.inr (some 81)), .inl a1, .inl a2, .inl a3, .inl v3, .inl v4, .inl v5], [.inl 3, .inl x8, .inl v3, .inr (.inr (some 81))])) 6 hd0 hz (by subst hx8; rfl) ?_
          refine zG_irem hd0 hz rfl (by omega) ?_
          have hx9 := qtmod_in x8 3 (by first | decide | omega)
          generalize x8.tmod 3 = x9 at hx9 ⊢
          show zG n (0, 0) d 114 (34, [.inr (.inr (some 81)), .inl a1, .inl a2, .inl a3, .inl v3, .inl v4, .inl v5], [.inl x9, .inl v3, .inr (.inr (some 81))]) M6 _
          obtain ⟨x10, hx10⟩ : ∃ x : Int, x = w32 (a2 - v5) := ⟨_, rfl⟩
          have hx10r : x10 = (a2 - v5 + 2147483648) % 4294967296 - 2147483648 := hx10
          obtain ⟨x11, hx11⟩ : ∃ x : Int, x = w32 (x10 - 1) := ⟨_, rfl⟩
          have hx11r : x11 = (x10 - 1 + 2147483648) % 4294967296 - 2147483648 := hx11
          refine zG_blk (c' := (40, [.inr (.inr (some 81)), .inl a1, .inl a2, .inl a3, .inl v3, .inl v4, .inl v5], [.inl x11, .inl x9, .inl v3, .inr (.inr (some 81))])) 5 hd0 hz (by subst hx11; subst hx10; rfl) ?_
          refine zG_call hd0 hz zp_115 rfl rfl (Nat.le_of_ble_eq_true rfl) ⟨Nat.le_refl _, Nat.le_refl _⟩ (qm_115_81 (by first | exact zdp hd (by decide) | omega) hCM6  v3 (by first | with_reducible exact hv3 | omega) x9 (by omega) x11 (by omega)) (fun vr M12 hr => ?_)
          obtain ⟨⟨hCM12, hFM12⟩, x13, rfl, hx13⟩ := hr
          have hWM12 : qFr [82, 84, 86] M M12 := hWM6.tr hFM12 (by decide)
          show zG n (0, 0) d 114 (43, [.inr (.inr (some 81)), .inl a1, .inl a2, .inl a3, .inl v3, .inl v4, .inl v5], [.inl x13]) M12 _
          obtain ⟨x14, hx14⟩ : ∃ x : Int, x = zbxor x13 (-1) := ⟨_, rfl⟩
          have hx14r : qin x14 := by rw [hx14]; exact qb32 _
          obtain ⟨x15, hx15⟩ : ∃ x : Int, x = zband v3 x14 := ⟨_, rfl⟩
          have hx15r : qin x15 := by rw [hx15]; exact qb32 _
          obtain ⟨x16, hx16⟩ : ∃ x : Int, x = w32 (v5 + 1) := ⟨_, rfl⟩
          have hx16e : x16 = v5 + 1 := by rw [hx16]; exact w32_id (by omega)
          refine zG_blk (c' := (19, [.inr (.inr (some 81)), .inl a1, .inl a2, .inl a3, .inl x15, .inl x13, .inl x16], [])) 9 hd0 hz (by subst hx16; subst hx15; subst hx14; rfl) ?_
          exact ih19 x15 x13 x16 M12 (by omega) (by omega) (by omega) (by omega) hCM12 hWM12
    exact j19 ((a3 - 0 + 1 : Int).toNat + 1) (M 81 4) 0 0 M (by omega) (by omega) (by omega) (by omega) hC hW
  · refine zG_blk (c' := (6, [.inr (.inr (some 81)), .inl a1, .inl a2, .inl a3, zN, zN, zN], [.inl (-1)])) 1 hd0 hz (by rfl) ?_
    exact zG_ret hd0 hz rfl rfl ⟨⟨hC, hW⟩, _, rfl, by omega⟩
theorem qm_156_8 {n d : Nat} {M : zM} (hd : 69 ≤ d) (hC : qCI M) (a1 : Int) (ha1 : (-2147483648) ≤ a1 ∧ a1 ≤ 2147483647) (a2 : Int) (ha2 : (-2147483648) ≤ a2 ∧ a2 ≤ 2147483647) (a3 : Int) (ha3 : (-2147483648) ≤ a3 ∧ a3 ≤ 2147483647) (a4 : Int) (ha4 : (-2147483648) ≤ a4 ∧ a4 ≤ 2147483647) (a5 : Int) (ha5 : (-2147483648) ≤ a5 ∧ a5 ≤ 2147483647) (a6 : Int) (ha6 : (-2147483648) ≤ a6 ∧ a6 ≤ 2147483647) (a7 : Int) (ha7 : (-2147483648) ≤ a7 ∧ a7 ≤ 2147483647) : qOkM n d 156 [.inr (.inr (some 8)), .inl a1, .inl a2, .inl a3, .inl a4, .inl a5, .inl a6, .inl a7] 9 qCI [62, 64, 65, 66, 72, 73, 74, 81, 82, 84, 86] M (qRi (fun x => (-2147483648) ≤ x ∧ x ≤ 2147483647)) := by
  have hz := zp_156
  have hd0 : 0 < d := by omega
  have hW : qFr [62, 64, 65, 66, 72, 73, 74, 81, 82, 84, 86] M M := qFr.rfl
  show zG n (0, 0) d 156 (0, [.inr (.inr (some 8)), .inl a1, .inl a2, .inl a3, .inl a4, .inl a5, .inl a6, .inl a7, zN], []) M _
  refine zG_blk (c' := (2, [.inr (.inr (some 8)), .inl a1, .inl a2, .inl a3, .inl a4, .inl a5, .inl a6, .inl a7, zN], [.inl a7])) 1 hd0 hz (by rfl) ?_
  refine zG_if_ge hd0 hz rfl (fun hb1 => ?_) (fun hb1 => ?_)
  · refine zG_blk (c' := (18, [.inr (.inr (some 8)), .inl a1, .inl a2, .inl a3, .inl a4, .inl a5, .inl a6, .inl a7, zN], [.inl a6, .inl a5, .inl a4, .inl a3, .inl a2, .inl a1, .inr (.inr (some 8))])) 7 hd0 hz (by rfl) ?_
    refine zG_call hd0 hz zp_155 rfl rfl (Nat.le_of_ble_eq_true rfl) ⟨Nat.le_refl _, Nat.le_refl _⟩ (qm_155_8 (by first | exact zdp hd (by decide) | omega) hC  a1 (by first | with_reducible exact ha1 | omega) a2 (by first | with_reducible exact ha2 | omega) a3 (by first | with_reducible exact ha3 | omega) a4 (by first | with_reducible exact ha4 | omega) a5 (by first | with_reducible exact ha5 | omega) a6 (by first | with_reducible exact ha6 | omega)) (fun vr M2 hr => ?_)
    obtain ⟨⟨hCM2, hFM2⟩, x3, rfl, hx3⟩ := hr
    have hWM2 : qFr [62, 64, 65, 66, 72, 73, 74, 81, 82, 84, 86] M M2 := hW.tr hFM2 (by decide)
    show zG n (0, 0) d 156 (21, [.inr (.inr (some 8)), .inl a1, .inl a2, .inl a3, .inl a4, .inl a5, .inl a6, .inl a7, zN], [.inl x3]) M2 _
    refine zG_blk (c' := (25, [.inr (.inr (some 8)), .inl a1, .inl a2, .inl a3, .inl a4, .inl a5, .inl a6, .inl a7, .inl x3], [.inl x3])) 2 hd0 hz (by rfl) ?_
    have j45 : ∀ (v4 : Int) (M5 : zM) , (-2147483648) ≤ v4 ∧ v4 ≤ 2147483647 → qCI M5 → qFr [62, 64, 65, 66, 72, 73, 74, 81, 82, 84, 86] M M5 → zG n (0, 0) d 156 (45, [.inr (.inr (some 8)), .inl a1, .inl a2, .inl a3, .inl a4, .inl a5, .inl a6, .inl a7, .inl x3], [.inl v4]) M5 (fun v M' => qWf qCI [62, 64, 65, 66, 72, 73, 74, 81, 82, 84, 86] M M' ∧ qRi (fun x => (-2147483648) ≤ x ∧ x ≤ 2147483647) v) := by
      intro v4 M5 hv4 hCM5 hWM5
      exact zG_ret hd0 hz rfl rfl ⟨⟨hCM5, hWM5⟩, _, rfl, by omega⟩
    refine zG_if_ge hd0 hz rfl (fun hb6 => ?_) (fun hb6 => ?_)
    · refine zG_blk (c' := (42, [.inr (.inr (some 8)), .inl a1, .inl a2, .inl a3, .inl a4, .inl a5, .inl a6, .inl a7, .inl x3], [.inl a7, .inl x3, .inl a3, .inr (.inr (some 81))])) 5 hd0 hz (by rfl) ?_
      refine zG_call hd0 hz zp_114 rfl rfl (Nat.le_of_ble_eq_true rfl) ⟨Nat.le_refl _, Nat.le_refl _⟩ (qm_114_81 (by first | exact zdp hd (by decide) | omega) hCM2  a3 (by first | with_reducible exact ha3 | omega) x3 (by omega) a7 (by first | with_reducible exact ha7 | omega)) (fun vr M7 hr => ?_)
      obtain ⟨⟨hCM7, hFM7⟩, x8, rfl, hx8⟩ := hr
      have hWM7 : qFr [62, 64, 65, 66, 72, 73, 74, 81, 82, 84, 86] M M7 := hWM2.tr hFM7 (by decide)
      show zG n (0, 0) d 156 (45, [.inr (.inr (some 8)), .inl a1, .inl a2, .inl a3, .inl a4, .inl a5, .inl a6, .inl a7, .inl x3], [.inl x8]) M7 _
      exact j45 x8 M7 (by omega) hCM7 hWM7
    · refine zG_blk (c' := (45, [.inr (.inr (some 8)), .inl a1, .inl a2, .inl a3, .inl a4, .inl a5, .inl a6, .inl a7, .inl x3], [.inl x3])) 2 hd0 hz (by rfl) ?_
      exact j45 x3 M2 (by omega) hCM2 hWM2
  · refine zG_blk (c' := (7, [.inr (.inr (some 8)), .inl a1, .inl a2, .inl a3, .inl a4, .inl a5, .inl a6, .inl a7, zN], [.inl (-2)])) 1 hd0 hz (by rfl) ?_
    exact zG_ret hd0 hz rfl rfl ⟨⟨hC, hW⟩, _, rfl, by omega⟩
theorem qm_157_8 {n d : Nat} {M : zM} (hd : 3 ≤ d) (hC : qCI M) (a1 : Int) (ha1 : (-2147483648) ≤ a1 ∧ a1 ≤ 2147483647) (a2 : Int) (ha2 : (-2147483648) ≤ a2 ∧ a2 ≤ 2147483647) (a3 : Int) (ha3 : 0 ≤ a3 ∧ a3 ≤ 1) : qOkM n d 157 [.inr (.inr (some 8)), .inl a1, .inl a2, .inl a3] 6 qCI [13] M (qRi (fun x => (-3) ≤ x ∧ x ≤ 1)) := by
  have hz := zp_157
  have hd0 : 0 < d := by omega
  have hW : qFr [13] M M := qFr.rfl
  show zG n (0, 0) d 157 (0, [.inr (.inr (some 8)), .inl a1, .inl a2, .inl a3, zN, zN], []) M _
  refine zG_blk (c' := (2, [.inr (.inr (some 8)), .inl a1, .inl a2, .inl a3, zN, zN], [.inl a1, .inr (.inr (some 8))])) 2 hd0 hz (by rfl) ?_
  refine zG_call hd0 hz zp_174 rfl rfl (Nat.le_of_ble_eq_true rfl) ⟨Nat.le_refl _, Nat.le_refl _⟩ (qm_174_8 (by first | exact zdp hd (by decide) | omega) hC  a1 (by first | with_reducible exact ha1 | omega)) (fun vr M1 hr => ?_)
  obtain ⟨hq, x2, rfl, hx2⟩ := hr
  replace hq := hq.symm; subst hq
  show zG n (0, 0) d 157 (5, [.inr (.inr (some 8)), .inl a1, .inl a2, .inl a3, zN, zN], [.inl x2]) M _
  have j16 : zG n (0, 0) d 157 (16, [.inr (.inr (some 8)), .inl a1, .inl a2, .inl a3, zN, zN], []) M (fun v M' => qWf qCI [13] M M' ∧ qRi (fun x => (-3) ≤ x ∧ x ≤ 1) v) := by
    refine zG_blk (c' := (18, [.inr (.inr (some 8)), .inl a1, .inl a2, .inl a3, zN, zN], [.inl (-2)])) 1 hd0 hz (by rfl) ?_
    exact zG_ret hd0 hz rfl rfl ⟨⟨hC, hW⟩, _, rfl, by omega⟩
  refine zG_if_eq hd0 hz rfl (fun hb3 => ?_) (fun hb3 => ?_)
  · exact j16
  · refine zG_blk (c' := (10, [.inr (.inr (some 8)), .inl a1, .inl a2, .inl a3, zN, zN], [.inl a2, .inr (.inr (some 8))])) 2 hd0 hz (by rfl) ?_
    refine zG_call hd0 hz zp_175 rfl rfl (Nat.le_of_ble_eq_true rfl) ⟨Nat.le_refl _, Nat.le_refl _⟩ (qm_175_8 (by first | exact zdp hd (by decide) | omega) hC  a2 (by first | with_reducible exact ha2 | omega)) (fun vr M4 hr => ?_)
    obtain ⟨hq, x5, rfl, hx5⟩ := hr
    replace hq := hq.symm; subst hq
    show zG n (0, 0) d 157 (13, [.inr (.inr (some 8)), .inl a1, .inl a2, .inl a3, zN, zN], [.inl x5]) M _
    refine zG_if_ne hd0 hz rfl (fun hb6 => ?_) (fun hb6 => ?_)
    · refine zG_blk (c' := (28, [.inr (.inr (some 8)), .inl a1, .inl a2, .inl a3, zN, zN], [.inl 2, .inl a1, .inr (.inr (some 12))])) 5 hd0 hz (by rfl) ?_
      refine zG_call hd0 hz zp_106 rfl rfl (Nat.le_of_ble_eq_true rfl) ⟨Nat.le_refl _, Nat.le_refl _⟩ (qw_get (by first | exact zdp hd (by decide) | omega) hC (⟨by decide, rfl, rfl⟩ : qT n 12 20 3) a1 (by first | with_reducible exact ha1 | omega) 2 (by first | decide | omega)) (fun vr M7 hr => ?_)
      obtain ⟨hq, x8, rfl, hx8⟩ := hr
      replace hq := hq.symm; subst hq
      show zG n (0, 0) d 157 (31, [.inr (.inr (some 8)), .inl a1, .inl a2, .inl a3, zN, zN], [.inl x8]) M _
      obtain ⟨x9, hx9⟩ : ∃ x : Int, x = zbshr x8 a2 := ⟨_, rfl⟩
      have hx9r : qin x9 := by rw [hx9]; exact qb32 _
      obtain ⟨x10, hx10⟩ : ∃ x : Int, x = zband x9 1 := ⟨_, rfl⟩
      have hx10r := qband_r x9 1 (by first | decide | omega) (by omega); rw [← hx10] at hx10r
      refine zG_blk (c' := (40, [.inr (.inr (some 8)), .inl a1, .inl a2, .inl a3, .inl x8, zN], [.inl 1, .inl x10])) 7 hd0 hz (by subst hx10; subst hx9; rfl) ?_
      have j48 : ∀ (v11 : Int) , 0 ≤ v11 ∧ v11 ≤ 1 → zG n (0, 0) d 157 (48, [.inr (.inr (some 8)), .inl a1, .inl a2, .inl a3, .inl x8, zN], [.inl v11]) M (fun v M' => qWf qCI [13] M M' ∧ qRi (fun x => (-3) ≤ x ∧ x ≤ 1) v) := by
        intro v11 hv11
        refine zG_blk (c' := (53, [.inr (.inr (some 8)), .inl a1, .inl a2, .inl a3, .inl x8, .inl v11], [.inl a3, .inl v11])) 3 hd0 hz (by rfl) ?_
        refine zG_icmp_ne hd0 hz rfl (fun hb12 => ?_) (fun hb12 => ?_)
        · obtain ⟨x13, hx13⟩ : ∃ x : Int, x = zbshl 1 a2 := ⟨_, rfl⟩
          have hx13r : qin x13 := by rw [hx13]; exact qb32 _
          obtain ⟨x14, hx14⟩ : ∃ x : Int, x = zbxor x8 x13 := ⟨_, rfl⟩
          have hx14r : qin x14 := by rw [hx14]; exact qb32 _
          refine zG_blk (c' := (74, [.inr (.inr (some 8)), .inl a1, .inl a2, .inl a3, .inl x8, .inl v11], [.inl x14, .inl 2, .inl a1, .inr (.inr (some 12))])) 10 hd0 hz (by subst hx14; subst hx13; rfl) ?_
          refine zG_call hd0 hz zp_107 rfl rfl (Nat.le_of_ble_eq_true rfl) ⟨Nat.le_refl _, Nat.le_refl _⟩ (qw_set (by first | exact zdp hd (by decide) | omega) hC (⟨by decide, rfl, rfl⟩ : qT n 12 20 3) a1 (by first | with_reducible exact ha1 | omega) 2 (by first | decide | omega) x14 (by omega)) (fun vr M15 hr => ?_)
          obtain ⟨⟨hCM15, hFM15⟩, rfl⟩ := hr
          have hWM15 : qFr [13] M M15 := hW.tr hFM15 (by decide)
          show zG n (0, 0) d 157 (77, [.inr (.inr (some 8)), .inl a1, .inl a2, .inl a3, .inl x8, .inl v11], []) M15 _
          refine zG_blk (c' := (78, [.inr (.inr (some 8)), .inl a1, .inl a2, .inl a3, .inl x8, .inl v11], [.inl 1])) 1 hd0 hz (by rfl) ?_
          exact zG_ret hd0 hz rfl rfl ⟨⟨hCM15, hWM15⟩, _, rfl, by omega⟩
        · refine zG_blk (c' := (58, [.inr (.inr (some 8)), .inl a1, .inl a2, .inl a3, .inl x8, .inl v11], [.inl (-3)])) 1 hd0 hz (by rfl) ?_
          exact zG_ret hd0 hz rfl rfl ⟨⟨hC, hW⟩, _, rfl, by omega⟩
      refine zG_icmp_ne hd0 hz rfl (fun hb17 => ?_) (fun hb17 => ?_)
      · refine zG_blk (c' := (48, [.inr (.inr (some 8)), .inl a1, .inl a2, .inl a3, .inl x8, zN], [.inl 0])) 1 hd0 hz (by rfl) ?_
        exact j48 0 (by first | decide | omega)
      · refine zG_blk (c' := (48, [.inr (.inr (some 8)), .inl a1, .inl a2, .inl a3, .inl x8, zN], [.inl 1])) 2 hd0 hz (by rfl) ?_
        exact j48 1 (by first | decide | omega)
    · exact j16
theorem qm_70_87 {n d : Nat} {M : zM} (hd : 2 ≤ d) (hC : qCI M) (a1 : Int) (ha1 : (-2147483648) ≤ a1 ∧ a1 ≤ 2147483647) : qOkP n d 70 [.inr (.inr (some 87)), .inl a1] 4 M (qRi (fun x => (-2147483648) ≤ x ∧ x ≤ 2147483647)) := by
  have hz := zp_70
  have hd0 : 0 < d := by omega
  show zG n (0, 0) d 70 (0, [.inr (.inr (some 87)), .inl a1, zN, zN], []) M _
  refine zG_blk (c' := (4, [.inr (.inr (some 87)), .inl a1, .inl 0, .inl 0], [])) 4 hd0 hz (by rfl) ?_
  have j4 : ∀ (N : Nat) (v1 v2 : Int) , (20 - v2 : Int).toNat < N → (-2147483648) ≤ v1 ∧ v1 ≤ 2147483647 → 0 ≤ v2 ∧ v2 ≤ 20 → zG n (0, 0) d 70 (4, [.inr (.inr (some 87)), .inl a1, .inl v1, .inl v2], []) M (fun v M' => M' = M ∧ qRi (fun x => (-2147483648) ≤ x ∧ x ≤ 2147483647) v) := by
    intro N
    induction N with
    | zero => intro v1 v2 hN hv1 hv2; exact absurd hN (Nat.not_lt_zero _)
    | succ N ih4 =>
      intro v1 v2 hN hv1 hv2
      refine zG_blk (c' := (12, [.inr (.inr (some 87)), .inl a1, .inl v1, .inl v2], [.inr (.inr (some 12)), .inl v2])) 4 hd0 hz (by rfl) ?_
      refine zG_call hd0 hz zp_101 rfl rfl (Nat.le_of_ble_eq_true rfl) ⟨Nat.le_refl _, Nat.le_refl _⟩ (qw_size (by first | exact zdp hd (by decide) | omega) hC (⟨by decide, rfl, rfl⟩ : qT n 12 20 3) ) (fun vr M3 hr => ?_)
      obtain ⟨hq, x4, rfl, hx4⟩ := hr
      replace hq := hq.symm; subst hq
      show zG n (0, 0) d 70 (15, [.inr (.inr (some 87)), .inl a1, .inl v1, .inl v2], [.inl x4, .inl v2]) M _
      refine zG_icmp_ge hd0 hz rfl (fun hb5 => ?_) (fun hb5 => ?_)
      · refine zG_blk (c' := (51, [.inr (.inr (some 87)), .inl a1, .inl v1, .inl v2], [.inl v1])) 1 hd0 hz (by rfl) ?_
        exact zG_ret hd0 hz rfl rfl ⟨rfl, _, rfl, by omega⟩
      · refine zG_blk (c' := (27, [.inr (.inr (some 87)), .inl a1, .inl v1, .inl v2], [.inl 2, .inl v2, .inr (.inr (some 12))])) 5 hd0 hz (by rfl) ?_
        refine zG_call hd0 hz zp_106 rfl rfl (Nat.le_of_ble_eq_true rfl) ⟨Nat.le_refl _, Nat.le_refl _⟩ (qw_get (by first | exact zdp hd (by decide) | omega) hC (⟨by decide, rfl, rfl⟩ : qT n 12 20 3) v2 (by first | with_reducible exact hv2 | omega) 2 (by first | decide | omega)) (fun vr M6 hr => ?_)
        obtain ⟨hq, x7, rfl, hx7⟩ := hr
        replace hq := hq.symm; subst hq
        show zG n (0, 0) d 70 (30, [.inr (.inr (some 87)), .inl a1, .inl v1, .inl v2], [.inl x7]) M _
        obtain ⟨x8, hx8⟩ : ∃ x : Int, x = zbshr x7 a1 := ⟨_, rfl⟩
        have hx8r : qin x8 := by rw [hx8]; exact qb32 _
        obtain ⟨x9, hx9⟩ : ∃ x : Int, x = zband x8 1 := ⟨_, rfl⟩
        have hx9r := qband_r x8 1 (by first | decide | omega) (by omega); rw [← hx9] at hx9r
        refine zG_blk (c' := (35, [.inr (.inr (some 87)), .inl a1, .inl v1, .inl v2], [.inl 1, .inl x9])) 5 hd0 hz (by subst hx9; subst hx8; rfl) ?_
        have j44 : ∀ (v10 : Int) , (-2147483648) ≤ v10 ∧ v10 ≤ 2147483647 → zG n (0, 0) d 70 (44, [.inr (.inr (some 87)), .inl a1, .inl v10, .inl v2], []) M (fun v M' => M' = M ∧ qRi (fun x => (-2147483648) ≤ x ∧ x ≤ 2147483647) v) := by
          intro v10 hv10
          obtain ⟨x11, hx11⟩ : ∃ x : Int, x = w32 (v2 + 1) := ⟨_, rfl⟩
          have hx11e : x11 = v2 + 1 := by rw [hx11]; exact w32_id (by omega)
          refine zG_blk (c' := (4, [.inr (.inr (some 87)), .inl a1, .inl v10, .inl x11], [])) 2 hd0 hz (by subst hx11; rfl) ?_
          exact ih4 v10 x11 (by omega) (by omega) (by omega)
        refine zG_icmp_ne hd0 hz rfl (fun hb12 => ?_) (fun hb12 => ?_)
        · exact j44 v1 (by first | with_reducible exact hv1 | omega)
        · obtain ⟨x13, hx13⟩ : ∃ x : Int, x = zbshl 1 v2 := ⟨_, rfl⟩
          have hx13r : qin x13 := by rw [hx13]; exact qb32 _
          obtain ⟨x14, hx14⟩ : ∃ x : Int, x = zbor v1 x13 := ⟨_, rfl⟩
          have hx14r : qin x14 := by rw [hx14]; exact qb32 _
          refine zG_blk (c' := (44, [.inr (.inr (some 87)), .inl a1, .inl x14, .inl v2], [])) 6 hd0 hz (by subst hx14; subst hx13; rfl) ?_
          exact j44 x14 (by omega)
  exact j4 ((20 - 0 : Int).toNat + 1) 0 0 (by first | decide | omega) (by omega) (by omega)
