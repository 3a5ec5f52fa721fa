theorem qm_298_93 {n d : Nat} {M : zM} (hd : 1 ≤ d) (hC : qCI M) (a1 : Int) : qOkM n d 298 [.inr (.inr (some 93)), .inr (.inl (a1))] 5 qCI [93] M qRn := by
  have hz := zp_298
  have hd0 : 0 < d := by omega
  have hW : qFr [93] M M := qFr.rfl
  show zG n (0, 0) d 298 (0, [.inr (.inr (some 93)), .inr (.inl (a1)), zN, zN, zN], []) M _
  refine zG_blk (c' := (6, [.inr (.inr (some 93)), .inr (.inl (a1)), zN, .inl 0, .inl 10], [])) 5 hd0 hz (by rfl) ?_
  have j6 : ∀ (N : Nat) (v1 : Int) (M2 : zM) , (10 - v1 : Int).toNat < N → 0 ≤ v1 ∧ v1 ≤ 10 → qCI M2 → qFr [93] M M2 → zG n (0, 0) d 298 (6, [.inr (.inr (some 93)), .inr (.inl (a1)), zN, .inl v1, .inl 10], []) M2 (fun v M' => qWf qCI [93] M M' ∧ qRn v) := by
    intro N
    induction N with
    | zero => intro v1 M2 hN hv1 hCM2 hWM2; exact absurd hN (Nat.not_lt_zero _)
    | succ N ih6 =>
      intro v1 M2 hN hv1 hCM2 hWM2
      refine zG_blk (c' := (9, [.inr (.inr (some 93)), .inr (.inl (a1)), zN, .inl v1, .inl 10], [.inl 10, .inl v1])) 2 hd0 hz (by rfl) ?_
      refine zG_icmp_ge hd0 hz rfl (fun hb3 => ?_) (fun hb3 => ?_)
      · exact zG_ret hd0 hz rfl rfl ⟨⟨hCM2, hWM2⟩, rfl⟩
      · refine zG_blk (c' := (15, [.inr (.inr (some 93)), .inr (.inl (a1)), zN, .inl v1, .inl 10], [.inr (.inl (a1)), .inl v1, .inr (.inr (some 93))])) 3 hd0 hz (by rfl) ?_
        refine zG_last hd0 hz rfl rfl (by omega) ?_
        obtain ⟨M4, hM4⟩ : ∃ X : zM, X = zput M2 93 (v1 : Int).toNat a1 := ⟨_, rfl⟩
        rw [← hM4]
        have hCM4 : qCI M4 := by rw [hM4]; exact hCM2.put (r := 93) rfl (.inr (.inl (by decide)))
        have hWM4 : qFr [93] M M4 := by rw [hM4]; exact hWM2.put (by decide)
        show zG n (0, 0) d 298 (16, [.inr (.inr (some 93)), .inr (.inl (a1)), zN, .inl v1, .inl 10], []) M4 _
        obtain ⟨x5, hx5⟩ : ∃ x : Int, x = w32 (v1 + 1) := ⟨_, rfl⟩
        have hx5e : x5 = v1 + 1 := by rw [hx5]; exact w32_id (by omega)
        refine zG_blk (c' := (6, [.inr (.inr (some 93)), .inr (.inl (a1)), zN, .inl x5, .inl 10], [])) 2 hd0 hz (by subst hx5; rfl) ?_
        exact ih6 x5 M4 (by omega) (by omega) hCM4 hWM4
  exact j6 ((10 - 0 : Int).toNat + 1) 0 M (by omega) (by omega) hC hW
theorem qm_298_94 {n d : Nat} {M : zM} (hd : 1 ≤ d) (hC : qCI M) (a1 : Int) : qOkM n d 298 [.inr (.inr (some 94)), .inr (.inl (a1))] 5 qCI [94] M qRn := by
  have hz := zp_298
  have hd0 : 0 < d := by omega
  have hW : qFr [94] M M := qFr.rfl
  show zG n (0, 0) d 298 (0, [.inr (.inr (some 94)), .inr (.inl (a1)), zN, zN, zN], []) M _
  refine zG_blk (c' := (6, [.inr (.inr (some 94)), .inr (.inl (a1)), zN, .inl 0, .inl 10], [])) 5 hd0 hz (by rfl) ?_
  have j6 : ∀ (N : Nat) (v1 : Int) (M2 : zM) , (10 - v1 : Int).toNat < N → 0 ≤ v1 ∧ v1 ≤ 10 → qCI M2 → qFr [94] M M2 → zG n (0, 0) d 298 (6, [.inr (.inr (some 94)), .inr (.inl (a1)), zN, .inl v1, .inl 10], []) M2 (fun v M' => qWf qCI [94] M M' ∧ qRn v) := by
    intro N
    induction N with
    | zero => intro v1 M2 hN hv1 hCM2 hWM2; exact absurd hN (Nat.not_lt_zero _)
    | succ N ih6 =>
      intro v1 M2 hN hv1 hCM2 hWM2
      refine zG_blk (c' := (9, [.inr (.inr (some 94)), .inr (.inl (a1)), zN, .inl v1, .inl 10], [.inl 10, .inl v1])) 2 hd0 hz (by rfl) ?_
      refine zG_icmp_ge hd0 hz rfl (fun hb3 => ?_) (fun hb3 => ?_)
      · exact zG_ret hd0 hz rfl rfl ⟨⟨hCM2, hWM2⟩, rfl⟩
      · refine zG_blk (c' := (15, [.inr (.inr (some 94)), .inr (.inl (a1)), zN, .inl v1, .inl 10], [.inr (.inl (a1)), .inl v1, .inr (.inr (some 94))])) 3 hd0 hz (by rfl) ?_
        refine zG_last hd0 hz rfl rfl (by omega) ?_
        obtain ⟨M4, hM4⟩ : ∃ X : zM, X = zput M2 94 (v1 : Int).toNat a1 := ⟨_, rfl⟩
        rw [← hM4]
        have hCM4 : qCI M4 := by rw [hM4]; exact hCM2.put (r := 94) rfl (.inr (.inl (by decide)))
        have hWM4 : qFr [94] M M4 := by rw [hM4]; exact hWM2.put (by decide)
        show zG n (0, 0) d 298 (16, [.inr (.inr (some 94)), .inr (.inl (a1)), zN, .inl v1, .inl 10], []) M4 _
        obtain ⟨x5, hx5⟩ : ∃ x : Int, x = w32 (v1 + 1) := ⟨_, rfl⟩
        have hx5e : x5 = v1 + 1 := by rw [hx5]; exact w32_id (by omega)
        refine zG_blk (c' := (6, [.inr (.inr (some 94)), .inr (.inl (a1)), zN, .inl x5, .inl 10], [])) 2 hd0 hz (by subst hx5; rfl) ?_
        exact ih6 x5 M4 (by omega) (by omega) hCM4 hWM4
  exact j6 ((10 - 0 : Int).toNat + 1) 0 M (by omega) (by omega) hC hW
theorem qm_13_93 {n d : Nat} {M : zM} (hd : 1 ≤ d) (hC : qCI M) (a1 : Int) (ha1 : (-2147483648) ≤ a1 ∧ a1 ≤ 2147483647) : qOkM n d 13 [.inr (.inr (some 93)), .inl a1] 5 qCI [93] M qRn := by
  have hz := zp_13
  have hd0 : 0 < d := by omega
  have hW : qFr [93] M M := qFr.rfl
  show zG n (0, 0) d 13 (0, [.inr (.inr (some 93)), .inl a1, zN, zN, zN], []) M _
  refine zG_blk (c' := (5, [.inr (.inr (some 93)), .inl a1, .inr (.inl (0)), zN, .inl 0], [])) 4 hd0 hz (by rfl) ?_
  have j5 : ∀ (N : Nat) (v1 v2 : Int) (M3 : zM) , (10 - v2 : Int).toNat < N → 0 ≤ v2 ∧ v2 ≤ 10 → qCI M3 → qFr [93] M M3 → zG n (0, 0) d 13 (5, [.inr (.inr (some 93)), .inl a1, .inr (.inl (v1)), zN, .inl v2], []) M3 (fun v M' => qWf qCI [93] M M' ∧ qRn v) := by
    intro N
    induction N with
    | zero => intro v1 v2 M3 hN hv2 hCM3 hWM3; exact absurd hN (Nat.not_lt_zero _)
    | succ N ih5 =>
      intro v1 v2 M3 hN hv2 hCM3 hWM3
      refine zG_blk (c' := (9, [.inr (.inr (some 93)), .inl a1, .inr (.inl (v1)), zN, .inl v2], [.inl 10, .inl v2])) 3 hd0 hz (by rfl) ?_
      refine zG_icmp_ge hd0 hz rfl (fun hb4 => ?_) (fun hb4 => ?_)
      · exact zG_ret hd0 hz rfl rfl ⟨⟨hCM3, hWM3⟩, rfl⟩
      · refine zG_blk (c' := (16, [.inr (.inr (some 93)), .inl a1, .inr (.inl (v1)), zN, .inl v2], [.inl v2, .inr (.inr (some 93)), .inr (.inl (v1))])) 3 hd0 hz (by rfl) ?_
        refine zG_lald hd0 hz rfl rfl (.inl rfl) (by omega) ?_
        generalize M3 93 (v2 : Int).toNat = x5
        show zG n (0, 0) d 13 (17, [.inr (.inr (some 93)), .inl a1, .inr (.inl (v1)), zN, .inl v2], [.inr (.inl (x5)), .inr (.inl (v1))]) M3 _
        obtain ⟨x6, hx6⟩ : ∃ x : Int, x = w64 (x5 * a1) := ⟨_, rfl⟩
        obtain ⟨x7, hx7⟩ : ∃ x : Int, x = w64 (v1 + x6) := ⟨_, rfl⟩
        obtain ⟨x8, hx8⟩ : ∃ x : Int, x = zlband x7 1073741823 := ⟨_, rfl⟩
        refine zG_blk (c' := (30, [.inr (.inr (some 93)), .inl a1, .inr (.inl (x7)), zN, .inl v2], [.inr (.inl (x8)), .inl v2, .inr (.inr (some 93))])) 10 hd0 hz (by subst hx8; subst hx7; subst hx6; rfl) ?_
        refine zG_last hd0 hz rfl rfl (by omega) ?_
        obtain ⟨M9, hM9⟩ : ∃ X : zM, X = zput M3 93 (v2 : Int).toNat x8 := ⟨_, rfl⟩
        rw [← hM9]
        have hCM9 : qCI M9 := by rw [hM9]; exact hCM3.put (r := 93) rfl (.inr (.inl (by decide)))
        have hWM9 : qFr [93] M M9 := by rw [hM9]; exact hWM3.put (by decide)
        show zG n (0, 0) d 13 (31, [.inr (.inr (some 93)), .inl a1, .inr (.inl (x7)), zN, .inl v2], []) M9 _
        obtain ⟨x10, hx10⟩ : ∃ x : Int, x = zlshr x7 30 := ⟨_, rfl⟩
        obtain ⟨x11, hx11⟩ : ∃ x : Int, x = w32 (v2 + 1) := ⟨_, rfl⟩
        have hx11e : x11 = v2 + 1 := by rw [hx11]; exact w32_id (by omega)
        refine zG_blk (c' := (5, [.inr (.inr (some 93)), .inl a1, .inr (.inl (x10)), zN, .inl x11], [])) 6 hd0 hz (by subst hx11; subst hx10; rfl) ?_
        exact ih5 x10 x11 M9 (by omega) (by omega) hCM9 hWM9
  exact j5 ((10 - 0 : Int).toNat + 1) 0 0 M (by omega) (by omega) hC hW
theorem qm_14_93 {n d : Nat} {M : zM} (hd : 1 ≤ d) (hC : qCI M) (a1 : Int) (ha1 : (-2147483648) ≤ a1 ∧ a1 ≤ 2147483647) : qOkM n d 14 [.inr (.inr (some 93)), .inl a1] 5 qCI [93] M qRn := by
  have hz := zp_14
  have hd0 : 0 < d := by omega
  have hW : qFr [93] M M := qFr.rfl
  show zG n (0, 0) d 14 (0, [.inr (.inr (some 93)), .inl a1, zN, zN, zN], []) M _
  refine zG_blk (c' := (8, [.inr (.inr (some 93)), .inl a1, .inr (.inl (0)), zN, .inl 9], [])) 7 hd0 hz (by rfl) ?_
  have j8 : ∀ (N : Nat) (v1 v2 : Int) (M3 : zM) , (v2 + 1 : Int).toNat < N → (-1) ≤ v2 ∧ v2 ≤ 9 → qCI M3 → qFr [93] M M3 → zG n (0, 0) d 14 (8, [.inr (.inr (some 93)), .inl a1, .inr (.inl (v1)), zN, .inl v2], []) M3 (fun v M' => qWf qCI [93] M M' ∧ qRn v) := by
    intro N
    induction N with
    | zero => intro v1 v2 M3 hN hv2 hCM3 hWM3; exact absurd hN (Nat.not_lt_zero _)
    | succ N ih8 =>
      intro v1 v2 M3 hN hv2 hCM3 hWM3
      refine zG_blk (c' := (10, [.inr (.inr (some 93)), .inl a1, .inr (.inl (v1)), zN, .inl v2], [.inl v2])) 1 hd0 hz (by rfl) ?_
      have j46 : zG n (0, 0) d 14 (46, [.inr (.inr (some 93)), .inl a1, .inr (.inl (v1)), zN, .inl v2], []) M3 (fun v M' => qWf qCI [93] M M' ∧ qRn v) := by
        exact zG_ret hd0 hz rfl rfl ⟨⟨hCM3, hWM3⟩, rfl⟩
      refine zG_if_lt hd0 hz rfl (fun hb4 => ?_) (fun hb4 => ?_)
      · exact j46
      · refine zG_blk (c' := (14, [.inr (.inr (some 93)), .inl a1, .inr (.inl (v1)), zN, .inl v2], [.inl a1])) 1 hd0 hz (by rfl) ?_
        refine zG_if_le hd0 hz rfl (fun hb5 => ?_) (fun hb5 => ?_)
        · exact j46
        · refine zG_blk (c' := (20, [.inr (.inr (some 93)), .inl a1, .inr (.inl (v1)), zN, .inl v2], [.inl 30, .inr (.inl (v1))])) 2 hd0 hz (by rfl) ?_
          refine zG_lshl hd0 hz rfl (fun x6 => ?_)
          show zG n (0, 0) d 14 (21, [.inr (.inr (some 93)), .inl a1, .inr (.inl (v1)), zN, .inl v2], [.inr (.inl (x6))]) M3 _
          refine zG_blk (c' := (24, [.inr (.inr (some 93)), .inl a1, .inr (.inl (v1)), zN, .inl v2], [.inl v2, .inr (.inr (some 93)), .inr (.inl (x6))])) 2 hd0 hz (by rfl) ?_
          refine zG_lald hd0 hz rfl rfl (.inl rfl) (by omega) ?_
          generalize M3 93 (v2 : Int).toNat = x7
          show zG n (0, 0) d 14 (25, [.inr (.inr (some 93)), .inl a1, .inr (.inl (v1)), zN, .inl v2], [.inr (.inl (x7)), .inr (.inl (x6))]) M3 _
          obtain ⟨x8, hx8⟩ : ∃ x : Int, x = w64 (x6 + x7) := ⟨_, rfl⟩
          refine zG_blk (c' := (33, [.inr (.inr (some 93)), .inl a1, .inr (.inl (x8)), zN, .inl v2], [.inr (.inl (a1)), .inr (.inl (x8)), .inl v2, .inr (.inr (some 93))])) 7 hd0 hz (by subst hx8; rfl) ?_
          refine zG_ldiv hd0 hz rfl (by omega) ?_
          generalize w64 (x8.tdiv a1) = x9
          show zG n (0, 0) d 14 (34, [.inr (.inr (some 93)), .inl a1, .inr (.inl (x8)), zN, .inl v2], [.inr (.inl (x9)), .inl v2, .inr (.inr (some 93))]) M3 _
          refine zG_last hd0 hz rfl rfl (by omega) ?_
          obtain ⟨M10, hM10⟩ : ∃ X : zM, X = zput M3 93 (v2 : Int).toNat x9 := ⟨_, rfl⟩
          rw [← hM10]
          have hCM10 : qCI M10 := by rw [hM10]; exact hCM3.put (r := 93) rfl (.inr (.inl (by decide)))
          have hWM10 : qFr [93] M M10 := by rw [hM10]; exact hWM3.put (by decide)
          show zG n (0, 0) d 14 (35, [.inr (.inr (some 93)), .inl a1, .inr (.inl (x8)), zN, .inl v2], []) M10 _
          refine zG_blk (c' := (38, [.inr (.inr (some 93)), .inl a1, .inr (.inl (x8)), zN, .inl v2], [.inr (.inl (a1)), .inr (.inl (x8))])) 3 hd0 hz (by rfl) ?_
          refine zG_lrem hd0 hz rfl (by omega) ?_
          generalize x8.tmod a1 = x11
          show zG n (0, 0) d 14 (39, [.inr (.inr (some 93)), .inl a1, .inr (.inl (x8)), zN, .inl v2], [.inr (.inl (x11))]) M10 _
          obtain ⟨x12, hx12⟩ : ∃ x : Int, x = w32 (v2 + (-1)) := ⟨_, rfl⟩
          have hx12e : x12 = v2 + (-1) := by rw [hx12]; exact w32_id (by omega)
          refine zG_blk (c' := (8, [.inr (.inr (some 93)), .inl a1, .inr (.inl (x11)), zN, .inl x12], [])) 3 hd0 hz (by subst hx12; rfl) ?_
          exact ih8 x11 x12 M10 (by omega) (by omega) hCM10 hWM10
  exact j8 ((9 + 1 : Int).toNat + 1) 0 9 M (by omega) (by omega) hC hW
theorem qm_15_92 {n d : Nat} {M : zM} (hd : 1 ≤ d) (hC : qCI M)  : qOkM n d 15 [.inr (.inr (some 92))] 4 qCI [94] M qRn := by
  have hz := zp_15
  have hd0 : 0 < d := by omega
  have hW : qFr [94] M M := qFr.rfl
  show zG n (0, 0) d 15 (0, [.inr (.inr (some 92)), zN, zN, zN], []) M _
  refine zG_blk (c' := (4, [.inr (.inr (some 92)), .inr (.inl (0)), zN, .inl 0], [])) 4 hd0 hz (by rfl) ?_
  have j4 : ∀ (N : Nat) (v1 v2 : Int) (M3 : zM) , (10 - v2 : Int).toNat < N → 0 ≤ v2 ∧ v2 ≤ 10 → qCI M3 → qFr [94] M M3 → zG n (0, 0) d 15 (4, [.inr (.inr (some 92)), .inr (.inl (v1)), zN, .inl v2], []) M3 (fun v M' => qWf qCI [94] M M' ∧ qRn v) := by
    intro N
    induction N with
    | zero => intro v1 v2 M3 hN hv2 hCM3 hWM3; exact absurd hN (Nat.not_lt_zero _)
    | succ N ih4 =>
      intro v1 v2 M3 hN hv2 hCM3 hWM3
      refine zG_blk (c' := (10, [.inr (.inr (some 92)), .inr (.inl (v1)), zN, .inl v2], [.inl 10, .inl v2])) 4 hd0 hz (by rfl) ?_
      have j60 : zG n (0, 0) d 15 (60, [.inr (.inr (some 92)), .inr (.inl (v1)), zN, .inl v2], []) M3 (fun v M' => qWf qCI [94] M M' ∧ qRn v) := by
        exact zG_ret hd0 hz rfl rfl ⟨⟨hCM3, hWM3⟩, rfl⟩
      refine zG_icmp_ge hd0 hz rfl (fun hb4 => ?_) (fun hb4 => ?_)
      · exact j60
      · refine zG_blk (c' := (19, [.inr (.inr (some 92)), .inr (.inl (v1)), zN, .inl v2], [.inl 10, .inl v2])) 4 hd0 hz (by rfl) ?_
        refine zG_icmp_ge hd0 hz rfl (fun hb5 => ?_) (fun hb5 => ?_)
        · exfalso; omega
        · refine zG_blk (c' := (28, [.inr (.inr (some 92)), .inr (.inl (v1)), zN, .inl v2], [.inl v2, .inr (.inr (some 94)), .inr (.inl (v1))])) 4 hd0 hz (by rfl) ?_
          refine zG_lald hd0 hz rfl rfl (.inl rfl) (by omega) ?_
          generalize M3 94 (v2 : Int).toNat = x6
          show zG n (0, 0) d 15 (29, [.inr (.inr (some 92)), .inr (.inl (v1)), zN, .inl v2], [.inr (.inl (x6)), .inr (.inl (v1))]) M3 _
          refine zG_blk (c' := (34, [.inr (.inr (some 92)), .inr (.inl (v1)), zN, .inl v2], [.inl v2, .inr (.inr (some 93)), .inr (.inl (x6)), .inr (.inl (v1))])) 3 hd0 hz (by rfl) ?_
          refine zG_lald hd0 hz rfl rfl (.inl rfl) (by omega) ?_
          generalize M3 93 (v2 : Int).toNat = x7
          show zG n (0, 0) d 15 (35, [.inr (.inr (some 92)), .inr (.inl (v1)), zN, .inl v2], [.inr (.inl (x7)), .inr (.inl (x6)), .inr (.inl (v1))]) M3 _
          obtain ⟨x8, hx8⟩ : ∃ x : Int, x = w64 (x6 + x7) := ⟨_, rfl⟩
          obtain ⟨x9, hx9⟩ : ∃ x : Int, x = w64 (v1 + x8) := ⟨_, rfl⟩
          obtain ⟨x10, hx10⟩ : ∃ x : Int, x = zlband x9 1073741823 := ⟨_, rfl⟩
          refine zG_blk (c' := (48, [.inr (.inr (some 92)), .inr (.inl (x9)), zN, .inl v2], [.inr (.inl (x10)), .inl v2, .inr (.inr (some 94))])) 9 hd0 hz (by subst hx10; subst hx9; subst hx8; rfl) ?_
          refine zG_last hd0 hz rfl rfl (by omega) ?_
          obtain ⟨M11, hM11⟩ : ∃ X : zM, X = zput M3 94 (v2 : Int).toNat x10 := ⟨_, rfl⟩
          rw [← hM11]
          have hCM11 : qCI M11 := by rw [hM11]; exact hCM3.put (r := 94) rfl (.inr (.inl (by decide)))
          have hWM11 : qFr [94] M M11 := by rw [hM11]; exact hWM3.put (by decide)
          show zG n (0, 0) d 15 (49, [.inr (.inr (some 92)), .inr (.inl (x9)), zN, .inl v2], []) M11 _
          obtain ⟨x12, hx12⟩ : ∃ x : Int, x = zlshr x9 30 := ⟨_, rfl⟩
          obtain ⟨x13, hx13⟩ : ∃ x : Int, x = w32 (v2 + 1) := ⟨_, rfl⟩
          have hx13e : x13 = v2 + 1 := by rw [hx13]; exact w32_id (by omega)
          refine zG_blk (c' := (4, [.inr (.inr (some 92)), .inr (.inl (x12)), zN, .inl x13], [])) 6 hd0 hz (by subst hx13; subst hx12; rfl) ?_
          exact ih4 x12 x13 M11 (by omega) (by omega) hCM11 hWM11
  exact j4 ((10 - 0 : Int).toNat + 1) 0 0 M (by omega) (by omega) hC hW
