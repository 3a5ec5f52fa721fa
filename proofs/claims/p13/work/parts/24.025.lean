theorem qm_112_81 {n d : Nat} {M : zM} (hd : 2 ≤ d) (hC : qCI M) (a1 : Int) (ha1 : (-2147483648) ≤ a1 ∧ a1 ≤ 2147483647) (a2 : Int) (ha2 : (-2147483648) ≤ a2 ∧ a2 ≤ 2147483647) (a3 : Int) (ha3 : (-2147483648) ≤ a3 ∧ a3 ≤ 2147483647) : qOkM n d 112 [.inr (.inr (some 81)), .inl a1, .inl a2, .inl a3] 5 qCI [81, 82] M qRn := by
  have hz := zp_112
  have hd0 : 0 < d := by omega
  have hW : qFr [81, 82] M M := qFr.rfl
  show zG n (0, 0) d 112 (0, [.inr (.inr (some 81)), .inl a1, .inl a2, .inl a3, zN], []) M _
  obtain ⟨x1, hx1⟩ : ∃ x : Int, x = zbxor a2 (-1) := ⟨_, rfl⟩
  have hx1r : qin x1 := by rw [hx1]; exact qb32 _
  obtain ⟨x2, hx2⟩ : ∃ x : Int, x = zband a1 x1 := ⟨_, rfl⟩
  have hx2r : qin x2 := by rw [hx2]; exact qb32 _
  refine zG_blk (c' := (6, [.inr (.inr (some 81)), .inl a1, .inl a2, .inl a3, zN], [.inl x2, .inr (.inr (some 81))])) 6 hd0 hz (by subst hx2; subst hx1; rfl) ?_
  refine zG_putf (.inl rfl) hd0 hz rfl (by decide) rfl rfl ?_
  obtain ⟨M3, hM3⟩ : ∃ X : zM, X = zput M 81 4 x2 := ⟨_, rfl⟩
  rw [← hM3]
  have hCM3 : qCI M3 := by rw [hM3]; exact hC.put (r := 81) (k := 4) rfl (.inl (by omega))
  have hWM3 : qFr [81, 82] M M3 := by rw [hM3]; exact hW.put (by decide)
  have e4 : M3 81 4 = x2 := by rw [hM3]; exact qput_eq
  show zG n (0, 0) d 112 (9, [.inr (.inr (some 81)), .inl a1, .inl a2, .inl a3, zN], []) M3 _
  refine zG_blk (c' := (11, [.inr (.inr (some 81)), .inl a1, .inl a2, .inl a3, zN], [.inl a3, .inr (.inr (some 81))])) 2 hd0 hz (by rfl) ?_
  refine zG_putf (.inl rfl) hd0 hz rfl (by decide) rfl rfl ?_
  obtain ⟨M5, hM5⟩ : ∃ X : zM, X = zput M3 81 5 a3 := ⟨_, rfl⟩
  rw [← hM5]
  have hCM5 : qCI M5 := by rw [hM5]; exact hCM3.put (r := 81) (k := 5) rfl (.inl (by omega))
  have hWM5 : qFr [81, 82] M M5 := by rw [hM5]; exact hWM3.put (by decide)
  have e6 : M5 81 4 = M3 81 4 := by rw [hM5]; exact qput_nk (by decide)
  have e7 : M5 81 5 = a3 := by rw [hM5]; exact qput_eq
  show zG n (0, 0) d 112 (14, [.inr (.inr (some 81)), .inl a1, .inl a2, .inl a3, zN], []) M5 _
  refine zG_blk (c' := (18, [.inr (.inr (some 81)), .inl a1, .inl a2, .inl a3, .inl 13], [])) 2 hd0 hz (by rfl) ?_
  have j18 : ∀ (N : Nat) (v8 : Int) (M9 : zM) , (v8 + 1 : Int).toNat < N → (-1) ≤ v8 ∧ v8 ≤ 13 → qCI M9 → qFr [81, 82] M M9 → zG n (0, 0) d 112 (18, [.inr (.inr (some 81)), .inl a1, .inl a2, .inl a3, .inl v8], []) M9 (fun v M' => qWf qCI [81, 82] M M' ∧ qRn v) := by
    intro N
    induction N with
    | zero => intro v8 M9 hN hv8 hCM9 hWM9; exact absurd hN (Nat.not_lt_zero _)
    | succ N ih18 =>
      intro v8 M9 hN hv8 hCM9 hWM9
      refine zG_blk (c' := (20, [.inr (.inr (some 81)), .inl a1, .inl a2, .inl a3, .inl v8], [.inl v8])) 1 hd0 hz (by rfl) ?_
      refine zG_if_lt hd0 hz rfl (fun hb10 => ?_) (fun hb10 => ?_)
      · have r11 := hCM9.rng 81 4 (by decide) (by decide)
        refine zG_blk (c' := (74, [.inr (.inr (some 81)), .inl a1, .inl a2, .inl a3, .inl (M9 81 4)], [])) 3 hd0 hz (by rfl) ?_
        have j74 : ∀ (N : Nat) (v12 : Int) (M13 : zM) , (v12 : Int).toNat < N → (-2147483648) ≤ v12 ∧ v12 ≤ 2147483647 → qCI M13 → qFr [81, 82] M M13 → zG n (0, 0) d 112 (74, [.inr (.inr (some 81)), .inl a1, .inl a2, .inl a3, .inl v12], []) M13 (fun v M' => qWf qCI [81, 82] M M' ∧ qRn v) := by
          intro N
          induction N with
          | zero => intro v12 M13 hN hv12 hCM13 hWM13; exact absurd hN (Nat.not_lt_zero _)
          | succ N ih74 =>
            intro v12 M13 hN hv12 hCM13 hWM13
            refine zG_blk (c' := (76, [.inr (.inr (some 81)), .inl a1, .inl a2, .inl a3, .inl v12], [.inl v12])) 1 hd0 hz (by rfl) ?_
            have j111 : zG n (0, 0) d 112 (111, [.inr (.inr (some 81)), .inl a1, .inl a2, .inl a3, .inl v12], []) M13 (fun v M' => qWf qCI [81, 82] M M' ∧ qRn v) := by
              exact zG_ret hd0 hz rfl rfl ⟨⟨hCM13, hWM13⟩, rfl⟩
            refine zG_if_le hd0 hz rfl (fun hb14 => ?_) (fun hb14 => ?_)
            · exact j111
            · refine zG_blk (c' := (86, [.inr (.inr (some 81)), .inl a1, .inl a2, .inl a3, .inl v12], [.inl 16384, .inl v12])) 4 hd0 hz (by rfl) ?_
              refine zG_icmp_ge hd0 hz rfl (fun hb15 => ?_) (fun hb15 => ?_)
              · exact j111
              · refine zG_blk (c' := (96, [.inr (.inr (some 81)), .inl a1, .inl a2, .inl a3, .inl v12], [.inl 0, .inl v12, .inr (.inr (some 82))])) 4 hd0 hz (by rfl) ?_
                refine zG_iast hd0 hz rfl rfl (by omega) ?_
                obtain ⟨M16, hM16⟩ : ∃ X : zM, X = zput M13 82 (v12 : Int).toNat 0 := ⟨_, rfl⟩
                rw [← hM16]
                have hCM16 : qCI M16 := by rw [hM16]; exact hCM13.put (r := 82) rfl (.inl (by omega))
                have hWM16 : qFr [81, 82] M M16 := by rw [hM16]; exact hWM13.put (by decide)
                show zG n (0, 0) d 112 (97, [.inr (.inr (some 81)), .inl a1, .inl a2, .inl a3, .inl v12], []) M16 _
                obtain ⟨x17, hx17⟩ : ∃ x : Int, x = w32 (v12 - 1) := ⟨_, rfl⟩
                have hx17e : x17 = v12 - 1 := by rw [hx17]; exact w32_id (by omega)
                have r18 := hCM16.rng 81 4 (by decide) (by decide)
                obtain ⟨x19, hx19⟩ : ∃ x : Int, x = zband x17 (M16 81 4) := ⟨_, rfl⟩
                have hx19r := qband_l x17 (M16 81 4) (by omega) (by omega); rw [← hx19] at hx19r
                refine zG_blk (c' := (74, [.inr (.inr (some 81)), .inl a1, .inl a2, .inl a3, .inl x19], [])) 8 hd0 hz (by subst hx19; subst hx17; rfl) ?_
                exact ih74 x19 M16 (by omega) (by omega) hCM16 hWM16
        exact j74 (((M9 81 4) : Int).toNat + 1) (M9 81 4) M9 (by omega) (by omega) hCM9 hWM9
      · have r20 := hCM9.rng 81 4 (by decide) (by decide)
        obtain ⟨x21, hx21⟩ : ∃ x : Int, x = zbshr (M9 81 4) v8 := ⟨_, rfl⟩
        have hx21r : qin x21 := by rw [hx21]; exact qb32 _
        obtain ⟨x22, hx22⟩ : ∃ x : Int, x = zband x21 1 := ⟨_, rfl⟩
        have hx22r := qband_r x21 1 (by first | decide | omega) (by omega); rw [← hx22] at hx22r
        refine zG_blk (c' := (33, [.inr (.inr (some 81)), .inl a1, .inl a2, .inl a3, .inl v8], [.inl 1, .inl x22])) 7 hd0 hz (by subst hx22; subst hx21; rfl) ?_
        have j62 : ∀ (M23 : zM) , qCI M23 → qFr [81, 82] M M23 → zG n (0, 0) d 112 (62, [.inr (.inr (some 81)), .inl a1, .inl a2, .inl a3, .inl v8], []) M23 (fun v M' => qWf qCI [81, 82] M M' ∧ qRn v) := by
          intro M23 hCM23 hWM23
          obtain ⟨x24, hx24⟩ : ∃ x : Int, x = w32 (v8 + (-1)) := ⟨_, rfl⟩
          have hx24e : x24 = v8 + (-1) := by rw [hx24]; exact w32_id (by omega)
          refine zG_blk (c' := (18, [.inr (.inr (some 81)), .inl a1, .inl a2, .inl a3, .inl x24], [])) 2 hd0 hz (by subst hx24; rfl) ?_
          exact ih18 x24 M23 (by omega) (by omega) hCM23 hWM23
        refine zG_icmp_ne hd0 hz rfl (fun hb25 => ?_) (fun hb25 => ?_)
        · exact j62 M9 hCM9 hWM9
        · refine zG_blk (c' := (51, [.inr (.inr (some 81)), .inl a1, .inl a2, .inl a3, .inl v8], [.inl 1, .inl v8, .inr (.inr (some 10)), .inl (M9 81 4), .inr (.inr (some 81))])) 8 hd0 hz (by rfl) ?_
          refine zG_call hd0 hz zp_106 rfl rfl (Nat.le_of_ble_eq_true rfl) ⟨Nat.le_refl _, Nat.le_refl _⟩ (qw_get (by first | exact zdp hd (by decide) | omega) hCM9 (⟨by decide, rfl, rfl⟩ : qT n 10 14 4) v8 (by first | with_reducible exact hv8 | omega) 1 (by first | decide | omega)) (fun vr M26 hr => ?_)
          obtain ⟨hq, x27, rfl, hx27⟩ := hr
          replace hq := hq.symm; subst hq
          show zG n (0, 0) d 112 (54, [.inr (.inr (some 81)), .inl a1, .inl a2, .inl a3, .inl v8], [.inl x27, .inl (M9 81 4), .inr (.inr (some 81))]) M9 _
          obtain ⟨x28, hx28⟩ : ∃ x : Int, x = zbxor a2 (-1) := ⟨_, rfl⟩
          have hx28r : qin x28 := by rw [hx28]; exact qb32 _
          obtain ⟨x29, hx29⟩ : ∃ x : Int, x = zband x27 x28 := ⟨_, rfl⟩
          have hx29r : qin x29 := by rw [hx29]; exact qb32 _
          obtain ⟨x30, hx30⟩ : ∃ x : Int, x = zbor (M9 81 4) x29 := ⟨_, rfl⟩
          have hx30r : qin x30 := by rw [hx30]; exact qb32 _
          refine zG_blk (c' := (59, [.inr (.inr (some 81)), .inl a1, .inl a2, .inl a3, .inl v8], [.inl x30, .inr (.inr (some 81))])) 5 hd0 hz (by subst hx30; subst hx29; subst hx28; rfl) ?_
          refine zG_putf (.inl rfl) hd0 hz rfl (by decide) rfl rfl ?_
          obtain ⟨M31, hM31⟩ : ∃ X : zM, X = zput M9 81 4 x30 := ⟨_, rfl⟩
          rw [← hM31]
          have hCM31 : qCI M31 := by rw [hM31]; exact hCM9.put (r := 81) (k := 4) rfl (.inl (by omega))
          have hWM31 : qFr [81, 82] M M31 := by rw [hM31]; exact hWM9.put (by decide)
          have e32 : M31 81 4 = x30 := by rw [hM31]; exact qput_eq
          show zG n (0, 0) d 112 (62, [.inr (.inr (some 81)), .inl a1, .inl a2, .inl a3, .inl v8], []) M31 _
          exact j62 M31 hCM31 hWM31
  exact j18 ((13 + 1 : Int).toNat + 1) 13 M5 (by omega) (by omega) hCM5 hWM5
theorem qm_118_81 {n d : Nat} {M : zM} (hd : 2 ≤ d) (hC : qCI M) (a1 : Int) (ha1 : (-2147483648) ≤ a1 ∧ a1 ≤ 2147483647) (a2 : Int) (ha2 : (-2147483648) ≤ a2 ∧ a2 ≤ 2147483647) : qOkP n d 118 [.inr (.inr (some 81)), .inl a1, .inl a2] 3 M (qRi (fun x => 0 ≤ x ∧ x ≤ 1)) := by
  have hz := zp_118
  have hd0 : 0 < d := by omega
  show zG n (0, 0) d 118 (0, [.inr (.inr (some 81)), .inl a1, .inl a2], []) M _
  refine zG_blk (c' := (9, [.inr (.inr (some 81)), .inl a1, .inl a2], [.inl 2, .inl a1, .inr (.inr (some 10))])) 5 hd0 hz (by rfl) ?_
  refine zG_call hd0 hz zp_106 rfl rfl (Nat.le_of_ble_eq_true rfl) ⟨Nat.le_refl _, Nat.le_refl _⟩ (qw_get (by first | exact zdp hd (by decide) | omega) hC (⟨by decide, rfl, rfl⟩ : qT n 10 14 4) a1 (by first | with_reducible exact ha1 | omega) 2 (by first | decide | omega)) (fun vr M1 hr => ?_)
  obtain ⟨hq, x2, rfl, hx2⟩ := hr
  replace hq := hq.symm; subst hq
  show zG n (0, 0) d 118 (12, [.inr (.inr (some 81)), .inl a1, .inl a2], [.inl x2]) M _
  obtain ⟨x3, hx3⟩ : ∃ x : Int, x = zbshr x2 a2 := ⟨_, rfl⟩
  have hx3r : qin x3 := by rw [hx3]; exact qb32 _
  obtain ⟨x4, hx4⟩ : ∃ x : Int, x = zband x3 1 := ⟨_, rfl⟩
  have hx4r := qband_r x3 1 (by first | decide | omega) (by omega); rw [← hx4] at hx4r
  refine zG_blk (c' := (17, [.inr (.inr (some 81)), .inl a1, .inl a2], [.inl 1, .inl x4])) 5 hd0 hz (by subst hx4; subst hx3; rfl) ?_
  have j25 : ∀ (v5 : Int) , 0 ≤ v5 ∧ v5 ≤ 1 → zG n (0, 0) d 118 (25, [.inr (.inr (some 81)), .inl a1, .inl a2], [.inl v5]) M (fun v M' => M' = M ∧ qRi (fun x => 0 ≤ x ∧ x ≤ 1) v) := by
    intro v5 hv5
    exact zG_zret hd0 hz rfl (by omega) ⟨rfl, _, rfl, by omega⟩
  refine zG_icmp_ne hd0 hz rfl (fun hb6 => ?_) (fun hb6 => ?_)
  · refine zG_blk (c' := (25, [.inr (.inr (some 81)), .inl a1, .inl a2], [.inl 0])) 1 hd0 hz (by rfl) ?_
    exact j25 0 (by first | decide | omega)
  · refine zG_blk (c' := (25, [.inr (.inr (some 81)), .inl a1, .inl a2], [.inl 1])) 2 hd0 hz (by rfl) ?_
    exact j25 1 (by first | decide | omega)
theorem qm_117_81 {n d : Nat} {M : zM} (hd : 3 ≤ d) (hC : qCI M) (a1 : Int) (ha1 : (-2147483648) ≤ a1 ∧ a1 ≤ 2147483647) (a2 : Int) (ha2 : (-2147483648) ≤ a2 ∧ a2 ≤ 2147483647) : qOkP n d 117 [.inr (.inr (some 81)), .inl a1, .inl a2] 6 M (qRi (fun x => (-2147483648) ≤ x ∧ x ≤ 2147483647)) := by
  have hz := zp_117
  have hd0 : 0 < d := by omega
  show zG n (0, 0) d 117 (0, [.inr (.inr (some 81)), .inl a1, .inl a2, zN, zN, zN], []) M _
  refine zG_blk (c' := (5, [.inr (.inr (some 81)), .inl a1, .inl a2, .inl 0, .inl 0, zN], [])) 4 hd0 hz (by rfl) ?_
  have j5 : ∀ (N : Nat) (v1 v2 : Int) , (14 - v2 : Int).toNat < N → (-2147483648) ≤ v1 ∧ v1 ≤ 2147483647 → 0 ≤ v2 ∧ v2 ≤ 14 → zG n (0, 0) d 117 (5, [.inr (.inr (some 81)), .inl a1, .inl a2, .inl v1, .inl v2, zN], []) M (fun v M' => M' = M ∧ qRi (fun x => (-2147483648) ≤ x ∧ x ≤ 2147483647) v) := by
    intro N
    induction N with
    | zero => intro v1 v2 hN hv1 hv2; exact absurd hN (Nat.not_lt_zero _)
    | succ N ih5 =>
      intro v1 v2 hN hv1 hv2
      refine zG_blk (c' := (9, [.inr (.inr (some 81)), .inl a1, .inl a2, .inl v1, .inl v2, zN], [.inl 14, .inl v2])) 2 hd0 hz (by rfl) ?_
      refine zG_icmp_ge hd0 hz rfl (fun hb3 => ?_) (fun hb3 => ?_)
      · refine zG_blk (c' := (76, [.inr (.inr (some 81)), .inl a1, .inl a2, .inl v1, .inl v2, zN], [.inl v1])) 1 hd0 hz (by rfl) ?_
        exact zG_ret hd0 hz rfl rfl ⟨rfl, _, rfl, by omega⟩
      · obtain ⟨x4, hx4⟩ : ∃ x : Int, x = zbshr a1 v2 := ⟨_, rfl⟩
        have hx4r : qin x4 := by rw [hx4]; exact qb32 _
        obtain ⟨x5, hx5⟩ : ∃ x : Int, x = zband x4 1 := ⟨_, rfl⟩
        have hx5r := qband_r x4 1 (by first | decide | omega) (by omega); rw [← hx5] at hx5r
        refine zG_blk (c' := (19, [.inr (.inr (some 81)), .inl a1, .inl a2, .inl v1, .inl v2, zN], [.inl 1, .inl x5])) 6 hd0 hz (by subst hx5; subst hx4; rfl) ?_
        have j45 : ∀ (v6 : Int) , 0 ≤ v6 ∧ v6 ≤ 1 → zG n (0, 0) d 117 (45, [.inr (.inr (some 81)), .inl a1, .inl a2, .inl v1, .inl v2, zN], [.inl v6]) M (fun v M' => M' = M ∧ qRi (fun x => (-2147483648) ≤ x ∧ x ≤ 2147483647) v) := by
          intro v6 hv6
          refine zG_blk (c' := (49, [.inr (.inr (some 81)), .inl a1, .inl a2, .inl v1, .inl v2, .inl v6], [.inl v6])) 2 hd0 hz (by rfl) ?_
          have j69 : ∀ (v7 : Int) , (-2147483648) ≤ v7 ∧ v7 ≤ 2147483647 → zG n (0, 0) d 117 (69, [.inr (.inr (some 81)), .inl a1, .inl a2, .inl v7, .inl v2, .inl v6], []) M (fun v M' => M' = M ∧ qRi (fun x => (-2147483648) ≤ x ∧ x ≤ 2147483647) v) := by
            intro v7 hv7
            obtain ⟨x8, hx8⟩ : ∃ x : Int, x = w32 (v2 + 1) := ⟨_, rfl⟩
            have hx8e : x8 = v2 + 1 := by rw [hx8]; exact w32_id (by omega)
            refine zG_blk (c' := (5, [.inr (.inr (some 81)), .inl a1, .inl a2, .inl v7, .inl x8, .inl v6], [])) 2 hd0 hz (by subst hx8; rfl) ?_
            exact zG_weak (ih5 v7 x8 (by omega) (by omega) (by omega)) ⟨.inr rfl, .inr rfl, .inr rfl, .inr rfl, .inr rfl, .inl rfl, trivial⟩
          refine zG_if_eq hd0 hz rfl (fun hb9 => ?_) (fun hb9 => ?_)
          · exact j69 v1 (by first | with_reducible exact hv1 | omega)
          · refine zG_blk (c' := (56, [.inr (.inr (some 81)), .inl a1, .inl a2, .inl v1, .inl v2, .inl v6], [.inl a2, .inl v2, .inr (.inr (some 81))])) 3 hd0 hz (by rfl) ?_
            refine zG_call hd0 hz zp_118 rfl rfl (Nat.le_of_ble_eq_true rfl) ⟨Nat.le_refl _, Nat.le_refl _⟩ (qm_118_81 (by first | exact zdp hd (by decide) | omega) hC  v2 (by first | with_reducible exact hv2 | omega) a2 (by first | with_reducible exact ha2 | omega)) (fun vr M10 hr => ?_)
            obtain ⟨hq, x11, rfl, hx11⟩ := hr
            replace hq := hq.symm; subst hq
            show zG n (0, 0) d 117 (59, [.inr (.inr (some 81)), .inl a1, .inl a2, .inl v1, .inl v2, .inl v6], [.inl x11]) M _
            refine zG_if_eq hd0 hz rfl (fun hb12 => ?_) (fun hb12 => ?_)
            · exact j69 v1 (by first | with_reducible exact hv1 | omega)
            · obtain ⟨x13, hx13⟩ : ∃ x : Int, x = zbshl 1 v2 := ⟨_, rfl⟩
              have hx13r : qin x13 := by rw [hx13]; exact qb32 _
              obtain ⟨x14, hx14⟩ : ∃ x : Int, x = zbor v1 x13 := ⟨_, rfl⟩
              have hx14r : qin x14 := by rw [hx14]; exact qb32 _
              refine zG_blk (c' := (69, [.inr (.inr (some 81)), .inl a1, .inl a2, .inl x14, .inl v2, .inl v6], [])) 6 hd0 hz (by subst hx14; subst hx13; rfl) ?_
              exact j69 x14 (by omega)
        have j44 : zG n (0, 0) d 117 (44, [.inr (.inr (some 81)), .inl a1, .inl a2, .inl v1, .inl v2, zN], []) M (fun v M' => M' = M ∧ qRi (fun x => (-2147483648) ≤ x ∧ x ≤ 2147483647) v) := by
          refine zG_blk (c' := (45, [.inr (.inr (some 81)), .inl a1, .inl a2, .inl v1, .inl v2, zN], [.inl 0])) 1 hd0 hz (by rfl) ?_
          exact j45 0 (by first | decide | omega)
        refine zG_icmp_ne hd0 hz rfl (fun hb15 => ?_) (fun hb15 => ?_)
        · exact j44
        · refine zG_blk (c' := (32, [.inr (.inr (some 81)), .inl a1, .inl a2, .inl v1, .inl v2, zN], [.inl 1, .inl v2, .inr (.inr (some 10))])) 5 hd0 hz (by rfl) ?_
          refine zG_call hd0 hz zp_106 rfl rfl (Nat.le_of_ble_eq_true rfl) ⟨Nat.le_refl _, Nat.le_refl _⟩ (qw_get (by first | exact zdp hd (by decide) | omega) hC (⟨by decide, rfl, rfl⟩ : qT n 10 14 4) v2 (by first | with_reducible exact hv2 | omega) 1 (by first | decide | omega)) (fun vr M16 hr => ?_)
          obtain ⟨hq, x17, rfl, hx17⟩ := hr
          replace hq := hq.symm; subst hq
          show zG n (0, 0) d 117 (35, [.inr (.inr (some 81)), .inl a1, .inl a2, .inl v1, .inl v2, zN], [.inl x17]) M _
          obtain ⟨x18, hx18⟩ : ∃ x : Int, x = zband x17 a1 := ⟨_, rfl⟩
          have hx18r : qin x18 := by rw [hx18]; exact qb32 _
          refine zG_blk (c' := (37, [.inr (.inr (some 81)), .inl a1, .inl a2, .inl v1, .inl v2, zN], [.inl x18])) 2 hd0 hz (by subst hx18; rfl) ?_
          refine zG_if_ne hd0 hz rfl (fun hb19 => ?_) (fun hb19 => ?_)
          · exact j44
          · refine zG_blk (c' := (45, [.inr (.inr (some 81)), .inl a1, .inl a2, .inl v1, .inl v2, zN], [.inl 1])) 2 hd0 hz (by rfl) ?_
            exact j45 1 (by first | decide | omega)
  exact j5 ((14 - 0 : Int).toNat + 1) 0 0 (by first | decide | omega) (by omega) (by omega)
theorem qm_121_81 {n d : Nat} {M : zM} (hd : 3 ≤ d) (hC : qCI M) (a1 : Int) (ha1 : (-2147483648) ≤ a1 ∧ a1 ≤ 2147483647) (a2 : Int) (ha2 : (-2147483648) ≤ a2 ∧ a2 ≤ 2147483647) (a3 : Int) (ha3 : (-2147483648) ≤ a3 ∧ a3 ≤ 2147483647) : qOkP n d 121 [.inr (.inr (some 81)), .inl a1, .inl a2, .inl a3] 7 M (qRi (fun x => (-2147483648) ≤ x ∧ x ≤ 2147483647)) := by
  have hz := zp_121
  have hd0 : 0 < d := by omega
  show zG n (0, 0) d 121 (0, [.inr (.inr (some 81)), .inl a1, .inl a2, .inl a3, zN, zN, zN], []) M _
  refine zG_blk (c' := (9, [.inr (.inr (some 81)), .inl a1, .inl a2, .inl a3, zN, zN, zN], [.inl 1, .inl a1, .inr (.inr (some 10))])) 5 hd0 hz (by rfl) ?_
  refine zG_call hd0 hz zp_106 rfl rfl (Nat.le_of_ble_eq_true rfl) ⟨Nat.le_refl _, Nat.le_refl _⟩ (qw_get (by first | exact zdp hd (by decide) | omega) hC (⟨by decide, rfl, rfl⟩ : qT n 10 14 4) a1 (by first | with_reducible exact ha1 | omega) 1 (by first | decide | omega)) (fun vr M1 hr => ?_)
  obtain ⟨hq, x2, rfl, hx2⟩ := hr
  replace hq := hq.symm; subst hq
  show zG n (0, 0) d 121 (12, [.inr (.inr (some 81)), .inl a1, .inl a2, .inl a3, zN, zN, zN], [.inl x2]) M _
  obtain ⟨x3, hx3⟩ : ∃ x : Int, x = zband x2 a2 := ⟨_, rfl⟩
  have hx3r : qin x3 := by rw [hx3]; exact qb32 _
  refine zG_blk (c' := (22, [.inr (.inr (some 81)), .inl a1, .inl a2, .inl a3, .inl x3, .inl 1, .inl 0], [])) 7 hd0 hz (by subst hx3; rfl) ?_
  have j22 : ∀ (N : Nat) (v4 v5 : Int) , (a1 - v5 : Int).toNat < N → 1 ≤ v4 ∧ v4 ≤ 2147483647 → 0 ≤ v5 ∧ v5 ≤ 2147483647 → zG n (0, 0) d 121 (22, [.inr (.inr (some 81)), .inl a1, .inl a2, .inl a3, .inl x3, .inl v4, .inl v5], []) M (fun v M' => M' = M ∧ qRi (fun x => (-2147483648) ≤ x ∧ x ≤ 2147483647) v) := by
    intro N
    induction N with
    | zero => intro v4 v5 hN hv4 hv5; exact absurd hN (Nat.not_lt_zero _)
    | succ N ih22 =>
      intro v4 v5 hN hv4 hv5
      refine zG_blk (c' := (25, [.inr (.inr (some 81)), .inl a1, .inl a2, .inl a3, .inl x3, .inl v4, .inl v5], [.inl a1, .inl v5])) 2 hd0 hz (by rfl) ?_
      refine zG_icmp_ge hd0 hz rfl (fun hb6 => ?_) (fun hb6 => ?_)
      · refine zG_blk (c' := (67, [.inr (.inr (some 81)), .inl a1, .inl a2, .inl a3, .inl x3, .inl v4, .inl 1], [])) 2 hd0 hz (by rfl) ?_
        have j67 : ∀ (N : Nat) (v7 v8 : Int) , (3 - v8 : Int).toNat < N → (-2147483648) ≤ v7 ∧ v7 ≤ 2147483647 → 1 ≤ v8 ∧ v8 ≤ 3 → zG n (0, 0) d 121 (67, [.inr (.inr (some 81)), .inl a1, .inl a2, .inl a3, .inl x3, .inl v7, .inl v8], []) M (fun v M' => M' = M ∧ qRi (fun x => (-2147483648) ≤ x ∧ x ≤ 2147483647) v) := by
          intro N
          induction N with
          | zero => intro v7 v8 hN hv7 hv8; exact absurd hN (Nat.not_lt_zero _)
          | succ N ih67 =>
            intro v7 v8 hN hv7 hv8
            refine zG_blk (c' := (70, [.inr (.inr (some 81)), .inl a1, .inl a2, .inl a3, .inl x3, .inl v7, .inl v8], [.inl 3, .inl v8])) 2 hd0 hz (by rfl) ?_
            have j98 : zG n (0, 0) d 121 (98, [.inr (.inr (some 81)), .inl a1, .inl a2, .inl a3, .inl x3, .inl v7, .inl v8], []) M (fun v M' => M' = M ∧ qRi (fun x => (-2147483648) ≤ x ∧ x ≤ 2147483647) v) := by
              refine zG_blk (c' := (100, [.inr (.inr (some 81)), .inl a1, .inl a2, .inl a3, .inl x3, .inl v7, .inl v8], [.inl v7])) 1 hd0 hz (by rfl) ?_
              exact zG_ret hd0 hz rfl rfl ⟨rfl, _, rfl, by omega⟩
            refine zG_icmp_ge hd0 hz rfl (fun hb9 => ?_) (fun hb9 => ?_)
            · exact j98
            · obtain ⟨x10, hx10⟩ : ∃ x : Int, x = w32 (a3 + v7) := ⟨_, rfl⟩
              have hx10r : x10 = (a3 + v7 + 2147483648) % 4294967296 - 2147483648 := hx10
              obtain ⟨x11, hx11⟩ : ∃ x : Int, x = w32 (x10 - 1) := ⟨_, rfl⟩
              have hx11r : x11 = (x10 - 1 + 2147483648) % 4294967296 - 2147483648 := hx11
              refine zG_blk (c' := (82, [.inr (.inr (some 81)), .inl a1, .inl a2, .inl a3, .inl x3, .inl v7, .inl v8], [.inl 3, .inl x11, .inl a1, .inr (.inr (some 81))])) 8 hd0 hz (by subst hx11; subst hx10; rfl) ?_
              refine zG_irem hd0 hz rfl (by omega) ?_
              have hx12 := qtmod_in x11 3 (by first | decide | omega)
              generalize x11.tmod 3 = x12 at hx12 ⊢
              show zG n (0, 0) d 121 (83, [.inr (.inr (some 81)), .inl a1, .inl a2, .inl a3, .inl x3, .inl v7, .inl v8], [.inl x12, .inl a1, .inr (.inr (some 81))]) M _
              refine zG_call hd0 hz zp_118 rfl rfl (Nat.le_of_ble_eq_true rfl) ⟨Nat.le_refl _, Nat.le_refl _⟩ (qm_118_81 (by first | exact zdp hd (by decide) | omega) hC  a1 (by first | with_reducible exact ha1 | omega) x12 (by omega)) (fun vr M13 hr => ?_)
              obtain ⟨hq, x14, rfl, hx14⟩ := hr
              replace hq := hq.symm; subst hq
              show zG n (0, 0) d 121 (86, [.inr (.inr (some 81)), .inl a1, .inl a2, .inl a3, .inl x3, .inl v7, .inl v8], [.inl x14]) M _
              refine zG_if_ne hd0 hz rfl (fun hb15 => ?_) (fun hb15 => ?_)
              · exact j98
              · obtain ⟨x16, hx16⟩ : ∃ x : Int, x = w32 (v7 + 1) := ⟨_, rfl⟩
                have hx16r : x16 = (v7 + 1 + 2147483648) % 4294967296 - 2147483648 := hx16
                obtain ⟨x17, hx17⟩ : ∃ x : Int, x = w32 (v8 + 1) := ⟨_, rfl⟩
                have hx17e : x17 = v8 + 1 := by rw [hx17]; exact w32_id (by omega)
                refine zG_blk (c' := (67, [.inr (.inr (some 81)), .inl a1, .inl a2, .inl a3, .inl x3, .inl x16, .inl x17], [])) 3 hd0 hz (by subst hx17; subst hx16; rfl) ?_
                exact ih67 x16 x17 (by omega) (by omega) (by omega)
        exact j67 ((3 - 1 : Int).toNat + 1) v4 1 (by first | decide | omega) (by omega) (by omega)
      · obtain ⟨x18, hx18⟩ : ∃ x : Int, x = zbshr x3 v5 := ⟨_, rfl⟩
        have hx18r : qin x18 := by rw [hx18]; exact qb32 _
        obtain ⟨x19, hx19⟩ : ∃ x : Int, x = zband x18 1 := ⟨_, rfl⟩
        have hx19r := qband_r x18 1 (by first | decide | omega) (by omega); rw [← hx19] at hx19r
        refine zG_blk (c' := (36, [.inr (.inr (some 81)), .inl a1, .inl a2, .inl a3, .inl x3, .inl v4, .inl v5], [.inl 1, .inl x19])) 6 hd0 hz (by subst hx19; subst hx18; rfl) ?_
        have j58 : ∀ (v20 : Int) , 1 ≤ v20 ∧ v20 ≤ 2147483647 → zG n (0, 0) d 121 (58, [.inr (.inr (some 81)), .inl a1, .inl a2, .inl a3, .inl x3, .inl v20, .inl v5], []) M (fun v M' => M' = M ∧ qRi (fun x => (-2147483648) ≤ x ∧ x ≤ 2147483647) v) := by
          intro v20 hv20
          obtain ⟨x21, hx21⟩ : ∃ x : Int, x = w32 (v5 + 1) := ⟨_, rfl⟩
          have hx21e : x21 = v5 + 1 := by rw [hx21]; exact w32_id (by omega)
          refine zG_blk (c' := (22, [.inr (.inr (some 81)), .inl a1, .inl a2, .inl a3, .inl x3, .inl v20, .inl x21], [])) 2 hd0 hz (by subst hx21; rfl) ?_
          exact ih22 v20 x21 (by omega) (by omega) (by omega)
        refine zG_icmp_ne hd0 hz rfl (fun hb22 => ?_) (fun hb22 => ?_)
        · exact j58 v4 (by first | with_reducible exact hv4 | omega)
        · refine zG_blk (c' := (48, [.inr (.inr (some 81)), .inl a1, .inl a2, .inl a3, .inl x3, .inl v4, .inl v5], [.inl 0, .inl v5, .inr (.inr (some 83)), .inl v4])) 5 hd0 hz (by rfl) ?_
          refine zG_call hd0 hz zp_106 rfl rfl (Nat.le_of_ble_eq_true rfl) ⟨Nat.le_refl _, Nat.le_refl _⟩ (qw_get (by first | exact zdp hd (by decide) | omega) hC (⟨by decide, rfl, rfl⟩ : qT n 83 14 1) v5 (by first | with_reducible exact hv5 | omega) 0 (by first | decide | omega)) (fun vr M23 hr => ?_)
          obtain ⟨hq, x24, rfl, hx24⟩ := hr
          replace hq := hq.symm; subst hq
          show zG n (0, 0) d 121 (51, [.inr (.inr (some 81)), .inl a1, .inl a2, .inl a3, .inl x3, .inl v4, .inl v5], [.inl x24, .inl v4]) M _
          obtain ⟨x25, hx25⟩ : ∃ x : Int, x = w32 (x24 + 1) := ⟨_, rfl⟩
          have hx25r : x25 = (x24 + 1 + 2147483648) % 4294967296 - 2147483648 := hx25
          obtain ⟨x26, hx26⟩ : ∃ x : Int, x = (if v4 < x25 then x25 else v4) := ⟨_, rfl⟩
          have hx26r := qite hx26
          refine zG_blk (c' := (58, [.inr (.inr (some 81)), .inl a1, .inl a2, .inl a3, .inl x3, .inl x26, .inl v5], [])) 4 hd0 hz (by subst hx26; subst hx25; rfl) ?_
          exact j58 x26 (by omega)
  exact j22 ((a1 - 0 : Int).toNat + 1) 1 0 (by first | decide | omega) (by omega) (by omega)
theorem qm_120_81 {n d : Nat} {M : zM} (hd : 2 ≤ d) (hC : qCI M) (a1 : Int) (ha1 : 1 ≤ a1 ∧ a1 ≤ 7) (a2 : Int) (ha2 : (-2147483648) ≤ a2 ∧ a2 ≤ 2147483647) : qOkP n d 120 [.inr (.inr (some 81)), .inl a1, .inl a2] 5 M (qRi (fun x => 0 ≤ x ∧ x ≤ 60)) := by
  have hz := zp_120
  have hd0 : 0 < d := by omega
  show zG n (0, 0) d 120 (0, [.inr (.inr (some 81)), .inl a1, .inl a2, zN, zN], []) M _
  refine zG_blk (c' := (5, [.inr (.inr (some 81)), .inl a1, .inl a2, .inl 0, .inl 1], [])) 4 hd0 hz (by rfl) ?_
  have j5 : ∀ (N : Nat) (v1 v2 : Int) , (a1 - v2 + 1 : Int).toNat < N → (-2147483648) ≤ v1 ∧ v1 ≤ 2147483647 → 1 ≤ v2 ∧ v2 ≤ 8 → zG n (0, 0) d 120 (5, [.inr (.inr (some 81)), .inl a1, .inl a2, .inl v1, .inl v2], []) M (fun v M' => M' = M ∧ qRi (fun x => 0 ≤ x ∧ x ≤ 60) v) := by
    intro N
    induction N with
    | zero => intro v1 v2 hN hv1 hv2; exact absurd hN (Nat.not_lt_zero _)
    | succ N ih5 =>
      intro v1 v2 hN hv1 hv2
      refine zG_blk (c' := (8, [.inr (.inr (some 81)), .inl a1, .inl a2, .inl v1, .inl v2], [.inl a1, .inl v2])) 2 hd0 hz (by rfl) ?_
      refine zG_icmp_gt hd0 hz rfl (fun hb3 => ?_) (fun hb3 => ?_)
      · refine zG_blk (c' := (46, [.inr (.inr (some 81)), .inl a1, .inl a2, .inl v1, .inl 0], [])) 2 hd0 hz (by rfl) ?_
        have j46 : ∀ (N : Nat) (v4 v5 : Int) , (60 - v5 : Int).toNat < N → (-2147483648) ≤ v4 ∧ v4 ≤ 2147483647 → 0 ≤ v5 ∧ v5 ≤ 60 → zG n (0, 0) d 120 (46, [.inr (.inr (some 81)), .inl a1, .inl a2, .inl v4, .inl v5], []) M (fun v M' => M' = M ∧ qRi (fun x => 0 ≤ x ∧ x ≤ 60) v) := by
          intro N
          induction N with
          | zero => intro v4 v5 hN hv4 hv5; exact absurd hN (Nat.not_lt_zero _)
          | succ N ih46 =>
            intro v4 v5 hN hv4 hv5
            refine zG_blk (c' := (47, [.inr (.inr (some 81)), .inl a1, .inl a2, .inl v4, .inl v5], [.inl v4])) 1 hd0 hz (by rfl) ?_
            have j84 : zG n (0, 0) d 120 (84, [.inr (.inr (some 81)), .inl a1, .inl a2, .inl v4, .inl v5], []) M (fun v M' => M' = M ∧ qRi (fun x => 0 ≤ x ∧ x ≤ 60) v) := by
              refine zG_blk (c' := (86, [.inr (.inr (some 81)), .inl a1, .inl a2, .inl v4, .inl v5], [.inl v5])) 1 hd0 hz (by rfl) ?_
              exact zG_ret hd0 hz rfl rfl ⟨rfl, _, rfl, by omega⟩
            refine zG_if_le hd0 hz rfl (fun hb6 => ?_) (fun hb6 => ?_)
            · exact j84
            · refine zG_blk (c' := (54, [.inr (.inr (some 81)), .inl a1, .inl a2, .inl v4, .inl v5], [.inl 60, .inl v5])) 2 hd0 hz (by rfl) ?_
              refine zG_icmp_ge hd0 hz rfl (fun hb7 => ?_) (fun hb7 => ?_)
              · exact j84
              · obtain ⟨x8, hx8⟩ : ∃ x : Int, x = w32 (a2 + v5) := ⟨_, rfl⟩
                have hx8r : x8 = (a2 + v5 + 2147483648) % 4294967296 - 2147483648 := hx8
                refine zG_blk (c' := (63, [.inr (.inr (some 81)), .inl a1, .inl a2, .inl v4, .inl v5], [.inl 3, .inl x8, .inl a1])) 5 hd0 hz (by subst hx8; rfl) ?_
                refine zG_irem hd0 hz rfl (by omega) ?_
                have hx9 := qtmod_in x8 3 (by first | decide | omega)
                generalize x8.tmod 3 = x9 at hx9 ⊢
                show zG n (0, 0) d 120 (64, [.inr (.inr (some 81)), .inl a1, .inl a2, .inl v4, .inl v5], [.inl x9, .inl a1]) M _
                obtain ⟨x10, hx10⟩ : ∃ x : Int, x = zbshr a1 x9 := ⟨_, rfl⟩
                have hx10r := qbshr_n a1 x9 (by omega); rw [← hx10] at hx10r
                obtain ⟨x11, hx11⟩ : ∃ x : Int, x = zband x10 1 := ⟨_, rfl⟩
                have hx11r := qband_lr x10 1 (by first | decide | omega) (by omega); rw [← hx11] at hx11r
                refine zG_blk (c' := (68, [.inr (.inr (some 81)), .inl a1, .inl a2, .inl v4, .inl v5], [.inl 1, .inl x11])) 4 hd0 hz (by subst hx11; subst hx10; rfl) ?_
                have j78 : ∀ (v12 : Int) , (-2147483648) ≤ v12 ∧ v12 ≤ 2147483647 → zG n (0, 0) d 120 (78, [.inr (.inr (some 81)), .inl a1, .inl a2, .inl v12, .inl v5], []) M (fun v M' => M' = M ∧ qRi (fun x => 0 ≤ x ∧ x ≤ 60) v) := by
                  intro v12 hv12
                  obtain ⟨x13, hx13⟩ : ∃ x : Int, x = w32 (v5 + 1) := ⟨_, rfl⟩
                  have hx13e : x13 = v5 + 1 := by rw [hx13]; exact w32_id (by omega)
                  refine zG_blk (c' := (46, [.inr (.inr (some 81)), .inl a1, .inl a2, .inl v12, .inl x13], [])) 2 hd0 hz (by subst hx13; rfl) ?_
                  exact ih46 v12 x13 (by omega) (by omega) (by omega)
                refine zG_icmp_ne hd0 hz rfl (fun hb14 => ?_) (fun hb14 => ?_)
                · exact j78 v4 (by first | with_reducible exact hv4 | omega)
                · have r15 := hC.rng 81 5 (by decide) (by decide)
                  obtain ⟨x16, hx16⟩ : ∃ x : Int, x = w32 (v4 - (M 81 5)) := ⟨_, rfl⟩
                  have hx16r : x16 = (v4 - (M 81 5) + 2147483648) % 4294967296 - 2147483648 := hx16
                  refine zG_blk (c' := (78, [.inr (.inr (some 81)), .inl a1, .inl a2, .inl x16, .inl v5], [])) 5 hd0 hz (by subst hx16; rfl) ?_
                  exact j78 x16 (by omega)
        exact j46 ((60 - 0 : Int).toNat + 1) v1 0 (by first | decide | omega) (by omega) (by omega)
      · obtain ⟨x17, hx17⟩ : ∃ x : Int, x = zbxor a1 (-1) := ⟨_, rfl⟩
        have hx17r : qin x17 := by rw [hx17]; exact qb32 _
        obtain ⟨x18, hx18⟩ : ∃ x : Int, x = zband v2 x17 := ⟨_, rfl⟩
        have hx18r := qband_l v2 x17 (by omega) (by omega); rw [← hx18] at hx18r
        refine zG_blk (c' := (18, [.inr (.inr (some 81)), .inl a1, .inl a2, .inl v1, .inl v2], [.inl x18, .inl v1])) 6 hd0 hz (by subst hx18; subst hx17; rfl) ?_
        have j35 : ∀ (v19 v20 : Int) , (-2147483648) ≤ v19 ∧ v19 ≤ 2147483647 → (-2147483648) ≤ v20 ∧ v20 ≤ 2147483647 → zG n (0, 0) d 120 (35, [.inr (.inr (some 81)), .inl a1, .inl a2, .inl v1, .inl v2], [.inl v20, .inl v19]) M (fun v M' => M' = M ∧ qRi (fun x => 0 ≤ x ∧ x ≤ 60) v) := by
          intro v19 v20 hv19 hv20
          obtain ⟨x21, hx21⟩ : ∃ x : Int, x = w32 (v19 + v20) := ⟨_, rfl⟩
          have hx21r : x21 = (v19 + v20 + 2147483648) % 4294967296 - 2147483648 := hx21
          obtain ⟨x22, hx22⟩ : ∃ x : Int, x = w32 (v2 + 1) := ⟨_, rfl⟩
          have hx22e : x22 = v2 + 1 := by rw [hx22]; exact w32_id (by omega)
          refine zG_blk (c' := (5, [.inr (.inr (some 81)), .inl a1, .inl a2, .inl x21, .inl x22], [])) 4 hd0 hz (by subst hx22; subst hx21; rfl) ?_
          exact ih5 x21 x22 (by omega) (by omega) (by omega)
        refine zG_if_ne hd0 hz rfl (fun hb23 => ?_) (fun hb23 => ?_)
        · refine zG_blk (c' := (35, [.inr (.inr (some 81)), .inl a1, .inl a2, .inl v1, .inl v2], [.inl 0, .inl v1])) 1 hd0 hz (by rfl) ?_
          exact j35 v1 0 (by first | decide | omega) (by omega)
        · refine zG_blk (c' := (28, [.inr (.inr (some 81)), .inl a1, .inl a2, .inl v1, .inl v2], [.inl 0, .inl v2, .inr (.inr (some 85)), .inl v1])) 4 hd0 hz (by rfl) ?_
          refine zG_call hd0 hz zp_106 rfl rfl (Nat.le_of_ble_eq_true rfl) ⟨Nat.le_refl _, Nat.le_refl _⟩ (qw_get (by first | exact zdp hd (by decide) | omega) hC (⟨by decide, rfl, rfl⟩ : qT n 85 8 1) v2 (by first | with_reducible exact hv2 | omega) 0 (by first | decide | omega)) (fun vr M24 hr => ?_)
          obtain ⟨hq, x25, rfl, hx25⟩ := hr
          replace hq := hq.symm; subst hq
          show zG n (0, 0) d 120 (31, [.inr (.inr (some 81)), .inl a1, .inl a2, .inl v1, .inl v2], [.inl x25, .inl v1]) M _
          refine zG_blk (c' := (35, [.inr (.inr (some 81)), .inl a1, .inl a2, .inl v1, .inl v2], [.inl x25, .inl v1])) 1 hd0 hz (by rfl) ?_
          exact j35 v1 x25 (by omega) (by omega)
  exact j5 ((a1 - 1 + 1 : Int).toNat + 1) 0 1 (by first | decide | omega) (by omega) (by omega)
