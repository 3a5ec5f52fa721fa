theorem qm_163_8 {n d : Nat} {M : zM} (hd : 2 ≤ d) (hC : qCI M)  : qOkM n d 163 [.inr (.inr (some 8))] 2 qCI [24] M (qRi (fun x => 0 ≤ x ∧ x ≤ 12)) := by
  have hz := zp_163
  have hd0 : 0 < d := by omega
  have hW : qFr [24] M M := qFr.rfl
  show zG n (0, 0) d 163 (0, [.inr (.inr (some 8)), zN], []) M _
  refine zG_blk (c' := (7, [.inr (.inr (some 8)), zN], [.inr (.inr (some 24))])) 3 hd0 hz (by rfl) ?_
  refine zG_call hd0 hz zp_101 rfl rfl (Nat.le_of_ble_eq_true rfl) ⟨Nat.le_refl _, Nat.le_refl _⟩ (qw_size (by first | exact zdp hd (by decide) | omega) hC (⟨by decide, rfl, rfl⟩ : qT n 24 12 2) ) (fun vr M1 hr => ?_)
  obtain ⟨hq, x2, rfl, hx2⟩ := hr
  replace hq := hq.symm; subst hq
  show zG n (0, 0) d 163 (10, [.inr (.inr (some 8)), zN], [.inl x2]) M _
  refine zG_blk (c' := (18, [.inr (.inr (some 8)), .inl x2], [.inr (.inr (some 24))])) 4 hd0 hz (by rfl) ?_
  refine zG_call hd0 hz zp_104 rfl rfl (Nat.le_of_ble_eq_true rfl) ⟨Nat.le_refl _, Nat.le_refl _⟩ (qw_drop (by first | exact zdp hd (by decide) | omega) hC (⟨by decide, rfl, rfl⟩ : qT n 24 12 2) ) (fun vr M3 hr => ?_)
  obtain ⟨⟨hCM3, hFM3⟩, rfl⟩ := hr
  have hWM3 : qFr [24] M M3 := hW.tr hFM3 (by decide)
  show zG n (0, 0) d 163 (21, [.inr (.inr (some 8)), .inl x2], []) M3 _
  refine zG_blk (c' := (22, [.inr (.inr (some 8)), .inl x2], [.inl x2])) 1 hd0 hz (by rfl) ?_
  exact zG_ret hd0 hz rfl rfl ⟨⟨hCM3, hWM3⟩, _, rfl, by omega⟩
theorem qm_4_95_24 {n d : Nat} {M : zM} (hd : 2 ≤ d) (hC : qCI M)  : qOkM n d 4 [.inr (.inr (some 95)), .inr (.inr (some 24))] 7 qCI [96] M (qRi (fun x => (-2147483648) ≤ x ∧ x ≤ 2147483647)) := by
  have hz := zp_4
  have hd0 : 0 < d := by omega
  have hW : qFr [96] M M := qFr.rfl
  show zG n (0, 0) d 4 (0, [.inr (.inr (some 95)), .inr (.inr (some 24)), zN, zN, zN, zN, zN], []) M _
  refine zG_blk (c' := (7, [.inr (.inr (some 95)), .inr (.inr (some 24)), .inl 0, .inl 0, .inl 0, zN, zN], [])) 6 hd0 hz (by rfl) ?_
  have j7 : ∀ (N : Nat) (v1 v2 v3 : Int) (M4 : zM) , (12 - v3 : Int).toNat < N → (-2147483648) ≤ v1 ∧ v1 ≤ 2147483647 → (-2147483648) ≤ v2 ∧ v2 ≤ 2147483647 → 0 ≤ v3 ∧ v3 ≤ 12 → qCI M4 → qFr [96] M M4 → zG n (0, 0) d 4 (7, [.inr (.inr (some 95)), .inr (.inr (some 24)), .inl v1, .inl v2, .inl v3, zN, zN], []) M4 (fun v M' => qWf qCI [96] M M' ∧ qRi (fun x => (-2147483648) ≤ x ∧ x ≤ 2147483647) v) := by
    intro N
    induction N with
    | zero => intro v1 v2 v3 M4 hN hv1 hv2 hv3 hCM4 hWM4; exact absurd hN (Nat.not_lt_zero _)
    | succ N ih7 =>
      intro v1 v2 v3 M4 hN hv1 hv2 hv3 hCM4 hWM4
      refine zG_blk (c' := (10, [.inr (.inr (some 95)), .inr (.inr (some 24)), .inl v1, .inl v2, .inl v3, zN, zN], [.inr (.inr (some 24)), .inl v3])) 2 hd0 hz (by rfl) ?_
      refine zG_call hd0 hz zp_101 rfl rfl (Nat.le_of_ble_eq_true rfl) ⟨Nat.le_refl _, Nat.le_refl _⟩ (qw_size (by first | exact zdp hd (by decide) | omega) hCM4 (⟨by decide, rfl, rfl⟩ : qT n 24 12 2) ) (fun vr M5 hr => ?_)
      obtain ⟨hq, x6, rfl, hx6⟩ := hr
      replace hq := hq.symm; subst hq
      show zG n (0, 0) d 4 (13, [.inr (.inr (some 95)), .inr (.inr (some 24)), .inl v1, .inl v2, .inl v3, zN, zN], [.inl x6, .inl v3]) M4 _
      have j74 : zG n (0, 0) d 4 (74, [.inr (.inr (some 95)), .inr (.inr (some 24)), .inl v1, .inl v2, .inl v3, zN, zN], []) M4 (fun v M' => qWf qCI [96] M M' ∧ qRi (fun x => (-2147483648) ≤ x ∧ x ≤ 2147483647) v) := by
        refine zG_blk (c' := (75, [.inr (.inr (some 95)), .inr (.inr (some 24)), .inl v1, .inl v2, .inl v3, zN, zN], [.inl v1])) 1 hd0 hz (by rfl) ?_
        exact zG_ret hd0 hz rfl rfl ⟨⟨hCM4, hWM4⟩, _, rfl, by omega⟩
      refine zG_icmp_ge hd0 hz rfl (fun hb7 => ?_) (fun hb7 => ?_)
      · exact j74
      · refine zG_blk (c' := (23, [.inr (.inr (some 95)), .inr (.inr (some 24)), .inl v1, .inl v2, .inl v3, zN, zN], [.inl 12, .inl v3])) 4 hd0 hz (by rfl) ?_
        refine zG_icmp_ge hd0 hz rfl (fun hb8 => ?_) (fun hb8 => ?_)
        · exfalso; omega
        · refine zG_blk (c' := (30, [.inr (.inr (some 95)), .inr (.inr (some 24)), .inl v1, .inl v2, .inl v3, zN, zN], [.inl 0, .inl v3, .inr (.inr (some 24))])) 3 hd0 hz (by rfl) ?_
          refine zG_call hd0 hz zp_106 rfl rfl (Nat.le_of_ble_eq_true rfl) ⟨Nat.le_refl _, Nat.le_refl _⟩ (qw_get (by first | exact zdp hd (by decide) | omega) hCM4 (⟨by decide, rfl, rfl⟩ : qT n 24 12 2) v3 (by first | with_reducible exact hv3 | omega) 0 (by first | decide | omega)) (fun vr M9 hr => ?_)
          obtain ⟨hq, x10, rfl, hx10⟩ := hr
          replace hq := hq.symm; subst hq
          show zG n (0, 0) d 4 (33, [.inr (.inr (some 95)), .inr (.inr (some 24)), .inl v1, .inl v2, .inl v3, zN, zN], [.inl x10]) M4 _
          refine zG_blk (c' := (39, [.inr (.inr (some 95)), .inr (.inr (some 24)), .inl v1, .inl v2, .inl v3, .inl x10, zN], [.inl 1, .inl v3, .inr (.inr (some 24))])) 4 hd0 hz (by rfl) ?_
          refine zG_call hd0 hz zp_106 rfl rfl (Nat.le_of_ble_eq_true rfl) ⟨Nat.le_refl _, Nat.le_refl _⟩ (qw_get (by first | exact zdp hd (by decide) | omega) hCM4 (⟨by decide, rfl, rfl⟩ : qT n 24 12 2) v3 (by first | with_reducible exact hv3 | omega) 1 (by first | decide | omega)) (fun vr M11 hr => ?_)
          obtain ⟨hq, x12, rfl, hx12⟩ := hr
          replace hq := hq.symm; subst hq
          show zG n (0, 0) d 4 (42, [.inr (.inr (some 95)), .inr (.inr (some 24)), .inl v1, .inl v2, .inl v3, .inl x10, zN], [.inl x12]) M4 _
          obtain ⟨x13, hx13⟩ : ∃ x : Int, x = w32 (x12 - x10) := ⟨_, rfl⟩
          have hx13r : x13 = (x12 - x10 + 2147483648) % 4294967296 - 2147483648 := hx13
          obtain ⟨x14, hx14⟩ : ∃ x : Int, x = w32 (v1 + x10) := ⟨_, rfl⟩
          have hx14r : x14 = (v1 + x10 + 2147483648) % 4294967296 - 2147483648 := hx14
          obtain ⟨x15, hx15⟩ : ∃ x : Int, x = w32 (x13 - v2) := ⟨_, rfl⟩
          have hx15r : x15 = (x13 - v2 + 2147483648) % 4294967296 - 2147483648 := hx15
          refine zG_blk (c' := (62, [.inr (.inr (some 95)), .inr (.inr (some 24)), .inl x14, .inl v2, .inl v3, .inl x10, .inl x13], [.inl x15, .inl v3, .inr (.inr (some 96))])) 13 hd0 hz (by subst hx15; subst hx14; subst hx13; rfl) ?_
          refine zG_iast hd0 hz rfl rfl (by omega) ?_
          obtain ⟨M16, hM16⟩ : ∃ X : zM, X = zput M4 96 (v3 : Int).toNat x15 := ⟨_, rfl⟩
          rw [← hM16]
          have hCM16 : qCI M16 := by rw [hM16]; exact hCM4.put (r := 96) rfl (.inl (by omega))
          have hWM16 : qFr [96] M M16 := by rw [hM16]; exact hWM4.put (by decide)
          show zG n (0, 0) d 4 (63, [.inr (.inr (some 95)), .inr (.inr (some 24)), .inl x14, .inl v2, .inl v3, .inl x10, .inl x13], []) M16 _
          obtain ⟨x17, hx17⟩ : ∃ x : Int, x = w32 (v2 + x13) := ⟨_, rfl⟩
          have hx17r : x17 = (v2 + x13 + 2147483648) % 4294967296 - 2147483648 := hx17
          obtain ⟨x18, hx18⟩ : ∃ x : Int, x = w32 (v3 + 1) := ⟨_, rfl⟩
          have hx18e : x18 = v3 + 1 := by rw [hx18]; exact w32_id (by omega)
          refine zG_blk (c' := (7, [.inr (.inr (some 95)), .inr (.inr (some 24)), .inl x14, .inl x17, .inl x18, .inl x10, .inl x13], [])) 6 hd0 hz (by subst hx18; subst hx17; rfl) ?_
          exact zG_weak (ih7 x14 x17 x18 M16 (by omega) (by omega) (by omega) (by omega) hCM16 hWM16) ⟨.inr rfl, .inr rfl, .inr rfl, .inr rfl, .inr rfl, .inl rfl, .inl rfl, trivial⟩
  exact j7 ((12 - 0 : Int).toNat + 1) 0 0 0 M (by omega) (by omega) (by omega) (by omega) hC hW
theorem qm_297 {n d : Nat} {M : zM} (hd : 1 ≤ d) (hC : qCI M) (a0 : Int) (ha0 : (-2147483648) ≤ a0 ∧ a0 ≤ 2147483647) : qOkP n d 297 [.inl a0] 2 M (qRi (fun x => 0 ≤ x ∧ x ≤ 33)) := by
  have hz := zp_297
  have hd0 : 0 < d := by omega
  show zG n (0, 0) d 297 (0, [.inl a0, zN], []) M _
  obtain ⟨x1, hx1⟩ : ∃ x : Int, x = zbxor a0 (-1) := ⟨_, rfl⟩
  have hx1r : qin x1 := by rw [hx1]; exact qb32 _
  obtain ⟨x2, hx2⟩ : ∃ x : Int, x = w32 (a0 - 1) := ⟨_, rfl⟩
  have hx2r : x2 = (a0 - 1 + 2147483648) % 4294967296 - 2147483648 := hx2
  obtain ⟨x3, hx3⟩ : ∃ x : Int, x = zband x1 x2 := ⟨_, rfl⟩
  have hx3r : qin x3 := by rw [hx3]; exact qb32 _
  refine zG_blk (c' := (9, [.inl x3, zN], [.inl x3])) 9 hd0 hz (by subst hx3; subst hx2; subst hx1; rfl) ?_
  refine zG_if_gt hd0 hz rfl (fun hb4 => ?_) (fun hb4 => ?_)
  · refine zG_blk (c' := (23, [.inl x3, .inl 1], [.inl 65536, .inl x3])) 4 hd0 hz (by rfl) ?_
    have j34 : ∀ (v5 v6 : Int) , 1 ≤ v5 ∧ v5 ≤ 65536 → 1 ≤ v6 ∧ v6 ≤ 17 → zG n (0, 0) d 297 (34, [.inl v5, .inl v6], []) M (fun v M' => M' = M ∧ qRi (fun x => 0 ≤ x ∧ x ≤ 33) v) := by
      intro v5 v6 hv5 hv6
      refine zG_blk (c' := (38, [.inl v5, .inl v6], [.inl 256, .inl v5])) 2 hd0 hz (by rfl) ?_
      have j49 : ∀ (v7 v8 : Int) , 1 ≤ v7 ∧ v7 ≤ 256 → 1 ≤ v8 ∧ v8 ≤ 25 → zG n (0, 0) d 297 (49, [.inl v7, .inl v8], []) M (fun v M' => M' = M ∧ qRi (fun x => 0 ≤ x ∧ x ≤ 33) v) := by
        intro v7 v8 hv7 hv8
        refine zG_blk (c' := (52, [.inl v7, .inl v8], [.inl 16, .inl v7])) 2 hd0 hz (by rfl) ?_
        have j62 : ∀ (v9 v10 : Int) , 1 ≤ v9 ∧ v9 ≤ 16 → 1 ≤ v10 ∧ v10 ≤ 29 → zG n (0, 0) d 297 (62, [.inl v9, .inl v10], []) M (fun v M' => M' = M ∧ qRi (fun x => 0 ≤ x ∧ x ≤ 33) v) := by
          intro v9 v10 hv9 hv10
          refine zG_blk (c' := (64, [.inl v9, .inl v10], [.inl 4, .inl v9])) 2 hd0 hz (by rfl) ?_
          have j74 : ∀ (v11 v12 : Int) , 1 ≤ v11 ∧ v11 ≤ 4 → 1 ≤ v12 ∧ v12 ≤ 31 → zG n (0, 0) d 297 (74, [.inl v11, .inl v12], []) M (fun v M' => M' = M ∧ qRi (fun x => 0 ≤ x ∧ x ≤ 33) v) := by
            intro v11 v12 hv11 hv12
            obtain ⟨x13, hx13⟩ : ∃ x : Int, x = zbushr v11 1 := ⟨_, rfl⟩
            have hx13r := qushr v11 1 2 (by first | decide | omega) (by omega) (by decide); rw [← hx13] at hx13r
            obtain ⟨x14, hx14⟩ : ∃ x : Int, x = w32 (v12 + x13) := ⟨_, rfl⟩
            have hx14e : x14 = v12 + x13 := by rw [hx14]; exact w32_id (by omega)
            refine zG_blk (c' := (79, [.inl v11, .inl v12], [.inl x14])) 5 hd0 hz (by subst hx14; subst hx13; rfl) ?_
            exact zG_ret hd0 hz rfl rfl ⟨rfl, _, rfl, by omega⟩
          refine zG_icmp_le hd0 hz rfl (fun hb15 => ?_) (fun hb15 => ?_)
          · exact j74 v9 v10 (by first | with_reducible exact hv10 | omega) (by omega)
          · obtain ⟨x16, hx16⟩ : ∃ x : Int, x = w32 (v10 + 2) := ⟨_, rfl⟩
            have hx16e : x16 = v10 + 2 := by rw [hx16]; exact w32_id (by omega)
            obtain ⟨x17, hx17⟩ : ∃ x : Int, x = zbushr v9 2 := ⟨_, rfl⟩
            have hx17r := qushr v9 2 4 (by first | decide | omega) (by omega) (by decide); rw [← hx17] at hx17r
            refine zG_blk (c' := (74, [.inl x17, .inl x16], [])) 5 hd0 hz (by subst hx17; subst hx16; rfl) ?_
            exact j74 x17 x16 (by omega) (by omega)
        refine zG_icmp_le hd0 hz rfl (fun hb18 => ?_) (fun hb18 => ?_)
        · exact j62 v7 v8 (by first | with_reducible exact hv8 | omega) (by omega)
        · obtain ⟨x19, hx19⟩ : ∃ x : Int, x = w32 (v8 + 4) := ⟨_, rfl⟩
          have hx19e : x19 = v8 + 4 := by rw [hx19]; exact w32_id (by omega)
          obtain ⟨x20, hx20⟩ : ∃ x : Int, x = zbushr v7 4 := ⟨_, rfl⟩
          have hx20r := qushr v7 4 16 (by first | decide | omega) (by omega) (by decide); rw [← hx20] at hx20r
          refine zG_blk (c' := (62, [.inl x20, .inl x19], [])) 5 hd0 hz (by subst hx20; subst hx19; rfl) ?_
          exact j62 x20 x19 (by omega) (by omega)
      refine zG_icmp_le hd0 hz rfl (fun hb21 => ?_) (fun hb21 => ?_)
      · exact j49 v5 v6 (by first | with_reducible exact hv6 | omega) (by omega)
      · obtain ⟨x22, hx22⟩ : ∃ x : Int, x = w32 (v6 + 8) := ⟨_, rfl⟩
        have hx22e : x22 = v6 + 8 := by rw [hx22]; exact w32_id (by omega)
        obtain ⟨x23, hx23⟩ : ∃ x : Int, x = zbushr v5 8 := ⟨_, rfl⟩
        have hx23r := qushr v5 8 256 (by first | decide | omega) (by omega) (by decide); rw [← hx23] at hx23r
        refine zG_blk (c' := (49, [.inl x23, .inl x22], [])) 5 hd0 hz (by subst hx23; subst hx22; rfl) ?_
        exact j49 x23 x22 (by omega) (by omega)
    refine zG_icmp_le hd0 hz rfl (fun hb24 => ?_) (fun hb24 => ?_)
    · exact j34 x3 1 (by first | decide | omega) (by omega)
    · obtain ⟨x25, hx25⟩ : ∃ x : Int, x = zbushr x3 16 := ⟨_, rfl⟩
      have hx25r := qushr x3 16 65536 (by first | decide | omega) (by omega) (by decide); rw [← hx25] at hx25r
      refine zG_blk (c' := (34, [.inl x25, .inl 17], [])) 5 hd0 hz (by subst hx25; rfl) ?_
      exact j34 x25 17 (by first | decide | omega) (by omega)
  · obtain ⟨x26, hx26⟩ : ∃ x : Int, x = zband x3 32 := ⟨_, rfl⟩
    have hx26r := qband_r x3 32 (by first | decide | omega) (by omega); rw [← hx26] at hx26r
    refine zG_blk (c' := (16, [.inl x3, zN], [.inl x26])) 3 hd0 hz (by subst hx26; rfl) ?_
    exact zG_ret hd0 hz rfl rfl ⟨rfl, _, rfl, by omega⟩
theorem qm_3_95_24 {n d : Nat} {M : zM} (hd : 3 ≤ d) (hC : qCI M) (a2 : Int) (ha2 : (-2147483648) ≤ a2 ∧ a2 ≤ 2147483647) : qOkM n d 3 [.inr (.inr (some 95)), .inr (.inr (some 24)), .inl a2] 8 qCI [95, 96] M qRn := by
  have hz := zp_3
  have hd0 : 0 < d := by omega
  have hW : qFr [95, 96] M M := qFr.rfl
  show zG n (0, 0) d 3 (0, [.inr (.inr (some 95)), .inr (.inr (some 24)), .inl a2, zN, zN, zN, zN, zN], []) M _
  refine zG_blk (c' := (2, [.inr (.inr (some 95)), .inr (.inr (some 24)), .inl a2, zN, zN, zN, zN, zN], [.inr (.inr (some 24)), .inr (.inr (some 95))])) 2 hd0 hz (by rfl) ?_
  refine zG_call hd0 hz zp_4 rfl rfl (Nat.le_of_ble_eq_true rfl) ⟨Nat.le_refl _, Nat.le_refl _⟩ (qm_4_95_24 (by first | exact zdp hd (by decide) | omega) hC  ) (fun vr M1 hr => ?_)
  obtain ⟨⟨hCM1, hFM1⟩, x2, rfl, hx2⟩ := hr
  have hWM1 : qFr [95, 96] M M1 := hW.tr hFM1 (by decide)
  show zG n (0, 0) d 3 (5, [.inr (.inr (some 95)), .inr (.inr (some 24)), .inl a2, zN, zN, zN, zN, zN], [.inl x2]) M1 _
  refine zG_blk (c' := (12, [.inr (.inr (some 95)), .inr (.inr (some 24)), .inl a2, .inl x2, .inl 13, zN, zN, zN], [.inl (-1), .inr (.inr (some 95))])) 5 hd0 hz (by rfl) ?_
  refine zG_putf (.inl rfl) hd0 hz rfl (by decide) rfl rfl ?_
  obtain ⟨M3, hM3⟩ : ∃ X : zM, X = zput M1 95 1 (-1) := ⟨_, rfl⟩
  rw [← hM3]
  have hCM3 : qCI M3 := by rw [hM3]; exact hCM1.put (r := 95) (k := 1) rfl (.inl (by omega))
  have hWM3 : qFr [95, 96] M M3 := by rw [hM3]; exact hWM1.put (by decide)
  have e4 : M3 95 1 = (-1) := by rw [hM3]; exact qput_eq
  show zG n (0, 0) d 3 (15, [.inr (.inr (some 95)), .inr (.inr (some 24)), .inl a2, .inl x2, .inl 13, zN, zN, zN], []) M3 _
  refine zG_blk (c' := (17, [.inr (.inr (some 95)), .inr (.inr (some 24)), .inl a2, .inl x2, .inl 13, zN, zN, zN], [.inl 0, .inr (.inr (some 95))])) 2 hd0 hz (by rfl) ?_
  refine zG_putf (.inl rfl) hd0 hz rfl (by decide) rfl rfl ?_
  obtain ⟨M5, hM5⟩ : ∃ X : zM, X = zput M3 95 2 0 := ⟨_, rfl⟩
  rw [← hM5]
  have hCM5 : qCI M5 := by rw [hM5]; exact hCM3.put (r := 95) (k := 2) rfl (.inl (by omega))
  have hWM5 : qFr [95, 96] M M5 := by rw [hM5]; exact hWM3.put (by decide)
  have e6 : M5 95 1 = M3 95 1 := by rw [hM5]; exact qput_nk (by decide)
  have e7 : M5 95 2 = 0 := by rw [hM5]; exact qput_eq
  show zG n (0, 0) d 3 (20, [.inr (.inr (some 95)), .inr (.inr (some 24)), .inl a2, .inl x2, .inl 13, zN, zN, zN], []) M5 _
  refine zG_blk (c' := (23, [.inr (.inr (some 95)), .inr (.inr (some 24)), .inl a2, .inl x2, .inl 13, .inl 0, zN, zN], [])) 2 hd0 hz (by rfl) ?_
  have j23 : ∀ (N : Nat) (v8 v9 v10 : Int) (M11 : zM) , (2147483647 - v10 : Int).toNat < N → (-2147483648) ≤ v8 ∧ v8 ≤ 2147483647 → 0 ≤ v9 ∧ v9 ≤ 13 → 0 ≤ v10 ∧ v10 ≤ 2147483647 → qCI M11 → qFr [95, 96] M M11 → zG n (0, 0) d 3 (23, [.inr (.inr (some 95)), .inr (.inr (some 24)), .inl a2, .inl v8, .inl v9, .inl v10, zN, zN], []) M11 (fun v M' => qWf qCI [95, 96] M M' ∧ qRn v) := by
    intro N
    induction N with
    | zero => intro v8 v9 v10 M11 hN hv8 hv9 hv10 hCM11 hWM11; exact absurd hN (Nat.not_lt_zero _)
    | succ N ih23 =>
      intro v8 v9 v10 M11 hN hv8 hv9 hv10 hCM11 hWM11
      refine zG_blk (c' := (27, [.inr (.inr (some 95)), .inr (.inr (some 24)), .inl a2, .inl v8, .inl v9, .inl v10, zN, zN], [.inr (.inr (some 24)), .inl 1, .inl v10])) 3 hd0 hz (by rfl) ?_
      refine zG_call hd0 hz zp_101 rfl rfl (Nat.le_of_ble_eq_true rfl) ⟨Nat.le_refl _, Nat.le_refl _⟩ (qw_size (by first | exact zdp hd (by decide) | omega) hCM11 (⟨by decide, rfl, rfl⟩ : qT n 24 12 2) ) (fun vr M12 hr => ?_)
      obtain ⟨hq, x13, rfl, hx13⟩ := hr
      replace hq := hq.symm; subst hq
      show zG n (0, 0) d 3 (30, [.inr (.inr (some 95)), .inr (.inr (some 24)), .inl a2, .inl v8, .inl v9, .inl v10, zN, zN], [.inl x13, .inl 1, .inl v10]) M11 _
      obtain ⟨x14, hx14⟩ : ∃ x : Int, x = (if 12 < x13 then 12 else x13) := ⟨_, rfl⟩
      have hx14r := qite hx14
      obtain ⟨x15, hx15⟩ : ∃ x : Int, x = zbshl 1 x14 := ⟨_, rfl⟩
      have hx15r : qin x15 := by rw [hx15]; exact qb32 _
      refine zG_blk (c' := (36, [.inr (.inr (some 95)), .inr (.inr (some 24)), .inl a2, .inl v8, .inl v9, .inl v10, zN, zN], [.inl x15, .inl v10])) 3 hd0 hz (by subst hx15; subst hx14; rfl) ?_
      refine zG_icmp_ge hd0 hz rfl (fun hb16 => ?_) (fun hb16 => ?_)
      · exact zG_ret hd0 hz rfl rfl ⟨⟨hCM11, hWM11⟩, rfl⟩
      · refine zG_blk (c' := (41, [.inr (.inr (some 95)), .inr (.inr (some 24)), .inl a2, .inl v8, .inl v9, .inl v10, zN, zN], [.inl v10])) 1 hd0 hz (by rfl) ?_
        refine zG_call hd0 hz zp_297 rfl rfl (Nat.le_of_ble_eq_true rfl) ⟨Nat.le_refl _, Nat.le_refl _⟩ (qm_297 (by first | exact zdp hd (by decide) | omega) hCM11  v10 (by first | with_reducible exact hv10 | omega)) (fun vr M17 hr => ?_)
        obtain ⟨hq, x18, rfl, hx18⟩ := hr
        replace hq := hq.symm; subst hq
        show zG n (0, 0) d 3 (44, [.inr (.inr (some 95)), .inr (.inr (some 24)), .inl a2, .inl v8, .inl v9, .inl v10, zN, zN], [.inl x18]) M11 _
        refine zG_blk (c' := (49, [.inr (.inr (some 95)), .inr (.inr (some 24)), .inl a2, .inl v8, .inl v9, .inl v10, .inl x18, zN], [.inl v10, .inl v8])) 3 hd0 hz (by rfl) ?_
        have j73 : ∀ (v19 v20 : Int) , (-2147483648) ≤ v19 ∧ v19 ≤ 2147483647 → (-2147483648) ≤ v20 ∧ v20 ≤ 2147483647 → zG n (0, 0) d 3 (73, [.inr (.inr (some 95)), .inr (.inr (some 24)), .inl a2, .inl v8, .inl v9, .inl v10, .inl x18, zN], [.inl v20, .inl v19]) M11 (fun v M' => qWf qCI [95, 96] M M' ∧ qRn v) := by
          intro v19 v20 hv19 hv20
          obtain ⟨x21, hx21⟩ : ∃ x : Int, x = w32 (v19 + v20) := ⟨_, rfl⟩
          have hx21r : x21 = (v19 + v20 + 2147483648) % 4294967296 - 2147483648 := hx21
          refine zG_blk (c' := (77, [.inr (.inr (some 95)), .inr (.inr (some 24)), .inl a2, .inl x21, .inl v9, .inl v10, .inl x18, zN], [.inl v10])) 3 hd0 hz (by subst hx21; rfl) ?_
          refine zG_call hd0 hz zp_296 rfl rfl (Nat.le_of_ble_eq_true rfl) ⟨Nat.le_refl _, Nat.le_refl _⟩ (qm_296 (by first | exact zdp hd (by decide) | omega) hCM11  v10 (by first | with_reducible exact hv10 | omega)) (fun vr M22 hr => ?_)
          obtain ⟨hq, x23, rfl, hx23⟩ := hr
          replace hq := hq.symm; subst hq
          show zG n (0, 0) d 3 (80, [.inr (.inr (some 95)), .inr (.inr (some 24)), .inl a2, .inl x21, .inl v9, .inl v10, .inl x18, zN], [.inl x23]) M11 _
          refine zG_blk (c' := (84, [.inr (.inr (some 95)), .inr (.inr (some 24)), .inl a2, .inl x21, .inl v9, .inl v10, .inl x18, .inl x23], [.inl a2, .inl x21])) 3 hd0 hz (by rfl) ?_
          have j134 : ∀ (v24 : Int) (M25 : zM) , 0 ≤ v24 ∧ v24 ≤ 13 → qCI M25 → qFr [95, 96] M M25 → zG n (0, 0) d 3 (134, [.inr (.inr (some 95)), .inr (.inr (some 24)), .inl a2, .inl x21, .inl v24, .inl v10, .inl x18, .inl x23], []) M25 (fun v M' => qWf qCI [95, 96] M M' ∧ qRn v) := by
            intro v24 M25 hv24 hCM25 hWM25
            obtain ⟨x26, hx26⟩ : ∃ x : Int, x = w32 (v10 + 1) := ⟨_, rfl⟩
            have hx26e : x26 = v10 + 1 := by rw [hx26]; exact w32_id (by omega)
            refine zG_blk (c' := (23, [.inr (.inr (some 95)), .inr (.inr (some 24)), .inl a2, .inl x21, .inl v24, .inl x26, .inl x18, .inl x23], [])) 2 hd0 hz (by subst hx26; rfl) ?_
            exact zG_weak (ih23 x21 v24 x26 M25 (by omega) (by omega) (by omega) (by omega) hCM25 hWM25) ⟨.inr rfl, .inr rfl, .inr rfl, .inr rfl, .inr rfl, .inr rfl, .inl rfl, .inl rfl, trivial⟩
          have j112 : zG n (0, 0) d 3 (112, [.inr (.inr (some 95)), .inr (.inr (some 24)), .inl a2, .inl x21, .inl v9, .inl v10, .inl x18, .inl x23], []) M11 (fun v M' => qWf qCI [95, 96] M M' ∧ qRn v) := by
            refine zG_blk (c' := (114, [.inr (.inr (some 95)), .inr (.inr (some 24)), .inl a2, .inl x21, .inl v9, .inl v10, .inl x18, .inl x23], [.inl a2, .inl x21])) 2 hd0 hz (by rfl) ?_
            refine zG_icmp_ne hd0 hz rfl (fun hb27 => ?_) (fun hb27 => ?_)
            · exact j134 v9 M11 (by omega) hCM11 hWM11
            · refine zG_blk (c' := (121, [.inr (.inr (some 95)), .inr (.inr (some 24)), .inl a2, .inl x21, .inl v9, .inl v10, .inl x18, .inl x23], [.inl v9, .inl x23])) 2 hd0 hz (by rfl) ?_
              refine zG_icmp_ne hd0 hz rfl (fun hb28 => ?_) (fun hb28 => ?_)
              · exact j134 v9 M11 (by omega) hCM11 hWM11
              · have r29 := hCM11.rng 95 2 (by decide) (by decide)
                obtain ⟨x30, hx30⟩ : ∃ x : Int, x = w32 ((M11 95 2) + 1) := ⟨_, rfl⟩
                have hx30r : x30 = ((M11 95 2) + 1 + 2147483648) % 4294967296 - 2147483648 := hx30
                refine zG_blk (c' := (131, [.inr (.inr (some 95)), .inr (.inr (some 24)), .inl a2, .inl x21, .inl v9, .inl v10, .inl x18, .inl x23], [.inl x30, .inr (.inr (some 95))])) 5 hd0 hz (by subst hx30; rfl) ?_
                refine zG_putf (.inl rfl) hd0 hz rfl (by decide) rfl rfl ?_
                obtain ⟨M31, hM31⟩ : ∃ X : zM, X = zput M11 95 2 x30 := ⟨_, rfl⟩
                rw [← hM31]
                have hCM31 : qCI M31 := by rw [hM31]; exact hCM11.put (r := 95) (k := 2) rfl (.inl (by omega))
                have hWM31 : qFr [95, 96] M M31 := by rw [hM31]; exact hWM11.put (by decide)
                have e32 : M31 95 2 = x30 := by rw [hM31]; exact qput_eq
                show zG n (0, 0) d 3 (134, [.inr (.inr (some 95)), .inr (.inr (some 24)), .inl a2, .inl x21, .inl v9, .inl v10, .inl x18, .inl x23], []) M31 _
                exact j134 v9 M31 (by omega) hCM31 hWM31
          refine zG_icmp_ne hd0 hz rfl (fun hb33 => ?_) (fun hb33 => ?_)
          · exact j112
          · refine zG_blk (c' := (91, [.inr (.inr (some 95)), .inr (.inr (some 24)), .inl a2, .inl x21, .inl v9, .inl v10, .inl x18, .inl x23], [.inl v9, .inl x23])) 2 hd0 hz (by rfl) ?_
            refine zG_icmp_ge hd0 hz rfl (fun hb34 => ?_) (fun hb34 => ?_)
            · exact j112
            · refine zG_blk (c' := (97, [.inr (.inr (some 95)), .inr (.inr (some 24)), .inl a2, .inl x21, .inl v9, .inl v10, .inl x18, .inl x23], [.inl v10, .inr (.inr (some 95))])) 2 hd0 hz (by rfl) ?_
              refine zG_putf (.inl rfl) hd0 hz rfl (by decide) rfl rfl ?_
              obtain ⟨M35, hM35⟩ : ∃ X : zM, X = zput M11 95 1 v10 := ⟨_, rfl⟩
              rw [← hM35]
              have hCM35 : qCI M35 := by rw [hM35]; exact hCM11.put (r := 95) (k := 1) rfl (.inl (by omega))
              have hWM35 : qFr [95, 96] M M35 := by rw [hM35]; exact hWM11.put (by decide)
              have e36 : M35 95 1 = v10 := by rw [hM35]; exact qput_eq
              show zG n (0, 0) d 3 (100, [.inr (.inr (some 95)), .inr (.inr (some 24)), .inl a2, .inl x21, .inl v9, .inl v10, .inl x18, .inl x23], []) M35 _
              refine zG_blk (c' := (106, [.inr (.inr (some 95)), .inr (.inr (some 24)), .inl a2, .inl x21, .inl x23, .inl v10, .inl x18, .inl x23], [.inl 0, .inr (.inr (some 95))])) 4 hd0 hz (by rfl) ?_
              refine zG_putf (.inl rfl) hd0 hz rfl (by decide) rfl rfl ?_
              obtain ⟨M37, hM37⟩ : ∃ X : zM, X = zput M35 95 2 0 := ⟨_, rfl⟩
              rw [← hM37]
              have hCM37 : qCI M37 := by rw [hM37]; exact hCM35.put (r := 95) (k := 2) rfl (.inl (by omega))
              have hWM37 : qFr [95, 96] M M37 := by rw [hM37]; exact hWM35.put (by decide)
              have e38 : M37 95 1 = M35 95 1 := by rw [hM37]; exact qput_nk (by decide)
              have e39 : M37 95 2 = 0 := by rw [hM37]; exact qput_eq
              show zG n (0, 0) d 3 (109, [.inr (.inr (some 95)), .inr (.inr (some 24)), .inl a2, .inl x21, .inl x23, .inl v10, .inl x18, .inl x23], []) M37 _
              refine zG_blk (c' := (134, [.inr (.inr (some 95)), .inr (.inr (some 24)), .inl a2, .inl x21, .inl x23, .inl v10, .inl x18, .inl x23], [])) 1 hd0 hz (by rfl) ?_
              exact j134 x23 M37 (by omega) hCM37 hWM37
        have j72 : ∀ (v40 : Int) , (-2147483648) ≤ v40 ∧ v40 ≤ 2147483647 → zG n (0, 0) d 3 (72, [.inr (.inr (some 95)), .inr (.inr (some 24)), .inl a2, .inl v8, .inl v9, .inl v10, .inl x18, zN], [.inl v40]) M11 (fun v M' => qWf qCI [95, 96] M M' ∧ qRn v) := by
          intro v40 hv40
          refine zG_blk (c' := (73, [.inr (.inr (some 95)), .inr (.inr (some 24)), .inl a2, .inl v8, .inl v9, .inl v10, .inl x18, zN], [.inl 0, .inl v40])) 1 hd0 hz (by rfl) ?_
          exact j73 v40 0 (by first | decide | omega) (by omega)
        refine zG_if_le hd0 hz rfl (fun hb41 => ?_) (fun hb41 => ?_)
        · exact j72 v8 (by first | with_reducible exact hv8 | omega)
        · refine zG_blk (c' := (59, [.inr (.inr (some 95)), .inr (.inr (some 24)), .inl a2, .inl v8, .inl v9, .inl v10, .inl x18, zN], [.inl 12, .inl x18, .inl v8])) 4 hd0 hz (by rfl) ?_
          refine zG_icmp_ge hd0 hz rfl (fun hb42 => ?_) (fun hb42 => ?_)
          · exact j72 v8 (by first | with_reducible exact hv8 | omega)
          · refine zG_blk (c' := (68, [.inr (.inr (some 95)), .inr (.inr (some 24)), .inl a2, .inl v8, .inl v9, .inl v10, .inl x18, zN], [.inl x18, .inr (.inr (some 96)), .inl v8])) 3 hd0 hz (by rfl) ?_
            refine zG_iald hd0 hz rfl rfl (.inl rfl) (by omega) ?_
            have hx43 := hCM11.rng 96 (x18 : Int).toNat (by decide) (by decide)
            generalize M11 96 (x18 : Int).toNat = x43 at hx43 ⊢
            show zG n (0, 0) d 3 (69, [.inr (.inr (some 95)), .inr (.inr (some 24)), .inl a2, .inl v8, .inl v9, .inl v10, .inl x18, zN], [.inl x43, .inl v8]) M11 _
            refine zG_blk (c' := (73, [.inr (.inr (some 95)), .inr (.inr (some 24)), .inl a2, .inl v8, .inl v9, .inl v10, .inl x18, zN], [.inl x43, .inl v8])) 1 hd0 hz (by rfl) ?_
            exact j73 v8 x43 (by omega) (by omega)
  exact j23 ((2147483647 - 0 : Int).toNat + 1) x2 13 0 M5 (by omega) (by omega) (by omega) (by omega) hCM5 hWM5
theorem qm_1_95 {n d : Nat} {M : zM} (hd : 1 ≤ d) (hC : qCI M)  : qOkP n d 1 [.inr (.inr (some 95))] 1 M (qRi (fun x => (-2147483648) ≤ x ∧ x ≤ 2147483647)) := by
  have hz := zp_1
  have hd0 : 0 < d := by omega
  show zG n (0, 0) d 1 (0, [.inr (.inr (some 95))], []) M _
  have r1 := hC.rng 95 1 (by decide) (by decide)
  refine zG_blk (c' := (4, [.inr (.inr (some 95))], [.inl (M 95 1)])) 2 hd0 hz (by rfl) ?_
  exact zG_ret hd0 hz rfl rfl ⟨rfl, _, rfl, by omega⟩
