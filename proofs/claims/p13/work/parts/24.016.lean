theorem qm_94_67 {n d : Nat} {M : zM} (hd : 3 ≤ d) (hC : qCI M)  : qOkM n d 94 [.inr (.inr (some 67))] 1 qCI [67] M qRn := by
  have hz := zp_94
  have hd0 : 0 < d := by omega
  have hW : qFr [67] M M := qFr.rfl
  show zG n (0, 0) d 94 (0, [.inr (.inr (some 67))], []) M _
  refine zG_blk (c' := (3, [.inr (.inr (some 67))], [.inl 24, .inr (.inr (some 67))])) 2 hd0 hz (by rfl) ?_
  refine zG_putf (.inl rfl) hd0 hz rfl (by decide) rfl rfl ?_
  obtain ⟨M1, hM1⟩ : ∃ X : zM, X = zput M 67 7 24 := ⟨_, rfl⟩
  rw [← hM1]
  have hCM1 : qCI M1 := by rw [hM1]; exact hC.put (r := 67) (k := 7) rfl (.inl (by omega))
  have hWM1 : qFr [67] M M1 := by rw [hM1]; exact hW.put (by decide)
  have e2 : M1 67 7 = 24 := by rw [hM1]; exact qput_eq
  show zG n (0, 0) d 94 (6, [.inr (.inr (some 67))], []) M1 _
  refine zG_blk (c' := (8, [.inr (.inr (some 67))], [.inl 0, .inr (.inr (some 67))])) 2 hd0 hz (by rfl) ?_
  refine zG_putf (.inl rfl) hd0 hz rfl (by decide) rfl rfl ?_
  obtain ⟨M3, hM3⟩ : ∃ X : zM, X = zput M1 67 8 0 := ⟨_, rfl⟩
  rw [← hM3]
  have hCM3 : qCI M3 := by rw [hM3]; exact hCM1.put (r := 67) (k := 8) rfl (.inl (by omega))
  have hWM3 : qFr [67] M M3 := by rw [hM3]; exact hWM1.put (by decide)
  have e4 : M3 67 7 = M1 67 7 := by rw [hM3]; exact qput_nk (by decide)
  have e5 : M3 67 8 = 0 := by rw [hM3]; exact qput_eq
  show zG n (0, 0) d 94 (11, [.inr (.inr (some 67))], []) M3 _
  have j11 : ∀ (N : Nat) (M6 : zM) , (M6 67 4 - M6 67 6 : Int).toNat < N → qCI M6 → qFr [67] M M6 → zG n (0, 0) d 94 (11, [.inr (.inr (some 67))], []) M6 (fun v M' => qWf qCI [67] M M' ∧ qRn v) := by
    intro N
    induction N with
    | zero => intro M6 hN hCM6 hWM6; exact absurd hN (Nat.not_lt_zero _)
    | succ N ih11 =>
      intro M6 hN hCM6 hWM6
      have r7 := hCM6.rng 67 6 (by decide) (by decide)
      have r8 := hCM6.rng 67 4 (by decide) (by decide)
      refine zG_blk (c' := (19, [.inr (.inr (some 67))], [.inl (M6 67 4), .inl (M6 67 6)])) 4 hd0 hz (by rfl) ?_
      have j72 : zG n (0, 0) d 94 (72, [.inr (.inr (some 67))], []) M6 (fun v M' => qWf qCI [67] M M' ∧ qRn v) := by
        exact zG_ret hd0 hz rfl rfl ⟨⟨hCM6, hWM6⟩, rfl⟩
      refine zG_icmp_ge hd0 hz rfl (fun hb9 => ?_) (fun hb9 => ?_)
      · exact j72
      · refine zG_blk (c' := (27, [.inr (.inr (some 67))], [.inl (M6 67 6), .inr (.inr (some 67))])) 3 hd0 hz (by rfl) ?_
        refine zG_call hd0 hz zp_97 rfl rfl (Nat.le_of_ble_eq_true rfl) ⟨Nat.le_refl _, Nat.le_refl _⟩ (qm_97_67 (by first | exact zdp hd (by decide) | omega) hCM6  (M6 67 6) (by omega)) (fun vr M10 hr => ?_)
        obtain ⟨hq, x11, rfl, hx11⟩ := hr
        replace hq := hq.symm; subst hq
        show zG n (0, 0) d 94 (30, [.inr (.inr (some 67))], [.inl x11]) M6 _
        refine zG_call hd0 hz zp_98 rfl rfl (Nat.le_of_ble_eq_true rfl) ⟨Nat.le_refl _, Nat.le_refl _⟩ (qm_98 (by first | exact zdp hd (by decide) | omega) hCM6  x11 (by omega)) (fun vr M12 hr => ?_)
        obtain ⟨hq, x13, rfl, hx13⟩ := hr
        replace hq := hq.symm; subst hq
        show zG n (0, 0) d 94 (33, [.inr (.inr (some 67))], [.inl x13]) M6 _
        refine zG_if_eq hd0 hz rfl (fun hb14 => ?_) (fun hb14 => ?_)
        · exact j72
        · have r15 := hCM6.rng 67 8 (by decide) (by decide)
          obtain ⟨x16, hx16⟩ : ∃ x : Int, x = w32 (10 * (M6 67 8)) := ⟨_, rfl⟩
          have hx16r : qin x16 := by rw [hx16]; exact w32_in _
          refine zG_blk (c' := (49, [.inr (.inr (some 67))], [.inl (M6 67 6), .inr (.inr (some 67)), .inl x16, .inr (.inr (some 67))])) 8 hd0 hz (by subst hx16; rfl) ?_
          refine zG_call hd0 hz zp_97 rfl rfl (Nat.le_of_ble_eq_true rfl) ⟨Nat.le_refl _, Nat.le_refl _⟩ (qm_97_67 (by first | exact zdp hd (by decide) | omega) hCM6  (M6 67 6) (by omega)) (fun vr M17 hr => ?_)
          obtain ⟨hq, x18, rfl, hx18⟩ := hr
          replace hq := hq.symm; subst hq
          show zG n (0, 0) d 94 (52, [.inr (.inr (some 67))], [.inl x18, .inl x16, .inr (.inr (some 67))]) M6 _
          obtain ⟨x19, hx19⟩ : ∃ x : Int, x = w32 (x16 + x18) := ⟨_, rfl⟩
          have hx19r : x19 = (x16 + x18 + 2147483648) % 4294967296 - 2147483648 := hx19
          obtain ⟨x20, hx20⟩ : ∃ x : Int, x = w32 (x19 - 48) := ⟨_, rfl⟩
          have hx20r : x20 = (x19 - 48 + 2147483648) % 4294967296 - 2147483648 := hx20
          refine zG_blk (c' := (56, [.inr (.inr (some 67))], [.inl x20, .inr (.inr (some 67))])) 3 hd0 hz (by subst hx20; subst hx19; rfl) ?_
          refine zG_putf (.inl rfl) hd0 hz rfl (by decide) rfl rfl ?_
          obtain ⟨M21, hM21⟩ : ∃ X : zM, X = zput M6 67 8 x20 := ⟨_, rfl⟩
          rw [← hM21]
          have hCM21 : qCI M21 := by rw [hM21]; exact hCM6.put (r := 67) (k := 8) rfl (.inl (by omega))
          have hWM21 : qFr [67] M M21 := by rw [hM21]; exact hWM6.put (by decide)
          have e22 : M21 67 6 = M6 67 6 := by rw [hM21]; exact qput_nk (by decide)
          have e23 : M21 67 4 = M6 67 4 := by rw [hM21]; exact qput_nk (by decide)
          have e24 : M21 67 8 = x20 := by rw [hM21]; exact qput_eq
          show zG n (0, 0) d 94 (59, [.inr (.inr (some 67))], []) M21 _
          obtain ⟨x25, hx25⟩ : ∃ x : Int, x = w32 ((M21 67 6) + 1) := ⟨_, rfl⟩
          have hx25r : x25 = ((M21 67 6) + 1 + 2147483648) % 4294967296 - 2147483648 := hx25
          refine zG_blk (c' := (66, [.inr (.inr (some 67))], [.inl x25, .inr (.inr (some 67))])) 5 hd0 hz (by subst hx25; rfl) ?_
          refine zG_putf (.inl rfl) hd0 hz rfl (by decide) rfl rfl ?_
          obtain ⟨M26, hM26⟩ : ∃ X : zM, X = zput M21 67 6 x25 := ⟨_, rfl⟩
          rw [← hM26]
          have hCM26 : qCI M26 := by rw [hM26]; exact hCM21.put (r := 67) (k := 6) rfl (.inl (by omega))
          have hWM26 : qFr [67] M M26 := by rw [hM26]; exact hWM21.put (by decide)
          have e27 : M26 67 4 = M21 67 4 := by rw [hM26]; exact qput_nk (by decide)
          have e28 : M26 67 8 = M21 67 8 := by rw [hM26]; exact qput_nk (by decide)
          have e29 : M26 67 6 = x25 := by rw [hM26]; exact qput_eq
          show zG n (0, 0) d 94 (69, [.inr (.inr (some 67))], []) M26 _
          refine zG_blk (c' := (11, [.inr (.inr (some 67))], [])) 1 hd0 hz (by rfl) ?_
          exact ih11 M26 (by omega) hCM26 hWM26
  exact j11 ((M3 67 4 - M3 67 6 : Int).toNat + 1) M3 (by omega) hCM3 hWM3
theorem qm_99 {n d : Nat} {M : zM} (hd : 1 ≤ d) (hC : qCI M) (a0 : Int) (ha0 : (-2147483648) ≤ a0 ∧ a0 ≤ 2147483647) : qOkP n d 99 [.inl a0] 1 M (qRi (fun x => 0 ≤ x ∧ x ≤ 1)) := by
  have hz := zp_99
  have hd0 : 0 < d := by omega
  show zG n (0, 0) d 99 (0, [.inl a0], []) M _
  refine zG_blk (c' := (3, [.inl a0], [.inl 97, .inl a0])) 2 hd0 hz (by rfl) ?_
  have j17 : ∀ (v1 : Int) , 0 ≤ v1 ∧ v1 ≤ 1 → zG n (0, 0) d 99 (17, [.inl a0], [.inl v1]) M (fun v M' => M' = M ∧ qRi (fun x => 0 ≤ x ∧ x ≤ 1) v) := by
    intro v1 hv1
    exact zG_zret hd0 hz rfl (by omega) ⟨rfl, _, rfl, by omega⟩
  have j16 : zG n (0, 0) d 99 (16, [.inl a0], []) M (fun v M' => M' = M ∧ qRi (fun x => 0 ≤ x ∧ x ≤ 1) v) := by
    refine zG_blk (c' := (17, [.inl a0], [.inl 0])) 1 hd0 hz (by rfl) ?_
    exact j17 0 (by first | decide | omega)
  refine zG_icmp_lt hd0 hz rfl (fun hb2 => ?_) (fun hb2 => ?_)
  · exact j16
  · refine zG_blk (c' := (9, [.inl a0], [.inl 122, .inl a0])) 2 hd0 hz (by rfl) ?_
    refine zG_icmp_gt hd0 hz rfl (fun hb3 => ?_) (fun hb3 => ?_)
    · exact j16
    · refine zG_blk (c' := (17, [.inl a0], [.inl 1])) 2 hd0 hz (by rfl) ?_
      exact j17 1 (by first | decide | omega)
theorem qm_303_4 {n d : Nat} {M : zM} (hd : 1 ≤ d) (hC : qCI M)  : qOkP n d 303 [.inr (.inr (some 4))] 1 M (qRi (fun x => 0 ≤ x ∧ x ≤ 0)) := by
  have hz := zp_303
  have hd0 : 0 < d := by omega
  show zG n (0, 0) d 303 (0, [.inr (.inr (some 4))], []) M _
  refine zG_blk (c' := (6, [.inr (.inr (some 4))], [])) 2 hd0 hz (by rfl) ?_
  have j14 : ∀ (v1 : Int) , 0 ≤ v1 ∧ v1 ≤ 0 → zG n (0, 0) d 303 (14, [.inr (.inr (some 4))], [.inl v1]) M (fun v M' => M' = M ∧ qRi (fun x => 0 ≤ x ∧ x ≤ 0) v) := by
    intro v1 hv1
    exact zG_ret hd0 hz rfl (if_pos (by omega)) ⟨rfl, _, rfl, by omega⟩
  have r2 := hC.st.1
  refine zG_blk (c' := (14, [.inr (.inr (some 4))], [.inl (M 4 1)])) 3 hd0 hz (by rfl) ?_
  exact j14 (M 4 1) (by omega)
theorem qm_302_4 {n d : Nat} {M : zM} (hd : 2 ≤ d) (hC : qCI M)  : qOkP n d 302 [.inr (.inr (some 4))] 1 M (qRi (fun x => 0 ≤ x ∧ x ≤ 82)) := by
  have hz := zp_302
  have hd0 : 0 < d := by omega
  show zG n (0, 0) d 302 (0, [.inr (.inr (some 4))], []) M _
  refine zG_blk (c' := (6, [.inr (.inr (some 4))], [.inr (.inr (some 4)), .inl 82])) 4 hd0 hz (by rfl) ?_
  refine zG_call hd0 hz zp_303 rfl rfl (Nat.le_of_ble_eq_true rfl) ⟨Nat.le_refl _, Nat.le_refl _⟩ (qm_303_4 (by first | exact zdp hd (by decide) | omega) hC  ) (fun vr M1 hr => ?_)
  obtain ⟨hq, x2, rfl, hx2⟩ := hr
  replace hq := hq.symm; subst hq
  show zG n (0, 0) d 302 (9, [.inr (.inr (some 4))], [.inl x2, .inl 82]) M _
  obtain ⟨x3, hx3⟩ : ∃ x : Int, x = zbshr 82 x2 := ⟨_, rfl⟩
  have hx3r := qbshr_n 82 x2 (by omega); rw [← hx3] at hx3r
  refine zG_blk (c' := (10, [.inr (.inr (some 4))], [.inl x3])) 1 hd0 hz (by subst hx3; rfl) ?_
  exact zG_ret hd0 hz rfl rfl ⟨rfl, _, rfl, by omega⟩
theorem qm_304_4 {n d : Nat} {M : zM} (hd : 1 ≤ d) (hC : qCI M)  : qOkP n d 304 [.inr (.inr (some 4))] 1 M (qRi (fun x => 1 ≤ x ∧ x ≤ 1)) := by
  have hz := zp_304
  have hd0 : 0 < d := by omega
  show zG n (0, 0) d 304 (0, [.inr (.inr (some 4))], []) M _
  refine zG_blk (c' := (6, [.inr (.inr (some 4))], [])) 2 hd0 hz (by rfl) ?_
  have j18 : ∀ (v1 : Int) , 1 ≤ v1 ∧ v1 ≤ 1 → zG n (0, 0) d 304 (18, [.inr (.inr (some 4))], [.inl v1]) M (fun v M' => M' = M ∧ qRi (fun x => 1 ≤ x ∧ x ≤ 1) v) := by
    intro v1 hv1
    exact zG_zret hd0 hz rfl (by omega) ⟨rfl, _, rfl, by omega⟩
  have r2 := hC.st.1
  refine zG_blk (c' := (10, [.inr (.inr (some 4))], [.inl (M 4 1)])) 2 hd0 hz (by rfl) ?_
  refine zG_if_ne hd0 hz rfl (fun hb3 => ?_) (fun hb3 => ?_)
  · exfalso; omega
  · refine zG_blk (c' := (18, [.inr (.inr (some 4))], [.inl 1])) 2 hd0 hz (by rfl) ?_
    exact j18 1 (by first | decide | omega)
