theorem qm_295_97 {n d : Nat} {M : zM} (hd : 4 ≤ d) (hC : qMI M)   : qOkP n d 295 [.inr (.inr (some 97))] 4 M (fun v => ∃ x : Int, v = some (.inr (.inl x))) := by
  have hz := zp_295
  have hd0 : 0 < d := by omega
  have r1 := hC.cnt0
  have r2 := hC.cnt1
  have r3 := hC.cnt3
  have r4 := hC.cnt4
  show zG n (0, 0) d 295 (0, [.inr (.inr (some 97)), zN, zN, zN], []) M _
  refine zG_blk (c' := (6, [.inr (.inr (some 97)), .inr (.inl (283)), zN, .inl 0], [])) 4 hd0 hz (by rfl) ?_
  have j6 : ∀ (N : Nat) (v5 v6 : Int) , (8 - v6 : Int).toNat < N → 0 ≤ v6 ∧ v6 ≤ 8 → zG n (0, 0) d 295 (6, [.inr (.inr (some 97)), .inr (.inl (v5)), zN, .inl v6], []) M (fun v M' => M' = M ∧ ∃ x : Int, v = some (.inr (.inl x))) := by
    intro N
    induction N with
    | zero => intro v5 v6 hN hv6; exact absurd hN (Nat.not_lt_zero _)
    | succ N ih6 =>
      intro v5 v6 hN hv6
      refine zG_blk (c' := (9, [.inr (.inr (some 97)), .inr (.inl (v5)), zN, .inl v6], [.inl 8, .inl v6])) 2 hd0 hz (by rfl) ?_
      refine zG_icmp_ge hd0 hz rfl (fun hb7 => ?_) (fun hb7 => ?_)
      · refine zG_blk (c' := (41, [.inr (.inr (some 97)), .inr (.inl (v5)), zN, .inl v6], [.inl 0, .inr (.inr (some 98)), .inl 4, .inl 20, .inr (.inl (v5)), .inr (.inr (some 97))])) 7 hd0 hz (by rfl) ?_
        refine zG_iald hd0 hz rfl rfl (.inl rfl) (by omega) ?_
        show zG n (0, 0) d 295 (42, [.inr (.inr (some 97)), .inr (.inl (v5)), zN, .inl v6], [.inl (M 98 0), .inl 4, .inl 20, .inr (.inl (v5)), .inr (.inr (some 97))]) M _
        obtain ⟨x8, hx8⟩ : ∃ x : Int, x = w32 (4 * (M 98 0)) := ⟨_, rfl⟩
        have hx8e : x8 = 4 * (M 98 0) := by rw [hx8]; exact w32_id (by omega)
        refine zG_blk (c' := (43, [.inr (.inr (some 97)), .inr (.inl (v5)), zN, .inl v6], [.inl x8, .inl 20, .inr (.inl (v5)), .inr (.inr (some 97))])) 1 hd0 hz (by subst hx8; rfl) ?_
        refine zG_call hd0 hz zp_294 rfl rfl (Nat.le_of_ble_eq_true rfl) ⟨Nat.le_refl _, Nat.le_refl _⟩ (qm_294_97 (by first | exact zdp hd (by decide) | omega) hC   v5 20 (by first | decide | omega) x8 (by omega) (by omega)) (fun vr M9 hr => ?_)
        obtain ⟨hq, x10, rfl⟩ := hr
        replace hq := hq.symm; subst hq
        show zG n (0, 0) d 295 (46, [.inr (.inr (some 97)), .inr (.inl (v5)), zN, .inl v6], [.inr (.inl (x10))]) M _
        refine zG_blk (c' := (57, [.inr (.inr (some 97)), .inr (.inl (x10)), zN, .inl v6], [.inl 1, .inr (.inr (some 98)), .inl 3, .inl 80, .inr (.inl (x10)), .inr (.inr (some 97))])) 8 hd0 hz (by rfl) ?_
        refine zG_iald hd0 hz rfl rfl (.inl rfl) (by omega) ?_
        show zG n (0, 0) d 295 (58, [.inr (.inr (some 97)), .inr (.inl (x10)), zN, .inl v6], [.inl (M 98 1), .inl 3, .inl 80, .inr (.inl (x10)), .inr (.inr (some 97))]) M _
        obtain ⟨x11, hx11⟩ : ∃ x : Int, x = w32 (3 * (M 98 1)) := ⟨_, rfl⟩
        have hx11e : x11 = 3 * (M 98 1) := by rw [hx11]; exact w32_id (by omega)
        refine zG_blk (c' := (59, [.inr (.inr (some 97)), .inr (.inl (x10)), zN, .inl v6], [.inl x11, .inl 80, .inr (.inl (x10)), .inr (.inr (some 97))])) 1 hd0 hz (by subst hx11; rfl) ?_
        refine zG_call hd0 hz zp_294 rfl rfl (Nat.le_of_ble_eq_true rfl) ⟨Nat.le_refl _, Nat.le_refl _⟩ (qm_294_97 (by first | exact zdp hd (by decide) | omega) hC   x10 80 (by first | decide | omega) x11 (by omega) (by omega)) (fun vr M12 hr => ?_)
        obtain ⟨hq, x13, rfl⟩ := hr
        replace hq := hq.symm; subst hq
        show zG n (0, 0) d 295 (62, [.inr (.inr (some 97)), .inr (.inl (x10)), zN, .inl v6], [.inr (.inl (x13))]) M _
        refine zG_blk (c' := (74, [.inr (.inr (some 97)), .inr (.inl (x13)), zN, .inl v6], [.inl 3, .inr (.inr (some 98)), .inl 5, .inl 150, .inr (.inl (x13)), .inr (.inr (some 97))])) 8 hd0 hz (by rfl) ?_
        refine zG_iald hd0 hz rfl rfl (.inl rfl) (by omega) ?_
        show zG n (0, 0) d 295 (75, [.inr (.inr (some 97)), .inr (.inl (x13)), zN, .inl v6], [.inl (M 98 3), .inl 5, .inl 150, .inr (.inl (x13)), .inr (.inr (some 97))]) M _
        obtain ⟨x14, hx14⟩ : ∃ x : Int, x = w32 (5 * (M 98 3)) := ⟨_, rfl⟩
        have hx14e : x14 = 5 * (M 98 3) := by rw [hx14]; exact w32_id (by omega)
        refine zG_blk (c' := (76, [.inr (.inr (some 97)), .inr (.inl (x13)), zN, .inl v6], [.inl x14, .inl 150, .inr (.inl (x13)), .inr (.inr (some 97))])) 1 hd0 hz (by subst hx14; rfl) ?_
        refine zG_call hd0 hz zp_294 rfl rfl (Nat.le_of_ble_eq_true rfl) ⟨Nat.le_refl _, Nat.le_refl _⟩ (qm_294_97 (by first | exact zdp hd (by decide) | omega) hC   x13 150 (by first | decide | omega) x14 (by omega) (by omega)) (fun vr M15 hr => ?_)
        obtain ⟨hq, x16, rfl⟩ := hr
        replace hq := hq.symm; subst hq
        show zG n (0, 0) d 295 (79, [.inr (.inr (some 97)), .inr (.inl (x13)), zN, .inl v6], [.inr (.inl (x16))]) M _
        refine zG_blk (c' := (82, [.inr (.inr (some 97)), .inr (.inl (x16)), zN, .inl 0], [])) 3 hd0 hz (by rfl) ?_
        have j82 : ∀ (N : Nat) (v17 v18 : Int) , (250 - v18 : Int).toNat < N → 0 ≤ v18 ∧ v18 ≤ 250 → zG n (0, 0) d 295 (82, [.inr (.inr (some 97)), .inr (.inl (v17)), zN, .inl v18], []) M (fun v M' => M' = M ∧ ∃ x : Int, v = some (.inr (.inl x))) := by
          intro N
          induction N with
          | zero => intro v17 v18 hN hv18; exact absurd hN (Nat.not_lt_zero _)
          | succ N ih82 =>
            intro v17 v18 hN hv18
            refine zG_blk (c' := (88, [.inr (.inr (some 97)), .inr (.inl (v17)), zN, .inl v18], [.inl 4, .inr (.inr (some 98)), .inl v18])) 4 hd0 hz (by rfl) ?_
            refine zG_iald hd0 hz rfl rfl (.inl rfl) (by omega) ?_
            show zG n (0, 0) d 295 (89, [.inr (.inr (some 97)), .inr (.inl (v17)), zN, .inl v18], [.inl (M 98 4), .inl v18]) M _
            refine zG_icmp_ge hd0 hz rfl (fun hb19 => ?_) (fun hb19 => ?_)
            · refine zG_blk (c' := (116, [.inr (.inr (some 97)), .inr (.inl (v17)), zN, .inl 0], [])) 2 hd0 hz (by rfl) ?_
              have j116 : ∀ (N : Nat) (v20 v21 : Int) , (8 - v21 : Int).toNat < N → 0 ≤ v21 ∧ v21 ≤ 8 → zG n (0, 0) d 295 (116, [.inr (.inr (some 97)), .inr (.inl (v20)), zN, .inl v21], []) M (fun v M' => M' = M ∧ ∃ x : Int, v = some (.inr (.inl x))) := by
                intro N
                induction N with
                | zero => intro v20 v21 hN hv21; exact absurd hN (Nat.not_lt_zero _)
                | succ N ih116 =>
                  intro v20 v21 hN hv21
                  refine zG_blk (c' := (119, [.inr (.inr (some 97)), .inr (.inl (v20)), zN, .inl v21], [.inl 8, .inl v21])) 2 hd0 hz (by rfl) ?_
                  refine zG_icmp_ge hd0 hz rfl (fun hb22 => ?_) (fun hb22 => ?_)
                  · refine zG_blk (c' := (163, [.inr (.inr (some 97)), .inr (.inl (v20)), zN, .inl v21], [.inl 1, .inl 7, .inr (.inl (v20)), .inr (.inr (some 97)), .inr (.inr (some 97))])) 5 hd0 hz (by rfl) ?_
                    refine zG_call hd0 hz zp_294 rfl rfl (Nat.le_of_ble_eq_true rfl) ⟨Nat.le_refl _, Nat.le_refl _⟩ (qm_294_97 (by first | exact zdp hd (by decide) | omega) hC   v20 7 (by first | decide | omega) 1 (by first | decide | omega) (by omega)) (fun vr M23 hr => ?_)
                    obtain ⟨hq, x24, rfl⟩ := hr
                    replace hq := hq.symm; subst hq
                    show zG n (0, 0) d 295 (166, [.inr (.inr (some 97)), .inr (.inl (v20)), zN, .inl v21], [.inr (.inl (x24)), .inr (.inr (some 97))]) M _
                    refine zG_blk (c' := (169, [.inr (.inr (some 97)), .inr (.inl (v20)), zN, .inl v21], [.inl 1, .inl 8, .inr (.inl (x24)), .inr (.inr (some 97))])) 2 hd0 hz (by rfl) ?_
                    refine zG_call hd0 hz zp_294 rfl rfl (Nat.le_of_ble_eq_true rfl) ⟨Nat.le_refl _, Nat.le_refl _⟩ (qm_294_97 (by first | exact zdp hd (by decide) | omega) hC   x24 8 (by first | decide | omega) 1 (by first | decide | omega) (by omega)) (fun vr M25 hr => ?_)
                    obtain ⟨hq, x26, rfl⟩ := hr
                    replace hq := hq.symm; subst hq
                    show zG n (0, 0) d 295 (172, [.inr (.inr (some 97)), .inr (.inl (v20)), zN, .inl v21], [.inr (.inl (x26))]) M _
                    exact zG_ret hd0 hz rfl rfl ⟨rfl, _, rfl⟩
                  · obtain ⟨x27, hx27⟩ : ∃ x : Int, x = w32 (81 * v21) := ⟨_, rfl⟩
                    have hx27e : x27 = 81 * v21 := by rw [hx27]; exact w32_id (by omega)
                    obtain ⟨x28, hx28⟩ : ∃ x : Int, x = w32 (3350 + x27) := ⟨_, rfl⟩
                    have hx28e : x28 = 3350 + x27 := by rw [hx28]; exact w32_id (by omega)
                    obtain ⟨x29, hx29⟩ : ∃ x : Int, x = w32 (81 * v21) := ⟨_, rfl⟩
                    have hx29e : x29 = 81 * v21 := by rw [hx29]; exact w32_id (by omega)
                    obtain ⟨x30, hx30⟩ : ∃ x : Int, x = w32 (3350 + x29) := ⟨_, rfl⟩
                    have hx30e : x30 = 3350 + x29 := by rw [hx30]; exact w32_id (by omega)
                    refine zG_blk (c' := (145, [.inr (.inr (some 97)), .inr (.inl (v20)), zN, .inl v21], [.inl x30, .inr (.inr (some 98)), .inl 1, .inl x28, .inr (.inl (v20)), .inr (.inr (some 97))])) 15 hd0 hz (by subst hx30; subst hx29; subst hx28; subst hx27; rfl) ?_
                    refine zG_iald hd0 hz rfl rfl (.inl rfl) (by omega) ?_
                    obtain ⟨x31, hx31⟩ : ∃ x : Int, x = M 98 (x30 : Int).toNat := ⟨_, rfl⟩
                    rw [← hx31]
                    have hx31r : 0 ≤ x31 ∧ x31 ≤ 80 := by rw [hx31]; exact hC.txt v21 _ (by omega) (by omega)
                    show zG n (0, 0) d 295 (146, [.inr (.inr (some 97)), .inr (.inl (v20)), zN, .inl v21], [.inl x31, .inl 1, .inl x28, .inr (.inl (v20)), .inr (.inr (some 97))]) M _
                    obtain ⟨x32, hx32⟩ : ∃ x : Int, x = w32 (1 + x31) := ⟨_, rfl⟩
                    have hx32e : x32 = 1 + x31 := by rw [hx32]; exact w32_id (by omega)
                    refine zG_blk (c' := (147, [.inr (.inr (some 97)), .inr (.inl (v20)), zN, .inl v21], [.inl x32, .inl x28, .inr (.inl (v20)), .inr (.inr (some 97))])) 1 hd0 hz (by subst hx32; rfl) ?_
                    refine zG_call hd0 hz zp_294 rfl rfl (Nat.le_of_ble_eq_true rfl) ⟨Nat.le_refl _, Nat.le_refl _⟩ (qm_294_97 (by first | exact zdp hd (by decide) | omega) hC   v20 x28 (by omega) x32 (by omega) (by omega)) (fun vr M33 hr => ?_)
                    obtain ⟨hq, x34, rfl⟩ := hr
                    replace hq := hq.symm; subst hq
                    show zG n (0, 0) d 295 (150, [.inr (.inr (some 97)), .inr (.inl (v20)), zN, .inl v21], [.inr (.inl (x34))]) M _
                    obtain ⟨x35, hx35⟩ : ∃ x : Int, x = w32 (v21 + 1) := ⟨_, rfl⟩
                    have hx35e : x35 = v21 + 1 := by rw [hx35]; exact w32_id (by omega)
                    refine zG_blk (c' := (116, [.inr (.inr (some 97)), .inr (.inl (x34)), zN, .inl x35], [])) 3 hd0 hz (by subst hx35; rfl) ?_
                    exact ih116 x34 x35 (by omega) (by omega)
              exact j116 ((8 - 0 : Int).toNat + 1) v17 0 (by first | decide | omega) (by omega)
            · obtain ⟨x36, hx36⟩ : ∃ x : Int, x = w32 (12 * v18) := ⟨_, rfl⟩
              have hx36e : x36 = 12 * v18 := by rw [hx36]; exact w32_id (by omega)
              obtain ⟨x37, hx37⟩ : ∃ x : Int, x = w32 (350 + x36) := ⟨_, rfl⟩
              have hx37e : x37 = 350 + x36 := by rw [hx37]; exact w32_id (by omega)
              refine zG_blk (c' := (104, [.inr (.inr (some 97)), .inr (.inl (v17)), zN, .inl v18], [.inl 8, .inl x37, .inr (.inl (v17)), .inr (.inr (some 97))])) 8 hd0 hz (by subst hx37; subst hx36; rfl) ?_
              refine zG_call hd0 hz zp_294 rfl rfl (Nat.le_of_ble_eq_true rfl) ⟨Nat.le_refl _, Nat.le_refl _⟩ (qm_294_97 (by first | exact zdp hd (by decide) | omega) hC   v17 x37 (by omega) 8 (by first | decide | omega) (by omega)) (fun vr M38 hr => ?_)
              obtain ⟨hq, x39, rfl⟩ := hr
              replace hq := hq.symm; subst hq
              show zG n (0, 0) d 295 (107, [.inr (.inr (some 97)), .inr (.inl (v17)), zN, .inl v18], [.inr (.inl (x39))]) M _
              obtain ⟨x40, hx40⟩ : ∃ x : Int, x = w32 (v18 + 1) := ⟨_, rfl⟩
              have hx40e : x40 = v18 + 1 := by rw [hx40]; exact w32_id (by omega)
              refine zG_blk (c' := (82, [.inr (.inr (some 97)), .inr (.inl (x39)), zN, .inl x40], [])) 3 hd0 hz (by subst hx40; rfl) ?_
              exact ih82 x39 x40 (by omega) (by omega)
        exact j82 ((250 - 0 : Int).toNat + 1) x16 0 (by first | decide | omega) (by omega)
      · obtain ⟨x41, hx41⟩ : ∃ x : Int, x = w64 (31 * v5) := ⟨_, rfl⟩
        refine zG_blk (c' := (19, [.inr (.inr (some 97)), .inr (.inl (v5)), zN, .inl v6], [.inl v6, .inr (.inr (some 97)), .inr (.inl (x41))])) 5 hd0 hz (by subst hx41; rfl) ?_
        refine zG_call hd0 hz zp_292 rfl rfl (Nat.le_of_ble_eq_true rfl) ⟨Nat.le_refl _, Nat.le_refl _⟩ (qm_292_97 (by first | exact zdp hd (by decide) | omega) hC   v6 (by first | with_reducible exact hv6 | omega) ) (fun vr M42 hr => ?_)
        obtain ⟨hq, x43, rfl, hx43⟩ := hr
        replace hq := hq.symm; subst hq
        show zG n (0, 0) d 295 (22, [.inr (.inr (some 97)), .inr (.inl (v5)), zN, .inl v6], [.inl x43, .inr (.inl (x41))]) M _
        obtain ⟨x44, hx44⟩ : ∃ x : Int, x = w64 (x41 + x43) := ⟨_, rfl⟩
        obtain ⟨x45, hx45⟩ : ∃ x : Int, x = w32 (v6 + 1) := ⟨_, rfl⟩
        have hx45e : x45 = v6 + 1 := by rw [hx45]; exact w32_id (by omega)
        refine zG_blk (c' := (6, [.inr (.inr (some 97)), .inr (.inl (x44)), zN, .inl x45], [])) 5 hd0 hz (by subst hx45; subst hx44; rfl) ?_
        exact ih6 x44 x45 (by omega) (by omega)
  exact j6 ((8 - 0 : Int).toNat + 1) 283 0 (by first | decide | omega) (by omega)
