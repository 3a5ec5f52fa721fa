set_option maxRecDepth 100000 in
theorem qm_281_97 {n d : Nat} {M : zM} (hd : 1 ≤ d) (hC : qMI M)  (a1 : Int) (ha1 : 0 ≤ a1 ∧ a1 ≤ 125) (a2 : Int) (ha2 : 0 ≤ a2 ∧ a2 ≤ 2147483647) : qOkN n d 281 [.inr (.inr (some 97)), .inl a1, .inl a2] 8 [119, 120] M (fun v M' => v = none) := by
  have hz := zp_281
  have hd0 : 0 < d := by omega
  have hW : qFm [119, 120] M M := qFm.rfl
  show zG n (0, 0) d 281 (0, [.inr (.inr (some 97)), .inl a1, .inl a2, zN, zN, zN, zN, zN], []) M _
  refine zG_blk (c' := (2, [.inr (.inr (some 97)), .inl a1, .inl a2, .inl 0, zN, zN, zN, zN], [])) 2 hd0 hz (by rfl) ?_
  have j2 : ∀ (N : Nat) (v1 : Int) (M2 : zM) , (756 - v1 : Int).toNat < N → 0 ≤ v1 ∧ v1 ≤ 756 → qMI M2 → qFm [119, 120] M M2 → zG n (0, 0) d 281 (2, [.inr (.inr (some 97)), .inl a1, .inl a2, .inl v1, zN, zN, zN, zN], []) M2 (fun v M' => (qMI M' ∧ qFm [119, 120] M M') ∧ v = none) := by
    intro N
    induction N with
    | zero => intro v1 M2 hN hv1 hCM2 hWM2; exact absurd hN (Nat.not_lt_zero _)
    | succ N ih2 =>
      intro v1 M2 hN hv1 hCM2 hWM2
      refine zG_blk (c' := (6, [.inr (.inr (some 97)), .inl a1, .inl a2, .inl v1, zN, zN, zN, zN], [.inl 756, .inl v1])) 2 hd0 hz (by rfl) ?_
      refine zG_icmp_ge hd0 hz rfl (fun hb3 => ?_) (fun hb3 => ?_)
      · refine zG_blk (c' := (32, [.inr (.inr (some 97)), .inl a1, .inl a2, .inl 0, zN, zN, zN, zN], [])) 2 hd0 hz (by rfl) ?_
        have j32 : ∀ (N : Nat) (v4 : Int) (M5 : zM) , (a1 - v4 : Int).toNat < N → 0 ≤ v4 ∧ v4 ≤ 141 → qMI M5 → qFm [119, 120] M M5 → zG n (0, 0) d 281 (32, [.inr (.inr (some 97)), .inl a1, .inl a2, .inl v4, zN, zN, zN, zN], []) M5 (fun v M' => (qMI M' ∧ qFm [119, 120] M M') ∧ v = none) := by
          intro N
          induction N with
          | zero => intro v4 M5 hN hv4 hCM5 hWM5; exact absurd hN (Nat.not_lt_zero _)
          | succ N ih32 =>
            intro v4 M5 hN hv4 hCM5 hWM5
            refine zG_blk (c' := (34, [.inr (.inr (some 97)), .inl a1, .inl a2, .inl v4, zN, zN, zN, zN], [.inl a1, .inl v4])) 2 hd0 hz (by rfl) ?_
            refine zG_icmp_ge hd0 hz rfl (fun hb6 => ?_) (fun hb6 => ?_)
            · refine zG_blk (c' := (164, [.inr (.inr (some 97)), .inl a1, .inl a2, .inl 0, zN, zN, zN, zN], [])) 2 hd0 hz (by rfl) ?_
              have j164 : ∀ (N : Nat) (v7 : Int) (M8 : zM) , (6 - v7 : Int).toNat < N → 0 ≤ v7 ∧ v7 ≤ 6 → qMI M8 → qFm [119, 120] M M8 → zG n (0, 0) d 281 (164, [.inr (.inr (some 97)), .inl a1, .inl a2, .inl v7, zN, zN, zN, zN], []) M8 (fun v M' => (qMI M' ∧ qFm [119, 120] M M') ∧ v = none) := by
                intro N
                induction N with
                | zero => intro v7 M8 hN hv7 hCM8 hWM8; exact absurd hN (Nat.not_lt_zero _)
                | succ N ih164 =>
                  intro v7 M8 hN hv7 hCM8 hWM8
                  refine zG_blk (c' := (167, [.inr (.inr (some 97)), .inl a1, .inl a2, .inl v7, zN, zN, zN, zN], [.inl 6, .inl v7])) 2 hd0 hz (by rfl) ?_
                  refine zG_icmp_ge hd0 hz rfl (fun hb9 => ?_) (fun hb9 => ?_)
                  · refine zG_blk (c' := (185, [.inr (.inr (some 97)), .inl a1, .inl a2, .inl a2, zN, zN, zN, zN], [])) 2 hd0 hz (by rfl) ?_
                    have j185 : ∀ (N : Nat) (v10 : Int) (M11 : zM) , (a1 + 1 - v10 : Int).toNat < N → 0 ≤ v10 ∧ v10 ≤ 2147483647 → qMI M11 → qFm [119, 120] M M11 → zG n (0, 0) d 281 (185, [.inr (.inr (some 97)), .inl a1, .inl a2, .inl v10, zN, zN, zN, zN], []) M11 (fun v M' => (qMI M' ∧ qFm [119, 120] M M') ∧ v = none) := by
                      intro N
                      induction N with
                      | zero => intro v10 M11 hN hv10 hCM11 hWM11; exact absurd hN (Nat.not_lt_zero _)
                      | succ N ih185 =>
                        intro v10 M11 hN hv10 hCM11 hWM11
                        refine zG_blk (c' := (187, [.inr (.inr (some 97)), .inl a1, .inl a2, .inl v10, zN, zN, zN, zN], [.inl a1, .inl v10])) 2 hd0 hz (by rfl) ?_
                        refine zG_icmp_gt hd0 hz rfl (fun hb12 => ?_) (fun hb12 => ?_)
                        · exact zG_ret hd0 hz rfl rfl ⟨⟨hCM11, hWM11⟩, rfl⟩
                        · refine zG_blk (c' := (196, [.inr (.inr (some 97)), .inl a1, .inl a2, .inl v10, .inl 0, .inl 0, zN, zN], [])) 4 hd0 hz (by rfl) ?_
                          have j196 : ∀ (N : Nat) (v13 v14 : Int) (M15 : zM) , (6 - v14 : Int).toNat < N → 0 ≤ v13 ∧ v13 ≤ 1 → 0 ≤ v14 ∧ v14 ≤ 6 → qMI M15 → qFm [119, 120] M M15 → zG n (0, 0) d 281 (196, [.inr (.inr (some 97)), .inl a1, .inl a2, .inl v10, .inl v13, .inl v14, zN, zN], []) M15 (fun v M' => (qMI M' ∧ qFm [119, 120] M M') ∧ v = none) := by
                            intro N
                            induction N with
                            | zero => intro v13 v14 M15 hN hv13 hv14 hCM15 hWM15; exact absurd hN (Nat.not_lt_zero _)
                            | succ N ih196 =>
                              intro v13 v14 M15 hN hv13 hv14 hCM15 hWM15
                              refine zG_blk (c' := (200, [.inr (.inr (some 97)), .inl a1, .inl a2, .inl v10, .inl v13, .inl v14, zN, zN], [.inl 6, .inl v14])) 2 hd0 hz (by rfl) ?_
                              refine zG_icmp_ge hd0 hz rfl (fun hb16 => ?_) (fun hb16 => ?_)
                              · obtain ⟨x17, hx17⟩ : ∃ x : Int, x = w32 (v10 + 1) := ⟨_, rfl⟩
                                have hx17e : x17 = v10 + 1 := by rw [hx17]; exact w32_id (by omega)
                                refine zG_blk (c' := (185, [.inr (.inr (some 97)), .inl a1, .inl a2, .inl x17, .inl v13, .inl v14, zN, zN], [])) 2 hd0 hz (by subst hx17; rfl) ?_
                                exact zG_weak (ih185 x17 M15 (by omega) (by omega) hCM15 hWM15) ⟨.inr rfl, .inr rfl, .inr rfl, .inr rfl, .inl rfl, .inl rfl, .inr rfl, .inr rfl, trivial⟩
                              · refine zG_blk (c' := (209, [.inr (.inr (some 97)), .inl a1, .inl a2, .inl v10, .inl v13, .inl v14, zN, zN], [.inl v14, .inr (.inr (some 120))])) 3 hd0 hz (by rfl) ?_
                                refine zG_iald hd0 hz rfl rfl (.inl rfl) (by omega) ?_
                                obtain ⟨x18, hx18⟩ : ∃ x : Int, x = M15 120 (v14 : Int).toNat := ⟨_, rfl⟩
                                rw [← hx18]
                                have hx18r : qin x18 := by rw [hx18]; exact hCM15.ra 120 _ (by decide) (by decide)
                                show zG n (0, 0) d 281 (210, [.inr (.inr (some 97)), .inl a1, .inl a2, .inl v10, .inl v13, .inl v14, zN, zN], [.inl x18]) M15 _
                                obtain ⟨x19, hx19⟩ : ∃ x : Int, x = w32 (6 * v10) := ⟨_, rfl⟩
                                have hx19e : x19 = 6 * v10 := by rw [hx19]; exact w32_id (by omega)
                                obtain ⟨x20, hx20⟩ : ∃ x : Int, x = w32 (x19 + v14) := ⟨_, rfl⟩
                                have hx20e : x20 = x19 + v14 := by rw [hx20]; exact w32_id (by omega)
                                refine zG_blk (c' := (221, [.inr (.inr (some 97)), .inl a1, .inl a2, .inl v10, .inl v13, .inl v14, zN, zN], [.inl x20, .inr (.inr (some 119)), .inl x18])) 7 hd0 hz (by subst hx20; subst hx19; rfl) ?_
                                refine zG_iald hd0 hz rfl rfl (.inl rfl) (by omega) ?_
                                obtain ⟨x21, hx21⟩ : ∃ x : Int, x = M15 119 (x20 : Int).toNat := ⟨_, rfl⟩
                                rw [← hx21]
                                have hx21r : qin x21 := by rw [hx21]; exact hCM15.ra 119 _ (by decide) (by decide)
                                show zG n (0, 0) d 281 (222, [.inr (.inr (some 97)), .inl a1, .inl a2, .inl v10, .inl v13, .inl v14, zN, zN], [.inl x21, .inl x18]) M15 _
                                obtain ⟨x22, hx22⟩ : ∃ x : Int, x = w32 (x18 + x21) := ⟨_, rfl⟩
                                have hx22r : x22 = (x18 + x21 + 2147483648) % 4294967296 - 2147483648 := hx22
                                obtain ⟨x23, hx23⟩ : ∃ x : Int, x = w32 (x22 + v13) := ⟨_, rfl⟩
                                have hx23r : x23 = (x22 + v13 + 2147483648) % 4294967296 - 2147483648 := hx23
                                refine zG_blk (c' := (230, [.inr (.inr (some 97)), .inl a1, .inl a2, .inl v10, .inl v13, .inl v14, .inl x23, zN], [.inl x23])) 5 hd0 hz (by subst hx23; subst hx22; rfl) ?_
                                have j246 : ∀ (v24 : Int) , 0 ≤ v24 ∧ v24 ≤ 1 → zG n (0, 0) d 281 (246, [.inr (.inr (some 97)), .inl a1, .inl a2, .inl v10, .inl v13, .inl v14, .inl x23, zN], [.inl v24]) M15 (fun v M' => (qMI M' ∧ qFm [119, 120] M M') ∧ v = none) := by
                                  intro v24 hv24
                                  refine zG_blk (c' := (257, [.inr (.inr (some 97)), .inl a1, .inl a2, .inl v10, .inl v24, .inl v14, .inl x23, zN], [.inl 1, .inl v24, .inl v14, .inr (.inr (some 120))])) 6 hd0 hz (by rfl) ?_
                                  have j271 : ∀ (v25 : Int) , (-2147483648) ≤ v25 ∧ v25 ≤ 2147483647 → zG n (0, 0) d 281 (271, [.inr (.inr (some 97)), .inl a1, .inl a2, .inl v10, .inl v24, .inl v14, .inl x23, zN], [.inl v25, .inl v14, .inr (.inr (some 120))]) M15 (fun v M' => (qMI M' ∧ qFm [119, 120] M M') ∧ v = none) := by
                                    intro v25 hv25
                                    refine zG_iast hd0 hz rfl rfl (by omega) ?_
                                    obtain ⟨M26, hM26⟩ : ∃ X : zM, X = zput M15 120 (v14 : Int).toNat v25 := ⟨_, rfl⟩
                                    rw [← hM26]
                                    have hCM26 : qMI M26 := by rw [hM26]; exact hCM15.put (by decide) (qCd_a (by decide) (by decide)) (by refine ⟨fun h => ?_, fun _ => ?_, fun h => ?_, fun h => ?_, fun h => ?_⟩ <;> first | omega | exact absurd h (by decide))
                                    have hWM26 : qFm [119, 120] M M26 := by rw [hM26]; exact hWM15.pa (by decide) (by decide)
                                    show zG n (0, 0) d 281 (272, [.inr (.inr (some 97)), .inl a1, .inl a2, .inl v10, .inl v24, .inl v14, .inl x23, zN], []) M26 _
                                    obtain ⟨x27, hx27⟩ : ∃ x : Int, x = w32 (v14 + 1) := ⟨_, rfl⟩
                                    have hx27e : x27 = v14 + 1 := by rw [hx27]; exact w32_id (by omega)
                                    refine zG_blk (c' := (196, [.inr (.inr (some 97)), .inl a1, .inl a2, .inl v10, .inl v24, .inl x27, .inl x23, zN], [])) 2 hd0 hz (by subst hx27; rfl) ?_
                                    exact zG_weak (ih196 v24 x27 M26 (by omega) (by omega) (by omega) hCM26 hWM26) ⟨.inr rfl, .inr rfl, .inr rfl, .inr rfl, .inr rfl, .inr rfl, .inl rfl, .inr rfl, trivial⟩
                                  refine zG_icmp_ne hd0 hz rfl (fun hb28 => ?_) (fun hb28 => ?_)
                                  · refine zG_blk (c' := (271, [.inr (.inr (some 97)), .inl a1, .inl a2, .inl v10, .inl v24, .inl v14, .inl x23, zN], [.inl x23, .inl v14, .inr (.inr (some 120))])) 1 hd0 hz (by rfl) ?_
                                    exact j271 x23 (by omega)
                                  · obtain ⟨x29, hx29⟩ : ∃ x : Int, x = w32 (x23 - 1073741824) := ⟨_, rfl⟩
                                    have hx29r : x29 = (x23 - 1073741824 + 2147483648) % 4294967296 - 2147483648 := hx29
                                    refine zG_blk (c' := (271, [.inr (.inr (some 97)), .inl a1, .inl a2, .inl v10, .inl v24, .inl v14, .inl x23, zN], [.inl x29, .inl v14, .inr (.inr (some 120))])) 4 hd0 hz (by subst hx29; rfl) ?_
                                    exact j271 x29 (by omega)
                                have j241 : zG n (0, 0) d 281 (241, [.inr (.inr (some 97)), .inl a1, .inl a2, .inl v10, .inl v13, .inl v14, .inl x23, zN], []) M15 (fun v M' => (qMI M' ∧ qFm [119, 120] M M') ∧ v = none) := by
                                  refine zG_blk (c' := (246, [.inr (.inr (some 97)), .inl a1, .inl a2, .inl v10, .inl v13, .inl v14, .inl x23, zN], [.inl 1])) 2 hd0 hz (by rfl) ?_
                                  exact j246 1 (by first | decide | omega)
                                refine zG_if_lt hd0 hz rfl (fun hb30 => ?_) (fun hb30 => ?_)
                                · exact j241
                                · refine zG_blk (c' := (238, [.inr (.inr (some 97)), .inl a1, .inl a2, .inl v10, .inl v13, .inl v14, .inl x23, zN], [.inl 1073741824, .inl x23])) 2 hd0 hz (by rfl) ?_
                                  refine zG_icmp_lt hd0 hz rfl (fun hb31 => ?_) (fun hb31 => ?_)
                                  · refine zG_blk (c' := (246, [.inr (.inr (some 97)), .inl a1, .inl a2, .inl v10, .inl v13, .inl v14, .inl x23, zN], [.inl 0])) 1 hd0 hz (by rfl) ?_
                                    exact j246 0 (by first | decide | omega)
                                  · exact j241
                          exact j196 ((6 - 0 : Int).toNat + 1) 0 0 M11 (by omega) (by omega) (by omega) hCM11 hWM11
                    exact j185 ((a1 + 1 - a2 : Int).toNat + 1) a2 M8 (by omega) (by omega) hCM8 hWM8
                  · refine zG_blk (c' := (176, [.inr (.inr (some 97)), .inl a1, .inl a2, .inl v7, zN, zN, zN, zN], [.inl 0, .inl v7, .inr (.inr (some 120))])) 4 hd0 hz (by rfl) ?_
                    refine zG_iast hd0 hz rfl rfl (by omega) ?_
                    obtain ⟨M32, hM32⟩ : ∃ X : zM, X = zput M8 120 (v7 : Int).toNat 0 := ⟨_, rfl⟩
                    rw [← hM32]
                    have hCM32 : qMI M32 := by rw [hM32]; exact hCM8.put (by decide) (qCd_a (by decide) (by decide)) (by refine ⟨fun h => ?_, fun _ => ?_, fun h => ?_, fun h => ?_, fun h => ?_⟩ <;> first | omega | exact absurd h (by decide))
                    have hWM32 : qFm [119, 120] M M32 := by rw [hM32]; exact hWM8.pa (by decide) (by decide)
                    show zG n (0, 0) d 281 (177, [.inr (.inr (some 97)), .inl a1, .inl a2, .inl v7, zN, zN, zN, zN], []) M32 _
                    obtain ⟨x33, hx33⟩ : ∃ x : Int, x = w32 (v7 + 1) := ⟨_, rfl⟩
                    have hx33e : x33 = v7 + 1 := by rw [hx33]; exact w32_id (by omega)
                    refine zG_blk (c' := (164, [.inr (.inr (some 97)), .inl a1, .inl a2, .inl x33, zN, zN, zN, zN], [])) 2 hd0 hz (by subst hx33; rfl) ?_
                    exact ih164 x33 M32 (by omega) (by omega) hCM32 hWM32
              exact j164 ((6 - 0 : Int).toNat + 1) 0 M5 (by omega) (by omega) hCM5 hWM5
            · obtain ⟨x34, hx34⟩ : ∃ x : Int, x = w32 (v4 + 1) := ⟨_, rfl⟩
              have hx34e : x34 = v4 + 1 := by rw [hx34]; exact w32_id (by omega)
              refine zG_blk (c' := (42, [.inr (.inr (some 97)), .inl a1, .inl a2, .inl v4, .inl x34, zN, zN, zN], [])) 4 hd0 hz (by subst hx34; rfl) ?_
              have j42 : ∀ (N : Nat) (v35 : Int) (M36 : zM) , (v35 : Int).toNat < N → 0 ≤ v35 ∧ v35 ≤ 140 → (v35 ≤ v4 + 1) → qMI M36 → qFm [119, 120] M M36 → zG n (0, 0) d 281 (42, [.inr (.inr (some 97)), .inl a1, .inl a2, .inl v4, .inl v35, zN, zN, zN], []) M36 (fun v M' => (qMI M' ∧ qFm [119, 120] M M') ∧ v = none) := by
                intro N
                induction N with
                | zero => intro v35 M36 hN hv35 hx0_42 hCM36 hWM36; exact absurd hN (Nat.not_lt_zero _)
                | succ N ih42 =>
                  intro v35 M36 hN hv35 hx0_42 hCM36 hWM36
                  refine zG_blk (c' := (44, [.inr (.inr (some 97)), .inl a1, .inl a2, .inl v4, .inl v35, zN, zN, zN], [.inl v35])) 1 hd0 hz (by rfl) ?_
                  refine zG_if_le hd0 hz rfl (fun hb37 => ?_) (fun hb37 => ?_)
                  · obtain ⟨x38, hx38⟩ : ∃ x : Int, x = w32 (v4 + 1) := ⟨_, rfl⟩
                    have hx38e : x38 = v4 + 1 := by rw [hx38]; exact w32_id (by omega)
                    refine zG_blk (c' := (32, [.inr (.inr (some 97)), .inl a1, .inl a2, .inl x38, .inl v35, zN, zN, zN], [])) 2 hd0 hz (by subst hx38; rfl) ?_
                    exact zG_weak (ih32 x38 M36 (by omega) (by omega) hCM36 hWM36) ⟨.inr rfl, .inr rfl, .inr rfl, .inr rfl, .inl rfl, .inr rfl, .inr rfl, .inr rfl, trivial⟩
                  · refine zG_blk (c' := (53, [.inr (.inr (some 97)), .inl a1, .inl a2, .inl v4, .inl v35, .inl 0, .inl 0, zN], [])) 4 hd0 hz (by rfl) ?_
                    have j53 : ∀ (N : Nat) (v39 v40 : Int) (M41 : zM) , (6 - v40 : Int).toNat < N → 0 ≤ v39 ∧ v39 ≤ 1 → 0 ≤ v40 ∧ v40 ≤ 6 → qMI M41 → qFm [119, 120] M M41 → zG n (0, 0) d 281 (53, [.inr (.inr (some 97)), .inl a1, .inl a2, .inl v4, .inl v35, .inl v39, .inl v40, zN], []) M41 (fun v M' => (qMI M' ∧ qFm [119, 120] M M') ∧ v = none) := by
                      intro N
                      induction N with
                      | zero => intro v39 v40 M41 hN hv39 hv40 hCM41 hWM41; exact absurd hN (Nat.not_lt_zero _)
                      | succ N ih53 =>
                        intro v39 v40 M41 hN hv39 hv40 hCM41 hWM41
                        refine zG_blk (c' := (57, [.inr (.inr (some 97)), .inl a1, .inl a2, .inl v4, .inl v35, .inl v39, .inl v40, zN], [.inl 6, .inl v40])) 2 hd0 hz (by rfl) ?_
                        refine zG_icmp_ge hd0 hz rfl (fun hb42 => ?_) (fun hb42 => ?_)
                        · obtain ⟨x43, hx43⟩ : ∃ x : Int, x = w32 (v35 + (-1)) := ⟨_, rfl⟩
                          have hx43e : x43 = v35 + (-1) := by rw [hx43]; exact w32_id (by omega)
                          refine zG_blk (c' := (42, [.inr (.inr (some 97)), .inl a1, .inl a2, .inl v4, .inl x43, .inl v39, .inl v40, zN], [])) 2 hd0 hz (by subst hx43; rfl) ?_
                          exact zG_weak (ih42 x43 M41 (by omega) (by omega) (by omega) hCM41 hWM41) ⟨.inr rfl, .inr rfl, .inr rfl, .inr rfl, .inr rfl, .inl rfl, .inl rfl, .inr rfl, trivial⟩
                        · obtain ⟨x44, hx44⟩ : ∃ x : Int, x = w32 (6 * v35) := ⟨_, rfl⟩
                          have hx44e : x44 = 6 * v35 := by rw [hx44]; exact w32_id (by omega)
                          obtain ⟨x45, hx45⟩ : ∃ x : Int, x = w32 (x44 + v40) := ⟨_, rfl⟩
                          have hx45e : x45 = x44 + v40 := by rw [hx45]; exact w32_id (by omega)
                          refine zG_blk (c' := (72, [.inr (.inr (some 97)), .inl a1, .inl a2, .inl v4, .inl v35, .inl v39, .inl v40, zN], [.inl x45, .inr (.inr (some 119))])) 7 hd0 hz (by subst hx45; subst hx44; rfl) ?_
                          refine zG_iald hd0 hz rfl rfl (.inl rfl) (by omega) ?_
                          obtain ⟨x46, hx46⟩ : ∃ x : Int, x = M41 119 (x45 : Int).toNat := ⟨_, rfl⟩
                          rw [← hx46]
                          have hx46r : qin x46 := by rw [hx46]; exact hCM41.ra 119 _ (by decide) (by decide)
                          show zG n (0, 0) d 281 (73, [.inr (.inr (some 97)), .inl a1, .inl a2, .inl v4, .inl v35, .inl v39, .inl v40, zN], [.inl x46]) M41 _
                          obtain ⟨x47, hx47⟩ : ∃ x : Int, x = w32 (v35 - 1) := ⟨_, rfl⟩
                          have hx47e : x47 = v35 - 1 := by rw [hx47]; exact w32_id (by omega)
                          obtain ⟨x48, hx48⟩ : ∃ x : Int, x = w32 (6 * x47) := ⟨_, rfl⟩
                          have hx48e : x48 = 6 * x47 := by rw [hx48]; exact w32_id (by omega)
                          obtain ⟨x49, hx49⟩ : ∃ x : Int, x = w32 (x48 + v40) := ⟨_, rfl⟩
                          have hx49e : x49 = x48 + v40 := by rw [hx49]; exact w32_id (by omega)
                          refine zG_blk (c' := (87, [.inr (.inr (some 97)), .inl a1, .inl a2, .inl v4, .inl v35, .inl v39, .inl v40, zN], [.inl x49, .inr (.inr (some 119)), .inl x46])) 9 hd0 hz (by subst hx49; subst hx48; subst hx47; rfl) ?_
                          refine zG_iald hd0 hz rfl rfl (.inl rfl) (by omega) ?_
                          obtain ⟨x50, hx50⟩ : ∃ x : Int, x = M41 119 (x49 : Int).toNat := ⟨_, rfl⟩
                          rw [← hx50]
                          have hx50r : qin x50 := by rw [hx50]; exact hCM41.ra 119 _ (by decide) (by decide)
                          show zG n (0, 0) d 281 (88, [.inr (.inr (some 97)), .inl a1, .inl a2, .inl v4, .inl v35, .inl v39, .inl v40, zN], [.inl x50, .inl x46]) M41 _
                          obtain ⟨x51, hx51⟩ : ∃ x : Int, x = w32 (x46 + x50) := ⟨_, rfl⟩
                          have hx51r : x51 = (x46 + x50 + 2147483648) % 4294967296 - 2147483648 := hx51
                          obtain ⟨x52, hx52⟩ : ∃ x : Int, x = w32 (x51 + v39) := ⟨_, rfl⟩
                          have hx52r : x52 = (x51 + v39 + 2147483648) % 4294967296 - 2147483648 := hx52
                          refine zG_blk (c' := (96, [.inr (.inr (some 97)), .inl a1, .inl a2, .inl v4, .inl v35, .inl v39, .inl v40, .inl x52], [.inl x52])) 5 hd0 hz (by subst hx52; subst hx51; rfl) ?_
                          have j112 : ∀ (v53 : Int) , 0 ≤ v53 ∧ v53 ≤ 1 → zG n (0, 0) d 281 (112, [.inr (.inr (some 97)), .inl a1, .inl a2, .inl v4, .inl v35, .inl v39, .inl v40, .inl x52], [.inl v53]) M41 (fun v M' => (qMI M' ∧ qFm [119, 120] M M') ∧ v = none) := by
                            intro v53 hv53
                            obtain ⟨x54, hx54⟩ : ∃ x : Int, x = w32 (6 * v35) := ⟨_, rfl⟩
                            have hx54e : x54 = 6 * v35 := by rw [hx54]; exact w32_id (by omega)
                            obtain ⟨x55, hx55⟩ : ∃ x : Int, x = w32 (x54 + v40) := ⟨_, rfl⟩
                            have hx55e : x55 = x54 + v40 := by rw [hx55]; exact w32_id (by omega)
                            refine zG_blk (c' := (129, [.inr (.inr (some 97)), .inl a1, .inl a2, .inl v4, .inl v35, .inl v53, .inl v40, .inl x52], [.inl 1, .inl v53, .inl x55, .inr (.inr (some 119))])) 10 hd0 hz (by subst hx55; subst hx54; rfl) ?_
                            have j143 : ∀ (v56 : Int) , (-2147483648) ≤ v56 ∧ v56 ≤ 2147483647 → zG n (0, 0) d 281 (143, [.inr (.inr (some 97)), .inl a1, .inl a2, .inl v4, .inl v35, .inl v53, .inl v40, .inl x52], [.inl v56, .inl x55, .inr (.inr (some 119))]) M41 (fun v M' => (qMI M' ∧ qFm [119, 120] M M') ∧ v = none) := by
                              intro v56 hv56
                              refine zG_iast hd0 hz rfl rfl (by omega) ?_
                              obtain ⟨M57, hM57⟩ : ∃ X : zM, X = zput M41 119 (x55 : Int).toNat v56 := ⟨_, rfl⟩
                              rw [← hM57]
                              have hCM57 : qMI M57 := by rw [hM57]; exact hCM41.put (by decide) (qCd_a (by decide) (by decide)) (by refine ⟨fun h => ?_, fun _ => ?_, fun h => ?_, fun h => ?_, fun h => ?_⟩ <;> first | omega | exact absurd h (by decide))
                              have hWM57 : qFm [119, 120] M M57 := by rw [hM57]; exact hWM41.pa (by decide) (by decide)
                              show zG n (0, 0) d 281 (144, [.inr (.inr (some 97)), .inl a1, .inl a2, .inl v4, .inl v35, .inl v53, .inl v40, .inl x52], []) M57 _
                              obtain ⟨x58, hx58⟩ : ∃ x : Int, x = w32 (v40 + 1) := ⟨_, rfl⟩
                              have hx58e : x58 = v40 + 1 := by rw [hx58]; exact w32_id (by omega)
                              refine zG_blk (c' := (53, [.inr (.inr (some 97)), .inl a1, .inl a2, .inl v4, .inl v35, .inl v53, .inl x58, .inl x52], [])) 2 hd0 hz (by subst hx58; rfl) ?_
                              exact zG_weak (ih53 v53 x58 M57 (by omega) (by omega) (by omega) hCM57 hWM57) ⟨.inr rfl, .inr rfl, .inr rfl, .inr rfl, .inr rfl, .inr rfl, .inr rfl, .inl rfl, trivial⟩
                            refine zG_icmp_ne hd0 hz rfl (fun hb59 => ?_) (fun hb59 => ?_)
                            · refine zG_blk (c' := (143, [.inr (.inr (some 97)), .inl a1, .inl a2, .inl v4, .inl v35, .inl v53, .inl v40, .inl x52], [.inl x52, .inl x55, .inr (.inr (some 119))])) 1 hd0 hz (by rfl) ?_
                              exact j143 x52 (by omega)
                            · obtain ⟨x60, hx60⟩ : ∃ x : Int, x = w32 (x52 - 1073741824) := ⟨_, rfl⟩
                              have hx60r : x60 = (x52 - 1073741824 + 2147483648) % 4294967296 - 2147483648 := hx60
                              refine zG_blk (c' := (143, [.inr (.inr (some 97)), .inl a1, .inl a2, .inl v4, .inl v35, .inl v53, .inl v40, .inl x52], [.inl x60, .inl x55, .inr (.inr (some 119))])) 4 hd0 hz (by subst hx60; rfl) ?_
                              exact j143 x60 (by omega)
                          have j107 : zG n (0, 0) d 281 (107, [.inr (.inr (some 97)), .inl a1, .inl a2, .inl v4, .inl v35, .inl v39, .inl v40, .inl x52], []) M41 (fun v M' => (qMI M' ∧ qFm [119, 120] M M') ∧ v = none) := by
                            refine zG_blk (c' := (112, [.inr (.inr (some 97)), .inl a1, .inl a2, .inl v4, .inl v35, .inl v39, .inl v40, .inl x52], [.inl 1])) 2 hd0 hz (by rfl) ?_
                            exact j112 1 (by first | decide | omega)
                          refine zG_if_lt hd0 hz rfl (fun hb61 => ?_) (fun hb61 => ?_)
                          · exact j107
                          · refine zG_blk (c' := (104, [.inr (.inr (some 97)), .inl a1, .inl a2, .inl v4, .inl v35, .inl v39, .inl v40, .inl x52], [.inl 1073741824, .inl x52])) 2 hd0 hz (by rfl) ?_
                            refine zG_icmp_lt hd0 hz rfl (fun hb62 => ?_) (fun hb62 => ?_)
                            · refine zG_blk (c' := (112, [.inr (.inr (some 97)), .inl a1, .inl a2, .inl v4, .inl v35, .inl v39, .inl v40, .inl x52], [.inl 0])) 1 hd0 hz (by rfl) ?_
                              exact j112 0 (by first | decide | omega)
                            · exact j107
                    exact j53 ((6 - 0 : Int).toNat + 1) 0 0 M36 (by omega) (by omega) (by omega) hCM36 hWM36
              exact j42 ((x34 : Int).toNat + 1) x34 M5 (by omega) (by omega) (by omega) hCM5 hWM5
        exact j32 ((a1 - 0 : Int).toNat + 1) 0 M2 (by omega) (by omega) hCM2 hWM2
      · refine zG_blk (c' := (15, [.inr (.inr (some 97)), .inl a1, .inl a2, .inl v1, zN, zN, zN, zN], [.inl v1, .inl v1, .inr (.inr (some 119))])) 4 hd0 hz (by rfl) ?_
        have j23 : ∀ (v63 : Int) , 0 ≤ v63 ∧ v63 ≤ 1 → zG n (0, 0) d 281 (23, [.inr (.inr (some 97)), .inl a1, .inl a2, .inl v1, zN, zN, zN, zN], [.inl v63, .inl v1, .inr (.inr (some 119))]) M2 (fun v M' => (qMI M' ∧ qFm [119, 120] M M') ∧ v = none) := by
          intro v63 hv63
          refine zG_iast hd0 hz rfl rfl (by omega) ?_
          obtain ⟨M64, hM64⟩ : ∃ X : zM, X = zput M2 119 (v1 : Int).toNat v63 := ⟨_, rfl⟩
          rw [← hM64]
          have hCM64 : qMI M64 := by rw [hM64]; exact hCM2.put (by decide) (qCd_a (by decide) (by decide)) (by refine ⟨fun h => ?_, fun _ => ?_, fun h => ?_, fun h => ?_, fun h => ?_⟩ <;> first | omega | exact absurd h (by decide))
          have hWM64 : qFm [119, 120] M M64 := by rw [hM64]; exact hWM2.pa (by decide) (by decide)
          show zG n (0, 0) d 281 (24, [.inr (.inr (some 97)), .inl a1, .inl a2, .inl v1, zN, zN, zN, zN], []) M64 _
          obtain ⟨x65, hx65⟩ : ∃ x : Int, x = w32 (v1 + 1) := ⟨_, rfl⟩
          have hx65e : x65 = v1 + 1 := by rw [hx65]; exact w32_id (by omega)
          refine zG_blk (c' := (2, [.inr (.inr (some 97)), .inl a1, .inl a2, .inl x65, zN, zN, zN, zN], [])) 2 hd0 hz (by subst hx65; rfl) ?_
          exact ih2 x65 M64 (by omega) (by omega) hCM64 hWM64
        refine zG_if_ne hd0 hz rfl (fun hb66 => ?_) (fun hb66 => ?_)
        · refine zG_blk (c' := (23, [.inr (.inr (some 97)), .inl a1, .inl a2, .inl v1, zN, zN, zN, zN], [.inl 0, .inl v1, .inr (.inr (some 119))])) 1 hd0 hz (by rfl) ?_
          exact j23 0 (by first | decide | omega)
        · refine zG_blk (c' := (23, [.inr (.inr (some 97)), .inl a1, .inl a2, .inl v1, zN, zN, zN, zN], [.inl 1, .inl v1, .inr (.inr (some 119))])) 2 hd0 hz (by rfl) ?_
          exact j23 1 (by first | decide | omega)
  exact j2 ((756 - 0 : Int).toNat + 1) 0 M (by omega) (by omega) hC hW
