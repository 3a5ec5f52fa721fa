theorem qm_267_97 {n d : Nat} {M : zM} (hd : 8 ≤ d) (hC : qMI M)  (a1 : Int) (ha1 : 0 ≤ a1 ∧ a1 ≤ 19) (a2 : Int) (ha2 : 0 ≤ a2 ∧ a2 ≤ 16383) (a3 : Int) (ha3 : 0 ≤ a3 ∧ a3 ≤ 2) (a4 : Int) (ha4 : 1 ≤ a4 ∧ a4 ≤ 4) (a5 : Int) (ha5 : (-2147483648) ≤ a5 ∧ a5 ≤ 2147483647) (a6 : Int) (ha6 : (-2147483648) ≤ a6 ∧ a6 ≤ 2147483647) : qOkN n d 267 [.inr (.inr (some 97)), .inl a1, .inl a2, .inl a3, .inl a4, .inl a5, .inl a6] 8 [101, 102, 103, 104, 105, 106, 107, 108, 109, 110, 114, 115, 1007, 1010, 1012, 1013, 1016, 1018, 1019, 1020, 1021, 1022, 1023, 1028, 1030, 1031, 1032, 1033] M (fun v M' => ∃ x : Int, v = some (.inl x) ∧ ((-2147483648) ≤ x ∧ x ≤ 2147483647) ∧ (x ≤ 60)) := by
  have hz := zp_267
  have hd0 : 0 < d := by omega
  have hW : qFm [101, 102, 103, 104, 105, 106, 107, 108, 109, 110, 114, 115, 1007, 1010, 1012, 1013, 1016, 1018, 1019, 1020, 1021, 1022, 1023, 1028, 1030, 1031, 1032, 1033] M M := qFm.rfl
  have r1 := hC.cnt0
  show zG n (0, 0) d 267 (0, [.inr (.inr (some 97)), .inl a1, .inl a2, .inl a3, .inl a4, .inl a5, .inl a6, zN], []) M _
  refine zG_blk (c' := (3, [.inr (.inr (some 97)), .inl a1, .inl a2, .inl a3, .inl a4, .inl a5, .inl a6, zN], [.inl a6, .inr (.inr (some 97))])) 2 hd0 hz (by rfl) ?_
  refine zG_call hd0 hz zp_211 rfl rfl (Nat.le_of_ble_eq_true rfl) ⟨Nat.le_refl _, Nat.le_refl _⟩ (qm_211_97 (by first | exact zdp hd (by decide) | omega) hC   a6 (by first | with_reducible exact ha6 | omega) ) (fun vr M2 hr => ?_)
  obtain ⟨⟨hCM2, hFM2⟩, rfl⟩ := hr
  have hWM2 : qFm [101, 102, 103, 104, 105, 106, 107, 108, 109, 110, 114, 115, 1007, 1010, 1012, 1013, 1016, 1018, 1019, 1020, 1021, 1022, 1023, 1028, 1030, 1031, 1032, 1033] M M2 := hW.tr hFM2 (by decide)
  have e4 : M2 98 0 = M 98 0 := hFM2 98 0 (by decide)
  show zG n (0, 0) d 267 (6, [.inr (.inr (some 97)), .inl a1, .inl a2, .inl a3, .inl a4, .inl a5, .inl a6, zN], []) M2 _
  refine zG_blk (c' := (10, [.inr (.inr (some 97)), .inl a1, .inl a2, .inl a3, .inl a4, .inl a5, .inl a6, zN], [.inl a5, .inl a1, .inr (.inr (some 97))])) 3 hd0 hz (by rfl) ?_
  refine zG_call hd0 hz zp_240 rfl rfl (Nat.le_of_ble_eq_true rfl) ⟨Nat.le_refl _, Nat.le_refl _⟩ (qm_240_97 (by first | exact zdp hd (by decide) | omega) hCM2   a1 (by first | with_reducible exact ha1 | omega) a5 (by first | with_reducible exact ha5 | omega) ) (fun vr M5 hr => ?_)
  obtain ⟨⟨hCM5, hFM5⟩, rfl⟩ := hr
  have hWM5 : qFm [101, 102, 103, 104, 105, 106, 107, 108, 109, 110, 114, 115, 1007, 1010, 1012, 1013, 1016, 1018, 1019, 1020, 1021, 1022, 1023, 1028, 1030, 1031, 1032, 1033] M M5 := hWM2.tr hFM5 (by decide)
  have e7 : M5 98 0 = M2 98 0 := hFM5 98 0 (by decide)
  show zG n (0, 0) d 267 (13, [.inr (.inr (some 97)), .inl a1, .inl a2, .inl a3, .inl a4, .inl a5, .inl a6, zN], []) M5 _
  have r8 := hCM5.rg 97 21 (by decide) (by decide)
  obtain ⟨x9, hx9⟩ : ∃ x : Int, x = zbxor (M5 97 21) (-1) := ⟨_, rfl⟩
  have hx9r : qin x9 := by rw [hx9]; exact qb32 _
  obtain ⟨x10, hx10⟩ : ∃ x : Int, x = zband a2 x9 := ⟨_, rfl⟩
  have hx10r := qband_l a2 x9 (by omega) (by omega); rw [← hx10] at hx10r
  refine zG_blk (c' := (22, [.inr (.inr (some 97)), .inl a1, .inl a2, .inl a3, .inl a4, .inl a5, .inl a6, zN], [.inl x10, .inr (.inr (some 97))])) 7 hd0 hz (by subst hx10; subst hx9; rfl) ?_
  refine zG_putf (.inl rfl) hd0 hz rfl (by decide) rfl rfl ?_
  obtain ⟨M11, hM11⟩ : ∃ X : zM, X = zput M5 97 28 x10 := ⟨_, rfl⟩
  rw [← hM11]
  have hCM11 : qMI M11 := by rw [hM11]; exact hCM5.put (by decide) (by decide) (by refine ⟨fun _ => ?_, fun _ => ?_, fun h => ⟨fun _ => ?_, fun _ => ?_, fun _ => ?_, fun _ => ?_, fun _ => ?_⟩, fun h => ?_, fun h => ?_⟩ <;> first | omega | exact absurd rfl (by assumption) | (rename_i h9; exact absurd h9 (by decide)))
  have hWM11 : qFm [101, 102, 103, 104, 105, 106, 107, 108, 109, 110, 114, 115, 1007, 1010, 1012, 1013, 1016, 1018, 1019, 1020, 1021, 1022, 1023, 1028, 1030, 1031, 1032, 1033] M M11 := by rw [hM11]; exact hWM5.put (by decide)
  have e12 : M11 98 0 = M5 98 0 := by rw [hM11]; exact qput_ne (by decide)
  have e13 : M11 97 21 = M5 97 21 := by rw [hM11]; exact qput_nk (by decide)
  have e14 : M11 97 28 = x10 := by rw [hM11]; exact qput_eq
  show zG n (0, 0) d 267 (25, [.inr (.inr (some 97)), .inl a1, .inl a2, .inl a3, .inl a4, .inl a5, .inl a6, zN], []) M11 _
  refine zG_blk (c' := (30, [.inr (.inr (some 97)), .inl a1, .inl a2, .inl a3, .inl a4, .inl a5, .inl a6, zN], [.inl 0, .inr (.inr (some 98))])) 3 hd0 hz (by rfl) ?_
  refine zG_iald hd0 hz rfl rfl (.inl rfl) (by omega) ?_
  show zG n (0, 0) d 267 (31, [.inr (.inr (some 97)), .inl a1, .inl a2, .inl a3, .inl a4, .inl a5, .inl a6, zN], [.inl (M11 98 0)]) M11 _
  obtain ⟨x15, hx15⟩ : ∃ x : Int, x = w32 ((M11 98 0) - 1) := ⟨_, rfl⟩
  have hx15e : x15 = (M11 98 0) - 1 := by rw [hx15]; exact w32_id (by omega)
  refine zG_blk (c' := (35, [.inr (.inr (some 97)), .inl a1, .inl a2, .inl a3, .inl a4, .inl a5, .inl a6, .inl x15], [])) 3 hd0 hz (by subst hx15; rfl) ?_
  have j35 : ∀ (N : Nat) (v16 : Int) (M17 : zM) , (v16 + 1 : Int).toNat < N → (-1) ≤ v16 ∧ v16 ≤ 13 → qMI M17 → qFm [101, 102, 103, 104, 105, 106, 107, 108, 109, 110, 114, 115, 1007, 1010, 1012, 1013, 1016, 1018, 1019, 1020, 1021, 1022, 1023, 1028, 1030, 1031, 1032, 1033] M M17 → zG n (0, 0) d 267 (35, [.inr (.inr (some 97)), .inl a1, .inl a2, .inl a3, .inl a4, .inl a5, .inl a6, .inl v16], []) M17 (fun v M' => (qMI M' ∧ qFm [101, 102, 103, 104, 105, 106, 107, 108, 109, 110, 114, 115, 1007, 1010, 1012, 1013, 1016, 1018, 1019, 1020, 1021, 1022, 1023, 1028, 1030, 1031, 1032, 1033] M M') ∧ ∃ x : Int, v = some (.inl x) ∧ ((-2147483648) ≤ x ∧ x ≤ 2147483647) ∧ (x ≤ 60)) := by
    intro N
    induction N with
    | zero => intro v16 M17 hN hv16 hCM17 hWM17; exact absurd hN (Nat.not_lt_zero _)
    | succ N ih35 =>
      intro v16 M17 hN hv16 hCM17 hWM17
      have e18 : M17 98 0 = M 98 0 := hWM17 98 0 (by decide)
      refine zG_blk (c' := (37, [.inr (.inr (some 97)), .inl a1, .inl a2, .inl a3, .inl a4, .inl a5, .inl a6, .inl v16], [.inl v16])) 1 hd0 hz (by rfl) ?_
      refine zG_if_lt hd0 hz rfl (fun hb19 => ?_) (fun hb19 => ?_)
      · refine zG_blk (c' := (96, [.inr (.inr (some 97)), .inl a1, .inl a2, .inl a3, .inl a4, .inl a5, .inl a6, .inl v16], [.inl a4, .inr (.inr (some 97))])) 2 hd0 hz (by rfl) ?_
        refine zG_call hd0 hz zp_265 rfl rfl (Nat.le_of_ble_eq_true rfl) ⟨Nat.le_refl _, Nat.le_refl _⟩ (qm_265_97 (by first | exact zdp hd (by decide) | omega) hCM17   a4 (by first | with_reducible exact ha4 | omega) ) (fun vr M20 hr => ?_)
        obtain ⟨⟨hCM20, hFM20⟩, rfl⟩ := hr
        have hWM20 : qFm [101, 102, 103, 104, 105, 106, 107, 108, 109, 110, 114, 115, 1007, 1010, 1012, 1013, 1016, 1018, 1019, 1020, 1021, 1022, 1023, 1028, 1030, 1031, 1032, 1033] M M20 := hWM17.tr hFM20 (by decide)
        have e22 : M20 98 0 = M17 98 0 := hFM20 98 0 (by decide)
        show zG n (0, 0) d 267 (99, [.inr (.inr (some 97)), .inl a1, .inl a2, .inl a3, .inl a4, .inl a5, .inl a6, .inl v16], []) M20 _
        refine zG_blk (c' := (104, [.inr (.inr (some 97)), .inl a1, .inl a2, .inl a3, .inl a4, .inl a5, .inl a6, .inl v16], [.inl a3, .inr (.inr (some 114))])) 3 hd0 hz (by rfl) ?_
        refine zG_iald hd0 hz rfl rfl (.inl rfl) (by omega) ?_
        obtain ⟨x23, hx23⟩ : ∃ x : Int, x = M20 114 (a3 : Int).toNat := ⟨_, rfl⟩
        rw [← hx23]
        have hx23r : qin x23 := by rw [hx23]; exact hCM20.ra 114 _ (by decide) (by decide)
        show zG n (0, 0) d 267 (105, [.inr (.inr (some 97)), .inl a1, .inl a2, .inl a3, .inl a4, .inl a5, .inl a6, .inl v16], [.inl x23]) M20 _
        refine zG_blk (c' := (107, [.inr (.inr (some 97)), .inl a1, .inl a2, .inl a3, .inl a4, .inl a5, .inl a6, .inl v16], [.inl 60, .inl x23])) 1 hd0 hz (by rfl) ?_
        have j120 : ∀ (v24 : Int) , (-2147483648) ≤ v24 ∧ v24 ≤ 2147483647 → (v24 ≤ 60) → zG n (0, 0) d 267 (120, [.inr (.inr (some 97)), .inl a1, .inl a2, .inl a3, .inl a4, .inl a5, .inl a6, .inl v16], [.inl v24]) M20 (fun v M' => (qMI M' ∧ qFm [101, 102, 103, 104, 105, 106, 107, 108, 109, 110, 114, 115, 1007, 1010, 1012, 1013, 1016, 1018, 1019, 1020, 1021, 1022, 1023, 1028, 1030, 1031, 1032, 1033] M M') ∧ ∃ x : Int, v = some (.inl x) ∧ ((-2147483648) ≤ x ∧ x ≤ 2147483647) ∧ (x ≤ 60)) := by
          intro v24 hv24 hx0_120
          exact zG_ret hd0 hz rfl rfl ⟨⟨hCM20, hWM20⟩, _, rfl, by omega, by omega⟩
        refine zG_icmp_le hd0 hz rfl (fun hb25 => ?_) (fun hb25 => ?_)
        · refine zG_blk (c' := (119, [.inr (.inr (some 97)), .inl a1, .inl a2, .inl a3, .inl a4, .inl a5, .inl a6, .inl v16], [.inl a3, .inr (.inr (some 114))])) 3 hd0 hz (by rfl) ?_
          refine zG_iald hd0 hz rfl rfl (.inl rfl) (by omega) ?_
          obtain ⟨x26, hx26⟩ : ∃ x : Int, x = M20 114 (a3 : Int).toNat := ⟨_, rfl⟩
          rw [← hx26]
          have hx26r : qin x26 := by rw [hx26]; exact hCM20.ra 114 _ (by decide) (by decide)
          show zG n (0, 0) d 267 (120, [.inr (.inr (some 97)), .inl a1, .inl a2, .inl a3, .inl a4, .inl a5, .inl a6, .inl v16], [.inl x26]) M20 _
          exact j120 x26 (by omega) (by omega)
        · refine zG_blk (c' := (120, [.inr (.inr (some 97)), .inl a1, .inl a2, .inl a3, .inl a4, .inl a5, .inl a6, .inl v16], [.inl (-1)])) 2 hd0 hz (by rfl) ?_
          exact j120 (-1) (by first | decide | omega) (by omega)
      · have r27 := hCM17.f28
        obtain ⟨x28, hx28⟩ : ∃ x : Int, x = zbshr (M17 97 28) v16 := ⟨_, rfl⟩
        have hx28r := qbshr_n (M17 97 28) v16 (by first | with_reducible exact hv16 | omega); rw [← hx28] at hx28r
        obtain ⟨x29, hx29⟩ : ∃ x : Int, x = zband x28 1 := ⟨_, rfl⟩
        have hx29r := qband_lr x28 1 (by first | decide | omega) (by omega); rw [← hx29] at hx29r
        refine zG_blk (c' := (55, [.inr (.inr (some 97)), .inl a1, .inl a2, .inl a3, .inl a4, .inl a5, .inl a6, .inl v16], [.inl 1, .inl x29, .inl (M17 97 28), .inr (.inr (some 97))])) 10 hd0 hz (by subst hx29; subst hx28; rfl) ?_
        have j83 : ∀ (v30 : Int) , 0 ≤ v30 ∧ v30 ≤ 16383 → zG n (0, 0) d 267 (83, [.inr (.inr (some 97)), .inl a1, .inl a2, .inl a3, .inl a4, .inl a5, .inl a6, .inl v16], [.inl v30, .inl (M17 97 28), .inr (.inr (some 97))]) M17 (fun v M' => (qMI M' ∧ qFm [101, 102, 103, 104, 105, 106, 107, 108, 109, 110, 114, 115, 1007, 1010, 1012, 1013, 1016, 1018, 1019, 1020, 1021, 1022, 1023, 1028, 1030, 1031, 1032, 1033] M M') ∧ ∃ x : Int, v = some (.inl x) ∧ ((-2147483648) ≤ x ∧ x ≤ 2147483647) ∧ (x ≤ 60)) := by
          intro v30 hv30
          obtain ⟨x31, hx31⟩ : ∃ x : Int, x = zbor (M17 97 28) v30 := ⟨_, rfl⟩
          have hx31r := qbor_in (M17 97 28) v30 16384 14 (by decide) (by decide) (by omega) (by omega); rw [← hx31] at hx31r
          refine zG_blk (c' := (84, [.inr (.inr (some 97)), .inl a1, .inl a2, .inl a3, .inl a4, .inl a5, .inl a6, .inl v16], [.inl x31, .inr (.inr (some 97))])) 1 hd0 hz (by subst hx31; rfl) ?_
          refine zG_putf (.inl rfl) hd0 hz rfl (by decide) rfl rfl ?_
          obtain ⟨M32, hM32⟩ : ∃ X : zM, X = zput M17 97 28 x31 := ⟨_, rfl⟩
          rw [← hM32]
          have hCM32 : qMI M32 := by rw [hM32]; exact hCM17.put (by decide) (by decide) (by refine ⟨fun _ => ?_, fun _ => ?_, fun h => ⟨fun _ => ?_, fun _ => ?_, fun _ => ?_, fun _ => ?_, fun _ => ?_⟩, fun h => ?_, fun h => ?_⟩ <;> first | omega | exact absurd rfl (by assumption) | (rename_i h9; exact absurd h9 (by decide)))
          have hWM32 : qFm [101, 102, 103, 104, 105, 106, 107, 108, 109, 110, 114, 115, 1007, 1010, 1012, 1013, 1016, 1018, 1019, 1020, 1021, 1022, 1023, 1028, 1030, 1031, 1032, 1033] M M32 := by rw [hM32]; exact hWM17.put (by decide)
          have e33 : M32 98 0 = M17 98 0 := by rw [hM32]; exact qput_ne (by decide)
          have e34 : M32 97 28 = x31 := by rw [hM32]; exact qput_eq
          show zG n (0, 0) d 267 (87, [.inr (.inr (some 97)), .inl a1, .inl a2, .inl a3, .inl a4, .inl a5, .inl a6, .inl v16], []) M32 _
          obtain ⟨x35, hx35⟩ : ∃ x : Int, x = w32 (v16 + (-1)) := ⟨_, rfl⟩
          have hx35e : x35 = v16 + (-1) := by rw [hx35]; exact w32_id (by omega)
          refine zG_blk (c' := (35, [.inr (.inr (some 97)), .inl a1, .inl a2, .inl a3, .inl a4, .inl a5, .inl a6, .inl x35], [])) 2 hd0 hz (by subst hx35; rfl) ?_
          exact ih35 x35 M32 (by omega) (by omega) hCM32 hWM32
        refine zG_icmp_ne hd0 hz rfl (fun hb36 => ?_) (fun hb36 => ?_)
        · refine zG_blk (c' := (83, [.inr (.inr (some 97)), .inl a1, .inl a2, .inl a3, .inl a4, .inl a5, .inl a6, .inl v16], [.inl 0, .inl (M17 97 28), .inr (.inr (some 97))])) 1 hd0 hz (by rfl) ?_
          exact j83 0 (by first | decide | omega)
        · obtain ⟨x37, hx37⟩ : ∃ x : Int, x = w32 (4 * v16) := ⟨_, rfl⟩
          have hx37e : x37 = 4 * v16 := by rw [hx37]; exact w32_id (by omega)
          obtain ⟨x38, hx38⟩ : ∃ x : Int, x = w32 (20 + x37) := ⟨_, rfl⟩
          have hx38e : x38 = 20 + x37 := by rw [hx38]; exact w32_id (by omega)
          obtain ⟨x39, hx39⟩ : ∃ x : Int, x = w32 (x38 + 1) := ⟨_, rfl⟩
          have hx39e : x39 = x38 + 1 := by rw [hx39]; exact w32_id (by omega)
          refine zG_blk (c' := (71, [.inr (.inr (some 97)), .inl a1, .inl a2, .inl a3, .inl a4, .inl a5, .inl a6, .inl v16], [.inl x39, .inr (.inr (some 98)), .inl (M17 97 28), .inr (.inr (some 97))])) 9 hd0 hz (by subst hx39; subst hx38; subst hx37; rfl) ?_
          refine zG_iald hd0 hz rfl rfl (.inl rfl) (by omega) ?_
          obtain ⟨x40, hx40⟩ : ∃ x : Int, x = M17 98 (x39 : Int).toNat := ⟨_, rfl⟩
          rw [← hx40]
          have hx40r : 0 ≤ x40 ∧ x40 ≤ 16383 := by rw [hx40]; exact hCM17.leans v16 _ (by omega) (by omega)
          show zG n (0, 0) d 267 (72, [.inr (.inr (some 97)), .inl a1, .inl a2, .inl a3, .inl a4, .inl a5, .inl a6, .inl v16], [.inl x40, .inl (M17 97 28), .inr (.inr (some 97))]) M17 _
          have r41 := hCM17.rg 97 21 (by decide) (by decide)
          obtain ⟨x42, hx42⟩ : ∃ x : Int, x = zbxor (M17 97 21) (-1) := ⟨_, rfl⟩
          have hx42r : qin x42 := by rw [hx42]; exact qb32 _
          obtain ⟨x43, hx43⟩ : ∃ x : Int, x = zband x40 x42 := ⟨_, rfl⟩
          have hx43r := qband_l x40 x42 (by omega) (by omega); rw [← hx43] at hx43r
          refine zG_blk (c' := (83, [.inr (.inr (some 97)), .inl a1, .inl a2, .inl a3, .inl a4, .inl a5, .inl a6, .inl v16], [.inl x43, .inl (M17 97 28), .inr (.inr (some 97))])) 6 hd0 hz (by subst hx43; subst hx42; rfl) ?_
          exact j83 x43 (by omega)
  exact j35 ((x15 + 1 : Int).toNat + 1) x15 M11 (by omega) (by omega) hCM11 hWM11
