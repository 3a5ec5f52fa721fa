theorem qm_283_97 {n d : Nat} {M : zM} (hd : 4 ≤ d) (hC : qMI M)  (a1 : Int) (ha1 : 0 ≤ a1 ∧ a1 ≤ 4) : qOkN n d 283 [.inr (.inr (some 97)), .inl a1] 4 [119, 120, 121, 1041, 1042, 1043, 1044] M (fun v M' => ∃ x : Int, v = some (.inl x) ∧ (0 ≤ x ∧ x ≤ 1)) := by
  have hz := zp_283
  have hd0 : 0 < d := by omega
  have hW : qFm [119, 120, 121, 1041, 1042, 1043, 1044] M M := qFm.rfl
  show zG n (0, 0) d 283 (0, [.inr (.inr (some 97)), .inl a1, zN, zN], []) M _
  refine zG_blk (c' := (4, [.inr (.inr (some 97)), .inl a1, .inl 0, .inl 0], [])) 4 hd0 hz (by rfl) ?_
  have j4 : ∀ (N : Nat) (v1 v2 : Int) (M3 : zM) , (5 - v2 : Int).toNat < N → (-2147483648) ≤ v1 ∧ v1 ≤ 2147483647 → 0 ≤ v2 ∧ v2 ≤ 5 → qMI M3 → qFm [119, 120, 121, 1041, 1042, 1043, 1044] M M3 → zG n (0, 0) d 283 (4, [.inr (.inr (some 97)), .inl a1, .inl v1, .inl v2], []) M3 (fun v M' => (qMI M' ∧ qFm [119, 120, 121, 1041, 1042, 1043, 1044] M M') ∧ ∃ x : Int, v = some (.inl x) ∧ (0 ≤ x ∧ x ≤ 1)) := by
    intro N
    induction N with
    | zero => intro v1 v2 M3 hN hv1 hv2 hCM3 hWM3; exact absurd hN (Nat.not_lt_zero _)
    | succ N ih4 =>
      intro v1 v2 M3 hN hv1 hv2 hCM3 hWM3
      refine zG_blk (c' := (6, [.inr (.inr (some 97)), .inl a1, .inl v1, .inl v2], [.inl 5, .inl v2])) 2 hd0 hz (by rfl) ?_
      refine zG_icmp_ge hd0 hz rfl (fun hb4 => ?_) (fun hb4 => ?_)
      · refine zG_blk (c' := (37, [.inr (.inr (some 97)), .inl a1, .inl v1, .inl v2], [.inl a1, .inr (.inr (some 97))])) 2 hd0 hz (by rfl) ?_
        refine zG_call hd0 hz zp_280 rfl rfl (Nat.le_of_ble_eq_true rfl) ⟨Nat.le_refl _, Nat.le_refl _⟩ (qm_280_97 (by first | exact zdp hd (by decide) | omega) hCM3   a1 (by first | with_reducible exact ha1 | omega) ) (fun vr M5 hr => ?_)
        obtain ⟨⟨hCM5, hFM5⟩, rfl, hpx6_0, hpx6_1⟩ := hr
        have hWM5 : qFm [119, 120, 121, 1041, 1042, 1043, 1044] M M5 := hWM3.tr hFM5 (by decide)
        have r7 := hCM5.rg 97 41 (by decide) (by decide)
        have r8 := hCM5.rg 97 42 (by decide) (by decide)
        have r9 := hCM5.rg 97 43 (by decide) (by decide)
        show zG n (0, 0) d 283 (40, [.inr (.inr (some 97)), .inl a1, .inl v1, .inl v2], []) M5 _
        refine zG_blk (c' := (44, [.inr (.inr (some 97)), .inl a1, .inl v1, .inl v2], [.inl (M5 97 41)])) 2 hd0 hz (by rfl) ?_
        refine zG_if_ne hd0 hz rfl (fun hb10 => ?_) (fun hb10 => ?_)
        · obtain ⟨x11, hx11⟩ : ∃ x : Int, x = w32 ((M5 97 41) - (M5 97 42)) := ⟨_, rfl⟩
          have hx11r : x11 = ((M5 97 41) - (M5 97 42) + 2147483648) % 4294967296 - 2147483648 := hx11
          refine zG_blk (c' := (62, [.inr (.inr (some 97)), .inl a1, .inl v1, .inl v2], [.inl x11, .inl (M5 97 42)])) 7 hd0 hz (by subst hx11; rfl) ?_
          have j81 : ∀ (v12 : Int) , (-2147483648) ≤ v12 ∧ v12 ≤ 2147483647 → (0 ≤ v12) → zG n (0, 0) d 283 (81, [.inr (.inr (some 97)), .inl a1, .inl v1, .inl v2], [.inl v12]) M5 (fun v M' => (qMI M' ∧ qFm [119, 120, 121, 1041, 1042, 1043, 1044] M M') ∧ ∃ x : Int, v = some (.inl x) ∧ (0 ≤ x ∧ x ≤ 1)) := by
            intro v12 hv12 hx0_81
            refine zG_blk (c' := (88, [.inr (.inr (some 97)), .inl a1, .inl v1, .inl v12], [.inl v12, .inl (M5 97 41), .inr (.inr (some 97))])) 5 hd0 hz (by rfl) ?_
            refine zG_call hd0 hz zp_281 rfl rfl (Nat.le_of_ble_eq_true rfl) ⟨Nat.le_refl _, Nat.le_refl _⟩ (qm_281_97 (by first | exact zdp hd (by decide) | omega) hCM5   (M5 97 41) (by omega) v12 (by first | with_reducible exact hv12 | omega) ) (fun vr M13 hr => ?_)
            obtain ⟨⟨hCM13, hFM13⟩, rfl⟩ := hr
            have hWM13 : qFm [119, 120, 121, 1041, 1042, 1043, 1044] M M13 := hWM5.tr hFM13 (by decide)
            have e15 : M13 97 41 = M5 97 41 := hFM13 97 41 (by decide)
            have e16 : M13 97 42 = M5 97 42 := hFM13 97 42 (by decide)
            have e17 : M13 97 43 = M5 97 43 := hFM13 97 43 (by decide)
            show zG n (0, 0) d 283 (91, [.inr (.inr (some 97)), .inl a1, .inl v1, .inl v12], []) M13 _
            obtain ⟨x18, hx18⟩ : ∃ x : Int, x = w32 (2 * v1) := ⟨_, rfl⟩
            have hx18r : qin x18 := by rw [hx18]; exact w32_in _
            refine zG_blk (c' := (105, [.inr (.inr (some 97)), .inl a1, .inl v1, .inl v12], [.inl 8, .inr (.inr (some 98)), .inl x18, .inl (M13 97 41), .inr (.inr (some 97))])) 9 hd0 hz (by subst hx18; rfl) ?_
            refine zG_iald hd0 hz rfl rfl (.inl rfl) (by omega) ?_
            have r19 := hCM13.sin 8
            show zG n (0, 0) d 283 (106, [.inr (.inr (some 97)), .inl a1, .inl v1, .inl v12], [.inl (M13 98 8), .inl x18, .inl (M13 97 41), .inr (.inr (some 97))]) M13 _
            obtain ⟨x20, hx20⟩ : ∃ x : Int, x = w32 (x18 * (M13 98 8)) := ⟨_, rfl⟩
            have hx20r : qin x20 := by rw [hx20]; exact w32_in _
            refine zG_blk (c' := (107, [.inr (.inr (some 97)), .inl a1, .inl v1, .inl v12], [.inl x20, .inl (M13 97 41), .inr (.inr (some 97))])) 1 hd0 hz (by subst hx20; rfl) ?_
            refine zG_call hd0 hz zp_282 rfl rfl (Nat.le_of_ble_eq_true rfl) ⟨Nat.le_refl _, Nat.le_refl _⟩ (qm_282_97 (by first | exact zdp hd (by decide) | omega) hCM13   (M13 97 41) (by omega) x20 (by omega) ) (fun vr M21 hr => ?_)
            obtain ⟨⟨hCM21, hFM21⟩, x22, rfl, hx22⟩ := hr
            have hWM21 : qFm [119, 120, 121, 1041, 1042, 1043, 1044] M M21 := hWM13.tr hFM21 (by decide)
            have e23 : M21 97 41 = M13 97 41 := hFM21 97 41 (by decide)
            have e24 : M21 97 42 = M13 97 42 := hFM21 97 42 (by decide)
            have e25 : M21 97 43 = M13 97 43 := hFM21 97 43 (by decide)
            have e26 : M21 98 8 = M13 98 8 := hFM21 98 8 (by decide)
            show zG n (0, 0) d 283 (110, [.inr (.inr (some 97)), .inl a1, .inl v1, .inl v12], [.inl x22]) M21 _
            have j118 : ∀ (v27 : Int) , 0 ≤ v27 ∧ v27 ≤ 1 → zG n (0, 0) d 283 (118, [.inr (.inr (some 97)), .inl a1, .inl v1, .inl v12], [.inl v27]) M21 (fun v M' => (qMI M' ∧ qFm [119, 120, 121, 1041, 1042, 1043, 1044] M M') ∧ ∃ x : Int, v = some (.inl x) ∧ (0 ≤ x ∧ x ≤ 1)) := by
              intro v27 hv27
              exact zG_ret hd0 hz rfl rfl ⟨⟨hCM21, hWM21⟩, _, rfl, by omega⟩
            refine zG_if_eq hd0 hz rfl (fun hb28 => ?_) (fun hb28 => ?_)
            · refine zG_blk (c' := (118, [.inr (.inr (some 97)), .inl a1, .inl v1, .inl v12], [.inl 0])) 1 hd0 hz (by rfl) ?_
              exact j118 0 (by first | decide | omega)
            · refine zG_blk (c' := (118, [.inr (.inr (some 97)), .inl a1, .inl v1, .inl v12], [.inl 1])) 2 hd0 hz (by rfl) ?_
              exact j118 1 (by first | decide | omega)
          refine zG_icmp_le hd0 hz rfl (fun hb29 => ?_) (fun hb29 => ?_)
          · obtain ⟨x30, hx30⟩ : ∃ x : Int, x = w32 ((M5 97 41) - (M5 97 42)) := ⟨_, rfl⟩
            have hx30r : x30 = ((M5 97 41) - (M5 97 42) + 2147483648) % 4294967296 - 2147483648 := hx30
            refine zG_blk (c' := (81, [.inr (.inr (some 97)), .inl a1, .inl v1, .inl v2], [.inl x30])) 5 hd0 hz (by subst hx30; rfl) ?_
            exact j81 x30 (by omega) (by omega)
          · refine zG_blk (c' := (81, [.inr (.inr (some 97)), .inl a1, .inl v1, .inl v2], [.inl (M5 97 42)])) 3 hd0 hz (by rfl) ?_
            exact j81 (M5 97 42) (by omega) (by omega)
        · refine zG_blk (c' := (48, [.inr (.inr (some 97)), .inl a1, .inl v1, .inl v2], [.inl 0])) 1 hd0 hz (by rfl) ?_
          exact zG_ret hd0 hz rfl rfl ⟨⟨hCM5, hWM5⟩, _, rfl, by omega⟩
      · refine zG_blk (c' := (11, [.inr (.inr (some 97)), .inl a1, .inl v1, .inl v2], [.inl v2, .inr (.inr (some 97))])) 2 hd0 hz (by rfl) ?_
        refine zG_call hd0 hz zp_280 rfl rfl (Nat.le_of_ble_eq_true rfl) ⟨Nat.le_refl _, Nat.le_refl _⟩ (qm_280_97 (by first | exact zdp hd (by decide) | omega) hCM3   v2 (by first | with_reducible exact hv2 | omega) ) (fun vr M31 hr => ?_)
        obtain ⟨⟨hCM31, hFM31⟩, rfl, hpx32_0, hpx32_1⟩ := hr
        have hWM31 : qFm [119, 120, 121, 1041, 1042, 1043, 1044] M M31 := hWM3.tr hFM31 (by decide)
        have r33 := hCM31.rg 97 41 (by decide) (by decide)
        have r34 := hCM31.rg 97 42 (by decide) (by decide)
        have r35 := hCM31.rg 97 43 (by decide) (by decide)
        show zG n (0, 0) d 283 (14, [.inr (.inr (some 97)), .inl a1, .inl v1, .inl v2], []) M31 _
        refine zG_blk (c' := (19, [.inr (.inr (some 97)), .inl a1, .inl v1, .inl v2], [.inl (M31 97 41), .inl v1])) 3 hd0 hz (by rfl) ?_
        have j27 : ∀ (v36 : Int) , 0 ≤ v36 ∧ v36 ≤ 1 → zG n (0, 0) d 283 (27, [.inr (.inr (some 97)), .inl a1, .inl v1, .inl v2], [.inl v36, .inl v1]) M31 (fun v M' => (qMI M' ∧ qFm [119, 120, 121, 1041, 1042, 1043, 1044] M M') ∧ ∃ x : Int, v = some (.inl x) ∧ (0 ≤ x ∧ x ≤ 1)) := by
          intro v36 hv36
          obtain ⟨x37, hx37⟩ : ∃ x : Int, x = w32 (v1 + v36) := ⟨_, rfl⟩
          have hx37r : x37 = (v1 + v36 + 2147483648) % 4294967296 - 2147483648 := hx37
          obtain ⟨x38, hx38⟩ : ∃ x : Int, x = w32 (v2 + 1) := ⟨_, rfl⟩
          have hx38e : x38 = v2 + 1 := by rw [hx38]; exact w32_id (by omega)
          refine zG_blk (c' := (4, [.inr (.inr (some 97)), .inl a1, .inl x37, .inl x38], [])) 4 hd0 hz (by subst hx38; subst hx37; rfl) ?_
          exact ih4 x37 x38 M31 (by omega) (by omega) (by omega) hCM31 hWM31
        refine zG_if_le hd0 hz rfl (fun hb39 => ?_) (fun hb39 => ?_)
        · refine zG_blk (c' := (27, [.inr (.inr (some 97)), .inl a1, .inl v1, .inl v2], [.inl 0, .inl v1])) 1 hd0 hz (by rfl) ?_
          exact j27 0 (by first | decide | omega)
        · refine zG_blk (c' := (27, [.inr (.inr (some 97)), .inl a1, .inl v1, .inl v2], [.inl 1, .inl v1])) 2 hd0 hz (by rfl) ?_
          exact j27 1 (by first | decide | omega)
  exact j4 ((5 - 0 : Int).toNat + 1) 0 0 M (by omega) (by omega) (by omega) hC hW
