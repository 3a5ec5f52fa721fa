theorem qm_228_97 {n d : Nat} {M : zM} (hd : 5 ≤ d) (hC : qMI M)  (a1 : Int) (ha1 : 5 ≤ a1 ∧ a1 ≤ 17) (hp0 : a1 ≠ 14) (hp1 : 0 ≤ M 97 10) (hp2 : qD M = qWt M + 1) (hp3 : M 97 7 + M 97 10 ≤ 79) : qOkN n d 228 [.inr (.inr (some 97)), .inl a1] 3 [105, 106, 107, 1007, 1010] M (fun v M' => ∃ x : Int, v = some (.inl x) ∧ (0 ≤ x ∧ x ≤ 1) ∧ (0 ≤ M' 97 10) ∧ (M' 97 7 + M' 97 10 ≤ M 97 7 + M 97 10 + 1) ∧ (x = 1 → qD M' = qWt M')) := by
  have hz := zp_228
  have hd0 : 0 < d := by omega
  have hW : qFm [105, 106, 107, 1007, 1010] M M := qFm.rfl
  have r1 := hC.steps
  have r2 := hC.rg 97 10 (by decide) (by decide)
  show zG n (0, 0) d 228 (0, [.inr (.inr (some 97)), .inl a1, zN], []) M _
  refine zG_blk (c' := (3, [.inr (.inr (some 97)), .inl a1, zN], [.inl 16, .inl a1])) 2 hd0 hz (by rfl) ?_
  refine zG_icmp_ne hd0 hz rfl (fun hb3 => ?_) (fun hb3 => ?_)
  · refine zG_blk (c' := (33, [.inr (.inr (some 97)), .inl a1, zN], [.inl 17, .inl a1])) 2 hd0 hz (by rfl) ?_
    refine zG_icmp_ne hd0 hz rfl (fun hb4 => ?_) (fun hb4 => ?_)
    · refine zG_blk (c' := (70, [.inr (.inr (some 97)), .inl a1, zN], [.inl 15, .inl a1])) 2 hd0 hz (by rfl) ?_
      refine zG_icmp_ne hd0 hz rfl (fun hb5 => ?_) (fun hb5 => ?_)
      · refine zG_blk (c' := (91, [.inr (.inr (some 97)), .inl a1, zN], [.inl a1])) 1 hd0 hz (by rfl) ?_
        refine zG_call hd0 hz zp_221 rfl rfl (Nat.le_of_ble_eq_true rfl) ⟨Nat.le_refl _, Nat.le_refl _⟩ (qx_holds (by first | exact zdp hd (by decide) | omega) hC   a1 (by first | with_reducible exact ha1 | omega) ) (fun vr M6 hr => ?_)
        obtain ⟨hq, x7, rfl, hx7⟩ := hr
        replace hq := hq.symm; subst hq
        show zG n (0, 0) d 228 (94, [.inr (.inr (some 97)), .inl a1, zN], [.inl x7]) M _
        refine zG_blk (c' := (97, [.inr (.inr (some 97)), .inl a1, .inl x7], [.inl 5, .inl x7])) 3 hd0 hz (by rfl) ?_
        have j119 : ∀ (M8 : zM) , (0 ≤ M8 97 10) → (qD M8 = qWt M8 + 1) → (M8 97 7 + M8 97 10 = M 97 7 + M 97 10) → qMI M8 → qFm [105, 106, 107, 1007, 1010] M M8 → zG n (0, 0) d 228 (119, [.inr (.inr (some 97)), .inl a1, .inl x7], []) M8 (fun v M' => (qMI M' ∧ qFm [105, 106, 107, 1007, 1010] M M') ∧ ∃ x : Int, v = some (.inl x) ∧ (0 ≤ x ∧ x ≤ 1) ∧ (0 ≤ M' 97 10) ∧ (M' 97 7 + M' 97 10 ≤ M 97 7 + M 97 10 + 1) ∧ (x = 1 → qD M' = qWt M')) := by
          intro M8 hx0_119 hx1_119 hx2_119 hCM8 hWM8
          have r9 := hCM8.steps
          have r10 := hCM8.rg 97 10 (by decide) (by decide)
          refine zG_blk (c' := (121, [.inr (.inr (some 97)), .inl a1, .inl x7], [.inl x7, .inr (.inr (some 97))])) 2 hd0 hz (by rfl) ?_
          refine zG_call hd0 hz zp_224 rfl rfl (Nat.le_of_ble_eq_true rfl) ⟨Nat.le_refl _, Nat.le_refl _⟩ (qm_224_97 (by first | exact zdp hd (by decide) | omega) hCM8   x7 (by omega) (by omega) (by omega) (by omega)) (fun vr M11 hr => ?_)
          obtain ⟨⟨hCM11, hFM11⟩, rfl, hpx12_0, hpx12_1, hpx12_2⟩ := hr
          have hWM11 : qFm [105, 106, 107, 1007, 1010] M M11 := hWM8.tr hFM11 (by decide)
          have r17 := hCM11.steps
          have r18 := hCM11.rg 97 10 (by decide) (by decide)
          show zG n (0, 0) d 228 (124, [.inr (.inr (some 97)), .inl a1, .inl x7], []) M11 _
          refine zG_blk (c' := (126, [.inr (.inr (some 97)), .inl a1, .inl x7], [.inl a1, .inr (.inr (some 97))])) 2 hd0 hz (by rfl) ?_
          refine zG_call hd0 hz zp_223 rfl rfl (Nat.le_of_ble_eq_true rfl) ⟨Nat.le_refl _, Nat.le_refl _⟩ (qx_waitsWith (by first | exact zdp hd (by decide) | omega) hCM11   a1 (by first | with_reducible exact ha1 | omega) (by omega)) (fun vr M19 hr => ?_)
          obtain ⟨⟨hCM19, hFM19⟩, rfl, hpx20_0, hpx20_1, hpx20_2⟩ := hr
          have hWM19 : qFm [105, 106, 107, 1007, 1010] M M19 := hWM11.tr hFM19 (by decide)
          have e21 : M19 97 7 = M11 97 7 := hFM19 97 7 (by decide)
          have e23 : qD M19 = qD M11 := qD_fr hFM19 (by decide) (by decide)
          have r25 := hCM19.rg 97 10 (by decide) (by decide)
          show zG n (0, 0) d 228 (129, [.inr (.inr (some 97)), .inl a1, .inl x7], []) M19 _
          refine zG_blk (c' := (130, [.inr (.inr (some 97)), .inl a1, .inl x7], [.inl 1])) 1 hd0 hz (by rfl) ?_
          exact zG_ret hd0 hz rfl rfl ⟨⟨hCM19, hWM19⟩, _, rfl, by omega, by omega, by omega, by omega⟩
        refine zG_icmp_ne hd0 hz rfl (fun hb26 => ?_) (fun hb26 => ?_)
        · exact j119 M (by omega) (by omega) (by omega) hC hW
        · refine zG_blk (c' := (103, [.inr (.inr (some 97)), .inl a1, .inl x7], [.inl 6, .inr (.inr (some 97))])) 2 hd0 hz (by rfl) ?_
          refine zG_call hd0 hz zp_224 rfl rfl (Nat.le_of_ble_eq_true rfl) ⟨Nat.le_refl _, Nat.le_refl _⟩ (qm_224_97 (by first | exact zdp hd (by decide) | omega) hC   6 (by first | decide | omega) (by omega) (by omega) (by omega)) (fun vr M27 hr => ?_)
          obtain ⟨⟨hCM27, hFM27⟩, rfl, hpx28_0, hpx28_1, hpx28_2⟩ := hr
          have hWM27 : qFm [105, 106, 107, 1007, 1010] M M27 := hW.tr hFM27 (by decide)
          have r33 := hCM27.steps
          have r34 := hCM27.rg 97 10 (by decide) (by decide)
          show zG n (0, 0) d 228 (106, [.inr (.inr (some 97)), .inl a1, .inl x7], []) M27 _
          refine zG_blk (c' := (107, [.inr (.inr (some 97)), .inl a1, .inl x7], [.inr (.inr (some 97))])) 1 hd0 hz (by rfl) ?_
          refine zG_call hd0 hz zp_222 rfl rfl (Nat.le_of_ble_eq_true rfl) ⟨Nat.le_refl _, Nat.le_refl _⟩ (qm_222_97 (by first | exact zdp hd (by decide) | omega) hCM27    (by omega)) (fun vr M35 hr => ?_)
          obtain ⟨hq, x36, rfl, hx36, hpx36_0⟩ := hr
          replace hq := hq.symm; subst hq
          show zG n (0, 0) d 228 (110, [.inr (.inr (some 97)), .inl a1, .inl x7], [.inl x36]) M27 _
          refine zG_call hd0 hz zp_221 rfl rfl (Nat.le_of_ble_eq_true rfl) ⟨Nat.le_refl _, Nat.le_refl _⟩ (qx_holds (by first | exact zdp hd (by decide) | omega) hCM27   x36 (by omega) ) (fun vr M37 hr => ?_)
          obtain ⟨hq, x38, rfl, hx38⟩ := hr
          replace hq := hq.symm; subst hq
          show zG n (0, 0) d 228 (113, [.inr (.inr (some 97)), .inl a1, .inl x7], [.inl x38]) M27 _
          refine zG_blk (c' := (114, [.inr (.inr (some 97)), .inl a1, .inl x7], [.inl 5, .inl x38])) 1 hd0 hz (by rfl) ?_
          refine zG_icmp_ne hd0 hz rfl (fun hb39 => ?_) (fun hb39 => ?_)
          · exact j119 M27 (by omega) (by omega) (by omega) hCM27 hWM27
          · refine zG_blk (c' := (118, [.inr (.inr (some 97)), .inl a1, .inl x7], [.inl 0])) 1 hd0 hz (by rfl) ?_
            exact zG_ret hd0 hz rfl rfl ⟨⟨hCM27, hWM27⟩, _, rfl, by omega, by omega, by omega, by omega⟩
      · refine zG_blk (c' := (74, [.inr (.inr (some 97)), .inl a1, zN], [.inr (.inr (some 97))])) 1 hd0 hz (by rfl) ?_
        refine zG_call hd0 hz zp_226 rfl rfl (Nat.le_of_ble_eq_true rfl) ⟨Nat.le_refl _, Nat.le_refl _⟩ (qm_226_97 (by first | exact zdp hd (by decide) | omega) hC    (by omega) (by omega) (by omega)) (fun vr M40 hr => ?_)
        obtain ⟨⟨hCM40, hFM40⟩, x41, rfl, hx41, hpx41_0, hpx41_1, hpx41_2⟩ := hr
        have hWM40 : qFm [105, 106, 107, 1007, 1010] M M40 := hW.tr hFM40 (by decide)
        have r46 := hCM40.steps
        have r47 := hCM40.rg 97 10 (by decide) (by decide)
        show zG n (0, 0) d 228 (77, [.inr (.inr (some 97)), .inl a1, zN], [.inl x41]) M40 _
        refine zG_if_ne hd0 hz rfl (fun hb48 => ?_) (fun hb48 => ?_)
        · refine zG_blk (c' := (85, [.inr (.inr (some 97)), .inl a1, zN], [.inl 15, .inr (.inr (some 97))])) 2 hd0 hz (by rfl) ?_
          refine zG_call hd0 hz zp_223 rfl rfl (Nat.le_of_ble_eq_true rfl) ⟨Nat.le_refl _, Nat.le_refl _⟩ (qx_waitsWith (by first | exact zdp hd (by decide) | omega) hCM40   15 (by first | decide | omega) (by omega)) (fun vr M49 hr => ?_)
          obtain ⟨⟨hCM49, hFM49⟩, rfl, hpx50_0, hpx50_1, hpx50_2⟩ := hr
          have hWM49 : qFm [105, 106, 107, 1007, 1010] M M49 := hWM40.tr hFM49 (by decide)
          have e51 : M49 97 7 = M40 97 7 := hFM49 97 7 (by decide)
          have e53 : qD M49 = qD M40 := qD_fr hFM49 (by decide) (by decide)
          have r55 := hCM49.rg 97 10 (by decide) (by decide)
          show zG n (0, 0) d 228 (88, [.inr (.inr (some 97)), .inl a1, zN], []) M49 _
          refine zG_blk (c' := (89, [.inr (.inr (some 97)), .inl a1, zN], [.inl 1])) 1 hd0 hz (by rfl) ?_
          exact zG_ret hd0 hz rfl rfl ⟨⟨hCM49, hWM49⟩, _, rfl, by omega, by omega, by omega, by omega⟩
        · refine zG_blk (c' := (81, [.inr (.inr (some 97)), .inl a1, zN], [.inl 0])) 1 hd0 hz (by rfl) ?_
          exact zG_ret hd0 hz rfl rfl ⟨⟨hCM40, hWM40⟩, _, rfl, by omega, by omega, by omega, by omega⟩
    · refine zG_blk (c' := (38, [.inr (.inr (some 97)), .inl a1, zN], [.inl 3, .inr (.inr (some 97))])) 2 hd0 hz (by rfl) ?_
      refine zG_call hd0 hz zp_224 rfl rfl (Nat.le_of_ble_eq_true rfl) ⟨Nat.le_refl _, Nat.le_refl _⟩ (qm_224_97 (by first | exact zdp hd (by decide) | omega) hC   3 (by first | decide | omega) (by omega) (by omega) (by omega)) (fun vr M56 hr => ?_)
      obtain ⟨⟨hCM56, hFM56⟩, rfl, hpx57_0, hpx57_1, hpx57_2⟩ := hr
      have hWM56 : qFm [105, 106, 107, 1007, 1010] M M56 := hW.tr hFM56 (by decide)
      have r62 := hCM56.steps
      have r63 := hCM56.rg 97 10 (by decide) (by decide)
      show zG n (0, 0) d 228 (41, [.inr (.inr (some 97)), .inl a1, zN], []) M56 _
      refine zG_blk (c' := (42, [.inr (.inr (some 97)), .inl a1, zN], [.inr (.inr (some 97))])) 1 hd0 hz (by rfl) ?_
      refine zG_call hd0 hz zp_222 rfl rfl (Nat.le_of_ble_eq_true rfl) ⟨Nat.le_refl _, Nat.le_refl _⟩ (qm_222_97 (by first | exact zdp hd (by decide) | omega) hCM56    (by omega)) (fun vr M64 hr => ?_)
      obtain ⟨hq, x65, rfl, hx65, hpx65_0⟩ := hr
      replace hq := hq.symm; subst hq
      have ht41 := hpx65_0
      obtain ⟨y41, hy41⟩ : ∃ y : Int, y = x65 := ⟨_, rfl⟩
      rw [← hy41] at ht41
      show zG n (0, 0) d 228 (45, [.inr (.inr (some 97)), .inl a1, zN], [.inl x65]) M56 _
      refine zG_blk (c' := (47, [.inr (.inr (some 97)), .inl a1, zN], [.inl 16, .inl x65])) 1 hd0 hz (by rfl) ?_
      refine zG_icmp_eq hd0 hz rfl (fun hb66 => ?_) (fun hb66 => ?_)
      · obtain ⟨x67, hx67⟩ : ∃ x : Int, x = w32 ((M56 97 10) - 1) := ⟨_, rfl⟩
        have hx67r : x67 = ((M56 97 10) - 1 + 2147483648) % 4294967296 - 2147483648 := hx67
        refine zG_blk (c' := (64, [.inr (.inr (some 97)), .inl a1, zN], [.inl 17, .inl x67, .inr (.inr (some 107))])) 7 hd0 hz (by subst hx67; rfl) ?_
        refine zG_iast hd0 hz rfl rfl (by omega) ?_
        obtain ⟨M68, hM68⟩ : ∃ X : zM, X = zput M56 107 (x67 : Int).toNat 17 := ⟨_, rfl⟩
        rw [← hM68]
        have hCM68 : qMI M68 := by rw [hM68]; exact hCM56.put (by decide) (qCd_a (by decide) (by decide)) (by refine ⟨fun h => ?_, fun _ => ?_, fun h => ?_, fun h => ?_, fun h => ?_⟩ <;> first | omega | exact absurd h (by decide))
        have hWM68 : qFm [105, 106, 107, 1007, 1010] M M68 := by rw [hM68]; exact hWM56.pa (by decide) (by decide)
        have e69 : M68 97 7 = M56 97 7 := by rw [hM68]; exact qput_ne (by decide)
        have e70 : M68 97 10 = M56 97 10 := by rw [hM68]; exact qput_ne (by decide)
        have e71 : qD M68 = qD M56 := by rw [hM68]; exact qD_pa (by decide) (by decide)
        have ht41b := ht41 (by omega)
        have htp := qWt_top (y := y41) hM68 (by omega) (by omega) (by rw [show x67 = M56 97 10 - 1 by omega]; exact ht41b.2)
        have hwt := qwt_is y41
        have hwt2 := qwt_is 17
        show zG n (0, 0) d 228 (65, [.inr (.inr (some 97)), .inl a1, zN], []) M68 _
        refine zG_blk (c' := (66, [.inr (.inr (some 97)), .inl a1, zN], [.inl 1])) 1 hd0 hz (by rfl) ?_
        exact zG_ret hd0 hz rfl rfl ⟨⟨hCM68, hWM68⟩, _, rfl, by omega, by omega, by omega, by omega⟩
      · refine zG_blk (c' := (51, [.inr (.inr (some 97)), .inl a1, zN], [.inl 0])) 1 hd0 hz (by rfl) ?_
        exact zG_ret hd0 hz rfl rfl ⟨⟨hCM56, hWM56⟩, _, rfl, by omega, by omega, by omega, by omega⟩
  · refine zG_blk (c' := (8, [.inr (.inr (some 97)), .inl a1, zN], [.inl 3, .inr (.inr (some 97))])) 2 hd0 hz (by rfl) ?_
    refine zG_call hd0 hz zp_224 rfl rfl (Nat.le_of_ble_eq_true rfl) ⟨Nat.le_refl _, Nat.le_refl _⟩ (qm_224_97 (by first | exact zdp hd (by decide) | omega) hC   3 (by first | decide | omega) (by omega) (by omega) (by omega)) (fun vr M72 hr => ?_)
    obtain ⟨⟨hCM72, hFM72⟩, rfl, hpx73_0, hpx73_1, hpx73_2⟩ := hr
    have hWM72 : qFm [105, 106, 107, 1007, 1010] M M72 := hW.tr hFM72 (by decide)
    have r78 := hCM72.steps
    have r79 := hCM72.rg 97 10 (by decide) (by decide)
    show zG n (0, 0) d 228 (11, [.inr (.inr (some 97)), .inl a1, zN], []) M72 _
    refine zG_blk (c' := (12, [.inr (.inr (some 97)), .inl a1, zN], [.inr (.inr (some 97))])) 1 hd0 hz (by rfl) ?_
    refine zG_call hd0 hz zp_222 rfl rfl (Nat.le_of_ble_eq_true rfl) ⟨Nat.le_refl _, Nat.le_refl _⟩ (qm_222_97 (by first | exact zdp hd (by decide) | omega) hCM72    (by omega)) (fun vr M80 hr => ?_)
    obtain ⟨hq, x81, rfl, hx81, hpx81_0⟩ := hr
    replace hq := hq.symm; subst hq
    show zG n (0, 0) d 228 (15, [.inr (.inr (some 97)), .inl a1, zN], [.inl x81]) M72 _
    refine zG_blk (c' := (17, [.inr (.inr (some 97)), .inl a1, zN], [.inl 16, .inl x81])) 1 hd0 hz (by rfl) ?_
    refine zG_icmp_ne hd0 hz rfl (fun hb82 => ?_) (fun hb82 => ?_)
    · refine zG_blk (c' := (25, [.inr (.inr (some 97)), .inl a1, zN], [.inl 16, .inr (.inr (some 97))])) 2 hd0 hz (by rfl) ?_
      refine zG_call hd0 hz zp_223 rfl rfl (Nat.le_of_ble_eq_true rfl) ⟨Nat.le_refl _, Nat.le_refl _⟩ (qx_waitsWith (by first | exact zdp hd (by decide) | omega) hCM72   16 (by first | decide | omega) (by omega)) (fun vr M83 hr => ?_)
      obtain ⟨⟨hCM83, hFM83⟩, rfl, hpx84_0, hpx84_1, hpx84_2⟩ := hr
      have hWM83 : qFm [105, 106, 107, 1007, 1010] M M83 := hWM72.tr hFM83 (by decide)
      have e85 : M83 97 7 = M72 97 7 := hFM83 97 7 (by decide)
      have e87 : qD M83 = qD M72 := qD_fr hFM83 (by decide) (by decide)
      have r89 := hCM83.rg 97 10 (by decide) (by decide)
      show zG n (0, 0) d 228 (28, [.inr (.inr (some 97)), .inl a1, zN], []) M83 _
      refine zG_blk (c' := (29, [.inr (.inr (some 97)), .inl a1, zN], [.inl 1])) 1 hd0 hz (by rfl) ?_
      exact zG_ret hd0 hz rfl rfl ⟨⟨hCM83, hWM83⟩, _, rfl, by omega, by omega, by omega, by omega⟩
    · refine zG_blk (c' := (21, [.inr (.inr (some 97)), .inl a1, zN], [.inl 0])) 1 hd0 hz (by rfl) ?_
      exact zG_ret hd0 hz rfl rfl ⟨⟨hCM72, hWM72⟩, _, rfl, by omega, by omega, by omega, by omega⟩
