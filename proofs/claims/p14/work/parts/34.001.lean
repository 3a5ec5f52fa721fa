theorem qm_256_97 {n d : Nat} {M : zM} (hd : 8 ≤ d) (hC : qMI M)  (a1 : Int) (ha1 : (-2147483648) ≤ a1 ∧ a1 ≤ 2147483647) (a2 : Int) (ha2 : (-2147483648) ≤ a2 ∧ a2 ≤ 2147483647) (a3 : Int) (ha3 : (-2147483648) ≤ a3 ∧ a3 ≤ 2147483647) (a4 : Int) (ha4 : (-2147483648) ≤ a4 ∧ a4 ≤ 2147483647) (a5 : Int) (ha5 : (-2147483648) ≤ a5 ∧ a5 ≤ 2147483647) : qOkN n d 256 [.inr (.inr (some 97)), .inl a1, .inl a2, .inl a3, .inl a4, .inl a5] 6 [101, 102, 103, 104, 105, 106, 107, 108, 109, 110, 1007, 1010, 1012, 1013, 1016, 1018, 1019, 1020, 1021, 1022, 1023] M (fun v M' => ∃ x : Int, v = some (.inr (.inl x))) := by
  have hz := zp_256
  have hd0 : 0 < d := by omega
  have hW : qFm [101, 102, 103, 104, 105, 106, 107, 108, 109, 110, 1007, 1010, 1012, 1013, 1016, 1018, 1019, 1020, 1021, 1022, 1023] M M := qFm.rfl
  have r1 := hC.cnt1
  have r2 := hC.cnt0
  show zG n (0, 0) d 256 (0, [.inr (.inr (some 97)), .inl a1, .inl a2, .inl a3, .inl a4, .inl a5], []) M _
  refine zG_blk (c' := (1, [.inr (.inr (some 97)), .inl a1, .inl a2, .inl a3, .inl a4, .inl a5], [.inl a1])) 1 hd0 hz (by rfl) ?_
  refine zG_call hd0 hz zp_252 rfl rfl (Nat.le_of_ble_eq_true rfl) ⟨Nat.le_refl _, Nat.le_refl _⟩ (qm_252 (by first | exact zdp hd (by decide) | omega) hC   a1 (by first | with_reducible exact ha1 | omega) ) (fun vr M3 hr => ?_)
  obtain ⟨hq, x4, rfl, hx4, hpx4_0⟩ := hr
  replace hq := hq.symm; subst hq
  show zG n (0, 0) d 256 (4, [.inr (.inr (some 97)), .inl a1, .inl a2, .inl a3, .inl a4, .inl a5], [.inl x4]) M _
  have j33 : zG n (0, 0) d 256 (33, [.inr (.inr (some 97)), .inl a1, .inl a2, .inl a3, .inl a4, .inl a5], []) M (fun v M' => (qMI M' ∧ qFm [101, 102, 103, 104, 105, 106, 107, 108, 109, 110, 1007, 1010, 1012, 1013, 1016, 1018, 1019, 1020, 1021, 1022, 1023] M M') ∧ ∃ x : Int, v = some (.inr (.inl x))) := by
    refine zG_blk (c' := (36, [.inr (.inr (some 97)), .inl a1, .inl a2, .inl a3, .inl a4, .inl a5], [.inr (.inl ((-2000000000000000000)))])) 1 hd0 hz (by rfl) ?_
    exact zG_ret hd0 hz rfl rfl ⟨⟨hC, hW⟩, _, rfl⟩
  refine zG_if_eq hd0 hz rfl (fun hb5 => ?_) (fun hb5 => ?_)
  · exact j33
  · have hcx4 := hpx4_0.mp (by omega)
    clear hx4 hpx4_0 hb5
    refine zG_blk (c' := (13, [.inr (.inr (some 97)), .inl a1, .inl a2, .inl a3, .inl a4, .inl a5], [.inl a5, .inl a4, .inl a2, .inr (.inr (some 97))])) 4 hd0 hz (by rfl) ?_
    refine zG_call hd0 hz zp_245 rfl rfl (Nat.le_of_ble_eq_true rfl) ⟨Nat.le_refl _, Nat.le_refl _⟩ (qm_245_97 (by first | exact zdp hd (by decide) | omega) hC   a2 (by first | with_reducible exact ha2 | omega) a4 (by first | with_reducible exact ha4 | omega) a5 (by first | with_reducible exact ha5 | omega) ) (fun vr M6 hr => ?_)
    obtain ⟨hq, x7, rfl, hx7, hpx7_0⟩ := hr
    replace hq := hq.symm; subst hq
    show zG n (0, 0) d 256 (16, [.inr (.inr (some 97)), .inl a1, .inl a2, .inl a3, .inl a4, .inl a5], [.inl x7]) M _
    refine zG_if_eq hd0 hz rfl (fun hb8 => ?_) (fun hb8 => ?_)
    · exact j33
    · refine zG_blk (c' := (21, [.inr (.inr (some 97)), .inl a1, .inl a2, .inl a3, .inl a4, .inl a5], [.inl (-1), .inl a3])) 2 hd0 hz (by rfl) ?_
      have j37 : (a3 = -1 ∨ (0 ≤ a3 ∧ a3 < M 98 0)) → zG n (0, 0) d 256 (37, [.inr (.inr (some 97)), .inl a1, .inl a2, .inl a3, .inl a4, .inl a5], []) M (fun v M' => (qMI M' ∧ qFm [101, 102, 103, 104, 105, 106, 107, 108, 109, 110, 1007, 1010, 1012, 1013, 1016, 1018, 1019, 1020, 1021, 1022, 1023] M M') ∧ ∃ x : Int, v = some (.inr (.inl x))) := by
        intro hx0_37
        obtain ⟨x9, hx9⟩ : ∃ x : Int, x = w32 (81 * a1) := ⟨_, rfl⟩
        have hx9e : x9 = 81 * a1 := by rw [hx9]; exact w32_id (by omega)
        obtain ⟨x10, hx10⟩ : ∃ x : Int, x = w32 (3350 + x9) := ⟨_, rfl⟩
        have hx10e : x10 = 3350 + x9 := by rw [hx10]; exact w32_id (by omega)
        refine zG_blk (c' := (46, [.inr (.inr (some 97)), .inl a1, .inl a2, .inl a3, .inl a4, .inl a5], [.inl x10, .inr (.inr (some 97))])) 6 hd0 hz (by subst hx10; subst hx9; rfl) ?_
        refine zG_call hd0 hz zp_231 rfl rfl (Nat.le_of_ble_eq_true rfl) ⟨Nat.le_refl _, Nat.le_refl _⟩ (qm_231_97 (by first | exact zdp hd (by decide) | omega) hC   x10 (by omega) (by exact hC.txt a1 _ (by omega) (by omega))) (fun vr M11 hr => ?_)
        obtain ⟨⟨hCM11, hFM11⟩, x12, rfl, hx12⟩ := hr
        have hWM11 : qFm [101, 102, 103, 104, 105, 106, 107, 108, 109, 110, 1007, 1010, 1012, 1013, 1016, 1018, 1019, 1020, 1021, 1022, 1023] M M11 := hW.tr hFM11 (by decide)
        have e13 : M11 98 1 = M 98 1 := hFM11 98 1 (by decide)
        have e14 : M11 98 0 = M 98 0 := hFM11 98 0 (by decide)
        show zG n (0, 0) d 256 (49, [.inr (.inr (some 97)), .inl a1, .inl a2, .inl a3, .inl a4, .inl a5], [.inl x12]) M11 _
        refine zG_blk (c' := (50, [.inr (.inr (some 97)), .inl a1, .inl a2, .inl a3, .inl a4, .inl a5], [.inl (-1), .inl x12])) 1 hd0 hz (by rfl) ?_
        refine zG_icmp_eq hd0 hz rfl (fun hb15 => ?_) (fun hb15 => ?_)
        · refine zG_blk (c' := (60, [.inr (.inr (some 97)), .inl a1, .inl a2, .inl a3, .inl a4, .inl a5], [.inl a5, .inr (.inr (some 97))])) 2 hd0 hz (by rfl) ?_
          refine zG_call hd0 hz zp_211 rfl rfl (Nat.le_of_ble_eq_true rfl) ⟨Nat.le_refl _, Nat.le_refl _⟩ (qm_211_97 (by first | exact zdp hd (by decide) | omega) hCM11   a5 (by first | with_reducible exact ha5 | omega) ) (fun vr M16 hr => ?_)
          obtain ⟨⟨hCM16, hFM16⟩, rfl⟩ := hr
          have hWM16 : qFm [101, 102, 103, 104, 105, 106, 107, 108, 109, 110, 1007, 1010, 1012, 1013, 1016, 1018, 1019, 1020, 1021, 1022, 1023] M M16 := hWM11.tr hFM16 (by decide)
          have e18 : M16 98 1 = M11 98 1 := hFM16 98 1 (by decide)
          have e19 : M16 98 0 = M11 98 0 := hFM16 98 0 (by decide)
          show zG n (0, 0) d 256 (63, [.inr (.inr (some 97)), .inl a1, .inl a2, .inl a3, .inl a4, .inl a5], []) M16 _
          refine zG_blk (c' := (67, [.inr (.inr (some 97)), .inl a1, .inl a2, .inl a3, .inl a4, .inl a5], [.inl a4, .inl a2, .inr (.inr (some 97))])) 3 hd0 hz (by rfl) ?_
          refine zG_call hd0 hz zp_240 rfl rfl (Nat.le_of_ble_eq_true rfl) ⟨Nat.le_refl _, Nat.le_refl _⟩ (qm_240_97 (by first | exact zdp hd (by decide) | omega) hCM16   a2 (by first | with_reducible exact ha2 | omega) a4 (by first | with_reducible exact ha4 | omega) ) (fun vr M20 hr => ?_)
          obtain ⟨⟨hCM20, hFM20⟩, rfl⟩ := hr
          have hWM20 : qFm [101, 102, 103, 104, 105, 106, 107, 108, 109, 110, 1007, 1010, 1012, 1013, 1016, 1018, 1019, 1020, 1021, 1022, 1023] M M20 := hWM16.tr hFM20 (by decide)
          have e22 : M20 98 1 = M16 98 1 := hFM20 98 1 (by decide)
          have e23 : M20 98 0 = M16 98 0 := hFM20 98 0 (by decide)
          show zG n (0, 0) d 256 (70, [.inr (.inr (some 97)), .inl a1, .inl a2, .inl a3, .inl a4, .inl a5], []) M20 _
          obtain ⟨x24, hx24⟩ : ∃ x : Int, x = w32 (81 * a1) := ⟨_, rfl⟩
          have hx24e : x24 = 81 * a1 := by rw [hx24]; exact w32_id (by omega)
          obtain ⟨x25, hx25⟩ : ∃ x : Int, x = w32 (3350 + x24) := ⟨_, rfl⟩
          have hx25e : x25 = 3350 + x24 := by rw [hx25]; exact w32_id (by omega)
          refine zG_blk (c' := (79, [.inr (.inr (some 97)), .inl a1, .inl a2, .inl a3, .inl a4, .inl a5], [.inl x25, .inr (.inr (some 97))])) 6 hd0 hz (by subst hx25; subst hx24; rfl) ?_
          refine zG_call hd0 hz zp_231 rfl rfl (Nat.le_of_ble_eq_true rfl) ⟨Nat.le_refl _, Nat.le_refl _⟩ (qm_231_97 (by first | exact zdp hd (by decide) | omega) hCM20   x25 (by omega) (by exact hCM20.txt a1 _ (by omega) (by omega))) (fun vr M26 hr => ?_)
          obtain ⟨⟨hCM26, hFM26⟩, x27, rfl, hx27⟩ := hr
          have hWM26 : qFm [101, 102, 103, 104, 105, 106, 107, 108, 109, 110, 1007, 1010, 1012, 1013, 1016, 1018, 1019, 1020, 1021, 1022, 1023] M M26 := hWM20.tr hFM26 (by decide)
          have e28 : M26 98 1 = M20 98 1 := hFM26 98 1 (by decide)
          have e29 : M26 98 0 = M20 98 0 := hFM26 98 0 (by decide)
          show zG n (0, 0) d 256 (82, [.inr (.inr (some 97)), .inl a1, .inl a2, .inl a3, .inl a4, .inl a5], [.inl x27]) M26 _
          refine zG_blk (c' := (85, [.inr (.inr (some 97)), .inl a1, .inl a2, .inl a3, .inl a4, .inl a5], [.inl (-1), .inl a3])) 3 hd0 hz (by rfl) ?_
          have j100 : ∀ (M30 : zM) , qMI M30 → qFm [101, 102, 103, 104, 105, 106, 107, 108, 109, 110, 1007, 1010, 1012, 1013, 1016, 1018, 1019, 1020, 1021, 1022, 1023] M M30 → zG n (0, 0) d 256 (100, [.inr (.inr (some 97)), .inl a1, .inl a2, .inl a3, .inl a4, .inl a5], []) M30 (fun v M' => (qMI M' ∧ qFm [101, 102, 103, 104, 105, 106, 107, 108, 109, 110, 1007, 1010, 1012, 1013, 1016, 1018, 1019, 1020, 1021, 1022, 1023] M M') ∧ ∃ x : Int, v = some (.inr (.inl x))) := by
            intro M30 hCM30 hWM30
            have e31 : M30 98 1 = M 98 1 := hWM30 98 1 (by decide)
            have e32 : M30 98 0 = M 98 0 := hWM30 98 0 (by decide)
            refine zG_blk (c' := (101, [.inr (.inr (some 97)), .inl a1, .inl a2, .inl a3, .inl a4, .inl a5], [.inr (.inr (some 97))])) 1 hd0 hz (by rfl) ?_
            refine zG_call hd0 hz zp_235 rfl rfl (Nat.le_of_ble_eq_true rfl) ⟨Nat.le_refl _, Nat.le_refl _⟩ (qm_235_97 (by first | exact zdp hd (by decide) | omega) hCM30    ) (fun vr M33 hr => ?_)
            obtain ⟨⟨hCM33, hFM33⟩, x34, rfl⟩ := hr
            have hWM33 : qFm [101, 102, 103, 104, 105, 106, 107, 108, 109, 110, 1007, 1010, 1012, 1013, 1016, 1018, 1019, 1020, 1021, 1022, 1023] M M33 := hWM30.tr hFM33 (by decide)
            have e35 : M33 98 1 = M30 98 1 := hFM33 98 1 (by decide)
            have e36 : M33 98 0 = M30 98 0 := hFM33 98 0 (by decide)
            show zG n (0, 0) d 256 (104, [.inr (.inr (some 97)), .inl a1, .inl a2, .inl a3, .inl a4, .inl a5], [.inr (.inl (x34))]) M33 _
            exact zG_ret hd0 hz rfl rfl ⟨⟨hCM33, hWM33⟩, _, rfl⟩
          refine zG_icmp_ne hd0 hz rfl (fun hb37 => ?_) (fun hb37 => ?_)
          · refine zG_blk (c' := (97, [.inr (.inr (some 97)), .inl a1, .inl a2, .inl a3, .inl a4, .inl a5], [.inl a3, .inr (.inr (some 97))])) 2 hd0 hz (by rfl) ?_
            refine zG_call hd0 hz zp_238 rfl rfl (Nat.le_of_ble_eq_true rfl) ⟨Nat.le_refl _, Nat.le_refl _⟩ (qm_238_97 (by first | exact zdp hd (by decide) | omega) hCM26   a3 (by first | with_reducible exact ha3 | omega) ) (fun vr M38 hr => ?_)
            obtain ⟨⟨hCM38, hFM38⟩, rfl⟩ := hr
            have hWM38 : qFm [101, 102, 103, 104, 105, 106, 107, 108, 109, 110, 1007, 1010, 1012, 1013, 1016, 1018, 1019, 1020, 1021, 1022, 1023] M M38 := hWM26.tr hFM38 (by decide)
            have e40 : M38 98 1 = M26 98 1 := hFM38 98 1 (by decide)
            have e41 : M38 98 0 = M26 98 0 := hFM38 98 0 (by decide)
            show zG n (0, 0) d 256 (100, [.inr (.inr (some 97)), .inl a1, .inl a2, .inl a3, .inl a4, .inl a5], []) M38 _
            exact j100 M38 hCM38 hWM38
          · refine zG_blk (c' := (89, [.inr (.inr (some 97)), .inl a1, .inl a2, .inl a3, .inl a4, .inl a5], [.inr (.inr (some 97))])) 1 hd0 hz (by rfl) ?_
            refine zG_call hd0 hz zp_239 rfl rfl (Nat.le_of_ble_eq_true rfl) ⟨Nat.le_refl _, Nat.le_refl _⟩ (qm_239_97 (by first | exact zdp hd (by decide) | omega) hCM26    ) (fun vr M42 hr => ?_)
            obtain ⟨⟨hCM42, hFM42⟩, rfl⟩ := hr
            have hWM42 : qFm [101, 102, 103, 104, 105, 106, 107, 108, 109, 110, 1007, 1010, 1012, 1013, 1016, 1018, 1019, 1020, 1021, 1022, 1023] M M42 := hWM26.tr hFM42 (by decide)
            have e44 : M42 98 1 = M26 98 1 := hFM42 98 1 (by decide)
            have e45 : M42 98 0 = M26 98 0 := hFM42 98 0 (by decide)
            show zG n (0, 0) d 256 (92, [.inr (.inr (some 97)), .inl a1, .inl a2, .inl a3, .inl a4, .inl a5], []) M42 _
            refine zG_blk (c' := (100, [.inr (.inr (some 97)), .inl a1, .inl a2, .inl a3, .inl a4, .inl a5], [])) 1 hd0 hz (by rfl) ?_
            exact j100 M42 hCM42 hWM42
        · refine zG_blk (c' := (56, [.inr (.inr (some 97)), .inl a1, .inl a2, .inl a3, .inl a4, .inl a5], [.inr (.inl ((-3000000000000000000)))])) 1 hd0 hz (by rfl) ?_
          exact zG_ret hd0 hz rfl rfl ⟨⟨hCM11, hWM11⟩, _, rfl⟩
      refine zG_icmp_eq hd0 hz rfl (fun hb46 => ?_) (fun hb46 => ?_)
      · exact j37 (by omega)
      · refine zG_blk (c' := (27, [.inr (.inr (some 97)), .inl a1, .inl a2, .inl a3, .inl a4, .inl a5], [.inl a3, .inl 0, .inr (.inr (some 97))])) 3 hd0 hz (by rfl) ?_
        refine zG_call hd0 hz zp_182 rfl rfl (Nat.le_of_ble_eq_true rfl) ⟨Nat.le_refl _, Nat.le_refl _⟩ (qx_is (by first | exact zdp hd (by decide) | omega) hC   0 (by first | decide | omega) a3 (by first | with_reducible exact ha3 | omega) ) (fun vr M47 hr => ?_)
        obtain ⟨hq, x48, rfl, hx48⟩ := hr
        replace hq := hq.symm; subst hq
        show zG n (0, 0) d 256 (30, [.inr (.inr (some 97)), .inl a1, .inl a2, .inl a3, .inl a4, .inl a5], [.inl x48]) M _
        refine zG_if_ne hd0 hz rfl (fun hb49 => ?_) (fun hb49 => ?_)
        · exact j37 (by omega)
        · exact j33
