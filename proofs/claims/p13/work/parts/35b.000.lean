/-! THE MODEL'S METHODS, BY PROGRAM -/
theorem qm_201_97 {n d : Nat} {M : zM} (hd : 3 ≤ d) (hC : qMI M)  (a1 : Int) (ha1 : (-2147483648) ≤ a1 ∧ a1 ≤ 2147483647) (a2 : Int) (ha2 : (-2147483648) ≤ a2 ∧ a2 ≤ 2147483647) (a3 : Int) (ha3 : (-2147483648) ≤ a3 ∧ a3 ≤ 2147483647) (a4 : Int) (ha4 : (-2147483648) ≤ a4 ∧ a4 ≤ 2147483647) (a5 : Int) (ha5 : (-2147483648) ≤ a5 ∧ a5 ≤ 2147483647) (a6 : Int) (ha6 : (-2147483648) ≤ a6 ∧ a6 ≤ 2147483647) : qOkN n d 201 [.inr (.inr (some 97)), .inl a1, .inl a2, .inl a3, .inl a4, .inl a5, .inl a6] 7 [98] M (fun v M' => ∃ x : Int, v = some (.inl x) ∧ ((-2147483648) ≤ x ∧ x ≤ 2147483647)) := by
  have hz := zp_201
  have hd0 : 0 < d := by omega
  have hW : qFm [98] M M := qFm.rfl
  have r1 := hC.cnt4
  have r2 := hC.cnt1
  have r3 := hC.cnt0
  show zG n (0, 0) d 201 (0, [.inr (.inr (some 97)), .inl a1, .inl a2, .inl a3, .inl a4, .inl a5, .inl a6], []) M _
  refine zG_blk (c' := (3, [.inr (.inr (some 97)), .inl a1, .inl a2, .inl a3, .inl a4, .inl a5, .inl a6], [.inl a1, .inl 1, .inr (.inr (some 97))])) 3 hd0 hz (by rfl) ?_
  refine zG_call hd0 hz zp_182 rfl rfl (Nat.le_of_ble_eq_true rfl) ⟨Nat.le_refl _, Nat.le_refl _⟩ (qx_is (by first | exact zdp hd (by decide) | omega) hC   1 (by first | decide | omega) a1 (by first | with_reducible exact ha1 | omega) ) (fun vr M4 hr => ?_)
  obtain ⟨hq, x5, rfl, hx5⟩ := hr
  replace hq := hq.symm; subst hq
  show zG n (0, 0) d 201 (6, [.inr (.inr (some 97)), .inl a1, .inl a2, .inl a3, .inl a4, .inl a5, .inl a6], [.inl x5]) M _
  have j56 : zG n (0, 0) d 201 (56, [.inr (.inr (some 97)), .inl a1, .inl a2, .inl a3, .inl a4, .inl a5, .inl a6], []) M (fun v M' => (qMI M' ∧ qFm [98] M M') ∧ ∃ x : Int, v = some (.inl x) ∧ ((-2147483648) ≤ x ∧ x ≤ 2147483647)) := by
    refine zG_blk (c' := (58, [.inr (.inr (some 97)), .inl a1, .inl a2, .inl a3, .inl a4, .inl a5, .inl a6], [.inl (-2)])) 1 hd0 hz (by rfl) ?_
    exact zG_ret hd0 hz rfl rfl ⟨⟨hC, hW⟩, _, rfl, by omega⟩
  refine zG_if_eq hd0 hz rfl (fun hb6 => ?_) (fun hb6 => ?_)
  · exact j56
  · have hcx5 := hx5.2.2.mp (by omega)
    clear hx5 hb6
    refine zG_blk (c' := (12, [.inr (.inr (some 97)), .inl a1, .inl a2, .inl a3, .inl a4, .inl a5, .inl a6], [.inl a2, .inl 0, .inr (.inr (some 97))])) 3 hd0 hz (by rfl) ?_
    refine zG_call hd0 hz zp_182 rfl rfl (Nat.le_of_ble_eq_true rfl) ⟨Nat.le_refl _, Nat.le_refl _⟩ (qx_is (by first | exact zdp hd (by decide) | omega) hC   0 (by first | decide | omega) a2 (by first | with_reducible exact ha2 | omega) ) (fun vr M7 hr => ?_)
    obtain ⟨hq, x8, rfl, hx8⟩ := hr
    replace hq := hq.symm; subst hq
    show zG n (0, 0) d 201 (15, [.inr (.inr (some 97)), .inl a1, .inl a2, .inl a3, .inl a4, .inl a5, .inl a6], [.inl x8]) M _
    refine zG_if_eq hd0 hz rfl (fun hb9 => ?_) (fun hb9 => ?_)
    · exact j56
    · have hcx8 := hx8.2.2.mp (by omega)
      clear hx8 hb9
      refine zG_blk (c' := (19, [.inr (.inr (some 97)), .inl a1, .inl a2, .inl a3, .inl a4, .inl a5, .inl a6], [.inl a3])) 1 hd0 hz (by rfl) ?_
      refine zG_call hd0 hz zp_185 rfl rfl (Nat.le_of_ble_eq_true rfl) ⟨Nat.le_refl _, Nat.le_refl _⟩ (qm_185 (by first | exact zdp hd (by decide) | omega) hC   a3 (by first | with_reducible exact ha3 | omega) ) (fun vr M10 hr => ?_)
      obtain ⟨hq, x11, rfl, hx11, hpx11_0⟩ := hr
      replace hq := hq.symm; subst hq
      show zG n (0, 0) d 201 (22, [.inr (.inr (some 97)), .inl a1, .inl a2, .inl a3, .inl a4, .inl a5, .inl a6], [.inl x11]) M _
      refine zG_if_eq hd0 hz rfl (fun hb12 => ?_) (fun hb12 => ?_)
      · exact j56
      · have hcx11 := hpx11_0.mp (by omega)
        clear hx11 hpx11_0 hb12
        refine zG_blk (c' := (29, [.inr (.inr (some 97)), .inl a1, .inl a2, .inl a3, .inl a4, .inl a5, .inl a6], [.inl 4, .inl 0, .inl a4])) 3 hd0 hz (by rfl) ?_
        refine zG_call hd0 hz zp_180 rfl rfl (Nat.le_of_ble_eq_true rfl) ⟨Nat.le_refl _, Nat.le_refl _⟩ (qx_in (by first | exact zdp hd (by decide) | omega) hC   a4 (by first | with_reducible exact ha4 | omega) 0 (by first | decide | omega) 4 (by first | decide | omega) ) (fun vr M13 hr => ?_)
        obtain ⟨hq, x14, rfl, hx14⟩ := hr
        replace hq := hq.symm; subst hq
        show zG n (0, 0) d 201 (32, [.inr (.inr (some 97)), .inl a1, .inl a2, .inl a3, .inl a4, .inl a5, .inl a6], [.inl x14]) M _
        refine zG_if_eq hd0 hz rfl (fun hb15 => ?_) (fun hb15 => ?_)
        · exact j56
        · have hcx14 := hx14.2.2.mp (by omega)
          clear hx14 hb15
          refine zG_blk (c' := (37, [.inr (.inr (some 97)), .inl a1, .inl a2, .inl a3, .inl a4, .inl a5, .inl a6], [.inl a5])) 1 hd0 hz (by rfl) ?_
          refine zG_call hd0 hz zp_184 rfl rfl (Nat.le_of_ble_eq_true rfl) ⟨Nat.le_refl _, Nat.le_refl _⟩ (qm_184 (by first | exact zdp hd (by decide) | omega) hC   a5 (by first | with_reducible exact ha5 | omega) ) (fun vr M16 hr => ?_)
          obtain ⟨hq, x17, rfl, hx17, hpx17_0⟩ := hr
          replace hq := hq.symm; subst hq
          show zG n (0, 0) d 201 (40, [.inr (.inr (some 97)), .inl a1, .inl a2, .inl a3, .inl a4, .inl a5, .inl a6], [.inl x17]) M _
          refine zG_if_eq hd0 hz rfl (fun hb18 => ?_) (fun hb18 => ?_)
          · exact j56
          · have hcx17 := hpx17_0.mp (by omega)
            clear hx17 hpx17_0 hb18
            refine zG_blk (c' := (50, [.inr (.inr (some 97)), .inl a1, .inl a2, .inl a3, .inl a4, .inl a5, .inl a6], [.inl 9999, .inl a5, .inl a6])) 3 hd0 hz (by rfl) ?_
            refine zG_call hd0 hz zp_180 rfl rfl (Nat.le_of_ble_eq_true rfl) ⟨Nat.le_refl _, Nat.le_refl _⟩ (qx_in (by first | exact zdp hd (by decide) | omega) hC   a6 (by first | with_reducible exact ha6 | omega) a5 (by first | with_reducible exact ha5 | omega) 9999 (by first | decide | omega) ) (fun vr M19 hr => ?_)
            obtain ⟨hq, x20, rfl, hx20⟩ := hr
            replace hq := hq.symm; subst hq
            show zG n (0, 0) d 201 (53, [.inr (.inr (some 97)), .inl a1, .inl a2, .inl a3, .inl a4, .inl a5, .inl a6], [.inl x20]) M _
            refine zG_if_ne hd0 hz rfl (fun hb21 => ?_) (fun hb21 => ?_)
            · have hcx20 := hx20.2.2.mp (by omega)
              clear hx20 hb21
              refine zG_blk (c' := (60, [.inr (.inr (some 97)), .inl a1, .inl a2, .inl a3, .inl a4, .inl a5, .inl a6], [.inr (.inr (some 97))])) 1 hd0 hz (by rfl) ?_
              refine zG_call hd0 hz zp_197 rfl rfl (Nat.le_of_ble_eq_true rfl) ⟨Nat.le_refl _, Nat.le_refl _⟩ (qx_isFull (by first | exact zdp hd (by decide) | omega) hC    ) (fun vr M22 hr => ?_)
              obtain ⟨hq, x23, rfl, hx23⟩ := hr
              replace hq := hq.symm; subst hq
              show zG n (0, 0) d 201 (63, [.inr (.inr (some 97)), .inl a1, .inl a2, .inl a3, .inl a4, .inl a5, .inl a6], [.inl x23]) M _
              refine zG_if_eq hd0 hz rfl (fun hb24 => ?_) (fun hb24 => ?_)
              · refine zG_blk (c' := (76, [.inr (.inr (some 97)), .inl a1, .inl a2, .inl a3, .inl a4, .inl a5, .inl a6], [.inl (-1), .inl a6, .inl a5, .inl 0, .inr (.inr (some 97))])) 5 hd0 hz (by rfl) ?_
                refine zG_call hd0 hz zp_196 rfl rfl (Nat.le_of_ble_eq_true rfl) ⟨Nat.le_refl _, Nat.le_refl _⟩ (qx_begins (by first | exact zdp hd (by decide) | omega) hC   0 a5 a6 (-1) (by first | decide | omega) (by omega) (by omega) (M 98 4) (by omega) (by omega) (by omega) ) (fun vr M25 hr => ?_)
                obtain ⟨⟨hCM25, hFM25⟩, rfl, hpx26_0, hpx26_1, hpx26_2, hpx26_3, hpx26_4, hpx26_5, hpx26_6, hpx26_7, hpx26_8, hpx26_9, hpx26_10, hpx26_11, hpx26_12⟩ := hr
                have hWM25 : qFm [98] M M25 := hW.tr hFM25 (by decide)
                have e27 : M25 98 4 = M 98 4 := hpx26_12 _ (by omega)
                have e28 : M25 98 1 = M 98 1 := hpx26_12 _ (by omega)
                have e29 : M25 98 0 = M 98 0 := hpx26_12 _ (by omega)
                show zG n (0, 0) d 201 (79, [.inr (.inr (some 97)), .inl a1, .inl a2, .inl a3, .inl a4, .inl a5, .inl a6], []) M25 _
                refine zG_blk (c' := (82, [.inr (.inr (some 97)), .inl a1, .inl a2, .inl a3, .inl a4, .inl a5, .inl a6], [.inl a1, .inl 4, .inr (.inr (some 97))])) 3 hd0 hz (by rfl) ?_
                refine zG_call hd0 hz zp_195 rfl rfl (Nat.le_of_ble_eq_true rfl) ⟨Nat.le_refl _, Nat.le_refl _⟩ (qx_putsM (by first | exact zdp hd (by decide) | omega) hCM25   4 a1 (by first | with_reducible exact ha1 | omega) (M 98 4) (by omega) (by omega) (by omega) (by refine ⟨fun _ => ?_, fun _ => ?_, fun _ => ?_, fun _ => ?_⟩ <;> omega) ) (fun vr M30 hr => ?_)
                obtain ⟨⟨hCM30, hFM30⟩, rfl, hpx31_0, hpx31_1⟩ := hr
                have hWM30 : qFm [98] M M30 := hWM25.tr hFM30 (by decide)
                have e32 : M30 98 4 = M25 98 4 := hpx31_1 _ (by omega)
                have e33 : M30 98 1 = M25 98 1 := hpx31_1 _ (by omega)
                have e34 : M30 98 0 = M25 98 0 := hpx31_1 _ (by omega)
                have e35 : qA M30 (M 98 4) 0 = qA M25 (M 98 4) 0 := by unfold qA; exact hpx31_1 _ (by omega)
                have e36 : qA M30 (M 98 4) 1 = qA M25 (M 98 4) 1 := by unfold qA; exact hpx31_1 _ (by omega)
                have e37 : qA M30 (M 98 4) 2 = qA M25 (M 98 4) 2 := by unfold qA; exact hpx31_1 _ (by omega)
                have e38 : qA M30 (M 98 4) 3 = qA M25 (M 98 4) 3 := by unfold qA; exact hpx31_1 _ (by omega)
                have e40 : qA M30 (M 98 4) 5 = qA M25 (M 98 4) 5 := by unfold qA; exact hpx31_1 _ (by omega)
                have e41 : qA M30 (M 98 4) 6 = qA M25 (M 98 4) 6 := by unfold qA; exact hpx31_1 _ (by omega)
                have e42 : qA M30 (M 98 4) 7 = qA M25 (M 98 4) 7 := by unfold qA; exact hpx31_1 _ (by omega)
                have e43 : qA M30 (M 98 4) 8 = qA M25 (M 98 4) 8 := by unfold qA; exact hpx31_1 _ (by omega)
                have e44 : qA M30 (M 98 4) 9 = qA M25 (M 98 4) 9 := by unfold qA; exact hpx31_1 _ (by omega)
                have e45 : qA M30 (M 98 4) 10 = qA M25 (M 98 4) 10 := by unfold qA; exact hpx31_1 _ (by omega)
                have e46 : qA M30 (M 98 4) 11 = qA M25 (M 98 4) 11 := by unfold qA; exact hpx31_1 _ (by omega)
                show zG n (0, 0) d 201 (85, [.inr (.inr (some 97)), .inl a1, .inl a2, .inl a3, .inl a4, .inl a5, .inl a6], []) M30 _
                refine zG_blk (c' := (88, [.inr (.inr (some 97)), .inl a1, .inl a2, .inl a3, .inl a4, .inl a5, .inl a6], [.inl a2, .inl 5, .inr (.inr (some 97))])) 3 hd0 hz (by rfl) ?_
                refine zG_call hd0 hz zp_195 rfl rfl (Nat.le_of_ble_eq_true rfl) ⟨Nat.le_refl _, Nat.le_refl _⟩ (qx_putsM (by first | exact zdp hd (by decide) | omega) hCM30   5 a2 (by first | with_reducible exact ha2 | omega) (M 98 4) (by omega) (by omega) (by omega) (by refine ⟨fun _ => ?_, fun _ => ?_, fun _ => ?_, fun _ => ?_⟩ <;> omega) ) (fun vr M47 hr => ?_)
                obtain ⟨⟨hCM47, hFM47⟩, rfl, hpx48_0, hpx48_1⟩ := hr
                have hWM47 : qFm [98] M M47 := hWM30.tr hFM47 (by decide)
                have e49 : M47 98 4 = M30 98 4 := hpx48_1 _ (by omega)
                have e50 : M47 98 1 = M30 98 1 := hpx48_1 _ (by omega)
                have e51 : M47 98 0 = M30 98 0 := hpx48_1 _ (by omega)
                have e52 : qA M47 (M 98 4) 0 = qA M30 (M 98 4) 0 := by unfold qA; exact hpx48_1 _ (by omega)
                have e53 : qA M47 (M 98 4) 1 = qA M30 (M 98 4) 1 := by unfold qA; exact hpx48_1 _ (by omega)
                have e54 : qA M47 (M 98 4) 2 = qA M30 (M 98 4) 2 := by unfold qA; exact hpx48_1 _ (by omega)
                have e55 : qA M47 (M 98 4) 3 = qA M30 (M 98 4) 3 := by unfold qA; exact hpx48_1 _ (by omega)
                have e57 : qA M47 (M 98 4) 6 = qA M30 (M 98 4) 6 := by unfold qA; exact hpx48_1 _ (by omega)
                have e58 : qA M47 (M 98 4) 7 = qA M30 (M 98 4) 7 := by unfold qA; exact hpx48_1 _ (by omega)
                have e59 : qA M47 (M 98 4) 8 = qA M30 (M 98 4) 8 := by unfold qA; exact hpx48_1 _ (by omega)
                have e60 : qA M47 (M 98 4) 9 = qA M30 (M 98 4) 9 := by unfold qA; exact hpx48_1 _ (by omega)
                have e61 : qA M47 (M 98 4) 10 = qA M30 (M 98 4) 10 := by unfold qA; exact hpx48_1 _ (by omega)
                have e62 : qA M47 (M 98 4) 11 = qA M30 (M 98 4) 11 := by unfold qA; exact hpx48_1 _ (by omega)
                have e63 : qA M47 (M 98 4) 4 = qA M30 (M 98 4) 4 := by unfold qA; exact hpx48_1 _ (by omega)
                show zG n (0, 0) d 201 (91, [.inr (.inr (some 97)), .inl a1, .inl a2, .inl a3, .inl a4, .inl a5, .inl a6], []) M47 _
                refine zG_blk (c' := (95, [.inr (.inr (some 97)), .inl a1, .inl a2, .inl a3, .inl a4, .inl a5, .inl a6], [.inl a3, .inl 7, .inr (.inr (some 97))])) 3 hd0 hz (by rfl) ?_
                refine zG_call hd0 hz zp_195 rfl rfl (Nat.le_of_ble_eq_true rfl) ⟨Nat.le_refl _, Nat.le_refl _⟩ (qx_putsM (by first | exact zdp hd (by decide) | omega) hCM47   7 a3 (by first | with_reducible exact ha3 | omega) (M 98 4) (by omega) (by omega) (by omega) (by refine ⟨fun _ => ?_, fun _ => ?_, fun _ => ?_, fun _ => ?_⟩ <;> omega) ) (fun vr M64 hr => ?_)
                obtain ⟨⟨hCM64, hFM64⟩, rfl, hpx65_0, hpx65_1⟩ := hr
                have hWM64 : qFm [98] M M64 := hWM47.tr hFM64 (by decide)
                have e66 : M64 98 4 = M47 98 4 := hpx65_1 _ (by omega)
                have e67 : M64 98 1 = M47 98 1 := hpx65_1 _ (by omega)
                have e68 : M64 98 0 = M47 98 0 := hpx65_1 _ (by omega)
                have e69 : qA M64 (M 98 4) 0 = qA M47 (M 98 4) 0 := by unfold qA; exact hpx65_1 _ (by omega)
                have e70 : qA M64 (M 98 4) 1 = qA M47 (M 98 4) 1 := by unfold qA; exact hpx65_1 _ (by omega)
                have e71 : qA M64 (M 98 4) 2 = qA M47 (M 98 4) 2 := by unfold qA; exact hpx65_1 _ (by omega)
                have e72 : qA M64 (M 98 4) 3 = qA M47 (M 98 4) 3 := by unfold qA; exact hpx65_1 _ (by omega)
                have e73 : qA M64 (M 98 4) 6 = qA M47 (M 98 4) 6 := by unfold qA; exact hpx65_1 _ (by omega)
                have e75 : qA M64 (M 98 4) 8 = qA M47 (M 98 4) 8 := by unfold qA; exact hpx65_1 _ (by omega)
                have e76 : qA M64 (M 98 4) 9 = qA M47 (M 98 4) 9 := by unfold qA; exact hpx65_1 _ (by omega)
                have e77 : qA M64 (M 98 4) 10 = qA M47 (M 98 4) 10 := by unfold qA; exact hpx65_1 _ (by omega)
                have e78 : qA M64 (M 98 4) 11 = qA M47 (M 98 4) 11 := by unfold qA; exact hpx65_1 _ (by omega)
                have e79 : qA M64 (M 98 4) 4 = qA M47 (M 98 4) 4 := by unfold qA; exact hpx65_1 _ (by omega)
                have e80 : qA M64 (M 98 4) 5 = qA M47 (M 98 4) 5 := by unfold qA; exact hpx65_1 _ (by omega)
                show zG n (0, 0) d 201 (98, [.inr (.inr (some 97)), .inl a1, .inl a2, .inl a3, .inl a4, .inl a5, .inl a6], []) M64 _
                refine zG_blk (c' := (103, [.inr (.inr (some 97)), .inl a1, .inl a2, .inl a3, .inl a4, .inl a5, .inl a6], [.inl a4, .inl 8, .inr (.inr (some 97))])) 3 hd0 hz (by rfl) ?_
                refine zG_call hd0 hz zp_195 rfl rfl (Nat.le_of_ble_eq_true rfl) ⟨Nat.le_refl _, Nat.le_refl _⟩ (qx_putsM (by first | exact zdp hd (by decide) | omega) hCM64   8 a4 (by first | with_reducible exact ha4 | omega) (M 98 4) (by omega) (by omega) (by omega) (by refine ⟨fun _ => ?_, fun _ => ?_, fun _ => ?_, fun _ => ?_⟩ <;> omega) ) (fun vr M81 hr => ?_)
                obtain ⟨⟨hCM81, hFM81⟩, rfl, hpx82_0, hpx82_1⟩ := hr
                have hWM81 : qFm [98] M M81 := hWM64.tr hFM81 (by decide)
                have e83 : M81 98 4 = M64 98 4 := hpx82_1 _ (by omega)
                have e84 : M81 98 1 = M64 98 1 := hpx82_1 _ (by omega)
                have e85 : M81 98 0 = M64 98 0 := hpx82_1 _ (by omega)
                have e86 : qA M81 (M 98 4) 0 = qA M64 (M 98 4) 0 := by unfold qA; exact hpx82_1 _ (by omega)
                have e87 : qA M81 (M 98 4) 1 = qA M64 (M 98 4) 1 := by unfold qA; exact hpx82_1 _ (by omega)
                have e88 : qA M81 (M 98 4) 2 = qA M64 (M 98 4) 2 := by unfold qA; exact hpx82_1 _ (by omega)
                have e89 : qA M81 (M 98 4) 3 = qA M64 (M 98 4) 3 := by unfold qA; exact hpx82_1 _ (by omega)
                have e90 : qA M81 (M 98 4) 6 = qA M64 (M 98 4) 6 := by unfold qA; exact hpx82_1 _ (by omega)
                have e92 : qA M81 (M 98 4) 9 = qA M64 (M 98 4) 9 := by unfold qA; exact hpx82_1 _ (by omega)
                have e93 : qA M81 (M 98 4) 10 = qA M64 (M 98 4) 10 := by unfold qA; exact hpx82_1 _ (by omega)
                have e94 : qA M81 (M 98 4) 11 = qA M64 (M 98 4) 11 := by unfold qA; exact hpx82_1 _ (by omega)
                have e95 : qA M81 (M 98 4) 4 = qA M64 (M 98 4) 4 := by unfold qA; exact hpx82_1 _ (by omega)
                have e96 : qA M81 (M 98 4) 5 = qA M64 (M 98 4) 5 := by unfold qA; exact hpx82_1 _ (by omega)
                have e97 : qA M81 (M 98 4) 7 = qA M64 (M 98 4) 7 := by unfold qA; exact hpx82_1 _ (by omega)
                show zG n (0, 0) d 201 (106, [.inr (.inr (some 97)), .inl a1, .inl a2, .inl a3, .inl a4, .inl a5, .inl a6], []) M81 _
                refine zG_blk (c' := (108, [.inr (.inr (some 97)), .inl a1, .inl a2, .inl a3, .inl a4, .inl a5, .inl a6], [.inl 4, .inr (.inr (some 97))])) 2 hd0 hz (by rfl) ?_
                refine zG_call hd0 hz zp_183 rfl rfl (Nat.le_of_ble_eq_true rfl) ⟨Nat.le_refl _, Nat.le_refl _⟩ (qx_one4 (by first | exact zdp hd (by decide) | omega) hCM81   (M 98 4) (by omega) (by omega) (by refine ⟨?_, fun _ => ?_, fun _ => ?_, fun _ => ?_, fun _ => ?_, fun _ => ?_, fun _ => ?_, fun _ => ?_, fun _ => ?_, fun _ => ?_⟩ <;> omega) ) (fun vr M98 hr => ?_)
                obtain ⟨⟨hCM98, hFM98⟩, x99, rfl, hx99, hpx99_0, hpx99_1⟩ := hr
                have hWM98 : qFm [98] M M98 := hWM81.tr hFM98 (by decide)
                have e101 : M98 98 1 = M81 98 1 := hpx99_1 _ (by omega)
                have e102 : M98 98 0 = M81 98 0 := hpx99_1 _ (by omega)
                have e103 : qA M98 (M 98 4) 0 = qA M81 (M 98 4) 0 := by unfold qA; exact hpx99_1 _ (by omega)
                have e104 : qA M98 (M 98 4) 1 = qA M81 (M 98 4) 1 := by unfold qA; exact hpx99_1 _ (by omega)
                have e105 : qA M98 (M 98 4) 2 = qA M81 (M 98 4) 2 := by unfold qA; exact hpx99_1 _ (by omega)
                have e106 : qA M98 (M 98 4) 3 = qA M81 (M 98 4) 3 := by unfold qA; exact hpx99_1 _ (by omega)
                have e107 : qA M98 (M 98 4) 6 = qA M81 (M 98 4) 6 := by unfold qA; exact hpx99_1 _ (by omega)
                have e108 : qA M98 (M 98 4) 9 = qA M81 (M 98 4) 9 := by unfold qA; exact hpx99_1 _ (by omega)
                have e109 : qA M98 (M 98 4) 10 = qA M81 (M 98 4) 10 := by unfold qA; exact hpx99_1 _ (by omega)
                have e110 : qA M98 (M 98 4) 11 = qA M81 (M 98 4) 11 := by unfold qA; exact hpx99_1 _ (by omega)
                have e111 : qA M98 (M 98 4) 4 = qA M81 (M 98 4) 4 := by unfold qA; exact hpx99_1 _ (by omega)
                have e112 : qA M98 (M 98 4) 5 = qA M81 (M 98 4) 5 := by unfold qA; exact hpx99_1 _ (by omega)
                have e113 : qA M98 (M 98 4) 7 = qA M81 (M 98 4) 7 := by unfold qA; exact hpx99_1 _ (by omega)
                have e114 : qA M98 (M 98 4) 8 = qA M81 (M 98 4) 8 := by unfold qA; exact hpx99_1 _ (by omega)
                show zG n (0, 0) d 201 (111, [.inr (.inr (some 97)), .inl a1, .inl a2, .inl a3, .inl a4, .inl a5, .inl a6], [.inl x99]) M98 _
                exact zG_ret hd0 hz rfl rfl ⟨⟨hCM98, hWM98⟩, _, rfl, by omega⟩
              · refine zG_blk (c' := (68, [.inr (.inr (some 97)), .inl a1, .inl a2, .inl a3, .inl a4, .inl a5, .inl a6], [.inl (-4)])) 1 hd0 hz (by rfl) ?_
                exact zG_ret hd0 hz rfl rfl ⟨⟨hC, hW⟩, _, rfl, by omega⟩
            · exact j56
