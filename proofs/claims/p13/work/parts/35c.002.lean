theorem qm_207_97 {n d : Nat} {M : zM} (hd : 4 ≤ d) (hC : qMI M)  (a1 : Int) (ha1 : (-2147483648) ≤ a1 ∧ a1 ≤ 2147483647) (a2 : Int) (ha2 : (-2147483648) ≤ a2 ∧ a2 ≤ 2147483647) (a3 : Int) (ha3 : (-2147483648) ≤ a3 ∧ a3 ≤ 2147483647) : qOkN n d 207 [.inr (.inr (some 97)), .inl a1, .inl a2, .inl a3] 4 [98] M (fun v M' => ∃ x : Int, v = some (.inl x) ∧ ((-2147483648) ≤ x ∧ x ≤ 2147483647)) := by
  have hz := zp_207
  have hd0 : 0 < d := by omega
  have hW : qFm [98] M M := qFm.rfl
  have r1 := hC.cnt4
  have r2 := hC.cnt1
  have r3 := hC.cnt3
  show zG n (0, 0) d 207 (0, [.inr (.inr (some 97)), .inl a1, .inl a2, .inl a3], []) M _
  refine zG_blk (c' := (3, [.inr (.inr (some 97)), .inl a1, .inl a2, .inl a3], [.inl a1, .inl 1, .inr (.inr (some 97))])) 3 hd0 hz (by rfl) ?_
  refine zG_call hd0 hz zp_182 rfl rfl (Nat.le_of_ble_eq_true rfl) ⟨Nat.le_refl _, Nat.le_refl _⟩ (qx_is (by first | exact zdp hd (by decide) | omega) hC   1 (by first | decide | omega) a1 (by first | with_reducible exact ha1 | omega) ) (fun vr M4 hr => ?_)
  obtain ⟨hq, x5, rfl, hx5⟩ := hr
  replace hq := hq.symm; subst hq
  show zG n (0, 0) d 207 (6, [.inr (.inr (some 97)), .inl a1, .inl a2, .inl a3], [.inl x5]) M _
  have j18 : zG n (0, 0) d 207 (18, [.inr (.inr (some 97)), .inl a1, .inl a2, .inl a3], []) M (fun v M' => (qMI M' ∧ qFm [98] M M') ∧ ∃ x : Int, v = some (.inl x) ∧ ((-2147483648) ≤ x ∧ x ≤ 2147483647)) := by
    refine zG_blk (c' := (20, [.inr (.inr (some 97)), .inl a1, .inl a2, .inl a3], [.inl (-2)])) 1 hd0 hz (by rfl) ?_
    exact zG_ret hd0 hz rfl rfl ⟨⟨hC, hW⟩, _, rfl, by omega⟩
  refine zG_if_eq hd0 hz rfl (fun hb6 => ?_) (fun hb6 => ?_)
  · exact j18
  · have hcx5 := hx5.2.2.mp (by omega)
    clear hx5 hb6
    refine zG_blk (c' := (12, [.inr (.inr (some 97)), .inl a1, .inl a2, .inl a3], [.inl a3, .inl a2, .inr (.inr (some 97))])) 3 hd0 hz (by rfl) ?_
    refine zG_call hd0 hz zp_200 rfl rfl (Nat.le_of_ble_eq_true rfl) ⟨Nat.le_refl _, Nat.le_refl _⟩ (qm_200_97 (by first | exact zdp hd (by decide) | omega) hC   a2 (by first | with_reducible exact ha2 | omega) a3 (by first | with_reducible exact ha3 | omega) ) (fun vr M7 hr => ?_)
    obtain ⟨hq, x8, rfl, hx8, hpx8_0⟩ := hr
    replace hq := hq.symm; subst hq
    show zG n (0, 0) d 207 (15, [.inr (.inr (some 97)), .inl a1, .inl a2, .inl a3], [.inl x8]) M _
    refine zG_if_ne hd0 hz rfl (fun hb9 => ?_) (fun hb9 => ?_)
    · have hcx8 := hpx8_0.mp (by omega)
      clear hx8 hpx8_0 hb9
      refine zG_blk (c' := (22, [.inr (.inr (some 97)), .inl a1, .inl a2, .inl a3], [.inr (.inr (some 97))])) 1 hd0 hz (by rfl) ?_
      refine zG_call hd0 hz zp_197 rfl rfl (Nat.le_of_ble_eq_true rfl) ⟨Nat.le_refl _, Nat.le_refl _⟩ (qx_isFull (by first | exact zdp hd (by decide) | omega) hC    ) (fun vr M10 hr => ?_)
      obtain ⟨hq, x11, rfl, hx11⟩ := hr
      replace hq := hq.symm; subst hq
      show zG n (0, 0) d 207 (25, [.inr (.inr (some 97)), .inl a1, .inl a2, .inl a3], [.inl x11]) M _
      refine zG_if_eq hd0 hz rfl (fun hb12 => ?_) (fun hb12 => ?_)
      · refine zG_blk (c' := (36, [.inr (.inr (some 97)), .inl a1, .inl a2, .inl a3], [.inl a2, .inr (.inr (some 97)), .inl 6, .inr (.inr (some 97))])) 4 hd0 hz (by rfl) ?_
        refine zG_call hd0 hz zp_199 rfl rfl (Nat.le_of_ble_eq_true rfl) ⟨Nat.le_refl _, Nat.le_refl _⟩ (qx_dayOf (by first | exact zdp hd (by decide) | omega) hC   a2 (by first | with_reducible exact ha2 | omega) ) (fun vr M13 hr => ?_)
        obtain ⟨hq, x14, rfl, hx14⟩ := hr
        replace hq := hq.symm; subst hq
        show zG n (0, 0) d 207 (39, [.inr (.inr (some 97)), .inl a1, .inl a2, .inl a3], [.inl x14, .inl 6, .inr (.inr (some 97))]) M _
        refine zG_blk (c' := (41, [.inr (.inr (some 97)), .inl a1, .inl a2, .inl a3], [.inl a2, .inl a3, .inl x14, .inl 6, .inr (.inr (some 97))])) 2 hd0 hz (by rfl) ?_
        refine zG_call hd0 hz zp_196 rfl rfl (Nat.le_of_ble_eq_true rfl) ⟨Nat.le_refl _, Nat.le_refl _⟩ (qx_begins (by first | exact zdp hd (by decide) | omega) hC   6 x14 a3 a2 (by first | with_reducible exact ha2 | omega) (by omega) (by omega) (M 98 4) (by omega) (by omega) (by omega) ) (fun vr M15 hr => ?_)
        obtain ⟨⟨hCM15, hFM15⟩, rfl, hpx16_0, hpx16_1, hpx16_2, hpx16_3, hpx16_4, hpx16_5, hpx16_6, hpx16_7, hpx16_8, hpx16_9, hpx16_10, hpx16_11, hpx16_12⟩ := hr
        have hWM15 : qFm [98] M M15 := hW.tr hFM15 (by decide)
        have e17 : M15 98 4 = M 98 4 := hpx16_12 _ (by omega)
        have e18 : M15 98 1 = M 98 1 := hpx16_12 _ (by omega)
        have e19 : M15 98 3 = M 98 3 := hpx16_12 _ (by omega)
        show zG n (0, 0) d 207 (44, [.inr (.inr (some 97)), .inl a1, .inl a2, .inl a3], []) M15 _
        refine zG_blk (c' := (47, [.inr (.inr (some 97)), .inl a1, .inl a2, .inl a3], [.inl a1, .inl 4, .inr (.inr (some 97))])) 3 hd0 hz (by rfl) ?_
        refine zG_call hd0 hz zp_195 rfl rfl (Nat.le_of_ble_eq_true rfl) ⟨Nat.le_refl _, Nat.le_refl _⟩ (qx_putsM (by first | exact zdp hd (by decide) | omega) hCM15   4 a1 (by first | with_reducible exact ha1 | omega) (M 98 4) (by omega) (by omega) (by omega) (by refine ⟨fun _ => ?_, fun _ => ?_, fun _ => ?_, fun _ => ?_⟩ <;> omega) ) (fun vr M20 hr => ?_)
        obtain ⟨⟨hCM20, hFM20⟩, rfl, hpx21_0, hpx21_1⟩ := hr
        have hWM20 : qFm [98] M M20 := hWM15.tr hFM20 (by decide)
        have e22 : M20 98 4 = M15 98 4 := hpx21_1 _ (by omega)
        have e23 : M20 98 1 = M15 98 1 := hpx21_1 _ (by omega)
        have e24 : M20 98 3 = M15 98 3 := hpx21_1 _ (by omega)
        have e25 : qA M20 (M 98 4) 0 = qA M15 (M 98 4) 0 := by unfold qA; exact hpx21_1 _ (by omega)
        have e26 : qA M20 (M 98 4) 1 = qA M15 (M 98 4) 1 := by unfold qA; exact hpx21_1 _ (by omega)
        have e27 : qA M20 (M 98 4) 2 = qA M15 (M 98 4) 2 := by unfold qA; exact hpx21_1 _ (by omega)
        have e28 : qA M20 (M 98 4) 3 = qA M15 (M 98 4) 3 := by unfold qA; exact hpx21_1 _ (by omega)
        have e30 : qA M20 (M 98 4) 5 = qA M15 (M 98 4) 5 := by unfold qA; exact hpx21_1 _ (by omega)
        have e31 : qA M20 (M 98 4) 6 = qA M15 (M 98 4) 6 := by unfold qA; exact hpx21_1 _ (by omega)
        have e32 : qA M20 (M 98 4) 7 = qA M15 (M 98 4) 7 := by unfold qA; exact hpx21_1 _ (by omega)
        have e33 : qA M20 (M 98 4) 8 = qA M15 (M 98 4) 8 := by unfold qA; exact hpx21_1 _ (by omega)
        have e34 : qA M20 (M 98 4) 9 = qA M15 (M 98 4) 9 := by unfold qA; exact hpx21_1 _ (by omega)
        have e35 : qA M20 (M 98 4) 10 = qA M15 (M 98 4) 10 := by unfold qA; exact hpx21_1 _ (by omega)
        have e36 : qA M20 (M 98 4) 11 = qA M15 (M 98 4) 11 := by unfold qA; exact hpx21_1 _ (by omega)
        show zG n (0, 0) d 207 (50, [.inr (.inr (some 97)), .inl a1, .inl a2, .inl a3], []) M20 _
        refine zG_blk (c' := (52, [.inr (.inr (some 97)), .inl a1, .inl a2, .inl a3], [.inl 4, .inr (.inr (some 97))])) 2 hd0 hz (by rfl) ?_
        refine zG_call hd0 hz zp_183 rfl rfl (Nat.le_of_ble_eq_true rfl) ⟨Nat.le_refl _, Nat.le_refl _⟩ (qx_one4 (by first | exact zdp hd (by decide) | omega) hCM20   (M 98 4) (by omega) (by omega) (by refine ⟨?_, fun _ => ?_, fun _ => ?_, fun _ => ?_, fun _ => ?_, fun _ => ?_, fun _ => ?_, fun _ => ?_, fun _ => ?_, fun _ => ?_⟩ <;> omega) ) (fun vr M37 hr => ?_)
        obtain ⟨⟨hCM37, hFM37⟩, x38, rfl, hx38, hpx38_0, hpx38_1⟩ := hr
        have hWM37 : qFm [98] M M37 := hWM20.tr hFM37 (by decide)
        have e40 : M37 98 1 = M20 98 1 := hpx38_1 _ (by omega)
        have e41 : M37 98 3 = M20 98 3 := hpx38_1 _ (by omega)
        have e42 : qA M37 (M 98 4) 0 = qA M20 (M 98 4) 0 := by unfold qA; exact hpx38_1 _ (by omega)
        have e43 : qA M37 (M 98 4) 1 = qA M20 (M 98 4) 1 := by unfold qA; exact hpx38_1 _ (by omega)
        have e44 : qA M37 (M 98 4) 2 = qA M20 (M 98 4) 2 := by unfold qA; exact hpx38_1 _ (by omega)
        have e45 : qA M37 (M 98 4) 3 = qA M20 (M 98 4) 3 := by unfold qA; exact hpx38_1 _ (by omega)
        have e46 : qA M37 (M 98 4) 5 = qA M20 (M 98 4) 5 := by unfold qA; exact hpx38_1 _ (by omega)
        have e47 : qA M37 (M 98 4) 6 = qA M20 (M 98 4) 6 := by unfold qA; exact hpx38_1 _ (by omega)
        have e48 : qA M37 (M 98 4) 7 = qA M20 (M 98 4) 7 := by unfold qA; exact hpx38_1 _ (by omega)
        have e49 : qA M37 (M 98 4) 8 = qA M20 (M 98 4) 8 := by unfold qA; exact hpx38_1 _ (by omega)
        have e50 : qA M37 (M 98 4) 9 = qA M20 (M 98 4) 9 := by unfold qA; exact hpx38_1 _ (by omega)
        have e51 : qA M37 (M 98 4) 10 = qA M20 (M 98 4) 10 := by unfold qA; exact hpx38_1 _ (by omega)
        have e52 : qA M37 (M 98 4) 11 = qA M20 (M 98 4) 11 := by unfold qA; exact hpx38_1 _ (by omega)
        have e53 : qA M37 (M 98 4) 4 = qA M20 (M 98 4) 4 := by unfold qA; exact hpx38_1 _ (by omega)
        show zG n (0, 0) d 207 (55, [.inr (.inr (some 97)), .inl a1, .inl a2, .inl a3], [.inl x38]) M37 _
        exact zG_ret hd0 hz rfl rfl ⟨⟨hCM37, hWM37⟩, _, rfl, by omega⟩
      · refine zG_blk (c' := (30, [.inr (.inr (some 97)), .inl a1, .inl a2, .inl a3], [.inl (-4)])) 1 hd0 hz (by rfl) ?_
        exact zG_ret hd0 hz rfl rfl ⟨⟨hC, hW⟩, _, rfl, by omega⟩
    · exact j18
