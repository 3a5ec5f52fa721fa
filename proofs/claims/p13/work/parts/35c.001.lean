theorem qm_206_97 {n d : Nat} {M : zM} (hd : 4 ≤ d) (hC : qMI M)  (a1 : Int) (ha1 : (-2147483648) ≤ a1 ∧ a1 ≤ 2147483647) (a2 : Int) (ha2 : (-2147483648) ≤ a2 ∧ a2 ≤ 2147483647) (a3 : Int) (ha3 : (-2147483648) ≤ a3 ∧ a3 ≤ 2147483647) : qOkN n d 206 [.inr (.inr (some 97)), .inl a1, .inl a2, .inl a3] 4 [98] M (fun v M' => ∃ x : Int, v = some (.inl x) ∧ ((-2147483648) ≤ x ∧ x ≤ 2147483647)) := by
  have hz := zp_206
  have hd0 : 0 < d := by omega
  have hW : qFm [98] M M := qFm.rfl
  have r1 := hC.cnt4
  have r2 := hC.cnt3
  show zG n (0, 0) d 206 (0, [.inr (.inr (some 97)), .inl a1, .inl a2, .inl a3], []) M _
  refine zG_blk (c' := (3, [.inr (.inr (some 97)), .inl a1, .inl a2, .inl a3], [.inl a1, .inl 4, .inr (.inr (some 97))])) 3 hd0 hz (by rfl) ?_
  refine zG_call hd0 hz zp_182 rfl rfl (Nat.le_of_ble_eq_true rfl) ⟨Nat.le_refl _, Nat.le_refl _⟩ (qx_is (by first | exact zdp hd (by decide) | omega) hC   4 (by first | decide | omega) a1 (by first | with_reducible exact ha1 | omega) ) (fun vr M3 hr => ?_)
  obtain ⟨hq, x4, rfl, hx4⟩ := hr
  replace hq := hq.symm; subst hq
  show zG n (0, 0) d 206 (6, [.inr (.inr (some 97)), .inl a1, .inl a2, .inl a3], [.inl x4]) M _
  have j18 : zG n (0, 0) d 206 (18, [.inr (.inr (some 97)), .inl a1, .inl a2, .inl a3], []) M (fun v M' => (qMI M' ∧ qFm [98] M M') ∧ ∃ x : Int, v = some (.inl x) ∧ ((-2147483648) ≤ x ∧ x ≤ 2147483647)) := by
    refine zG_blk (c' := (20, [.inr (.inr (some 97)), .inl a1, .inl a2, .inl a3], [.inl (-2)])) 1 hd0 hz (by rfl) ?_
    exact zG_ret hd0 hz rfl rfl ⟨⟨hC, hW⟩, _, rfl, by omega⟩
  refine zG_if_eq hd0 hz rfl (fun hb5 => ?_) (fun hb5 => ?_)
  · exact j18
  · have hcx4 := hx4.2.2.mp (by omega)
    clear hx4 hb5
    refine zG_blk (c' := (12, [.inr (.inr (some 97)), .inl a1, .inl a2, .inl a3], [.inl a3, .inl a2, .inr (.inr (some 97))])) 3 hd0 hz (by rfl) ?_
    refine zG_call hd0 hz zp_200 rfl rfl (Nat.le_of_ble_eq_true rfl) ⟨Nat.le_refl _, Nat.le_refl _⟩ (qm_200_97 (by first | exact zdp hd (by decide) | omega) hC   a2 (by first | with_reducible exact ha2 | omega) a3 (by first | with_reducible exact ha3 | omega) ) (fun vr M6 hr => ?_)
    obtain ⟨hq, x7, rfl, hx7, hpx7_0⟩ := hr
    replace hq := hq.symm; subst hq
    show zG n (0, 0) d 206 (15, [.inr (.inr (some 97)), .inl a1, .inl a2, .inl a3], [.inl x7]) M _
    refine zG_if_ne hd0 hz rfl (fun hb8 => ?_) (fun hb8 => ?_)
    · have hcx7 := hpx7_0.mp (by omega)
      clear hx7 hpx7_0 hb8
      refine zG_blk (c' := (22, [.inr (.inr (some 97)), .inl a1, .inl a2, .inl a3], [.inr (.inr (some 97))])) 1 hd0 hz (by rfl) ?_
      refine zG_call hd0 hz zp_197 rfl rfl (Nat.le_of_ble_eq_true rfl) ⟨Nat.le_refl _, Nat.le_refl _⟩ (qx_isFull (by first | exact zdp hd (by decide) | omega) hC    ) (fun vr M9 hr => ?_)
      obtain ⟨hq, x10, rfl, hx10⟩ := hr
      replace hq := hq.symm; subst hq
      show zG n (0, 0) d 206 (25, [.inr (.inr (some 97)), .inl a1, .inl a2, .inl a3], [.inl x10]) M _
      refine zG_if_eq hd0 hz rfl (fun hb11 => ?_) (fun hb11 => ?_)
      · refine zG_blk (c' := (35, [.inr (.inr (some 97)), .inl a1, .inl a2, .inl a3], [.inl a2, .inr (.inr (some 97)), .inl 5, .inr (.inr (some 97))])) 4 hd0 hz (by rfl) ?_
        refine zG_call hd0 hz zp_199 rfl rfl (Nat.le_of_ble_eq_true rfl) ⟨Nat.le_refl _, Nat.le_refl _⟩ (qx_dayOf (by first | exact zdp hd (by decide) | omega) hC   a2 (by first | with_reducible exact ha2 | omega) ) (fun vr M12 hr => ?_)
        obtain ⟨hq, x13, rfl, hx13⟩ := hr
        replace hq := hq.symm; subst hq
        show zG n (0, 0) d 206 (38, [.inr (.inr (some 97)), .inl a1, .inl a2, .inl a3], [.inl x13, .inl 5, .inr (.inr (some 97))]) M _
        refine zG_blk (c' := (40, [.inr (.inr (some 97)), .inl a1, .inl a2, .inl a3], [.inl a2, .inl a3, .inl x13, .inl 5, .inr (.inr (some 97))])) 2 hd0 hz (by rfl) ?_
        refine zG_call hd0 hz zp_196 rfl rfl (Nat.le_of_ble_eq_true rfl) ⟨Nat.le_refl _, Nat.le_refl _⟩ (qx_begins (by first | exact zdp hd (by decide) | omega) hC   5 x13 a3 a2 (by first | with_reducible exact ha2 | omega) (by omega) (by omega) (M 98 4) (by omega) (by omega) (by omega) ) (fun vr M14 hr => ?_)
        obtain ⟨⟨hCM14, hFM14⟩, rfl, hpx15_0, hpx15_1, hpx15_2, hpx15_3, hpx15_4, hpx15_5, hpx15_6, hpx15_7, hpx15_8, hpx15_9, hpx15_10, hpx15_11, hpx15_12⟩ := hr
        have hWM14 : qFm [98] M M14 := hW.tr hFM14 (by decide)
        have e16 : M14 98 4 = M 98 4 := hpx15_12 _ (by omega)
        have e17 : M14 98 3 = M 98 3 := hpx15_12 _ (by omega)
        show zG n (0, 0) d 206 (43, [.inr (.inr (some 97)), .inl a1, .inl a2, .inl a3], []) M14 _
        refine zG_blk (c' := (47, [.inr (.inr (some 97)), .inl a1, .inl a2, .inl a3], [.inl a1, .inl 6, .inr (.inr (some 97))])) 3 hd0 hz (by rfl) ?_
        refine zG_call hd0 hz zp_195 rfl rfl (Nat.le_of_ble_eq_true rfl) ⟨Nat.le_refl _, Nat.le_refl _⟩ (qx_putsM (by first | exact zdp hd (by decide) | omega) hCM14   6 a1 (by first | with_reducible exact ha1 | omega) (M 98 4) (by omega) (by omega) (by omega) (by refine ⟨fun _ => ?_, fun _ => ?_, fun _ => ?_, fun _ => ?_⟩ <;> omega) ) (fun vr M18 hr => ?_)
        obtain ⟨⟨hCM18, hFM18⟩, rfl, hpx19_0, hpx19_1⟩ := hr
        have hWM18 : qFm [98] M M18 := hWM14.tr hFM18 (by decide)
        have e20 : M18 98 4 = M14 98 4 := hpx19_1 _ (by omega)
        have e21 : M18 98 3 = M14 98 3 := hpx19_1 _ (by omega)
        have e22 : qA M18 (M 98 4) 0 = qA M14 (M 98 4) 0 := by unfold qA; exact hpx19_1 _ (by omega)
        have e23 : qA M18 (M 98 4) 1 = qA M14 (M 98 4) 1 := by unfold qA; exact hpx19_1 _ (by omega)
        have e24 : qA M18 (M 98 4) 2 = qA M14 (M 98 4) 2 := by unfold qA; exact hpx19_1 _ (by omega)
        have e25 : qA M18 (M 98 4) 3 = qA M14 (M 98 4) 3 := by unfold qA; exact hpx19_1 _ (by omega)
        have e26 : qA M18 (M 98 4) 4 = qA M14 (M 98 4) 4 := by unfold qA; exact hpx19_1 _ (by omega)
        have e27 : qA M18 (M 98 4) 5 = qA M14 (M 98 4) 5 := by unfold qA; exact hpx19_1 _ (by omega)
        have e29 : qA M18 (M 98 4) 7 = qA M14 (M 98 4) 7 := by unfold qA; exact hpx19_1 _ (by omega)
        have e30 : qA M18 (M 98 4) 8 = qA M14 (M 98 4) 8 := by unfold qA; exact hpx19_1 _ (by omega)
        have e31 : qA M18 (M 98 4) 9 = qA M14 (M 98 4) 9 := by unfold qA; exact hpx19_1 _ (by omega)
        have e32 : qA M18 (M 98 4) 10 = qA M14 (M 98 4) 10 := by unfold qA; exact hpx19_1 _ (by omega)
        have e33 : qA M18 (M 98 4) 11 = qA M14 (M 98 4) 11 := by unfold qA; exact hpx19_1 _ (by omega)
        show zG n (0, 0) d 206 (50, [.inr (.inr (some 97)), .inl a1, .inl a2, .inl a3], []) M18 _
        refine zG_blk (c' := (52, [.inr (.inr (some 97)), .inl a1, .inl a2, .inl a3], [.inl 4, .inr (.inr (some 97))])) 2 hd0 hz (by rfl) ?_
        refine zG_call hd0 hz zp_183 rfl rfl (Nat.le_of_ble_eq_true rfl) ⟨Nat.le_refl _, Nat.le_refl _⟩ (qx_one4 (by first | exact zdp hd (by decide) | omega) hCM18   (M 98 4) (by omega) (by omega) (by refine ⟨?_, fun _ => ?_, fun _ => ?_, fun _ => ?_, fun _ => ?_, fun _ => ?_, fun _ => ?_, fun _ => ?_, fun _ => ?_, fun _ => ?_⟩ <;> omega) ) (fun vr M34 hr => ?_)
        obtain ⟨⟨hCM34, hFM34⟩, x35, rfl, hx35, hpx35_0, hpx35_1⟩ := hr
        have hWM34 : qFm [98] M M34 := hWM18.tr hFM34 (by decide)
        have e37 : M34 98 3 = M18 98 3 := hpx35_1 _ (by omega)
        have e38 : qA M34 (M 98 4) 0 = qA M18 (M 98 4) 0 := by unfold qA; exact hpx35_1 _ (by omega)
        have e39 : qA M34 (M 98 4) 1 = qA M18 (M 98 4) 1 := by unfold qA; exact hpx35_1 _ (by omega)
        have e40 : qA M34 (M 98 4) 2 = qA M18 (M 98 4) 2 := by unfold qA; exact hpx35_1 _ (by omega)
        have e41 : qA M34 (M 98 4) 3 = qA M18 (M 98 4) 3 := by unfold qA; exact hpx35_1 _ (by omega)
        have e42 : qA M34 (M 98 4) 4 = qA M18 (M 98 4) 4 := by unfold qA; exact hpx35_1 _ (by omega)
        have e43 : qA M34 (M 98 4) 5 = qA M18 (M 98 4) 5 := by unfold qA; exact hpx35_1 _ (by omega)
        have e44 : qA M34 (M 98 4) 7 = qA M18 (M 98 4) 7 := by unfold qA; exact hpx35_1 _ (by omega)
        have e45 : qA M34 (M 98 4) 8 = qA M18 (M 98 4) 8 := by unfold qA; exact hpx35_1 _ (by omega)
        have e46 : qA M34 (M 98 4) 9 = qA M18 (M 98 4) 9 := by unfold qA; exact hpx35_1 _ (by omega)
        have e47 : qA M34 (M 98 4) 10 = qA M18 (M 98 4) 10 := by unfold qA; exact hpx35_1 _ (by omega)
        have e48 : qA M34 (M 98 4) 11 = qA M18 (M 98 4) 11 := by unfold qA; exact hpx35_1 _ (by omega)
        have e49 : qA M34 (M 98 4) 6 = qA M18 (M 98 4) 6 := by unfold qA; exact hpx35_1 _ (by omega)
        show zG n (0, 0) d 206 (55, [.inr (.inr (some 97)), .inl a1, .inl a2, .inl a3], [.inl x35]) M34 _
        exact zG_ret hd0 hz rfl rfl ⟨⟨hCM34, hWM34⟩, _, rfl, by omega⟩
      · refine zG_blk (c' := (30, [.inr (.inr (some 97)), .inl a1, .inl a2, .inl a3], [.inl (-4)])) 1 hd0 hz (by rfl) ?_
        exact zG_ret hd0 hz rfl rfl ⟨⟨hC, hW⟩, _, rfl, by omega⟩
    · exact j18
