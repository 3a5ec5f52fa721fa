theorem qm_208_97 {n d : Nat} {M : zM} (hd : 3 ≤ d) (hC : qMI M)  (a1 : Int) (ha1 : (-2147483648) ≤ a1 ∧ a1 ≤ 2147483647) (a2 : Int) (ha2 : (-2147483648) ≤ a2 ∧ a2 ≤ 2147483647) : qOkN n d 208 [.inr (.inr (some 97)), .inl a1, .inl a2] 3 [98] M (fun v M' => ∃ x : Int, v = some (.inl x) ∧ ((-2147483648) ≤ x ∧ x ≤ 2147483647)) := by
  have hz := zp_208
  have hd0 : 0 < d := by omega
  have hW : qFm [98] M M := qFm.rfl
  have r1 := hC.cnt4
  show zG n (0, 0) d 208 (0, [.inr (.inr (some 97)), .inl a1, .inl a2], []) M _
  refine zG_blk (c' := (3, [.inr (.inr (some 97)), .inl a1, .inl a2], [.inl a1, .inl 4, .inr (.inr (some 97))])) 3 hd0 hz (by rfl) ?_
  refine zG_call hd0 hz zp_182 rfl rfl (Nat.le_of_ble_eq_true rfl) ⟨Nat.le_refl _, Nat.le_refl _⟩ (qx_is (by first | exact zdp hd (by decide) | omega) hC   4 (by first | decide | omega) a1 (by first | with_reducible exact ha1 | omega) ) (fun vr M2 hr => ?_)
  obtain ⟨hq, x3, rfl, hx3⟩ := hr
  replace hq := hq.symm; subst hq
  show zG n (0, 0) d 208 (6, [.inr (.inr (some 97)), .inl a1, .inl a2], [.inl x3]) M _
  have j16 : zG n (0, 0) d 208 (16, [.inr (.inr (some 97)), .inl a1, .inl a2], []) M (fun v M' => (qMI M' ∧ qFm [98] M M') ∧ ∃ x : Int, v = some (.inl x) ∧ ((-2147483648) ≤ x ∧ x ≤ 2147483647)) := by
    refine zG_blk (c' := (18, [.inr (.inr (some 97)), .inl a1, .inl a2], [.inl (-2)])) 1 hd0 hz (by rfl) ?_
    exact zG_ret hd0 hz rfl rfl ⟨⟨hC, hW⟩, _, rfl, by omega⟩
  refine zG_if_eq hd0 hz rfl (fun hb4 => ?_) (fun hb4 => ?_)
  · exact j16
  · have hcx3 := hx3.2.2.mp (by omega)
    clear hx3 hb4
    refine zG_blk (c' := (10, [.inr (.inr (some 97)), .inl a1, .inl a2], [.inl a2])) 1 hd0 hz (by rfl) ?_
    refine zG_call hd0 hz zp_184 rfl rfl (Nat.le_of_ble_eq_true rfl) ⟨Nat.le_refl _, Nat.le_refl _⟩ (qm_184 (by first | exact zdp hd (by decide) | omega) hC   a2 (by first | with_reducible exact ha2 | omega) ) (fun vr M5 hr => ?_)
    obtain ⟨hq, x6, rfl, hx6, hpx6_0⟩ := hr
    replace hq := hq.symm; subst hq
    show zG n (0, 0) d 208 (13, [.inr (.inr (some 97)), .inl a1, .inl a2], [.inl x6]) M _
    refine zG_if_ne hd0 hz rfl (fun hb7 => ?_) (fun hb7 => ?_)
    · have hcx6 := hpx6_0.mp (by omega)
      clear hx6 hpx6_0 hb7
      refine zG_blk (c' := (22, [.inr (.inr (some 97)), .inl a1, .inl a2], [.inl 3, .inl a1, .inr (.inr (some 97))])) 3 hd0 hz (by rfl) ?_
      refine zG_call hd0 hz zp_194 rfl rfl (Nat.le_of_ble_eq_true rfl) ⟨Nat.le_refl _, Nat.le_refl _⟩ (qx_act3 (by first | exact zdp hd (by decide) | omega) hC   a1 (by first | with_reducible exact ha1 | omega) ) (fun vr M8 hr => ?_)
      obtain ⟨hq, x9, rfl, hx9⟩ := hr
      replace hq := hq.symm; subst hq
      show zG n (0, 0) d 208 (25, [.inr (.inr (some 97)), .inl a1, .inl a2], [.inl x9]) M _
      refine zG_blk (c' := (26, [.inr (.inr (some 97)), .inl a1, .inl a2], [.inl (-1), .inl x9])) 1 hd0 hz (by rfl) ?_
      have j51 : zG n (0, 0) d 208 (51, [.inr (.inr (some 97)), .inl a1, .inl a2], []) M (fun v M' => (qMI M' ∧ qFm [98] M M') ∧ ∃ x : Int, v = some (.inl x) ∧ ((-2147483648) ≤ x ∧ x ≤ 2147483647)) := by
        refine zG_blk (c' := (53, [.inr (.inr (some 97)), .inl a1, .inl a2], [.inl (-3)])) 1 hd0 hz (by rfl) ?_
        exact zG_ret hd0 hz rfl rfl ⟨⟨hC, hW⟩, _, rfl, by omega⟩
      refine zG_icmp_eq hd0 hz rfl (fun hb10 => ?_) (fun hb10 => ?_)
      · exact j51
      · refine zG_blk (c' := (33, [.inr (.inr (some 97)), .inl a1, .inl a2], [.inl 1, .inl a1, .inr (.inr (some 97)), .inl a2])) 4 hd0 hz (by rfl) ?_
        refine zG_call hd0 hz zp_194 rfl rfl (Nat.le_of_ble_eq_true rfl) ⟨Nat.le_refl _, Nat.le_refl _⟩ (qx_act0 (by first | exact zdp hd (by decide) | omega) hC   a1 (by first | with_reducible exact ha1 | omega) 1 (by first | decide | omega) ) (fun vr M11 hr => ?_)
        obtain ⟨hq, x12, rfl, hx12⟩ := hr
        replace hq := hq.symm; subst hq
        show zG n (0, 0) d 208 (36, [.inr (.inr (some 97)), .inl a1, .inl a2], [.inl x12, .inl a2]) M _
        obtain ⟨x13, hx13⟩ : ∃ x : Int, x = w32 (a2 - x12) := ⟨_, rfl⟩
        have hx13r : x13 = (a2 - x12 + 2147483648) % 4294967296 - 2147483648 := hx13
        refine zG_blk (c' := (44, [.inr (.inr (some 97)), .inl a1, .inl a2], [.inl 7, .inr (.inr (some 98)), .inl 0, .inl x13])) 5 hd0 hz (by subst hx13; rfl) ?_
        refine zG_iald hd0 hz rfl rfl (.inl rfl) (by omega) ?_
        have r14 := hC.sin 7
        show zG n (0, 0) d 208 (45, [.inr (.inr (some 97)), .inl a1, .inl a2], [.inl (M 98 7), .inl 0, .inl x13]) M _
        refine zG_call hd0 hz zp_180 rfl rfl (Nat.le_of_ble_eq_true rfl) ⟨Nat.le_refl _, Nat.le_refl _⟩ (qx_in (by first | exact zdp hd (by decide) | omega) hC   x13 (by omega) 0 (by first | decide | omega) (M 98 7) (by omega) ) (fun vr M15 hr => ?_)
        obtain ⟨hq, x16, rfl, hx16⟩ := hr
        replace hq := hq.symm; subst hq
        show zG n (0, 0) d 208 (48, [.inr (.inr (some 97)), .inl a1, .inl a2], [.inl x16]) M _
        refine zG_if_ne hd0 hz rfl (fun hb17 => ?_) (fun hb17 => ?_)
        · have hcx16 := hx16.2.2.mp (by omega)
          clear hx16 hb17
          refine zG_blk (c' := (55, [.inr (.inr (some 97)), .inl a1, .inl a2], [.inr (.inr (some 97))])) 1 hd0 hz (by rfl) ?_
          refine zG_call hd0 hz zp_197 rfl rfl (Nat.le_of_ble_eq_true rfl) ⟨Nat.le_refl _, Nat.le_refl _⟩ (qx_isFull (by first | exact zdp hd (by decide) | omega) hC    ) (fun vr M18 hr => ?_)
          obtain ⟨hq, x19, rfl, hx19⟩ := hr
          replace hq := hq.symm; subst hq
          show zG n (0, 0) d 208 (58, [.inr (.inr (some 97)), .inl a1, .inl a2], [.inl x19]) M _
          refine zG_if_eq hd0 hz rfl (fun hb20 => ?_) (fun hb20 => ?_)
          · refine zG_blk (c' := (69, [.inr (.inr (some 97)), .inl a1, .inl a2], [.inl (-1), .inl a2, .inl a2, .inl 5, .inr (.inr (some 97))])) 5 hd0 hz (by rfl) ?_
            refine zG_call hd0 hz zp_196 rfl rfl (Nat.le_of_ble_eq_true rfl) ⟨Nat.le_refl _, Nat.le_refl _⟩ (qx_begins (by first | exact zdp hd (by decide) | omega) hC   5 a2 a2 (-1) (by first | decide | omega) (by omega) (by omega) (M 98 4) (by omega) (by omega) (by omega) ) (fun vr M21 hr => ?_)
            obtain ⟨⟨hCM21, hFM21⟩, rfl, hpx22_0, hpx22_1, hpx22_2, hpx22_3, hpx22_4, hpx22_5, hpx22_6, hpx22_7, hpx22_8, hpx22_9, hpx22_10, hpx22_11, hpx22_12⟩ := hr
            have hWM21 : qFm [98] M M21 := hW.tr hFM21 (by decide)
            have e23 : M21 98 4 = M 98 4 := hpx22_12 _ (by omega)
            have e24 : M21 98 7 = M 98 7 := hpx22_12 _ (by omega)
            show zG n (0, 0) d 208 (72, [.inr (.inr (some 97)), .inl a1, .inl a2], []) M21 _
            refine zG_blk (c' := (76, [.inr (.inr (some 97)), .inl a1, .inl a2], [.inl a1, .inl 6, .inr (.inr (some 97))])) 3 hd0 hz (by rfl) ?_
            refine zG_call hd0 hz zp_195 rfl rfl (Nat.le_of_ble_eq_true rfl) ⟨Nat.le_refl _, Nat.le_refl _⟩ (qx_putsM (by first | exact zdp hd (by decide) | omega) hCM21   6 a1 (by first | with_reducible exact ha1 | omega) (M 98 4) (by omega) (by omega) (by omega) (by refine ⟨fun _ => ?_, fun _ => ?_, fun _ => ?_, fun _ => ?_⟩ <;> omega) ) (fun vr M25 hr => ?_)
            obtain ⟨⟨hCM25, hFM25⟩, rfl, hpx26_0, hpx26_1⟩ := hr
            have hWM25 : qFm [98] M M25 := hWM21.tr hFM25 (by decide)
            have e27 : M25 98 4 = M21 98 4 := hpx26_1 _ (by omega)
            have e28 : M25 98 7 = M21 98 7 := hpx26_1 _ (by omega)
            have e29 : qA M25 (M 98 4) 0 = qA M21 (M 98 4) 0 := by unfold qA; exact hpx26_1 _ (by omega)
            have e30 : qA M25 (M 98 4) 1 = qA M21 (M 98 4) 1 := by unfold qA; exact hpx26_1 _ (by omega)
            have e31 : qA M25 (M 98 4) 2 = qA M21 (M 98 4) 2 := by unfold qA; exact hpx26_1 _ (by omega)
            have e32 : qA M25 (M 98 4) 3 = qA M21 (M 98 4) 3 := by unfold qA; exact hpx26_1 _ (by omega)
            have e33 : qA M25 (M 98 4) 4 = qA M21 (M 98 4) 4 := by unfold qA; exact hpx26_1 _ (by omega)
            have e34 : qA M25 (M 98 4) 5 = qA M21 (M 98 4) 5 := by unfold qA; exact hpx26_1 _ (by omega)
            have e36 : qA M25 (M 98 4) 7 = qA M21 (M 98 4) 7 := by unfold qA; exact hpx26_1 _ (by omega)
            have e37 : qA M25 (M 98 4) 8 = qA M21 (M 98 4) 8 := by unfold qA; exact hpx26_1 _ (by omega)
            have e38 : qA M25 (M 98 4) 9 = qA M21 (M 98 4) 9 := by unfold qA; exact hpx26_1 _ (by omega)
            have e39 : qA M25 (M 98 4) 10 = qA M21 (M 98 4) 10 := by unfold qA; exact hpx26_1 _ (by omega)
            have e40 : qA M25 (M 98 4) 11 = qA M21 (M 98 4) 11 := by unfold qA; exact hpx26_1 _ (by omega)
            show zG n (0, 0) d 208 (79, [.inr (.inr (some 97)), .inl a1, .inl a2], []) M25 _
            refine zG_blk (c' := (81, [.inr (.inr (some 97)), .inl a1, .inl a2], [.inl 4, .inr (.inr (some 97))])) 2 hd0 hz (by rfl) ?_
            refine zG_call hd0 hz zp_183 rfl rfl (Nat.le_of_ble_eq_true rfl) ⟨Nat.le_refl _, Nat.le_refl _⟩ (qx_one4 (by first | exact zdp hd (by decide) | omega) hCM25   (M 98 4) (by omega) (by omega) (by refine ⟨?_, fun _ => ?_, fun _ => ?_, fun _ => ?_, fun _ => ?_, fun _ => ?_, fun _ => ?_, fun _ => ?_, fun _ => ?_, fun _ => ?_⟩ <;> omega) ) (fun vr M41 hr => ?_)
            obtain ⟨⟨hCM41, hFM41⟩, x42, rfl, hx42, hpx42_0, hpx42_1⟩ := hr
            have hWM41 : qFm [98] M M41 := hWM25.tr hFM41 (by decide)
            have e44 : M41 98 7 = M25 98 7 := hpx42_1 _ (by omega)
            have e45 : qA M41 (M 98 4) 0 = qA M25 (M 98 4) 0 := by unfold qA; exact hpx42_1 _ (by omega)
            have e46 : qA M41 (M 98 4) 1 = qA M25 (M 98 4) 1 := by unfold qA; exact hpx42_1 _ (by omega)
            have e47 : qA M41 (M 98 4) 2 = qA M25 (M 98 4) 2 := by unfold qA; exact hpx42_1 _ (by omega)
            have e48 : qA M41 (M 98 4) 3 = qA M25 (M 98 4) 3 := by unfold qA; exact hpx42_1 _ (by omega)
            have e49 : qA M41 (M 98 4) 4 = qA M25 (M 98 4) 4 := by unfold qA; exact hpx42_1 _ (by omega)
            have e50 : qA M41 (M 98 4) 5 = qA M25 (M 98 4) 5 := by unfold qA; exact hpx42_1 _ (by omega)
            have e51 : qA M41 (M 98 4) 7 = qA M25 (M 98 4) 7 := by unfold qA; exact hpx42_1 _ (by omega)
            have e52 : qA M41 (M 98 4) 8 = qA M25 (M 98 4) 8 := by unfold qA; exact hpx42_1 _ (by omega)
            have e53 : qA M41 (M 98 4) 9 = qA M25 (M 98 4) 9 := by unfold qA; exact hpx42_1 _ (by omega)
            have e54 : qA M41 (M 98 4) 10 = qA M25 (M 98 4) 10 := by unfold qA; exact hpx42_1 _ (by omega)
            have e55 : qA M41 (M 98 4) 11 = qA M25 (M 98 4) 11 := by unfold qA; exact hpx42_1 _ (by omega)
            have e56 : qA M41 (M 98 4) 6 = qA M25 (M 98 4) 6 := by unfold qA; exact hpx42_1 _ (by omega)
            show zG n (0, 0) d 208 (84, [.inr (.inr (some 97)), .inl a1, .inl a2], [.inl x42]) M41 _
            exact zG_ret hd0 hz rfl rfl ⟨⟨hCM41, hWM41⟩, _, rfl, by omega⟩
          · refine zG_blk (c' := (63, [.inr (.inr (some 97)), .inl a1, .inl a2], [.inl (-4)])) 1 hd0 hz (by rfl) ?_
            exact zG_ret hd0 hz rfl rfl ⟨⟨hC, hW⟩, _, rfl, by omega⟩
        · exact j51
    · exact j16
