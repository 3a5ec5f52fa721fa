/-! THE MODEL'S METHODS, BY PROGRAM -/
theorem qm_201_97 {n d : Nat} {M : zM} (hd : 3 ≤ d) (hC : qMI M)  (a1 : Int) (ha1 : (-2147483648) ≤ a1 ∧ a1 ≤ 2147483647) (a2 : Int) (ha2 : (-2147483648) ≤ a2 ∧ a2 ≤ 2147483647) (a3 : Int) (ha3 : (-2147483648) ≤ a3 ∧ a3 ≤ 2147483647) (a4 : Int) (ha4 : (-2147483648) ≤ a4 ∧ a4 ≤ 2147483647) (a5 : Int) (ha5 : (-2147483648) ≤ a5 ∧ a5 ≤ 2147483647) (a6 : Int) (ha6 : (-2147483648) ≤ a6 ∧ a6 ≤ 2147483647) : qOkN n d 201 [.inr (.inr (some 97)), .inl a1, .inl a2, .inl a3, .inl a4, .inl a5, .inl a6] 7 [98] M (fun v M' => ∃ x : Int, v = some (.inl x) ∧ ((-2147483648) ≤ x ∧ x ≤ 2147483647) ∧ (M' 98 6 = M 98 6)) := by
  have hz : zP 201 = (zk_X11_mark, 7, (0, 0)) := rfl
  have hd0 : 0 < d := by omega
  have hW : qFm [98] M M := qFm.rfl
  have r1 := hC.cnt6
  have r2 := hC.cnt4
  have r3 := hC.cnt1
  have r4 := hC.cnt0
  show zG n (0, 0) d 201 (0, [.inr (.inr (some 97)), .inl a1, .inl a2, .inl a3, .inl a4, .inl a5, .inl a6], []) M _
  refine zG_blk (c' := (3, [.inr (.inr (some 97)), .inl a1, .inl a2, .inl a3, .inl a4, .inl a5, .inl a6], [.inl a1, .inl 1, .inr (.inr (some 97))])) 3 hd0 hz (by rfl) ?_
  refine zG_call hd0 hz (rfl : zP 182 = (zk_X11_is, 3, (0, 0))) rfl rfl (Nat.le_of_ble_eq_true rfl) ⟨Nat.le_refl _, Nat.le_refl _⟩ (qx_is (by omega) hC   1 (by omega) a1 (by omega) ) (fun vr M5 hr => ?_)
  obtain ⟨hq, x6, rfl, hx6⟩ := hr
  replace hq := hq.symm; subst hq
  show zG n (0, 0) d 201 (6, [.inr (.inr (some 97)), .inl a1, .inl a2, .inl a3, .inl a4, .inl a5, .inl a6], [.inl x6]) M _
  have j56 : zG n (0, 0) d 201 (56, [.inr (.inr (some 97)), .inl a1, .inl a2, .inl a3, .inl a4, .inl a5, .inl a6], []) M (fun v M' => (qMI M' ∧ qFm [98] M M') ∧ ∃ x : Int, v = some (.inl x) ∧ ((-2147483648) ≤ x ∧ x ≤ 2147483647) ∧ (M' 98 6 = M 98 6)) := by
    refine zG_blk (c' := (58, [.inr (.inr (some 97)), .inl a1, .inl a2, .inl a3, .inl a4, .inl a5, .inl a6], [.inl (-2)])) 1 hd0 hz (by rfl) ?_
    exact zG_ret hd0 hz rfl rfl ⟨⟨hC, hW⟩, _, rfl, by omega, by omega⟩
  refine zG_if_eq hd0 hz rfl (fun hb7 => ?_) (fun hb7 => ?_)
  · exact j56
  · refine zG_blk (c' := (12, [.inr (.inr (some 97)), .inl a1, .inl a2, .inl a3, .inl a4, .inl a5, .inl a6], [.inl a2, .inl 0, .inr (.inr (some 97))])) 3 hd0 hz (by rfl) ?_
    refine zG_call hd0 hz (rfl : zP 182 = (zk_X11_is, 3, (0, 0))) rfl rfl (Nat.le_of_ble_eq_true rfl) ⟨Nat.le_refl _, Nat.le_refl _⟩ (qx_is (by omega) hC   0 (by omega) a2 (by omega) ) (fun vr M8 hr => ?_)
    obtain ⟨hq, x9, rfl, hx9⟩ := hr
    replace hq := hq.symm; subst hq
    show zG n (0, 0) d 201 (15, [.inr (.inr (some 97)), .inl a1, .inl a2, .inl a3, .inl a4, .inl a5, .inl a6], [.inl x9]) M _
    refine zG_if_eq hd0 hz rfl (fun hb10 => ?_) (fun hb10 => ?_)
    · exact j56
    · refine zG_blk (c' := (19, [.inr (.inr (some 97)), .inl a1, .inl a2, .inl a3, .inl a4, .inl a5, .inl a6], [.inl a3])) 1 hd0 hz (by rfl) ?_
      refine zG_call hd0 hz (rfl : zP 185 = (zk_X11_isMarkNumber, 1, (0, 0))) rfl rfl (Nat.le_of_ble_eq_true rfl) ⟨Nat.le_refl _, Nat.le_refl _⟩ (qm_185 (by omega) hC   a3 (by omega) ) (fun vr M11 hr => ?_)
      obtain ⟨hq, x12, rfl, hx12, hpx12_0⟩ := hr
      replace hq := hq.symm; subst hq
      show zG n (0, 0) d 201 (22, [.inr (.inr (some 97)), .inl a1, .inl a2, .inl a3, .inl a4, .inl a5, .inl a6], [.inl x12]) M _
      refine zG_if_eq hd0 hz rfl (fun hb13 => ?_) (fun hb13 => ?_)
      · exact j56
      · refine zG_blk (c' := (29, [.inr (.inr (some 97)), .inl a1, .inl a2, .inl a3, .inl a4, .inl a5, .inl a6], [.inl 4, .inl 0, .inl a4])) 3 hd0 hz (by rfl) ?_
        refine zG_call hd0 hz (rfl : zP 180 = (zk_X11_in, 3, (0, 0))) rfl rfl (Nat.le_of_ble_eq_true rfl) ⟨Nat.le_refl _, Nat.le_refl _⟩ (qx_in (by omega) hC   a4 (by omega) 0 (by omega) 4 (by omega) ) (fun vr M14 hr => ?_)
        obtain ⟨hq, x15, rfl, hx15⟩ := hr
        replace hq := hq.symm; subst hq
        show zG n (0, 0) d 201 (32, [.inr (.inr (some 97)), .inl a1, .inl a2, .inl a3, .inl a4, .inl a5, .inl a6], [.inl x15]) M _
        refine zG_if_eq hd0 hz rfl (fun hb16 => ?_) (fun hb16 => ?_)
        · exact j56
        · refine zG_blk (c' := (37, [.inr (.inr (some 97)), .inl a1, .inl a2, .inl a3, .inl a4, .inl a5, .inl a6], [.inl a5])) 1 hd0 hz (by rfl) ?_
          refine zG_call hd0 hz (rfl : zP 184 = (zk_X11_isDay, 1, (0, 0))) rfl rfl (Nat.le_of_ble_eq_true rfl) ⟨Nat.le_refl _, Nat.le_refl _⟩ (qm_184 (by omega) hC   a5 (by omega) ) (fun vr M17 hr => ?_)
          obtain ⟨hq, x18, rfl, hx18, hpx18_0⟩ := hr
          replace hq := hq.symm; subst hq
          show zG n (0, 0) d 201 (40, [.inr (.inr (some 97)), .inl a1, .inl a2, .inl a3, .inl a4, .inl a5, .inl a6], [.inl x18]) M _
          refine zG_if_eq hd0 hz rfl (fun hb19 => ?_) (fun hb19 => ?_)
          · exact j56
          · refine zG_blk (c' := (50, [.inr (.inr (some 97)), .inl a1, .inl a2, .inl a3, .inl a4, .inl a5, .inl a6], [.inl 9999, .inl a5, .inl a6])) 3 hd0 hz (by rfl) ?_
            refine zG_call hd0 hz (rfl : zP 180 = (zk_X11_in, 3, (0, 0))) rfl rfl (Nat.le_of_ble_eq_true rfl) ⟨Nat.le_refl _, Nat.le_refl _⟩ (qx_in (by omega) hC   a6 (by omega) a5 (by omega) 9999 (by omega) ) (fun vr M20 hr => ?_)
            obtain ⟨hq, x21, rfl, hx21⟩ := hr
            replace hq := hq.symm; subst hq
            show zG n (0, 0) d 201 (53, [.inr (.inr (some 97)), .inl a1, .inl a2, .inl a3, .inl a4, .inl a5, .inl a6], [.inl x21]) M _
            refine zG_if_ne hd0 hz rfl (fun hb22 => ?_) (fun hb22 => ?_)
            · refine zG_blk (c' := (60, [.inr (.inr (some 97)), .inl a1, .inl a2, .inl a3, .inl a4, .inl a5, .inl a6], [.inr (.inr (some 97))])) 1 hd0 hz (by rfl) ?_
              refine zG_call hd0 hz (rfl : zP 197 = (zk_X11_isFull, 1, (0, 0))) rfl rfl (Nat.le_of_ble_eq_true rfl) ⟨Nat.le_refl _, Nat.le_refl _⟩ (qx_isFull (by omega) hC    ) (fun vr M23 hr => ?_)
              obtain ⟨hq, x24, rfl, hx24⟩ := hr
              replace hq := hq.symm; subst hq
              show zG n (0, 0) d 201 (63, [.inr (.inr (some 97)), .inl a1, .inl a2, .inl a3, .inl a4, .inl a5, .inl a6], [.inl x24]) M _
              refine zG_if_eq hd0 hz rfl (fun hb25 => ?_) (fun hb25 => ?_)
              · refine zG_blk (c' := (76, [.inr (.inr (some 97)), .inl a1, .inl a2, .inl a3, .inl a4, .inl a5, .inl a6], [.inl (-1), .inl a6, .inl a5, .inl 0, .inr (.inr (some 97))])) 5 hd0 hz (by rfl) ?_
                refine zG_call hd0 hz (rfl : zP 196 = (zk_X11_begins, 6, (0, 0))) rfl rfl (Nat.le_of_ble_eq_true rfl) ⟨Nat.le_refl _, Nat.le_refl _⟩ (qx_begins (by omega) hC   0 a5 a6 (-1) (by omega) (by omega) (by omega) (M 98 4) (by omega) (by omega) (by omega) ) (fun vr M26 hr => ?_)
                obtain ⟨⟨hCM26, hFM26⟩, rfl, hpx27_0, hpx27_1, hpx27_2, hpx27_3, hpx27_4, hpx27_5, hpx27_6, hpx27_7, hpx27_8, hpx27_9, hpx27_10, hpx27_11, hpx27_12⟩ := hr
                have hWM26 : qFm [98] M M26 := hW.tr hFM26 (by decide)
                have e28 : M26 98 6 = M 98 6 := hpx27_12 _ (by omega)
                have e29 : M26 98 4 = M 98 4 := hpx27_12 _ (by omega)
                have e30 : M26 98 1 = M 98 1 := hpx27_12 _ (by omega)
                have e31 : M26 98 0 = M 98 0 := hpx27_12 _ (by omega)
                show zG n (0, 0) d 201 (79, [.inr (.inr (some 97)), .inl a1, .inl a2, .inl a3, .inl a4, .inl a5, .inl a6], []) M26 _
                refine zG_blk (c' := (82, [.inr (.inr (some 97)), .inl a1, .inl a2, .inl a3, .inl a4, .inl a5, .inl a6], [.inl a1, .inl 4, .inr (.inr (some 97))])) 3 hd0 hz (by rfl) ?_
                refine zG_call hd0 hz (rfl : zP 195 = (zk_X11_puts, 3, (0, 0))) rfl rfl (Nat.le_of_ble_eq_true rfl) ⟨Nat.le_refl _, Nat.le_refl _⟩ (qx_putsM (by omega) hCM26   4 a1 (by omega) (M 98 4) (by omega) (by omega) (by omega) (by refine ⟨fun _ => ?_, fun _ => ?_, fun _ => ?_, fun _ => ?_⟩ <;> omega) ) (fun vr M32 hr => ?_)
                obtain ⟨⟨hCM32, hFM32⟩, rfl, hpx33_0, hpx33_1⟩ := hr
                have hWM32 : qFm [98] M M32 := hWM26.tr hFM32 (by decide)
                have e34 : M32 98 6 = M26 98 6 := hpx33_1 _ (by omega)
                have e35 : M32 98 4 = M26 98 4 := hpx33_1 _ (by omega)
                have e36 : M32 98 1 = M26 98 1 := hpx33_1 _ (by omega)
                have e37 : M32 98 0 = M26 98 0 := hpx33_1 _ (by omega)
                have e38 : qA M32 (M 98 4) 0 = qA M26 (M 98 4) 0 := by unfold qA; exact hpx33_1 _ (by omega)
                have e39 : qA M32 (M 98 4) 1 = qA M26 (M 98 4) 1 := by unfold qA; exact hpx33_1 _ (by omega)
                have e40 : qA M32 (M 98 4) 2 = qA M26 (M 98 4) 2 := by unfold qA; exact hpx33_1 _ (by omega)
                have e41 : qA M32 (M 98 4) 3 = qA M26 (M 98 4) 3 := by unfold qA; exact hpx33_1 _ (by omega)
                have e43 : qA M32 (M 98 4) 5 = qA M26 (M 98 4) 5 := by unfold qA; exact hpx33_1 _ (by omega)
                have e44 : qA M32 (M 98 4) 6 = qA M26 (M 98 4) 6 := by unfold qA; exact hpx33_1 _ (by omega)
                have e45 : qA M32 (M 98 4) 7 = qA M26 (M 98 4) 7 := by unfold qA; exact hpx33_1 _ (by omega)
                have e46 : qA M32 (M 98 4) 8 = qA M26 (M 98 4) 8 := by unfold qA; exact hpx33_1 _ (by omega)
                have e47 : qA M32 (M 98 4) 9 = qA M26 (M 98 4) 9 := by unfold qA; exact hpx33_1 _ (by omega)
                have e48 : qA M32 (M 98 4) 10 = qA M26 (M 98 4) 10 := by unfold qA; exact hpx33_1 _ (by omega)
                have e49 : qA M32 (M 98 4) 11 = qA M26 (M 98 4) 11 := by unfold qA; exact hpx33_1 _ (by omega)
                show zG n (0, 0) d 201 (85, [.inr (.inr (some 97)), .inl a1, .inl a2, .inl a3, .inl a4, .inl a5, .inl a6], []) M32 _
                refine zG_blk (c' := (88, [.inr (.inr (some 97)), .inl a1, .inl a2, .inl a3, .inl a4, .inl a5, .inl a6], [.inl a2, .inl 5, .inr (.inr (some 97))])) 3 hd0 hz (by rfl) ?_
                refine zG_call hd0 hz (rfl : zP 195 = (zk_X11_puts, 3, (0, 0))) rfl rfl (Nat.le_of_ble_eq_true rfl) ⟨Nat.le_refl _, Nat.le_refl _⟩ (qx_putsM (by omega) hCM32   5 a2 (by omega) (M 98 4) (by omega) (by omega) (by omega) (by refine ⟨fun _ => ?_, fun _ => ?_, fun _ => ?_, fun _ => ?_⟩ <;> omega) ) (fun vr M50 hr => ?_)
                obtain ⟨⟨hCM50, hFM50⟩, rfl, hpx51_0, hpx51_1⟩ := hr
                have hWM50 : qFm [98] M M50 := hWM32.tr hFM50 (by decide)
                have e52 : M50 98 6 = M32 98 6 := hpx51_1 _ (by omega)
                have e53 : M50 98 4 = M32 98 4 := hpx51_1 _ (by omega)
                have e54 : M50 98 1 = M32 98 1 := hpx51_1 _ (by omega)
                have e55 : M50 98 0 = M32 98 0 := hpx51_1 _ (by omega)
                have e56 : qA M50 (M 98 4) 0 = qA M32 (M 98 4) 0 := by unfold qA; exact hpx51_1 _ (by omega)
                have e57 : qA M50 (M 98 4) 1 = qA M32 (M 98 4) 1 := by unfold qA; exact hpx51_1 _ (by omega)
                have e58 : qA M50 (M 98 4) 2 = qA M32 (M 98 4) 2 := by unfold qA; exact hpx51_1 _ (by omega)
                have e59 : qA M50 (M 98 4) 3 = qA M32 (M 98 4) 3 := by unfold qA; exact hpx51_1 _ (by omega)
                have e61 : qA M50 (M 98 4) 6 = qA M32 (M 98 4) 6 := by unfold qA; exact hpx51_1 _ (by omega)
                have e62 : qA M50 (M 98 4) 7 = qA M32 (M 98 4) 7 := by unfold qA; exact hpx51_1 _ (by omega)
                have e63 : qA M50 (M 98 4) 8 = qA M32 (M 98 4) 8 := by unfold qA; exact hpx51_1 _ (by omega)
                have e64 : qA M50 (M 98 4) 9 = qA M32 (M 98 4) 9 := by unfold qA; exact hpx51_1 _ (by omega)
                have e65 : qA M50 (M 98 4) 10 = qA M32 (M 98 4) 10 := by unfold qA; exact hpx51_1 _ (by omega)
                have e66 : qA M50 (M 98 4) 11 = qA M32 (M 98 4) 11 := by unfold qA; exact hpx51_1 _ (by omega)
                have e67 : qA M50 (M 98 4) 4 = qA M32 (M 98 4) 4 := by unfold qA; exact hpx51_1 _ (by omega)
                show zG n (0, 0) d 201 (91, [.inr (.inr (some 97)), .inl a1, .inl a2, .inl a3, .inl a4, .inl a5, .inl a6], []) M50 _
                refine zG_blk (c' := (95, [.inr (.inr (some 97)), .inl a1, .inl a2, .inl a3, .inl a4, .inl a5, .inl a6], [.inl a3, .inl 7, .inr (.inr (some 97))])) 3 hd0 hz (by rfl) ?_
                refine zG_call hd0 hz (rfl : zP 195 = (zk_X11_puts, 3, (0, 0))) rfl rfl (Nat.le_of_ble_eq_true rfl) ⟨Nat.le_refl _, Nat.le_refl _⟩ (qx_putsM (by omega) hCM50   7 a3 (by omega) (M 98 4) (by omega) (by omega) (by omega) (by refine ⟨fun _ => ?_, fun _ => ?_, fun _ => ?_, fun _ => ?_⟩ <;> omega) ) (fun vr M68 hr => ?_)
                obtain ⟨⟨hCM68, hFM68⟩, rfl, hpx69_0, hpx69_1⟩ := hr
                have hWM68 : qFm [98] M M68 := hWM50.tr hFM68 (by decide)
                have e70 : M68 98 6 = M50 98 6 := hpx69_1 _ (by omega)
                have e71 : M68 98 4 = M50 98 4 := hpx69_1 _ (by omega)
                have e72 : M68 98 1 = M50 98 1 := hpx69_1 _ (by omega)
                have e73 : M68 98 0 = M50 98 0 := hpx69_1 _ (by omega)
                have e74 : qA M68 (M 98 4) 0 = qA M50 (M 98 4) 0 := by unfold qA; exact hpx69_1 _ (by omega)
                have e75 : qA M68 (M 98 4) 1 = qA M50 (M 98 4) 1 := by unfold qA; exact hpx69_1 _ (by omega)
                have e76 : qA M68 (M 98 4) 2 = qA M50 (M 98 4) 2 := by unfold qA; exact hpx69_1 _ (by omega)
                have e77 : qA M68 (M 98 4) 3 = qA M50 (M 98 4) 3 := by unfold qA; exact hpx69_1 _ (by omega)
                have e78 : qA M68 (M 98 4) 6 = qA M50 (M 98 4) 6 := by unfold qA; exact hpx69_1 _ (by omega)
                have e80 : qA M68 (M 98 4) 8 = qA M50 (M 98 4) 8 := by unfold qA; exact hpx69_1 _ (by omega)
                have e81 : qA M68 (M 98 4) 9 = qA M50 (M 98 4) 9 := by unfold qA; exact hpx69_1 _ (by omega)
                have e82 : qA M68 (M 98 4) 10 = qA M50 (M 98 4) 10 := by unfold qA; exact hpx69_1 _ (by omega)
                have e83 : qA M68 (M 98 4) 11 = qA M50 (M 98 4) 11 := by unfold qA; exact hpx69_1 _ (by omega)
                have e84 : qA M68 (M 98 4) 4 = qA M50 (M 98 4) 4 := by unfold qA; exact hpx69_1 _ (by omega)
                have e85 : qA M68 (M 98 4) 5 = qA M50 (M 98 4) 5 := by unfold qA; exact hpx69_1 _ (by omega)
                show zG n (0, 0) d 201 (98, [.inr (.inr (some 97)), .inl a1, .inl a2, .inl a3, .inl a4, .inl a5, .inl a6], []) M68 _
                refine zG_blk (c' := (103, [.inr (.inr (some 97)), .inl a1, .inl a2, .inl a3, .inl a4, .inl a5, .inl a6], [.inl a4, .inl 8, .inr (.inr (some 97))])) 3 hd0 hz (by rfl) ?_
                refine zG_call hd0 hz (rfl : zP 195 = (zk_X11_puts, 3, (0, 0))) rfl rfl (Nat.le_of_ble_eq_true rfl) ⟨Nat.le_refl _, Nat.le_refl _⟩ (qx_putsM (by omega) hCM68   8 a4 (by omega) (M 98 4) (by omega) (by omega) (by omega) (by refine ⟨fun _ => ?_, fun _ => ?_, fun _ => ?_, fun _ => ?_⟩ <;> omega) ) (fun vr M86 hr => ?_)
                obtain ⟨⟨hCM86, hFM86⟩, rfl, hpx87_0, hpx87_1⟩ := hr
                have hWM86 : qFm [98] M M86 := hWM68.tr hFM86 (by decide)
                have e88 : M86 98 6 = M68 98 6 := hpx87_1 _ (by omega)
                have e89 : M86 98 4 = M68 98 4 := hpx87_1 _ (by omega)
                have e90 : M86 98 1 = M68 98 1 := hpx87_1 _ (by omega)
                have e91 : M86 98 0 = M68 98 0 := hpx87_1 _ (by omega)
                have e92 : qA M86 (M 98 4) 0 = qA M68 (M 98 4) 0 := by unfold qA; exact hpx87_1 _ (by omega)
                have e93 : qA M86 (M 98 4) 1 = qA M68 (M 98 4) 1 := by unfold qA; exact hpx87_1 _ (by omega)
                have e94 : qA M86 (M 98 4) 2 = qA M68 (M 98 4) 2 := by unfold qA; exact hpx87_1 _ (by omega)
                have e95 : qA M86 (M 98 4) 3 = qA M68 (M 98 4) 3 := by unfold qA; exact hpx87_1 _ (by omega)
                have e96 : qA M86 (M 98 4) 6 = qA M68 (M 98 4) 6 := by unfold qA; exact hpx87_1 _ (by omega)
                have e98 : qA M86 (M 98 4) 9 = qA M68 (M 98 4) 9 := by unfold qA; exact hpx87_1 _ (by omega)
                have e99 : qA M86 (M 98 4) 10 = qA M68 (M 98 4) 10 := by unfold qA; exact hpx87_1 _ (by omega)
                have e100 : qA M86 (M 98 4) 11 = qA M68 (M 98 4) 11 := by unfold qA; exact hpx87_1 _ (by omega)
                have e101 : qA M86 (M 98 4) 4 = qA M68 (M 98 4) 4 := by unfold qA; exact hpx87_1 _ (by omega)
                have e102 : qA M86 (M 98 4) 5 = qA M68 (M 98 4) 5 := by unfold qA; exact hpx87_1 _ (by omega)
                have e103 : qA M86 (M 98 4) 7 = qA M68 (M 98 4) 7 := by unfold qA; exact hpx87_1 _ (by omega)
                show zG n (0, 0) d 201 (106, [.inr (.inr (some 97)), .inl a1, .inl a2, .inl a3, .inl a4, .inl a5, .inl a6], []) M86 _
                refine zG_blk (c' := (108, [.inr (.inr (some 97)), .inl a1, .inl a2, .inl a3, .inl a4, .inl a5, .inl a6], [.inl 4, .inr (.inr (some 97))])) 2 hd0 hz (by rfl) ?_
                refine zG_call hd0 hz (rfl : zP 183 = (zk_X11_one, 2, (0, 0))) rfl rfl (Nat.le_of_ble_eq_true rfl) ⟨Nat.le_refl _, Nat.le_refl _⟩ (qx_one4 (by omega) hCM86   (M 98 4) (by omega) (by omega) (by refine ⟨?_, fun _ => ?_, fun _ => ?_, fun _ => ?_, fun _ => ?_, fun _ => ?_, fun _ => ?_, fun _ => ?_, fun _ => ?_, fun _ => ?_⟩ <;> omega) ) (fun vr M104 hr => ?_)
                obtain ⟨⟨hCM104, hFM104⟩, x105, rfl, hx105, hpx105_0, hpx105_1⟩ := hr
                have hWM104 : qFm [98] M M104 := hWM86.tr hFM104 (by decide)
                have e106 : M104 98 6 = M86 98 6 := hpx105_1 _ (by omega)
                have e108 : M104 98 1 = M86 98 1 := hpx105_1 _ (by omega)
                have e109 : M104 98 0 = M86 98 0 := hpx105_1 _ (by omega)
                have e110 : qA M104 (M 98 4) 0 = qA M86 (M 98 4) 0 := by unfold qA; exact hpx105_1 _ (by omega)
                have e111 : qA M104 (M 98 4) 1 = qA M86 (M 98 4) 1 := by unfold qA; exact hpx105_1 _ (by omega)
                have e112 : qA M104 (M 98 4) 2 = qA M86 (M 98 4) 2 := by unfold qA; exact hpx105_1 _ (by omega)
                have e113 : qA M104 (M 98 4) 3 = qA M86 (M 98 4) 3 := by unfold qA; exact hpx105_1 _ (by omega)
                have e114 : qA M104 (M 98 4) 6 = qA M86 (M 98 4) 6 := by unfold qA; exact hpx105_1 _ (by omega)
                have e115 : qA M104 (M 98 4) 9 = qA M86 (M 98 4) 9 := by unfold qA; exact hpx105_1 _ (by omega)
                have e116 : qA M104 (M 98 4) 10 = qA M86 (M 98 4) 10 := by unfold qA; exact hpx105_1 _ (by omega)
                have e117 : qA M104 (M 98 4) 11 = qA M86 (M 98 4) 11 := by unfold qA; exact hpx105_1 _ (by omega)
                have e118 : qA M104 (M 98 4) 4 = qA M86 (M 98 4) 4 := by unfold qA; exact hpx105_1 _ (by omega)
                have e119 : qA M104 (M 98 4) 5 = qA M86 (M 98 4) 5 := by unfold qA; exact hpx105_1 _ (by omega)
                have e120 : qA M104 (M 98 4) 7 = qA M86 (M 98 4) 7 := by unfold qA; exact hpx105_1 _ (by omega)
                have e121 : qA M104 (M 98 4) 8 = qA M86 (M 98 4) 8 := by unfold qA; exact hpx105_1 _ (by omega)
                show zG n (0, 0) d 201 (111, [.inr (.inr (some 97)), .inl a1, .inl a2, .inl a3, .inl a4, .inl a5, .inl a6], [.inl x105]) M104 _
                exact zG_ret hd0 hz rfl rfl ⟨⟨hCM104, hWM104⟩, _, rfl, by omega, by omega⟩
              · refine zG_blk (c' := (68, [.inr (.inr (some 97)), .inl a1, .inl a2, .inl a3, .inl a4, .inl a5, .inl a6], [.inl (-4)])) 1 hd0 hz (by rfl) ?_
                exact zG_ret hd0 hz rfl rfl ⟨⟨hC, hW⟩, _, rfl, by omega, by omega⟩
            · exact j56
theorem qm_202_97 {n d : Nat} {M : zM} (hd : 4 ≤ d) (hC : qMI M)  (a1 : Int) (ha1 : (-2147483648) ≤ a1 ∧ a1 ≤ 2147483647) (a2 : Int) (ha2 : (-2147483648) ≤ a2 ∧ a2 ≤ 2147483647) (a3 : Int) (ha3 : (-2147483648) ≤ a3 ∧ a3 ≤ 2147483647) (a4 : Int) (ha4 : (-2147483648) ≤ a4 ∧ a4 ≤ 2147483647) (a5 : Int) (ha5 : (-2147483648) ≤ a5 ∧ a5 ≤ 2147483647) : qOkN n d 202 [.inr (.inr (some 97)), .inl a1, .inl a2, .inl a3, .inl a4, .inl a5] 6 [98] M (fun v M' => ∃ x : Int, v = some (.inl x) ∧ ((-2147483648) ≤ x ∧ x ≤ 2147483647) ∧ (M' 98 6 = M 98 6)) := by
  have hz : zP 202 = (zk_X11_second, 6, (0, 0)) := rfl
  have hd0 : 0 < d := by omega
  have hW : qFm [98] M M := qFm.rfl
  have r1 := hC.cnt6
  have r2 := hC.cnt4
  show zG n (0, 0) d 202 (0, [.inr (.inr (some 97)), .inl a1, .inl a2, .inl a3, .inl a4, .inl a5], []) M _
  refine zG_blk (c' := (2, [.inr (.inr (some 97)), .inl a1, .inl a2, .inl a3, .inl a4, .inl a5], [.inl a1, .inr (.inr (some 97))])) 2 hd0 hz (by rfl) ?_
  refine zG_call hd0 hz (rfl : zP 198 = (zk_X11_isMark, 2, (0, 0))) rfl rfl (Nat.le_of_ble_eq_true rfl) ⟨Nat.le_refl _, Nat.le_refl _⟩ (qm_198_97 (by omega) hC   a1 (by omega) ) (fun vr M3 hr => ?_)
  obtain ⟨hq, x4, rfl, hx4, hpx4_0⟩ := hr
  replace hq := hq.symm; subst hq
  show zG n (0, 0) d 202 (5, [.inr (.inr (some 97)), .inl a1, .inl a2, .inl a3, .inl a4, .inl a5], [.inl x4]) M _
  have j65 : zG n (0, 0) d 202 (65, [.inr (.inr (some 97)), .inl a1, .inl a2, .inl a3, .inl a4, .inl a5], []) M (fun v M' => (qMI M' ∧ qFm [98] M M') ∧ ∃ x : Int, v = some (.inl x) ∧ ((-2147483648) ≤ x ∧ x ≤ 2147483647) ∧ (M' 98 6 = M 98 6)) := by
    refine zG_blk (c' := (67, [.inr (.inr (some 97)), .inl a1, .inl a2, .inl a3, .inl a4, .inl a5], [.inl (-2)])) 1 hd0 hz (by rfl) ?_
    exact zG_ret hd0 hz rfl rfl ⟨⟨hC, hW⟩, _, rfl, by omega, by omega⟩
  refine zG_if_eq hd0 hz rfl (fun hb5 => ?_) (fun hb5 => ?_)
  · exact j65
  · refine zG_blk (c' := (9, [.inr (.inr (some 97)), .inl a1, .inl a2, .inl a3, .inl a4, .inl a5], [.inl a2])) 1 hd0 hz (by rfl) ?_
    refine zG_call hd0 hz (rfl : zP 185 = (zk_X11_isMarkNumber, 1, (0, 0))) rfl rfl (Nat.le_of_ble_eq_true rfl) ⟨Nat.le_refl _, Nat.le_refl _⟩ (qm_185 (by omega) hC   a2 (by omega) ) (fun vr M6 hr => ?_)
    obtain ⟨hq, x7, rfl, hx7, hpx7_0⟩ := hr
    replace hq := hq.symm; subst hq
    show zG n (0, 0) d 202 (12, [.inr (.inr (some 97)), .inl a1, .inl a2, .inl a3, .inl a4, .inl a5], [.inl x7]) M _
    refine zG_if_eq hd0 hz rfl (fun hb8 => ?_) (fun hb8 => ?_)
    · exact j65
    · refine zG_blk (c' := (18, [.inr (.inr (some 97)), .inl a1, .inl a2, .inl a3, .inl a4, .inl a5], [.inl 4, .inl 0, .inl a3])) 3 hd0 hz (by rfl) ?_
      refine zG_call hd0 hz (rfl : zP 180 = (zk_X11_in, 3, (0, 0))) rfl rfl (Nat.le_of_ble_eq_true rfl) ⟨Nat.le_refl _, Nat.le_refl _⟩ (qx_in (by omega) hC   a3 (by omega) 0 (by omega) 4 (by omega) ) (fun vr M9 hr => ?_)
      obtain ⟨hq, x10, rfl, hx10⟩ := hr
      replace hq := hq.symm; subst hq
      show zG n (0, 0) d 202 (21, [.inr (.inr (some 97)), .inl a1, .inl a2, .inl a3, .inl a4, .inl a5], [.inl x10]) M _
      refine zG_if_eq hd0 hz rfl (fun hb11 => ?_) (fun hb11 => ?_)
      · exact j65
      · refine zG_blk (c' := (29, [.inr (.inr (some 97)), .inl a1, .inl a2, .inl a3, .inl a4, .inl a5], [.inl 8, .inl a1, .inr (.inr (some 97)), .inl a3])) 4 hd0 hz (by rfl) ?_
        refine zG_call hd0 hz (rfl : zP 194 = (zk_X11_act, 3, (0, 0))) rfl rfl (Nat.le_of_ble_eq_true rfl) ⟨Nat.le_refl _, Nat.le_refl _⟩ (qx_act0 (by omega) hC   a1 (by omega) 8 (by omega) ) (fun vr M12 hr => ?_)
        obtain ⟨hq, x13, rfl, hx13⟩ := hr
        replace hq := hq.symm; subst hq
        show zG n (0, 0) d 202 (32, [.inr (.inr (some 97)), .inl a1, .inl a2, .inl a3, .inl a4, .inl a5], [.inl x13, .inl a3]) M _
        refine zG_icmp_eq hd0 hz rfl (fun hb14 => ?_) (fun hb14 => ?_)
        · exact j65
        · refine zG_blk (c' := (40, [.inr (.inr (some 97)), .inl a1, .inl a2, .inl a3, .inl a4, .inl a5], [.inl 1, .inl a1, .inr (.inr (some 97)), .inl a4])) 4 hd0 hz (by rfl) ?_
          refine zG_call hd0 hz (rfl : zP 194 = (zk_X11_act, 3, (0, 0))) rfl rfl (Nat.le_of_ble_eq_true rfl) ⟨Nat.le_refl _, Nat.le_refl _⟩ (qx_act0 (by omega) hC   a1 (by omega) 1 (by omega) ) (fun vr M15 hr => ?_)
          obtain ⟨hq, x16, rfl, hx16⟩ := hr
          replace hq := hq.symm; subst hq
          show zG n (0, 0) d 202 (43, [.inr (.inr (some 97)), .inl a1, .inl a2, .inl a3, .inl a4, .inl a5], [.inl x16, .inl a4]) M _
          refine zG_blk (c' := (46, [.inr (.inr (some 97)), .inl a1, .inl a2, .inl a3, .inl a4, .inl a5], [.inl 9999, .inl x16, .inl a4])) 1 hd0 hz (by rfl) ?_
          refine zG_call hd0 hz (rfl : zP 180 = (zk_X11_in, 3, (0, 0))) rfl rfl (Nat.le_of_ble_eq_true rfl) ⟨Nat.le_refl _, Nat.le_refl _⟩ (qx_in (by omega) hC   a4 (by omega) x16 (by omega) 9999 (by omega) ) (fun vr M17 hr => ?_)
          obtain ⟨hq, x18, rfl, hx18⟩ := hr
          replace hq := hq.symm; subst hq
          show zG n (0, 0) d 202 (49, [.inr (.inr (some 97)), .inl a1, .inl a2, .inl a3, .inl a4, .inl a5], [.inl x18]) M _
          refine zG_if_eq hd0 hz rfl (fun hb19 => ?_) (fun hb19 => ?_)
          · exact j65
          · refine zG_blk (c' := (59, [.inr (.inr (some 97)), .inl a1, .inl a2, .inl a3, .inl a4, .inl a5], [.inl 9999, .inl a4, .inl a5])) 3 hd0 hz (by rfl) ?_
            refine zG_call hd0 hz (rfl : zP 180 = (zk_X11_in, 3, (0, 0))) rfl rfl (Nat.le_of_ble_eq_true rfl) ⟨Nat.le_refl _, Nat.le_refl _⟩ (qx_in (by omega) hC   a5 (by omega) a4 (by omega) 9999 (by omega) ) (fun vr M20 hr => ?_)
            obtain ⟨hq, x21, rfl, hx21⟩ := hr
            replace hq := hq.symm; subst hq
            show zG n (0, 0) d 202 (62, [.inr (.inr (some 97)), .inl a1, .inl a2, .inl a3, .inl a4, .inl a5], [.inl x21]) M _
            refine zG_if_ne hd0 hz rfl (fun hb22 => ?_) (fun hb22 => ?_)
            · refine zG_blk (c' := (69, [.inr (.inr (some 97)), .inl a1, .inl a2, .inl a3, .inl a4, .inl a5], [.inr (.inr (some 97))])) 1 hd0 hz (by rfl) ?_
              refine zG_call hd0 hz (rfl : zP 197 = (zk_X11_isFull, 1, (0, 0))) rfl rfl (Nat.le_of_ble_eq_true rfl) ⟨Nat.le_refl _, Nat.le_refl _⟩ (qx_isFull (by omega) hC    ) (fun vr M23 hr => ?_)
              obtain ⟨hq, x24, rfl, hx24⟩ := hr
              replace hq := hq.symm; subst hq
              show zG n (0, 0) d 202 (72, [.inr (.inr (some 97)), .inl a1, .inl a2, .inl a3, .inl a4, .inl a5], [.inl x24]) M _
              refine zG_if_eq hd0 hz rfl (fun hb25 => ?_) (fun hb25 => ?_)
              · refine zG_blk (c' := (85, [.inr (.inr (some 97)), .inl a1, .inl a2, .inl a3, .inl a4, .inl a5], [.inl (-1), .inl a5, .inl a4, .inl 1, .inr (.inr (some 97))])) 5 hd0 hz (by rfl) ?_
                refine zG_call hd0 hz (rfl : zP 196 = (zk_X11_begins, 6, (0, 0))) rfl rfl (Nat.le_of_ble_eq_true rfl) ⟨Nat.le_refl _, Nat.le_refl _⟩ (qx_begins (by omega) hC   1 a4 a5 (-1) (by omega) (by omega) (by omega) (M 98 4) (by omega) (by omega) (by omega) ) (fun vr M26 hr => ?_)
                obtain ⟨⟨hCM26, hFM26⟩, rfl, hpx27_0, hpx27_1, hpx27_2, hpx27_3, hpx27_4, hpx27_5, hpx27_6, hpx27_7, hpx27_8, hpx27_9, hpx27_10, hpx27_11, hpx27_12⟩ := hr
                have hWM26 : qFm [98] M M26 := hW.tr hFM26 (by decide)
                have e28 : M26 98 6 = M 98 6 := hpx27_12 _ (by omega)
                have e29 : M26 98 4 = M 98 4 := hpx27_12 _ (by omega)
                show zG n (0, 0) d 202 (88, [.inr (.inr (some 97)), .inl a1, .inl a2, .inl a3, .inl a4, .inl a5], []) M26 _
                refine zG_blk (c' := (92, [.inr (.inr (some 97)), .inl a1, .inl a2, .inl a3, .inl a4, .inl a5], [.inl a1, .inl 6, .inr (.inr (some 97))])) 3 hd0 hz (by rfl) ?_
                refine zG_call hd0 hz (rfl : zP 195 = (zk_X11_puts, 3, (0, 0))) rfl rfl (Nat.le_of_ble_eq_true rfl) ⟨Nat.le_refl _, Nat.le_refl _⟩ (qx_putsM (by omega) hCM26   6 a1 (by omega) (M 98 4) (by omega) (by omega) (by omega) (by refine ⟨fun _ => ?_, fun _ => ?_, fun _ => ?_, fun _ => ?_⟩ <;> omega) ) (fun vr M30 hr => ?_)
                obtain ⟨⟨hCM30, hFM30⟩, rfl, hpx31_0, hpx31_1⟩ := hr
                have hWM30 : qFm [98] M M30 := hWM26.tr hFM30 (by decide)
                have e32 : M30 98 6 = M26 98 6 := hpx31_1 _ (by omega)
                have e33 : M30 98 4 = M26 98 4 := hpx31_1 _ (by omega)
                have e34 : qA M30 (M 98 4) 0 = qA M26 (M 98 4) 0 := by unfold qA; exact hpx31_1 _ (by omega)
                have e35 : qA M30 (M 98 4) 1 = qA M26 (M 98 4) 1 := by unfold qA; exact hpx31_1 _ (by omega)
                have e36 : qA M30 (M 98 4) 2 = qA M26 (M 98 4) 2 := by unfold qA; exact hpx31_1 _ (by omega)
                have e37 : qA M30 (M 98 4) 3 = qA M26 (M 98 4) 3 := by unfold qA; exact hpx31_1 _ (by omega)
                have e38 : qA M30 (M 98 4) 4 = qA M26 (M 98 4) 4 := by unfold qA; exact hpx31_1 _ (by omega)
                have e39 : qA M30 (M 98 4) 5 = qA M26 (M 98 4) 5 := by unfold qA; exact hpx31_1 _ (by omega)
                have e41 : qA M30 (M 98 4) 7 = qA M26 (M 98 4) 7 := by unfold qA; exact hpx31_1 _ (by omega)
                have e42 : qA M30 (M 98 4) 8 = qA M26 (M 98 4) 8 := by unfold qA; exact hpx31_1 _ (by omega)
                have e43 : qA M30 (M 98 4) 9 = qA M26 (M 98 4) 9 := by unfold qA; exact hpx31_1 _ (by omega)
                have e44 : qA M30 (M 98 4) 10 = qA M26 (M 98 4) 10 := by unfold qA; exact hpx31_1 _ (by omega)
                have e45 : qA M30 (M 98 4) 11 = qA M26 (M 98 4) 11 := by unfold qA; exact hpx31_1 _ (by omega)
                show zG n (0, 0) d 202 (95, [.inr (.inr (some 97)), .inl a1, .inl a2, .inl a3, .inl a4, .inl a5], []) M30 _
                refine zG_blk (c' := (99, [.inr (.inr (some 97)), .inl a1, .inl a2, .inl a3, .inl a4, .inl a5], [.inl a2, .inl 7, .inr (.inr (some 97))])) 3 hd0 hz (by rfl) ?_
                refine zG_call hd0 hz (rfl : zP 195 = (zk_X11_puts, 3, (0, 0))) rfl rfl (Nat.le_of_ble_eq_true rfl) ⟨Nat.le_refl _, Nat.le_refl _⟩ (qx_putsM (by omega) hCM30   7 a2 (by omega) (M 98 4) (by omega) (by omega) (by omega) (by refine ⟨fun _ => ?_, fun _ => ?_, fun _ => ?_, fun _ => ?_⟩ <;> omega) ) (fun vr M46 hr => ?_)
                obtain ⟨⟨hCM46, hFM46⟩, rfl, hpx47_0, hpx47_1⟩ := hr
                have hWM46 : qFm [98] M M46 := hWM30.tr hFM46 (by decide)
                have e48 : M46 98 6 = M30 98 6 := hpx47_1 _ (by omega)
                have e49 : M46 98 4 = M30 98 4 := hpx47_1 _ (by omega)
                have e50 : qA M46 (M 98 4) 0 = qA M30 (M 98 4) 0 := by unfold qA; exact hpx47_1 _ (by omega)
                have e51 : qA M46 (M 98 4) 1 = qA M30 (M 98 4) 1 := by unfold qA; exact hpx47_1 _ (by omega)
                have e52 : qA M46 (M 98 4) 2 = qA M30 (M 98 4) 2 := by unfold qA; exact hpx47_1 _ (by omega)
                have e53 : qA M46 (M 98 4) 3 = qA M30 (M 98 4) 3 := by unfold qA; exact hpx47_1 _ (by omega)
                have e54 : qA M46 (M 98 4) 4 = qA M30 (M 98 4) 4 := by unfold qA; exact hpx47_1 _ (by omega)
                have e55 : qA M46 (M 98 4) 5 = qA M30 (M 98 4) 5 := by unfold qA; exact hpx47_1 _ (by omega)
                have e57 : qA M46 (M 98 4) 8 = qA M30 (M 98 4) 8 := by unfold qA; exact hpx47_1 _ (by omega)
                have e58 : qA M46 (M 98 4) 9 = qA M30 (M 98 4) 9 := by unfold qA; exact hpx47_1 _ (by omega)
                have e59 : qA M46 (M 98 4) 10 = qA M30 (M 98 4) 10 := by unfold qA; exact hpx47_1 _ (by omega)
                have e60 : qA M46 (M 98 4) 11 = qA M30 (M 98 4) 11 := by unfold qA; exact hpx47_1 _ (by omega)
                have e61 : qA M46 (M 98 4) 6 = qA M30 (M 98 4) 6 := by unfold qA; exact hpx47_1 _ (by omega)
                show zG n (0, 0) d 202 (102, [.inr (.inr (some 97)), .inl a1, .inl a2, .inl a3, .inl a4, .inl a5], []) M46 _
                refine zG_blk (c' := (106, [.inr (.inr (some 97)), .inl a1, .inl a2, .inl a3, .inl a4, .inl a5], [.inl a3, .inl 8, .inr (.inr (some 97))])) 3 hd0 hz (by rfl) ?_
                refine zG_call hd0 hz (rfl : zP 195 = (zk_X11_puts, 3, (0, 0))) rfl rfl (Nat.le_of_ble_eq_true rfl) ⟨Nat.le_refl _, Nat.le_refl _⟩ (qx_putsM (by omega) hCM46   8 a3 (by omega) (M 98 4) (by omega) (by omega) (by omega) (by refine ⟨fun _ => ?_, fun _ => ?_, fun _ => ?_, fun _ => ?_⟩ <;> omega) ) (fun vr M62 hr => ?_)
                obtain ⟨⟨hCM62, hFM62⟩, rfl, hpx63_0, hpx63_1⟩ := hr
                have hWM62 : qFm [98] M M62 := hWM46.tr hFM62 (by decide)
                have e64 : M62 98 6 = M46 98 6 := hpx63_1 _ (by omega)
                have e65 : M62 98 4 = M46 98 4 := hpx63_1 _ (by omega)
                have e66 : qA M62 (M 98 4) 0 = qA M46 (M 98 4) 0 := by unfold qA; exact hpx63_1 _ (by omega)
                have e67 : qA M62 (M 98 4) 1 = qA M46 (M 98 4) 1 := by unfold qA; exact hpx63_1 _ (by omega)
                have e68 : qA M62 (M 98 4) 2 = qA M46 (M 98 4) 2 := by unfold qA; exact hpx63_1 _ (by omega)
                have e69 : qA M62 (M 98 4) 3 = qA M46 (M 98 4) 3 := by unfold qA; exact hpx63_1 _ (by omega)
                have e70 : qA M62 (M 98 4) 4 = qA M46 (M 98 4) 4 := by unfold qA; exact hpx63_1 _ (by omega)
                have e71 : qA M62 (M 98 4) 5 = qA M46 (M 98 4) 5 := by unfold qA; exact hpx63_1 _ (by omega)
                have e73 : qA M62 (M 98 4) 9 = qA M46 (M 98 4) 9 := by unfold qA; exact hpx63_1 _ (by omega)
                have e74 : qA M62 (M 98 4) 10 = qA M46 (M 98 4) 10 := by unfold qA; exact hpx63_1 _ (by omega)
                have e75 : qA M62 (M 98 4) 11 = qA M46 (M 98 4) 11 := by unfold qA; exact hpx63_1 _ (by omega)
                have e76 : qA M62 (M 98 4) 6 = qA M46 (M 98 4) 6 := by unfold qA; exact hpx63_1 _ (by omega)
                have e77 : qA M62 (M 98 4) 7 = qA M46 (M 98 4) 7 := by unfold qA; exact hpx63_1 _ (by omega)
                show zG n (0, 0) d 202 (109, [.inr (.inr (some 97)), .inl a1, .inl a2, .inl a3, .inl a4, .inl a5], []) M62 _
                refine zG_blk (c' := (111, [.inr (.inr (some 97)), .inl a1, .inl a2, .inl a3, .inl a4, .inl a5], [.inl 4, .inr (.inr (some 97))])) 2 hd0 hz (by rfl) ?_
                refine zG_call hd0 hz (rfl : zP 183 = (zk_X11_one, 2, (0, 0))) rfl rfl (Nat.le_of_ble_eq_true rfl) ⟨Nat.le_refl _, Nat.le_refl _⟩ (qx_one4 (by omega) hCM62   (M 98 4) (by omega) (by omega) (by refine ⟨?_, fun _ => ?_, fun _ => ?_, fun _ => ?_, fun _ => ?_, fun _ => ?_, fun _ => ?_, fun _ => ?_, fun _ => ?_, fun _ => ?_⟩ <;> omega) ) (fun vr M78 hr => ?_)
                obtain ⟨⟨hCM78, hFM78⟩, x79, rfl, hx79, hpx79_0, hpx79_1⟩ := hr
                have hWM78 : qFm [98] M M78 := hWM62.tr hFM78 (by decide)
                have e80 : M78 98 6 = M62 98 6 := hpx79_1 _ (by omega)
                have e82 : qA M78 (M 98 4) 0 = qA M62 (M 98 4) 0 := by unfold qA; exact hpx79_1 _ (by omega)
                have e83 : qA M78 (M 98 4) 1 = qA M62 (M 98 4) 1 := by unfold qA; exact hpx79_1 _ (by omega)
                have e84 : qA M78 (M 98 4) 2 = qA M62 (M 98 4) 2 := by unfold qA; exact hpx79_1 _ (by omega)
                have e85 : qA M78 (M 98 4) 3 = qA M62 (M 98 4) 3 := by unfold qA; exact hpx79_1 _ (by omega)
                have e86 : qA M78 (M 98 4) 4 = qA M62 (M 98 4) 4 := by unfold qA; exact hpx79_1 _ (by omega)
                have e87 : qA M78 (M 98 4) 5 = qA M62 (M 98 4) 5 := by unfold qA; exact hpx79_1 _ (by omega)
                have e88 : qA M78 (M 98 4) 9 = qA M62 (M 98 4) 9 := by unfold qA; exact hpx79_1 _ (by omega)
                have e89 : qA M78 (M 98 4) 10 = qA M62 (M 98 4) 10 := by unfold qA; exact hpx79_1 _ (by omega)
                have e90 : qA M78 (M 98 4) 11 = qA M62 (M 98 4) 11 := by unfold qA; exact hpx79_1 _ (by omega)
                have e91 : qA M78 (M 98 4) 6 = qA M62 (M 98 4) 6 := by unfold qA; exact hpx79_1 _ (by omega)
                have e92 : qA M78 (M 98 4) 7 = qA M62 (M 98 4) 7 := by unfold qA; exact hpx79_1 _ (by omega)
                have e93 : qA M78 (M 98 4) 8 = qA M62 (M 98 4) 8 := by unfold qA; exact hpx79_1 _ (by omega)
                show zG n (0, 0) d 202 (114, [.inr (.inr (some 97)), .inl a1, .inl a2, .inl a3, .inl a4, .inl a5], [.inl x79]) M78 _
                exact zG_ret hd0 hz rfl rfl ⟨⟨hCM78, hWM78⟩, _, rfl, by omega, by omega⟩
              · refine zG_blk (c' := (77, [.inr (.inr (some 97)), .inl a1, .inl a2, .inl a3, .inl a4, .inl a5], [.inl (-4)])) 1 hd0 hz (by rfl) ?_
                exact zG_ret hd0 hz rfl rfl ⟨⟨hC, hW⟩, _, rfl, by omega, by omega⟩
            · exact j65
theorem qm_203_97 {n d : Nat} {M : zM} (hd : 4 ≤ d) (hC : qMI M)  (a1 : Int) (ha1 : (-2147483648) ≤ a1 ∧ a1 ≤ 2147483647) (a2 : Int) (ha2 : (-2147483648) ≤ a2 ∧ a2 ≤ 2147483647) (a3 : Int) (ha3 : (-2147483648) ≤ a3 ∧ a3 ≤ 2147483647) (a4 : Int) (ha4 : (-2147483648) ≤ a4 ∧ a4 ≤ 2147483647) : qOkN n d 203 [.inr (.inr (some 97)), .inl a1, .inl a2, .inl a3, .inl a4] 5 [98] M (fun v M' => ∃ x : Int, v = some (.inl x) ∧ ((-2147483648) ≤ x ∧ x ≤ 2147483647) ∧ (M' 98 6 = M 98 6)) := by
  have hz : zP 203 = (zk_X11_moderate, 5, (0, 0)) := rfl
  have hd0 : 0 < d := by omega
  have hW : qFm [98] M M := qFm.rfl
  have r1 := hC.cnt6
  have r2 := hC.cnt4
  have r3 := hC.cnt3
  show zG n (0, 0) d 203 (0, [.inr (.inr (some 97)), .inl a1, .inl a2, .inl a3, .inl a4], []) M _
  refine zG_blk (c' := (2, [.inr (.inr (some 97)), .inl a1, .inl a2, .inl a3, .inl a4], [.inl a1, .inr (.inr (some 97))])) 2 hd0 hz (by rfl) ?_
  refine zG_call hd0 hz (rfl : zP 198 = (zk_X11_isMark, 2, (0, 0))) rfl rfl (Nat.le_of_ble_eq_true rfl) ⟨Nat.le_refl _, Nat.le_refl _⟩ (qm_198_97 (by omega) hC   a1 (by omega) ) (fun vr M4 hr => ?_)
  obtain ⟨hq, x5, rfl, hx5, hpx5_0⟩ := hr
  replace hq := hq.symm; subst hq
  show zG n (0, 0) d 203 (5, [.inr (.inr (some 97)), .inl a1, .inl a2, .inl a3, .inl a4], [.inl x5]) M _
  have j25 : zG n (0, 0) d 203 (25, [.inr (.inr (some 97)), .inl a1, .inl a2, .inl a3, .inl a4], []) M (fun v M' => (qMI M' ∧ qFm [98] M M') ∧ ∃ x : Int, v = some (.inl x) ∧ ((-2147483648) ≤ x ∧ x ≤ 2147483647) ∧ (M' 98 6 = M 98 6)) := by
    refine zG_blk (c' := (27, [.inr (.inr (some 97)), .inl a1, .inl a2, .inl a3, .inl a4], [.inl (-2)])) 1 hd0 hz (by rfl) ?_
    exact zG_ret hd0 hz rfl rfl ⟨⟨hC, hW⟩, _, rfl, by omega, by omega⟩
  refine zG_if_eq hd0 hz rfl (fun hb6 => ?_) (fun hb6 => ?_)
  · exact j25
  · refine zG_blk (c' := (9, [.inr (.inr (some 97)), .inl a1, .inl a2, .inl a3, .inl a4], [.inl a2])) 1 hd0 hz (by rfl) ?_
    refine zG_call hd0 hz (rfl : zP 185 = (zk_X11_isMarkNumber, 1, (0, 0))) rfl rfl (Nat.le_of_ble_eq_true rfl) ⟨Nat.le_refl _, Nat.le_refl _⟩ (qm_185 (by omega) hC   a2 (by omega) ) (fun vr M7 hr => ?_)
    obtain ⟨hq, x8, rfl, hx8, hpx8_0⟩ := hr
    replace hq := hq.symm; subst hq
    show zG n (0, 0) d 203 (12, [.inr (.inr (some 97)), .inl a1, .inl a2, .inl a3, .inl a4], [.inl x8]) M _
    refine zG_if_eq hd0 hz rfl (fun hb9 => ?_) (fun hb9 => ?_)
    · exact j25
    · refine zG_blk (c' := (19, [.inr (.inr (some 97)), .inl a1, .inl a2, .inl a3, .inl a4], [.inl a4, .inl a3, .inr (.inr (some 97))])) 3 hd0 hz (by rfl) ?_
      refine zG_call hd0 hz (rfl : zP 200 = (zk_X11_isBy, 3, (0, 0))) rfl rfl (Nat.le_of_ble_eq_true rfl) ⟨Nat.le_refl _, Nat.le_refl _⟩ (qm_200_97 (by omega) hC   a3 (by omega) a4 (by omega) ) (fun vr M10 hr => ?_)
      obtain ⟨hq, x11, rfl, hx11, hpx11_0⟩ := hr
      replace hq := hq.symm; subst hq
      show zG n (0, 0) d 203 (22, [.inr (.inr (some 97)), .inl a1, .inl a2, .inl a3, .inl a4], [.inl x11]) M _
      refine zG_if_ne hd0 hz rfl (fun hb12 => ?_) (fun hb12 => ?_)
      · refine zG_blk (c' := (29, [.inr (.inr (some 97)), .inl a1, .inl a2, .inl a3, .inl a4], [.inr (.inr (some 97))])) 1 hd0 hz (by rfl) ?_
        refine zG_call hd0 hz (rfl : zP 197 = (zk_X11_isFull, 1, (0, 0))) rfl rfl (Nat.le_of_ble_eq_true rfl) ⟨Nat.le_refl _, Nat.le_refl _⟩ (qx_isFull (by omega) hC    ) (fun vr M13 hr => ?_)
        obtain ⟨hq, x14, rfl, hx14⟩ := hr
        replace hq := hq.symm; subst hq
        show zG n (0, 0) d 203 (32, [.inr (.inr (some 97)), .inl a1, .inl a2, .inl a3, .inl a4], [.inl x14]) M _
        refine zG_if_eq hd0 hz rfl (fun hb15 => ?_) (fun hb15 => ?_)
        · refine zG_blk (c' := (42, [.inr (.inr (some 97)), .inl a1, .inl a2, .inl a3, .inl a4], [.inl a3, .inr (.inr (some 97)), .inl 2, .inr (.inr (some 97))])) 4 hd0 hz (by rfl) ?_
          refine zG_call hd0 hz (rfl : zP 199 = (zk_X11_dayOf, 2, (0, 0))) rfl rfl (Nat.le_of_ble_eq_true rfl) ⟨Nat.le_refl _, Nat.le_refl _⟩ (qx_dayOf (by omega) hC   a3 (by omega) ) (fun vr M16 hr => ?_)
          obtain ⟨hq, x17, rfl, hx17⟩ := hr
          replace hq := hq.symm; subst hq
          show zG n (0, 0) d 203 (45, [.inr (.inr (some 97)), .inl a1, .inl a2, .inl a3, .inl a4], [.inl x17, .inl 2, .inr (.inr (some 97))]) M _
          refine zG_blk (c' := (48, [.inr (.inr (some 97)), .inl a1, .inl a2, .inl a3, .inl a4], [.inl a3, .inl a4, .inl x17, .inl 2, .inr (.inr (some 97))])) 2 hd0 hz (by rfl) ?_
          refine zG_call hd0 hz (rfl : zP 196 = (zk_X11_begins, 6, (0, 0))) rfl rfl (Nat.le_of_ble_eq_true rfl) ⟨Nat.le_refl _, Nat.le_refl _⟩ (qx_begins (by omega) hC   2 x17 a4 a3 (by omega) (by omega) (by omega) (M 98 4) (by omega) (by omega) (by omega) ) (fun vr M18 hr => ?_)
          obtain ⟨⟨hCM18, hFM18⟩, rfl, hpx19_0, hpx19_1, hpx19_2, hpx19_3, hpx19_4, hpx19_5, hpx19_6, hpx19_7, hpx19_8, hpx19_9, hpx19_10, hpx19_11, hpx19_12⟩ := hr
          have hWM18 : qFm [98] M M18 := hW.tr hFM18 (by decide)
          have e20 : M18 98 6 = M 98 6 := hpx19_12 _ (by omega)
          have e21 : M18 98 4 = M 98 4 := hpx19_12 _ (by omega)
          have e22 : M18 98 3 = M 98 3 := hpx19_12 _ (by omega)
          show zG n (0, 0) d 203 (51, [.inr (.inr (some 97)), .inl a1, .inl a2, .inl a3, .inl a4], []) M18 _
          refine zG_blk (c' := (55, [.inr (.inr (some 97)), .inl a1, .inl a2, .inl a3, .inl a4], [.inl a1, .inl 6, .inr (.inr (some 97))])) 3 hd0 hz (by rfl) ?_
          refine zG_call hd0 hz (rfl : zP 195 = (zk_X11_puts, 3, (0, 0))) rfl rfl (Nat.le_of_ble_eq_true rfl) ⟨Nat.le_refl _, Nat.le_refl _⟩ (qx_putsM (by omega) hCM18   6 a1 (by omega) (M 98 4) (by omega) (by omega) (by omega) (by refine ⟨fun _ => ?_, fun _ => ?_, fun _ => ?_, fun _ => ?_⟩ <;> omega) ) (fun vr M23 hr => ?_)
          obtain ⟨⟨hCM23, hFM23⟩, rfl, hpx24_0, hpx24_1⟩ := hr
          have hWM23 : qFm [98] M M23 := hWM18.tr hFM23 (by decide)
          have e25 : M23 98 6 = M18 98 6 := hpx24_1 _ (by omega)
          have e26 : M23 98 4 = M18 98 4 := hpx24_1 _ (by omega)
          have e27 : M23 98 3 = M18 98 3 := hpx24_1 _ (by omega)
          have e28 : qA M23 (M 98 4) 0 = qA M18 (M 98 4) 0 := by unfold qA; exact hpx24_1 _ (by omega)
          have e29 : qA M23 (M 98 4) 1 = qA M18 (M 98 4) 1 := by unfold qA; exact hpx24_1 _ (by omega)
          have e30 : qA M23 (M 98 4) 2 = qA M18 (M 98 4) 2 := by unfold qA; exact hpx24_1 _ (by omega)
          have e31 : qA M23 (M 98 4) 3 = qA M18 (M 98 4) 3 := by unfold qA; exact hpx24_1 _ (by omega)
          have e32 : qA M23 (M 98 4) 4 = qA M18 (M 98 4) 4 := by unfold qA; exact hpx24_1 _ (by omega)
          have e33 : qA M23 (M 98 4) 5 = qA M18 (M 98 4) 5 := by unfold qA; exact hpx24_1 _ (by omega)
          have e35 : qA M23 (M 98 4) 7 = qA M18 (M 98 4) 7 := by unfold qA; exact hpx24_1 _ (by omega)
          have e36 : qA M23 (M 98 4) 8 = qA M18 (M 98 4) 8 := by unfold qA; exact hpx24_1 _ (by omega)
          have e37 : qA M23 (M 98 4) 9 = qA M18 (M 98 4) 9 := by unfold qA; exact hpx24_1 _ (by omega)
          have e38 : qA M23 (M 98 4) 10 = qA M18 (M 98 4) 10 := by unfold qA; exact hpx24_1 _ (by omega)
          have e39 : qA M23 (M 98 4) 11 = qA M18 (M 98 4) 11 := by unfold qA; exact hpx24_1 _ (by omega)
          show zG n (0, 0) d 203 (58, [.inr (.inr (some 97)), .inl a1, .inl a2, .inl a3, .inl a4], []) M23 _
          refine zG_blk (c' := (62, [.inr (.inr (some 97)), .inl a1, .inl a2, .inl a3, .inl a4], [.inl a2, .inl 7, .inr (.inr (some 97))])) 3 hd0 hz (by rfl) ?_
          refine zG_call hd0 hz (rfl : zP 195 = (zk_X11_puts, 3, (0, 0))) rfl rfl (Nat.le_of_ble_eq_true rfl) ⟨Nat.le_refl _, Nat.le_refl _⟩ (qx_putsM (by omega) hCM23   7 a2 (by omega) (M 98 4) (by omega) (by omega) (by omega) (by refine ⟨fun _ => ?_, fun _ => ?_, fun _ => ?_, fun _ => ?_⟩ <;> omega) ) (fun vr M40 hr => ?_)
          obtain ⟨⟨hCM40, hFM40⟩, rfl, hpx41_0, hpx41_1⟩ := hr
          have hWM40 : qFm [98] M M40 := hWM23.tr hFM40 (by decide)
          have e42 : M40 98 6 = M23 98 6 := hpx41_1 _ (by omega)
          have e43 : M40 98 4 = M23 98 4 := hpx41_1 _ (by omega)
          have e44 : M40 98 3 = M23 98 3 := hpx41_1 _ (by omega)
          have e45 : qA M40 (M 98 4) 0 = qA M23 (M 98 4) 0 := by unfold qA; exact hpx41_1 _ (by omega)
          have e46 : qA M40 (M 98 4) 1 = qA M23 (M 98 4) 1 := by unfold qA; exact hpx41_1 _ (by omega)
          have e47 : qA M40 (M 98 4) 2 = qA M23 (M 98 4) 2 := by unfold qA; exact hpx41_1 _ (by omega)
          have e48 : qA M40 (M 98 4) 3 = qA M23 (M 98 4) 3 := by unfold qA; exact hpx41_1 _ (by omega)
          have e49 : qA M40 (M 98 4) 4 = qA M23 (M 98 4) 4 := by unfold qA; exact hpx41_1 _ (by omega)
          have e50 : qA M40 (M 98 4) 5 = qA M23 (M 98 4) 5 := by unfold qA; exact hpx41_1 _ (by omega)
          have e52 : qA M40 (M 98 4) 8 = qA M23 (M 98 4) 8 := by unfold qA; exact hpx41_1 _ (by omega)
          have e53 : qA M40 (M 98 4) 9 = qA M23 (M 98 4) 9 := by unfold qA; exact hpx41_1 _ (by omega)
          have e54 : qA M40 (M 98 4) 10 = qA M23 (M 98 4) 10 := by unfold qA; exact hpx41_1 _ (by omega)
          have e55 : qA M40 (M 98 4) 11 = qA M23 (M 98 4) 11 := by unfold qA; exact hpx41_1 _ (by omega)
          have e56 : qA M40 (M 98 4) 6 = qA M23 (M 98 4) 6 := by unfold qA; exact hpx41_1 _ (by omega)
          show zG n (0, 0) d 203 (65, [.inr (.inr (some 97)), .inl a1, .inl a2, .inl a3, .inl a4], []) M40 _
          refine zG_blk (c' := (67, [.inr (.inr (some 97)), .inl a1, .inl a2, .inl a3, .inl a4], [.inl 4, .inr (.inr (some 97))])) 2 hd0 hz (by rfl) ?_
          refine zG_call hd0 hz (rfl : zP 183 = (zk_X11_one, 2, (0, 0))) rfl rfl (Nat.le_of_ble_eq_true rfl) ⟨Nat.le_refl _, Nat.le_refl _⟩ (qx_one4 (by omega) hCM40   (M 98 4) (by omega) (by omega) (by refine ⟨?_, fun _ => ?_, fun _ => ?_, fun _ => ?_, fun _ => ?_, fun _ => ?_, fun _ => ?_, fun _ => ?_, fun _ => ?_, fun _ => ?_⟩ <;> omega) ) (fun vr M57 hr => ?_)
          obtain ⟨⟨hCM57, hFM57⟩, x58, rfl, hx58, hpx58_0, hpx58_1⟩ := hr
          have hWM57 : qFm [98] M M57 := hWM40.tr hFM57 (by decide)
          have e59 : M57 98 6 = M40 98 6 := hpx58_1 _ (by omega)
          have e61 : M57 98 3 = M40 98 3 := hpx58_1 _ (by omega)
          have e62 : qA M57 (M 98 4) 0 = qA M40 (M 98 4) 0 := by unfold qA; exact hpx58_1 _ (by omega)
          have e63 : qA M57 (M 98 4) 1 = qA M40 (M 98 4) 1 := by unfold qA; exact hpx58_1 _ (by omega)
          have e64 : qA M57 (M 98 4) 2 = qA M40 (M 98 4) 2 := by unfold qA; exact hpx58_1 _ (by omega)
          have e65 : qA M57 (M 98 4) 3 = qA M40 (M 98 4) 3 := by unfold qA; exact hpx58_1 _ (by omega)
          have e66 : qA M57 (M 98 4) 4 = qA M40 (M 98 4) 4 := by unfold qA; exact hpx58_1 _ (by omega)
          have e67 : qA M57 (M 98 4) 5 = qA M40 (M 98 4) 5 := by unfold qA; exact hpx58_1 _ (by omega)
          have e68 : qA M57 (M 98 4) 8 = qA M40 (M 98 4) 8 := by unfold qA; exact hpx58_1 _ (by omega)
          have e69 : qA M57 (M 98 4) 9 = qA M40 (M 98 4) 9 := by unfold qA; exact hpx58_1 _ (by omega)
          have e70 : qA M57 (M 98 4) 10 = qA M40 (M 98 4) 10 := by unfold qA; exact hpx58_1 _ (by omega)
          have e71 : qA M57 (M 98 4) 11 = qA M40 (M 98 4) 11 := by unfold qA; exact hpx58_1 _ (by omega)
          have e72 : qA M57 (M 98 4) 6 = qA M40 (M 98 4) 6 := by unfold qA; exact hpx58_1 _ (by omega)
          have e73 : qA M57 (M 98 4) 7 = qA M40 (M 98 4) 7 := by unfold qA; exact hpx58_1 _ (by omega)
          show zG n (0, 0) d 203 (70, [.inr (.inr (some 97)), .inl a1, .inl a2, .inl a3, .inl a4], [.inl x58]) M57 _
          exact zG_ret hd0 hz rfl rfl ⟨⟨hCM57, hWM57⟩, _, rfl, by omega, by omega⟩
        · refine zG_blk (c' := (37, [.inr (.inr (some 97)), .inl a1, .inl a2, .inl a3, .inl a4], [.inl (-4)])) 1 hd0 hz (by rfl) ?_
          exact zG_ret hd0 hz rfl rfl ⟨⟨hC, hW⟩, _, rfl, by omega, by omega⟩
      · exact j25
theorem qm_204_97 {n d : Nat} {M : zM} (hd : 4 ≤ d) (hC : qMI M)  (a1 : Int) (ha1 : (-2147483648) ≤ a1 ∧ a1 ≤ 2147483647) (a2 : Int) (ha2 : (-2147483648) ≤ a2 ∧ a2 ≤ 2147483647) (a3 : Int) (ha3 : (-2147483648) ≤ a3 ∧ a3 ≤ 2147483647) (a4 : Int) (ha4 : (-2147483648) ≤ a4 ∧ a4 ≤ 2147483647) (a5 : Int) (ha5 : (-2147483648) ≤ a5 ∧ a5 ≤ 2147483647) (a6 : Int) (ha6 : (-2147483648) ≤ a6 ∧ a6 ≤ 2147483647) : qOkN n d 204 [.inr (.inr (some 97)), .inl a1, .inl a2, .inl a3, .inl a4, .inl a5, .inl a6] 7 [98] M (fun v M' => ∃ x : Int, v = some (.inl x) ∧ ((-2147483648) ≤ x ∧ x ≤ 2147483647) ∧ (M' 98 6 = M 98 6)) := by
  have hz : zP 204 = (zk_X11_scale, 7, (0, 0)) := rfl
  have hd0 : 0 < d := by omega
  have hW : qFm [98] M M := qFm.rfl
  have r1 := hC.cnt6
  have r2 := hC.cnt4
  have r3 := hC.cnt0
  have r4 := hC.cnt3
  show zG n (0, 0) d 204 (0, [.inr (.inr (some 97)), .inl a1, .inl a2, .inl a3, .inl a4, .inl a5, .inl a6], []) M _
  refine zG_blk (c' := (3, [.inr (.inr (some 97)), .inl a1, .inl a2, .inl a3, .inl a4, .inl a5, .inl a6], [.inl a1, .inl 0, .inr (.inr (some 97))])) 3 hd0 hz (by rfl) ?_
  refine zG_call hd0 hz (rfl : zP 182 = (zk_X11_is, 3, (0, 0))) rfl rfl (Nat.le_of_ble_eq_true rfl) ⟨Nat.le_refl _, Nat.le_refl _⟩ (qx_is (by omega) hC   0 (by omega) a1 (by omega) ) (fun vr M5 hr => ?_)
  obtain ⟨hq, x6, rfl, hx6⟩ := hr
  replace hq := hq.symm; subst hq
  show zG n (0, 0) d 204 (6, [.inr (.inr (some 97)), .inl a1, .inl a2, .inl a3, .inl a4, .inl a5, .inl a6], [.inl x6]) M _
  have j54 : zG n (0, 0) d 204 (54, [.inr (.inr (some 97)), .inl a1, .inl a2, .inl a3, .inl a4, .inl a5, .inl a6], []) M (fun v M' => (qMI M' ∧ qFm [98] M M') ∧ ∃ x : Int, v = some (.inl x) ∧ ((-2147483648) ≤ x ∧ x ≤ 2147483647) ∧ (M' 98 6 = M 98 6)) := by
    refine zG_blk (c' := (56, [.inr (.inr (some 97)), .inl a1, .inl a2, .inl a3, .inl a4, .inl a5, .inl a6], [.inl (-2)])) 1 hd0 hz (by rfl) ?_
    exact zG_ret hd0 hz rfl rfl ⟨⟨hC, hW⟩, _, rfl, by omega, by omega⟩
  refine zG_if_eq hd0 hz rfl (fun hb7 => ?_) (fun hb7 => ?_)
  · exact j54
  · refine zG_blk (c' := (14, [.inr (.inr (some 97)), .inl a1, .inl a2, .inl a3, .inl a4, .inl a5, .inl a6], [.inl 200, .inl 1, .inl a2])) 3 hd0 hz (by rfl) ?_
    refine zG_call hd0 hz (rfl : zP 180 = (zk_X11_in, 3, (0, 0))) rfl rfl (Nat.le_of_ble_eq_true rfl) ⟨Nat.le_refl _, Nat.le_refl _⟩ (qx_in (by omega) hC   a2 (by omega) 1 (by omega) 200 (by omega) ) (fun vr M8 hr => ?_)
    obtain ⟨hq, x9, rfl, hx9⟩ := hr
    replace hq := hq.symm; subst hq
    show zG n (0, 0) d 204 (17, [.inr (.inr (some 97)), .inl a1, .inl a2, .inl a3, .inl a4, .inl a5, .inl a6], [.inl x9]) M _
    refine zG_if_eq hd0 hz rfl (fun hb10 => ?_) (fun hb10 => ?_)
    · exact j54
    · refine zG_blk (c' := (25, [.inr (.inr (some 97)), .inl a1, .inl a2, .inl a3, .inl a4, .inl a5, .inl a6], [.inl 200, .inl 1, .inl a3])) 3 hd0 hz (by rfl) ?_
      refine zG_call hd0 hz (rfl : zP 180 = (zk_X11_in, 3, (0, 0))) rfl rfl (Nat.le_of_ble_eq_true rfl) ⟨Nat.le_refl _, Nat.le_refl _⟩ (qx_in (by omega) hC   a3 (by omega) 1 (by omega) 200 (by omega) ) (fun vr M11 hr => ?_)
      obtain ⟨hq, x12, rfl, hx12⟩ := hr
      replace hq := hq.symm; subst hq
      show zG n (0, 0) d 204 (28, [.inr (.inr (some 97)), .inl a1, .inl a2, .inl a3, .inl a4, .inl a5, .inl a6], [.inl x12]) M _
      refine zG_if_eq hd0 hz rfl (fun hb13 => ?_) (fun hb13 => ?_)
      · exact j54
      · refine zG_blk (c' := (37, [.inr (.inr (some 97)), .inl a1, .inl a2, .inl a3, .inl a4, .inl a5, .inl a6], [.inl 50, .inl (-50), .inl a4])) 3 hd0 hz (by rfl) ?_
        refine zG_call hd0 hz (rfl : zP 180 = (zk_X11_in, 3, (0, 0))) rfl rfl (Nat.le_of_ble_eq_true rfl) ⟨Nat.le_refl _, Nat.le_refl _⟩ (qx_in (by omega) hC   a4 (by omega) (-50) (by omega) 50 (by omega) ) (fun vr M14 hr => ?_)
        obtain ⟨hq, x15, rfl, hx15⟩ := hr
        replace hq := hq.symm; subst hq
        show zG n (0, 0) d 204 (40, [.inr (.inr (some 97)), .inl a1, .inl a2, .inl a3, .inl a4, .inl a5, .inl a6], [.inl x15]) M _
        refine zG_if_eq hd0 hz rfl (fun hb16 => ?_) (fun hb16 => ?_)
        · exact j54
        · refine zG_blk (c' := (48, [.inr (.inr (some 97)), .inl a1, .inl a2, .inl a3, .inl a4, .inl a5, .inl a6], [.inl a6, .inl a5, .inr (.inr (some 97))])) 3 hd0 hz (by rfl) ?_
          refine zG_call hd0 hz (rfl : zP 200 = (zk_X11_isBy, 3, (0, 0))) rfl rfl (Nat.le_of_ble_eq_true rfl) ⟨Nat.le_refl _, Nat.le_refl _⟩ (qm_200_97 (by omega) hC   a5 (by omega) a6 (by omega) ) (fun vr M17 hr => ?_)
          obtain ⟨hq, x18, rfl, hx18, hpx18_0⟩ := hr
          replace hq := hq.symm; subst hq
          show zG n (0, 0) d 204 (51, [.inr (.inr (some 97)), .inl a1, .inl a2, .inl a3, .inl a4, .inl a5, .inl a6], [.inl x18]) M _
          refine zG_if_ne hd0 hz rfl (fun hb19 => ?_) (fun hb19 => ?_)
          · refine zG_blk (c' := (58, [.inr (.inr (some 97)), .inl a1, .inl a2, .inl a3, .inl a4, .inl a5, .inl a6], [.inr (.inr (some 97))])) 1 hd0 hz (by rfl) ?_
            refine zG_call hd0 hz (rfl : zP 197 = (zk_X11_isFull, 1, (0, 0))) rfl rfl (Nat.le_of_ble_eq_true rfl) ⟨Nat.le_refl _, Nat.le_refl _⟩ (qx_isFull (by omega) hC    ) (fun vr M20 hr => ?_)
            obtain ⟨hq, x21, rfl, hx21⟩ := hr
            replace hq := hq.symm; subst hq
            show zG n (0, 0) d 204 (61, [.inr (.inr (some 97)), .inl a1, .inl a2, .inl a3, .inl a4, .inl a5, .inl a6], [.inl x21]) M _
            refine zG_if_eq hd0 hz rfl (fun hb22 => ?_) (fun hb22 => ?_)
            · refine zG_blk (c' := (72, [.inr (.inr (some 97)), .inl a1, .inl a2, .inl a3, .inl a4, .inl a5, .inl a6], [.inl a5, .inr (.inr (some 97)), .inl 3, .inr (.inr (some 97))])) 4 hd0 hz (by rfl) ?_
              refine zG_call hd0 hz (rfl : zP 199 = (zk_X11_dayOf, 2, (0, 0))) rfl rfl (Nat.le_of_ble_eq_true rfl) ⟨Nat.le_refl _, Nat.le_refl _⟩ (qx_dayOf (by omega) hC   a5 (by omega) ) (fun vr M23 hr => ?_)
              obtain ⟨hq, x24, rfl, hx24⟩ := hr
              replace hq := hq.symm; subst hq
              show zG n (0, 0) d 204 (75, [.inr (.inr (some 97)), .inl a1, .inl a2, .inl a3, .inl a4, .inl a5, .inl a6], [.inl x24, .inl 3, .inr (.inr (some 97))]) M _
              refine zG_blk (c' := (79, [.inr (.inr (some 97)), .inl a1, .inl a2, .inl a3, .inl a4, .inl a5, .inl a6], [.inl a5, .inl a6, .inl x24, .inl 3, .inr (.inr (some 97))])) 2 hd0 hz (by rfl) ?_
              refine zG_call hd0 hz (rfl : zP 196 = (zk_X11_begins, 6, (0, 0))) rfl rfl (Nat.le_of_ble_eq_true rfl) ⟨Nat.le_refl _, Nat.le_refl _⟩ (qx_begins (by omega) hC   3 x24 a6 a5 (by omega) (by omega) (by omega) (M 98 4) (by omega) (by omega) (by omega) ) (fun vr M25 hr => ?_)
              obtain ⟨⟨hCM25, hFM25⟩, rfl, hpx26_0, hpx26_1, hpx26_2, hpx26_3, hpx26_4, hpx26_5, hpx26_6, hpx26_7, hpx26_8, hpx26_9, hpx26_10, hpx26_11, hpx26_12⟩ := hr
              have hWM25 : qFm [98] M M25 := hW.tr hFM25 (by decide)
              have e27 : M25 98 6 = M 98 6 := hpx26_12 _ (by omega)
              have e28 : M25 98 4 = M 98 4 := hpx26_12 _ (by omega)
              have e29 : M25 98 0 = M 98 0 := hpx26_12 _ (by omega)
              have e30 : M25 98 3 = M 98 3 := hpx26_12 _ (by omega)
              show zG n (0, 0) d 204 (82, [.inr (.inr (some 97)), .inl a1, .inl a2, .inl a3, .inl a4, .inl a5, .inl a6], []) M25 _
              refine zG_blk (c' := (85, [.inr (.inr (some 97)), .inl a1, .inl a2, .inl a3, .inl a4, .inl a5, .inl a6], [.inl a1, .inl 5, .inr (.inr (some 97))])) 3 hd0 hz (by rfl) ?_
              refine zG_call hd0 hz (rfl : zP 195 = (zk_X11_puts, 3, (0, 0))) rfl rfl (Nat.le_of_ble_eq_true rfl) ⟨Nat.le_refl _, Nat.le_refl _⟩ (qx_putsM (by omega) hCM25   5 a1 (by omega) (M 98 4) (by omega) (by omega) (by omega) (by refine ⟨fun _ => ?_, fun _ => ?_, fun _ => ?_, fun _ => ?_⟩ <;> omega) ) (fun vr M31 hr => ?_)
              obtain ⟨⟨hCM31, hFM31⟩, rfl, hpx32_0, hpx32_1⟩ := hr
              have hWM31 : qFm [98] M M31 := hWM25.tr hFM31 (by decide)
              have e33 : M31 98 6 = M25 98 6 := hpx32_1 _ (by omega)
              have e34 : M31 98 4 = M25 98 4 := hpx32_1 _ (by omega)
              have e35 : M31 98 0 = M25 98 0 := hpx32_1 _ (by omega)
              have e36 : M31 98 3 = M25 98 3 := hpx32_1 _ (by omega)
              have e37 : qA M31 (M 98 4) 0 = qA M25 (M 98 4) 0 := by unfold qA; exact hpx32_1 _ (by omega)
              have e38 : qA M31 (M 98 4) 1 = qA M25 (M 98 4) 1 := by unfold qA; exact hpx32_1 _ (by omega)
              have e39 : qA M31 (M 98 4) 2 = qA M25 (M 98 4) 2 := by unfold qA; exact hpx32_1 _ (by omega)
              have e40 : qA M31 (M 98 4) 3 = qA M25 (M 98 4) 3 := by unfold qA; exact hpx32_1 _ (by omega)
              have e41 : qA M31 (M 98 4) 4 = qA M25 (M 98 4) 4 := by unfold qA; exact hpx32_1 _ (by omega)
              have e43 : qA M31 (M 98 4) 6 = qA M25 (M 98 4) 6 := by unfold qA; exact hpx32_1 _ (by omega)
              have e44 : qA M31 (M 98 4) 7 = qA M25 (M 98 4) 7 := by unfold qA; exact hpx32_1 _ (by omega)
              have e45 : qA M31 (M 98 4) 8 = qA M25 (M 98 4) 8 := by unfold qA; exact hpx32_1 _ (by omega)
              have e46 : qA M31 (M 98 4) 9 = qA M25 (M 98 4) 9 := by unfold qA; exact hpx32_1 _ (by omega)
              have e47 : qA M31 (M 98 4) 10 = qA M25 (M 98 4) 10 := by unfold qA; exact hpx32_1 _ (by omega)
              have e48 : qA M31 (M 98 4) 11 = qA M25 (M 98 4) 11 := by unfold qA; exact hpx32_1 _ (by omega)
              show zG n (0, 0) d 204 (88, [.inr (.inr (some 97)), .inl a1, .inl a2, .inl a3, .inl a4, .inl a5, .inl a6], []) M31 _
              refine zG_blk (c' := (92, [.inr (.inr (some 97)), .inl a1, .inl a2, .inl a3, .inl a4, .inl a5, .inl a6], [.inl a2, .inl 9, .inr (.inr (some 97))])) 3 hd0 hz (by rfl) ?_
              refine zG_call hd0 hz (rfl : zP 195 = (zk_X11_puts, 3, (0, 0))) rfl rfl (Nat.le_of_ble_eq_true rfl) ⟨Nat.le_refl _, Nat.le_refl _⟩ (qx_putsM (by omega) hCM31   9 a2 (by omega) (M 98 4) (by omega) (by omega) (by omega) (by refine ⟨fun _ => ?_, fun _ => ?_, fun _ => ?_, fun _ => ?_⟩ <;> omega) ) (fun vr M49 hr => ?_)
              obtain ⟨⟨hCM49, hFM49⟩, rfl, hpx50_0, hpx50_1⟩ := hr
              have hWM49 : qFm [98] M M49 := hWM31.tr hFM49 (by decide)
              have e51 : M49 98 6 = M31 98 6 := hpx50_1 _ (by omega)
              have e52 : M49 98 4 = M31 98 4 := hpx50_1 _ (by omega)
              have e53 : M49 98 0 = M31 98 0 := hpx50_1 _ (by omega)
              have e54 : M49 98 3 = M31 98 3 := hpx50_1 _ (by omega)
              have e55 : qA M49 (M 98 4) 0 = qA M31 (M 98 4) 0 := by unfold qA; exact hpx50_1 _ (by omega)
              have e56 : qA M49 (M 98 4) 1 = qA M31 (M 98 4) 1 := by unfold qA; exact hpx50_1 _ (by omega)
              have e57 : qA M49 (M 98 4) 2 = qA M31 (M 98 4) 2 := by unfold qA; exact hpx50_1 _ (by omega)
              have e58 : qA M49 (M 98 4) 3 = qA M31 (M 98 4) 3 := by unfold qA; exact hpx50_1 _ (by omega)
              have e59 : qA M49 (M 98 4) 4 = qA M31 (M 98 4) 4 := by unfold qA; exact hpx50_1 _ (by omega)
              have e60 : qA M49 (M 98 4) 6 = qA M31 (M 98 4) 6 := by unfold qA; exact hpx50_1 _ (by omega)
              have e61 : qA M49 (M 98 4) 7 = qA M31 (M 98 4) 7 := by unfold qA; exact hpx50_1 _ (by omega)
              have e62 : qA M49 (M 98 4) 8 = qA M31 (M 98 4) 8 := by unfold qA; exact hpx50_1 _ (by omega)
              have e64 : qA M49 (M 98 4) 10 = qA M31 (M 98 4) 10 := by unfold qA; exact hpx50_1 _ (by omega)
              have e65 : qA M49 (M 98 4) 11 = qA M31 (M 98 4) 11 := by unfold qA; exact hpx50_1 _ (by omega)
              have e66 : qA M49 (M 98 4) 5 = qA M31 (M 98 4) 5 := by unfold qA; exact hpx50_1 _ (by omega)
              show zG n (0, 0) d 204 (95, [.inr (.inr (some 97)), .inl a1, .inl a2, .inl a3, .inl a4, .inl a5, .inl a6], []) M49 _
              refine zG_blk (c' := (99, [.inr (.inr (some 97)), .inl a1, .inl a2, .inl a3, .inl a4, .inl a5, .inl a6], [.inl a3, .inl 10, .inr (.inr (some 97))])) 3 hd0 hz (by rfl) ?_
              refine zG_call hd0 hz (rfl : zP 195 = (zk_X11_puts, 3, (0, 0))) rfl rfl (Nat.le_of_ble_eq_true rfl) ⟨Nat.le_refl _, Nat.le_refl _⟩ (qx_putsM (by omega) hCM49   10 a3 (by omega) (M 98 4) (by omega) (by omega) (by omega) (by refine ⟨fun _ => ?_, fun _ => ?_, fun _ => ?_, fun _ => ?_⟩ <;> omega) ) (fun vr M67 hr => ?_)
              obtain ⟨⟨hCM67, hFM67⟩, rfl, hpx68_0, hpx68_1⟩ := hr
              have hWM67 : qFm [98] M M67 := hWM49.tr hFM67 (by decide)
              have e69 : M67 98 6 = M49 98 6 := hpx68_1 _ (by omega)
              have e70 : M67 98 4 = M49 98 4 := hpx68_1 _ (by omega)
              have e71 : M67 98 0 = M49 98 0 := hpx68_1 _ (by omega)
              have e72 : M67 98 3 = M49 98 3 := hpx68_1 _ (by omega)
              have e73 : qA M67 (M 98 4) 0 = qA M49 (M 98 4) 0 := by unfold qA; exact hpx68_1 _ (by omega)
              have e74 : qA M67 (M 98 4) 1 = qA M49 (M 98 4) 1 := by unfold qA; exact hpx68_1 _ (by omega)
              have e75 : qA M67 (M 98 4) 2 = qA M49 (M 98 4) 2 := by unfold qA; exact hpx68_1 _ (by omega)
              have e76 : qA M67 (M 98 4) 3 = qA M49 (M 98 4) 3 := by unfold qA; exact hpx68_1 _ (by omega)
              have e77 : qA M67 (M 98 4) 4 = qA M49 (M 98 4) 4 := by unfold qA; exact hpx68_1 _ (by omega)
              have e78 : qA M67 (M 98 4) 6 = qA M49 (M 98 4) 6 := by unfold qA; exact hpx68_1 _ (by omega)
              have e79 : qA M67 (M 98 4) 7 = qA M49 (M 98 4) 7 := by unfold qA; exact hpx68_1 _ (by omega)
              have e80 : qA M67 (M 98 4) 8 = qA M49 (M 98 4) 8 := by unfold qA; exact hpx68_1 _ (by omega)
              have e82 : qA M67 (M 98 4) 11 = qA M49 (M 98 4) 11 := by unfold qA; exact hpx68_1 _ (by omega)
              have e83 : qA M67 (M 98 4) 5 = qA M49 (M 98 4) 5 := by unfold qA; exact hpx68_1 _ (by omega)
              have e84 : qA M67 (M 98 4) 9 = qA M49 (M 98 4) 9 := by unfold qA; exact hpx68_1 _ (by omega)
              show zG n (0, 0) d 204 (102, [.inr (.inr (some 97)), .inl a1, .inl a2, .inl a3, .inl a4, .inl a5, .inl a6], []) M67 _
              refine zG_blk (c' := (107, [.inr (.inr (some 97)), .inl a1, .inl a2, .inl a3, .inl a4, .inl a5, .inl a6], [.inl a4, .inl 11, .inr (.inr (some 97))])) 3 hd0 hz (by rfl) ?_
              refine zG_call hd0 hz (rfl : zP 195 = (zk_X11_puts, 3, (0, 0))) rfl rfl (Nat.le_of_ble_eq_true rfl) ⟨Nat.le_refl _, Nat.le_refl _⟩ (qx_putsM (by omega) hCM67   11 a4 (by omega) (M 98 4) (by omega) (by omega) (by omega) (by refine ⟨fun _ => ?_, fun _ => ?_, fun _ => ?_, fun _ => ?_⟩ <;> omega) ) (fun vr M85 hr => ?_)
              obtain ⟨⟨hCM85, hFM85⟩, rfl, hpx86_0, hpx86_1⟩ := hr
              have hWM85 : qFm [98] M M85 := hWM67.tr hFM85 (by decide)
              have e87 : M85 98 6 = M67 98 6 := hpx86_1 _ (by omega)
              have e88 : M85 98 4 = M67 98 4 := hpx86_1 _ (by omega)
              have e89 : M85 98 0 = M67 98 0 := hpx86_1 _ (by omega)
              have e90 : M85 98 3 = M67 98 3 := hpx86_1 _ (by omega)
              have e91 : qA M85 (M 98 4) 0 = qA M67 (M 98 4) 0 := by unfold qA; exact hpx86_1 _ (by omega)
              have e92 : qA M85 (M 98 4) 1 = qA M67 (M 98 4) 1 := by unfold qA; exact hpx86_1 _ (by omega)
              have e93 : qA M85 (M 98 4) 2 = qA M67 (M 98 4) 2 := by unfold qA; exact hpx86_1 _ (by omega)
              have e94 : qA M85 (M 98 4) 3 = qA M67 (M 98 4) 3 := by unfold qA; exact hpx86_1 _ (by omega)
              have e95 : qA M85 (M 98 4) 4 = qA M67 (M 98 4) 4 := by unfold qA; exact hpx86_1 _ (by omega)
              have e96 : qA M85 (M 98 4) 6 = qA M67 (M 98 4) 6 := by unfold qA; exact hpx86_1 _ (by omega)
              have e97 : qA M85 (M 98 4) 7 = qA M67 (M 98 4) 7 := by unfold qA; exact hpx86_1 _ (by omega)
              have e98 : qA M85 (M 98 4) 8 = qA M67 (M 98 4) 8 := by unfold qA; exact hpx86_1 _ (by omega)
              have e100 : qA M85 (M 98 4) 5 = qA M67 (M 98 4) 5 := by unfold qA; exact hpx86_1 _ (by omega)
              have e101 : qA M85 (M 98 4) 9 = qA M67 (M 98 4) 9 := by unfold qA; exact hpx86_1 _ (by omega)
              have e102 : qA M85 (M 98 4) 10 = qA M67 (M 98 4) 10 := by unfold qA; exact hpx86_1 _ (by omega)
              show zG n (0, 0) d 204 (110, [.inr (.inr (some 97)), .inl a1, .inl a2, .inl a3, .inl a4, .inl a5, .inl a6], []) M85 _
              refine zG_blk (c' := (112, [.inr (.inr (some 97)), .inl a1, .inl a2, .inl a3, .inl a4, .inl a5, .inl a6], [.inl 4, .inr (.inr (some 97))])) 2 hd0 hz (by rfl) ?_
              refine zG_call hd0 hz (rfl : zP 183 = (zk_X11_one, 2, (0, 0))) rfl rfl (Nat.le_of_ble_eq_true rfl) ⟨Nat.le_refl _, Nat.le_refl _⟩ (qx_one4 (by omega) hCM85   (M 98 4) (by omega) (by omega) (by refine ⟨?_, fun _ => ?_, fun _ => ?_, fun _ => ?_, fun _ => ?_, fun _ => ?_, fun _ => ?_, fun _ => ?_, fun _ => ?_, fun _ => ?_⟩ <;> omega) ) (fun vr M103 hr => ?_)
              obtain ⟨⟨hCM103, hFM103⟩, x104, rfl, hx104, hpx104_0, hpx104_1⟩ := hr
              have hWM103 : qFm [98] M M103 := hWM85.tr hFM103 (by decide)
              have e105 : M103 98 6 = M85 98 6 := hpx104_1 _ (by omega)
              have e107 : M103 98 0 = M85 98 0 := hpx104_1 _ (by omega)
              have e108 : M103 98 3 = M85 98 3 := hpx104_1 _ (by omega)
              have e109 : qA M103 (M 98 4) 0 = qA M85 (M 98 4) 0 := by unfold qA; exact hpx104_1 _ (by omega)
              have e110 : qA M103 (M 98 4) 1 = qA M85 (M 98 4) 1 := by unfold qA; exact hpx104_1 _ (by omega)
              have e111 : qA M103 (M 98 4) 2 = qA M85 (M 98 4) 2 := by unfold qA; exact hpx104_1 _ (by omega)
              have e112 : qA M103 (M 98 4) 3 = qA M85 (M 98 4) 3 := by unfold qA; exact hpx104_1 _ (by omega)
              have e113 : qA M103 (M 98 4) 4 = qA M85 (M 98 4) 4 := by unfold qA; exact hpx104_1 _ (by omega)
              have e114 : qA M103 (M 98 4) 6 = qA M85 (M 98 4) 6 := by unfold qA; exact hpx104_1 _ (by omega)
              have e115 : qA M103 (M 98 4) 7 = qA M85 (M 98 4) 7 := by unfold qA; exact hpx104_1 _ (by omega)
              have e116 : qA M103 (M 98 4) 8 = qA M85 (M 98 4) 8 := by unfold qA; exact hpx104_1 _ (by omega)
              have e117 : qA M103 (M 98 4) 5 = qA M85 (M 98 4) 5 := by unfold qA; exact hpx104_1 _ (by omega)
              have e118 : qA M103 (M 98 4) 9 = qA M85 (M 98 4) 9 := by unfold qA; exact hpx104_1 _ (by omega)
              have e119 : qA M103 (M 98 4) 10 = qA M85 (M 98 4) 10 := by unfold qA; exact hpx104_1 _ (by omega)
              have e120 : qA M103 (M 98 4) 11 = qA M85 (M 98 4) 11 := by unfold qA; exact hpx104_1 _ (by omega)
              show zG n (0, 0) d 204 (115, [.inr (.inr (some 97)), .inl a1, .inl a2, .inl a3, .inl a4, .inl a5, .inl a6], [.inl x104]) M103 _
              exact zG_ret hd0 hz rfl rfl ⟨⟨hCM103, hWM103⟩, _, rfl, by omega, by omega⟩
            · refine zG_blk (c' := (66, [.inr (.inr (some 97)), .inl a1, .inl a2, .inl a3, .inl a4, .inl a5, .inl a6], [.inl (-4)])) 1 hd0 hz (by rfl) ?_
              exact zG_ret hd0 hz rfl rfl ⟨⟨hC, hW⟩, _, rfl, by omega, by omega⟩
          · exact j54
