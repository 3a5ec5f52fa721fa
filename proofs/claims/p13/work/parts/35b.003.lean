theorem qm_204_97 {n d : Nat} {M : zM} (hd : 4 ≤ d) (hC : qMI M)  (a1 : Int) (ha1 : (-2147483648) ≤ a1 ∧ a1 ≤ 2147483647) (a2 : Int) (ha2 : (-2147483648) ≤ a2 ∧ a2 ≤ 2147483647) (a3 : Int) (ha3 : (-2147483648) ≤ a3 ∧ a3 ≤ 2147483647) (a4 : Int) (ha4 : (-2147483648) ≤ a4 ∧ a4 ≤ 2147483647) (a5 : Int) (ha5 : (-2147483648) ≤ a5 ∧ a5 ≤ 2147483647) (a6 : Int) (ha6 : (-2147483648) ≤ a6 ∧ a6 ≤ 2147483647) : qOkN n d 204 [.inr (.inr (some 97)), .inl a1, .inl a2, .inl a3, .inl a4, .inl a5, .inl a6] 7 [98] M (fun v M' => ∃ x : Int, v = some (.inl x) ∧ ((-2147483648) ≤ x ∧ x ≤ 2147483647)) := by
  have hz := zp_204
  have hd0 : 0 < d := by omega
  have hW : qFm [98] M M := qFm.rfl
  have r1 := hC.cnt4
  have r2 := hC.cnt0
  have r3 := hC.cnt3
  show zG n (0, 0) d 204 (0, [.inr (.inr (some 97)), .inl a1, .inl a2, .inl a3, .inl a4, .inl a5, .inl a6], []) M _
  refine zG_blk (c' := (3, [.inr (.inr (some 97)), .inl a1, .inl a2, .inl a3, .inl a4, .inl a5, .inl a6], [.inl a1, .inl 0, .inr (.inr (some 97))])) 3 hd0 hz (by rfl) ?_
  refine zG_call hd0 hz zp_182 rfl rfl (Nat.le_of_ble_eq_true rfl) ⟨Nat.le_refl _, Nat.le_refl _⟩ (qx_is (by first | exact zdp hd (by decide) | omega) hC   0 (by first | decide | omega) a1 (by first | with_reducible exact ha1 | omega) ) (fun vr M4 hr => ?_)
  obtain ⟨hq, x5, rfl, hx5⟩ := hr
  replace hq := hq.symm; subst hq
  show zG n (0, 0) d 204 (6, [.inr (.inr (some 97)), .inl a1, .inl a2, .inl a3, .inl a4, .inl a5, .inl a6], [.inl x5]) M _
  have j54 : zG n (0, 0) d 204 (54, [.inr (.inr (some 97)), .inl a1, .inl a2, .inl a3, .inl a4, .inl a5, .inl a6], []) M (fun v M' => (qMI M' ∧ qFm [98] M M') ∧ ∃ x : Int, v = some (.inl x) ∧ ((-2147483648) ≤ x ∧ x ≤ 2147483647)) := by
    refine zG_blk (c' := (56, [.inr (.inr (some 97)), .inl a1, .inl a2, .inl a3, .inl a4, .inl a5, .inl a6], [.inl (-2)])) 1 hd0 hz (by rfl) ?_
    exact zG_ret hd0 hz rfl rfl ⟨⟨hC, hW⟩, _, rfl, by omega⟩
  refine zG_if_eq hd0 hz rfl (fun hb6 => ?_) (fun hb6 => ?_)
  · exact j54
  · have hcx5 := hx5.2.2.mp (by omega)
    clear hx5 hb6
    refine zG_blk (c' := (14, [.inr (.inr (some 97)), .inl a1, .inl a2, .inl a3, .inl a4, .inl a5, .inl a6], [.inl 200, .inl 1, .inl a2])) 3 hd0 hz (by rfl) ?_
    refine zG_call hd0 hz zp_180 rfl rfl (Nat.le_of_ble_eq_true rfl) ⟨Nat.le_refl _, Nat.le_refl _⟩ (qx_in (by first | exact zdp hd (by decide) | omega) hC   a2 (by first | with_reducible exact ha2 | omega) 1 (by first | decide | omega) 200 (by first | decide | omega) ) (fun vr M7 hr => ?_)
    obtain ⟨hq, x8, rfl, hx8⟩ := hr
    replace hq := hq.symm; subst hq
    show zG n (0, 0) d 204 (17, [.inr (.inr (some 97)), .inl a1, .inl a2, .inl a3, .inl a4, .inl a5, .inl a6], [.inl x8]) M _
    refine zG_if_eq hd0 hz rfl (fun hb9 => ?_) (fun hb9 => ?_)
    · exact j54
    · have hcx8 := hx8.2.2.mp (by omega)
      clear hx8 hb9
      refine zG_blk (c' := (25, [.inr (.inr (some 97)), .inl a1, .inl a2, .inl a3, .inl a4, .inl a5, .inl a6], [.inl 200, .inl 1, .inl a3])) 3 hd0 hz (by rfl) ?_
      refine zG_call hd0 hz zp_180 rfl rfl (Nat.le_of_ble_eq_true rfl) ⟨Nat.le_refl _, Nat.le_refl _⟩ (qx_in (by first | exact zdp hd (by decide) | omega) hC   a3 (by first | with_reducible exact ha3 | omega) 1 (by first | decide | omega) 200 (by first | decide | omega) ) (fun vr M10 hr => ?_)
      obtain ⟨hq, x11, rfl, hx11⟩ := hr
      replace hq := hq.symm; subst hq
      show zG n (0, 0) d 204 (28, [.inr (.inr (some 97)), .inl a1, .inl a2, .inl a3, .inl a4, .inl a5, .inl a6], [.inl x11]) M _
      refine zG_if_eq hd0 hz rfl (fun hb12 => ?_) (fun hb12 => ?_)
      · exact j54
      · have hcx11 := hx11.2.2.mp (by omega)
        clear hx11 hb12
        refine zG_blk (c' := (37, [.inr (.inr (some 97)), .inl a1, .inl a2, .inl a3, .inl a4, .inl a5, .inl a6], [.inl 50, .inl (-50), .inl a4])) 3 hd0 hz (by rfl) ?_
        refine zG_call hd0 hz zp_180 rfl rfl (Nat.le_of_ble_eq_true rfl) ⟨Nat.le_refl _, Nat.le_refl _⟩ (qx_in (by first | exact zdp hd (by decide) | omega) hC   a4 (by first | with_reducible exact ha4 | omega) (-50) (by first | decide | omega) 50 (by first | decide | omega) ) (fun vr M13 hr => ?_)
        obtain ⟨hq, x14, rfl, hx14⟩ := hr
        replace hq := hq.symm; subst hq
        show zG n (0, 0) d 204 (40, [.inr (.inr (some 97)), .inl a1, .inl a2, .inl a3, .inl a4, .inl a5, .inl a6], [.inl x14]) M _
        refine zG_if_eq hd0 hz rfl (fun hb15 => ?_) (fun hb15 => ?_)
        · exact j54
        · have hcx14 := hx14.2.2.mp (by omega)
          clear hx14 hb15
          refine zG_blk (c' := (48, [.inr (.inr (some 97)), .inl a1, .inl a2, .inl a3, .inl a4, .inl a5, .inl a6], [.inl a6, .inl a5, .inr (.inr (some 97))])) 3 hd0 hz (by rfl) ?_
          refine zG_call hd0 hz zp_200 rfl rfl (Nat.le_of_ble_eq_true rfl) ⟨Nat.le_refl _, Nat.le_refl _⟩ (qm_200_97 (by first | exact zdp hd (by decide) | omega) hC   a5 (by first | with_reducible exact ha5 | omega) a6 (by first | with_reducible exact ha6 | omega) ) (fun vr M16 hr => ?_)
          obtain ⟨hq, x17, rfl, hx17, hpx17_0⟩ := hr
          replace hq := hq.symm; subst hq
          show zG n (0, 0) d 204 (51, [.inr (.inr (some 97)), .inl a1, .inl a2, .inl a3, .inl a4, .inl a5, .inl a6], [.inl x17]) M _
          refine zG_if_ne hd0 hz rfl (fun hb18 => ?_) (fun hb18 => ?_)
          · have hcx17 := hpx17_0.mp (by omega)
            clear hx17 hpx17_0 hb18
            refine zG_blk (c' := (58, [.inr (.inr (some 97)), .inl a1, .inl a2, .inl a3, .inl a4, .inl a5, .inl a6], [.inr (.inr (some 97))])) 1 hd0 hz (by rfl) ?_
            refine zG_call hd0 hz zp_197 rfl rfl (Nat.le_of_ble_eq_true rfl) ⟨Nat.le_refl _, Nat.le_refl _⟩ (qx_isFull (by first | exact zdp hd (by decide) | omega) hC    ) (fun vr M19 hr => ?_)
            obtain ⟨hq, x20, rfl, hx20⟩ := hr
            replace hq := hq.symm; subst hq
            show zG n (0, 0) d 204 (61, [.inr (.inr (some 97)), .inl a1, .inl a2, .inl a3, .inl a4, .inl a5, .inl a6], [.inl x20]) M _
            refine zG_if_eq hd0 hz rfl (fun hb21 => ?_) (fun hb21 => ?_)
            · refine zG_blk (c' := (72, [.inr (.inr (some 97)), .inl a1, .inl a2, .inl a3, .inl a4, .inl a5, .inl a6], [.inl a5, .inr (.inr (some 97)), .inl 3, .inr (.inr (some 97))])) 4 hd0 hz (by rfl) ?_
              refine zG_call hd0 hz zp_199 rfl rfl (Nat.le_of_ble_eq_true rfl) ⟨Nat.le_refl _, Nat.le_refl _⟩ (qx_dayOf (by first | exact zdp hd (by decide) | omega) hC   a5 (by first | with_reducible exact ha5 | omega) ) (fun vr M22 hr => ?_)
              obtain ⟨hq, x23, rfl, hx23⟩ := hr
              replace hq := hq.symm; subst hq
              show zG n (0, 0) d 204 (75, [.inr (.inr (some 97)), .inl a1, .inl a2, .inl a3, .inl a4, .inl a5, .inl a6], [.inl x23, .inl 3, .inr (.inr (some 97))]) M _
              refine zG_blk (c' := (79, [.inr (.inr (some 97)), .inl a1, .inl a2, .inl a3, .inl a4, .inl a5, .inl a6], [.inl a5, .inl a6, .inl x23, .inl 3, .inr (.inr (some 97))])) 2 hd0 hz (by rfl) ?_
              refine zG_call hd0 hz zp_196 rfl rfl (Nat.le_of_ble_eq_true rfl) ⟨Nat.le_refl _, Nat.le_refl _⟩ (qx_begins (by first | exact zdp hd (by decide) | omega) hC   3 x23 a6 a5 (by first | with_reducible exact ha5 | omega) (by omega) (by omega) (M 98 4) (by omega) (by omega) (by omega) ) (fun vr M24 hr => ?_)
              obtain ⟨⟨hCM24, hFM24⟩, rfl, hpx25_0, hpx25_1, hpx25_2, hpx25_3, hpx25_4, hpx25_5, hpx25_6, hpx25_7, hpx25_8, hpx25_9, hpx25_10, hpx25_11, hpx25_12⟩ := hr
              have hWM24 : qFm [98] M M24 := hW.tr hFM24 (by decide)
              have e26 : M24 98 4 = M 98 4 := hpx25_12 _ (by omega)
              have e27 : M24 98 0 = M 98 0 := hpx25_12 _ (by omega)
              have e28 : M24 98 3 = M 98 3 := hpx25_12 _ (by omega)
              show zG n (0, 0) d 204 (82, [.inr (.inr (some 97)), .inl a1, .inl a2, .inl a3, .inl a4, .inl a5, .inl a6], []) M24 _
              refine zG_blk (c' := (85, [.inr (.inr (some 97)), .inl a1, .inl a2, .inl a3, .inl a4, .inl a5, .inl a6], [.inl a1, .inl 5, .inr (.inr (some 97))])) 3 hd0 hz (by rfl) ?_
              refine zG_call hd0 hz zp_195 rfl rfl (Nat.le_of_ble_eq_true rfl) ⟨Nat.le_refl _, Nat.le_refl _⟩ (qx_putsM (by first | exact zdp hd (by decide) | omega) hCM24   5 a1 (by first | with_reducible exact ha1 | omega) (M 98 4) (by omega) (by omega) (by omega) (by refine ⟨fun _ => ?_, fun _ => ?_, fun _ => ?_, fun _ => ?_⟩ <;> omega) ) (fun vr M29 hr => ?_)
              obtain ⟨⟨hCM29, hFM29⟩, rfl, hpx30_0, hpx30_1⟩ := hr
              have hWM29 : qFm [98] M M29 := hWM24.tr hFM29 (by decide)
              have e31 : M29 98 4 = M24 98 4 := hpx30_1 _ (by omega)
              have e32 : M29 98 0 = M24 98 0 := hpx30_1 _ (by omega)
              have e33 : M29 98 3 = M24 98 3 := hpx30_1 _ (by omega)
              have e34 : qA M29 (M 98 4) 0 = qA M24 (M 98 4) 0 := by unfold qA; exact hpx30_1 _ (by omega)
              have e35 : qA M29 (M 98 4) 1 = qA M24 (M 98 4) 1 := by unfold qA; exact hpx30_1 _ (by omega)
              have e36 : qA M29 (M 98 4) 2 = qA M24 (M 98 4) 2 := by unfold qA; exact hpx30_1 _ (by omega)
              have e37 : qA M29 (M 98 4) 3 = qA M24 (M 98 4) 3 := by unfold qA; exact hpx30_1 _ (by omega)
              have e38 : qA M29 (M 98 4) 4 = qA M24 (M 98 4) 4 := by unfold qA; exact hpx30_1 _ (by omega)
              have e40 : qA M29 (M 98 4) 6 = qA M24 (M 98 4) 6 := by unfold qA; exact hpx30_1 _ (by omega)
              have e41 : qA M29 (M 98 4) 7 = qA M24 (M 98 4) 7 := by unfold qA; exact hpx30_1 _ (by omega)
              have e42 : qA M29 (M 98 4) 8 = qA M24 (M 98 4) 8 := by unfold qA; exact hpx30_1 _ (by omega)
              have e43 : qA M29 (M 98 4) 9 = qA M24 (M 98 4) 9 := by unfold qA; exact hpx30_1 _ (by omega)
              have e44 : qA M29 (M 98 4) 10 = qA M24 (M 98 4) 10 := by unfold qA; exact hpx30_1 _ (by omega)
              have e45 : qA M29 (M 98 4) 11 = qA M24 (M 98 4) 11 := by unfold qA; exact hpx30_1 _ (by omega)
              show zG n (0, 0) d 204 (88, [.inr (.inr (some 97)), .inl a1, .inl a2, .inl a3, .inl a4, .inl a5, .inl a6], []) M29 _
              refine zG_blk (c' := (92, [.inr (.inr (some 97)), .inl a1, .inl a2, .inl a3, .inl a4, .inl a5, .inl a6], [.inl a2, .inl 9, .inr (.inr (some 97))])) 3 hd0 hz (by rfl) ?_
              refine zG_call hd0 hz zp_195 rfl rfl (Nat.le_of_ble_eq_true rfl) ⟨Nat.le_refl _, Nat.le_refl _⟩ (qx_putsM (by first | exact zdp hd (by decide) | omega) hCM29   9 a2 (by first | with_reducible exact ha2 | omega) (M 98 4) (by omega) (by omega) (by omega) (by refine ⟨fun _ => ?_, fun _ => ?_, fun _ => ?_, fun _ => ?_⟩ <;> omega) ) (fun vr M46 hr => ?_)
              obtain ⟨⟨hCM46, hFM46⟩, rfl, hpx47_0, hpx47_1⟩ := hr
              have hWM46 : qFm [98] M M46 := hWM29.tr hFM46 (by decide)
              have e48 : M46 98 4 = M29 98 4 := hpx47_1 _ (by omega)
              have e49 : M46 98 0 = M29 98 0 := hpx47_1 _ (by omega)
              have e50 : M46 98 3 = M29 98 3 := hpx47_1 _ (by omega)
              have e51 : qA M46 (M 98 4) 0 = qA M29 (M 98 4) 0 := by unfold qA; exact hpx47_1 _ (by omega)
              have e52 : qA M46 (M 98 4) 1 = qA M29 (M 98 4) 1 := by unfold qA; exact hpx47_1 _ (by omega)
              have e53 : qA M46 (M 98 4) 2 = qA M29 (M 98 4) 2 := by unfold qA; exact hpx47_1 _ (by omega)
              have e54 : qA M46 (M 98 4) 3 = qA M29 (M 98 4) 3 := by unfold qA; exact hpx47_1 _ (by omega)
              have e55 : qA M46 (M 98 4) 4 = qA M29 (M 98 4) 4 := by unfold qA; exact hpx47_1 _ (by omega)
              have e56 : qA M46 (M 98 4) 6 = qA M29 (M 98 4) 6 := by unfold qA; exact hpx47_1 _ (by omega)
              have e57 : qA M46 (M 98 4) 7 = qA M29 (M 98 4) 7 := by unfold qA; exact hpx47_1 _ (by omega)
              have e58 : qA M46 (M 98 4) 8 = qA M29 (M 98 4) 8 := by unfold qA; exact hpx47_1 _ (by omega)
              have e60 : qA M46 (M 98 4) 10 = qA M29 (M 98 4) 10 := by unfold qA; exact hpx47_1 _ (by omega)
              have e61 : qA M46 (M 98 4) 11 = qA M29 (M 98 4) 11 := by unfold qA; exact hpx47_1 _ (by omega)
              have e62 : qA M46 (M 98 4) 5 = qA M29 (M 98 4) 5 := by unfold qA; exact hpx47_1 _ (by omega)
              show zG n (0, 0) d 204 (95, [.inr (.inr (some 97)), .inl a1, .inl a2, .inl a3, .inl a4, .inl a5, .inl a6], []) M46 _
              refine zG_blk (c' := (99, [.inr (.inr (some 97)), .inl a1, .inl a2, .inl a3, .inl a4, .inl a5, .inl a6], [.inl a3, .inl 10, .inr (.inr (some 97))])) 3 hd0 hz (by rfl) ?_
              refine zG_call hd0 hz zp_195 rfl rfl (Nat.le_of_ble_eq_true rfl) ⟨Nat.le_refl _, Nat.le_refl _⟩ (qx_putsM (by first | exact zdp hd (by decide) | omega) hCM46   10 a3 (by first | with_reducible exact ha3 | omega) (M 98 4) (by omega) (by omega) (by omega) (by refine ⟨fun _ => ?_, fun _ => ?_, fun _ => ?_, fun _ => ?_⟩ <;> omega) ) (fun vr M63 hr => ?_)
              obtain ⟨⟨hCM63, hFM63⟩, rfl, hpx64_0, hpx64_1⟩ := hr
              have hWM63 : qFm [98] M M63 := hWM46.tr hFM63 (by decide)
              have e65 : M63 98 4 = M46 98 4 := hpx64_1 _ (by omega)
              have e66 : M63 98 0 = M46 98 0 := hpx64_1 _ (by omega)
              have e67 : M63 98 3 = M46 98 3 := hpx64_1 _ (by omega)
              have e68 : qA M63 (M 98 4) 0 = qA M46 (M 98 4) 0 := by unfold qA; exact hpx64_1 _ (by omega)
              have e69 : qA M63 (M 98 4) 1 = qA M46 (M 98 4) 1 := by unfold qA; exact hpx64_1 _ (by omega)
              have e70 : qA M63 (M 98 4) 2 = qA M46 (M 98 4) 2 := by unfold qA; exact hpx64_1 _ (by omega)
              have e71 : qA M63 (M 98 4) 3 = qA M46 (M 98 4) 3 := by unfold qA; exact hpx64_1 _ (by omega)
              have e72 : qA M63 (M 98 4) 4 = qA M46 (M 98 4) 4 := by unfold qA; exact hpx64_1 _ (by omega)
              have e73 : qA M63 (M 98 4) 6 = qA M46 (M 98 4) 6 := by unfold qA; exact hpx64_1 _ (by omega)
              have e74 : qA M63 (M 98 4) 7 = qA M46 (M 98 4) 7 := by unfold qA; exact hpx64_1 _ (by omega)
              have e75 : qA M63 (M 98 4) 8 = qA M46 (M 98 4) 8 := by unfold qA; exact hpx64_1 _ (by omega)
              have e77 : qA M63 (M 98 4) 11 = qA M46 (M 98 4) 11 := by unfold qA; exact hpx64_1 _ (by omega)
              have e78 : qA M63 (M 98 4) 5 = qA M46 (M 98 4) 5 := by unfold qA; exact hpx64_1 _ (by omega)
              have e79 : qA M63 (M 98 4) 9 = qA M46 (M 98 4) 9 := by unfold qA; exact hpx64_1 _ (by omega)
              show zG n (0, 0) d 204 (102, [.inr (.inr (some 97)), .inl a1, .inl a2, .inl a3, .inl a4, .inl a5, .inl a6], []) M63 _
              refine zG_blk (c' := (107, [.inr (.inr (some 97)), .inl a1, .inl a2, .inl a3, .inl a4, .inl a5, .inl a6], [.inl a4, .inl 11, .inr (.inr (some 97))])) 3 hd0 hz (by rfl) ?_
              refine zG_call hd0 hz zp_195 rfl rfl (Nat.le_of_ble_eq_true rfl) ⟨Nat.le_refl _, Nat.le_refl _⟩ (qx_putsM (by first | exact zdp hd (by decide) | omega) hCM63   11 a4 (by first | with_reducible exact ha4 | omega) (M 98 4) (by omega) (by omega) (by omega) (by refine ⟨fun _ => ?_, fun _ => ?_, fun _ => ?_, fun _ => ?_⟩ <;> omega) ) (fun vr M80 hr => ?_)
              obtain ⟨⟨hCM80, hFM80⟩, rfl, hpx81_0, hpx81_1⟩ := hr
              have hWM80 : qFm [98] M M80 := hWM63.tr hFM80 (by decide)
              have e82 : M80 98 4 = M63 98 4 := hpx81_1 _ (by omega)
              have e83 : M80 98 0 = M63 98 0 := hpx81_1 _ (by omega)
              have e84 : M80 98 3 = M63 98 3 := hpx81_1 _ (by omega)
              have e85 : qA M80 (M 98 4) 0 = qA M63 (M 98 4) 0 := by unfold qA; exact hpx81_1 _ (by omega)
              have e86 : qA M80 (M 98 4) 1 = qA M63 (M 98 4) 1 := by unfold qA; exact hpx81_1 _ (by omega)
              have e87 : qA M80 (M 98 4) 2 = qA M63 (M 98 4) 2 := by unfold qA; exact hpx81_1 _ (by omega)
              have e88 : qA M80 (M 98 4) 3 = qA M63 (M 98 4) 3 := by unfold qA; exact hpx81_1 _ (by omega)
              have e89 : qA M80 (M 98 4) 4 = qA M63 (M 98 4) 4 := by unfold qA; exact hpx81_1 _ (by omega)
              have e90 : qA M80 (M 98 4) 6 = qA M63 (M 98 4) 6 := by unfold qA; exact hpx81_1 _ (by omega)
              have e91 : qA M80 (M 98 4) 7 = qA M63 (M 98 4) 7 := by unfold qA; exact hpx81_1 _ (by omega)
              have e92 : qA M80 (M 98 4) 8 = qA M63 (M 98 4) 8 := by unfold qA; exact hpx81_1 _ (by omega)
              have e94 : qA M80 (M 98 4) 5 = qA M63 (M 98 4) 5 := by unfold qA; exact hpx81_1 _ (by omega)
              have e95 : qA M80 (M 98 4) 9 = qA M63 (M 98 4) 9 := by unfold qA; exact hpx81_1 _ (by omega)
              have e96 : qA M80 (M 98 4) 10 = qA M63 (M 98 4) 10 := by unfold qA; exact hpx81_1 _ (by omega)
              show zG n (0, 0) d 204 (110, [.inr (.inr (some 97)), .inl a1, .inl a2, .inl a3, .inl a4, .inl a5, .inl a6], []) M80 _
              refine zG_blk (c' := (112, [.inr (.inr (some 97)), .inl a1, .inl a2, .inl a3, .inl a4, .inl a5, .inl a6], [.inl 4, .inr (.inr (some 97))])) 2 hd0 hz (by rfl) ?_
              refine zG_call hd0 hz zp_183 rfl rfl (Nat.le_of_ble_eq_true rfl) ⟨Nat.le_refl _, Nat.le_refl _⟩ (qx_one4 (by first | exact zdp hd (by decide) | omega) hCM80   (M 98 4) (by omega) (by omega) (by refine ⟨?_, fun _ => ?_, fun _ => ?_, fun _ => ?_, fun _ => ?_, fun _ => ?_, fun _ => ?_, fun _ => ?_, fun _ => ?_, fun _ => ?_⟩ <;> omega) ) (fun vr M97 hr => ?_)
              obtain ⟨⟨hCM97, hFM97⟩, x98, rfl, hx98, hpx98_0, hpx98_1⟩ := hr
              have hWM97 : qFm [98] M M97 := hWM80.tr hFM97 (by decide)
              have e100 : M97 98 0 = M80 98 0 := hpx98_1 _ (by omega)
              have e101 : M97 98 3 = M80 98 3 := hpx98_1 _ (by omega)
              have e102 : qA M97 (M 98 4) 0 = qA M80 (M 98 4) 0 := by unfold qA; exact hpx98_1 _ (by omega)
              have e103 : qA M97 (M 98 4) 1 = qA M80 (M 98 4) 1 := by unfold qA; exact hpx98_1 _ (by omega)
              have e104 : qA M97 (M 98 4) 2 = qA M80 (M 98 4) 2 := by unfold qA; exact hpx98_1 _ (by omega)
              have e105 : qA M97 (M 98 4) 3 = qA M80 (M 98 4) 3 := by unfold qA; exact hpx98_1 _ (by omega)
              have e106 : qA M97 (M 98 4) 4 = qA M80 (M 98 4) 4 := by unfold qA; exact hpx98_1 _ (by omega)
              have e107 : qA M97 (M 98 4) 6 = qA M80 (M 98 4) 6 := by unfold qA; exact hpx98_1 _ (by omega)
              have e108 : qA M97 (M 98 4) 7 = qA M80 (M 98 4) 7 := by unfold qA; exact hpx98_1 _ (by omega)
              have e109 : qA M97 (M 98 4) 8 = qA M80 (M 98 4) 8 := by unfold qA; exact hpx98_1 _ (by omega)
              have e110 : qA M97 (M 98 4) 5 = qA M80 (M 98 4) 5 := by unfold qA; exact hpx98_1 _ (by omega)
              have e111 : qA M97 (M 98 4) 9 = qA M80 (M 98 4) 9 := by unfold qA; exact hpx98_1 _ (by omega)
              have e112 : qA M97 (M 98 4) 10 = qA M80 (M 98 4) 10 := by unfold qA; exact hpx98_1 _ (by omega)
              have e113 : qA M97 (M 98 4) 11 = qA M80 (M 98 4) 11 := by unfold qA; exact hpx98_1 _ (by omega)
              show zG n (0, 0) d 204 (115, [.inr (.inr (some 97)), .inl a1, .inl a2, .inl a3, .inl a4, .inl a5, .inl a6], [.inl x98]) M97 _
              exact zG_ret hd0 hz rfl rfl ⟨⟨hCM97, hWM97⟩, _, rfl, by omega⟩
            · refine zG_blk (c' := (66, [.inr (.inr (some 97)), .inl a1, .inl a2, .inl a3, .inl a4, .inl a5, .inl a6], [.inl (-4)])) 1 hd0 hz (by rfl) ?_
              exact zG_ret hd0 hz rfl rfl ⟨⟨hC, hW⟩, _, rfl, by omega⟩
          · exact j54
