/-! THE MODEL'S METHODS, BY PROGRAM -/
theorem qm_205_97 {n d : Nat} {M : zM} (hd : 4 ≤ d) (hC : qMI M)  (a1 : Int) (ha1 : (-2147483648) ≤ a1 ∧ a1 ≤ 2147483647) (a2 : Int) (ha2 : (-2147483648) ≤ a2 ∧ a2 ≤ 2147483647) (a3 : Int) (ha3 : (-2147483648) ≤ a3 ∧ a3 ≤ 2147483647) (a4 : Int) (ha4 : (-2147483648) ≤ a4 ∧ a4 ≤ 2147483647) : qOkN n d 205 [.inr (.inr (some 97)), .inl a1, .inl a2, .inl a3, .inl a4] 5 [98] M (fun v M' => ∃ x : Int, v = some (.inl x) ∧ ((-2147483648) ≤ x ∧ x ≤ 2147483647) ∧ (M' 98 6 = M 98 6)) := by
  have hz : zP 205 = (zk_X11_excuse, 5, (0, 0)) := rfl
  have hd0 : 0 < d := by omega
  have hW : qFm [98] M M := qFm.rfl
  have r1 := hC.cnt6
  have r2 := hC.cnt4
  have r3 := hC.cnt1
  have r4 := hC.cnt0
  have r5 := hC.cnt3
  show zG n (0, 0) d 205 (0, [.inr (.inr (some 97)), .inl a1, .inl a2, .inl a3, .inl a4], []) M _
  refine zG_blk (c' := (3, [.inr (.inr (some 97)), .inl a1, .inl a2, .inl a3, .inl a4], [.inl a1, .inl 1, .inr (.inr (some 97))])) 3 hd0 hz (by rfl) ?_
  refine zG_call hd0 hz (rfl : zP 182 = (zk_X11_is, 3, (0, 0))) rfl rfl (Nat.le_of_ble_eq_true rfl) ⟨Nat.le_refl _, Nat.le_refl _⟩ (qx_is (by omega) hC   1 (by omega) a1 (by omega) ) (fun vr M6 hr => ?_)
  obtain ⟨hq, x7, rfl, hx7⟩ := hr
  replace hq := hq.symm; subst hq
  show zG n (0, 0) d 205 (6, [.inr (.inr (some 97)), .inl a1, .inl a2, .inl a3, .inl a4], [.inl x7]) M _
  have j28 : zG n (0, 0) d 205 (28, [.inr (.inr (some 97)), .inl a1, .inl a2, .inl a3, .inl a4], []) M (fun v M' => (qMI M' ∧ qFm [98] M M') ∧ ∃ x : Int, v = some (.inl x) ∧ ((-2147483648) ≤ x ∧ x ≤ 2147483647) ∧ (M' 98 6 = M 98 6)) := by
    refine zG_blk (c' := (30, [.inr (.inr (some 97)), .inl a1, .inl a2, .inl a3, .inl a4], [.inl (-2)])) 1 hd0 hz (by rfl) ?_
    exact zG_ret hd0 hz rfl rfl ⟨⟨hC, hW⟩, _, rfl, by omega, by omega⟩
  refine zG_if_eq hd0 hz rfl (fun hb8 => ?_) (fun hb8 => ?_)
  · exact j28
  · refine zG_blk (c' := (12, [.inr (.inr (some 97)), .inl a1, .inl a2, .inl a3, .inl a4], [.inl a2, .inl 0, .inr (.inr (some 97))])) 3 hd0 hz (by rfl) ?_
    refine zG_call hd0 hz (rfl : zP 182 = (zk_X11_is, 3, (0, 0))) rfl rfl (Nat.le_of_ble_eq_true rfl) ⟨Nat.le_refl _, Nat.le_refl _⟩ (qx_is (by omega) hC   0 (by omega) a2 (by omega) ) (fun vr M9 hr => ?_)
    obtain ⟨hq, x10, rfl, hx10⟩ := hr
    replace hq := hq.symm; subst hq
    show zG n (0, 0) d 205 (15, [.inr (.inr (some 97)), .inl a1, .inl a2, .inl a3, .inl a4], [.inl x10]) M _
    refine zG_if_eq hd0 hz rfl (fun hb11 => ?_) (fun hb11 => ?_)
    · exact j28
    · refine zG_blk (c' := (22, [.inr (.inr (some 97)), .inl a1, .inl a2, .inl a3, .inl a4], [.inl a4, .inl a3, .inr (.inr (some 97))])) 3 hd0 hz (by rfl) ?_
      refine zG_call hd0 hz (rfl : zP 200 = (zk_X11_isBy, 3, (0, 0))) rfl rfl (Nat.le_of_ble_eq_true rfl) ⟨Nat.le_refl _, Nat.le_refl _⟩ (qm_200_97 (by omega) hC   a3 (by omega) a4 (by omega) ) (fun vr M12 hr => ?_)
      obtain ⟨hq, x13, rfl, hx13, hpx13_0⟩ := hr
      replace hq := hq.symm; subst hq
      show zG n (0, 0) d 205 (25, [.inr (.inr (some 97)), .inl a1, .inl a2, .inl a3, .inl a4], [.inl x13]) M _
      refine zG_if_ne hd0 hz rfl (fun hb14 => ?_) (fun hb14 => ?_)
      · refine zG_blk (c' := (32, [.inr (.inr (some 97)), .inl a1, .inl a2, .inl a3, .inl a4], [.inr (.inr (some 97))])) 1 hd0 hz (by rfl) ?_
        refine zG_call hd0 hz (rfl : zP 197 = (zk_X11_isFull, 1, (0, 0))) rfl rfl (Nat.le_of_ble_eq_true rfl) ⟨Nat.le_refl _, Nat.le_refl _⟩ (qx_isFull (by omega) hC    ) (fun vr M15 hr => ?_)
        obtain ⟨hq, x16, rfl, hx16⟩ := hr
        replace hq := hq.symm; subst hq
        show zG n (0, 0) d 205 (35, [.inr (.inr (some 97)), .inl a1, .inl a2, .inl a3, .inl a4], [.inl x16]) M _
        refine zG_if_eq hd0 hz rfl (fun hb17 => ?_) (fun hb17 => ?_)
        · refine zG_blk (c' := (45, [.inr (.inr (some 97)), .inl a1, .inl a2, .inl a3, .inl a4], [.inl a3, .inr (.inr (some 97)), .inl 4, .inr (.inr (some 97))])) 4 hd0 hz (by rfl) ?_
          refine zG_call hd0 hz (rfl : zP 199 = (zk_X11_dayOf, 2, (0, 0))) rfl rfl (Nat.le_of_ble_eq_true rfl) ⟨Nat.le_refl _, Nat.le_refl _⟩ (qx_dayOf (by omega) hC   a3 (by omega) ) (fun vr M18 hr => ?_)
          obtain ⟨hq, x19, rfl, hx19⟩ := hr
          replace hq := hq.symm; subst hq
          show zG n (0, 0) d 205 (48, [.inr (.inr (some 97)), .inl a1, .inl a2, .inl a3, .inl a4], [.inl x19, .inl 4, .inr (.inr (some 97))]) M _
          refine zG_blk (c' := (51, [.inr (.inr (some 97)), .inl a1, .inl a2, .inl a3, .inl a4], [.inl a3, .inl a4, .inl x19, .inl 4, .inr (.inr (some 97))])) 2 hd0 hz (by rfl) ?_
          refine zG_call hd0 hz (rfl : zP 196 = (zk_X11_begins, 6, (0, 0))) rfl rfl (Nat.le_of_ble_eq_true rfl) ⟨Nat.le_refl _, Nat.le_refl _⟩ (qx_begins (by omega) hC   4 x19 a4 a3 (by omega) (by omega) (by omega) (M 98 4) (by omega) (by omega) (by omega) ) (fun vr M20 hr => ?_)
          obtain ⟨⟨hCM20, hFM20⟩, rfl, hpx21_0, hpx21_1, hpx21_2, hpx21_3, hpx21_4, hpx21_5, hpx21_6, hpx21_7, hpx21_8, hpx21_9, hpx21_10, hpx21_11, hpx21_12⟩ := hr
          have hWM20 : qFm [98] M M20 := hW.tr hFM20 (by decide)
          have e22 : M20 98 6 = M 98 6 := hpx21_12 _ (by omega)
          have e23 : M20 98 4 = M 98 4 := hpx21_12 _ (by omega)
          have e24 : M20 98 1 = M 98 1 := hpx21_12 _ (by omega)
          have e25 : M20 98 0 = M 98 0 := hpx21_12 _ (by omega)
          have e26 : M20 98 3 = M 98 3 := hpx21_12 _ (by omega)
          show zG n (0, 0) d 205 (54, [.inr (.inr (some 97)), .inl a1, .inl a2, .inl a3, .inl a4], []) M20 _
          refine zG_blk (c' := (57, [.inr (.inr (some 97)), .inl a1, .inl a2, .inl a3, .inl a4], [.inl a1, .inl 4, .inr (.inr (some 97))])) 3 hd0 hz (by rfl) ?_
          refine zG_call hd0 hz (rfl : zP 195 = (zk_X11_puts, 3, (0, 0))) rfl rfl (Nat.le_of_ble_eq_true rfl) ⟨Nat.le_refl _, Nat.le_refl _⟩ (qx_putsM (by omega) hCM20   4 a1 (by omega) (M 98 4) (by omega) (by omega) (by omega) (by refine ⟨fun _ => ?_, fun _ => ?_, fun _ => ?_, fun _ => ?_⟩ <;> omega) ) (fun vr M27 hr => ?_)
          obtain ⟨⟨hCM27, hFM27⟩, rfl, hpx28_0, hpx28_1⟩ := hr
          have hWM27 : qFm [98] M M27 := hWM20.tr hFM27 (by decide)
          have e29 : M27 98 6 = M20 98 6 := hpx28_1 _ (by omega)
          have e30 : M27 98 4 = M20 98 4 := hpx28_1 _ (by omega)
          have e31 : M27 98 1 = M20 98 1 := hpx28_1 _ (by omega)
          have e32 : M27 98 0 = M20 98 0 := hpx28_1 _ (by omega)
          have e33 : M27 98 3 = M20 98 3 := hpx28_1 _ (by omega)
          have e34 : qA M27 (M 98 4) 0 = qA M20 (M 98 4) 0 := by unfold qA; exact hpx28_1 _ (by omega)
          have e35 : qA M27 (M 98 4) 1 = qA M20 (M 98 4) 1 := by unfold qA; exact hpx28_1 _ (by omega)
          have e36 : qA M27 (M 98 4) 2 = qA M20 (M 98 4) 2 := by unfold qA; exact hpx28_1 _ (by omega)
          have e37 : qA M27 (M 98 4) 3 = qA M20 (M 98 4) 3 := by unfold qA; exact hpx28_1 _ (by omega)
          have e39 : qA M27 (M 98 4) 5 = qA M20 (M 98 4) 5 := by unfold qA; exact hpx28_1 _ (by omega)
          have e40 : qA M27 (M 98 4) 6 = qA M20 (M 98 4) 6 := by unfold qA; exact hpx28_1 _ (by omega)
          have e41 : qA M27 (M 98 4) 7 = qA M20 (M 98 4) 7 := by unfold qA; exact hpx28_1 _ (by omega)
          have e42 : qA M27 (M 98 4) 8 = qA M20 (M 98 4) 8 := by unfold qA; exact hpx28_1 _ (by omega)
          have e43 : qA M27 (M 98 4) 9 = qA M20 (M 98 4) 9 := by unfold qA; exact hpx28_1 _ (by omega)
          have e44 : qA M27 (M 98 4) 10 = qA M20 (M 98 4) 10 := by unfold qA; exact hpx28_1 _ (by omega)
          have e45 : qA M27 (M 98 4) 11 = qA M20 (M 98 4) 11 := by unfold qA; exact hpx28_1 _ (by omega)
          show zG n (0, 0) d 205 (60, [.inr (.inr (some 97)), .inl a1, .inl a2, .inl a3, .inl a4], []) M27 _
          refine zG_blk (c' := (63, [.inr (.inr (some 97)), .inl a1, .inl a2, .inl a3, .inl a4], [.inl a2, .inl 5, .inr (.inr (some 97))])) 3 hd0 hz (by rfl) ?_
          refine zG_call hd0 hz (rfl : zP 195 = (zk_X11_puts, 3, (0, 0))) rfl rfl (Nat.le_of_ble_eq_true rfl) ⟨Nat.le_refl _, Nat.le_refl _⟩ (qx_putsM (by omega) hCM27   5 a2 (by omega) (M 98 4) (by omega) (by omega) (by omega) (by refine ⟨fun _ => ?_, fun _ => ?_, fun _ => ?_, fun _ => ?_⟩ <;> omega) ) (fun vr M46 hr => ?_)
          obtain ⟨⟨hCM46, hFM46⟩, rfl, hpx47_0, hpx47_1⟩ := hr
          have hWM46 : qFm [98] M M46 := hWM27.tr hFM46 (by decide)
          have e48 : M46 98 6 = M27 98 6 := hpx47_1 _ (by omega)
          have e49 : M46 98 4 = M27 98 4 := hpx47_1 _ (by omega)
          have e50 : M46 98 1 = M27 98 1 := hpx47_1 _ (by omega)
          have e51 : M46 98 0 = M27 98 0 := hpx47_1 _ (by omega)
          have e52 : M46 98 3 = M27 98 3 := hpx47_1 _ (by omega)
          have e53 : qA M46 (M 98 4) 0 = qA M27 (M 98 4) 0 := by unfold qA; exact hpx47_1 _ (by omega)
          have e54 : qA M46 (M 98 4) 1 = qA M27 (M 98 4) 1 := by unfold qA; exact hpx47_1 _ (by omega)
          have e55 : qA M46 (M 98 4) 2 = qA M27 (M 98 4) 2 := by unfold qA; exact hpx47_1 _ (by omega)
          have e56 : qA M46 (M 98 4) 3 = qA M27 (M 98 4) 3 := by unfold qA; exact hpx47_1 _ (by omega)
          have e58 : qA M46 (M 98 4) 6 = qA M27 (M 98 4) 6 := by unfold qA; exact hpx47_1 _ (by omega)
          have e59 : qA M46 (M 98 4) 7 = qA M27 (M 98 4) 7 := by unfold qA; exact hpx47_1 _ (by omega)
          have e60 : qA M46 (M 98 4) 8 = qA M27 (M 98 4) 8 := by unfold qA; exact hpx47_1 _ (by omega)
          have e61 : qA M46 (M 98 4) 9 = qA M27 (M 98 4) 9 := by unfold qA; exact hpx47_1 _ (by omega)
          have e62 : qA M46 (M 98 4) 10 = qA M27 (M 98 4) 10 := by unfold qA; exact hpx47_1 _ (by omega)
          have e63 : qA M46 (M 98 4) 11 = qA M27 (M 98 4) 11 := by unfold qA; exact hpx47_1 _ (by omega)
          have e64 : qA M46 (M 98 4) 4 = qA M27 (M 98 4) 4 := by unfold qA; exact hpx47_1 _ (by omega)
          show zG n (0, 0) d 205 (66, [.inr (.inr (some 97)), .inl a1, .inl a2, .inl a3, .inl a4], []) M46 _
          refine zG_blk (c' := (68, [.inr (.inr (some 97)), .inl a1, .inl a2, .inl a3, .inl a4], [.inl 4, .inr (.inr (some 97))])) 2 hd0 hz (by rfl) ?_
          refine zG_call hd0 hz (rfl : zP 183 = (zk_X11_one, 2, (0, 0))) rfl rfl (Nat.le_of_ble_eq_true rfl) ⟨Nat.le_refl _, Nat.le_refl _⟩ (qx_one4 (by omega) hCM46   (M 98 4) (by omega) (by omega) (by refine ⟨?_, fun _ => ?_, fun _ => ?_, fun _ => ?_, fun _ => ?_, fun _ => ?_, fun _ => ?_, fun _ => ?_, fun _ => ?_, fun _ => ?_⟩ <;> omega) ) (fun vr M65 hr => ?_)
          obtain ⟨⟨hCM65, hFM65⟩, x66, rfl, hx66, hpx66_0, hpx66_1⟩ := hr
          have hWM65 : qFm [98] M M65 := hWM46.tr hFM65 (by decide)
          have e67 : M65 98 6 = M46 98 6 := hpx66_1 _ (by omega)
          have e69 : M65 98 1 = M46 98 1 := hpx66_1 _ (by omega)
          have e70 : M65 98 0 = M46 98 0 := hpx66_1 _ (by omega)
          have e71 : M65 98 3 = M46 98 3 := hpx66_1 _ (by omega)
          have e72 : qA M65 (M 98 4) 0 = qA M46 (M 98 4) 0 := by unfold qA; exact hpx66_1 _ (by omega)
          have e73 : qA M65 (M 98 4) 1 = qA M46 (M 98 4) 1 := by unfold qA; exact hpx66_1 _ (by omega)
          have e74 : qA M65 (M 98 4) 2 = qA M46 (M 98 4) 2 := by unfold qA; exact hpx66_1 _ (by omega)
          have e75 : qA M65 (M 98 4) 3 = qA M46 (M 98 4) 3 := by unfold qA; exact hpx66_1 _ (by omega)
          have e76 : qA M65 (M 98 4) 6 = qA M46 (M 98 4) 6 := by unfold qA; exact hpx66_1 _ (by omega)
          have e77 : qA M65 (M 98 4) 7 = qA M46 (M 98 4) 7 := by unfold qA; exact hpx66_1 _ (by omega)
          have e78 : qA M65 (M 98 4) 8 = qA M46 (M 98 4) 8 := by unfold qA; exact hpx66_1 _ (by omega)
          have e79 : qA M65 (M 98 4) 9 = qA M46 (M 98 4) 9 := by unfold qA; exact hpx66_1 _ (by omega)
          have e80 : qA M65 (M 98 4) 10 = qA M46 (M 98 4) 10 := by unfold qA; exact hpx66_1 _ (by omega)
          have e81 : qA M65 (M 98 4) 11 = qA M46 (M 98 4) 11 := by unfold qA; exact hpx66_1 _ (by omega)
          have e82 : qA M65 (M 98 4) 4 = qA M46 (M 98 4) 4 := by unfold qA; exact hpx66_1 _ (by omega)
          have e83 : qA M65 (M 98 4) 5 = qA M46 (M 98 4) 5 := by unfold qA; exact hpx66_1 _ (by omega)
          show zG n (0, 0) d 205 (71, [.inr (.inr (some 97)), .inl a1, .inl a2, .inl a3, .inl a4], [.inl x66]) M65 _
          exact zG_ret hd0 hz rfl rfl ⟨⟨hCM65, hWM65⟩, _, rfl, by omega, by omega⟩
        · refine zG_blk (c' := (40, [.inr (.inr (some 97)), .inl a1, .inl a2, .inl a3, .inl a4], [.inl (-4)])) 1 hd0 hz (by rfl) ?_
          exact zG_ret hd0 hz rfl rfl ⟨⟨hC, hW⟩, _, rfl, by omega, by omega⟩
      · exact j28
theorem qm_206_97 {n d : Nat} {M : zM} (hd : 4 ≤ d) (hC : qMI M)  (a1 : Int) (ha1 : (-2147483648) ≤ a1 ∧ a1 ≤ 2147483647) (a2 : Int) (ha2 : (-2147483648) ≤ a2 ∧ a2 ≤ 2147483647) (a3 : Int) (ha3 : (-2147483648) ≤ a3 ∧ a3 ≤ 2147483647) : qOkN n d 206 [.inr (.inr (some 97)), .inl a1, .inl a2, .inl a3] 4 [98] M (fun v M' => ∃ x : Int, v = some (.inl x) ∧ ((-2147483648) ≤ x ∧ x ≤ 2147483647) ∧ (M' 98 6 = M 98 6)) := by
  have hz : zP 206 = (zk_X11_strike, 4, (0, 0)) := rfl
  have hd0 : 0 < d := by omega
  have hW : qFm [98] M M := qFm.rfl
  have r1 := hC.cnt6
  have r2 := hC.cnt4
  have r3 := hC.cnt3
  show zG n (0, 0) d 206 (0, [.inr (.inr (some 97)), .inl a1, .inl a2, .inl a3], []) M _
  refine zG_blk (c' := (3, [.inr (.inr (some 97)), .inl a1, .inl a2, .inl a3], [.inl a1, .inl 4, .inr (.inr (some 97))])) 3 hd0 hz (by rfl) ?_
  refine zG_call hd0 hz (rfl : zP 182 = (zk_X11_is, 3, (0, 0))) rfl rfl (Nat.le_of_ble_eq_true rfl) ⟨Nat.le_refl _, Nat.le_refl _⟩ (qx_is (by omega) hC   4 (by omega) a1 (by omega) ) (fun vr M4 hr => ?_)
  obtain ⟨hq, x5, rfl, hx5⟩ := hr
  replace hq := hq.symm; subst hq
  show zG n (0, 0) d 206 (6, [.inr (.inr (some 97)), .inl a1, .inl a2, .inl a3], [.inl x5]) M _
  have j18 : zG n (0, 0) d 206 (18, [.inr (.inr (some 97)), .inl a1, .inl a2, .inl a3], []) M (fun v M' => (qMI M' ∧ qFm [98] M M') ∧ ∃ x : Int, v = some (.inl x) ∧ ((-2147483648) ≤ x ∧ x ≤ 2147483647) ∧ (M' 98 6 = M 98 6)) := by
    refine zG_blk (c' := (20, [.inr (.inr (some 97)), .inl a1, .inl a2, .inl a3], [.inl (-2)])) 1 hd0 hz (by rfl) ?_
    exact zG_ret hd0 hz rfl rfl ⟨⟨hC, hW⟩, _, rfl, by omega, by omega⟩
  refine zG_if_eq hd0 hz rfl (fun hb6 => ?_) (fun hb6 => ?_)
  · exact j18
  · refine zG_blk (c' := (12, [.inr (.inr (some 97)), .inl a1, .inl a2, .inl a3], [.inl a3, .inl a2, .inr (.inr (some 97))])) 3 hd0 hz (by rfl) ?_
    refine zG_call hd0 hz (rfl : zP 200 = (zk_X11_isBy, 3, (0, 0))) rfl rfl (Nat.le_of_ble_eq_true rfl) ⟨Nat.le_refl _, Nat.le_refl _⟩ (qm_200_97 (by omega) hC   a2 (by omega) a3 (by omega) ) (fun vr M7 hr => ?_)
    obtain ⟨hq, x8, rfl, hx8, hpx8_0⟩ := hr
    replace hq := hq.symm; subst hq
    show zG n (0, 0) d 206 (15, [.inr (.inr (some 97)), .inl a1, .inl a2, .inl a3], [.inl x8]) M _
    refine zG_if_ne hd0 hz rfl (fun hb9 => ?_) (fun hb9 => ?_)
    · refine zG_blk (c' := (22, [.inr (.inr (some 97)), .inl a1, .inl a2, .inl a3], [.inr (.inr (some 97))])) 1 hd0 hz (by rfl) ?_
      refine zG_call hd0 hz (rfl : zP 197 = (zk_X11_isFull, 1, (0, 0))) rfl rfl (Nat.le_of_ble_eq_true rfl) ⟨Nat.le_refl _, Nat.le_refl _⟩ (qx_isFull (by omega) hC    ) (fun vr M10 hr => ?_)
      obtain ⟨hq, x11, rfl, hx11⟩ := hr
      replace hq := hq.symm; subst hq
      show zG n (0, 0) d 206 (25, [.inr (.inr (some 97)), .inl a1, .inl a2, .inl a3], [.inl x11]) M _
      refine zG_if_eq hd0 hz rfl (fun hb12 => ?_) (fun hb12 => ?_)
      · refine zG_blk (c' := (35, [.inr (.inr (some 97)), .inl a1, .inl a2, .inl a3], [.inl a2, .inr (.inr (some 97)), .inl 5, .inr (.inr (some 97))])) 4 hd0 hz (by rfl) ?_
        refine zG_call hd0 hz (rfl : zP 199 = (zk_X11_dayOf, 2, (0, 0))) rfl rfl (Nat.le_of_ble_eq_true rfl) ⟨Nat.le_refl _, Nat.le_refl _⟩ (qx_dayOf (by omega) hC   a2 (by omega) ) (fun vr M13 hr => ?_)
        obtain ⟨hq, x14, rfl, hx14⟩ := hr
        replace hq := hq.symm; subst hq
        show zG n (0, 0) d 206 (38, [.inr (.inr (some 97)), .inl a1, .inl a2, .inl a3], [.inl x14, .inl 5, .inr (.inr (some 97))]) M _
        refine zG_blk (c' := (40, [.inr (.inr (some 97)), .inl a1, .inl a2, .inl a3], [.inl a2, .inl a3, .inl x14, .inl 5, .inr (.inr (some 97))])) 2 hd0 hz (by rfl) ?_
        refine zG_call hd0 hz (rfl : zP 196 = (zk_X11_begins, 6, (0, 0))) rfl rfl (Nat.le_of_ble_eq_true rfl) ⟨Nat.le_refl _, Nat.le_refl _⟩ (qx_begins (by omega) hC   5 x14 a3 a2 (by omega) (by omega) (by omega) (M 98 4) (by omega) (by omega) (by omega) ) (fun vr M15 hr => ?_)
        obtain ⟨⟨hCM15, hFM15⟩, rfl, hpx16_0, hpx16_1, hpx16_2, hpx16_3, hpx16_4, hpx16_5, hpx16_6, hpx16_7, hpx16_8, hpx16_9, hpx16_10, hpx16_11, hpx16_12⟩ := hr
        have hWM15 : qFm [98] M M15 := hW.tr hFM15 (by decide)
        have e17 : M15 98 6 = M 98 6 := hpx16_12 _ (by omega)
        have e18 : M15 98 4 = M 98 4 := hpx16_12 _ (by omega)
        have e19 : M15 98 3 = M 98 3 := hpx16_12 _ (by omega)
        show zG n (0, 0) d 206 (43, [.inr (.inr (some 97)), .inl a1, .inl a2, .inl a3], []) M15 _
        refine zG_blk (c' := (47, [.inr (.inr (some 97)), .inl a1, .inl a2, .inl a3], [.inl a1, .inl 6, .inr (.inr (some 97))])) 3 hd0 hz (by rfl) ?_
        refine zG_call hd0 hz (rfl : zP 195 = (zk_X11_puts, 3, (0, 0))) rfl rfl (Nat.le_of_ble_eq_true rfl) ⟨Nat.le_refl _, Nat.le_refl _⟩ (qx_putsM (by omega) hCM15   6 a1 (by omega) (M 98 4) (by omega) (by omega) (by omega) (by refine ⟨fun _ => ?_, fun _ => ?_, fun _ => ?_, fun _ => ?_⟩ <;> omega) ) (fun vr M20 hr => ?_)
        obtain ⟨⟨hCM20, hFM20⟩, rfl, hpx21_0, hpx21_1⟩ := hr
        have hWM20 : qFm [98] M M20 := hWM15.tr hFM20 (by decide)
        have e22 : M20 98 6 = M15 98 6 := hpx21_1 _ (by omega)
        have e23 : M20 98 4 = M15 98 4 := hpx21_1 _ (by omega)
        have e24 : M20 98 3 = M15 98 3 := hpx21_1 _ (by omega)
        have e25 : qA M20 (M 98 4) 0 = qA M15 (M 98 4) 0 := by unfold qA; exact hpx21_1 _ (by omega)
        have e26 : qA M20 (M 98 4) 1 = qA M15 (M 98 4) 1 := by unfold qA; exact hpx21_1 _ (by omega)
        have e27 : qA M20 (M 98 4) 2 = qA M15 (M 98 4) 2 := by unfold qA; exact hpx21_1 _ (by omega)
        have e28 : qA M20 (M 98 4) 3 = qA M15 (M 98 4) 3 := by unfold qA; exact hpx21_1 _ (by omega)
        have e29 : qA M20 (M 98 4) 4 = qA M15 (M 98 4) 4 := by unfold qA; exact hpx21_1 _ (by omega)
        have e30 : qA M20 (M 98 4) 5 = qA M15 (M 98 4) 5 := by unfold qA; exact hpx21_1 _ (by omega)
        have e32 : qA M20 (M 98 4) 7 = qA M15 (M 98 4) 7 := by unfold qA; exact hpx21_1 _ (by omega)
        have e33 : qA M20 (M 98 4) 8 = qA M15 (M 98 4) 8 := by unfold qA; exact hpx21_1 _ (by omega)
        have e34 : qA M20 (M 98 4) 9 = qA M15 (M 98 4) 9 := by unfold qA; exact hpx21_1 _ (by omega)
        have e35 : qA M20 (M 98 4) 10 = qA M15 (M 98 4) 10 := by unfold qA; exact hpx21_1 _ (by omega)
        have e36 : qA M20 (M 98 4) 11 = qA M15 (M 98 4) 11 := by unfold qA; exact hpx21_1 _ (by omega)
        show zG n (0, 0) d 206 (50, [.inr (.inr (some 97)), .inl a1, .inl a2, .inl a3], []) M20 _
        refine zG_blk (c' := (52, [.inr (.inr (some 97)), .inl a1, .inl a2, .inl a3], [.inl 4, .inr (.inr (some 97))])) 2 hd0 hz (by rfl) ?_
        refine zG_call hd0 hz (rfl : zP 183 = (zk_X11_one, 2, (0, 0))) rfl rfl (Nat.le_of_ble_eq_true rfl) ⟨Nat.le_refl _, Nat.le_refl _⟩ (qx_one4 (by omega) hCM20   (M 98 4) (by omega) (by omega) (by refine ⟨?_, fun _ => ?_, fun _ => ?_, fun _ => ?_, fun _ => ?_, fun _ => ?_, fun _ => ?_, fun _ => ?_, fun _ => ?_, fun _ => ?_⟩ <;> omega) ) (fun vr M37 hr => ?_)
        obtain ⟨⟨hCM37, hFM37⟩, x38, rfl, hx38, hpx38_0, hpx38_1⟩ := hr
        have hWM37 : qFm [98] M M37 := hWM20.tr hFM37 (by decide)
        have e39 : M37 98 6 = M20 98 6 := hpx38_1 _ (by omega)
        have e41 : M37 98 3 = M20 98 3 := hpx38_1 _ (by omega)
        have e42 : qA M37 (M 98 4) 0 = qA M20 (M 98 4) 0 := by unfold qA; exact hpx38_1 _ (by omega)
        have e43 : qA M37 (M 98 4) 1 = qA M20 (M 98 4) 1 := by unfold qA; exact hpx38_1 _ (by omega)
        have e44 : qA M37 (M 98 4) 2 = qA M20 (M 98 4) 2 := by unfold qA; exact hpx38_1 _ (by omega)
        have e45 : qA M37 (M 98 4) 3 = qA M20 (M 98 4) 3 := by unfold qA; exact hpx38_1 _ (by omega)
        have e46 : qA M37 (M 98 4) 4 = qA M20 (M 98 4) 4 := by unfold qA; exact hpx38_1 _ (by omega)
        have e47 : qA M37 (M 98 4) 5 = qA M20 (M 98 4) 5 := by unfold qA; exact hpx38_1 _ (by omega)
        have e48 : qA M37 (M 98 4) 7 = qA M20 (M 98 4) 7 := by unfold qA; exact hpx38_1 _ (by omega)
        have e49 : qA M37 (M 98 4) 8 = qA M20 (M 98 4) 8 := by unfold qA; exact hpx38_1 _ (by omega)
        have e50 : qA M37 (M 98 4) 9 = qA M20 (M 98 4) 9 := by unfold qA; exact hpx38_1 _ (by omega)
        have e51 : qA M37 (M 98 4) 10 = qA M20 (M 98 4) 10 := by unfold qA; exact hpx38_1 _ (by omega)
        have e52 : qA M37 (M 98 4) 11 = qA M20 (M 98 4) 11 := by unfold qA; exact hpx38_1 _ (by omega)
        have e53 : qA M37 (M 98 4) 6 = qA M20 (M 98 4) 6 := by unfold qA; exact hpx38_1 _ (by omega)
        show zG n (0, 0) d 206 (55, [.inr (.inr (some 97)), .inl a1, .inl a2, .inl a3], [.inl x38]) M37 _
        exact zG_ret hd0 hz rfl rfl ⟨⟨hCM37, hWM37⟩, _, rfl, by omega, by omega⟩
      · refine zG_blk (c' := (30, [.inr (.inr (some 97)), .inl a1, .inl a2, .inl a3], [.inl (-4)])) 1 hd0 hz (by rfl) ?_
        exact zG_ret hd0 hz rfl rfl ⟨⟨hC, hW⟩, _, rfl, by omega, by omega⟩
    · exact j18
theorem qm_207_97 {n d : Nat} {M : zM} (hd : 4 ≤ d) (hC : qMI M)  (a1 : Int) (ha1 : (-2147483648) ≤ a1 ∧ a1 ≤ 2147483647) (a2 : Int) (ha2 : (-2147483648) ≤ a2 ∧ a2 ≤ 2147483647) (a3 : Int) (ha3 : (-2147483648) ≤ a3 ∧ a3 ≤ 2147483647) : qOkN n d 207 [.inr (.inr (some 97)), .inl a1, .inl a2, .inl a3] 4 [98] M (fun v M' => ∃ x : Int, v = some (.inl x) ∧ ((-2147483648) ≤ x ∧ x ≤ 2147483647) ∧ (M' 98 6 = M 98 6)) := by
  have hz : zP 207 = (zk_X11_degree, 4, (0, 0)) := rfl
  have hd0 : 0 < d := by omega
  have hW : qFm [98] M M := qFm.rfl
  have r1 := hC.cnt6
  have r2 := hC.cnt4
  have r3 := hC.cnt1
  have r4 := hC.cnt3
  show zG n (0, 0) d 207 (0, [.inr (.inr (some 97)), .inl a1, .inl a2, .inl a3], []) M _
  refine zG_blk (c' := (3, [.inr (.inr (some 97)), .inl a1, .inl a2, .inl a3], [.inl a1, .inl 1, .inr (.inr (some 97))])) 3 hd0 hz (by rfl) ?_
  refine zG_call hd0 hz (rfl : zP 182 = (zk_X11_is, 3, (0, 0))) rfl rfl (Nat.le_of_ble_eq_true rfl) ⟨Nat.le_refl _, Nat.le_refl _⟩ (qx_is (by omega) hC   1 (by omega) a1 (by omega) ) (fun vr M5 hr => ?_)
  obtain ⟨hq, x6, rfl, hx6⟩ := hr
  replace hq := hq.symm; subst hq
  show zG n (0, 0) d 207 (6, [.inr (.inr (some 97)), .inl a1, .inl a2, .inl a3], [.inl x6]) M _
  have j18 : zG n (0, 0) d 207 (18, [.inr (.inr (some 97)), .inl a1, .inl a2, .inl a3], []) M (fun v M' => (qMI M' ∧ qFm [98] M M') ∧ ∃ x : Int, v = some (.inl x) ∧ ((-2147483648) ≤ x ∧ x ≤ 2147483647) ∧ (M' 98 6 = M 98 6)) := by
    refine zG_blk (c' := (20, [.inr (.inr (some 97)), .inl a1, .inl a2, .inl a3], [.inl (-2)])) 1 hd0 hz (by rfl) ?_
    exact zG_ret hd0 hz rfl rfl ⟨⟨hC, hW⟩, _, rfl, by omega, by omega⟩
  refine zG_if_eq hd0 hz rfl (fun hb7 => ?_) (fun hb7 => ?_)
  · exact j18
  · refine zG_blk (c' := (12, [.inr (.inr (some 97)), .inl a1, .inl a2, .inl a3], [.inl a3, .inl a2, .inr (.inr (some 97))])) 3 hd0 hz (by rfl) ?_
    refine zG_call hd0 hz (rfl : zP 200 = (zk_X11_isBy, 3, (0, 0))) rfl rfl (Nat.le_of_ble_eq_true rfl) ⟨Nat.le_refl _, Nat.le_refl _⟩ (qm_200_97 (by omega) hC   a2 (by omega) a3 (by omega) ) (fun vr M8 hr => ?_)
    obtain ⟨hq, x9, rfl, hx9, hpx9_0⟩ := hr
    replace hq := hq.symm; subst hq
    show zG n (0, 0) d 207 (15, [.inr (.inr (some 97)), .inl a1, .inl a2, .inl a3], [.inl x9]) M _
    refine zG_if_ne hd0 hz rfl (fun hb10 => ?_) (fun hb10 => ?_)
    · refine zG_blk (c' := (22, [.inr (.inr (some 97)), .inl a1, .inl a2, .inl a3], [.inr (.inr (some 97))])) 1 hd0 hz (by rfl) ?_
      refine zG_call hd0 hz (rfl : zP 197 = (zk_X11_isFull, 1, (0, 0))) rfl rfl (Nat.le_of_ble_eq_true rfl) ⟨Nat.le_refl _, Nat.le_refl _⟩ (qx_isFull (by omega) hC    ) (fun vr M11 hr => ?_)
      obtain ⟨hq, x12, rfl, hx12⟩ := hr
      replace hq := hq.symm; subst hq
      show zG n (0, 0) d 207 (25, [.inr (.inr (some 97)), .inl a1, .inl a2, .inl a3], [.inl x12]) M _
      refine zG_if_eq hd0 hz rfl (fun hb13 => ?_) (fun hb13 => ?_)
      · refine zG_blk (c' := (36, [.inr (.inr (some 97)), .inl a1, .inl a2, .inl a3], [.inl a2, .inr (.inr (some 97)), .inl 6, .inr (.inr (some 97))])) 4 hd0 hz (by rfl) ?_
        refine zG_call hd0 hz (rfl : zP 199 = (zk_X11_dayOf, 2, (0, 0))) rfl rfl (Nat.le_of_ble_eq_true rfl) ⟨Nat.le_refl _, Nat.le_refl _⟩ (qx_dayOf (by omega) hC   a2 (by omega) ) (fun vr M14 hr => ?_)
        obtain ⟨hq, x15, rfl, hx15⟩ := hr
        replace hq := hq.symm; subst hq
        show zG n (0, 0) d 207 (39, [.inr (.inr (some 97)), .inl a1, .inl a2, .inl a3], [.inl x15, .inl 6, .inr (.inr (some 97))]) M _
        refine zG_blk (c' := (41, [.inr (.inr (some 97)), .inl a1, .inl a2, .inl a3], [.inl a2, .inl a3, .inl x15, .inl 6, .inr (.inr (some 97))])) 2 hd0 hz (by rfl) ?_
        refine zG_call hd0 hz (rfl : zP 196 = (zk_X11_begins, 6, (0, 0))) rfl rfl (Nat.le_of_ble_eq_true rfl) ⟨Nat.le_refl _, Nat.le_refl _⟩ (qx_begins (by omega) hC   6 x15 a3 a2 (by omega) (by omega) (by omega) (M 98 4) (by omega) (by omega) (by omega) ) (fun vr M16 hr => ?_)
        obtain ⟨⟨hCM16, hFM16⟩, rfl, hpx17_0, hpx17_1, hpx17_2, hpx17_3, hpx17_4, hpx17_5, hpx17_6, hpx17_7, hpx17_8, hpx17_9, hpx17_10, hpx17_11, hpx17_12⟩ := hr
        have hWM16 : qFm [98] M M16 := hW.tr hFM16 (by decide)
        have e18 : M16 98 6 = M 98 6 := hpx17_12 _ (by omega)
        have e19 : M16 98 4 = M 98 4 := hpx17_12 _ (by omega)
        have e20 : M16 98 1 = M 98 1 := hpx17_12 _ (by omega)
        have e21 : M16 98 3 = M 98 3 := hpx17_12 _ (by omega)
        show zG n (0, 0) d 207 (44, [.inr (.inr (some 97)), .inl a1, .inl a2, .inl a3], []) M16 _
        refine zG_blk (c' := (47, [.inr (.inr (some 97)), .inl a1, .inl a2, .inl a3], [.inl a1, .inl 4, .inr (.inr (some 97))])) 3 hd0 hz (by rfl) ?_
        refine zG_call hd0 hz (rfl : zP 195 = (zk_X11_puts, 3, (0, 0))) rfl rfl (Nat.le_of_ble_eq_true rfl) ⟨Nat.le_refl _, Nat.le_refl _⟩ (qx_putsM (by omega) hCM16   4 a1 (by omega) (M 98 4) (by omega) (by omega) (by omega) (by refine ⟨fun _ => ?_, fun _ => ?_, fun _ => ?_, fun _ => ?_⟩ <;> omega) ) (fun vr M22 hr => ?_)
        obtain ⟨⟨hCM22, hFM22⟩, rfl, hpx23_0, hpx23_1⟩ := hr
        have hWM22 : qFm [98] M M22 := hWM16.tr hFM22 (by decide)
        have e24 : M22 98 6 = M16 98 6 := hpx23_1 _ (by omega)
        have e25 : M22 98 4 = M16 98 4 := hpx23_1 _ (by omega)
        have e26 : M22 98 1 = M16 98 1 := hpx23_1 _ (by omega)
        have e27 : M22 98 3 = M16 98 3 := hpx23_1 _ (by omega)
        have e28 : qA M22 (M 98 4) 0 = qA M16 (M 98 4) 0 := by unfold qA; exact hpx23_1 _ (by omega)
        have e29 : qA M22 (M 98 4) 1 = qA M16 (M 98 4) 1 := by unfold qA; exact hpx23_1 _ (by omega)
        have e30 : qA M22 (M 98 4) 2 = qA M16 (M 98 4) 2 := by unfold qA; exact hpx23_1 _ (by omega)
        have e31 : qA M22 (M 98 4) 3 = qA M16 (M 98 4) 3 := by unfold qA; exact hpx23_1 _ (by omega)
        have e33 : qA M22 (M 98 4) 5 = qA M16 (M 98 4) 5 := by unfold qA; exact hpx23_1 _ (by omega)
        have e34 : qA M22 (M 98 4) 6 = qA M16 (M 98 4) 6 := by unfold qA; exact hpx23_1 _ (by omega)
        have e35 : qA M22 (M 98 4) 7 = qA M16 (M 98 4) 7 := by unfold qA; exact hpx23_1 _ (by omega)
        have e36 : qA M22 (M 98 4) 8 = qA M16 (M 98 4) 8 := by unfold qA; exact hpx23_1 _ (by omega)
        have e37 : qA M22 (M 98 4) 9 = qA M16 (M 98 4) 9 := by unfold qA; exact hpx23_1 _ (by omega)
        have e38 : qA M22 (M 98 4) 10 = qA M16 (M 98 4) 10 := by unfold qA; exact hpx23_1 _ (by omega)
        have e39 : qA M22 (M 98 4) 11 = qA M16 (M 98 4) 11 := by unfold qA; exact hpx23_1 _ (by omega)
        show zG n (0, 0) d 207 (50, [.inr (.inr (some 97)), .inl a1, .inl a2, .inl a3], []) M22 _
        refine zG_blk (c' := (52, [.inr (.inr (some 97)), .inl a1, .inl a2, .inl a3], [.inl 4, .inr (.inr (some 97))])) 2 hd0 hz (by rfl) ?_
        refine zG_call hd0 hz (rfl : zP 183 = (zk_X11_one, 2, (0, 0))) rfl rfl (Nat.le_of_ble_eq_true rfl) ⟨Nat.le_refl _, Nat.le_refl _⟩ (qx_one4 (by omega) hCM22   (M 98 4) (by omega) (by omega) (by refine ⟨?_, fun _ => ?_, fun _ => ?_, fun _ => ?_, fun _ => ?_, fun _ => ?_, fun _ => ?_, fun _ => ?_, fun _ => ?_, fun _ => ?_⟩ <;> omega) ) (fun vr M40 hr => ?_)
        obtain ⟨⟨hCM40, hFM40⟩, x41, rfl, hx41, hpx41_0, hpx41_1⟩ := hr
        have hWM40 : qFm [98] M M40 := hWM22.tr hFM40 (by decide)
        have e42 : M40 98 6 = M22 98 6 := hpx41_1 _ (by omega)
        have e44 : M40 98 1 = M22 98 1 := hpx41_1 _ (by omega)
        have e45 : M40 98 3 = M22 98 3 := hpx41_1 _ (by omega)
        have e46 : qA M40 (M 98 4) 0 = qA M22 (M 98 4) 0 := by unfold qA; exact hpx41_1 _ (by omega)
        have e47 : qA M40 (M 98 4) 1 = qA M22 (M 98 4) 1 := by unfold qA; exact hpx41_1 _ (by omega)
        have e48 : qA M40 (M 98 4) 2 = qA M22 (M 98 4) 2 := by unfold qA; exact hpx41_1 _ (by omega)
        have e49 : qA M40 (M 98 4) 3 = qA M22 (M 98 4) 3 := by unfold qA; exact hpx41_1 _ (by omega)
        have e50 : qA M40 (M 98 4) 5 = qA M22 (M 98 4) 5 := by unfold qA; exact hpx41_1 _ (by omega)
        have e51 : qA M40 (M 98 4) 6 = qA M22 (M 98 4) 6 := by unfold qA; exact hpx41_1 _ (by omega)
        have e52 : qA M40 (M 98 4) 7 = qA M22 (M 98 4) 7 := by unfold qA; exact hpx41_1 _ (by omega)
        have e53 : qA M40 (M 98 4) 8 = qA M22 (M 98 4) 8 := by unfold qA; exact hpx41_1 _ (by omega)
        have e54 : qA M40 (M 98 4) 9 = qA M22 (M 98 4) 9 := by unfold qA; exact hpx41_1 _ (by omega)
        have e55 : qA M40 (M 98 4) 10 = qA M22 (M 98 4) 10 := by unfold qA; exact hpx41_1 _ (by omega)
        have e56 : qA M40 (M 98 4) 11 = qA M22 (M 98 4) 11 := by unfold qA; exact hpx41_1 _ (by omega)
        have e57 : qA M40 (M 98 4) 4 = qA M22 (M 98 4) 4 := by unfold qA; exact hpx41_1 _ (by omega)
        show zG n (0, 0) d 207 (55, [.inr (.inr (some 97)), .inl a1, .inl a2, .inl a3], [.inl x41]) M40 _
        exact zG_ret hd0 hz rfl rfl ⟨⟨hCM40, hWM40⟩, _, rfl, by omega, by omega⟩
      · refine zG_blk (c' := (30, [.inr (.inr (some 97)), .inl a1, .inl a2, .inl a3], [.inl (-4)])) 1 hd0 hz (by rfl) ?_
        exact zG_ret hd0 hz rfl rfl ⟨⟨hC, hW⟩, _, rfl, by omega, by omega⟩
    · exact j18
theorem qm_208_97 {n d : Nat} {M : zM} (hd : 3 ≤ d) (hC : qMI M)  (a1 : Int) (ha1 : (-2147483648) ≤ a1 ∧ a1 ≤ 2147483647) (a2 : Int) (ha2 : (-2147483648) ≤ a2 ∧ a2 ≤ 2147483647) : qOkN n d 208 [.inr (.inr (some 97)), .inl a1, .inl a2] 3 [98] M (fun v M' => ∃ x : Int, v = some (.inl x) ∧ ((-2147483648) ≤ x ∧ x ≤ 2147483647) ∧ (M' 98 6 = M 98 6)) := by
  have hz : zP 208 = (zk_X11_appeal, 3, (0, 0)) := rfl
  have hd0 : 0 < d := by omega
  have hW : qFm [98] M M := qFm.rfl
  have r1 := hC.cnt6
  have r2 := hC.cnt4
  show zG n (0, 0) d 208 (0, [.inr (.inr (some 97)), .inl a1, .inl a2], []) M _
  refine zG_blk (c' := (3, [.inr (.inr (some 97)), .inl a1, .inl a2], [.inl a1, .inl 4, .inr (.inr (some 97))])) 3 hd0 hz (by rfl) ?_
  refine zG_call hd0 hz (rfl : zP 182 = (zk_X11_is, 3, (0, 0))) rfl rfl (Nat.le_of_ble_eq_true rfl) ⟨Nat.le_refl _, Nat.le_refl _⟩ (qx_is (by omega) hC   4 (by omega) a1 (by omega) ) (fun vr M3 hr => ?_)
  obtain ⟨hq, x4, rfl, hx4⟩ := hr
  replace hq := hq.symm; subst hq
  show zG n (0, 0) d 208 (6, [.inr (.inr (some 97)), .inl a1, .inl a2], [.inl x4]) M _
  have j16 : zG n (0, 0) d 208 (16, [.inr (.inr (some 97)), .inl a1, .inl a2], []) M (fun v M' => (qMI M' ∧ qFm [98] M M') ∧ ∃ x : Int, v = some (.inl x) ∧ ((-2147483648) ≤ x ∧ x ≤ 2147483647) ∧ (M' 98 6 = M 98 6)) := by
    refine zG_blk (c' := (18, [.inr (.inr (some 97)), .inl a1, .inl a2], [.inl (-2)])) 1 hd0 hz (by rfl) ?_
    exact zG_ret hd0 hz rfl rfl ⟨⟨hC, hW⟩, _, rfl, by omega, by omega⟩
  refine zG_if_eq hd0 hz rfl (fun hb5 => ?_) (fun hb5 => ?_)
  · exact j16
  · refine zG_blk (c' := (10, [.inr (.inr (some 97)), .inl a1, .inl a2], [.inl a2])) 1 hd0 hz (by rfl) ?_
    refine zG_call hd0 hz (rfl : zP 184 = (zk_X11_isDay, 1, (0, 0))) rfl rfl (Nat.le_of_ble_eq_true rfl) ⟨Nat.le_refl _, Nat.le_refl _⟩ (qm_184 (by omega) hC   a2 (by omega) ) (fun vr M6 hr => ?_)
    obtain ⟨hq, x7, rfl, hx7, hpx7_0⟩ := hr
    replace hq := hq.symm; subst hq
    show zG n (0, 0) d 208 (13, [.inr (.inr (some 97)), .inl a1, .inl a2], [.inl x7]) M _
    refine zG_if_ne hd0 hz rfl (fun hb8 => ?_) (fun hb8 => ?_)
    · refine zG_blk (c' := (22, [.inr (.inr (some 97)), .inl a1, .inl a2], [.inl 3, .inl a1, .inr (.inr (some 97))])) 3 hd0 hz (by rfl) ?_
      refine zG_call hd0 hz (rfl : zP 194 = (zk_X11_act, 3, (0, 0))) rfl rfl (Nat.le_of_ble_eq_true rfl) ⟨Nat.le_refl _, Nat.le_refl _⟩ (qx_act3 (by omega) hC   a1 (by omega) ) (fun vr M9 hr => ?_)
      obtain ⟨hq, x10, rfl, hx10⟩ := hr
      replace hq := hq.symm; subst hq
      show zG n (0, 0) d 208 (25, [.inr (.inr (some 97)), .inl a1, .inl a2], [.inl x10]) M _
      refine zG_blk (c' := (26, [.inr (.inr (some 97)), .inl a1, .inl a2], [.inl (-1), .inl x10])) 1 hd0 hz (by rfl) ?_
      have j51 : zG n (0, 0) d 208 (51, [.inr (.inr (some 97)), .inl a1, .inl a2], []) M (fun v M' => (qMI M' ∧ qFm [98] M M') ∧ ∃ x : Int, v = some (.inl x) ∧ ((-2147483648) ≤ x ∧ x ≤ 2147483647) ∧ (M' 98 6 = M 98 6)) := by
        refine zG_blk (c' := (53, [.inr (.inr (some 97)), .inl a1, .inl a2], [.inl (-3)])) 1 hd0 hz (by rfl) ?_
        exact zG_ret hd0 hz rfl rfl ⟨⟨hC, hW⟩, _, rfl, by omega, by omega⟩
      refine zG_icmp_eq hd0 hz rfl (fun hb11 => ?_) (fun hb11 => ?_)
      · exact j51
      · refine zG_blk (c' := (33, [.inr (.inr (some 97)), .inl a1, .inl a2], [.inl 1, .inl a1, .inr (.inr (some 97)), .inl a2])) 4 hd0 hz (by rfl) ?_
        refine zG_call hd0 hz (rfl : zP 194 = (zk_X11_act, 3, (0, 0))) rfl rfl (Nat.le_of_ble_eq_true rfl) ⟨Nat.le_refl _, Nat.le_refl _⟩ (qx_act0 (by omega) hC   a1 (by omega) 1 (by omega) ) (fun vr M12 hr => ?_)
        obtain ⟨hq, x13, rfl, hx13⟩ := hr
        replace hq := hq.symm; subst hq
        show zG n (0, 0) d 208 (36, [.inr (.inr (some 97)), .inl a1, .inl a2], [.inl x13, .inl a2]) M _
        obtain ⟨x14, hx14⟩ : ∃ x : Int, x = w32 (a2 - x13) := ⟨_, rfl⟩
        have hx14r : x14 = (a2 - x13 + 2147483648) % 4294967296 - 2147483648 := hx14
        refine zG_blk (c' := (44, [.inr (.inr (some 97)), .inl a1, .inl a2], [.inl 7, .inr (.inr (some 98)), .inl 0, .inl x14])) 5 hd0 hz (by subst hx14; rfl) ?_
        refine zG_iald hd0 hz rfl rfl (.inl rfl) (by omega) ?_
        have r15 := hC.sin 7
        show zG n (0, 0) d 208 (45, [.inr (.inr (some 97)), .inl a1, .inl a2], [.inl (M 98 7), .inl 0, .inl x14]) M _
        refine zG_call hd0 hz (rfl : zP 180 = (zk_X11_in, 3, (0, 0))) rfl rfl (Nat.le_of_ble_eq_true rfl) ⟨Nat.le_refl _, Nat.le_refl _⟩ (qx_in (by omega) hC   x14 (by omega) 0 (by omega) (M 98 7) (by omega) ) (fun vr M16 hr => ?_)
        obtain ⟨hq, x17, rfl, hx17⟩ := hr
        replace hq := hq.symm; subst hq
        show zG n (0, 0) d 208 (48, [.inr (.inr (some 97)), .inl a1, .inl a2], [.inl x17]) M _
        refine zG_if_ne hd0 hz rfl (fun hb18 => ?_) (fun hb18 => ?_)
        · refine zG_blk (c' := (55, [.inr (.inr (some 97)), .inl a1, .inl a2], [.inr (.inr (some 97))])) 1 hd0 hz (by rfl) ?_
          refine zG_call hd0 hz (rfl : zP 197 = (zk_X11_isFull, 1, (0, 0))) rfl rfl (Nat.le_of_ble_eq_true rfl) ⟨Nat.le_refl _, Nat.le_refl _⟩ (qx_isFull (by omega) hC    ) (fun vr M19 hr => ?_)
          obtain ⟨hq, x20, rfl, hx20⟩ := hr
          replace hq := hq.symm; subst hq
          show zG n (0, 0) d 208 (58, [.inr (.inr (some 97)), .inl a1, .inl a2], [.inl x20]) M _
          refine zG_if_eq hd0 hz rfl (fun hb21 => ?_) (fun hb21 => ?_)
          · refine zG_blk (c' := (69, [.inr (.inr (some 97)), .inl a1, .inl a2], [.inl (-1), .inl a2, .inl a2, .inl 5, .inr (.inr (some 97))])) 5 hd0 hz (by rfl) ?_
            refine zG_call hd0 hz (rfl : zP 196 = (zk_X11_begins, 6, (0, 0))) rfl rfl (Nat.le_of_ble_eq_true rfl) ⟨Nat.le_refl _, Nat.le_refl _⟩ (qx_begins (by omega) hC   5 a2 a2 (-1) (by omega) (by omega) (by omega) (M 98 4) (by omega) (by omega) (by omega) ) (fun vr M22 hr => ?_)
            obtain ⟨⟨hCM22, hFM22⟩, rfl, hpx23_0, hpx23_1, hpx23_2, hpx23_3, hpx23_4, hpx23_5, hpx23_6, hpx23_7, hpx23_8, hpx23_9, hpx23_10, hpx23_11, hpx23_12⟩ := hr
            have hWM22 : qFm [98] M M22 := hW.tr hFM22 (by decide)
            have e24 : M22 98 6 = M 98 6 := hpx23_12 _ (by omega)
            have e25 : M22 98 4 = M 98 4 := hpx23_12 _ (by omega)
            have e26 : M22 98 7 = M 98 7 := hpx23_12 _ (by omega)
            show zG n (0, 0) d 208 (72, [.inr (.inr (some 97)), .inl a1, .inl a2], []) M22 _
            refine zG_blk (c' := (76, [.inr (.inr (some 97)), .inl a1, .inl a2], [.inl a1, .inl 6, .inr (.inr (some 97))])) 3 hd0 hz (by rfl) ?_
            refine zG_call hd0 hz (rfl : zP 195 = (zk_X11_puts, 3, (0, 0))) rfl rfl (Nat.le_of_ble_eq_true rfl) ⟨Nat.le_refl _, Nat.le_refl _⟩ (qx_putsM (by omega) hCM22   6 a1 (by omega) (M 98 4) (by omega) (by omega) (by omega) (by refine ⟨fun _ => ?_, fun _ => ?_, fun _ => ?_, fun _ => ?_⟩ <;> omega) ) (fun vr M27 hr => ?_)
            obtain ⟨⟨hCM27, hFM27⟩, rfl, hpx28_0, hpx28_1⟩ := hr
            have hWM27 : qFm [98] M M27 := hWM22.tr hFM27 (by decide)
            have e29 : M27 98 6 = M22 98 6 := hpx28_1 _ (by omega)
            have e30 : M27 98 4 = M22 98 4 := hpx28_1 _ (by omega)
            have e31 : M27 98 7 = M22 98 7 := hpx28_1 _ (by omega)
            have e32 : qA M27 (M 98 4) 0 = qA M22 (M 98 4) 0 := by unfold qA; exact hpx28_1 _ (by omega)
            have e33 : qA M27 (M 98 4) 1 = qA M22 (M 98 4) 1 := by unfold qA; exact hpx28_1 _ (by omega)
            have e34 : qA M27 (M 98 4) 2 = qA M22 (M 98 4) 2 := by unfold qA; exact hpx28_1 _ (by omega)
            have e35 : qA M27 (M 98 4) 3 = qA M22 (M 98 4) 3 := by unfold qA; exact hpx28_1 _ (by omega)
            have e36 : qA M27 (M 98 4) 4 = qA M22 (M 98 4) 4 := by unfold qA; exact hpx28_1 _ (by omega)
            have e37 : qA M27 (M 98 4) 5 = qA M22 (M 98 4) 5 := by unfold qA; exact hpx28_1 _ (by omega)
            have e39 : qA M27 (M 98 4) 7 = qA M22 (M 98 4) 7 := by unfold qA; exact hpx28_1 _ (by omega)
            have e40 : qA M27 (M 98 4) 8 = qA M22 (M 98 4) 8 := by unfold qA; exact hpx28_1 _ (by omega)
            have e41 : qA M27 (M 98 4) 9 = qA M22 (M 98 4) 9 := by unfold qA; exact hpx28_1 _ (by omega)
            have e42 : qA M27 (M 98 4) 10 = qA M22 (M 98 4) 10 := by unfold qA; exact hpx28_1 _ (by omega)
            have e43 : qA M27 (M 98 4) 11 = qA M22 (M 98 4) 11 := by unfold qA; exact hpx28_1 _ (by omega)
            show zG n (0, 0) d 208 (79, [.inr (.inr (some 97)), .inl a1, .inl a2], []) M27 _
            refine zG_blk (c' := (81, [.inr (.inr (some 97)), .inl a1, .inl a2], [.inl 4, .inr (.inr (some 97))])) 2 hd0 hz (by rfl) ?_
            refine zG_call hd0 hz (rfl : zP 183 = (zk_X11_one, 2, (0, 0))) rfl rfl (Nat.le_of_ble_eq_true rfl) ⟨Nat.le_refl _, Nat.le_refl _⟩ (qx_one4 (by omega) hCM27   (M 98 4) (by omega) (by omega) (by refine ⟨?_, fun _ => ?_, fun _ => ?_, fun _ => ?_, fun _ => ?_, fun _ => ?_, fun _ => ?_, fun _ => ?_, fun _ => ?_, fun _ => ?_⟩ <;> omega) ) (fun vr M44 hr => ?_)
            obtain ⟨⟨hCM44, hFM44⟩, x45, rfl, hx45, hpx45_0, hpx45_1⟩ := hr
            have hWM44 : qFm [98] M M44 := hWM27.tr hFM44 (by decide)
            have e46 : M44 98 6 = M27 98 6 := hpx45_1 _ (by omega)
            have e48 : M44 98 7 = M27 98 7 := hpx45_1 _ (by omega)
            have e49 : qA M44 (M 98 4) 0 = qA M27 (M 98 4) 0 := by unfold qA; exact hpx45_1 _ (by omega)
            have e50 : qA M44 (M 98 4) 1 = qA M27 (M 98 4) 1 := by unfold qA; exact hpx45_1 _ (by omega)
            have e51 : qA M44 (M 98 4) 2 = qA M27 (M 98 4) 2 := by unfold qA; exact hpx45_1 _ (by omega)
            have e52 : qA M44 (M 98 4) 3 = qA M27 (M 98 4) 3 := by unfold qA; exact hpx45_1 _ (by omega)
            have e53 : qA M44 (M 98 4) 4 = qA M27 (M 98 4) 4 := by unfold qA; exact hpx45_1 _ (by omega)
            have e54 : qA M44 (M 98 4) 5 = qA M27 (M 98 4) 5 := by unfold qA; exact hpx45_1 _ (by omega)
            have e55 : qA M44 (M 98 4) 7 = qA M27 (M 98 4) 7 := by unfold qA; exact hpx45_1 _ (by omega)
            have e56 : qA M44 (M 98 4) 8 = qA M27 (M 98 4) 8 := by unfold qA; exact hpx45_1 _ (by omega)
            have e57 : qA M44 (M 98 4) 9 = qA M27 (M 98 4) 9 := by unfold qA; exact hpx45_1 _ (by omega)
            have e58 : qA M44 (M 98 4) 10 = qA M27 (M 98 4) 10 := by unfold qA; exact hpx45_1 _ (by omega)
            have e59 : qA M44 (M 98 4) 11 = qA M27 (M 98 4) 11 := by unfold qA; exact hpx45_1 _ (by omega)
            have e60 : qA M44 (M 98 4) 6 = qA M27 (M 98 4) 6 := by unfold qA; exact hpx45_1 _ (by omega)
            show zG n (0, 0) d 208 (84, [.inr (.inr (some 97)), .inl a1, .inl a2], [.inl x45]) M44 _
            exact zG_ret hd0 hz rfl rfl ⟨⟨hCM44, hWM44⟩, _, rfl, by omega, by omega⟩
          · refine zG_blk (c' := (63, [.inr (.inr (some 97)), .inl a1, .inl a2], [.inl (-4)])) 1 hd0 hz (by rfl) ?_
            exact zG_ret hd0 hz rfl rfl ⟨⟨hC, hW⟩, _, rfl, by omega, by omega⟩
        · exact j51
    · exact j16
theorem qm_209_97 {n d : Nat} {M : zM} (hd : 2 ≤ d) (hC : qMI M)  (a1 : Int) (ha1 : (-2147483648) ≤ a1 ∧ a1 ≤ 2147483647) : qOkN n d 209 [.inr (.inr (some 97)), .inl a1] 3 [98] M (fun v M' => ∃ x : Int, v = some (.inl x) ∧ ((-2147483648) ≤ x ∧ x ≤ 2147483647) ∧ (M' 98 6 = M 98 6)) := by
  have hz : zP 209 = (zk_X11_days, 3, (0, 0)) := rfl
  have hd0 : 0 < d := by omega
  have hW : qFm [98] M M := qFm.rfl
  have r1 := hC.cnt6
  show zG n (0, 0) d 209 (0, [.inr (.inr (some 97)), .inl a1, zN], []) M _
  refine zG_blk (c' := (5, [.inr (.inr (some 97)), .inl a1, zN], [.inl 1000, .inl 0, .inl a1])) 3 hd0 hz (by rfl) ?_
  refine zG_call hd0 hz (rfl : zP 180 = (zk_X11_in, 3, (0, 0))) rfl rfl (Nat.le_of_ble_eq_true rfl) ⟨Nat.le_refl _, Nat.le_refl _⟩ (qx_in (by omega) hC   a1 (by omega) 0 (by omega) 1000 (by omega) ) (fun vr M2 hr => ?_)
  obtain ⟨hq, x3, rfl, hx3⟩ := hr
  replace hq := hq.symm; subst hq
  show zG n (0, 0) d 209 (8, [.inr (.inr (some 97)), .inl a1, zN], [.inl x3]) M _
  refine zG_if_ne hd0 hz rfl (fun hb4 => ?_) (fun hb4 => ?_)
  · refine zG_blk (c' := (20, [.inr (.inr (some 97)), .inl a1, zN], [.inl 7, .inr (.inr (some 98))])) 3 hd0 hz (by rfl) ?_
    refine zG_iald hd0 hz rfl rfl (.inl rfl) (by omega) ?_
    have r5 := hC.sin 7
    show zG n (0, 0) d 209 (21, [.inr (.inr (some 97)), .inl a1, zN], [.inl (M 98 7)]) M _
    refine zG_blk (c' := (29, [.inr (.inr (some 97)), .inl a1, .inl (M 98 7)], [.inl a1, .inl 7, .inr (.inr (some 98))])) 5 hd0 hz (by rfl) ?_
    refine zG_iast hd0 hz rfl rfl (by omega) ?_
    obtain ⟨M6, hM6⟩ : ∃ X : zM, X = zput M 98 (7 : Int).toNat a1 := ⟨_, rfl⟩
    rw [← hM6]
    have hCM6 : qMI M6 := by rw [hM6]; exact hC.put98' (by refine ⟨by omega, fun _ => by omega, fun _ => by omega, fun _ => by omega, fun _ => by omega, fun _ => by omega, fun _ => by omega, fun _ => by omega, fun c9 hc9 _ => by omega, fun u9 hu9 _ => by omega, fun m9 hm9 _ => by omega, fun a9 ha9 => ⟨fun _ => by omega, fun _ => by omega, fun _ => by omega, fun _ => by omega⟩, fun t9 ht9 _ => by omega, fun o9 ho9 _ => by omega⟩) (by omega) (by omega)
    have hWM6 : qFm [98] M M6 := by rw [hM6]; exact hW.pa (by decide) (by decide)
    have e7 : M6 98 6 = M 98 6 := by rw [hM6]; exact qput_nk (by omega)
    show zG n (0, 0) d 209 (30, [.inr (.inr (some 97)), .inl a1, .inl (M 98 7)], []) M6 _
    refine zG_blk (c' := (31, [.inr (.inr (some 97)), .inl a1, .inl (M 98 7)], [.inl (M 98 7)])) 1 hd0 hz (by rfl) ?_
    exact zG_ret hd0 hz rfl rfl ⟨⟨hCM6, hWM6⟩, _, rfl, by omega, by omega⟩
  · refine zG_blk (c' := (13, [.inr (.inr (some 97)), .inl a1, zN], [.inl (-2)])) 1 hd0 hz (by rfl) ?_
    exact zG_ret hd0 hz rfl rfl ⟨⟨hC, hW⟩, _, rfl, by omega, by omega⟩
theorem qm_253_97 {n d : Nat} {M : zM} (hd : 3 ≤ d) (hC : qMI M)  (a1 : Int) (ha1 : (-2147483648) ≤ a1 ∧ a1 ≤ 2147483647) (a2 : Int) (ha2 : (-2147483648) ≤ a2 ∧ a2 ≤ 2147483647) : qOkN n d 253 [.inr (.inr (some 97)), .inl a1, .inl a2] 4 [98] M (fun v M' => ∃ x : Int, v = some (.inl x) ∧ ((-2147483648) ≤ x ∧ x ≤ 2147483647) ∧ (M' 98 6 = M 98 6)) := by
  have hz : zP 253 = (zk_X11_write, 4, (0, 0)) := rfl
  have hd0 : 0 < d := by omega
  have hW : qFm [98] M M := qFm.rfl
  have r1 := hC.cnt6
  show zG n (0, 0) d 253 (0, [.inr (.inr (some 97)), .inl a1, .inl a2, zN], []) M _
  refine zG_blk (c' := (1, [.inr (.inr (some 97)), .inl a1, .inl a2, zN], [.inl a1])) 1 hd0 hz (by rfl) ?_
  refine zG_call hd0 hz (rfl : zP 252 = (zk_X11_isText, 1, (0, 0))) rfl rfl (Nat.le_of_ble_eq_true rfl) ⟨Nat.le_refl _, Nat.le_refl _⟩ (qm_252 (by omega) hC   a1 (by omega) ) (fun vr M2 hr => ?_)
  obtain ⟨hq, x3, rfl, hx3, hpx3_0⟩ := hr
  replace hq := hq.symm; subst hq
  show zG n (0, 0) d 253 (4, [.inr (.inr (some 97)), .inl a1, .inl a2, zN], [.inl x3]) M _
  have j17 : zG n (0, 0) d 253 (17, [.inr (.inr (some 97)), .inl a1, .inl a2, zN], []) M (fun v M' => (qMI M' ∧ qFm [98] M M') ∧ ∃ x : Int, v = some (.inl x) ∧ ((-2147483648) ≤ x ∧ x ≤ 2147483647) ∧ (M' 98 6 = M 98 6)) := by
    refine zG_blk (c' := (19, [.inr (.inr (some 97)), .inl a1, .inl a2, zN], [.inl (-2)])) 1 hd0 hz (by rfl) ?_
    exact zG_ret hd0 hz rfl rfl ⟨⟨hC, hW⟩, _, rfl, by omega, by omega⟩
  refine zG_if_eq hd0 hz rfl (fun hb4 => ?_) (fun hb4 => ?_)
  · exact j17
  · refine zG_blk (c' := (11, [.inr (.inr (some 97)), .inl a1, .inl a2, zN], [.inl 127, .inl 0, .inl a2])) 3 hd0 hz (by rfl) ?_
    refine zG_call hd0 hz (rfl : zP 180 = (zk_X11_in, 3, (0, 0))) rfl rfl (Nat.le_of_ble_eq_true rfl) ⟨Nat.le_refl _, Nat.le_refl _⟩ (qx_in (by omega) hC   a2 (by omega) 0 (by omega) 127 (by omega) ) (fun vr M5 hr => ?_)
    obtain ⟨hq, x6, rfl, hx6⟩ := hr
    replace hq := hq.symm; subst hq
    show zG n (0, 0) d 253 (14, [.inr (.inr (some 97)), .inl a1, .inl a2, zN], [.inl x6]) M _
    refine zG_if_ne hd0 hz rfl (fun hb7 => ?_) (fun hb7 => ?_)
    · obtain ⟨x8, hx8⟩ : ∃ x : Int, x = w32 (81 * a1) := ⟨_, rfl⟩
      have hx8e : x8 = 81 * a1 := by rw [hx8]; exact w32_id (by omega)
      obtain ⟨x9, hx9⟩ : ∃ x : Int, x = w32 (3350 + x8) := ⟨_, rfl⟩
      have hx9e : x9 = 3350 + x8 := by rw [hx9]; exact w32_id (by omega)
      refine zG_blk (c' := (34, [.inr (.inr (some 97)), .inl a1, .inl a2, .inl x9], [.inl x9, .inr (.inr (some 98))])) 9 hd0 hz (by subst hx9; subst hx8; rfl) ?_
      refine zG_iald hd0 hz rfl rfl (.inl rfl) (by omega) ?_
      obtain ⟨x10, hx10⟩ : ∃ x : Int, x = M 98 (x9 : Int).toNat := ⟨_, rfl⟩
      rw [← hx10]
      have hx10r : qin x10 := by rw [hx10]; exact hC.sin _
      show zG n (0, 0) d 253 (35, [.inr (.inr (some 97)), .inl a1, .inl a2, .inl x9], [.inl x10]) M _
      refine zG_blk (c' := (37, [.inr (.inr (some 97)), .inl a1, .inl a2, .inl x9], [.inl 80, .inl x10])) 1 hd0 hz (by rfl) ?_
      refine zG_icmp_ne hd0 hz rfl (fun hb11 => ?_) (fun hb11 => ?_)
      · refine zG_blk (c' := (49, [.inr (.inr (some 97)), .inl a1, .inl a2, .inl x9], [.inl x9, .inr (.inr (some 98)), .inl x9, .inr (.inr (some 98))])) 4 hd0 hz (by rfl) ?_
        refine zG_iald hd0 hz rfl rfl (.inl rfl) (by omega) ?_
        obtain ⟨x12, hx12⟩ : ∃ x : Int, x = M 98 (x9 : Int).toNat := ⟨_, rfl⟩
        rw [← hx12]
        have hx12r : 0 ≤ x12 ∧ x12 ≤ 80 := by rw [hx12]; exact hC.txt a1 _ (by omega) (by omega)
        show zG n (0, 0) d 253 (50, [.inr (.inr (some 97)), .inl a1, .inl a2, .inl x9], [.inl x12, .inl x9, .inr (.inr (some 98))]) M _
        obtain ⟨x13, hx13⟩ : ∃ x : Int, x = w32 (x12 + 1) := ⟨_, rfl⟩
        have hx13e : x13 = x12 + 1 := by rw [hx13]; exact w32_id (by omega)
        refine zG_blk (c' := (52, [.inr (.inr (some 97)), .inl a1, .inl a2, .inl x9], [.inl x13, .inl x9, .inr (.inr (some 98))])) 2 hd0 hz (by subst hx13; rfl) ?_
        refine zG_iast hd0 hz rfl rfl (by omega) ?_
        obtain ⟨M14, hM14⟩ : ∃ X : zM, X = zput M 98 (x9 : Int).toNat x13 := ⟨_, rfl⟩
        rw [← hM14]
        have hCM14 : qMI M14 := by rw [hM14]; exact hC.put98' (by refine ⟨by omega, fun _ => by omega, fun _ => by omega, fun _ => by omega, fun _ => by omega, fun _ => by omega, fun _ => by omega, fun _ => by omega, fun c9 hc9 _ => by omega, fun u9 hu9 _ => by omega, fun m9 hm9 _ => by omega, fun a9 ha9 => ⟨fun _ => by omega, fun _ => by omega, fun _ => by omega, fun _ => by omega⟩, fun t9 ht9 _ => by omega, fun o9 ho9 _ => by omega⟩) (by omega) (by omega)
        have hWM14 : qFm [98] M M14 := by rw [hM14]; exact hW.pa (by decide) (by decide)
        have e15 : M14 98 6 = M 98 6 := by rw [hM14]; exact qput_nk (by omega)
        have hln : M14 98 (x9 : Int).toNat = x13 := by rw [hM14]; exact qput_eq
        show zG n (0, 0) d 253 (53, [.inr (.inr (some 97)), .inl a1, .inl a2, .inl x9], []) M14 _
        refine zG_blk (c' := (63, [.inr (.inr (some 97)), .inl a1, .inl a2, .inl x9], [.inl x9, .inr (.inr (some 98)), .inl x9, .inr (.inr (some 98))])) 6 hd0 hz (by rfl) ?_
        refine zG_iald hd0 hz rfl rfl (.inl rfl) (by omega) ?_
        obtain ⟨x16, hx16⟩ : ∃ x : Int, x = M14 98 (x9 : Int).toNat := ⟨_, rfl⟩
        rw [← hx16]
        have hx16r : 0 ≤ x16 ∧ x16 ≤ 80 := by rw [hx16]; exact hCM14.txt a1 _ (by omega) (by omega)
        show zG n (0, 0) d 253 (64, [.inr (.inr (some 97)), .inl a1, .inl a2, .inl x9], [.inl x16, .inl x9, .inr (.inr (some 98))]) M14 _
        obtain ⟨x17, hx17⟩ : ∃ x : Int, x = w32 (x9 + x16) := ⟨_, rfl⟩
        have hx17e : x17 = x9 + x16 := by rw [hx17]; exact w32_id (by omega)
        refine zG_blk (c' := (66, [.inr (.inr (some 97)), .inl a1, .inl a2, .inl x9], [.inl a2, .inl x17, .inr (.inr (some 98))])) 2 hd0 hz (by subst hx17; rfl) ?_
        refine zG_iast hd0 hz rfl rfl (by omega) ?_
        obtain ⟨M18, hM18⟩ : ∃ X : zM, X = zput M14 98 (x17 : Int).toNat a2 := ⟨_, rfl⟩
        rw [← hM18]
        have hCM18 : qMI M18 := by rw [hM18]; exact hCM14.put98' (by refine ⟨by omega, fun _ => by omega, fun _ => by omega, fun _ => by omega, fun _ => by omega, fun _ => by omega, fun _ => by omega, fun _ => by omega, fun c9 hc9 _ => by omega, fun u9 hu9 _ => by omega, fun m9 hm9 _ => by omega, fun a9 ha9 => ⟨fun _ => by omega, fun _ => by omega, fun _ => by omega, fun _ => by omega⟩, fun t9 ht9 _ => by omega, fun o9 ho9 _ => by omega⟩) (by omega) (by omega)
        have hWM18 : qFm [98] M M18 := by rw [hM18]; exact hWM14.pa (by decide) (by decide)
        have e19 : M18 98 6 = M14 98 6 := by rw [hM18]; exact qput_nk (by omega)
        show zG n (0, 0) d 253 (67, [.inr (.inr (some 97)), .inl a1, .inl a2, .inl x9], []) M18 _
        refine zG_blk (c' := (72, [.inr (.inr (some 97)), .inl a1, .inl a2, .inl x9], [.inl x9, .inr (.inr (some 98))])) 3 hd0 hz (by rfl) ?_
        refine zG_iald hd0 hz rfl rfl (.inl rfl) (by omega) ?_
        obtain ⟨x20, hx20⟩ : ∃ x : Int, x = M18 98 (x9 : Int).toNat := ⟨_, rfl⟩
        rw [← hx20]
        have hx20r : qin x20 := by rw [hx20]; exact hCM18.sin _
        show zG n (0, 0) d 253 (73, [.inr (.inr (some 97)), .inl a1, .inl a2, .inl x9], [.inl x20]) M18 _
        exact zG_ret hd0 hz rfl rfl ⟨⟨hCM18, hWM18⟩, _, rfl, by omega, by omega⟩
      · refine zG_blk (c' := (42, [.inr (.inr (some 97)), .inl a1, .inl a2, .inl x9], [.inl (-4)])) 1 hd0 hz (by rfl) ?_
        exact zG_ret hd0 hz rfl rfl ⟨⟨hC, hW⟩, _, rfl, by omega, by omega⟩
    · exact j17
theorem qm_254_97 {n d : Nat} {M : zM} (hd : 3 ≤ d) (hC : qMI M)  (a1 : Int) (ha1 : (-2147483648) ≤ a1 ∧ a1 ≤ 2147483647) : qOkN n d 254 [.inr (.inr (some 97)), .inl a1] 3 [98] M (fun v M' => ∃ x : Int, v = some (.inl x) ∧ ((-2) ≤ x ∧ x ≤ 80) ∧ (M' 98 6 = M 98 6)) := by
  have hz : zP 254 = (zk_X11_erase, 3, (0, 0)) := rfl
  have hd0 : 0 < d := by omega
  have hW : qFm [98] M M := qFm.rfl
  have r1 := hC.cnt6
  show zG n (0, 0) d 254 (0, [.inr (.inr (some 97)), .inl a1, zN], []) M _
  refine zG_blk (c' := (1, [.inr (.inr (some 97)), .inl a1, zN], [.inl a1])) 1 hd0 hz (by rfl) ?_
  refine zG_call hd0 hz (rfl : zP 252 = (zk_X11_isText, 1, (0, 0))) rfl rfl (Nat.le_of_ble_eq_true rfl) ⟨Nat.le_refl _, Nat.le_refl _⟩ (qm_252 (by omega) hC   a1 (by omega) ) (fun vr M2 hr => ?_)
  obtain ⟨hq, x3, rfl, hx3, hpx3_0⟩ := hr
  replace hq := hq.symm; subst hq
  show zG n (0, 0) d 254 (4, [.inr (.inr (some 97)), .inl a1, zN], [.inl x3]) M _
  refine zG_if_ne hd0 hz rfl (fun hb4 => ?_) (fun hb4 => ?_)
  · obtain ⟨x5, hx5⟩ : ∃ x : Int, x = w32 (81 * a1) := ⟨_, rfl⟩
    have hx5e : x5 = 81 * a1 := by rw [hx5]; exact w32_id (by omega)
    obtain ⟨x6, hx6⟩ : ∃ x : Int, x = w32 (3350 + x5) := ⟨_, rfl⟩
    have hx6e : x6 = 3350 + x5 := by rw [hx6]; exact w32_id (by omega)
    refine zG_blk (c' := (22, [.inr (.inr (some 97)), .inl a1, zN], [.inl x6, .inr (.inr (some 98))])) 7 hd0 hz (by subst hx6; subst hx5; rfl) ?_
    refine zG_iald hd0 hz rfl rfl (.inl rfl) (by omega) ?_
    obtain ⟨x7, hx7⟩ : ∃ x : Int, x = M 98 (x6 : Int).toNat := ⟨_, rfl⟩
    rw [← hx7]
    have hx7r : 0 ≤ x7 ∧ x7 ≤ 80 := by rw [hx7]; exact hC.txt a1 _ (by omega) (by omega)
    show zG n (0, 0) d 254 (23, [.inr (.inr (some 97)), .inl a1, zN], [.inl x7]) M _
    obtain ⟨x8, hx8⟩ : ∃ x : Int, x = w32 (81 * a1) := ⟨_, rfl⟩
    have hx8e : x8 = 81 * a1 := by rw [hx8]; exact w32_id (by omega)
    obtain ⟨x9, hx9⟩ : ∃ x : Int, x = w32 (3350 + x8) := ⟨_, rfl⟩
    have hx9e : x9 = 3350 + x8 := by rw [hx9]; exact w32_id (by omega)
    refine zG_blk (c' := (37, [.inr (.inr (some 97)), .inl a1, .inl x7], [.inl 0, .inl x9, .inr (.inr (some 98))])) 9 hd0 hz (by subst hx9; subst hx8; rfl) ?_
    refine zG_iast hd0 hz rfl rfl (by omega) ?_
    obtain ⟨M10, hM10⟩ : ∃ X : zM, X = zput M 98 (x9 : Int).toNat 0 := ⟨_, rfl⟩
    rw [← hM10]
    have hCM10 : qMI M10 := by rw [hM10]; exact hC.put98' (by refine ⟨by omega, fun _ => by omega, fun _ => by omega, fun _ => by omega, fun _ => by omega, fun _ => by omega, fun _ => by omega, fun _ => by omega, fun c9 hc9 _ => by omega, fun u9 hu9 _ => by omega, fun m9 hm9 _ => by omega, fun a9 ha9 => ⟨fun _ => by omega, fun _ => by omega, fun _ => by omega, fun _ => by omega⟩, fun t9 ht9 _ => by omega, fun o9 ho9 _ => by omega⟩) (by omega) (by omega)
    have hWM10 : qFm [98] M M10 := by rw [hM10]; exact hW.pa (by decide) (by decide)
    have e11 : M10 98 6 = M 98 6 := by rw [hM10]; exact qput_nk (by omega)
    show zG n (0, 0) d 254 (38, [.inr (.inr (some 97)), .inl a1, .inl x7], []) M10 _
    refine zG_blk (c' := (39, [.inr (.inr (some 97)), .inl a1, .inl x7], [.inl x7])) 1 hd0 hz (by rfl) ?_
    exact zG_ret hd0 hz rfl rfl ⟨⟨hCM10, hWM10⟩, _, rfl, by omega, by omega⟩
  · refine zG_blk (c' := (9, [.inr (.inr (some 97)), .inl a1, zN], [.inl (-2)])) 1 hd0 hz (by rfl) ?_
    exact zG_ret hd0 hz rfl rfl ⟨⟨hC, hW⟩, _, rfl, by omega, by omega⟩
