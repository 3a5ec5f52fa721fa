/-! THE MODEL'S METHODS, BY PROGRAM -/
theorem qm_205_97 {n d : Nat} {M : zM} (hd : 4 ≤ d) (hC : qMI M)  (a1 : Int) (ha1 : (-2147483648) ≤ a1 ∧ a1 ≤ 2147483647) (a2 : Int) (ha2 : (-2147483648) ≤ a2 ∧ a2 ≤ 2147483647) (a3 : Int) (ha3 : (-2147483648) ≤ a3 ∧ a3 ≤ 2147483647) (a4 : Int) (ha4 : (-2147483648) ≤ a4 ∧ a4 ≤ 2147483647) : qOkN n d 205 [.inr (.inr (some 97)), .inl a1, .inl a2, .inl a3, .inl a4] 5 [98] M (fun v M' => ∃ x : Int, v = some (.inl x) ∧ ((-2147483648) ≤ x ∧ x ≤ 2147483647)) := by
  have hz := zp_205
  have hd0 : 0 < d := by omega
  have hW : qFm [98] M M := qFm.rfl
  have r1 := hC.cnt4
  have r2 := hC.cnt1
  have r3 := hC.cnt0
  have r4 := hC.cnt3
  show zG n (0, 0) d 205 (0, [.inr (.inr (some 97)), .inl a1, .inl a2, .inl a3, .inl a4], []) M _
  refine zG_blk (c' := (3, [.inr (.inr (some 97)), .inl a1, .inl a2, .inl a3, .inl a4], [.inl a1, .inl 1, .inr (.inr (some 97))])) 3 hd0 hz (by rfl) ?_
  refine zG_call hd0 hz zp_182 rfl rfl (Nat.le_of_ble_eq_true rfl) ⟨Nat.le_refl _, Nat.le_refl _⟩ (qx_is (by first | exact zdp hd (by decide) | omega) hC   1 (by first | decide | omega) a1 (by first | with_reducible exact ha1 | omega) ) (fun vr M5 hr => ?_)
  obtain ⟨hq, x6, rfl, hx6⟩ := hr
  replace hq := hq.symm; subst hq
  show zG n (0, 0) d 205 (6, [.inr (.inr (some 97)), .inl a1, .inl a2, .inl a3, .inl a4], [.inl x6]) M _
  have j28 : zG n (0, 0) d 205 (28, [.inr (.inr (some 97)), .inl a1, .inl a2, .inl a3, .inl a4], []) M (fun v M' => (qMI M' ∧ qFm [98] M M') ∧ ∃ x : Int, v = some (.inl x) ∧ ((-2147483648) ≤ x ∧ x ≤ 2147483647)) := by
    refine zG_blk (c' := (30, [.inr (.inr (some 97)), .inl a1, .inl a2, .inl a3, .inl a4], [.inl (-2)])) 1 hd0 hz (by rfl) ?_
    exact zG_ret hd0 hz rfl rfl ⟨⟨hC, hW⟩, _, rfl, by omega⟩
  refine zG_if_eq hd0 hz rfl (fun hb7 => ?_) (fun hb7 => ?_)
  · exact j28
  · have hcx6 := hx6.2.2.mp (by omega)
    clear hx6 hb7
    refine zG_blk (c' := (12, [.inr (.inr (some 97)), .inl a1, .inl a2, .inl a3, .inl a4], [.inl a2, .inl 0, .inr (.inr (some 97))])) 3 hd0 hz (by rfl) ?_
    refine zG_call hd0 hz zp_182 rfl rfl (Nat.le_of_ble_eq_true rfl) ⟨Nat.le_refl _, Nat.le_refl _⟩ (qx_is (by first | exact zdp hd (by decide) | omega) hC   0 (by first | decide | omega) a2 (by first | with_reducible exact ha2 | omega) ) (fun vr M8 hr => ?_)
    obtain ⟨hq, x9, rfl, hx9⟩ := hr
    replace hq := hq.symm; subst hq
    show zG n (0, 0) d 205 (15, [.inr (.inr (some 97)), .inl a1, .inl a2, .inl a3, .inl a4], [.inl x9]) M _
    refine zG_if_eq hd0 hz rfl (fun hb10 => ?_) (fun hb10 => ?_)
    · exact j28
    · have hcx9 := hx9.2.2.mp (by omega)
      clear hx9 hb10
      refine zG_blk (c' := (22, [.inr (.inr (some 97)), .inl a1, .inl a2, .inl a3, .inl a4], [.inl a4, .inl a3, .inr (.inr (some 97))])) 3 hd0 hz (by rfl) ?_
      refine zG_call hd0 hz zp_200 rfl rfl (Nat.le_of_ble_eq_true rfl) ⟨Nat.le_refl _, Nat.le_refl _⟩ (qm_200_97 (by first | exact zdp hd (by decide) | omega) hC   a3 (by first | with_reducible exact ha3 | omega) a4 (by first | with_reducible exact ha4 | omega) ) (fun vr M11 hr => ?_)
      obtain ⟨hq, x12, rfl, hx12, hpx12_0⟩ := hr
      replace hq := hq.symm; subst hq
      show zG n (0, 0) d 205 (25, [.inr (.inr (some 97)), .inl a1, .inl a2, .inl a3, .inl a4], [.inl x12]) M _
      refine zG_if_ne hd0 hz rfl (fun hb13 => ?_) (fun hb13 => ?_)
      · have hcx12 := hpx12_0.mp (by omega)
        clear hx12 hpx12_0 hb13
        refine zG_blk (c' := (32, [.inr (.inr (some 97)), .inl a1, .inl a2, .inl a3, .inl a4], [.inr (.inr (some 97))])) 1 hd0 hz (by rfl) ?_
        refine zG_call hd0 hz zp_197 rfl rfl (Nat.le_of_ble_eq_true rfl) ⟨Nat.le_refl _, Nat.le_refl _⟩ (qx_isFull (by first | exact zdp hd (by decide) | omega) hC    ) (fun vr M14 hr => ?_)
        obtain ⟨hq, x15, rfl, hx15⟩ := hr
        replace hq := hq.symm; subst hq
        show zG n (0, 0) d 205 (35, [.inr (.inr (some 97)), .inl a1, .inl a2, .inl a3, .inl a4], [.inl x15]) M _
        refine zG_if_eq hd0 hz rfl (fun hb16 => ?_) (fun hb16 => ?_)
        · refine zG_blk (c' := (45, [.inr (.inr (some 97)), .inl a1, .inl a2, .inl a3, .inl a4], [.inl a3, .inr (.inr (some 97)), .inl 4, .inr (.inr (some 97))])) 4 hd0 hz (by rfl) ?_
          refine zG_call hd0 hz zp_199 rfl rfl (Nat.le_of_ble_eq_true rfl) ⟨Nat.le_refl _, Nat.le_refl _⟩ (qx_dayOf (by first | exact zdp hd (by decide) | omega) hC   a3 (by first | with_reducible exact ha3 | omega) ) (fun vr M17 hr => ?_)
          obtain ⟨hq, x18, rfl, hx18⟩ := hr
          replace hq := hq.symm; subst hq
          show zG n (0, 0) d 205 (48, [.inr (.inr (some 97)), .inl a1, .inl a2, .inl a3, .inl a4], [.inl x18, .inl 4, .inr (.inr (some 97))]) M _
          refine zG_blk (c' := (51, [.inr (.inr (some 97)), .inl a1, .inl a2, .inl a3, .inl a4], [.inl a3, .inl a4, .inl x18, .inl 4, .inr (.inr (some 97))])) 2 hd0 hz (by rfl) ?_
          refine zG_call hd0 hz zp_196 rfl rfl (Nat.le_of_ble_eq_true rfl) ⟨Nat.le_refl _, Nat.le_refl _⟩ (qx_begins (by first | exact zdp hd (by decide) | omega) hC   4 x18 a4 a3 (by first | with_reducible exact ha3 | omega) (by omega) (by omega) (M 98 4) (by omega) (by omega) (by omega) ) (fun vr M19 hr => ?_)
          obtain ⟨⟨hCM19, hFM19⟩, rfl, hpx20_0, hpx20_1, hpx20_2, hpx20_3, hpx20_4, hpx20_5, hpx20_6, hpx20_7, hpx20_8, hpx20_9, hpx20_10, hpx20_11, hpx20_12⟩ := hr
          have hWM19 : qFm [98] M M19 := hW.tr hFM19 (by decide)
          have e21 : M19 98 4 = M 98 4 := hpx20_12 _ (by omega)
          have e22 : M19 98 1 = M 98 1 := hpx20_12 _ (by omega)
          have e23 : M19 98 0 = M 98 0 := hpx20_12 _ (by omega)
          have e24 : M19 98 3 = M 98 3 := hpx20_12 _ (by omega)
          show zG n (0, 0) d 205 (54, [.inr (.inr (some 97)), .inl a1, .inl a2, .inl a3, .inl a4], []) M19 _
          refine zG_blk (c' := (57, [.inr (.inr (some 97)), .inl a1, .inl a2, .inl a3, .inl a4], [.inl a1, .inl 4, .inr (.inr (some 97))])) 3 hd0 hz (by rfl) ?_
          refine zG_call hd0 hz zp_195 rfl rfl (Nat.le_of_ble_eq_true rfl) ⟨Nat.le_refl _, Nat.le_refl _⟩ (qx_putsM (by first | exact zdp hd (by decide) | omega) hCM19   4 a1 (by first | with_reducible exact ha1 | omega) (M 98 4) (by omega) (by omega) (by omega) (by refine ⟨fun _ => ?_, fun _ => ?_, fun _ => ?_, fun _ => ?_⟩ <;> omega) ) (fun vr M25 hr => ?_)
          obtain ⟨⟨hCM25, hFM25⟩, rfl, hpx26_0, hpx26_1⟩ := hr
          have hWM25 : qFm [98] M M25 := hWM19.tr hFM25 (by decide)
          have e27 : M25 98 4 = M19 98 4 := hpx26_1 _ (by omega)
          have e28 : M25 98 1 = M19 98 1 := hpx26_1 _ (by omega)
          have e29 : M25 98 0 = M19 98 0 := hpx26_1 _ (by omega)
          have e30 : M25 98 3 = M19 98 3 := hpx26_1 _ (by omega)
          have e31 : qA M25 (M 98 4) 0 = qA M19 (M 98 4) 0 := by unfold qA; exact hpx26_1 _ (by omega)
          have e32 : qA M25 (M 98 4) 1 = qA M19 (M 98 4) 1 := by unfold qA; exact hpx26_1 _ (by omega)
          have e33 : qA M25 (M 98 4) 2 = qA M19 (M 98 4) 2 := by unfold qA; exact hpx26_1 _ (by omega)
          have e34 : qA M25 (M 98 4) 3 = qA M19 (M 98 4) 3 := by unfold qA; exact hpx26_1 _ (by omega)
          have e36 : qA M25 (M 98 4) 5 = qA M19 (M 98 4) 5 := by unfold qA; exact hpx26_1 _ (by omega)
          have e37 : qA M25 (M 98 4) 6 = qA M19 (M 98 4) 6 := by unfold qA; exact hpx26_1 _ (by omega)
          have e38 : qA M25 (M 98 4) 7 = qA M19 (M 98 4) 7 := by unfold qA; exact hpx26_1 _ (by omega)
          have e39 : qA M25 (M 98 4) 8 = qA M19 (M 98 4) 8 := by unfold qA; exact hpx26_1 _ (by omega)
          have e40 : qA M25 (M 98 4) 9 = qA M19 (M 98 4) 9 := by unfold qA; exact hpx26_1 _ (by omega)
          have e41 : qA M25 (M 98 4) 10 = qA M19 (M 98 4) 10 := by unfold qA; exact hpx26_1 _ (by omega)
          have e42 : qA M25 (M 98 4) 11 = qA M19 (M 98 4) 11 := by unfold qA; exact hpx26_1 _ (by omega)
          show zG n (0, 0) d 205 (60, [.inr (.inr (some 97)), .inl a1, .inl a2, .inl a3, .inl a4], []) M25 _
          refine zG_blk (c' := (63, [.inr (.inr (some 97)), .inl a1, .inl a2, .inl a3, .inl a4], [.inl a2, .inl 5, .inr (.inr (some 97))])) 3 hd0 hz (by rfl) ?_
          refine zG_call hd0 hz zp_195 rfl rfl (Nat.le_of_ble_eq_true rfl) ⟨Nat.le_refl _, Nat.le_refl _⟩ (qx_putsM (by first | exact zdp hd (by decide) | omega) hCM25   5 a2 (by first | with_reducible exact ha2 | omega) (M 98 4) (by omega) (by omega) (by omega) (by refine ⟨fun _ => ?_, fun _ => ?_, fun _ => ?_, fun _ => ?_⟩ <;> omega) ) (fun vr M43 hr => ?_)
          obtain ⟨⟨hCM43, hFM43⟩, rfl, hpx44_0, hpx44_1⟩ := hr
          have hWM43 : qFm [98] M M43 := hWM25.tr hFM43 (by decide)
          have e45 : M43 98 4 = M25 98 4 := hpx44_1 _ (by omega)
          have e46 : M43 98 1 = M25 98 1 := hpx44_1 _ (by omega)
          have e47 : M43 98 0 = M25 98 0 := hpx44_1 _ (by omega)
          have e48 : M43 98 3 = M25 98 3 := hpx44_1 _ (by omega)
          have e49 : qA M43 (M 98 4) 0 = qA M25 (M 98 4) 0 := by unfold qA; exact hpx44_1 _ (by omega)
          have e50 : qA M43 (M 98 4) 1 = qA M25 (M 98 4) 1 := by unfold qA; exact hpx44_1 _ (by omega)
          have e51 : qA M43 (M 98 4) 2 = qA M25 (M 98 4) 2 := by unfold qA; exact hpx44_1 _ (by omega)
          have e52 : qA M43 (M 98 4) 3 = qA M25 (M 98 4) 3 := by unfold qA; exact hpx44_1 _ (by omega)
          have e54 : qA M43 (M 98 4) 6 = qA M25 (M 98 4) 6 := by unfold qA; exact hpx44_1 _ (by omega)
          have e55 : qA M43 (M 98 4) 7 = qA M25 (M 98 4) 7 := by unfold qA; exact hpx44_1 _ (by omega)
          have e56 : qA M43 (M 98 4) 8 = qA M25 (M 98 4) 8 := by unfold qA; exact hpx44_1 _ (by omega)
          have e57 : qA M43 (M 98 4) 9 = qA M25 (M 98 4) 9 := by unfold qA; exact hpx44_1 _ (by omega)
          have e58 : qA M43 (M 98 4) 10 = qA M25 (M 98 4) 10 := by unfold qA; exact hpx44_1 _ (by omega)
          have e59 : qA M43 (M 98 4) 11 = qA M25 (M 98 4) 11 := by unfold qA; exact hpx44_1 _ (by omega)
          have e60 : qA M43 (M 98 4) 4 = qA M25 (M 98 4) 4 := by unfold qA; exact hpx44_1 _ (by omega)
          show zG n (0, 0) d 205 (66, [.inr (.inr (some 97)), .inl a1, .inl a2, .inl a3, .inl a4], []) M43 _
          refine zG_blk (c' := (68, [.inr (.inr (some 97)), .inl a1, .inl a2, .inl a3, .inl a4], [.inl 4, .inr (.inr (some 97))])) 2 hd0 hz (by rfl) ?_
          refine zG_call hd0 hz zp_183 rfl rfl (Nat.le_of_ble_eq_true rfl) ⟨Nat.le_refl _, Nat.le_refl _⟩ (qx_one4 (by first | exact zdp hd (by decide) | omega) hCM43   (M 98 4) (by omega) (by omega) (by refine ⟨?_, fun _ => ?_, fun _ => ?_, fun _ => ?_, fun _ => ?_, fun _ => ?_, fun _ => ?_, fun _ => ?_, fun _ => ?_, fun _ => ?_⟩ <;> omega) ) (fun vr M61 hr => ?_)
          obtain ⟨⟨hCM61, hFM61⟩, x62, rfl, hx62, hpx62_0, hpx62_1⟩ := hr
          have hWM61 : qFm [98] M M61 := hWM43.tr hFM61 (by decide)
          have e64 : M61 98 1 = M43 98 1 := hpx62_1 _ (by omega)
          have e65 : M61 98 0 = M43 98 0 := hpx62_1 _ (by omega)
          have e66 : M61 98 3 = M43 98 3 := hpx62_1 _ (by omega)
          have e67 : qA M61 (M 98 4) 0 = qA M43 (M 98 4) 0 := by unfold qA; exact hpx62_1 _ (by omega)
          have e68 : qA M61 (M 98 4) 1 = qA M43 (M 98 4) 1 := by unfold qA; exact hpx62_1 _ (by omega)
          have e69 : qA M61 (M 98 4) 2 = qA M43 (M 98 4) 2 := by unfold qA; exact hpx62_1 _ (by omega)
          have e70 : qA M61 (M 98 4) 3 = qA M43 (M 98 4) 3 := by unfold qA; exact hpx62_1 _ (by omega)
          have e71 : qA M61 (M 98 4) 6 = qA M43 (M 98 4) 6 := by unfold qA; exact hpx62_1 _ (by omega)
          have e72 : qA M61 (M 98 4) 7 = qA M43 (M 98 4) 7 := by unfold qA; exact hpx62_1 _ (by omega)
          have e73 : qA M61 (M 98 4) 8 = qA M43 (M 98 4) 8 := by unfold qA; exact hpx62_1 _ (by omega)
          have e74 : qA M61 (M 98 4) 9 = qA M43 (M 98 4) 9 := by unfold qA; exact hpx62_1 _ (by omega)
          have e75 : qA M61 (M 98 4) 10 = qA M43 (M 98 4) 10 := by unfold qA; exact hpx62_1 _ (by omega)
          have e76 : qA M61 (M 98 4) 11 = qA M43 (M 98 4) 11 := by unfold qA; exact hpx62_1 _ (by omega)
          have e77 : qA M61 (M 98 4) 4 = qA M43 (M 98 4) 4 := by unfold qA; exact hpx62_1 _ (by omega)
          have e78 : qA M61 (M 98 4) 5 = qA M43 (M 98 4) 5 := by unfold qA; exact hpx62_1 _ (by omega)
          show zG n (0, 0) d 205 (71, [.inr (.inr (some 97)), .inl a1, .inl a2, .inl a3, .inl a4], [.inl x62]) M61 _
          exact zG_ret hd0 hz rfl rfl ⟨⟨hCM61, hWM61⟩, _, rfl, by omega⟩
        · refine zG_blk (c' := (40, [.inr (.inr (some 97)), .inl a1, .inl a2, .inl a3, .inl a4], [.inl (-4)])) 1 hd0 hz (by rfl) ?_
          exact zG_ret hd0 hz rfl rfl ⟨⟨hC, hW⟩, _, rfl, by omega⟩
      · exact j28
