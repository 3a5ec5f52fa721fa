theorem qm_203_97 {n d : Nat} {M : zM} (hd : 4 ≤ d) (hC : qMI M)  (a1 : Int) (ha1 : (-2147483648) ≤ a1 ∧ a1 ≤ 2147483647) (a2 : Int) (ha2 : (-2147483648) ≤ a2 ∧ a2 ≤ 2147483647) (a3 : Int) (ha3 : (-2147483648) ≤ a3 ∧ a3 ≤ 2147483647) (a4 : Int) (ha4 : (-2147483648) ≤ a4 ∧ a4 ≤ 2147483647) : qOkN n d 203 [.inr (.inr (some 97)), .inl a1, .inl a2, .inl a3, .inl a4] 5 [98] M (fun v M' => ∃ x : Int, v = some (.inl x) ∧ ((-2147483648) ≤ x ∧ x ≤ 2147483647)) := by
  have hz := zp_203
  have hd0 : 0 < d := by omega
  have hW : qFm [98] M M := qFm.rfl
  have r1 := hC.cnt4
  have r2 := hC.cnt3
  show zG n (0, 0) d 203 (0, [.inr (.inr (some 97)), .inl a1, .inl a2, .inl a3, .inl a4], []) M _
  refine zG_blk (c' := (2, [.inr (.inr (some 97)), .inl a1, .inl a2, .inl a3, .inl a4], [.inl a1, .inr (.inr (some 97))])) 2 hd0 hz (by rfl) ?_
  refine zG_call hd0 hz zp_198 rfl rfl (Nat.le_of_ble_eq_true rfl) ⟨Nat.le_refl _, Nat.le_refl _⟩ (qm_198_97 (by first | exact zdp hd (by decide) | omega) hC   a1 (by first | with_reducible exact ha1 | omega) ) (fun vr M3 hr => ?_)
  obtain ⟨hq, x4, rfl, hx4, hpx4_0⟩ := hr
  replace hq := hq.symm; subst hq
  show zG n (0, 0) d 203 (5, [.inr (.inr (some 97)), .inl a1, .inl a2, .inl a3, .inl a4], [.inl x4]) M _
  have j25 : zG n (0, 0) d 203 (25, [.inr (.inr (some 97)), .inl a1, .inl a2, .inl a3, .inl a4], []) M (fun v M' => (qMI M' ∧ qFm [98] M M') ∧ ∃ x : Int, v = some (.inl x) ∧ ((-2147483648) ≤ x ∧ x ≤ 2147483647)) := by
    refine zG_blk (c' := (27, [.inr (.inr (some 97)), .inl a1, .inl a2, .inl a3, .inl a4], [.inl (-2)])) 1 hd0 hz (by rfl) ?_
    exact zG_ret hd0 hz rfl rfl ⟨⟨hC, hW⟩, _, rfl, by omega⟩
  refine zG_if_eq hd0 hz rfl (fun hb5 => ?_) (fun hb5 => ?_)
  · exact j25
  · have hcx4 := hpx4_0.mp (by omega)
    clear hx4 hpx4_0 hb5
    refine zG_blk (c' := (9, [.inr (.inr (some 97)), .inl a1, .inl a2, .inl a3, .inl a4], [.inl a2])) 1 hd0 hz (by rfl) ?_
    refine zG_call hd0 hz zp_185 rfl rfl (Nat.le_of_ble_eq_true rfl) ⟨Nat.le_refl _, Nat.le_refl _⟩ (qm_185 (by first | exact zdp hd (by decide) | omega) hC   a2 (by first | with_reducible exact ha2 | omega) ) (fun vr M6 hr => ?_)
    obtain ⟨hq, x7, rfl, hx7, hpx7_0⟩ := hr
    replace hq := hq.symm; subst hq
    show zG n (0, 0) d 203 (12, [.inr (.inr (some 97)), .inl a1, .inl a2, .inl a3, .inl a4], [.inl x7]) M _
    refine zG_if_eq hd0 hz rfl (fun hb8 => ?_) (fun hb8 => ?_)
    · exact j25
    · have hcx7 := hpx7_0.mp (by omega)
      clear hx7 hpx7_0 hb8
      refine zG_blk (c' := (19, [.inr (.inr (some 97)), .inl a1, .inl a2, .inl a3, .inl a4], [.inl a4, .inl a3, .inr (.inr (some 97))])) 3 hd0 hz (by rfl) ?_
      refine zG_call hd0 hz zp_200 rfl rfl (Nat.le_of_ble_eq_true rfl) ⟨Nat.le_refl _, Nat.le_refl _⟩ (qm_200_97 (by first | exact zdp hd (by decide) | omega) hC   a3 (by first | with_reducible exact ha3 | omega) a4 (by first | with_reducible exact ha4 | omega) ) (fun vr M9 hr => ?_)
      obtain ⟨hq, x10, rfl, hx10, hpx10_0⟩ := hr
      replace hq := hq.symm; subst hq
      show zG n (0, 0) d 203 (22, [.inr (.inr (some 97)), .inl a1, .inl a2, .inl a3, .inl a4], [.inl x10]) M _
      refine zG_if_ne hd0 hz rfl (fun hb11 => ?_) (fun hb11 => ?_)
      · have hcx10 := hpx10_0.mp (by omega)
        clear hx10 hpx10_0 hb11
        refine zG_blk (c' := (29, [.inr (.inr (some 97)), .inl a1, .inl a2, .inl a3, .inl a4], [.inr (.inr (some 97))])) 1 hd0 hz (by rfl) ?_
        refine zG_call hd0 hz zp_197 rfl rfl (Nat.le_of_ble_eq_true rfl) ⟨Nat.le_refl _, Nat.le_refl _⟩ (qx_isFull (by first | exact zdp hd (by decide) | omega) hC    ) (fun vr M12 hr => ?_)
        obtain ⟨hq, x13, rfl, hx13⟩ := hr
        replace hq := hq.symm; subst hq
        show zG n (0, 0) d 203 (32, [.inr (.inr (some 97)), .inl a1, .inl a2, .inl a3, .inl a4], [.inl x13]) M _
        refine zG_if_eq hd0 hz rfl (fun hb14 => ?_) (fun hb14 => ?_)
        · refine zG_blk (c' := (42, [.inr (.inr (some 97)), .inl a1, .inl a2, .inl a3, .inl a4], [.inl a3, .inr (.inr (some 97)), .inl 2, .inr (.inr (some 97))])) 4 hd0 hz (by rfl) ?_
          refine zG_call hd0 hz zp_199 rfl rfl (Nat.le_of_ble_eq_true rfl) ⟨Nat.le_refl _, Nat.le_refl _⟩ (qx_dayOf (by first | exact zdp hd (by decide) | omega) hC   a3 (by first | with_reducible exact ha3 | omega) ) (fun vr M15 hr => ?_)
          obtain ⟨hq, x16, rfl, hx16⟩ := hr
          replace hq := hq.symm; subst hq
          show zG n (0, 0) d 203 (45, [.inr (.inr (some 97)), .inl a1, .inl a2, .inl a3, .inl a4], [.inl x16, .inl 2, .inr (.inr (some 97))]) M _
          refine zG_blk (c' := (48, [.inr (.inr (some 97)), .inl a1, .inl a2, .inl a3, .inl a4], [.inl a3, .inl a4, .inl x16, .inl 2, .inr (.inr (some 97))])) 2 hd0 hz (by rfl) ?_
          refine zG_call hd0 hz zp_196 rfl rfl (Nat.le_of_ble_eq_true rfl) ⟨Nat.le_refl _, Nat.le_refl _⟩ (qx_begins (by first | exact zdp hd (by decide) | omega) hC   2 x16 a4 a3 (by first | with_reducible exact ha3 | omega) (by omega) (by omega) (M 98 4) (by omega) (by omega) (by omega) ) (fun vr M17 hr => ?_)
          obtain ⟨⟨hCM17, hFM17⟩, rfl, hpx18_0, hpx18_1, hpx18_2, hpx18_3, hpx18_4, hpx18_5, hpx18_6, hpx18_7, hpx18_8, hpx18_9, hpx18_10, hpx18_11, hpx18_12⟩ := hr
          have hWM17 : qFm [98] M M17 := hW.tr hFM17 (by decide)
          have e19 : M17 98 4 = M 98 4 := hpx18_12 _ (by omega)
          have e20 : M17 98 3 = M 98 3 := hpx18_12 _ (by omega)
          show zG n (0, 0) d 203 (51, [.inr (.inr (some 97)), .inl a1, .inl a2, .inl a3, .inl a4], []) M17 _
          refine zG_blk (c' := (55, [.inr (.inr (some 97)), .inl a1, .inl a2, .inl a3, .inl a4], [.inl a1, .inl 6, .inr (.inr (some 97))])) 3 hd0 hz (by rfl) ?_
          refine zG_call hd0 hz zp_195 rfl rfl (Nat.le_of_ble_eq_true rfl) ⟨Nat.le_refl _, Nat.le_refl _⟩ (qx_putsM (by first | exact zdp hd (by decide) | omega) hCM17   6 a1 (by first | with_reducible exact ha1 | omega) (M 98 4) (by omega) (by omega) (by omega) (by refine ⟨fun _ => ?_, fun _ => ?_, fun _ => ?_, fun _ => ?_⟩ <;> omega) ) (fun vr M21 hr => ?_)
          obtain ⟨⟨hCM21, hFM21⟩, rfl, hpx22_0, hpx22_1⟩ := hr
          have hWM21 : qFm [98] M M21 := hWM17.tr hFM21 (by decide)
          have e23 : M21 98 4 = M17 98 4 := hpx22_1 _ (by omega)
          have e24 : M21 98 3 = M17 98 3 := hpx22_1 _ (by omega)
          have e25 : qA M21 (M 98 4) 0 = qA M17 (M 98 4) 0 := by unfold qA; exact hpx22_1 _ (by omega)
          have e26 : qA M21 (M 98 4) 1 = qA M17 (M 98 4) 1 := by unfold qA; exact hpx22_1 _ (by omega)
          have e27 : qA M21 (M 98 4) 2 = qA M17 (M 98 4) 2 := by unfold qA; exact hpx22_1 _ (by omega)
          have e28 : qA M21 (M 98 4) 3 = qA M17 (M 98 4) 3 := by unfold qA; exact hpx22_1 _ (by omega)
          have e29 : qA M21 (M 98 4) 4 = qA M17 (M 98 4) 4 := by unfold qA; exact hpx22_1 _ (by omega)
          have e30 : qA M21 (M 98 4) 5 = qA M17 (M 98 4) 5 := by unfold qA; exact hpx22_1 _ (by omega)
          have e32 : qA M21 (M 98 4) 7 = qA M17 (M 98 4) 7 := by unfold qA; exact hpx22_1 _ (by omega)
          have e33 : qA M21 (M 98 4) 8 = qA M17 (M 98 4) 8 := by unfold qA; exact hpx22_1 _ (by omega)
          have e34 : qA M21 (M 98 4) 9 = qA M17 (M 98 4) 9 := by unfold qA; exact hpx22_1 _ (by omega)
          have e35 : qA M21 (M 98 4) 10 = qA M17 (M 98 4) 10 := by unfold qA; exact hpx22_1 _ (by omega)
          have e36 : qA M21 (M 98 4) 11 = qA M17 (M 98 4) 11 := by unfold qA; exact hpx22_1 _ (by omega)
          show zG n (0, 0) d 203 (58, [.inr (.inr (some 97)), .inl a1, .inl a2, .inl a3, .inl a4], []) M21 _
          refine zG_blk (c' := (62, [.inr (.inr (some 97)), .inl a1, .inl a2, .inl a3, .inl a4], [.inl a2, .inl 7, .inr (.inr (some 97))])) 3 hd0 hz (by rfl) ?_
          refine zG_call hd0 hz zp_195 rfl rfl (Nat.le_of_ble_eq_true rfl) ⟨Nat.le_refl _, Nat.le_refl _⟩ (qx_putsM (by first | exact zdp hd (by decide) | omega) hCM21   7 a2 (by first | with_reducible exact ha2 | omega) (M 98 4) (by omega) (by omega) (by omega) (by refine ⟨fun _ => ?_, fun _ => ?_, fun _ => ?_, fun _ => ?_⟩ <;> omega) ) (fun vr M37 hr => ?_)
          obtain ⟨⟨hCM37, hFM37⟩, rfl, hpx38_0, hpx38_1⟩ := hr
          have hWM37 : qFm [98] M M37 := hWM21.tr hFM37 (by decide)
          have e39 : M37 98 4 = M21 98 4 := hpx38_1 _ (by omega)
          have e40 : M37 98 3 = M21 98 3 := hpx38_1 _ (by omega)
          have e41 : qA M37 (M 98 4) 0 = qA M21 (M 98 4) 0 := by unfold qA; exact hpx38_1 _ (by omega)
          have e42 : qA M37 (M 98 4) 1 = qA M21 (M 98 4) 1 := by unfold qA; exact hpx38_1 _ (by omega)
          have e43 : qA M37 (M 98 4) 2 = qA M21 (M 98 4) 2 := by unfold qA; exact hpx38_1 _ (by omega)
          have e44 : qA M37 (M 98 4) 3 = qA M21 (M 98 4) 3 := by unfold qA; exact hpx38_1 _ (by omega)
          have e45 : qA M37 (M 98 4) 4 = qA M21 (M 98 4) 4 := by unfold qA; exact hpx38_1 _ (by omega)
          have e46 : qA M37 (M 98 4) 5 = qA M21 (M 98 4) 5 := by unfold qA; exact hpx38_1 _ (by omega)
          have e48 : qA M37 (M 98 4) 8 = qA M21 (M 98 4) 8 := by unfold qA; exact hpx38_1 _ (by omega)
          have e49 : qA M37 (M 98 4) 9 = qA M21 (M 98 4) 9 := by unfold qA; exact hpx38_1 _ (by omega)
          have e50 : qA M37 (M 98 4) 10 = qA M21 (M 98 4) 10 := by unfold qA; exact hpx38_1 _ (by omega)
          have e51 : qA M37 (M 98 4) 11 = qA M21 (M 98 4) 11 := by unfold qA; exact hpx38_1 _ (by omega)
          have e52 : qA M37 (M 98 4) 6 = qA M21 (M 98 4) 6 := by unfold qA; exact hpx38_1 _ (by omega)
          show zG n (0, 0) d 203 (65, [.inr (.inr (some 97)), .inl a1, .inl a2, .inl a3, .inl a4], []) M37 _
          refine zG_blk (c' := (67, [.inr (.inr (some 97)), .inl a1, .inl a2, .inl a3, .inl a4], [.inl 4, .inr (.inr (some 97))])) 2 hd0 hz (by rfl) ?_
          refine zG_call hd0 hz zp_183 rfl rfl (Nat.le_of_ble_eq_true rfl) ⟨Nat.le_refl _, Nat.le_refl _⟩ (qx_one4 (by first | exact zdp hd (by decide) | omega) hCM37   (M 98 4) (by omega) (by omega) (by refine ⟨?_, fun _ => ?_, fun _ => ?_, fun _ => ?_, fun _ => ?_, fun _ => ?_, fun _ => ?_, fun _ => ?_, fun _ => ?_, fun _ => ?_⟩ <;> omega) ) (fun vr M53 hr => ?_)
          obtain ⟨⟨hCM53, hFM53⟩, x54, rfl, hx54, hpx54_0, hpx54_1⟩ := hr
          have hWM53 : qFm [98] M M53 := hWM37.tr hFM53 (by decide)
          have e56 : M53 98 3 = M37 98 3 := hpx54_1 _ (by omega)
          have e57 : qA M53 (M 98 4) 0 = qA M37 (M 98 4) 0 := by unfold qA; exact hpx54_1 _ (by omega)
          have e58 : qA M53 (M 98 4) 1 = qA M37 (M 98 4) 1 := by unfold qA; exact hpx54_1 _ (by omega)
          have e59 : qA M53 (M 98 4) 2 = qA M37 (M 98 4) 2 := by unfold qA; exact hpx54_1 _ (by omega)
          have e60 : qA M53 (M 98 4) 3 = qA M37 (M 98 4) 3 := by unfold qA; exact hpx54_1 _ (by omega)
          have e61 : qA M53 (M 98 4) 4 = qA M37 (M 98 4) 4 := by unfold qA; exact hpx54_1 _ (by omega)
          have e62 : qA M53 (M 98 4) 5 = qA M37 (M 98 4) 5 := by unfold qA; exact hpx54_1 _ (by omega)
          have e63 : qA M53 (M 98 4) 8 = qA M37 (M 98 4) 8 := by unfold qA; exact hpx54_1 _ (by omega)
          have e64 : qA M53 (M 98 4) 9 = qA M37 (M 98 4) 9 := by unfold qA; exact hpx54_1 _ (by omega)
          have e65 : qA M53 (M 98 4) 10 = qA M37 (M 98 4) 10 := by unfold qA; exact hpx54_1 _ (by omega)
          have e66 : qA M53 (M 98 4) 11 = qA M37 (M 98 4) 11 := by unfold qA; exact hpx54_1 _ (by omega)
          have e67 : qA M53 (M 98 4) 6 = qA M37 (M 98 4) 6 := by unfold qA; exact hpx54_1 _ (by omega)
          have e68 : qA M53 (M 98 4) 7 = qA M37 (M 98 4) 7 := by unfold qA; exact hpx54_1 _ (by omega)
          show zG n (0, 0) d 203 (70, [.inr (.inr (some 97)), .inl a1, .inl a2, .inl a3, .inl a4], [.inl x54]) M53 _
          exact zG_ret hd0 hz rfl rfl ⟨⟨hCM53, hWM53⟩, _, rfl, by omega⟩
        · refine zG_blk (c' := (37, [.inr (.inr (some 97)), .inl a1, .inl a2, .inl a3, .inl a4], [.inl (-4)])) 1 hd0 hz (by rfl) ?_
          exact zG_ret hd0 hz rfl rfl ⟨⟨hC, hW⟩, _, rfl, by omega⟩
      · exact j25
