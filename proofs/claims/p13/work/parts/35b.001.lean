theorem qm_202_97 {n d : Nat} {M : zM} (hd : 4 ≤ d) (hC : qMI M)  (a1 : Int) (ha1 : (-2147483648) ≤ a1 ∧ a1 ≤ 2147483647) (a2 : Int) (ha2 : (-2147483648) ≤ a2 ∧ a2 ≤ 2147483647) (a3 : Int) (ha3 : (-2147483648) ≤ a3 ∧ a3 ≤ 2147483647) (a4 : Int) (ha4 : (-2147483648) ≤ a4 ∧ a4 ≤ 2147483647) (a5 : Int) (ha5 : (-2147483648) ≤ a5 ∧ a5 ≤ 2147483647) : qOkN n d 202 [.inr (.inr (some 97)), .inl a1, .inl a2, .inl a3, .inl a4, .inl a5] 6 [98] M (fun v M' => ∃ x : Int, v = some (.inl x) ∧ ((-2147483648) ≤ x ∧ x ≤ 2147483647)) := by
  have hz := zp_202
  have hd0 : 0 < d := by omega
  have hW : qFm [98] M M := qFm.rfl
  have r1 := hC.cnt4
  show zG n (0, 0) d 202 (0, [.inr (.inr (some 97)), .inl a1, .inl a2, .inl a3, .inl a4, .inl a5], []) M _
  refine zG_blk (c' := (2, [.inr (.inr (some 97)), .inl a1, .inl a2, .inl a3, .inl a4, .inl a5], [.inl a1, .inr (.inr (some 97))])) 2 hd0 hz (by rfl) ?_
  refine zG_call hd0 hz zp_198 rfl rfl (Nat.le_of_ble_eq_true rfl) ⟨Nat.le_refl _, Nat.le_refl _⟩ (qm_198_97 (by first | exact zdp hd (by decide) | omega) hC   a1 (by first | with_reducible exact ha1 | omega) ) (fun vr M2 hr => ?_)
  obtain ⟨hq, x3, rfl, hx3, hpx3_0⟩ := hr
  replace hq := hq.symm; subst hq
  show zG n (0, 0) d 202 (5, [.inr (.inr (some 97)), .inl a1, .inl a2, .inl a3, .inl a4, .inl a5], [.inl x3]) M _
  have j65 : zG n (0, 0) d 202 (65, [.inr (.inr (some 97)), .inl a1, .inl a2, .inl a3, .inl a4, .inl a5], []) M (fun v M' => (qMI M' ∧ qFm [98] M M') ∧ ∃ x : Int, v = some (.inl x) ∧ ((-2147483648) ≤ x ∧ x ≤ 2147483647)) := by
    refine zG_blk (c' := (67, [.inr (.inr (some 97)), .inl a1, .inl a2, .inl a3, .inl a4, .inl a5], [.inl (-2)])) 1 hd0 hz (by rfl) ?_
    exact zG_ret hd0 hz rfl rfl ⟨⟨hC, hW⟩, _, rfl, by omega⟩
  refine zG_if_eq hd0 hz rfl (fun hb4 => ?_) (fun hb4 => ?_)
  · exact j65
  · have hcx3 := hpx3_0.mp (by omega)
    clear hx3 hpx3_0 hb4
    refine zG_blk (c' := (9, [.inr (.inr (some 97)), .inl a1, .inl a2, .inl a3, .inl a4, .inl a5], [.inl a2])) 1 hd0 hz (by rfl) ?_
    refine zG_call hd0 hz zp_185 rfl rfl (Nat.le_of_ble_eq_true rfl) ⟨Nat.le_refl _, Nat.le_refl _⟩ (qm_185 (by first | exact zdp hd (by decide) | omega) hC   a2 (by first | with_reducible exact ha2 | omega) ) (fun vr M5 hr => ?_)
    obtain ⟨hq, x6, rfl, hx6, hpx6_0⟩ := hr
    replace hq := hq.symm; subst hq
    show zG n (0, 0) d 202 (12, [.inr (.inr (some 97)), .inl a1, .inl a2, .inl a3, .inl a4, .inl a5], [.inl x6]) M _
    refine zG_if_eq hd0 hz rfl (fun hb7 => ?_) (fun hb7 => ?_)
    · exact j65
    · have hcx6 := hpx6_0.mp (by omega)
      clear hx6 hpx6_0 hb7
      refine zG_blk (c' := (18, [.inr (.inr (some 97)), .inl a1, .inl a2, .inl a3, .inl a4, .inl a5], [.inl 4, .inl 0, .inl a3])) 3 hd0 hz (by rfl) ?_
      refine zG_call hd0 hz zp_180 rfl rfl (Nat.le_of_ble_eq_true rfl) ⟨Nat.le_refl _, Nat.le_refl _⟩ (qx_in (by first | exact zdp hd (by decide) | omega) hC   a3 (by first | with_reducible exact ha3 | omega) 0 (by first | decide | omega) 4 (by first | decide | omega) ) (fun vr M8 hr => ?_)
      obtain ⟨hq, x9, rfl, hx9⟩ := hr
      replace hq := hq.symm; subst hq
      show zG n (0, 0) d 202 (21, [.inr (.inr (some 97)), .inl a1, .inl a2, .inl a3, .inl a4, .inl a5], [.inl x9]) M _
      refine zG_if_eq hd0 hz rfl (fun hb10 => ?_) (fun hb10 => ?_)
      · exact j65
      · have hcx9 := hx9.2.2.mp (by omega)
        clear hx9 hb10
        refine zG_blk (c' := (29, [.inr (.inr (some 97)), .inl a1, .inl a2, .inl a3, .inl a4, .inl a5], [.inl 8, .inl a1, .inr (.inr (some 97)), .inl a3])) 4 hd0 hz (by rfl) ?_
        refine zG_call hd0 hz zp_194 rfl rfl (Nat.le_of_ble_eq_true rfl) ⟨Nat.le_refl _, Nat.le_refl _⟩ (qx_act0 (by first | exact zdp hd (by decide) | omega) hC   a1 (by first | with_reducible exact ha1 | omega) 8 (by first | decide | omega) ) (fun vr M11 hr => ?_)
        obtain ⟨hq, x12, rfl, hx12⟩ := hr
        replace hq := hq.symm; subst hq
        show zG n (0, 0) d 202 (32, [.inr (.inr (some 97)), .inl a1, .inl a2, .inl a3, .inl a4, .inl a5], [.inl x12, .inl a3]) M _
        refine zG_icmp_eq hd0 hz rfl (fun hb13 => ?_) (fun hb13 => ?_)
        · exact j65
        · refine zG_blk (c' := (40, [.inr (.inr (some 97)), .inl a1, .inl a2, .inl a3, .inl a4, .inl a5], [.inl 1, .inl a1, .inr (.inr (some 97)), .inl a4])) 4 hd0 hz (by rfl) ?_
          refine zG_call hd0 hz zp_194 rfl rfl (Nat.le_of_ble_eq_true rfl) ⟨Nat.le_refl _, Nat.le_refl _⟩ (qx_act0 (by first | exact zdp hd (by decide) | omega) hC   a1 (by first | with_reducible exact ha1 | omega) 1 (by first | decide | omega) ) (fun vr M14 hr => ?_)
          obtain ⟨hq, x15, rfl, hx15⟩ := hr
          replace hq := hq.symm; subst hq
          show zG n (0, 0) d 202 (43, [.inr (.inr (some 97)), .inl a1, .inl a2, .inl a3, .inl a4, .inl a5], [.inl x15, .inl a4]) M _
          refine zG_blk (c' := (46, [.inr (.inr (some 97)), .inl a1, .inl a2, .inl a3, .inl a4, .inl a5], [.inl 9999, .inl x15, .inl a4])) 1 hd0 hz (by rfl) ?_
          refine zG_call hd0 hz zp_180 rfl rfl (Nat.le_of_ble_eq_true rfl) ⟨Nat.le_refl _, Nat.le_refl _⟩ (qx_in (by first | exact zdp hd (by decide) | omega) hC   a4 (by first | with_reducible exact ha4 | omega) x15 (by omega) 9999 (by first | decide | omega) ) (fun vr M16 hr => ?_)
          obtain ⟨hq, x17, rfl, hx17⟩ := hr
          replace hq := hq.symm; subst hq
          show zG n (0, 0) d 202 (49, [.inr (.inr (some 97)), .inl a1, .inl a2, .inl a3, .inl a4, .inl a5], [.inl x17]) M _
          refine zG_if_eq hd0 hz rfl (fun hb18 => ?_) (fun hb18 => ?_)
          · exact j65
          · have hcx17 := hx17.2.2.mp (by omega)
            clear hx17 hb18
            refine zG_blk (c' := (59, [.inr (.inr (some 97)), .inl a1, .inl a2, .inl a3, .inl a4, .inl a5], [.inl 9999, .inl a4, .inl a5])) 3 hd0 hz (by rfl) ?_
            refine zG_call hd0 hz zp_180 rfl rfl (Nat.le_of_ble_eq_true rfl) ⟨Nat.le_refl _, Nat.le_refl _⟩ (qx_in (by first | exact zdp hd (by decide) | omega) hC   a5 (by first | with_reducible exact ha5 | omega) a4 (by first | with_reducible exact ha4 | omega) 9999 (by first | decide | omega) ) (fun vr M19 hr => ?_)
            obtain ⟨hq, x20, rfl, hx20⟩ := hr
            replace hq := hq.symm; subst hq
            show zG n (0, 0) d 202 (62, [.inr (.inr (some 97)), .inl a1, .inl a2, .inl a3, .inl a4, .inl a5], [.inl x20]) M _
            refine zG_if_ne hd0 hz rfl (fun hb21 => ?_) (fun hb21 => ?_)
            · have hcx20 := hx20.2.2.mp (by omega)
              clear hx20 hb21
              refine zG_blk (c' := (69, [.inr (.inr (some 97)), .inl a1, .inl a2, .inl a3, .inl a4, .inl a5], [.inr (.inr (some 97))])) 1 hd0 hz (by rfl) ?_
              refine zG_call hd0 hz zp_197 rfl rfl (Nat.le_of_ble_eq_true rfl) ⟨Nat.le_refl _, Nat.le_refl _⟩ (qx_isFull (by first | exact zdp hd (by decide) | omega) hC    ) (fun vr M22 hr => ?_)
              obtain ⟨hq, x23, rfl, hx23⟩ := hr
              replace hq := hq.symm; subst hq
              show zG n (0, 0) d 202 (72, [.inr (.inr (some 97)), .inl a1, .inl a2, .inl a3, .inl a4, .inl a5], [.inl x23]) M _
              refine zG_if_eq hd0 hz rfl (fun hb24 => ?_) (fun hb24 => ?_)
              · refine zG_blk (c' := (85, [.inr (.inr (some 97)), .inl a1, .inl a2, .inl a3, .inl a4, .inl a5], [.inl (-1), .inl a5, .inl a4, .inl 1, .inr (.inr (some 97))])) 5 hd0 hz (by rfl) ?_
                refine zG_call hd0 hz zp_196 rfl rfl (Nat.le_of_ble_eq_true rfl) ⟨Nat.le_refl _, Nat.le_refl _⟩ (qx_begins (by first | exact zdp hd (by decide) | omega) hC   1 a4 a5 (-1) (by first | decide | omega) (by omega) (by omega) (M 98 4) (by omega) (by omega) (by omega) ) (fun vr M25 hr => ?_)
                obtain ⟨⟨hCM25, hFM25⟩, rfl, hpx26_0, hpx26_1, hpx26_2, hpx26_3, hpx26_4, hpx26_5, hpx26_6, hpx26_7, hpx26_8, hpx26_9, hpx26_10, hpx26_11, hpx26_12⟩ := hr
                have hWM25 : qFm [98] M M25 := hW.tr hFM25 (by decide)
                have e27 : M25 98 4 = M 98 4 := hpx26_12 _ (by omega)
                show zG n (0, 0) d 202 (88, [.inr (.inr (some 97)), .inl a1, .inl a2, .inl a3, .inl a4, .inl a5], []) M25 _
                refine zG_blk (c' := (92, [.inr (.inr (some 97)), .inl a1, .inl a2, .inl a3, .inl a4, .inl a5], [.inl a1, .inl 6, .inr (.inr (some 97))])) 3 hd0 hz (by rfl) ?_
                refine zG_call hd0 hz zp_195 rfl rfl (Nat.le_of_ble_eq_true rfl) ⟨Nat.le_refl _, Nat.le_refl _⟩ (qx_putsM (by first | exact zdp hd (by decide) | omega) hCM25   6 a1 (by first | with_reducible exact ha1 | omega) (M 98 4) (by omega) (by omega) (by omega) (by refine ⟨fun _ => ?_, fun _ => ?_, fun _ => ?_, fun _ => ?_⟩ <;> omega) ) (fun vr M28 hr => ?_)
                obtain ⟨⟨hCM28, hFM28⟩, rfl, hpx29_0, hpx29_1⟩ := hr
                have hWM28 : qFm [98] M M28 := hWM25.tr hFM28 (by decide)
                have e30 : M28 98 4 = M25 98 4 := hpx29_1 _ (by omega)
                have e31 : qA M28 (M 98 4) 0 = qA M25 (M 98 4) 0 := by unfold qA; exact hpx29_1 _ (by omega)
                have e32 : qA M28 (M 98 4) 1 = qA M25 (M 98 4) 1 := by unfold qA; exact hpx29_1 _ (by omega)
                have e33 : qA M28 (M 98 4) 2 = qA M25 (M 98 4) 2 := by unfold qA; exact hpx29_1 _ (by omega)
                have e34 : qA M28 (M 98 4) 3 = qA M25 (M 98 4) 3 := by unfold qA; exact hpx29_1 _ (by omega)
                have e35 : qA M28 (M 98 4) 4 = qA M25 (M 98 4) 4 := by unfold qA; exact hpx29_1 _ (by omega)
                have e36 : qA M28 (M 98 4) 5 = qA M25 (M 98 4) 5 := by unfold qA; exact hpx29_1 _ (by omega)
                have e38 : qA M28 (M 98 4) 7 = qA M25 (M 98 4) 7 := by unfold qA; exact hpx29_1 _ (by omega)
                have e39 : qA M28 (M 98 4) 8 = qA M25 (M 98 4) 8 := by unfold qA; exact hpx29_1 _ (by omega)
                have e40 : qA M28 (M 98 4) 9 = qA M25 (M 98 4) 9 := by unfold qA; exact hpx29_1 _ (by omega)
                have e41 : qA M28 (M 98 4) 10 = qA M25 (M 98 4) 10 := by unfold qA; exact hpx29_1 _ (by omega)
                have e42 : qA M28 (M 98 4) 11 = qA M25 (M 98 4) 11 := by unfold qA; exact hpx29_1 _ (by omega)
                show zG n (0, 0) d 202 (95, [.inr (.inr (some 97)), .inl a1, .inl a2, .inl a3, .inl a4, .inl a5], []) M28 _
                refine zG_blk (c' := (99, [.inr (.inr (some 97)), .inl a1, .inl a2, .inl a3, .inl a4, .inl a5], [.inl a2, .inl 7, .inr (.inr (some 97))])) 3 hd0 hz (by rfl) ?_
                refine zG_call hd0 hz zp_195 rfl rfl (Nat.le_of_ble_eq_true rfl) ⟨Nat.le_refl _, Nat.le_refl _⟩ (qx_putsM (by first | exact zdp hd (by decide) | omega) hCM28   7 a2 (by first | with_reducible exact ha2 | omega) (M 98 4) (by omega) (by omega) (by omega) (by refine ⟨fun _ => ?_, fun _ => ?_, fun _ => ?_, fun _ => ?_⟩ <;> omega) ) (fun vr M43 hr => ?_)
                obtain ⟨⟨hCM43, hFM43⟩, rfl, hpx44_0, hpx44_1⟩ := hr
                have hWM43 : qFm [98] M M43 := hWM28.tr hFM43 (by decide)
                have e45 : M43 98 4 = M28 98 4 := hpx44_1 _ (by omega)
                have e46 : qA M43 (M 98 4) 0 = qA M28 (M 98 4) 0 := by unfold qA; exact hpx44_1 _ (by omega)
                have e47 : qA M43 (M 98 4) 1 = qA M28 (M 98 4) 1 := by unfold qA; exact hpx44_1 _ (by omega)
                have e48 : qA M43 (M 98 4) 2 = qA M28 (M 98 4) 2 := by unfold qA; exact hpx44_1 _ (by omega)
                have e49 : qA M43 (M 98 4) 3 = qA M28 (M 98 4) 3 := by unfold qA; exact hpx44_1 _ (by omega)
                have e50 : qA M43 (M 98 4) 4 = qA M28 (M 98 4) 4 := by unfold qA; exact hpx44_1 _ (by omega)
                have e51 : qA M43 (M 98 4) 5 = qA M28 (M 98 4) 5 := by unfold qA; exact hpx44_1 _ (by omega)
                have e53 : qA M43 (M 98 4) 8 = qA M28 (M 98 4) 8 := by unfold qA; exact hpx44_1 _ (by omega)
                have e54 : qA M43 (M 98 4) 9 = qA M28 (M 98 4) 9 := by unfold qA; exact hpx44_1 _ (by omega)
                have e55 : qA M43 (M 98 4) 10 = qA M28 (M 98 4) 10 := by unfold qA; exact hpx44_1 _ (by omega)
                have e56 : qA M43 (M 98 4) 11 = qA M28 (M 98 4) 11 := by unfold qA; exact hpx44_1 _ (by omega)
                have e57 : qA M43 (M 98 4) 6 = qA M28 (M 98 4) 6 := by unfold qA; exact hpx44_1 _ (by omega)
                show zG n (0, 0) d 202 (102, [.inr (.inr (some 97)), .inl a1, .inl a2, .inl a3, .inl a4, .inl a5], []) M43 _
                refine zG_blk (c' := (106, [.inr (.inr (some 97)), .inl a1, .inl a2, .inl a3, .inl a4, .inl a5], [.inl a3, .inl 8, .inr (.inr (some 97))])) 3 hd0 hz (by rfl) ?_
                refine zG_call hd0 hz zp_195 rfl rfl (Nat.le_of_ble_eq_true rfl) ⟨Nat.le_refl _, Nat.le_refl _⟩ (qx_putsM (by first | exact zdp hd (by decide) | omega) hCM43   8 a3 (by first | with_reducible exact ha3 | omega) (M 98 4) (by omega) (by omega) (by omega) (by refine ⟨fun _ => ?_, fun _ => ?_, fun _ => ?_, fun _ => ?_⟩ <;> omega) ) (fun vr M58 hr => ?_)
                obtain ⟨⟨hCM58, hFM58⟩, rfl, hpx59_0, hpx59_1⟩ := hr
                have hWM58 : qFm [98] M M58 := hWM43.tr hFM58 (by decide)
                have e60 : M58 98 4 = M43 98 4 := hpx59_1 _ (by omega)
                have e61 : qA M58 (M 98 4) 0 = qA M43 (M 98 4) 0 := by unfold qA; exact hpx59_1 _ (by omega)
                have e62 : qA M58 (M 98 4) 1 = qA M43 (M 98 4) 1 := by unfold qA; exact hpx59_1 _ (by omega)
                have e63 : qA M58 (M 98 4) 2 = qA M43 (M 98 4) 2 := by unfold qA; exact hpx59_1 _ (by omega)
                have e64 : qA M58 (M 98 4) 3 = qA M43 (M 98 4) 3 := by unfold qA; exact hpx59_1 _ (by omega)
                have e65 : qA M58 (M 98 4) 4 = qA M43 (M 98 4) 4 := by unfold qA; exact hpx59_1 _ (by omega)
                have e66 : qA M58 (M 98 4) 5 = qA M43 (M 98 4) 5 := by unfold qA; exact hpx59_1 _ (by omega)
                have e68 : qA M58 (M 98 4) 9 = qA M43 (M 98 4) 9 := by unfold qA; exact hpx59_1 _ (by omega)
                have e69 : qA M58 (M 98 4) 10 = qA M43 (M 98 4) 10 := by unfold qA; exact hpx59_1 _ (by omega)
                have e70 : qA M58 (M 98 4) 11 = qA M43 (M 98 4) 11 := by unfold qA; exact hpx59_1 _ (by omega)
                have e71 : qA M58 (M 98 4) 6 = qA M43 (M 98 4) 6 := by unfold qA; exact hpx59_1 _ (by omega)
                have e72 : qA M58 (M 98 4) 7 = qA M43 (M 98 4) 7 := by unfold qA; exact hpx59_1 _ (by omega)
                show zG n (0, 0) d 202 (109, [.inr (.inr (some 97)), .inl a1, .inl a2, .inl a3, .inl a4, .inl a5], []) M58 _
                refine zG_blk (c' := (111, [.inr (.inr (some 97)), .inl a1, .inl a2, .inl a3, .inl a4, .inl a5], [.inl 4, .inr (.inr (some 97))])) 2 hd0 hz (by rfl) ?_
                refine zG_call hd0 hz zp_183 rfl rfl (Nat.le_of_ble_eq_true rfl) ⟨Nat.le_refl _, Nat.le_refl _⟩ (qx_one4 (by first | exact zdp hd (by decide) | omega) hCM58   (M 98 4) (by omega) (by omega) (by refine ⟨?_, fun _ => ?_, fun _ => ?_, fun _ => ?_, fun _ => ?_, fun _ => ?_, fun _ => ?_, fun _ => ?_, fun _ => ?_, fun _ => ?_⟩ <;> omega) ) (fun vr M73 hr => ?_)
                obtain ⟨⟨hCM73, hFM73⟩, x74, rfl, hx74, hpx74_0, hpx74_1⟩ := hr
                have hWM73 : qFm [98] M M73 := hWM58.tr hFM73 (by decide)
                have e76 : qA M73 (M 98 4) 0 = qA M58 (M 98 4) 0 := by unfold qA; exact hpx74_1 _ (by omega)
                have e77 : qA M73 (M 98 4) 1 = qA M58 (M 98 4) 1 := by unfold qA; exact hpx74_1 _ (by omega)
                have e78 : qA M73 (M 98 4) 2 = qA M58 (M 98 4) 2 := by unfold qA; exact hpx74_1 _ (by omega)
                have e79 : qA M73 (M 98 4) 3 = qA M58 (M 98 4) 3 := by unfold qA; exact hpx74_1 _ (by omega)
                have e80 : qA M73 (M 98 4) 4 = qA M58 (M 98 4) 4 := by unfold qA; exact hpx74_1 _ (by omega)
                have e81 : qA M73 (M 98 4) 5 = qA M58 (M 98 4) 5 := by unfold qA; exact hpx74_1 _ (by omega)
                have e82 : qA M73 (M 98 4) 9 = qA M58 (M 98 4) 9 := by unfold qA; exact hpx74_1 _ (by omega)
                have e83 : qA M73 (M 98 4) 10 = qA M58 (M 98 4) 10 := by unfold qA; exact hpx74_1 _ (by omega)
                have e84 : qA M73 (M 98 4) 11 = qA M58 (M 98 4) 11 := by unfold qA; exact hpx74_1 _ (by omega)
                have e85 : qA M73 (M 98 4) 6 = qA M58 (M 98 4) 6 := by unfold qA; exact hpx74_1 _ (by omega)
                have e86 : qA M73 (M 98 4) 7 = qA M58 (M 98 4) 7 := by unfold qA; exact hpx74_1 _ (by omega)
                have e87 : qA M73 (M 98 4) 8 = qA M58 (M 98 4) 8 := by unfold qA; exact hpx74_1 _ (by omega)
                show zG n (0, 0) d 202 (114, [.inr (.inr (some 97)), .inl a1, .inl a2, .inl a3, .inl a4, .inl a5], [.inl x74]) M73 _
                exact zG_ret hd0 hz rfl rfl ⟨⟨hCM73, hWM73⟩, _, rfl, by omega⟩
              · refine zG_blk (c' := (77, [.inr (.inr (some 97)), .inl a1, .inl a2, .inl a3, .inl a4, .inl a5], [.inl (-4)])) 1 hd0 hz (by rfl) ?_
                exact zG_ret hd0 hz rfl rfl ⟨⟨hC, hW⟩, _, rfl, by omega⟩
            · exact j65
