theorem qm_211_97 {n d : Nat} {M : zM} (hd : 3 ≤ d) (hC : qMI M)  (a1 : Int) (ha1 : (-2147483648) ≤ a1 ∧ a1 ≤ 2147483647) : qOkN n d 211 [.inr (.inr (some 97)), .inl a1] 3 [101] M (fun v M' => v = none) := by
  have hz := zp_211
  have hd0 : 0 < d := by omega
  have hW : qFm [101] M M := qFm.rfl
  have r1 := hC.cnt4
  show zG n (0, 0) d 211 (0, [.inr (.inr (some 97)), .inl a1, zN], []) M _
  refine zG_blk (c' := (2, [.inr (.inr (some 97)), .inl a1, .inl 0], [])) 2 hd0 hz (by rfl) ?_
  have j2 : ∀ (N : Nat) (v2 : Int) (M3 : zM) , (250 - v2 : Int).toNat < N → 0 ≤ v2 ∧ v2 ≤ 250 → qMI M3 → qFm [101] M M3 → zG n (0, 0) d 211 (2, [.inr (.inr (some 97)), .inl a1, .inl v2], []) M3 (fun v M' => (qMI M' ∧ qFm [101] M M') ∧ v = none) := by
    intro N
    induction N with
    | zero => intro v2 M3 hN hv2 hCM3 hWM3; exact absurd hN (Nat.not_lt_zero _)
    | succ N ih2 =>
      intro v2 M3 hN hv2 hCM3 hWM3
      have e4 : M3 98 4 = M 98 4 := hWM3 98 4 (by decide)
      refine zG_blk (c' := (8, [.inr (.inr (some 97)), .inl a1, .inl v2], [.inl 4, .inr (.inr (some 98)), .inl v2])) 4 hd0 hz (by rfl) ?_
      refine zG_iald hd0 hz rfl rfl (.inl rfl) (by omega) ?_
      show zG n (0, 0) d 211 (9, [.inr (.inr (some 97)), .inl a1, .inl v2], [.inl (M3 98 4), .inl v2]) M3 _
      refine zG_icmp_ge hd0 hz rfl (fun hb5 => ?_) (fun hb5 => ?_)
      · refine zG_blk (c' := (67, [.inr (.inr (some 97)), .inl a1, .inl v2], [.inl 4, .inr (.inr (some 98))])) 3 hd0 hz (by rfl) ?_
        refine zG_iald hd0 hz rfl rfl (.inl rfl) (by omega) ?_
        show zG n (0, 0) d 211 (68, [.inr (.inr (some 97)), .inl a1, .inl v2], [.inl (M3 98 4)]) M3 _
        obtain ⟨x6, hx6⟩ : ∃ x : Int, x = w32 ((M3 98 4) - 1) := ⟨_, rfl⟩
        have hx6e : x6 = (M3 98 4) - 1 := by rw [hx6]; exact w32_id (by omega)
        refine zG_blk (c' := (71, [.inr (.inr (some 97)), .inl a1, .inl x6], [])) 3 hd0 hz (by subst hx6; rfl) ?_
        have j71 : ∀ (N : Nat) (v7 : Int) (M8 : zM) , (v7 + 1 : Int).toNat < N → (-1) ≤ v7 ∧ v7 ≤ 249 → (v7 < M8 98 4) → qMI M8 → qFm [101] M M8 → zG n (0, 0) d 211 (71, [.inr (.inr (some 97)), .inl a1, .inl v7], []) M8 (fun v M' => (qMI M' ∧ qFm [101] M M') ∧ v = none) := by
          intro N
          induction N with
          | zero => intro v7 M8 hN hv7 hx0_71 hCM8 hWM8; exact absurd hN (Nat.not_lt_zero _)
          | succ N ih71 =>
            intro v7 M8 hN hv7 hx0_71 hCM8 hWM8
            have e9 : M8 98 4 = M 98 4 := hWM8 98 4 (by decide)
            refine zG_blk (c' := (72, [.inr (.inr (some 97)), .inl a1, .inl v7], [.inl v7])) 1 hd0 hz (by rfl) ?_
            refine zG_if_lt hd0 hz rfl (fun hb10 => ?_) (fun hb10 => ?_)
            · exact zG_ret hd0 hz rfl rfl ⟨⟨hCM8, hWM8⟩, rfl⟩
            · refine zG_blk (c' := (80, [.inr (.inr (some 97)), .inl a1, .inl v7], [.inl v7, .inr (.inr (some 101))])) 3 hd0 hz (by rfl) ?_
              refine zG_bald hd0 hz rfl rfl (.inl rfl) (by omega) ?_
              obtain ⟨x11, hx11⟩ : ∃ x : Int, x = M8 101 (v7 : Int).toNat := ⟨_, rfl⟩
              rw [← hx11]
              have hx11r : x11 = 0 ∨ x11 = 1 := by rw [hx11]; exact hCM8.bl101 _
              show zG n (0, 0) d 211 (81, [.inr (.inr (some 97)), .inl a1, .inl v7], [.inl x11]) M8 _
              have j107 : ∀ (M12 : zM) , qMI M12 → qFm [101] M M12 → zG n (0, 0) d 211 (107, [.inr (.inr (some 97)), .inl a1, .inl v7], []) M12 (fun v M' => (qMI M' ∧ qFm [101] M M') ∧ v = none) := by
                intro M12 hCM12 hWM12
                have e13 : M12 98 4 = M 98 4 := hWM12 98 4 (by decide)
                obtain ⟨x14, hx14⟩ : ∃ x : Int, x = w32 (v7 + (-1)) := ⟨_, rfl⟩
                have hx14e : x14 = v7 + (-1) := by rw [hx14]; exact w32_id (by omega)
                refine zG_blk (c' := (71, [.inr (.inr (some 97)), .inl a1, .inl x14], [])) 2 hd0 hz (by subst hx14; rfl) ?_
                exact ih71 x14 M12 (by omega) (by omega) (by omega) hCM12 hWM12
              refine zG_if_eq hd0 hz rfl (fun hb15 => ?_) (fun hb15 => ?_)
              · exact j107 M8 hCM8 hWM8
              · refine zG_blk (c' := (87, [.inr (.inr (some 97)), .inl a1, .inl v7], [.inl 0, .inl v7, .inr (.inr (some 97))])) 3 hd0 hz (by rfl) ?_
                refine zG_call hd0 hz zp_194 rfl rfl (Nat.le_of_ble_eq_true rfl) ⟨Nat.le_refl _, Nat.le_refl _⟩ (qx_act0 (by first | exact zdp hd (by decide) | omega) hCM8   v7 (by first | with_reducible exact hv7 | omega) 0 (by first | decide | omega) ) (fun vr M16 hr => ?_)
                obtain ⟨hq, x17, rfl, hx17⟩ := hr
                replace hq := hq.symm; subst hq
                show zG n (0, 0) d 211 (90, [.inr (.inr (some 97)), .inl a1, .inl v7], [.inl x17]) M8 _
                refine zG_blk (c' := (91, [.inr (.inr (some 97)), .inl a1, .inl v7], [.inl 5, .inl x17])) 1 hd0 hz (by rfl) ?_
                refine zG_icmp_ne hd0 hz rfl (fun hb18 => ?_) (fun hb18 => ?_)
                · exact j107 M8 hCM8 hWM8
                · have hrel := hCM8.rel v7 (by first | with_reducible exact hv7 | omega) (by omega)
                  refine zG_blk (c' := (102, [.inr (.inr (some 97)), .inl a1, .inl v7], [.inl 6, .inl v7, .inr (.inr (some 97)), .inr (.inr (some 101))])) 5 hd0 hz (by rfl) ?_
                  refine zG_call hd0 hz zp_194 rfl rfl (Nat.le_of_ble_eq_true rfl) ⟨Nat.le_refl _, Nat.le_refl _⟩ (qx_act6 (by first | exact zdp hd (by decide) | omega) hCM8   v7 (by first | with_reducible exact hv7 | omega) ) (fun vr M19 hr => ?_)
                  obtain ⟨hq, x20, rfl, hx20⟩ := hr
                  replace hq := hq.symm; subst hq
                  show zG n (0, 0) d 211 (105, [.inr (.inr (some 97)), .inl a1, .inl v7], [.inl x20, .inr (.inr (some 101))]) M8 _
                  refine zG_blk (c' := (106, [.inr (.inr (some 97)), .inl a1, .inl v7], [.inl 0, .inl x20, .inr (.inr (some 101))])) 1 hd0 hz (by rfl) ?_
                  refine zG_bast (by omega) hd0 hz rfl rfl (by omega) ?_
                  obtain ⟨M21, hM21⟩ : ∃ X : zM, X = zput M8 101 (x20 : Int).toNat 0 := ⟨_, rfl⟩
                  rw [← hM21]
                  have hCM21 : qMI M21 := by rw [hM21]; exact hCM8.put (by decide) (qCd_a (by decide) (by decide)) (by refine ⟨fun h => ?_, fun _ => ?_, fun h => ?_, fun h => ?_, fun h => ?_⟩ <;> first | omega | exact absurd h (by decide))
                  have hWM21 : qFm [101] M M21 := by rw [hM21]; exact hWM8.pa (by decide) (by decide)
                  have e22 : M21 98 4 = M8 98 4 := by rw [hM21]; exact qput_ne (by decide)
                  show zG n (0, 0) d 211 (107, [.inr (.inr (some 97)), .inl a1, .inl v7], []) M21 _
                  exact j107 M21 hCM21 hWM21
        exact j71 ((x6 + 1 : Int).toNat + 1) x6 M3 (by omega) (by omega) (by omega) hCM3 hWM3
      · refine zG_blk (c' := (20, [.inr (.inr (some 97)), .inl a1, .inl v2], [.inl 2, .inl v2, .inr (.inr (some 97)), .inl v2, .inr (.inr (some 101))])) 6 hd0 hz (by rfl) ?_
        refine zG_call hd0 hz zp_194 rfl rfl (Nat.le_of_ble_eq_true rfl) ⟨Nat.le_refl _, Nat.le_refl _⟩ (qx_act0 (by first | exact zdp hd (by decide) | omega) hCM3   v2 (by first | with_reducible exact hv2 | omega) 2 (by first | decide | omega) ) (fun vr M23 hr => ?_)
        obtain ⟨hq, x24, rfl, hx24⟩ := hr
        replace hq := hq.symm; subst hq
        show zG n (0, 0) d 211 (23, [.inr (.inr (some 97)), .inl a1, .inl v2], [.inl x24, .inl v2, .inr (.inr (some 101))]) M3 _
        refine zG_blk (c' := (24, [.inr (.inr (some 97)), .inl a1, .inl v2], [.inl a1, .inl x24, .inl v2, .inr (.inr (some 101))])) 1 hd0 hz (by rfl) ?_
        have j55 : ∀ (v25 : Int) , 0 ≤ v25 ∧ v25 ≤ 1 → zG n (0, 0) d 211 (55, [.inr (.inr (some 97)), .inl a1, .inl v2], [.inl v25, .inl v2, .inr (.inr (some 101))]) M3 (fun v M' => (qMI M' ∧ qFm [101] M M') ∧ v = none) := by
          intro v25 hv25
          refine zG_bast (by omega) hd0 hz rfl rfl (by omega) ?_
          obtain ⟨M26, hM26⟩ : ∃ X : zM, X = zput M3 101 (v2 : Int).toNat v25 := ⟨_, rfl⟩
          rw [← hM26]
          have hCM26 : qMI M26 := by rw [hM26]; exact hCM3.put (by decide) (qCd_a (by decide) (by decide)) (by refine ⟨fun h => ?_, fun _ => ?_, fun h => ?_, fun h => ?_, fun h => ?_⟩ <;> first | omega | exact absurd h (by decide))
          have hWM26 : qFm [101] M M26 := by rw [hM26]; exact hWM3.pa (by decide) (by decide)
          have e27 : M26 98 4 = M3 98 4 := by rw [hM26]; exact qput_ne (by decide)
          show zG n (0, 0) d 211 (56, [.inr (.inr (some 97)), .inl a1, .inl v2], []) M26 _
          obtain ⟨x28, hx28⟩ : ∃ x : Int, x = w32 (v2 + 1) := ⟨_, rfl⟩
          have hx28e : x28 = v2 + 1 := by rw [hx28]; exact w32_id (by omega)
          refine zG_blk (c' := (2, [.inr (.inr (some 97)), .inl a1, .inl x28], [])) 2 hd0 hz (by subst hx28; rfl) ?_
          exact ih2 x28 M26 (by omega) (by omega) hCM26 hWM26
        have j54 : zG n (0, 0) d 211 (54, [.inr (.inr (some 97)), .inl a1, .inl v2], [.inl v2, .inr (.inr (some 101))]) M3 (fun v M' => (qMI M' ∧ qFm [101] M M') ∧ v = none) := by
          refine zG_blk (c' := (55, [.inr (.inr (some 97)), .inl a1, .inl v2], [.inl 0, .inl v2, .inr (.inr (some 101))])) 1 hd0 hz (by rfl) ?_
          exact j55 0 (by first | decide | omega)
        refine zG_icmp_gt hd0 hz rfl (fun hb29 => ?_) (fun hb29 => ?_)
        · exact j54
        · refine zG_blk (c' := (30, [.inr (.inr (some 97)), .inl a1, .inl v2], [.inl 3, .inl v2, .inr (.inr (some 97)), .inl v2, .inr (.inr (some 101))])) 3 hd0 hz (by rfl) ?_
          refine zG_call hd0 hz zp_194 rfl rfl (Nat.le_of_ble_eq_true rfl) ⟨Nat.le_refl _, Nat.le_refl _⟩ (qx_act3 (by first | exact zdp hd (by decide) | omega) hCM3   v2 (by first | with_reducible exact hv2 | omega) ) (fun vr M30 hr => ?_)
          obtain ⟨hq, x31, rfl, hx31⟩ := hr
          replace hq := hq.symm; subst hq
          show zG n (0, 0) d 211 (33, [.inr (.inr (some 97)), .inl a1, .inl v2], [.inl x31, .inl v2, .inr (.inr (some 101))]) M3 _
          refine zG_blk (c' := (34, [.inr (.inr (some 97)), .inl a1, .inl v2], [.inl (-1), .inl x31, .inl v2, .inr (.inr (some 101))])) 1 hd0 hz (by rfl) ?_
          have j50 : zG n (0, 0) d 211 (50, [.inr (.inr (some 97)), .inl a1, .inl v2], [.inl v2, .inr (.inr (some 101))]) M3 (fun v M' => (qMI M' ∧ qFm [101] M M') ∧ v = none) := by
            refine zG_blk (c' := (55, [.inr (.inr (some 97)), .inl a1, .inl v2], [.inl 1, .inl v2, .inr (.inr (some 101))])) 2 hd0 hz (by rfl) ?_
            exact j55 1 (by first | decide | omega)
          refine zG_icmp_eq hd0 hz rfl (fun hb32 => ?_) (fun hb32 => ?_)
          · exact j50
          · refine zG_blk (c' := (41, [.inr (.inr (some 97)), .inl a1, .inl v2], [.inl 3, .inl v2, .inr (.inr (some 97)), .inr (.inr (some 97)), .inl v2, .inr (.inr (some 101))])) 4 hd0 hz (by rfl) ?_
            refine zG_call hd0 hz zp_194 rfl rfl (Nat.le_of_ble_eq_true rfl) ⟨Nat.le_refl _, Nat.le_refl _⟩ (qx_act3 (by first | exact zdp hd (by decide) | omega) hCM3   v2 (by first | with_reducible exact hv2 | omega) ) (fun vr M33 hr => ?_)
            obtain ⟨hq, x34, rfl, hx34⟩ := hr
            replace hq := hq.symm; subst hq
            show zG n (0, 0) d 211 (44, [.inr (.inr (some 97)), .inl a1, .inl v2], [.inl x34, .inr (.inr (some 97)), .inl v2, .inr (.inr (some 101))]) M3 _
            refine zG_call hd0 hz zp_192 rfl rfl (Nat.le_of_ble_eq_true rfl) ⟨Nat.le_refl _, Nat.le_refl _⟩ (qm_192_97 (by first | exact zdp hd (by decide) | omega) hCM3   x34 (by omega) ) (fun vr M35 hr => ?_)
            obtain ⟨hq, x36, rfl, hx36, hpx36_0⟩ := hr
            replace hq := hq.symm; subst hq
            show zG n (0, 0) d 211 (47, [.inr (.inr (some 97)), .inl a1, .inl v2], [.inl x36, .inl v2, .inr (.inr (some 101))]) M3 _
            refine zG_if_eq hd0 hz rfl (fun hb37 => ?_) (fun hb37 => ?_)
            · exact j54
            · exact j50
  exact j2 ((250 - 0 : Int).toNat + 1) 0 M (by omega) (by omega) hC hW
