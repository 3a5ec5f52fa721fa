theorem qm_218_97 {n d : Nat} {M : zM} (hd : 4 ≤ d) (hC : qMI M)  (a1 : Int) (ha1 : (-2147483648) ≤ a1 ∧ a1 ≤ 2147483647) : qOkN n d 218 [.inr (.inr (some 97)), .inl a1] 5 [102, 103, 104] M (fun v M' => v = none) := by
  have hz := zp_218
  have hd0 : 0 < d := by omega
  have hW : qFm [102, 103, 104] M M := qFm.rfl
  have r1 := hC.cnt4
  show zG n (0, 0) d 218 (0, [.inr (.inr (some 97)), .inl a1, zN, zN, zN], []) M _
  refine zG_blk (c' := (2, [.inr (.inr (some 97)), .inl a1, .inl 0, zN, zN], [])) 2 hd0 hz (by rfl) ?_
  have j2 : ∀ (N : Nat) (v2 : Int) (M3 : zM) , (14 - v2 : Int).toNat < N → 0 ≤ v2 ∧ v2 ≤ 14 → qMI M3 → qFm [102, 103, 104] M M3 → zG n (0, 0) d 218 (2, [.inr (.inr (some 97)), .inl a1, .inl v2, zN, zN], []) M3 (fun v M' => (qMI M' ∧ qFm [102, 103, 104] M M') ∧ v = none) := by
    intro N
    induction N with
    | zero => intro v2 M3 hN hv2 hCM3 hWM3; exact absurd hN (Nat.not_lt_zero _)
    | succ N ih2 =>
      intro v2 M3 hN hv2 hCM3 hWM3
      have e4 : M3 98 4 = M 98 4 := hWM3 98 4 (by decide)
      refine zG_blk (c' := (5, [.inr (.inr (some 97)), .inl a1, .inl v2, zN, zN], [.inl 14, .inl v2])) 2 hd0 hz (by rfl) ?_
      refine zG_icmp_ge hd0 hz rfl (fun hb5 => ?_) (fun hb5 => ?_)
      · refine zG_blk (c' := (37, [.inr (.inr (some 97)), .inl a1, .inl 0, zN, zN], [])) 2 hd0 hz (by rfl) ?_
        have j37 : ∀ (N : Nat) (v6 : Int) (M7 : zM) , (250 - v6 : Int).toNat < N → 0 ≤ v6 ∧ v6 ≤ 250 → qMI M7 → qFm [102, 103, 104] M M7 → zG n (0, 0) d 218 (37, [.inr (.inr (some 97)), .inl a1, .inl v6, zN, zN], []) M7 (fun v M' => (qMI M' ∧ qFm [102, 103, 104] M M') ∧ v = none) := by
          intro N
          induction N with
          | zero => intro v6 M7 hN hv6 hCM7 hWM7; exact absurd hN (Nat.not_lt_zero _)
          | succ N ih37 =>
            intro v6 M7 hN hv6 hCM7 hWM7
            have e8 : M7 98 4 = M 98 4 := hWM7 98 4 (by decide)
            refine zG_blk (c' := (43, [.inr (.inr (some 97)), .inl a1, .inl v6, zN, zN], [.inl 4, .inr (.inr (some 98)), .inl v6])) 4 hd0 hz (by rfl) ?_
            refine zG_iald hd0 hz rfl rfl (.inl rfl) (by omega) ?_
            show zG n (0, 0) d 218 (44, [.inr (.inr (some 97)), .inl a1, .inl v6, zN, zN], [.inl (M7 98 4), .inl v6]) M7 _
            refine zG_icmp_ge hd0 hz rfl (fun hb9 => ?_) (fun hb9 => ?_)
            · exact zG_ret hd0 hz rfl rfl ⟨⟨hCM7, hWM7⟩, rfl⟩
            · refine zG_blk (c' := (52, [.inr (.inr (some 97)), .inl a1, .inl v6, zN, zN], [.inl v6, .inr (.inr (some 101))])) 3 hd0 hz (by rfl) ?_
              refine zG_bald hd0 hz rfl rfl (.inl rfl) (by omega) ?_
              obtain ⟨x10, hx10⟩ : ∃ x : Int, x = M7 101 (v6 : Int).toNat := ⟨_, rfl⟩
              rw [← hx10]
              have hx10r : x10 = 0 ∨ x10 = 1 := by rw [hx10]; exact hCM7.bl101 _
              show zG n (0, 0) d 218 (53, [.inr (.inr (some 97)), .inl a1, .inl v6, zN, zN], [.inl x10]) M7 _
              have j172 : ∀ (M11 : zM) , qMI M11 → qFm [102, 103, 104] M M11 → zG n (0, 0) d 218 (172, [.inr (.inr (some 97)), .inl a1, .inl v6, zN, zN], []) M11 (fun v M' => (qMI M' ∧ qFm [102, 103, 104] M M') ∧ v = none) := by
                intro M11 hCM11 hWM11
                have e12 : M11 98 4 = M 98 4 := hWM11 98 4 (by decide)
                obtain ⟨x13, hx13⟩ : ∃ x : Int, x = w32 (v6 + 1) := ⟨_, rfl⟩
                have hx13e : x13 = v6 + 1 := by rw [hx13]; exact w32_id (by omega)
                refine zG_blk (c' := (37, [.inr (.inr (some 97)), .inl a1, .inl x13, zN, zN], [])) 2 hd0 hz (by subst hx13; rfl) ?_
                exact ih37 x13 M11 (by omega) (by omega) hCM11 hWM11
              have j131 : zG n (0, 0) d 218 (131, [.inr (.inr (some 97)), .inl a1, .inl v6, zN, zN], []) M7 (fun v M' => (qMI M' ∧ qFm [102, 103, 104] M M') ∧ v = none) := by
                refine zG_blk (c' := (136, [.inr (.inr (some 97)), .inl a1, .inl v6, zN, zN], [.inl v6, .inr (.inr (some 101))])) 3 hd0 hz (by rfl) ?_
                refine zG_bald hd0 hz rfl rfl (.inl rfl) (by omega) ?_
                obtain ⟨x14, hx14⟩ : ∃ x : Int, x = M7 101 (v6 : Int).toNat := ⟨_, rfl⟩
                rw [← hx14]
                have hx14r : x14 = 0 ∨ x14 = 1 := by rw [hx14]; exact hCM7.bl101 _
                show zG n (0, 0) d 218 (137, [.inr (.inr (some 97)), .inl a1, .inl v6, zN, zN], [.inl x14]) M7 _
                refine zG_if_eq hd0 hz rfl (fun hb15 => ?_) (fun hb15 => ?_)
                · exact j172 M7 hCM7 hWM7
                · refine zG_blk (c' := (143, [.inr (.inr (some 97)), .inl a1, .inl v6, zN, zN], [.inl 4, .inl v6, .inr (.inr (some 97))])) 3 hd0 hz (by rfl) ?_
                  refine zG_call hd0 hz zp_194 rfl rfl (Nat.le_of_ble_eq_true rfl) ⟨Nat.le_refl _, Nat.le_refl _⟩ (qx_act4 (by first | exact zdp hd (by decide) | omega) hCM7   v6 (by first | with_reducible exact hv6 | omega) ) (fun vr M16 hr => ?_)
                  obtain ⟨hq, x17, rfl, hx17⟩ := hr
                  replace hq := hq.symm; subst hq
                  show zG n (0, 0) d 218 (146, [.inr (.inr (some 97)), .inl a1, .inl v6, zN, zN], [.inl x17]) M7 _
                  refine zG_blk (c' := (147, [.inr (.inr (some 97)), .inl a1, .inl v6, zN, zN], [.inl a1, .inl x17])) 1 hd0 hz (by rfl) ?_
                  refine zG_icmp_ne hd0 hz rfl (fun hb18 => ?_) (fun hb18 => ?_)
                  · exact j172 M7 hCM7 hWM7
                  · refine zG_blk (c' := (153, [.inr (.inr (some 97)), .inl a1, .inl v6, zN, zN], [.inl 0, .inl v6, .inr (.inr (some 97))])) 3 hd0 hz (by rfl) ?_
                    refine zG_call hd0 hz zp_194 rfl rfl (Nat.le_of_ble_eq_true rfl) ⟨Nat.le_refl _, Nat.le_refl _⟩ (qx_act0 (by first | exact zdp hd (by decide) | omega) hCM7   v6 (by first | with_reducible exact hv6 | omega) 0 (by first | decide | omega) ) (fun vr M19 hr => ?_)
                    obtain ⟨hq, x20, rfl, hx20⟩ := hr
                    replace hq := hq.symm; subst hq
                    show zG n (0, 0) d 218 (156, [.inr (.inr (some 97)), .inl a1, .inl v6, zN, zN], [.inl x20]) M7 _
                    refine zG_blk (c' := (157, [.inr (.inr (some 97)), .inl a1, .inl v6, zN, zN], [.inl 4, .inl x20])) 1 hd0 hz (by rfl) ?_
                    refine zG_icmp_ne hd0 hz rfl (fun hb21 => ?_) (fun hb21 => ?_)
                    · exact j172 M7 hCM7 hWM7
                    · have hrel := hCM7.rel v6 (by first | with_reducible exact hv6 | omega) (by omega)
                      refine zG_blk (c' := (167, [.inr (.inr (some 97)), .inl a1, .inl v6, zN, zN], [.inl 5, .inl v6, .inr (.inr (some 97)), .inr (.inr (some 104))])) 5 hd0 hz (by rfl) ?_
                      refine zG_call hd0 hz zp_194 rfl rfl (Nat.le_of_ble_eq_true rfl) ⟨Nat.le_refl _, Nat.le_refl _⟩ (qx_act5 (by first | exact zdp hd (by decide) | omega) hCM7   v6 (by first | with_reducible exact hv6 | omega) ) (fun vr M22 hr => ?_)
                      obtain ⟨hq, x23, rfl, hx23⟩ := hr
                      replace hq := hq.symm; subst hq
                      show zG n (0, 0) d 218 (170, [.inr (.inr (some 97)), .inl a1, .inl v6, zN, zN], [.inl x23, .inr (.inr (some 104))]) M7 _
                      refine zG_blk (c' := (171, [.inr (.inr (some 97)), .inl a1, .inl v6, zN, zN], [.inl 1, .inl x23, .inr (.inr (some 104))])) 1 hd0 hz (by rfl) ?_
                      refine zG_iast hd0 hz rfl rfl (by omega) ?_
                      obtain ⟨M24, hM24⟩ : ∃ X : zM, X = zput M7 104 (x23 : Int).toNat 1 := ⟨_, rfl⟩
                      rw [← hM24]
                      have hCM24 : qMI M24 := by rw [hM24]; exact hCM7.put (by decide) (qCd_a (by decide) (by decide)) (by refine ⟨fun h => ?_, fun _ => ?_, fun h => ?_, fun h => ?_, fun h => ?_⟩ <;> first | omega | exact absurd h (by decide))
                      have hWM24 : qFm [102, 103, 104] M M24 := by rw [hM24]; exact hWM7.pa (by decide) (by decide)
                      have e25 : M24 98 4 = M7 98 4 := by rw [hM24]; exact qput_ne (by decide)
                      show zG n (0, 0) d 218 (172, [.inr (.inr (some 97)), .inl a1, .inl v6, zN, zN], []) M24 _
                      exact j172 M24 hCM24 hWM24
              refine zG_if_eq hd0 hz rfl (fun hb26 => ?_) (fun hb26 => ?_)
              · exact j131
              · refine zG_blk (c' := (59, [.inr (.inr (some 97)), .inl a1, .inl v6, zN, zN], [.inl 4, .inl v6, .inr (.inr (some 97))])) 3 hd0 hz (by rfl) ?_
                refine zG_call hd0 hz zp_194 rfl rfl (Nat.le_of_ble_eq_true rfl) ⟨Nat.le_refl _, Nat.le_refl _⟩ (qx_act4 (by first | exact zdp hd (by decide) | omega) hCM7   v6 (by first | with_reducible exact hv6 | omega) ) (fun vr M27 hr => ?_)
                obtain ⟨hq, x28, rfl, hx28⟩ := hr
                replace hq := hq.symm; subst hq
                show zG n (0, 0) d 218 (62, [.inr (.inr (some 97)), .inl a1, .inl v6, zN, zN], [.inl x28]) M7 _
                refine zG_blk (c' := (63, [.inr (.inr (some 97)), .inl a1, .inl v6, zN, zN], [.inl a1, .inl x28])) 1 hd0 hz (by rfl) ?_
                refine zG_icmp_ne hd0 hz rfl (fun hb29 => ?_) (fun hb29 => ?_)
                · exact j131
                · refine zG_blk (c' := (69, [.inr (.inr (some 97)), .inl a1, .inl v6, zN, zN], [.inl 0, .inl v6, .inr (.inr (some 97))])) 3 hd0 hz (by rfl) ?_
                  refine zG_call hd0 hz zp_194 rfl rfl (Nat.le_of_ble_eq_true rfl) ⟨Nat.le_refl _, Nat.le_refl _⟩ (qx_act0 (by first | exact zdp hd (by decide) | omega) hCM7   v6 (by first | with_reducible exact hv6 | omega) 0 (by first | decide | omega) ) (fun vr M30 hr => ?_)
                  obtain ⟨hq, x31, rfl, hx31⟩ := hr
                  replace hq := hq.symm; subst hq
                  show zG n (0, 0) d 218 (72, [.inr (.inr (some 97)), .inl a1, .inl v6, zN, zN], [.inl x31]) M7 _
                  refine zG_if_ne hd0 hz rfl (fun hb32 => ?_) (fun hb32 => ?_)
                  · exact j131
                  · have hrel := hCM7.rel v6 (by first | with_reducible exact hv6 | omega) (by omega)
                    refine zG_blk (c' := (78, [.inr (.inr (some 97)), .inl a1, .inl v6, zN, zN], [.inl 5, .inl v6, .inr (.inr (some 97))])) 3 hd0 hz (by rfl) ?_
                    refine zG_call hd0 hz zp_194 rfl rfl (Nat.le_of_ble_eq_true rfl) ⟨Nat.le_refl _, Nat.le_refl _⟩ (qx_act5 (by first | exact zdp hd (by decide) | omega) hCM7   v6 (by first | with_reducible exact hv6 | omega) ) (fun vr M33 hr => ?_)
                    obtain ⟨hq, x34, rfl, hx34⟩ := hr
                    replace hq := hq.symm; subst hq
                    show zG n (0, 0) d 218 (81, [.inr (.inr (some 97)), .inl a1, .inl v6, zN, zN], [.inl x34]) M7 _
                    refine zG_blk (c' := (85, [.inr (.inr (some 97)), .inl a1, .inl v6, .inl x34, zN], [.inl 4, .inl v6, .inr (.inr (some 97))])) 4 hd0 hz (by rfl) ?_
                    refine zG_call hd0 hz zp_216 rfl rfl (Nat.le_of_ble_eq_true rfl) ⟨Nat.le_refl _, Nat.le_refl _⟩ (qm_216_97 (by first | exact zdp hd (by decide) | omega) hCM7   v6 (by first | with_reducible exact hv6 | omega) 4 (by first | decide | omega) ) (fun vr M35 hr => ?_)
                    obtain ⟨hq, x36, rfl, hx36⟩ := hr
                    replace hq := hq.symm; subst hq
                    show zG n (0, 0) d 218 (88, [.inr (.inr (some 97)), .inl a1, .inl v6, .inl x34, zN], [.inl x36]) M7 _
                    refine zG_blk (c' := (102, [.inr (.inr (some 97)), .inl a1, .inl v6, .inl x34, .inl x36], [.inl x34, .inr (.inr (some 102)), .inl x36, .inl x34, .inr (.inr (some 102))])) 8 hd0 hz (by rfl) ?_
                    refine zG_iald hd0 hz rfl rfl (.inl rfl) (by omega) ?_
                    obtain ⟨x37, hx37⟩ : ∃ x : Int, x = M7 102 (x34 : Int).toNat := ⟨_, rfl⟩
                    rw [← hx37]
                    have hx37r : qin x37 := by rw [hx37]; exact hCM7.ra 102 _ (by decide) (by decide)
                    show zG n (0, 0) d 218 (103, [.inr (.inr (some 97)), .inl a1, .inl v6, .inl x34, .inl x36], [.inl x37, .inl x36, .inl x34, .inr (.inr (some 102))]) M7 _
                    have j117 : ∀ (v38 : Int) , (-2147483648) ≤ v38 ∧ v38 ≤ 2147483647 → zG n (0, 0) d 218 (117, [.inr (.inr (some 97)), .inl a1, .inl v6, .inl x34, .inl x36], [.inl v38, .inl x34, .inr (.inr (some 102))]) M7 (fun v M' => (qMI M' ∧ qFm [102, 103, 104] M M') ∧ v = none) := by
                      intro v38 hv38
                      refine zG_iast hd0 hz rfl rfl (by omega) ?_
                      obtain ⟨M39, hM39⟩ : ∃ X : zM, X = zput M7 102 (x34 : Int).toNat v38 := ⟨_, rfl⟩
                      rw [← hM39]
                      have hCM39 : qMI M39 := by rw [hM39]; exact hCM7.put (by decide) (qCd_a (by decide) (by decide)) (by refine ⟨fun h => ?_, fun _ => ?_, fun h => ?_, fun h => ?_, fun h => ?_⟩ <;> first | omega | exact absurd h (by decide))
                      have hWM39 : qFm [102, 103, 104] M M39 := by rw [hM39]; exact hWM7.pa (by decide) (by decide)
                      have e40 : M39 98 4 = M7 98 4 := by rw [hM39]; exact qput_ne (by decide)
                      show zG n (0, 0) d 218 (118, [.inr (.inr (some 97)), .inl a1, .inl v6, .inl x34, .inl x36], []) M39 _
                      refine zG_blk (c' := (124, [.inr (.inr (some 97)), .inl a1, .inl v6, .inl x34, .inl x36], [.inl x34, .inr (.inr (some 103)), .inl x34, .inr (.inr (some 103))])) 4 hd0 hz (by rfl) ?_
                      refine zG_iald hd0 hz rfl rfl (.inl rfl) (by omega) ?_
                      obtain ⟨x41, hx41⟩ : ∃ x : Int, x = M39 103 (x34 : Int).toNat := ⟨_, rfl⟩
                      rw [← hx41]
                      have hx41r : qin x41 := by rw [hx41]; exact hCM39.ra 103 _ (by decide) (by decide)
                      show zG n (0, 0) d 218 (125, [.inr (.inr (some 97)), .inl a1, .inl v6, .inl x34, .inl x36], [.inl x41, .inl x34, .inr (.inr (some 103))]) M39 _
                      obtain ⟨x42, hx42⟩ : ∃ x : Int, x = w32 (x41 + 1) := ⟨_, rfl⟩
                      have hx42r : x42 = (x41 + 1 + 2147483648) % 4294967296 - 2147483648 := hx42
                      refine zG_blk (c' := (127, [.inr (.inr (some 97)), .inl a1, .inl v6, .inl x34, .inl x36], [.inl x42, .inl x34, .inr (.inr (some 103))])) 2 hd0 hz (by subst hx42; rfl) ?_
                      refine zG_iast hd0 hz rfl rfl (by omega) ?_
                      obtain ⟨M43, hM43⟩ : ∃ X : zM, X = zput M39 103 (x34 : Int).toNat x42 := ⟨_, rfl⟩
                      rw [← hM43]
                      have hCM43 : qMI M43 := by rw [hM43]; exact hCM39.put (by decide) (qCd_a (by decide) (by decide)) (by refine ⟨fun h => ?_, fun _ => ?_, fun h => ?_, fun h => ?_, fun h => ?_⟩ <;> first | omega | exact absurd h (by decide))
                      have hWM43 : qFm [102, 103, 104] M M43 := by rw [hM43]; exact hWM39.pa (by decide) (by decide)
                      have e44 : M43 98 4 = M39 98 4 := by rw [hM43]; exact qput_ne (by decide)
                      show zG n (0, 0) d 218 (128, [.inr (.inr (some 97)), .inl a1, .inl v6, .inl x34, .inl x36], []) M43 _
                      refine zG_blk (c' := (172, [.inr (.inr (some 97)), .inl a1, .inl v6, .inl x34, .inl x36], [])) 1 hd0 hz (by rfl) ?_
                      exact zG_weak (j172 M43 hCM43 hWM43) ⟨.inr rfl, .inr rfl, .inr rfl, .inl rfl, .inl rfl, trivial⟩
                    refine zG_icmp_le hd0 hz rfl (fun hb45 => ?_) (fun hb45 => ?_)
                    · refine zG_blk (c' := (116, [.inr (.inr (some 97)), .inl a1, .inl v6, .inl x34, .inl x36], [.inl x34, .inr (.inr (some 102)), .inl x34, .inr (.inr (some 102))])) 3 hd0 hz (by rfl) ?_
                      refine zG_iald hd0 hz rfl rfl (.inl rfl) (by omega) ?_
                      obtain ⟨x46, hx46⟩ : ∃ x : Int, x = M7 102 (x34 : Int).toNat := ⟨_, rfl⟩
                      rw [← hx46]
                      have hx46r : qin x46 := by rw [hx46]; exact hCM7.ra 102 _ (by decide) (by decide)
                      show zG n (0, 0) d 218 (117, [.inr (.inr (some 97)), .inl a1, .inl v6, .inl x34, .inl x36], [.inl x46, .inl x34, .inr (.inr (some 102))]) M7 _
                      exact j117 x46 (by omega)
                    · refine zG_blk (c' := (117, [.inr (.inr (some 97)), .inl a1, .inl v6, .inl x34, .inl x36], [.inl x36, .inl x34, .inr (.inr (some 102))])) 2 hd0 hz (by rfl) ?_
                      exact j117 x36 (by omega)
        exact j37 ((250 - 0 : Int).toNat + 1) 0 M3 (by omega) (by omega) hCM3 hWM3
      · refine zG_blk (c' := (14, [.inr (.inr (some 97)), .inl a1, .inl v2, zN, zN], [.inl (-1), .inl v2, .inr (.inr (some 102))])) 4 hd0 hz (by rfl) ?_
        refine zG_iast hd0 hz rfl rfl (by omega) ?_
        obtain ⟨M47, hM47⟩ : ∃ X : zM, X = zput M3 102 (v2 : Int).toNat (-1) := ⟨_, rfl⟩
        rw [← hM47]
        have hCM47 : qMI M47 := by rw [hM47]; exact hCM3.put (by decide) (qCd_a (by decide) (by decide)) (by refine ⟨fun h => ?_, fun _ => ?_, fun h => ?_, fun h => ?_, fun h => ?_⟩ <;> first | omega | exact absurd h (by decide))
        have hWM47 : qFm [102, 103, 104] M M47 := by rw [hM47]; exact hWM3.pa (by decide) (by decide)
        have e48 : M47 98 4 = M3 98 4 := by rw [hM47]; exact qput_ne (by decide)
        show zG n (0, 0) d 218 (15, [.inr (.inr (some 97)), .inl a1, .inl v2, zN, zN], []) M47 _
        refine zG_blk (c' := (21, [.inr (.inr (some 97)), .inl a1, .inl v2, zN, zN], [.inl 0, .inl v2, .inr (.inr (some 103))])) 4 hd0 hz (by rfl) ?_
        refine zG_iast hd0 hz rfl rfl (by omega) ?_
        obtain ⟨M49, hM49⟩ : ∃ X : zM, X = zput M47 103 (v2 : Int).toNat 0 := ⟨_, rfl⟩
        rw [← hM49]
        have hCM49 : qMI M49 := by rw [hM49]; exact hCM47.put (by decide) (qCd_a (by decide) (by decide)) (by refine ⟨fun h => ?_, fun _ => ?_, fun h => ?_, fun h => ?_, fun h => ?_⟩ <;> first | omega | exact absurd h (by decide))
        have hWM49 : qFm [102, 103, 104] M M49 := by rw [hM49]; exact hWM47.pa (by decide) (by decide)
        have e50 : M49 98 4 = M47 98 4 := by rw [hM49]; exact qput_ne (by decide)
        show zG n (0, 0) d 218 (22, [.inr (.inr (some 97)), .inl a1, .inl v2, zN, zN], []) M49 _
        refine zG_blk (c' := (28, [.inr (.inr (some 97)), .inl a1, .inl v2, zN, zN], [.inl 0, .inl v2, .inr (.inr (some 104))])) 4 hd0 hz (by rfl) ?_
        refine zG_iast hd0 hz rfl rfl (by omega) ?_
        obtain ⟨M51, hM51⟩ : ∃ X : zM, X = zput M49 104 (v2 : Int).toNat 0 := ⟨_, rfl⟩
        rw [← hM51]
        have hCM51 : qMI M51 := by rw [hM51]; exact hCM49.put (by decide) (qCd_a (by decide) (by decide)) (by refine ⟨fun h => ?_, fun _ => ?_, fun h => ?_, fun h => ?_, fun h => ?_⟩ <;> first | omega | exact absurd h (by decide))
        have hWM51 : qFm [102, 103, 104] M M51 := by rw [hM51]; exact hWM49.pa (by decide) (by decide)
        have e52 : M51 98 4 = M49 98 4 := by rw [hM51]; exact qput_ne (by decide)
        show zG n (0, 0) d 218 (29, [.inr (.inr (some 97)), .inl a1, .inl v2, zN, zN], []) M51 _
        obtain ⟨x53, hx53⟩ : ∃ x : Int, x = w32 (v2 + 1) := ⟨_, rfl⟩
        have hx53e : x53 = v2 + 1 := by rw [hx53]; exact w32_id (by omega)
        refine zG_blk (c' := (2, [.inr (.inr (some 97)), .inl a1, .inl x53, zN, zN], [])) 2 hd0 hz (by subst hx53; rfl) ?_
        exact ih2 x53 M51 (by omega) (by omega) hCM51 hWM51
  exact j2 ((14 - 0 : Int).toNat + 1) 0 M (by omega) (by omega) hC hW
