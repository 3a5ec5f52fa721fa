set_option maxRecDepth 100000 in
theorem qm_235_97 {n d : Nat} {M : zM} (hd : 2 ≤ d) (hC : qMI M)   : qOkN n d 235 [.inr (.inr (some 97))] 3 [109, 1016] M (fun v M' => ∃ x : Int, v = some (.inr (.inl x))) := by
  have hz := zp_235
  have hd0 : 0 < d := by omega
  have hW : qFm [109, 1016] M M := qFm.rfl
  have r1 := hC.steps
  show zG n (0, 0) d 235 (0, [.inr (.inr (some 97)), zN, zN], []) M _
  refine zG_blk (c' := (2, [.inr (.inr (some 97)), zN, zN], [.inl 0, .inr (.inr (some 97))])) 2 hd0 hz (by rfl) ?_
  refine zG_putf (.inl rfl) hd0 hz rfl (by decide) rfl rfl ?_
  obtain ⟨M2, hM2⟩ : ∃ X : zM, X = zput M 97 16 0 := ⟨_, rfl⟩
  rw [← hM2]
  have hCM2 : qMI M2 := by rw [hM2]; exact hC.put (by decide) (by decide) (by refine ⟨fun _ => ?_, fun _ => ?_, fun h => ⟨fun _ => ?_, fun _ => ?_, fun _ => ?_, fun _ => ?_, fun _ => ?_⟩, fun h => ?_, fun h => ?_⟩ <;> first | omega | exact absurd rfl (by assumption) | (rename_i h9; exact absurd h9 (by decide)))
  have hWM2 : qFm [109, 1016] M M2 := by rw [hM2]; exact hW.put (by decide)
  have e3 : M2 97 7 = M 97 7 := by rw [hM2]; exact qput_nk (by decide)
  have e4 : M2 97 16 = 0 := by rw [hM2]; exact qput_eq
  have hd0q : qDp (M 105) (0 : Int).toNat = 0 := rfl
  show zG n (0, 0) d 235 (5, [.inr (.inr (some 97)), zN, zN], []) M2 _
  refine zG_blk (c' := (7, [.inr (.inr (some 97)), .inl 0, zN], [])) 2 hd0 hz (by rfl) ?_
  have j7 : ∀ (N : Nat) (v5 : Int) (M6 : zM) , (M 97 7 - v5 : Int).toNat < N → 0 ≤ v5 ∧ v5 ≤ 2147483647 → (M6 97 16 = qDp (M 105) (v5).toNat) → qMI M6 → qFm [109, 1016] M M6 → zG n (0, 0) d 235 (7, [.inr (.inr (some 97)), .inl v5, zN], []) M6 (fun v M' => (qMI M' ∧ qFm [109, 1016] M M') ∧ ∃ x : Int, v = some (.inr (.inl x))) := by
    intro N
    induction N with
    | zero => intro v5 M6 hN hv5 hx0_7 hCM6 hWM6; exact absurd hN (Nat.not_lt_zero _)
    | succ N ih7 =>
      intro v5 M6 hN hv5 hx0_7 hCM6 hWM6
      have e7 : M6 97 7 = M 97 7 := hWM6 97 7 (by decide)
      have r8 := hCM6.rg 97 16 (by decide) (by decide)
      refine zG_blk (c' := (12, [.inr (.inr (some 97)), .inl v5, zN], [.inl (M6 97 7), .inl v5])) 3 hd0 hz (by rfl) ?_
      refine zG_icmp_ge hd0 hz rfl (fun hb9 => ?_) (fun hb9 => ?_)
      · refine zG_blk (c' := (309, [.inr (.inr (some 97)), .inl v5, zN], [.inl 0, .inr (.inr (some 109))])) 3 hd0 hz (by rfl) ?_
        refine zG_lald hd0 hz rfl rfl (.inl rfl) (by omega) ?_
        obtain ⟨x10, hx10⟩ : ∃ x : Int, x = M6 109 (0 : Int).toNat := ⟨_, rfl⟩
        rw [← hx10]
        show zG n (0, 0) d 235 (310, [.inr (.inr (some 97)), .inl v5, zN], [.inr (.inl (x10))]) M6 _
        exact zG_ret hd0 hz rfl rfl ⟨⟨hCM6, hWM6⟩, _, rfl⟩
      · refine zG_blk (c' := (20, [.inr (.inr (some 97)), .inl v5, zN], [.inl v5, .inr (.inr (some 105))])) 3 hd0 hz (by rfl) ?_
        refine zG_iald hd0 hz rfl rfl (.inl rfl) (by omega) ?_
        obtain ⟨x11, hx11⟩ : ∃ x : Int, x = M6 105 (v5 : Int).toNat := ⟨_, rfl⟩
        rw [← hx11]
        have hx11r : qin x11 := by rw [hx11]; exact hCM6.ra 105 _ (by decide) (by decide)
        have hsf := hC.safe v5 x11 (by omega) (by rw [hx11]; exact hWM6.ar 105 _ (by decide) (by decide))
        show zG n (0, 0) d 235 (21, [.inr (.inr (some 97)), .inl v5, zN], [.inl x11]) M6 _
        refine zG_blk (c' := (23, [.inr (.inr (some 97)), .inl v5, .inl x11], [.inl x11])) 2 hd0 hz (by rfl) ?_
        have j298 : ∀ (M12 : zM) , (M12 97 16 = qDp (M 105) (v5 + 1).toNat) → qMI M12 → qFm [109, 1016] M M12 → zG n (0, 0) d 235 (298, [.inr (.inr (some 97)), .inl v5, .inl x11], []) M12 (fun v M' => (qMI M' ∧ qFm [109, 1016] M M') ∧ ∃ x : Int, v = some (.inr (.inl x))) := by
          intro M12 hx0_298 hCM12 hWM12
          have e13 : M12 97 7 = M 97 7 := hWM12 97 7 (by decide)
          have r14 := hCM12.rg 97 16 (by decide) (by decide)
          obtain ⟨x15, hx15⟩ : ∃ x : Int, x = w32 (v5 + 1) := ⟨_, rfl⟩
          have hx15e : x15 = v5 + 1 := by rw [hx15]; exact w32_id (by omega)
          have hnx : qDp (M 105) (x15).toNat = qDp (M 105) (v5 + 1).toNat := by rw [show x15 = v5 + 1 by omega]
          refine zG_blk (c' := (7, [.inr (.inr (some 97)), .inl x15, .inl x11], [])) 2 hd0 hz (by subst hx15; rfl) ?_
          exact zG_weak (ih7 x15 M12 (by omega) (by omega) (by omega) hCM12 hWM12) ⟨.inr rfl, .inr rfl, .inl rfl, trivial⟩
        have j31 : (x11 = 0 ∨ x11 = 1) → zG n (0, 0) d 235 (31, [.inr (.inr (some 97)), .inl v5, .inl x11], []) M6 (fun v M' => (qMI M' ∧ qFm [109, 1016] M M') ∧ ∃ x : Int, v = some (.inr (.inl x))) := by
          intro hx0_31
          refine zG_blk (c' := (40, [.inr (.inr (some 97)), .inl v5, .inl x11], [.inl x11, .inl (M6 97 16), .inr (.inr (some 109))])) 5 hd0 hz (by rfl) ?_
          have j64 : ∀ (v16 : Int) , zG n (0, 0) d 235 (64, [.inr (.inr (some 97)), .inl v5, .inl x11], [.inr (.inl (v16)), .inl (M6 97 16), .inr (.inr (some 109))]) M6 (fun v M' => (qMI M' ∧ qFm [109, 1016] M M') ∧ ∃ x : Int, v = some (.inr (.inl x))) := by
            intro v16
            refine zG_last hd0 hz rfl rfl (by omega) ?_
            obtain ⟨M17, hM17⟩ : ∃ X : zM, X = zput M6 109 ((M6 97 16) : Int).toNat v16 := ⟨_, rfl⟩
            rw [← hM17]
            have hCM17 : qMI M17 := by rw [hM17]; exact hCM6.put (by decide) (qCd_a (by decide) (by decide)) (by refine ⟨fun h => ?_, fun _ => ?_, fun h => ?_, fun h => ?_, fun h => ?_⟩ <;> first | exact absurd h (Bool.noConfusion ∘ Eq.trans (Eq.symm (rfl : qLJ 109 _ = true))) | omega)
            have hWM17 : qFm [109, 1016] M M17 := by rw [hM17]; exact hWM6.pa (by decide) (by decide)
            have e18 : M17 97 7 = M6 97 7 := by rw [hM17]; exact qput_ne (by decide)
            have e19 : M17 97 16 = M6 97 16 := by rw [hM17]; exact qput_ne (by decide)
            show zG n (0, 0) d 235 (65, [.inr (.inr (some 97)), .inl v5, .inl x11], []) M17 _
            obtain ⟨x20, hx20⟩ : ∃ x : Int, x = w32 ((M17 97 16) + 1) := ⟨_, rfl⟩
            have hx20r : x20 = ((M17 97 16) + 1 + 2147483648) % 4294967296 - 2147483648 := hx20
            refine zG_blk (c' := (72, [.inr (.inr (some 97)), .inl v5, .inl x11], [.inl x20, .inr (.inr (some 97))])) 5 hd0 hz (by subst hx20; rfl) ?_
            refine zG_putf (.inl rfl) hd0 hz rfl (by decide) rfl rfl ?_
            obtain ⟨M21, hM21⟩ : ∃ X : zM, X = zput M17 97 16 x20 := ⟨_, rfl⟩
            rw [← hM21]
            have hCM21 : qMI M21 := by rw [hM21]; exact hCM17.put (by decide) (by decide) (by refine ⟨fun _ => ?_, fun _ => ?_, fun h => ⟨fun _ => ?_, fun _ => ?_, fun _ => ?_, fun _ => ?_, fun _ => ?_⟩, fun h => ?_, fun h => ?_⟩ <;> first | omega | exact absurd rfl (by assumption) | (rename_i h9; exact absurd h9 (by decide)))
            have hWM21 : qFm [109, 1016] M M21 := by rw [hM21]; exact hWM17.put (by decide)
            have e22 : M21 97 7 = M17 97 7 := by rw [hM21]; exact qput_nk (by decide)
            have e23 : M21 97 16 = x20 := by rw [hM21]; exact qput_eq
            show zG n (0, 0) d 235 (75, [.inr (.inr (some 97)), .inl v5, .inl x11], []) M21 _
            refine zG_blk (c' := (298, [.inr (.inr (some 97)), .inl v5, .inl x11], [])) 1 hd0 hz (by rfl) ?_
            exact j298 M21 (by omega) hCM21 hWM21
          refine zG_if_ne hd0 hz rfl (fun hb24 => ?_) (fun hb24 => ?_)
          · refine zG_blk (c' := (62, [.inr (.inr (some 97)), .inl v5, .inl x11], [.inl v5, .inr (.inr (some 106)), .inr (.inr (some 108)), .inl (M6 97 16), .inr (.inr (some 109))])) 5 hd0 hz (by rfl) ?_
            refine zG_iald hd0 hz rfl rfl (.inl rfl) (by omega) ?_
            obtain ⟨x25, hx25⟩ : ∃ x : Int, x = M6 106 (v5 : Int).toNat := ⟨_, rfl⟩
            rw [← hx25]
            have hx25r : qin x25 := by rw [hx25]; exact hCM6.ra 106 _ (by decide) (by decide)
            have hwm : x25 = M 106 (v5).toNat := by rw [hx25]; exact hWM6.ar 106 _ (by decide) (by decide)
            show zG n (0, 0) d 235 (63, [.inr (.inr (some 97)), .inl v5, .inl x11], [.inl x25, .inr (.inr (some 108)), .inl (M6 97 16), .inr (.inr (some 109))]) M6 _
            refine zG_lald hd0 hz rfl rfl (.inl rfl) (by omega) ?_
            obtain ⟨x26, hx26⟩ : ∃ x : Int, x = M6 108 (x25 : Int).toNat := ⟨_, rfl⟩
            rw [← hx26]
            show zG n (0, 0) d 235 (64, [.inr (.inr (some 97)), .inl v5, .inl x11], [.inr (.inl (x26)), .inl (M6 97 16), .inr (.inr (some 109))]) M6 _
            exact j64 x26
          · refine zG_blk (c' := (48, [.inr (.inr (some 97)), .inl v5, .inl x11], [.inl v5, .inr (.inr (some 106)), .inl (M6 97 16), .inr (.inr (some 109))])) 3 hd0 hz (by rfl) ?_
            refine zG_iald hd0 hz rfl rfl (.inl rfl) (by omega) ?_
            obtain ⟨x27, hx27⟩ : ∃ x : Int, x = M6 106 (v5 : Int).toNat := ⟨_, rfl⟩
            rw [← hx27]
            have hx27r : qin x27 := by rw [hx27]; exact hCM6.ra 106 _ (by decide) (by decide)
            show zG n (0, 0) d 235 (49, [.inr (.inr (some 97)), .inl v5, .inl x11], [.inl x27, .inl (M6 97 16), .inr (.inr (some 109))]) M6 _
            refine zG_blk (c' := (64, [.inr (.inr (some 97)), .inl v5, .inl x11], [.inr (.inl (x27)), .inl (M6 97 16), .inr (.inr (some 109))])) 2 hd0 hz (by rfl) ?_
            exact j64 x27
        refine zG_if_eq hd0 hz rfl (fun hb28 => ?_) (fun hb28 => ?_)
        · exact j31 (by omega)
        · refine zG_blk (c' := (28, [.inr (.inr (some 97)), .inl v5, .inl x11], [.inl 1, .inl x11])) 2 hd0 hz (by rfl) ?_
          refine zG_icmp_ne hd0 hz rfl (fun hb29 => ?_) (fun hb29 => ?_)
          · refine zG_blk (c' := (80, [.inr (.inr (some 97)), .inl v5, .inl x11], [.inl 2, .inl x11])) 2 hd0 hz (by rfl) ?_
            refine zG_icmp_ne hd0 hz rfl (fun hb30 => ?_) (fun hb30 => ?_)
            · refine zG_blk (c' := (120, [.inr (.inr (some 97)), .inl v5, .inl x11], [.inl 3, .inl x11])) 2 hd0 hz (by rfl) ?_
              refine zG_icmp_ne hd0 hz rfl (fun hb31 => ?_) (fun hb31 => ?_)
              · refine zG_blk (c' := (151, [.inr (.inr (some 97)), .inl v5, .inl x11], [.inl 4, .inl x11])) 2 hd0 hz (by rfl) ?_
                refine zG_icmp_ne hd0 hz rfl (fun hb32 => ?_) (fun hb32 => ?_)
                · refine zG_blk (c' := (186, [.inr (.inr (some 97)), .inl v5, .inl x11], [.inl 14, .inl x11])) 2 hd0 hz (by rfl) ?_
                  refine zG_icmp_ne hd0 hz rfl (fun hb33 => ?_) (fun hb33 => ?_)
                  · obtain ⟨x34, hx34⟩ : ∃ x : Int, x = w32 ((M6 97 16) - 1) := ⟨_, rfl⟩
                    have hx34r : x34 = ((M6 97 16) - 1 + 2147483648) % 4294967296 - 2147483648 := hx34
                    refine zG_blk (c' := (259, [.inr (.inr (some 97)), .inl v5, .inl x11], [.inl x34, .inr (.inr (some 97))])) 5 hd0 hz (by subst hx34; rfl) ?_
                    refine zG_putf (.inl rfl) hd0 hz rfl (by decide) rfl rfl ?_
                    obtain ⟨M35, hM35⟩ : ∃ X : zM, X = zput M6 97 16 x34 := ⟨_, rfl⟩
                    rw [← hM35]
                    have hCM35 : qMI M35 := by rw [hM35]; exact hCM6.put (by decide) (by decide) (by refine ⟨fun _ => ?_, fun _ => ?_, fun h => ⟨fun _ => ?_, fun _ => ?_, fun _ => ?_, fun _ => ?_, fun _ => ?_⟩, fun h => ?_, fun h => ?_⟩ <;> first | omega | exact absurd rfl (by assumption) | (rename_i h9; exact absurd h9 (by decide)))
                    have hWM35 : qFm [109, 1016] M M35 := by rw [hM35]; exact hWM6.put (by decide)
                    have e36 : M35 97 7 = M6 97 7 := by rw [hM35]; exact qput_nk (by decide)
                    have e37 : M35 97 16 = x34 := by rw [hM35]; exact qput_eq
                    show zG n (0, 0) d 235 (262, [.inr (.inr (some 97)), .inl v5, .inl x11], []) M35 _
                    obtain ⟨x38, hx38⟩ : ∃ x : Int, x = w32 ((M35 97 16) - 1) := ⟨_, rfl⟩
                    have hx38r : x38 = ((M35 97 16) - 1 + 2147483648) % 4294967296 - 2147483648 := hx38
                    obtain ⟨x39, hx39⟩ : ∃ x : Int, x = w32 ((M35 97 16) - 1) := ⟨_, rfl⟩
                    have hx39r : x39 = ((M35 97 16) - 1 + 2147483648) % 4294967296 - 2147483648 := hx39
                    refine zG_blk (c' := (284, [.inr (.inr (some 97)), .inl v5, .inl x11], [.inl x39, .inr (.inr (some 109)), .inl x11, .inr (.inr (some 97)), .inl x38, .inr (.inr (some 109))])) 14 hd0 hz (by subst hx39; subst hx38; rfl) ?_
                    refine zG_lald hd0 hz rfl rfl (.inl rfl) (by omega) ?_
                    obtain ⟨x40, hx40⟩ : ∃ x : Int, x = M35 109 (x39 : Int).toNat := ⟨_, rfl⟩
                    rw [← hx40]
                    show zG n (0, 0) d 235 (285, [.inr (.inr (some 97)), .inl v5, .inl x11], [.inr (.inl (x40)), .inl x11, .inr (.inr (some 97)), .inl x38, .inr (.inr (some 109))]) M35 _
                    refine zG_blk (c' := (293, [.inr (.inr (some 97)), .inl v5, .inl x11], [.inl (M35 97 16), .inr (.inr (some 109)), .inr (.inl (x40)), .inl x11, .inr (.inr (some 97)), .inl x38, .inr (.inr (some 109))])) 4 hd0 hz (by rfl) ?_
                    refine zG_lald hd0 hz rfl rfl (.inl rfl) (by omega) ?_
                    obtain ⟨x41, hx41⟩ : ∃ x : Int, x = M35 109 ((M35 97 16) : Int).toNat := ⟨_, rfl⟩
                    rw [← hx41]
                    show zG n (0, 0) d 235 (294, [.inr (.inr (some 97)), .inl v5, .inl x11], [.inr (.inl (x41)), .inr (.inl (x40)), .inl x11, .inr (.inr (some 97)), .inl x38, .inr (.inr (some 109))]) M35 _
                    refine zG_call hd0 hz zp_234 rfl rfl (Nat.le_of_ble_eq_true rfl) ⟨Nat.le_refl _, Nat.le_refl _⟩ (qm_234_97 (by first | exact zdp hd (by decide) | omega) hCM35   x11 (by omega) x40 x41 ) (fun vr M42 hr => ?_)
                    obtain ⟨hq, x43, rfl⟩ := hr
                    replace hq := hq.symm; subst hq
                    show zG n (0, 0) d 235 (297, [.inr (.inr (some 97)), .inl v5, .inl x11], [.inr (.inl (x43)), .inl x38, .inr (.inr (some 109))]) M35 _
                    refine zG_last hd0 hz rfl rfl (by omega) ?_
                    obtain ⟨M44, hM44⟩ : ∃ X : zM, X = zput M35 109 (x38 : Int).toNat x43 := ⟨_, rfl⟩
                    rw [← hM44]
                    have hCM44 : qMI M44 := by rw [hM44]; exact hCM35.put (by decide) (qCd_a (by decide) (by decide)) (by refine ⟨fun h => ?_, fun _ => ?_, fun h => ?_, fun h => ?_, fun h => ?_⟩ <;> first | exact absurd h (Bool.noConfusion ∘ Eq.trans (Eq.symm (rfl : qLJ 109 _ = true))) | omega)
                    have hWM44 : qFm [109, 1016] M M44 := by rw [hM44]; exact hWM35.pa (by decide) (by decide)
                    have e45 : M44 97 7 = M35 97 7 := by rw [hM44]; exact qput_ne (by decide)
                    have e46 : M44 97 16 = M35 97 16 := by rw [hM44]; exact qput_ne (by decide)
                    show zG n (0, 0) d 235 (298, [.inr (.inr (some 97)), .inl v5, .inl x11], []) M44 _
                    exact j298 M44 (by omega) hCM44 hWM44
                  · obtain ⟨x47, hx47⟩ : ∃ x : Int, x = w32 ((M6 97 16) - 2) := ⟨_, rfl⟩
                    have hx47r : x47 = ((M6 97 16) - 2 + 2147483648) % 4294967296 - 2147483648 := hx47
                    refine zG_blk (c' := (196, [.inr (.inr (some 97)), .inl v5, .inl x11], [.inl x47, .inr (.inr (some 97))])) 5 hd0 hz (by subst hx47; rfl) ?_
                    refine zG_putf (.inl rfl) hd0 hz rfl (by decide) rfl rfl ?_
                    obtain ⟨M48, hM48⟩ : ∃ X : zM, X = zput M6 97 16 x47 := ⟨_, rfl⟩
                    rw [← hM48]
                    have hCM48 : qMI M48 := by rw [hM48]; exact hCM6.put (by decide) (by decide) (by refine ⟨fun _ => ?_, fun _ => ?_, fun h => ⟨fun _ => ?_, fun _ => ?_, fun _ => ?_, fun _ => ?_, fun _ => ?_⟩, fun h => ?_, fun h => ?_⟩ <;> first | omega | exact absurd rfl (by assumption) | (rename_i h9; exact absurd h9 (by decide)))
                    have hWM48 : qFm [109, 1016] M M48 := by rw [hM48]; exact hWM6.put (by decide)
                    have e49 : M48 97 7 = M6 97 7 := by rw [hM48]; exact qput_nk (by decide)
                    have e50 : M48 97 16 = x47 := by rw [hM48]; exact qput_eq
                    show zG n (0, 0) d 235 (199, [.inr (.inr (some 97)), .inl v5, .inl x11], []) M48 _
                    obtain ⟨x51, hx51⟩ : ∃ x : Int, x = w32 ((M48 97 16) - 1) := ⟨_, rfl⟩
                    have hx51r : x51 = ((M48 97 16) - 1 + 2147483648) % 4294967296 - 2147483648 := hx51
                    refine zG_blk (c' := (217, [.inr (.inr (some 97)), .inl v5, .inl x11], [.inl (M48 97 16), .inr (.inr (some 109)), .inl x51, .inr (.inr (some 109))])) 10 hd0 hz (by subst hx51; rfl) ?_
                    refine zG_lald hd0 hz rfl rfl (.inl rfl) (by omega) ?_
                    obtain ⟨x52, hx52⟩ : ∃ x : Int, x = M48 109 ((M48 97 16) : Int).toNat := ⟨_, rfl⟩
                    rw [← hx52]
                    show zG n (0, 0) d 235 (218, [.inr (.inr (some 97)), .inl v5, .inl x11], [.inr (.inl (x52)), .inl x51, .inr (.inr (some 109))]) M48 _
                    refine zG_blk (c' := (219, [.inr (.inr (some 97)), .inl v5, .inl x11], [.inr (.inl (0)), .inr (.inl (x52)), .inl x51, .inr (.inr (some 109))])) 1 hd0 hz (by rfl) ?_
                    have j248 : ∀ (v53 : Int) , zG n (0, 0) d 235 (248, [.inr (.inr (some 97)), .inl v5, .inl x11], [.inr (.inl (v53)), .inl x51, .inr (.inr (some 109))]) M48 (fun v M' => (qMI M' ∧ qFm [109, 1016] M M') ∧ ∃ x : Int, v = some (.inr (.inl x))) := by
                      intro v53
                      refine zG_last hd0 hz rfl rfl (by omega) ?_
                      obtain ⟨M54, hM54⟩ : ∃ X : zM, X = zput M48 109 (x51 : Int).toNat v53 := ⟨_, rfl⟩
                      rw [← hM54]
                      have hCM54 : qMI M54 := by rw [hM54]; exact hCM48.put (by decide) (qCd_a (by decide) (by decide)) (by refine ⟨fun h => ?_, fun _ => ?_, fun h => ?_, fun h => ?_, fun h => ?_⟩ <;> first | exact absurd h (Bool.noConfusion ∘ Eq.trans (Eq.symm (rfl : qLJ 109 _ = true))) | omega)
                      have hWM54 : qFm [109, 1016] M M54 := by rw [hM54]; exact hWM48.pa (by decide) (by decide)
                      have e55 : M54 97 7 = M48 97 7 := by rw [hM54]; exact qput_ne (by decide)
                      have e56 : M54 97 16 = M48 97 16 := by rw [hM54]; exact qput_ne (by decide)
                      show zG n (0, 0) d 235 (249, [.inr (.inr (some 97)), .inl v5, .inl x11], []) M54 _
                      refine zG_blk (c' := (298, [.inr (.inr (some 97)), .inl v5, .inl x11], [])) 1 hd0 hz (by rfl) ?_
                      exact j298 M54 (by omega) hCM54 hWM54
                    refine zG_lc_eq hd0 hz rfl rfl (fun hb219 => ?_) (fun hb219 => ?_)
                    · obtain ⟨x57, hx57⟩ : ∃ x : Int, x = w32 ((M48 97 16) + 1) := ⟨_, rfl⟩
                      have hx57r : x57 = ((M48 97 16) + 1 + 2147483648) % 4294967296 - 2147483648 := hx57
                      refine zG_blk (c' := (247, [.inr (.inr (some 97)), .inl v5, .inl x11], [.inl x57, .inr (.inr (some 109)), .inl x51, .inr (.inr (some 109))])) 6 hd0 hz (by subst hx57; rfl) ?_
                      refine zG_lald hd0 hz rfl rfl (.inl rfl) (by omega) ?_
                      obtain ⟨x58, hx58⟩ : ∃ x : Int, x = M48 109 (x57 : Int).toNat := ⟨_, rfl⟩
                      rw [← hx58]
                      show zG n (0, 0) d 235 (248, [.inr (.inr (some 97)), .inl v5, .inl x11], [.inr (.inl (x58)), .inl x51, .inr (.inr (some 109))]) M48 _
                      exact j248 x58
                    · obtain ⟨x59, hx59⟩ : ∃ x : Int, x = w32 ((M48 97 16) - 1) := ⟨_, rfl⟩
                      have hx59r : x59 = ((M48 97 16) - 1 + 2147483648) % 4294967296 - 2147483648 := hx59
                      refine zG_blk (c' := (233, [.inr (.inr (some 97)), .inl v5, .inl x11], [.inl x59, .inr (.inr (some 109)), .inl x51, .inr (.inr (some 109))])) 6 hd0 hz (by subst hx59; rfl) ?_
                      refine zG_lald hd0 hz rfl rfl (.inl rfl) (by omega) ?_
                      obtain ⟨x60, hx60⟩ : ∃ x : Int, x = M48 109 (x59 : Int).toNat := ⟨_, rfl⟩
                      rw [← hx60]
                      show zG n (0, 0) d 235 (234, [.inr (.inr (some 97)), .inl v5, .inl x11], [.inr (.inl (x60)), .inl x51, .inr (.inr (some 109))]) M48 _
                      refine zG_blk (c' := (248, [.inr (.inr (some 97)), .inl v5, .inl x11], [.inr (.inl (x60)), .inl x51, .inr (.inr (some 109))])) 1 hd0 hz (by rfl) ?_
                      exact j248 x60
                · obtain ⟨x61, hx61⟩ : ∃ x : Int, x = w32 ((M6 97 16) - 1) := ⟨_, rfl⟩
                  have hx61r : x61 = ((M6 97 16) - 1 + 2147483648) % 4294967296 - 2147483648 := hx61
                  obtain ⟨x62, hx62⟩ : ∃ x : Int, x = w32 ((M6 97 16) - 1) := ⟨_, rfl⟩
                  have hx62r : x62 = ((M6 97 16) - 1 + 2147483648) % 4294967296 - 2147483648 := hx62
                  refine zG_blk (c' := (175, [.inr (.inr (some 97)), .inl v5, .inl x11], [.inl x62, .inr (.inr (some 109)), .inr (.inr (some 97)), .inl x61, .inr (.inr (some 109))])) 13 hd0 hz (by subst hx62; subst hx61; rfl) ?_
                  refine zG_lald hd0 hz rfl rfl (.inl rfl) (by omega) ?_
                  obtain ⟨x63, hx63⟩ : ∃ x : Int, x = M6 109 (x62 : Int).toNat := ⟨_, rfl⟩
                  rw [← hx63]
                  show zG n (0, 0) d 235 (176, [.inr (.inr (some 97)), .inl v5, .inl x11], [.inr (.inl (x63)), .inr (.inr (some 97)), .inl x61, .inr (.inr (some 109))]) M6 _
                  refine zG_call hd0 hz zp_233 rfl rfl (Nat.le_of_ble_eq_true rfl) ⟨Nat.le_refl _, Nat.le_refl _⟩ (qm_233_97 (by first | exact zdp hd (by decide) | omega) hCM6   x63 ) (fun vr M64 hr => ?_)
                  obtain ⟨hq, x65, rfl⟩ := hr
                  replace hq := hq.symm; subst hq
                  show zG n (0, 0) d 235 (179, [.inr (.inr (some 97)), .inl v5, .inl x11], [.inr (.inl (x65)), .inl x61, .inr (.inr (some 109))]) M6 _
                  refine zG_last hd0 hz rfl rfl (by omega) ?_
                  obtain ⟨M66, hM66⟩ : ∃ X : zM, X = zput M6 109 (x61 : Int).toNat x65 := ⟨_, rfl⟩
                  rw [← hM66]
                  have hCM66 : qMI M66 := by rw [hM66]; exact hCM6.put (by decide) (qCd_a (by decide) (by decide)) (by refine ⟨fun h => ?_, fun _ => ?_, fun h => ?_, fun h => ?_, fun h => ?_⟩ <;> first | exact absurd h (Bool.noConfusion ∘ Eq.trans (Eq.symm (rfl : qLJ 109 _ = true))) | omega)
                  have hWM66 : qFm [109, 1016] M M66 := by rw [hM66]; exact hWM6.pa (by decide) (by decide)
                  have e67 : M66 97 7 = M6 97 7 := by rw [hM66]; exact qput_ne (by decide)
                  have e68 : M66 97 16 = M6 97 16 := by rw [hM66]; exact qput_ne (by decide)
                  show zG n (0, 0) d 235 (180, [.inr (.inr (some 97)), .inl v5, .inl x11], []) M66 _
                  refine zG_blk (c' := (298, [.inr (.inr (some 97)), .inl v5, .inl x11], [])) 1 hd0 hz (by rfl) ?_
                  exact j298 M66 (by omega) hCM66 hWM66
              · obtain ⟨x69, hx69⟩ : ∃ x : Int, x = w32 ((M6 97 16) - 1) := ⟨_, rfl⟩
                have hx69r : x69 = ((M6 97 16) - 1 + 2147483648) % 4294967296 - 2147483648 := hx69
                obtain ⟨x70, hx70⟩ : ∃ x : Int, x = w32 ((M6 97 16) - 1) := ⟨_, rfl⟩
                have hx70r : x70 = ((M6 97 16) - 1 + 2147483648) % 4294967296 - 2147483648 := hx70
                refine zG_blk (c' := (143, [.inr (.inr (some 97)), .inl v5, .inl x11], [.inl x70, .inr (.inr (some 109)), .inl x69, .inr (.inr (some 109))])) 12 hd0 hz (by subst hx70; subst hx69; rfl) ?_
                refine zG_lald hd0 hz rfl rfl (.inl rfl) (by omega) ?_
                obtain ⟨x71, hx71⟩ : ∃ x : Int, x = M6 109 (x70 : Int).toNat := ⟨_, rfl⟩
                rw [← hx71]
                show zG n (0, 0) d 235 (144, [.inr (.inr (some 97)), .inl v5, .inl x11], [.inr (.inl (x71)), .inl x69, .inr (.inr (some 109))]) M6 _
                obtain ⟨x72, hx72⟩ : ∃ x : Int, x = w64 (-x71) := ⟨_, rfl⟩
                refine zG_blk (c' := (145, [.inr (.inr (some 97)), .inl v5, .inl x11], [.inr (.inl (x72)), .inl x69, .inr (.inr (some 109))])) 1 hd0 hz (by subst hx72; rfl) ?_
                refine zG_last hd0 hz rfl rfl (by omega) ?_
                obtain ⟨M73, hM73⟩ : ∃ X : zM, X = zput M6 109 (x69 : Int).toNat x72 := ⟨_, rfl⟩
                rw [← hM73]
                have hCM73 : qMI M73 := by rw [hM73]; exact hCM6.put (by decide) (qCd_a (by decide) (by decide)) (by refine ⟨fun h => ?_, fun _ => ?_, fun h => ?_, fun h => ?_, fun h => ?_⟩ <;> first | exact absurd h (Bool.noConfusion ∘ Eq.trans (Eq.symm (rfl : qLJ 109 _ = true))) | omega)
                have hWM73 : qFm [109, 1016] M M73 := by rw [hM73]; exact hWM6.pa (by decide) (by decide)
                have e74 : M73 97 7 = M6 97 7 := by rw [hM73]; exact qput_ne (by decide)
                have e75 : M73 97 16 = M6 97 16 := by rw [hM73]; exact qput_ne (by decide)
                show zG n (0, 0) d 235 (146, [.inr (.inr (some 97)), .inl v5, .inl x11], []) M73 _
                refine zG_blk (c' := (298, [.inr (.inr (some 97)), .inl v5, .inl x11], [])) 1 hd0 hz (by rfl) ?_
                exact j298 M73 (by omega) hCM73 hWM73
            · obtain ⟨x76, hx76⟩ : ∃ x : Int, x = w32 ((M6 97 16) - 1) := ⟨_, rfl⟩
              have hx76r : x76 = ((M6 97 16) - 1 + 2147483648) % 4294967296 - 2147483648 := hx76
              obtain ⟨x77, hx77⟩ : ∃ x : Int, x = w32 ((M6 97 16) - 1) := ⟨_, rfl⟩
              have hx77r : x77 = ((M6 97 16) - 1 + 2147483648) % 4294967296 - 2147483648 := hx77
              refine zG_blk (c' := (103, [.inr (.inr (some 97)), .inl v5, .inl x11], [.inl x77, .inr (.inr (some 109)), .inl x76, .inr (.inr (some 109))])) 12 hd0 hz (by subst hx77; subst hx76; rfl) ?_
              refine zG_lald hd0 hz rfl rfl (.inl rfl) (by omega) ?_
              obtain ⟨x78, hx78⟩ : ∃ x : Int, x = M6 109 (x77 : Int).toNat := ⟨_, rfl⟩
              rw [← hx78]
              show zG n (0, 0) d 235 (104, [.inr (.inr (some 97)), .inl v5, .inl x11], [.inr (.inl (x78)), .inl x76, .inr (.inr (some 109))]) M6 _
              refine zG_blk (c' := (105, [.inr (.inr (some 97)), .inl v5, .inl x11], [.inr (.inl (0)), .inr (.inl (x78)), .inl x76, .inr (.inr (some 109))])) 1 hd0 hz (by rfl) ?_
              have j114 : ∀ (v79 : Int) , zG n (0, 0) d 235 (114, [.inr (.inr (some 97)), .inl v5, .inl x11], [.inr (.inl (v79)), .inl x76, .inr (.inr (some 109))]) M6 (fun v M' => (qMI M' ∧ qFm [109, 1016] M M') ∧ ∃ x : Int, v = some (.inr (.inl x))) := by
                intro v79
                refine zG_last hd0 hz rfl rfl (by omega) ?_
                obtain ⟨M80, hM80⟩ : ∃ X : zM, X = zput M6 109 (x76 : Int).toNat v79 := ⟨_, rfl⟩
                rw [← hM80]
                have hCM80 : qMI M80 := by rw [hM80]; exact hCM6.put (by decide) (qCd_a (by decide) (by decide)) (by refine ⟨fun h => ?_, fun _ => ?_, fun h => ?_, fun h => ?_, fun h => ?_⟩ <;> first | exact absurd h (Bool.noConfusion ∘ Eq.trans (Eq.symm (rfl : qLJ 109 _ = true))) | omega)
                have hWM80 : qFm [109, 1016] M M80 := by rw [hM80]; exact hWM6.pa (by decide) (by decide)
                have e81 : M80 97 7 = M6 97 7 := by rw [hM80]; exact qput_ne (by decide)
                have e82 : M80 97 16 = M6 97 16 := by rw [hM80]; exact qput_ne (by decide)
                show zG n (0, 0) d 235 (115, [.inr (.inr (some 97)), .inl v5, .inl x11], []) M80 _
                refine zG_blk (c' := (298, [.inr (.inr (some 97)), .inl v5, .inl x11], [])) 1 hd0 hz (by rfl) ?_
                exact j298 M80 (by omega) hCM80 hWM80
              refine zG_lc_ne hd0 hz rfl rfl (fun hb105 => ?_) (fun hb105 => ?_)
              · refine zG_blk (c' := (114, [.inr (.inr (some 97)), .inl v5, .inl x11], [.inr (.inl (0)), .inl x76, .inr (.inr (some 109))])) 1 hd0 hz (by rfl) ?_
                exact j114 0
              · refine zG_blk (c' := (114, [.inr (.inr (some 97)), .inl v5, .inl x11], [.inr (.inl (1)), .inl x76, .inr (.inr (some 109))])) 2 hd0 hz (by rfl) ?_
                exact j114 1
          · exact j31 (by omega)
  exact j7 ((M 97 7 - 0 : Int).toNat + 1) 0 M2 (by omega) (by omega) (by omega) hCM2 hWM2
