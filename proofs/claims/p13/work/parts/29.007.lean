set_option maxRecDepth 100000 in
theorem qm_240_97 {n d : Nat} {M : zM} (hd : 7 ≤ d) (hC : qMI M)  (a1 : Int) (ha1 : 0 ≤ a1 ∧ a1 ≤ 19) (a2 : Int) (ha2 : (-2147483648) ≤ a2 ∧ a2 ≤ 2147483647) : qOkN n d 240 [.inr (.inr (some 97)), .inl a1, .inl a2] 7 [102, 103, 104, 105, 106, 107, 108, 109, 110, 1007, 1010, 1012, 1013, 1016, 1018, 1019, 1020, 1021, 1022, 1023] M (fun v M' => v = none) := by
  have hz := zp_240
  have hd0 : 0 < d := by omega
  have hW : qFm [102, 103, 104, 105, 106, 107, 108, 109, 110, 1007, 1010, 1012, 1013, 1016, 1018, 1019, 1020, 1021, 1022, 1023] M M := qFm.rfl
  have r1 := hC.cnt0
  show zG n (0, 0) d 240 (0, [.inr (.inr (some 97)), .inl a1, .inl a2, zN, zN, zN, zN], []) M _
  refine zG_blk (c' := (2, [.inr (.inr (some 97)), .inl a1, .inl a2, zN, zN, zN, zN], [.inl a1, .inr (.inr (some 97))])) 2 hd0 hz (by rfl) ?_
  refine zG_call hd0 hz zp_218 rfl rfl (Nat.le_of_ble_eq_true rfl) ⟨Nat.le_refl _, Nat.le_refl _⟩ (qm_218_97 (by first | exact zdp hd (by decide) | omega) hC   a1 (by first | with_reducible exact ha1 | omega) ) (fun vr M2 hr => ?_)
  obtain ⟨⟨hCM2, hFM2⟩, rfl⟩ := hr
  have hWM2 : qFm [102, 103, 104, 105, 106, 107, 108, 109, 110, 1007, 1010, 1012, 1013, 1016, 1018, 1019, 1020, 1021, 1022, 1023] M M2 := hW.tr hFM2 (by decide)
  have e4 : M2 98 0 = M 98 0 := hFM2 98 0 (by decide)
  show zG n (0, 0) d 240 (5, [.inr (.inr (some 97)), .inl a1, .inl a2, zN, zN, zN, zN], []) M2 _
  refine zG_blk (c' := (7, [.inr (.inr (some 97)), .inl a1, .inl a2, zN, zN, zN, zN], [.inl 0, .inr (.inr (some 97))])) 2 hd0 hz (by rfl) ?_
  refine zG_putf (.inl rfl) hd0 hz rfl (by decide) rfl rfl ?_
  obtain ⟨M5, hM5⟩ : ∃ X : zM, X = zput M2 97 19 0 := ⟨_, rfl⟩
  rw [← hM5]
  have hCM5 : qMI M5 := by rw [hM5]; exact hCM2.put (by decide) (by decide) (by refine ⟨fun _ => ?_, fun _ => ?_, fun h => ⟨fun _ => ?_, fun _ => ?_, fun _ => ?_, fun _ => ?_, fun _ => ?_⟩, fun h => ?_, fun h => ?_⟩ <;> first | omega | exact absurd rfl (by assumption) | (rename_i h9; exact absurd h9 (by decide)))
  have hWM5 : qFm [102, 103, 104, 105, 106, 107, 108, 109, 110, 1007, 1010, 1012, 1013, 1016, 1018, 1019, 1020, 1021, 1022, 1023] M M5 := by rw [hM5]; exact hWM2.put (by decide)
  have e6 : M5 98 0 = M2 98 0 := by rw [hM5]; exact qput_ne (by decide)
  have e7 : M5 97 19 = 0 := by rw [hM5]; exact qput_eq
  show zG n (0, 0) d 240 (10, [.inr (.inr (some 97)), .inl a1, .inl a2, zN, zN, zN, zN], []) M5 _
  refine zG_blk (c' := (12, [.inr (.inr (some 97)), .inl a1, .inl a2, zN, zN, zN, zN], [.inl 0, .inr (.inr (some 97))])) 2 hd0 hz (by rfl) ?_
  refine zG_putf (.inl rfl) hd0 hz rfl (by decide) rfl rfl ?_
  obtain ⟨M8, hM8⟩ : ∃ X : zM, X = zput M5 97 21 0 := ⟨_, rfl⟩
  rw [← hM8]
  have hCM8 : qMI M8 := by rw [hM8]; exact hCM5.put (by decide) (by decide) (by refine ⟨fun _ => ?_, fun _ => ?_, fun h => ⟨fun _ => ?_, fun _ => ?_, fun _ => ?_, fun _ => ?_, fun _ => ?_⟩, fun h => ?_, fun h => ?_⟩ <;> first | omega | exact absurd rfl (by assumption) | (rename_i h9; exact absurd h9 (by decide)))
  have hWM8 : qFm [102, 103, 104, 105, 106, 107, 108, 109, 110, 1007, 1010, 1012, 1013, 1016, 1018, 1019, 1020, 1021, 1022, 1023] M M8 := by rw [hM8]; exact hWM5.put (by decide)
  have e9 : M8 98 0 = M5 98 0 := by rw [hM8]; exact qput_ne (by decide)
  have e10 : M8 97 19 = M5 97 19 := by rw [hM8]; exact qput_nk (by decide)
  have e11 : M8 97 21 = 0 := by rw [hM8]; exact qput_eq
  show zG n (0, 0) d 240 (15, [.inr (.inr (some 97)), .inl a1, .inl a2, zN, zN, zN, zN], []) M8 _
  refine zG_blk (c' := (18, [.inr (.inr (some 97)), .inl a1, .inl a2, zN, zN, zN, zN], [.inl a2, .inl a1, .inr (.inr (some 97))])) 3 hd0 hz (by rfl) ?_
  refine zG_call hd0 hz zp_237 rfl rfl (Nat.le_of_ble_eq_true rfl) ⟨Nat.le_refl _, Nat.le_refl _⟩ (qm_237_97 (by first | exact zdp hd (by decide) | omega) hCM8   a1 (by first | with_reducible exact ha1 | omega) a2 (by first | with_reducible exact ha2 | omega) ) (fun vr M12 hr => ?_)
  obtain ⟨hq, x13, rfl, hx13⟩ := hr
  replace hq := hq.symm; subst hq
  show zG n (0, 0) d 240 (21, [.inr (.inr (some 97)), .inl a1, .inl a2, zN, zN, zN, zN], [.inl x13]) M8 _
  refine zG_blk (c' := (24, [.inr (.inr (some 97)), .inl a1, .inl a2, .inl x13, zN, zN, zN], [.inl (-1), .inl x13])) 3 hd0 hz (by rfl) ?_
  have j41 : ∀ (M14 : zM) , qMI M14 → qFm [102, 103, 104, 105, 106, 107, 108, 109, 110, 1007, 1010, 1012, 1013, 1016, 1018, 1019, 1020, 1021, 1022, 1023] M M14 → zG n (0, 0) d 240 (41, [.inr (.inr (some 97)), .inl a1, .inl a2, .inl x13, zN, zN, zN], []) M14 (fun v M' => (qMI M' ∧ qFm [102, 103, 104, 105, 106, 107, 108, 109, 110, 1007, 1010, 1012, 1013, 1016, 1018, 1019, 1020, 1021, 1022, 1023] M M') ∧ v = none) := by
    intro M14 hCM14 hWM14
    have e15 : M14 98 0 = M 98 0 := hWM14 98 0 (by decide)
    refine zG_blk (c' := (44, [.inr (.inr (some 97)), .inl a1, .inl a2, .inl x13, .inl 0, zN, zN], [])) 2 hd0 hz (by rfl) ?_
    have j44 : ∀ (N : Nat) (v16 : Int) (M17 : zM) , (14 - v16 : Int).toNat < N → 0 ≤ v16 ∧ v16 ≤ 14 → qMI M17 → qFm [102, 103, 104, 105, 106, 107, 108, 109, 110, 1007, 1010, 1012, 1013, 1016, 1018, 1019, 1020, 1021, 1022, 1023] M M17 → zG n (0, 0) d 240 (44, [.inr (.inr (some 97)), .inl a1, .inl a2, .inl x13, .inl v16, zN, zN], []) M17 (fun v M' => (qMI M' ∧ qFm [102, 103, 104, 105, 106, 107, 108, 109, 110, 1007, 1010, 1012, 1013, 1016, 1018, 1019, 1020, 1021, 1022, 1023] M M') ∧ v = none) := by
      intro N
      induction N with
      | zero => intro v16 M17 hN hv16 hCM17 hWM17; exact absurd hN (Nat.not_lt_zero _)
      | succ N ih44 =>
        intro v16 M17 hN hv16 hCM17 hWM17
        have e18 : M17 98 0 = M 98 0 := hWM17 98 0 (by decide)
        refine zG_blk (c' := (51, [.inr (.inr (some 97)), .inl a1, .inl a2, .inl x13, .inl v16, zN, zN], [.inl 0, .inr (.inr (some 98)), .inl v16])) 4 hd0 hz (by rfl) ?_
        refine zG_iald hd0 hz rfl rfl (.inl rfl) (by omega) ?_
        show zG n (0, 0) d 240 (52, [.inr (.inr (some 97)), .inl a1, .inl a2, .inl x13, .inl v16, zN, zN], [.inl (M17 98 0), .inl v16]) M17 _
        refine zG_icmp_ge hd0 hz rfl (fun hb19 => ?_) (fun hb19 => ?_)
        · refine zG_blk (c' := (143, [.inr (.inr (some 97)), .inl a1, .inl a2, .inl x13, .inl v16, zN, zN], [.inr (.inl (0)), .inr (.inr (some 97))])) 2 hd0 hz (by rfl) ?_
          refine zG_putj hd0 hz rfl (by decide) rfl rfl ?_
          obtain ⟨M20, hM20⟩ : ∃ X : zM, X = zput M17 97 22 0 := ⟨_, rfl⟩
          rw [← hM20]
          have hCM20 : qMI M20 := by rw [hM20]; exact hCM17.put (by decide) (by decide) (by refine ⟨fun _ => ?_, fun _ => ?_, fun h => ⟨fun _ => ?_, fun _ => ?_, fun _ => ?_, fun _ => ?_, fun _ => ?_⟩, fun h => ?_, fun h => ?_⟩ <;> first | omega | exact absurd rfl (by assumption) | (rename_i h9; exact absurd h9 (by decide)))
          have hWM20 : qFm [102, 103, 104, 105, 106, 107, 108, 109, 110, 1007, 1010, 1012, 1013, 1016, 1018, 1019, 1020, 1021, 1022, 1023] M M20 := by rw [hM20]; exact hWM17.put (by decide)
          have e21 : M20 98 0 = M17 98 0 := by rw [hM20]; exact qput_ne (by decide)
          show zG n (0, 0) d 240 (146, [.inr (.inr (some 97)), .inl a1, .inl a2, .inl x13, .inl v16, zN, zN], []) M20 _
          refine zG_blk (c' := (148, [.inr (.inr (some 97)), .inl a1, .inl a2, .inl x13, .inl v16, zN, zN], [.inr (.inl (0)), .inr (.inr (some 97))])) 2 hd0 hz (by rfl) ?_
          refine zG_putj hd0 hz rfl (by decide) rfl rfl ?_
          obtain ⟨M22, hM22⟩ : ∃ X : zM, X = zput M20 97 23 0 := ⟨_, rfl⟩
          rw [← hM22]
          have hCM22 : qMI M22 := by rw [hM22]; exact hCM20.put (by decide) (by decide) (by refine ⟨fun _ => ?_, fun _ => ?_, fun h => ⟨fun _ => ?_, fun _ => ?_, fun _ => ?_, fun _ => ?_, fun _ => ?_⟩, fun h => ?_, fun h => ?_⟩ <;> first | omega | exact absurd rfl (by assumption) | (rename_i h9; exact absurd h9 (by decide)))
          have hWM22 : qFm [102, 103, 104, 105, 106, 107, 108, 109, 110, 1007, 1010, 1012, 1013, 1016, 1018, 1019, 1020, 1021, 1022, 1023] M M22 := by rw [hM22]; exact hWM20.put (by decide)
          have e23 : M22 98 0 = M20 98 0 := by rw [hM22]; exact qput_ne (by decide)
          show zG n (0, 0) d 240 (151, [.inr (.inr (some 97)), .inl a1, .inl a2, .inl x13, .inl v16, zN, zN], []) M22 _
          refine zG_blk (c' := (153, [.inr (.inr (some 97)), .inl a1, .inl a2, .inl x13, .inl v16, zN, zN], [.inl 0, .inr (.inr (some 97))])) 2 hd0 hz (by rfl) ?_
          refine zG_putf (.inl rfl) hd0 hz rfl (by decide) rfl rfl ?_
          obtain ⟨M24, hM24⟩ : ∃ X : zM, X = zput M22 97 18 0 := ⟨_, rfl⟩
          rw [← hM24]
          have hCM24 : qMI M24 := by rw [hM24]; exact hCM22.put (by decide) (by decide) (by refine ⟨fun _ => ?_, fun _ => ?_, fun h => ⟨fun _ => ?_, fun _ => ?_, fun _ => ?_, fun _ => ?_, fun _ => ?_⟩, fun h => ?_, fun h => ?_⟩ <;> first | omega | exact absurd rfl (by assumption) | (rename_i h9; exact absurd h9 (by decide)))
          have hWM24 : qFm [102, 103, 104, 105, 106, 107, 108, 109, 110, 1007, 1010, 1012, 1013, 1016, 1018, 1019, 1020, 1021, 1022, 1023] M M24 := by rw [hM24]; exact hWM22.put (by decide)
          have e25 : M24 98 0 = M22 98 0 := by rw [hM24]; exact qput_ne (by decide)
          have e26 : M24 97 18 = 0 := by rw [hM24]; exact qput_eq
          show zG n (0, 0) d 240 (156, [.inr (.inr (some 97)), .inl a1, .inl a2, .inl x13, .inl v16, zN, zN], []) M24 _
          refine zG_blk (c' := (159, [.inr (.inr (some 97)), .inl a1, .inl a2, .inl x13, .inl 0, zN, zN], [])) 2 hd0 hz (by rfl) ?_
          have j159 : ∀ (N : Nat) (v27 : Int) (M28 : zM) , (14 - v27 : Int).toNat < N → 0 ≤ v27 ∧ v27 ≤ 14 → (M28 97 18 ≤ v27) → qMI M28 → qFm [102, 103, 104, 105, 106, 107, 108, 109, 110, 1007, 1010, 1012, 1013, 1016, 1018, 1019, 1020, 1021, 1022, 1023] M M28 → zG n (0, 0) d 240 (159, [.inr (.inr (some 97)), .inl a1, .inl a2, .inl x13, .inl v27, zN, zN], []) M28 (fun v M' => (qMI M' ∧ qFm [102, 103, 104, 105, 106, 107, 108, 109, 110, 1007, 1010, 1012, 1013, 1016, 1018, 1019, 1020, 1021, 1022, 1023] M M') ∧ v = none) := by
            intro N
            induction N with
            | zero => intro v27 M28 hN hv27 hx0_159 hCM28 hWM28; exact absurd hN (Nat.not_lt_zero _)
            | succ N ih159 =>
              intro v27 M28 hN hv27 hx0_159 hCM28 hWM28
              have e29 : M28 98 0 = M 98 0 := hWM28 98 0 (by decide)
              have r30 := hCM28.f18
              refine zG_blk (c' := (166, [.inr (.inr (some 97)), .inl a1, .inl a2, .inl x13, .inl v27, zN, zN], [.inl 0, .inr (.inr (some 98)), .inl v27])) 4 hd0 hz (by rfl) ?_
              refine zG_iald hd0 hz rfl rfl (.inl rfl) (by omega) ?_
              show zG n (0, 0) d 240 (167, [.inr (.inr (some 97)), .inl a1, .inl a2, .inl x13, .inl v27, zN, zN], [.inl (M28 98 0), .inl v27]) M28 _
              refine zG_icmp_ge hd0 hz rfl (fun hb31 => ?_) (fun hb31 => ?_)
              · refine zG_blk (c' := (332, [.inr (.inr (some 97)), .inl a1, .inl a2, .inl x13, .inl v27, zN, zN], [.inr (.inl (0)), .inr (.inl (M28 97 22)), .inr (.inr (some 97))])) 4 hd0 hz (by rfl) ?_
                have j353 : ∀ (v32 : Int) , zG n (0, 0) d 240 (353, [.inr (.inr (some 97)), .inl a1, .inl a2, .inl x13, .inl v27, zN, zN], [.inr (.inl (v32)), .inr (.inr (some 97))]) M28 (fun v M' => (qMI M' ∧ qFm [102, 103, 104, 105, 106, 107, 108, 109, 110, 1007, 1010, 1012, 1013, 1016, 1018, 1019, 1020, 1021, 1022, 1023] M M') ∧ v = none) := by
                  intro v32
                  refine zG_putj hd0 hz rfl (by decide) rfl rfl ?_
                  obtain ⟨M33, hM33⟩ : ∃ X : zM, X = zput M28 97 23 v32 := ⟨_, rfl⟩
                  rw [← hM33]
                  have hCM33 : qMI M33 := by rw [hM33]; exact hCM28.put (by decide) (by decide) (by refine ⟨fun _ => ?_, fun _ => ?_, fun h => ⟨fun _ => ?_, fun _ => ?_, fun _ => ?_, fun _ => ?_, fun _ => ?_⟩, fun h => ?_, fun h => ?_⟩ <;> first | omega | exact absurd rfl (by assumption) | (rename_i h9; exact absurd h9 (by decide)))
                  have hWM33 : qFm [102, 103, 104, 105, 106, 107, 108, 109, 110, 1007, 1010, 1012, 1013, 1016, 1018, 1019, 1020, 1021, 1022, 1023] M M33 := by rw [hM33]; exact hWM28.put (by decide)
                  have e34 : M33 98 0 = M28 98 0 := by rw [hM33]; exact qput_ne (by decide)
                  have e35 : M33 97 18 = M28 97 18 := by rw [hM33]; exact qput_nk (by decide)
                  show zG n (0, 0) d 240 (356, [.inr (.inr (some 97)), .inl a1, .inl a2, .inl x13, .inl v27, zN, zN], []) M33 _
                  exact zG_ret hd0 hz rfl rfl ⟨⟨hCM33, hWM33⟩, rfl⟩
                refine zG_lc_ne hd0 hz rfl rfl (fun hb332 => ?_) (fun hb332 => ?_)
                · obtain ⟨x36, hx36⟩ : ∃ x : Int, x = w64 ((M28 97 23) * 100) := ⟨_, rfl⟩
                  refine zG_blk (c' := (352, [.inr (.inr (some 97)), .inl a1, .inl a2, .inl x13, .inl v27, zN, zN], [.inr (.inl (M28 97 22)), .inr (.inl (x36)), .inr (.inr (some 97))])) 6 hd0 hz (by subst hx36; rfl) ?_
                  refine zG_ldiv hd0 hz rfl (by omega) ?_
                  generalize w64 (x36.tdiv (M28 97 22)) = x37
                  show zG n (0, 0) d 240 (353, [.inr (.inr (some 97)), .inl a1, .inl a2, .inl x13, .inl v27, zN, zN], [.inr (.inl (x37)), .inr (.inr (some 97))]) M28 _
                  exact j353 x37
                · refine zG_blk (c' := (353, [.inr (.inr (some 97)), .inl a1, .inl a2, .inl x13, .inl v27, zN, zN], [.inr (.inl (0)), .inr (.inr (some 97))])) 2 hd0 hz (by rfl) ?_
                  exact j353 0
              · have r38 := hCM28.rg 97 21 (by decide) (by decide)
                obtain ⟨x39, hx39⟩ : ∃ x : Int, x = zbshr (M28 97 21) v27 := ⟨_, rfl⟩
                have hx39r : qin x39 := by rw [hx39]; exact qb32 _
                obtain ⟨x40, hx40⟩ : ∃ x : Int, x = zband x39 1 := ⟨_, rfl⟩
                have hx40r := qband_r x39 1 (by first | decide | omega) (by omega); rw [← hx40] at hx40r
                have hx40l : 0 ≤ x39 → x40 ≤ x39 := fun h9 => by rw [hx40]; exact (qband_l x39 1 ⟨h9, by omega⟩ (by omega)).2
                refine zG_blk (c' := (180, [.inr (.inr (some 97)), .inl a1, .inl a2, .inl x13, .inl v27, zN, zN], [.inl 1, .inl x40])) 7 hd0 hz (by subst hx40; subst hx39; rfl) ?_
                have j320 : ∀ (M41 : zM) , (M41 97 18 ≤ v27 + 1) → qMI M41 → qFm [102, 103, 104, 105, 106, 107, 108, 109, 110, 1007, 1010, 1012, 1013, 1016, 1018, 1019, 1020, 1021, 1022, 1023] M M41 → zG n (0, 0) d 240 (320, [.inr (.inr (some 97)), .inl a1, .inl a2, .inl x13, .inl v27, zN, zN], []) M41 (fun v M' => (qMI M' ∧ qFm [102, 103, 104, 105, 106, 107, 108, 109, 110, 1007, 1010, 1012, 1013, 1016, 1018, 1019, 1020, 1021, 1022, 1023] M M') ∧ v = none) := by
                  intro M41 hx0_320 hCM41 hWM41
                  have e42 : M41 98 0 = M 98 0 := hWM41 98 0 (by decide)
                  have r43 := hCM41.f18
                  obtain ⟨x44, hx44⟩ : ∃ x : Int, x = w32 (v27 + 1) := ⟨_, rfl⟩
                  have hx44e : x44 = v27 + 1 := by rw [hx44]; exact w32_id (by omega)
                  refine zG_blk (c' := (159, [.inr (.inr (some 97)), .inl a1, .inl a2, .inl x13, .inl x44, zN, zN], [])) 2 hd0 hz (by subst hx44; rfl) ?_
                  exact ih159 x44 M41 (by omega) (by omega) (by omega) hCM41 hWM41
                refine zG_icmp_ne hd0 hz rfl (fun hb45 => ?_) (fun hb45 => ?_)
                · exact j320 M28 (by omega) hCM28 hWM28
                · refine zG_blk (c' := (189, [.inr (.inr (some 97)), .inl a1, .inl a2, .inl x13, .inl v27, zN, zN], [.inl v27, .inr (.inr (some 102))])) 3 hd0 hz (by rfl) ?_
                  refine zG_iald hd0 hz rfl rfl (.inl rfl) (by omega) ?_
                  obtain ⟨x46, hx46⟩ : ∃ x : Int, x = M28 102 (v27 : Int).toNat := ⟨_, rfl⟩
                  rw [← hx46]
                  have hx46r : qin x46 := by rw [hx46]; exact hCM28.ra 102 _ (by decide) (by decide)
                  show zG n (0, 0) d 240 (190, [.inr (.inr (some 97)), .inl a1, .inl a2, .inl x13, .inl v27, zN, zN], [.inl x46]) M28 _
                  have j204 : ∀ (v47 : Int) , (-2147483648) ≤ v47 ∧ v47 ≤ 2147483647 → zG n (0, 0) d 240 (204, [.inr (.inr (some 97)), .inl a1, .inl a2, .inl x13, .inl v27, zN, zN], [.inl v47]) M28 (fun v M' => (qMI M' ∧ qFm [102, 103, 104, 105, 106, 107, 108, 109, 110, 1007, 1010, 1012, 1013, 1016, 1018, 1019, 1020, 1021, 1022, 1023] M M') ∧ v = none) := by
                    intro v47 hv47
                    obtain ⟨x48, hx48⟩ : ∃ x : Int, x = w32 (4 * v27) := ⟨_, rfl⟩
                    have hx48e : x48 = 4 * v27 := by rw [hx48]; exact w32_id (by omega)
                    obtain ⟨x49, hx49⟩ : ∃ x : Int, x = w32 (20 + x48) := ⟨_, rfl⟩
                    have hx49e : x49 = 20 + x48 := by rw [hx49]; exact w32_id (by omega)
                    refine zG_blk (c' := (222, [.inr (.inr (some 97)), .inl a1, .inl a2, .inl x13, .inl v27, .inl v47, zN], [.inl x49, .inr (.inr (some 98)), .inr (.inl (M28 97 22)), .inr (.inr (some 97))])) 11 hd0 hz (by subst hx49; subst hx48; rfl) ?_
                    refine zG_iald hd0 hz rfl rfl (.inl rfl) (by omega) ?_
                    obtain ⟨x50, hx50⟩ : ∃ x : Int, x = M28 98 (x49 : Int).toNat := ⟨_, rfl⟩
                    rw [← hx50]
                    have hx50r : qin x50 := by rw [hx50]; exact hCM28.sin _
                    show zG n (0, 0) d 240 (223, [.inr (.inr (some 97)), .inl a1, .inl a2, .inl x13, .inl v27, .inl v47, zN], [.inl x50, .inr (.inl (M28 97 22)), .inr (.inr (some 97))]) M28 _
                    obtain ⟨x51, hx51⟩ : ∃ x : Int, x = w64 ((M28 97 22) + x50) := ⟨_, rfl⟩
                    refine zG_blk (c' := (225, [.inr (.inr (some 97)), .inl a1, .inl a2, .inl x13, .inl v27, .inl v47, zN], [.inr (.inl (x51)), .inr (.inr (some 97))])) 2 hd0 hz (by subst hx51; rfl) ?_
                    refine zG_putj hd0 hz rfl (by decide) rfl rfl ?_
                    obtain ⟨M52, hM52⟩ : ∃ X : zM, X = zput M28 97 22 x51 := ⟨_, rfl⟩
                    rw [← hM52]
                    have hCM52 : qMI M52 := by rw [hM52]; exact hCM28.put (by decide) (by decide) (by refine ⟨fun _ => ?_, fun _ => ?_, fun h => ⟨fun _ => ?_, fun _ => ?_, fun _ => ?_, fun _ => ?_, fun _ => ?_⟩, fun h => ?_, fun h => ?_⟩ <;> first | omega | exact absurd rfl (by assumption) | (rename_i h9; exact absurd h9 (by decide)))
                    have hWM52 : qFm [102, 103, 104, 105, 106, 107, 108, 109, 110, 1007, 1010, 1012, 1013, 1016, 1018, 1019, 1020, 1021, 1022, 1023] M M52 := by rw [hM52]; exact hWM28.put (by decide)
                    have e53 : M52 98 0 = M28 98 0 := by rw [hM52]; exact qput_ne (by decide)
                    have e54 : M52 97 18 = M28 97 18 := by rw [hM52]; exact qput_nk (by decide)
                    have e55 : M52 97 21 = M28 97 21 := by rw [hM52]; exact qput_nk (by decide)
                    show zG n (0, 0) d 240 (228, [.inr (.inr (some 97)), .inl a1, .inl a2, .inl x13, .inl v27, .inl v47, zN], []) M52 _
                    obtain ⟨x56, hx56⟩ : ∃ x : Int, x = w32 (4 * v27) := ⟨_, rfl⟩
                    have hx56e : x56 = 4 * v27 := by rw [hx56]; exact w32_id (by omega)
                    obtain ⟨x57, hx57⟩ : ∃ x : Int, x = w32 (20 + x56) := ⟨_, rfl⟩
                    have hx57e : x57 = 20 + x56 := by rw [hx57]; exact w32_id (by omega)
                    refine zG_blk (c' := (247, [.inr (.inr (some 97)), .inl a1, .inl a2, .inl x13, .inl v27, .inl v47, zN], [.inl x57, .inr (.inr (some 98)), .inr (.inl (v47)), .inr (.inl (M52 97 23)), .inr (.inr (some 97))])) 12 hd0 hz (by subst hx57; subst hx56; rfl) ?_
                    refine zG_iald hd0 hz rfl rfl (.inl rfl) (by omega) ?_
                    obtain ⟨x58, hx58⟩ : ∃ x : Int, x = M52 98 (x57 : Int).toNat := ⟨_, rfl⟩
                    rw [← hx58]
                    have hx58r : qin x58 := by rw [hx58]; exact hCM52.sin _
                    show zG n (0, 0) d 240 (248, [.inr (.inr (some 97)), .inl a1, .inl a2, .inl x13, .inl v27, .inl v47, zN], [.inl x58, .inr (.inl (v47)), .inr (.inl (M52 97 23)), .inr (.inr (some 97))]) M52 _
                    obtain ⟨x59, hx59⟩ : ∃ x : Int, x = w64 (v47 * x58) := ⟨_, rfl⟩
                    obtain ⟨x60, hx60⟩ : ∃ x : Int, x = w64 ((M52 97 23) + x59) := ⟨_, rfl⟩
                    refine zG_blk (c' := (251, [.inr (.inr (some 97)), .inl a1, .inl a2, .inl x13, .inl v27, .inl v47, zN], [.inr (.inl (x60)), .inr (.inr (some 97))])) 3 hd0 hz (by subst hx60; subst hx59; rfl) ?_
                    refine zG_putj hd0 hz rfl (by decide) rfl rfl ?_
                    obtain ⟨M61, hM61⟩ : ∃ X : zM, X = zput M52 97 23 x60 := ⟨_, rfl⟩
                    rw [← hM61]
                    have hCM61 : qMI M61 := by rw [hM61]; exact hCM52.put (by decide) (by decide) (by refine ⟨fun _ => ?_, fun _ => ?_, fun h => ⟨fun _ => ?_, fun _ => ?_, fun _ => ?_, fun _ => ?_, fun _ => ?_⟩, fun h => ?_, fun h => ?_⟩ <;> first | omega | exact absurd rfl (by assumption) | (rename_i h9; exact absurd h9 (by decide)))
                    have hWM61 : qFm [102, 103, 104, 105, 106, 107, 108, 109, 110, 1007, 1010, 1012, 1013, 1016, 1018, 1019, 1020, 1021, 1022, 1023] M M61 := by rw [hM61]; exact hWM52.put (by decide)
                    have e62 : M61 98 0 = M52 98 0 := by rw [hM61]; exact qput_ne (by decide)
                    have e63 : M61 97 18 = M52 97 18 := by rw [hM61]; exact qput_nk (by decide)
                    have e64 : M61 97 21 = M52 97 21 := by rw [hM61]; exact qput_nk (by decide)
                    show zG n (0, 0) d 240 (254, [.inr (.inr (some 97)), .inl a1, .inl a2, .inl x13, .inl v27, .inl v47, zN], []) M61 _
                    refine zG_blk (c' := (260, [.inr (.inr (some 97)), .inl a1, .inl a2, .inl x13, .inl v27, .inl v47, .inl (M61 97 18)], [])) 3 hd0 hz (by rfl) ?_
                    have j260 : ∀ (N : Nat) (v65 : Int) (M66 : zM) , (v65 : Int).toNat < N → 0 ≤ v65 ∧ v65 ≤ 14 → (v65 ≤ v27) → (M66 97 18 ≤ v27) → qMI M66 → qFm [102, 103, 104, 105, 106, 107, 108, 109, 110, 1007, 1010, 1012, 1013, 1016, 1018, 1019, 1020, 1021, 1022, 1023] M M66 → zG n (0, 0) d 240 (260, [.inr (.inr (some 97)), .inl a1, .inl a2, .inl x13, .inl v27, .inl v47, .inl v65], []) M66 (fun v M' => (qMI M' ∧ qFm [102, 103, 104, 105, 106, 107, 108, 109, 110, 1007, 1010, 1012, 1013, 1016, 1018, 1019, 1020, 1021, 1022, 1023] M M') ∧ v = none) := by
                      intro N
                      induction N with
                      | zero => intro v65 M66 hN hv65 hx0_260 hx1_260 hCM66 hWM66; exact absurd hN (Nat.not_lt_zero _)
                      | succ N ih260 =>
                        intro v65 M66 hN hv65 hx0_260 hx1_260 hCM66 hWM66
                        have e67 : M66 98 0 = M 98 0 := hWM66 98 0 (by decide)
                        have r68 := hCM66.f18
                        refine zG_blk (c' := (262, [.inr (.inr (some 97)), .inl a1, .inl a2, .inl x13, .inl v27, .inl v47, .inl v65], [.inl v65])) 1 hd0 hz (by rfl) ?_
                        have j301 : (v65 ≤ v27) → (M66 97 18 ≤ v27) → zG n (0, 0) d 240 (301, [.inr (.inr (some 97)), .inl a1, .inl a2, .inl x13, .inl v27, .inl v47, .inl v65], []) M66 (fun v M' => (qMI M' ∧ qFm [102, 103, 104, 105, 106, 107, 108, 109, 110, 1007, 1010, 1012, 1013, 1016, 1018, 1019, 1020, 1021, 1022, 1023] M M') ∧ v = none) := by
                          intro hx0_301 hx1_301
                          refine zG_blk (c' := (309, [.inr (.inr (some 97)), .inl a1, .inl a2, .inl x13, .inl v27, .inl v47, .inl v65], [.inl v47, .inl v65, .inr (.inr (some 110))])) 4 hd0 hz (by rfl) ?_
                          refine zG_iast hd0 hz rfl rfl (by omega) ?_
                          obtain ⟨M69, hM69⟩ : ∃ X : zM, X = zput M66 110 (v65 : Int).toNat v47 := ⟨_, rfl⟩
                          rw [← hM69]
                          have hCM69 : qMI M69 := by rw [hM69]; exact hCM66.put (by decide) (qCd_a (by decide) (by decide)) (by refine ⟨fun h => ?_, fun _ => ?_, fun h => ?_, fun h => ?_, fun h => ?_⟩ <;> first | omega | exact absurd h (by decide))
                          have hWM69 : qFm [102, 103, 104, 105, 106, 107, 108, 109, 110, 1007, 1010, 1012, 1013, 1016, 1018, 1019, 1020, 1021, 1022, 1023] M M69 := by rw [hM69]; exact hWM66.pa (by decide) (by decide)
                          have e70 : M69 98 0 = M66 98 0 := by rw [hM69]; exact qput_ne (by decide)
                          have e71 : M69 97 18 = M66 97 18 := by rw [hM69]; exact qput_ne (by decide)
                          show zG n (0, 0) d 240 (310, [.inr (.inr (some 97)), .inl a1, .inl a2, .inl x13, .inl v27, .inl v47, .inl v65], []) M69 _
                          obtain ⟨x72, hx72⟩ : ∃ x : Int, x = w32 ((M69 97 18) + 1) := ⟨_, rfl⟩
                          have hx72e : x72 = (M69 97 18) + 1 := by rw [hx72]; exact w32_id (by omega)
                          refine zG_blk (c' := (317, [.inr (.inr (some 97)), .inl a1, .inl a2, .inl x13, .inl v27, .inl v47, .inl v65], [.inl x72, .inr (.inr (some 97))])) 5 hd0 hz (by subst hx72; rfl) ?_
                          refine zG_putf (.inl rfl) hd0 hz rfl (by decide) rfl rfl ?_
                          obtain ⟨M73, hM73⟩ : ∃ X : zM, X = zput M69 97 18 x72 := ⟨_, rfl⟩
                          rw [← hM73]
                          have hCM73 : qMI M73 := by rw [hM73]; exact hCM69.put (by decide) (by decide) (by refine ⟨fun _ => ?_, fun _ => ?_, fun h => ⟨fun _ => ?_, fun _ => ?_, fun _ => ?_, fun _ => ?_, fun _ => ?_⟩, fun h => ?_, fun h => ?_⟩ <;> first | omega | exact absurd rfl (by assumption) | (rename_i h9; exact absurd h9 (by decide)))
                          have hWM73 : qFm [102, 103, 104, 105, 106, 107, 108, 109, 110, 1007, 1010, 1012, 1013, 1016, 1018, 1019, 1020, 1021, 1022, 1023] M M73 := by rw [hM73]; exact hWM69.put (by decide)
                          have e74 : M73 98 0 = M69 98 0 := by rw [hM73]; exact qput_ne (by decide)
                          have e75 : M73 97 18 = x72 := by rw [hM73]; exact qput_eq
                          show zG n (0, 0) d 240 (320, [.inr (.inr (some 97)), .inl a1, .inl a2, .inl x13, .inl v27, .inl v47, .inl v65], []) M73 _
                          exact zG_weak (j320 M73 (by omega) hCM73 hWM73) ⟨.inr rfl, .inr rfl, .inr rfl, .inr rfl, .inr rfl, .inl rfl, .inl rfl, trivial⟩
                        refine zG_if_le hd0 hz rfl (fun hb76 => ?_) (fun hb76 => ?_)
                        · exact j301 (by omega) (by omega)
                        · obtain ⟨x77, hx77⟩ : ∃ x : Int, x = w32 (v65 - 1) := ⟨_, rfl⟩
                          have hx77e : x77 = v65 - 1 := by rw [hx77]; exact w32_id (by omega)
                          refine zG_blk (c' := (273, [.inr (.inr (some 97)), .inl a1, .inl a2, .inl x13, .inl v27, .inl v47, .inl v65], [.inl x77, .inr (.inr (some 110))])) 5 hd0 hz (by subst hx77; rfl) ?_
                          refine zG_iald hd0 hz rfl rfl (.inl rfl) (by omega) ?_
                          obtain ⟨x78, hx78⟩ : ∃ x : Int, x = M66 110 (x77 : Int).toNat := ⟨_, rfl⟩
                          rw [← hx78]
                          have hx78r : qin x78 := by rw [hx78]; exact hCM66.ra 110 _ (by decide) (by decide)
                          show zG n (0, 0) d 240 (274, [.inr (.inr (some 97)), .inl a1, .inl a2, .inl x13, .inl v27, .inl v47, .inl v65], [.inl x78]) M66 _
                          refine zG_blk (c' := (276, [.inr (.inr (some 97)), .inl a1, .inl a2, .inl x13, .inl v27, .inl v47, .inl v65], [.inl v47, .inl x78])) 1 hd0 hz (by rfl) ?_
                          refine zG_icmp_ge hd0 hz rfl (fun hb79 => ?_) (fun hb79 => ?_)
                          · exact j301 (by omega) (by omega)
                          · obtain ⟨x80, hx80⟩ : ∃ x : Int, x = w32 (v65 - 1) := ⟨_, rfl⟩
                            have hx80e : x80 = v65 - 1 := by rw [hx80]; exact w32_id (by omega)
                            refine zG_blk (c' := (293, [.inr (.inr (some 97)), .inl a1, .inl a2, .inl x13, .inl v27, .inl v47, .inl v65], [.inl x80, .inr (.inr (some 110)), .inl v65, .inr (.inr (some 110))])) 8 hd0 hz (by subst hx80; rfl) ?_
                            refine zG_iald hd0 hz rfl rfl (.inl rfl) (by omega) ?_
                            obtain ⟨x81, hx81⟩ : ∃ x : Int, x = M66 110 (x80 : Int).toNat := ⟨_, rfl⟩
                            rw [← hx81]
                            have hx81r : qin x81 := by rw [hx81]; exact hCM66.ra 110 _ (by decide) (by decide)
                            show zG n (0, 0) d 240 (294, [.inr (.inr (some 97)), .inl a1, .inl a2, .inl x13, .inl v27, .inl v47, .inl v65], [.inl x81, .inl v65, .inr (.inr (some 110))]) M66 _
                            refine zG_iast hd0 hz rfl rfl (by omega) ?_
                            obtain ⟨M82, hM82⟩ : ∃ X : zM, X = zput M66 110 (v65 : Int).toNat x81 := ⟨_, rfl⟩
                            rw [← hM82]
                            have hCM82 : qMI M82 := by rw [hM82]; exact hCM66.put (by decide) (qCd_a (by decide) (by decide)) (by refine ⟨fun h => ?_, fun _ => ?_, fun h => ?_, fun h => ?_, fun h => ?_⟩ <;> first | omega | exact absurd h (by decide))
                            have hWM82 : qFm [102, 103, 104, 105, 106, 107, 108, 109, 110, 1007, 1010, 1012, 1013, 1016, 1018, 1019, 1020, 1021, 1022, 1023] M M82 := by rw [hM82]; exact hWM66.pa (by decide) (by decide)
                            have e83 : M82 98 0 = M66 98 0 := by rw [hM82]; exact qput_ne (by decide)
                            have e84 : M82 97 18 = M66 97 18 := by rw [hM82]; exact qput_ne (by decide)
                            show zG n (0, 0) d 240 (295, [.inr (.inr (some 97)), .inl a1, .inl a2, .inl x13, .inl v27, .inl v47, .inl v65], []) M82 _
                            obtain ⟨x85, hx85⟩ : ∃ x : Int, x = w32 (v65 + (-1)) := ⟨_, rfl⟩
                            have hx85e : x85 = v65 + (-1) := by rw [hx85]; exact w32_id (by omega)
                            refine zG_blk (c' := (260, [.inr (.inr (some 97)), .inl a1, .inl a2, .inl x13, .inl v27, .inl v47, .inl x85], [])) 2 hd0 hz (by subst hx85; rfl) ?_
                            exact ih260 x85 M82 (by omega) (by omega) (by omega) (by omega) hCM82 hWM82
                    exact j260 (((M61 97 18) : Int).toNat + 1) (M61 97 18) M61 (by omega) (by omega) (by omega) (by omega) hCM61 hWM61
                  refine zG_if_ge hd0 hz rfl (fun hb86 => ?_) (fun hb86 => ?_)
                  · refine zG_blk (c' := (203, [.inr (.inr (some 97)), .inl a1, .inl a2, .inl x13, .inl v27, zN, zN], [.inl v27, .inr (.inr (some 102))])) 3 hd0 hz (by rfl) ?_
                    refine zG_iald hd0 hz rfl rfl (.inl rfl) (by omega) ?_
                    obtain ⟨x87, hx87⟩ : ∃ x : Int, x = M28 102 (v27 : Int).toNat := ⟨_, rfl⟩
                    rw [← hx87]
                    have hx87r : qin x87 := by rw [hx87]; exact hCM28.ra 102 _ (by decide) (by decide)
                    show zG n (0, 0) d 240 (204, [.inr (.inr (some 97)), .inl a1, .inl a2, .inl x13, .inl v27, zN, zN], [.inl x87]) M28 _
                    exact j204 x87 (by omega)
                  · refine zG_blk (c' := (204, [.inr (.inr (some 97)), .inl a1, .inl a2, .inl x13, .inl v27, zN, zN], [.inl 0])) 2 hd0 hz (by rfl) ?_
                    exact j204 0 (by first | decide | omega)
          exact j159 ((14 - 0 : Int).toNat + 1) 0 M24 (by omega) (by omega) (by omega) hCM24 hWM24
        · refine zG_blk (c' := (58, [.inr (.inr (some 97)), .inl a1, .inl a2, .inl x13, .inl v16, zN, zN], [.inl v16, .inr (.inr (some 97))])) 2 hd0 hz (by rfl) ?_
          refine zG_call hd0 hz zp_238 rfl rfl (Nat.le_of_ble_eq_true rfl) ⟨Nat.le_refl _, Nat.le_refl _⟩ (qm_238_97 (by first | exact zdp hd (by decide) | omega) hCM17   v16 (by first | with_reducible exact hv16 | omega) ) (fun vr M88 hr => ?_)
          obtain ⟨⟨hCM88, hFM88⟩, rfl⟩ := hr
          have hWM88 : qFm [102, 103, 104, 105, 106, 107, 108, 109, 110, 1007, 1010, 1012, 1013, 1016, 1018, 1019, 1020, 1021, 1022, 1023] M M88 := hWM17.tr hFM88 (by decide)
          have e90 : M88 98 0 = M17 98 0 := hFM88 98 0 (by decide)
          show zG n (0, 0) d 240 (61, [.inr (.inr (some 97)), .inl a1, .inl a2, .inl x13, .inl v16, zN, zN], []) M88 _
          refine zG_blk (c' := (63, [.inr (.inr (some 97)), .inl a1, .inl a2, .inl x13, .inl v16, zN, zN], [.inl (-1), .inl x13])) 2 hd0 hz (by rfl) ?_
          have j111 : ∀ (v91 : Int) (M92 : zM) , 0 ≤ v91 ∧ v91 ≤ 1 → qMI M92 → qFm [102, 103, 104, 105, 106, 107, 108, 109, 110, 1007, 1010, 1012, 1013, 1016, 1018, 1019, 1020, 1021, 1022, 1023] M M92 → zG n (0, 0) d 240 (111, [.inr (.inr (some 97)), .inl a1, .inl a2, .inl x13, .inl v16, zN, zN], [.inl v91]) M92 (fun v M' => (qMI M' ∧ qFm [102, 103, 104, 105, 106, 107, 108, 109, 110, 1007, 1010, 1012, 1013, 1016, 1018, 1019, 1020, 1021, 1022, 1023] M M') ∧ v = none) := by
            intro v91 M92 hv91 hCM92 hWM92
            have e93 : M92 98 0 = M 98 0 := hWM92 98 0 (by decide)
            have r94 := hCM92.rg 97 21 (by decide) (by decide)
            refine zG_blk (c' := (120, [.inr (.inr (some 97)), .inl a1, .inl a2, .inl x13, .inl v16, .inl v91, zN], [.inl v91, .inl (M92 97 21), .inr (.inr (some 97))])) 5 hd0 hz (by rfl) ?_
            have j131 : ∀ (v95 : Int) , 0 ≤ v95 ∧ v95 ≤ 8192 → zG n (0, 0) d 240 (131, [.inr (.inr (some 97)), .inl a1, .inl a2, .inl x13, .inl v16, .inl v91, zN], [.inl v95, .inl (M92 97 21), .inr (.inr (some 97))]) M92 (fun v M' => (qMI M' ∧ qFm [102, 103, 104, 105, 106, 107, 108, 109, 110, 1007, 1010, 1012, 1013, 1016, 1018, 1019, 1020, 1021, 1022, 1023] M M') ∧ v = none) := by
              intro v95 hv95
              obtain ⟨x96, hx96⟩ : ∃ x : Int, x = zbor (M92 97 21) v95 := ⟨_, rfl⟩
              have hx96r : qin x96 := by rw [hx96]; exact qb32 _
              refine zG_blk (c' := (132, [.inr (.inr (some 97)), .inl a1, .inl a2, .inl x13, .inl v16, .inl v91, zN], [.inl x96, .inr (.inr (some 97))])) 1 hd0 hz (by subst hx96; rfl) ?_
              refine zG_putf (.inl rfl) hd0 hz rfl (by decide) rfl rfl ?_
              obtain ⟨M97, hM97⟩ : ∃ X : zM, X = zput M92 97 21 x96 := ⟨_, rfl⟩
              rw [← hM97]
              have hCM97 : qMI M97 := by rw [hM97]; exact hCM92.put (by decide) (by decide) (by refine ⟨fun _ => ?_, fun _ => ?_, fun h => ⟨fun _ => ?_, fun _ => ?_, fun _ => ?_, fun _ => ?_, fun _ => ?_⟩, fun h => ?_, fun h => ?_⟩ <;> first | omega | exact absurd rfl (by assumption) | (rename_i h9; exact absurd h9 (by decide)))
              have hWM97 : qFm [102, 103, 104, 105, 106, 107, 108, 109, 110, 1007, 1010, 1012, 1013, 1016, 1018, 1019, 1020, 1021, 1022, 1023] M M97 := by rw [hM97]; exact hWM92.put (by decide)
              have e98 : M97 98 0 = M92 98 0 := by rw [hM97]; exact qput_ne (by decide)
              have e99 : M97 97 21 = x96 := by rw [hM97]; exact qput_eq
              show zG n (0, 0) d 240 (135, [.inr (.inr (some 97)), .inl a1, .inl a2, .inl x13, .inl v16, .inl v91, zN], []) M97 _
              obtain ⟨x100, hx100⟩ : ∃ x : Int, x = w32 (v16 + 1) := ⟨_, rfl⟩
              have hx100e : x100 = v16 + 1 := by rw [hx100]; exact w32_id (by omega)
              refine zG_blk (c' := (44, [.inr (.inr (some 97)), .inl a1, .inl a2, .inl x13, .inl x100, .inl v91, zN], [])) 2 hd0 hz (by subst hx100; rfl) ?_
              exact zG_weak (ih44 x100 M97 (by omega) (by omega) hCM97 hWM97) ⟨.inr rfl, .inr rfl, .inr rfl, .inr rfl, .inr rfl, .inl rfl, .inr rfl, trivial⟩
            refine zG_if_eq hd0 hz rfl (fun hb101 => ?_) (fun hb101 => ?_)
            · refine zG_blk (c' := (131, [.inr (.inr (some 97)), .inl a1, .inl a2, .inl x13, .inl v16, .inl v91, zN], [.inl 0, .inl (M92 97 21), .inr (.inr (some 97))])) 1 hd0 hz (by rfl) ?_
              exact j131 0 (by first | decide | omega)
            · obtain ⟨x102, hx102⟩ : ∃ x : Int, x = zbshl 1 v16 := ⟨_, rfl⟩
              have hx102r := qshl1_in v16 8192 13 (by decide) (by decide) (by omega); rw [← hx102] at hx102r
              refine zG_blk (c' := (131, [.inr (.inr (some 97)), .inl a1, .inl a2, .inl x13, .inl v16, .inl v91, zN], [.inl x102, .inl (M92 97 21), .inr (.inr (some 97))])) 4 hd0 hz (by subst hx102; rfl) ?_
              exact j131 x102 (by omega)
          refine zG_icmp_ne hd0 hz rfl (fun hb103 => ?_) (fun hb103 => ?_)
          · refine zG_blk (c' := (98, [.inr (.inr (some 97)), .inl a1, .inl a2, .inl x13, .inl v16, zN, zN], [.inr (.inr (some 97))])) 1 hd0 hz (by rfl) ?_
            refine zG_call hd0 hz zp_235 rfl rfl (Nat.le_of_ble_eq_true rfl) ⟨Nat.le_refl _, Nat.le_refl _⟩ (qm_235_97 (by first | exact zdp hd (by decide) | omega) hCM88    ) (fun vr M104 hr => ?_)
            obtain ⟨⟨hCM104, hFM104⟩, x105, rfl⟩ := hr
            have hWM104 : qFm [102, 103, 104, 105, 106, 107, 108, 109, 110, 1007, 1010, 1012, 1013, 1016, 1018, 1019, 1020, 1021, 1022, 1023] M M104 := hWM88.tr hFM104 (by decide)
            have e106 : M104 98 0 = M88 98 0 := hFM104 98 0 (by decide)
            show zG n (0, 0) d 240 (101, [.inr (.inr (some 97)), .inl a1, .inl a2, .inl x13, .inl v16, zN, zN], [.inr (.inl (x105))]) M104 _
            refine zG_blk (c' := (102, [.inr (.inr (some 97)), .inl a1, .inl a2, .inl x13, .inl v16, zN, zN], [.inr (.inl (0)), .inr (.inl (x105))])) 1 hd0 hz (by rfl) ?_
            refine zG_lc_eq hd0 hz rfl rfl (fun hb102 => ?_) (fun hb102 => ?_)
            · refine zG_blk (c' := (111, [.inr (.inr (some 97)), .inl a1, .inl a2, .inl x13, .inl v16, zN, zN], [.inl 0])) 1 hd0 hz (by rfl) ?_
              exact j111 0 M104 (by omega) hCM104 hWM104
            · refine zG_blk (c' := (111, [.inr (.inr (some 97)), .inl a1, .inl a2, .inl x13, .inl v16, zN, zN], [.inl 1])) 2 hd0 hz (by rfl) ?_
              exact j111 1 M104 (by omega) hCM104 hWM104
          · refine zG_blk (c' := (72, [.inr (.inr (some 97)), .inl a1, .inl a2, .inl x13, .inl v16, zN, zN], [.inl v16, .inr (.inr (some 102))])) 3 hd0 hz (by rfl) ?_
            refine zG_iald hd0 hz rfl rfl (.inl rfl) (by omega) ?_
            obtain ⟨x107, hx107⟩ : ∃ x : Int, x = M88 102 (v16 : Int).toNat := ⟨_, rfl⟩
            rw [← hx107]
            have hx107r : qin x107 := by rw [hx107]; exact hCM88.ra 102 _ (by decide) (by decide)
            show zG n (0, 0) d 240 (73, [.inr (.inr (some 97)), .inl a1, .inl a2, .inl x13, .inl v16, zN, zN], [.inl x107]) M88 _
            refine zG_blk (c' := (75, [.inr (.inr (some 97)), .inl a1, .inl a2, .inl x13, .inl v16, zN, zN], [.inl 39, .inl x107])) 1 hd0 hz (by rfl) ?_
            have j93 : zG n (0, 0) d 240 (93, [.inr (.inr (some 97)), .inl a1, .inl a2, .inl x13, .inl v16, zN, zN], []) M88 (fun v M' => (qMI M' ∧ qFm [102, 103, 104, 105, 106, 107, 108, 109, 110, 1007, 1010, 1012, 1013, 1016, 1018, 1019, 1020, 1021, 1022, 1023] M M') ∧ v = none) := by
              refine zG_blk (c' := (111, [.inr (.inr (some 97)), .inl a1, .inl a2, .inl x13, .inl v16, zN, zN], [.inl 0])) 2 hd0 hz (by rfl) ?_
              exact j111 0 M88 (by omega) hCM88 hWM88
            refine zG_icmp_le hd0 hz rfl (fun hb108 => ?_) (fun hb108 => ?_)
            · exact j93
            · refine zG_blk (c' := (83, [.inr (.inr (some 97)), .inl a1, .inl a2, .inl x13, .inl v16, zN, zN], [.inl 3, .inr (.inr (some 108))])) 3 hd0 hz (by rfl) ?_
              refine zG_lald hd0 hz rfl rfl (.inl rfl) (by omega) ?_
              obtain ⟨x109, hx109⟩ : ∃ x : Int, x = M88 108 (3 : Int).toNat := ⟨_, rfl⟩
              rw [← hx109]
              show zG n (0, 0) d 240 (84, [.inr (.inr (some 97)), .inl a1, .inl a2, .inl x13, .inl v16, zN, zN], [.inr (.inl (x109))]) M88 _
              refine zG_blk (c' := (85, [.inr (.inr (some 97)), .inl a1, .inl a2, .inl x13, .inl v16, zN, zN], [.inr (.inl (1)), .inr (.inl (x109))])) 1 hd0 hz (by rfl) ?_
              refine zG_lc_ne hd0 hz rfl rfl (fun hb85 => ?_) (fun hb85 => ?_)
              · exact j93
              · refine zG_blk (c' := (111, [.inr (.inr (some 97)), .inl a1, .inl a2, .inl x13, .inl v16, zN, zN], [.inl 1])) 2 hd0 hz (by rfl) ?_
                exact j111 1 M88 (by omega) hCM88 hWM88
    exact j44 ((14 - 0 : Int).toNat + 1) 0 M14 (by omega) (by omega) hCM14 hWM14
  refine zG_icmp_eq hd0 hz rfl (fun hb110 => ?_) (fun hb110 => ?_)
  · exact j41 M8 hCM8 hWM8
  · obtain ⟨x111, hx111⟩ : ∃ x : Int, x = w32 (164 * x13) := ⟨_, rfl⟩
    have hx111e : x111 = 164 * x13 := by rw [hx111]; exact w32_id (by omega)
    obtain ⟨x112, hx112⟩ : ∃ x : Int, x = w32 (4000 + x111) := ⟨_, rfl⟩
    have hx112e : x112 = 4000 + x111 := by rw [hx112]; exact w32_id (by omega)
    refine zG_blk (c' := (37, [.inr (.inr (some 97)), .inl a1, .inl a2, .inl x13, zN, zN, zN], [.inl x112, .inr (.inr (some 97))])) 6 hd0 hz (by subst hx112; subst hx111; rfl) ?_
    refine zG_call hd0 hz zp_231 rfl rfl (Nat.le_of_ble_eq_true rfl) ⟨Nat.le_refl _, Nat.le_refl _⟩ (qm_231_97 (by first | exact zdp hd (by decide) | omega) hCM8   x112 (by omega) (by exact hCM8.ord x13 _ (by omega) (.inl (by omega)))) (fun vr M113 hr => ?_)
    obtain ⟨⟨hCM113, hFM113⟩, x114, rfl, hx114⟩ := hr
    have hWM113 : qFm [102, 103, 104, 105, 106, 107, 108, 109, 110, 1007, 1010, 1012, 1013, 1016, 1018, 1019, 1020, 1021, 1022, 1023] M M113 := hWM8.tr hFM113 (by decide)
    have e115 : M113 98 0 = M8 98 0 := hFM113 98 0 (by decide)
    have e116 : M113 97 19 = M8 97 19 := hFM113 97 19 (by decide)
    have e117 : M113 97 21 = M8 97 21 := hFM113 97 21 (by decide)
    show zG n (0, 0) d 240 (40, [.inr (.inr (some 97)), .inl a1, .inl a2, .inl x13, zN, zN, zN], [.inl x114]) M113 _
    refine zG_blk (c' := (41, [.inr (.inr (some 97)), .inl a1, .inl a2, .inl x13, zN, zN, zN], [])) 1 hd0 hz (by rfl) ?_
    exact j41 M113 hCM113 hWM113
