theorem qm_190_97 {n d : Nat} {M : zM} (hd : 3 ≤ d) (hC : qMI M)  (a1 : Int) (ha1 : (-2147483648) ≤ a1 ∧ a1 ≤ 2147483647) (a2 : Int) (ha2 : (-2147483648) ≤ a2 ∧ a2 ≤ 2147483647) (a3 : Int) (ha3 : (-2147483648) ≤ a3 ∧ a3 ≤ 2147483647) (a4 : Int) (ha4 : (-2147483648) ≤ a4 ∧ a4 ≤ 2147483647) : qOkN n d 190 [.inr (.inr (some 97)), .inl a1, .inl a2, .inl a3, .inl a4] 6 [98] M (fun v M' => ∃ x : Int, v = some (.inl x) ∧ ((-2147483648) ≤ x ∧ x ≤ 2147483647)) := by
  have hz := zp_190
  have hd0 : 0 < d := by omega
  have hW : qFm [98] M M := qFm.rfl
  have r1 := hC.cnt3
  have r2 := hC.cnt2
  show zG n (0, 0) d 190 (0, [.inr (.inr (some 97)), .inl a1, .inl a2, .inl a3, .inl a4, zN], []) M _
  refine zG_blk (c' := (3, [.inr (.inr (some 97)), .inl a1, .inl a2, .inl a3, .inl a4, zN], [.inl a1, .inl 2, .inr (.inr (some 97))])) 3 hd0 hz (by rfl) ?_
  refine zG_call hd0 hz zp_182 rfl rfl (Nat.le_of_ble_eq_true rfl) ⟨Nat.le_refl _, Nat.le_refl _⟩ (qx_is (by first | exact zdp hd (by decide) | omega) hC   2 (by first | decide | omega) a1 (by first | with_reducible exact ha1 | omega) ) (fun vr M3 hr => ?_)
  obtain ⟨hq, x4, rfl, hx4⟩ := hr
  replace hq := hq.symm; subst hq
  show zG n (0, 0) d 190 (6, [.inr (.inr (some 97)), .inl a1, .inl a2, .inl a3, .inl a4, zN], [.inl x4]) M _
  have j39 : zG n (0, 0) d 190 (39, [.inr (.inr (some 97)), .inl a1, .inl a2, .inl a3, .inl a4, zN], []) M (fun v M' => (qMI M' ∧ qFm [98] M M') ∧ ∃ x : Int, v = some (.inl x) ∧ ((-2147483648) ≤ x ∧ x ≤ 2147483647)) := by
    refine zG_blk (c' := (41, [.inr (.inr (some 97)), .inl a1, .inl a2, .inl a3, .inl a4, zN], [.inl (-2)])) 1 hd0 hz (by rfl) ?_
    exact zG_ret hd0 hz rfl rfl ⟨⟨hC, hW⟩, _, rfl, by omega⟩
  refine zG_if_eq hd0 hz rfl (fun hb5 => ?_) (fun hb5 => ?_)
  · exact j39
  · have hcx4 := hx4.2.2.mp (by omega)
    clear hx4 hb5
    refine zG_blk (c' := (10, [.inr (.inr (some 97)), .inl a1, .inl a2, .inl a3, .inl a4, zN], [.inl a2])) 1 hd0 hz (by rfl) ?_
    refine zG_call hd0 hz zp_184 rfl rfl (Nat.le_of_ble_eq_true rfl) ⟨Nat.le_refl _, Nat.le_refl _⟩ (qm_184 (by first | exact zdp hd (by decide) | omega) hC   a2 (by first | with_reducible exact ha2 | omega) ) (fun vr M6 hr => ?_)
    obtain ⟨hq, x7, rfl, hx7, hpx7_0⟩ := hr
    replace hq := hq.symm; subst hq
    show zG n (0, 0) d 190 (13, [.inr (.inr (some 97)), .inl a1, .inl a2, .inl a3, .inl a4, zN], [.inl x7]) M _
    refine zG_if_eq hd0 hz rfl (fun hb8 => ?_) (fun hb8 => ?_)
    · exact j39
    · have hcx7 := hpx7_0.mp (by omega)
      clear hx7 hpx7_0 hb8
      refine zG_blk (c' := (21, [.inr (.inr (some 97)), .inl a1, .inl a2, .inl a3, .inl a4, zN], [.inl 1023, .inl 0, .inl a3])) 3 hd0 hz (by rfl) ?_
      refine zG_call hd0 hz zp_180 rfl rfl (Nat.le_of_ble_eq_true rfl) ⟨Nat.le_refl _, Nat.le_refl _⟩ (qx_in (by first | exact zdp hd (by decide) | omega) hC   a3 (by first | with_reducible exact ha3 | omega) 0 (by first | decide | omega) 1023 (by first | decide | omega) ) (fun vr M9 hr => ?_)
      obtain ⟨hq, x10, rfl, hx10⟩ := hr
      replace hq := hq.symm; subst hq
      show zG n (0, 0) d 190 (24, [.inr (.inr (some 97)), .inl a1, .inl a2, .inl a3, .inl a4, zN], [.inl x10]) M _
      refine zG_if_eq hd0 hz rfl (fun hb11 => ?_) (fun hb11 => ?_)
      · exact j39
      · have hcx10 := hx10.2.2.mp (by omega)
        clear hx10 hb11
        refine zG_blk (c' := (33, [.inr (.inr (some 97)), .inl a1, .inl a2, .inl a3, .inl a4, zN], [.inl 1023, .inl 0, .inl a4])) 3 hd0 hz (by rfl) ?_
        refine zG_call hd0 hz zp_180 rfl rfl (Nat.le_of_ble_eq_true rfl) ⟨Nat.le_refl _, Nat.le_refl _⟩ (qx_in (by first | exact zdp hd (by decide) | omega) hC   a4 (by first | with_reducible exact ha4 | omega) 0 (by first | decide | omega) 1023 (by first | decide | omega) ) (fun vr M12 hr => ?_)
        obtain ⟨hq, x13, rfl, hx13⟩ := hr
        replace hq := hq.symm; subst hq
        show zG n (0, 0) d 190 (36, [.inr (.inr (some 97)), .inl a1, .inl a2, .inl a3, .inl a4, zN], [.inl x13]) M _
        refine zG_if_ne hd0 hz rfl (fun hb14 => ?_) (fun hb14 => ?_)
        · have hcx13 := hx13.2.2.mp (by omega)
          clear hx13 hb14
          refine zG_blk (c' := (47, [.inr (.inr (some 97)), .inl a1, .inl a2, .inl a3, .inl a4, zN], [.inl 3, .inr (.inr (some 98))])) 3 hd0 hz (by rfl) ?_
          refine zG_iald hd0 hz rfl rfl (.inl rfl) (by omega) ?_
          show zG n (0, 0) d 190 (48, [.inr (.inr (some 97)), .inl a1, .inl a2, .inl a3, .inl a4, zN], [.inl (M 98 3)]) M _
          refine zG_blk (c' := (50, [.inr (.inr (some 97)), .inl a1, .inl a2, .inl a3, .inl a4, zN], [.inl 40, .inl (M 98 3)])) 1 hd0 hz (by rfl) ?_
          refine zG_icmp_ne hd0 hz rfl (fun hb15 => ?_) (fun hb15 => ?_)
          · refine zG_blk (c' := (65, [.inr (.inr (some 97)), .inl a1, .inl a2, .inl a3, .inl a4, zN], [.inl 3, .inr (.inr (some 98)), .inl 5, .inl 150])) 5 hd0 hz (by rfl) ?_
            refine zG_iald hd0 hz rfl rfl (.inl rfl) (by omega) ?_
            show zG n (0, 0) d 190 (66, [.inr (.inr (some 97)), .inl a1, .inl a2, .inl a3, .inl a4, zN], [.inl (M 98 3), .inl 5, .inl 150]) M _
            obtain ⟨x16, hx16⟩ : ∃ x : Int, x = w32 (5 * (M 98 3)) := ⟨_, rfl⟩
            have hx16e : x16 = 5 * (M 98 3) := by rw [hx16]; exact w32_id (by omega)
            obtain ⟨x17, hx17⟩ : ∃ x : Int, x = w32 (150 + x16) := ⟨_, rfl⟩
            have hx17e : x17 = 150 + x16 := by rw [hx17]; exact w32_id (by omega)
            refine zG_blk (c' := (77, [.inr (.inr (some 97)), .inl a1, .inl a2, .inl a3, .inl a4, .inl x17], [.inl a1, .inl x17, .inr (.inr (some 98))])) 7 hd0 hz (by subst hx17; subst hx16; rfl) ?_
            refine zG_iast hd0 hz rfl rfl (by omega) ?_
            obtain ⟨M18, hM18⟩ : ∃ X : zM, X = zput M 98 (x17 : Int).toNat a1 := ⟨_, rfl⟩
            rw [← hM18]
            have hCM18 : qMI M18 := by rw [hM18]; exact hC.put98' (by refine ⟨by omega, fun _ => by omega, fun _ => by omega, fun _ => by omega, fun _ => by omega, fun _ => by omega, fun _ => by omega, fun _ => by omega, fun c9 hc9 _ => by omega, fun u9 hu9 _ => by omega, fun m9 hm9 _ => by omega, fun a9 ha9 => ⟨fun _ => by omega, fun _ => by omega, fun _ => by omega, fun _ => by omega⟩, fun t9 ht9 _ => by omega, fun o9 ho9 _ => by omega⟩) (by omega) (by omega)
            have hWM18 : qFm [98] M M18 := by rw [hM18]; exact hW.pa (by decide) (by decide)
            have e19 : M18 98 3 = M 98 3 := by rw [hM18]; exact qput_nk (by omega)
            have e20 : M18 98 2 = M 98 2 := by rw [hM18]; exact qput_nk (by omega)
            show zG n (0, 0) d 190 (78, [.inr (.inr (some 97)), .inl a1, .inl a2, .inl a3, .inl a4, .inl x17], []) M18 _
            obtain ⟨x21, hx21⟩ : ∃ x : Int, x = w32 (x17 + 1) := ⟨_, rfl⟩
            have hx21e : x21 = x17 + 1 := by rw [hx21]; exact w32_id (by omega)
            refine zG_blk (c' := (87, [.inr (.inr (some 97)), .inl a1, .inl a2, .inl a3, .inl a4, .inl x17], [.inl a2, .inl x21, .inr (.inr (some 98))])) 6 hd0 hz (by subst hx21; rfl) ?_
            refine zG_iast hd0 hz rfl rfl (by omega) ?_
            obtain ⟨M22, hM22⟩ : ∃ X : zM, X = zput M18 98 (x21 : Int).toNat a2 := ⟨_, rfl⟩
            rw [← hM22]
            have hCM22 : qMI M22 := by rw [hM22]; exact hCM18.put98' (by refine ⟨by omega, fun _ => by omega, fun _ => by omega, fun _ => by omega, fun _ => by omega, fun _ => by omega, fun _ => by omega, fun _ => by omega, fun c9 hc9 _ => by omega, fun u9 hu9 _ => by omega, fun m9 hm9 _ => by omega, fun a9 ha9 => ⟨fun _ => by omega, fun _ => by omega, fun _ => by omega, fun _ => by omega⟩, fun t9 ht9 _ => by omega, fun o9 ho9 _ => by omega⟩) (by omega) (by omega)
            have hWM22 : qFm [98] M M22 := by rw [hM22]; exact hWM18.pa (by decide) (by decide)
            have e23 : M22 98 3 = M18 98 3 := by rw [hM22]; exact qput_nk (by omega)
            have e24 : M22 98 2 = M18 98 2 := by rw [hM22]; exact qput_nk (by omega)
            show zG n (0, 0) d 190 (88, [.inr (.inr (some 97)), .inl a1, .inl a2, .inl a3, .inl a4, .inl x17], []) M22 _
            obtain ⟨x25, hx25⟩ : ∃ x : Int, x = w32 (x17 + 2) := ⟨_, rfl⟩
            have hx25e : x25 = x17 + 2 := by rw [hx25]; exact w32_id (by omega)
            refine zG_blk (c' := (97, [.inr (.inr (some 97)), .inl a1, .inl a2, .inl a3, .inl a4, .inl x17], [.inl a3, .inl x25, .inr (.inr (some 98))])) 6 hd0 hz (by subst hx25; rfl) ?_
            refine zG_iast hd0 hz rfl rfl (by omega) ?_
            obtain ⟨M26, hM26⟩ : ∃ X : zM, X = zput M22 98 (x25 : Int).toNat a3 := ⟨_, rfl⟩
            rw [← hM26]
            have hCM26 : qMI M26 := by rw [hM26]; exact hCM22.put98' (by refine ⟨by omega, fun _ => by omega, fun _ => by omega, fun _ => by omega, fun _ => by omega, fun _ => by omega, fun _ => by omega, fun _ => by omega, fun c9 hc9 _ => by omega, fun u9 hu9 _ => by omega, fun m9 hm9 _ => by omega, fun a9 ha9 => ⟨fun _ => by omega, fun _ => by omega, fun _ => by omega, fun _ => by omega⟩, fun t9 ht9 _ => by omega, fun o9 ho9 _ => by omega⟩) (by omega) (by omega)
            have hWM26 : qFm [98] M M26 := by rw [hM26]; exact hWM22.pa (by decide) (by decide)
            have e27 : M26 98 3 = M22 98 3 := by rw [hM26]; exact qput_nk (by omega)
            have e28 : M26 98 2 = M22 98 2 := by rw [hM26]; exact qput_nk (by omega)
            show zG n (0, 0) d 190 (98, [.inr (.inr (some 97)), .inl a1, .inl a2, .inl a3, .inl a4, .inl x17], []) M26 _
            obtain ⟨x29, hx29⟩ : ∃ x : Int, x = w32 (x17 + 3) := ⟨_, rfl⟩
            have hx29e : x29 = x17 + 3 := by rw [hx29]; exact w32_id (by omega)
            refine zG_blk (c' := (108, [.inr (.inr (some 97)), .inl a1, .inl a2, .inl a3, .inl a4, .inl x17], [.inl a4, .inl x29, .inr (.inr (some 98))])) 6 hd0 hz (by subst hx29; rfl) ?_
            refine zG_iast hd0 hz rfl rfl (by omega) ?_
            obtain ⟨M30, hM30⟩ : ∃ X : zM, X = zput M26 98 (x29 : Int).toNat a4 := ⟨_, rfl⟩
            rw [← hM30]
            have hCM30 : qMI M30 := by rw [hM30]; exact hCM26.put98' (by refine ⟨by omega, fun _ => by omega, fun _ => by omega, fun _ => by omega, fun _ => by omega, fun _ => by omega, fun _ => by omega, fun _ => by omega, fun c9 hc9 _ => by omega, fun u9 hu9 _ => by omega, fun m9 hm9 _ => by omega, fun a9 ha9 => ⟨fun _ => by omega, fun _ => by omega, fun _ => by omega, fun _ => by omega⟩, fun t9 ht9 _ => by omega, fun o9 ho9 _ => by omega⟩) (by omega) (by omega)
            have hWM30 : qFm [98] M M30 := by rw [hM30]; exact hWM26.pa (by decide) (by decide)
            have e31 : M30 98 3 = M26 98 3 := by rw [hM30]; exact qput_nk (by omega)
            have e32 : M30 98 2 = M26 98 2 := by rw [hM30]; exact qput_nk (by omega)
            show zG n (0, 0) d 190 (109, [.inr (.inr (some 97)), .inl a1, .inl a2, .inl a3, .inl a4, .inl x17], []) M30 _
            obtain ⟨x33, hx33⟩ : ∃ x : Int, x = w32 (x17 + 4) := ⟨_, rfl⟩
            have hx33e : x33 = x17 + 4 := by rw [hx33]; exact w32_id (by omega)
            refine zG_blk (c' := (118, [.inr (.inr (some 97)), .inl a1, .inl a2, .inl a3, .inl a4, .inl x17], [.inl 0, .inl x33, .inr (.inr (some 98))])) 6 hd0 hz (by subst hx33; rfl) ?_
            refine zG_iast hd0 hz rfl rfl (by omega) ?_
            obtain ⟨M34, hM34⟩ : ∃ X : zM, X = zput M30 98 (x33 : Int).toNat 0 := ⟨_, rfl⟩
            rw [← hM34]
            have hCM34 : qMI M34 := by rw [hM34]; exact hCM30.put98' (by refine ⟨by omega, fun _ => by omega, fun _ => by omega, fun _ => by omega, fun _ => by omega, fun _ => by omega, fun _ => by omega, fun _ => by omega, fun c9 hc9 _ => by omega, fun u9 hu9 _ => by omega, fun m9 hm9 _ => by omega, fun a9 ha9 => ⟨fun _ => by omega, fun _ => by omega, fun _ => by omega, fun _ => by omega⟩, fun t9 ht9 _ => by omega, fun o9 ho9 _ => by omega⟩) (by omega) (by omega)
            have hWM34 : qFm [98] M M34 := by rw [hM34]; exact hWM30.pa (by decide) (by decide)
            have e35 : M34 98 3 = M30 98 3 := by rw [hM34]; exact qput_nk (by omega)
            have e36 : M34 98 2 = M30 98 2 := by rw [hM34]; exact qput_nk (by omega)
            show zG n (0, 0) d 190 (119, [.inr (.inr (some 97)), .inl a1, .inl a2, .inl a3, .inl a4, .inl x17], []) M34 _
            refine zG_blk (c' := (121, [.inr (.inr (some 97)), .inl a1, .inl a2, .inl a3, .inl a4, .inl x17], [.inl 3, .inr (.inr (some 97))])) 2 hd0 hz (by rfl) ?_
            refine zG_call hd0 hz zp_183 rfl rfl (Nat.le_of_ble_eq_true rfl) ⟨Nat.le_refl _, Nat.le_refl _⟩ (qx_oneC (by first | exact zdp hd (by decide) | omega) hCM34   3 (by decide) (by decide) (by refine ⟨by omega, fun _ => by omega, fun _ => by omega, fun _ => by omega, fun _ => by omega, fun _ => by omega, fun _ => by omega, fun _ => by omega, fun c9 hc9 _ => by omega, fun u9 hu9 _ => by omega, fun m9 hm9 _ => by omega, fun a9 ha9 => ⟨fun _ => by omega, fun _ => by omega, fun _ => by omega, fun _ => by omega⟩, fun t9 ht9 _ => by omega, fun o9 ho9 _ => by omega⟩) ) (fun vr M37 hr => ?_)
            obtain ⟨⟨hCM37, hFM37⟩, x38, rfl, hx38, hpx38_0, hpx38_1⟩ := hr
            have hWM37 : qFm [98] M M37 := hWM34.tr hFM37 (by decide)
            have e40 : M37 98 2 = M34 98 2 := hpx38_1 _ (by omega)
            show zG n (0, 0) d 190 (124, [.inr (.inr (some 97)), .inl a1, .inl a2, .inl a3, .inl a4, .inl x17], [.inl x38]) M37 _
            exact zG_ret hd0 hz rfl rfl ⟨⟨hCM37, hWM37⟩, _, rfl, by omega⟩
          · refine zG_blk (c' := (55, [.inr (.inr (some 97)), .inl a1, .inl a2, .inl a3, .inl a4, zN], [.inl (-4)])) 1 hd0 hz (by rfl) ?_
            exact zG_ret hd0 hz rfl rfl ⟨⟨hC, hW⟩, _, rfl, by omega⟩
        · exact j39
