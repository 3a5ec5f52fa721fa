/-! THE MODEL'S METHODS, BY PROGRAM -/
theorem qm_187_97 {n d : Nat} {M : zM} (hd : 2 ≤ d) (hC : qMI M)  (a1 : Int) (ha1 : (-2147483648) ≤ a1 ∧ a1 ≤ 2147483647) (a2 : Int) (ha2 : (-2147483648) ≤ a2 ∧ a2 ≤ 2147483647) (a3 : Int) (ha3 : (-2147483648) ≤ a3 ∧ a3 ≤ 2147483647) (a4 : Int) (ha4 : (-2147483648) ≤ a4 ∧ a4 ≤ 2147483647) : qOkN n d 187 [.inr (.inr (some 97)), .inl a1, .inl a2, .inl a3, .inl a4] 6 [98, 1031] M (fun v M' => ∃ x : Int, v = some (.inl x) ∧ ((-2147483648) ≤ x ∧ x ≤ 2147483647)) := by
  have hz := zp_187
  have hd0 : 0 < d := by omega
  have hW : qFm [98, 1031] M M := qFm.rfl
  have r1 := hC.cnt0
  show zG n (0, 0) d 187 (0, [.inr (.inr (some 97)), .inl a1, .inl a2, .inl a3, .inl a4, zN], []) M _
  refine zG_blk (c' := (4, [.inr (.inr (some 97)), .inl a1, .inl a2, .inl a3, .inl a4, zN], [.inl 60, .inl 1, .inl a1])) 3 hd0 hz (by rfl) ?_
  refine zG_call hd0 hz zp_180 rfl rfl (Nat.le_of_ble_eq_true rfl) ⟨Nat.le_refl _, Nat.le_refl _⟩ (qx_in (by first | exact zdp hd (by decide) | omega) hC   a1 (by first | with_reducible exact ha1 | omega) 1 (by first | decide | omega) 60 (by first | decide | omega) ) (fun vr M2 hr => ?_)
  obtain ⟨hq, x3, rfl, hx3⟩ := hr
  replace hq := hq.symm; subst hq
  show zG n (0, 0) d 187 (7, [.inr (.inr (some 97)), .inl a1, .inl a2, .inl a3, .inl a4, zN], [.inl x3]) M _
  have j49 : zG n (0, 0) d 187 (49, [.inr (.inr (some 97)), .inl a1, .inl a2, .inl a3, .inl a4, zN], []) M (fun v M' => (qMI M' ∧ qFm [98, 1031] M M') ∧ ∃ x : Int, v = some (.inl x) ∧ ((-2147483648) ≤ x ∧ x ≤ 2147483647)) := by
    refine zG_blk (c' := (51, [.inr (.inr (some 97)), .inl a1, .inl a2, .inl a3, .inl a4, zN], [.inl (-2)])) 1 hd0 hz (by rfl) ?_
    exact zG_ret hd0 hz rfl rfl ⟨⟨hC, hW⟩, _, rfl, by omega⟩
  refine zG_if_eq hd0 hz rfl (fun hb4 => ?_) (fun hb4 => ?_)
  · exact j49
  · have hcx3 := hx3.2.2.mp (by omega)
    clear hx3 hb4
    refine zG_blk (c' := (18, [.inr (.inr (some 97)), .inl a1, .inl a2, .inl a3, .inl a4, zN], [.inl 0, .inr (.inr (some 98)), .inl 1, .inl 0, .inl a2])) 6 hd0 hz (by rfl) ?_
    refine zG_iald hd0 hz rfl rfl (.inl rfl) (by omega) ?_
    show zG n (0, 0) d 187 (19, [.inr (.inr (some 97)), .inl a1, .inl a2, .inl a3, .inl a4, zN], [.inl (M 98 0), .inl 1, .inl 0, .inl a2]) M _
    obtain ⟨x5, hx5⟩ : ∃ x : Int, x = zbshl 1 (M 98 0) := ⟨_, rfl⟩
    have hx5r := qshl1_in (M 98 0) 16384 14 (by decide) (by decide) (by omega); rw [← hx5] at hx5r
    obtain ⟨x6, hx6⟩ : ∃ x : Int, x = w32 (x5 - 1) := ⟨_, rfl⟩
    have hx6e : x6 = x5 - 1 := by rw [hx6]; exact w32_id (by omega)
    refine zG_blk (c' := (22, [.inr (.inr (some 97)), .inl a1, .inl a2, .inl a3, .inl a4, zN], [.inl x6, .inl 0, .inl a2])) 3 hd0 hz (by subst hx6; subst hx5; rfl) ?_
    refine zG_call hd0 hz zp_180 rfl rfl (Nat.le_of_ble_eq_true rfl) ⟨Nat.le_refl _, Nat.le_refl _⟩ (qx_in (by first | exact zdp hd (by decide) | omega) hC   a2 (by first | with_reducible exact ha2 | omega) 0 (by first | decide | omega) x6 (by omega) ) (fun vr M7 hr => ?_)
    obtain ⟨hq, x8, rfl, hx8⟩ := hr
    replace hq := hq.symm; subst hq
    show zG n (0, 0) d 187 (25, [.inr (.inr (some 97)), .inl a1, .inl a2, .inl a3, .inl a4, zN], [.inl x8]) M _
    refine zG_if_eq hd0 hz rfl (fun hb9 => ?_) (fun hb9 => ?_)
    · exact j49
    · have hcx8 := hx8.2.2.mp (by omega)
      clear hx8 hb9
      refine zG_blk (c' := (32, [.inr (.inr (some 97)), .inl a1, .inl a2, .inl a3, .inl a4, zN], [.inl 7, .inl 1, .inl a3])) 3 hd0 hz (by rfl) ?_
      refine zG_call hd0 hz zp_180 rfl rfl (Nat.le_of_ble_eq_true rfl) ⟨Nat.le_refl _, Nat.le_refl _⟩ (qx_in (by first | exact zdp hd (by decide) | omega) hC   a3 (by first | with_reducible exact ha3 | omega) 1 (by first | decide | omega) 7 (by first | decide | omega) ) (fun vr M10 hr => ?_)
      obtain ⟨hq, x11, rfl, hx11⟩ := hr
      replace hq := hq.symm; subst hq
      show zG n (0, 0) d 187 (35, [.inr (.inr (some 97)), .inl a1, .inl a2, .inl a3, .inl a4, zN], [.inl x11]) M _
      refine zG_if_eq hd0 hz rfl (fun hb12 => ?_) (fun hb12 => ?_)
      · exact j49
      · have hcx11 := hx11.2.2.mp (by omega)
        clear hx11 hb12
        refine zG_blk (c' := (43, [.inr (.inr (some 97)), .inl a1, .inl a2, .inl a3, .inl a4, zN], [.inl 100, .inl 0, .inl a4])) 3 hd0 hz (by rfl) ?_
        refine zG_call hd0 hz zp_180 rfl rfl (Nat.le_of_ble_eq_true rfl) ⟨Nat.le_refl _, Nat.le_refl _⟩ (qx_in (by first | exact zdp hd (by decide) | omega) hC   a4 (by first | with_reducible exact ha4 | omega) 0 (by first | decide | omega) 100 (by first | decide | omega) ) (fun vr M13 hr => ?_)
        obtain ⟨hq, x14, rfl, hx14⟩ := hr
        replace hq := hq.symm; subst hq
        show zG n (0, 0) d 187 (46, [.inr (.inr (some 97)), .inl a1, .inl a2, .inl a3, .inl a4, zN], [.inl x14]) M _
        refine zG_if_ne hd0 hz rfl (fun hb15 => ?_) (fun hb15 => ?_)
        · have hcx14 := hx14.2.2.mp (by omega)
          clear hx14 hb15
          refine zG_blk (c' := (57, [.inr (.inr (some 97)), .inl a1, .inl a2, .inl a3, .inl a4, zN], [.inl 0, .inr (.inr (some 98))])) 3 hd0 hz (by rfl) ?_
          refine zG_iald hd0 hz rfl rfl (.inl rfl) (by omega) ?_
          show zG n (0, 0) d 187 (58, [.inr (.inr (some 97)), .inl a1, .inl a2, .inl a3, .inl a4, zN], [.inl (M 98 0)]) M _
          refine zG_blk (c' := (60, [.inr (.inr (some 97)), .inl a1, .inl a2, .inl a3, .inl a4, zN], [.inl 14, .inl (M 98 0)])) 1 hd0 hz (by rfl) ?_
          refine zG_icmp_ne hd0 hz rfl (fun hb16 => ?_) (fun hb16 => ?_)
          · refine zG_blk (c' := (74, [.inr (.inr (some 97)), .inl a1, .inl a2, .inl a3, .inl a4, zN], [.inl 0, .inr (.inr (some 98)), .inl 4, .inl 20])) 5 hd0 hz (by rfl) ?_
            refine zG_iald hd0 hz rfl rfl (.inl rfl) (by omega) ?_
            show zG n (0, 0) d 187 (75, [.inr (.inr (some 97)), .inl a1, .inl a2, .inl a3, .inl a4, zN], [.inl (M 98 0), .inl 4, .inl 20]) M _
            obtain ⟨x17, hx17⟩ : ∃ x : Int, x = w32 (4 * (M 98 0)) := ⟨_, rfl⟩
            have hx17e : x17 = 4 * (M 98 0) := by rw [hx17]; exact w32_id (by omega)
            obtain ⟨x18, hx18⟩ : ∃ x : Int, x = w32 (20 + x17) := ⟨_, rfl⟩
            have hx18e : x18 = 20 + x17 := by rw [hx18]; exact w32_id (by omega)
            refine zG_blk (c' := (86, [.inr (.inr (some 97)), .inl a1, .inl a2, .inl a3, .inl a4, .inl x18], [.inl a1, .inl x18, .inr (.inr (some 98))])) 7 hd0 hz (by subst hx18; subst hx17; rfl) ?_
            refine zG_iast hd0 hz rfl rfl (by omega) ?_
            obtain ⟨M19, hM19⟩ : ∃ X : zM, X = zput M 98 (x18 : Int).toNat a1 := ⟨_, rfl⟩
            rw [← hM19]
            have hCM19 : qMI M19 := by rw [hM19]; exact hC.put98' (by refine ⟨by omega, fun _ => by omega, fun _ => by omega, fun _ => by omega, fun _ => by omega, fun _ => by omega, fun _ => by omega, fun _ => by omega, fun c9 hc9 _ => by omega, fun u9 hu9 _ => by omega, fun m9 hm9 _ => by omega, fun a9 ha9 => ⟨fun _ => by omega, fun _ => by omega, fun _ => by omega, fun _ => by omega⟩, fun t9 ht9 _ => by omega, fun o9 ho9 _ => by omega⟩) (by omega) (by omega)
            have hWM19 : qFm [98, 1031] M M19 := by rw [hM19]; exact hW.pa (by decide) (by decide)
            have e20 : M19 98 0 = M 98 0 := by rw [hM19]; exact qput_nk (by omega)
            show zG n (0, 0) d 187 (87, [.inr (.inr (some 97)), .inl a1, .inl a2, .inl a3, .inl a4, .inl x18], []) M19 _
            obtain ⟨x21, hx21⟩ : ∃ x : Int, x = w32 (x18 + 1) := ⟨_, rfl⟩
            have hx21e : x21 = x18 + 1 := by rw [hx21]; exact w32_id (by omega)
            refine zG_blk (c' := (96, [.inr (.inr (some 97)), .inl a1, .inl a2, .inl a3, .inl a4, .inl x18], [.inl a2, .inl x21, .inr (.inr (some 98))])) 6 hd0 hz (by subst hx21; rfl) ?_
            refine zG_iast hd0 hz rfl rfl (by omega) ?_
            obtain ⟨M22, hM22⟩ : ∃ X : zM, X = zput M19 98 (x21 : Int).toNat a2 := ⟨_, rfl⟩
            rw [← hM22]
            have hCM22 : qMI M22 := by rw [hM22]; exact hCM19.put98' (by refine ⟨by omega, fun _ => by omega, fun _ => by omega, fun _ => by omega, fun _ => by omega, fun _ => by omega, fun _ => by omega, fun _ => by omega, fun c9 hc9 _ => by omega, fun u9 hu9 _ => by omega, fun m9 hm9 _ => by omega, fun a9 ha9 => ⟨fun _ => by omega, fun _ => by omega, fun _ => by omega, fun _ => by omega⟩, fun t9 ht9 _ => by omega, fun o9 ho9 _ => by omega⟩) (by omega) (by omega)
            have hWM22 : qFm [98, 1031] M M22 := by rw [hM22]; exact hWM19.pa (by decide) (by decide)
            have e23 : M22 98 0 = M19 98 0 := by rw [hM22]; exact qput_nk (by omega)
            show zG n (0, 0) d 187 (97, [.inr (.inr (some 97)), .inl a1, .inl a2, .inl a3, .inl a4, .inl x18], []) M22 _
            obtain ⟨x24, hx24⟩ : ∃ x : Int, x = w32 (x18 + 2) := ⟨_, rfl⟩
            have hx24e : x24 = x18 + 2 := by rw [hx24]; exact w32_id (by omega)
            refine zG_blk (c' := (106, [.inr (.inr (some 97)), .inl a1, .inl a2, .inl a3, .inl a4, .inl x18], [.inl a3, .inl x24, .inr (.inr (some 98))])) 6 hd0 hz (by subst hx24; rfl) ?_
            refine zG_iast hd0 hz rfl rfl (by omega) ?_
            obtain ⟨M25, hM25⟩ : ∃ X : zM, X = zput M22 98 (x24 : Int).toNat a3 := ⟨_, rfl⟩
            rw [← hM25]
            have hCM25 : qMI M25 := by rw [hM25]; exact hCM22.put98' (by refine ⟨by omega, fun _ => by omega, fun _ => by omega, fun _ => by omega, fun _ => by omega, fun _ => by omega, fun _ => by omega, fun _ => by omega, fun c9 hc9 _ => by omega, fun u9 hu9 _ => by omega, fun m9 hm9 _ => by omega, fun a9 ha9 => ⟨fun _ => by omega, fun _ => by omega, fun _ => by omega, fun _ => by omega⟩, fun t9 ht9 _ => by omega, fun o9 ho9 _ => by omega⟩) (by omega) (by omega)
            have hWM25 : qFm [98, 1031] M M25 := by rw [hM25]; exact hWM22.pa (by decide) (by decide)
            have e26 : M25 98 0 = M22 98 0 := by rw [hM25]; exact qput_nk (by omega)
            show zG n (0, 0) d 187 (107, [.inr (.inr (some 97)), .inl a1, .inl a2, .inl a3, .inl a4, .inl x18], []) M25 _
            obtain ⟨x27, hx27⟩ : ∃ x : Int, x = w32 (x18 + 3) := ⟨_, rfl⟩
            have hx27e : x27 = x18 + 3 := by rw [hx27]; exact w32_id (by omega)
            refine zG_blk (c' := (117, [.inr (.inr (some 97)), .inl a1, .inl a2, .inl a3, .inl a4, .inl x18], [.inl a4, .inl x27, .inr (.inr (some 98))])) 6 hd0 hz (by subst hx27; rfl) ?_
            refine zG_iast hd0 hz rfl rfl (by omega) ?_
            obtain ⟨M28, hM28⟩ : ∃ X : zM, X = zput M25 98 (x27 : Int).toNat a4 := ⟨_, rfl⟩
            rw [← hM28]
            have hCM28 : qMI M28 := by rw [hM28]; exact hCM25.put98' (by refine ⟨by omega, fun _ => by omega, fun _ => by omega, fun _ => by omega, fun _ => by omega, fun _ => by omega, fun _ => by omega, fun _ => by omega, fun c9 hc9 _ => by omega, fun u9 hu9 _ => by omega, fun m9 hm9 _ => by omega, fun a9 ha9 => ⟨fun _ => by omega, fun _ => by omega, fun _ => by omega, fun _ => by omega⟩, fun t9 ht9 _ => by omega, fun o9 ho9 _ => by omega⟩) (by omega) (by omega)
            have hWM28 : qFm [98, 1031] M M28 := by rw [hM28]; exact hWM25.pa (by decide) (by decide)
            have e29 : M28 98 0 = M25 98 0 := by rw [hM28]; exact qput_nk (by omega)
            show zG n (0, 0) d 187 (118, [.inr (.inr (some 97)), .inl a1, .inl a2, .inl a3, .inl a4, .inl x18], []) M28 _
            refine zG_blk (c' := (120, [.inr (.inr (some 97)), .inl a1, .inl a2, .inl a3, .inl a4, .inl x18], [.inl (-1), .inr (.inr (some 97))])) 2 hd0 hz (by rfl) ?_
            refine zG_putf (.inl rfl) hd0 hz rfl (by decide) rfl rfl ?_
            obtain ⟨M30, hM30⟩ : ∃ X : zM, X = zput M28 97 31 (-1) := ⟨_, rfl⟩
            rw [← hM30]
            have hCM30 : qMI M30 := by rw [hM30]; exact hCM28.put (by decide) (by decide) (by refine ⟨fun _ => ?_, fun _ => ?_, fun h => ⟨fun _ => ?_, fun _ => ?_, fun _ => ?_, fun _ => ?_, fun _ => ?_⟩, fun h => ?_, fun h => ?_⟩ <;> first | omega | exact absurd rfl (by assumption) | (rename_i h9; exact absurd h9 (by decide)))
            have hWM30 : qFm [98, 1031] M M30 := by rw [hM30]; exact hWM28.put (by decide)
            have e31 : M30 98 0 = M28 98 0 := by rw [hM30]; exact qput_ne (by decide)
            have e32 : M30 97 31 = (-1) := by rw [hM30]; exact qput_eq
            show zG n (0, 0) d 187 (123, [.inr (.inr (some 97)), .inl a1, .inl a2, .inl a3, .inl a4, .inl x18], []) M30 _
            refine zG_blk (c' := (125, [.inr (.inr (some 97)), .inl a1, .inl a2, .inl a3, .inl a4, .inl x18], [.inl 0, .inr (.inr (some 97))])) 2 hd0 hz (by rfl) ?_
            refine zG_call hd0 hz zp_183 rfl rfl (Nat.le_of_ble_eq_true rfl) ⟨Nat.le_refl _, Nat.le_refl _⟩ (qx_oneC (by first | exact zdp hd (by decide) | omega) hCM30   0 (by decide) (by decide) (by refine ⟨by omega, fun _ => by omega, fun _ => by omega, fun _ => by omega, fun _ => by omega, fun _ => by omega, fun _ => by omega, fun _ => by omega, fun c9 hc9 _ => by omega, fun u9 hu9 _ => by omega, fun m9 hm9 _ => by omega, fun a9 ha9 => ⟨fun _ => by omega, fun _ => by omega, fun _ => by omega, fun _ => by omega⟩, fun t9 ht9 _ => by omega, fun o9 ho9 _ => by omega⟩) ) (fun vr M33 hr => ?_)
            obtain ⟨⟨hCM33, hFM33⟩, x34, rfl, hx34, hpx34_0, hpx34_1⟩ := hr
            have hWM33 : qFm [98, 1031] M M33 := hWM30.tr hFM33 (by decide)
            have e36 : M33 97 31 = M30 97 31 := hFM33 97 31 (by decide)
            show zG n (0, 0) d 187 (128, [.inr (.inr (some 97)), .inl a1, .inl a2, .inl a3, .inl a4, .inl x18], [.inl x34]) M33 _
            exact zG_ret hd0 hz rfl rfl ⟨⟨hCM33, hWM33⟩, _, rfl, by omega⟩
          · refine zG_blk (c' := (65, [.inr (.inr (some 97)), .inl a1, .inl a2, .inl a3, .inl a4, zN], [.inl (-4)])) 1 hd0 hz (by rfl) ?_
            exact zG_ret hd0 hz rfl rfl ⟨⟨hC, hW⟩, _, rfl, by omega⟩
        · exact j49
