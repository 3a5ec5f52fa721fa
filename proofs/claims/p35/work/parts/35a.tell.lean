/-! THE MODEL'S METHODS, BY PROGRAM -/
theorem qm_187_97 {n d : Nat} {M : zM} (hd : 2 ≤ d) (hC : qMI M)  (a1 : Int) (ha1 : (-2147483648) ≤ a1 ∧ a1 ≤ 2147483647) (a2 : Int) (ha2 : (-2147483648) ≤ a2 ∧ a2 ≤ 2147483647) (a3 : Int) (ha3 : (-2147483648) ≤ a3 ∧ a3 ≤ 2147483647) (a4 : Int) (ha4 : (-2147483648) ≤ a4 ∧ a4 ≤ 2147483647) : qOkN n d 187 [.inr (.inr (some 97)), .inl a1, .inl a2, .inl a3, .inl a4] 6 [98, 1031] M (fun v M' => ∃ x : Int, v = some (.inl x) ∧ ((-2147483648) ≤ x ∧ x ≤ 2147483647)) := by
  have hz := zp_187
  have hd0 : 0 < d := by omega
  have hW : qFm [98, 1031] M M := qFm.rfl
  have r1 := hC.cnt0
  show zG n (0, 0) d 187 (0, [.inr (.inr (some 97)), .inl a1, .inl a2, .inl a3, .inl a4, zN], []) M _
  refine zG_wp (pc := 7) (L := [.inr (.inr (some 97)), .inl a1, .inl a2, .inl a3, .inl a4, zN]) (st := []) 3 hd0 hz zp_180 (qx_in (by first | exact zdk hd rfl | omega) hC   a1 (by first | with_reducible exact ha1 | omega) 1 (by first | decide | omega) 60 (by first | decide | omega) ) (by rfl) (fun x3 hx3 => ?_)
  have j49 : zG n (0, 0) d 187 (49, [.inr (.inr (some 97)), .inl a1, .inl a2, .inl a3, .inl a4, zN], []) M (fun v M' => (qMI M' ∧ qFm [98, 1031] M M') ∧ ∃ x : Int, v = some (.inl x) ∧ ((-2147483648) ≤ x ∧ x ≤ 2147483647)) := by
    exact zG_wr (r := some (.inl (-2))) 1 hd0 hz (by rfl) ⟨⟨hC, hW⟩, _, rfl, by omega⟩
  refine zG_wf_eq (pc := 7) (n' := 10) (t := 49) (L := [.inr (.inr (some 97)), .inl a1, .inl a2, .inl a3, .inl a4, zN]) (st := []) (x := x3) 0 hd0 hz (by rfl) (fun hb4 => ?_) (fun hb4 => ?_)
  · exact j49
  · have hcx3 := hx3.2.2.mp (by omega)
    clear hx3 hb4
    refine zG_w (c' := (18, [.inr (.inr (some 97)), .inl a1, .inl a2, .inl a3, .inl a4, zN], [.inl 0, .inr (.inr (some 98)), .inl 1, .inl 0, .inl a2])) 6 hd0 hz (by rfl) ?_
    refine zG_iald hd0 hz rfl rfl (.inl rfl) (by omega) ?_
    show zG n (0, 0) d 187 (19, [.inr (.inr (some 97)), .inl a1, .inl a2, .inl a3, .inl a4, zN], [.inl (M 98 0), .inl 1, .inl 0, .inl a2]) M _
    obtain ⟨x5, hx5⟩ : ∃ x : Int, x = zbshl 1 (M 98 0) := ⟨_, rfl⟩
    have hx5r := qshl1_in (M 98 0) 16384 14 (by decide) (by decide) (by omega); rw [← hx5] at hx5r
    obtain ⟨x6, hx6⟩ : ∃ x : Int, x = w32 (x5 - 1) := ⟨_, rfl⟩
    have hx6e : x6 = x5 - 1 := by rw [hx6]; exact w32_id (by omega)
    refine zG_wp (pc := 25) (L := [.inr (.inr (some 97)), .inl a1, .inl a2, .inl a3, .inl a4, zN]) (st := []) 3 hd0 hz zp_180 (qx_in (by first | exact zdk hd rfl | omega) hC   a2 (by first | with_reducible exact ha2 | omega) 0 (by first | decide | omega) x6 (by omega) ) (by subst hx6; subst hx5; rfl) (fun x8 hx8 => ?_)
    refine zG_wf_eq (pc := 25) (n' := 28) (t := 49) (L := [.inr (.inr (some 97)), .inl a1, .inl a2, .inl a3, .inl a4, zN]) (st := []) (x := x8) 0 hd0 hz (by rfl) (fun hb9 => ?_) (fun hb9 => ?_)
    · exact j49
    · have hcx8 := hx8.2.2.mp (by omega)
      clear hx8 hb9
      refine zG_wp (pc := 35) (L := [.inr (.inr (some 97)), .inl a1, .inl a2, .inl a3, .inl a4, zN]) (st := []) 3 hd0 hz zp_180 (qx_in (by first | exact zdk hd rfl | omega) hC   a3 (by first | with_reducible exact ha3 | omega) 1 (by first | decide | omega) 7 (by first | decide | omega) ) (by rfl) (fun x11 hx11 => ?_)
      refine zG_wf_eq (pc := 35) (n' := 38) (t := 49) (L := [.inr (.inr (some 97)), .inl a1, .inl a2, .inl a3, .inl a4, zN]) (st := []) (x := x11) 0 hd0 hz (by rfl) (fun hb12 => ?_) (fun hb12 => ?_)
      · exact j49
      · have hcx11 := hx11.2.2.mp (by omega)
        clear hx11 hb12
        refine zG_wp (pc := 46) (L := [.inr (.inr (some 97)), .inl a1, .inl a2, .inl a3, .inl a4, zN]) (st := []) 3 hd0 hz zp_180 (qx_in (by first | exact zdk hd rfl | omega) hC   a4 (by first | with_reducible exact ha4 | omega) 0 (by first | decide | omega) 100 (by first | decide | omega) ) (by rfl) (fun x14 hx14 => ?_)
        refine zG_wf_ne (pc := 46) (n' := 49) (t := 52) (L := [.inr (.inr (some 97)), .inl a1, .inl a2, .inl a3, .inl a4, zN]) (st := []) (x := x14) 0 hd0 hz (by rfl) (fun hb15 => ?_) (fun hb15 => ?_)
        · have hcx14 := hx14.2.2.mp (by omega)
          clear hx14 hb15
          refine zG_w (c' := (57, [.inr (.inr (some 97)), .inl a1, .inl a2, .inl a3, .inl a4, zN], [.inl 0, .inr (.inr (some 98))])) 3 hd0 hz (by rfl) ?_
          refine zG_iald hd0 hz rfl rfl (.inl rfl) (by omega) ?_
          show zG n (0, 0) d 187 (58, [.inr (.inr (some 97)), .inl a1, .inl a2, .inl a3, .inl a4, zN], [.inl (M 98 0)]) M _
          refine zG_wi_ne (pc := 60) (n' := 63) (t := 66) (L := [.inr (.inr (some 97)), .inl a1, .inl a2, .inl a3, .inl a4, zN]) (st := []) (x := (M 98 0)) (y := 14) 1 hd0 hz (by rfl) (fun hb16 => ?_) (fun hb16 => ?_)
          · refine zG_w (c' := (74, [.inr (.inr (some 97)), .inl a1, .inl a2, .inl a3, .inl a4, zN], [.inl 0, .inr (.inr (some 98)), .inl 4, .inl 20])) 5 hd0 hz (by rfl) ?_
            refine zG_iald hd0 hz rfl rfl (.inl rfl) (by omega) ?_
            show zG n (0, 0) d 187 (75, [.inr (.inr (some 97)), .inl a1, .inl a2, .inl a3, .inl a4, zN], [.inl (M 98 0), .inl 4, .inl 20]) M _
            obtain ⟨x17, hx17⟩ : ∃ x : Int, x = w32 (4 * (M 98 0)) := ⟨_, rfl⟩
            have hx17e : x17 = 4 * (M 98 0) := by rw [hx17]; exact w32_id (by omega)
            obtain ⟨x18, hx18⟩ : ∃ x : Int, x = w32 (20 + x17) := ⟨_, rfl⟩
            have hx18e : x18 = 20 + x17 := by rw [hx18]; exact w32_id (by omega)
            refine zG_w (c' := (86, [.inr (.inr (some 97)), .inl a1, .inl a2, .inl a3, .inl a4, .inl x18], [.inl a1, .inl x18, .inr (.inr (some 98))])) 7 hd0 hz (by subst hx18; subst hx17; rfl) ?_
            refine zG_iast hd0 hz rfl rfl (by omega) ?_
            obtain ⟨M19, hM19⟩ : ∃ X : zM, X = zput M 98 (x18 : Int).toNat a1 := ⟨_, rfl⟩
            rw [← hM19]
            have hCM19 : qMI M19 := by rw [hM19]; exact hC.put98' (qOS_cs (by omega) (by omega) (fun _ _ _ => by omega)) (by omega) (by omega)
            have hWM19 : qFm [98, 1031] M M19 := by rw [hM19]; exact hW.pa (by decide) (by decide)
            have e20 : M19 98 0 = M 98 0 := by rw [hM19]; exact qput_nk (by omega)
            show zG n (0, 0) d 187 (87, [.inr (.inr (some 97)), .inl a1, .inl a2, .inl a3, .inl a4, .inl x18], []) M19 _
            obtain ⟨x21, hx21⟩ : ∃ x : Int, x = w32 (x18 + 1) := ⟨_, rfl⟩
            have hx21e : x21 = x18 + 1 := by rw [hx21]; exact w32_id (by omega)
            refine zG_w (c' := (96, [.inr (.inr (some 97)), .inl a1, .inl a2, .inl a3, .inl a4, .inl x18], [.inl a2, .inl x21, .inr (.inr (some 98))])) 6 hd0 hz (by subst hx21; rfl) ?_
            refine zG_iast hd0 hz rfl rfl (by omega) ?_
            obtain ⟨M22, hM22⟩ : ∃ X : zM, X = zput M19 98 (x21 : Int).toNat a2 := ⟨_, rfl⟩
            rw [← hM22]
            have hCM22 : qMI M22 := by rw [hM22]; exact hCM19.put98' (qOS_cs (by omega) (by omega) (fun _ _ _ => by omega)) (by omega) (by omega)
            have hWM22 : qFm [98, 1031] M M22 := by rw [hM22]; exact hWM19.pa (by decide) (by decide)
            have e23 : M22 98 0 = M19 98 0 := by rw [hM22]; exact qput_nk (by omega)
            show zG n (0, 0) d 187 (97, [.inr (.inr (some 97)), .inl a1, .inl a2, .inl a3, .inl a4, .inl x18], []) M22 _
            obtain ⟨x24, hx24⟩ : ∃ x : Int, x = w32 (x18 + 2) := ⟨_, rfl⟩
            have hx24e : x24 = x18 + 2 := by rw [hx24]; exact w32_id (by omega)
            refine zG_w (c' := (106, [.inr (.inr (some 97)), .inl a1, .inl a2, .inl a3, .inl a4, .inl x18], [.inl a3, .inl x24, .inr (.inr (some 98))])) 6 hd0 hz (by subst hx24; rfl) ?_
            refine zG_iast hd0 hz rfl rfl (by omega) ?_
            obtain ⟨M25, hM25⟩ : ∃ X : zM, X = zput M22 98 (x24 : Int).toNat a3 := ⟨_, rfl⟩
            rw [← hM25]
            have hCM25 : qMI M25 := by rw [hM25]; exact hCM22.put98' (qOS_cs (by omega) (by omega) (fun _ _ _ => by omega)) (by omega) (by omega)
            have hWM25 : qFm [98, 1031] M M25 := by rw [hM25]; exact hWM22.pa (by decide) (by decide)
            have e26 : M25 98 0 = M22 98 0 := by rw [hM25]; exact qput_nk (by omega)
            show zG n (0, 0) d 187 (107, [.inr (.inr (some 97)), .inl a1, .inl a2, .inl a3, .inl a4, .inl x18], []) M25 _
            obtain ⟨x27, hx27⟩ : ∃ x : Int, x = w32 (x18 + 3) := ⟨_, rfl⟩
            have hx27e : x27 = x18 + 3 := by rw [hx27]; exact w32_id (by omega)
            refine zG_w (c' := (117, [.inr (.inr (some 97)), .inl a1, .inl a2, .inl a3, .inl a4, .inl x18], [.inl a4, .inl x27, .inr (.inr (some 98))])) 6 hd0 hz (by subst hx27; rfl) ?_
            refine zG_iast hd0 hz rfl rfl (by omega) ?_
            obtain ⟨M28, hM28⟩ : ∃ X : zM, X = zput M25 98 (x27 : Int).toNat a4 := ⟨_, rfl⟩
            rw [← hM28]
            have hCM28 : qMI M28 := by rw [hM28]; exact hCM25.put98' (qOS_cs (by omega) (by omega) (fun _ _ _ => by omega)) (by omega) (by omega)
            have hWM28 : qFm [98, 1031] M M28 := by rw [hM28]; exact hWM25.pa (by decide) (by decide)
            have e29 : M28 98 0 = M25 98 0 := by rw [hM28]; exact qput_nk (by omega)
            show zG n (0, 0) d 187 (118, [.inr (.inr (some 97)), .inl a1, .inl a2, .inl a3, .inl a4, .inl x18], []) M28 _
            refine zG_w (c' := (120, [.inr (.inr (some 97)), .inl a1, .inl a2, .inl a3, .inl a4, .inl x18], [.inl (-1), .inr (.inr (some 97))])) 2 hd0 hz (by rfl) ?_
            refine zG_putf (.inl rfl) hd0 hz rfl (by decide) rfl rfl ?_
            obtain ⟨M30, hM30⟩ : ∃ X : zM, X = zput M28 97 31 (-1) := ⟨_, rfl⟩
            rw [← hM30]
            have hCM30 : qMI M30 := by rw [hM30]; exact hCM28.put (by decide) (by decide) (by first | exact qMC_97 (by decide) (fun _ => by omega) | (refine ⟨fun _ => ?_, fun _ => ?_, fun h => ⟨fun _ => ?_, fun _ => ?_, fun _ => ?_, fun _ => ?_, fun _ => ?_⟩, fun h => ?_, fun h => ?_⟩ <;> first | omega | exact absurd rfl (by assumption) | (rename_i h9; exact absurd h9 (by decide))))
            have hWM30 : qFm [98, 1031] M M30 := by rw [hM30]; exact hWM28.put (by decide)
            have e31 : M30 98 0 = M28 98 0 := by rw [hM30]; exact qput_ne (by decide)
            have e32 : M30 97 31 = (-1) := by rw [hM30]; exact qput_eq
            show zG n (0, 0) d 187 (123, [.inr (.inr (some 97)), .inl a1, .inl a2, .inl a3, .inl a4, .inl x18], []) M30 _
            refine zG_wc (c1 := (128, [.inr (.inr (some 97)), .inl a1, .inl a2, .inl a3, .inl a4, .inl x18], [])) 2 hd0 hz zp_183 (qx_oneC (by first | exact zdk hd rfl | omega) hCM30   0 (by decide) (by decide) (by refine ⟨by omega, fun _ => by omega, fun _ => by omega, fun _ => by omega, fun _ => by omega, fun _ => by omega, fun _ => by omega, fun _ => by omega, fun c9 hc9 _ => by omega, fun u9 hu9 _ => by omega, fun m9 hm9 _ => by omega, fun a9 ha9 => ⟨fun _ => by omega, fun _ => by omega, fun _ => by omega, fun _ => by omega⟩, fun t9 ht9 _ => by omega, fun o9 ho9 _ => by omega⟩) ) (by rfl) (fun vr M33 hr => ?_)
            obtain ⟨⟨hCM33, hFM33⟩, x34, rfl, hx34, hpx34_0, hpx34_1⟩ := hr
            have hWM33 : qFm [98, 1031] M M33 := hWM30.tr hFM33 (by decide)
            have e36 : M33 97 31 = M30 97 31 := hFM33 97 31 (by decide)
            show zG n (0, 0) d 187 (128, [.inr (.inr (some 97)), .inl a1, .inl a2, .inl a3, .inl a4, .inl x18], [.inl x34]) M33 _
            exact zG_wr (r := some (.inl x34)) 0 hd0 hz (by rfl) ⟨⟨hCM33, hWM33⟩, _, rfl, by omega⟩
          · exact zG_wr (r := some (.inl (-4))) 1 hd0 hz (by rfl) ⟨⟨hC, hW⟩, _, rfl, by omega⟩
        · exact j49
theorem qm_188_97 {n d : Nat} {M : zM} (hd : 3 ≤ d) (hC : qMI M)  (a1 : Int) (ha1 : (-2147483648) ≤ a1 ∧ a1 ≤ 2147483647) : qOkN n d 188 [.inr (.inr (some 97)), .inl a1] 3 [98] M (fun v M' => ∃ x : Int, v = some (.inl x) ∧ ((-2147483648) ≤ x ∧ x ≤ 2147483647)) := by
  have hz := zp_188
  have hd0 : 0 < d := by omega
  have hW : qFm [98] M M := qFm.rfl
  have r1 := hC.cnt1
  show zG n (0, 0) d 188 (0, [.inr (.inr (some 97)), .inl a1, zN], []) M _
  refine zG_wp (pc := 4) (L := [.inr (.inr (some 97)), .inl a1, zN]) (st := []) 1 hd0 hz zp_184 (qm_184 (by first | exact zdk hd rfl | omega) hC   a1 (by first | with_reducible exact ha1 | omega) ) (by rfl) (fun x3 hr => ?_)
  obtain ⟨hx3, hpx3_0⟩ := hr
  refine zG_wf_ne (pc := 4) (n' := 7) (t := 10) (L := [.inr (.inr (some 97)), .inl a1, zN]) (st := []) (x := x3) 0 hd0 hz (by rfl) (fun hb4 => ?_) (fun hb4 => ?_)
  · have hcx3 := hpx3_0.mp (by omega)
    clear hx3 hpx3_0 hb4
    refine zG_w (c' := (15, [.inr (.inr (some 97)), .inl a1, zN], [.inl 1, .inr (.inr (some 98))])) 3 hd0 hz (by rfl) ?_
    refine zG_iald hd0 hz rfl rfl (.inl rfl) (by omega) ?_
    show zG n (0, 0) d 188 (16, [.inr (.inr (some 97)), .inl a1, zN], [.inl (M 98 1)]) M _
    refine zG_wi_ne (pc := 18) (n' := 21) (t := 24) (L := [.inr (.inr (some 97)), .inl a1, zN]) (st := []) (x := (M 98 1)) (y := 20) 1 hd0 hz (by rfl) (fun hb5 => ?_) (fun hb5 => ?_)
    · refine zG_w (c' := (32, [.inr (.inr (some 97)), .inl a1, zN], [.inl 1, .inr (.inr (some 98)), .inl 3, .inl 80])) 5 hd0 hz (by rfl) ?_
      refine zG_iald hd0 hz rfl rfl (.inl rfl) (by omega) ?_
      show zG n (0, 0) d 188 (33, [.inr (.inr (some 97)), .inl a1, zN], [.inl (M 98 1), .inl 3, .inl 80]) M _
      obtain ⟨x6, hx6⟩ : ∃ x : Int, x = w32 (3 * (M 98 1)) := ⟨_, rfl⟩
      have hx6e : x6 = 3 * (M 98 1) := by rw [hx6]; exact w32_id (by omega)
      obtain ⟨x7, hx7⟩ : ∃ x : Int, x = w32 (80 + x6) := ⟨_, rfl⟩
      have hx7e : x7 = 80 + x6 := by rw [hx7]; exact w32_id (by omega)
      refine zG_w (c' := (42, [.inr (.inr (some 97)), .inl a1, .inl x7], [.inl a1, .inl x7, .inr (.inr (some 98))])) 7 hd0 hz (by subst hx7; subst hx6; rfl) ?_
      refine zG_iast hd0 hz rfl rfl (by omega) ?_
      obtain ⟨M8, hM8⟩ : ∃ X : zM, X = zput M 98 (x7 : Int).toNat a1 := ⟨_, rfl⟩
      rw [← hM8]
      have hCM8 : qMI M8 := by rw [hM8]; exact hC.put98' (qOS_st (by omega) (by omega) (fun _ _ _ => by omega)) (by omega) (by omega)
      have hWM8 : qFm [98] M M8 := by rw [hM8]; exact hW.pa (by decide) (by decide)
      have e9 : M8 98 1 = M 98 1 := by rw [hM8]; exact qput_nk (by omega)
      show zG n (0, 0) d 188 (43, [.inr (.inr (some 97)), .inl a1, .inl x7], []) M8 _
      obtain ⟨x10, hx10⟩ : ∃ x : Int, x = w32 (x7 + 1) := ⟨_, rfl⟩
      have hx10e : x10 = x7 + 1 := by rw [hx10]; exact w32_id (by omega)
      refine zG_w (c' := (51, [.inr (.inr (some 97)), .inl a1, .inl x7], [.inl (-1), .inl x10, .inr (.inr (some 98))])) 6 hd0 hz (by subst hx10; rfl) ?_
      refine zG_iast hd0 hz rfl rfl (by omega) ?_
      obtain ⟨M11, hM11⟩ : ∃ X : zM, X = zput M8 98 (x10 : Int).toNat (-1) := ⟨_, rfl⟩
      rw [← hM11]
      have hCM11 : qMI M11 := by rw [hM11]; exact hCM8.put98' (qOS_st (by omega) (by omega) (fun _ _ _ => by omega)) (by omega) (by omega)
      have hWM11 : qFm [98] M M11 := by rw [hM11]; exact hWM8.pa (by decide) (by decide)
      have e12 : M11 98 1 = M8 98 1 := by rw [hM11]; exact qput_nk (by omega)
      show zG n (0, 0) d 188 (52, [.inr (.inr (some 97)), .inl a1, .inl x7], []) M11 _
      obtain ⟨x13, hx13⟩ : ∃ x : Int, x = w32 (x7 + 2) := ⟨_, rfl⟩
      have hx13e : x13 = x7 + 2 := by rw [hx13]; exact w32_id (by omega)
      refine zG_w (c' := (60, [.inr (.inr (some 97)), .inl a1, .inl x7], [.inl 0, .inl x13, .inr (.inr (some 98))])) 6 hd0 hz (by subst hx13; rfl) ?_
      refine zG_iast hd0 hz rfl rfl (by omega) ?_
      obtain ⟨M14, hM14⟩ : ∃ X : zM, X = zput M11 98 (x13 : Int).toNat 0 := ⟨_, rfl⟩
      rw [← hM14]
      have hCM14 : qMI M14 := by rw [hM14]; exact hCM11.put98' (qOS_st (by omega) (by omega) (fun _ _ _ => by omega)) (by omega) (by omega)
      have hWM14 : qFm [98] M M14 := by rw [hM14]; exact hWM11.pa (by decide) (by decide)
      have e15 : M14 98 1 = M11 98 1 := by rw [hM14]; exact qput_nk (by omega)
      show zG n (0, 0) d 188 (61, [.inr (.inr (some 97)), .inl a1, .inl x7], []) M14 _
      refine zG_wc (c1 := (66, [.inr (.inr (some 97)), .inl a1, .inl x7], [])) 2 hd0 hz zp_183 (qx_oneC (by first | exact zdk hd rfl | omega) hCM14   1 (by decide) (by decide) (by refine ⟨by omega, fun _ => by omega, fun _ => by omega, fun _ => by omega, fun _ => by omega, fun _ => by omega, fun _ => by omega, fun _ => by omega, fun c9 hc9 _ => by omega, fun u9 hu9 _ => by omega, fun m9 hm9 _ => by omega, fun a9 ha9 => ⟨fun _ => by omega, fun _ => by omega, fun _ => by omega, fun _ => by omega⟩, fun t9 ht9 _ => by omega, fun o9 ho9 _ => by omega⟩) ) (by rfl) (fun vr M16 hr => ?_)
      obtain ⟨⟨hCM16, hFM16⟩, x17, rfl, hx17, hpx17_0, hpx17_1⟩ := hr
      have hWM16 : qFm [98] M M16 := hWM14.tr hFM16 (by decide)
      show zG n (0, 0) d 188 (66, [.inr (.inr (some 97)), .inl a1, .inl x7], [.inl x17]) M16 _
      exact zG_wr (r := some (.inl x17)) 0 hd0 hz (by rfl) ⟨⟨hCM16, hWM16⟩, _, rfl, by omega⟩
    · exact zG_wr (r := some (.inl (-4))) 1 hd0 hz (by rfl) ⟨⟨hC, hW⟩, _, rfl, by omega⟩
  · exact zG_wr (r := some (.inl (-2))) 1 hd0 hz (by rfl) ⟨⟨hC, hW⟩, _, rfl, by omega⟩
theorem qm_189_97 {n d : Nat} {M : zM} (hd : 2 ≤ d) (hC : qMI M)  (a1 : Int) (ha1 : (-2147483648) ≤ a1 ∧ a1 ≤ 2147483647) (a2 : Int) (ha2 : (-2147483648) ≤ a2 ∧ a2 ≤ 2147483647) : qOkN n d 189 [.inr (.inr (some 97)), .inl a1, .inl a2] 3 [98] M (fun v M' => ∃ x : Int, v = some (.inl x) ∧ ((-2147483648) ≤ x ∧ x ≤ 2147483647)) := by
  have hz := zp_189
  have hd0 : 0 < d := by omega
  have hW : qFm [98] M M := qFm.rfl
  have r1 := hC.cnt2
  show zG n (0, 0) d 189 (0, [.inr (.inr (some 97)), .inl a1, .inl a2], []) M _
  refine zG_wp (pc := 8) (L := [.inr (.inr (some 97)), .inl a1, .inl a2]) (st := []) 3 hd0 hz zp_180 (qx_in (by first | exact zdk hd rfl | omega) hC   a1 (by first | with_reducible exact ha1 | omega) 1 (by first | decide | omega) 1023 (by first | decide | omega) ) (by rfl) (fun x3 hx3 => ?_)
  have j21 : zG n (0, 0) d 189 (21, [.inr (.inr (some 97)), .inl a1, .inl a2], []) M (fun v M' => (qMI M' ∧ qFm [98] M M') ∧ ∃ x : Int, v = some (.inl x) ∧ ((-2147483648) ≤ x ∧ x ≤ 2147483647)) := by
    exact zG_wr (r := some (.inl (-2))) 1 hd0 hz (by rfl) ⟨⟨hC, hW⟩, _, rfl, by omega⟩
  refine zG_wf_eq (pc := 8) (n' := 11) (t := 21) (L := [.inr (.inr (some 97)), .inl a1, .inl a2]) (st := []) (x := x3) 0 hd0 hz (by rfl) (fun hb4 => ?_) (fun hb4 => ?_)
  · exact j21
  · have hcx3 := hx3.2.2.mp (by omega)
    clear hx3 hb4
    refine zG_wp (pc := 18) (L := [.inr (.inr (some 97)), .inl a1, .inl a2]) (st := []) 3 hd0 hz zp_180 (qx_in (by first | exact zdk hd rfl | omega) hC   a2 (by first | with_reducible exact ha2 | omega) 1 (by first | decide | omega) 10 (by first | decide | omega) ) (by rfl) (fun x6 hx6 => ?_)
    refine zG_wf_ne (pc := 18) (n' := 21) (t := 24) (L := [.inr (.inr (some 97)), .inl a1, .inl a2]) (st := []) (x := x6) 0 hd0 hz (by rfl) (fun hb7 => ?_) (fun hb7 => ?_)
    · have hcx6 := hx6.2.2.mp (by omega)
      clear hx6 hb7
      refine zG_w (c' := (29, [.inr (.inr (some 97)), .inl a1, .inl a2], [.inl 2, .inr (.inr (some 98))])) 3 hd0 hz (by rfl) ?_
      refine zG_iald hd0 hz rfl rfl (.inl rfl) (by omega) ?_
      show zG n (0, 0) d 189 (30, [.inr (.inr (some 97)), .inl a1, .inl a2], [.inl (M 98 2)]) M _
      refine zG_wi_ne (pc := 31) (n' := 34) (t := 37) (L := [.inr (.inr (some 97)), .inl a1, .inl a2]) (st := []) (x := (M 98 2)) (y := 4) 1 hd0 hz (by rfl) (fun hb8 => ?_) (fun hb8 => ?_)
      · refine zG_w (c' := (50, [.inr (.inr (some 97)), .inl a1, .inl a2], [.inl 2, .inr (.inr (some 98)), .inl 2, .inl 140, .inr (.inr (some 98))])) 7 hd0 hz (by rfl) ?_
        refine zG_iald hd0 hz rfl rfl (.inl rfl) (by omega) ?_
        show zG n (0, 0) d 189 (51, [.inr (.inr (some 97)), .inl a1, .inl a2], [.inl (M 98 2), .inl 2, .inl 140, .inr (.inr (some 98))]) M _
        obtain ⟨x9, hx9⟩ : ∃ x : Int, x = w32 (2 * (M 98 2)) := ⟨_, rfl⟩
        have hx9e : x9 = 2 * (M 98 2) := by rw [hx9]; exact w32_id (by omega)
        obtain ⟨x10, hx10⟩ : ∃ x : Int, x = w32 (140 + x9) := ⟨_, rfl⟩
        have hx10e : x10 = 140 + x9 := by rw [hx10]; exact w32_id (by omega)
        refine zG_w (c' := (54, [.inr (.inr (some 97)), .inl a1, .inl a2], [.inl a1, .inl x10, .inr (.inr (some 98))])) 3 hd0 hz (by subst hx10; subst hx9; rfl) ?_
        refine zG_iast hd0 hz rfl rfl (by omega) ?_
        obtain ⟨M11, hM11⟩ : ∃ X : zM, X = zput M 98 (x10 : Int).toNat a1 := ⟨_, rfl⟩
        rw [← hM11]
        have hCM11 : qMI M11 := by rw [hM11]; exact hC.put98' (qOS_bd (by omega) (by omega)) (by omega) (by omega)
        have hWM11 : qFm [98] M M11 := by rw [hM11]; exact hW.pa (by decide) (by decide)
        have e12 : M11 98 2 = M 98 2 := by rw [hM11]; exact qput_nk (by omega)
        show zG n (0, 0) d 189 (55, [.inr (.inr (some 97)), .inl a1, .inl a2], []) M11 _
        refine zG_w (c' := (68, [.inr (.inr (some 97)), .inl a1, .inl a2], [.inl 2, .inr (.inr (some 98)), .inl 2, .inl 140, .inr (.inr (some 98))])) 7 hd0 hz (by rfl) ?_
        refine zG_iald hd0 hz rfl rfl (.inl rfl) (by omega) ?_
        show zG n (0, 0) d 189 (69, [.inr (.inr (some 97)), .inl a1, .inl a2], [.inl (M11 98 2), .inl 2, .inl 140, .inr (.inr (some 98))]) M11 _
        obtain ⟨x13, hx13⟩ : ∃ x : Int, x = w32 (2 * (M11 98 2)) := ⟨_, rfl⟩
        have hx13e : x13 = 2 * (M11 98 2) := by rw [hx13]; exact w32_id (by omega)
        obtain ⟨x14, hx14⟩ : ∃ x : Int, x = w32 (140 + x13) := ⟨_, rfl⟩
        have hx14e : x14 = 140 + x13 := by rw [hx14]; exact w32_id (by omega)
        obtain ⟨x15, hx15⟩ : ∃ x : Int, x = w32 (x14 + 1) := ⟨_, rfl⟩
        have hx15e : x15 = x14 + 1 := by rw [hx15]; exact w32_id (by omega)
        refine zG_w (c' := (74, [.inr (.inr (some 97)), .inl a1, .inl a2], [.inl a2, .inl x15, .inr (.inr (some 98))])) 5 hd0 hz (by subst hx15; subst hx14; subst hx13; rfl) ?_
        refine zG_iast hd0 hz rfl rfl (by omega) ?_
        obtain ⟨M16, hM16⟩ : ∃ X : zM, X = zput M11 98 (x15 : Int).toNat a2 := ⟨_, rfl⟩
        rw [← hM16]
        have hCM16 : qMI M16 := by rw [hM16]; exact hCM11.put98' (qOS_bd (by omega) (by omega)) (by omega) (by omega)
        have hWM16 : qFm [98] M M16 := by rw [hM16]; exact hWM11.pa (by decide) (by decide)
        have e17 : M16 98 2 = M11 98 2 := by rw [hM16]; exact qput_nk (by omega)
        show zG n (0, 0) d 189 (75, [.inr (.inr (some 97)), .inl a1, .inl a2], []) M16 _
        refine zG_wc (c1 := (80, [.inr (.inr (some 97)), .inl a1, .inl a2], [])) 2 hd0 hz zp_183 (qx_oneC (by first | exact zdk hd rfl | omega) hCM16   2 (by decide) (by decide) (by refine ⟨by omega, fun _ => by omega, fun _ => by omega, fun _ => by omega, fun _ => by omega, fun _ => by omega, fun _ => by omega, fun _ => by omega, fun c9 hc9 _ => by omega, fun u9 hu9 _ => by omega, fun m9 hm9 _ => by omega, fun a9 ha9 => ⟨fun _ => by omega, fun _ => by omega, fun _ => by omega, fun _ => by omega⟩, fun t9 ht9 _ => by omega, fun o9 ho9 _ => by omega⟩) ) (by rfl) (fun vr M18 hr => ?_)
        obtain ⟨⟨hCM18, hFM18⟩, x19, rfl, hx19, hpx19_0, hpx19_1⟩ := hr
        have hWM18 : qFm [98] M M18 := hWM16.tr hFM18 (by decide)
        show zG n (0, 0) d 189 (80, [.inr (.inr (some 97)), .inl a1, .inl a2], [.inl x19]) M18 _
        exact zG_wr (r := some (.inl x19)) 0 hd0 hz (by rfl) ⟨⟨hCM18, hWM18⟩, _, rfl, by omega⟩
      · exact zG_wr (r := some (.inl (-4))) 1 hd0 hz (by rfl) ⟨⟨hC, hW⟩, _, rfl, by omega⟩
    · exact j21
theorem qm_190_97 {n d : Nat} {M : zM} (hd : 3 ≤ d) (hC : qMI M)  (a1 : Int) (ha1 : (-2147483648) ≤ a1 ∧ a1 ≤ 2147483647) (a2 : Int) (ha2 : (-2147483648) ≤ a2 ∧ a2 ≤ 2147483647) (a3 : Int) (ha3 : (-2147483648) ≤ a3 ∧ a3 ≤ 2147483647) (a4 : Int) (ha4 : (-2147483648) ≤ a4 ∧ a4 ≤ 2147483647) : qOkN n d 190 [.inr (.inr (some 97)), .inl a1, .inl a2, .inl a3, .inl a4] 6 [98] M (fun v M' => ∃ x : Int, v = some (.inl x) ∧ ((-2147483648) ≤ x ∧ x ≤ 2147483647)) := by
  have hz := zp_190
  have hd0 : 0 < d := by omega
  have hW : qFm [98] M M := qFm.rfl
  have r1 := hC.cnt3
  have r2 := hC.cnt2
  show zG n (0, 0) d 190 (0, [.inr (.inr (some 97)), .inl a1, .inl a2, .inl a3, .inl a4, zN], []) M _
  refine zG_wp (pc := 6) (L := [.inr (.inr (some 97)), .inl a1, .inl a2, .inl a3, .inl a4, zN]) (st := []) 3 hd0 hz zp_182 (qx_is (by first | exact zdk hd rfl | omega) hC   2 (by first | decide | omega) a1 (by first | with_reducible exact ha1 | omega) ) (by rfl) (fun x4 hx4 => ?_)
  have j39 : zG n (0, 0) d 190 (39, [.inr (.inr (some 97)), .inl a1, .inl a2, .inl a3, .inl a4, zN], []) M (fun v M' => (qMI M' ∧ qFm [98] M M') ∧ ∃ x : Int, v = some (.inl x) ∧ ((-2147483648) ≤ x ∧ x ≤ 2147483647)) := by
    exact zG_wr (r := some (.inl (-2))) 1 hd0 hz (by rfl) ⟨⟨hC, hW⟩, _, rfl, by omega⟩
  refine zG_wf_eq (pc := 6) (n' := 9) (t := 39) (L := [.inr (.inr (some 97)), .inl a1, .inl a2, .inl a3, .inl a4, zN]) (st := []) (x := x4) 0 hd0 hz (by rfl) (fun hb5 => ?_) (fun hb5 => ?_)
  · exact j39
  · have hcx4 := hx4.2.2.mp (by omega)
    clear hx4 hb5
    refine zG_wp (pc := 13) (L := [.inr (.inr (some 97)), .inl a1, .inl a2, .inl a3, .inl a4, zN]) (st := []) 1 hd0 hz zp_184 (qm_184 (by first | exact zdk hd rfl | omega) hC   a2 (by first | with_reducible exact ha2 | omega) ) (by rfl) (fun x7 hr => ?_)
    obtain ⟨hx7, hpx7_0⟩ := hr
    refine zG_wf_eq (pc := 13) (n' := 16) (t := 39) (L := [.inr (.inr (some 97)), .inl a1, .inl a2, .inl a3, .inl a4, zN]) (st := []) (x := x7) 0 hd0 hz (by rfl) (fun hb8 => ?_) (fun hb8 => ?_)
    · exact j39
    · have hcx7 := hpx7_0.mp (by omega)
      clear hx7 hpx7_0 hb8
      refine zG_wp (pc := 24) (L := [.inr (.inr (some 97)), .inl a1, .inl a2, .inl a3, .inl a4, zN]) (st := []) 3 hd0 hz zp_180 (qx_in (by first | exact zdk hd rfl | omega) hC   a3 (by first | with_reducible exact ha3 | omega) 0 (by first | decide | omega) 1023 (by first | decide | omega) ) (by rfl) (fun x10 hx10 => ?_)
      refine zG_wf_eq (pc := 24) (n' := 27) (t := 39) (L := [.inr (.inr (some 97)), .inl a1, .inl a2, .inl a3, .inl a4, zN]) (st := []) (x := x10) 0 hd0 hz (by rfl) (fun hb11 => ?_) (fun hb11 => ?_)
      · exact j39
      · have hcx10 := hx10.2.2.mp (by omega)
        clear hx10 hb11
        refine zG_wp (pc := 36) (L := [.inr (.inr (some 97)), .inl a1, .inl a2, .inl a3, .inl a4, zN]) (st := []) 3 hd0 hz zp_180 (qx_in (by first | exact zdk hd rfl | omega) hC   a4 (by first | with_reducible exact ha4 | omega) 0 (by first | decide | omega) 1023 (by first | decide | omega) ) (by rfl) (fun x13 hx13 => ?_)
        refine zG_wf_ne (pc := 36) (n' := 39) (t := 42) (L := [.inr (.inr (some 97)), .inl a1, .inl a2, .inl a3, .inl a4, zN]) (st := []) (x := x13) 0 hd0 hz (by rfl) (fun hb14 => ?_) (fun hb14 => ?_)
        · have hcx13 := hx13.2.2.mp (by omega)
          clear hx13 hb14
          refine zG_w (c' := (47, [.inr (.inr (some 97)), .inl a1, .inl a2, .inl a3, .inl a4, zN], [.inl 3, .inr (.inr (some 98))])) 3 hd0 hz (by rfl) ?_
          refine zG_iald hd0 hz rfl rfl (.inl rfl) (by omega) ?_
          show zG n (0, 0) d 190 (48, [.inr (.inr (some 97)), .inl a1, .inl a2, .inl a3, .inl a4, zN], [.inl (M 98 3)]) M _
          refine zG_wi_ne (pc := 50) (n' := 53) (t := 56) (L := [.inr (.inr (some 97)), .inl a1, .inl a2, .inl a3, .inl a4, zN]) (st := []) (x := (M 98 3)) (y := 40) 1 hd0 hz (by rfl) (fun hb15 => ?_) (fun hb15 => ?_)
          · refine zG_w (c' := (65, [.inr (.inr (some 97)), .inl a1, .inl a2, .inl a3, .inl a4, zN], [.inl 3, .inr (.inr (some 98)), .inl 5, .inl 150])) 5 hd0 hz (by rfl) ?_
            refine zG_iald hd0 hz rfl rfl (.inl rfl) (by omega) ?_
            show zG n (0, 0) d 190 (66, [.inr (.inr (some 97)), .inl a1, .inl a2, .inl a3, .inl a4, zN], [.inl (M 98 3), .inl 5, .inl 150]) M _
            obtain ⟨x16, hx16⟩ : ∃ x : Int, x = w32 (5 * (M 98 3)) := ⟨_, rfl⟩
            have hx16e : x16 = 5 * (M 98 3) := by rw [hx16]; exact w32_id (by omega)
            obtain ⟨x17, hx17⟩ : ∃ x : Int, x = w32 (150 + x16) := ⟨_, rfl⟩
            have hx17e : x17 = 150 + x16 := by rw [hx17]; exact w32_id (by omega)
            refine zG_w (c' := (77, [.inr (.inr (some 97)), .inl a1, .inl a2, .inl a3, .inl a4, .inl x17], [.inl a1, .inl x17, .inr (.inr (some 98))])) 7 hd0 hz (by subst hx17; subst hx16; rfl) ?_
            refine zG_iast hd0 hz rfl rfl (by omega) ?_
            obtain ⟨M18, hM18⟩ : ∃ X : zM, X = zput M 98 (x17 : Int).toNat a1 := ⟨_, rfl⟩
            rw [← hM18]
            have hCM18 : qMI M18 := by rw [hM18]; exact hC.put98' (qOS_mt (by omega) (by omega) (fun _ _ _ => by omega)) (by omega) (by omega)
            have hWM18 : qFm [98] M M18 := by rw [hM18]; exact hW.pa (by decide) (by decide)
            have e19 : M18 98 3 = M 98 3 := by rw [hM18]; exact qput_nk (by omega)
            have e20 : M18 98 2 = M 98 2 := by rw [hM18]; exact qput_nk (by omega)
            show zG n (0, 0) d 190 (78, [.inr (.inr (some 97)), .inl a1, .inl a2, .inl a3, .inl a4, .inl x17], []) M18 _
            obtain ⟨x21, hx21⟩ : ∃ x : Int, x = w32 (x17 + 1) := ⟨_, rfl⟩
            have hx21e : x21 = x17 + 1 := by rw [hx21]; exact w32_id (by omega)
            refine zG_w (c' := (87, [.inr (.inr (some 97)), .inl a1, .inl a2, .inl a3, .inl a4, .inl x17], [.inl a2, .inl x21, .inr (.inr (some 98))])) 6 hd0 hz (by subst hx21; rfl) ?_
            refine zG_iast hd0 hz rfl rfl (by omega) ?_
            obtain ⟨M22, hM22⟩ : ∃ X : zM, X = zput M18 98 (x21 : Int).toNat a2 := ⟨_, rfl⟩
            rw [← hM22]
            have hCM22 : qMI M22 := by rw [hM22]; exact hCM18.put98' (qOS_mt (by omega) (by omega) (fun _ _ _ => by omega)) (by omega) (by omega)
            have hWM22 : qFm [98] M M22 := by rw [hM22]; exact hWM18.pa (by decide) (by decide)
            have e23 : M22 98 3 = M18 98 3 := by rw [hM22]; exact qput_nk (by omega)
            have e24 : M22 98 2 = M18 98 2 := by rw [hM22]; exact qput_nk (by omega)
            show zG n (0, 0) d 190 (88, [.inr (.inr (some 97)), .inl a1, .inl a2, .inl a3, .inl a4, .inl x17], []) M22 _
            obtain ⟨x25, hx25⟩ : ∃ x : Int, x = w32 (x17 + 2) := ⟨_, rfl⟩
            have hx25e : x25 = x17 + 2 := by rw [hx25]; exact w32_id (by omega)
            refine zG_w (c' := (97, [.inr (.inr (some 97)), .inl a1, .inl a2, .inl a3, .inl a4, .inl x17], [.inl a3, .inl x25, .inr (.inr (some 98))])) 6 hd0 hz (by subst hx25; rfl) ?_
            refine zG_iast hd0 hz rfl rfl (by omega) ?_
            obtain ⟨M26, hM26⟩ : ∃ X : zM, X = zput M22 98 (x25 : Int).toNat a3 := ⟨_, rfl⟩
            rw [← hM26]
            have hCM26 : qMI M26 := by rw [hM26]; exact hCM22.put98' (qOS_mt (by omega) (by omega) (fun _ _ _ => by omega)) (by omega) (by omega)
            have hWM26 : qFm [98] M M26 := by rw [hM26]; exact hWM22.pa (by decide) (by decide)
            have e27 : M26 98 3 = M22 98 3 := by rw [hM26]; exact qput_nk (by omega)
            have e28 : M26 98 2 = M22 98 2 := by rw [hM26]; exact qput_nk (by omega)
            show zG n (0, 0) d 190 (98, [.inr (.inr (some 97)), .inl a1, .inl a2, .inl a3, .inl a4, .inl x17], []) M26 _
            obtain ⟨x29, hx29⟩ : ∃ x : Int, x = w32 (x17 + 3) := ⟨_, rfl⟩
            have hx29e : x29 = x17 + 3 := by rw [hx29]; exact w32_id (by omega)
            refine zG_w (c' := (108, [.inr (.inr (some 97)), .inl a1, .inl a2, .inl a3, .inl a4, .inl x17], [.inl a4, .inl x29, .inr (.inr (some 98))])) 6 hd0 hz (by subst hx29; rfl) ?_
            refine zG_iast hd0 hz rfl rfl (by omega) ?_
            obtain ⟨M30, hM30⟩ : ∃ X : zM, X = zput M26 98 (x29 : Int).toNat a4 := ⟨_, rfl⟩
            rw [← hM30]
            have hCM30 : qMI M30 := by rw [hM30]; exact hCM26.put98' (qOS_mt (by omega) (by omega) (fun _ _ _ => by omega)) (by omega) (by omega)
            have hWM30 : qFm [98] M M30 := by rw [hM30]; exact hWM26.pa (by decide) (by decide)
            have e31 : M30 98 3 = M26 98 3 := by rw [hM30]; exact qput_nk (by omega)
            have e32 : M30 98 2 = M26 98 2 := by rw [hM30]; exact qput_nk (by omega)
            show zG n (0, 0) d 190 (109, [.inr (.inr (some 97)), .inl a1, .inl a2, .inl a3, .inl a4, .inl x17], []) M30 _
            obtain ⟨x33, hx33⟩ : ∃ x : Int, x = w32 (x17 + 4) := ⟨_, rfl⟩
            have hx33e : x33 = x17 + 4 := by rw [hx33]; exact w32_id (by omega)
            refine zG_w (c' := (118, [.inr (.inr (some 97)), .inl a1, .inl a2, .inl a3, .inl a4, .inl x17], [.inl 0, .inl x33, .inr (.inr (some 98))])) 6 hd0 hz (by subst hx33; rfl) ?_
            refine zG_iast hd0 hz rfl rfl (by omega) ?_
            obtain ⟨M34, hM34⟩ : ∃ X : zM, X = zput M30 98 (x33 : Int).toNat 0 := ⟨_, rfl⟩
            rw [← hM34]
            have hCM34 : qMI M34 := by rw [hM34]; exact hCM30.put98' (qOS_mt (by omega) (by omega) (fun _ _ _ => by omega)) (by omega) (by omega)
            have hWM34 : qFm [98] M M34 := by rw [hM34]; exact hWM30.pa (by decide) (by decide)
            have e35 : M34 98 3 = M30 98 3 := by rw [hM34]; exact qput_nk (by omega)
            have e36 : M34 98 2 = M30 98 2 := by rw [hM34]; exact qput_nk (by omega)
            show zG n (0, 0) d 190 (119, [.inr (.inr (some 97)), .inl a1, .inl a2, .inl a3, .inl a4, .inl x17], []) M34 _
            refine zG_wc (c1 := (124, [.inr (.inr (some 97)), .inl a1, .inl a2, .inl a3, .inl a4, .inl x17], [])) 2 hd0 hz zp_183 (qx_oneC (by first | exact zdk hd rfl | omega) hCM34   3 (by decide) (by decide) (by refine ⟨by omega, fun _ => by omega, fun _ => by omega, fun _ => by omega, fun _ => by omega, fun _ => by omega, fun _ => by omega, fun _ => by omega, fun c9 hc9 _ => by omega, fun u9 hu9 _ => by omega, fun m9 hm9 _ => by omega, fun a9 ha9 => ⟨fun _ => by omega, fun _ => by omega, fun _ => by omega, fun _ => by omega⟩, fun t9 ht9 _ => by omega, fun o9 ho9 _ => by omega⟩) ) (by rfl) (fun vr M37 hr => ?_)
            obtain ⟨⟨hCM37, hFM37⟩, x38, rfl, hx38, hpx38_0, hpx38_1⟩ := hr
            have hWM37 : qFm [98] M M37 := hWM34.tr hFM37 (by decide)
            have e40 : M37 98 2 = M34 98 2 := hpx38_1 _ (by omega)
            show zG n (0, 0) d 190 (124, [.inr (.inr (some 97)), .inl a1, .inl a2, .inl a3, .inl a4, .inl x17], [.inl x38]) M37 _
            exact zG_wr (r := some (.inl x38)) 0 hd0 hz (by rfl) ⟨⟨hCM37, hWM37⟩, _, rfl, by omega⟩
          · exact zG_wr (r := some (.inl (-4))) 1 hd0 hz (by rfl) ⟨⟨hC, hW⟩, _, rfl, by omega⟩
        · exact j39
theorem qm_191_97 {n d : Nat} {M : zM} (hd : 3 ≤ d) (hC : qMI M)  (a1 : Int) (ha1 : (-2147483648) ≤ a1 ∧ a1 ≤ 2147483647) (a2 : Int) (ha2 : 0 ≤ a2 ∧ a2 ≤ 1) : qOkN n d 191 [.inr (.inr (some 97)), .inl a1, .inl a2] 4 [98] M (fun v M' => ∃ x : Int, v = some (.inl x) ∧ ((-3) ≤ x ∧ x ≤ 1)) := by
  have hz := zp_191
  have hd0 : 0 < d := by omega
  have hW : qFm [98] M M := qFm.rfl
  have r1 := hC.cnt3
  show zG n (0, 0) d 191 (0, [.inr (.inr (some 97)), .inl a1, .inl a2, zN], []) M _
  refine zG_wp (pc := 6) (L := [.inr (.inr (some 97)), .inl a1, .inl a2, zN]) (st := []) 3 hd0 hz zp_182 (qx_is (by first | exact zdk hd rfl | omega) hC   3 (by first | decide | omega) a1 (by first | with_reducible exact ha1 | omega) ) (by rfl) (fun x3 hx3 => ?_)
  refine zG_wf_ne (pc := 6) (n' := 9) (t := 12) (L := [.inr (.inr (some 97)), .inl a1, .inl a2, zN]) (st := []) (x := x3) 0 hd0 hz (by rfl) (fun hb4 => ?_) (fun hb4 => ?_)
  · have hcx3 := hx3.2.2.mp (by omega)
    clear hx3 hb4
    obtain ⟨x5, hx5⟩ : ∃ x : Int, x = w32 (5 * a1) := ⟨_, rfl⟩
    have hx5e : x5 = 5 * a1 := by rw [hx5]; exact w32_id (by omega)
    obtain ⟨x6, hx6⟩ : ∃ x : Int, x = w32 (150 + x5) := ⟨_, rfl⟩
    have hx6e : x6 = 150 + x5 := by rw [hx6]; exact w32_id (by omega)
    obtain ⟨x7, hx7⟩ : ∃ x : Int, x = w32 (x6 + 4) := ⟨_, rfl⟩
    have hx7e : x7 = x6 + 4 := by rw [hx7]; exact w32_id (by omega)
    refine zG_w (c' := (27, [.inr (.inr (some 97)), .inl a1, .inl a2, .inl x7], [.inl x7, .inr (.inr (some 98))])) 11 hd0 hz (by subst hx7; subst hx6; subst hx5; rfl) ?_
    refine zG_iald hd0 hz rfl rfl (.inl rfl) (by omega) ?_
    obtain ⟨x8, hx8⟩ : ∃ x : Int, x = M 98 (x7 : Int).toNat := ⟨_, rfl⟩
    rw [← hx8]
    have hx8r : qin x8 := by rw [hx8]; exact hC.sin _
    show zG n (0, 0) d 191 (28, [.inr (.inr (some 97)), .inl a1, .inl a2, .inl x7], [.inl x8]) M _
    refine zG_w (c' := (29, [.inr (.inr (some 97)), .inl a1, .inl a2, .inl x7], [.inl 1, .inl x8])) 1 hd0 hz (by rfl) ?_
    have j37 : ∀ (v9 : Int) , 0 ≤ v9 ∧ v9 ≤ 1 → zG n (0, 0) d 191 (37, [.inr (.inr (some 97)), .inl a1, .inl a2, .inl x7], [.inl v9]) M (fun v M' => (qMI M' ∧ qFm [98] M M') ∧ ∃ x : Int, v = some (.inl x) ∧ ((-3) ≤ x ∧ x ≤ 1)) := by
      intro v9 hv9
      refine zG_wi_ne (pc := 38) (n' := 41) (t := 44) (L := [.inr (.inr (some 97)), .inl a1, .inl a2, .inl x7]) (st := []) (x := v9) (y := a2) 1 hd0 hz (by rfl) (fun hb10 => ?_) (fun hb10 => ?_)
      · refine zG_w (c' := (50, [.inr (.inr (some 97)), .inl a1, .inl a2, .inl x7], [.inl a2, .inl x7, .inr (.inr (some 98))])) 4 hd0 hz (by rfl) ?_
        have j58 : ∀ (v11 : Int) , 0 ≤ v11 ∧ v11 ≤ 1 → zG n (0, 0) d 191 (58, [.inr (.inr (some 97)), .inl a1, .inl a2, .inl x7], [.inl v11, .inl x7, .inr (.inr (some 98))]) M (fun v M' => (qMI M' ∧ qFm [98] M M') ∧ ∃ x : Int, v = some (.inl x) ∧ ((-3) ≤ x ∧ x ≤ 1)) := by
          intro v11 hv11
          refine zG_iast hd0 hz rfl rfl (by omega) ?_
          obtain ⟨M12, hM12⟩ : ∃ X : zM, X = zput M 98 (x7 : Int).toNat v11 := ⟨_, rfl⟩
          rw [← hM12]
          have hCM12 : qMI M12 := by rw [hM12]; exact hC.put98' (qOS_mt (by omega) (by omega) (fun _ _ _ => by omega)) (by omega) (by omega)
          have hWM12 : qFm [98] M M12 := by rw [hM12]; exact hW.pa (by decide) (by decide)
          have e13 : M12 98 3 = M 98 3 := by rw [hM12]; exact qput_nk (by omega)
          show zG n (0, 0) d 191 (59, [.inr (.inr (some 97)), .inl a1, .inl a2, .inl x7], []) M12 _
          exact zG_wr (r := some (.inl 1)) 1 hd0 hz (by rfl) ⟨⟨hCM12, hWM12⟩, _, rfl, by omega⟩
        refine zG_wf_eq (pc := 50) (n' := 53) (t := 57) (L := [.inr (.inr (some 97)), .inl a1, .inl a2, .inl x7]) (st := [.inl x7, .inr (.inr (some 98))]) (x := a2) 0 hd0 hz (by rfl) (fun hb14 => ?_) (fun hb14 => ?_)
        · refine zG_w (c' := (58, [.inr (.inr (some 97)), .inl a1, .inl a2, .inl x7], [.inl 0, .inl x7, .inr (.inr (some 98))])) 1 hd0 hz (by rfl) ?_
          exact j58 0 (by first | decide | omega)
        · refine zG_w (c' := (58, [.inr (.inr (some 97)), .inl a1, .inl a2, .inl x7], [.inl 1, .inl x7, .inr (.inr (some 98))])) 2 hd0 hz (by rfl) ?_
          exact j58 1 (by first | decide | omega)
      · exact zG_wr (r := some (.inl (-3))) 1 hd0 hz (by rfl) ⟨⟨hC, hW⟩, _, rfl, by omega⟩
    refine zG_wi_ne (pc := 29) (n' := 32) (t := 36) (L := [.inr (.inr (some 97)), .inl a1, .inl a2, .inl x7]) (st := []) (x := x8) (y := 1) 0 hd0 hz (by rfl) (fun hb15 => ?_) (fun hb15 => ?_)
    · refine zG_w (c' := (37, [.inr (.inr (some 97)), .inl a1, .inl a2, .inl x7], [.inl 0])) 1 hd0 hz (by rfl) ?_
      exact j37 0 (by first | decide | omega)
    · refine zG_w (c' := (37, [.inr (.inr (some 97)), .inl a1, .inl a2, .inl x7], [.inl 1])) 2 hd0 hz (by rfl) ?_
      exact j37 1 (by first | decide | omega)
  · exact zG_wr (r := some (.inl (-2))) 1 hd0 hz (by rfl) ⟨⟨hC, hW⟩, _, rfl, by omega⟩
