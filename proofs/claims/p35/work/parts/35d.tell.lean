/-! THE MODEL'S METHODS, BY PROGRAM -/
theorem qm_258_97 {n d : Nat} {M : zM} (hd : 3 ≤ d) (hC : qMI M)  (a1 : Int) (ha1 : (-2147483648) ≤ a1 ∧ a1 ≤ 2147483647) (a2 : Int) (ha2 : (-2147483648) ≤ a2 ∧ a2 ≤ 2147483647) : qOkN n d 258 [.inr (.inr (some 97)), .inl a1, .inl a2] 4 [98] M (fun v M' => ∃ x : Int, v = some (.inl x) ∧ ((-2147483648) ≤ x ∧ x ≤ 2147483647)) := by
  have hz := zp_258
  have hd0 : 0 < d := by omega
  have hW : qFm [98] M M := qFm.rfl
  have r1 := hC.cnt1
  have r2 := hC.cnt5
  show zG n (0, 0) d 258 (0, [.inr (.inr (some 97)), .inl a1, .inl a2, zN], []) M _
  refine zG_wp (pc := 6) (L := [.inr (.inr (some 97)), .inl a1, .inl a2, zN]) (st := []) 3 hd0 hz zp_182 (qx_is (by first | exact zdk hd rfl | omega) hC   1 (by first | decide | omega) a1 (by first | with_reducible exact ha1 | omega) ) (by rfl) (fun x4 hx4 => ?_)
  have j23 : zG n (0, 0) d 258 (23, [.inr (.inr (some 97)), .inl a1, .inl a2, zN], []) M (fun v M' => (qMI M' ∧ qFm [98] M M') ∧ ∃ x : Int, v = some (.inl x) ∧ ((-2147483648) ≤ x ∧ x ≤ 2147483647)) := by
    exact zG_wr (r := some (.inl (-10))) 1 hd0 hz (by rfl) ⟨⟨hC, hW⟩, _, rfl, by omega⟩
  refine zG_wf_eq (pc := 6) (n' := 9) (t := 23) (L := [.inr (.inr (some 97)), .inl a1, .inl a2, zN]) (st := []) (x := x4) 0 hd0 hz (by rfl) (fun hb5 => ?_) (fun hb5 => ?_)
  · exact j23
  · have hcx4 := hx4.2.2.mp (by omega)
    clear hx4 hb5
    refine zG_w (c' := (11, [.inr (.inr (some 97)), .inl a1, .inl a2, zN], [.inl (-1), .inl a2])) 2 hd0 hz (by rfl) ?_
    have j26 : (a2 = -1 ∨ (0 ≤ a2 ∧ a2 < M 98 5)) → zG n (0, 0) d 258 (26, [.inr (.inr (some 97)), .inl a1, .inl a2, zN], []) M (fun v M' => (qMI M' ∧ qFm [98] M M') ∧ ∃ x : Int, v = some (.inl x) ∧ ((-2147483648) ≤ x ∧ x ≤ 2147483647)) := by
      intro hx0_26
      obtain ⟨x6, hx6⟩ : ∃ x : Int, x = w32 (3 * a1) := ⟨_, rfl⟩
      have hx6e : x6 = 3 * a1 := by rw [hx6]; exact w32_id (by omega)
      obtain ⟨x7, hx7⟩ : ∃ x : Int, x = w32 (80 + x6) := ⟨_, rfl⟩
      have hx7e : x7 = 80 + x6 := by rw [hx7]; exact w32_id (by omega)
      obtain ⟨x8, hx8⟩ : ∃ x : Int, x = w32 (x7 + 1) := ⟨_, rfl⟩
      have hx8e : x8 = x7 + 1 := by rw [hx8]; exact w32_id (by omega)
      refine zG_w (c' := (38, [.inr (.inr (some 97)), .inl a1, .inl a2, zN], [.inl x8, .inr (.inr (some 98))])) 9 hd0 hz (by subst hx8; subst hx7; subst hx6; rfl) ?_
      refine zG_iald hd0 hz rfl rfl (.inl rfl) (by omega) ?_
      obtain ⟨x9, hx9⟩ : ∃ x : Int, x = M 98 (x8 : Int).toNat := ⟨_, rfl⟩
      rw [← hx9]
      have hx9r : qin x9 := by rw [hx9]; exact hC.sin _
      show zG n (0, 0) d 258 (39, [.inr (.inr (some 97)), .inl a1, .inl a2, zN], [.inl x9]) M _
      obtain ⟨x10, hx10⟩ : ∃ x : Int, x = w32 (3 * a1) := ⟨_, rfl⟩
      have hx10e : x10 = 3 * a1 := by rw [hx10]; exact w32_id (by omega)
      obtain ⟨x11, hx11⟩ : ∃ x : Int, x = w32 (80 + x10) := ⟨_, rfl⟩
      have hx11e : x11 = 80 + x10 := by rw [hx11]; exact w32_id (by omega)
      obtain ⟨x12, hx12⟩ : ∃ x : Int, x = w32 (x11 + 1) := ⟨_, rfl⟩
      have hx12e : x12 = x11 + 1 := by rw [hx12]; exact w32_id (by omega)
      refine zG_w (c' := (53, [.inr (.inr (some 97)), .inl a1, .inl a2, .inl x9], [.inl a2, .inl x12, .inr (.inr (some 98))])) 11 hd0 hz (by subst hx12; subst hx11; subst hx10; rfl) ?_
      refine zG_iast hd0 hz rfl rfl (by omega) ?_
      obtain ⟨M13, hM13⟩ : ∃ X : zM, X = zput M 98 (x12 : Int).toNat a2 := ⟨_, rfl⟩
      rw [← hM13]
      have hCM13 : qMI M13 := by rw [hM13]; exact hC.put98' (qOS_st (by omega) (by omega) (fun _ _ _ => by omega)) (by omega) (by omega)
      have hWM13 : qFm [98] M M13 := by rw [hM13]; exact hW.pa (by decide) (by decide)
      have e14 : M13 98 1 = M 98 1 := by rw [hM13]; exact qput_nk (by omega)
      have e15 : M13 98 5 = M 98 5 := by rw [hM13]; exact qput_nk (by omega)
      show zG n (0, 0) d 258 (54, [.inr (.inr (some 97)), .inl a1, .inl a2, .inl x9], []) M13 _
      exact zG_wr (r := some (.inl x9)) 1 hd0 hz (by rfl) ⟨⟨hCM13, hWM13⟩, _, rfl, by omega⟩
    refine zG_wi_eq (pc := 11) (n' := 14) (t := 26) (L := [.inr (.inr (some 97)), .inl a1, .inl a2, zN]) (st := []) (x := a2) (y := (-1)) 0 hd0 hz (by rfl) (fun hb16 => ?_) (fun hb16 => ?_)
    · exact j26 (by omega)
    · refine zG_wp (pc := 20) (L := [.inr (.inr (some 97)), .inl a1, .inl a2, zN]) (st := []) 3 hd0 hz zp_182 (qx_is (by first | exact zdk hd rfl | omega) hC   5 (by first | decide | omega) a2 (by first | with_reducible exact ha2 | omega) ) (by rfl) (fun x18 hx18 => ?_)
      refine zG_wf_ne (pc := 20) (n' := 23) (t := 26) (L := [.inr (.inr (some 97)), .inl a1, .inl a2, zN]) (st := []) (x := x18) 0 hd0 hz (by rfl) (fun hb19 => ?_) (fun hb19 => ?_)
      · exact j26 (by omega)
      · exact j23
theorem qm_271_97 {n d : Nat} {M : zM} (hd : 3 ≤ d) (hC : qMI M)  (a1 : Int) (ha1 : (-2147483648) ≤ a1 ∧ a1 ≤ 2147483647) (a2 : Int) (ha2 : (-2147483648) ≤ a2 ∧ a2 ≤ 2147483647) (a3 : Int) (ha3 : 0 ≤ a3 ∧ a3 ≤ 1) : qOkN n d 271 [.inr (.inr (some 97)), .inl a1, .inl a2, .inl a3] 5 [98] M (fun v M' => ∃ x : Int, v = some (.inl x) ∧ ((-3) ≤ x ∧ x ≤ 1)) := by
  have hz := zp_271
  have hd0 : 0 < d := by omega
  have hW : qFm [98] M M := qFm.rfl
  have r1 := hC.cnt1
  have r2 := hC.cnt0
  show zG n (0, 0) d 271 (0, [.inr (.inr (some 97)), .inl a1, .inl a2, .inl a3, zN], []) M _
  refine zG_wp (pc := 6) (L := [.inr (.inr (some 97)), .inl a1, .inl a2, .inl a3, zN]) (st := []) 3 hd0 hz zp_182 (qx_is (by first | exact zdk hd rfl | omega) hC   1 (by first | decide | omega) a1 (by first | with_reducible exact ha1 | omega) ) (by rfl) (fun x4 hx4 => ?_)
  have j18 : zG n (0, 0) d 271 (18, [.inr (.inr (some 97)), .inl a1, .inl a2, .inl a3, zN], []) M (fun v M' => (qMI M' ∧ qFm [98] M M') ∧ ∃ x : Int, v = some (.inl x) ∧ ((-3) ≤ x ∧ x ≤ 1)) := by
    exact zG_wr (r := some (.inl (-2))) 1 hd0 hz (by rfl) ⟨⟨hC, hW⟩, _, rfl, by omega⟩
  refine zG_wf_eq (pc := 6) (n' := 9) (t := 18) (L := [.inr (.inr (some 97)), .inl a1, .inl a2, .inl a3, zN]) (st := []) (x := x4) 0 hd0 hz (by rfl) (fun hb5 => ?_) (fun hb5 => ?_)
  · exact j18
  · have hcx4 := hx4.2.2.mp (by omega)
    clear hx4 hb5
    refine zG_wp (pc := 15) (L := [.inr (.inr (some 97)), .inl a1, .inl a2, .inl a3, zN]) (st := []) 3 hd0 hz zp_182 (qx_is (by first | exact zdk hd rfl | omega) hC   0 (by first | decide | omega) a2 (by first | with_reducible exact ha2 | omega) ) (by rfl) (fun x7 hx7 => ?_)
    refine zG_wf_ne (pc := 15) (n' := 18) (t := 21) (L := [.inr (.inr (some 97)), .inl a1, .inl a2, .inl a3, zN]) (st := []) (x := x7) 0 hd0 hz (by rfl) (fun hb8 => ?_) (fun hb8 => ?_)
    · have hcx7 := hx7.2.2.mp (by omega)
      clear hx7 hb8
      obtain ⟨x9, hx9⟩ : ∃ x : Int, x = w32 (3 * a1) := ⟨_, rfl⟩
      have hx9e : x9 = 3 * a1 := by rw [hx9]; exact w32_id (by omega)
      obtain ⟨x10, hx10⟩ : ∃ x : Int, x = w32 (80 + x9) := ⟨_, rfl⟩
      have hx10e : x10 = 80 + x9 := by rw [hx10]; exact w32_id (by omega)
      obtain ⟨x11, hx11⟩ : ∃ x : Int, x = w32 (x10 + 2) := ⟨_, rfl⟩
      have hx11e : x11 = x10 + 2 := by rw [hx11]; exact w32_id (by omega)
      refine zG_w (c' := (37, [.inr (.inr (some 97)), .inl a1, .inl a2, .inl a3, .inl x11], [.inl x11, .inr (.inr (some 98))])) 11 hd0 hz (by subst hx11; subst hx10; subst hx9; rfl) ?_
      refine zG_iald hd0 hz rfl rfl (.inl rfl) (by omega) ?_
      obtain ⟨x12, hx12⟩ : ∃ x : Int, x = M 98 (x11 : Int).toNat := ⟨_, rfl⟩
      rw [← hx12]
      have hx12r : qin x12 := by rw [hx12]; exact hC.sin _
      show zG n (0, 0) d 271 (38, [.inr (.inr (some 97)), .inl a1, .inl a2, .inl a3, .inl x11], [.inl x12]) M _
      obtain ⟨x13, hx13⟩ : ∃ x : Int, x = zbshr x12 a2 := ⟨_, rfl⟩
      have hx13r : qin x13 := by rw [hx13]; exact qb32 _
      obtain ⟨x14, hx14⟩ : ∃ x : Int, x = zband x13 1 := ⟨_, rfl⟩
      have hx14r := qband_r x13 1 (by first | decide | omega) (by omega); rw [← hx14] at hx14r
      have hx14l : 0 ≤ x13 → x14 ≤ x13 := fun h9 => by rw [hx14]; exact (qband_l x13 1 ⟨h9, by omega⟩ (by omega)).2
      refine zG_w (c' := (43, [.inr (.inr (some 97)), .inl a1, .inl a2, .inl a3, .inl x11], [.inl 1, .inl x14])) 5 hd0 hz (by subst hx14; subst hx13; rfl) ?_
      have j51 : ∀ (v15 : Int) , 0 ≤ v15 ∧ v15 ≤ 1 → zG n (0, 0) d 271 (51, [.inr (.inr (some 97)), .inl a1, .inl a2, .inl a3, .inl x11], [.inl v15]) M (fun v M' => (qMI M' ∧ qFm [98] M M') ∧ ∃ x : Int, v = some (.inl x) ∧ ((-3) ≤ x ∧ x ≤ 1)) := by
        intro v15 hv15
        refine zG_wi_ne (pc := 52) (n' := 55) (t := 58) (L := [.inr (.inr (some 97)), .inl a1, .inl a2, .inl a3, .inl x11]) (st := []) (x := v15) (y := a3) 1 hd0 hz (by rfl) (fun hb16 => ?_) (fun hb16 => ?_)
        · refine zG_w (c' := (65, [.inr (.inr (some 97)), .inl a1, .inl a2, .inl a3, .inl x11], [.inl a3, .inl x11, .inr (.inr (some 98))])) 4 hd0 hz (by rfl) ?_
          have j95 : ∀ (v17 : Int) , (-2147483648) ≤ v17 ∧ v17 ≤ 2147483647 → zG n (0, 0) d 271 (95, [.inr (.inr (some 97)), .inl a1, .inl a2, .inl a3, .inl x11], [.inl v17, .inl x11, .inr (.inr (some 98))]) M (fun v M' => (qMI M' ∧ qFm [98] M M') ∧ ∃ x : Int, v = some (.inl x) ∧ ((-3) ≤ x ∧ x ≤ 1)) := by
            intro v17 hv17
            refine zG_iast hd0 hz rfl rfl (by omega) ?_
            obtain ⟨M18, hM18⟩ : ∃ X : zM, X = zput M 98 (x11 : Int).toNat v17 := ⟨_, rfl⟩
            rw [← hM18]
            have hCM18 : qMI M18 := by rw [hM18]; exact hC.put98' (qOS_st (by omega) (by omega) (fun _ _ _ => by omega)) (by omega) (by omega)
            have hWM18 : qFm [98] M M18 := by rw [hM18]; exact hW.pa (by decide) (by decide)
            have e19 : M18 98 1 = M 98 1 := by rw [hM18]; exact qput_nk (by omega)
            have e20 : M18 98 0 = M 98 0 := by rw [hM18]; exact qput_nk (by omega)
            show zG n (0, 0) d 271 (96, [.inr (.inr (some 97)), .inl a1, .inl a2, .inl a3, .inl x11], []) M18 _
            exact zG_wr (r := some (.inl 1)) 1 hd0 hz (by rfl) ⟨⟨hCM18, hWM18⟩, _, rfl, by omega⟩
          refine zG_wf_eq (pc := 65) (n' := 68) (t := 82) (L := [.inr (.inr (some 97)), .inl a1, .inl a2, .inl a3, .inl x11]) (st := [.inl x11, .inr (.inr (some 98))]) (x := a3) 0 hd0 hz (by rfl) (fun hb21 => ?_) (fun hb21 => ?_)
          · refine zG_w (c' := (88, [.inr (.inr (some 97)), .inl a1, .inl a2, .inl a3, .inl x11], [.inl x11, .inr (.inr (some 98)), .inl x11, .inr (.inr (some 98))])) 3 hd0 hz (by rfl) ?_
            refine zG_iald hd0 hz rfl rfl (.inl rfl) (by omega) ?_
            obtain ⟨x22, hx22⟩ : ∃ x : Int, x = M 98 (x11 : Int).toNat := ⟨_, rfl⟩
            rw [← hx22]
            have hx22r : qin x22 := by rw [hx22]; exact hC.sin _
            show zG n (0, 0) d 271 (89, [.inr (.inr (some 97)), .inl a1, .inl a2, .inl a3, .inl x11], [.inl x22, .inl x11, .inr (.inr (some 98))]) M _
            obtain ⟨x23, hx23⟩ : ∃ x : Int, x = zbshl 1 a2 := ⟨_, rfl⟩
            have hx23r := qshl1_in a2 8192 13 (by decide) (by decide) (by omega); rw [← hx23] at hx23r
            obtain ⟨x24, hx24⟩ : ∃ x : Int, x = zbxor x23 (-1) := ⟨_, rfl⟩
            have hx24r : qin x24 := by rw [hx24]; exact qb32 _
            obtain ⟨x25, hx25⟩ : ∃ x : Int, x = zband x22 x24 := ⟨_, rfl⟩
            have hx25r : qin x25 := by rw [hx25]; exact qb32 _
            refine zG_w (c' := (95, [.inr (.inr (some 97)), .inl a1, .inl a2, .inl a3, .inl x11], [.inl x25, .inl x11, .inr (.inr (some 98))])) 6 hd0 hz (by subst hx25; subst hx24; subst hx23; rfl) ?_
            exact j95 x25 (by omega)
          · refine zG_w (c' := (74, [.inr (.inr (some 97)), .inl a1, .inl a2, .inl a3, .inl x11], [.inl x11, .inr (.inr (some 98)), .inl x11, .inr (.inr (some 98))])) 3 hd0 hz (by rfl) ?_
            refine zG_iald hd0 hz rfl rfl (.inl rfl) (by omega) ?_
            obtain ⟨x26, hx26⟩ : ∃ x : Int, x = M 98 (x11 : Int).toNat := ⟨_, rfl⟩
            rw [← hx26]
            have hx26r : qin x26 := by rw [hx26]; exact hC.sin _
            show zG n (0, 0) d 271 (75, [.inr (.inr (some 97)), .inl a1, .inl a2, .inl a3, .inl x11], [.inl x26, .inl x11, .inr (.inr (some 98))]) M _
            obtain ⟨x27, hx27⟩ : ∃ x : Int, x = zbshl 1 a2 := ⟨_, rfl⟩
            have hx27r := qshl1_in a2 8192 13 (by decide) (by decide) (by omega); rw [← hx27] at hx27r
            obtain ⟨x28, hx28⟩ : ∃ x : Int, x = zbor x26 x27 := ⟨_, rfl⟩
            have hx28r : qin x28 := by rw [hx28]; exact qb32 _
            refine zG_w (c' := (95, [.inr (.inr (some 97)), .inl a1, .inl a2, .inl a3, .inl x11], [.inl x28, .inl x11, .inr (.inr (some 98))])) 5 hd0 hz (by subst hx28; subst hx27; rfl) ?_
            exact j95 x28 (by omega)
        · exact zG_wr (r := some (.inl (-3))) 1 hd0 hz (by rfl) ⟨⟨hC, hW⟩, _, rfl, by omega⟩
      refine zG_wi_ne (pc := 43) (n' := 46) (t := 50) (L := [.inr (.inr (some 97)), .inl a1, .inl a2, .inl a3, .inl x11]) (st := []) (x := x14) (y := 1) 0 hd0 hz (by rfl) (fun hb29 => ?_) (fun hb29 => ?_)
      · refine zG_w (c' := (51, [.inr (.inr (some 97)), .inl a1, .inl a2, .inl a3, .inl x11], [.inl 0])) 1 hd0 hz (by rfl) ?_
        exact j51 0 (by first | decide | omega)
      · refine zG_w (c' := (51, [.inr (.inr (some 97)), .inl a1, .inl a2, .inl a3, .inl x11], [.inl 1])) 2 hd0 hz (by rfl) ?_
        exact j51 1 (by first | decide | omega)
    · exact j18
theorem qm_285_97 {n d : Nat} {M : zM} (hd : 2 ≤ d) (hC : qMI M)  (a1 : Int) (ha1 : (-2147483648) ≤ a1 ∧ a1 ≤ 2147483647) : qOkN n d 285 [.inr (.inr (some 97)), .inl a1] 3 [98] M (fun v M' => ∃ x : Int, v = some (.inl x) ∧ ((-2147483648) ≤ x ∧ x ≤ 2147483647)) := by
  have hz := zp_285
  have hd0 : 0 < d := by omega
  have hW : qFm [98] M M := qFm.rfl
  show zG n (0, 0) d 285 (0, [.inr (.inr (some 97)), .inl a1, zN], []) M _
  refine zG_wp (pc := 8) (L := [.inr (.inr (some 97)), .inl a1, zN]) (st := []) 3 hd0 hz zp_180 (qx_in (by first | exact zdk hd rfl | omega) hC   a1 (by first | with_reducible exact ha1 | omega) 1 (by first | decide | omega) 10000 (by first | decide | omega) ) (by rfl) (fun x2 hx2 => ?_)
  refine zG_wf_ne (pc := 8) (n' := 11) (t := 14) (L := [.inr (.inr (some 97)), .inl a1, zN]) (st := []) (x := x2) 0 hd0 hz (by rfl) (fun hb3 => ?_) (fun hb3 => ?_)
  · have hcx2 := hx2.2.2.mp (by omega)
    clear hx2 hb3
    refine zG_w (c' := (20, [.inr (.inr (some 97)), .inl a1, zN], [.inl 8, .inr (.inr (some 98))])) 3 hd0 hz (by rfl) ?_
    refine zG_iald hd0 hz rfl rfl (.inl rfl) (by omega) ?_
    have r4 := hC.sin 8
    show zG n (0, 0) d 285 (21, [.inr (.inr (some 97)), .inl a1, zN], [.inl (M 98 8)]) M _
    refine zG_w (c' := (29, [.inr (.inr (some 97)), .inl a1, .inl (M 98 8)], [.inl a1, .inl 8, .inr (.inr (some 98))])) 5 hd0 hz (by rfl) ?_
    refine zG_iast hd0 hz rfl rfl (by omega) ?_
    obtain ⟨M5, hM5⟩ : ∃ X : zM, X = zput M 98 (8 : Int).toNat a1 := ⟨_, rfl⟩
    rw [← hM5]
    have hCM5 : qMI M5 := by rw [hM5]; exact hC.put98' (by refine ⟨by omega, fun _ => by omega, fun _ => by omega, fun _ => by omega, fun _ => by omega, fun _ => by omega, fun _ => by omega, fun _ => by omega, fun c9 hc9 _ => by omega, fun u9 hu9 _ => by omega, fun m9 hm9 _ => by omega, fun a9 ha9 => ⟨fun _ => by omega, fun _ => by omega, fun _ => by omega, fun _ => by omega⟩, fun t9 ht9 _ => by omega, fun o9 ho9 _ => by omega⟩) (by omega) (by omega)
    have hWM5 : qFm [98] M M5 := by rw [hM5]; exact hW.pa (by decide) (by decide)
    show zG n (0, 0) d 285 (30, [.inr (.inr (some 97)), .inl a1, .inl (M 98 8)], []) M5 _
    exact zG_wr (r := some (.inl (M 98 8))) 1 hd0 hz (by rfl) ⟨⟨hCM5, hWM5⟩, _, rfl, by omega⟩
  · exact zG_wr (r := some (.inl (-2))) 1 hd0 hz (by rfl) ⟨⟨hC, hW⟩, _, rfl, by omega⟩
theorem qm_286_97 {n d : Nat} {M : zM} (hd : 2 ≤ d) (hC : qMI M)  (a1 : Int) (ha1 : (-2147483648) ≤ a1 ∧ a1 ≤ 2147483647) (a2 : Int) (ha2 : (-2147483648) ≤ a2 ∧ a2 ≤ 2147483647) : qOkN n d 286 [.inr (.inr (some 97)), .inl a1, .inl a2] 3 [98] M (fun v M' => ∃ x : Int, v = some (.inl x) ∧ ((-2147483648) ≤ x ∧ x ≤ 2147483647)) := by
  have hz := zp_286
  have hd0 : 0 < d := by omega
  have hW : qFm [98] M M := qFm.rfl
  have r1 := hC.cnt6
  show zG n (0, 0) d 286 (0, [.inr (.inr (some 97)), .inl a1, .inl a2], []) M _
  refine zG_wp (pc := 8) (L := [.inr (.inr (some 97)), .inl a1, .inl a2]) (st := []) 3 hd0 hz zp_180 (qx_in (by first | exact zdk hd rfl | omega) hC   a1 (by first | with_reducible exact ha1 | omega) 0 (by first | decide | omega) 1000 (by first | decide | omega) ) (by rfl) (fun x3 hx3 => ?_)
  have j22 : zG n (0, 0) d 286 (22, [.inr (.inr (some 97)), .inl a1, .inl a2], []) M (fun v M' => (qMI M' ∧ qFm [98] M M') ∧ ∃ x : Int, v = some (.inl x) ∧ ((-2147483648) ≤ x ∧ x ≤ 2147483647)) := by
    exact zG_wr (r := some (.inl (-2))) 1 hd0 hz (by rfl) ⟨⟨hC, hW⟩, _, rfl, by omega⟩
  refine zG_wf_eq (pc := 8) (n' := 11) (t := 22) (L := [.inr (.inr (some 97)), .inl a1, .inl a2]) (st := []) (x := x3) 0 hd0 hz (by rfl) (fun hb4 => ?_) (fun hb4 => ?_)
  · exact j22
  · have hcx3 := hx3.2.2.mp (by omega)
    clear hx3 hb4
    refine zG_wp (pc := 19) (L := [.inr (.inr (some 97)), .inl a1, .inl a2]) (st := []) 3 hd0 hz zp_180 (qx_in (by first | exact zdk hd rfl | omega) hC   a2 (by first | with_reducible exact ha2 | omega) 0 (by first | decide | omega) 1000 (by first | decide | omega) ) (by rfl) (fun x6 hx6 => ?_)
    refine zG_wf_ne (pc := 19) (n' := 22) (t := 25) (L := [.inr (.inr (some 97)), .inl a1, .inl a2]) (st := []) (x := x6) 0 hd0 hz (by rfl) (fun hb7 => ?_) (fun hb7 => ?_)
    · have hcx6 := hx6.2.2.mp (by omega)
      clear hx6 hb7
      refine zG_w (c' := (31, [.inr (.inr (some 97)), .inl a1, .inl a2], [.inl 6, .inr (.inr (some 98))])) 3 hd0 hz (by rfl) ?_
      refine zG_iald hd0 hz rfl rfl (.inl rfl) (by omega) ?_
      show zG n (0, 0) d 286 (32, [.inr (.inr (some 97)), .inl a1, .inl a2], [.inl (M 98 6)]) M _
      refine zG_wi_ne (pc := 34) (n' := 37) (t := 40) (L := [.inr (.inr (some 97)), .inl a1, .inl a2]) (st := []) (x := (M 98 6)) (y := 12) 1 hd0 hz (by rfl) (fun hb8 => ?_) (fun hb8 => ?_)
      · refine zG_w (c' := (54, [.inr (.inr (some 97)), .inl a1, .inl a2], [.inl 6, .inr (.inr (some 98)), .inl 2, .inl 5640, .inr (.inr (some 98))])) 7 hd0 hz (by rfl) ?_
        refine zG_iald hd0 hz rfl rfl (.inl rfl) (by omega) ?_
        show zG n (0, 0) d 286 (55, [.inr (.inr (some 97)), .inl a1, .inl a2], [.inl (M 98 6), .inl 2, .inl 5640, .inr (.inr (some 98))]) M _
        obtain ⟨x9, hx9⟩ : ∃ x : Int, x = w32 (2 * (M 98 6)) := ⟨_, rfl⟩
        have hx9e : x9 = 2 * (M 98 6) := by rw [hx9]; exact w32_id (by omega)
        obtain ⟨x10, hx10⟩ : ∃ x : Int, x = w32 (5640 + x9) := ⟨_, rfl⟩
        have hx10e : x10 = 5640 + x9 := by rw [hx10]; exact w32_id (by omega)
        refine zG_w (c' := (58, [.inr (.inr (some 97)), .inl a1, .inl a2], [.inl a1, .inl x10, .inr (.inr (some 98))])) 3 hd0 hz (by subst hx10; subst hx9; rfl) ?_
        refine zG_iast hd0 hz rfl rfl (by omega) ?_
        obtain ⟨M11, hM11⟩ : ∃ X : zM, X = zput M 98 (x10 : Int).toNat a1 := ⟨_, rfl⟩
        rw [← hM11]
        have hCM11 : qMI M11 := by rw [hM11]; exact hC.put98' (qOS_hi (by omega) (by omega)) (by omega) (by omega)
        have hWM11 : qFm [98] M M11 := by rw [hM11]; exact hW.pa (by decide) (by decide)
        have e12 : M11 98 6 = M 98 6 := by rw [hM11]; exact qput_nk (by omega)
        show zG n (0, 0) d 286 (59, [.inr (.inr (some 97)), .inl a1, .inl a2], []) M11 _
        refine zG_w (c' := (73, [.inr (.inr (some 97)), .inl a1, .inl a2], [.inl 6, .inr (.inr (some 98)), .inl 2, .inl 5640, .inr (.inr (some 98))])) 7 hd0 hz (by rfl) ?_
        refine zG_iald hd0 hz rfl rfl (.inl rfl) (by omega) ?_
        show zG n (0, 0) d 286 (74, [.inr (.inr (some 97)), .inl a1, .inl a2], [.inl (M11 98 6), .inl 2, .inl 5640, .inr (.inr (some 98))]) M11 _
        obtain ⟨x13, hx13⟩ : ∃ x : Int, x = w32 (2 * (M11 98 6)) := ⟨_, rfl⟩
        have hx13e : x13 = 2 * (M11 98 6) := by rw [hx13]; exact w32_id (by omega)
        obtain ⟨x14, hx14⟩ : ∃ x : Int, x = w32 (5640 + x13) := ⟨_, rfl⟩
        have hx14e : x14 = 5640 + x13 := by rw [hx14]; exact w32_id (by omega)
        obtain ⟨x15, hx15⟩ : ∃ x : Int, x = w32 (x14 + 1) := ⟨_, rfl⟩
        have hx15e : x15 = x14 + 1 := by rw [hx15]; exact w32_id (by omega)
        refine zG_w (c' := (79, [.inr (.inr (some 97)), .inl a1, .inl a2], [.inl a2, .inl x15, .inr (.inr (some 98))])) 5 hd0 hz (by subst hx15; subst hx14; subst hx13; rfl) ?_
        refine zG_iast hd0 hz rfl rfl (by omega) ?_
        obtain ⟨M16, hM16⟩ : ∃ X : zM, X = zput M11 98 (x15 : Int).toNat a2 := ⟨_, rfl⟩
        rw [← hM16]
        have hCM16 : qMI M16 := by rw [hM16]; exact hCM11.put98' (qOS_hi (by omega) (by omega)) (by omega) (by omega)
        have hWM16 : qFm [98] M M16 := by rw [hM16]; exact hWM11.pa (by decide) (by decide)
        have e17 : M16 98 6 = M11 98 6 := by rw [hM16]; exact qput_nk (by omega)
        show zG n (0, 0) d 286 (80, [.inr (.inr (some 97)), .inl a1, .inl a2], []) M16 _
        refine zG_wc (c1 := (86, [.inr (.inr (some 97)), .inl a1, .inl a2], [])) 2 hd0 hz zp_183 (qx_oneC (by first | exact zdk hd rfl | omega) hCM16   6 (by decide) (by decide) (by refine ⟨by omega, fun _ => by omega, fun _ => by omega, fun _ => by omega, fun _ => by omega, fun _ => by omega, fun _ => by omega, fun _ => by omega, fun c9 hc9 _ => by omega, fun u9 hu9 _ => by omega, fun m9 hm9 _ => by omega, fun a9 ha9 => ⟨fun _ => by omega, fun _ => by omega, fun _ => by omega, fun _ => by omega⟩, fun t9 ht9 _ => by omega, fun o9 ho9 _ => by omega⟩) ) (by rfl) (fun vr M18 hr => ?_)
        obtain ⟨⟨hCM18, hFM18⟩, x19, rfl, hx19, hpx19_0, hpx19_1⟩ := hr
        have hWM18 : qFm [98] M M18 := hWM16.tr hFM18 (by decide)
        show zG n (0, 0) d 286 (86, [.inr (.inr (some 97)), .inl a1, .inl a2], [.inl x19]) M18 _
        obtain ⟨x21, hx21⟩ : ∃ x : Int, x = w32 (x19 + 1) := ⟨_, rfl⟩
        have hx21r : x21 = (x19 + 1 + 2147483648) % 4294967296 - 2147483648 := hx21
        exact zG_wr (r := some (.inl x21)) 2 hd0 hz (by subst hx21; rfl) ⟨⟨hCM18, hWM18⟩, _, rfl, by omega⟩
      · exact zG_wr (r := some (.inl (-4))) 1 hd0 hz (by rfl) ⟨⟨hC, hW⟩, _, rfl, by omega⟩
    · exact j22
theorem qm_287_97 {n d : Nat} {M : zM} (hd : 1 ≤ d) (hC : qMI M)   : qOkN n d 287 [.inr (.inr (some 97))] 2 [98] M (fun v M' => ∃ x : Int, v = some (.inl x) ∧ (0 ≤ x ∧ x ≤ 12)) := by
  have hz := zp_287
  have hd0 : 0 < d := by omega
  have hW : qFm [98] M M := qFm.rfl
  have r1 := hC.cnt6
  show zG n (0, 0) d 287 (0, [.inr (.inr (some 97)), zN], []) M _
  refine zG_w (c' := (6, [.inr (.inr (some 97)), zN], [.inl 6, .inr (.inr (some 98))])) 3 hd0 hz (by rfl) ?_
  refine zG_iald hd0 hz rfl rfl (.inl rfl) (by omega) ?_
  show zG n (0, 0) d 287 (7, [.inr (.inr (some 97)), zN], [.inl (M 98 6)]) M _
  refine zG_w (c' := (15, [.inr (.inr (some 97)), .inl (M 98 6)], [.inl 0, .inl 6, .inr (.inr (some 98))])) 5 hd0 hz (by rfl) ?_
  refine zG_iast hd0 hz rfl rfl (by omega) ?_
  obtain ⟨M2, hM2⟩ : ∃ X : zM, X = zput M 98 (6 : Int).toNat 0 := ⟨_, rfl⟩
  rw [← hM2]
  have hCM2 : qMI M2 := by rw [hM2]; exact hC.put98' (by refine ⟨by omega, fun _ => by omega, fun _ => by omega, fun _ => by omega, fun _ => by omega, fun _ => by omega, fun _ => by omega, fun _ => by omega, fun c9 hc9 _ => by omega, fun u9 hu9 _ => by omega, fun m9 hm9 _ => by omega, fun a9 ha9 => ⟨fun _ => by omega, fun _ => by omega, fun _ => by omega, fun _ => by omega⟩, fun t9 ht9 _ => by omega, fun o9 ho9 _ => by omega⟩) (by omega) (by omega)
  have hWM2 : qFm [98] M M2 := by rw [hM2]; exact hW.pa (by decide) (by decide)
  show zG n (0, 0) d 287 (16, [.inr (.inr (some 97)), .inl (M 98 6)], []) M2 _
  exact zG_wr (r := some (.inl (M 98 6))) 1 hd0 hz (by rfl) ⟨⟨hCM2, hWM2⟩, _, rfl, by omega⟩
