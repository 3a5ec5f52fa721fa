/-! THE MODEL'S METHODS, BY PROGRAM -/
theorem qm_258_97 {n d : Nat} {M : zM} (hd : 3 ≤ d) (hC : qMI M)  (a1 : Int) (ha1 : (-2147483648) ≤ a1 ∧ a1 ≤ 2147483647) (a2 : Int) (ha2 : (-2147483648) ≤ a2 ∧ a2 ≤ 2147483647) : qOkN n d 258 [.inr (.inr (some 97)), .inl a1, .inl a2] 4 [98] M (fun v M' => ∃ x : Int, v = some (.inl x) ∧ ((-2147483648) ≤ x ∧ x ≤ 2147483647) ∧ (M' 98 6 = M 98 6)) := by
  have hz := zp_258
  have hd0 : 0 < d := by omega
  have hW : qFm [98] M M := qFm.rfl
  have r1 := hC.cnt6
  have r2 := hC.cnt1
  have r3 := hC.cnt5
  show zG n (0, 0) d 258 (0, [.inr (.inr (some 97)), .inl a1, .inl a2, zN], []) M _
  refine zG_wp (pc := 6) (L := [.inr (.inr (some 97)), .inl a1, .inl a2, zN]) (st := []) 3 hd0 hz zp_182 (qx_is (by first | exact zdk hd rfl | omega) hC   1 (by first | decide | omega) a1 (by first | with_reducible exact ha1 | omega) ) (by rfl) (fun x5 hx5 => ?_)
  have j23 : zG n (0, 0) d 258 (23, [.inr (.inr (some 97)), .inl a1, .inl a2, zN], []) M (fun v M' => (qMI M' ∧ qFm [98] M M') ∧ ∃ x : Int, v = some (.inl x) ∧ ((-2147483648) ≤ x ∧ x ≤ 2147483647) ∧ (M' 98 6 = M 98 6)) := by
    exact zG_wr (r := some (.inl (-10))) 1 hd0 hz (by rfl) ⟨⟨hC, hW⟩, _, rfl, by omega, by omega⟩
  refine zG_wf_eq (pc := 6) (n' := 9) (t := 23) (L := [.inr (.inr (some 97)), .inl a1, .inl a2, zN]) (st := []) (x := x5) 0 hd0 hz (by rfl) (fun hb6 => ?_) (fun hb6 => ?_)
  · exact j23
  · have hcx5 := hx5.2.2.mp (by omega)
    clear hx5 hb6
    refine zG_w (c' := (11, [.inr (.inr (some 97)), .inl a1, .inl a2, zN], [.inl (-1), .inl a2])) 2 hd0 hz (by rfl) ?_
    have j26 : (a2 = -1 ∨ (0 ≤ a2 ∧ a2 < M 98 5)) → zG n (0, 0) d 258 (26, [.inr (.inr (some 97)), .inl a1, .inl a2, zN], []) M (fun v M' => (qMI M' ∧ qFm [98] M M') ∧ ∃ x : Int, v = some (.inl x) ∧ ((-2147483648) ≤ x ∧ x ≤ 2147483647) ∧ (M' 98 6 = M 98 6)) := by
      intro hx0_26
      obtain ⟨x7, hx7⟩ : ∃ x : Int, x = w32 (3 * a1) := ⟨_, rfl⟩
      have hx7e : x7 = 3 * a1 := by rw [hx7]; exact w32_id (by omega)
      obtain ⟨x8, hx8⟩ : ∃ x : Int, x = w32 (80 + x7) := ⟨_, rfl⟩
      have hx8e : x8 = 80 + x7 := by rw [hx8]; exact w32_id (by omega)
      obtain ⟨x9, hx9⟩ : ∃ x : Int, x = w32 (x8 + 1) := ⟨_, rfl⟩
      have hx9e : x9 = x8 + 1 := by rw [hx9]; exact w32_id (by omega)
      refine zG_w (c' := (38, [.inr (.inr (some 97)), .inl a1, .inl a2, zN], [.inl x9, .inr (.inr (some 98))])) 9 hd0 hz (by subst hx9; subst hx8; subst hx7; rfl) ?_
      refine zG_iald hd0 hz rfl rfl (.inl rfl) (by omega) ?_
      obtain ⟨x10, hx10⟩ : ∃ x : Int, x = M 98 (x9 : Int).toNat := ⟨_, rfl⟩
      rw [← hx10]
      have hx10r : qin x10 := by rw [hx10]; exact hC.sin _
      show zG n (0, 0) d 258 (39, [.inr (.inr (some 97)), .inl a1, .inl a2, zN], [.inl x10]) M _
      obtain ⟨x11, hx11⟩ : ∃ x : Int, x = w32 (3 * a1) := ⟨_, rfl⟩
      have hx11e : x11 = 3 * a1 := by rw [hx11]; exact w32_id (by omega)
      obtain ⟨x12, hx12⟩ : ∃ x : Int, x = w32 (80 + x11) := ⟨_, rfl⟩
      have hx12e : x12 = 80 + x11 := by rw [hx12]; exact w32_id (by omega)
      obtain ⟨x13, hx13⟩ : ∃ x : Int, x = w32 (x12 + 1) := ⟨_, rfl⟩
      have hx13e : x13 = x12 + 1 := by rw [hx13]; exact w32_id (by omega)
      refine zG_w (c' := (53, [.inr (.inr (some 97)), .inl a1, .inl a2, .inl x10], [.inl a2, .inl x13, .inr (.inr (some 98))])) 11 hd0 hz (by subst hx13; subst hx12; subst hx11; rfl) ?_
      refine zG_iast hd0 hz rfl rfl (by omega) ?_
      obtain ⟨M14, hM14⟩ : ∃ X : zM, X = zput M 98 (x13 : Int).toNat a2 := ⟨_, rfl⟩
      rw [← hM14]
      have hCM14 : qMI M14 := by rw [hM14]; exact hC.put98' (qOS_st (by omega) (by omega) (fun _ _ _ => by omega)) (by omega) (by omega)
      have hWM14 : qFm [98] M M14 := by rw [hM14]; exact hW.pa (by decide) (by decide)
      have e15 : M14 98 6 = M 98 6 := by rw [hM14]; exact qput_nk (by omega)
      have e16 : M14 98 1 = M 98 1 := by rw [hM14]; exact qput_nk (by omega)
      have e17 : M14 98 5 = M 98 5 := by rw [hM14]; exact qput_nk (by omega)
      show zG n (0, 0) d 258 (54, [.inr (.inr (some 97)), .inl a1, .inl a2, .inl x10], []) M14 _
      exact zG_wr (r := some (.inl x10)) 1 hd0 hz (by rfl) ⟨⟨hCM14, hWM14⟩, _, rfl, by omega, by omega⟩
    refine zG_wi_eq (pc := 11) (n' := 14) (t := 26) (L := [.inr (.inr (some 97)), .inl a1, .inl a2, zN]) (st := []) (x := a2) (y := (-1)) 0 hd0 hz (by rfl) (fun hb18 => ?_) (fun hb18 => ?_)
    · exact j26 (by omega)
    · refine zG_wp (pc := 20) (L := [.inr (.inr (some 97)), .inl a1, .inl a2, zN]) (st := []) 3 hd0 hz zp_182 (qx_is (by first | exact zdk hd rfl | omega) hC   5 (by first | decide | omega) a2 (by first | with_reducible exact ha2 | omega) ) (by rfl) (fun x20 hx20 => ?_)
      refine zG_wf_ne (pc := 20) (n' := 23) (t := 26) (L := [.inr (.inr (some 97)), .inl a1, .inl a2, zN]) (st := []) (x := x20) 0 hd0 hz (by rfl) (fun hb21 => ?_) (fun hb21 => ?_)
      · exact j26 (by omega)
      · exact j23
theorem qm_271_97 {n d : Nat} {M : zM} (hd : 3 ≤ d) (hC : qMI M)  (a1 : Int) (ha1 : (-2147483648) ≤ a1 ∧ a1 ≤ 2147483647) (a2 : Int) (ha2 : (-2147483648) ≤ a2 ∧ a2 ≤ 2147483647) (a3 : Int) (ha3 : 0 ≤ a3 ∧ a3 ≤ 1) : qOkN n d 271 [.inr (.inr (some 97)), .inl a1, .inl a2, .inl a3] 5 [98] M (fun v M' => ∃ x : Int, v = some (.inl x) ∧ ((-3) ≤ x ∧ x ≤ 1) ∧ (M' 98 6 = M 98 6)) := by
  have hz := zp_271
  have hd0 : 0 < d := by omega
  have hW : qFm [98] M M := qFm.rfl
  have r1 := hC.cnt6
  have r2 := hC.cnt1
  have r3 := hC.cnt0
  show zG n (0, 0) d 271 (0, [.inr (.inr (some 97)), .inl a1, .inl a2, .inl a3, zN], []) M _
  refine zG_wp (pc := 6) (L := [.inr (.inr (some 97)), .inl a1, .inl a2, .inl a3, zN]) (st := []) 3 hd0 hz zp_182 (qx_is (by first | exact zdk hd rfl | omega) hC   1 (by first | decide | omega) a1 (by first | with_reducible exact ha1 | omega) ) (by rfl) (fun x5 hx5 => ?_)
  have j18 : zG n (0, 0) d 271 (18, [.inr (.inr (some 97)), .inl a1, .inl a2, .inl a3, zN], []) M (fun v M' => (qMI M' ∧ qFm [98] M M') ∧ ∃ x : Int, v = some (.inl x) ∧ ((-3) ≤ x ∧ x ≤ 1) ∧ (M' 98 6 = M 98 6)) := by
    exact zG_wr (r := some (.inl (-2))) 1 hd0 hz (by rfl) ⟨⟨hC, hW⟩, _, rfl, by omega, by omega⟩
  refine zG_wf_eq (pc := 6) (n' := 9) (t := 18) (L := [.inr (.inr (some 97)), .inl a1, .inl a2, .inl a3, zN]) (st := []) (x := x5) 0 hd0 hz (by rfl) (fun hb6 => ?_) (fun hb6 => ?_)
  · exact j18
  · have hcx5 := hx5.2.2.mp (by omega)
    clear hx5 hb6
    refine zG_wp (pc := 15) (L := [.inr (.inr (some 97)), .inl a1, .inl a2, .inl a3, zN]) (st := []) 3 hd0 hz zp_182 (qx_is (by first | exact zdk hd rfl | omega) hC   0 (by first | decide | omega) a2 (by first | with_reducible exact ha2 | omega) ) (by rfl) (fun x8 hx8 => ?_)
    refine zG_wf_ne (pc := 15) (n' := 18) (t := 21) (L := [.inr (.inr (some 97)), .inl a1, .inl a2, .inl a3, zN]) (st := []) (x := x8) 0 hd0 hz (by rfl) (fun hb9 => ?_) (fun hb9 => ?_)
    · have hcx8 := hx8.2.2.mp (by omega)
      clear hx8 hb9
      obtain ⟨x10, hx10⟩ : ∃ x : Int, x = w32 (3 * a1) := ⟨_, rfl⟩
      have hx10e : x10 = 3 * a1 := by rw [hx10]; exact w32_id (by omega)
      obtain ⟨x11, hx11⟩ : ∃ x : Int, x = w32 (80 + x10) := ⟨_, rfl⟩
      have hx11e : x11 = 80 + x10 := by rw [hx11]; exact w32_id (by omega)
      obtain ⟨x12, hx12⟩ : ∃ x : Int, x = w32 (x11 + 2) := ⟨_, rfl⟩
      have hx12e : x12 = x11 + 2 := by rw [hx12]; exact w32_id (by omega)
      refine zG_w (c' := (37, [.inr (.inr (some 97)), .inl a1, .inl a2, .inl a3, .inl x12], [.inl x12, .inr (.inr (some 98))])) 11 hd0 hz (by subst hx12; subst hx11; subst hx10; rfl) ?_
      refine zG_iald hd0 hz rfl rfl (.inl rfl) (by omega) ?_
      obtain ⟨x13, hx13⟩ : ∃ x : Int, x = M 98 (x12 : Int).toNat := ⟨_, rfl⟩
      rw [← hx13]
      have hx13r : qin x13 := by rw [hx13]; exact hC.sin _
      show zG n (0, 0) d 271 (38, [.inr (.inr (some 97)), .inl a1, .inl a2, .inl a3, .inl x12], [.inl x13]) M _
      obtain ⟨x14, hx14⟩ : ∃ x : Int, x = zbshr x13 a2 := ⟨_, rfl⟩
      have hx14r : qin x14 := by rw [hx14]; exact qb32 _
      obtain ⟨x15, hx15⟩ : ∃ x : Int, x = zband x14 1 := ⟨_, rfl⟩
      have hx15r := qband_r x14 1 (by first | decide | omega) (by omega); rw [← hx15] at hx15r
      have hx15l : 0 ≤ x14 → x15 ≤ x14 := fun h9 => by rw [hx15]; exact (qband_l x14 1 ⟨h9, by omega⟩ (by omega)).2
      refine zG_w (c' := (43, [.inr (.inr (some 97)), .inl a1, .inl a2, .inl a3, .inl x12], [.inl 1, .inl x15])) 5 hd0 hz (by subst hx15; subst hx14; rfl) ?_
      have j51 : ∀ (v16 : Int) , 0 ≤ v16 ∧ v16 ≤ 1 → zG n (0, 0) d 271 (51, [.inr (.inr (some 97)), .inl a1, .inl a2, .inl a3, .inl x12], [.inl v16]) M (fun v M' => (qMI M' ∧ qFm [98] M M') ∧ ∃ x : Int, v = some (.inl x) ∧ ((-3) ≤ x ∧ x ≤ 1) ∧ (M' 98 6 = M 98 6)) := by
        intro v16 hv16
        refine zG_wi_ne (pc := 52) (n' := 55) (t := 58) (L := [.inr (.inr (some 97)), .inl a1, .inl a2, .inl a3, .inl x12]) (st := []) (x := v16) (y := a3) 1 hd0 hz (by rfl) (fun hb17 => ?_) (fun hb17 => ?_)
        · refine zG_w (c' := (65, [.inr (.inr (some 97)), .inl a1, .inl a2, .inl a3, .inl x12], [.inl a3, .inl x12, .inr (.inr (some 98))])) 4 hd0 hz (by rfl) ?_
          have j95 : ∀ (v18 : Int) , (-2147483648) ≤ v18 ∧ v18 ≤ 2147483647 → zG n (0, 0) d 271 (95, [.inr (.inr (some 97)), .inl a1, .inl a2, .inl a3, .inl x12], [.inl v18, .inl x12, .inr (.inr (some 98))]) M (fun v M' => (qMI M' ∧ qFm [98] M M') ∧ ∃ x : Int, v = some (.inl x) ∧ ((-3) ≤ x ∧ x ≤ 1) ∧ (M' 98 6 = M 98 6)) := by
            intro v18 hv18
            refine zG_iast hd0 hz rfl rfl (by omega) ?_
            obtain ⟨M19, hM19⟩ : ∃ X : zM, X = zput M 98 (x12 : Int).toNat v18 := ⟨_, rfl⟩
            rw [← hM19]
            have hCM19 : qMI M19 := by rw [hM19]; exact hC.put98' (qOS_st (by omega) (by omega) (fun _ _ _ => by omega)) (by omega) (by omega)
            have hWM19 : qFm [98] M M19 := by rw [hM19]; exact hW.pa (by decide) (by decide)
            have e20 : M19 98 6 = M 98 6 := by rw [hM19]; exact qput_nk (by omega)
            have e21 : M19 98 1 = M 98 1 := by rw [hM19]; exact qput_nk (by omega)
            have e22 : M19 98 0 = M 98 0 := by rw [hM19]; exact qput_nk (by omega)
            show zG n (0, 0) d 271 (96, [.inr (.inr (some 97)), .inl a1, .inl a2, .inl a3, .inl x12], []) M19 _
            exact zG_wr (r := some (.inl 1)) 1 hd0 hz (by rfl) ⟨⟨hCM19, hWM19⟩, _, rfl, by omega, by omega⟩
          refine zG_wf_eq (pc := 65) (n' := 68) (t := 82) (L := [.inr (.inr (some 97)), .inl a1, .inl a2, .inl a3, .inl x12]) (st := [.inl x12, .inr (.inr (some 98))]) (x := a3) 0 hd0 hz (by rfl) (fun hb23 => ?_) (fun hb23 => ?_)
          · refine zG_w (c' := (88, [.inr (.inr (some 97)), .inl a1, .inl a2, .inl a3, .inl x12], [.inl x12, .inr (.inr (some 98)), .inl x12, .inr (.inr (some 98))])) 3 hd0 hz (by rfl) ?_
            refine zG_iald hd0 hz rfl rfl (.inl rfl) (by omega) ?_
            obtain ⟨x24, hx24⟩ : ∃ x : Int, x = M 98 (x12 : Int).toNat := ⟨_, rfl⟩
            rw [← hx24]
            have hx24r : qin x24 := by rw [hx24]; exact hC.sin _
            show zG n (0, 0) d 271 (89, [.inr (.inr (some 97)), .inl a1, .inl a2, .inl a3, .inl x12], [.inl x24, .inl x12, .inr (.inr (some 98))]) M _
            obtain ⟨x25, hx25⟩ : ∃ x : Int, x = zbshl 1 a2 := ⟨_, rfl⟩
            have hx25r := qshl1_in a2 8192 13 (by decide) (by decide) (by omega); rw [← hx25] at hx25r
            obtain ⟨x26, hx26⟩ : ∃ x : Int, x = zbxor x25 (-1) := ⟨_, rfl⟩
            have hx26r : qin x26 := by rw [hx26]; exact qb32 _
            obtain ⟨x27, hx27⟩ : ∃ x : Int, x = zband x24 x26 := ⟨_, rfl⟩
            have hx27r : qin x27 := by rw [hx27]; exact qb32 _
            refine zG_w (c' := (95, [.inr (.inr (some 97)), .inl a1, .inl a2, .inl a3, .inl x12], [.inl x27, .inl x12, .inr (.inr (some 98))])) 6 hd0 hz (by subst hx27; subst hx26; subst hx25; rfl) ?_
            exact j95 x27 (by omega)
          · refine zG_w (c' := (74, [.inr (.inr (some 97)), .inl a1, .inl a2, .inl a3, .inl x12], [.inl x12, .inr (.inr (some 98)), .inl x12, .inr (.inr (some 98))])) 3 hd0 hz (by rfl) ?_
            refine zG_iald hd0 hz rfl rfl (.inl rfl) (by omega) ?_
            obtain ⟨x28, hx28⟩ : ∃ x : Int, x = M 98 (x12 : Int).toNat := ⟨_, rfl⟩
            rw [← hx28]
            have hx28r : qin x28 := by rw [hx28]; exact hC.sin _
            show zG n (0, 0) d 271 (75, [.inr (.inr (some 97)), .inl a1, .inl a2, .inl a3, .inl x12], [.inl x28, .inl x12, .inr (.inr (some 98))]) M _
            obtain ⟨x29, hx29⟩ : ∃ x : Int, x = zbshl 1 a2 := ⟨_, rfl⟩
            have hx29r := qshl1_in a2 8192 13 (by decide) (by decide) (by omega); rw [← hx29] at hx29r
            obtain ⟨x30, hx30⟩ : ∃ x : Int, x = zbor x28 x29 := ⟨_, rfl⟩
            have hx30r : qin x30 := by rw [hx30]; exact qb32 _
            refine zG_w (c' := (95, [.inr (.inr (some 97)), .inl a1, .inl a2, .inl a3, .inl x12], [.inl x30, .inl x12, .inr (.inr (some 98))])) 5 hd0 hz (by subst hx30; subst hx29; rfl) ?_
            exact j95 x30 (by omega)
        · exact zG_wr (r := some (.inl (-3))) 1 hd0 hz (by rfl) ⟨⟨hC, hW⟩, _, rfl, by omega, by omega⟩
      refine zG_wi_ne (pc := 43) (n' := 46) (t := 50) (L := [.inr (.inr (some 97)), .inl a1, .inl a2, .inl a3, .inl x12]) (st := []) (x := x15) (y := 1) 0 hd0 hz (by rfl) (fun hb31 => ?_) (fun hb31 => ?_)
      · refine zG_w (c' := (51, [.inr (.inr (some 97)), .inl a1, .inl a2, .inl a3, .inl x12], [.inl 0])) 1 hd0 hz (by rfl) ?_
        exact j51 0 (by first | decide | omega)
      · refine zG_w (c' := (51, [.inr (.inr (some 97)), .inl a1, .inl a2, .inl a3, .inl x12], [.inl 1])) 2 hd0 hz (by rfl) ?_
        exact j51 1 (by first | decide | omega)
    · exact j18
theorem qm_285_97 {n d : Nat} {M : zM} (hd : 2 ≤ d) (hC : qMI M)  (a1 : Int) (ha1 : (-2147483648) ≤ a1 ∧ a1 ≤ 2147483647) : qOkN n d 285 [.inr (.inr (some 97)), .inl a1] 3 [98] M (fun v M' => ∃ x : Int, v = some (.inl x) ∧ ((-2147483648) ≤ x ∧ x ≤ 2147483647) ∧ (M' 98 6 = M 98 6)) := by
  have hz := zp_285
  have hd0 : 0 < d := by omega
  have hW : qFm [98] M M := qFm.rfl
  have r1 := hC.cnt6
  show zG n (0, 0) d 285 (0, [.inr (.inr (some 97)), .inl a1, zN], []) M _
  refine zG_wp (pc := 8) (L := [.inr (.inr (some 97)), .inl a1, zN]) (st := []) 3 hd0 hz zp_180 (qx_in (by first | exact zdk hd rfl | omega) hC   a1 (by first | with_reducible exact ha1 | omega) 1 (by first | decide | omega) 10000 (by first | decide | omega) ) (by rfl) (fun x3 hx3 => ?_)
  refine zG_wf_ne (pc := 8) (n' := 11) (t := 14) (L := [.inr (.inr (some 97)), .inl a1, zN]) (st := []) (x := x3) 0 hd0 hz (by rfl) (fun hb4 => ?_) (fun hb4 => ?_)
  · have hcx3 := hx3.2.2.mp (by omega)
    clear hx3 hb4
    refine zG_w (c' := (20, [.inr (.inr (some 97)), .inl a1, zN], [.inl 8, .inr (.inr (some 98))])) 3 hd0 hz (by rfl) ?_
    refine zG_iald hd0 hz rfl rfl (.inl rfl) (by omega) ?_
    have r5 := hC.sin 8
    show zG n (0, 0) d 285 (21, [.inr (.inr (some 97)), .inl a1, zN], [.inl (M 98 8)]) M _
    refine zG_w (c' := (29, [.inr (.inr (some 97)), .inl a1, .inl (M 98 8)], [.inl a1, .inl 8, .inr (.inr (some 98))])) 5 hd0 hz (by rfl) ?_
    refine zG_iast hd0 hz rfl rfl (by omega) ?_
    obtain ⟨M6, hM6⟩ : ∃ X : zM, X = zput M 98 (8 : Int).toNat a1 := ⟨_, rfl⟩
    rw [← hM6]
    have hCM6 : qMI M6 := by rw [hM6]; exact hC.put98' (by refine ⟨by omega, fun _ => by omega, fun _ => by omega, fun _ => by omega, fun _ => by omega, fun _ => by omega, fun _ => by omega, fun _ => by omega, fun c9 hc9 _ => by omega, fun u9 hu9 _ => by omega, fun m9 hm9 _ => by omega, fun a9 ha9 => ⟨fun _ => by omega, fun _ => by omega, fun _ => by omega, fun _ => by omega⟩, fun t9 ht9 _ => by omega, fun o9 ho9 _ => by omega⟩) (by omega) (by omega)
    have hWM6 : qFm [98] M M6 := by rw [hM6]; exact hW.pa (by decide) (by decide)
    have e7 : M6 98 6 = M 98 6 := by rw [hM6]; exact qput_nk (by omega)
    show zG n (0, 0) d 285 (30, [.inr (.inr (some 97)), .inl a1, .inl (M 98 8)], []) M6 _
    exact zG_wr (r := some (.inl (M 98 8))) 1 hd0 hz (by rfl) ⟨⟨hCM6, hWM6⟩, _, rfl, by omega, by omega⟩
  · exact zG_wr (r := some (.inl (-2))) 1 hd0 hz (by rfl) ⟨⟨hC, hW⟩, _, rfl, by omega, by omega⟩
theorem qm_286_97 {n d : Nat} {M : zM} (hd : 2 ≤ d) (hC : qMI M)  (a1 : Int) (ha1 : (-2147483648) ≤ a1 ∧ a1 ≤ 2147483647) (a2 : Int) (ha2 : (-2147483648) ≤ a2 ∧ a2 ≤ 2147483647) : qOkN n d 286 [.inr (.inr (some 97)), .inl a1, .inl a2] 3 [98] M (fun v M' => ∃ x : Int, v = some (.inl x) ∧ ((-2147483648) ≤ x ∧ x ≤ 2147483647) ∧ ((x < 0 ∧ M' 98 6 = M 98 6 ∧ (x = -4 → M 98 6 = 12) ∧ (x = -2 → ¬ (0 ≤ a1 ∧ a1 ≤ 1000 ∧ 0 ≤ a2 ∧ a2 ≤ 1000))) ∨ ((0 ≤ a1 ∧ a1 ≤ 1000 ∧ 0 ≤ a2 ∧ a2 ≤ 1000) ∧ M 98 6 < 12 ∧ x = M 98 6 + 1 ∧ M' 98 6 = M 98 6 + 1))) := by
  have hz := zp_286
  have hd0 : 0 < d := by omega
  have hW : qFm [98] M M := qFm.rfl
  have r1 := hC.cnt6
  show zG n (0, 0) d 286 (0, [.inr (.inr (some 97)), .inl a1, .inl a2], []) M _
  refine zG_wp (pc := 8) (L := [.inr (.inr (some 97)), .inl a1, .inl a2]) (st := []) 3 hd0 hz zp_180 (qx_in (by first | exact zdk hd rfl | omega) hC   a1 (by first | with_reducible exact ha1 | omega) 0 (by first | decide | omega) 1000 (by first | decide | omega) ) (by rfl) (fun x3 hx3 => ?_)
  have j22 : (¬ (0 ≤ a1 ∧ a1 ≤ 1000 ∧ 0 ≤ a2 ∧ a2 ≤ 1000)) → zG n (0, 0) d 286 (22, [.inr (.inr (some 97)), .inl a1, .inl a2], []) M (fun v M' => (qMI M' ∧ qFm [98] M M') ∧ ∃ x : Int, v = some (.inl x) ∧ ((-2147483648) ≤ x ∧ x ≤ 2147483647) ∧ ((x < 0 ∧ M' 98 6 = M 98 6 ∧ (x = -4 → M 98 6 = 12) ∧ (x = -2 → ¬ (0 ≤ a1 ∧ a1 ≤ 1000 ∧ 0 ≤ a2 ∧ a2 ≤ 1000))) ∨ ((0 ≤ a1 ∧ a1 ≤ 1000 ∧ 0 ≤ a2 ∧ a2 ≤ 1000) ∧ M 98 6 < 12 ∧ x = M 98 6 + 1 ∧ M' 98 6 = M 98 6 + 1))) := by
    intro hx0_22
    exact zG_wr (r := some (.inl (-2))) 1 hd0 hz (by rfl) ⟨⟨hC, hW⟩, _, rfl, by omega, by omega⟩
  refine zG_wf_eq (pc := 8) (n' := 11) (t := 22) (L := [.inr (.inr (some 97)), .inl a1, .inl a2]) (st := []) (x := x3) 0 hd0 hz (by rfl) (fun hb4 => ?_) (fun hb4 => ?_)
  · exact j22 (by omega)
  · have hcx3 := hx3.2.2.mp (by omega)
    clear hx3 hb4
    refine zG_wp (pc := 19) (L := [.inr (.inr (some 97)), .inl a1, .inl a2]) (st := []) 3 hd0 hz zp_180 (qx_in (by first | exact zdk hd rfl | omega) hC   a2 (by first | with_reducible exact ha2 | omega) 0 (by first | decide | omega) 1000 (by first | decide | omega) ) (by rfl) (fun x6 hx6 => ?_)
    refine zG_wf_ne (pc := 19) (n' := 22) (t := 25) (L := [.inr (.inr (some 97)), .inl a1, .inl a2]) (st := []) (x := x6) 0 hd0 hz (by rfl) (fun hb7 => ?_) (fun hb7 => ?_)
    · have hcx6 := hx6.2.2.mp (by omega)
      clear hx6 hb7
      refine zG_w (c' := (31, [.inr (.inr (some 97)), .inl a1, .inl a2], [.inl 6, .inr (.inr (some 98))])) 3 hd0 hz (by rfl) ?_
      refine zG_iald hd0 hz rfl rfl (.inl rfl) (by omega) ?_
      show zG n (0, 0) d 286 (32, [.inr (.inr (some 97)), .inl a1, .inl a2], [.inl (M 98 6)]) M _
      refine zG_wi_ne (pc := 34) (n' := 37) (t := 40) (L := [.inr (.inr (some 97)), .inl a1, .inl a2]) (st := []) (x := (M 98 6)) (y := 12) 1 hd0 hz (by rfl) (fun hb8 => ?_) (fun hb8 => ?_)
      · refine zG_w (c' := (54, [.inr (.inr (some 97)), .inl a1, .inl a2], [.inl 6, .inr (.inr (some 98)), .inl 2, .inl 5640, .inr (.inr (some 98))])) 7 hd0 hz (by rfl) ?_
        refine zG_iald hd0 hz rfl rfl (.inl rfl) (by omega) ?_
        show zG n (0, 0) d 286 (55, [.inr (.inr (some 97)), .inl a1, .inl a2], [.inl (M 98 6), .inl 2, .inl 5640, .inr (.inr (some 98))]) M _
        obtain ⟨x9, hx9⟩ : ∃ x : Int, x = w32 (2 * (M 98 6)) := ⟨_, rfl⟩
        have hx9e : x9 = 2 * (M 98 6) := by rw [hx9]; exact w32_id (by omega)
        obtain ⟨x10, hx10⟩ : ∃ x : Int, x = w32 (5640 + x9) := ⟨_, rfl⟩
        have hx10e : x10 = 5640 + x9 := by rw [hx10]; exact w32_id (by omega)
        refine zG_w (c' := (58, [.inr (.inr (some 97)), .inl a1, .inl a2], [.inl a1, .inl x10, .inr (.inr (some 98))])) 3 hd0 hz (by subst hx10; subst hx9; rfl) ?_
        refine zG_iast hd0 hz rfl rfl (by omega) ?_
        obtain ⟨M11, hM11⟩ : ∃ X : zM, X = zput M 98 (x10 : Int).toNat a1 := ⟨_, rfl⟩
        rw [← hM11]
        have hCM11 : qMI M11 := by rw [hM11]; exact hC.put98' (qOS_hi (by omega) (by omega)) (by omega) (by omega)
        have hWM11 : qFm [98] M M11 := by rw [hM11]; exact hW.pa (by decide) (by decide)
        have e12 : M11 98 6 = M 98 6 := by rw [hM11]; exact qput_nk (by omega)
        show zG n (0, 0) d 286 (59, [.inr (.inr (some 97)), .inl a1, .inl a2], []) M11 _
        refine zG_w (c' := (73, [.inr (.inr (some 97)), .inl a1, .inl a2], [.inl 6, .inr (.inr (some 98)), .inl 2, .inl 5640, .inr (.inr (some 98))])) 7 hd0 hz (by rfl) ?_
        refine zG_iald hd0 hz rfl rfl (.inl rfl) (by omega) ?_
        show zG n (0, 0) d 286 (74, [.inr (.inr (some 97)), .inl a1, .inl a2], [.inl (M11 98 6), .inl 2, .inl 5640, .inr (.inr (some 98))]) M11 _
        obtain ⟨x13, hx13⟩ : ∃ x : Int, x = w32 (2 * (M11 98 6)) := ⟨_, rfl⟩
        have hx13e : x13 = 2 * (M11 98 6) := by rw [hx13]; exact w32_id (by omega)
        obtain ⟨x14, hx14⟩ : ∃ x : Int, x = w32 (5640 + x13) := ⟨_, rfl⟩
        have hx14e : x14 = 5640 + x13 := by rw [hx14]; exact w32_id (by omega)
        obtain ⟨x15, hx15⟩ : ∃ x : Int, x = w32 (x14 + 1) := ⟨_, rfl⟩
        have hx15e : x15 = x14 + 1 := by rw [hx15]; exact w32_id (by omega)
        refine zG_w (c' := (79, [.inr (.inr (some 97)), .inl a1, .inl a2], [.inl a2, .inl x15, .inr (.inr (some 98))])) 5 hd0 hz (by subst hx15; subst hx14; subst hx13; rfl) ?_
        refine zG_iast hd0 hz rfl rfl (by omega) ?_
        obtain ⟨M16, hM16⟩ : ∃ X : zM, X = zput M11 98 (x15 : Int).toNat a2 := ⟨_, rfl⟩
        rw [← hM16]
        have hCM16 : qMI M16 := by rw [hM16]; exact hCM11.put98' (qOS_hi (by omega) (by omega)) (by omega) (by omega)
        have hWM16 : qFm [98] M M16 := by rw [hM16]; exact hWM11.pa (by decide) (by decide)
        have e17 : M16 98 6 = M11 98 6 := by rw [hM16]; exact qput_nk (by omega)
        show zG n (0, 0) d 286 (80, [.inr (.inr (some 97)), .inl a1, .inl a2], []) M16 _
        refine zG_wc (c1 := (86, [.inr (.inr (some 97)), .inl a1, .inl a2], [])) 2 hd0 hz zp_183 (qx_oneC (by first | exact zdk hd rfl | omega) hCM16   6 (by decide) (by decide) (by refine ⟨by omega, fun _ => by omega, fun _ => by omega, fun _ => by omega, fun _ => by omega, fun _ => by omega, fun _ => by omega, fun _ => by omega, fun c9 hc9 _ => by omega, fun u9 hu9 _ => by omega, fun m9 hm9 _ => by omega, fun a9 ha9 => ⟨fun _ => by omega, fun _ => by omega, fun _ => by omega, fun _ => by omega⟩, fun t9 ht9 _ => by omega, fun o9 ho9 _ => by omega⟩) ) (by rfl) (fun vr M18 hr => ?_)
        obtain ⟨⟨hCM18, hFM18⟩, x19, rfl, hx19, hpx19_0, hpx19_1⟩ := hr
        have hWM18 : qFm [98] M M18 := hWM16.tr hFM18 (by decide)
        show zG n (0, 0) d 286 (86, [.inr (.inr (some 97)), .inl a1, .inl a2], [.inl x19]) M18 _
        obtain ⟨x21, hx21⟩ : ∃ x : Int, x = w32 (x19 + 1) := ⟨_, rfl⟩
        have hx21r : x21 = (x19 + 1 + 2147483648) % 4294967296 - 2147483648 := hx21
        exact zG_wr (r := some (.inl x21)) 2 hd0 hz (by subst hx21; rfl) ⟨⟨hCM18, hWM18⟩, _, rfl, by omega, by omega⟩
      · exact zG_wr (r := some (.inl (-4))) 1 hd0 hz (by rfl) ⟨⟨hC, hW⟩, _, rfl, by omega, by omega⟩
    · exact j22 (by omega)
theorem qm_287_97 {n d : Nat} {M : zM} (hd : 1 ≤ d) (hC : qMI M)   : qOkN n d 287 [.inr (.inr (some 97))] 2 [98] M (fun v M' => ∃ x : Int, v = some (.inl x) ∧ (0 ≤ x ∧ x ≤ 12) ∧ (x = M 98 6) ∧ (M' 98 6 = 0)) := by
  have hz := zp_287
  have hd0 : 0 < d := by omega
  have hW : qFm [98] M M := qFm.rfl
  have r1 := hC.cnt6
  show zG n (0, 0) d 287 (0, [.inr (.inr (some 97)), zN], []) M _
  refine zG_w (c' := (6, [.inr (.inr (some 97)), zN], [.inl 6, .inr (.inr (some 98))])) 3 hd0 hz (by rfl) ?_
  refine zG_iald hd0 hz rfl rfl (.inl rfl) (by omega) ?_
  show zG n (0, 0) d 287 (7, [.inr (.inr (some 97)), zN], [.inl (M 98 6)]) M _
  refine zG_w (c' := (15, [.inr (.inr (some 97)), .inl (M 98 6)], [.inl 0, .inl 6, .inr (.inr (some 98))])) 5 hd0 hz (by rfl) ?_
  refine zG_iast hd0 hz rfl rfl (by omega) ?_
  obtain ⟨M2, hM2⟩ : ∃ X : zM, X = zput M 98 (6 : Int).toNat 0 := ⟨_, rfl⟩
  rw [← hM2]
  have hCM2 : qMI M2 := by rw [hM2]; exact hC.put98' (by refine ⟨by omega, fun _ => by omega, fun _ => by omega, fun _ => by omega, fun _ => by omega, fun _ => by omega, fun _ => by omega, fun _ => by omega, fun c9 hc9 _ => by omega, fun u9 hu9 _ => by omega, fun m9 hm9 _ => by omega, fun a9 ha9 => ⟨fun _ => by omega, fun _ => by omega, fun _ => by omega, fun _ => by omega⟩, fun t9 ht9 _ => by omega, fun o9 ho9 _ => by omega⟩) (by omega) (by omega)
  have hWM2 : qFm [98] M M2 := by rw [hM2]; exact hW.pa (by decide) (by decide)
  have hz6 : M2 98 6 = 0 := by rw [hM2]; exact qput_eq
  show zG n (0, 0) d 287 (16, [.inr (.inr (some 97)), .inl (M 98 6)], []) M2 _
  exact zG_wr (r := some (.inl (M 98 6))) 1 hd0 hz (by rfl) ⟨⟨hCM2, hWM2⟩, _, rfl, by omega, by omega, by omega⟩
