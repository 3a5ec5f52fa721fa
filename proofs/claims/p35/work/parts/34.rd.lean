/-! THE MODEL'S METHODS, BY PROGRAM -/
theorem qm_255_97 {n d : Nat} {M : zM} (hd : 7 ≤ d) (hC : qMI M)  (a1 : Int) (ha1 : (-2147483648) ≤ a1 ∧ a1 ≤ 2147483647) : qOkN n d 255 [.inr (.inr (some 97)), .inl a1] 2 [105, 106, 107, 1007, 1010, 1012, 1013] M (fun v M' => ∃ x : Int, v = some (.inl x) ∧ ((-2147483648) ≤ x ∧ x ≤ 2147483647)) := by
  have hz := zp_255
  have hd0 : 0 < d := by omega
  have hW : qFm [105, 106, 107, 1007, 1010, 1012, 1013] M M := qFm.rfl
  show zG n (0, 0) d 255 (0, [.inr (.inr (some 97)), .inl a1], []) M _
  refine zG_wp (pc := 4) (L := [.inr (.inr (some 97)), .inl a1]) (st := []) 1 hd0 hz zp_252 (qm_252 (by first | exact zdk hd rfl | omega) hC   a1 (by first | with_reducible exact ha1 | omega) ) (by rfl) (fun x2 hr => ?_)
  obtain ⟨hx2, hpx2_0⟩ := hr
  have j24 : ∀ (v3 : Int) (M4 : zM) , (-2147483648) ≤ v3 ∧ v3 ≤ 2147483647 → qMI M4 → qFm [105, 106, 107, 1007, 1010, 1012, 1013] M M4 → zG n (0, 0) d 255 (24, [.inr (.inr (some 97)), .inl a1], [.inl v3]) M4 (fun v M' => (qMI M' ∧ qFm [105, 106, 107, 1007, 1010, 1012, 1013] M M') ∧ ∃ x : Int, v = some (.inl x) ∧ ((-2147483648) ≤ x ∧ x ≤ 2147483647)) := by
    intro v3 M4 hv3 hCM4 hWM4
    exact zG_wr (r := some (.inl v3)) 0 hd0 hz (by rfl) ⟨⟨hCM4, hWM4⟩, _, rfl, by omega⟩
  refine zG_wf_eq (pc := 4) (n' := 7) (t := 22) (L := [.inr (.inr (some 97)), .inl a1]) (st := []) (x := x2) 0 hd0 hz (by rfl) (fun hb5 => ?_) (fun hb5 => ?_)
  · refine zG_w (c' := (24, [.inr (.inr (some 97)), .inl a1], [.inl (-2)])) 1 hd0 hz (by rfl) ?_
    exact j24 (-2) M (by omega) hC hW
  · have hcx2 := hpx2_0.mp (by omega)
    clear hx2 hpx2_0 hb5
    obtain ⟨x6, hx6⟩ : ∃ x : Int, x = w32 (81 * a1) := ⟨_, rfl⟩
    have hx6e : x6 = 81 * a1 := by rw [hx6]; exact w32_id (by omega)
    obtain ⟨x7, hx7⟩ : ∃ x : Int, x = w32 (3350 + x6) := ⟨_, rfl⟩
    have hx7e : x7 = 3350 + x6 := by rw [hx7]; exact w32_id (by omega)
    refine zG_wn (pc := 19) (L := [.inr (.inr (some 97)), .inl a1]) (st := []) 6 hd0 hz zp_231 (qm_231_97 (by first | exact zdk hd rfl | omega) hC   x7 (by omega) (by exact hC.txt a1 _ (by omega) (by omega))) (by subst hx7; subst hx6; rfl) (fun x9 M8 hr hx9 => ?_)
    obtain ⟨hCM8, hFM8⟩ := hr
    have hWM8 : qFm [105, 106, 107, 1007, 1010, 1012, 1013] M M8 := hW.tr hFM8 (by decide)
    refine zG_w (c' := (24, [.inr (.inr (some 97)), .inl a1], [.inl x9])) 1 hd0 hz (by rfl) ?_
    exact j24 x9 M8 (by omega) hCM8 hWM8
theorem qm_256_97 {n d : Nat} {M : zM} (hd : 8 ≤ d) (hC : qMI M)  (a1 : Int) (ha1 : (-2147483648) ≤ a1 ∧ a1 ≤ 2147483647) (a2 : Int) (ha2 : (-2147483648) ≤ a2 ∧ a2 ≤ 2147483647) (a3 : Int) (ha3 : (-2147483648) ≤ a3 ∧ a3 ≤ 2147483647) (a4 : Int) (ha4 : (-2147483648) ≤ a4 ∧ a4 ≤ 2147483647) (a5 : Int) (ha5 : (-2147483648) ≤ a5 ∧ a5 ≤ 2147483647) : qOkN n d 256 [.inr (.inr (some 97)), .inl a1, .inl a2, .inl a3, .inl a4, .inl a5] 6 [101, 102, 103, 104, 105, 106, 107, 108, 109, 110, 1007, 1010, 1012, 1013, 1016, 1018, 1019, 1020, 1021, 1022, 1023] M (fun v M' => ∃ x : Int, v = some (.inr (.inl x))) := by
  have hz := zp_256
  have hd0 : 0 < d := by omega
  have hW : qFm [101, 102, 103, 104, 105, 106, 107, 108, 109, 110, 1007, 1010, 1012, 1013, 1016, 1018, 1019, 1020, 1021, 1022, 1023] M M := qFm.rfl
  have r1 := hC.cnt1
  have r2 := hC.cnt0
  show zG n (0, 0) d 256 (0, [.inr (.inr (some 97)), .inl a1, .inl a2, .inl a3, .inl a4, .inl a5], []) M _
  refine zG_wp (pc := 4) (L := [.inr (.inr (some 97)), .inl a1, .inl a2, .inl a3, .inl a4, .inl a5]) (st := []) 1 hd0 hz zp_252 (qm_252 (by first | exact zdk hd rfl | omega) hC   a1 (by first | with_reducible exact ha1 | omega) ) (by rfl) (fun x4 hr => ?_)
  obtain ⟨hx4, hpx4_0⟩ := hr
  have j33 : zG n (0, 0) d 256 (33, [.inr (.inr (some 97)), .inl a1, .inl a2, .inl a3, .inl a4, .inl a5], []) M (fun v M' => (qMI M' ∧ qFm [101, 102, 103, 104, 105, 106, 107, 108, 109, 110, 1007, 1010, 1012, 1013, 1016, 1018, 1019, 1020, 1021, 1022, 1023] M M') ∧ ∃ x : Int, v = some (.inr (.inl x))) := by
    exact zG_wr (r := some (.inr (.inl ((-2000000000000000000))))) 1 hd0 hz (by rfl) ⟨⟨hC, hW⟩, _, rfl⟩
  refine zG_wf_eq (pc := 4) (n' := 7) (t := 33) (L := [.inr (.inr (some 97)), .inl a1, .inl a2, .inl a3, .inl a4, .inl a5]) (st := []) (x := x4) 0 hd0 hz (by rfl) (fun hb5 => ?_) (fun hb5 => ?_)
  · exact j33
  · have hcx4 := hpx4_0.mp (by omega)
    clear hx4 hpx4_0 hb5
    refine zG_wp (pc := 16) (L := [.inr (.inr (some 97)), .inl a1, .inl a2, .inl a3, .inl a4, .inl a5]) (st := []) 4 hd0 hz zp_245 (qm_245_97 (by first | exact zdk hd rfl | omega) hC   a2 (by first | with_reducible exact ha2 | omega) a4 (by first | with_reducible exact ha4 | omega) a5 (by first | with_reducible exact ha5 | omega) ) (by rfl) (fun x7 hr => ?_)
    obtain ⟨hx7, hpx7_0⟩ := hr
    refine zG_wf_eq (pc := 16) (n' := 19) (t := 33) (L := [.inr (.inr (some 97)), .inl a1, .inl a2, .inl a3, .inl a4, .inl a5]) (st := []) (x := x7) 0 hd0 hz (by rfl) (fun hb8 => ?_) (fun hb8 => ?_)
    · exact j33
    · refine zG_w (c' := (21, [.inr (.inr (some 97)), .inl a1, .inl a2, .inl a3, .inl a4, .inl a5], [.inl (-1), .inl a3])) 2 hd0 hz (by rfl) ?_
      have j37 : (a3 = -1 ∨ (0 ≤ a3 ∧ a3 < M 98 0)) → zG n (0, 0) d 256 (37, [.inr (.inr (some 97)), .inl a1, .inl a2, .inl a3, .inl a4, .inl a5], []) M (fun v M' => (qMI M' ∧ qFm [101, 102, 103, 104, 105, 106, 107, 108, 109, 110, 1007, 1010, 1012, 1013, 1016, 1018, 1019, 1020, 1021, 1022, 1023] M M') ∧ ∃ x : Int, v = some (.inr (.inl x))) := by
        intro hx0_37
        obtain ⟨x9, hx9⟩ : ∃ x : Int, x = w32 (81 * a1) := ⟨_, rfl⟩
        have hx9e : x9 = 81 * a1 := by rw [hx9]; exact w32_id (by omega)
        obtain ⟨x10, hx10⟩ : ∃ x : Int, x = w32 (3350 + x9) := ⟨_, rfl⟩
        have hx10e : x10 = 3350 + x9 := by rw [hx10]; exact w32_id (by omega)
        refine zG_wn (pc := 49) (L := [.inr (.inr (some 97)), .inl a1, .inl a2, .inl a3, .inl a4, .inl a5]) (st := []) 6 hd0 hz zp_231 (qm_231_97 (by first | exact zdk hd rfl | omega) hC   x10 (by omega) (by exact hC.txt a1 _ (by omega) (by omega))) (by subst hx10; subst hx9; rfl) (fun x12 M11 hr hx12 => ?_)
        obtain ⟨hCM11, hFM11⟩ := hr
        have hWM11 : qFm [101, 102, 103, 104, 105, 106, 107, 108, 109, 110, 1007, 1010, 1012, 1013, 1016, 1018, 1019, 1020, 1021, 1022, 1023] M M11 := hW.tr hFM11 (by decide)
        have e13 : M11 98 1 = M 98 1 := hFM11 98 1 (by decide)
        have e14 : M11 98 0 = M 98 0 := hFM11 98 0 (by decide)
        refine zG_wi_eq (pc := 50) (n' := 53) (t := 57) (L := [.inr (.inr (some 97)), .inl a1, .inl a2, .inl a3, .inl a4, .inl a5]) (st := []) (x := x12) (y := (-1)) 1 hd0 hz (by rfl) (fun hb15 => ?_) (fun hb15 => ?_)
        · refine zG_wv (pc := 63) (L := [.inr (.inr (some 97)), .inl a1, .inl a2, .inl a3, .inl a4, .inl a5]) (st := []) 2 hd0 hz zp_211 (qm_211_97 (by first | exact zdk hd rfl | omega) hCM11   a5 (by first | with_reducible exact ha5 | omega) ) (by rfl) (fun M16 hr => ?_)
          obtain ⟨hCM16, hFM16⟩ := hr
          have hWM16 : qFm [101, 102, 103, 104, 105, 106, 107, 108, 109, 110, 1007, 1010, 1012, 1013, 1016, 1018, 1019, 1020, 1021, 1022, 1023] M M16 := hWM11.tr hFM16 (by decide)
          have e18 : M16 98 1 = M11 98 1 := hFM16 98 1 (by decide)
          have e19 : M16 98 0 = M11 98 0 := hFM16 98 0 (by decide)
          refine zG_wv (pc := 70) (L := [.inr (.inr (some 97)), .inl a1, .inl a2, .inl a3, .inl a4, .inl a5]) (st := []) 3 hd0 hz zp_240 (qm_240_97 (by first | exact zdk hd rfl | omega) hCM16   a2 (by first | with_reducible exact ha2 | omega) a4 (by first | with_reducible exact ha4 | omega) ) (by rfl) (fun M20 hr => ?_)
          obtain ⟨hCM20, hFM20⟩ := hr
          have hWM20 : qFm [101, 102, 103, 104, 105, 106, 107, 108, 109, 110, 1007, 1010, 1012, 1013, 1016, 1018, 1019, 1020, 1021, 1022, 1023] M M20 := hWM16.tr hFM20 (by decide)
          have e22 : M20 98 1 = M16 98 1 := hFM20 98 1 (by decide)
          have e23 : M20 98 0 = M16 98 0 := hFM20 98 0 (by decide)
          obtain ⟨x24, hx24⟩ : ∃ x : Int, x = w32 (81 * a1) := ⟨_, rfl⟩
          have hx24e : x24 = 81 * a1 := by rw [hx24]; exact w32_id (by omega)
          obtain ⟨x25, hx25⟩ : ∃ x : Int, x = w32 (3350 + x24) := ⟨_, rfl⟩
          have hx25e : x25 = 3350 + x24 := by rw [hx25]; exact w32_id (by omega)
          refine zG_wn (pc := 82) (L := [.inr (.inr (some 97)), .inl a1, .inl a2, .inl a3, .inl a4, .inl a5]) (st := []) 6 hd0 hz zp_231 (qm_231_97 (by first | exact zdk hd rfl | omega) hCM20   x25 (by omega) (by exact hCM20.txt a1 _ (by omega) (by omega))) (by subst hx25; subst hx24; rfl) (fun x27 M26 hr hx27 => ?_)
          obtain ⟨hCM26, hFM26⟩ := hr
          have hWM26 : qFm [101, 102, 103, 104, 105, 106, 107, 108, 109, 110, 1007, 1010, 1012, 1013, 1016, 1018, 1019, 1020, 1021, 1022, 1023] M M26 := hWM20.tr hFM26 (by decide)
          have e28 : M26 98 1 = M20 98 1 := hFM26 98 1 (by decide)
          have e29 : M26 98 0 = M20 98 0 := hFM26 98 0 (by decide)
          refine zG_w (c' := (85, [.inr (.inr (some 97)), .inl a1, .inl a2, .inl a3, .inl a4, .inl a5], [.inl (-1), .inl a3])) 3 hd0 hz (by rfl) ?_
          have j100 : ∀ (M30 : zM) , qMI M30 → qFm [101, 102, 103, 104, 105, 106, 107, 108, 109, 110, 1007, 1010, 1012, 1013, 1016, 1018, 1019, 1020, 1021, 1022, 1023] M M30 → zG n (0, 0) d 256 (100, [.inr (.inr (some 97)), .inl a1, .inl a2, .inl a3, .inl a4, .inl a5], []) M30 (fun v M' => (qMI M' ∧ qFm [101, 102, 103, 104, 105, 106, 107, 108, 109, 110, 1007, 1010, 1012, 1013, 1016, 1018, 1019, 1020, 1021, 1022, 1023] M M') ∧ ∃ x : Int, v = some (.inr (.inl x))) := by
            intro M30 hCM30 hWM30
            have e31 : M30 98 1 = M 98 1 := hWM30 98 1 (by decide)
            have e32 : M30 98 0 = M 98 0 := hWM30 98 0 (by decide)
            refine zG_wc (c1 := (104, [.inr (.inr (some 97)), .inl a1, .inl a2, .inl a3, .inl a4, .inl a5], [])) 1 hd0 hz zp_235 (qm_235_97 (by first | exact zdk hd rfl | omega) hCM30    ) (by rfl) (fun vr M33 hr => ?_)
            obtain ⟨⟨hCM33, hFM33⟩, x34, rfl⟩ := hr
            have hWM33 : qFm [101, 102, 103, 104, 105, 106, 107, 108, 109, 110, 1007, 1010, 1012, 1013, 1016, 1018, 1019, 1020, 1021, 1022, 1023] M M33 := hWM30.tr hFM33 (by decide)
            have e35 : M33 98 1 = M30 98 1 := hFM33 98 1 (by decide)
            have e36 : M33 98 0 = M30 98 0 := hFM33 98 0 (by decide)
            show zG n (0, 0) d 256 (104, [.inr (.inr (some 97)), .inl a1, .inl a2, .inl a3, .inl a4, .inl a5], [.inr (.inl (x34))]) M33 _
            exact zG_wr (r := some (.inr (.inl (x34)))) 0 hd0 hz (by rfl) ⟨⟨hCM33, hWM33⟩, _, rfl⟩
          refine zG_wi_ne (pc := 85) (n' := 88) (t := 95) (L := [.inr (.inr (some 97)), .inl a1, .inl a2, .inl a3, .inl a4, .inl a5]) (st := []) (x := a3) (y := (-1)) 0 hd0 hz (by rfl) (fun hb37 => ?_) (fun hb37 => ?_)
          · refine zG_wv (pc := 100) (L := [.inr (.inr (some 97)), .inl a1, .inl a2, .inl a3, .inl a4, .inl a5]) (st := []) 2 hd0 hz zp_238 (qm_238_97 (by first | exact zdk hd rfl | omega) hCM26   a3 (by first | with_reducible exact ha3 | omega) ) (by rfl) (fun M38 hr => ?_)
            obtain ⟨hCM38, hFM38⟩ := hr
            have hWM38 : qFm [101, 102, 103, 104, 105, 106, 107, 108, 109, 110, 1007, 1010, 1012, 1013, 1016, 1018, 1019, 1020, 1021, 1022, 1023] M M38 := hWM26.tr hFM38 (by decide)
            have e40 : M38 98 1 = M26 98 1 := hFM38 98 1 (by decide)
            have e41 : M38 98 0 = M26 98 0 := hFM38 98 0 (by decide)
            exact j100 M38 hCM38 hWM38
          · refine zG_wv (pc := 92) (L := [.inr (.inr (some 97)), .inl a1, .inl a2, .inl a3, .inl a4, .inl a5]) (st := []) 1 hd0 hz zp_239 (qm_239_97 (by first | exact zdk hd rfl | omega) hCM26    ) (by rfl) (fun M42 hr => ?_)
            obtain ⟨hCM42, hFM42⟩ := hr
            have hWM42 : qFm [101, 102, 103, 104, 105, 106, 107, 108, 109, 110, 1007, 1010, 1012, 1013, 1016, 1018, 1019, 1020, 1021, 1022, 1023] M M42 := hWM26.tr hFM42 (by decide)
            have e44 : M42 98 1 = M26 98 1 := hFM42 98 1 (by decide)
            have e45 : M42 98 0 = M26 98 0 := hFM42 98 0 (by decide)
            refine zG_w (c' := (100, [.inr (.inr (some 97)), .inl a1, .inl a2, .inl a3, .inl a4, .inl a5], [])) 1 hd0 hz (by rfl) ?_
            exact j100 M42 hCM42 hWM42
        · exact zG_wr (r := some (.inr (.inl ((-3000000000000000000))))) 1 hd0 hz (by rfl) ⟨⟨hCM11, hWM11⟩, _, rfl⟩
      refine zG_wi_eq (pc := 21) (n' := 24) (t := 37) (L := [.inr (.inr (some 97)), .inl a1, .inl a2, .inl a3, .inl a4, .inl a5]) (st := []) (x := a3) (y := (-1)) 0 hd0 hz (by rfl) (fun hb46 => ?_) (fun hb46 => ?_)
      · exact j37 (by omega)
      · refine zG_wp (pc := 30) (L := [.inr (.inr (some 97)), .inl a1, .inl a2, .inl a3, .inl a4, .inl a5]) (st := []) 3 hd0 hz zp_182 (qx_is (by first | exact zdk hd rfl | omega) hC   0 (by first | decide | omega) a3 (by first | with_reducible exact ha3 | omega) ) (by rfl) (fun x48 hx48 => ?_)
        refine zG_wf_ne (pc := 30) (n' := 33) (t := 37) (L := [.inr (.inr (some 97)), .inl a1, .inl a2, .inl a3, .inl a4, .inl a5]) (st := []) (x := x48) 0 hd0 hz (by rfl) (fun hb49 => ?_) (fun hb49 => ?_)
        · exact j37 (by omega)
        · exact j33
theorem qm_259_97 {n d : Nat} {M : zM} (hd : 3 ≤ d) (hC : qMI M)  (a1 : Int) (ha1 : (-2147483648) ≤ a1 ∧ a1 ≤ 2147483647) (a2 : Int) (ha2 : (-2147483648) ≤ a2 ∧ a2 ≤ 2147483647) : qOkP n d 259 [.inr (.inr (some 97)), .inl a1, .inl a2] 3 M (fun v => ∃ x : Int, v = some (.inl x) ∧ ((-2) ≤ x ∧ x ≤ 9)) := by
  have hz := zp_259
  have hd0 : 0 < d := by omega
  have r1 := hC.cnt1
  show zG n (0, 0) d 259 (0, [.inr (.inr (some 97)), .inl a1, .inl a2], []) M _
  refine zG_wp (pc := 6) (L := [.inr (.inr (some 97)), .inl a1, .inl a2]) (st := []) 3 hd0 hz zp_182 (qx_is (by first | exact zdk hd rfl | omega) hC   1 (by first | decide | omega) a1 (by first | with_reducible exact ha1 | omega) ) (by rfl) (fun x3 hx3 => ?_)
  have j27 : ∀ (v4 : Int) , (-2) ≤ v4 ∧ v4 ≤ 9 → zG n (0, 0) d 259 (27, [.inr (.inr (some 97)), .inl a1, .inl a2], [.inl v4]) M (fun v M' => M' = M ∧ ∃ x : Int, v = some (.inl x) ∧ ((-2) ≤ x ∧ x ≤ 9)) := by
    intro v4 hv4
    exact zG_wr (r := some (.inl v4)) 0 hd0 hz (by rfl) ⟨rfl, _, rfl, by omega⟩
  have j25 : zG n (0, 0) d 259 (25, [.inr (.inr (some 97)), .inl a1, .inl a2], []) M (fun v M' => M' = M ∧ ∃ x : Int, v = some (.inl x) ∧ ((-2) ≤ x ∧ x ≤ 9)) := by
    refine zG_w (c' := (27, [.inr (.inr (some 97)), .inl a1, .inl a2], [.inl (-2)])) 1 hd0 hz (by rfl) ?_
    exact j27 (-2) (by first | decide | omega)
  refine zG_wf_eq (pc := 6) (n' := 9) (t := 25) (L := [.inr (.inr (some 97)), .inl a1, .inl a2]) (st := []) (x := x3) 0 hd0 hz (by rfl) (fun hb5 => ?_) (fun hb5 => ?_)
  · exact j25
  · have hcx3 := hx3.2.2.mp (by omega)
    clear hx3 hb5
    refine zG_wp (pc := 13) (L := [.inr (.inr (some 97)), .inl a1, .inl a2]) (st := []) 1 hd0 hz zp_184 (qm_184 (by first | exact zdk hd rfl | omega) hC   a2 (by first | with_reducible exact ha2 | omega) ) (by rfl) (fun x7 hr => ?_)
    obtain ⟨hx7, hpx7_0⟩ := hr
    refine zG_wf_eq (pc := 13) (n' := 16) (t := 25) (L := [.inr (.inr (some 97)), .inl a1, .inl a2]) (st := []) (x := x7) 0 hd0 hz (by rfl) (fun hb8 => ?_) (fun hb8 => ?_)
    · exact j25
    · have hcx7 := hpx7_0.mp (by omega)
      clear hx7 hpx7_0 hb8
      refine zG_wp (pc := 22) (L := [.inr (.inr (some 97)), .inl a1, .inl a2]) (st := []) 3 hd0 hz zp_237 (qm_237_97 (by first | exact zdk hd rfl | omega) hC   a1 (by first | with_reducible exact ha1 | omega) a2 (by first | with_reducible exact ha2 | omega) ) (by rfl) (fun x10 hx10 => ?_)
      refine zG_w (c' := (27, [.inr (.inr (some 97)), .inl a1, .inl a2], [.inl x10])) 1 hd0 hz (by rfl) ?_
      exact j27 x10 (by omega)
theorem qm_288_97 {n d : Nat} {M : zM} (hd : 1 ≤ d) (hC : qMI M)  (a1 : Int) (ha1 : (-2147483648) ≤ a1 ∧ a1 ≤ 2147483647) : qOkP n d 288 [.inr (.inr (some 97)), .inl a1] 4 M (fun v => ∃ x : Int, v = some (.inl x) ∧ ((-2147483648) ≤ x ∧ x ≤ 2147483647)) := by
  have hz := zp_288
  have hd0 : 0 < d := by omega
  have r1 := hC.cnt6
  show zG n (0, 0) d 288 (0, [.inr (.inr (some 97)), .inl a1, zN, zN], []) M _
  refine zG_w (c' := (4, [.inr (.inr (some 97)), .inl a1, .inl 0, .inl 0], [])) 4 hd0 hz (by rfl) ?_
  have j4 : ∀ (N : Nat) (v2 v3 : Int) , (12 - v3 : Int).toNat < N → (-2147483648) ≤ v2 ∧ v2 ≤ 2147483647 → 0 ≤ v3 ∧ v3 ≤ 12 → zG n (0, 0) d 288 (4, [.inr (.inr (some 97)), .inl a1, .inl v2, .inl v3], []) M (fun v M' => M' = M ∧ ∃ x : Int, v = some (.inl x) ∧ ((-2147483648) ≤ x ∧ x ≤ 2147483647)) := by
    intro N
    induction N with
    | zero => intro v2 v3 hN hv2 hv3; exact absurd hN (Nat.not_lt_zero _)
    | succ N ih4 =>
      intro v2 v3 hN hv2 hv3
      replace hN : 12 - v3 < (N : Int) + 1 := by omega
      refine zG_w (c' := (11, [.inr (.inr (some 97)), .inl a1, .inl v2, .inl v3], [.inl 6, .inr (.inr (some 98)), .inl v3])) 4 hd0 hz (by rfl) ?_
      refine zG_iald hd0 hz rfl rfl (.inl rfl) (by omega) ?_
      show zG n (0, 0) d 288 (12, [.inr (.inr (some 97)), .inl a1, .inl v2, .inl v3], [.inl (M 98 6), .inl v3]) M _
      refine zG_wi_ge (pc := 12) (n' := 15) (t := 42) (L := [.inr (.inr (some 97)), .inl a1, .inl v2, .inl v3]) (st := []) (x := v3) (y := (M 98 6)) 0 hd0 hz (by rfl) (fun hb4 => ?_) (fun hb4 => ?_)
      · exact zG_wr (r := some (.inl v2)) 1 hd0 hz (by rfl) ⟨rfl, _, rfl, by omega⟩
      · obtain ⟨x5, hx5⟩ : ∃ x : Int, x = w32 (2 * v3) := ⟨_, rfl⟩
        have hx5e : x5 = 2 * v3 := by rw [hx5]; exact w32_id (by omega)
        obtain ⟨x6, hx6⟩ : ∃ x : Int, x = w32 (5640 + x5) := ⟨_, rfl⟩
        have hx6e : x6 = 5640 + x5 := by rw [hx6]; exact w32_id (by omega)
        obtain ⟨x7, hx7⟩ : ∃ x : Int, x = zbshr a1 v3 := ⟨_, rfl⟩
        have hx7r : qin x7 := by rw [hx7]; exact qb32 _
        obtain ⟨x8, hx8⟩ : ∃ x : Int, x = zband x7 1 := ⟨_, rfl⟩
        have hx8r := qband_r x7 1 (by first | decide | omega) (by omega); rw [← hx8] at hx8r
        have hx8l : 0 ≤ x7 → x8 ≤ x7 := fun h9 => by rw [hx8]; exact (qband_l x7 1 ⟨h9, by omega⟩ (by omega)).2
        obtain ⟨x9, hx9⟩ : ∃ x : Int, x = w32 (x6 + x8) := ⟨_, rfl⟩
        have hx9e : x9 = x6 + x8 := by rw [hx9]; exact w32_id (by omega)
        refine zG_w (c' := (33, [.inr (.inr (some 97)), .inl a1, .inl v2, .inl v3], [.inl x9, .inr (.inr (some 98)), .inl v2])) 14 hd0 hz (by subst hx9; subst hx8; subst hx7; subst hx6; subst hx5; rfl) ?_
        refine zG_iald hd0 hz rfl rfl (.inl rfl) (by omega) ?_
        obtain ⟨x10, hx10⟩ : ∃ x : Int, x = M 98 (x9 : Int).toNat := ⟨_, rfl⟩
        rw [← hx10]
        have hx10r : qin x10 := by rw [hx10]; exact hC.sin _
        show zG n (0, 0) d 288 (34, [.inr (.inr (some 97)), .inl a1, .inl v2, .inl v3], [.inl x10, .inl v2]) M _
        obtain ⟨x11, hx11⟩ : ∃ x : Int, x = w32 (v2 + x10) := ⟨_, rfl⟩
        have hx11r : x11 = (v2 + x10 + 2147483648) % 4294967296 - 2147483648 := hx11
        obtain ⟨x12, hx12⟩ : ∃ x : Int, x = w32 (v3 + 1) := ⟨_, rfl⟩
        have hx12e : x12 = v3 + 1 := by rw [hx12]; exact w32_id (by omega)
        refine zG_w (c' := (4, [.inr (.inr (some 97)), .inl a1, .inl x11, .inl x12], [])) 4 hd0 hz (by subst hx12; subst hx11; rfl) ?_
        exact ih4 x11 x12 (by omega) (by omega) (by omega)
  exact j4 ((12 - 0 : Int).toNat + 1) 0 0 (by first | decide | omega) (by omega) (by omega)
theorem qm_289_97 {n d : Nat} {M : zM} (hd : 2 ≤ d) (hC : qMI M)  (a1 : Int) (ha1 : (-2147483648) ≤ a1 ∧ a1 ≤ 2147483647) (a2 : Int) (ha2 : (-2147483648) ≤ a2 ∧ a2 ≤ 2147483647) : qOkP n d 289 [.inr (.inr (some 97)), .inl a1, .inl a2] 7 M (fun v => ∃ x : Int, v = some (.inl x) ∧ ((-2147483648) ≤ x ∧ x ≤ 2147483647)) := by
  have hz := zp_289
  have hd0 : 0 < d := by omega
  have r1 := hC.cnt6
  show zG n (0, 0) d 289 (0, [.inr (.inr (some 97)), .inl a1, .inl a2, zN, zN, zN, zN], []) M _
  refine zG_wp (pc := 8) (L := [.inr (.inr (some 97)), .inl a1, .inl a2, zN, zN, zN, zN]) (st := []) 3 hd0 hz zp_180 (qx_in (by first | exact zdk hd rfl | omega) hC   a1 (by first | with_reducible exact ha1 | omega) 0 (by first | decide | omega) 12000 (by first | decide | omega) ) (by rfl) (fun x3 hx3 => ?_)
  have j20 : zG n (0, 0) d 289 (20, [.inr (.inr (some 97)), .inl a1, .inl a2, zN, zN, zN, zN], []) M (fun v M' => M' = M ∧ ∃ x : Int, v = some (.inl x) ∧ ((-2147483648) ≤ x ∧ x ≤ 2147483647)) := by
    exact zG_wr (r := some (.inl (-2))) 1 hd0 hz (by rfl) ⟨rfl, _, rfl, by omega⟩
  refine zG_wf_eq (pc := 8) (n' := 11) (t := 20) (L := [.inr (.inr (some 97)), .inl a1, .inl a2, zN, zN, zN, zN]) (st := []) (x := x3) 0 hd0 hz (by rfl) (fun hb4 => ?_) (fun hb4 => ?_)
  · exact j20
  · have hcx3 := hx3.2.2.mp (by omega)
    clear hx3 hb4
    refine zG_wp (pc := 17) (L := [.inr (.inr (some 97)), .inl a1, .inl a2, zN, zN, zN, zN]) (st := []) 3 hd0 hz zp_180 (qx_in (by first | exact zdk hd rfl | omega) hC   a2 (by first | with_reducible exact ha2 | omega) 0 (by first | decide | omega) 1 (by first | decide | omega) ) (by rfl) (fun x6 hx6 => ?_)
    refine zG_wf_ne (pc := 17) (n' := 20) (t := 23) (L := [.inr (.inr (some 97)), .inl a1, .inl a2, zN, zN, zN, zN]) (st := []) (x := x6) 0 hd0 hz (by rfl) (fun hb7 => ?_) (fun hb7 => ?_)
    · have hcx6 := hx6.2.2.mp (by omega)
      clear hx6 hb7
      refine zG_w (c' := (31, [.inr (.inr (some 97)), .inl a1, .inl a2, .inl (-1), .inl 0, .inl 0, zN], [])) 6 hd0 hz (by rfl) ?_
      have j31 : ∀ (N : Nat) (v8 v9 v10 : Int) , (4096 - v10 : Int).toNat < N → (-1) ≤ v8 ∧ v8 ≤ 5663 → (-2147483648) ≤ v9 ∧ v9 ≤ 2147483647 → 0 ≤ v10 ∧ v10 ≤ 5663 → zG n (0, 0) d 289 (31, [.inr (.inr (some 97)), .inl a1, .inl a2, .inl v8, .inl v9, .inl v10, zN], []) M (fun v M' => M' = M ∧ ∃ x : Int, v = some (.inl x) ∧ ((-2147483648) ≤ x ∧ x ≤ 2147483647)) := by
        intro N
        induction N with
        | zero => intro v8 v9 v10 hN hv8 hv9 hv10; exact absurd hN (Nat.not_lt_zero _)
        | succ N ih31 =>
          intro v8 v9 v10 hN hv8 hv9 hv10
          replace hN : 4096 - v10 < (N : Int) + 1 := by omega
          refine zG_w (c' := (40, [.inr (.inr (some 97)), .inl a1, .inl a2, .inl v8, .inl v9, .inl v10, zN], [.inl 6, .inr (.inr (some 98)), .inl 1, .inl v10])) 5 hd0 hz (by rfl) ?_
          refine zG_iald hd0 hz rfl rfl (.inl rfl) (by omega) ?_
          show zG n (0, 0) d 289 (41, [.inr (.inr (some 97)), .inl a1, .inl a2, .inl v8, .inl v9, .inl v10, zN], [.inl (M 98 6), .inl 1, .inl v10]) M _
          obtain ⟨x11, hx11⟩ : ∃ x : Int, x = zbshl 1 (M 98 6) := ⟨_, rfl⟩
          have hx11r := qshl1_in (M 98 6) 4096 12 (by decide) (by decide) (by omega); rw [← hx11] at hx11r
          refine zG_wi_ge (pc := 42) (n' := 45) (t := 119) (L := [.inr (.inr (some 97)), .inl a1, .inl a2, .inl v8, .inl v9, .inl v10, zN]) (st := []) (x := v10) (y := x11) 1 hd0 hz (by subst hx11; rfl) (fun hb12 => ?_) (fun hb12 => ?_)
          · refine zG_w (c' := (120, [.inr (.inr (some 97)), .inl a1, .inl a2, .inl v8, .inl v9, .inl v10, zN], [.inl a2])) 1 hd0 hz (by rfl) ?_
            have j134 : ∀ (v13 : Int) , (-2147483648) ≤ v13 ∧ v13 ≤ 2147483647 → zG n (0, 0) d 289 (134, [.inr (.inr (some 97)), .inl a1, .inl a2, .inl v8, .inl v9, .inl v10, zN], [.inl v13]) M (fun v M' => M' = M ∧ ∃ x : Int, v = some (.inl x) ∧ ((-2147483648) ≤ x ∧ x ≤ 2147483647)) := by
              intro v13 hv13
              exact zG_wr (r := some (.inl v13)) 0 hd0 hz (by rfl) ⟨rfl, _, rfl, by omega⟩
            have j128 : zG n (0, 0) d 289 (128, [.inr (.inr (some 97)), .inl a1, .inl a2, .inl v8, .inl v9, .inl v10, zN], []) M (fun v M' => M' = M ∧ ∃ x : Int, v = some (.inl x) ∧ ((-2147483648) ≤ x ∧ x ≤ 2147483647)) := by
              refine zG_w (c' := (134, [.inr (.inr (some 97)), .inl a1, .inl a2, .inl v8, .inl v9, .inl v10, zN], [.inl v8])) 2 hd0 hz (by rfl) ?_
              exact j134 v8 (by first | with_reducible exact hv8 | omega)
            refine zG_wf_eq (pc := 120) (n' := 123) (t := 128) (L := [.inr (.inr (some 97)), .inl a1, .inl a2, .inl v8, .inl v9, .inl v10, zN]) (st := []) (x := a2) 0 hd0 hz (by rfl) (fun hb14 => ?_) (fun hb14 => ?_)
            · exact j128
            · refine zG_wi_ne (pc := 125) (n' := 128) (t := 132) (L := [.inr (.inr (some 97)), .inl a1, .inl a2, .inl v8, .inl v9, .inl v10, zN]) (st := []) (x := v8) (y := (-1)) 2 hd0 hz (by rfl) (fun hb15 => ?_) (fun hb15 => ?_)
              · refine zG_w (c' := (134, [.inr (.inr (some 97)), .inl a1, .inl a2, .inl v8, .inl v9, .inl v10, zN], [.inl v9])) 1 hd0 hz (by rfl) ?_
                exact j134 v9 (by first | with_reducible exact hv9 | omega)
              · exact j128
          · refine zG_wp (pc := 51) (L := [.inr (.inr (some 97)), .inl a1, .inl a2, .inl v8, .inl v9, .inl v10, zN]) (st := []) 2 hd0 hz zp_288 (qm_288_97 (by first | exact zdk hd rfl | omega) hC   v10 (by first | with_reducible exact hv10 | omega) ) (by rfl) (fun x17 hx17 => ?_)
            refine zG_w (c' := (52, [.inr (.inr (some 97)), .inl a1, .inl a2, .inl v8, .inl v9, .inl v10, zN], [.inl a1, .inl x17])) 1 hd0 hz (by rfl) ?_
            have j113 : ∀ (v18 v19 : Int) , (-1) ≤ v18 ∧ v18 ≤ 5663 → (-2147483648) ≤ v19 ∧ v19 ≤ 2147483647 → zG n (0, 0) d 289 (113, [.inr (.inr (some 97)), .inl a1, .inl a2, .inl v18, .inl v19, .inl v10, zN], []) M (fun v M' => M' = M ∧ ∃ x : Int, v = some (.inl x) ∧ ((-2147483648) ≤ x ∧ x ≤ 2147483647)) := by
              intro v18 v19 hv18 hv19
              obtain ⟨x20, hx20⟩ : ∃ x : Int, x = w32 (v10 + 1) := ⟨_, rfl⟩
              have hx20e : x20 = v10 + 1 := by rw [hx20]; exact w32_id (by omega)
              refine zG_w (c' := (31, [.inr (.inr (some 97)), .inl a1, .inl a2, .inl v18, .inl v19, .inl x20, zN], [])) 2 hd0 hz (by subst hx20; rfl) ?_
              exact ih31 v18 v19 x20 (by omega) (by omega) (by omega) (by omega)
            refine zG_wi_ne (pc := 52) (n' := 55) (t := 113) (L := [.inr (.inr (some 97)), .inl a1, .inl a2, .inl v8, .inl v9, .inl v10, zN]) (st := []) (x := x17) (y := a1) 0 hd0 hz (by rfl) (fun hb21 => ?_) (fun hb21 => ?_)
            · exact j113 v8 v9 (by first | with_reducible exact hv9 | omega) (by omega)
            · refine zG_w (c' := (57, [.inr (.inr (some 97)), .inl a1, .inl a2, .inl v8, .inl v9, .inl v10, zN], [.inl (-1), .inl v8])) 2 hd0 hz (by rfl) ?_
              have j74 : ∀ (v22 : Int) , (-31) ≤ v22 ∧ v22 ≤ 31 → zG n (0, 0) d 289 (74, [.inr (.inr (some 97)), .inl a1, .inl a2, .inl v8, .inl v9, .inl v10, zN], [.inl v22]) M (fun v M' => M' = M ∧ ∃ x : Int, v = some (.inl x) ∧ ((-2147483648) ≤ x ∧ x ≤ 2147483647)) := by
                intro v22 hv22
                refine zG_w (c' := (78, [.inr (.inr (some 97)), .inl a1, .inl a2, .inl v8, .inl v9, .inl v10, .inl v22], [.inl v22])) 2 hd0 hz (by rfl) ?_
                have j99 : ∀ (v23 : Int) , (-2147483648) ≤ v23 ∧ v23 ≤ 2147483647 → zG n (0, 0) d 289 (99, [.inr (.inr (some 97)), .inl a1, .inl a2, .inl v8, .inl v9, .inl v10, .inl v22], [.inl v23]) M (fun v M' => M' = M ∧ ∃ x : Int, v = some (.inl x) ∧ ((-2147483648) ≤ x ∧ x ≤ 2147483647)) := by
                  intro v23 hv23
                  refine zG_w (c' := (103, [.inr (.inr (some 97)), .inl a1, .inl a2, .inl v8, .inl v23, .inl v10, .inl v22], [.inl v22])) 2 hd0 hz (by rfl) ?_
                  have j112 : ∀ (v24 : Int) , (-1) ≤ v24 ∧ v24 ≤ 5663 → zG n (0, 0) d 289 (112, [.inr (.inr (some 97)), .inl a1, .inl a2, .inl v8, .inl v23, .inl v10, .inl v22], [.inl v24]) M (fun v M' => M' = M ∧ ∃ x : Int, v = some (.inl x) ∧ ((-2147483648) ≤ x ∧ x ≤ 2147483647)) := by
                    intro v24 hv24
                    refine zG_w (c' := (113, [.inr (.inr (some 97)), .inl a1, .inl a2, .inl v24, .inl v23, .inl v10, .inl v22], [])) 1 hd0 hz (by rfl) ?_
                    exact zG_weak (j113 v24 v23 (by first | with_reducible exact hv23 | omega) (by omega)) ⟨.inr rfl, .inr rfl, .inr rfl, .inr rfl, .inr rfl, .inr rfl, .inl rfl, trivial⟩
                  refine zG_wf_ge (pc := 103) (n' := 106) (t := 111) (L := [.inr (.inr (some 97)), .inl a1, .inl a2, .inl v8, .inl v23, .inl v10, .inl v22]) (st := []) (x := v22) 0 hd0 hz (by rfl) (fun hb25 => ?_) (fun hb25 => ?_)
                  · refine zG_w (c' := (112, [.inr (.inr (some 97)), .inl a1, .inl a2, .inl v8, .inl v23, .inl v10, .inl v22], [.inl v8])) 1 hd0 hz (by rfl) ?_
                    exact j112 v8 (by first | with_reducible exact hv8 | omega)
                  · refine zG_w (c' := (112, [.inr (.inr (some 97)), .inl a1, .inl a2, .inl v8, .inl v23, .inl v10, .inl v22], [.inl v10])) 2 hd0 hz (by rfl) ?_
                    exact j112 v10 (by first | with_reducible exact hv10 | omega)
                refine zG_wf_ge (pc := 78) (n' := 81) (t := 85) (L := [.inr (.inr (some 97)), .inl a1, .inl a2, .inl v8, .inl v9, .inl v10, .inl v22]) (st := []) (x := v22) 0 hd0 hz (by rfl) (fun hb26 => ?_) (fun hb26 => ?_)
                · refine zG_wf_ne (pc := 87) (n' := 90) (t := 97) (L := [.inr (.inr (some 97)), .inl a1, .inl a2, .inl v8, .inl v9, .inl v10, .inl v22]) (st := []) (x := v22) 1 hd0 hz (by rfl) (fun hb27 => ?_) (fun hb27 => ?_)
                  · refine zG_w (c' := (99, [.inr (.inr (some 97)), .inl a1, .inl a2, .inl v8, .inl v9, .inl v10, .inl v22], [.inl v9])) 1 hd0 hz (by rfl) ?_
                    exact j99 v9 (by first | with_reducible exact hv9 | omega)
                  · obtain ⟨x28, hx28⟩ : ∃ x : Int, x = w32 (v9 + 1) := ⟨_, rfl⟩
                    have hx28r : x28 = (v9 + 1 + 2147483648) % 4294967296 - 2147483648 := hx28
                    refine zG_w (c' := (99, [.inr (.inr (some 97)), .inl a1, .inl a2, .inl v8, .inl v9, .inl v10, .inl v22], [.inl x28])) 4 hd0 hz (by subst hx28; rfl) ?_
                    exact j99 x28 (by omega)
                · refine zG_w (c' := (99, [.inr (.inr (some 97)), .inl a1, .inl a2, .inl v8, .inl v9, .inl v10, .inl v22], [.inl 0])) 2 hd0 hz (by rfl) ?_
                  exact j99 0 (by first | decide | omega)
              refine zG_wi_ne (pc := 57) (n' := 60) (t := 64) (L := [.inr (.inr (some 97)), .inl a1, .inl a2, .inl v8, .inl v9, .inl v10, zN]) (st := []) (x := v8) (y := (-1)) 0 hd0 hz (by rfl) (fun hb29 => ?_) (fun hb29 => ?_)
              · refine zG_wp (pc := 69) (L := [.inr (.inr (some 97)), .inl a1, .inl a2, .inl v8, .inl v9, .inl v10, zN]) (st := []) 1 hd0 hz zp_186 (qx_sizeOf (by first | exact zdk hd rfl | omega) hC   v10 (by first | with_reducible exact hv10 | omega) ) (by rfl) (fun x31 hx31 => ?_)
                refine zG_wp (pc := 73) (L := [.inr (.inr (some 97)), .inl a1, .inl a2, .inl v8, .inl v9, .inl v10, zN]) (st := [.inl x31]) 1 hd0 hz zp_186 (qx_sizeOf (by first | exact zdk hd rfl | omega) hC   v8 (by first | with_reducible exact hv8 | omega) ) (by rfl) (fun x33 hx33 => ?_)
                obtain ⟨x34, hx34⟩ : ∃ x : Int, x = w32 (x31 - x33) := ⟨_, rfl⟩
                have hx34e : x34 = x31 - x33 := by rw [hx34]; exact w32_id (by omega)
                refine zG_w (c' := (74, [.inr (.inr (some 97)), .inl a1, .inl a2, .inl v8, .inl v9, .inl v10, zN], [.inl x34])) 1 hd0 hz (by subst hx34; rfl) ?_
                exact j74 x34 (by omega)
              · refine zG_w (c' := (74, [.inr (.inr (some 97)), .inl a1, .inl a2, .inl v8, .inl v9, .inl v10, zN], [.inl (-1)])) 2 hd0 hz (by rfl) ?_
                exact j74 (-1) (by first | decide | omega)
      exact j31 ((4096 - 0 : Int).toNat + 1) (-1) 0 0 (by first | decide | omega) (by omega) (by omega) (by omega)
    · exact j20
theorem qm_292_97 {n d : Nat} {M : zM} (hd : 3 ≤ d) (hC : qMI M)  (a1 : Int) (ha1 : 0 ≤ a1 ∧ a1 ≤ 7) : qOkP n d 292 [.inr (.inr (some 97)), .inl a1] 4 M (fun v => ∃ x : Int, v = some (.inl x) ∧ ((-2147483648) ≤ x ∧ x ≤ 2147483647)) := by
  have hz := zp_292
  have hd0 : 0 < d := by omega
  have r1 := hC.cnt3
  show zG n (0, 0) d 292 (0, [.inr (.inr (some 97)), .inl a1, zN, zN], []) M _
  refine zG_wi_ge (pc := 3) (n' := 6) (t := 13) (L := [.inr (.inr (some 97)), .inl a1, zN, zN]) (st := []) (x := a1) (y := 7) 2 hd0 hz (by rfl) (fun hb2 => ?_) (fun hb2 => ?_)
  · refine zG_w (c' := (17, [.inr (.inr (some 97)), .inl a1, .inl 0, .inl 0], [])) 4 hd0 hz (by rfl) ?_
    have j17 : ∀ (N : Nat) (v3 v4 : Int) , (40 - v4 : Int).toNat < N → (-2147483648) ≤ v3 ∧ v3 ≤ 2147483647 → 0 ≤ v4 ∧ v4 ≤ 40 → zG n (0, 0) d 292 (17, [.inr (.inr (some 97)), .inl a1, .inl v3, .inl v4], []) M (fun v M' => M' = M ∧ ∃ x : Int, v = some (.inl x) ∧ ((-2147483648) ≤ x ∧ x ≤ 2147483647)) := by
      intro N
      induction N with
      | zero => intro v3 v4 hN hv3 hv4; exact absurd hN (Nat.not_lt_zero _)
      | succ N ih17 =>
        intro v3 v4 hN hv3 hv4
        replace hN : 40 - v4 < (N : Int) + 1 := by omega
        refine zG_w (c' := (23, [.inr (.inr (some 97)), .inl a1, .inl v3, .inl v4], [.inl 3, .inr (.inr (some 98)), .inl v4])) 4 hd0 hz (by rfl) ?_
        refine zG_iald hd0 hz rfl rfl (.inl rfl) (by omega) ?_
        show zG n (0, 0) d 292 (24, [.inr (.inr (some 97)), .inl a1, .inl v3, .inl v4], [.inl (M 98 3), .inl v4]) M _
        refine zG_wi_ge (pc := 24) (n' := 27) (t := 49) (L := [.inr (.inr (some 97)), .inl a1, .inl v3, .inl v4]) (st := []) (x := v4) (y := (M 98 3)) 0 hd0 hz (by rfl) (fun hb5 => ?_) (fun hb5 => ?_)
        · exact zG_wr (r := some (.inl v3)) 1 hd0 hz (by rfl) ⟨rfl, _, rfl, by omega⟩
        · refine zG_wp (pc := 33) (L := [.inr (.inr (some 97)), .inl a1, .inl v3, .inl v4]) (st := [.inl v3]) 3 hd0 hz zp_192 (qm_192_97 (by first | exact zdk hd rfl | omega) hC   v4 (by first | with_reducible exact hv4 | omega) ) (by rfl) (fun x7 hr => ?_)
          obtain ⟨hx7, hpx7_0⟩ := hr
          have j41 : ∀ (v8 : Int) , 0 ≤ v8 ∧ v8 ≤ 1 → zG n (0, 0) d 292 (41, [.inr (.inr (some 97)), .inl a1, .inl v3, .inl v4], [.inl v8, .inl v3]) M (fun v M' => M' = M ∧ ∃ x : Int, v = some (.inl x) ∧ ((-2147483648) ≤ x ∧ x ≤ 2147483647)) := by
            intro v8 hv8
            obtain ⟨x9, hx9⟩ : ∃ x : Int, x = w32 (v3 + v8) := ⟨_, rfl⟩
            have hx9r : x9 = (v3 + v8 + 2147483648) % 4294967296 - 2147483648 := hx9
            obtain ⟨x10, hx10⟩ : ∃ x : Int, x = w32 (v4 + 1) := ⟨_, rfl⟩
            have hx10e : x10 = v4 + 1 := by rw [hx10]; exact w32_id (by omega)
            refine zG_w (c' := (17, [.inr (.inr (some 97)), .inl a1, .inl x9, .inl x10], [])) 4 hd0 hz (by subst hx10; subst hx9; rfl) ?_
            exact ih17 x9 x10 (by omega) (by omega) (by omega)
          refine zG_wf_eq (pc := 33) (n' := 36) (t := 40) (L := [.inr (.inr (some 97)), .inl a1, .inl v3, .inl v4]) (st := [.inl v3]) (x := x7) 0 hd0 hz (by rfl) (fun hb11 => ?_) (fun hb11 => ?_)
          · refine zG_w (c' := (41, [.inr (.inr (some 97)), .inl a1, .inl v3, .inl v4], [.inl 0, .inl v3])) 1 hd0 hz (by rfl) ?_
            exact j41 0 (by first | decide | omega)
          · refine zG_w (c' := (41, [.inr (.inr (some 97)), .inl a1, .inl v3, .inl v4], [.inl 1, .inl v3])) 2 hd0 hz (by rfl) ?_
            exact j41 1 (by first | decide | omega)
    exact j17 ((40 - 0 : Int).toNat + 1) 0 0 (by first | decide | omega) (by omega) (by omega)
  · refine zG_w (c' := (11, [.inr (.inr (some 97)), .inl a1, zN, zN], [.inl a1, .inr (.inr (some 98))])) 3 hd0 hz (by rfl) ?_
    refine zG_iald hd0 hz rfl rfl (.inl rfl) (by omega) ?_
    obtain ⟨x12, hx12⟩ : ∃ x : Int, x = M 98 (a1 : Int).toNat := ⟨_, rfl⟩
    rw [← hx12]
    have hx12r : qin x12 := by rw [hx12]; exact hC.sin _
    show zG n (0, 0) d 292 (12, [.inr (.inr (some 97)), .inl a1, zN, zN], [.inl x12]) M _
    exact zG_wr (r := some (.inl x12)) 0 hd0 hz (by rfl) ⟨rfl, _, rfl, by omega⟩
theorem qm_293_97 {n d : Nat} {M : zM} (hd : 4 ≤ d) (hC : qMI M)  (a1 : Int) (ha1 : (-2147483648) ≤ a1 ∧ a1 ≤ 2147483647) : qOkP n d 293 [.inr (.inr (some 97)), .inl a1] 2 M (fun v => ∃ x : Int, v = some (.inl x) ∧ ((-2147483648) ≤ x ∧ x ≤ 2147483647)) := by
  have hz := zp_293
  have hd0 : 0 < d := by omega
  show zG n (0, 0) d 293 (0, [.inr (.inr (some 97)), .inl a1], []) M _
  refine zG_wp (pc := 7) (L := [.inr (.inr (some 97)), .inl a1]) (st := []) 3 hd0 hz zp_180 (qx_in (by first | exact zdk hd rfl | omega) hC   a1 (by first | with_reducible exact ha1 | omega) 0 (by first | decide | omega) 7 (by first | decide | omega) ) (by rfl) (fun x2 hx2 => ?_)
  have j20 : ∀ (v3 : Int) , (-2147483648) ≤ v3 ∧ v3 ≤ 2147483647 → zG n (0, 0) d 293 (20, [.inr (.inr (some 97)), .inl a1], [.inl v3]) M (fun v M' => M' = M ∧ ∃ x : Int, v = some (.inl x) ∧ ((-2147483648) ≤ x ∧ x ≤ 2147483647)) := by
    intro v3 hv3
    exact zG_wr (r := some (.inl v3)) 0 hd0 hz (by rfl) ⟨rfl, _, rfl, by omega⟩
  refine zG_wf_eq (pc := 7) (n' := 10) (t := 18) (L := [.inr (.inr (some 97)), .inl a1]) (st := []) (x := x2) 0 hd0 hz (by rfl) (fun hb4 => ?_) (fun hb4 => ?_)
  · refine zG_w (c' := (20, [.inr (.inr (some 97)), .inl a1], [.inl (-2)])) 1 hd0 hz (by rfl) ?_
    exact j20 (-2) (by first | decide | omega)
  · have hcx2 := hx2.2.2.mp (by omega)
    clear hx2 hb4
    refine zG_wp (pc := 15) (L := [.inr (.inr (some 97)), .inl a1]) (st := []) 2 hd0 hz zp_292 (qm_292_97 (by first | exact zdk hd rfl | omega) hC   a1 (by first | with_reducible exact ha1 | omega) ) (by rfl) (fun x6 hx6 => ?_)
    refine zG_w (c' := (20, [.inr (.inr (some 97)), .inl a1], [.inl x6])) 1 hd0 hz (by rfl) ?_
    exact j20 x6 (by omega)
theorem qm_294_97 {n d : Nat} {M : zM} (hd : 1 ≤ d) (hC : qMI M)  (a1 : Int) (a2 : Int) (ha2 : 0 ≤ a2 ∧ a2 ≤ 5663) (a3 : Int) (ha3 : 0 ≤ a3 ∧ a3 ≤ 5664) (hp0 : a2 + a3 ≤ 5664) : qOkP n d 294 [.inr (.inr (some 97)), .inr (.inl (a1)), .inl a2, .inl a3] 8 M (fun v => ∃ x : Int, v = some (.inr (.inl x))) := by
  have hz := zp_294
  have hd0 : 0 < d := by omega
  show zG n (0, 0) d 294 (0, [.inr (.inr (some 97)), .inr (.inl (a1)), zN, .inl a2, .inl a3, zN, zN, zN], []) M _
  refine zG_w (c' := (6, [.inr (.inr (some 97)), .inr (.inl (a1)), zN, .inl a2, .inl a3, .inr (.inl (a1)), zN, .inl 0], [])) 4 hd0 hz (by rfl) ?_
  have j6 : ∀ (N : Nat) (v1 v2 : Int) , (a3 - v2 : Int).toNat < N → 0 ≤ v2 ∧ v2 ≤ 5664 → zG n (0, 0) d 294 (6, [.inr (.inr (some 97)), .inr (.inl (a1)), zN, .inl a2, .inl a3, .inr (.inl (v1)), zN, .inl v2], []) M (fun v M' => M' = M ∧ ∃ x : Int, v = some (.inr (.inl x))) := by
    intro N
    induction N with
    | zero => intro v1 v2 hN hv2; exact absurd hN (Nat.not_lt_zero _)
    | succ N ih6 =>
      intro v1 v2 hN hv2
      replace hN : a3 - v2 < (N : Int) + 1 := by omega
      refine zG_wi_ge (pc := 10) (n' := 13) (t := 38) (L := [.inr (.inr (some 97)), .inr (.inl (a1)), zN, .inl a2, .inl a3, .inr (.inl (v1)), zN, .inl v2]) (st := []) (x := v2) (y := a3) 2 hd0 hz (by rfl) (fun hb3 => ?_) (fun hb3 => ?_)
      · exact zG_wr (r := some (.inr (.inl (v1)))) 1 hd0 hz (by rfl) ⟨rfl, _, rfl⟩
      · obtain ⟨x4, hx4⟩ : ∃ x : Int, x = w64 (31 * v1) := ⟨_, rfl⟩
        obtain ⟨x5, hx5⟩ : ∃ x : Int, x = w32 (a2 + v2) := ⟨_, rfl⟩
        have hx5e : x5 = a2 + v2 := by rw [hx5]; exact w32_id (by omega)
        refine zG_w (c' := (27, [.inr (.inr (some 97)), .inr (.inl (a1)), zN, .inl a2, .inl a3, .inr (.inl (v1)), zN, .inl v2], [.inl x5, .inr (.inr (some 98)), .inr (.inl (x4))])) 8 hd0 hz (by subst hx5; subst hx4; rfl) ?_
        refine zG_iald hd0 hz rfl rfl (.inl rfl) (by omega) ?_
        obtain ⟨x6, hx6⟩ : ∃ x : Int, x = M 98 (x5 : Int).toNat := ⟨_, rfl⟩
        rw [← hx6]
        have hx6r : qin x6 := by rw [hx6]; exact hC.sin _
        show zG n (0, 0) d 294 (28, [.inr (.inr (some 97)), .inr (.inl (a1)), zN, .inl a2, .inl a3, .inr (.inl (v1)), zN, .inl v2], [.inl x6, .inr (.inl (x4))]) M _
        obtain ⟨x7, hx7⟩ : ∃ x : Int, x = w64 (x4 + x6) := ⟨_, rfl⟩
        obtain ⟨x8, hx8⟩ : ∃ x : Int, x = w32 (v2 + 1) := ⟨_, rfl⟩
        have hx8e : x8 = v2 + 1 := by rw [hx8]; exact w32_id (by omega)
        refine zG_w (c' := (6, [.inr (.inr (some 97)), .inr (.inl (a1)), zN, .inl a2, .inl a3, .inr (.inl (x7)), zN, .inl x8], [])) 5 hd0 hz (by subst hx8; subst hx7; rfl) ?_
        exact ih6 x7 x8 (by omega) (by omega)
  exact j6 ((a3 - 0 : Int).toNat + 1) a1 0 (by first | decide | omega) (by omega)
theorem qm_295_97 {n d : Nat} {M : zM} (hd : 4 ≤ d) (hC : qMI M)   : qOkP n d 295 [.inr (.inr (some 97))] 4 M (fun v => ∃ x : Int, v = some (.inr (.inl x))) := by
  have hz := zp_295
  have hd0 : 0 < d := by omega
  have r1 := hC.cnt0
  have r2 := hC.cnt1
  have r3 := hC.cnt3
  have r4 := hC.cnt4
  show zG n (0, 0) d 295 (0, [.inr (.inr (some 97)), zN, zN, zN], []) M _
  refine zG_w (c' := (6, [.inr (.inr (some 97)), .inr (.inl (283)), zN, .inl 0], [])) 4 hd0 hz (by rfl) ?_
  have j6 : ∀ (N : Nat) (v5 v6 : Int) , (8 - v6 : Int).toNat < N → 0 ≤ v6 ∧ v6 ≤ 8 → zG n (0, 0) d 295 (6, [.inr (.inr (some 97)), .inr (.inl (v5)), zN, .inl v6], []) M (fun v M' => M' = M ∧ ∃ x : Int, v = some (.inr (.inl x))) := by
    intro N
    induction N with
    | zero => intro v5 v6 hN hv6; exact absurd hN (Nat.not_lt_zero _)
    | succ N ih6 =>
      intro v5 v6 hN hv6
      replace hN : 8 - v6 < (N : Int) + 1 := by omega
      refine zG_wi_ge (pc := 9) (n' := 12) (t := 31) (L := [.inr (.inr (some 97)), .inr (.inl (v5)), zN, .inl v6]) (st := []) (x := v6) (y := 8) 2 hd0 hz (by rfl) (fun hb7 => ?_) (fun hb7 => ?_)
      · refine zG_w (c' := (41, [.inr (.inr (some 97)), .inr (.inl (v5)), zN, .inl v6], [.inl 0, .inr (.inr (some 98)), .inl 4, .inl 20, .inr (.inl (v5)), .inr (.inr (some 97))])) 7 hd0 hz (by rfl) ?_
        refine zG_iald hd0 hz rfl rfl (.inl rfl) (by omega) ?_
        show zG n (0, 0) d 295 (42, [.inr (.inr (some 97)), .inr (.inl (v5)), zN, .inl v6], [.inl (M 98 0), .inl 4, .inl 20, .inr (.inl (v5)), .inr (.inr (some 97))]) M _
        obtain ⟨x8, hx8⟩ : ∃ x : Int, x = w32 (4 * (M 98 0)) := ⟨_, rfl⟩
        have hx8e : x8 = 4 * (M 98 0) := by rw [hx8]; exact w32_id (by omega)
        refine zG_wl (pc := 46) (L := [.inr (.inr (some 97)), .inr (.inl (v5)), zN, .inl v6]) (st := []) 1 hd0 hz zp_294 (qm_294_97 (by first | exact zdk hd rfl | omega) hC   v5 20 (by first | decide | omega) x8 (by omega) (by omega)) (by subst hx8; rfl) (fun x10 => ?_)
        refine zG_w (c' := (57, [.inr (.inr (some 97)), .inr (.inl (x10)), zN, .inl v6], [.inl 1, .inr (.inr (some 98)), .inl 3, .inl 80, .inr (.inl (x10)), .inr (.inr (some 97))])) 8 hd0 hz (by rfl) ?_
        refine zG_iald hd0 hz rfl rfl (.inl rfl) (by omega) ?_
        show zG n (0, 0) d 295 (58, [.inr (.inr (some 97)), .inr (.inl (x10)), zN, .inl v6], [.inl (M 98 1), .inl 3, .inl 80, .inr (.inl (x10)), .inr (.inr (some 97))]) M _
        obtain ⟨x11, hx11⟩ : ∃ x : Int, x = w32 (3 * (M 98 1)) := ⟨_, rfl⟩
        have hx11e : x11 = 3 * (M 98 1) := by rw [hx11]; exact w32_id (by omega)
        refine zG_wl (pc := 62) (L := [.inr (.inr (some 97)), .inr (.inl (x10)), zN, .inl v6]) (st := []) 1 hd0 hz zp_294 (qm_294_97 (by first | exact zdk hd rfl | omega) hC   x10 80 (by first | decide | omega) x11 (by omega) (by omega)) (by subst hx11; rfl) (fun x13 => ?_)
        refine zG_w (c' := (74, [.inr (.inr (some 97)), .inr (.inl (x13)), zN, .inl v6], [.inl 3, .inr (.inr (some 98)), .inl 5, .inl 150, .inr (.inl (x13)), .inr (.inr (some 97))])) 8 hd0 hz (by rfl) ?_
        refine zG_iald hd0 hz rfl rfl (.inl rfl) (by omega) ?_
        show zG n (0, 0) d 295 (75, [.inr (.inr (some 97)), .inr (.inl (x13)), zN, .inl v6], [.inl (M 98 3), .inl 5, .inl 150, .inr (.inl (x13)), .inr (.inr (some 97))]) M _
        obtain ⟨x14, hx14⟩ : ∃ x : Int, x = w32 (5 * (M 98 3)) := ⟨_, rfl⟩
        have hx14e : x14 = 5 * (M 98 3) := by rw [hx14]; exact w32_id (by omega)
        refine zG_wl (pc := 79) (L := [.inr (.inr (some 97)), .inr (.inl (x13)), zN, .inl v6]) (st := []) 1 hd0 hz zp_294 (qm_294_97 (by first | exact zdk hd rfl | omega) hC   x13 150 (by first | decide | omega) x14 (by omega) (by omega)) (by subst hx14; rfl) (fun x16 => ?_)
        refine zG_w (c' := (82, [.inr (.inr (some 97)), .inr (.inl (x16)), zN, .inl 0], [])) 3 hd0 hz (by rfl) ?_
        have j82 : ∀ (N : Nat) (v17 v18 : Int) , (250 - v18 : Int).toNat < N → 0 ≤ v18 ∧ v18 ≤ 250 → zG n (0, 0) d 295 (82, [.inr (.inr (some 97)), .inr (.inl (v17)), zN, .inl v18], []) M (fun v M' => M' = M ∧ ∃ x : Int, v = some (.inr (.inl x))) := by
          intro N
          induction N with
          | zero => intro v17 v18 hN hv18; exact absurd hN (Nat.not_lt_zero _)
          | succ N ih82 =>
            intro v17 v18 hN hv18
            replace hN : 250 - v18 < (N : Int) + 1 := by omega
            refine zG_w (c' := (88, [.inr (.inr (some 97)), .inr (.inl (v17)), zN, .inl v18], [.inl 4, .inr (.inr (some 98)), .inl v18])) 4 hd0 hz (by rfl) ?_
            refine zG_iald hd0 hz rfl rfl (.inl rfl) (by omega) ?_
            show zG n (0, 0) d 295 (89, [.inr (.inr (some 97)), .inr (.inl (v17)), zN, .inl v18], [.inl (M 98 4), .inl v18]) M _
            refine zG_wi_ge (pc := 89) (n' := 92) (t := 114) (L := [.inr (.inr (some 97)), .inr (.inl (v17)), zN, .inl v18]) (st := []) (x := v18) (y := (M 98 4)) 0 hd0 hz (by rfl) (fun hb19 => ?_) (fun hb19 => ?_)
            · refine zG_w (c' := (116, [.inr (.inr (some 97)), .inr (.inl (v17)), zN, .inl 0], [])) 2 hd0 hz (by rfl) ?_
              have j116 : ∀ (N : Nat) (v20 v21 : Int) , (8 - v21 : Int).toNat < N → 0 ≤ v21 ∧ v21 ≤ 8 → zG n (0, 0) d 295 (116, [.inr (.inr (some 97)), .inr (.inl (v20)), zN, .inl v21], []) M (fun v M' => M' = M ∧ ∃ x : Int, v = some (.inr (.inl x))) := by
                intro N
                induction N with
                | zero => intro v20 v21 hN hv21; exact absurd hN (Nat.not_lt_zero _)
                | succ N ih116 =>
                  intro v20 v21 hN hv21
                  replace hN : 8 - v21 < (N : Int) + 1 := by omega
                  refine zG_wi_ge (pc := 119) (n' := 122) (t := 157) (L := [.inr (.inr (some 97)), .inr (.inl (v20)), zN, .inl v21]) (st := []) (x := v21) (y := 8) 2 hd0 hz (by rfl) (fun hb22 => ?_) (fun hb22 => ?_)
                  · refine zG_wl (pc := 166) (L := [.inr (.inr (some 97)), .inr (.inl (v20)), zN, .inl v21]) (st := [.inr (.inr (some 97))]) 5 hd0 hz zp_294 (qm_294_97 (by first | exact zdk hd rfl | omega) hC   v20 7 (by first | decide | omega) 1 (by first | decide | omega) (by omega)) (by rfl) (fun x24 => ?_)
                    refine zG_wl (pc := 172) (L := [.inr (.inr (some 97)), .inr (.inl (v20)), zN, .inl v21]) (st := []) 2 hd0 hz zp_294 (qm_294_97 (by first | exact zdk hd rfl | omega) hC   x24 8 (by first | decide | omega) 1 (by first | decide | omega) (by omega)) (by rfl) (fun x26 => ?_)
                    exact zG_wr (r := some (.inr (.inl (x26)))) 0 hd0 hz (by rfl) ⟨rfl, _, rfl⟩
                  · obtain ⟨x27, hx27⟩ : ∃ x : Int, x = w32 (81 * v21) := ⟨_, rfl⟩
                    have hx27e : x27 = 81 * v21 := by rw [hx27]; exact w32_id (by omega)
                    obtain ⟨x28, hx28⟩ : ∃ x : Int, x = w32 (3350 + x27) := ⟨_, rfl⟩
                    have hx28e : x28 = 3350 + x27 := by rw [hx28]; exact w32_id (by omega)
                    obtain ⟨x29, hx29⟩ : ∃ x : Int, x = w32 (81 * v21) := ⟨_, rfl⟩
                    have hx29e : x29 = 81 * v21 := by rw [hx29]; exact w32_id (by omega)
                    obtain ⟨x30, hx30⟩ : ∃ x : Int, x = w32 (3350 + x29) := ⟨_, rfl⟩
                    have hx30e : x30 = 3350 + x29 := by rw [hx30]; exact w32_id (by omega)
                    refine zG_w (c' := (145, [.inr (.inr (some 97)), .inr (.inl (v20)), zN, .inl v21], [.inl x30, .inr (.inr (some 98)), .inl 1, .inl x28, .inr (.inl (v20)), .inr (.inr (some 97))])) 15 hd0 hz (by subst hx30; subst hx29; subst hx28; subst hx27; rfl) ?_
                    refine zG_iald hd0 hz rfl rfl (.inl rfl) (by omega) ?_
                    obtain ⟨x31, hx31⟩ : ∃ x : Int, x = M 98 (x30 : Int).toNat := ⟨_, rfl⟩
                    rw [← hx31]
                    have hx31r : 0 ≤ x31 ∧ x31 ≤ 80 := by rw [hx31]; exact hC.txt v21 _ (by omega) (by omega)
                    show zG n (0, 0) d 295 (146, [.inr (.inr (some 97)), .inr (.inl (v20)), zN, .inl v21], [.inl x31, .inl 1, .inl x28, .inr (.inl (v20)), .inr (.inr (some 97))]) M _
                    obtain ⟨x32, hx32⟩ : ∃ x : Int, x = w32 (1 + x31) := ⟨_, rfl⟩
                    have hx32e : x32 = 1 + x31 := by rw [hx32]; exact w32_id (by omega)
                    refine zG_wl (pc := 150) (L := [.inr (.inr (some 97)), .inr (.inl (v20)), zN, .inl v21]) (st := []) 1 hd0 hz zp_294 (qm_294_97 (by first | exact zdk hd rfl | omega) hC   v20 x28 (by omega) x32 (by omega) (by omega)) (by subst hx32; rfl) (fun x34 => ?_)
                    obtain ⟨x35, hx35⟩ : ∃ x : Int, x = w32 (v21 + 1) := ⟨_, rfl⟩
                    have hx35e : x35 = v21 + 1 := by rw [hx35]; exact w32_id (by omega)
                    refine zG_w (c' := (116, [.inr (.inr (some 97)), .inr (.inl (x34)), zN, .inl x35], [])) 3 hd0 hz (by subst hx35; rfl) ?_
                    exact ih116 x34 x35 (by omega) (by omega)
              exact j116 ((8 - 0 : Int).toNat + 1) v17 0 (by first | decide | omega) (by omega)
            · obtain ⟨x36, hx36⟩ : ∃ x : Int, x = w32 (12 * v18) := ⟨_, rfl⟩
              have hx36e : x36 = 12 * v18 := by rw [hx36]; exact w32_id (by omega)
              obtain ⟨x37, hx37⟩ : ∃ x : Int, x = w32 (350 + x36) := ⟨_, rfl⟩
              have hx37e : x37 = 350 + x36 := by rw [hx37]; exact w32_id (by omega)
              refine zG_wl (pc := 107) (L := [.inr (.inr (some 97)), .inr (.inl (v17)), zN, .inl v18]) (st := []) 8 hd0 hz zp_294 (qm_294_97 (by first | exact zdk hd rfl | omega) hC   v17 x37 (by omega) 8 (by first | decide | omega) (by omega)) (by subst hx37; subst hx36; rfl) (fun x39 => ?_)
              obtain ⟨x40, hx40⟩ : ∃ x : Int, x = w32 (v18 + 1) := ⟨_, rfl⟩
              have hx40e : x40 = v18 + 1 := by rw [hx40]; exact w32_id (by omega)
              refine zG_w (c' := (82, [.inr (.inr (some 97)), .inr (.inl (x39)), zN, .inl x40], [])) 3 hd0 hz (by subst hx40; rfl) ?_
              exact ih82 x39 x40 (by omega) (by omega)
        exact j82 ((250 - 0 : Int).toNat + 1) x16 0 (by first | decide | omega) (by omega)
      · obtain ⟨x41, hx41⟩ : ∃ x : Int, x = w64 (31 * v5) := ⟨_, rfl⟩
        refine zG_wp (pc := 22) (L := [.inr (.inr (some 97)), .inr (.inl (v5)), zN, .inl v6]) (st := [.inr (.inl (x41))]) 5 hd0 hz zp_292 (qm_292_97 (by first | exact zdk hd rfl | omega) hC   v6 (by first | with_reducible exact hv6 | omega) ) (by subst hx41; rfl) (fun x43 hx43 => ?_)
        obtain ⟨x44, hx44⟩ : ∃ x : Int, x = w64 (x41 + x43) := ⟨_, rfl⟩
        obtain ⟨x45, hx45⟩ : ∃ x : Int, x = w32 (v6 + 1) := ⟨_, rfl⟩
        have hx45e : x45 = v6 + 1 := by rw [hx45]; exact w32_id (by omega)
        refine zG_w (c' := (6, [.inr (.inr (some 97)), .inr (.inl (x44)), zN, .inl x45], [])) 5 hd0 hz (by subst hx45; subst hx44; rfl) ?_
        exact ih6 x44 x45 (by omega) (by omega)
  exact j6 ((8 - 0 : Int).toNat + 1) 283 0 (by first | decide | omega) (by omega)
