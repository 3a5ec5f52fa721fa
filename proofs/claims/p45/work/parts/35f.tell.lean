/-! THE MODEL'S METHODS, BY PROGRAM -/
theorem qm_257_97 {n d : Nat} {M : zM} (hd : 7 ≤ d) (hC : qMI M)  (a1 : Int) (ha1 : (-2147483648) ≤ a1 ∧ a1 ≤ 2147483647) (a2 : Int) (ha2 : (-2147483648) ≤ a2 ∧ a2 ≤ 2147483647) (a3 : Int) (ha3 : (-2147483648) ≤ a3 ∧ a3 ≤ 2147483647) (a4 : Int) (ha4 : 0 ≤ a4 ∧ a4 ≤ 1) : qOkN n d 257 [.inr (.inr (some 97)), .inl a1, .inl a2, .inl a3, .inl a4] 7 [98, 105, 106, 107, 1007, 1010, 1012, 1013] M (fun v M' => ∃ x : Int, v = some (.inl x) ∧ ((-2147483648) ≤ x ∧ x ≤ 2147483647) ∧ (M' 98 6 = M 98 6)) := by
  have hz := zp_257
  have hd0 : 0 < d := by omega
  have hW : qFm [98, 105, 106, 107, 1007, 1010, 1012, 1013] M M := qFm.rfl
  have r1 := hC.cnt6
  have r2 := hC.cnt5
  show zG n (0, 0) d 257 (0, [.inr (.inr (some 97)), .inl a1, .inl a2, .inl a3, .inl a4, zN, zN], []) M _
  refine zG_wp (pc := 4) (L := [.inr (.inr (some 97)), .inl a1, .inl a2, .inl a3, .inl a4, zN, zN]) (st := []) 1 hd0 hz zp_252 (qm_252 (by first | exact zdk hd rfl | omega) hC   a1 (by first | with_reducible exact ha1 | omega) ) (by rfl) (fun x4 hr => ?_)
  obtain ⟨hx4, hpx4_0⟩ := hr
  have j21 : zG n (0, 0) d 257 (21, [.inr (.inr (some 97)), .inl a1, .inl a2, .inl a3, .inl a4, zN, zN], []) M (fun v M' => (qMI M' ∧ qFm [98, 105, 106, 107, 1007, 1010, 1012, 1013] M M') ∧ ∃ x : Int, v = some (.inl x) ∧ ((-2147483648) ≤ x ∧ x ≤ 2147483647) ∧ (M' 98 6 = M 98 6)) := by
    exact zG_wr (r := some (.inl (-2))) 1 hd0 hz (by rfl) ⟨⟨hC, hW⟩, _, rfl, by omega, by omega⟩
  refine zG_wf_eq (pc := 4) (n' := 7) (t := 21) (L := [.inr (.inr (some 97)), .inl a1, .inl a2, .inl a3, .inl a4, zN, zN]) (st := []) (x := x4) 0 hd0 hz (by rfl) (fun hb5 => ?_) (fun hb5 => ?_)
  · exact j21
  · have hcx4 := hpx4_0.mp (by omega)
    clear hx4 hpx4_0 hb5
    refine zG_wp (pc := 11) (L := [.inr (.inr (some 97)), .inl a1, .inl a2, .inl a3, .inl a4, zN, zN]) (st := []) 1 hd0 hz zp_252 (qm_252 (by first | exact zdk hd rfl | omega) hC   a2 (by first | with_reducible exact ha2 | omega) ) (by rfl) (fun x7 hr => ?_)
    obtain ⟨hx7, hpx7_0⟩ := hr
    refine zG_wf_eq (pc := 11) (n' := 14) (t := 21) (L := [.inr (.inr (some 97)), .inl a1, .inl a2, .inl a3, .inl a4, zN, zN]) (st := []) (x := x7) 0 hd0 hz (by rfl) (fun hb8 => ?_) (fun hb8 => ?_)
    · exact j21
    · have hcx7 := hpx7_0.mp (by omega)
      clear hx7 hpx7_0 hb8
      refine zG_wp (pc := 18) (L := [.inr (.inr (some 97)), .inl a1, .inl a2, .inl a3, .inl a4, zN, zN]) (st := []) 1 hd0 hz zp_184 (qm_184 (by first | exact zdk hd rfl | omega) hC   a3 (by first | with_reducible exact ha3 | omega) ) (by rfl) (fun x10 hr => ?_)
      obtain ⟨hx10, hpx10_0⟩ := hr
      refine zG_wf_ne (pc := 18) (n' := 21) (t := 24) (L := [.inr (.inr (some 97)), .inl a1, .inl a2, .inl a3, .inl a4, zN, zN]) (st := []) (x := x10) 0 hd0 hz (by rfl) (fun hb11 => ?_) (fun hb11 => ?_)
      · have hcx10 := hpx10_0.mp (by omega)
        clear hx10 hpx10_0 hb11
        obtain ⟨x12, hx12⟩ : ∃ x : Int, x = w32 (81 * a1) := ⟨_, rfl⟩
        have hx12e : x12 = 81 * a1 := by rw [hx12]; exact w32_id (by omega)
        obtain ⟨x13, hx13⟩ : ∃ x : Int, x = w32 (3350 + x12) := ⟨_, rfl⟩
        have hx13e : x13 = 3350 + x12 := by rw [hx13]; exact w32_id (by omega)
        refine zG_wn (pc := 36) (L := [.inr (.inr (some 97)), .inl a1, .inl a2, .inl a3, .inl a4, zN, zN]) (st := []) 6 hd0 hz zp_231 (qm_231_97 (by first | exact zdk hd rfl | omega) hC   x13 (by omega) (by exact hC.txt a1 _ (by omega) (by omega))) (by subst hx13; subst hx12; rfl) (fun x15 M14 hr hx15 => ?_)
        obtain ⟨hCM14, hFM14⟩ := hr
        have hWM14 : qFm [98, 105, 106, 107, 1007, 1010, 1012, 1013] M M14 := hW.tr hFM14 (by decide)
        have e16 : M14 98 6 = M 98 6 := hFM14 98 6 (by decide)
        have e17 : M14 98 5 = M 98 5 := hFM14 98 5 (by decide)
        refine zG_w (c' := (37, [.inr (.inr (some 97)), .inl a1, .inl a2, .inl a3, .inl a4, zN, zN], [.inl (-1), .inl x15])) 1 hd0 hz (by rfl) ?_
        have j56 : ∀ (M18 : zM) , (M18 98 6 = M 98 6) → qMI M18 → qFm [98, 105, 106, 107, 1007, 1010, 1012, 1013] M M18 → zG n (0, 0) d 257 (56, [.inr (.inr (some 97)), .inl a1, .inl a2, .inl a3, .inl a4, zN, zN], []) M18 (fun v M' => (qMI M' ∧ qFm [98, 105, 106, 107, 1007, 1010, 1012, 1013] M M') ∧ ∃ x : Int, v = some (.inl x) ∧ ((-2147483648) ≤ x ∧ x ≤ 2147483647) ∧ (M' 98 6 = M 98 6)) := by
          intro M18 hx0_56 hCM18 hWM18
          have r19 := hCM18.cnt6
          exact zG_wr (r := some (.inl (-3))) 1 hd0 hz (by rfl) ⟨⟨hCM18, hWM18⟩, _, rfl, by omega, by omega⟩
        refine zG_wi_ne (pc := 37) (n' := 40) (t := 56) (L := [.inr (.inr (some 97)), .inl a1, .inl a2, .inl a3, .inl a4, zN, zN]) (st := []) (x := x15) (y := (-1)) 0 hd0 hz (by rfl) (fun hb20 => ?_) (fun hb20 => ?_)
        · exact j56 M14 (by omega) hCM14 hWM14
        · obtain ⟨x21, hx21⟩ : ∃ x : Int, x = w32 (81 * a2) := ⟨_, rfl⟩
          have hx21e : x21 = 81 * a2 := by rw [hx21]; exact w32_id (by omega)
          obtain ⟨x22, hx22⟩ : ∃ x : Int, x = w32 (3350 + x21) := ⟨_, rfl⟩
          have hx22e : x22 = 3350 + x21 := by rw [hx22]; exact w32_id (by omega)
          refine zG_wn (pc := 52) (L := [.inr (.inr (some 97)), .inl a1, .inl a2, .inl a3, .inl a4, zN, zN]) (st := []) 6 hd0 hz zp_231 (qm_231_97 (by first | exact zdk hd rfl | omega) hCM14   x22 (by omega) (by exact hCM14.txt a2 _ (by omega) (by omega))) (by subst hx22; subst hx21; rfl) (fun x24 M23 hr hx24 => ?_)
          obtain ⟨hCM23, hFM23⟩ := hr
          have hWM23 : qFm [98, 105, 106, 107, 1007, 1010, 1012, 1013] M M23 := hWM14.tr hFM23 (by decide)
          have e25 : M23 98 6 = M14 98 6 := hFM23 98 6 (by decide)
          have e26 : M23 98 5 = M14 98 5 := hFM23 98 5 (by decide)
          refine zG_wi_eq (pc := 53) (n' := 56) (t := 59) (L := [.inr (.inr (some 97)), .inl a1, .inl a2, .inl a3, .inl a4, zN, zN]) (st := []) (x := x24) (y := (-1)) 1 hd0 hz (by rfl) (fun hb27 => ?_) (fun hb27 => ?_)
          · refine zG_w (c' := (64, [.inr (.inr (some 97)), .inl a1, .inl a2, .inl a3, .inl a4, zN, zN], [.inl 5, .inr (.inr (some 98))])) 3 hd0 hz (by rfl) ?_
            refine zG_iald hd0 hz rfl rfl (.inl rfl) (by omega) ?_
            show zG n (0, 0) d 257 (65, [.inr (.inr (some 97)), .inl a1, .inl a2, .inl a3, .inl a4, zN, zN], [.inl (M23 98 5)]) M23 _
            refine zG_wi_ne (pc := 67) (n' := 70) (t := 73) (L := [.inr (.inr (some 97)), .inl a1, .inl a2, .inl a3, .inl a4, zN, zN]) (st := []) (x := (M23 98 5)) (y := 10) 1 hd0 hz (by rfl) (fun hb28 => ?_) (fun hb28 => ?_)
            · refine zG_w (c' := (84, [.inr (.inr (some 97)), .inl a1, .inl a2, .inl a3, .inl a4, zN, zN], [.inl 5, .inr (.inr (some 98)), .inl 164, .inl 4000])) 5 hd0 hz (by rfl) ?_
              refine zG_iald hd0 hz rfl rfl (.inl rfl) (by omega) ?_
              show zG n (0, 0) d 257 (85, [.inr (.inr (some 97)), .inl a1, .inl a2, .inl a3, .inl a4, zN, zN], [.inl (M23 98 5), .inl 164, .inl 4000]) M23 _
              obtain ⟨x29, hx29⟩ : ∃ x : Int, x = w32 (164 * (M23 98 5)) := ⟨_, rfl⟩
              have hx29e : x29 = 164 * (M23 98 5) := by rw [hx29]; exact w32_id (by omega)
              obtain ⟨x30, hx30⟩ : ∃ x : Int, x = w32 (4000 + x29) := ⟨_, rfl⟩
              have hx30e : x30 = 4000 + x29 := by rw [hx30]; exact w32_id (by omega)
              refine zG_w (c' := (92, [.inr (.inr (some 97)), .inl a1, .inl a2, .inl a3, .inl a4, .inl x30, .inl 0], [])) 5 hd0 hz (by subst hx30; subst hx29; rfl) ?_
              have j92 : ∀ (N : Nat) (v31 : Int) (M32 : zM) , (81 - v31 : Int).toNat < N → 0 ≤ v31 ∧ v31 ≤ 81 → (M32 98 6 = M 98 6) → (M32 98 5 = M 98 5) → qMI M32 → qFm [98, 105, 106, 107, 1007, 1010, 1012, 1013] M M32 → zG n (0, 0) d 257 (92, [.inr (.inr (some 97)), .inl a1, .inl a2, .inl a3, .inl a4, .inl x30, .inl v31], []) M32 (fun v M' => (qMI M' ∧ qFm [98, 105, 106, 107, 1007, 1010, 1012, 1013] M M') ∧ ∃ x : Int, v = some (.inl x) ∧ ((-2147483648) ≤ x ∧ x ≤ 2147483647) ∧ (M' 98 6 = M 98 6)) := by
                intro N
                induction N with
                | zero => intro v31 M32 hN hv31 hx0_92 hx1_92 hCM32 hWM32; exact absurd hN (Nat.not_lt_zero _)
                | succ N ih92 =>
                  intro v31 M32 hN hv31 hx0_92 hx1_92 hCM32 hWM32
                  replace hN : 81 - v31 < (N : Int) + 1 := by omega
                  have r33 := hCM32.cnt6
                  have r34 := hCM32.cnt5
                  refine zG_wi_ge (pc := 96) (n' := 99) (t := 160) (L := [.inr (.inr (some 97)), .inl a1, .inl a2, .inl a3, .inl a4, .inl x30, .inl v31]) (st := []) (x := v31) (y := 81) 2 hd0 hz (by rfl) (fun hb35 => ?_) (fun hb35 => ?_)
                  · obtain ⟨x36, hx36⟩ : ∃ x : Int, x = w32 (x30 + 162) := ⟨_, rfl⟩
                    have hx36e : x36 = x30 + 162 := by rw [hx36]; exact w32_id (by omega)
                    refine zG_w (c' := (171, [.inr (.inr (some 97)), .inl a1, .inl a2, .inl a3, .inl a4, .inl x30, .inl v31], [.inl a3, .inl x36, .inr (.inr (some 98))])) 6 hd0 hz (by subst hx36; rfl) ?_
                    refine zG_iast hd0 hz rfl rfl (by omega) ?_
                    obtain ⟨M37, hM37⟩ : ∃ X : zM, X = zput M32 98 (x36 : Int).toNat a3 := ⟨_, rfl⟩
                    rw [← hM37]
                    have hCM37 : qMI M37 := by rw [hM37]; exact hCM32.put98' (qOS_or (by omega) (by omega) (fun _ _ _ => by omega)) (by omega) (by omega)
                    have hWM37 : qFm [98, 105, 106, 107, 1007, 1010, 1012, 1013] M M37 := by rw [hM37]; exact hWM32.pa (by decide) (by decide)
                    have e38 : M37 98 6 = M32 98 6 := by rw [hM37]; exact qput_nk (by omega)
                    have e39 : M37 98 5 = M32 98 5 := by rw [hM37]; exact qput_nk (by omega)
                    show zG n (0, 0) d 257 (172, [.inr (.inr (some 97)), .inl a1, .inl a2, .inl a3, .inl a4, .inl x30, .inl v31], []) M37 _
                    obtain ⟨x40, hx40⟩ : ∃ x : Int, x = w32 (x30 + 163) := ⟨_, rfl⟩
                    have hx40e : x40 = x30 + 163 := by rw [hx40]; exact w32_id (by omega)
                    refine zG_w (c' := (184, [.inr (.inr (some 97)), .inl a1, .inl a2, .inl a3, .inl a4, .inl x30, .inl v31], [.inl a4, .inl x40, .inr (.inr (some 98))])) 6 hd0 hz (by subst hx40; rfl) ?_
                    have j192 : ∀ (v41 : Int) , 0 ≤ v41 ∧ v41 ≤ 1 → zG n (0, 0) d 257 (192, [.inr (.inr (some 97)), .inl a1, .inl a2, .inl a3, .inl a4, .inl x30, .inl v31], [.inl v41, .inl x40, .inr (.inr (some 98))]) M37 (fun v M' => (qMI M' ∧ qFm [98, 105, 106, 107, 1007, 1010, 1012, 1013] M M') ∧ ∃ x : Int, v = some (.inl x) ∧ ((-2147483648) ≤ x ∧ x ≤ 2147483647) ∧ (M' 98 6 = M 98 6)) := by
                      intro v41 hv41
                      refine zG_iast hd0 hz rfl rfl (by omega) ?_
                      obtain ⟨M42, hM42⟩ : ∃ X : zM, X = zput M37 98 (x40 : Int).toNat v41 := ⟨_, rfl⟩
                      rw [← hM42]
                      have hCM42 : qMI M42 := by rw [hM42]; exact hCM37.put98' (qOS_or (by omega) (by omega) (fun _ _ _ => by omega)) (by omega) (by omega)
                      have hWM42 : qFm [98, 105, 106, 107, 1007, 1010, 1012, 1013] M M42 := by rw [hM42]; exact hWM37.pa (by decide) (by decide)
                      have e43 : M42 98 6 = M37 98 6 := by rw [hM42]; exact qput_nk (by omega)
                      have e44 : M42 98 5 = M37 98 5 := by rw [hM42]; exact qput_nk (by omega)
                      show zG n (0, 0) d 257 (193, [.inr (.inr (some 97)), .inl a1, .inl a2, .inl a3, .inl a4, .inl x30, .inl v31], []) M42 _
                      refine zG_wc (c1 := (198, [.inr (.inr (some 97)), .inl a1, .inl a2, .inl a3, .inl a4, .inl x30, .inl v31], [])) 2 hd0 hz zp_183 (qx_oneC (by first | exact zdk hd rfl | omega) hCM42   5 (by decide) (by decide) (by refine ⟨by omega, fun _ => by omega, fun _ => by omega, fun _ => by omega, fun _ => by omega, fun _ => by omega, fun _ => by omega, fun _ => by omega, fun c9 hc9 _ => by omega, fun u9 hu9 _ => by omega, fun m9 hm9 _ => by omega, fun a9 ha9 => ⟨fun _ => by omega, fun _ => by omega, fun _ => by omega, fun _ => by omega⟩, fun t9 ht9 _ => by omega, fun o9 ho9 _ => by omega⟩) ) (by rfl) (fun vr M45 hr => ?_)
                      obtain ⟨⟨hCM45, hFM45⟩, x46, rfl, hx46, hpx46_0, hpx46_1⟩ := hr
                      have hWM45 : qFm [98, 105, 106, 107, 1007, 1010, 1012, 1013] M M45 := hWM42.tr hFM45 (by decide)
                      have e47 : M45 98 6 = M42 98 6 := hpx46_1 _ (by omega)
                      show zG n (0, 0) d 257 (198, [.inr (.inr (some 97)), .inl a1, .inl a2, .inl a3, .inl a4, .inl x30, .inl v31], [.inl x46]) M45 _
                      exact zG_wr (r := some (.inl x46)) 0 hd0 hz (by rfl) ⟨⟨hCM45, hWM45⟩, _, rfl, by omega, by omega⟩
                    refine zG_wf_eq (pc := 184) (n' := 187) (t := 191) (L := [.inr (.inr (some 97)), .inl a1, .inl a2, .inl a3, .inl a4, .inl x30, .inl v31]) (st := [.inl x40, .inr (.inr (some 98))]) (x := a4) 0 hd0 hz (by rfl) (fun hb49 => ?_) (fun hb49 => ?_)
                    · refine zG_w (c' := (192, [.inr (.inr (some 97)), .inl a1, .inl a2, .inl a3, .inl a4, .inl x30, .inl v31], [.inl 0, .inl x40, .inr (.inr (some 98))])) 1 hd0 hz (by rfl) ?_
                      exact j192 0 (by first | decide | omega)
                    · refine zG_w (c' := (192, [.inr (.inr (some 97)), .inl a1, .inl a2, .inl a3, .inl a4, .inl x30, .inl v31], [.inl 1, .inl x40, .inr (.inr (some 98))])) 2 hd0 hz (by rfl) ?_
                      exact j192 1 (by first | decide | omega)
                  · obtain ⟨x50, hx50⟩ : ∃ x : Int, x = w32 (x30 + v31) := ⟨_, rfl⟩
                    have hx50e : x50 = x30 + v31 := by rw [hx50]; exact w32_id (by omega)
                    obtain ⟨x51, hx51⟩ : ∃ x : Int, x = w32 (81 * a1) := ⟨_, rfl⟩
                    have hx51e : x51 = 81 * a1 := by rw [hx51]; exact w32_id (by omega)
                    obtain ⟨x52, hx52⟩ : ∃ x : Int, x = w32 (3350 + x51) := ⟨_, rfl⟩
                    have hx52e : x52 = 3350 + x51 := by rw [hx52]; exact w32_id (by omega)
                    obtain ⟨x53, hx53⟩ : ∃ x : Int, x = w32 (x52 + v31) := ⟨_, rfl⟩
                    have hx53e : x53 = x52 + v31 := by rw [hx53]; exact w32_id (by omega)
                    refine zG_w (c' := (123, [.inr (.inr (some 97)), .inl a1, .inl a2, .inl a3, .inl a4, .inl x30, .inl v31], [.inl x53, .inr (.inr (some 98)), .inl x50, .inr (.inr (some 98))])) 14 hd0 hz (by subst hx53; subst hx52; subst hx51; subst hx50; rfl) ?_
                    refine zG_iald hd0 hz rfl rfl (.inl rfl) (by omega) ?_
                    obtain ⟨x54, hx54⟩ : ∃ x : Int, x = M32 98 (x53 : Int).toNat := ⟨_, rfl⟩
                    rw [← hx54]
                    have hx54r : qin x54 := by rw [hx54]; exact hCM32.sin _
                    have hl0 : v31 = 0 → 0 ≤ x54 ∧ x54 ≤ 80 := fun h9 => by rw [hx54]; exact hCM32.txt a1 _ (by omega) (by omega)
                    show zG n (0, 0) d 257 (124, [.inr (.inr (some 97)), .inl a1, .inl a2, .inl a3, .inl a4, .inl x30, .inl v31], [.inl x54, .inl x50, .inr (.inr (some 98))]) M32 _
                    refine zG_iast hd0 hz rfl rfl (by omega) ?_
                    obtain ⟨M55, hM55⟩ : ∃ X : zM, X = zput M32 98 (x50 : Int).toNat x54 := ⟨_, rfl⟩
                    rw [← hM55]
                    have hCM55 : qMI M55 := by rw [hM55]; exact hCM32.put98' (qOS_or (by omega) (by omega) (fun _ _ _ => by omega)) (by omega) (by omega)
                    have hWM55 : qFm [98, 105, 106, 107, 1007, 1010, 1012, 1013] M M55 := by rw [hM55]; exact hWM32.pa (by decide) (by decide)
                    have e56 : M55 98 6 = M32 98 6 := by rw [hM55]; exact qput_nk (by omega)
                    have e57 : M55 98 5 = M32 98 5 := by rw [hM55]; exact qput_nk (by omega)
                    show zG n (0, 0) d 257 (125, [.inr (.inr (some 97)), .inl a1, .inl a2, .inl a3, .inl a4, .inl x30, .inl v31], []) M55 _
                    obtain ⟨x58, hx58⟩ : ∃ x : Int, x = w32 (x30 + 81) := ⟨_, rfl⟩
                    have hx58e : x58 = x30 + 81 := by rw [hx58]; exact w32_id (by omega)
                    obtain ⟨x59, hx59⟩ : ∃ x : Int, x = w32 (x58 + v31) := ⟨_, rfl⟩
                    have hx59e : x59 = x58 + v31 := by rw [hx59]; exact w32_id (by omega)
                    obtain ⟨x60, hx60⟩ : ∃ x : Int, x = w32 (81 * a2) := ⟨_, rfl⟩
                    have hx60e : x60 = 81 * a2 := by rw [hx60]; exact w32_id (by omega)
                    obtain ⟨x61, hx61⟩ : ∃ x : Int, x = w32 (3350 + x60) := ⟨_, rfl⟩
                    have hx61e : x61 = 3350 + x60 := by rw [hx61]; exact w32_id (by omega)
                    obtain ⟨x62, hx62⟩ : ∃ x : Int, x = w32 (x61 + v31) := ⟨_, rfl⟩
                    have hx62e : x62 = x61 + v31 := by rw [hx62]; exact w32_id (by omega)
                    refine zG_w (c' := (152, [.inr (.inr (some 97)), .inl a1, .inl a2, .inl a3, .inl a4, .inl x30, .inl v31], [.inl x62, .inr (.inr (some 98)), .inl x59, .inr (.inr (some 98))])) 16 hd0 hz (by subst hx62; subst hx61; subst hx60; subst hx59; subst hx58; rfl) ?_
                    refine zG_iald hd0 hz rfl rfl (.inl rfl) (by omega) ?_
                    obtain ⟨x63, hx63⟩ : ∃ x : Int, x = M55 98 (x62 : Int).toNat := ⟨_, rfl⟩
                    rw [← hx63]
                    have hx63r : qin x63 := by rw [hx63]; exact hCM55.sin _
                    have hl1 : v31 = 0 → 0 ≤ x63 ∧ x63 ≤ 80 := fun h9 => by rw [hx63]; exact hCM55.txt a2 _ (by omega) (by omega)
                    show zG n (0, 0) d 257 (153, [.inr (.inr (some 97)), .inl a1, .inl a2, .inl a3, .inl a4, .inl x30, .inl v31], [.inl x63, .inl x59, .inr (.inr (some 98))]) M55 _
                    refine zG_iast hd0 hz rfl rfl (by omega) ?_
                    obtain ⟨M64, hM64⟩ : ∃ X : zM, X = zput M55 98 (x59 : Int).toNat x63 := ⟨_, rfl⟩
                    rw [← hM64]
                    have hCM64 : qMI M64 := by rw [hM64]; exact hCM55.put98' (qOS_or (by omega) (by omega) (fun _ _ _ => by omega)) (by omega) (by omega)
                    have hWM64 : qFm [98, 105, 106, 107, 1007, 1010, 1012, 1013] M M64 := by rw [hM64]; exact hWM55.pa (by decide) (by decide)
                    have e65 : M64 98 6 = M55 98 6 := by rw [hM64]; exact qput_nk (by omega)
                    have e66 : M64 98 5 = M55 98 5 := by rw [hM64]; exact qput_nk (by omega)
                    show zG n (0, 0) d 257 (154, [.inr (.inr (some 97)), .inl a1, .inl a2, .inl a3, .inl a4, .inl x30, .inl v31], []) M64 _
                    obtain ⟨x67, hx67⟩ : ∃ x : Int, x = w32 (v31 + 1) := ⟨_, rfl⟩
                    have hx67e : x67 = v31 + 1 := by rw [hx67]; exact w32_id (by omega)
                    refine zG_w (c' := (92, [.inr (.inr (some 97)), .inl a1, .inl a2, .inl a3, .inl a4, .inl x30, .inl x67], [])) 2 hd0 hz (by subst hx67; rfl) ?_
                    exact ih92 x67 M64 (by omega) (by omega) (by omega) (by omega) hCM64 hWM64
              exact j92 ((81 - 0 : Int).toNat + 1) 0 M23 (by omega) (by omega) (by omega) (by omega) hCM23 hWM23
            · exact zG_wr (r := some (.inl (-4))) 1 hd0 hz (by rfl) ⟨⟨hCM23, hWM23⟩, _, rfl, by omega, by omega⟩
          · exact j56 M23 (by omega) hCM23 hWM23
      · exact j21
