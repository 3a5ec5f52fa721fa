/-! THE MODEL'S METHODS, BY PROGRAM -/
theorem qm_251_97 {n d : Nat} {M : zM} (hd : 10 ≤ d) (hC : qMI M)  (a1 : Int) (ha1 : (-2147483648) ≤ a1 ∧ a1 ≤ 2147483647) (a2 : Int) (ha2 : (-2147483648) ≤ a2 ∧ a2 ≤ 2147483647) (a3 : Int) (ha3 : (-2147483648) ≤ a3 ∧ a3 ≤ 2147483647) : qOkN n d 251 [.inr (.inr (some 97)), .inl a1, .inl a2, .inl a3] 7 [98, 101, 102, 103, 104, 105, 106, 107, 108, 109, 110, 111, 112, 113, 1007, 1010, 1012, 1013, 1016, 1018, 1019, 1020, 1021, 1022, 1023] M (fun v M' => ∃ x : Int, v = some (.inl x) ∧ ((-3) ≤ x ∧ x ≤ 2147483647) ∧ (M' 98 6 = M 98 6)) := by
  have hz := zp_251
  have hd0 : 0 < d := by omega
  have hW : qFm [98, 101, 102, 103, 104, 105, 106, 107, 108, 109, 110, 111, 112, 113, 1007, 1010, 1012, 1013, 1016, 1018, 1019, 1020, 1021, 1022, 1023] M M := qFm.rfl
  have r1 := hC.cnt6
  have r2 := hC.cnt1
  have r3 := hC.cnt3
  show zG n (0, 0) d 251 (0, [.inr (.inr (some 97)), .inl a1, .inl a2, .inl a3, zN, zN, zN], []) M _
  refine zG_wp (pc := 6) (L := [.inr (.inr (some 97)), .inl a1, .inl a2, .inl a3, zN, zN, zN]) (st := []) 3 hd0 hz zp_182 (qx_is (by first | exact zdk hd rfl | omega) hC   3 (by first | decide | omega) a1 (by first | with_reducible exact ha1 | omega) ) (by rfl) (fun x5 hx5 => ?_)
  have j23 : zG n (0, 0) d 251 (23, [.inr (.inr (some 97)), .inl a1, .inl a2, .inl a3, zN, zN, zN], []) M (fun v M' => (qMI M' ∧ qFm [98, 101, 102, 103, 104, 105, 106, 107, 108, 109, 110, 111, 112, 113, 1007, 1010, 1012, 1013, 1016, 1018, 1019, 1020, 1021, 1022, 1023] M M') ∧ ∃ x : Int, v = some (.inl x) ∧ ((-3) ≤ x ∧ x ≤ 2147483647) ∧ (M' 98 6 = M 98 6)) := by
    exact zG_wr (r := some (.inl (-2))) 1 hd0 hz (by rfl) ⟨⟨hC, hW⟩, _, rfl, by omega, by omega⟩
  refine zG_wf_eq (pc := 6) (n' := 9) (t := 23) (L := [.inr (.inr (some 97)), .inl a1, .inl a2, .inl a3, zN, zN, zN]) (st := []) (x := x5) 0 hd0 hz (by rfl) (fun hb6 => ?_) (fun hb6 => ?_)
  · exact j23
  · have hcx5 := hx5.2.2.mp (by omega)
    clear hx5 hb6
    refine zG_wp (pc := 13) (L := [.inr (.inr (some 97)), .inl a1, .inl a2, .inl a3, zN, zN, zN]) (st := []) 1 hd0 hz zp_184 (qm_184 (by first | exact zdk hd rfl | omega) hC   a2 (by first | with_reducible exact ha2 | omega) ) (by rfl) (fun x8 hr => ?_)
    obtain ⟨hx8, hpx8_0⟩ := hr
    refine zG_wf_eq (pc := 13) (n' := 16) (t := 23) (L := [.inr (.inr (some 97)), .inl a1, .inl a2, .inl a3, zN, zN, zN]) (st := []) (x := x8) 0 hd0 hz (by rfl) (fun hb9 => ?_) (fun hb9 => ?_)
    · exact j23
    · have hcx8 := hpx8_0.mp (by omega)
      clear hx8 hpx8_0 hb9
      refine zG_wp (pc := 20) (L := [.inr (.inr (some 97)), .inl a1, .inl a2, .inl a3, zN, zN, zN]) (st := []) 1 hd0 hz zp_184 (qm_184 (by first | exact zdk hd rfl | omega) hC   a3 (by first | with_reducible exact ha3 | omega) ) (by rfl) (fun x11 hr => ?_)
      obtain ⟨hx11, hpx11_0⟩ := hr
      refine zG_wf_ne (pc := 20) (n' := 23) (t := 26) (L := [.inr (.inr (some 97)), .inl a1, .inl a2, .inl a3, zN, zN, zN]) (st := []) (x := x11) 0 hd0 hz (by rfl) (fun hb12 => ?_) (fun hb12 => ?_)
      · have hcx11 := hpx11_0.mp (by omega)
        clear hx11 hpx11_0 hb12
        refine zG_wp (pc := 31) (L := [.inr (.inr (some 97)), .inl a1, .inl a2, .inl a3, zN, zN, zN]) (st := []) 2 hd0 hz zp_192 (qm_192_97 (by first | exact zdk hd rfl | omega) hC   a1 (by first | with_reducible exact ha1 | omega) ) (by rfl) (fun x14 hr => ?_)
        obtain ⟨hx14, hpx14_0⟩ := hr
        refine zG_wf_ne (pc := 31) (n' := 34) (t := 37) (L := [.inr (.inr (some 97)), .inl a1, .inl a2, .inl a3, zN, zN, zN]) (st := []) (x := x14) 0 hd0 hz (by rfl) (fun hb15 => ?_) (fun hb15 => ?_)
        · refine zG_wv (pc := 42) (L := [.inr (.inr (some 97)), .inl a1, .inl a2, .inl a3, zN, zN, zN]) (st := []) 2 hd0 hz zp_211 (qm_211_97 (by first | exact zdk hd rfl | omega) hC   a3 (by first | with_reducible exact ha3 | omega) ) (by rfl) (fun M16 hr => ?_)
          obtain ⟨hCM16, hFM16⟩ := hr
          have hWM16 : qFm [98, 101, 102, 103, 104, 105, 106, 107, 108, 109, 110, 111, 112, 113, 1007, 1010, 1012, 1013, 1016, 1018, 1019, 1020, 1021, 1022, 1023] M M16 := hW.tr hFM16 (by decide)
          have e18 : M16 98 6 = M 98 6 := hFM16 98 6 (by decide)
          have e19 : M16 98 1 = M 98 1 := hFM16 98 1 (by decide)
          have e20 : M16 98 3 = M 98 3 := hFM16 98 3 (by decide)
          refine zG_w (c' := (45, [.inr (.inr (some 97)), .inl a1, .inl a2, .inl a3, .inl 0, zN, zN], [])) 2 hd0 hz (by rfl) ?_
          have j45 : ∀ (N : Nat) (v21 : Int) (M22 : zM) , (20 - v21 : Int).toNat < N → 0 ≤ v21 ∧ v21 ≤ 20 → (M22 98 6 = M 98 6) → (M22 98 1 = M 98 1) → qMI M22 → qFm [98, 101, 102, 103, 104, 105, 106, 107, 108, 109, 110, 111, 112, 113, 1007, 1010, 1012, 1013, 1016, 1018, 1019, 1020, 1021, 1022, 1023] M M22 → zG n (0, 0) d 251 (45, [.inr (.inr (some 97)), .inl a1, .inl a2, .inl a3, .inl v21, zN, zN], []) M22 (fun v M' => (qMI M' ∧ qFm [98, 101, 102, 103, 104, 105, 106, 107, 108, 109, 110, 111, 112, 113, 1007, 1010, 1012, 1013, 1016, 1018, 1019, 1020, 1021, 1022, 1023] M M') ∧ ∃ x : Int, v = some (.inl x) ∧ ((-3) ≤ x ∧ x ≤ 2147483647) ∧ (M' 98 6 = M 98 6)) := by
            intro N
            induction N with
            | zero => intro v21 M22 hN hv21 hx0_45 hx1_45 hCM22 hWM22; exact absurd hN (Nat.not_lt_zero _)
            | succ N ih45 =>
              intro v21 M22 hN hv21 hx0_45 hx1_45 hCM22 hWM22
              replace hN : 20 - v21 < (N : Int) + 1 := by omega
              have r23 := hCM22.cnt6
              have r24 := hCM22.cnt1
              refine zG_w (c' := (52, [.inr (.inr (some 97)), .inl a1, .inl a2, .inl a3, .inl v21, zN, zN], [.inl 1, .inr (.inr (some 98)), .inl v21])) 4 hd0 hz (by rfl) ?_
              refine zG_iald hd0 hz rfl rfl (.inl rfl) (by omega) ?_
              show zG n (0, 0) d 251 (53, [.inr (.inr (some 97)), .inl a1, .inl a2, .inl a3, .inl v21, zN, zN], [.inl (M22 98 1), .inl v21]) M22 _
              refine zG_wi_ge (pc := 53) (n' := 56) (t := 101) (L := [.inr (.inr (some 97)), .inl a1, .inl a2, .inl a3, .inl v21, zN, zN]) (st := []) (x := v21) (y := (M22 98 1)) 0 hd0 hz (by rfl) (fun hb25 => ?_) (fun hb25 => ?_)
              · obtain ⟨x26, hx26⟩ : ∃ x : Int, x = w32 (5 * a1) := ⟨_, rfl⟩
                have hx26e : x26 = 5 * a1 := by rw [hx26]; exact w32_id (by omega)
                obtain ⟨x27, hx27⟩ : ∃ x : Int, x = w32 (150 + x26) := ⟨_, rfl⟩
                have hx27e : x27 = 150 + x26 := by rw [hx27]; exact w32_id (by omega)
                obtain ⟨x28, hx28⟩ : ∃ x : Int, x = w32 (x27 + 4) := ⟨_, rfl⟩
                have hx28e : x28 = x27 + 4 := by rw [hx28]; exact w32_id (by omega)
                refine zG_w (c' := (115, [.inr (.inr (some 97)), .inl a1, .inl a2, .inl a3, .inl v21, zN, zN], [.inl 1, .inl x28, .inr (.inr (some 98))])) 10 hd0 hz (by subst hx28; subst hx27; subst hx26; rfl) ?_
                refine zG_iast hd0 hz rfl rfl (by omega) ?_
                obtain ⟨M29, hM29⟩ : ∃ X : zM, X = zput M22 98 (x28 : Int).toNat 1 := ⟨_, rfl⟩
                rw [← hM29]
                have hCM29 : qMI M29 := by rw [hM29]; exact hCM22.put98' (qOS_mt (by omega) (by omega) (fun _ _ _ => by omega)) (by omega) (by omega)
                have hWM29 : qFm [98, 101, 102, 103, 104, 105, 106, 107, 108, 109, 110, 111, 112, 113, 1007, 1010, 1012, 1013, 1016, 1018, 1019, 1020, 1021, 1022, 1023] M M29 := by rw [hM29]; exact hWM22.pa (by decide) (by decide)
                have e30 : M29 98 6 = M22 98 6 := by rw [hM29]; exact qput_nk (by omega)
                have e31 : M29 98 1 = M22 98 1 := by rw [hM29]; exact qput_nk (by omega)
                show zG n (0, 0) d 251 (116, [.inr (.inr (some 97)), .inl a1, .inl a2, .inl a3, .inl v21, zN, zN], []) M29 _
                refine zG_wv (pc := 121) (L := [.inr (.inr (some 97)), .inl a1, .inl a2, .inl a3, .inl v21, zN, zN]) (st := []) 2 hd0 hz zp_211 (qm_211_97 (by first | exact zdk hd rfl | omega) hCM29   a3 (by first | with_reducible exact ha3 | omega) ) (by rfl) (fun M32 hr => ?_)
                obtain ⟨hCM32, hFM32⟩ := hr
                have hWM32 : qFm [98, 101, 102, 103, 104, 105, 106, 107, 108, 109, 110, 111, 112, 113, 1007, 1010, 1012, 1013, 1016, 1018, 1019, 1020, 1021, 1022, 1023] M M32 := hWM29.tr hFM32 (by decide)
                have e34 : M32 98 6 = M29 98 6 := hFM32 98 6 (by decide)
                have e35 : M32 98 1 = M29 98 1 := hFM32 98 1 (by decide)
                refine zG_w (c' := (127, [.inr (.inr (some 97)), .inl a1, .inl a2, .inl a3, .inl 0, .inl 0, zN], [])) 4 hd0 hz (by rfl) ?_
                have j127 : ∀ (N : Nat) (v36 v37 : Int) (M38 : zM) , (20 - v37 : Int).toNat < N → 0 ≤ v36 ∧ v36 ≤ 2147483647 → 0 ≤ v37 ∧ v37 ≤ 20 → (M38 98 6 = M 98 6) → (M38 98 1 = M 98 1) → qMI M38 → qFm [98, 101, 102, 103, 104, 105, 106, 107, 108, 109, 110, 111, 112, 113, 1007, 1010, 1012, 1013, 1016, 1018, 1019, 1020, 1021, 1022, 1023] M M38 → zG n (0, 0) d 251 (127, [.inr (.inr (some 97)), .inl a1, .inl a2, .inl a3, .inl v36, .inl v37, zN], []) M38 (fun v M' => (qMI M' ∧ qFm [98, 101, 102, 103, 104, 105, 106, 107, 108, 109, 110, 111, 112, 113, 1007, 1010, 1012, 1013, 1016, 1018, 1019, 1020, 1021, 1022, 1023] M M') ∧ ∃ x : Int, v = some (.inl x) ∧ ((-3) ≤ x ∧ x ≤ 2147483647) ∧ (M' 98 6 = M 98 6)) := by
                  intro N
                  induction N with
                  | zero => intro v36 v37 M38 hN hv36 hv37 hx0_127 hx1_127 hCM38 hWM38; exact absurd hN (Nat.not_lt_zero _)
                  | succ N ih127 =>
                    intro v36 v37 M38 hN hv36 hv37 hx0_127 hx1_127 hCM38 hWM38
                    replace hN : 20 - v37 < (N : Int) + 1 := by omega
                    have r39 := hCM38.cnt6
                    have r40 := hCM38.cnt1
                    refine zG_w (c' := (134, [.inr (.inr (some 97)), .inl a1, .inl a2, .inl a3, .inl v36, .inl v37, zN], [.inl 1, .inr (.inr (some 98)), .inl v37])) 4 hd0 hz (by rfl) ?_
                    refine zG_iald hd0 hz rfl rfl (.inl rfl) (by omega) ?_
                    show zG n (0, 0) d 251 (135, [.inr (.inr (some 97)), .inl a1, .inl a2, .inl a3, .inl v36, .inl v37, zN], [.inl (M38 98 1), .inl v37]) M38 _
                    refine zG_wi_ge (pc := 135) (n' := 138) (t := 217) (L := [.inr (.inr (some 97)), .inl a1, .inl a2, .inl a3, .inl v36, .inl v37, zN]) (st := []) (x := v37) (y := (M38 98 1)) 0 hd0 hz (by rfl) (fun hb41 => ?_) (fun hb41 => ?_)
                    · obtain ⟨x42, hx42⟩ : ∃ x : Int, x = w32 (5 * a1) := ⟨_, rfl⟩
                      have hx42e : x42 = 5 * a1 := by rw [hx42]; exact w32_id (by omega)
                      obtain ⟨x43, hx43⟩ : ∃ x : Int, x = w32 (150 + x42) := ⟨_, rfl⟩
                      have hx43e : x43 = 150 + x42 := by rw [hx43]; exact w32_id (by omega)
                      obtain ⟨x44, hx44⟩ : ∃ x : Int, x = w32 (x43 + 4) := ⟨_, rfl⟩
                      have hx44e : x44 = x43 + 4 := by rw [hx44]; exact w32_id (by omega)
                      refine zG_w (c' := (231, [.inr (.inr (some 97)), .inl a1, .inl a2, .inl a3, .inl v36, .inl v37, zN], [.inl 0, .inl x44, .inr (.inr (some 98))])) 10 hd0 hz (by subst hx44; subst hx43; subst hx42; rfl) ?_
                      refine zG_iast hd0 hz rfl rfl (by omega) ?_
                      obtain ⟨M45, hM45⟩ : ∃ X : zM, X = zput M38 98 (x44 : Int).toNat 0 := ⟨_, rfl⟩
                      rw [← hM45]
                      have hCM45 : qMI M45 := by rw [hM45]; exact hCM38.put98' (qOS_mt (by omega) (by omega) (fun _ _ _ => by omega)) (by omega) (by omega)
                      have hWM45 : qFm [98, 101, 102, 103, 104, 105, 106, 107, 108, 109, 110, 111, 112, 113, 1007, 1010, 1012, 1013, 1016, 1018, 1019, 1020, 1021, 1022, 1023] M M45 := by rw [hM45]; exact hWM38.pa (by decide) (by decide)
                      have e46 : M45 98 6 = M38 98 6 := by rw [hM45]; exact qput_nk (by omega)
                      have e47 : M45 98 1 = M38 98 1 := by rw [hM45]; exact qput_nk (by omega)
                      show zG n (0, 0) d 251 (232, [.inr (.inr (some 97)), .inl a1, .inl a2, .inl a3, .inl v36, .inl v37, zN], []) M45 _
                      exact zG_wr (r := some (.inl v36)) 1 hd0 hz (by rfl) ⟨⟨hCM45, hWM45⟩, _, rfl, by omega, by omega⟩
                    · refine zG_wn (pc := 145) (L := [.inr (.inr (some 97)), .inl a1, .inl a2, .inl a3, .inl v36, .inl v37, zN]) (st := []) 3 hd0 hz zp_243 (qm_243_97 (by first | exact zdk hd rfl | omega) hCM38   v37 (by first | with_reducible exact hv37 | omega) a2 (by first | with_reducible exact ha2 | omega) ) (by rfl) (fun x49 M48 hr hx49 => ?_)
                      obtain ⟨hCM48, hFM48⟩ := hr
                      have hWM48 : qFm [98, 101, 102, 103, 104, 105, 106, 107, 108, 109, 110, 111, 112, 113, 1007, 1010, 1012, 1013, 1016, 1018, 1019, 1020, 1021, 1022, 1023] M M48 := hWM38.tr hFM48 (by decide)
                      have e50 : M48 98 6 = M38 98 6 := hFM48 98 6 (by decide)
                      have e51 : M48 98 1 = M38 98 1 := hFM48 98 1 (by decide)
                      refine zG_w (c' := (151, [.inr (.inr (some 97)), .inl a1, .inl a2, .inl a3, .inl v36, .inl v37, zN], [.inl v37, .inr (.inr (some 112)), .inl x49])) 3 hd0 hz (by rfl) ?_
                      refine zG_iald hd0 hz rfl rfl (.inl rfl) (by omega) ?_
                      obtain ⟨x52, hx52⟩ : ∃ x : Int, x = M48 112 (v37 : Int).toNat := ⟨_, rfl⟩
                      rw [← hx52]
                      have hx52r : qin x52 := by rw [hx52]; exact hCM48.ra 112 _ (by decide) (by decide)
                      show zG n (0, 0) d 251 (152, [.inr (.inr (some 97)), .inl a1, .inl a2, .inl a3, .inl v36, .inl v37, zN], [.inl x52, .inl x49]) M48 _
                      have j174 : ∀ (v53 : Int) , 0 ≤ v53 ∧ v53 ≤ 1 → zG n (0, 0) d 251 (174, [.inr (.inr (some 97)), .inl a1, .inl a2, .inl a3, .inl v36, .inl v37, zN], [.inl v53]) M48 (fun v M' => (qMI M' ∧ qFm [98, 101, 102, 103, 104, 105, 106, 107, 108, 109, 110, 111, 112, 113, 1007, 1010, 1012, 1013, 1016, 1018, 1019, 1020, 1021, 1022, 1023] M M') ∧ ∃ x : Int, v = some (.inl x) ∧ ((-3) ≤ x ∧ x ≤ 2147483647) ∧ (M' 98 6 = M 98 6)) := by
                        intro v53 hv53
                        refine zG_w (c' := (180, [.inr (.inr (some 97)), .inl a1, .inl a2, .inl a3, .inl v36, .inl v37, .inl v53], [.inl v53, .inl v36])) 3 hd0 hz (by rfl) ?_
                        have j208 : ∀ (v54 : Int) (M55 : zM) , 0 ≤ v54 ∧ v54 ≤ 524288 → (M55 98 6 = M 98 6) → (M55 98 1 = M 98 1) → qMI M55 → qFm [98, 101, 102, 103, 104, 105, 106, 107, 108, 109, 110, 111, 112, 113, 1007, 1010, 1012, 1013, 1016, 1018, 1019, 1020, 1021, 1022, 1023] M M55 → zG n (0, 0) d 251 (208, [.inr (.inr (some 97)), .inl a1, .inl a2, .inl a3, .inl v36, .inl v37, .inl v53], [.inl v54, .inl v36]) M55 (fun v M' => (qMI M' ∧ qFm [98, 101, 102, 103, 104, 105, 106, 107, 108, 109, 110, 111, 112, 113, 1007, 1010, 1012, 1013, 1016, 1018, 1019, 1020, 1021, 1022, 1023] M M') ∧ ∃ x : Int, v = some (.inl x) ∧ ((-3) ≤ x ∧ x ≤ 2147483647) ∧ (M' 98 6 = M 98 6)) := by
                          intro v54 M55 hv54 hx0_208 hx1_208 hCM55 hWM55
                          have r56 := hCM55.cnt6
                          have r57 := hCM55.cnt1
                          obtain ⟨x58, hx58⟩ : ∃ x : Int, x = zbor v36 v54 := ⟨_, rfl⟩
                          have hx58r := qbor_in v36 v54 2147483648 31 (by decide) (by decide) (by omega) (by omega); rw [← hx58] at hx58r
                          obtain ⟨x59, hx59⟩ : ∃ x : Int, x = w32 (v37 + 1) := ⟨_, rfl⟩
                          have hx59e : x59 = v37 + 1 := by rw [hx59]; exact w32_id (by omega)
                          refine zG_w (c' := (127, [.inr (.inr (some 97)), .inl a1, .inl a2, .inl a3, .inl x58, .inl x59, .inl v53], [])) 4 hd0 hz (by subst hx59; subst hx58; rfl) ?_
                          exact zG_weak (ih127 x58 x59 M55 (by omega) (by omega) (by omega) (by omega) (by omega) hCM55 hWM55) ⟨.inr rfl, .inr rfl, .inr rfl, .inr rfl, .inr rfl, .inr rfl, .inl rfl, trivial⟩
                        have j200 : ∀ (M60 : zM) , (M60 98 6 = M 98 6) → (M60 98 1 = M 98 1) → qMI M60 → qFm [98, 101, 102, 103, 104, 105, 106, 107, 108, 109, 110, 111, 112, 113, 1007, 1010, 1012, 1013, 1016, 1018, 1019, 1020, 1021, 1022, 1023] M M60 → zG n (0, 0) d 251 (200, [.inr (.inr (some 97)), .inl a1, .inl a2, .inl a3, .inl v36, .inl v37, .inl v53], [.inl v36]) M60 (fun v M' => (qMI M' ∧ qFm [98, 101, 102, 103, 104, 105, 106, 107, 108, 109, 110, 111, 112, 113, 1007, 1010, 1012, 1013, 1016, 1018, 1019, 1020, 1021, 1022, 1023] M M') ∧ ∃ x : Int, v = some (.inl x) ∧ ((-3) ≤ x ∧ x ≤ 2147483647) ∧ (M' 98 6 = M 98 6)) := by
                          intro M60 hx0_200 hx1_200 hCM60 hWM60
                          have r61 := hCM60.cnt6
                          have r62 := hCM60.cnt1
                          obtain ⟨x63, hx63⟩ : ∃ x : Int, x = zbshl 1 v37 := ⟨_, rfl⟩
                          have hx63r := qshl1_in v37 524288 19 (by decide) (by decide) (by omega); rw [← hx63] at hx63r
                          refine zG_w (c' := (208, [.inr (.inr (some 97)), .inl a1, .inl a2, .inl a3, .inl v36, .inl v37, .inl v53], [.inl x63, .inl v36])) 4 hd0 hz (by subst hx63; rfl) ?_
                          exact j208 x63 M60 (by omega) (by omega) (by omega) hCM60 hWM60
                        refine zG_wf_ne (pc := 180) (n' := 183) (t := 200) (L := [.inr (.inr (some 97)), .inl a1, .inl a2, .inl a3, .inl v36, .inl v37, .inl v53]) (st := [.inl v36]) (x := v53) 0 hd0 hz (by rfl) (fun hb64 => ?_) (fun hb64 => ?_)
                        · exact j200 M48 (by omega) (by omega) hCM48 hWM48
                        · refine zG_wn (pc := 190) (L := [.inr (.inr (some 97)), .inl a1, .inl a2, .inl a3, .inl v36, .inl v37, .inl v53]) (st := [.inl v36]) 3 hd0 hz zp_244 (qm_244_97 (by first | exact zdk hd rfl | omega) hCM48   v37 (by first | with_reducible exact hv37 | omega) a2 (by first | with_reducible exact ha2 | omega) ) (by rfl) (fun x66 M65 hr hx66 => ?_)
                          obtain ⟨hCM65, hFM65⟩ := hr
                          have hWM65 : qFm [98, 101, 102, 103, 104, 105, 106, 107, 108, 109, 110, 111, 112, 113, 1007, 1010, 1012, 1013, 1016, 1018, 1019, 1020, 1021, 1022, 1023] M M65 := hWM48.tr hFM65 (by decide)
                          have e67 : M65 98 6 = M48 98 6 := hFM65 98 6 (by decide)
                          have e68 : M65 98 1 = M48 98 1 := hFM65 98 1 (by decide)
                          refine zG_w (c' := (196, [.inr (.inr (some 97)), .inl a1, .inl a2, .inl a3, .inl v36, .inl v37, .inl v53], [.inl v37, .inr (.inr (some 113)), .inl x66, .inl v36])) 3 hd0 hz (by rfl) ?_
                          refine zG_iald hd0 hz rfl rfl (.inl rfl) (by omega) ?_
                          obtain ⟨x69, hx69⟩ : ∃ x : Int, x = M65 113 (v37 : Int).toNat := ⟨_, rfl⟩
                          rw [← hx69]
                          have hx69r : qin x69 := by rw [hx69]; exact hCM65.ra 113 _ (by decide) (by decide)
                          show zG n (0, 0) d 251 (197, [.inr (.inr (some 97)), .inl a1, .inl a2, .inl a3, .inl v36, .inl v37, .inl v53], [.inl x69, .inl x66, .inl v36]) M65 _
                          refine zG_wi_eq (pc := 197) (n' := 200) (t := 207) (L := [.inr (.inr (some 97)), .inl a1, .inl a2, .inl a3, .inl v36, .inl v37, .inl v53]) (st := [.inl v36]) (x := x66) (y := x69) 0 hd0 hz (by rfl) (fun hb70 => ?_) (fun hb70 => ?_)
                          · refine zG_w (c' := (208, [.inr (.inr (some 97)), .inl a1, .inl a2, .inl a3, .inl v36, .inl v37, .inl v53], [.inl 0, .inl v36])) 1 hd0 hz (by rfl) ?_
                            exact j208 0 M65 (by omega) (by omega) (by omega) hCM65 hWM65
                          · exact j200 M65 (by omega) (by omega) hCM65 hWM65
                      have j169 : zG n (0, 0) d 251 (169, [.inr (.inr (some 97)), .inl a1, .inl a2, .inl a3, .inl v36, .inl v37, zN], []) M48 (fun v M' => (qMI M' ∧ qFm [98, 101, 102, 103, 104, 105, 106, 107, 108, 109, 110, 111, 112, 113, 1007, 1010, 1012, 1013, 1016, 1018, 1019, 1020, 1021, 1022, 1023] M M') ∧ ∃ x : Int, v = some (.inl x) ∧ ((-3) ≤ x ∧ x ≤ 2147483647) ∧ (M' 98 6 = M 98 6)) := by
                        refine zG_w (c' := (174, [.inr (.inr (some 97)), .inl a1, .inl a2, .inl a3, .inl v36, .inl v37, zN], [.inl 1])) 2 hd0 hz (by rfl) ?_
                        exact j174 1 (by first | decide | omega)
                      refine zG_wi_ne (pc := 152) (n' := 155) (t := 169) (L := [.inr (.inr (some 97)), .inl a1, .inl a2, .inl a3, .inl v36, .inl v37, zN]) (st := []) (x := x49) (y := x52) 0 hd0 hz (by rfl) (fun hb71 => ?_) (fun hb71 => ?_)
                      · exact j169
                      · have r72 := hCM48.rg 97 21 (by decide) (by decide)
                        refine zG_w (c' := (165, [.inr (.inr (some 97)), .inl a1, .inl a2, .inl a3, .inl v36, .inl v37, zN], [.inl v37, .inr (.inr (some 111)), .inl (M48 97 21)])) 5 hd0 hz (by rfl) ?_
                        refine zG_iald hd0 hz rfl rfl (.inl rfl) (by omega) ?_
                        obtain ⟨x73, hx73⟩ : ∃ x : Int, x = M48 111 (v37 : Int).toNat := ⟨_, rfl⟩
                        rw [← hx73]
                        have hx73r : qin x73 := by rw [hx73]; exact hCM48.ra 111 _ (by decide) (by decide)
                        show zG n (0, 0) d 251 (166, [.inr (.inr (some 97)), .inl a1, .inl a2, .inl a3, .inl v36, .inl v37, zN], [.inl x73, .inl (M48 97 21)]) M48 _
                        refine zG_wi_eq (pc := 166) (n' := 169) (t := 173) (L := [.inr (.inr (some 97)), .inl a1, .inl a2, .inl a3, .inl v36, .inl v37, zN]) (st := []) (x := (M48 97 21)) (y := x73) 0 hd0 hz (by rfl) (fun hb74 => ?_) (fun hb74 => ?_)
                        · refine zG_w (c' := (174, [.inr (.inr (some 97)), .inl a1, .inl a2, .inl a3, .inl v36, .inl v37, zN], [.inl 0])) 1 hd0 hz (by rfl) ?_
                          exact j174 0 (by first | decide | omega)
                        · exact j169
                exact j127 ((20 - 0 : Int).toNat + 1) 0 0 M32 (by omega) (by omega) (by omega) (by omega) (by omega) hCM32 hWM32
              · refine zG_wn (pc := 69) (L := [.inr (.inr (some 97)), .inl a1, .inl a2, .inl a3, .inl v21, zN, zN]) (st := [.inl v21, .inr (.inr (some 112))]) 6 hd0 hz zp_243 (qm_243_97 (by first | exact zdk hd rfl | omega) hCM22   v21 (by first | with_reducible exact hv21 | omega) a2 (by first | with_reducible exact ha2 | omega) ) (by rfl) (fun x76 M75 hr hx76 => ?_)
                obtain ⟨hCM75, hFM75⟩ := hr
                have hWM75 : qFm [98, 101, 102, 103, 104, 105, 106, 107, 108, 109, 110, 111, 112, 113, 1007, 1010, 1012, 1013, 1016, 1018, 1019, 1020, 1021, 1022, 1023] M M75 := hWM22.tr hFM75 (by decide)
                have e77 : M75 98 6 = M22 98 6 := hFM75 98 6 (by decide)
                have e78 : M75 98 1 = M22 98 1 := hFM75 98 1 (by decide)
                refine zG_iast hd0 hz rfl rfl (by omega) ?_
                obtain ⟨M79, hM79⟩ : ∃ X : zM, X = zput M75 112 (v21 : Int).toNat x76 := ⟨_, rfl⟩
                rw [← hM79]
                have hCM79 : qMI M79 := by rw [hM79]; exact hCM75.put (by decide) (qCd_a (by decide) (by decide)) (by first | exact qMC_ar (by decide) (fun _ => by omega) | (refine ⟨fun h => ?_, fun _ => ?_, fun h => ?_, fun h => ?_, fun h => ?_⟩ <;> first | omega | exact absurd h (by decide)))
                have hWM79 : qFm [98, 101, 102, 103, 104, 105, 106, 107, 108, 109, 110, 111, 112, 113, 1007, 1010, 1012, 1013, 1016, 1018, 1019, 1020, 1021, 1022, 1023] M M79 := by rw [hM79]; exact hWM75.pa (by decide) (by decide)
                have e80 : M79 98 6 = M75 98 6 := by rw [hM79]; exact qput_ne (by decide)
                have e81 : M79 98 1 = M75 98 1 := by rw [hM79]; exact qput_ne (by decide)
                show zG n (0, 0) d 251 (70, [.inr (.inr (some 97)), .inl a1, .inl a2, .inl a3, .inl v21, zN, zN], []) M79 _
                have r82 := hCM79.rg 97 21 (by decide) (by decide)
                refine zG_w (c' := (80, [.inr (.inr (some 97)), .inl a1, .inl a2, .inl a3, .inl v21, zN, zN], [.inl (M79 97 21), .inl v21, .inr (.inr (some 111))])) 5 hd0 hz (by rfl) ?_
                refine zG_iast hd0 hz rfl rfl (by omega) ?_
                obtain ⟨M83, hM83⟩ : ∃ X : zM, X = zput M79 111 (v21 : Int).toNat (M79 97 21) := ⟨_, rfl⟩
                rw [← hM83]
                have hCM83 : qMI M83 := by rw [hM83]; exact hCM79.put (by decide) (qCd_a (by decide) (by decide)) (by first | exact qMC_ar (by decide) (fun _ => by omega) | (refine ⟨fun h => ?_, fun _ => ?_, fun h => ?_, fun h => ?_, fun h => ?_⟩ <;> first | omega | exact absurd h (by decide)))
                have hWM83 : qFm [98, 101, 102, 103, 104, 105, 106, 107, 108, 109, 110, 111, 112, 113, 1007, 1010, 1012, 1013, 1016, 1018, 1019, 1020, 1021, 1022, 1023] M M83 := by rw [hM83]; exact hWM79.pa (by decide) (by decide)
                have e84 : M83 98 6 = M79 98 6 := by rw [hM83]; exact qput_ne (by decide)
                have e85 : M83 98 1 = M79 98 1 := by rw [hM83]; exact qput_ne (by decide)
                have e86 : M83 97 21 = M79 97 21 := by rw [hM83]; exact qput_ne (by decide)
                show zG n (0, 0) d 251 (81, [.inr (.inr (some 97)), .inl a1, .inl a2, .inl a3, .inl v21, zN, zN], []) M83 _
                refine zG_wn (pc := 94) (L := [.inr (.inr (some 97)), .inl a1, .inl a2, .inl a3, .inl v21, zN, zN]) (st := [.inl v21, .inr (.inr (some 113))]) 6 hd0 hz zp_244 (qm_244_97 (by first | exact zdk hd rfl | omega) hCM83   v21 (by first | with_reducible exact hv21 | omega) a2 (by first | with_reducible exact ha2 | omega) ) (by rfl) (fun x88 M87 hr hx88 => ?_)
                obtain ⟨hCM87, hFM87⟩ := hr
                have hWM87 : qFm [98, 101, 102, 103, 104, 105, 106, 107, 108, 109, 110, 111, 112, 113, 1007, 1010, 1012, 1013, 1016, 1018, 1019, 1020, 1021, 1022, 1023] M M87 := hWM83.tr hFM87 (by decide)
                have e89 : M87 98 6 = M83 98 6 := hFM87 98 6 (by decide)
                have e90 : M87 98 1 = M83 98 1 := hFM87 98 1 (by decide)
                refine zG_iast hd0 hz rfl rfl (by omega) ?_
                obtain ⟨M92, hM92⟩ : ∃ X : zM, X = zput M87 113 (v21 : Int).toNat x88 := ⟨_, rfl⟩
                rw [← hM92]
                have hCM92 : qMI M92 := by rw [hM92]; exact hCM87.put (by decide) (qCd_a (by decide) (by decide)) (by first | exact qMC_ar (by decide) (fun _ => by omega) | (refine ⟨fun h => ?_, fun _ => ?_, fun h => ?_, fun h => ?_, fun h => ?_⟩ <;> first | omega | exact absurd h (by decide)))
                have hWM92 : qFm [98, 101, 102, 103, 104, 105, 106, 107, 108, 109, 110, 111, 112, 113, 1007, 1010, 1012, 1013, 1016, 1018, 1019, 1020, 1021, 1022, 1023] M M92 := by rw [hM92]; exact hWM87.pa (by decide) (by decide)
                have e93 : M92 98 6 = M87 98 6 := by rw [hM92]; exact qput_ne (by decide)
                have e94 : M92 98 1 = M87 98 1 := by rw [hM92]; exact qput_ne (by decide)
                show zG n (0, 0) d 251 (95, [.inr (.inr (some 97)), .inl a1, .inl a2, .inl a3, .inl v21, zN, zN], []) M92 _
                obtain ⟨x95, hx95⟩ : ∃ x : Int, x = w32 (v21 + 1) := ⟨_, rfl⟩
                have hx95e : x95 = v21 + 1 := by rw [hx95]; exact w32_id (by omega)
                refine zG_w (c' := (45, [.inr (.inr (some 97)), .inl a1, .inl a2, .inl a3, .inl x95, zN, zN], [])) 2 hd0 hz (by subst hx95; rfl) ?_
                exact ih45 x95 M92 (by omega) (by omega) (by omega) (by omega) hCM92 hWM92
          exact j45 ((20 - 0 : Int).toNat + 1) 0 M16 (by omega) (by omega) (by omega) (by omega) hCM16 hWM16
        · exact zG_wr (r := some (.inl (-3))) 1 hd0 hz (by rfl) ⟨⟨hC, hW⟩, _, rfl, by omega, by omega⟩
      · exact j23
