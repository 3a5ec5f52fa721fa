theorem qm_276_97 {n d : Nat} {M : zM} (hd : 3 ≤ d) (hC : qMI M) (gk : Nat) (a1 : Int) (ha1 : 0 ≤ a1 ∧ a1 ≤ 16383) (a2 : Int) (ha2 : 1 ≤ a2 ∧ a2 ≤ 200) (hp0 : qpc 31 a1.toNat ≤ 9) : qOkN n d 276 [.inr (.inr (some 97)), .inl a1, .inl a2] 5 [116, 117, 118, 1034] M (fun v M' => ∃ x : Int, v = some (.inl x) ∧ ((-1) ≤ x ∧ x ≤ 9) ∧ (x ≠ -1 → (gk : Int) < M 98 0 → a1.toNat / 2 ^ gk % 2 = 1 → M' 116 (qpc gk a1.toNat) = gk)) := by
  have hz := zp_276
  have hd0 : 0 < d := by omega
  have hW : qFm [116, 117, 118, 1034] M M := qFm.rfl
  have r1 := hC.f34
  have r2 := hC.cnt0
  show zG n (0, 0) d 276 (0, [.inr (.inr (some 97)), .inl a1, .inl a2, zN, zN], []) M _
  refine zG_blk (c' := (2, [.inr (.inr (some 97)), .inl a1, .inl a2, zN, zN], [.inl 0, .inr (.inr (some 97))])) 2 hd0 hz (by rfl) ?_
  refine zG_putf (.inl rfl) hd0 hz rfl (by decide) rfl rfl ?_
  obtain ⟨M3, hM3⟩ : ∃ X : zM, X = zput M 97 34 0 := ⟨_, rfl⟩
  rw [← hM3]
  have hCM3 : qMI M3 := by rw [hM3]; exact hC.put (by decide) (by decide) (by refine ⟨fun _ => ?_, fun _ => ?_, fun h => ⟨fun _ => ?_, fun _ => ?_, fun _ => ?_, fun _ => ?_, fun _ => ?_⟩, fun h => ?_, fun h => ?_⟩ <;> first | omega | exact absurd rfl (by assumption) | (rename_i h9; exact absurd h9 (by decide)))
  have hWM3 : qFm [116, 117, 118, 1034] M M3 := by rw [hM3]; exact hW.put (by decide)
  have e4 : qHv M3 = qHv M := by rw [hM3]; exact qHv_put (by decide) (by decide)
  have e5 : M3 98 0 = M 98 0 := by rw [hM3]; exact qput_ne (by decide)
  have e6 : M3 97 34 = 0 := by rw [hM3]; exact qput_eq
  have hq0 : qpc (0 : Int).toNat a1.toNat = 0 := rfl
  show zG n (0, 0) d 276 (5, [.inr (.inr (some 97)), .inl a1, .inl a2, zN, zN], []) M3 _
  refine zG_blk (c' := (7, [.inr (.inr (some 97)), .inl a1, .inl a2, .inl 0, zN], [])) 2 hd0 hz (by rfl) ?_
  have j7 : ∀ (N : Nat) (v7 : Int) (M8 : zM) , (14 - v7 : Int).toNat < N → 0 ≤ v7 ∧ v7 ≤ 14 → (M8 97 34 = (qpc (v7).toNat a1.toNat : Nat)) → ((gk : Int) < v7 → a1.toNat / 2 ^ gk % 2 = 1 → M8 116 (qpc gk a1.toNat) = gk) → qMI M8 → qFm [116, 117, 118, 1034] M M8 → zG n (0, 0) d 276 (7, [.inr (.inr (some 97)), .inl a1, .inl a2, .inl v7, zN], []) M8 (fun v M' => (qMI M' ∧ qFm [116, 117, 118, 1034] M M') ∧ ∃ x : Int, v = some (.inl x) ∧ ((-1) ≤ x ∧ x ≤ 9) ∧ (x ≠ -1 → (gk : Int) < M 98 0 → a1.toNat / 2 ^ gk % 2 = 1 → M' 116 (qpc gk a1.toNat) = gk)) := by
    intro N
    induction N with
    | zero => intro v7 M8 hN hv7 hx0_7 hx1_7 hCM8 hWM8; exact absurd hN (Nat.not_lt_zero _)
    | succ N ih7 =>
      intro v7 M8 hN hv7 hx0_7 hx1_7 hCM8 hWM8
      have e9 : M8 98 0 = M 98 0 := hWM8 98 0 (by decide)
      have r10 := hCM8.f34
      refine zG_blk (c' := (13, [.inr (.inr (some 97)), .inl a1, .inl a2, .inl v7, zN], [.inl 0, .inr (.inr (some 98)), .inl v7])) 4 hd0 hz (by rfl) ?_
      refine zG_iald hd0 hz rfl rfl (.inl rfl) (by omega) ?_
      show zG n (0, 0) d 276 (14, [.inr (.inr (some 97)), .inl a1, .inl a2, .inl v7, zN], [.inl (M8 98 0), .inl v7]) M8 _
      refine zG_icmp_ge hd0 hz rfl (fun hb11 => ?_) (fun hb11 => ?_)
      · refine zG_blk (c' := (65, [.inr (.inr (some 97)), .inl a1, .inl a2, .inl 1, zN], [])) 2 hd0 hz (by rfl) ?_
        have j65 : ∀ (N : Nat) (v12 : Int) (M13 : zM) , (10 - v12 : Int).toNat < N → 1 ≤ v12 ∧ v12 ≤ 10 → ((gk : Int) < M 98 0 → a1.toNat / 2 ^ gk % 2 = 1 → M13 116 (qpc gk a1.toNat) = gk) → qMI M13 → qFm [116, 117, 118, 1034] M M13 → zG n (0, 0) d 276 (65, [.inr (.inr (some 97)), .inl a1, .inl a2, .inl v12, zN], []) M13 (fun v M' => (qMI M' ∧ qFm [116, 117, 118, 1034] M M') ∧ ∃ x : Int, v = some (.inl x) ∧ ((-1) ≤ x ∧ x ≤ 9) ∧ (x ≠ -1 → (gk : Int) < M 98 0 → a1.toNat / 2 ^ gk % 2 = 1 → M' 116 (qpc gk a1.toNat) = gk)) := by
          intro N
          induction N with
          | zero => intro v12 M13 hN hv12 hx0_65 hCM13 hWM13; exact absurd hN (Nat.not_lt_zero _)
          | succ N ih65 =>
            intro v12 M13 hN hv12 hx0_65 hCM13 hWM13
            have e14 : M13 98 0 = M 98 0 := hWM13 98 0 (by decide)
            have r15 := hCM13.f34
            refine zG_blk (c' := (70, [.inr (.inr (some 97)), .inl a1, .inl a2, .inl v12, zN], [.inl (M13 97 34), .inl v12])) 3 hd0 hz (by rfl) ?_
            refine zG_icmp_gt hd0 hz rfl (fun hb16 => ?_) (fun hb16 => ?_)
            · refine zG_blk (c' := (134, [.inr (.inr (some 97)), .inl a1, .inl a2, .inl v12, zN], [.inl 0])) 1 hd0 hz (by rfl) ?_
              exact zG_ret hd0 hz rfl rfl ⟨⟨hCM13, hWM13⟩, _, rfl, by omega, by omega⟩
            · refine zG_blk (c' := (76, [.inr (.inr (some 97)), .inl a1, .inl a2, .inl v12, .inl 0], [])) 2 hd0 hz (by rfl) ?_
              have j76 : ∀ (N : Nat) (v17 : Int) (M18 : zM) , (9 - v17 : Int).toNat < N → 0 ≤ v17 ∧ v17 ≤ 9 → ((gk : Int) < M 98 0 → a1.toNat / 2 ^ gk % 2 = 1 → M18 116 (qpc gk a1.toNat) = gk) → qMI M18 → qFm [116, 117, 118, 1034] M M18 → zG n (0, 0) d 276 (76, [.inr (.inr (some 97)), .inl a1, .inl a2, .inl v12, .inl v17], []) M18 (fun v M' => (qMI M' ∧ qFm [116, 117, 118, 1034] M M') ∧ ∃ x : Int, v = some (.inl x) ∧ ((-1) ≤ x ∧ x ≤ 9) ∧ (x ≠ -1 → (gk : Int) < M 98 0 → a1.toNat / 2 ^ gk % 2 = 1 → M' 116 (qpc gk a1.toNat) = gk)) := by
                intro N
                induction N with
                | zero => intro v17 M18 hN hv17 hx0_76 hCM18 hWM18; exact absurd hN (Nat.not_lt_zero _)
                | succ N ih76 =>
                  intro v17 M18 hN hv17 hx0_76 hCM18 hWM18
                  have e19 : M18 98 0 = M 98 0 := hWM18 98 0 (by decide)
                  have r20 := hCM18.f34
                  refine zG_blk (c' := (82, [.inr (.inr (some 97)), .inl a1, .inl a2, .inl v12, .inl v17], [.inl (M18 97 34), .inl v17])) 3 hd0 hz (by rfl) ?_
                  refine zG_icmp_ge hd0 hz rfl (fun hb21 => ?_) (fun hb21 => ?_)
                  · refine zG_blk (c' := (102, [.inr (.inr (some 97)), .inl a1, .inl a2, .inl v12, .inl 1], [])) 2 hd0 hz (by rfl) ?_
                    have j102 : ∀ (N : Nat) (v22 : Int) (M23 : zM) , (2 * (30000000000 - qHv M23) + v22 : Int).toNat < N → 0 ≤ v22 ∧ v22 ≤ 1 → ((gk : Int) < M 98 0 → a1.toNat / 2 ^ gk % 2 = 1 → M23 116 (qpc gk a1.toNat) = gk) → qMI M23 → qFm [116, 117, 118, 1034] M M23 → zG n (0, 0) d 276 (102, [.inr (.inr (some 97)), .inl a1, .inl a2, .inl v12, .inl v22], []) M23 (fun v M' => (qMI M' ∧ qFm [116, 117, 118, 1034] M M') ∧ ∃ x : Int, v = some (.inl x) ∧ ((-1) ≤ x ∧ x ≤ 9) ∧ (x ≠ -1 → (gk : Int) < M 98 0 → a1.toNat / 2 ^ gk % 2 = 1 → M' 116 (qpc gk a1.toNat) = gk)) := by
                      intro N
                      induction N with
                      | zero => intro v22 M23 hN hv22 hx0_102 hCM23 hWM23; exact absurd hN (Nat.not_lt_zero _)
                      | succ N ih102 =>
                        intro v22 M23 hN hv22 hx0_102 hCM23 hWM23
                        have e24 : M23 98 0 = M 98 0 := hWM23 98 0 (by decide)
                        have r25 := hCM23.f34
                        have hvb := hCM23.hv
                        refine zG_blk (c' := (104, [.inr (.inr (some 97)), .inl a1, .inl a2, .inl v12, .inl v22], [.inl v22])) 1 hd0 hz (by rfl) ?_
                        refine zG_if_eq hd0 hz rfl (fun hb26 => ?_) (fun hb26 => ?_)
                        · obtain ⟨x27, hx27⟩ : ∃ x : Int, x = w32 (v12 + 1) := ⟨_, rfl⟩
                          have hx27e : x27 = v12 + 1 := by rw [hx27]; exact w32_id (by omega)
                          refine zG_blk (c' := (65, [.inr (.inr (some 97)), .inl a1, .inl a2, .inl x27, .inl v22], [])) 2 hd0 hz (by subst hx27; rfl) ?_
                          exact zG_weak (ih65 x27 M23 (by omega) (by omega) (by omega) hCM23 hWM23) ⟨.inr rfl, .inr rfl, .inr rfl, .inr rfl, .inl rfl, trivial⟩
                        · refine zG_blk (c' := (109, [.inr (.inr (some 97)), .inl a1, .inl a2, .inl v12, .inl v22], [.inl a2, .inr (.inr (some 97))])) 2 hd0 hz (by rfl) ?_
                          refine zG_call hd0 hz zp_274 rfl rfl (Nat.le_of_ble_eq_true rfl) ⟨Nat.le_refl _, Nat.le_refl _⟩ (qm_274_97 (by first | exact zdp hd (by decide) | omega) hCM23   a2 (by first | with_reducible exact ha2 | omega) ) (fun vr M28 hr => ?_)
                          obtain ⟨hq, x29, rfl, hx29⟩ := hr
                          replace hq := hq.symm; subst hq
                          show zG n (0, 0) d 276 (112, [.inr (.inr (some 97)), .inl a1, .inl a2, .inl v12, .inl v22], [.inl x29]) M23 _
                          refine zG_if_eq hd0 hz rfl (fun hb30 => ?_) (fun hb30 => ?_)
                          · refine zG_blk (c' := (119, [.inr (.inr (some 97)), .inl a1, .inl a2, .inl v12, .inl v22], [.inl v12, .inr (.inr (some 97))])) 2 hd0 hz (by rfl) ?_
                            refine zG_call hd0 hz zp_275 rfl rfl (Nat.le_of_ble_eq_true rfl) ⟨Nat.le_refl _, Nat.le_refl _⟩ (qm_275_97 (by first | exact zdp hd (by decide) | omega) hCM23   v12 (by first | with_reducible exact hv12 | omega) ) (fun vr M31 hr => ?_)
                            obtain ⟨⟨hCM31, hFM31⟩, x32, rfl, hx32, hpx32_0⟩ := hr
                            have hWM31 : qFm [116, 117, 118, 1034] M M31 := hWM23.tr hFM31 (by decide)
                            have e33 : M31 98 0 = M23 98 0 := hFM31 98 0 (by decide)
                            have e34 : M31 97 34 = M23 97 34 := hFM31 97 34 (by decide)
                            have e35 : M31 116 (qpc gk a1.toNat) = M23 116 (qpc gk a1.toNat) := hFM31.ar 116 (qpc gk a1.toNat) (by decide) (by decide)
                            show zG n (0, 0) d 276 (122, [.inr (.inr (some 97)), .inl a1, .inl a2, .inl v12, .inl v22], [.inl x32]) M31 _
                            refine zG_blk (c' := (102, [.inr (.inr (some 97)), .inl a1, .inl a2, .inl v12, .inl x32], [])) 2 hd0 hz (by rfl) ?_
                            exact ih102 x32 M31 (by omega) (by omega) (by omega) hCM31 hWM31
                          · refine zG_blk (c' := (116, [.inr (.inr (some 97)), .inl a1, .inl a2, .inl v12, .inl v22], [.inl v12])) 1 hd0 hz (by rfl) ?_
                            exact zG_ret hd0 hz rfl rfl ⟨⟨hCM23, hWM23⟩, _, rfl, by omega, by omega⟩
                    exact j102 ((2 * (30000000000 - qHv M18) + 1 : Int).toNat + 1) 1 M18 (by omega) (by omega) (by omega) hCM18 hWM18
                  · refine zG_blk (c' := (92, [.inr (.inr (some 97)), .inl a1, .inl a2, .inl v12, .inl v17], [.inl 0, .inl v17, .inr (.inr (some 117))])) 4 hd0 hz (by rfl) ?_
                    refine zG_iast hd0 hz rfl rfl (by omega) ?_
                    obtain ⟨M37, hM37⟩ : ∃ X : zM, X = zput M18 117 (v17 : Int).toNat 0 := ⟨_, rfl⟩
                    rw [← hM37]
                    have hCM37 : qMI M37 := by rw [hM37]; exact hCM18.put (by decide) (qCd_a (by decide) (by decide)) (by refine ⟨fun h => ?_, fun _ => ?_, fun h => ?_, fun h => ?_, fun h => ?_⟩ <;> first | omega | exact absurd h (by decide))
                    have hWM37 : qFm [116, 117, 118, 1034] M M37 := by rw [hM37]; exact hWM18.pa (by decide) (by decide)
                    have e38 : M37 98 0 = M18 98 0 := by rw [hM37]; exact qput_ne (by decide)
                    have e39 : M37 97 34 = M18 97 34 := by rw [hM37]; exact qput_ne (by decide)
                    have e40 : M37 116 (qpc gk a1.toNat) = M18 116 (qpc gk a1.toNat) := by rw [hM37]; exact qput_ne (by decide)
                    show zG n (0, 0) d 276 (93, [.inr (.inr (some 97)), .inl a1, .inl a2, .inl v12, .inl v17], []) M37 _
                    obtain ⟨x41, hx41⟩ : ∃ x : Int, x = w32 (v17 + 1) := ⟨_, rfl⟩
                    have hx41e : x41 = v17 + 1 := by rw [hx41]; exact w32_id (by omega)
                    refine zG_blk (c' := (76, [.inr (.inr (some 97)), .inl a1, .inl a2, .inl v12, .inl x41], [])) 2 hd0 hz (by subst hx41; rfl) ?_
                    exact ih76 x41 M37 (by omega) (by omega) (by omega) hCM37 hWM37
              exact j76 ((9 - 0 : Int).toNat + 1) 0 M13 (by omega) (by omega) (by omega) hCM13 hWM13
        exact j65 ((10 - 1 : Int).toNat + 1) 1 M8 (by omega) (by omega) (by omega) hCM8 hWM8
      · obtain ⟨x42, hx42⟩ : ∃ x : Int, x = zbshr a1 v7 := ⟨_, rfl⟩
        have hx42r := qbshr_n a1 v7 (by first | with_reducible exact hv7 | omega); rw [← hx42] at hx42r
        obtain ⟨x43, hx43⟩ : ∃ x : Int, x = zband x42 1 := ⟨_, rfl⟩
        have hx43r := qband_lr x42 1 (by first | decide | omega) (by omega); rw [← hx43] at hx43r
        have hb8 : x43 = (a1.toNat / 2 ^ (v7).toNat % 2 : Nat) := by rw [hx43, hx42]; exact qbit a1 v7 (by first | with_reducible exact hv7 | omega) (by omega)
        have hb7 := qpc_next (v7).toNat a1.toNat
        have hb6 : (v7 + 1).toNat = (v7).toNat + 1 := by omega
        rw [← hb6] at hb7
        have hb5 := qpc_mono (v := a1.toNat) (show (v7 + 1).toNat ≤ 31 by omega)
        have hb4 : (gk : Int) = v7 → a1.toNat / 2 ^ gk % 2 = a1.toNat / 2 ^ (v7).toNat % 2 ∧ qpc gk a1.toNat = qpc (v7).toNat a1.toNat := fun h9 => by rw [show (v7).toNat = gk by omega]; exact ⟨rfl, rfl⟩
        have hb3 : (gk : Int) < v7 → a1.toNat / 2 ^ gk % 2 = 1 → qpc gk a1.toNat + 1 ≤ qpc (v7).toNat a1.toNat := fun h9 h8 => by have h7 := qpc_next gk a1.toNat; have h6 := qpc_mono (v := a1.toNat) (show gk + 1 ≤ (v7).toNat by omega); omega
        refine zG_blk (c' := (23, [.inr (.inr (some 97)), .inl a1, .inl a2, .inl v7, zN], [.inl 1, .inl x43])) 6 hd0 hz (by subst hx43; subst hx42; rfl) ?_
        have j57 : ∀ (M44 : zM) , (M44 97 34 = (qpc (v7 + 1).toNat a1.toNat : Nat)) → ((gk : Int) < v7 + 1 → a1.toNat / 2 ^ gk % 2 = 1 → M44 116 (qpc gk a1.toNat) = gk) → qMI M44 → qFm [116, 117, 118, 1034] M M44 → zG n (0, 0) d 276 (57, [.inr (.inr (some 97)), .inl a1, .inl a2, .inl v7, zN], []) M44 (fun v M' => (qMI M' ∧ qFm [116, 117, 118, 1034] M M') ∧ ∃ x : Int, v = some (.inl x) ∧ ((-1) ≤ x ∧ x ≤ 9) ∧ (x ≠ -1 → (gk : Int) < M 98 0 → a1.toNat / 2 ^ gk % 2 = 1 → M' 116 (qpc gk a1.toNat) = gk)) := by
          intro M44 hx0_57 hx1_57 hCM44 hWM44
          have e45 : M44 98 0 = M 98 0 := hWM44 98 0 (by decide)
          have r46 := hCM44.f34
          obtain ⟨x47, hx47⟩ : ∃ x : Int, x = w32 (v7 + 1) := ⟨_, rfl⟩
          have hx47e : x47 = v7 + 1 := by rw [hx47]; exact w32_id (by omega)
          have hnx : qpc (x47).toNat a1.toNat = qpc (v7 + 1).toNat a1.toNat := by rw [show x47 = v7 + 1 by omega]
          refine zG_blk (c' := (7, [.inr (.inr (some 97)), .inl a1, .inl a2, .inl x47, zN], [])) 2 hd0 hz (by subst hx47; rfl) ?_
          exact ih7 x47 M44 (by omega) (by omega) (by omega) (by omega) hCM44 hWM44
        refine zG_icmp_ne hd0 hz rfl (fun hb48 => ?_) (fun hb48 => ?_)
        · exact j57 M8 (by omega) (by omega) hCM8 hWM8
        · refine zG_blk (c' := (28, [.inr (.inr (some 97)), .inl a1, .inl a2, .inl v7, zN], [.inl v7, .inr (.inr (some 97))])) 2 hd0 hz (by rfl) ?_
          refine zG_call hd0 hz zp_272 rfl rfl (Nat.le_of_ble_eq_true rfl) ⟨Nat.le_refl _, Nat.le_refl _⟩ (qm_272_97 (by first | exact zdp hd (by decide) | omega) hCM8   v7 (by first | with_reducible exact hv7 | omega) ) (fun vr M49 hr => ?_)
          obtain ⟨hq, x50, rfl, hx50⟩ := hr
          replace hq := hq.symm; subst hq
          show zG n (0, 0) d 276 (31, [.inr (.inr (some 97)), .inl a1, .inl a2, .inl v7, zN], [.inl x50]) M8 _
          refine zG_blk (c' := (32, [.inr (.inr (some 97)), .inl a1, .inl a2, .inl v7, zN], [.inl a2, .inl x50])) 1 hd0 hz (by rfl) ?_
          refine zG_icmp_le hd0 hz rfl (fun hb51 => ?_) (fun hb51 => ?_)
          · refine zG_blk (c' := (46, [.inr (.inr (some 97)), .inl a1, .inl a2, .inl v7, zN], [.inl v7, .inl (M8 97 34), .inr (.inr (some 116))])) 5 hd0 hz (by rfl) ?_
            refine zG_iast hd0 hz rfl rfl (by omega) ?_
            obtain ⟨M52, hM52⟩ : ∃ X : zM, X = zput M8 116 ((M8 97 34) : Int).toNat v7 := ⟨_, rfl⟩
            rw [← hM52]
            have hCM52 : qMI M52 := by rw [hM52]; exact hCM8.put (by decide) (qCd_a (by decide) (by decide)) (by refine ⟨fun h => ?_, fun _ => ?_, fun h => ?_, fun h => ?_, fun h => ?_⟩ <;> first | omega | exact absurd h (by decide))
            have hWM52 : qFm [116, 117, 118, 1034] M M52 := by rw [hM52]; exact hWM8.pa (by decide) (by decide)
            have e53 : M52 98 0 = M8 98 0 := by rw [hM52]; exact qput_ne (by decide)
            have e54 : M52 97 34 = M8 97 34 := by rw [hM52]; exact qput_ne (by decide)
            have hq1 : (gk : Int) = v7 → a1.toNat / 2 ^ gk % 2 = 1 → M52 116 (qpc gk a1.toNat) = gk := fun h9 h8 => by rw [hM52, show ((M8 97 34) : Int).toNat = qpc gk a1.toNat by omega, qput_eq]; omega
            have hq2 : (gk : Int) < v7 → a1.toNat / 2 ^ gk % 2 = 1 → M52 116 (qpc gk a1.toNat) = gk := fun h9 h8 => by rw [hM52, qput_nk (by omega)]; omega
            show zG n (0, 0) d 276 (47, [.inr (.inr (some 97)), .inl a1, .inl a2, .inl v7, zN], []) M52 _
            obtain ⟨x55, hx55⟩ : ∃ x : Int, x = w32 ((M52 97 34) + 1) := ⟨_, rfl⟩
            have hx55e : x55 = (M52 97 34) + 1 := by rw [hx55]; exact w32_id (by omega)
            refine zG_blk (c' := (54, [.inr (.inr (some 97)), .inl a1, .inl a2, .inl v7, zN], [.inl x55, .inr (.inr (some 97))])) 5 hd0 hz (by subst hx55; rfl) ?_
            refine zG_putf (.inl rfl) hd0 hz rfl (by decide) rfl rfl ?_
            obtain ⟨M56, hM56⟩ : ∃ X : zM, X = zput M52 97 34 x55 := ⟨_, rfl⟩
            rw [← hM56]
            have hCM56 : qMI M56 := by rw [hM56]; exact hCM52.put (by decide) (by decide) (by refine ⟨fun _ => ?_, fun _ => ?_, fun h => ⟨fun _ => ?_, fun _ => ?_, fun _ => ?_, fun _ => ?_, fun _ => ?_⟩, fun h => ?_, fun h => ?_⟩ <;> first | omega | exact absurd rfl (by assumption) | (rename_i h9; exact absurd h9 (by decide)))
            have hWM56 : qFm [116, 117, 118, 1034] M M56 := by rw [hM56]; exact hWM52.put (by decide)
            have e57 : M56 98 0 = M52 98 0 := by rw [hM56]; exact qput_ne (by decide)
            have e58 : M56 116 (qpc gk a1.toNat) = M52 116 (qpc gk a1.toNat) := by rw [hM56]; exact qput_ne (by decide)
            have e59 : M56 97 34 = x55 := by rw [hM56]; exact qput_eq
            show zG n (0, 0) d 276 (57, [.inr (.inr (some 97)), .inl a1, .inl a2, .inl v7, zN], []) M56 _
            exact j57 M56 (by omega) (by omega) hCM56 hWM56
          · refine zG_blk (c' := (36, [.inr (.inr (some 97)), .inl a1, .inl a2, .inl v7, zN], [.inl (-1)])) 1 hd0 hz (by rfl) ?_
            exact zG_ret hd0 hz rfl rfl ⟨⟨hCM8, hWM8⟩, _, rfl, by omega, by omega⟩
  exact j7 ((14 - 0 : Int).toNat + 1) 0 M3 (by omega) (by omega) (by omega) (by omega) hCM3 hWM3
