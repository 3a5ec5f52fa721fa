set_option maxRecDepth 100000 in
theorem qm_265_97 {n d : Nat} {M : zM} (hd : 3 ≤ d) (hC : qMI M)  (a1 : Int) (ha1 : 1 ≤ a1 ∧ a1 ≤ 4) : qOkN n d 265 [.inr (.inr (some 97)), .inl a1] 9 [114, 115, 1030, 1031, 1032, 1033] M (fun v M' => v = none) := by
  have hz := zp_265
  have hd0 : 0 < d := by omega
  have hW : qFm [114, 115, 1030, 1031, 1032, 1033] M M := qFm.rfl
  show zG n (0, 0) d 265 (0, [.inr (.inr (some 97)), .inl a1, zN, zN, zN, zN, zN, zN, zN], []) M _
  have r1 := hC.rg 97 31 (by decide) (by decide)
  have r2 := hC.f28
  refine zG_blk (c' := (8, [.inr (.inr (some 97)), .inl a1, zN, zN, zN, zN, zN, zN, zN], [.inl (M 97 28), .inl (M 97 31)])) 4 hd0 hz (by rfl) ?_
  have j31 : zG n (0, 0) d 265 (31, [.inr (.inr (some 97)), .inl a1, zN, zN, zN, zN, zN, zN, zN], []) M (fun v M' => (qMI M' ∧ qFm [114, 115, 1030, 1031, 1032, 1033] M M') ∧ v = none) := by
    refine zG_blk (c' := (36, [.inr (.inr (some 97)), .inl a1, zN, zN, zN, zN, zN, zN, zN], [.inl (M 97 28), .inr (.inr (some 97))])) 3 hd0 hz (by rfl) ?_
    refine zG_putf (.inl rfl) hd0 hz rfl (by decide) rfl rfl ?_
    obtain ⟨M3, hM3⟩ : ∃ X : zM, X = zput M 97 31 (M 97 28) := ⟨_, rfl⟩
    rw [← hM3]
    have hCM3 : qMI M3 := by rw [hM3]; exact hC.put (by decide) (by decide) (by refine ⟨fun _ => ?_, fun _ => ?_, fun h => ⟨fun _ => ?_, fun _ => ?_, fun _ => ?_, fun _ => ?_, fun _ => ?_⟩, fun h => ?_, fun h => ?_⟩ <;> first | omega | exact absurd rfl (by assumption) | (rename_i h9; exact absurd h9 (by decide)))
    have hWM3 : qFm [114, 115, 1030, 1031, 1032, 1033] M M3 := by rw [hM3]; exact hW.put (by decide)
    have e4 : M3 97 28 = M 97 28 := by rw [hM3]; exact qput_nk (by decide)
    have e5 : M3 97 31 = (M 97 28) := by rw [hM3]; exact qput_eq
    show zG n (0, 0) d 265 (39, [.inr (.inr (some 97)), .inl a1, zN, zN, zN, zN, zN, zN, zN], []) M3 _
    have r6 := hCM3.rg 97 21 (by decide) (by decide)
    refine zG_blk (c' := (44, [.inr (.inr (some 97)), .inl a1, zN, zN, zN, zN, zN, zN, zN], [.inl (M3 97 21), .inr (.inr (some 97))])) 3 hd0 hz (by rfl) ?_
    refine zG_putf (.inl rfl) hd0 hz rfl (by decide) rfl rfl ?_
    obtain ⟨M7, hM7⟩ : ∃ X : zM, X = zput M3 97 32 (M3 97 21) := ⟨_, rfl⟩
    rw [← hM7]
    have hCM7 : qMI M7 := by rw [hM7]; exact hCM3.put (by decide) (by decide) (by refine ⟨fun _ => ?_, fun _ => ?_, fun h => ⟨fun _ => ?_, fun _ => ?_, fun _ => ?_, fun _ => ?_, fun _ => ?_⟩, fun h => ?_, fun h => ?_⟩ <;> first | omega | exact absurd rfl (by assumption) | (rename_i h9; exact absurd h9 (by decide)))
    have hWM7 : qFm [114, 115, 1030, 1031, 1032, 1033] M M7 := by rw [hM7]; exact hWM3.put (by decide)
    have e8 : M7 97 28 = M3 97 28 := by rw [hM7]; exact qput_nk (by decide)
    have e9 : M7 97 31 = M3 97 31 := by rw [hM7]; exact qput_nk (by decide)
    have e10 : M7 97 21 = M3 97 21 := by rw [hM7]; exact qput_nk (by decide)
    have e11 : M7 97 32 = (M3 97 21) := by rw [hM7]; exact qput_eq
    show zG n (0, 0) d 265 (47, [.inr (.inr (some 97)), .inl a1, zN, zN, zN, zN, zN, zN, zN], []) M7 _
    refine zG_blk (c' := (49, [.inr (.inr (some 97)), .inl a1, zN, zN, zN, zN, zN, zN, zN], [.inl a1, .inr (.inr (some 97))])) 2 hd0 hz (by rfl) ?_
    refine zG_putf (.inl rfl) hd0 hz rfl (by decide) rfl rfl ?_
    obtain ⟨M12, hM12⟩ : ∃ X : zM, X = zput M7 97 33 a1 := ⟨_, rfl⟩
    rw [← hM12]
    have hCM12 : qMI M12 := by rw [hM12]; exact hCM7.put (by decide) (by decide) (by refine ⟨fun _ => ?_, fun _ => ?_, fun h => ⟨fun _ => ?_, fun _ => ?_, fun _ => ?_, fun _ => ?_, fun _ => ?_⟩, fun h => ?_, fun h => ?_⟩ <;> first | omega | exact absurd rfl (by assumption) | (rename_i h9; exact absurd h9 (by decide)))
    have hWM12 : qFm [114, 115, 1030, 1031, 1032, 1033] M M12 := by rw [hM12]; exact hWM7.put (by decide)
    have e13 : M12 97 28 = M7 97 28 := by rw [hM12]; exact qput_nk (by decide)
    have e14 : M12 97 31 = M7 97 31 := by rw [hM12]; exact qput_nk (by decide)
    have e15 : M12 97 21 = M7 97 21 := by rw [hM12]; exact qput_nk (by decide)
    have e16 : M12 97 32 = M7 97 32 := by rw [hM12]; exact qput_nk (by decide)
    have e17 : M12 97 33 = a1 := by rw [hM12]; exact qput_eq
    show zG n (0, 0) d 265 (52, [.inr (.inr (some 97)), .inl a1, zN, zN, zN, zN, zN, zN, zN], []) M12 _
    refine zG_blk (c' := (59, [.inr (.inr (some 97)), .inl a1, .inl (M12 97 28), .inl 1, zN, zN, zN, zN, zN], [])) 5 hd0 hz (by rfl) ?_
    have j59 : ∀ (N : Nat) (v18 v19 : Int) (M20 : zM) , (20000 * v19 + v18 : Int).toNat < N → 0 ≤ v18 ∧ v18 ≤ 16383 → 0 ≤ v19 ∧ v19 ≤ 1 → qMI M20 → qFm [114, 115, 1030, 1031, 1032, 1033] M M20 → zG n (0, 0) d 265 (59, [.inr (.inr (some 97)), .inl a1, .inl v18, .inl v19, zN, zN, zN, zN, zN], []) M20 (fun v M' => (qMI M' ∧ qFm [114, 115, 1030, 1031, 1032, 1033] M M') ∧ v = none) := by
      intro N
      induction N with
      | zero => intro v18 v19 M20 hN hv18 hv19 hCM20 hWM20; exact absurd hN (Nat.not_lt_zero _)
      | succ N ih59 =>
        intro v18 v19 M20 hN hv18 hv19 hCM20 hWM20
        refine zG_blk (c' := (60, [.inr (.inr (some 97)), .inl a1, .inl v18, .inl v19, zN, zN, zN, zN, zN], [.inl v19])) 1 hd0 hz (by rfl) ?_
        refine zG_if_eq hd0 hz rfl (fun hb21 => ?_) (fun hb21 => ?_)
        · exact zG_ret hd0 hz rfl rfl ⟨⟨hCM20, hWM20⟩, rfl⟩
        · refine zG_blk (c' := (66, [.inr (.inr (some 97)), .inl a1, .inl v18, .inl v19, .inl 0, zN, zN, zN, zN], [])) 2 hd0 hz (by rfl) ?_
          have j66 : ∀ (N : Nat) (v22 : Int) (M23 : zM) , (3 - v22 : Int).toNat < N → 0 ≤ v22 ∧ v22 ≤ 3 → qMI M23 → qFm [114, 115, 1030, 1031, 1032, 1033] M M23 → zG n (0, 0) d 265 (66, [.inr (.inr (some 97)), .inl a1, .inl v18, .inl v19, .inl v22, zN, zN, zN, zN], []) M23 (fun v M' => (qMI M' ∧ qFm [114, 115, 1030, 1031, 1032, 1033] M M') ∧ v = none) := by
            intro N
            induction N with
            | zero => intro v22 M23 hN hv22 hCM23 hWM23; exact absurd hN (Nat.not_lt_zero _)
            | succ N ih66 =>
              intro v22 M23 hN hv22 hCM23 hWM23
              refine zG_blk (c' := (69, [.inr (.inr (some 97)), .inl a1, .inl v18, .inl v19, .inl v22, zN, zN, zN, zN], [.inl 3, .inl v22])) 2 hd0 hz (by rfl) ?_
              refine zG_icmp_ge hd0 hz rfl (fun hb24 => ?_) (fun hb24 => ?_)
              · refine zG_blk (c' := (201, [.inr (.inr (some 97)), .inl a1, .inl v18, .inl v19, .inl 0, zN, zN, zN, zN], [])) 2 hd0 hz (by rfl) ?_
                have j201 : ∀ (N : Nat) (v25 : Int) (M26 : zM) , (2 - v25 : Int).toNat < N → 0 ≤ v25 ∧ v25 ≤ 2 → qMI M26 → qFm [114, 115, 1030, 1031, 1032, 1033] M M26 → zG n (0, 0) d 265 (201, [.inr (.inr (some 97)), .inl a1, .inl v18, .inl v19, .inl v25, zN, zN, zN, zN], []) M26 (fun v M' => (qMI M' ∧ qFm [114, 115, 1030, 1031, 1032, 1033] M M') ∧ v = none) := by
                  intro N
                  induction N with
                  | zero => intro v25 M26 hN hv25 hCM26 hWM26; exact absurd hN (Nat.not_lt_zero _)
                  | succ N ih201 =>
                    intro v25 M26 hN hv25 hCM26 hWM26
                    refine zG_blk (c' := (204, [.inr (.inr (some 97)), .inl a1, .inl v18, .inl v19, .inl v25, zN, zN, zN, zN], [.inl 2, .inl v25])) 2 hd0 hz (by rfl) ?_
                    refine zG_icmp_ge hd0 hz rfl (fun hb27 => ?_) (fun hb27 => ?_)
                    · refine zG_blk (c' := (291, [.inr (.inr (some 97)), .inl a1, .inl v18, .inl v19, .inl v25, zN, zN, zN, zN], [.inl v18])) 1 hd0 hz (by rfl) ?_
                      have j299 : ∀ (v28 : Int) , 0 ≤ v28 ∧ v28 ≤ 1 → ((v28 = 1 ∧ 1 ≤ v18) ∨ (v28 = 0 ∧ v18 ≤ 0)) → zG n (0, 0) d 265 (299, [.inr (.inr (some 97)), .inl a1, .inl v18, .inl v19, .inl v25, zN, zN, zN, zN], [.inl v28]) M26 (fun v M' => (qMI M' ∧ qFm [114, 115, 1030, 1031, 1032, 1033] M M') ∧ v = none) := by
                        intro v28 hv28 hx0_299
                        obtain ⟨x29, hx29⟩ : ∃ x : Int, x = w32 (v18 - 1) := ⟨_, rfl⟩
                        have hx29e : x29 = v18 - 1 := by rw [hx29]; exact w32_id (by omega)
                        have r30 := hCM26.f28
                        obtain ⟨x31, hx31⟩ : ∃ x : Int, x = zband x29 (M26 97 28) := ⟨_, rfl⟩
                        have hx31r := qband_r x29 (M26 97 28) (by omega) (by omega); rw [← hx31] at hx31r
                        have hx31l : 0 ≤ x29 → x31 ≤ x29 := fun h9 => by rw [hx31]; exact (qband_l x29 (M26 97 28) ⟨h9, by omega⟩ (by omega)).2
                        refine zG_blk (c' := (59, [.inr (.inr (some 97)), .inl a1, .inl x31, .inl v28, .inl v25, zN, zN, zN, zN], [])) 9 hd0 hz (by subst hx31; subst hx29; rfl) ?_
                        exact zG_weak (ih59 x31 v28 M26 (by omega) (by omega) (by omega) hCM26 hWM26) ⟨.inr rfl, .inr rfl, .inr rfl, .inr rfl, .inl rfl, .inr rfl, .inr rfl, .inr rfl, .inr rfl, trivial⟩
                      refine zG_if_le hd0 hz rfl (fun hb32 => ?_) (fun hb32 => ?_)
                      · refine zG_blk (c' := (299, [.inr (.inr (some 97)), .inl a1, .inl v18, .inl v19, .inl v25, zN, zN, zN, zN], [.inl 0])) 1 hd0 hz (by rfl) ?_
                        exact j299 0 (by first | decide | omega) (by omega)
                      · refine zG_blk (c' := (299, [.inr (.inr (some 97)), .inl a1, .inl v18, .inl v19, .inl v25, zN, zN, zN, zN], [.inl 1])) 2 hd0 hz (by rfl) ?_
                        exact j299 1 (by first | decide | omega) (by omega)
                    · refine zG_blk (c' := (210, [.inr (.inr (some 97)), .inl a1, .inl v18, .inl v19, .inl v25, .inl 0, zN, zN, zN], [])) 2 hd0 hz (by rfl) ?_
                      have j210 : ∀ (N : Nat) (v33 : Int) (M34 : zM) , (3 - v33 : Int).toNat < N → 0 ≤ v33 ∧ v33 ≤ 3 → qMI M34 → qFm [114, 115, 1030, 1031, 1032, 1033] M M34 → zG n (0, 0) d 265 (210, [.inr (.inr (some 97)), .inl a1, .inl v18, .inl v19, .inl v25, .inl v33, zN, zN, zN], []) M34 (fun v M' => (qMI M' ∧ qFm [114, 115, 1030, 1031, 1032, 1033] M M') ∧ v = none) := by
                        intro N
                        induction N with
                        | zero => intro v33 M34 hN hv33 hCM34 hWM34; exact absurd hN (Nat.not_lt_zero _)
                        | succ N ih210 =>
                          intro v33 M34 hN hv33 hCM34 hWM34
                          refine zG_blk (c' := (213, [.inr (.inr (some 97)), .inl a1, .inl v18, .inl v19, .inl v25, .inl v33, zN, zN, zN], [.inl 3, .inl v33])) 2 hd0 hz (by rfl) ?_
                          refine zG_icmp_ge hd0 hz rfl (fun hb35 => ?_) (fun hb35 => ?_)
                          · obtain ⟨x36, hx36⟩ : ∃ x : Int, x = w32 (v25 + 1) := ⟨_, rfl⟩
                            have hx36e : x36 = v25 + 1 := by rw [hx36]; exact w32_id (by omega)
                            refine zG_blk (c' := (201, [.inr (.inr (some 97)), .inl a1, .inl v18, .inl v19, .inl x36, .inl v33, zN, zN, zN], [])) 2 hd0 hz (by subst hx36; rfl) ?_
                            exact zG_weak (ih201 x36 M34 (by omega) (by omega) hCM34 hWM34) ⟨.inr rfl, .inr rfl, .inr rfl, .inr rfl, .inr rfl, .inl rfl, .inr rfl, .inr rfl, .inr rfl, trivial⟩
                          · obtain ⟨x37, hx37⟩ : ∃ x : Int, x = w32 (3 * v18) := ⟨_, rfl⟩
                            have hx37e : x37 = 3 * v18 := by rw [hx37]; exact w32_id (by omega)
                            obtain ⟨x38, hx38⟩ : ∃ x : Int, x = w32 (v33 + 1) := ⟨_, rfl⟩
                            have hx38e : x38 = v33 + 1 := by rw [hx38]; exact w32_id (by omega)
                            refine zG_blk (c' := (229, [.inr (.inr (some 97)), .inl a1, .inl v18, .inl v19, .inl v25, .inl v33, zN, zN, zN], [.inl 3, .inl x38, .inl x37, .inr (.inr (some 114)), .inl 1])) 10 hd0 hz (by subst hx38; subst hx37; rfl) ?_
                            refine zG_irem hd0 hz rfl (by omega) ?_
                            have hx39 := qtmod_in x38 3 (by first | decide | omega)
                            generalize x38.tmod 3 = x39 at hx39 ⊢
                            show zG n (0, 0) d 265 (230, [.inr (.inr (some 97)), .inl a1, .inl v18, .inl v19, .inl v25, .inl v33, zN, zN, zN], [.inl x39, .inl x37, .inr (.inr (some 114)), .inl 1]) M34 _
                            obtain ⟨x40, hx40⟩ : ∃ x : Int, x = w32 (x37 + x39) := ⟨_, rfl⟩
                            have hx40e : x40 = x37 + x39 := by rw [hx40]; exact w32_id (by omega)
                            refine zG_blk (c' := (231, [.inr (.inr (some 97)), .inl a1, .inl v18, .inl v19, .inl v25, .inl v33, zN, zN, zN], [.inl x40, .inr (.inr (some 114)), .inl 1])) 1 hd0 hz (by subst hx40; rfl) ?_
                            refine zG_iald hd0 hz rfl rfl (.inl rfl) (by omega) ?_
                            obtain ⟨x41, hx41⟩ : ∃ x : Int, x = M34 114 (x40 : Int).toNat := ⟨_, rfl⟩
                            rw [← hx41]
                            have hx41r : qin x41 := by rw [hx41]; exact hCM34.ra 114 _ (by decide) (by decide)
                            show zG n (0, 0) d 265 (232, [.inr (.inr (some 97)), .inl a1, .inl v18, .inl v19, .inl v25, .inl v33, zN, zN, zN], [.inl x41, .inl 1]) M34 _
                            obtain ⟨x42, hx42⟩ : ∃ x : Int, x = w32 (1 + x41) := ⟨_, rfl⟩
                            have hx42r : x42 = (1 + x41 + 2147483648) % 4294967296 - 2147483648 := hx42
                            obtain ⟨x43, hx43⟩ : ∃ x : Int, x = w32 (3 * v18) := ⟨_, rfl⟩
                            have hx43e : x43 = 3 * v18 := by rw [hx43]; exact w32_id (by omega)
                            obtain ⟨x44, hx44⟩ : ∃ x : Int, x = w32 (x43 + v33) := ⟨_, rfl⟩
                            have hx44e : x44 = x43 + v33 := by rw [hx44]; exact w32_id (by omega)
                            obtain ⟨x45, hx45⟩ : ∃ x : Int, x = w32 (3 * v18) := ⟨_, rfl⟩
                            have hx45e : x45 = 3 * v18 := by rw [hx45]; exact w32_id (by omega)
                            obtain ⟨x46, hx46⟩ : ∃ x : Int, x = w32 (x45 + v33) := ⟨_, rfl⟩
                            have hx46e : x46 = x45 + v33 := by rw [hx46]; exact w32_id (by omega)
                            refine zG_blk (c' := (257, [.inr (.inr (some 97)), .inl a1, .inl v18, .inl v19, .inl v25, .inl v33, .inl x42, zN, zN], [.inl x46, .inr (.inr (some 114)), .inl x42, .inl x44, .inr (.inr (some 114))])) 17 hd0 hz (by subst hx46; subst hx45; subst hx44; subst hx43; subst hx42; rfl) ?_
                            refine zG_iald hd0 hz rfl rfl (.inl rfl) (by omega) ?_
                            obtain ⟨x47, hx47⟩ : ∃ x : Int, x = M34 114 (x46 : Int).toNat := ⟨_, rfl⟩
                            rw [← hx47]
                            have hx47r : qin x47 := by rw [hx47]; exact hCM34.ra 114 _ (by decide) (by decide)
                            show zG n (0, 0) d 265 (258, [.inr (.inr (some 97)), .inl a1, .inl v18, .inl v19, .inl v25, .inl v33, .inl x42, zN, zN], [.inl x47, .inl x42, .inl x44, .inr (.inr (some 114))]) M34 _
                            have j277 : ∀ (v48 : Int) , (-2147483648) ≤ v48 ∧ v48 ≤ 2147483647 → zG n (0, 0) d 265 (277, [.inr (.inr (some 97)), .inl a1, .inl v18, .inl v19, .inl v25, .inl v33, .inl x42, zN, zN], [.inl v48, .inl x44, .inr (.inr (some 114))]) M34 (fun v M' => (qMI M' ∧ qFm [114, 115, 1030, 1031, 1032, 1033] M M') ∧ v = none) := by
                              intro v48 hv48
                              refine zG_iast hd0 hz rfl rfl (by omega) ?_
                              obtain ⟨M49, hM49⟩ : ∃ X : zM, X = zput M34 114 (x44 : Int).toNat v48 := ⟨_, rfl⟩
                              rw [← hM49]
                              have hCM49 : qMI M49 := by rw [hM49]; exact hCM34.put (by decide) (qCd_a (by decide) (by decide)) (by refine ⟨fun h => ?_, fun _ => ?_, fun h => ?_, fun h => ?_, fun h => ?_⟩ <;> first | omega | exact absurd h (by decide))
                              have hWM49 : qFm [114, 115, 1030, 1031, 1032, 1033] M M49 := by rw [hM49]; exact hWM34.pa (by decide) (by decide)
                              show zG n (0, 0) d 265 (278, [.inr (.inr (some 97)), .inl a1, .inl v18, .inl v19, .inl v25, .inl v33, .inl x42, zN, zN], []) M49 _
                              obtain ⟨x50, hx50⟩ : ∃ x : Int, x = w32 (v33 + 1) := ⟨_, rfl⟩
                              have hx50e : x50 = v33 + 1 := by rw [hx50]; exact w32_id (by omega)
                              refine zG_blk (c' := (210, [.inr (.inr (some 97)), .inl a1, .inl v18, .inl v19, .inl v25, .inl x50, .inl x42, zN, zN], [])) 2 hd0 hz (by subst hx50; rfl) ?_
                              exact zG_weak (ih210 x50 M49 (by omega) (by omega) hCM49 hWM49) ⟨.inr rfl, .inr rfl, .inr rfl, .inr rfl, .inr rfl, .inr rfl, .inl rfl, .inr rfl, .inr rfl, trivial⟩
                            refine zG_icmp_ge hd0 hz rfl (fun hb51 => ?_) (fun hb51 => ?_)
                            · obtain ⟨x52, hx52⟩ : ∃ x : Int, x = w32 (3 * v18) := ⟨_, rfl⟩
                              have hx52e : x52 = 3 * v18 := by rw [hx52]; exact w32_id (by omega)
                              obtain ⟨x53, hx53⟩ : ∃ x : Int, x = w32 (x52 + v33) := ⟨_, rfl⟩
                              have hx53e : x53 = x52 + v33 := by rw [hx53]; exact w32_id (by omega)
                              refine zG_blk (c' := (276, [.inr (.inr (some 97)), .inl a1, .inl v18, .inl v19, .inl v25, .inl v33, .inl x42, zN, zN], [.inl x53, .inr (.inr (some 114)), .inl x44, .inr (.inr (some 114))])) 7 hd0 hz (by subst hx53; subst hx52; rfl) ?_
                              refine zG_iald hd0 hz rfl rfl (.inl rfl) (by omega) ?_
                              obtain ⟨x54, hx54⟩ : ∃ x : Int, x = M34 114 (x53 : Int).toNat := ⟨_, rfl⟩
                              rw [← hx54]
                              have hx54r : qin x54 := by rw [hx54]; exact hCM34.ra 114 _ (by decide) (by decide)
                              show zG n (0, 0) d 265 (277, [.inr (.inr (some 97)), .inl a1, .inl v18, .inl v19, .inl v25, .inl v33, .inl x42, zN, zN], [.inl x54, .inl x44, .inr (.inr (some 114))]) M34 _
                              exact j277 x54 (by omega)
                            · refine zG_blk (c' := (277, [.inr (.inr (some 97)), .inl a1, .inl v18, .inl v19, .inl v25, .inl v33, .inl x42, zN, zN], [.inl x42, .inl x44, .inr (.inr (some 114))])) 2 hd0 hz (by rfl) ?_
                              exact j277 x42 (by omega)
                      exact j210 ((3 - 0 : Int).toNat + 1) 0 M26 (by omega) (by omega) hCM26 hWM26
                exact j201 ((2 - 0 : Int).toNat + 1) 0 M23 (by omega) (by omega) hCM23 hWM23
              · have r55 := hCM23.f28
                refine zG_blk (c' := (77, [.inr (.inr (some 97)), .inl a1, .inl v18, .inl v19, .inl v22, zN, zN, zN, zN], [.inl (M23 97 28), .inl v18])) 3 hd0 hz (by rfl) ?_
                have j87 : ∀ (v56 : Int) , 0 ≤ v56 ∧ v56 ≤ 1000 → zG n (0, 0) d 265 (87, [.inr (.inr (some 97)), .inl a1, .inl v18, .inl v19, .inl v22, zN, zN, zN, zN], [.inl v56]) M23 (fun v M' => (qMI M' ∧ qFm [114, 115, 1030, 1031, 1032, 1033] M M') ∧ v = none) := by
                  intro v56 hv56
                  refine zG_blk (c' := (93, [.inr (.inr (some 97)), .inl a1, .inl v18, .inl v19, .inl v22, .inl v56, zN, zN, zN], [.inl v22, .inl v18, .inr (.inr (some 97))])) 4 hd0 hz (by rfl) ?_
                  refine zG_call hd0 hz zp_261 rfl rfl (Nat.le_of_ble_eq_true rfl) ⟨Nat.le_refl _, Nat.le_refl _⟩ (qm_261_97 (by first | exact zdp hd (by decide) | omega) hCM23   v18 (by first | with_reducible exact hv18 | omega) v22 (by first | with_reducible exact hv22 | omega) ) (fun vr M57 hr => ?_)
                  obtain ⟨⟨hCM57, hFM57⟩, rfl⟩ := hr
                  have hWM57 : qFm [114, 115, 1030, 1031, 1032, 1033] M M57 := hWM23.tr hFM57 (by decide)
                  have e59 : M57 97 28 = M23 97 28 := hFM57 97 28 (by decide)
                  show zG n (0, 0) d 265 (96, [.inr (.inr (some 97)), .inl a1, .inl v18, .inl v19, .inl v22, .inl v56, zN, zN, zN], []) M57 _
                  refine zG_blk (c' := (98, [.inr (.inr (some 97)), .inl a1, .inl v18, .inl v19, .inl v22, .inl v56, zN, zN, zN], [.inl a1, .inr (.inr (some 97))])) 2 hd0 hz (by rfl) ?_
                  refine zG_call hd0 hz zp_264 rfl rfl (Nat.le_of_ble_eq_true rfl) ⟨Nat.le_refl _, Nat.le_refl _⟩ (qm_264_97 (by first | exact zdp hd (by decide) | omega) hCM57   a1 (by first | with_reducible exact ha1 | omega) ) (fun vr M60 hr => ?_)
                  obtain ⟨hq, x61, rfl, hx61⟩ := hr
                  replace hq := hq.symm; subst hq
                  show zG n (0, 0) d 265 (101, [.inr (.inr (some 97)), .inl a1, .inl v18, .inl v19, .inl v22, .inl v56, zN, zN, zN], [.inl x61]) M57 _
                  obtain ⟨x62, hx62⟩ : ∃ x : Int, x = zbshl 1 x61 := ⟨_, rfl⟩
                  have hx62r := qshl1_in x61 16384 14 (by decide) (by decide) (by omega); rw [← hx62] at hx62r
                  obtain ⟨x63, hx63⟩ : ∃ x : Int, x = w32 (x62 - 1) := ⟨_, rfl⟩
                  have hx63e : x63 = x62 - 1 := by rw [hx63]; exact w32_id (by omega)
                  refine zG_blk (c' := (111, [.inr (.inr (some 97)), .inl a1, .inl v18, .inl v19, .inl v22, .inl v56, .inl x61, .inl x63, zN], [])) 7 hd0 hz (by subst hx63; subst hx62; rfl) ?_
                  have j111 : ∀ (N : Nat) (v64 v65 : Int) , (32768 - v65 : Int).toNat < N → (-2147483648) ≤ v64 ∧ v64 ≤ 1000 → 0 ≤ v65 ∧ v65 ≤ 32767 → (0 < x61 → 1 ≤ v65) → zG n (0, 0) d 265 (111, [.inr (.inr (some 97)), .inl a1, .inl v18, .inl v19, .inl v22, .inl v64, .inl x61, .inl v65, zN], []) M57 (fun v M' => (qMI M' ∧ qFm [114, 115, 1030, 1031, 1032, 1033] M M') ∧ v = none) := by
                    intro N
                    induction N with
                    | zero => intro v64 v65 hN hv64 hv65 hx0_111; exact absurd hN (Nat.not_lt_zero _)
                    | succ N ih111 =>
                      intro v64 v65 hN hv64 hv65 hx0_111
                      refine zG_blk (c' := (113, [.inr (.inr (some 97)), .inl a1, .inl v18, .inl v19, .inl v22, .inl v64, .inl x61, .inl v65, zN], [.inl x61])) 1 hd0 hz (by rfl) ?_
                      have j179 : zG n (0, 0) d 265 (179, [.inr (.inr (some 97)), .inl a1, .inl v18, .inl v19, .inl v22, .inl v64, .inl x61, .inl v65, zN], []) M57 (fun v M' => (qMI M' ∧ qFm [114, 115, 1030, 1031, 1032, 1033] M M') ∧ v = none) := by
                        obtain ⟨x66, hx66⟩ : ∃ x : Int, x = w32 (3 * v18) := ⟨_, rfl⟩
                        have hx66e : x66 = 3 * v18 := by rw [hx66]; exact w32_id (by omega)
                        obtain ⟨x67, hx67⟩ : ∃ x : Int, x = w32 (x66 + v22) := ⟨_, rfl⟩
                        have hx67e : x67 = x66 + v22 := by rw [hx67]; exact w32_id (by omega)
                        refine zG_blk (c' := (191, [.inr (.inr (some 97)), .inl a1, .inl v18, .inl v19, .inl v22, .inl v64, .inl x61, .inl v65, zN], [.inl v64, .inl x67, .inr (.inr (some 114))])) 8 hd0 hz (by subst hx67; subst hx66; rfl) ?_
                        refine zG_iast hd0 hz rfl rfl (by omega) ?_
                        obtain ⟨M68, hM68⟩ : ∃ X : zM, X = zput M57 114 (x67 : Int).toNat v64 := ⟨_, rfl⟩
                        rw [← hM68]
                        have hCM68 : qMI M68 := by rw [hM68]; exact hCM57.put (by decide) (qCd_a (by decide) (by decide)) (by refine ⟨fun h => ?_, fun _ => ?_, fun h => ?_, fun h => ?_, fun h => ?_⟩ <;> first | omega | exact absurd h (by decide))
                        have hWM68 : qFm [114, 115, 1030, 1031, 1032, 1033] M M68 := by rw [hM68]; exact hWM57.pa (by decide) (by decide)
                        have e69 : M68 97 28 = M57 97 28 := by rw [hM68]; exact qput_ne (by decide)
                        show zG n (0, 0) d 265 (192, [.inr (.inr (some 97)), .inl a1, .inl v18, .inl v19, .inl v22, .inl v64, .inl x61, .inl v65, zN], []) M68 _
                        obtain ⟨x70, hx70⟩ : ∃ x : Int, x = w32 (v22 + 1) := ⟨_, rfl⟩
                        have hx70e : x70 = v22 + 1 := by rw [hx70]; exact w32_id (by omega)
                        refine zG_blk (c' := (66, [.inr (.inr (some 97)), .inl a1, .inl v18, .inl v19, .inl x70, .inl v64, .inl x61, .inl v65, zN], [])) 2 hd0 hz (by subst hx70; rfl) ?_
                        exact zG_weak (ih66 x70 M68 (by omega) (by omega) hCM68 hWM68) ⟨.inr rfl, .inr rfl, .inr rfl, .inr rfl, .inr rfl, .inl rfl, .inl rfl, .inl rfl, .inr rfl, trivial⟩
                      refine zG_if_le hd0 hz rfl (fun hb71 => ?_) (fun hb71 => ?_)
                      · exact j179
                      · have r72 := hCM57.f30
                        obtain ⟨x73, hx73⟩ : ∃ x : Int, x = zbshl 1 (M57 97 30) := ⟨_, rfl⟩
                        have hx73r := qshl1_in (M57 97 30) 16384 14 (by decide) (by decide) (by omega); rw [← hx73] at hx73r
                        refine zG_blk (c' := (124, [.inr (.inr (some 97)), .inl a1, .inl v18, .inl v19, .inl v22, .inl v64, .inl x61, .inl v65, zN], [.inl x73, .inl v65])) 5 hd0 hz (by subst hx73; rfl) ?_
                        refine zG_icmp_ge hd0 hz rfl (fun hb74 => ?_) (fun hb74 => ?_)
                        · exact j179
                        · refine zG_blk (c' := (137, [.inr (.inr (some 97)), .inl a1, .inl v18, .inl v19, .inl v22, .inl v64, .inl x61, .inl v65, zN], [.inl v65, .inr (.inr (some 97)), .inl v18, .inl 3, .inr (.inr (some 114)), .inl 1])) 7 hd0 hz (by rfl) ?_
                          refine zG_call hd0 hz zp_262 rfl rfl (Nat.le_of_ble_eq_true rfl) ⟨Nat.le_refl _, Nat.le_refl _⟩ (qm_262_97 (by first | exact zdp hd (by decide) | omega) hCM57   v65 (by first | with_reducible exact hv65 | omega) ) (fun vr M75 hr => ?_)
                          obtain ⟨hq, x76, rfl, hx76⟩ := hr
                          replace hq := hq.symm; subst hq
                          show zG n (0, 0) d 265 (140, [.inr (.inr (some 97)), .inl a1, .inl v18, .inl v19, .inl v22, .inl v64, .inl x61, .inl v65, zN], [.inl x76, .inl v18, .inl 3, .inr (.inr (some 114)), .inl 1]) M57 _
                          obtain ⟨x77, hx77⟩ : ∃ x : Int, x = zbor v18 x76 := ⟨_, rfl⟩
                          have hx77r := qbor_in v18 x76 16384 14 (by decide) (by decide) (by omega) (by omega); rw [← hx77] at hx77r
                          obtain ⟨x78, hx78⟩ : ∃ x : Int, x = w32 (3 * x77) := ⟨_, rfl⟩
                          have hx78e : x78 = 3 * x77 := by rw [hx78]; exact w32_id (by omega)
                          obtain ⟨x79, hx79⟩ : ∃ x : Int, x = w32 (v22 + 1) := ⟨_, rfl⟩
                          have hx79e : x79 = v22 + 1 := by rw [hx79]; exact w32_id (by omega)
                          refine zG_blk (c' := (147, [.inr (.inr (some 97)), .inl a1, .inl v18, .inl v19, .inl v22, .inl v64, .inl x61, .inl v65, zN], [.inl 3, .inl x79, .inl x78, .inr (.inr (some 114)), .inl 1])) 6 hd0 hz (by subst hx79; subst hx78; subst hx77; rfl) ?_
                          refine zG_irem hd0 hz rfl (by omega) ?_
                          have hx80 := qtmod_in x79 3 (by first | decide | omega)
                          generalize x79.tmod 3 = x80 at hx80 ⊢
                          show zG n (0, 0) d 265 (148, [.inr (.inr (some 97)), .inl a1, .inl v18, .inl v19, .inl v22, .inl v64, .inl x61, .inl v65, zN], [.inl x80, .inl x78, .inr (.inr (some 114)), .inl 1]) M57 _
                          obtain ⟨x81, hx81⟩ : ∃ x : Int, x = w32 (x78 + x80) := ⟨_, rfl⟩
                          have hx81e : x81 = x78 + x80 := by rw [hx81]; exact w32_id (by omega)
                          refine zG_blk (c' := (149, [.inr (.inr (some 97)), .inl a1, .inl v18, .inl v19, .inl v22, .inl v64, .inl x61, .inl v65, zN], [.inl x81, .inr (.inr (some 114)), .inl 1])) 1 hd0 hz (by subst hx81; rfl) ?_
                          refine zG_iald hd0 hz rfl rfl (.inl rfl) (by omega) ?_
                          obtain ⟨x82, hx82⟩ : ∃ x : Int, x = M57 114 (x81 : Int).toNat := ⟨_, rfl⟩
                          rw [← hx82]
                          have hx82r : qin x82 := by rw [hx82]; exact hCM57.ra 114 _ (by decide) (by decide)
                          show zG n (0, 0) d 265 (150, [.inr (.inr (some 97)), .inl a1, .inl v18, .inl v19, .inl v22, .inl v64, .inl x61, .inl v65, zN], [.inl x82, .inl 1]) M57 _
                          obtain ⟨x83, hx83⟩ : ∃ x : Int, x = w32 (1 + x82) := ⟨_, rfl⟩
                          have hx83r : x83 = (1 + x82 + 2147483648) % 4294967296 - 2147483648 := hx83
                          refine zG_blk (c' := (157, [.inr (.inr (some 97)), .inl a1, .inl v18, .inl v19, .inl v22, .inl v64, .inl x61, .inl v65, .inl x83], [.inl v64, .inl x83])) 4 hd0 hz (by subst hx83; rfl) ?_
                          have j167 : ∀ (v84 : Int) , (-2147483648) ≤ v84 ∧ v84 ≤ 1000 → zG n (0, 0) d 265 (167, [.inr (.inr (some 97)), .inl a1, .inl v18, .inl v19, .inl v22, .inl v64, .inl x61, .inl v65, .inl x83], [.inl v84]) M57 (fun v M' => (qMI M' ∧ qFm [114, 115, 1030, 1031, 1032, 1033] M M') ∧ v = none) := by
                            intro v84 hv84
                            refine zG_blk (c' := (171, [.inr (.inr (some 97)), .inl a1, .inl v18, .inl v19, .inl v22, .inl v84, .inl x61, .inl v65, .inl x83], [.inl v65])) 2 hd0 hz (by rfl) ?_
                            refine zG_call hd0 hz zp_263 rfl rfl (Nat.le_of_ble_eq_true rfl) ⟨Nat.le_refl _, Nat.le_refl _⟩ (qm_263 (by first | exact zdp hd (by decide) | omega) hCM57   v65 (by first | with_reducible exact hv65 | omega) ) (fun vr M85 hr => ?_)
                            obtain ⟨hq, x86, rfl, hx86, hpx86_0⟩ := hr
                            replace hq := hq.symm; subst hq
                            show zG n (0, 0) d 265 (174, [.inr (.inr (some 97)), .inl a1, .inl v18, .inl v19, .inl v22, .inl v84, .inl x61, .inl v65, .inl x83], [.inl x86]) M57 _
                            refine zG_blk (c' := (111, [.inr (.inr (some 97)), .inl a1, .inl v18, .inl v19, .inl v22, .inl v84, .inl x61, .inl x86, .inl x83], [])) 2 hd0 hz (by rfl) ?_
                            exact zG_weak (ih111 v84 x86 (by omega) (by omega) (by omega) (by omega)) ⟨.inr rfl, .inr rfl, .inr rfl, .inr rfl, .inr rfl, .inr rfl, .inr rfl, .inr rfl, .inl rfl, trivial⟩
                          refine zG_icmp_ge hd0 hz rfl (fun hb87 => ?_) (fun hb87 => ?_)
                          · refine zG_blk (c' := (167, [.inr (.inr (some 97)), .inl a1, .inl v18, .inl v19, .inl v22, .inl v64, .inl x61, .inl v65, .inl x83], [.inl v64])) 1 hd0 hz (by rfl) ?_
                            exact j167 v64 (by first | with_reducible exact hv64 | omega)
                          · refine zG_blk (c' := (167, [.inr (.inr (some 97)), .inl a1, .inl v18, .inl v19, .inl v22, .inl v64, .inl x61, .inl v65, .inl x83], [.inl x83])) 2 hd0 hz (by rfl) ?_
                            exact j167 x83 (by omega)
                  exact j111 ((32768 - x63 : Int).toNat + 1) v56 x63 (by omega) (by omega) (by omega) (by omega)
                refine zG_icmp_ne hd0 hz rfl (fun hb88 => ?_) (fun hb88 => ?_)
                · refine zG_blk (c' := (87, [.inr (.inr (some 97)), .inl a1, .inl v18, .inl v19, .inl v22, zN, zN, zN, zN], [.inl 1000])) 1 hd0 hz (by rfl) ?_
                  exact j87 1000 (by first | decide | omega)
                · refine zG_blk (c' := (87, [.inr (.inr (some 97)), .inl a1, .inl v18, .inl v19, .inl v22, zN, zN, zN, zN], [.inl 0])) 2 hd0 hz (by rfl) ?_
                  exact j87 0 (by first | decide | omega)
          exact j66 ((3 - 0 : Int).toNat + 1) 0 M20 (by omega) (by omega) hCM20 hWM20
    exact j59 ((20000 * 1 + (M12 97 28) : Int).toNat + 1) (M12 97 28) 1 M12 (by omega) (by omega) (by omega) hCM12 hWM12
  refine zG_icmp_ne hd0 hz rfl (fun hb89 => ?_) (fun hb89 => ?_)
  · exact j31
  · have r90 := hC.rg 97 32 (by decide) (by decide)
    have r91 := hC.rg 97 21 (by decide) (by decide)
    refine zG_blk (c' := (19, [.inr (.inr (some 97)), .inl a1, zN, zN, zN, zN, zN, zN, zN], [.inl (M 97 21), .inl (M 97 32)])) 4 hd0 hz (by rfl) ?_
    refine zG_icmp_ne hd0 hz rfl (fun hb92 => ?_) (fun hb92 => ?_)
    · exact j31
    · have r93 := hC.rg 97 33 (by decide) (by decide)
      refine zG_blk (c' := (27, [.inr (.inr (some 97)), .inl a1, zN, zN, zN, zN, zN, zN, zN], [.inl a1, .inl (M 97 33)])) 3 hd0 hz (by rfl) ?_
      refine zG_icmp_ne hd0 hz rfl (fun hb94 => ?_) (fun hb94 => ?_)
      · exact j31
      · exact zG_ret hd0 hz rfl rfl ⟨⟨hC, hW⟩, rfl⟩
