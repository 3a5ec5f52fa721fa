/-! THE MODEL'S METHODS, BY PROGRAM -/
theorem qm_280_97 {n d : Nat} {M : zM} (hd : 3 ≤ d) (hC : qMI M)  (a1 : Int) (ha1 : 0 ≤ a1 ∧ a1 ≤ 4) : qOkN n d 280 [.inr (.inr (some 97)), .inl a1] 5 [1041, 1042, 1043, 1044] M (fun v M' => v = none ∧ (0 ≤ M' 97 41 ∧ M' 97 41 ≤ 125) ∧ (0 ≤ M' 97 42 ∧ M' 97 42 ≤ M' 97 41)) := by
  have hz := zp_280
  have hd0 : 0 < d := by omega
  have hW : qFm [1041, 1042, 1043, 1044] M M := qFm.rfl
  have r1 := hC.cnt4
  show zG n (0, 0) d 280 (0, [.inr (.inr (some 97)), .inl a1, zN, zN, zN], []) M _
  refine zG_blk (c' := (2, [.inr (.inr (some 97)), .inl a1, zN, zN, zN], [.inl 0, .inr (.inr (some 97))])) 2 hd0 hz (by rfl) ?_
  refine zG_putf (.inl rfl) hd0 hz rfl (by decide) rfl rfl ?_
  obtain ⟨M2, hM2⟩ : ∃ X : zM, X = zput M 97 41 0 := ⟨_, rfl⟩
  rw [← hM2]
  have hCM2 : qMI M2 := by rw [hM2]; exact hC.put (by decide) (by decide) (by refine ⟨fun _ => ?_, fun _ => ?_, fun h => ⟨fun _ => ?_, fun _ => ?_, fun _ => ?_, fun _ => ?_, fun _ => ?_⟩, fun h => ?_, fun h => ?_⟩ <;> first | omega | exact absurd rfl (by assumption) | (rename_i h9; exact absurd h9 (by decide)))
  have hWM2 : qFm [1041, 1042, 1043, 1044] M M2 := by rw [hM2]; exact hW.put (by decide)
  have e3 : M2 98 4 = M 98 4 := by rw [hM2]; exact qput_ne (by decide)
  have e4 : M2 97 41 = 0 := by rw [hM2]; exact qput_eq
  show zG n (0, 0) d 280 (5, [.inr (.inr (some 97)), .inl a1, zN, zN, zN], []) M2 _
  refine zG_blk (c' := (7, [.inr (.inr (some 97)), .inl a1, zN, zN, zN], [.inl 0, .inr (.inr (some 97))])) 2 hd0 hz (by rfl) ?_
  refine zG_putf (.inl rfl) hd0 hz rfl (by decide) rfl rfl ?_
  obtain ⟨M5, hM5⟩ : ∃ X : zM, X = zput M2 97 42 0 := ⟨_, rfl⟩
  rw [← hM5]
  have hCM5 : qMI M5 := by rw [hM5]; exact hCM2.put (by decide) (by decide) (by refine ⟨fun _ => ?_, fun _ => ?_, fun h => ⟨fun _ => ?_, fun _ => ?_, fun _ => ?_, fun _ => ?_, fun _ => ?_⟩, fun h => ?_, fun h => ?_⟩ <;> first | omega | exact absurd rfl (by assumption) | (rename_i h9; exact absurd h9 (by decide)))
  have hWM5 : qFm [1041, 1042, 1043, 1044] M M5 := by rw [hM5]; exact hWM2.put (by decide)
  have e6 : M5 98 4 = M2 98 4 := by rw [hM5]; exact qput_ne (by decide)
  have e7 : M5 97 41 = M2 97 41 := by rw [hM5]; exact qput_nk (by decide)
  have e8 : M5 97 42 = 0 := by rw [hM5]; exact qput_eq
  show zG n (0, 0) d 280 (10, [.inr (.inr (some 97)), .inl a1, zN, zN, zN], []) M5 _
  refine zG_blk (c' := (12, [.inr (.inr (some 97)), .inl a1, zN, zN, zN], [.inl 0, .inr (.inr (some 97))])) 2 hd0 hz (by rfl) ?_
  refine zG_putf (.inl rfl) hd0 hz rfl (by decide) rfl rfl ?_
  obtain ⟨M9, hM9⟩ : ∃ X : zM, X = zput M5 97 43 0 := ⟨_, rfl⟩
  rw [← hM9]
  have hCM9 : qMI M9 := by rw [hM9]; exact hCM5.put (by decide) (by decide) (by refine ⟨fun _ => ?_, fun _ => ?_, fun h => ⟨fun _ => ?_, fun _ => ?_, fun _ => ?_, fun _ => ?_, fun _ => ?_⟩, fun h => ?_, fun h => ?_⟩ <;> first | omega | exact absurd rfl (by assumption) | (rename_i h9; exact absurd h9 (by decide)))
  have hWM9 : qFm [1041, 1042, 1043, 1044] M M9 := by rw [hM9]; exact hWM5.put (by decide)
  have e10 : M9 98 4 = M5 98 4 := by rw [hM9]; exact qput_ne (by decide)
  have e11 : M9 97 41 = M5 97 41 := by rw [hM9]; exact qput_nk (by decide)
  have e12 : M9 97 42 = M5 97 42 := by rw [hM9]; exact qput_nk (by decide)
  have e13 : M9 97 43 = 0 := by rw [hM9]; exact qput_eq
  show zG n (0, 0) d 280 (15, [.inr (.inr (some 97)), .inl a1, zN, zN, zN], []) M9 _
  refine zG_blk (c' := (17, [.inr (.inr (some 97)), .inl a1, zN, zN, zN], [.inl 0, .inr (.inr (some 97))])) 2 hd0 hz (by rfl) ?_
  refine zG_putf (.inl rfl) hd0 hz rfl (by decide) rfl rfl ?_
  obtain ⟨M14, hM14⟩ : ∃ X : zM, X = zput M9 97 44 0 := ⟨_, rfl⟩
  rw [← hM14]
  have hCM14 : qMI M14 := by rw [hM14]; exact hCM9.put (by decide) (by decide) (by refine ⟨fun _ => ?_, fun _ => ?_, fun h => ⟨fun _ => ?_, fun _ => ?_, fun _ => ?_, fun _ => ?_, fun _ => ?_⟩, fun h => ?_, fun h => ?_⟩ <;> first | omega | exact absurd rfl (by assumption) | (rename_i h9; exact absurd h9 (by decide)))
  have hWM14 : qFm [1041, 1042, 1043, 1044] M M14 := by rw [hM14]; exact hWM9.put (by decide)
  have e15 : M14 98 4 = M9 98 4 := by rw [hM14]; exact qput_ne (by decide)
  have e16 : M14 97 41 = M9 97 41 := by rw [hM14]; exact qput_nk (by decide)
  have e17 : M14 97 42 = M9 97 42 := by rw [hM14]; exact qput_nk (by decide)
  have e18 : M14 97 43 = M9 97 43 := by rw [hM14]; exact qput_nk (by decide)
  have e19 : M14 97 44 = 0 := by rw [hM14]; exact qput_eq
  have hq0 : qPc M (0 : Int).toNat = 0 := rfl
  show zG n (0, 0) d 280 (20, [.inr (.inr (some 97)), .inl a1, zN, zN, zN], []) M14 _
  refine zG_blk (c' := (22, [.inr (.inr (some 97)), .inl a1, .inl 0, zN, zN], [])) 2 hd0 hz (by rfl) ?_
  have j22 : ∀ (N : Nat) (v20 : Int) (M21 : zM) , (250 - v20 : Int).toNat < N → 0 ≤ v20 ∧ v20 ≤ 250 → (M21 97 43 ≤ (qPc M (v20).toNat : Nat)) → (0 ≤ M21 97 41) → (M21 97 41 ≤ M21 97 43) → (0 ≤ M21 97 42) → (M21 97 42 ≤ M21 97 41) → qMI M21 → qFm [1041, 1042, 1043, 1044] M M21 → zG n (0, 0) d 280 (22, [.inr (.inr (some 97)), .inl a1, .inl v20, zN, zN], []) M21 (fun v M' => (qMI M' ∧ qFm [1041, 1042, 1043, 1044] M M') ∧ v = none ∧ (0 ≤ M' 97 41 ∧ M' 97 41 ≤ 125) ∧ (0 ≤ M' 97 42 ∧ M' 97 42 ≤ M' 97 41)) := by
    intro N
    induction N with
    | zero => intro v20 M21 hN hv20 hx0_22 hx1_22 hx2_22 hx3_22 hx4_22 hCM21 hWM21; exact absurd hN (Nat.not_lt_zero _)
    | succ N ih22 =>
      intro v20 M21 hN hv20 hx0_22 hx1_22 hx2_22 hx3_22 hx4_22 hCM21 hWM21
      have e22 : M21 98 4 = M 98 4 := hWM21 98 4 (by decide)
      have r23 := hCM21.rg 97 41 (by decide) (by decide)
      have r24 := hCM21.rg 97 42 (by decide) (by decide)
      have r25 := hCM21.rg 97 43 (by decide) (by decide)
      have hqa : ∀ z k, qA M21 z k = qA M z k := fun z k => hWM21.ar 98 _ (by decide) (by decide)
      have hpm := qPc_m M (a := v20) (by omega)
      have hpb := qPc_b M (v20 + 1).toNat
      refine zG_blk (c' := (28, [.inr (.inr (some 97)), .inl a1, .inl v20, zN, zN], [.inl 4, .inr (.inr (some 98)), .inl v20])) 4 hd0 hz (by rfl) ?_
      refine zG_iald hd0 hz rfl rfl (.inl rfl) (by omega) ?_
      show zG n (0, 0) d 280 (29, [.inr (.inr (some 97)), .inl a1, .inl v20, zN, zN], [.inl (M21 98 4), .inl v20]) M21 _
      refine zG_icmp_ge hd0 hz rfl (fun hb26 => ?_) (fun hb26 => ?_)
      · exact zG_ret hd0 hz rfl rfl ⟨⟨hCM21, hWM21⟩, rfl, by omega, by omega⟩
      · refine zG_blk (c' := (37, [.inr (.inr (some 97)), .inl a1, .inl v20, zN, zN], [.inl v20, .inr (.inr (some 101))])) 3 hd0 hz (by rfl) ?_
        refine zG_bald hd0 hz rfl rfl (.inl rfl) (by omega) ?_
        obtain ⟨x27, hx27⟩ : ∃ x : Int, x = M21 101 (v20 : Int).toNat := ⟨_, rfl⟩
        rw [← hx27]
        have hx27r : x27 = 0 ∨ x27 = 1 := by rw [hx27]; exact hCM21.bl101 _
        show zG n (0, 0) d 280 (38, [.inr (.inr (some 97)), .inl a1, .inl v20, zN, zN], [.inl x27]) M21 _
        have j60 : ∀ (v28 : Int) , (-1) ≤ v28 ∧ v28 ≤ 249 → (v28 = -1 ∨ (v28 < M 98 4 ∧ v20 < v28 ∧ qA M v28 0 = 1 ∧ qA M v28 6 = v20 ∧ qA M v20 0 = 0)) → zG n (0, 0) d 280 (60, [.inr (.inr (some 97)), .inl a1, .inl v20, zN, zN], [.inl v28]) M21 (fun v M' => (qMI M' ∧ qFm [1041, 1042, 1043, 1044] M M') ∧ v = none ∧ (0 ≤ M' 97 41 ∧ M' 97 41 ≤ 125) ∧ (0 ≤ M' 97 42 ∧ M' 97 42 ≤ M' 97 41)) := by
          intro v28 hv28 hx0_60
          refine zG_blk (c' := (63, [.inr (.inr (some 97)), .inl a1, .inl v20, .inl v28, zN], [.inl (-1), .inl v28])) 3 hd0 hz (by rfl) ?_
          have j185 : ∀ (M29 : zM) , (M29 97 43 ≤ (qPc M (v20 + 1).toNat : Nat)) → (0 ≤ M29 97 41) → (M29 97 41 ≤ M29 97 43) → (0 ≤ M29 97 42) → (M29 97 42 ≤ M29 97 41) → qMI M29 → qFm [1041, 1042, 1043, 1044] M M29 → zG n (0, 0) d 280 (185, [.inr (.inr (some 97)), .inl a1, .inl v20, .inl v28, zN], []) M29 (fun v M' => (qMI M' ∧ qFm [1041, 1042, 1043, 1044] M M') ∧ v = none ∧ (0 ≤ M' 97 41 ∧ M' 97 41 ≤ 125) ∧ (0 ≤ M' 97 42 ∧ M' 97 42 ≤ M' 97 41)) := by
            intro M29 hx0_185 hx1_185 hx2_185 hx3_185 hx4_185 hCM29 hWM29
            have e30 : M29 98 4 = M 98 4 := hWM29 98 4 (by decide)
            have r31 := hCM29.rg 97 41 (by decide) (by decide)
            have r32 := hCM29.rg 97 42 (by decide) (by decide)
            have r33 := hCM29.rg 97 43 (by decide) (by decide)
            obtain ⟨x34, hx34⟩ : ∃ x : Int, x = w32 (v20 + 1) := ⟨_, rfl⟩
            have hx34e : x34 = v20 + 1 := by rw [hx34]; exact w32_id (by omega)
            have hnx : qPc M (x34).toNat = qPc M (v20 + 1).toNat := by rw [show x34 = v20 + 1 by omega]
            refine zG_blk (c' := (22, [.inr (.inr (some 97)), .inl a1, .inl x34, .inl v28, zN], [])) 2 hd0 hz (by subst hx34; rfl) ?_
            exact zG_weak (ih22 x34 M29 (by omega) (by omega) (by omega) (by omega) (by omega) (by omega) (by omega) hCM29 hWM29) ⟨.inr rfl, .inr rfl, .inr rfl, .inl rfl, .inr rfl, trivial⟩
          refine zG_icmp_eq hd0 hz rfl (fun hb35 => ?_) (fun hb35 => ?_)
          · exact j185 M21 (by omega) (by omega) (by omega) (by omega) (by omega) hCM21 hWM21
          · refine zG_blk (c' := (70, [.inr (.inr (some 97)), .inl a1, .inl v20, .inl v28, zN], [.inl 8, .inl v20, .inr (.inr (some 97))])) 3 hd0 hz (by rfl) ?_
            refine zG_call hd0 hz zp_194 rfl rfl (Nat.le_of_ble_eq_true rfl) ⟨Nat.le_refl _, Nat.le_refl _⟩ (qx_act0 (by first | exact zdp hd (by decide) | omega) hCM21   v20 (by first | with_reducible exact hv20 | omega) 8 (by first | decide | omega) ) (fun vr M36 hr => ?_)
            obtain ⟨hq, x37, rfl, hx37⟩ := hr
            replace hq := hq.symm; subst hq
            show zG n (0, 0) d 280 (73, [.inr (.inr (some 97)), .inl a1, .inl v20, .inl v28, zN], [.inl x37]) M21 _
            refine zG_blk (c' := (74, [.inr (.inr (some 97)), .inl a1, .inl v20, .inl v28, zN], [.inl a1, .inl x37])) 1 hd0 hz (by rfl) ?_
            have j88 : zG n (0, 0) d 280 (88, [.inr (.inr (some 97)), .inl a1, .inl v20, .inl v28, zN], []) M21 (fun v M' => (qMI M' ∧ qFm [1041, 1042, 1043, 1044] M M') ∧ v = none ∧ (0 ≤ M' 97 41 ∧ M' 97 41 ≤ 125) ∧ (0 ≤ M' 97 42 ∧ M' 97 42 ≤ M' 97 41)) := by
              refine zG_blk (c' := (92, [.inr (.inr (some 97)), .inl a1, .inl v20, .inl v28, zN], [.inl 7, .inl v20, .inr (.inr (some 97))])) 3 hd0 hz (by rfl) ?_
              refine zG_call hd0 hz zp_194 rfl rfl (Nat.le_of_ble_eq_true rfl) ⟨Nat.le_refl _, Nat.le_refl _⟩ (qx_act0 (by first | exact zdp hd (by decide) | omega) hCM21   v20 (by first | with_reducible exact hv20 | omega) 7 (by first | decide | omega) ) (fun vr M38 hr => ?_)
              obtain ⟨hq, x39, rfl, hx39⟩ := hr
              replace hq := hq.symm; subst hq
              show zG n (0, 0) d 280 (95, [.inr (.inr (some 97)), .inl a1, .inl v20, .inl v28, zN], [.inl x39]) M21 _
              refine zG_blk (c' := (99, [.inr (.inr (some 97)), .inl a1, .inl v20, .inl v28, zN], [.inl 7, .inl v28, .inr (.inr (some 97)), .inl x39])) 3 hd0 hz (by rfl) ?_
              refine zG_call hd0 hz zp_194 rfl rfl (Nat.le_of_ble_eq_true rfl) ⟨Nat.le_refl _, Nat.le_refl _⟩ (qx_act0 (by first | exact zdp hd (by decide) | omega) hCM21   v28 (by first | with_reducible exact hv28 | omega) 7 (by first | decide | omega) ) (fun vr M40 hr => ?_)
              obtain ⟨hq, x41, rfl, hx41⟩ := hr
              replace hq := hq.symm; subst hq
              show zG n (0, 0) d 280 (102, [.inr (.inr (some 97)), .inl a1, .inl v20, .inl v28, zN], [.inl x41, .inl x39]) M21 _
              obtain ⟨x42, hx42⟩ : ∃ x : Int, x = w32 (x39 - x41) := ⟨_, rfl⟩
              have hx42r : x42 = (x39 - x41 + 2147483648) % 4294967296 - 2147483648 := hx42
              refine zG_blk (c' := (109, [.inr (.inr (some 97)), .inl a1, .inl v20, .inl v28, .inl x42], [.inl 8, .inl v20, .inr (.inr (some 97))])) 5 hd0 hz (by subst hx42; rfl) ?_
              refine zG_call hd0 hz zp_194 rfl rfl (Nat.le_of_ble_eq_true rfl) ⟨Nat.le_refl _, Nat.le_refl _⟩ (qx_act0 (by first | exact zdp hd (by decide) | omega) hCM21   v20 (by first | with_reducible exact hv20 | omega) 8 (by first | decide | omega) ) (fun vr M43 hr => ?_)
              obtain ⟨hq, x44, rfl, hx44⟩ := hr
              replace hq := hq.symm; subst hq
              show zG n (0, 0) d 280 (112, [.inr (.inr (some 97)), .inl a1, .inl v20, .inl v28, .inl x42], [.inl x44]) M21 _
              refine zG_blk (c' := (113, [.inr (.inr (some 97)), .inl a1, .inl v20, .inl v28, .inl x42], [.inl a1, .inl x44])) 1 hd0 hz (by rfl) ?_
              have j124 : ∀ (v45 : Int) , (-2147483648) ≤ v45 ∧ v45 ≤ 2147483647 → zG n (0, 0) d 280 (124, [.inr (.inr (some 97)), .inl a1, .inl v20, .inl v28, .inl x42], [.inl v45]) M21 (fun v M' => (qMI M' ∧ qFm [1041, 1042, 1043, 1044] M M') ∧ v = none ∧ (0 ≤ M' 97 41 ∧ M' 97 41 ≤ 125) ∧ (0 ≤ M' 97 42 ∧ M' 97 42 ≤ M' 97 41)) := by
                intro v45 hv45
                obtain ⟨x46, hx46⟩ : ∃ x : Int, x = w32 ((M21 97 43) + 1) := ⟨_, rfl⟩
                have hx46r : x46 = ((M21 97 43) + 1 + 2147483648) % 4294967296 - 2147483648 := hx46
                refine zG_blk (c' := (133, [.inr (.inr (some 97)), .inl a1, .inl v20, .inl v28, .inl v45], [.inl x46, .inr (.inr (some 97))])) 6 hd0 hz (by subst hx46; rfl) ?_
                refine zG_putf (.inl rfl) hd0 hz rfl (by decide) rfl rfl ?_
                obtain ⟨M47, hM47⟩ : ∃ X : zM, X = zput M21 97 43 x46 := ⟨_, rfl⟩
                rw [← hM47]
                have hCM47 : qMI M47 := by rw [hM47]; exact hCM21.put (by decide) (by decide) (by refine ⟨fun _ => ?_, fun _ => ?_, fun h => ⟨fun _ => ?_, fun _ => ?_, fun _ => ?_, fun _ => ?_, fun _ => ?_⟩, fun h => ?_, fun h => ?_⟩ <;> first | omega | exact absurd rfl (by assumption) | (rename_i h9; exact absurd h9 (by decide)))
                have hWM47 : qFm [1041, 1042, 1043, 1044] M M47 := by rw [hM47]; exact hWM21.put (by decide)
                have e48 : M47 98 4 = M21 98 4 := by rw [hM47]; exact qput_ne (by decide)
                have e49 : M47 97 41 = M21 97 41 := by rw [hM47]; exact qput_nk (by decide)
                have e50 : M47 97 42 = M21 97 42 := by rw [hM47]; exact qput_nk (by decide)
                have e51 : M47 97 43 = x46 := by rw [hM47]; exact qput_eq
                have hps := qPc_s M (a := v20) (s := v28) (by omega) (by omega) (by omega) (by omega) (by omega)
                show zG n (0, 0) d 280 (136, [.inr (.inr (some 97)), .inl a1, .inl v20, .inl v28, .inl v45], []) M47 _
                have r52 := hCM47.rg 97 44 (by decide) (by decide)
                obtain ⟨x53, hx53⟩ : ∃ x : Int, x = w32 ((M47 97 44) + v45) := ⟨_, rfl⟩
                have hx53r : x53 = ((M47 97 44) + v45 + 2147483648) % 4294967296 - 2147483648 := hx53
                refine zG_blk (c' := (144, [.inr (.inr (some 97)), .inl a1, .inl v20, .inl v28, .inl v45], [.inl x53, .inr (.inr (some 97))])) 5 hd0 hz (by subst hx53; rfl) ?_
                refine zG_putf (.inl rfl) hd0 hz rfl (by decide) rfl rfl ?_
                obtain ⟨M54, hM54⟩ : ∃ X : zM, X = zput M47 97 44 x53 := ⟨_, rfl⟩
                rw [← hM54]
                have hCM54 : qMI M54 := by rw [hM54]; exact hCM47.put (by decide) (by decide) (by refine ⟨fun _ => ?_, fun _ => ?_, fun h => ⟨fun _ => ?_, fun _ => ?_, fun _ => ?_, fun _ => ?_, fun _ => ?_⟩, fun h => ?_, fun h => ?_⟩ <;> first | omega | exact absurd rfl (by assumption) | (rename_i h9; exact absurd h9 (by decide)))
                have hWM54 : qFm [1041, 1042, 1043, 1044] M M54 := by rw [hM54]; exact hWM47.put (by decide)
                have e55 : M54 98 4 = M47 98 4 := by rw [hM54]; exact qput_ne (by decide)
                have e56 : M54 97 41 = M47 97 41 := by rw [hM54]; exact qput_nk (by decide)
                have e57 : M54 97 42 = M47 97 42 := by rw [hM54]; exact qput_nk (by decide)
                have e58 : M54 97 43 = M47 97 43 := by rw [hM54]; exact qput_nk (by decide)
                have e59 : M54 97 44 = x53 := by rw [hM54]; exact qput_eq
                show zG n (0, 0) d 280 (147, [.inr (.inr (some 97)), .inl a1, .inl v20, .inl v28, .inl v45], []) M54 _
                refine zG_blk (c' := (154, [.inr (.inr (some 97)), .inl a1, .inl v20, .inl v28, .inl v45], [.inl v45, .inl (M54 97 41), .inr (.inr (some 97))])) 4 hd0 hz (by rfl) ?_
                have j162 : ∀ (v60 : Int) , 0 ≤ v60 ∧ v60 ≤ 1 → ((v60 = 1 ∧ v45 ≠ 0) ∨ (v60 = 0 ∧ v45 = 0)) → zG n (0, 0) d 280 (162, [.inr (.inr (some 97)), .inl a1, .inl v20, .inl v28, .inl v45], [.inl v60, .inl (M54 97 41), .inr (.inr (some 97))]) M54 (fun v M' => (qMI M' ∧ qFm [1041, 1042, 1043, 1044] M M') ∧ v = none ∧ (0 ≤ M' 97 41 ∧ M' 97 41 ≤ 125) ∧ (0 ≤ M' 97 42 ∧ M' 97 42 ≤ M' 97 41)) := by
                  intro v60 hv60 hx0_162
                  obtain ⟨x61, hx61⟩ : ∃ x : Int, x = w32 ((M54 97 41) + v60) := ⟨_, rfl⟩
                  have hx61r : x61 = ((M54 97 41) + v60 + 2147483648) % 4294967296 - 2147483648 := hx61
                  refine zG_blk (c' := (163, [.inr (.inr (some 97)), .inl a1, .inl v20, .inl v28, .inl v45], [.inl x61, .inr (.inr (some 97))])) 1 hd0 hz (by subst hx61; rfl) ?_
                  refine zG_putf (.inl rfl) hd0 hz rfl (by decide) rfl rfl ?_
                  obtain ⟨M62, hM62⟩ : ∃ X : zM, X = zput M54 97 41 x61 := ⟨_, rfl⟩
                  rw [← hM62]
                  have hCM62 : qMI M62 := by rw [hM62]; exact hCM54.put (by decide) (by decide) (by refine ⟨fun _ => ?_, fun _ => ?_, fun h => ⟨fun _ => ?_, fun _ => ?_, fun _ => ?_, fun _ => ?_, fun _ => ?_⟩, fun h => ?_, fun h => ?_⟩ <;> first | omega | exact absurd rfl (by assumption) | (rename_i h9; exact absurd h9 (by decide)))
                  have hWM62 : qFm [1041, 1042, 1043, 1044] M M62 := by rw [hM62]; exact hWM54.put (by decide)
                  have e63 : M62 98 4 = M54 98 4 := by rw [hM62]; exact qput_ne (by decide)
                  have e64 : M62 97 42 = M54 97 42 := by rw [hM62]; exact qput_nk (by decide)
                  have e65 : M62 97 43 = M54 97 43 := by rw [hM62]; exact qput_nk (by decide)
                  have e66 : M62 97 44 = M54 97 44 := by rw [hM62]; exact qput_nk (by decide)
                  have e67 : M62 97 41 = x61 := by rw [hM62]; exact qput_eq
                  show zG n (0, 0) d 280 (166, [.inr (.inr (some 97)), .inl a1, .inl v20, .inl v28, .inl v45], []) M62 _
                  refine zG_blk (c' := (173, [.inr (.inr (some 97)), .inl a1, .inl v20, .inl v28, .inl v45], [.inl v45, .inl (M62 97 42), .inr (.inr (some 97))])) 4 hd0 hz (by rfl) ?_
                  have j181 : ∀ (v68 : Int) , 0 ≤ v68 ∧ v68 ≤ 1 → ((v68 = 1 ∧ 0 < v45) ∨ (v68 = 0 ∧ v45 ≤ 0)) → zG n (0, 0) d 280 (181, [.inr (.inr (some 97)), .inl a1, .inl v20, .inl v28, .inl v45], [.inl v68, .inl (M62 97 42), .inr (.inr (some 97))]) M62 (fun v M' => (qMI M' ∧ qFm [1041, 1042, 1043, 1044] M M') ∧ v = none ∧ (0 ≤ M' 97 41 ∧ M' 97 41 ≤ 125) ∧ (0 ≤ M' 97 42 ∧ M' 97 42 ≤ M' 97 41)) := by
                    intro v68 hv68 hx0_181
                    obtain ⟨x69, hx69⟩ : ∃ x : Int, x = w32 ((M62 97 42) + v68) := ⟨_, rfl⟩
                    have hx69r : x69 = ((M62 97 42) + v68 + 2147483648) % 4294967296 - 2147483648 := hx69
                    refine zG_blk (c' := (182, [.inr (.inr (some 97)), .inl a1, .inl v20, .inl v28, .inl v45], [.inl x69, .inr (.inr (some 97))])) 1 hd0 hz (by subst hx69; rfl) ?_
                    refine zG_putf (.inl rfl) hd0 hz rfl (by decide) rfl rfl ?_
                    obtain ⟨M70, hM70⟩ : ∃ X : zM, X = zput M62 97 42 x69 := ⟨_, rfl⟩
                    rw [← hM70]
                    have hCM70 : qMI M70 := by rw [hM70]; exact hCM62.put (by decide) (by decide) (by refine ⟨fun _ => ?_, fun _ => ?_, fun h => ⟨fun _ => ?_, fun _ => ?_, fun _ => ?_, fun _ => ?_, fun _ => ?_⟩, fun h => ?_, fun h => ?_⟩ <;> first | omega | exact absurd rfl (by assumption) | (rename_i h9; exact absurd h9 (by decide)))
                    have hWM70 : qFm [1041, 1042, 1043, 1044] M M70 := by rw [hM70]; exact hWM62.put (by decide)
                    have e71 : M70 98 4 = M62 98 4 := by rw [hM70]; exact qput_ne (by decide)
                    have e72 : M70 97 43 = M62 97 43 := by rw [hM70]; exact qput_nk (by decide)
                    have e73 : M70 97 44 = M62 97 44 := by rw [hM70]; exact qput_nk (by decide)
                    have e74 : M70 97 41 = M62 97 41 := by rw [hM70]; exact qput_nk (by decide)
                    have e75 : M70 97 42 = x69 := by rw [hM70]; exact qput_eq
                    show zG n (0, 0) d 280 (185, [.inr (.inr (some 97)), .inl a1, .inl v20, .inl v28, .inl v45], []) M70 _
                    exact zG_weak (j185 M70 (by omega) (by omega) (by omega) (by omega) (by omega) hCM70 hWM70) ⟨.inr rfl, .inr rfl, .inr rfl, .inr rfl, .inl rfl, trivial⟩
                  refine zG_if_le hd0 hz rfl (fun hb76 => ?_) (fun hb76 => ?_)
                  · refine zG_blk (c' := (181, [.inr (.inr (some 97)), .inl a1, .inl v20, .inl v28, .inl v45], [.inl 0, .inl (M62 97 42), .inr (.inr (some 97))])) 1 hd0 hz (by rfl) ?_
                    exact j181 0 (by first | decide | omega) (by omega)
                  · refine zG_blk (c' := (181, [.inr (.inr (some 97)), .inl a1, .inl v20, .inl v28, .inl v45], [.inl 1, .inl (M62 97 42), .inr (.inr (some 97))])) 2 hd0 hz (by rfl) ?_
                    exact j181 1 (by first | decide | omega) (by omega)
                refine zG_if_eq hd0 hz rfl (fun hb77 => ?_) (fun hb77 => ?_)
                · refine zG_blk (c' := (162, [.inr (.inr (some 97)), .inl a1, .inl v20, .inl v28, .inl v45], [.inl 0, .inl (M54 97 41), .inr (.inr (some 97))])) 1 hd0 hz (by rfl) ?_
                  exact j162 0 (by first | decide | omega) (by omega)
                · refine zG_blk (c' := (162, [.inr (.inr (some 97)), .inl a1, .inl v20, .inl v28, .inl v45], [.inl 1, .inl (M54 97 41), .inr (.inr (some 97))])) 2 hd0 hz (by rfl) ?_
                  exact j162 1 (by first | decide | omega) (by omega)
              refine zG_icmp_ne hd0 hz rfl (fun hb78 => ?_) (fun hb78 => ?_)
              · obtain ⟨x79, hx79⟩ : ∃ x : Int, x = w32 (-x42) := ⟨_, rfl⟩
                have hx79r : qin x79 := by rw [hx79]; exact w32_in _
                refine zG_blk (c' := (124, [.inr (.inr (some 97)), .inl a1, .inl v20, .inl v28, .inl x42], [.inl x79])) 2 hd0 hz (by subst hx79; rfl) ?_
                exact j124 x79 (by omega)
              · refine zG_blk (c' := (124, [.inr (.inr (some 97)), .inl a1, .inl v20, .inl v28, .inl x42], [.inl x42])) 2 hd0 hz (by rfl) ?_
                exact j124 x42 (by omega)
            refine zG_icmp_eq hd0 hz rfl (fun hb80 => ?_) (fun hb80 => ?_)
            · exact j88
            · refine zG_blk (c' := (81, [.inr (.inr (some 97)), .inl a1, .inl v20, .inl v28, zN], [.inl 8, .inl v28, .inr (.inr (some 97))])) 3 hd0 hz (by rfl) ?_
              refine zG_call hd0 hz zp_194 rfl rfl (Nat.le_of_ble_eq_true rfl) ⟨Nat.le_refl _, Nat.le_refl _⟩ (qx_act0 (by first | exact zdp hd (by decide) | omega) hCM21   v28 (by first | with_reducible exact hv28 | omega) 8 (by first | decide | omega) ) (fun vr M81 hr => ?_)
              obtain ⟨hq, x82, rfl, hx82⟩ := hr
              replace hq := hq.symm; subst hq
              show zG n (0, 0) d 280 (84, [.inr (.inr (some 97)), .inl a1, .inl v20, .inl v28, zN], [.inl x82]) M21 _
              refine zG_blk (c' := (85, [.inr (.inr (some 97)), .inl a1, .inl v20, .inl v28, zN], [.inl a1, .inl x82])) 1 hd0 hz (by rfl) ?_
              refine zG_icmp_ne hd0 hz rfl (fun hb83 => ?_) (fun hb83 => ?_)
              · exact j185 M21 (by omega) (by omega) (by omega) (by omega) (by omega) hCM21 hWM21
              · exact j88
        have j59 : zG n (0, 0) d 280 (59, [.inr (.inr (some 97)), .inl a1, .inl v20, zN, zN], []) M21 (fun v M' => (qMI M' ∧ qFm [1041, 1042, 1043, 1044] M M') ∧ v = none ∧ (0 ≤ M' 97 41 ∧ M' 97 41 ≤ 125) ∧ (0 ≤ M' 97 42 ∧ M' 97 42 ≤ M' 97 41)) := by
          refine zG_blk (c' := (60, [.inr (.inr (some 97)), .inl a1, .inl v20, zN, zN], [.inl (-1)])) 1 hd0 hz (by rfl) ?_
          exact j60 (-1) (by first | decide | omega) (by omega)
        refine zG_if_eq hd0 hz rfl (fun hb84 => ?_) (fun hb84 => ?_)
        · exact j59
        · refine zG_blk (c' := (44, [.inr (.inr (some 97)), .inl a1, .inl v20, zN, zN], [.inl 0, .inl v20, .inr (.inr (some 97))])) 3 hd0 hz (by rfl) ?_
          refine zG_call hd0 hz zp_194 rfl rfl (Nat.le_of_ble_eq_true rfl) ⟨Nat.le_refl _, Nat.le_refl _⟩ (qx_act0 (by first | exact zdp hd (by decide) | omega) hCM21   v20 (by first | with_reducible exact hv20 | omega) 0 (by first | decide | omega) ) (fun vr M85 hr => ?_)
          obtain ⟨hq, x86, rfl, hx86⟩ := hr
          replace hq := hq.symm; subst hq
          show zG n (0, 0) d 280 (47, [.inr (.inr (some 97)), .inl a1, .inl v20, zN, zN], [.inl x86]) M21 _
          refine zG_if_ne hd0 hz rfl (fun hb87 => ?_) (fun hb87 => ?_)
          · exact j59
          · refine zG_blk (c' := (53, [.inr (.inr (some 97)), .inl a1, .inl v20, zN, zN], [.inl v20, .inl 1, .inr (.inr (some 97))])) 3 hd0 hz (by rfl) ?_
            refine zG_call hd0 hz zp_213 rfl rfl (Nat.le_of_ble_eq_true rfl) ⟨Nat.le_refl _, Nat.le_refl _⟩ (qm_213_97 (by first | exact zdp hd (by decide) | omega) hCM21   1 (by first | decide | omega) v20 (by first | with_reducible exact hv20 | omega) ) (fun vr M88 hr => ?_)
            obtain ⟨hq, x89, rfl, hx89, hpx89_0⟩ := hr
            replace hq := hq.symm; subst hq
            have hz0 := hqa v20 0
            simp only [hqa] at hpx89_0
            show zG n (0, 0) d 280 (56, [.inr (.inr (some 97)), .inl a1, .inl v20, zN, zN], [.inl x89]) M21 _
            refine zG_blk (c' := (60, [.inr (.inr (some 97)), .inl a1, .inl v20, zN, zN], [.inl x89])) 1 hd0 hz (by rfl) ?_
            exact j60 x89 (by omega) (by omega)
  exact j22 ((250 - 0 : Int).toNat + 1) 0 M14 (by omega) (by omega) (by omega) (by omega) (by omega) (by omega) (by omega) hCM14 hWM14
