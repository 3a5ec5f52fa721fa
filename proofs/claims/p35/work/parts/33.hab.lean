/-! THE MODEL'S METHODS, BY PROGRAM -/
theorem qm_280_97 {n d : Nat} {M : zM} (hd : 3 ≤ d) (hC : qMI M)  (a1 : Int) (ha1 : 0 ≤ a1 ∧ a1 ≤ 4) : qOkN n d 280 [.inr (.inr (some 97)), .inl a1] 5 [1041, 1042, 1043, 1044] M (fun v M' => v = none ∧ (0 ≤ M' 97 41 ∧ M' 97 41 ≤ 125) ∧ (0 ≤ M' 97 42 ∧ M' 97 42 ≤ M' 97 41)) := by
  have hz := zp_280
  have hd0 : 0 < d := by omega
  have hW : qFm [1041, 1042, 1043, 1044] M M := qFm.rfl
  have r1 := hC.cnt4
  show zG n (0, 0) d 280 (0, [.inr (.inr (some 97)), .inl a1, zN, zN, zN], []) M _
  refine zG_w (c' := (2, [.inr (.inr (some 97)), .inl a1, zN, zN, zN], [.inl 0, .inr (.inr (some 97))])) 2 hd0 hz (by rfl) ?_
  refine zG_putf (.inl rfl) hd0 hz rfl (by decide) rfl rfl ?_
  obtain ⟨M2, hM2⟩ : ∃ X : zM, X = zput M 97 41 0 := ⟨_, rfl⟩
  rw [← hM2]
  have hCM2 : qMI M2 := by rw [hM2]; exact hC.put (by decide) (by decide) (by first | exact qMC_97 (by decide) (fun _ => by omega) | (refine ⟨fun _ => ?_, fun _ => ?_, fun h => ⟨fun _ => ?_, fun _ => ?_, fun _ => ?_, fun _ => ?_, fun _ => ?_⟩, fun h => ?_, fun h => ?_⟩ <;> first | omega | exact absurd rfl (by assumption) | (rename_i h9; exact absurd h9 (by decide))))
  have hWM2 : qFm [1041, 1042, 1043, 1044] M M2 := by rw [hM2]; exact hW.put (by decide)
  have e3 : M2 98 4 = M 98 4 := by rw [hM2]; exact qput_ne (by decide)
  have e4 : M2 97 41 = 0 := by rw [hM2]; exact qput_eq
  show zG n (0, 0) d 280 (5, [.inr (.inr (some 97)), .inl a1, zN, zN, zN], []) M2 _
  refine zG_w (c' := (7, [.inr (.inr (some 97)), .inl a1, zN, zN, zN], [.inl 0, .inr (.inr (some 97))])) 2 hd0 hz (by rfl) ?_
  refine zG_putf (.inl rfl) hd0 hz rfl (by decide) rfl rfl ?_
  obtain ⟨M5, hM5⟩ : ∃ X : zM, X = zput M2 97 42 0 := ⟨_, rfl⟩
  rw [← hM5]
  have hCM5 : qMI M5 := by rw [hM5]; exact hCM2.put (by decide) (by decide) (by first | exact qMC_97 (by decide) (fun _ => by omega) | (refine ⟨fun _ => ?_, fun _ => ?_, fun h => ⟨fun _ => ?_, fun _ => ?_, fun _ => ?_, fun _ => ?_, fun _ => ?_⟩, fun h => ?_, fun h => ?_⟩ <;> first | omega | exact absurd rfl (by assumption) | (rename_i h9; exact absurd h9 (by decide))))
  have hWM5 : qFm [1041, 1042, 1043, 1044] M M5 := by rw [hM5]; exact hWM2.put (by decide)
  have e6 : M5 98 4 = M2 98 4 := by rw [hM5]; exact qput_ne (by decide)
  have e7 : M5 97 41 = M2 97 41 := by rw [hM5]; exact qput_nk (by decide)
  have e8 : M5 97 42 = 0 := by rw [hM5]; exact qput_eq
  show zG n (0, 0) d 280 (10, [.inr (.inr (some 97)), .inl a1, zN, zN, zN], []) M5 _
  refine zG_w (c' := (12, [.inr (.inr (some 97)), .inl a1, zN, zN, zN], [.inl 0, .inr (.inr (some 97))])) 2 hd0 hz (by rfl) ?_
  refine zG_putf (.inl rfl) hd0 hz rfl (by decide) rfl rfl ?_
  obtain ⟨M9, hM9⟩ : ∃ X : zM, X = zput M5 97 43 0 := ⟨_, rfl⟩
  rw [← hM9]
  have hCM9 : qMI M9 := by rw [hM9]; exact hCM5.put (by decide) (by decide) (by first | exact qMC_97 (by decide) (fun _ => by omega) | (refine ⟨fun _ => ?_, fun _ => ?_, fun h => ⟨fun _ => ?_, fun _ => ?_, fun _ => ?_, fun _ => ?_, fun _ => ?_⟩, fun h => ?_, fun h => ?_⟩ <;> first | omega | exact absurd rfl (by assumption) | (rename_i h9; exact absurd h9 (by decide))))
  have hWM9 : qFm [1041, 1042, 1043, 1044] M M9 := by rw [hM9]; exact hWM5.put (by decide)
  have e10 : M9 98 4 = M5 98 4 := by rw [hM9]; exact qput_ne (by decide)
  have e11 : M9 97 41 = M5 97 41 := by rw [hM9]; exact qput_nk (by decide)
  have e12 : M9 97 42 = M5 97 42 := by rw [hM9]; exact qput_nk (by decide)
  have e13 : M9 97 43 = 0 := by rw [hM9]; exact qput_eq
  show zG n (0, 0) d 280 (15, [.inr (.inr (some 97)), .inl a1, zN, zN, zN], []) M9 _
  refine zG_w (c' := (17, [.inr (.inr (some 97)), .inl a1, zN, zN, zN], [.inl 0, .inr (.inr (some 97))])) 2 hd0 hz (by rfl) ?_
  refine zG_putf (.inl rfl) hd0 hz rfl (by decide) rfl rfl ?_
  obtain ⟨M14, hM14⟩ : ∃ X : zM, X = zput M9 97 44 0 := ⟨_, rfl⟩
  rw [← hM14]
  have hCM14 : qMI M14 := by rw [hM14]; exact hCM9.put (by decide) (by decide) (by first | exact qMC_97 (by decide) (fun _ => by omega) | (refine ⟨fun _ => ?_, fun _ => ?_, fun h => ⟨fun _ => ?_, fun _ => ?_, fun _ => ?_, fun _ => ?_, fun _ => ?_⟩, fun h => ?_, fun h => ?_⟩ <;> first | omega | exact absurd rfl (by assumption) | (rename_i h9; exact absurd h9 (by decide))))
  have hWM14 : qFm [1041, 1042, 1043, 1044] M M14 := by rw [hM14]; exact hWM9.put (by decide)
  have e15 : M14 98 4 = M9 98 4 := by rw [hM14]; exact qput_ne (by decide)
  have e16 : M14 97 41 = M9 97 41 := by rw [hM14]; exact qput_nk (by decide)
  have e17 : M14 97 42 = M9 97 42 := by rw [hM14]; exact qput_nk (by decide)
  have e18 : M14 97 43 = M9 97 43 := by rw [hM14]; exact qput_nk (by decide)
  have e19 : M14 97 44 = 0 := by rw [hM14]; exact qput_eq
  have hq0 : qPc M (0 : Int).toNat = 0 := rfl
  show zG n (0, 0) d 280 (20, [.inr (.inr (some 97)), .inl a1, zN, zN, zN], []) M14 _
  refine zG_w (c' := (22, [.inr (.inr (some 97)), .inl a1, .inl 0, zN, zN], [])) 2 hd0 hz (by rfl) ?_
  have j22 : ∀ (N : Nat) (v20 : Int) (M21 : zM) , (250 - v20 : Int).toNat < N → 0 ≤ v20 ∧ v20 ≤ 250 → (M21 97 43 ≤ (qPc M (v20).toNat : Nat)) → (0 ≤ M21 97 41) → (M21 97 41 ≤ M21 97 43) → (0 ≤ M21 97 42) → (M21 97 42 ≤ M21 97 41) → qMI M21 → qFm [1041, 1042, 1043, 1044] M M21 → zG n (0, 0) d 280 (22, [.inr (.inr (some 97)), .inl a1, .inl v20, zN, zN], []) M21 (fun v M' => (qMI M' ∧ qFm [1041, 1042, 1043, 1044] M M') ∧ v = none ∧ (0 ≤ M' 97 41 ∧ M' 97 41 ≤ 125) ∧ (0 ≤ M' 97 42 ∧ M' 97 42 ≤ M' 97 41)) := by
    intro N
    induction N with
    | zero => intro v20 M21 hN hv20 hx0_22 hx1_22 hx2_22 hx3_22 hx4_22 hCM21 hWM21; exact absurd hN (Nat.not_lt_zero _)
    | succ N ih22 =>
      intro v20 M21 hN hv20 hx0_22 hx1_22 hx2_22 hx3_22 hx4_22 hCM21 hWM21
      replace hN : 250 - v20 < (N : Int) + 1 := by omega
      have e22 : M21 98 4 = M 98 4 := hWM21 98 4 (by decide)
      have r23 := hCM21.rg 97 41 (by decide) (by decide)
      have r24 := hCM21.rg 97 42 (by decide) (by decide)
      have r25 := hCM21.rg 97 43 (by decide) (by decide)
      have hqa : ∀ z k, qA M21 z k = qA M z k := fun z k => hWM21.ar 98 _ (by decide) (by decide)
      have hpm := qPc_m M (a := v20) (by omega)
      have hpb := qPc_b M (v20 + 1).toNat
      refine zG_w (c' := (28, [.inr (.inr (some 97)), .inl a1, .inl v20, zN, zN], [.inl 4, .inr (.inr (some 98)), .inl v20])) 4 hd0 hz (by rfl) ?_
      refine zG_iald hd0 hz rfl rfl (.inl rfl) (by omega) ?_
      show zG n (0, 0) d 280 (29, [.inr (.inr (some 97)), .inl a1, .inl v20, zN, zN], [.inl (M21 98 4), .inl v20]) M21 _
      refine zG_wi_ge (pc := 29) (n' := 32) (t := 191) (L := [.inr (.inr (some 97)), .inl a1, .inl v20, zN, zN]) (st := []) (x := v20) (y := (M21 98 4)) 0 hd0 hz (by rfl) (fun hb26 => ?_) (fun hb26 => ?_)
      · exact zG_ret hd0 hz rfl rfl ⟨⟨hCM21, hWM21⟩, rfl, by omega, by omega⟩
      · refine zG_w (c' := (37, [.inr (.inr (some 97)), .inl a1, .inl v20, zN, zN], [.inl v20, .inr (.inr (some 101))])) 3 hd0 hz (by rfl) ?_
        refine zG_bald hd0 hz rfl rfl (.inl rfl) (by omega) ?_
        obtain ⟨x27, hx27⟩ : ∃ x : Int, x = M21 101 (v20 : Int).toNat := ⟨_, rfl⟩
        rw [← hx27]
        have hx27r : x27 = 0 ∨ x27 = 1 := by rw [hx27]; exact hCM21.bl101 _
        show zG n (0, 0) d 280 (38, [.inr (.inr (some 97)), .inl a1, .inl v20, zN, zN], [.inl x27]) M21 _
        have j60 : ∀ (v28 : Int) , (-1) ≤ v28 ∧ v28 ≤ 249 → (v28 = -1 ∨ (v28 < M 98 4 ∧ v20 < v28 ∧ qA M v28 0 = 1 ∧ qA M v28 6 = v20 ∧ qA M v20 0 = 0)) → zG n (0, 0) d 280 (60, [.inr (.inr (some 97)), .inl a1, .inl v20, zN, zN], [.inl v28]) M21 (fun v M' => (qMI M' ∧ qFm [1041, 1042, 1043, 1044] M M') ∧ v = none ∧ (0 ≤ M' 97 41 ∧ M' 97 41 ≤ 125) ∧ (0 ≤ M' 97 42 ∧ M' 97 42 ≤ M' 97 41)) := by
          intro v28 hv28 hx0_60
          refine zG_w (c' := (63, [.inr (.inr (some 97)), .inl a1, .inl v20, .inl v28, zN], [.inl (-1), .inl v28])) 3 hd0 hz (by rfl) ?_
          have j185 : ∀ (M29 : zM) , (M29 97 43 ≤ (qPc M (v20 + 1).toNat : Nat)) → (0 ≤ M29 97 41) → (M29 97 41 ≤ M29 97 43) → (0 ≤ M29 97 42) → (M29 97 42 ≤ M29 97 41) → qMI M29 → qFm [1041, 1042, 1043, 1044] M M29 → zG n (0, 0) d 280 (185, [.inr (.inr (some 97)), .inl a1, .inl v20, .inl v28, zN], []) M29 (fun v M' => (qMI M' ∧ qFm [1041, 1042, 1043, 1044] M M') ∧ v = none ∧ (0 ≤ M' 97 41 ∧ M' 97 41 ≤ 125) ∧ (0 ≤ M' 97 42 ∧ M' 97 42 ≤ M' 97 41)) := by
            intro M29 hx0_185 hx1_185 hx2_185 hx3_185 hx4_185 hCM29 hWM29
            have e30 : M29 98 4 = M 98 4 := hWM29 98 4 (by decide)
            have r31 := hCM29.rg 97 41 (by decide) (by decide)
            have r32 := hCM29.rg 97 42 (by decide) (by decide)
            have r33 := hCM29.rg 97 43 (by decide) (by decide)
            obtain ⟨x34, hx34⟩ : ∃ x : Int, x = w32 (v20 + 1) := ⟨_, rfl⟩
            have hx34e : x34 = v20 + 1 := by rw [hx34]; exact w32_id (by omega)
            have hnx : qPc M (x34).toNat = qPc M (v20 + 1).toNat := by rw [show x34 = v20 + 1 by omega]
            refine zG_w (c' := (22, [.inr (.inr (some 97)), .inl a1, .inl x34, .inl v28, zN], [])) 2 hd0 hz (by subst hx34; rfl) ?_
            exact zG_weak (ih22 x34 M29 (by omega) (by omega) (by omega) (by omega) (by omega) (by omega) (by omega) hCM29 hWM29) ⟨.inr rfl, .inr rfl, .inr rfl, .inl rfl, .inr rfl, trivial⟩
          refine zG_wi_eq (pc := 63) (n' := 66) (t := 185) (L := [.inr (.inr (some 97)), .inl a1, .inl v20, .inl v28, zN]) (st := []) (x := v28) (y := (-1)) 0 hd0 hz (by rfl) (fun hb35 => ?_) (fun hb35 => ?_)
          · exact j185 M21 (by omega) (by omega) (by omega) (by omega) (by omega) hCM21 hWM21
          · refine zG_wp (pc := 73) (L := [.inr (.inr (some 97)), .inl a1, .inl v20, .inl v28, zN]) (st := []) 3 hd0 hz zp_194 (qx_act0 (by first | exact zdk hd rfl | omega) hCM21   v20 (by first | with_reducible exact hv20 | omega) 8 (by first | decide | omega) ) (by rfl) (fun x37 hx37 => ?_)
            refine zG_w (c' := (74, [.inr (.inr (some 97)), .inl a1, .inl v20, .inl v28, zN], [.inl a1, .inl x37])) 1 hd0 hz (by rfl) ?_
            have j88 : zG n (0, 0) d 280 (88, [.inr (.inr (some 97)), .inl a1, .inl v20, .inl v28, zN], []) M21 (fun v M' => (qMI M' ∧ qFm [1041, 1042, 1043, 1044] M M') ∧ v = none ∧ (0 ≤ M' 97 41 ∧ M' 97 41 ≤ 125) ∧ (0 ≤ M' 97 42 ∧ M' 97 42 ≤ M' 97 41)) := by
              refine zG_wp (pc := 95) (L := [.inr (.inr (some 97)), .inl a1, .inl v20, .inl v28, zN]) (st := []) 3 hd0 hz zp_194 (qx_act0 (by first | exact zdk hd rfl | omega) hCM21   v20 (by first | with_reducible exact hv20 | omega) 7 (by first | decide | omega) ) (by rfl) (fun x39 hx39 => ?_)
              refine zG_wp (pc := 102) (L := [.inr (.inr (some 97)), .inl a1, .inl v20, .inl v28, zN]) (st := [.inl x39]) 3 hd0 hz zp_194 (qx_act0 (by first | exact zdk hd rfl | omega) hCM21   v28 (by first | with_reducible exact hv28 | omega) 7 (by first | decide | omega) ) (by rfl) (fun x41 hx41 => ?_)
              obtain ⟨x42, hx42⟩ : ∃ x : Int, x = w32 (x39 - x41) := ⟨_, rfl⟩
              have hx42r : x42 = (x39 - x41 + 2147483648) % 4294967296 - 2147483648 := hx42
              refine zG_wp (pc := 112) (L := [.inr (.inr (some 97)), .inl a1, .inl v20, .inl v28, .inl x42]) (st := []) 5 hd0 hz zp_194 (qx_act0 (by first | exact zdk hd rfl | omega) hCM21   v20 (by first | with_reducible exact hv20 | omega) 8 (by first | decide | omega) ) (by subst hx42; rfl) (fun x44 hx44 => ?_)
              refine zG_w (c' := (113, [.inr (.inr (some 97)), .inl a1, .inl v20, .inl v28, .inl x42], [.inl a1, .inl x44])) 1 hd0 hz (by rfl) ?_
              have j124 : ∀ (v45 : Int) , (-2147483648) ≤ v45 ∧ v45 ≤ 2147483647 → zG n (0, 0) d 280 (124, [.inr (.inr (some 97)), .inl a1, .inl v20, .inl v28, .inl x42], [.inl v45]) M21 (fun v M' => (qMI M' ∧ qFm [1041, 1042, 1043, 1044] M M') ∧ v = none ∧ (0 ≤ M' 97 41 ∧ M' 97 41 ≤ 125) ∧ (0 ≤ M' 97 42 ∧ M' 97 42 ≤ M' 97 41)) := by
                intro v45 hv45
                obtain ⟨x46, hx46⟩ : ∃ x : Int, x = w32 ((M21 97 43) + 1) := ⟨_, rfl⟩
                have hx46r : x46 = ((M21 97 43) + 1 + 2147483648) % 4294967296 - 2147483648 := hx46
                refine zG_w (c' := (133, [.inr (.inr (some 97)), .inl a1, .inl v20, .inl v28, .inl v45], [.inl x46, .inr (.inr (some 97))])) 6 hd0 hz (by subst hx46; rfl) ?_
                refine zG_putf (.inl rfl) hd0 hz rfl (by decide) rfl rfl ?_
                obtain ⟨M47, hM47⟩ : ∃ X : zM, X = zput M21 97 43 x46 := ⟨_, rfl⟩
                rw [← hM47]
                have hCM47 : qMI M47 := by rw [hM47]; exact hCM21.put (by decide) (by decide) (by first | exact qMC_97 (by decide) (fun _ => by omega) | (refine ⟨fun _ => ?_, fun _ => ?_, fun h => ⟨fun _ => ?_, fun _ => ?_, fun _ => ?_, fun _ => ?_, fun _ => ?_⟩, fun h => ?_, fun h => ?_⟩ <;> first | omega | exact absurd rfl (by assumption) | (rename_i h9; exact absurd h9 (by decide))))
                have hWM47 : qFm [1041, 1042, 1043, 1044] M M47 := by rw [hM47]; exact hWM21.put (by decide)
                have e48 : M47 98 4 = M21 98 4 := by rw [hM47]; exact qput_ne (by decide)
                have e49 : M47 97 41 = M21 97 41 := by rw [hM47]; exact qput_nk (by decide)
                have e50 : M47 97 42 = M21 97 42 := by rw [hM47]; exact qput_nk (by decide)
                have e51 : M47 97 43 = x46 := by rw [hM47]; exact qput_eq
                have hps := qPc_s M (a := v20) (s := v28) (by omega) (by omega) (by omega) (by omega) (by omega)
                show zG n (0, 0) d 280 (136, [.inr (.inr (some 97)), .inl a1, .inl v20, .inl v28, .inl v45], []) M47 _
                have r52 := hCM47.rg 97 44 (by decide) (by decide)
                obtain ⟨x53, hx53⟩ : ∃ x : Int, x = w32 ((M47 97 44) + v45) := ⟨_, rfl⟩
                have hx53r : x53 = ((M47 97 44) + v45 + 2147483648) % 4294967296 - 2147483648 := hx53
                refine zG_w (c' := (144, [.inr (.inr (some 97)), .inl a1, .inl v20, .inl v28, .inl v45], [.inl x53, .inr (.inr (some 97))])) 5 hd0 hz (by subst hx53; rfl) ?_
                refine zG_putf (.inl rfl) hd0 hz rfl (by decide) rfl rfl ?_
                obtain ⟨M54, hM54⟩ : ∃ X : zM, X = zput M47 97 44 x53 := ⟨_, rfl⟩
                rw [← hM54]
                have hCM54 : qMI M54 := by rw [hM54]; exact hCM47.put (by decide) (by decide) (by first | exact qMC_97 (by decide) (fun _ => by omega) | (refine ⟨fun _ => ?_, fun _ => ?_, fun h => ⟨fun _ => ?_, fun _ => ?_, fun _ => ?_, fun _ => ?_, fun _ => ?_⟩, fun h => ?_, fun h => ?_⟩ <;> first | omega | exact absurd rfl (by assumption) | (rename_i h9; exact absurd h9 (by decide))))
                have hWM54 : qFm [1041, 1042, 1043, 1044] M M54 := by rw [hM54]; exact hWM47.put (by decide)
                have e55 : M54 98 4 = M47 98 4 := by rw [hM54]; exact qput_ne (by decide)
                have e56 : M54 97 41 = M47 97 41 := by rw [hM54]; exact qput_nk (by decide)
                have e57 : M54 97 42 = M47 97 42 := by rw [hM54]; exact qput_nk (by decide)
                have e58 : M54 97 43 = M47 97 43 := by rw [hM54]; exact qput_nk (by decide)
                have e59 : M54 97 44 = x53 := by rw [hM54]; exact qput_eq
                show zG n (0, 0) d 280 (147, [.inr (.inr (some 97)), .inl a1, .inl v20, .inl v28, .inl v45], []) M54 _
                refine zG_w (c' := (154, [.inr (.inr (some 97)), .inl a1, .inl v20, .inl v28, .inl v45], [.inl v45, .inl (M54 97 41), .inr (.inr (some 97))])) 4 hd0 hz (by rfl) ?_
                have j162 : ∀ (v60 : Int) , 0 ≤ v60 ∧ v60 ≤ 1 → ((v60 = 1 ∧ v45 ≠ 0) ∨ (v60 = 0 ∧ v45 = 0)) → zG n (0, 0) d 280 (162, [.inr (.inr (some 97)), .inl a1, .inl v20, .inl v28, .inl v45], [.inl v60, .inl (M54 97 41), .inr (.inr (some 97))]) M54 (fun v M' => (qMI M' ∧ qFm [1041, 1042, 1043, 1044] M M') ∧ v = none ∧ (0 ≤ M' 97 41 ∧ M' 97 41 ≤ 125) ∧ (0 ≤ M' 97 42 ∧ M' 97 42 ≤ M' 97 41)) := by
                  intro v60 hv60 hx0_162
                  obtain ⟨x61, hx61⟩ : ∃ x : Int, x = w32 ((M54 97 41) + v60) := ⟨_, rfl⟩
                  have hx61r : x61 = ((M54 97 41) + v60 + 2147483648) % 4294967296 - 2147483648 := hx61
                  refine zG_w (c' := (163, [.inr (.inr (some 97)), .inl a1, .inl v20, .inl v28, .inl v45], [.inl x61, .inr (.inr (some 97))])) 1 hd0 hz (by subst hx61; rfl) ?_
                  refine zG_putf (.inl rfl) hd0 hz rfl (by decide) rfl rfl ?_
                  obtain ⟨M62, hM62⟩ : ∃ X : zM, X = zput M54 97 41 x61 := ⟨_, rfl⟩
                  rw [← hM62]
                  have hCM62 : qMI M62 := by rw [hM62]; exact hCM54.put (by decide) (by decide) (by first | exact qMC_97 (by decide) (fun _ => by omega) | (refine ⟨fun _ => ?_, fun _ => ?_, fun h => ⟨fun _ => ?_, fun _ => ?_, fun _ => ?_, fun _ => ?_, fun _ => ?_⟩, fun h => ?_, fun h => ?_⟩ <;> first | omega | exact absurd rfl (by assumption) | (rename_i h9; exact absurd h9 (by decide))))
                  have hWM62 : qFm [1041, 1042, 1043, 1044] M M62 := by rw [hM62]; exact hWM54.put (by decide)
                  have e63 : M62 98 4 = M54 98 4 := by rw [hM62]; exact qput_ne (by decide)
                  have e64 : M62 97 42 = M54 97 42 := by rw [hM62]; exact qput_nk (by decide)
                  have e65 : M62 97 43 = M54 97 43 := by rw [hM62]; exact qput_nk (by decide)
                  have e66 : M62 97 44 = M54 97 44 := by rw [hM62]; exact qput_nk (by decide)
                  have e67 : M62 97 41 = x61 := by rw [hM62]; exact qput_eq
                  show zG n (0, 0) d 280 (166, [.inr (.inr (some 97)), .inl a1, .inl v20, .inl v28, .inl v45], []) M62 _
                  refine zG_w (c' := (173, [.inr (.inr (some 97)), .inl a1, .inl v20, .inl v28, .inl v45], [.inl v45, .inl (M62 97 42), .inr (.inr (some 97))])) 4 hd0 hz (by rfl) ?_
                  have j181 : ∀ (v68 : Int) , 0 ≤ v68 ∧ v68 ≤ 1 → ((v68 = 1 ∧ 0 < v45) ∨ (v68 = 0 ∧ v45 ≤ 0)) → zG n (0, 0) d 280 (181, [.inr (.inr (some 97)), .inl a1, .inl v20, .inl v28, .inl v45], [.inl v68, .inl (M62 97 42), .inr (.inr (some 97))]) M62 (fun v M' => (qMI M' ∧ qFm [1041, 1042, 1043, 1044] M M') ∧ v = none ∧ (0 ≤ M' 97 41 ∧ M' 97 41 ≤ 125) ∧ (0 ≤ M' 97 42 ∧ M' 97 42 ≤ M' 97 41)) := by
                    intro v68 hv68 hx0_181
                    obtain ⟨x69, hx69⟩ : ∃ x : Int, x = w32 ((M62 97 42) + v68) := ⟨_, rfl⟩
                    have hx69r : x69 = ((M62 97 42) + v68 + 2147483648) % 4294967296 - 2147483648 := hx69
                    refine zG_w (c' := (182, [.inr (.inr (some 97)), .inl a1, .inl v20, .inl v28, .inl v45], [.inl x69, .inr (.inr (some 97))])) 1 hd0 hz (by subst hx69; rfl) ?_
                    refine zG_putf (.inl rfl) hd0 hz rfl (by decide) rfl rfl ?_
                    obtain ⟨M70, hM70⟩ : ∃ X : zM, X = zput M62 97 42 x69 := ⟨_, rfl⟩
                    rw [← hM70]
                    have hCM70 : qMI M70 := by rw [hM70]; exact hCM62.put (by decide) (by decide) (by first | exact qMC_97 (by decide) (fun _ => by omega) | (refine ⟨fun _ => ?_, fun _ => ?_, fun h => ⟨fun _ => ?_, fun _ => ?_, fun _ => ?_, fun _ => ?_, fun _ => ?_⟩, fun h => ?_, fun h => ?_⟩ <;> first | omega | exact absurd rfl (by assumption) | (rename_i h9; exact absurd h9 (by decide))))
                    have hWM70 : qFm [1041, 1042, 1043, 1044] M M70 := by rw [hM70]; exact hWM62.put (by decide)
                    have e71 : M70 98 4 = M62 98 4 := by rw [hM70]; exact qput_ne (by decide)
                    have e72 : M70 97 43 = M62 97 43 := by rw [hM70]; exact qput_nk (by decide)
                    have e73 : M70 97 44 = M62 97 44 := by rw [hM70]; exact qput_nk (by decide)
                    have e74 : M70 97 41 = M62 97 41 := by rw [hM70]; exact qput_nk (by decide)
                    have e75 : M70 97 42 = x69 := by rw [hM70]; exact qput_eq
                    show zG n (0, 0) d 280 (185, [.inr (.inr (some 97)), .inl a1, .inl v20, .inl v28, .inl v45], []) M70 _
                    exact zG_weak (j185 M70 (by omega) (by omega) (by omega) (by omega) (by omega) hCM70 hWM70) ⟨.inr rfl, .inr rfl, .inr rfl, .inr rfl, .inl rfl, trivial⟩
                  refine zG_wf_le (pc := 173) (n' := 176) (t := 180) (L := [.inr (.inr (some 97)), .inl a1, .inl v20, .inl v28, .inl v45]) (st := [.inl (M62 97 42), .inr (.inr (some 97))]) (x := v45) 0 hd0 hz (by rfl) (fun hb76 => ?_) (fun hb76 => ?_)
                  · refine zG_w (c' := (181, [.inr (.inr (some 97)), .inl a1, .inl v20, .inl v28, .inl v45], [.inl 0, .inl (M62 97 42), .inr (.inr (some 97))])) 1 hd0 hz (by rfl) ?_
                    exact j181 0 (by first | decide | omega) (by omega)
                  · refine zG_w (c' := (181, [.inr (.inr (some 97)), .inl a1, .inl v20, .inl v28, .inl v45], [.inl 1, .inl (M62 97 42), .inr (.inr (some 97))])) 2 hd0 hz (by rfl) ?_
                    exact j181 1 (by first | decide | omega) (by omega)
                refine zG_wf_eq (pc := 154) (n' := 157) (t := 161) (L := [.inr (.inr (some 97)), .inl a1, .inl v20, .inl v28, .inl v45]) (st := [.inl (M54 97 41), .inr (.inr (some 97))]) (x := v45) 0 hd0 hz (by rfl) (fun hb77 => ?_) (fun hb77 => ?_)
                · refine zG_w (c' := (162, [.inr (.inr (some 97)), .inl a1, .inl v20, .inl v28, .inl v45], [.inl 0, .inl (M54 97 41), .inr (.inr (some 97))])) 1 hd0 hz (by rfl) ?_
                  exact j162 0 (by first | decide | omega) (by omega)
                · refine zG_w (c' := (162, [.inr (.inr (some 97)), .inl a1, .inl v20, .inl v28, .inl v45], [.inl 1, .inl (M54 97 41), .inr (.inr (some 97))])) 2 hd0 hz (by rfl) ?_
                  exact j162 1 (by first | decide | omega) (by omega)
              refine zG_wi_ne (pc := 113) (n' := 116) (t := 121) (L := [.inr (.inr (some 97)), .inl a1, .inl v20, .inl v28, .inl x42]) (st := []) (x := x44) (y := a1) 0 hd0 hz (by rfl) (fun hb78 => ?_) (fun hb78 => ?_)
              · obtain ⟨x79, hx79⟩ : ∃ x : Int, x = w32 (-x42) := ⟨_, rfl⟩
                have hx79r : qin x79 := by rw [hx79]; exact w32_in _
                refine zG_w (c' := (124, [.inr (.inr (some 97)), .inl a1, .inl v20, .inl v28, .inl x42], [.inl x79])) 2 hd0 hz (by subst hx79; rfl) ?_
                exact j124 x79 (by omega)
              · refine zG_w (c' := (124, [.inr (.inr (some 97)), .inl a1, .inl v20, .inl v28, .inl x42], [.inl x42])) 2 hd0 hz (by rfl) ?_
                exact j124 x42 (by omega)
            refine zG_wi_eq (pc := 74) (n' := 77) (t := 88) (L := [.inr (.inr (some 97)), .inl a1, .inl v20, .inl v28, zN]) (st := []) (x := x37) (y := a1) 0 hd0 hz (by rfl) (fun hb80 => ?_) (fun hb80 => ?_)
            · exact j88
            · refine zG_wp (pc := 84) (L := [.inr (.inr (some 97)), .inl a1, .inl v20, .inl v28, zN]) (st := []) 3 hd0 hz zp_194 (qx_act0 (by first | exact zdk hd rfl | omega) hCM21   v28 (by first | with_reducible exact hv28 | omega) 8 (by first | decide | omega) ) (by rfl) (fun x82 hx82 => ?_)
              refine zG_wi_ne (pc := 85) (n' := 88) (t := 185) (L := [.inr (.inr (some 97)), .inl a1, .inl v20, .inl v28, zN]) (st := []) (x := x82) (y := a1) 1 hd0 hz (by rfl) (fun hb83 => ?_) (fun hb83 => ?_)
              · exact j185 M21 (by omega) (by omega) (by omega) (by omega) (by omega) hCM21 hWM21
              · exact j88
        have j59 : zG n (0, 0) d 280 (59, [.inr (.inr (some 97)), .inl a1, .inl v20, zN, zN], []) M21 (fun v M' => (qMI M' ∧ qFm [1041, 1042, 1043, 1044] M M') ∧ v = none ∧ (0 ≤ M' 97 41 ∧ M' 97 41 ≤ 125) ∧ (0 ≤ M' 97 42 ∧ M' 97 42 ≤ M' 97 41)) := by
          refine zG_w (c' := (60, [.inr (.inr (some 97)), .inl a1, .inl v20, zN, zN], [.inl (-1)])) 1 hd0 hz (by rfl) ?_
          exact j60 (-1) (by first | decide | omega) (by omega)
        refine zG_wf_eq (pc := 38) (n' := 41) (t := 59) (L := [.inr (.inr (some 97)), .inl a1, .inl v20, zN, zN]) (st := []) (x := x27) 0 hd0 hz (by rfl) (fun hb84 => ?_) (fun hb84 => ?_)
        · exact j59
        · refine zG_wp (pc := 47) (L := [.inr (.inr (some 97)), .inl a1, .inl v20, zN, zN]) (st := []) 3 hd0 hz zp_194 (qx_act0 (by first | exact zdk hd rfl | omega) hCM21   v20 (by first | with_reducible exact hv20 | omega) 0 (by first | decide | omega) ) (by rfl) (fun x86 hx86 => ?_)
          refine zG_wf_ne (pc := 47) (n' := 50) (t := 59) (L := [.inr (.inr (some 97)), .inl a1, .inl v20, zN, zN]) (st := []) (x := x86) 0 hd0 hz (by rfl) (fun hb87 => ?_) (fun hb87 => ?_)
          · exact j59
          · refine zG_wp (pc := 56) (L := [.inr (.inr (some 97)), .inl a1, .inl v20, zN, zN]) (st := []) 3 hd0 hz zp_213 (qm_213_97 (by first | exact zdk hd rfl | omega) hCM21   1 (by first | decide | omega) v20 (by first | with_reducible exact hv20 | omega) ) (by rfl) (fun x89 hr => ?_)
            obtain ⟨hx89, hpx89_0⟩ := hr
            have hz0 := hqa v20 0
            simp only [hqa] at hpx89_0
            refine zG_w (c' := (60, [.inr (.inr (some 97)), .inl a1, .inl v20, zN, zN], [.inl x89])) 1 hd0 hz (by rfl) ?_
            exact j60 x89 (by omega) (by omega)
  exact j22 ((250 - 0 : Int).toNat + 1) 0 M14 (by omega) (by omega) (by omega) (by omega) (by omega) (by omega) (by omega) hCM14 hWM14
set_option maxRecDepth 100000 in
theorem qm_281_97 {n d : Nat} {M : zM} (hd : 1 ≤ d) (hC : qMI M)  (a1 : Int) (ha1 : 0 ≤ a1 ∧ a1 ≤ 125) (a2 : Int) (ha2 : 0 ≤ a2 ∧ a2 ≤ 2147483647) : qOkN n d 281 [.inr (.inr (some 97)), .inl a1, .inl a2] 8 [119, 120] M (fun v M' => v = none) := by
  have hz := zp_281
  have hd0 : 0 < d := by omega
  have hW : qFm [119, 120] M M := qFm.rfl
  show zG n (0, 0) d 281 (0, [.inr (.inr (some 97)), .inl a1, .inl a2, zN, zN, zN, zN, zN], []) M _
  refine zG_w (c' := (2, [.inr (.inr (some 97)), .inl a1, .inl a2, .inl 0, zN, zN, zN, zN], [])) 2 hd0 hz (by rfl) ?_
  have j2 : ∀ (N : Nat) (v1 : Int) (M2 : zM) , (756 - v1 : Int).toNat < N → 0 ≤ v1 ∧ v1 ≤ 756 → qMI M2 → qFm [119, 120] M M2 → zG n (0, 0) d 281 (2, [.inr (.inr (some 97)), .inl a1, .inl a2, .inl v1, zN, zN, zN, zN], []) M2 (fun v M' => (qMI M' ∧ qFm [119, 120] M M') ∧ v = none) := by
    intro N
    induction N with
    | zero => intro v1 M2 hN hv1 hCM2 hWM2; exact absurd hN (Nat.not_lt_zero _)
    | succ N ih2 =>
      intro v1 M2 hN hv1 hCM2 hWM2
      replace hN : 756 - v1 < (N : Int) + 1 := by omega
      refine zG_wi_ge (pc := 6) (n' := 9) (t := 30) (L := [.inr (.inr (some 97)), .inl a1, .inl a2, .inl v1, zN, zN, zN, zN]) (st := []) (x := v1) (y := 756) 2 hd0 hz (by rfl) (fun hb3 => ?_) (fun hb3 => ?_)
      · refine zG_w (c' := (32, [.inr (.inr (some 97)), .inl a1, .inl a2, .inl 0, zN, zN, zN, zN], [])) 2 hd0 hz (by rfl) ?_
        have j32 : ∀ (N : Nat) (v4 : Int) (M5 : zM) , (a1 - v4 : Int).toNat < N → 0 ≤ v4 ∧ v4 ≤ 141 → qMI M5 → qFm [119, 120] M M5 → zG n (0, 0) d 281 (32, [.inr (.inr (some 97)), .inl a1, .inl a2, .inl v4, zN, zN, zN, zN], []) M5 (fun v M' => (qMI M' ∧ qFm [119, 120] M M') ∧ v = none) := by
          intro N
          induction N with
          | zero => intro v4 M5 hN hv4 hCM5 hWM5; exact absurd hN (Nat.not_lt_zero _)
          | succ N ih32 =>
            intro v4 M5 hN hv4 hCM5 hWM5
            replace hN : a1 - v4 < (N : Int) + 1 := by omega
            refine zG_wi_ge (pc := 34) (n' := 37) (t := 162) (L := [.inr (.inr (some 97)), .inl a1, .inl a2, .inl v4, zN, zN, zN, zN]) (st := []) (x := v4) (y := a1) 2 hd0 hz (by rfl) (fun hb6 => ?_) (fun hb6 => ?_)
            · refine zG_w (c' := (164, [.inr (.inr (some 97)), .inl a1, .inl a2, .inl 0, zN, zN, zN, zN], [])) 2 hd0 hz (by rfl) ?_
              have j164 : ∀ (N : Nat) (v7 : Int) (M8 : zM) , (6 - v7 : Int).toNat < N → 0 ≤ v7 ∧ v7 ≤ 6 → qMI M8 → qFm [119, 120] M M8 → zG n (0, 0) d 281 (164, [.inr (.inr (some 97)), .inl a1, .inl a2, .inl v7, zN, zN, zN, zN], []) M8 (fun v M' => (qMI M' ∧ qFm [119, 120] M M') ∧ v = none) := by
                intro N
                induction N with
                | zero => intro v7 M8 hN hv7 hCM8 hWM8; exact absurd hN (Nat.not_lt_zero _)
                | succ N ih164 =>
                  intro v7 M8 hN hv7 hCM8 hWM8
                  replace hN : 6 - v7 < (N : Int) + 1 := by omega
                  refine zG_wi_ge (pc := 167) (n' := 170) (t := 183) (L := [.inr (.inr (some 97)), .inl a1, .inl a2, .inl v7, zN, zN, zN, zN]) (st := []) (x := v7) (y := 6) 2 hd0 hz (by rfl) (fun hb9 => ?_) (fun hb9 => ?_)
                  · refine zG_w (c' := (185, [.inr (.inr (some 97)), .inl a1, .inl a2, .inl a2, zN, zN, zN, zN], [])) 2 hd0 hz (by rfl) ?_
                    have j185 : ∀ (N : Nat) (v10 : Int) (M11 : zM) , (a1 + 1 - v10 : Int).toNat < N → 0 ≤ v10 ∧ v10 ≤ 2147483647 → qMI M11 → qFm [119, 120] M M11 → zG n (0, 0) d 281 (185, [.inr (.inr (some 97)), .inl a1, .inl a2, .inl v10, zN, zN, zN, zN], []) M11 (fun v M' => (qMI M' ∧ qFm [119, 120] M M') ∧ v = none) := by
                      intro N
                      induction N with
                      | zero => intro v10 M11 hN hv10 hCM11 hWM11; exact absurd hN (Nat.not_lt_zero _)
                      | succ N ih185 =>
                        intro v10 M11 hN hv10 hCM11 hWM11
                        replace hN : a1 + 1 - v10 < (N : Int) + 1 := by omega
                        refine zG_wi_gt (pc := 187) (n' := 190) (t := 284) (L := [.inr (.inr (some 97)), .inl a1, .inl a2, .inl v10, zN, zN, zN, zN]) (st := []) (x := v10) (y := a1) 2 hd0 hz (by rfl) (fun hb12 => ?_) (fun hb12 => ?_)
                        · exact zG_ret hd0 hz rfl rfl ⟨⟨hCM11, hWM11⟩, rfl⟩
                        · refine zG_w (c' := (196, [.inr (.inr (some 97)), .inl a1, .inl a2, .inl v10, .inl 0, .inl 0, zN, zN], [])) 4 hd0 hz (by rfl) ?_
                          have j196 : ∀ (N : Nat) (v13 v14 : Int) (M15 : zM) , (6 - v14 : Int).toNat < N → 0 ≤ v13 ∧ v13 ≤ 1 → 0 ≤ v14 ∧ v14 ≤ 6 → qMI M15 → qFm [119, 120] M M15 → zG n (0, 0) d 281 (196, [.inr (.inr (some 97)), .inl a1, .inl a2, .inl v10, .inl v13, .inl v14, zN, zN], []) M15 (fun v M' => (qMI M' ∧ qFm [119, 120] M M') ∧ v = none) := by
                            intro N
                            induction N with
                            | zero => intro v13 v14 M15 hN hv13 hv14 hCM15 hWM15; exact absurd hN (Nat.not_lt_zero _)
                            | succ N ih196 =>
                              intro v13 v14 M15 hN hv13 hv14 hCM15 hWM15
                              replace hN : 6 - v14 < (N : Int) + 1 := by omega
                              refine zG_wi_ge (pc := 200) (n' := 203) (t := 278) (L := [.inr (.inr (some 97)), .inl a1, .inl a2, .inl v10, .inl v13, .inl v14, zN, zN]) (st := []) (x := v14) (y := 6) 2 hd0 hz (by rfl) (fun hb16 => ?_) (fun hb16 => ?_)
                              · obtain ⟨x17, hx17⟩ : ∃ x : Int, x = w32 (v10 + 1) := ⟨_, rfl⟩
                                have hx17e : x17 = v10 + 1 := by rw [hx17]; exact w32_id (by omega)
                                refine zG_w (c' := (185, [.inr (.inr (some 97)), .inl a1, .inl a2, .inl x17, .inl v13, .inl v14, zN, zN], [])) 2 hd0 hz (by subst hx17; rfl) ?_
                                exact zG_weak (ih185 x17 M15 (by omega) (by omega) hCM15 hWM15) ⟨.inr rfl, .inr rfl, .inr rfl, .inr rfl, .inl rfl, .inl rfl, .inr rfl, .inr rfl, trivial⟩
                              · refine zG_w (c' := (209, [.inr (.inr (some 97)), .inl a1, .inl a2, .inl v10, .inl v13, .inl v14, zN, zN], [.inl v14, .inr (.inr (some 120))])) 3 hd0 hz (by rfl) ?_
                                refine zG_iald hd0 hz rfl rfl (.inl rfl) (by omega) ?_
                                obtain ⟨x18, hx18⟩ : ∃ x : Int, x = M15 120 (v14 : Int).toNat := ⟨_, rfl⟩
                                rw [← hx18]
                                have hx18r : qin x18 := by rw [hx18]; exact hCM15.ra 120 _ (by decide) (by decide)
                                show zG n (0, 0) d 281 (210, [.inr (.inr (some 97)), .inl a1, .inl a2, .inl v10, .inl v13, .inl v14, zN, zN], [.inl x18]) M15 _
                                obtain ⟨x19, hx19⟩ : ∃ x : Int, x = w32 (6 * v10) := ⟨_, rfl⟩
                                have hx19e : x19 = 6 * v10 := by rw [hx19]; exact w32_id (by omega)
                                obtain ⟨x20, hx20⟩ : ∃ x : Int, x = w32 (x19 + v14) := ⟨_, rfl⟩
                                have hx20e : x20 = x19 + v14 := by rw [hx20]; exact w32_id (by omega)
                                refine zG_w (c' := (221, [.inr (.inr (some 97)), .inl a1, .inl a2, .inl v10, .inl v13, .inl v14, zN, zN], [.inl x20, .inr (.inr (some 119)), .inl x18])) 7 hd0 hz (by subst hx20; subst hx19; rfl) ?_
                                refine zG_iald hd0 hz rfl rfl (.inl rfl) (by omega) ?_
                                obtain ⟨x21, hx21⟩ : ∃ x : Int, x = M15 119 (x20 : Int).toNat := ⟨_, rfl⟩
                                rw [← hx21]
                                have hx21r : qin x21 := by rw [hx21]; exact hCM15.ra 119 _ (by decide) (by decide)
                                show zG n (0, 0) d 281 (222, [.inr (.inr (some 97)), .inl a1, .inl a2, .inl v10, .inl v13, .inl v14, zN, zN], [.inl x21, .inl x18]) M15 _
                                obtain ⟨x22, hx22⟩ : ∃ x : Int, x = w32 (x18 + x21) := ⟨_, rfl⟩
                                have hx22r : x22 = (x18 + x21 + 2147483648) % 4294967296 - 2147483648 := hx22
                                obtain ⟨x23, hx23⟩ : ∃ x : Int, x = w32 (x22 + v13) := ⟨_, rfl⟩
                                have hx23r : x23 = (x22 + v13 + 2147483648) % 4294967296 - 2147483648 := hx23
                                refine zG_w (c' := (230, [.inr (.inr (some 97)), .inl a1, .inl a2, .inl v10, .inl v13, .inl v14, .inl x23, zN], [.inl x23])) 5 hd0 hz (by subst hx23; subst hx22; rfl) ?_
                                have j246 : ∀ (v24 : Int) , 0 ≤ v24 ∧ v24 ≤ 1 → zG n (0, 0) d 281 (246, [.inr (.inr (some 97)), .inl a1, .inl a2, .inl v10, .inl v13, .inl v14, .inl x23, zN], [.inl v24]) M15 (fun v M' => (qMI M' ∧ qFm [119, 120] M M') ∧ v = none) := by
                                  intro v24 hv24
                                  refine zG_w (c' := (257, [.inr (.inr (some 97)), .inl a1, .inl a2, .inl v10, .inl v24, .inl v14, .inl x23, zN], [.inl 1, .inl v24, .inl v14, .inr (.inr (some 120))])) 6 hd0 hz (by rfl) ?_
                                  have j271 : ∀ (v25 : Int) , (-2147483648) ≤ v25 ∧ v25 ≤ 2147483647 → zG n (0, 0) d 281 (271, [.inr (.inr (some 97)), .inl a1, .inl a2, .inl v10, .inl v24, .inl v14, .inl x23, zN], [.inl v25, .inl v14, .inr (.inr (some 120))]) M15 (fun v M' => (qMI M' ∧ qFm [119, 120] M M') ∧ v = none) := by
                                    intro v25 hv25
                                    refine zG_iast hd0 hz rfl rfl (by omega) ?_
                                    obtain ⟨M26, hM26⟩ : ∃ X : zM, X = zput M15 120 (v14 : Int).toNat v25 := ⟨_, rfl⟩
                                    rw [← hM26]
                                    have hCM26 : qMI M26 := by rw [hM26]; exact hCM15.put (by decide) (qCd_a (by decide) (by decide)) (by first | exact qMC_ar (by decide) (fun _ => by omega) | (refine ⟨fun h => ?_, fun _ => ?_, fun h => ?_, fun h => ?_, fun h => ?_⟩ <;> first | omega | exact absurd h (by decide)))
                                    have hWM26 : qFm [119, 120] M M26 := by rw [hM26]; exact hWM15.pa (by decide) (by decide)
                                    show zG n (0, 0) d 281 (272, [.inr (.inr (some 97)), .inl a1, .inl a2, .inl v10, .inl v24, .inl v14, .inl x23, zN], []) M26 _
                                    obtain ⟨x27, hx27⟩ : ∃ x : Int, x = w32 (v14 + 1) := ⟨_, rfl⟩
                                    have hx27e : x27 = v14 + 1 := by rw [hx27]; exact w32_id (by omega)
                                    refine zG_w (c' := (196, [.inr (.inr (some 97)), .inl a1, .inl a2, .inl v10, .inl v24, .inl x27, .inl x23, zN], [])) 2 hd0 hz (by subst hx27; rfl) ?_
                                    exact zG_weak (ih196 v24 x27 M26 (by omega) (by omega) (by omega) hCM26 hWM26) ⟨.inr rfl, .inr rfl, .inr rfl, .inr rfl, .inr rfl, .inr rfl, .inl rfl, .inr rfl, trivial⟩
                                  refine zG_wi_ne (pc := 257) (n' := 260) (t := 269) (L := [.inr (.inr (some 97)), .inl a1, .inl a2, .inl v10, .inl v24, .inl v14, .inl x23, zN]) (st := [.inl v14, .inr (.inr (some 120))]) (x := v24) (y := 1) 0 hd0 hz (by rfl) (fun hb28 => ?_) (fun hb28 => ?_)
                                  · refine zG_w (c' := (271, [.inr (.inr (some 97)), .inl a1, .inl a2, .inl v10, .inl v24, .inl v14, .inl x23, zN], [.inl x23, .inl v14, .inr (.inr (some 120))])) 1 hd0 hz (by rfl) ?_
                                    exact j271 x23 (by omega)
                                  · obtain ⟨x29, hx29⟩ : ∃ x : Int, x = w32 (x23 - 1073741824) := ⟨_, rfl⟩
                                    have hx29r : x29 = (x23 - 1073741824 + 2147483648) % 4294967296 - 2147483648 := hx29
                                    refine zG_w (c' := (271, [.inr (.inr (some 97)), .inl a1, .inl a2, .inl v10, .inl v24, .inl v14, .inl x23, zN], [.inl x29, .inl v14, .inr (.inr (some 120))])) 4 hd0 hz (by subst hx29; rfl) ?_
                                    exact j271 x29 (by omega)
                                have j241 : zG n (0, 0) d 281 (241, [.inr (.inr (some 97)), .inl a1, .inl a2, .inl v10, .inl v13, .inl v14, .inl x23, zN], []) M15 (fun v M' => (qMI M' ∧ qFm [119, 120] M M') ∧ v = none) := by
                                  refine zG_w (c' := (246, [.inr (.inr (some 97)), .inl a1, .inl a2, .inl v10, .inl v13, .inl v14, .inl x23, zN], [.inl 1])) 2 hd0 hz (by rfl) ?_
                                  exact j246 1 (by first | decide | omega)
                                refine zG_wf_lt (pc := 230) (n' := 233) (t := 241) (L := [.inr (.inr (some 97)), .inl a1, .inl a2, .inl v10, .inl v13, .inl v14, .inl x23, zN]) (st := []) (x := x23) 0 hd0 hz (by rfl) (fun hb30 => ?_) (fun hb30 => ?_)
                                · exact j241
                                · refine zG_wi_lt (pc := 238) (n' := 241) (t := 245) (L := [.inr (.inr (some 97)), .inl a1, .inl a2, .inl v10, .inl v13, .inl v14, .inl x23, zN]) (st := []) (x := x23) (y := 1073741824) 2 hd0 hz (by rfl) (fun hb31 => ?_) (fun hb31 => ?_)
                                  · refine zG_w (c' := (246, [.inr (.inr (some 97)), .inl a1, .inl a2, .inl v10, .inl v13, .inl v14, .inl x23, zN], [.inl 0])) 1 hd0 hz (by rfl) ?_
                                    exact j246 0 (by first | decide | omega)
                                  · exact j241
                          exact j196 ((6 - 0 : Int).toNat + 1) 0 0 M11 (by omega) (by omega) (by omega) hCM11 hWM11
                    exact j185 ((a1 + 1 - a2 : Int).toNat + 1) a2 M8 (by omega) (by omega) hCM8 hWM8
                  · refine zG_w (c' := (176, [.inr (.inr (some 97)), .inl a1, .inl a2, .inl v7, zN, zN, zN, zN], [.inl 0, .inl v7, .inr (.inr (some 120))])) 4 hd0 hz (by rfl) ?_
                    refine zG_iast hd0 hz rfl rfl (by omega) ?_
                    obtain ⟨M32, hM32⟩ : ∃ X : zM, X = zput M8 120 (v7 : Int).toNat 0 := ⟨_, rfl⟩
                    rw [← hM32]
                    have hCM32 : qMI M32 := by rw [hM32]; exact hCM8.put (by decide) (qCd_a (by decide) (by decide)) (by first | exact qMC_ar (by decide) (fun _ => by omega) | (refine ⟨fun h => ?_, fun _ => ?_, fun h => ?_, fun h => ?_, fun h => ?_⟩ <;> first | omega | exact absurd h (by decide)))
                    have hWM32 : qFm [119, 120] M M32 := by rw [hM32]; exact hWM8.pa (by decide) (by decide)
                    show zG n (0, 0) d 281 (177, [.inr (.inr (some 97)), .inl a1, .inl a2, .inl v7, zN, zN, zN, zN], []) M32 _
                    obtain ⟨x33, hx33⟩ : ∃ x : Int, x = w32 (v7 + 1) := ⟨_, rfl⟩
                    have hx33e : x33 = v7 + 1 := by rw [hx33]; exact w32_id (by omega)
                    refine zG_w (c' := (164, [.inr (.inr (some 97)), .inl a1, .inl a2, .inl x33, zN, zN, zN, zN], [])) 2 hd0 hz (by subst hx33; rfl) ?_
                    exact ih164 x33 M32 (by omega) (by omega) hCM32 hWM32
              exact j164 ((6 - 0 : Int).toNat + 1) 0 M5 (by omega) (by omega) hCM5 hWM5
            · obtain ⟨x34, hx34⟩ : ∃ x : Int, x = w32 (v4 + 1) := ⟨_, rfl⟩
              have hx34e : x34 = v4 + 1 := by rw [hx34]; exact w32_id (by omega)
              refine zG_w (c' := (42, [.inr (.inr (some 97)), .inl a1, .inl a2, .inl v4, .inl x34, zN, zN, zN], [])) 4 hd0 hz (by subst hx34; rfl) ?_
              have j42 : ∀ (N : Nat) (v35 : Int) (M36 : zM) , (v35 : Int).toNat < N → 0 ≤ v35 ∧ v35 ≤ 140 → (v35 ≤ v4 + 1) → qMI M36 → qFm [119, 120] M M36 → zG n (0, 0) d 281 (42, [.inr (.inr (some 97)), .inl a1, .inl a2, .inl v4, .inl v35, zN, zN, zN], []) M36 (fun v M' => (qMI M' ∧ qFm [119, 120] M M') ∧ v = none) := by
                intro N
                induction N with
                | zero => intro v35 M36 hN hv35 hx0_42 hCM36 hWM36; exact absurd hN (Nat.not_lt_zero _)
                | succ N ih42 =>
                  intro v35 M36 hN hv35 hx0_42 hCM36 hWM36
                  replace hN : v35 < (N : Int) + 1 := by omega
                  refine zG_wf_le (pc := 44) (n' := 47) (t := 156) (L := [.inr (.inr (some 97)), .inl a1, .inl a2, .inl v4, .inl v35, zN, zN, zN]) (st := []) (x := v35) 1 hd0 hz (by rfl) (fun hb37 => ?_) (fun hb37 => ?_)
                  · obtain ⟨x38, hx38⟩ : ∃ x : Int, x = w32 (v4 + 1) := ⟨_, rfl⟩
                    have hx38e : x38 = v4 + 1 := by rw [hx38]; exact w32_id (by omega)
                    refine zG_w (c' := (32, [.inr (.inr (some 97)), .inl a1, .inl a2, .inl x38, .inl v35, zN, zN, zN], [])) 2 hd0 hz (by subst hx38; rfl) ?_
                    exact zG_weak (ih32 x38 M36 (by omega) (by omega) hCM36 hWM36) ⟨.inr rfl, .inr rfl, .inr rfl, .inr rfl, .inl rfl, .inr rfl, .inr rfl, .inr rfl, trivial⟩
                  · refine zG_w (c' := (53, [.inr (.inr (some 97)), .inl a1, .inl a2, .inl v4, .inl v35, .inl 0, .inl 0, zN], [])) 4 hd0 hz (by rfl) ?_
                    have j53 : ∀ (N : Nat) (v39 v40 : Int) (M41 : zM) , (6 - v40 : Int).toNat < N → 0 ≤ v39 ∧ v39 ≤ 1 → 0 ≤ v40 ∧ v40 ≤ 6 → qMI M41 → qFm [119, 120] M M41 → zG n (0, 0) d 281 (53, [.inr (.inr (some 97)), .inl a1, .inl a2, .inl v4, .inl v35, .inl v39, .inl v40, zN], []) M41 (fun v M' => (qMI M' ∧ qFm [119, 120] M M') ∧ v = none) := by
                      intro N
                      induction N with
                      | zero => intro v39 v40 M41 hN hv39 hv40 hCM41 hWM41; exact absurd hN (Nat.not_lt_zero _)
                      | succ N ih53 =>
                        intro v39 v40 M41 hN hv39 hv40 hCM41 hWM41
                        replace hN : 6 - v40 < (N : Int) + 1 := by omega
                        refine zG_wi_ge (pc := 57) (n' := 60) (t := 150) (L := [.inr (.inr (some 97)), .inl a1, .inl a2, .inl v4, .inl v35, .inl v39, .inl v40, zN]) (st := []) (x := v40) (y := 6) 2 hd0 hz (by rfl) (fun hb42 => ?_) (fun hb42 => ?_)
                        · obtain ⟨x43, hx43⟩ : ∃ x : Int, x = w32 (v35 + (-1)) := ⟨_, rfl⟩
                          have hx43e : x43 = v35 + (-1) := by rw [hx43]; exact w32_id (by omega)
                          refine zG_w (c' := (42, [.inr (.inr (some 97)), .inl a1, .inl a2, .inl v4, .inl x43, .inl v39, .inl v40, zN], [])) 2 hd0 hz (by subst hx43; rfl) ?_
                          exact zG_weak (ih42 x43 M41 (by omega) (by omega) (by omega) hCM41 hWM41) ⟨.inr rfl, .inr rfl, .inr rfl, .inr rfl, .inr rfl, .inl rfl, .inl rfl, .inr rfl, trivial⟩
                        · obtain ⟨x44, hx44⟩ : ∃ x : Int, x = w32 (6 * v35) := ⟨_, rfl⟩
                          have hx44e : x44 = 6 * v35 := by rw [hx44]; exact w32_id (by omega)
                          obtain ⟨x45, hx45⟩ : ∃ x : Int, x = w32 (x44 + v40) := ⟨_, rfl⟩
                          have hx45e : x45 = x44 + v40 := by rw [hx45]; exact w32_id (by omega)
                          refine zG_w (c' := (72, [.inr (.inr (some 97)), .inl a1, .inl a2, .inl v4, .inl v35, .inl v39, .inl v40, zN], [.inl x45, .inr (.inr (some 119))])) 7 hd0 hz (by subst hx45; subst hx44; rfl) ?_
                          refine zG_iald hd0 hz rfl rfl (.inl rfl) (by omega) ?_
                          obtain ⟨x46, hx46⟩ : ∃ x : Int, x = M41 119 (x45 : Int).toNat := ⟨_, rfl⟩
                          rw [← hx46]
                          have hx46r : qin x46 := by rw [hx46]; exact hCM41.ra 119 _ (by decide) (by decide)
                          show zG n (0, 0) d 281 (73, [.inr (.inr (some 97)), .inl a1, .inl a2, .inl v4, .inl v35, .inl v39, .inl v40, zN], [.inl x46]) M41 _
                          obtain ⟨x47, hx47⟩ : ∃ x : Int, x = w32 (v35 - 1) := ⟨_, rfl⟩
                          have hx47e : x47 = v35 - 1 := by rw [hx47]; exact w32_id (by omega)
                          obtain ⟨x48, hx48⟩ : ∃ x : Int, x = w32 (6 * x47) := ⟨_, rfl⟩
                          have hx48e : x48 = 6 * x47 := by rw [hx48]; exact w32_id (by omega)
                          obtain ⟨x49, hx49⟩ : ∃ x : Int, x = w32 (x48 + v40) := ⟨_, rfl⟩
                          have hx49e : x49 = x48 + v40 := by rw [hx49]; exact w32_id (by omega)
                          refine zG_w (c' := (87, [.inr (.inr (some 97)), .inl a1, .inl a2, .inl v4, .inl v35, .inl v39, .inl v40, zN], [.inl x49, .inr (.inr (some 119)), .inl x46])) 9 hd0 hz (by subst hx49; subst hx48; subst hx47; rfl) ?_
                          refine zG_iald hd0 hz rfl rfl (.inl rfl) (by omega) ?_
                          obtain ⟨x50, hx50⟩ : ∃ x : Int, x = M41 119 (x49 : Int).toNat := ⟨_, rfl⟩
                          rw [← hx50]
                          have hx50r : qin x50 := by rw [hx50]; exact hCM41.ra 119 _ (by decide) (by decide)
                          show zG n (0, 0) d 281 (88, [.inr (.inr (some 97)), .inl a1, .inl a2, .inl v4, .inl v35, .inl v39, .inl v40, zN], [.inl x50, .inl x46]) M41 _
                          obtain ⟨x51, hx51⟩ : ∃ x : Int, x = w32 (x46 + x50) := ⟨_, rfl⟩
                          have hx51r : x51 = (x46 + x50 + 2147483648) % 4294967296 - 2147483648 := hx51
                          obtain ⟨x52, hx52⟩ : ∃ x : Int, x = w32 (x51 + v39) := ⟨_, rfl⟩
                          have hx52r : x52 = (x51 + v39 + 2147483648) % 4294967296 - 2147483648 := hx52
                          refine zG_w (c' := (96, [.inr (.inr (some 97)), .inl a1, .inl a2, .inl v4, .inl v35, .inl v39, .inl v40, .inl x52], [.inl x52])) 5 hd0 hz (by subst hx52; subst hx51; rfl) ?_
                          have j112 : ∀ (v53 : Int) , 0 ≤ v53 ∧ v53 ≤ 1 → zG n (0, 0) d 281 (112, [.inr (.inr (some 97)), .inl a1, .inl a2, .inl v4, .inl v35, .inl v39, .inl v40, .inl x52], [.inl v53]) M41 (fun v M' => (qMI M' ∧ qFm [119, 120] M M') ∧ v = none) := by
                            intro v53 hv53
                            obtain ⟨x54, hx54⟩ : ∃ x : Int, x = w32 (6 * v35) := ⟨_, rfl⟩
                            have hx54e : x54 = 6 * v35 := by rw [hx54]; exact w32_id (by omega)
                            obtain ⟨x55, hx55⟩ : ∃ x : Int, x = w32 (x54 + v40) := ⟨_, rfl⟩
                            have hx55e : x55 = x54 + v40 := by rw [hx55]; exact w32_id (by omega)
                            refine zG_w (c' := (129, [.inr (.inr (some 97)), .inl a1, .inl a2, .inl v4, .inl v35, .inl v53, .inl v40, .inl x52], [.inl 1, .inl v53, .inl x55, .inr (.inr (some 119))])) 10 hd0 hz (by subst hx55; subst hx54; rfl) ?_
                            have j143 : ∀ (v56 : Int) , (-2147483648) ≤ v56 ∧ v56 ≤ 2147483647 → zG n (0, 0) d 281 (143, [.inr (.inr (some 97)), .inl a1, .inl a2, .inl v4, .inl v35, .inl v53, .inl v40, .inl x52], [.inl v56, .inl x55, .inr (.inr (some 119))]) M41 (fun v M' => (qMI M' ∧ qFm [119, 120] M M') ∧ v = none) := by
                              intro v56 hv56
                              refine zG_iast hd0 hz rfl rfl (by omega) ?_
                              obtain ⟨M57, hM57⟩ : ∃ X : zM, X = zput M41 119 (x55 : Int).toNat v56 := ⟨_, rfl⟩
                              rw [← hM57]
                              have hCM57 : qMI M57 := by rw [hM57]; exact hCM41.put (by decide) (qCd_a (by decide) (by decide)) (by first | exact qMC_ar (by decide) (fun _ => by omega) | (refine ⟨fun h => ?_, fun _ => ?_, fun h => ?_, fun h => ?_, fun h => ?_⟩ <;> first | omega | exact absurd h (by decide)))
                              have hWM57 : qFm [119, 120] M M57 := by rw [hM57]; exact hWM41.pa (by decide) (by decide)
                              show zG n (0, 0) d 281 (144, [.inr (.inr (some 97)), .inl a1, .inl a2, .inl v4, .inl v35, .inl v53, .inl v40, .inl x52], []) M57 _
                              obtain ⟨x58, hx58⟩ : ∃ x : Int, x = w32 (v40 + 1) := ⟨_, rfl⟩
                              have hx58e : x58 = v40 + 1 := by rw [hx58]; exact w32_id (by omega)
                              refine zG_w (c' := (53, [.inr (.inr (some 97)), .inl a1, .inl a2, .inl v4, .inl v35, .inl v53, .inl x58, .inl x52], [])) 2 hd0 hz (by subst hx58; rfl) ?_
                              exact zG_weak (ih53 v53 x58 M57 (by omega) (by omega) (by omega) hCM57 hWM57) ⟨.inr rfl, .inr rfl, .inr rfl, .inr rfl, .inr rfl, .inr rfl, .inr rfl, .inl rfl, trivial⟩
                            refine zG_wi_ne (pc := 129) (n' := 132) (t := 141) (L := [.inr (.inr (some 97)), .inl a1, .inl a2, .inl v4, .inl v35, .inl v53, .inl v40, .inl x52]) (st := [.inl x55, .inr (.inr (some 119))]) (x := v53) (y := 1) 0 hd0 hz (by rfl) (fun hb59 => ?_) (fun hb59 => ?_)
                            · refine zG_w (c' := (143, [.inr (.inr (some 97)), .inl a1, .inl a2, .inl v4, .inl v35, .inl v53, .inl v40, .inl x52], [.inl x52, .inl x55, .inr (.inr (some 119))])) 1 hd0 hz (by rfl) ?_
                              exact j143 x52 (by omega)
                            · obtain ⟨x60, hx60⟩ : ∃ x : Int, x = w32 (x52 - 1073741824) := ⟨_, rfl⟩
                              have hx60r : x60 = (x52 - 1073741824 + 2147483648) % 4294967296 - 2147483648 := hx60
                              refine zG_w (c' := (143, [.inr (.inr (some 97)), .inl a1, .inl a2, .inl v4, .inl v35, .inl v53, .inl v40, .inl x52], [.inl x60, .inl x55, .inr (.inr (some 119))])) 4 hd0 hz (by subst hx60; rfl) ?_
                              exact j143 x60 (by omega)
                          have j107 : zG n (0, 0) d 281 (107, [.inr (.inr (some 97)), .inl a1, .inl a2, .inl v4, .inl v35, .inl v39, .inl v40, .inl x52], []) M41 (fun v M' => (qMI M' ∧ qFm [119, 120] M M') ∧ v = none) := by
                            refine zG_w (c' := (112, [.inr (.inr (some 97)), .inl a1, .inl a2, .inl v4, .inl v35, .inl v39, .inl v40, .inl x52], [.inl 1])) 2 hd0 hz (by rfl) ?_
                            exact j112 1 (by first | decide | omega)
                          refine zG_wf_lt (pc := 96) (n' := 99) (t := 107) (L := [.inr (.inr (some 97)), .inl a1, .inl a2, .inl v4, .inl v35, .inl v39, .inl v40, .inl x52]) (st := []) (x := x52) 0 hd0 hz (by rfl) (fun hb61 => ?_) (fun hb61 => ?_)
                          · exact j107
                          · refine zG_wi_lt (pc := 104) (n' := 107) (t := 111) (L := [.inr (.inr (some 97)), .inl a1, .inl a2, .inl v4, .inl v35, .inl v39, .inl v40, .inl x52]) (st := []) (x := x52) (y := 1073741824) 2 hd0 hz (by rfl) (fun hb62 => ?_) (fun hb62 => ?_)
                            · refine zG_w (c' := (112, [.inr (.inr (some 97)), .inl a1, .inl a2, .inl v4, .inl v35, .inl v39, .inl v40, .inl x52], [.inl 0])) 1 hd0 hz (by rfl) ?_
                              exact j112 0 (by first | decide | omega)
                            · exact j107
                    exact j53 ((6 - 0 : Int).toNat + 1) 0 0 M36 (by omega) (by omega) (by omega) hCM36 hWM36
              exact j42 ((x34 : Int).toNat + 1) x34 M5 (by omega) (by omega) (by omega) hCM5 hWM5
        exact j32 ((a1 - 0 : Int).toNat + 1) 0 M2 (by omega) (by omega) hCM2 hWM2
      · refine zG_w (c' := (15, [.inr (.inr (some 97)), .inl a1, .inl a2, .inl v1, zN, zN, zN, zN], [.inl v1, .inl v1, .inr (.inr (some 119))])) 4 hd0 hz (by rfl) ?_
        have j23 : ∀ (v63 : Int) , 0 ≤ v63 ∧ v63 ≤ 1 → zG n (0, 0) d 281 (23, [.inr (.inr (some 97)), .inl a1, .inl a2, .inl v1, zN, zN, zN, zN], [.inl v63, .inl v1, .inr (.inr (some 119))]) M2 (fun v M' => (qMI M' ∧ qFm [119, 120] M M') ∧ v = none) := by
          intro v63 hv63
          refine zG_iast hd0 hz rfl rfl (by omega) ?_
          obtain ⟨M64, hM64⟩ : ∃ X : zM, X = zput M2 119 (v1 : Int).toNat v63 := ⟨_, rfl⟩
          rw [← hM64]
          have hCM64 : qMI M64 := by rw [hM64]; exact hCM2.put (by decide) (qCd_a (by decide) (by decide)) (by first | exact qMC_ar (by decide) (fun _ => by omega) | (refine ⟨fun h => ?_, fun _ => ?_, fun h => ?_, fun h => ?_, fun h => ?_⟩ <;> first | omega | exact absurd h (by decide)))
          have hWM64 : qFm [119, 120] M M64 := by rw [hM64]; exact hWM2.pa (by decide) (by decide)
          show zG n (0, 0) d 281 (24, [.inr (.inr (some 97)), .inl a1, .inl a2, .inl v1, zN, zN, zN, zN], []) M64 _
          obtain ⟨x65, hx65⟩ : ∃ x : Int, x = w32 (v1 + 1) := ⟨_, rfl⟩
          have hx65e : x65 = v1 + 1 := by rw [hx65]; exact w32_id (by omega)
          refine zG_w (c' := (2, [.inr (.inr (some 97)), .inl a1, .inl a2, .inl x65, zN, zN, zN, zN], [])) 2 hd0 hz (by subst hx65; rfl) ?_
          exact ih2 x65 M64 (by omega) (by omega) hCM64 hWM64
        refine zG_wf_ne (pc := 15) (n' := 18) (t := 22) (L := [.inr (.inr (some 97)), .inl a1, .inl a2, .inl v1, zN, zN, zN, zN]) (st := [.inl v1, .inr (.inr (some 119))]) (x := v1) 0 hd0 hz (by rfl) (fun hb66 => ?_) (fun hb66 => ?_)
        · refine zG_w (c' := (23, [.inr (.inr (some 97)), .inl a1, .inl a2, .inl v1, zN, zN, zN, zN], [.inl 0, .inl v1, .inr (.inr (some 119))])) 1 hd0 hz (by rfl) ?_
          exact j23 0 (by first | decide | omega)
        · refine zG_w (c' := (23, [.inr (.inr (some 97)), .inl a1, .inl a2, .inl v1, zN, zN, zN, zN], [.inl 1, .inl v1, .inr (.inr (some 119))])) 2 hd0 hz (by rfl) ?_
          exact j23 1 (by first | decide | omega)
  exact j2 ((756 - 0 : Int).toNat + 1) 0 M (by omega) (by omega) hC hW
theorem qm_282_97 {n d : Nat} {M : zM} (hd : 1 ≤ d) (hC : qMI M)  (a1 : Int) (ha1 : 0 ≤ a1 ∧ a1 ≤ 125) (a2 : Int) (ha2 : (-2147483648) ≤ a2 ∧ a2 ≤ 2147483647) : qOkN n d 282 [.inr (.inr (some 97)), .inl a1, .inl a2] 8 [121] M (fun v M' => ∃ x : Int, v = some (.inl x) ∧ (0 ≤ x ∧ x ≤ 1)) := by
  have hz := zp_282
  have hd0 : 0 < d := by omega
  have hW : qFm [121] M M := qFm.rfl
  show zG n (0, 0) d 282 (0, [.inr (.inr (some 97)), .inl a1, .inl a2, zN, zN, zN, zN, zN], []) M _
  refine zG_w (c' := (5, [.inr (.inr (some 97)), .inl a1, .inl a2, .inr (.inl (0)), zN, .inl 0, zN, zN], [])) 4 hd0 hz (by rfl) ?_
  have j5 : ∀ (N : Nat) (v1 v2 : Int) (M3 : zM) , (6 - v2 : Int).toNat < N → 0 ≤ v2 ∧ v2 ≤ 6 → qMI M3 → qFm [121] M M3 → zG n (0, 0) d 282 (5, [.inr (.inr (some 97)), .inl a1, .inl a2, .inr (.inl (v1)), zN, .inl v2, zN, zN], []) M3 (fun v M' => (qMI M' ∧ qFm [121] M M') ∧ ∃ x : Int, v = some (.inl x) ∧ (0 ≤ x ∧ x ≤ 1)) := by
    intro N
    induction N with
    | zero => intro v1 v2 M3 hN hv2 hCM3 hWM3; exact absurd hN (Nat.not_lt_zero _)
    | succ N ih5 =>
      intro v1 v2 M3 hN hv2 hCM3 hWM3
      replace hN : 6 - v2 < (N : Int) + 1 := by omega
      refine zG_wi_ge (pc := 9) (n' := 12) (t := 54) (L := [.inr (.inr (some 97)), .inl a1, .inl a2, .inr (.inl (v1)), zN, .inl v2, zN, zN]) (st := []) (x := v2) (y := 6) 2 hd0 hz (by rfl) (fun hb4 => ?_) (fun hb4 => ?_)
      · refine zG_w (c' := (56, [.inr (.inr (some 97)), .inl a1, .inl a2, .inr (.inl (v1)), zN, .inl v2, zN, zN], [.inr (.inl (0)), .inr (.inl (v1))])) 2 hd0 hz (by rfl) ?_
        refine zG_lc_le hd0 hz rfl rfl (fun hb56 => ?_) (fun hb56 => ?_)
        · refine zG_w (c' := (65, [.inr (.inr (some 97)), .inl a1, .inl a2, .inr (.inl (v1)), zN, .inl 5, zN, zN], [])) 2 hd0 hz (by rfl) ?_
          have j65 : ∀ (N : Nat) (v5 : Int) , (v5 + 1 : Int).toNat < N → (-1) ≤ v5 ∧ v5 ≤ 5 → zG n (0, 0) d 282 (65, [.inr (.inr (some 97)), .inl a1, .inl a2, .inr (.inl (v1)), zN, .inl v5, zN, zN], []) M3 (fun v M' => (qMI M' ∧ qFm [121] M M') ∧ ∃ x : Int, v = some (.inl x) ∧ (0 ≤ x ∧ x ≤ 1)) := by
            intro N
            induction N with
            | zero => intro v5 hN hv5; exact absurd hN (Nat.not_lt_zero _)
            | succ N ih65 =>
              intro v5 hN hv5
              replace hN : v5 + 1 < (N : Int) + 1 := by omega
              refine zG_wf_lt (pc := 67) (n' := 70) (t := 127) (L := [.inr (.inr (some 97)), .inl a1, .inl a2, .inr (.inl (v1)), zN, .inl v5, zN, zN]) (st := []) (x := v5) 1 hd0 hz (by rfl) (fun hb6 => ?_) (fun hb6 => ?_)
              · exact zG_wr (r := some (.inl 1)) 1 hd0 hz (by rfl) ⟨⟨hCM3, hWM3⟩, _, rfl, by omega⟩
              · refine zG_w (c' := (73, [.inr (.inr (some 97)), .inl a1, .inl a2, .inr (.inl (v1)), zN, .inl v5, zN, zN], [.inl 30, .inl a1])) 2 hd0 hz (by rfl) ?_
                refine zG_idiv hd0 hz rfl (by omega) ?_
                have hx7 := qtdiv_in a1 30 (by first | decide | omega) (by omega)
                generalize w32 (a1.tdiv 30) = x7 at hx7 ⊢
                show zG n (0, 0) d 282 (74, [.inr (.inr (some 97)), .inl a1, .inl a2, .inr (.inl (v1)), zN, .inl v5, zN, zN], [.inl x7]) M3 _
                refine zG_w (c' := (76, [.inr (.inr (some 97)), .inl a1, .inl a2, .inr (.inl (v1)), zN, .inl v5, zN, zN], [.inl v5, .inl x7])) 1 hd0 hz (by rfl) ?_
                have j89 : ∀ (v8 : Int) , 0 ≤ v8 ∧ v8 ≤ 536870912 → zG n (0, 0) d 282 (89, [.inr (.inr (some 97)), .inl a1, .inl a2, .inr (.inl (v1)), zN, .inl v5, zN, zN], [.inl v8]) M3 (fun v M' => (qMI M' ∧ qFm [121] M M') ∧ ∃ x : Int, v = some (.inl x) ∧ (0 ≤ x ∧ x ≤ 1)) := by
                  intro v8 hv8
                  refine zG_w (c' := (97, [.inr (.inr (some 97)), .inl a1, .inl a2, .inr (.inl (v1)), zN, .inl v5, .inl v8, zN], [.inl v5, .inr (.inr (some 121))])) 4 hd0 hz (by rfl) ?_
                  refine zG_iald hd0 hz rfl rfl (.inl rfl) (by omega) ?_
                  obtain ⟨x9, hx9⟩ : ∃ x : Int, x = M3 121 (v5 : Int).toNat := ⟨_, rfl⟩
                  rw [← hx9]
                  have hx9r : qin x9 := by rw [hx9]; exact hCM3.ra 121 _ (by decide) (by decide)
                  show zG n (0, 0) d 282 (98, [.inr (.inr (some 97)), .inl a1, .inl a2, .inr (.inl (v1)), zN, .inl v5, .inl v8, zN], [.inl x9]) M3 _
                  refine zG_wi_eq (pc := 100) (n' := 103) (t := 121) (L := [.inr (.inr (some 97)), .inl a1, .inl a2, .inr (.inl (v1)), zN, .inl v5, .inl v8, zN]) (st := []) (x := x9) (y := v8) 1 hd0 hz (by rfl) (fun hb10 => ?_) (fun hb10 => ?_)
                  · obtain ⟨x11, hx11⟩ : ∃ x : Int, x = w32 (v5 + (-1)) := ⟨_, rfl⟩
                    have hx11e : x11 = v5 + (-1) := by rw [hx11]; exact w32_id (by omega)
                    refine zG_w (c' := (65, [.inr (.inr (some 97)), .inl a1, .inl a2, .inr (.inl (v1)), zN, .inl x11, .inl v8, zN], [])) 2 hd0 hz (by subst hx11; rfl) ?_
                    exact zG_weak (ih65 x11 (by omega) (by omega)) ⟨.inr rfl, .inr rfl, .inr rfl, .inr rfl, .inr rfl, .inr rfl, .inl rfl, .inr rfl, trivial⟩
                  · refine zG_w (c' := (109, [.inr (.inr (some 97)), .inl a1, .inl a2, .inr (.inl (v1)), zN, .inl v5, .inl v8, zN], [.inl v5, .inr (.inr (some 121))])) 3 hd0 hz (by rfl) ?_
                    refine zG_iald hd0 hz rfl rfl (.inl rfl) (by omega) ?_
                    obtain ⟨x12, hx12⟩ : ∃ x : Int, x = M3 121 (v5 : Int).toNat := ⟨_, rfl⟩
                    rw [← hx12]
                    have hx12r : qin x12 := by rw [hx12]; exact hCM3.ra 121 _ (by decide) (by decide)
                    show zG n (0, 0) d 282 (110, [.inr (.inr (some 97)), .inl a1, .inl a2, .inr (.inl (v1)), zN, .inl v5, .inl v8, zN], [.inl x12]) M3 _
                    refine zG_w (c' := (112, [.inr (.inr (some 97)), .inl a1, .inl a2, .inr (.inl (v1)), zN, .inl v5, .inl v8, zN], [.inl v8, .inl x12])) 1 hd0 hz (by rfl) ?_
                    have j120 : ∀ (v13 : Int) , 0 ≤ v13 ∧ v13 ≤ 1 → zG n (0, 0) d 282 (120, [.inr (.inr (some 97)), .inl a1, .inl a2, .inr (.inl (v1)), zN, .inl v5, .inl v8, zN], [.inl v13]) M3 (fun v M' => (qMI M' ∧ qFm [121] M M') ∧ ∃ x : Int, v = some (.inl x) ∧ (0 ≤ x ∧ x ≤ 1)) := by
                      intro v13 hv13
                      exact zG_zret hd0 hz rfl (by omega) ⟨⟨hCM3, hWM3⟩, _, rfl, by omega⟩
                    refine zG_wi_ge (pc := 112) (n' := 115) (t := 119) (L := [.inr (.inr (some 97)), .inl a1, .inl a2, .inr (.inl (v1)), zN, .inl v5, .inl v8, zN]) (st := []) (x := x12) (y := v8) 0 hd0 hz (by rfl) (fun hb14 => ?_) (fun hb14 => ?_)
                    · refine zG_w (c' := (120, [.inr (.inr (some 97)), .inl a1, .inl a2, .inr (.inl (v1)), zN, .inl v5, .inl v8, zN], [.inl 0])) 1 hd0 hz (by rfl) ?_
                      exact j120 0 (by first | decide | omega)
                    · refine zG_w (c' := (120, [.inr (.inr (some 97)), .inl a1, .inl a2, .inr (.inl (v1)), zN, .inl v5, .inl v8, zN], [.inl 1])) 2 hd0 hz (by rfl) ?_
                      exact j120 1 (by first | decide | omega)
                refine zG_wi_ne (pc := 76) (n' := 79) (t := 88) (L := [.inr (.inr (some 97)), .inl a1, .inl a2, .inr (.inl (v1)), zN, .inl v5, zN, zN]) (st := []) (x := x7) (y := v5) 0 hd0 hz (by rfl) (fun hb15 => ?_) (fun hb15 => ?_)
                · refine zG_w (c' := (89, [.inr (.inr (some 97)), .inl a1, .inl a2, .inr (.inl (v1)), zN, .inl v5, zN, zN], [.inl 0])) 1 hd0 hz (by rfl) ?_
                  exact j89 0 (by first | decide | omega)
                · refine zG_w (c' := (83, [.inr (.inr (some 97)), .inl a1, .inl a2, .inr (.inl (v1)), zN, .inl v5, zN, zN], [.inl 30, .inl a1, .inl 1])) 3 hd0 hz (by rfl) ?_
                  refine zG_irem hd0 hz rfl (by omega) ?_
                  have hx16 := qtmod_in a1 30 (by first | decide | omega)
                  generalize a1.tmod 30 = x16 at hx16 ⊢
                  show zG n (0, 0) d 282 (84, [.inr (.inr (some 97)), .inl a1, .inl a2, .inr (.inl (v1)), zN, .inl v5, zN, zN], [.inl x16, .inl 1]) M3 _
                  obtain ⟨x17, hx17⟩ : ∃ x : Int, x = zbshl 1 x16 := ⟨_, rfl⟩
                  have hx17r := qshl1_in x16 536870912 29 (by decide) (by decide) (by omega); rw [← hx17] at hx17r
                  refine zG_w (c' := (89, [.inr (.inr (some 97)), .inl a1, .inl a2, .inr (.inl (v1)), zN, .inl v5, zN, zN], [.inl x17])) 2 hd0 hz (by subst hx17; rfl) ?_
                  exact j89 x17 (by omega)
          exact j65 ((5 + 1 : Int).toNat + 1) 5 (by first | decide | omega) (by omega)
        · exact zG_wr (r := some (.inl 0)) 1 hd0 hz (by rfl) ⟨⟨hCM3, hWM3⟩, _, rfl, by omega⟩
      · refine zG_w (c' := (18, [.inr (.inr (some 97)), .inl a1, .inl a2, .inr (.inl (v1)), zN, .inl v2, zN, zN], [.inl v2, .inr (.inr (some 120))])) 3 hd0 hz (by rfl) ?_
        refine zG_iald hd0 hz rfl rfl (.inl rfl) (by omega) ?_
        obtain ⟨x18, hx18⟩ : ∃ x : Int, x = M3 120 (v2 : Int).toNat := ⟨_, rfl⟩
        rw [← hx18]
        have hx18r : qin x18 := by rw [hx18]; exact hCM3.ra 120 _ (by decide) (by decide)
        show zG n (0, 0) d 282 (19, [.inr (.inr (some 97)), .inl a1, .inl a2, .inr (.inl (v1)), zN, .inl v2, zN, zN], [.inl x18]) M3 _
        obtain ⟨x19, hx19⟩ : ∃ x : Int, x = w64 (x18 * a2) := ⟨_, rfl⟩
        obtain ⟨x20, hx20⟩ : ∃ x : Int, x = w64 (x19 + v1) := ⟨_, rfl⟩
        refine zG_w (c' := (38, [.inr (.inr (some 97)), .inl a1, .inl a2, .inr (.inl (v1)), zN, .inl v2, .inr (.inl (x20)), zN], [.inr (.inl (1073741824)), .inr (.inl (x20)), .inl v2, .inr (.inr (some 121))])) 12 hd0 hz (by subst hx20; subst hx19; rfl) ?_
        refine zG_lrem hd0 hz rfl (by omega) ?_
        generalize x20.tmod 1073741824 = x21
        show zG n (0, 0) d 282 (39, [.inr (.inr (some 97)), .inl a1, .inl a2, .inr (.inl (v1)), zN, .inl v2, .inr (.inl (x20)), zN], [.inr (.inl (x21)), .inl v2, .inr (.inr (some 121))]) M3 _
        obtain ⟨x22, hx22⟩ : ∃ x : Int, x = w32 x21 := ⟨_, rfl⟩
        have hx22r : qin x22 := by rw [hx22]; exact w32_in _
        refine zG_w (c' := (40, [.inr (.inr (some 97)), .inl a1, .inl a2, .inr (.inl (v1)), zN, .inl v2, .inr (.inl (x20)), zN], [.inl x22, .inl v2, .inr (.inr (some 121))])) 1 hd0 hz (by subst hx22; rfl) ?_
        refine zG_iast hd0 hz rfl rfl (by omega) ?_
        obtain ⟨M23, hM23⟩ : ∃ X : zM, X = zput M3 121 (v2 : Int).toNat x22 := ⟨_, rfl⟩
        rw [← hM23]
        have hCM23 : qMI M23 := by rw [hM23]; exact hCM3.put (by decide) (qCd_a (by decide) (by decide)) (by first | exact qMC_ar (by decide) (fun _ => by omega) | (refine ⟨fun h => ?_, fun _ => ?_, fun h => ?_, fun h => ?_, fun h => ?_⟩ <;> first | omega | exact absurd h (by decide)))
        have hWM23 : qFm [121] M M23 := by rw [hM23]; exact hWM3.pa (by decide) (by decide)
        show zG n (0, 0) d 282 (41, [.inr (.inr (some 97)), .inl a1, .inl a2, .inr (.inl (v1)), zN, .inl v2, .inr (.inl (x20)), zN], []) M23 _
        refine zG_w (c' := (46, [.inr (.inr (some 97)), .inl a1, .inl a2, .inr (.inl (v1)), zN, .inl v2, .inr (.inl (x20)), zN], [.inr (.inl (1073741824)), .inr (.inl (x20))])) 2 hd0 hz (by rfl) ?_
        refine zG_ldiv hd0 hz rfl (by omega) ?_
        generalize w64 (x20.tdiv 1073741824) = x24
        show zG n (0, 0) d 282 (47, [.inr (.inr (some 97)), .inl a1, .inl a2, .inr (.inl (v1)), zN, .inl v2, .inr (.inl (x20)), zN], [.inr (.inl (x24))]) M23 _
        obtain ⟨x25, hx25⟩ : ∃ x : Int, x = w32 (v2 + 1) := ⟨_, rfl⟩
        have hx25e : x25 = v2 + 1 := by rw [hx25]; exact w32_id (by omega)
        refine zG_w (c' := (5, [.inr (.inr (some 97)), .inl a1, .inl a2, .inr (.inl (x24)), zN, .inl x25, .inr (.inl (x20)), zN], [])) 3 hd0 hz (by subst hx25; rfl) ?_
        exact zG_weak (ih5 x24 x25 M23 (by omega) (by omega) hCM23 hWM23) ⟨.inr rfl, .inr rfl, .inr rfl, .inr rfl, .inr rfl, .inr rfl, .inl rfl, .inr rfl, trivial⟩
  exact j5 ((6 - 0 : Int).toNat + 1) 0 0 M (by omega) (by omega) hC hW
theorem qm_283_97 {n d : Nat} {M : zM} (hd : 4 ≤ d) (hC : qMI M)  (a1 : Int) (ha1 : 0 ≤ a1 ∧ a1 ≤ 4) : qOkN n d 283 [.inr (.inr (some 97)), .inl a1] 4 [119, 120, 121, 1041, 1042, 1043, 1044] M (fun v M' => ∃ x : Int, v = some (.inl x) ∧ (0 ≤ x ∧ x ≤ 1)) := by
  have hz := zp_283
  have hd0 : 0 < d := by omega
  have hW : qFm [119, 120, 121, 1041, 1042, 1043, 1044] M M := qFm.rfl
  show zG n (0, 0) d 283 (0, [.inr (.inr (some 97)), .inl a1, zN, zN], []) M _
  refine zG_w (c' := (4, [.inr (.inr (some 97)), .inl a1, .inl 0, .inl 0], [])) 4 hd0 hz (by rfl) ?_
  have j4 : ∀ (N : Nat) (v1 v2 : Int) (M3 : zM) , (5 - v2 : Int).toNat < N → (-2147483648) ≤ v1 ∧ v1 ≤ 2147483647 → 0 ≤ v2 ∧ v2 ≤ 5 → qMI M3 → qFm [119, 120, 121, 1041, 1042, 1043, 1044] M M3 → zG n (0, 0) d 283 (4, [.inr (.inr (some 97)), .inl a1, .inl v1, .inl v2], []) M3 (fun v M' => (qMI M' ∧ qFm [119, 120, 121, 1041, 1042, 1043, 1044] M M') ∧ ∃ x : Int, v = some (.inl x) ∧ (0 ≤ x ∧ x ≤ 1)) := by
    intro N
    induction N with
    | zero => intro v1 v2 M3 hN hv1 hv2 hCM3 hWM3; exact absurd hN (Nat.not_lt_zero _)
    | succ N ih4 =>
      intro v1 v2 M3 hN hv1 hv2 hCM3 hWM3
      replace hN : 5 - v2 < (N : Int) + 1 := by omega
      refine zG_wi_ge (pc := 6) (n' := 9) (t := 35) (L := [.inr (.inr (some 97)), .inl a1, .inl v1, .inl v2]) (st := []) (x := v2) (y := 5) 2 hd0 hz (by rfl) (fun hb4 => ?_) (fun hb4 => ?_)
      · refine zG_wc (c1 := (40, [.inr (.inr (some 97)), .inl a1, .inl v1, .inl v2], [])) 2 hd0 hz zp_280 (qm_280_97 (by first | exact zdk hd rfl | omega) hCM3   a1 (by first | with_reducible exact ha1 | omega) ) (by rfl) (fun vr M5 hr => ?_)
        obtain ⟨⟨hCM5, hFM5⟩, rfl, hpx6_0, hpx6_1⟩ := hr
        have hWM5 : qFm [119, 120, 121, 1041, 1042, 1043, 1044] M M5 := hWM3.tr hFM5 (by decide)
        have r7 := hCM5.rg 97 41 (by decide) (by decide)
        have r8 := hCM5.rg 97 42 (by decide) (by decide)
        have r9 := hCM5.rg 97 43 (by decide) (by decide)
        show zG n (0, 0) d 283 (40, [.inr (.inr (some 97)), .inl a1, .inl v1, .inl v2], []) M5 _
        refine zG_wf_ne (pc := 44) (n' := 47) (t := 49) (L := [.inr (.inr (some 97)), .inl a1, .inl v1, .inl v2]) (st := []) (x := (M5 97 41)) 2 hd0 hz (by rfl) (fun hb10 => ?_) (fun hb10 => ?_)
        · obtain ⟨x11, hx11⟩ : ∃ x : Int, x = w32 ((M5 97 41) - (M5 97 42)) := ⟨_, rfl⟩
          have hx11r : x11 = ((M5 97 41) - (M5 97 42) + 2147483648) % 4294967296 - 2147483648 := hx11
          refine zG_w (c' := (62, [.inr (.inr (some 97)), .inl a1, .inl v1, .inl v2], [.inl x11, .inl (M5 97 42)])) 7 hd0 hz (by subst hx11; rfl) ?_
          have j81 : ∀ (v12 : Int) , (-2147483648) ≤ v12 ∧ v12 ≤ 2147483647 → (0 ≤ v12) → zG n (0, 0) d 283 (81, [.inr (.inr (some 97)), .inl a1, .inl v1, .inl v2], [.inl v12]) M5 (fun v M' => (qMI M' ∧ qFm [119, 120, 121, 1041, 1042, 1043, 1044] M M') ∧ ∃ x : Int, v = some (.inl x) ∧ (0 ≤ x ∧ x ≤ 1)) := by
            intro v12 hv12 hx0_81
            refine zG_wv (pc := 91) (L := [.inr (.inr (some 97)), .inl a1, .inl v1, .inl v12]) (st := []) 5 hd0 hz zp_281 (qm_281_97 (by first | exact zdk hd rfl | omega) hCM5   (M5 97 41) (by omega) v12 (by first | with_reducible exact hv12 | omega) ) (by rfl) (fun M13 hr => ?_)
            obtain ⟨hCM13, hFM13⟩ := hr
            have hWM13 : qFm [119, 120, 121, 1041, 1042, 1043, 1044] M M13 := hWM5.tr hFM13 (by decide)
            have e15 : M13 97 41 = M5 97 41 := hFM13 97 41 (by decide)
            have e16 : M13 97 42 = M5 97 42 := hFM13 97 42 (by decide)
            have e17 : M13 97 43 = M5 97 43 := hFM13 97 43 (by decide)
            obtain ⟨x18, hx18⟩ : ∃ x : Int, x = w32 (2 * v1) := ⟨_, rfl⟩
            have hx18r : qin x18 := by rw [hx18]; exact w32_in _
            refine zG_w (c' := (105, [.inr (.inr (some 97)), .inl a1, .inl v1, .inl v12], [.inl 8, .inr (.inr (some 98)), .inl x18, .inl (M13 97 41), .inr (.inr (some 97))])) 9 hd0 hz (by subst hx18; rfl) ?_
            refine zG_iald hd0 hz rfl rfl (.inl rfl) (by omega) ?_
            have r19 := hCM13.sin 8
            show zG n (0, 0) d 283 (106, [.inr (.inr (some 97)), .inl a1, .inl v1, .inl v12], [.inl (M13 98 8), .inl x18, .inl (M13 97 41), .inr (.inr (some 97))]) M13 _
            obtain ⟨x20, hx20⟩ : ∃ x : Int, x = w32 (x18 * (M13 98 8)) := ⟨_, rfl⟩
            have hx20r : qin x20 := by rw [hx20]; exact w32_in _
            refine zG_wn (pc := 110) (L := [.inr (.inr (some 97)), .inl a1, .inl v1, .inl v12]) (st := []) 1 hd0 hz zp_282 (qm_282_97 (by first | exact zdk hd rfl | omega) hCM13   (M13 97 41) (by omega) x20 (by omega) ) (by subst hx20; rfl) (fun x22 M21 hr hx22 => ?_)
            obtain ⟨hCM21, hFM21⟩ := hr
            have hWM21 : qFm [119, 120, 121, 1041, 1042, 1043, 1044] M M21 := hWM13.tr hFM21 (by decide)
            have e23 : M21 97 41 = M13 97 41 := hFM21 97 41 (by decide)
            have e24 : M21 97 42 = M13 97 42 := hFM21 97 42 (by decide)
            have e25 : M21 97 43 = M13 97 43 := hFM21 97 43 (by decide)
            have e26 : M21 98 8 = M13 98 8 := hFM21 98 8 (by decide)
            have j118 : ∀ (v27 : Int) , 0 ≤ v27 ∧ v27 ≤ 1 → zG n (0, 0) d 283 (118, [.inr (.inr (some 97)), .inl a1, .inl v1, .inl v12], [.inl v27]) M21 (fun v M' => (qMI M' ∧ qFm [119, 120, 121, 1041, 1042, 1043, 1044] M M') ∧ ∃ x : Int, v = some (.inl x) ∧ (0 ≤ x ∧ x ≤ 1)) := by
              intro v27 hv27
              exact zG_wr (r := some (.inl v27)) 0 hd0 hz (by rfl) ⟨⟨hCM21, hWM21⟩, _, rfl, by omega⟩
            refine zG_wf_eq (pc := 110) (n' := 113) (t := 117) (L := [.inr (.inr (some 97)), .inl a1, .inl v1, .inl v12]) (st := []) (x := x22) 0 hd0 hz (by rfl) (fun hb28 => ?_) (fun hb28 => ?_)
            · refine zG_w (c' := (118, [.inr (.inr (some 97)), .inl a1, .inl v1, .inl v12], [.inl 0])) 1 hd0 hz (by rfl) ?_
              exact j118 0 (by first | decide | omega)
            · refine zG_w (c' := (118, [.inr (.inr (some 97)), .inl a1, .inl v1, .inl v12], [.inl 1])) 2 hd0 hz (by rfl) ?_
              exact j118 1 (by first | decide | omega)
          refine zG_wi_le (pc := 62) (n' := 65) (t := 72) (L := [.inr (.inr (some 97)), .inl a1, .inl v1, .inl v2]) (st := []) (x := (M5 97 42)) (y := x11) 0 hd0 hz (by rfl) (fun hb29 => ?_) (fun hb29 => ?_)
          · obtain ⟨x30, hx30⟩ : ∃ x : Int, x = w32 ((M5 97 41) - (M5 97 42)) := ⟨_, rfl⟩
            have hx30r : x30 = ((M5 97 41) - (M5 97 42) + 2147483648) % 4294967296 - 2147483648 := hx30
            refine zG_w (c' := (81, [.inr (.inr (some 97)), .inl a1, .inl v1, .inl v2], [.inl x30])) 5 hd0 hz (by subst hx30; rfl) ?_
            exact j81 x30 (by omega) (by omega)
          · refine zG_w (c' := (81, [.inr (.inr (some 97)), .inl a1, .inl v1, .inl v2], [.inl (M5 97 42)])) 3 hd0 hz (by rfl) ?_
            exact j81 (M5 97 42) (by omega) (by omega)
        · exact zG_wr (r := some (.inl 0)) 1 hd0 hz (by rfl) ⟨⟨hCM5, hWM5⟩, _, rfl, by omega⟩
      · refine zG_wc (c1 := (14, [.inr (.inr (some 97)), .inl a1, .inl v1, .inl v2], [])) 2 hd0 hz zp_280 (qm_280_97 (by first | exact zdk hd rfl | omega) hCM3   v2 (by first | with_reducible exact hv2 | omega) ) (by rfl) (fun vr M31 hr => ?_)
        obtain ⟨⟨hCM31, hFM31⟩, rfl, hpx32_0, hpx32_1⟩ := hr
        have hWM31 : qFm [119, 120, 121, 1041, 1042, 1043, 1044] M M31 := hWM3.tr hFM31 (by decide)
        have r33 := hCM31.rg 97 41 (by decide) (by decide)
        have r34 := hCM31.rg 97 42 (by decide) (by decide)
        have r35 := hCM31.rg 97 43 (by decide) (by decide)
        show zG n (0, 0) d 283 (14, [.inr (.inr (some 97)), .inl a1, .inl v1, .inl v2], []) M31 _
        refine zG_w (c' := (19, [.inr (.inr (some 97)), .inl a1, .inl v1, .inl v2], [.inl (M31 97 41), .inl v1])) 3 hd0 hz (by rfl) ?_
        have j27 : ∀ (v36 : Int) , 0 ≤ v36 ∧ v36 ≤ 1 → zG n (0, 0) d 283 (27, [.inr (.inr (some 97)), .inl a1, .inl v1, .inl v2], [.inl v36, .inl v1]) M31 (fun v M' => (qMI M' ∧ qFm [119, 120, 121, 1041, 1042, 1043, 1044] M M') ∧ ∃ x : Int, v = some (.inl x) ∧ (0 ≤ x ∧ x ≤ 1)) := by
          intro v36 hv36
          obtain ⟨x37, hx37⟩ : ∃ x : Int, x = w32 (v1 + v36) := ⟨_, rfl⟩
          have hx37r : x37 = (v1 + v36 + 2147483648) % 4294967296 - 2147483648 := hx37
          obtain ⟨x38, hx38⟩ : ∃ x : Int, x = w32 (v2 + 1) := ⟨_, rfl⟩
          have hx38e : x38 = v2 + 1 := by rw [hx38]; exact w32_id (by omega)
          refine zG_w (c' := (4, [.inr (.inr (some 97)), .inl a1, .inl x37, .inl x38], [])) 4 hd0 hz (by subst hx38; subst hx37; rfl) ?_
          exact ih4 x37 x38 M31 (by omega) (by omega) (by omega) hCM31 hWM31
        refine zG_wf_le (pc := 19) (n' := 22) (t := 26) (L := [.inr (.inr (some 97)), .inl a1, .inl v1, .inl v2]) (st := [.inl v1]) (x := (M31 97 41)) 0 hd0 hz (by rfl) (fun hb39 => ?_) (fun hb39 => ?_)
        · refine zG_w (c' := (27, [.inr (.inr (some 97)), .inl a1, .inl v1, .inl v2], [.inl 0, .inl v1])) 1 hd0 hz (by rfl) ?_
          exact j27 0 (by first | decide | omega)
        · refine zG_w (c' := (27, [.inr (.inr (some 97)), .inl a1, .inl v1, .inl v2], [.inl 1, .inl v1])) 2 hd0 hz (by rfl) ?_
          exact j27 1 (by first | decide | omega)
  exact j4 ((5 - 0 : Int).toNat + 1) 0 0 M (by omega) (by omega) (by omega) hC hW
theorem qm_284_97 {n d : Nat} {M : zM} (hd : 5 ≤ d) (hC : qMI M)  (a1 : Int) (ha1 : (-2147483648) ≤ a1 ∧ a1 ≤ 2147483647) (a2 : Int) (ha2 : (-2147483648) ≤ a2 ∧ a2 ≤ 2147483647) (a3 : Int) (ha3 : (-2147483648) ≤ a3 ∧ a3 ≤ 2147483647) : qOkN n d 284 [.inr (.inr (some 97)), .inl a1, .inl a2, .inl a3] 4 [101, 119, 120, 121, 1041, 1042, 1043, 1044] M (fun v M' => ∃ x : Int, v = some (.inl x) ∧ ((-2147483648) ≤ x ∧ x ≤ 2147483647)) := by
  have hz := zp_284
  have hd0 : 0 < d := by omega
  have hW : qFm [101, 119, 120, 121, 1041, 1042, 1043, 1044] M M := qFm.rfl
  show zG n (0, 0) d 284 (0, [.inr (.inr (some 97)), .inl a1, .inl a2, .inl a3], []) M _
  refine zG_wp (pc := 6) (L := [.inr (.inr (some 97)), .inl a1, .inl a2, .inl a3]) (st := []) 3 hd0 hz zp_180 (qx_in (by first | exact zdk hd rfl | omega) hC   a1 (by first | with_reducible exact ha1 | omega) 0 (by first | decide | omega) 4 (by first | decide | omega) ) (by rfl) (fun x2 hx2 => ?_)
  have j25 : zG n (0, 0) d 284 (25, [.inr (.inr (some 97)), .inl a1, .inl a2, .inl a3], []) M (fun v M' => (qMI M' ∧ qFm [101, 119, 120, 121, 1041, 1042, 1043, 1044] M M') ∧ ∃ x : Int, v = some (.inl x) ∧ ((-2147483648) ≤ x ∧ x ≤ 2147483647)) := by
    exact zG_wr (r := some (.inl (-1000))) 1 hd0 hz (by rfl) ⟨⟨hC, hW⟩, _, rfl, by omega⟩
  refine zG_wf_eq (pc := 6) (n' := 9) (t := 25) (L := [.inr (.inr (some 97)), .inl a1, .inl a2, .inl a3]) (st := []) (x := x2) 0 hd0 hz (by rfl) (fun hb3 => ?_) (fun hb3 => ?_)
  · exact j25
  · have hcx2 := hx2.2.2.mp (by omega)
    clear hx2 hb3
    refine zG_wp (pc := 13) (L := [.inr (.inr (some 97)), .inl a1, .inl a2, .inl a3]) (st := []) 1 hd0 hz zp_184 (qm_184 (by first | exact zdk hd rfl | omega) hC   a2 (by first | with_reducible exact ha2 | omega) ) (by rfl) (fun x5 hr => ?_)
    obtain ⟨hx5, hpx5_0⟩ := hr
    refine zG_wf_eq (pc := 13) (n' := 16) (t := 25) (L := [.inr (.inr (some 97)), .inl a1, .inl a2, .inl a3]) (st := []) (x := x5) 0 hd0 hz (by rfl) (fun hb6 => ?_) (fun hb6 => ?_)
    · exact j25
    · have hcx5 := hpx5_0.mp (by omega)
      clear hx5 hpx5_0 hb6
      refine zG_wp (pc := 22) (L := [.inr (.inr (some 97)), .inl a1, .inl a2, .inl a3]) (st := []) 3 hd0 hz zp_180 (qx_in (by first | exact zdk hd rfl | omega) hC   a3 (by first | with_reducible exact ha3 | omega) 0 (by first | decide | omega) 3 (by first | decide | omega) ) (by rfl) (fun x8 hx8 => ?_)
      refine zG_wf_ne (pc := 22) (n' := 25) (t := 29) (L := [.inr (.inr (some 97)), .inl a1, .inl a2, .inl a3]) (st := []) (x := x8) 0 hd0 hz (by rfl) (fun hb9 => ?_) (fun hb9 => ?_)
      · have hcx8 := hx8.2.2.mp (by omega)
        clear hx8 hb9
        refine zG_wv (pc := 34) (L := [.inr (.inr (some 97)), .inl a1, .inl a2, .inl a3]) (st := []) 2 hd0 hz zp_211 (qm_211_97 (by first | exact zdk hd rfl | omega) hC   a2 (by first | with_reducible exact ha2 | omega) ) (by rfl) (fun M10 hr => ?_)
        obtain ⟨hCM10, hFM10⟩ := hr
        have hWM10 : qFm [101, 119, 120, 121, 1041, 1042, 1043, 1044] M M10 := hW.tr hFM10 (by decide)
        refine zG_wi_ne (pc := 36) (n' := 39) (t := 45) (L := [.inr (.inr (some 97)), .inl a1, .inl a2, .inl a3]) (st := []) (x := a3) (y := 3) 2 hd0 hz (by rfl) (fun hb12 => ?_) (fun hb12 => ?_)
        · refine zG_wc (c1 := (50, [.inr (.inr (some 97)), .inl a1, .inl a2, .inl a3], [])) 2 hd0 hz zp_280 (qm_280_97 (by first | exact zdk hd rfl | omega) hCM10   a1 (by first | with_reducible exact ha1 | omega) ) (by rfl) (fun vr M13 hr => ?_)
          obtain ⟨⟨hCM13, hFM13⟩, rfl, hpx14_0, hpx14_1⟩ := hr
          have hWM13 : qFm [101, 119, 120, 121, 1041, 1042, 1043, 1044] M M13 := hWM10.tr hFM13 (by decide)
          have r15 := hCM13.rg 97 41 (by decide) (by decide)
          have r16 := hCM13.rg 97 42 (by decide) (by decide)
          have r17 := hCM13.rg 97 43 (by decide) (by decide)
          show zG n (0, 0) d 284 (50, [.inr (.inr (some 97)), .inl a1, .inl a2, .inl a3], []) M13 _
          refine zG_w (c' := (51, [.inr (.inr (some 97)), .inl a1, .inl a2, .inl a3], [.inl a3])) 1 hd0 hz (by rfl) ?_
          have j93 : ∀ (v18 : Int) , (-2147483648) ≤ v18 ∧ v18 ≤ 2147483647 → zG n (0, 0) d 284 (93, [.inr (.inr (some 97)), .inl a1, .inl a2, .inl a3], [.inl v18]) M13 (fun v M' => (qMI M' ∧ qFm [101, 119, 120, 121, 1041, 1042, 1043, 1044] M M') ∧ ∃ x : Int, v = some (.inl x) ∧ ((-2147483648) ≤ x ∧ x ≤ 2147483647)) := by
            intro v18 hv18
            exact zG_wr (r := some (.inl v18)) 0 hd0 hz (by rfl) ⟨⟨hCM13, hWM13⟩, _, rfl, by omega⟩
          refine zG_wf_ne (pc := 51) (n' := 54) (t := 61) (L := [.inr (.inr (some 97)), .inl a1, .inl a2, .inl a3]) (st := []) (x := a3) 0 hd0 hz (by rfl) (fun hb19 => ?_) (fun hb19 => ?_)
          · refine zG_wi_ne (pc := 63) (n' := 66) (t := 73) (L := [.inr (.inr (some 97)), .inl a1, .inl a2, .inl a3]) (st := []) (x := a3) (y := 1) 2 hd0 hz (by rfl) (fun hb20 => ?_) (fun hb20 => ?_)
            · refine zG_wf_ne (pc := 77) (n' := 80) (t := 84) (L := [.inr (.inr (some 97)), .inl a1, .inl a2, .inl a3]) (st := []) (x := (M13 97 43)) 2 hd0 hz (by rfl) (fun hb21 => ?_) (fun hb21 => ?_)
              · have r22 := hCM13.rg 97 44 (by decide) (by decide)
                refine zG_w (c' := (92, [.inr (.inr (some 97)), .inl a1, .inl a2, .inl a3], [.inl (M13 97 43), .inl (M13 97 44)])) 4 hd0 hz (by rfl) ?_
                refine zG_idiv hd0 hz rfl (by omega) ?_
                have hx23 := w32_in ((M13 97 44).tdiv (M13 97 43))
                generalize w32 ((M13 97 44).tdiv (M13 97 43)) = x23 at hx23 ⊢
                show zG n (0, 0) d 284 (93, [.inr (.inr (some 97)), .inl a1, .inl a2, .inl a3], [.inl x23]) M13 _
                exact j93 x23 (by omega)
              · refine zG_w (c' := (93, [.inr (.inr (some 97)), .inl a1, .inl a2, .inl a3], [.inl 0])) 2 hd0 hz (by rfl) ?_
                exact j93 0 (by first | decide | omega)
            · refine zG_w (c' := (93, [.inr (.inr (some 97)), .inl a1, .inl a2, .inl a3], [.inl (M13 97 42)])) 3 hd0 hz (by rfl) ?_
              exact j93 (M13 97 42) (by omega)
          · refine zG_w (c' := (93, [.inr (.inr (some 97)), .inl a1, .inl a2, .inl a3], [.inl (M13 97 41)])) 3 hd0 hz (by rfl) ?_
            exact j93 (M13 97 41) (by omega)
        · refine zG_wn (pc := 44) (L := [.inr (.inr (some 97)), .inl a1, .inl a2, .inl a3]) (st := []) 2 hd0 hz zp_283 (qm_283_97 (by first | exact zdk hd rfl | omega) hCM10   a1 (by first | with_reducible exact ha1 | omega) ) (by rfl) (fun x25 M24 hr hx25 => ?_)
          obtain ⟨hCM24, hFM24⟩ := hr
          have hWM24 : qFm [101, 119, 120, 121, 1041, 1042, 1043, 1044] M M24 := hWM10.tr hFM24 (by decide)
          exact zG_wr (r := some (.inl x25)) 0 hd0 hz (by rfl) ⟨⟨hCM24, hWM24⟩, _, rfl, by omega⟩
      · exact j25
