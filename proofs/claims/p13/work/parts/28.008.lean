set_option maxRecDepth 100000 in
theorem qm_231_97 {n d : Nat} {M : zM} (hd : 6 ≤ d) (hC : qMI M)  (a1 : Int) (ha1 : 0 ≤ a1 ∧ a1 ≤ 5583) (hp0 : 0 ≤ M 98 a1.toNat ∧ M 98 a1.toNat ≤ 80) : qOkN n d 231 [.inr (.inr (some 97)), .inl a1] 8 [105, 106, 107, 1007, 1010, 1012, 1013] M (fun v M' => ∃ x : Int, v = some (.inl x) ∧ ((-2147483648) ≤ x ∧ x ≤ 2147483647)) := by
  have hz := zp_231
  have hd0 : 0 < d := by omega
  have hW : qFm [105, 106, 107, 1007, 1010, 1012, 1013] M M := qFm.rfl
  show zG n (0, 0) d 231 (0, [.inr (.inr (some 97)), .inl a1, zN, zN, zN, zN, zN, zN], []) M _
  refine zG_blk (c' := (2, [.inr (.inr (some 97)), .inl a1, zN, zN, zN, zN, zN, zN], [.inl 0, .inr (.inr (some 97))])) 2 hd0 hz (by rfl) ?_
  refine zG_putf (.inl rfl) hd0 hz rfl (by decide) rfl rfl ?_
  obtain ⟨M1, hM1⟩ : ∃ X : zM, X = zput M 97 7 0 := ⟨_, rfl⟩
  rw [← hM1]
  have hCM1 : qMI M1 := by rw [hM1]; exact hC.zero
  have hWM1 : qFm [105, 106, 107, 1007, 1010, 1012, 1013] M M1 := by rw [hM1]; exact hW.put (by decide)
  have e2 : M1 97 7 = 0 := by rw [hM1]; exact qput_eq
  have hqd : qD M1 = 0 := by unfold qD; rw [hM1, qput_eq]; rfl
  show zG n (0, 0) d 231 (5, [.inr (.inr (some 97)), .inl a1, zN, zN, zN, zN, zN, zN], []) M1 _
  refine zG_blk (c' := (7, [.inr (.inr (some 97)), .inl a1, zN, zN, zN, zN, zN, zN], [.inl 0, .inr (.inr (some 97))])) 2 hd0 hz (by rfl) ?_
  refine zG_putf (.inl rfl) hd0 hz rfl (by decide) rfl rfl ?_
  obtain ⟨M3, hM3⟩ : ∃ X : zM, X = zput M1 97 10 0 := ⟨_, rfl⟩
  rw [← hM3]
  have hCM3 : qMI M3 := by rw [hM3]; exact hCM1.put (by decide) (by decide) (by refine ⟨fun _ => ?_, fun _ => ?_, fun h => ⟨fun _ => ?_, fun _ => ?_, fun _ => ?_, fun _ => ?_, fun _ => ?_⟩, fun h => ?_, fun h => ?_⟩ <;> first | omega | exact absurd rfl (by assumption) | (rename_i h9; exact absurd h9 (by decide)))
  have hWM3 : qFm [105, 106, 107, 1007, 1010, 1012, 1013] M M3 := by rw [hM3]; exact hWM1.put (by decide)
  have e4 : M3 97 7 = M1 97 7 := by rw [hM3]; exact qput_nk (by decide)
  have e5 : qD M3 = qD M1 := by rw [hM3]; exact qD_put (by decide) (by decide)
  have e6 : M3 97 10 = 0 := by rw [hM3]; exact qput_eq
  have hqw : qWt M3 = 0 := by unfold qWt; rw [hM3, qput_eq]; rfl
  show zG n (0, 0) d 231 (10, [.inr (.inr (some 97)), .inl a1, zN, zN, zN, zN, zN, zN], []) M3 _
  refine zG_blk (c' := (12, [.inr (.inr (some 97)), .inl a1, zN, zN, zN, zN, zN, zN], [.inl 0, .inr (.inr (some 97))])) 2 hd0 hz (by rfl) ?_
  refine zG_putf (.inl rfl) hd0 hz rfl (by decide) rfl rfl ?_
  obtain ⟨M7, hM7⟩ : ∃ X : zM, X = zput M3 97 12 0 := ⟨_, rfl⟩
  rw [← hM7]
  have hCM7 : qMI M7 := by rw [hM7]; exact hCM3.put (by decide) (by decide) (by refine ⟨fun _ => ?_, fun _ => ?_, fun h => ⟨fun _ => ?_, fun _ => ?_, fun _ => ?_, fun _ => ?_, fun _ => ?_⟩, fun h => ?_, fun h => ?_⟩ <;> first | omega | exact absurd rfl (by assumption) | (rename_i h9; exact absurd h9 (by decide)))
  have hWM7 : qFm [105, 106, 107, 1007, 1010, 1012, 1013] M M7 := by rw [hM7]; exact hWM3.put (by decide)
  have e8 : M7 97 7 = M3 97 7 := by rw [hM7]; exact qput_nk (by decide)
  have e9 : qD M7 = qD M3 := by rw [hM7]; exact qD_put (by decide) (by decide)
  have e10 : M7 97 10 = M3 97 10 := by rw [hM7]; exact qput_nk (by decide)
  have e11 : qWt M7 = qWt M3 := by rw [hM7]; exact qWt_put (by decide) (by decide)
  have e12 : M7 97 12 = 0 := by rw [hM7]; exact qput_eq
  show zG n (0, 0) d 231 (15, [.inr (.inr (some 97)), .inl a1, zN, zN, zN, zN, zN, zN], []) M7 _
  refine zG_blk (c' := (20, [.inr (.inr (some 97)), .inl a1, zN, zN, zN, zN, zN, zN], [.inl a1, .inr (.inr (some 98))])) 3 hd0 hz (by rfl) ?_
  refine zG_iald hd0 hz rfl rfl (.inl rfl) (by omega) ?_
  obtain ⟨x13, hx13⟩ : ∃ x : Int, x = M7 98 (a1 : Int).toNat := ⟨_, rfl⟩
  rw [← hx13]
  have hx13r : 0 ≤ x13 ∧ x13 ≤ 80 := by rw [hx13]; exact (by have h9 := hWM7.ar 98 (a1).toNat (by decide) (by decide); omega)
  show zG n (0, 0) d 231 (21, [.inr (.inr (some 97)), .inl a1, zN, zN, zN, zN, zN, zN], [.inl x13]) M7 _
  refine zG_blk (c' := (27, [.inr (.inr (some 97)), .inl a1, .inl x13, .inl 0, .inl 0, zN, zN, zN], [])) 5 hd0 hz (by rfl) ?_
  have j27 : ∀ (N : Nat) (v14 v15 : Int) (M16 : zM) , (x13 - v15 : Int).toNat < N → 0 ≤ v14 ∧ v14 ≤ 1 → (-2147483648) ≤ v15 ∧ v15 ≤ 2147483647 → (0 ≤ M16 97 10) → (qD M16 = qWt M16 + v14) → (M16 97 7 + M16 97 10 ≤ v15) → (v15 ≤ x13) → qMI M16 → qFm [105, 106, 107, 1007, 1010, 1012, 1013] M M16 → zG n (0, 0) d 231 (27, [.inr (.inr (some 97)), .inl a1, .inl x13, .inl v14, .inl v15, zN, zN, zN], []) M16 (fun v M' => (qMI M' ∧ qFm [105, 106, 107, 1007, 1010, 1012, 1013] M M') ∧ ∃ x : Int, v = some (.inl x) ∧ ((-2147483648) ≤ x ∧ x ≤ 2147483647)) := by
    intro N
    induction N with
    | zero => intro v14 v15 M16 hN hv14 hv15 hx0_27 hx1_27 hx2_27 hx3_27 hCM16 hWM16; exact absurd hN (Nat.not_lt_zero _)
    | succ N ih27 =>
      intro v14 v15 M16 hN hv14 hv15 hx0_27 hx1_27 hx2_27 hx3_27 hCM16 hWM16
      have r17 := hCM16.steps
      have r18 := hCM16.rg 97 10 (by decide) (by decide)
      refine zG_blk (c' := (30, [.inr (.inr (some 97)), .inl a1, .inl x13, .inl v14, .inl v15, zN, zN, zN], [.inl x13, .inl v15])) 2 hd0 hz (by rfl) ?_
      refine zG_icmp_ge hd0 hz rfl (fun hb19 => ?_) (fun hb19 => ?_)
      · refine zG_blk (c' := (506, [.inr (.inr (some 97)), .inl a1, .inl x13, .inl v14, .inl v15, zN, zN, zN], [.inl v14])) 1 hd0 hz (by rfl) ?_
        have j533 : ∀ (v20 : Int) (M21 : zM) , (-1) ≤ v20 ∧ v20 ≤ 801 → qMI M21 → qFm [105, 106, 107, 1007, 1010, 1012, 1013] M M21 → zG n (0, 0) d 231 (533, [.inr (.inr (some 97)), .inl a1, .inl x13, .inl v14, .inl v15, zN, zN, zN], [.inl v20]) M21 (fun v M' => (qMI M' ∧ qFm [105, 106, 107, 1007, 1010, 1012, 1013] M M') ∧ ∃ x : Int, v = some (.inl x) ∧ ((-2147483648) ≤ x ∧ x ≤ 2147483647)) := by
          intro v20 M21 hv20 hCM21 hWM21
          exact zG_ret hd0 hz rfl rfl ⟨⟨hCM21, hWM21⟩, _, rfl, by omega⟩
        have j527 : ∀ (M22 : zM) , qMI M22 → qFm [105, 106, 107, 1007, 1010, 1012, 1013] M M22 → zG n (0, 0) d 231 (527, [.inr (.inr (some 97)), .inl a1, .inl x13, .inl v14, .inl v15, zN, zN, zN], []) M22 (fun v M' => (qMI M' ∧ qFm [105, 106, 107, 1007, 1010, 1012, 1013] M M') ∧ ∃ x : Int, v = some (.inl x) ∧ ((-2147483648) ≤ x ∧ x ≤ 2147483647)) := by
          intro M22 hCM22 hWM22
          obtain ⟨x23, hx23⟩ : ∃ x : Int, x = w32 (10 * x13) := ⟨_, rfl⟩
          have hx23e : x23 = 10 * x13 := by rw [hx23]; exact w32_id (by omega)
          obtain ⟨x24, hx24⟩ : ∃ x : Int, x = w32 (x23 + 1) := ⟨_, rfl⟩
          have hx24e : x24 = x23 + 1 := by rw [hx24]; exact w32_id (by omega)
          refine zG_blk (c' := (533, [.inr (.inr (some 97)), .inl a1, .inl x13, .inl v14, .inl v15, zN, zN, zN], [.inl x24])) 5 hd0 hz (by subst hx24; subst hx23; rfl) ?_
          exact j533 x24 M22 (by omega) hCM22 hWM22
        refine zG_if_eq hd0 hz rfl (fun hb25 => ?_) (fun hb25 => ?_)
        · exact j527 M16 hCM16 hWM16
        · refine zG_blk (c' := (510, [.inr (.inr (some 97)), .inl a1, .inl x13, .inl v14, .inl v15, zN, zN, zN], [.inr (.inr (some 97))])) 1 hd0 hz (by rfl) ?_
          refine zG_call hd0 hz zp_226 rfl rfl (Nat.le_of_ble_eq_true rfl) ⟨Nat.le_refl _, Nat.le_refl _⟩ (qm_226_97 (by first | exact zdp hd (by decide) | omega) hCM16    (by omega) (by omega) (by omega)) (fun vr M26 hr => ?_)
          obtain ⟨⟨hCM26, hFM26⟩, x27, rfl, hx27, hpx27_0, hpx27_1, hpx27_2⟩ := hr
          have hWM26 : qFm [105, 106, 107, 1007, 1010, 1012, 1013] M M26 := hWM16.tr hFM26 (by decide)
          have r32 := hCM26.steps
          have r33 := hCM26.rg 97 10 (by decide) (by decide)
          show zG n (0, 0) d 231 (513, [.inr (.inr (some 97)), .inl a1, .inl x13, .inl v14, .inl v15, zN, zN, zN], [.inl x27]) M26 _
          refine zG_if_eq hd0 hz rfl (fun hb34 => ?_) (fun hb34 => ?_)
          · exact j527 M26 hCM26 hWM26
          · refine zG_blk (c' := (520, [.inr (.inr (some 97)), .inl a1, .inl x13, .inl v14, .inl v15, zN, zN, zN], [.inl (M26 97 10)])) 2 hd0 hz (by rfl) ?_
            refine zG_if_ne hd0 hz rfl (fun hb35 => ?_) (fun hb35 => ?_)
            · exact j527 M26 hCM26 hWM26
            · refine zG_blk (c' := (533, [.inr (.inr (some 97)), .inl a1, .inl x13, .inl v14, .inl v15, zN, zN, zN], [.inl (-1)])) 2 hd0 hz (by rfl) ?_
              exact j533 (-1) M26 (by omega) hCM26 hWM26
      · obtain ⟨x36, hx36⟩ : ∃ x : Int, x = w32 (a1 + 1) := ⟨_, rfl⟩
        have hx36e : x36 = a1 + 1 := by rw [hx36]; exact w32_id (by omega)
        obtain ⟨x37, hx37⟩ : ∃ x : Int, x = w32 (x36 + v15) := ⟨_, rfl⟩
        have hx37e : x37 = x36 + v15 := by rw [hx37]; exact w32_id (by omega)
        refine zG_blk (c' := (43, [.inr (.inr (some 97)), .inl a1, .inl x13, .inl v14, .inl v15, zN, zN, zN], [.inl x37, .inr (.inr (some 98))])) 7 hd0 hz (by subst hx37; subst hx36; rfl) ?_
        refine zG_iald hd0 hz rfl rfl (.inl rfl) (by omega) ?_
        obtain ⟨x38, hx38⟩ : ∃ x : Int, x = M16 98 (x37 : Int).toNat := ⟨_, rfl⟩
        rw [← hx38]
        have hx38r : qin x38 := by rw [hx38]; exact hCM16.sin _
        have h43 : x38 = M16 98 (a1 + 1 + v15).toNat := by rw [hx38, show x37 = a1 + 1 + v15 by omega]
        show zG n (0, 0) d 231 (44, [.inr (.inr (some 97)), .inl a1, .inl x13, .inl v14, .inl v15, zN, zN, zN], [.inl x38]) M16 _
        refine zG_blk (c' := (50, [.inr (.inr (some 97)), .inl a1, .inl x13, .inl v14, .inl v15, .inl x38, zN, zN], [.inl 32, .inl x38])) 3 hd0 hz (by rfl) ?_
        have j502 : ∀ (v39 v40 : Int) (M41 : zM) , 0 ≤ v39 ∧ v39 ≤ 1 → (-2147483648) ≤ v40 ∧ v40 ≤ 2147483647 → (0 ≤ M41 97 10) → (qD M41 = qWt M41 + v39) → (M41 97 7 + M41 97 10 ≤ v40) → (v40 ≤ x13) → (v15 < v40) → qMI M41 → qFm [105, 106, 107, 1007, 1010, 1012, 1013] M M41 → zG n (0, 0) d 231 (502, [.inr (.inr (some 97)), .inl a1, .inl x13, .inl v39, .inl v40, .inl x38, zN, zN], []) M41 (fun v M' => (qMI M' ∧ qFm [105, 106, 107, 1007, 1010, 1012, 1013] M M') ∧ ∃ x : Int, v = some (.inl x) ∧ ((-2147483648) ≤ x ∧ x ≤ 2147483647)) := by
          intro v39 v40 M41 hv39 hv40 hx0_502 hx1_502 hx2_502 hx3_502 hx4_502 hCM41 hWM41
          have r42 := hCM41.steps
          have r43 := hCM41.rg 97 10 (by decide) (by decide)
          refine zG_blk (c' := (27, [.inr (.inr (some 97)), .inl a1, .inl x13, .inl v39, .inl v40, .inl x38, zN, zN], [])) 1 hd0 hz (by rfl) ?_
          exact zG_weak (ih27 v39 v40 M41 (by omega) (by omega) (by omega) (by omega) (by omega) (by omega) (by omega) hCM41 hWM41) ⟨.inr rfl, .inr rfl, .inr rfl, .inr rfl, .inr rfl, .inl rfl, .inr rfl, .inr rfl, trivial⟩
        refine zG_icmp_ne hd0 hz rfl (fun hb44 => ?_) (fun hb44 => ?_)
        · refine zG_blk (c' := (65, [.inr (.inr (some 97)), .inl a1, .inl x13, .inl v14, .inl v15, .inl x38, zN, zN], [.inl 122, .inl 97, .inl x38])) 3 hd0 hz (by rfl) ?_
          refine zG_call hd0 hz zp_180 rfl rfl (Nat.le_of_ble_eq_true rfl) ⟨Nat.le_refl _, Nat.le_refl _⟩ (qx_in (by first | exact zdp hd (by decide) | omega) hCM16   x38 (by omega) 97 (by first | decide | omega) 122 (by first | decide | omega) ) (fun vr M45 hr => ?_)
          obtain ⟨hq, x46, rfl, hx46⟩ := hr
          replace hq := hq.symm; subst hq
          show zG n (0, 0) d 231 (68, [.inr (.inr (some 97)), .inl a1, .inl x13, .inl v14, .inl v15, .inl x38, zN, zN], [.inl x46]) M16 _
          refine zG_if_eq hd0 hz rfl (fun hb47 => ?_) (fun hb47 => ?_)
          · refine zG_blk (c' := (243, [.inr (.inr (some 97)), .inl a1, .inl x13, .inl v14, .inl v15, .inl x38, zN, zN], [.inl v14])) 1 hd0 hz (by rfl) ?_
            refine zG_if_eq hd0 hz rfl (fun hb48 => ?_) (fun hb48 => ?_)
            · refine zG_blk (c' := (326, [.inr (.inr (some 97)), .inl a1, .inl x13, .inl v14, .inl v15, .inl x38, zN, zN], [.inl 57, .inl 48, .inl x38])) 3 hd0 hz (by rfl) ?_
              refine zG_call hd0 hz zp_180 rfl rfl (Nat.le_of_ble_eq_true rfl) ⟨Nat.le_refl _, Nat.le_refl _⟩ (qx_in (by first | exact zdp hd (by decide) | omega) hCM16   x38 (by omega) 48 (by first | decide | omega) 57 (by first | decide | omega) ) (fun vr M49 hr => ?_)
              obtain ⟨hq, x50, rfl, hx50⟩ := hr
              replace hq := hq.symm; subst hq
              show zG n (0, 0) d 231 (329, [.inr (.inr (some 97)), .inl a1, .inl x13, .inl v14, .inl v15, .inl x38, zN, zN], [.inl x50]) M16 _
              refine zG_if_eq hd0 hz rfl (fun hb51 => ?_) (fun hb51 => ?_)
              · refine zG_blk (c' := (434, [.inr (.inr (some 97)), .inl a1, .inl x13, .inl v14, .inl v15, .inl x38, zN, zN], [.inl 40, .inl x38])) 2 hd0 hz (by rfl) ?_
                refine zG_icmp_ne hd0 hz rfl (fun hb52 => ?_) (fun hb52 => ?_)
                · refine zG_blk (c' := (480, [.inr (.inr (some 97)), .inl a1, .inl x13, .inl v14, .inl v15, .inl x38, zN, zN], [.inl 45, .inl x38])) 2 hd0 hz (by rfl) ?_
                  refine zG_icmp_ne hd0 hz rfl (fun hb53 => ?_) (fun hb53 => ?_)
                  · obtain ⟨x54, hx54⟩ : ∃ x : Int, x = w32 (10 * v15) := ⟨_, rfl⟩
                    have hx54r : qin x54 := by rw [hx54]; exact w32_in _
                    obtain ⟨x55, hx55⟩ : ∃ x : Int, x = w32 (x54 + 1) := ⟨_, rfl⟩
                    have hx55r : x55 = (x54 + 1 + 2147483648) % 4294967296 - 2147483648 := hx55
                    refine zG_blk (c' := (501, [.inr (.inr (some 97)), .inl a1, .inl x13, .inl v14, .inl v15, .inl x38, zN, zN], [.inl x55])) 5 hd0 hz (by subst hx55; subst hx54; rfl) ?_
                    exact zG_ret hd0 hz rfl rfl ⟨⟨hCM16, hWM16⟩, _, rfl, by omega⟩
                  · refine zG_blk (c' := (485, [.inr (.inr (some 97)), .inl a1, .inl x13, .inl v14, .inl v15, .inl x38, zN, zN], [.inl 3, .inr (.inr (some 97))])) 2 hd0 hz (by rfl) ?_
                    refine zG_call hd0 hz zp_223 rfl rfl (Nat.le_of_ble_eq_true rfl) ⟨Nat.le_refl _, Nat.le_refl _⟩ (qx_waitsWith (by first | exact zdp hd (by decide) | omega) hCM16   3 (by first | decide | omega) (by omega)) (fun vr M56 hr => ?_)
                    obtain ⟨⟨hCM56, hFM56⟩, rfl, hpx57_0, hpx57_1, hpx57_2⟩ := hr
                    have hWM56 : qFm [105, 106, 107, 1007, 1010, 1012, 1013] M M56 := hWM16.tr hFM56 (by decide)
                    have e58 : M56 97 7 = M16 97 7 := hFM56 97 7 (by decide)
                    have e60 : qD M56 = qD M16 := qD_fr hFM56 (by decide) (by decide)
                    have r62 := hCM56.rg 97 10 (by decide) (by decide)
                    show zG n (0, 0) d 231 (488, [.inr (.inr (some 97)), .inl a1, .inl x13, .inl v14, .inl v15, .inl x38, zN, zN], []) M56 _
                    obtain ⟨x63, hx63⟩ : ∃ x : Int, x = w32 (v15 + 1) := ⟨_, rfl⟩
                    have hx63e : x63 = v15 + 1 := by rw [hx63]; exact w32_id (by omega)
                    refine zG_blk (c' := (502, [.inr (.inr (some 97)), .inl a1, .inl x13, .inl v14, .inl x63, .inl x38, zN, zN], [])) 2 hd0 hz (by subst hx63; rfl) ?_
                    exact j502 v14 x63 M56 (by omega) (by omega) (by omega) (by omega) (by omega) (by omega) (by omega) hCM56 hWM56
                · have r64 := hCM16.rg 97 12 (by decide) (by decide)
                  refine zG_blk (c' := (443, [.inr (.inr (some 97)), .inl a1, .inl x13, .inl v14, .inl v15, .inl x38, zN, zN], [.inl 8, .inl (M16 97 12)])) 3 hd0 hz (by rfl) ?_
                  refine zG_icmp_ne hd0 hz rfl (fun hb65 => ?_) (fun hb65 => ?_)
                  · obtain ⟨x66, hx66⟩ : ∃ x : Int, x = w32 ((M16 97 12) + 1) := ⟨_, rfl⟩
                    have hx66r : x66 = ((M16 97 12) + 1 + 2147483648) % 4294967296 - 2147483648 := hx66
                    refine zG_blk (c' := (461, [.inr (.inr (some 97)), .inl a1, .inl x13, .inl v14, .inl v15, .inl x38, zN, zN], [.inl x66, .inr (.inr (some 97))])) 5 hd0 hz (by subst hx66; rfl) ?_
                    refine zG_putf (.inl rfl) hd0 hz rfl (by decide) rfl rfl ?_
                    obtain ⟨M67, hM67⟩ : ∃ X : zM, X = zput M16 97 12 x66 := ⟨_, rfl⟩
                    rw [← hM67]
                    have hCM67 : qMI M67 := by rw [hM67]; exact hCM16.put (by decide) (by decide) (by refine ⟨fun _ => ?_, fun _ => ?_, fun h => ⟨fun _ => ?_, fun _ => ?_, fun _ => ?_, fun _ => ?_, fun _ => ?_⟩, fun h => ?_, fun h => ?_⟩ <;> first | omega | exact absurd rfl (by assumption) | (rename_i h9; exact absurd h9 (by decide)))
                    have hWM67 : qFm [105, 106, 107, 1007, 1010, 1012, 1013] M M67 := by rw [hM67]; exact hWM16.put (by decide)
                    have e68 : M67 97 7 = M16 97 7 := by rw [hM67]; exact qput_nk (by decide)
                    have e69 : M67 97 10 = M16 97 10 := by rw [hM67]; exact qput_nk (by decide)
                    have e70 : qD M67 = qD M16 := by rw [hM67]; exact qD_put (by decide) (by decide)
                    have e71 : qWt M67 = qWt M16 := by rw [hM67]; exact qWt_put (by decide) (by decide)
                    have e72 : M67 97 12 = x66 := by rw [hM67]; exact qput_eq
                    show zG n (0, 0) d 231 (464, [.inr (.inr (some 97)), .inl a1, .inl x13, .inl v14, .inl v15, .inl x38, zN, zN], []) M67 _
                    refine zG_blk (c' := (467, [.inr (.inr (some 97)), .inl a1, .inl x13, .inl v14, .inl v15, .inl x38, zN, zN], [.inl 18, .inr (.inr (some 97))])) 2 hd0 hz (by rfl) ?_
                    refine zG_call hd0 hz zp_223 rfl rfl (Nat.le_of_ble_eq_true rfl) ⟨Nat.le_refl _, Nat.le_refl _⟩ (qx_waitsWith (by first | exact zdp hd (by decide) | omega) hCM67   18 (by first | decide | omega) (by omega)) (fun vr M73 hr => ?_)
                    obtain ⟨⟨hCM73, hFM73⟩, rfl, hpx74_0, hpx74_1, hpx74_2⟩ := hr
                    have hWM73 : qFm [105, 106, 107, 1007, 1010, 1012, 1013] M M73 := hWM67.tr hFM73 (by decide)
                    have e75 : M73 97 7 = M67 97 7 := hFM73 97 7 (by decide)
                    have e77 : qD M73 = qD M67 := qD_fr hFM73 (by decide) (by decide)
                    have e79 : M73 97 12 = M67 97 12 := hFM73 97 12 (by decide)
                    have r80 := hCM73.rg 97 10 (by decide) (by decide)
                    show zG n (0, 0) d 231 (470, [.inr (.inr (some 97)), .inl a1, .inl x13, .inl v14, .inl v15, .inl x38, zN, zN], []) M73 _
                    obtain ⟨x81, hx81⟩ : ∃ x : Int, x = w32 (v15 + 1) := ⟨_, rfl⟩
                    have hx81e : x81 = v15 + 1 := by rw [hx81]; exact w32_id (by omega)
                    refine zG_blk (c' := (502, [.inr (.inr (some 97)), .inl a1, .inl x13, .inl v14, .inl x81, .inl x38, zN, zN], [])) 2 hd0 hz (by subst hx81; rfl) ?_
                    exact j502 v14 x81 M73 (by omega) (by omega) (by omega) (by omega) (by omega) (by omega) (by omega) hCM73 hWM73
                  · obtain ⟨x82, hx82⟩ : ∃ x : Int, x = w32 (10 * v15) := ⟨_, rfl⟩
                    have hx82r : qin x82 := by rw [hx82]; exact w32_in _
                    obtain ⟨x83, hx83⟩ : ∃ x : Int, x = w32 (x82 + 3) := ⟨_, rfl⟩
                    have hx83r : x83 = (x82 + 3 + 2147483648) % 4294967296 - 2147483648 := hx83
                    refine zG_blk (c' := (453, [.inr (.inr (some 97)), .inl a1, .inl x13, .inl v14, .inl v15, .inl x38, zN, zN], [.inl x83])) 5 hd0 hz (by subst hx83; subst hx82; rfl) ?_
                    exact zG_ret hd0 hz rfl rfl ⟨⟨hCM16, hWM16⟩, _, rfl, by omega⟩
              · have hcx50 := hx50.2.2.mp (by omega)
                clear hx50 hb51
                refine zG_blk (c' := (339, [.inr (.inr (some 97)), .inl a1, .inl x13, .inl v14, .inl v15, .inl x38, .inl v15, .inl 0], [])) 4 hd0 hz (by rfl) ?_
                have j339 : ∀ (N : Nat) (v84 v85 : Int) , (x13 - v84 : Int).toNat < N → (-2147483648) ≤ v84 ∧ v84 ≤ 80 → (-2147483648) ≤ v85 ∧ v85 ≤ 2147483647 → (v15 ≤ v84) → (v84 ≤ x13) → zG n (0, 0) d 231 (339, [.inr (.inr (some 97)), .inl a1, .inl x13, .inl v14, .inl v84, .inl x38, .inl v15, .inl v85], []) M16 (fun v M' => (qMI M' ∧ qFm [105, 106, 107, 1007, 1010, 1012, 1013] M M') ∧ ∃ x : Int, v = some (.inl x) ∧ ((-2147483648) ≤ x ∧ x ≤ 2147483647)) := by
                  intro N
                  induction N with
                  | zero => intro v84 v85 hN hv84 hv85 hx0_339 hx1_339; exact absurd hN (Nat.not_lt_zero _)
                  | succ N ih339 =>
                    intro v84 v85 hN hv84 hv85 hx0_339 hx1_339
                    refine zG_blk (c' := (342, [.inr (.inr (some 97)), .inl a1, .inl x13, .inl v14, .inl v84, .inl x38, .inl v15, .inl v85], [.inl x13, .inl v84])) 2 hd0 hz (by rfl) ?_
                    have j412 : (v15 < v84) → (v84 ≤ x13) → zG n (0, 0) d 231 (412, [.inr (.inr (some 97)), .inl a1, .inl x13, .inl v14, .inl v84, .inl x38, .inl v15, .inl v85], []) M16 (fun v M' => (qMI M' ∧ qFm [105, 106, 107, 1007, 1010, 1012, 1013] M M') ∧ ∃ x : Int, v = some (.inl x) ∧ ((-2147483648) ≤ x ∧ x ≤ 2147483647)) := by
                      intro hx0_412 hx1_412
                      refine zG_blk (c' := (416, [.inr (.inr (some 97)), .inl a1, .inl x13, .inl v14, .inl v84, .inl x38, .inl v15, .inl v85], [.inl v85, .inl 0, .inr (.inr (some 97))])) 3 hd0 hz (by rfl) ?_
                      refine zG_call hd0 hz zp_220 rfl rfl (Nat.le_of_ble_eq_true rfl) ⟨Nat.le_refl _, Nat.le_refl _⟩ (qx_emits (by first | exact zdp hd (by decide) | omega) hCM16   0 (by first | decide | omega) v85 (by first | with_reducible exact hv85 | omega) (by omega) (by omega) (by omega)) (fun vr M86 hr => ?_)
                      obtain ⟨⟨hCM86, hFM86⟩, rfl, hpx87_0, hpx87_1⟩ := hr
                      have hWM86 : qFm [105, 106, 107, 1007, 1010, 1012, 1013] M M86 := hWM16.tr hFM86 (by decide)
                      have e89 : M86 97 10 = M16 97 10 := hFM86 97 10 (by decide)
                      have e91 : qWt M86 = qWt M16 := qWt_fr hFM86 (by decide) (by decide)
                      have r92 := hCM86.steps
                      show zG n (0, 0) d 231 (419, [.inr (.inr (some 97)), .inl a1, .inl x13, .inl v14, .inl v84, .inl x38, .inl v15, .inl v85], []) M86 _
                      refine zG_blk (c' := (422, [.inr (.inr (some 97)), .inl a1, .inl x13, .inl v14, .inl v84, .inl x38, .inl v15, .inl v85], [.inl 8, .inr (.inr (some 97))])) 2 hd0 hz (by rfl) ?_
                      refine zG_call hd0 hz zp_224 rfl rfl (Nat.le_of_ble_eq_true rfl) ⟨Nat.le_refl _, Nat.le_refl _⟩ (qm_224_97 (by first | exact zdp hd (by decide) | omega) hCM86   8 (by first | decide | omega) (by omega) (by omega) (by omega)) (fun vr M93 hr => ?_)
                      obtain ⟨⟨hCM93, hFM93⟩, rfl, hpx94_0, hpx94_1, hpx94_2⟩ := hr
                      have hWM93 : qFm [105, 106, 107, 1007, 1010, 1012, 1013] M M93 := hWM86.tr hFM93 (by decide)
                      have r99 := hCM93.steps
                      have r100 := hCM93.rg 97 10 (by decide) (by decide)
                      show zG n (0, 0) d 231 (425, [.inr (.inr (some 97)), .inl a1, .inl x13, .inl v14, .inl v84, .inl x38, .inl v15, .inl v85], []) M93 _
                      refine zG_blk (c' := (502, [.inr (.inr (some 97)), .inl a1, .inl x13, .inl 1, .inl v84, .inl x38, .inl v15, .inl v85], [])) 3 hd0 hz (by rfl) ?_
                      exact zG_weak (j502 1 v84 M93 (by omega) (by omega) (by omega) (by omega) (by omega) (by omega) (by omega) hCM93 hWM93) ⟨.inr rfl, .inr rfl, .inr rfl, .inr rfl, .inr rfl, .inr rfl, .inl rfl, .inl rfl, trivial⟩
                    refine zG_icmp_ge hd0 hz rfl (fun hb101 => ?_) (fun hb101 => ?_)
                    · exact j412 (by omega) (by omega)
                    · obtain ⟨x102, hx102⟩ : ∃ x : Int, x = w32 (a1 + 1) := ⟨_, rfl⟩
                      have hx102e : x102 = a1 + 1 := by rw [hx102]; exact w32_id (by omega)
                      obtain ⟨x103, hx103⟩ : ∃ x : Int, x = w32 (x102 + v84) := ⟨_, rfl⟩
                      have hx103e : x103 = x102 + v84 := by rw [hx103]; exact w32_id (by omega)
                      refine zG_blk (c' := (355, [.inr (.inr (some 97)), .inl a1, .inl x13, .inl v14, .inl v84, .inl x38, .inl v15, .inl v85], [.inl x103, .inr (.inr (some 98))])) 7 hd0 hz (by subst hx103; subst hx102; rfl) ?_
                      refine zG_iald hd0 hz rfl rfl (.inl rfl) (by omega) ?_
                      obtain ⟨x104, hx104⟩ : ∃ x : Int, x = M16 98 (x103 : Int).toNat := ⟨_, rfl⟩
                      rw [← hx104]
                      have hx104r : qin x104 := by rw [hx104]; exact hCM16.sin _
                      have hcg : v84 = v15 → x104 = x38 := fun h9 => by rw [hx104, h43, show x103 = a1 + 1 + v15 by omega]
                      show zG n (0, 0) d 231 (356, [.inr (.inr (some 97)), .inl a1, .inl x13, .inl v14, .inl v84, .inl x38, .inl v15, .inl v85], [.inl x104]) M16 _
                      refine zG_blk (c' := (360, [.inr (.inr (some 97)), .inl a1, .inl x13, .inl v14, .inl v84, .inl x38, .inl v15, .inl v85], [.inl 57, .inl 48, .inl x104])) 2 hd0 hz (by rfl) ?_
                      refine zG_call hd0 hz zp_180 rfl rfl (Nat.le_of_ble_eq_true rfl) ⟨Nat.le_refl _, Nat.le_refl _⟩ (qx_in (by first | exact zdp hd (by decide) | omega) hCM16   x104 (by omega) 48 (by first | decide | omega) 57 (by first | decide | omega) ) (fun vr M105 hr => ?_)
                      obtain ⟨hq, x106, rfl, hx106⟩ := hr
                      replace hq := hq.symm; subst hq
                      show zG n (0, 0) d 231 (363, [.inr (.inr (some 97)), .inl a1, .inl x13, .inl v14, .inl v84, .inl x38, .inl v15, .inl v85], [.inl x106]) M16 _
                      refine zG_if_eq hd0 hz rfl (fun hb107 => ?_) (fun hb107 => ?_)
                      · exact j412 (by omega) (by omega)
                      · have hcx106 := hx106.2.2.mp (by omega)
                        clear hx106 hb107
                        obtain ⟨x108, hx108⟩ : ∃ x : Int, x = w32 (v84 - v15) := ⟨_, rfl⟩
                        have hx108r : x108 = (v84 - v15 + 2147483648) % 4294967296 - 2147483648 := hx108
                        refine zG_blk (c' := (373, [.inr (.inr (some 97)), .inl a1, .inl x13, .inl v14, .inl v84, .inl x38, .inl v15, .inl v85], [.inl 6, .inl x108])) 4 hd0 hz (by subst hx108; rfl) ?_
                        refine zG_icmp_ne hd0 hz rfl (fun hb109 => ?_) (fun hb109 => ?_)
                        · obtain ⟨x110, hx110⟩ : ∃ x : Int, x = w32 (10 * v85) := ⟨_, rfl⟩
                          have hx110r : qin x110 := by rw [hx110]; exact w32_in _
                          obtain ⟨x111, hx111⟩ : ∃ x : Int, x = w32 (a1 + 1) := ⟨_, rfl⟩
                          have hx111e : x111 = a1 + 1 := by rw [hx111]; exact w32_id (by omega)
                          obtain ⟨x112, hx112⟩ : ∃ x : Int, x = w32 (x111 + v84) := ⟨_, rfl⟩
                          have hx112e : x112 = x111 + v84 := by rw [hx112]; exact w32_id (by omega)
                          refine zG_blk (c' := (399, [.inr (.inr (some 97)), .inl a1, .inl x13, .inl v14, .inl v84, .inl x38, .inl v15, .inl v85], [.inl x112, .inr (.inr (some 98)), .inl x110])) 10 hd0 hz (by subst hx112; subst hx111; subst hx110; rfl) ?_
                          refine zG_iald hd0 hz rfl rfl (.inl rfl) (by omega) ?_
                          obtain ⟨x113, hx113⟩ : ∃ x : Int, x = M16 98 (x112 : Int).toNat := ⟨_, rfl⟩
                          rw [← hx113]
                          have hx113r : qin x113 := by rw [hx113]; exact hCM16.sin _
                          show zG n (0, 0) d 231 (400, [.inr (.inr (some 97)), .inl a1, .inl x13, .inl v14, .inl v84, .inl x38, .inl v15, .inl v85], [.inl x113, .inl x110]) M16 _
                          obtain ⟨x114, hx114⟩ : ∃ x : Int, x = w32 (x110 + x113) := ⟨_, rfl⟩
                          have hx114r : x114 = (x110 + x113 + 2147483648) % 4294967296 - 2147483648 := hx114
                          obtain ⟨x115, hx115⟩ : ∃ x : Int, x = w32 (x114 - 48) := ⟨_, rfl⟩
                          have hx115r : x115 = (x114 - 48 + 2147483648) % 4294967296 - 2147483648 := hx115
                          obtain ⟨x116, hx116⟩ : ∃ x : Int, x = w32 (v84 + 1) := ⟨_, rfl⟩
                          have hx116e : x116 = v84 + 1 := by rw [hx116]; exact w32_id (by omega)
                          refine zG_blk (c' := (339, [.inr (.inr (some 97)), .inl a1, .inl x13, .inl v14, .inl x116, .inl x38, .inl v15, .inl x115], [])) 6 hd0 hz (by subst hx116; subst hx115; subst hx114; rfl) ?_
                          exact ih339 x116 x115 (by omega) (by omega) (by omega) (by omega) (by omega)
                        · obtain ⟨x117, hx117⟩ : ∃ x : Int, x = w32 (10 * v15) := ⟨_, rfl⟩
                          have hx117r : qin x117 := by rw [hx117]; exact w32_in _
                          obtain ⟨x118, hx118⟩ : ∃ x : Int, x = w32 (x117 + 2) := ⟨_, rfl⟩
                          have hx118r : x118 = (x117 + 2 + 2147483648) % 4294967296 - 2147483648 := hx118
                          refine zG_blk (c' := (383, [.inr (.inr (some 97)), .inl a1, .inl x13, .inl v14, .inl v84, .inl x38, .inl v15, .inl v85], [.inl x118])) 5 hd0 hz (by subst hx118; subst hx117; rfl) ?_
                          exact zG_ret hd0 hz rfl rfl ⟨⟨hCM16, hWM16⟩, _, rfl, by omega⟩
                exact j339 ((x13 - v15 : Int).toNat + 1) v15 0 (by first | decide | omega) (by omega) (by omega) (by omega) (by omega)
            · refine zG_blk (c' := (250, [.inr (.inr (some 97)), .inl a1, .inl x13, .inl v14, .inl v15, .inl x38, zN, zN], [.inl 41, .inl x38])) 2 hd0 hz (by rfl) ?_
              have j286 : ∀ (v119 : Int) (M120 : zM) , 0 ≤ v119 ∧ v119 ≤ 1 → (v119 = 0 → 0 ≤ M120 97 10 ∧ M120 97 7 + M120 97 10 ≤ v15 + 1 ∧ ((x38 = 41 ∧ qD M120 = qWt M120 + 1) ∨ (x38 ≠ 41 ∧ qD M120 = qWt M120))) → qMI M120 → qFm [105, 106, 107, 1007, 1010, 1012, 1013] M M120 → zG n (0, 0) d 231 (286, [.inr (.inr (some 97)), .inl a1, .inl x13, .inl v14, .inl v15, .inl x38, zN, zN], [.inl v119]) M120 (fun v M' => (qMI M' ∧ qFm [105, 106, 107, 1007, 1010, 1012, 1013] M M') ∧ ∃ x : Int, v = some (.inl x) ∧ ((-2147483648) ≤ x ∧ x ≤ 2147483647)) := by
                intro v119 M120 hv119 hx0_286 hCM120 hWM120
                have r121 := hCM120.steps
                have r122 := hCM120.rg 97 10 (by decide) (by decide)
                refine zG_blk (c' := (290, [.inr (.inr (some 97)), .inl a1, .inl x13, .inl v14, .inl v15, .inl x38, .inl v119, zN], [.inl v119])) 2 hd0 hz (by rfl) ?_
                refine zG_if_eq hd0 hz rfl (fun hb123 => ?_) (fun hb123 => ?_)
                · refine zG_blk (c' := (305, [.inr (.inr (some 97)), .inl a1, .inl x13, .inl v14, .inl v15, .inl x38, .inl v119, zN], [.inl 41, .inl x38])) 2 hd0 hz (by rfl) ?_
                  have j313 : ∀ (v124 : Int) , 0 ≤ v124 ∧ v124 ≤ 1 → ((v124 = 1 ∧ x38 = 41) ∨ (v124 = 0 ∧ x38 ≠ 41)) → zG n (0, 0) d 231 (313, [.inr (.inr (some 97)), .inl a1, .inl x13, .inl v14, .inl v15, .inl x38, .inl v119, zN], [.inl v124]) M120 (fun v M' => (qMI M' ∧ qFm [105, 106, 107, 1007, 1010, 1012, 1013] M M') ∧ ∃ x : Int, v = some (.inl x) ∧ ((-2147483648) ≤ x ∧ x ≤ 2147483647)) := by
                    intro v124 hv124 hx0_313
                    obtain ⟨x125, hx125⟩ : ∃ x : Int, x = w32 (v15 + 1) := ⟨_, rfl⟩
                    have hx125e : x125 = v15 + 1 := by rw [hx125]; exact w32_id (by omega)
                    refine zG_blk (c' := (502, [.inr (.inr (some 97)), .inl a1, .inl x13, .inl v124, .inl x125, .inl x38, .inl v119, zN], [])) 3 hd0 hz (by subst hx125; rfl) ?_
                    exact zG_weak (j502 v124 x125 M120 (by omega) (by omega) (by omega) (by omega) (by omega) (by omega) (by omega) hCM120 hWM120) ⟨.inr rfl, .inr rfl, .inr rfl, .inr rfl, .inr rfl, .inr rfl, .inl rfl, .inr rfl, trivial⟩
                  refine zG_icmp_ne hd0 hz rfl (fun hb126 => ?_) (fun hb126 => ?_)
                  · refine zG_blk (c' := (313, [.inr (.inr (some 97)), .inl a1, .inl x13, .inl v14, .inl v15, .inl x38, .inl v119, zN], [.inl 0])) 1 hd0 hz (by rfl) ?_
                    exact j313 0 (by first | decide | omega) (by omega)
                  · refine zG_blk (c' := (313, [.inr (.inr (some 97)), .inl a1, .inl x13, .inl v14, .inl v15, .inl x38, .inl v119, zN], [.inl 1])) 2 hd0 hz (by rfl) ?_
                    exact j313 1 (by first | decide | omega) (by omega)
                · obtain ⟨x127, hx127⟩ : ∃ x : Int, x = w32 (10 * v15) := ⟨_, rfl⟩
                  have hx127r : qin x127 := by rw [hx127]; exact w32_in _
                  obtain ⟨x128, hx128⟩ : ∃ x : Int, x = w32 (x127 + 1) := ⟨_, rfl⟩
                  have hx128r : x128 = (x127 + 1 + 2147483648) % 4294967296 - 2147483648 := hx128
                  refine zG_blk (c' := (300, [.inr (.inr (some 97)), .inl a1, .inl x13, .inl v14, .inl v15, .inl x38, .inl v119, zN], [.inl x128])) 5 hd0 hz (by subst hx128; subst hx127; rfl) ?_
                  exact zG_ret hd0 hz rfl rfl ⟨⟨hCM120, hWM120⟩, _, rfl, by omega⟩
              refine zG_icmp_ne hd0 hz rfl (fun hb129 => ?_) (fun hb129 => ?_)
              · refine zG_blk (c' := (262, [.inr (.inr (some 97)), .inl a1, .inl x13, .inl v14, .inl v15, .inl x38, zN, zN], [.inl x38])) 1 hd0 hz (by rfl) ?_
                refine zG_call hd0 hz zp_227 rfl rfl (Nat.le_of_ble_eq_true rfl) ⟨Nat.le_refl _, Nat.le_refl _⟩ (qx_signOf (by first | exact zdp hd (by decide) | omega) hCM16   x38 (by omega) ) (fun vr M130 hr => ?_)
                obtain ⟨hq, x131, rfl, hx131⟩ := hr
                replace hq := hq.symm; subst hq
                show zG n (0, 0) d 231 (265, [.inr (.inr (some 97)), .inl a1, .inl x13, .inl v14, .inl v15, .inl x38, zN, zN], [.inl x131]) M16 _
                refine zG_blk (c' := (266, [.inr (.inr (some 97)), .inl a1, .inl x13, .inl v14, .inl v15, .inl x38, zN, zN], [.inl (-1), .inl x131])) 1 hd0 hz (by rfl) ?_
                have j285 : ∀ (M132 : zM) , qMI M132 → qFm [105, 106, 107, 1007, 1010, 1012, 1013] M M132 → zG n (0, 0) d 231 (285, [.inr (.inr (some 97)), .inl a1, .inl x13, .inl v14, .inl v15, .inl x38, zN, zN], []) M132 (fun v M' => (qMI M' ∧ qFm [105, 106, 107, 1007, 1010, 1012, 1013] M M') ∧ ∃ x : Int, v = some (.inl x) ∧ ((-2147483648) ≤ x ∧ x ≤ 2147483647)) := by
                  intro M132 hCM132 hWM132
                  refine zG_blk (c' := (286, [.inr (.inr (some 97)), .inl a1, .inl x13, .inl v14, .inl v15, .inl x38, zN, zN], [.inl 1])) 1 hd0 hz (by rfl) ?_
                  exact j286 1 M132 (by omega) (by omega) hCM132 hWM132
                refine zG_icmp_eq hd0 hz rfl (fun hb133 => ?_) (fun hb133 => ?_)
                · exact j285 M16 hCM16 hWM16
                · refine zG_blk (c' := (272, [.inr (.inr (some 97)), .inl a1, .inl x13, .inl v14, .inl v15, .inl x38, zN, zN], [.inl x38, .inr (.inr (some 97))])) 2 hd0 hz (by rfl) ?_
                  refine zG_call hd0 hz zp_227 rfl rfl (Nat.le_of_ble_eq_true rfl) ⟨Nat.le_refl _, Nat.le_refl _⟩ (qx_signOf (by first | exact zdp hd (by decide) | omega) hCM16   x38 (by omega) ) (fun vr M134 hr => ?_)
                  obtain ⟨hq, x135, rfl, hx135⟩ := hr
                  replace hq := hq.symm; subst hq
                  show zG n (0, 0) d 231 (275, [.inr (.inr (some 97)), .inl a1, .inl x13, .inl v14, .inl v15, .inl x38, zN, zN], [.inl x135, .inr (.inr (some 97))]) M16 _
                  refine zG_call hd0 hz zp_228 rfl rfl (Nat.le_of_ble_eq_true rfl) ⟨Nat.le_refl _, Nat.le_refl _⟩ (qm_228_97 (by first | exact zdp hd (by decide) | omega) hCM16   x135 (by omega) (by omega) (by omega) (by omega) (by omega)) (fun vr M136 hr => ?_)
                  obtain ⟨⟨hCM136, hFM136⟩, x137, rfl, hx137, hpx137_0, hpx137_1, hpx137_2⟩ := hr
                  have hWM136 : qFm [105, 106, 107, 1007, 1010, 1012, 1013] M M136 := hWM16.tr hFM136 (by decide)
                  have r142 := hCM136.steps
                  have r143 := hCM136.rg 97 10 (by decide) (by decide)
                  show zG n (0, 0) d 231 (278, [.inr (.inr (some 97)), .inl a1, .inl x13, .inl v14, .inl v15, .inl x38, zN, zN], [.inl x137]) M136 _
                  refine zG_if_eq hd0 hz rfl (fun hb144 => ?_) (fun hb144 => ?_)
                  · exact j285 M136 hCM136 hWM136
                  · refine zG_blk (c' := (286, [.inr (.inr (some 97)), .inl a1, .inl x13, .inl v14, .inl v15, .inl x38, zN, zN], [.inl 0])) 2 hd0 hz (by rfl) ?_
                    exact j286 0 M136 (by omega) (by omega) hCM136 hWM136
              · refine zG_blk (c' := (254, [.inr (.inr (some 97)), .inl a1, .inl x13, .inl v14, .inl v15, .inl x38, zN, zN], [.inr (.inr (some 97))])) 1 hd0 hz (by rfl) ?_
                refine zG_call hd0 hz zp_232 rfl rfl (Nat.le_of_ble_eq_true rfl) ⟨Nat.le_refl _, Nat.le_refl _⟩ (qm_232_97 (by first | exact zdp hd (by decide) | omega) hCM16    (by omega) (by omega) (by omega)) (fun vr M145 hr => ?_)
                obtain ⟨⟨hCM145, hFM145⟩, x146, rfl, hx146, hpx146_0, hpx146_1, hpx146_2⟩ := hr
                have hWM145 : qFm [105, 106, 107, 1007, 1010, 1012, 1013] M M145 := hWM16.tr hFM145 (by decide)
                have r151 := hCM145.steps
                have r152 := hCM145.rg 97 10 (by decide) (by decide)
                show zG n (0, 0) d 231 (257, [.inr (.inr (some 97)), .inl a1, .inl x13, .inl v14, .inl v15, .inl x38, zN, zN], [.inl x146]) M145 _
                refine zG_blk (c' := (286, [.inr (.inr (some 97)), .inl a1, .inl x13, .inl v14, .inl v15, .inl x38, zN, zN], [.inl x146])) 1 hd0 hz (by rfl) ?_
                exact j286 x146 M145 (by omega) (by omega) hCM145 hWM145
          · have hcx46 := hx46.2.2.mp (by omega)
            clear hx46 hb47
            refine zG_blk (c' := (76, [.inr (.inr (some 97)), .inl a1, .inl x13, .inl v14, .inl v15, .inl x38, zN, zN], [.inl x13, .inl v15, .inl a1, .inr (.inr (some 97))])) 4 hd0 hz (by rfl) ?_
            refine zG_call hd0 hz zp_229 rfl rfl (Nat.le_of_ble_eq_true rfl) ⟨Nat.le_refl _, Nat.le_refl _⟩ (qm_229_97 (by first | exact zdp hd (by decide) | omega) hCM16   a1 (by first | with_reducible exact ha1 | omega) v15 (by first | with_reducible exact hv15 | omega) x13 (by omega) ) (fun vr M153 hr => ?_)
            obtain ⟨⟨hCM153, hFM153⟩, x154, rfl, hpx154_0, hpx154_1, hpx154_2⟩ := hr
            have hWM153 : qFm [105, 106, 107, 1007, 1010, 1012, 1013] M M153 := hWM16.tr hFM153 (by decide)
            have e155 : M153 97 7 = M16 97 7 := hFM153 97 7 (by decide)
            have e156 : M153 97 10 = M16 97 10 := hFM153 97 10 (by decide)
            have e157 : qD M153 = qD M16 := qD_fr hFM153 (by decide) (by decide)
            have e158 : qWt M153 = qWt M16 := qWt_fr hFM153 (by decide) (by decide)
            have r159 := hCM153.rg 97 13 (by decide) (by decide)
            show zG n (0, 0) d 231 (79, [.inr (.inr (some 97)), .inl a1, .inl x13, .inl v14, .inl v15, .inl x38, zN, zN], [.inr (.inl (x154))]) M153 _
            refine zG_call hd0 hz zp_230 rfl rfl (Nat.le_of_ble_eq_true rfl) ⟨Nat.le_refl _, Nat.le_refl _⟩ (qm_230 (by first | exact zdp hd (by decide) | omega) hCM153   x154 ) (fun vr M160 hr => ?_)
            obtain ⟨hq, x161, rfl, hx161⟩ := hr
            replace hq := hq.symm; subst hq
            show zG n (0, 0) d 231 (82, [.inr (.inr (some 97)), .inl a1, .inl x13, .inl v14, .inl v15, .inl x38, zN, zN], [.inl x161]) M153 _
            refine zG_blk (c' := (87, [.inr (.inr (some 97)), .inl a1, .inl x13, .inl v14, .inl v15, .inl x38, .inl x161, zN], [.inl (-1), .inl x161])) 3 hd0 hz (by rfl) ?_
            refine zG_icmp_ne hd0 hz rfl (fun hb162 => ?_) (fun hb162 => ?_)
            · refine zG_blk (c' := (102, [.inr (.inr (some 97)), .inl a1, .inl x13, .inl v14, .inl v15, .inl x38, .inl x161, zN], [.inl 9, .inl x161])) 2 hd0 hz (by rfl) ?_
              have j110 : ∀ (v163 : Int) , 0 ≤ v163 ∧ v163 ≤ 1 → ((v163 = 1 ∧ 9 < x161) ∨ (v163 = 0 ∧ x161 ≤ 9)) → zG n (0, 0) d 231 (110, [.inr (.inr (some 97)), .inl a1, .inl x13, .inl v14, .inl v15, .inl x38, .inl x161, zN], [.inl v163]) M153 (fun v M' => (qMI M' ∧ qFm [105, 106, 107, 1007, 1010, 1012, 1013] M M') ∧ ∃ x : Int, v = some (.inl x) ∧ ((-2147483648) ≤ x ∧ x ≤ 2147483647)) := by
                intro v163 hv163 hx0_110
                refine zG_blk (c' := (111, [.inr (.inr (some 97)), .inl a1, .inl x13, .inl v14, .inl v15, .inl x38, .inl x161, zN], [.inl v14, .inl v163])) 1 hd0 hz (by rfl) ?_
                have j175 : ∀ (M164 : zM) , qMI M164 → qFm [105, 106, 107, 1007, 1010, 1012, 1013] M M164 → zG n (0, 0) d 231 (175, [.inr (.inr (some 97)), .inl a1, .inl x13, .inl v14, .inl v15, .inl x38, .inl x161, zN], []) M164 (fun v M' => (qMI M' ∧ qFm [105, 106, 107, 1007, 1010, 1012, 1013] M M') ∧ ∃ x : Int, v = some (.inl x) ∧ ((-2147483648) ≤ x ∧ x ≤ 2147483647)) := by
                  intro M164 hCM164 hWM164
                  obtain ⟨x165, hx165⟩ : ∃ x : Int, x = w32 (10 * v15) := ⟨_, rfl⟩
                  have hx165r : qin x165 := by rw [hx165]; exact w32_in _
                  obtain ⟨x166, hx166⟩ : ∃ x : Int, x = w32 (x165 + 1) := ⟨_, rfl⟩
                  have hx166r : x166 = (x165 + 1 + 2147483648) % 4294967296 - 2147483648 := hx166
                  refine zG_blk (c' := (182, [.inr (.inr (some 97)), .inl a1, .inl x13, .inl v14, .inl v15, .inl x38, .inl x161, zN], [.inl x166])) 5 hd0 hz (by subst hx166; subst hx165; rfl) ?_
                  exact zG_ret hd0 hz rfl rfl ⟨⟨hCM164, hWM164⟩, _, rfl, by omega⟩
                refine zG_icmp_ne hd0 hz rfl (fun hb167 => ?_) (fun hb167 => ?_)
                · exact j175 M153 hCM153 hWM153
                · refine zG_blk (c' := (115, [.inr (.inr (some 97)), .inl a1, .inl x13, .inl v14, .inl v15, .inl x38, .inl x161, zN], [.inl v14])) 1 hd0 hz (by rfl) ?_
                  have j183 : ∀ (M168 : zM) , (0 ≤ M168 97 10) → (qD M168 = qWt M168) → ((M168 97 7 + M168 97 10 ≤ v15 ∧ x161 ≤ 9) ∨ (M168 97 7 + M168 97 10 ≤ v15 + 1 ∧ 9 < x161)) → (v15 < M168 97 13 ∧ M168 97 13 ≤ x13) → qMI M168 → qFm [105, 106, 107, 1007, 1010, 1012, 1013] M M168 → zG n (0, 0) d 231 (183, [.inr (.inr (some 97)), .inl a1, .inl x13, .inl v14, .inl v15, .inl x38, .inl x161, zN], []) M168 (fun v M' => (qMI M' ∧ qFm [105, 106, 107, 1007, 1010, 1012, 1013] M M') ∧ ∃ x : Int, v = some (.inl x) ∧ ((-2147483648) ≤ x ∧ x ≤ 2147483647)) := by
                    intro M168 hx0_183 hx1_183 hx2_183 hx3_183 hCM168 hWM168
                    have r169 := hCM168.steps
                    have r170 := hCM168.rg 97 10 (by decide) (by decide)
                    have r171 := hCM168.rg 97 13 (by decide) (by decide)
                    refine zG_blk (c' := (187, [.inr (.inr (some 97)), .inl a1, .inl x13, .inl v14, .inl v15, .inl x38, .inl x161, zN], [.inl 8, .inl x161])) 2 hd0 hz (by rfl) ?_
                    have j233 : ∀ (v172 : Int) (M173 : zM) , 0 ≤ v172 ∧ v172 ≤ 1 → (0 ≤ M173 97 10) → (qD M173 = qWt M173 + v172) → (M173 97 7 + M173 97 10 ≤ v15 + 1) → (v15 < M173 97 13 ∧ M173 97 13 ≤ x13) → qMI M173 → qFm [105, 106, 107, 1007, 1010, 1012, 1013] M M173 → zG n (0, 0) d 231 (233, [.inr (.inr (some 97)), .inl a1, .inl x13, .inl v172, .inl v15, .inl x38, .inl x161, zN], []) M173 (fun v M' => (qMI M' ∧ qFm [105, 106, 107, 1007, 1010, 1012, 1013] M M') ∧ ∃ x : Int, v = some (.inl x) ∧ ((-2147483648) ≤ x ∧ x ≤ 2147483647)) := by
                      intro v172 M173 hv172 hx0_233 hx1_233 hx2_233 hx3_233 hCM173 hWM173
                      have r174 := hCM173.steps
                      have r175 := hCM173.rg 97 10 (by decide) (by decide)
                      have r176 := hCM173.rg 97 13 (by decide) (by decide)
                      refine zG_blk (c' := (502, [.inr (.inr (some 97)), .inl a1, .inl x13, .inl v172, .inl (M173 97 13), .inl x38, .inl x161, zN], [])) 4 hd0 hz (by rfl) ?_
                      exact zG_weak (j502 v172 (M173 97 13) M173 (by omega) (by omega) (by omega) (by omega) (by omega) (by omega) (by omega) hCM173 hWM173) ⟨.inr rfl, .inr rfl, .inr rfl, .inr rfl, .inr rfl, .inr rfl, .inl rfl, .inr rfl, trivial⟩
                    refine zG_icmp_ge hd0 hz rfl (fun hb177 => ?_) (fun hb177 => ?_)
                    · refine zG_blk (c' := (212, [.inr (.inr (some 97)), .inl a1, .inl x13, .inl v14, .inl v15, .inl x38, .inl x161, zN], [.inl 10, .inl x161])) 2 hd0 hz (by rfl) ?_
                      have j231 : ∀ (M178 : zM) , (0 ≤ M178 97 10) → (qD M178 = qWt M178) → (M178 97 7 + M178 97 10 ≤ v15 + 1) → (v15 < M178 97 13 ∧ M178 97 13 ≤ x13) → qMI M178 → qFm [105, 106, 107, 1007, 1010, 1012, 1013] M M178 → zG n (0, 0) d 231 (231, [.inr (.inr (some 97)), .inl a1, .inl x13, .inl v14, .inl v15, .inl x38, .inl x161, zN], []) M178 (fun v M' => (qMI M' ∧ qFm [105, 106, 107, 1007, 1010, 1012, 1013] M M') ∧ ∃ x : Int, v = some (.inl x) ∧ ((-2147483648) ≤ x ∧ x ≤ 2147483647)) := by
                        intro M178 hx0_231 hx1_231 hx2_231 hx3_231 hCM178 hWM178
                        have r179 := hCM178.steps
                        have r180 := hCM178.rg 97 10 (by decide) (by decide)
                        have r181 := hCM178.rg 97 13 (by decide) (by decide)
                        refine zG_blk (c' := (233, [.inr (.inr (some 97)), .inl a1, .inl x13, .inl 0, .inl v15, .inl x38, .inl x161, zN], [])) 2 hd0 hz (by rfl) ?_
                        exact j233 0 M178 (by omega) (by omega) (by omega) (by omega) (by omega) hCM178 hWM178
                      refine zG_icmp_ge hd0 hz rfl (fun hb182 => ?_) (fun hb182 => ?_)
                      · exact j231 M168 (by omega) (by omega) (by omega) (by omega) hCM168 hWM168
                      · refine zG_blk (c' := (220, [.inr (.inr (some 97)), .inl a1, .inl x13, .inl v14, .inl v15, .inl x38, .inl x161, zN], [.inl 8, .inl x161, .inr (.inr (some 97))])) 3 hd0 hz (by rfl) ?_
                        have j228 : ∀ (v183 : Int) , 2 ≤ v183 ∧ v183 ≤ 4 → zG n (0, 0) d 231 (228, [.inr (.inr (some 97)), .inl a1, .inl x13, .inl v14, .inl v15, .inl x38, .inl x161, zN], [.inl v183, .inr (.inr (some 97))]) M168 (fun v M' => (qMI M' ∧ qFm [105, 106, 107, 1007, 1010, 1012, 1013] M M') ∧ ∃ x : Int, v = some (.inl x) ∧ ((-2147483648) ≤ x ∧ x ≤ 2147483647)) := by
                          intro v183 hv183
                          refine zG_call hd0 hz zp_223 rfl rfl (Nat.le_of_ble_eq_true rfl) ⟨Nat.le_refl _, Nat.le_refl _⟩ (qx_waitsWith (by first | exact zdp hd (by decide) | omega) hCM168   v183 (by first | with_reducible exact hv183 | omega) (by omega)) (fun vr M184 hr => ?_)
                          obtain ⟨⟨hCM184, hFM184⟩, rfl, hpx185_0, hpx185_1, hpx185_2⟩ := hr
                          have hWM184 : qFm [105, 106, 107, 1007, 1010, 1012, 1013] M M184 := hWM168.tr hFM184 (by decide)
                          have e186 : M184 97 7 = M168 97 7 := hFM184 97 7 (by decide)
                          have e188 : qD M184 = qD M168 := qD_fr hFM184 (by decide) (by decide)
                          have e190 : M184 97 13 = M168 97 13 := hFM184 97 13 (by decide)
                          have r191 := hCM184.rg 97 10 (by decide) (by decide)
                          show zG n (0, 0) d 231 (231, [.inr (.inr (some 97)), .inl a1, .inl x13, .inl v14, .inl v15, .inl x38, .inl x161, zN], []) M184 _
                          exact j231 M184 (by omega) (by omega) (by omega) (by omega) hCM184 hWM184
                        refine zG_icmp_ne hd0 hz rfl (fun hb192 => ?_) (fun hb192 => ?_)
                        · refine zG_blk (c' := (228, [.inr (.inr (some 97)), .inl a1, .inl x13, .inl v14, .inl v15, .inl x38, .inl x161, zN], [.inl 4, .inr (.inr (some 97))])) 1 hd0 hz (by rfl) ?_
                          exact j228 4 (by first | decide | omega)
                        · refine zG_blk (c' := (228, [.inr (.inr (some 97)), .inl a1, .inl x13, .inl v14, .inl v15, .inl x38, .inl x161, zN], [.inl 2, .inr (.inr (some 97))])) 2 hd0 hz (by rfl) ?_
                          exact j228 2 (by first | decide | omega)
                    · refine zG_blk (c' := (194, [.inr (.inr (some 97)), .inl a1, .inl x13, .inl v14, .inl v15, .inl x38, .inl x161, zN], [.inl x161, .inl 1, .inr (.inr (some 97))])) 3 hd0 hz (by rfl) ?_
                      refine zG_call hd0 hz zp_220 rfl rfl (Nat.le_of_ble_eq_true rfl) ⟨Nat.le_refl _, Nat.le_refl _⟩ (qx_emits (by first | exact zdp hd (by decide) | omega) hCM168   1 (by first | decide | omega) x161 (by omega) (by omega) (by omega) (by omega)) (fun vr M193 hr => ?_)
                      obtain ⟨⟨hCM193, hFM193⟩, rfl, hpx194_0, hpx194_1⟩ := hr
                      have hWM193 : qFm [105, 106, 107, 1007, 1010, 1012, 1013] M M193 := hWM168.tr hFM193 (by decide)
                      have e196 : M193 97 10 = M168 97 10 := hFM193 97 10 (by decide)
                      have e198 : qWt M193 = qWt M168 := qWt_fr hFM193 (by decide) (by decide)
                      have e199 : M193 97 13 = M168 97 13 := hFM193 97 13 (by decide)
                      have r200 := hCM193.steps
                      show zG n (0, 0) d 231 (197, [.inr (.inr (some 97)), .inl a1, .inl x13, .inl v14, .inl v15, .inl x38, .inl x161, zN], []) M193 _
                      refine zG_blk (c' := (200, [.inr (.inr (some 97)), .inl a1, .inl x13, .inl v14, .inl v15, .inl x38, .inl x161, zN], [.inl 8, .inr (.inr (some 97))])) 2 hd0 hz (by rfl) ?_
                      refine zG_call hd0 hz zp_224 rfl rfl (Nat.le_of_ble_eq_true rfl) ⟨Nat.le_refl _, Nat.le_refl _⟩ (qm_224_97 (by first | exact zdp hd (by decide) | omega) hCM193   8 (by first | decide | omega) (by omega) (by omega) (by omega)) (fun vr M201 hr => ?_)
                      obtain ⟨⟨hCM201, hFM201⟩, rfl, hpx202_0, hpx202_1, hpx202_2⟩ := hr
                      have hWM201 : qFm [105, 106, 107, 1007, 1010, 1012, 1013] M M201 := hWM193.tr hFM201 (by decide)
                      have e205 : M201 97 13 = M193 97 13 := hFM201 97 13 (by decide)
                      have r208 := hCM201.steps
                      have r209 := hCM201.rg 97 10 (by decide) (by decide)
                      show zG n (0, 0) d 231 (203, [.inr (.inr (some 97)), .inl a1, .inl x13, .inl v14, .inl v15, .inl x38, .inl x161, zN], []) M201 _
                      refine zG_blk (c' := (233, [.inr (.inr (some 97)), .inl a1, .inl x13, .inl 1, .inl v15, .inl x38, .inl x161, zN], [])) 3 hd0 hz (by rfl) ?_
                      exact j233 1 M201 (by omega) (by omega) (by omega) (by omega) (by omega) hCM201 hWM201
                  refine zG_if_eq hd0 hz rfl (fun hb210 => ?_) (fun hb210 => ?_)
                  · exact j183 M153 (by omega) (by omega) (by omega) (by omega) hCM153 hWM153
                  · refine zG_blk (c' := (123, [.inr (.inr (some 97)), .inl a1, .inl x13, .inl v14, .inl v15, .inl x38, .inl x161, zN], [.inl 10, .inl x161, .inr (.inr (some 97))])) 3 hd0 hz (by rfl) ?_
                    have j169 : ∀ (v211 : Int) , 12 ≤ v211 ∧ v211 ≤ 17 → (v211 ≠ 14) → zG n (0, 0) d 231 (169, [.inr (.inr (some 97)), .inl a1, .inl x13, .inl v14, .inl v15, .inl x38, .inl x161, zN], [.inl v211, .inr (.inr (some 97))]) M153 (fun v M' => (qMI M' ∧ qFm [105, 106, 107, 1007, 1010, 1012, 1013] M M') ∧ ∃ x : Int, v = some (.inl x) ∧ ((-2147483648) ≤ x ∧ x ≤ 2147483647)) := by
                      intro v211 hv211 hx0_169
                      refine zG_call hd0 hz zp_228 rfl rfl (Nat.le_of_ble_eq_true rfl) ⟨Nat.le_refl _, Nat.le_refl _⟩ (qm_228_97 (by first | exact zdp hd (by decide) | omega) hCM153   v211 (by first | with_reducible exact hv211 | omega) (by omega) (by omega) (by omega) (by omega)) (fun vr M212 hr => ?_)
                      obtain ⟨⟨hCM212, hFM212⟩, x213, rfl, hx213, hpx213_0, hpx213_1, hpx213_2⟩ := hr
                      have hWM212 : qFm [105, 106, 107, 1007, 1010, 1012, 1013] M M212 := hWM153.tr hFM212 (by decide)
                      have e218 : M212 97 13 = M153 97 13 := hFM212 97 13 (by decide)
                      have r219 := hCM212.steps
                      have r220 := hCM212.rg 97 10 (by decide) (by decide)
                      show zG n (0, 0) d 231 (172, [.inr (.inr (some 97)), .inl a1, .inl x13, .inl v14, .inl v15, .inl x38, .inl x161, zN], [.inl x213]) M212 _
                      refine zG_if_ne hd0 hz rfl (fun hb221 => ?_) (fun hb221 => ?_)
                      · exact j183 M212 (by omega) (by omega) (by omega) (by omega) hCM212 hWM212
                      · exact j175 M212 hCM212 hWM212
                    refine zG_icmp_ne hd0 hz rfl (fun hb222 => ?_) (fun hb222 => ?_)
                    · refine zG_blk (c' := (135, [.inr (.inr (some 97)), .inl a1, .inl x13, .inl v14, .inl v15, .inl x38, .inl x161, zN], [.inl 11, .inl x161, .inr (.inr (some 97))])) 2 hd0 hz (by rfl) ?_
                      refine zG_icmp_ne hd0 hz rfl (fun hb223 => ?_) (fun hb223 => ?_)
                      · refine zG_blk (c' := (147, [.inr (.inr (some 97)), .inl a1, .inl x13, .inl v14, .inl v15, .inl x38, .inl x161, zN], [.inl 12, .inl x161, .inr (.inr (some 97))])) 2 hd0 hz (by rfl) ?_
                        refine zG_icmp_ne hd0 hz rfl (fun hb224 => ?_) (fun hb224 => ?_)
                        · refine zG_blk (c' := (159, [.inr (.inr (some 97)), .inl a1, .inl x13, .inl v14, .inl v15, .inl x38, .inl x161, zN], [.inl 13, .inl x161, .inr (.inr (some 97))])) 2 hd0 hz (by rfl) ?_
                          refine zG_icmp_ne hd0 hz rfl (fun hb225 => ?_) (fun hb225 => ?_)
                          · refine zG_blk (c' := (169, [.inr (.inr (some 97)), .inl a1, .inl x13, .inl v14, .inl v15, .inl x38, .inl x161, zN], [.inl 15, .inr (.inr (some 97))])) 1 hd0 hz (by rfl) ?_
                            exact j169 15 (by first | decide | omega) (by omega)
                          · refine zG_blk (c' := (169, [.inr (.inr (some 97)), .inl a1, .inl x13, .inl v14, .inl v15, .inl x38, .inl x161, zN], [.inl 17, .inr (.inr (some 97))])) 2 hd0 hz (by rfl) ?_
                            exact j169 17 (by first | decide | omega) (by omega)
                        · refine zG_blk (c' := (169, [.inr (.inr (some 97)), .inl a1, .inl x13, .inl v14, .inl v15, .inl x38, .inl x161, zN], [.inl 16, .inr (.inr (some 97))])) 2 hd0 hz (by rfl) ?_
                          exact j169 16 (by first | decide | omega) (by omega)
                      · refine zG_blk (c' := (169, [.inr (.inr (some 97)), .inl a1, .inl x13, .inl v14, .inl v15, .inl x38, .inl x161, zN], [.inl 13, .inr (.inr (some 97))])) 2 hd0 hz (by rfl) ?_
                        exact j169 13 (by first | decide | omega) (by omega)
                    · refine zG_blk (c' := (169, [.inr (.inr (some 97)), .inl a1, .inl x13, .inl v14, .inl v15, .inl x38, .inl x161, zN], [.inl 12, .inr (.inr (some 97))])) 2 hd0 hz (by rfl) ?_
                      exact j169 12 (by first | decide | omega) (by omega)
              refine zG_icmp_le hd0 hz rfl (fun hb226 => ?_) (fun hb226 => ?_)
              · refine zG_blk (c' := (110, [.inr (.inr (some 97)), .inl a1, .inl x13, .inl v14, .inl v15, .inl x38, .inl x161, zN], [.inl 0])) 1 hd0 hz (by rfl) ?_
                exact j110 0 (by first | decide | omega) (by omega)
              · refine zG_blk (c' := (110, [.inr (.inr (some 97)), .inl a1, .inl x13, .inl v14, .inl v15, .inl x38, .inl x161, zN], [.inl 1])) 2 hd0 hz (by rfl) ?_
                exact j110 1 (by first | decide | omega) (by omega)
            · obtain ⟨x227, hx227⟩ : ∃ x : Int, x = w32 (10 * v15) := ⟨_, rfl⟩
              have hx227r : qin x227 := by rw [hx227]; exact w32_in _
              obtain ⟨x228, hx228⟩ : ∃ x : Int, x = w32 (x227 + 4) := ⟨_, rfl⟩
              have hx228r : x228 = (x227 + 4 + 2147483648) % 4294967296 - 2147483648 := hx228
              refine zG_blk (c' := (97, [.inr (.inr (some 97)), .inl a1, .inl x13, .inl v14, .inl v15, .inl x38, .inl x161, zN], [.inl x228])) 5 hd0 hz (by subst hx228; subst hx227; rfl) ?_
              exact zG_ret hd0 hz rfl rfl ⟨⟨hCM153, hWM153⟩, _, rfl, by omega⟩
        · obtain ⟨x229, hx229⟩ : ∃ x : Int, x = w32 (v15 + 1) := ⟨_, rfl⟩
          have hx229e : x229 = v15 + 1 := by rw [hx229]; exact w32_id (by omega)
          refine zG_blk (c' := (502, [.inr (.inr (some 97)), .inl a1, .inl x13, .inl v14, .inl x229, .inl x38, zN, zN], [])) 2 hd0 hz (by subst hx229; rfl) ?_
          exact j502 v14 x229 M16 (by omega) (by omega) (by omega) (by omega) (by omega) (by omega) (by omega) hCM16 hWM16
  exact j27 ((x13 - 0 : Int).toNat + 1) 0 0 M7 (by omega) (by omega) (by omega) (by omega) (by omega) (by omega) (by omega) hCM7 hWM7
