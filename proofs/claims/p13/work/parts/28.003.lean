theorem qm_226_97 {n d : Nat} {M : zM} (hd : 4 ≤ d) (hC : qMI M)   (hp0 : 0 ≤ M 97 10) (hp1 : qD M = qWt M + 1) (hp2 : M 97 7 + M 97 10 ≤ 80) : qOkN n d 226 [.inr (.inr (some 97))] 1 [105, 106, 1007, 1010] M (fun v M' => ∃ x : Int, v = some (.inl x) ∧ (0 ≤ x ∧ x ≤ 1) ∧ (0 ≤ M' 97 10) ∧ (qD M' = qWt M' + 1) ∧ (M' 97 7 + M' 97 10 = M 97 7 + M 97 10)) := by
  have hz := zp_226
  have hd0 : 0 < d := by omega
  have hW : qFm [105, 106, 1007, 1010] M M := qFm.rfl
  have r1 := hC.steps
  have r2 := hC.rg 97 10 (by decide) (by decide)
  show zG n (0, 0) d 226 (0, [.inr (.inr (some 97))], []) M _
  refine zG_blk (c' := (1, [.inr (.inr (some 97))], [.inr (.inr (some 97))])) 1 hd0 hz (by rfl) ?_
  refine zG_call hd0 hz zp_225 rfl rfl (Nat.le_of_ble_eq_true rfl) ⟨Nat.le_refl _, Nat.le_refl _⟩ (qm_225_97 (by first | exact zdp hd (by decide) | omega) hC    (by omega) (by omega) (by omega)) (fun vr M3 hr => ?_)
  obtain ⟨⟨hCM3, hFM3⟩, x4, rfl, hx4, hpx4_0, hpx4_1, hpx4_2⟩ := hr
  have hWM3 : qFm [105, 106, 1007, 1010] M M3 := hW.tr hFM3 (by decide)
  have r9 := hCM3.steps
  have r10 := hCM3.rg 97 10 (by decide) (by decide)
  show zG n (0, 0) d 226 (4, [.inr (.inr (some 97))], [.inl x4]) M3 _
  refine zG_if_ne hd0 hz rfl (fun hb11 => ?_) (fun hb11 => ?_)
  · refine zG_blk (c' := (10, [.inr (.inr (some 97))], [.inr (.inr (some 97))])) 1 hd0 hz (by rfl) ?_
    refine zG_call hd0 hz zp_222 rfl rfl (Nat.le_of_ble_eq_true rfl) ⟨Nat.le_refl _, Nat.le_refl _⟩ (qm_222_97 (by first | exact zdp hd (by decide) | omega) hCM3    (by omega)) (fun vr M12 hr => ?_)
    obtain ⟨hq, x13, rfl, hx13, hpx13_0⟩ := hr
    replace hq := hq.symm; subst hq
    have ht10 := hpx13_0
    obtain ⟨y10, hy10⟩ : ∃ y : Int, y = x13 := ⟨_, rfl⟩
    rw [← hy10] at ht10
    show zG n (0, 0) d 226 (13, [.inr (.inr (some 97))], [.inl x13]) M3 _
    refine zG_blk (c' := (15, [.inr (.inr (some 97))], [.inl 15, .inl x13])) 1 hd0 hz (by rfl) ?_
    have j35 : ∀ (M14 : zM) , (0 ≤ M14 97 10) → (qD M14 = qWt M14 + 1) → (M14 97 7 + M14 97 10 = M 97 7 + M 97 10) → qMI M14 → qFm [105, 106, 1007, 1010] M M14 → zG n (0, 0) d 226 (35, [.inr (.inr (some 97))], []) M14 (fun v M' => (qMI M' ∧ qFm [105, 106, 1007, 1010] M M') ∧ ∃ x : Int, v = some (.inl x) ∧ (0 ≤ x ∧ x ≤ 1) ∧ (0 ≤ M' 97 10) ∧ (qD M' = qWt M' + 1) ∧ (M' 97 7 + M' 97 10 = M 97 7 + M 97 10)) := by
      intro M14 hx0_35 hx1_35 hx2_35 hCM14 hWM14
      have r15 := hCM14.steps
      have r16 := hCM14.rg 97 10 (by decide) (by decide)
      refine zG_blk (c' := (36, [.inr (.inr (some 97))], [.inl 1])) 1 hd0 hz (by rfl) ?_
      exact zG_ret hd0 hz rfl rfl ⟨⟨hCM14, hWM14⟩, _, rfl, by omega, by omega, by omega, by omega⟩
    refine zG_icmp_ne hd0 hz rfl (fun hb17 => ?_) (fun hb17 => ?_)
    · exact j35 M3 (by omega) (by omega) (by omega) hCM3 hWM3
    · obtain ⟨x18, hx18⟩ : ∃ x : Int, x = w32 ((M3 97 10) - 1) := ⟨_, rfl⟩
      have hx18r : x18 = ((M3 97 10) - 1 + 2147483648) % 4294967296 - 2147483648 := hx18
      refine zG_blk (c' := (25, [.inr (.inr (some 97))], [.inl x18, .inr (.inr (some 97))])) 5 hd0 hz (by subst hx18; rfl) ?_
      refine zG_putf (.inl rfl) hd0 hz rfl (by decide) rfl rfl ?_
      obtain ⟨M19, hM19⟩ : ∃ X : zM, X = zput M3 97 10 x18 := ⟨_, rfl⟩
      rw [← hM19]
      have hCM19 : qMI M19 := by rw [hM19]; exact hCM3.put (by decide) (by decide) (by refine ⟨fun _ => ?_, fun _ => ?_, fun h => ⟨fun _ => ?_, fun _ => ?_, fun _ => ?_, fun _ => ?_, fun _ => ?_⟩, fun h => ?_, fun h => ?_⟩ <;> first | omega | exact absurd rfl (by assumption) | (rename_i h9; exact absurd h9 (by decide)))
      have hWM19 : qFm [105, 106, 1007, 1010] M M19 := by rw [hM19]; exact hWM3.put (by decide)
      have e20 : M19 97 7 = M3 97 7 := by rw [hM19]; exact qput_nk (by decide)
      have e21 : qD M19 = qD M3 := by rw [hM19]; exact qD_put (by decide) (by decide)
      have e22 : M19 97 10 = x18 := by rw [hM19]; exact qput_eq
      have ht10b := ht10 (by omega)
      have hpx : x18 = M3 97 10 - 1 := by omega
      have hpop := qWt_pop (y := y10) hM19 hpx (by omega) (by rw [hpx]; exact ht10b.2)
      have hwt := qwt_is y10
      have hnn : 0 ≤ qWt M19 := qWs_nn _ _
      show zG n (0, 0) d 226 (28, [.inr (.inr (some 97))], []) M19 _
      refine zG_blk (c' := (32, [.inr (.inr (some 97))], [.inl 0, .inl 15, .inr (.inr (some 97))])) 3 hd0 hz (by rfl) ?_
      refine zG_call hd0 hz zp_220 rfl rfl (Nat.le_of_ble_eq_true rfl) ⟨Nat.le_refl _, Nat.le_refl _⟩ (qx_emits (by first | exact zdp hd (by decide) | omega) hCM19   15 (by first | decide | omega) 0 (by first | decide | omega) (by omega) (by omega) (by omega)) (fun vr M23 hr => ?_)
      obtain ⟨⟨hCM23, hFM23⟩, rfl, hpx24_0, hpx24_1⟩ := hr
      have hWM23 : qFm [105, 106, 1007, 1010] M M23 := hWM19.tr hFM23 (by decide)
      have e27 : M23 97 10 = M19 97 10 := hFM23 97 10 (by decide)
      have e28 : qWt M23 = qWt M19 := qWt_fr hFM23 (by decide) (by decide)
      have r29 := hCM23.steps
      show zG n (0, 0) d 226 (35, [.inr (.inr (some 97))], []) M23 _
      exact j35 M23 (by omega) (by omega) (by omega) hCM23 hWM23
  · refine zG_blk (c' := (8, [.inr (.inr (some 97))], [.inl 0])) 1 hd0 hz (by rfl) ?_
    exact zG_ret hd0 hz rfl rfl ⟨⟨hCM3, hWM3⟩, _, rfl, by omega, by omega, by omega, by omega⟩
