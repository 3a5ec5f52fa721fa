theorem qm_232_97 {n d : Nat} {M : zM} (hd : 5 ≤ d) (hC : qMI M)   (hp0 : 0 ≤ M 97 10) (hp1 : qD M = qWt M + 1) (hp2 : M 97 7 + M 97 10 ≤ 80) : qOkN n d 232 [.inr (.inr (some 97))] 1 [105, 106, 1007, 1010, 1012] M (fun v M' => ∃ x : Int, v = some (.inl x) ∧ (0 ≤ x ∧ x ≤ 1) ∧ (0 ≤ M' 97 10) ∧ (M' 97 7 + M' 97 10 ≤ M 97 7 + M 97 10) ∧ (x = 0 → qD M' = qWt M' + 1)) := by
  have hz := zp_232
  have hd0 : 0 < d := by omega
  have hW : qFm [105, 106, 1007, 1010, 1012] M M := qFm.rfl
  have r1 := hC.steps
  have r2 := hC.rg 97 10 (by decide) (by decide)
  show zG n (0, 0) d 232 (0, [.inr (.inr (some 97))], []) M _
  refine zG_blk (c' := (1, [.inr (.inr (some 97))], [.inr (.inr (some 97))])) 1 hd0 hz (by rfl) ?_
  refine zG_call hd0 hz zp_226 rfl rfl (Nat.le_of_ble_eq_true rfl) ⟨Nat.le_refl _, Nat.le_refl _⟩ (qm_226_97 (by first | exact zdp hd (by decide) | omega) hC    (by omega) (by omega) (by omega)) (fun vr M3 hr => ?_)
  obtain ⟨⟨hCM3, hFM3⟩, x4, rfl, hx4, hpx4_0, hpx4_1, hpx4_2⟩ := hr
  have hWM3 : qFm [105, 106, 1007, 1010, 1012] M M3 := hW.tr hFM3 (by decide)
  have r9 := hCM3.steps
  have r10 := hCM3.rg 97 10 (by decide) (by decide)
  show zG n (0, 0) d 232 (4, [.inr (.inr (some 97))], [.inl x4]) M3 _
  have j16 : zG n (0, 0) d 232 (16, [.inr (.inr (some 97))], []) M3 (fun v M' => (qMI M' ∧ qFm [105, 106, 1007, 1010, 1012] M M') ∧ ∃ x : Int, v = some (.inl x) ∧ (0 ≤ x ∧ x ≤ 1) ∧ (0 ≤ M' 97 10) ∧ (M' 97 7 + M' 97 10 ≤ M 97 7 + M 97 10) ∧ (x = 0 → qD M' = qWt M' + 1)) := by
    refine zG_blk (c' := (17, [.inr (.inr (some 97))], [.inl 1])) 1 hd0 hz (by rfl) ?_
    exact zG_ret hd0 hz rfl rfl ⟨⟨hCM3, hWM3⟩, _, rfl, by omega, by omega, by omega, by omega⟩
  refine zG_if_eq hd0 hz rfl (fun hb11 => ?_) (fun hb11 => ?_)
  · exact j16
  · refine zG_blk (c' := (8, [.inr (.inr (some 97))], [.inr (.inr (some 97))])) 1 hd0 hz (by rfl) ?_
    refine zG_call hd0 hz zp_222 rfl rfl (Nat.le_of_ble_eq_true rfl) ⟨Nat.le_refl _, Nat.le_refl _⟩ (qm_222_97 (by first | exact zdp hd (by decide) | omega) hCM3    (by omega)) (fun vr M12 hr => ?_)
    obtain ⟨hq, x13, rfl, hx13, hpx13_0⟩ := hr
    replace hq := hq.symm; subst hq
    have ht8 := hpx13_0
    obtain ⟨y8, hy8⟩ : ∃ y : Int, y = x13 := ⟨_, rfl⟩
    rw [← hy8] at ht8
    show zG n (0, 0) d 232 (11, [.inr (.inr (some 97))], [.inl x13]) M3 _
    refine zG_blk (c' := (13, [.inr (.inr (some 97))], [.inl 18, .inl x13])) 1 hd0 hz (by rfl) ?_
    refine zG_icmp_eq hd0 hz rfl (fun hb14 => ?_) (fun hb14 => ?_)
    · obtain ⟨x15, hx15⟩ : ∃ x : Int, x = w32 ((M3 97 10) - 1) := ⟨_, rfl⟩
      have hx15r : x15 = ((M3 97 10) - 1 + 2147483648) % 4294967296 - 2147483648 := hx15
      refine zG_blk (c' := (25, [.inr (.inr (some 97))], [.inl x15, .inr (.inr (some 97))])) 5 hd0 hz (by subst hx15; rfl) ?_
      refine zG_putf (.inl rfl) hd0 hz rfl (by decide) rfl rfl ?_
      obtain ⟨M16, hM16⟩ : ∃ X : zM, X = zput M3 97 10 x15 := ⟨_, rfl⟩
      rw [← hM16]
      have hCM16 : qMI M16 := by rw [hM16]; exact hCM3.put (by decide) (by decide) (by refine ⟨fun _ => ?_, fun _ => ?_, fun h => ⟨fun _ => ?_, fun _ => ?_, fun _ => ?_, fun _ => ?_, fun _ => ?_⟩, fun h => ?_, fun h => ?_⟩ <;> first | omega | exact absurd rfl (by assumption) | (rename_i h9; exact absurd h9 (by decide)))
      have hWM16 : qFm [105, 106, 1007, 1010, 1012] M M16 := by rw [hM16]; exact hWM3.put (by decide)
      have e17 : M16 97 7 = M3 97 7 := by rw [hM16]; exact qput_nk (by decide)
      have e18 : qD M16 = qD M3 := by rw [hM16]; exact qD_put (by decide) (by decide)
      have e19 : M16 97 10 = x15 := by rw [hM16]; exact qput_eq
      have ht8b := ht8 (by omega)
      have hpx : x15 = M3 97 10 - 1 := by omega
      have hpop := qWt_pop (y := y8) hM16 hpx (by omega) (by rw [hpx]; exact ht8b.2)
      have hwt := qwt_is y8
      have hnn : 0 ≤ qWt M16 := qWs_nn _ _
      show zG n (0, 0) d 232 (28, [.inr (.inr (some 97))], []) M16 _
      have r20 := hCM16.rg 97 12 (by decide) (by decide)
      obtain ⟨x21, hx21⟩ : ∃ x : Int, x = w32 ((M16 97 12) - 1) := ⟨_, rfl⟩
      have hx21r : x21 = ((M16 97 12) - 1 + 2147483648) % 4294967296 - 2147483648 := hx21
      refine zG_blk (c' := (35, [.inr (.inr (some 97))], [.inl x21, .inr (.inr (some 97))])) 5 hd0 hz (by subst hx21; rfl) ?_
      refine zG_putf (.inl rfl) hd0 hz rfl (by decide) rfl rfl ?_
      obtain ⟨M22, hM22⟩ : ∃ X : zM, X = zput M16 97 12 x21 := ⟨_, rfl⟩
      rw [← hM22]
      have hCM22 : qMI M22 := by rw [hM22]; exact hCM16.put (by decide) (by decide) (by refine ⟨fun _ => ?_, fun _ => ?_, fun h => ⟨fun _ => ?_, fun _ => ?_, fun _ => ?_, fun _ => ?_, fun _ => ?_⟩, fun h => ?_, fun h => ?_⟩ <;> first | omega | exact absurd rfl (by assumption) | (rename_i h9; exact absurd h9 (by decide)))
      have hWM22 : qFm [105, 106, 1007, 1010, 1012] M M22 := by rw [hM22]; exact hWM16.put (by decide)
      have e23 : M22 97 7 = M16 97 7 := by rw [hM22]; exact qput_nk (by decide)
      have e24 : qD M22 = qD M16 := by rw [hM22]; exact qD_put (by decide) (by decide)
      have e25 : M22 97 10 = M16 97 10 := by rw [hM22]; exact qput_nk (by decide)
      have e26 : qWt M22 = qWt M16 := by rw [hM22]; exact qWt_put (by decide) (by decide)
      have e27 : M22 97 12 = x21 := by rw [hM22]; exact qput_eq
      show zG n (0, 0) d 232 (38, [.inr (.inr (some 97))], []) M22 _
      refine zG_blk (c' := (41, [.inr (.inr (some 97))], [.inl 8, .inr (.inr (some 97))])) 2 hd0 hz (by rfl) ?_
      refine zG_call hd0 hz zp_224 rfl rfl (Nat.le_of_ble_eq_true rfl) ⟨Nat.le_refl _, Nat.le_refl _⟩ (qm_224_97 (by first | exact zdp hd (by decide) | omega) hCM22   8 (by first | decide | omega) (by omega) (by omega) (by omega)) (fun vr M28 hr => ?_)
      obtain ⟨⟨hCM28, hFM28⟩, rfl, hpx29_0, hpx29_1, hpx29_2⟩ := hr
      have hWM28 : qFm [105, 106, 1007, 1010, 1012] M M28 := hWM22.tr hFM28 (by decide)
      have e34 : M28 97 12 = M22 97 12 := hFM28 97 12 (by decide)
      have r35 := hCM28.steps
      have r36 := hCM28.rg 97 10 (by decide) (by decide)
      show zG n (0, 0) d 232 (44, [.inr (.inr (some 97))], []) M28 _
      refine zG_blk (c' := (45, [.inr (.inr (some 97))], [.inl 0])) 1 hd0 hz (by rfl) ?_
      exact zG_ret hd0 hz rfl rfl ⟨⟨hCM28, hWM28⟩, _, rfl, by omega, by omega, by omega, by omega⟩
    · exact j16
