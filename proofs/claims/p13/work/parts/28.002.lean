theorem qm_225_97 {n d : Nat} {M : zM} (hd : 3 ≤ d) (hC : qMI M)   (hp0 : 0 ≤ M 97 10) (hp1 : qD M = qWt M + 1) (hp2 : M 97 7 + M 97 10 ≤ 80) : qOkN n d 225 [.inr (.inr (some 97))] 1 [105, 106, 1007, 1010] M (fun v M' => ∃ x : Int, v = some (.inl x) ∧ (0 ≤ x ∧ x ≤ 1) ∧ (0 ≤ M' 97 10) ∧ (qD M' = qWt M' + 1) ∧ (M' 97 7 + M' 97 10 = M 97 7 + M 97 10)) := by
  have hz := zp_225
  have hd0 : 0 < d := by omega
  have hW : qFm [105, 106, 1007, 1010] M M := qFm.rfl
  have r1 := hC.steps
  have r2 := hC.rg 97 10 (by decide) (by decide)
  show zG n (0, 0) d 225 (0, [.inr (.inr (some 97))], []) M _
  refine zG_blk (c' := (2, [.inr (.inr (some 97))], [.inl 3, .inr (.inr (some 97))])) 2 hd0 hz (by rfl) ?_
  refine zG_call hd0 hz zp_224 rfl rfl (Nat.le_of_ble_eq_true rfl) ⟨Nat.le_refl _, Nat.le_refl _⟩ (qm_224_97 (by first | exact zdp hd (by decide) | omega) hC   3 (by first | decide | omega) (by omega) (by omega) (by omega)) (fun vr M3 hr => ?_)
  obtain ⟨⟨hCM3, hFM3⟩, rfl, hpx4_0, hpx4_1, hpx4_2⟩ := hr
  have hWM3 : qFm [105, 106, 1007, 1010] M M3 := hW.tr hFM3 (by decide)
  have r9 := hCM3.steps
  have r10 := hCM3.rg 97 10 (by decide) (by decide)
  show zG n (0, 0) d 225 (5, [.inr (.inr (some 97))], []) M3 _
  have j5 : ∀ (N : Nat) (M11 : zM) , (M11 97 10 : Int).toNat < N → (0 ≤ M11 97 10) → (qD M11 = qWt M11 + 1) → (M11 97 7 + M11 97 10 = M 97 7 + M 97 10) → qMI M11 → qFm [105, 106, 1007, 1010] M M11 → zG n (0, 0) d 225 (5, [.inr (.inr (some 97))], []) M11 (fun v M' => (qMI M' ∧ qFm [105, 106, 1007, 1010] M M') ∧ ∃ x : Int, v = some (.inl x) ∧ (0 ≤ x ∧ x ≤ 1) ∧ (0 ≤ M' 97 10) ∧ (qD M' = qWt M' + 1) ∧ (M' 97 7 + M' 97 10 = M 97 7 + M 97 10)) := by
    intro N
    induction N with
    | zero => intro M11 hN hx0_5 hx1_5 hx2_5 hCM11 hWM11; exact absurd hN (Nat.not_lt_zero _)
    | succ N ih5 =>
      intro M11 hN hx0_5 hx1_5 hx2_5 hCM11 hWM11
      have r12 := hCM11.steps
      have r13 := hCM11.rg 97 10 (by decide) (by decide)
      refine zG_blk (c' := (6, [.inr (.inr (some 97))], [.inr (.inr (some 97))])) 1 hd0 hz (by rfl) ?_
      refine zG_call hd0 hz zp_222 rfl rfl (Nat.le_of_ble_eq_true rfl) ⟨Nat.le_refl _, Nat.le_refl _⟩ (qm_222_97 (by first | exact zdp hd (by decide) | omega) hCM11    (by omega)) (fun vr M14 hr => ?_)
      obtain ⟨hq, x15, rfl, hx15, hpx15_0⟩ := hr
      replace hq := hq.symm; subst hq
      have ht6 := hpx15_0
      obtain ⟨y6, hy6⟩ : ∃ y : Int, y = x15 := ⟨_, rfl⟩
      rw [← hy6] at ht6
      show zG n (0, 0) d 225 (9, [.inr (.inr (some 97))], [.inl x15]) M11 _
      refine zG_blk (c' := (11, [.inr (.inr (some 97))], [.inl 17, .inl x15])) 1 hd0 hz (by rfl) ?_
      refine zG_icmp_ne hd0 hz rfl (fun hb16 => ?_) (fun hb16 => ?_)
      · refine zG_blk (c' := (35, [.inr (.inr (some 97))], [.inr (.inr (some 97))])) 1 hd0 hz (by rfl) ?_
        refine zG_call hd0 hz zp_222 rfl rfl (Nat.le_of_ble_eq_true rfl) ⟨Nat.le_refl _, Nat.le_refl _⟩ (qm_222_97 (by first | exact zdp hd (by decide) | omega) hCM11    (by omega)) (fun vr M17 hr => ?_)
        obtain ⟨hq, x18, rfl, hx18, hpx18_0⟩ := hr
        replace hq := hq.symm; subst hq
        show zG n (0, 0) d 225 (38, [.inr (.inr (some 97))], [.inl x18]) M11 _
        refine zG_blk (c' := (40, [.inr (.inr (some 97))], [.inl 16, .inl x18])) 1 hd0 hz (by rfl) ?_
        have j48 : ∀ (v19 : Int) , 0 ≤ v19 ∧ v19 ≤ 1 → zG n (0, 0) d 225 (48, [.inr (.inr (some 97))], [.inl v19]) M11 (fun v M' => (qMI M' ∧ qFm [105, 106, 1007, 1010] M M') ∧ ∃ x : Int, v = some (.inl x) ∧ (0 ≤ x ∧ x ≤ 1) ∧ (0 ≤ M' 97 10) ∧ (qD M' = qWt M' + 1) ∧ (M' 97 7 + M' 97 10 = M 97 7 + M 97 10)) := by
          intro v19 hv19
          exact zG_zret hd0 hz rfl (by omega) ⟨⟨hCM11, hWM11⟩, _, rfl, by omega, by omega, by omega, by omega⟩
        refine zG_icmp_eq hd0 hz rfl (fun hb20 => ?_) (fun hb20 => ?_)
        · refine zG_blk (c' := (48, [.inr (.inr (some 97))], [.inl 0])) 1 hd0 hz (by rfl) ?_
          exact j48 0 (by first | decide | omega)
        · refine zG_blk (c' := (48, [.inr (.inr (some 97))], [.inl 1])) 2 hd0 hz (by rfl) ?_
          exact j48 1 (by first | decide | omega)
      · obtain ⟨x21, hx21⟩ : ∃ x : Int, x = w32 ((M11 97 10) - 1) := ⟨_, rfl⟩
        have hx21r : x21 = ((M11 97 10) - 1 + 2147483648) % 4294967296 - 2147483648 := hx21
        refine zG_blk (c' := (21, [.inr (.inr (some 97))], [.inl x21, .inr (.inr (some 97))])) 5 hd0 hz (by subst hx21; rfl) ?_
        refine zG_putf (.inl rfl) hd0 hz rfl (by decide) rfl rfl ?_
        obtain ⟨M22, hM22⟩ : ∃ X : zM, X = zput M11 97 10 x21 := ⟨_, rfl⟩
        rw [← hM22]
        have hCM22 : qMI M22 := by rw [hM22]; exact hCM11.put (by decide) (by decide) (by refine ⟨fun _ => ?_, fun _ => ?_, fun h => ⟨fun _ => ?_, fun _ => ?_, fun _ => ?_, fun _ => ?_, fun _ => ?_⟩, fun h => ?_, fun h => ?_⟩ <;> first | omega | exact absurd rfl (by assumption) | (rename_i h9; exact absurd h9 (by decide)))
        have hWM22 : qFm [105, 106, 1007, 1010] M M22 := by rw [hM22]; exact hWM11.put (by decide)
        have e23 : M22 97 7 = M11 97 7 := by rw [hM22]; exact qput_nk (by decide)
        have e24 : qD M22 = qD M11 := by rw [hM22]; exact qD_put (by decide) (by decide)
        have e25 : M22 97 10 = x21 := by rw [hM22]; exact qput_eq
        have ht6b := ht6 (by omega)
        have hpx : x21 = M11 97 10 - 1 := by omega
        have hpop := qWt_pop (y := y6) hM22 hpx (by omega) (by rw [hpx]; exact ht6b.2)
        have hwt := qwt_is y6
        have hnn : 0 ≤ qWt M22 := qWs_nn _ _
        show zG n (0, 0) d 225 (24, [.inr (.inr (some 97))], []) M22 _
        refine zG_blk (c' := (28, [.inr (.inr (some 97))], [.inl 0, .inl 14, .inr (.inr (some 97))])) 3 hd0 hz (by rfl) ?_
        refine zG_call hd0 hz zp_220 rfl rfl (Nat.le_of_ble_eq_true rfl) ⟨Nat.le_refl _, Nat.le_refl _⟩ (qx_emits (by first | exact zdp hd (by decide) | omega) hCM22   14 (by first | decide | omega) 0 (by first | decide | omega) (by omega) (by omega) (by omega)) (fun vr M26 hr => ?_)
        obtain ⟨⟨hCM26, hFM26⟩, rfl, hpx27_0, hpx27_1⟩ := hr
        have hWM26 : qFm [105, 106, 1007, 1010] M M26 := hWM22.tr hFM26 (by decide)
        have e30 : M26 97 10 = M22 97 10 := hFM26 97 10 (by decide)
        have e31 : qWt M26 = qWt M22 := qWt_fr hFM26 (by decide) (by decide)
        have r32 := hCM26.steps
        show zG n (0, 0) d 225 (31, [.inr (.inr (some 97))], []) M26 _
        refine zG_blk (c' := (5, [.inr (.inr (some 97))], [])) 1 hd0 hz (by rfl) ?_
        exact ih5 M26 (by omega) (by omega) (by omega) (by omega) hCM26 hWM26
  exact j5 ((M3 97 10 : Int).toNat + 1) M3 (by omega) (by omega) (by omega) (by omega) hCM3 hWM3
