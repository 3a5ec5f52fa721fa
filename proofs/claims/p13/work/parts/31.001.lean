theorem qm_261_97 {n d : Nat} {M : zM} (hd : 2 ≤ d) (hC : qMI M)  (a1 : Int) (ha1 : 0 ≤ a1 ∧ a1 ≤ 16383) (a2 : Int) (ha2 : 0 ≤ a2 ∧ a2 ≤ 2) : qOkN n d 261 [.inr (.inr (some 97)), .inl a1, .inl a2] 5 [115, 1030] M (fun v M' => v = none) := by
  have hz := zp_261
  have hd0 : 0 < d := by omega
  have hW : qFm [115, 1030] M M := qFm.rfl
  show zG n (0, 0) d 261 (0, [.inr (.inr (some 97)), .inl a1, .inl a2, zN, zN], []) M _
  refine zG_blk (c' := (3, [.inr (.inr (some 97)), .inl a1, .inl a2, zN, zN], [.inl a2, .inl a1, .inr (.inr (some 97))])) 3 hd0 hz (by rfl) ?_
  refine zG_call hd0 hz zp_260 rfl rfl (Nat.le_of_ble_eq_true rfl) ⟨Nat.le_refl _, Nat.le_refl _⟩ (qm_260_97 (by first | exact zdp hd (by decide) | omega) hC   a1 (by first | with_reducible exact ha1 | omega) a2 (by first | with_reducible exact ha2 | omega) ) (fun vr M1 hr => ?_)
  obtain ⟨hq, x2, rfl, hx2⟩ := hr
  replace hq := hq.symm; subst hq
  show zG n (0, 0) d 261 (6, [.inr (.inr (some 97)), .inl a1, .inl a2, zN, zN], [.inl x2]) M _
  refine zG_blk (c' := (9, [.inr (.inr (some 97)), .inl a1, .inl a2, .inl x2, zN], [.inl 0, .inr (.inr (some 97))])) 3 hd0 hz (by rfl) ?_
  refine zG_putf (.inl rfl) hd0 hz rfl (by decide) rfl rfl ?_
  obtain ⟨M3, hM3⟩ : ∃ X : zM, X = zput M 97 30 0 := ⟨_, rfl⟩
  rw [← hM3]
  have hCM3 : qMI M3 := by rw [hM3]; exact hC.put (by decide) (by decide) (by refine ⟨fun _ => ?_, fun _ => ?_, fun h => ⟨fun _ => ?_, fun _ => ?_, fun _ => ?_, fun _ => ?_, fun _ => ?_⟩, fun h => ?_, fun h => ?_⟩ <;> first | omega | exact absurd rfl (by assumption) | (rename_i h9; exact absurd h9 (by decide)))
  have hWM3 : qFm [115, 1030] M M3 := by rw [hM3]; exact hW.put (by decide)
  have e4 : M3 97 30 = 0 := by rw [hM3]; exact qput_eq
  show zG n (0, 0) d 261 (12, [.inr (.inr (some 97)), .inl a1, .inl a2, .inl x2, zN], []) M3 _
  refine zG_blk (c' := (15, [.inr (.inr (some 97)), .inl a1, .inl a2, .inl x2, .inl 0], [])) 2 hd0 hz (by rfl) ?_
  have j15 : ∀ (N : Nat) (v5 : Int) (M6 : zM) , (14 - v5 : Int).toNat < N → 0 ≤ v5 ∧ v5 ≤ 14 → (M6 97 30 ≤ v5) → qMI M6 → qFm [115, 1030] M M6 → zG n (0, 0) d 261 (15, [.inr (.inr (some 97)), .inl a1, .inl a2, .inl x2, .inl v5], []) M6 (fun v M' => (qMI M' ∧ qFm [115, 1030] M M') ∧ v = none) := by
    intro N
    induction N with
    | zero => intro v5 M6 hN hv5 hx0_15 hCM6 hWM6; exact absurd hN (Nat.not_lt_zero _)
    | succ N ih15 =>
      intro v5 M6 hN hv5 hx0_15 hCM6 hWM6
      have r7 := hCM6.f30
      refine zG_blk (c' := (19, [.inr (.inr (some 97)), .inl a1, .inl a2, .inl x2, .inl v5], [.inl 14, .inl v5])) 2 hd0 hz (by rfl) ?_
      refine zG_icmp_ge hd0 hz rfl (fun hb8 => ?_) (fun hb8 => ?_)
      · exact zG_ret hd0 hz rfl rfl ⟨⟨hCM6, hWM6⟩, rfl⟩
      · obtain ⟨x9, hx9⟩ : ∃ x : Int, x = zbshr x2 v5 := ⟨_, rfl⟩
        have hx9r := qbshr_n x2 v5 (by first | with_reducible exact hv5 | omega); rw [← hx9] at hx9r
        obtain ⟨x10, hx10⟩ : ∃ x : Int, x = zband x9 1 := ⟨_, rfl⟩
        have hx10r := qband_lr x9 1 (by first | decide | omega) (by omega); rw [← hx10] at hx10r
        refine zG_blk (c' := (29, [.inr (.inr (some 97)), .inl a1, .inl a2, .inl x2, .inl v5], [.inl 1, .inl x10])) 6 hd0 hz (by subst hx10; subst hx9; rfl) ?_
        have j53 : ∀ (M11 : zM) , (M11 97 30 ≤ v5 + 1) → qMI M11 → qFm [115, 1030] M M11 → zG n (0, 0) d 261 (53, [.inr (.inr (some 97)), .inl a1, .inl a2, .inl x2, .inl v5], []) M11 (fun v M' => (qMI M' ∧ qFm [115, 1030] M M') ∧ v = none) := by
          intro M11 hx0_53 hCM11 hWM11
          have r12 := hCM11.f30
          obtain ⟨x13, hx13⟩ : ∃ x : Int, x = w32 (v5 + 1) := ⟨_, rfl⟩
          have hx13e : x13 = v5 + 1 := by rw [hx13]; exact w32_id (by omega)
          refine zG_blk (c' := (15, [.inr (.inr (some 97)), .inl a1, .inl a2, .inl x2, .inl x13], [])) 2 hd0 hz (by subst hx13; rfl) ?_
          exact ih15 x13 M11 (by omega) (by omega) (by omega) hCM11 hWM11
        refine zG_icmp_ne hd0 hz rfl (fun hb14 => ?_) (fun hb14 => ?_)
        · exact j53 M6 (by omega) hCM6 hWM6
        · refine zG_blk (c' := (42, [.inr (.inr (some 97)), .inl a1, .inl a2, .inl x2, .inl v5], [.inl v5, .inl (M6 97 30), .inr (.inr (some 115))])) 5 hd0 hz (by rfl) ?_
          refine zG_iast hd0 hz rfl rfl (by omega) ?_
          obtain ⟨M15, hM15⟩ : ∃ X : zM, X = zput M6 115 ((M6 97 30) : Int).toNat v5 := ⟨_, rfl⟩
          rw [← hM15]
          have hCM15 : qMI M15 := by rw [hM15]; exact hCM6.put (by decide) (qCd_a (by decide) (by decide)) (by refine ⟨fun h => ?_, fun _ => ?_, fun h => ?_, fun h => ?_, fun h => ?_⟩ <;> first | omega | exact absurd h (by decide))
          have hWM15 : qFm [115, 1030] M M15 := by rw [hM15]; exact hWM6.pa (by decide) (by decide)
          have e16 : M15 97 30 = M6 97 30 := by rw [hM15]; exact qput_ne (by decide)
          show zG n (0, 0) d 261 (43, [.inr (.inr (some 97)), .inl a1, .inl a2, .inl x2, .inl v5], []) M15 _
          obtain ⟨x17, hx17⟩ : ∃ x : Int, x = w32 ((M15 97 30) + 1) := ⟨_, rfl⟩
          have hx17e : x17 = (M15 97 30) + 1 := by rw [hx17]; exact w32_id (by omega)
          refine zG_blk (c' := (50, [.inr (.inr (some 97)), .inl a1, .inl a2, .inl x2, .inl v5], [.inl x17, .inr (.inr (some 97))])) 5 hd0 hz (by subst hx17; rfl) ?_
          refine zG_putf (.inl rfl) hd0 hz rfl (by decide) rfl rfl ?_
          obtain ⟨M18, hM18⟩ : ∃ X : zM, X = zput M15 97 30 x17 := ⟨_, rfl⟩
          rw [← hM18]
          have hCM18 : qMI M18 := by rw [hM18]; exact hCM15.put (by decide) (by decide) (by refine ⟨fun _ => ?_, fun _ => ?_, fun h => ⟨fun _ => ?_, fun _ => ?_, fun _ => ?_, fun _ => ?_, fun _ => ?_⟩, fun h => ?_, fun h => ?_⟩ <;> first | omega | exact absurd rfl (by assumption) | (rename_i h9; exact absurd h9 (by decide)))
          have hWM18 : qFm [115, 1030] M M18 := by rw [hM18]; exact hWM15.put (by decide)
          have e19 : M18 97 30 = x17 := by rw [hM18]; exact qput_eq
          show zG n (0, 0) d 261 (53, [.inr (.inr (some 97)), .inl a1, .inl a2, .inl x2, .inl v5], []) M18 _
          exact j53 M18 (by omega) hCM18 hWM18
  exact j15 ((14 - 0 : Int).toNat + 1) 0 M3 (by omega) (by omega) (by omega) hCM3 hWM3
