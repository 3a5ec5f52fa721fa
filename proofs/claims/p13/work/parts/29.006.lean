theorem qm_239_97 {n d : Nat} {M : zM} (hd : 1 ≤ d) (hC : qMI M)   : qOkN n d 239 [.inr (.inr (some 97))] 2 [108, 1020] M (fun v M' => v = none) := by
  have hz := zp_239
  have hd0 : 0 < d := by omega
  have hW : qFm [108, 1020] M M := qFm.rfl
  show zG n (0, 0) d 239 (0, [.inr (.inr (some 97)), zN], []) M _
  refine zG_blk (c' := (2, [.inr (.inr (some 97)), zN], [.inl 1, .inr (.inr (some 97))])) 2 hd0 hz (by rfl) ?_
  refine zG_putf (.inr ⟨rfl, by omega⟩) hd0 hz rfl (by decide) rfl rfl ?_
  obtain ⟨M1, hM1⟩ : ∃ X : zM, X = zput M 97 20 1 := ⟨_, rfl⟩
  rw [← hM1]
  have hCM1 : qMI M1 := by rw [hM1]; exact hC.put (by decide) (by decide) (by refine ⟨fun _ => ?_, fun _ => ?_, fun h => ⟨fun _ => ?_, fun _ => ?_, fun _ => ?_, fun _ => ?_, fun _ => ?_⟩, fun h => ?_, fun h => ?_⟩ <;> first | omega | exact absurd rfl (by assumption) | (rename_i h9; exact absurd h9 (by decide)))
  have hWM1 : qFm [108, 1020] M M1 := by rw [hM1]; exact hW.put (by decide)
  have e2 : M1 97 20 = 1 := by rw [hM1]; exact qput_eq
  show zG n (0, 0) d 239 (5, [.inr (.inr (some 97)), zN], []) M1 _
  refine zG_blk (c' := (13, [.inr (.inr (some 97)), zN], [.inr (.inl ((-1))), .inl 0, .inr (.inr (some 108))])) 4 hd0 hz (by rfl) ?_
  refine zG_last hd0 hz rfl rfl (by omega) ?_
  obtain ⟨M3, hM3⟩ : ∃ X : zM, X = zput M1 108 (0 : Int).toNat (-1) := ⟨_, rfl⟩
  rw [← hM3]
  have hCM3 : qMI M3 := by rw [hM3]; exact hCM1.put (by decide) (qCd_a (by decide) (by decide)) (by refine ⟨fun h => ?_, fun _ => ?_, fun h => ?_, fun h => ?_, fun h => ?_⟩ <;> first | exact absurd h (Bool.noConfusion ∘ Eq.trans (Eq.symm (rfl : qLJ 108 _ = true))) | omega)
  have hWM3 : qFm [108, 1020] M M3 := by rw [hM3]; exact hWM1.pa (by decide) (by decide)
  have e4 : M3 97 20 = M1 97 20 := by rw [hM3]; exact qput_ne (by decide)
  show zG n (0, 0) d 239 (14, [.inr (.inr (some 97)), zN], []) M3 _
  refine zG_blk (c' := (16, [.inr (.inr (some 97)), .inl 1], [])) 2 hd0 hz (by rfl) ?_
  have j16 : ∀ (N : Nat) (v5 : Int) (M6 : zM) , (5 - v5 : Int).toNat < N → 1 ≤ v5 ∧ v5 ≤ 5 → qMI M6 → qFm [108, 1020] M M6 → zG n (0, 0) d 239 (16, [.inr (.inr (some 97)), .inl v5], []) M6 (fun v M' => (qMI M' ∧ qFm [108, 1020] M M') ∧ v = none) := by
    intro N
    induction N with
    | zero => intro v5 M6 hN hv5 hCM6 hWM6; exact absurd hN (Nat.not_lt_zero _)
    | succ N ih16 =>
      intro v5 M6 hN hv5 hCM6 hWM6
      refine zG_blk (c' := (18, [.inr (.inr (some 97)), .inl v5], [.inl 5, .inl v5])) 2 hd0 hz (by rfl) ?_
      refine zG_icmp_ge hd0 hz rfl (fun hb7 => ?_) (fun hb7 => ?_)
      · refine zG_blk (c' := (43, [.inr (.inr (some 97)), .inl v5], [.inr (.inl (M6 97 22)), .inl 5, .inr (.inr (some 108))])) 5 hd0 hz (by rfl) ?_
        refine zG_last hd0 hz rfl rfl (by omega) ?_
        obtain ⟨M8, hM8⟩ : ∃ X : zM, X = zput M6 108 (5 : Int).toNat (M6 97 22) := ⟨_, rfl⟩
        rw [← hM8]
        have hCM8 : qMI M8 := by rw [hM8]; exact hCM6.put (by decide) (qCd_a (by decide) (by decide)) (by refine ⟨fun h => ?_, fun _ => ?_, fun h => ?_, fun h => ?_, fun h => ?_⟩ <;> first | exact absurd h (Bool.noConfusion ∘ Eq.trans (Eq.symm (rfl : qLJ 108 _ = true))) | omega)
        have hWM8 : qFm [108, 1020] M M8 := by rw [hM8]; exact hWM6.pa (by decide) (by decide)
        show zG n (0, 0) d 239 (44, [.inr (.inr (some 97)), .inl v5], []) M8 _
        have r9 := hCM8.rg 97 19 (by decide) (by decide)
        obtain ⟨x10, hx10⟩ : ∃ x : Int, x = w64 ((M8 97 23) + (M8 97 19)) := ⟨_, rfl⟩
        refine zG_blk (c' := (60, [.inr (.inr (some 97)), .inl v5], [.inr (.inl (x10)), .inl 6, .inr (.inr (some 108))])) 9 hd0 hz (by subst hx10; rfl) ?_
        refine zG_last hd0 hz rfl rfl (by omega) ?_
        obtain ⟨M11, hM11⟩ : ∃ X : zM, X = zput M8 108 (6 : Int).toNat x10 := ⟨_, rfl⟩
        rw [← hM11]
        have hCM11 : qMI M11 := by rw [hM11]; exact hCM8.put (by decide) (qCd_a (by decide) (by decide)) (by refine ⟨fun h => ?_, fun _ => ?_, fun h => ?_, fun h => ?_, fun h => ?_⟩ <;> first | exact absurd h (Bool.noConfusion ∘ Eq.trans (Eq.symm (rfl : qLJ 108 _ = true))) | omega)
        have hWM11 : qFm [108, 1020] M M11 := by rw [hM11]; exact hWM8.pa (by decide) (by decide)
        have e12 : M11 97 19 = M8 97 19 := by rw [hM11]; exact qput_ne (by decide)
        show zG n (0, 0) d 239 (61, [.inr (.inr (some 97)), .inl v5], []) M11 _
        have r13 := hCM11.f18
        refine zG_blk (c' := (72, [.inr (.inr (some 97)), .inl v5], [.inr (.inl ((M11 97 18))), .inl 7, .inr (.inr (some 108))])) 6 hd0 hz (by rfl) ?_
        refine zG_last hd0 hz rfl rfl (by omega) ?_
        obtain ⟨M14, hM14⟩ : ∃ X : zM, X = zput M11 108 (7 : Int).toNat (M11 97 18) := ⟨_, rfl⟩
        rw [← hM14]
        have hCM14 : qMI M14 := by rw [hM14]; exact hCM11.put (by decide) (qCd_a (by decide) (by decide)) (by refine ⟨fun h => ?_, fun _ => ?_, fun h => ?_, fun h => ?_, fun h => ?_⟩ <;> first | exact absurd h (Bool.noConfusion ∘ Eq.trans (Eq.symm (rfl : qLJ 108 _ = true))) | omega)
        have hWM14 : qFm [108, 1020] M M14 := by rw [hM14]; exact hWM11.pa (by decide) (by decide)
        have e15 : M14 97 19 = M11 97 19 := by rw [hM14]; exact qput_ne (by decide)
        have e16 : M14 97 18 = M11 97 18 := by rw [hM14]; exact qput_ne (by decide)
        show zG n (0, 0) d 239 (73, [.inr (.inr (some 97)), .inl v5], []) M14 _
        exact zG_ret hd0 hz rfl rfl ⟨⟨hCM14, hWM14⟩, rfl⟩
      · refine zG_blk (c' := (27, [.inr (.inr (some 97)), .inl v5], [.inr (.inl (0)), .inl v5, .inr (.inr (some 108))])) 4 hd0 hz (by rfl) ?_
        refine zG_last hd0 hz rfl rfl (by omega) ?_
        obtain ⟨M17, hM17⟩ : ∃ X : zM, X = zput M6 108 (v5 : Int).toNat 0 := ⟨_, rfl⟩
        rw [← hM17]
        have hCM17 : qMI M17 := by rw [hM17]; exact hCM6.put (by decide) (qCd_a (by decide) (by decide)) (by refine ⟨fun h => ?_, fun _ => ?_, fun h => ?_, fun h => ?_, fun h => ?_⟩ <;> first | exact absurd h (Bool.noConfusion ∘ Eq.trans (Eq.symm (rfl : qLJ 108 _ = true))) | omega)
        have hWM17 : qFm [108, 1020] M M17 := by rw [hM17]; exact hWM6.pa (by decide) (by decide)
        show zG n (0, 0) d 239 (28, [.inr (.inr (some 97)), .inl v5], []) M17 _
        obtain ⟨x18, hx18⟩ : ∃ x : Int, x = w32 (v5 + 1) := ⟨_, rfl⟩
        have hx18e : x18 = v5 + 1 := by rw [hx18]; exact w32_id (by omega)
        refine zG_blk (c' := (16, [.inr (.inr (some 97)), .inl x18], [])) 2 hd0 hz (by subst hx18; rfl) ?_
        exact ih16 x18 M17 (by omega) (by omega) hCM17 hWM17
  exact j16 ((5 - 1 : Int).toNat + 1) 1 M3 (by omega) (by omega) hCM3 hWM3
