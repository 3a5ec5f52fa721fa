theorem qm_241_97 {n d : Nat} {M : zM} (hd : 3 ≤ d) (hC : qMI M)  (a1 : Int) (ha1 : (-1) ≤ a1 ∧ a1 ≤ 9) : qOkN n d 241 [.inr (.inr (some 97)), .inl a1] 4 [108, 109, 1016, 1020] M (fun v M' => ∃ x : Int, v = some (.inl x) ∧ ((-2147483648) ≤ x ∧ x ≤ 2147483647)) := by
  have hz := zp_241
  have hd0 : 0 < d := by omega
  have hW : qFm [108, 109, 1016, 1020] M M := qFm.rfl
  show zG n (0, 0) d 241 (0, [.inr (.inr (some 97)), .inl a1, zN, zN], []) M _
  refine zG_blk (c' := (1, [.inr (.inr (some 97)), .inl a1, zN, zN], [.inr (.inr (some 97))])) 1 hd0 hz (by rfl) ?_
  refine zG_call hd0 hz zp_239 rfl rfl (Nat.le_of_ble_eq_true rfl) ⟨Nat.le_refl _, Nat.le_refl _⟩ (qm_239_97 (by first | exact zdp hd (by decide) | omega) hC    ) (fun vr M1 hr => ?_)
  obtain ⟨⟨hCM1, hFM1⟩, rfl⟩ := hr
  have hWM1 : qFm [108, 109, 1016, 1020] M M1 := hW.tr hFM1 (by decide)
  show zG n (0, 0) d 241 (4, [.inr (.inr (some 97)), .inl a1, zN, zN], []) M1 _
  refine zG_blk (c' := (6, [.inr (.inr (some 97)), .inl a1, zN, zN], [.inl (-1), .inl a1])) 2 hd0 hz (by rfl) ?_
  have j24 : ∀ (v3 : Int) (M4 : zM) , qMI M4 → qFm [108, 109, 1016, 1020] M M4 → zG n (0, 0) d 241 (24, [.inr (.inr (some 97)), .inl a1, zN, zN], [.inr (.inl (v3))]) M4 (fun v M' => (qMI M' ∧ qFm [108, 109, 1016, 1020] M M') ∧ ∃ x : Int, v = some (.inl x) ∧ ((-2147483648) ≤ x ∧ x ≤ 2147483647)) := by
    intro v3 M4 hCM4 hWM4
    refine zG_blk (c' := (27, [.inr (.inr (some 97)), .inl a1, .inr (.inl (v3)), zN], [.inr (.inl (0)), .inr (.inl (v3))])) 3 hd0 hz (by rfl) ?_
    have j50 : ∀ (v5 : Int) , (-2147483648) ≤ v5 ∧ v5 ≤ 2147483647 → zG n (0, 0) d 241 (50, [.inr (.inr (some 97)), .inl a1, .inr (.inl (v3)), zN], [.inl v5]) M4 (fun v M' => (qMI M' ∧ qFm [108, 109, 1016, 1020] M M') ∧ ∃ x : Int, v = some (.inl x) ∧ ((-2147483648) ≤ x ∧ x ≤ 2147483647)) := by
      intro v5 hv5
      exact zG_ret hd0 hz rfl rfl ⟨⟨hCM4, hWM4⟩, _, rfl, by omega⟩
    refine zG_lc_ge hd0 hz rfl rfl (fun hb27 => ?_) (fun hb27 => ?_)
    · refine zG_blk (c' := (39, [.inr (.inr (some 97)), .inl a1, .inr (.inl (v3)), zN], [.inr (.inl (9)), .inr (.inl (v3))])) 2 hd0 hz (by rfl) ?_
      refine zG_lc_le hd0 hz rfl rfl (fun hb39 => ?_) (fun hb39 => ?_)
      · obtain ⟨x6, hx6⟩ : ∃ x : Int, x = w32 v3 := ⟨_, rfl⟩
        have hx6r : qin x6 := by rw [hx6]; exact w32_in _
        refine zG_blk (c' := (50, [.inr (.inr (some 97)), .inl a1, .inr (.inl (v3)), zN], [.inl x6])) 2 hd0 hz (by subst hx6; rfl) ?_
        exact j50 x6 (by omega)
      · refine zG_blk (c' := (50, [.inr (.inr (some 97)), .inl a1, .inr (.inl (v3)), zN], [.inl 9])) 2 hd0 hz (by rfl) ?_
        exact j50 9 (by first | decide | omega)
    · refine zG_blk (c' := (50, [.inr (.inr (some 97)), .inl a1, .inr (.inl (v3)), zN], [.inl 0])) 2 hd0 hz (by rfl) ?_
      exact j50 0 (by first | decide | omega)
  refine zG_icmp_ne hd0 hz rfl (fun hb7 => ?_) (fun hb7 => ?_)
  · refine zG_blk (c' := (21, [.inr (.inr (some 97)), .inl a1, zN, zN], [.inr (.inr (some 97))])) 1 hd0 hz (by rfl) ?_
    refine zG_call hd0 hz zp_235 rfl rfl (Nat.le_of_ble_eq_true rfl) ⟨Nat.le_refl _, Nat.le_refl _⟩ (qm_235_97 (by first | exact zdp hd (by decide) | omega) hCM1    ) (fun vr M8 hr => ?_)
    obtain ⟨⟨hCM8, hFM8⟩, x9, rfl⟩ := hr
    have hWM8 : qFm [108, 109, 1016, 1020] M M8 := hWM1.tr hFM8 (by decide)
    show zG n (0, 0) d 241 (24, [.inr (.inr (some 97)), .inl a1, zN, zN], [.inr (.inl (x9))]) M8 _
    exact j24 x9 M8 hCM8 hWM8
  · refine zG_blk (c' := (16, [.inr (.inr (some 97)), .inl a1, zN, zN], [.inr (.inl (10)), .inr (.inl (M1 97 22))])) 3 hd0 hz (by rfl) ?_
    refine zG_ldiv hd0 hz rfl (by omega) ?_
    generalize w64 ((M1 97 22).tdiv 10) = x10
    show zG n (0, 0) d 241 (17, [.inr (.inr (some 97)), .inl a1, zN, zN], [.inr (.inl (x10))]) M1 _
    refine zG_blk (c' := (24, [.inr (.inr (some 97)), .inl a1, zN, zN], [.inr (.inl (x10))])) 1 hd0 hz (by rfl) ?_
    exact j24 x10 M1 hCM1 hWM1
