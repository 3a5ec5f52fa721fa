/-! THE MODEL'S METHODS, BY PROGRAM -/
theorem qm_255_97 {n d : Nat} {M : zM} (hd : 7 ≤ d) (hC : qMI M)  (a1 : Int) (ha1 : (-2147483648) ≤ a1 ∧ a1 ≤ 2147483647) : qOkN n d 255 [.inr (.inr (some 97)), .inl a1] 2 [105, 106, 107, 1007, 1010, 1012, 1013] M (fun v M' => ∃ x : Int, v = some (.inl x) ∧ ((-2147483648) ≤ x ∧ x ≤ 2147483647)) := by
  have hz := zp_255
  have hd0 : 0 < d := by omega
  have hW : qFm [105, 106, 107, 1007, 1010, 1012, 1013] M M := qFm.rfl
  show zG n (0, 0) d 255 (0, [.inr (.inr (some 97)), .inl a1], []) M _
  refine zG_blk (c' := (1, [.inr (.inr (some 97)), .inl a1], [.inl a1])) 1 hd0 hz (by rfl) ?_
  refine zG_call hd0 hz zp_252 rfl rfl (Nat.le_of_ble_eq_true rfl) ⟨Nat.le_refl _, Nat.le_refl _⟩ (qm_252 (by first | exact zdp hd (by decide) | omega) hC   a1 (by first | with_reducible exact ha1 | omega) ) (fun vr M1 hr => ?_)
  obtain ⟨hq, x2, rfl, hx2, hpx2_0⟩ := hr
  replace hq := hq.symm; subst hq
  show zG n (0, 0) d 255 (4, [.inr (.inr (some 97)), .inl a1], [.inl x2]) M _
  have j24 : ∀ (v3 : Int) (M4 : zM) , (-2147483648) ≤ v3 ∧ v3 ≤ 2147483647 → qMI M4 → qFm [105, 106, 107, 1007, 1010, 1012, 1013] M M4 → zG n (0, 0) d 255 (24, [.inr (.inr (some 97)), .inl a1], [.inl v3]) M4 (fun v M' => (qMI M' ∧ qFm [105, 106, 107, 1007, 1010, 1012, 1013] M M') ∧ ∃ x : Int, v = some (.inl x) ∧ ((-2147483648) ≤ x ∧ x ≤ 2147483647)) := by
    intro v3 M4 hv3 hCM4 hWM4
    exact zG_ret hd0 hz rfl rfl ⟨⟨hCM4, hWM4⟩, _, rfl, by omega⟩
  refine zG_if_eq hd0 hz rfl (fun hb5 => ?_) (fun hb5 => ?_)
  · refine zG_blk (c' := (24, [.inr (.inr (some 97)), .inl a1], [.inl (-2)])) 1 hd0 hz (by rfl) ?_
    exact j24 (-2) M (by omega) hC hW
  · have hcx2 := hpx2_0.mp (by omega)
    clear hx2 hpx2_0 hb5
    obtain ⟨x6, hx6⟩ : ∃ x : Int, x = w32 (81 * a1) := ⟨_, rfl⟩
    have hx6e : x6 = 81 * a1 := by rw [hx6]; exact w32_id (by omega)
    obtain ⟨x7, hx7⟩ : ∃ x : Int, x = w32 (3350 + x6) := ⟨_, rfl⟩
    have hx7e : x7 = 3350 + x6 := by rw [hx7]; exact w32_id (by omega)
    refine zG_blk (c' := (16, [.inr (.inr (some 97)), .inl a1], [.inl x7, .inr (.inr (some 97))])) 6 hd0 hz (by subst hx7; subst hx6; rfl) ?_
    refine zG_call hd0 hz zp_231 rfl rfl (Nat.le_of_ble_eq_true rfl) ⟨Nat.le_refl _, Nat.le_refl _⟩ (qm_231_97 (by first | exact zdp hd (by decide) | omega) hC   x7 (by omega) (by exact hC.txt a1 _ (by omega) (by omega))) (fun vr M8 hr => ?_)
    obtain ⟨⟨hCM8, hFM8⟩, x9, rfl, hx9⟩ := hr
    have hWM8 : qFm [105, 106, 107, 1007, 1010, 1012, 1013] M M8 := hW.tr hFM8 (by decide)
    show zG n (0, 0) d 255 (19, [.inr (.inr (some 97)), .inl a1], [.inl x9]) M8 _
    refine zG_blk (c' := (24, [.inr (.inr (some 97)), .inl a1], [.inl x9])) 1 hd0 hz (by rfl) ?_
    exact j24 x9 M8 (by omega) hCM8 hWM8
