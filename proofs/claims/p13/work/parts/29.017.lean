theorem qm_250_97 {n d : Nat} {M : zM} (hd : 10 ≤ d) (hC : qMI M)  (a1 : Int) (ha1 : (-2147483648) ≤ a1 ∧ a1 ≤ 2147483647) (a2 : Int) (ha2 : (-2147483648) ≤ a2 ∧ a2 ≤ 2147483647) (a3 : Int) (ha3 : (-2147483648) ≤ a3 ∧ a3 ≤ 2147483647) : qOkN n d 250 [.inr (.inr (some 97)), .inl a1, .inl a2, .inl a3] 4 [101, 102, 103, 104, 105, 106, 107, 108, 109, 110, 1007, 1010, 1012, 1013, 1016, 1018, 1019, 1020, 1021, 1022, 1023] M (fun v M' => ∃ x : Int, v = some (.inl x) ∧ ((-2147483648) ≤ x ∧ x ≤ 2147483647)) := by
  have hz := zp_250
  have hd0 : 0 < d := by omega
  have hW : qFm [101, 102, 103, 104, 105, 106, 107, 108, 109, 110, 1007, 1010, 1012, 1013, 1016, 1018, 1019, 1020, 1021, 1022, 1023] M M := qFm.rfl
  have r1 := hC.cnt1
  show zG n (0, 0) d 250 (0, [.inr (.inr (some 97)), .inl a1, .inl a2, .inl a3], []) M _
  refine zG_blk (c' := (4, [.inr (.inr (some 97)), .inl a1, .inl a2, .inl a3], [.inl a3, .inl a2, .inl a1, .inr (.inr (some 97))])) 4 hd0 hz (by rfl) ?_
  refine zG_call hd0 hz zp_245 rfl rfl (Nat.le_of_ble_eq_true rfl) ⟨Nat.le_refl _, Nat.le_refl _⟩ (qm_245_97 (by first | exact zdp hd (by decide) | omega) hC   a1 (by first | with_reducible exact ha1 | omega) a2 (by first | with_reducible exact ha2 | omega) a3 (by first | with_reducible exact ha3 | omega) ) (fun vr M2 hr => ?_)
  obtain ⟨hq, x3, rfl, hx3, hpx3_0⟩ := hr
  replace hq := hq.symm; subst hq
  show zG n (0, 0) d 250 (7, [.inr (.inr (some 97)), .inl a1, .inl a2, .inl a3], [.inl x3]) M _
  refine zG_if_ne hd0 hz rfl (fun hb4 => ?_) (fun hb4 => ?_)
  · refine zG_blk (c' := (15, [.inr (.inr (some 97)), .inl a1, .inl a2, .inl a3], [.inl a3, .inr (.inr (some 97))])) 2 hd0 hz (by rfl) ?_
    refine zG_call hd0 hz zp_211 rfl rfl (Nat.le_of_ble_eq_true rfl) ⟨Nat.le_refl _, Nat.le_refl _⟩ (qm_211_97 (by first | exact zdp hd (by decide) | omega) hC   a3 (by first | with_reducible exact ha3 | omega) ) (fun vr M5 hr => ?_)
    obtain ⟨⟨hCM5, hFM5⟩, rfl⟩ := hr
    have hWM5 : qFm [101, 102, 103, 104, 105, 106, 107, 108, 109, 110, 1007, 1010, 1012, 1013, 1016, 1018, 1019, 1020, 1021, 1022, 1023] M M5 := hW.tr hFM5 (by decide)
    have e7 : M5 98 1 = M 98 1 := hFM5 98 1 (by decide)
    show zG n (0, 0) d 250 (18, [.inr (.inr (some 97)), .inl a1, .inl a2, .inl a3], []) M5 _
    refine zG_blk (c' := (21, [.inr (.inr (some 97)), .inl a1, .inl a2, .inl a3], [.inl a2, .inl a1, .inr (.inr (some 97))])) 3 hd0 hz (by rfl) ?_
    refine zG_call hd0 hz zp_244 rfl rfl (Nat.le_of_ble_eq_true rfl) ⟨Nat.le_refl _, Nat.le_refl _⟩ (qm_244_97 (by first | exact zdp hd (by decide) | omega) hCM5   a1 (by first | with_reducible exact ha1 | omega) a2 (by first | with_reducible exact ha2 | omega) ) (fun vr M8 hr => ?_)
    obtain ⟨⟨hCM8, hFM8⟩, x9, rfl, hx9⟩ := hr
    have hWM8 : qFm [101, 102, 103, 104, 105, 106, 107, 108, 109, 110, 1007, 1010, 1012, 1013, 1016, 1018, 1019, 1020, 1021, 1022, 1023] M M8 := hWM5.tr hFM8 (by decide)
    have e10 : M8 98 1 = M5 98 1 := hFM8 98 1 (by decide)
    show zG n (0, 0) d 250 (24, [.inr (.inr (some 97)), .inl a1, .inl a2, .inl a3], [.inl x9]) M8 _
    exact zG_ret hd0 hz rfl rfl ⟨⟨hCM8, hWM8⟩, _, rfl, by omega⟩
  · refine zG_blk (c' := (12, [.inr (.inr (some 97)), .inl a1, .inl a2, .inl a3], [.inl (-2)])) 1 hd0 hz (by rfl) ?_
    exact zG_ret hd0 hz rfl rfl ⟨⟨hC, hW⟩, _, rfl, by omega⟩
