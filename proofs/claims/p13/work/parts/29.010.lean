theorem qm_243_97 {n d : Nat} {M : zM} (hd : 8 ≤ d) (hC : qMI M)  (a1 : Int) (ha1 : 0 ≤ a1 ∧ a1 ≤ 19) (a2 : Int) (ha2 : (-2147483648) ≤ a2 ∧ a2 ≤ 2147483647) : qOkN n d 243 [.inr (.inr (some 97)), .inl a1, .inl a2] 3 [102, 103, 104, 105, 106, 107, 108, 109, 110, 1007, 1010, 1012, 1013, 1016, 1018, 1019, 1020, 1021, 1022, 1023] M (fun v M' => ∃ x : Int, v = some (.inl x) ∧ ((-2147483648) ≤ x ∧ x ≤ 2147483647)) := by
  have hz := zp_243
  have hd0 : 0 < d := by omega
  have hW : qFm [102, 103, 104, 105, 106, 107, 108, 109, 110, 1007, 1010, 1012, 1013, 1016, 1018, 1019, 1020, 1021, 1022, 1023] M M := qFm.rfl
  show zG n (0, 0) d 243 (0, [.inr (.inr (some 97)), .inl a1, .inl a2], []) M _
  refine zG_blk (c' := (3, [.inr (.inr (some 97)), .inl a1, .inl a2], [.inl a2, .inl a1, .inr (.inr (some 97))])) 3 hd0 hz (by rfl) ?_
  refine zG_call hd0 hz zp_240 rfl rfl (Nat.le_of_ble_eq_true rfl) ⟨Nat.le_refl _, Nat.le_refl _⟩ (qm_240_97 (by first | exact zdp hd (by decide) | omega) hC   a1 (by first | with_reducible exact ha1 | omega) a2 (by first | with_reducible exact ha2 | omega) ) (fun vr M1 hr => ?_)
  obtain ⟨⟨hCM1, hFM1⟩, rfl⟩ := hr
  have hWM1 : qFm [102, 103, 104, 105, 106, 107, 108, 109, 110, 1007, 1010, 1012, 1013, 1016, 1018, 1019, 1020, 1021, 1022, 1023] M M1 := hW.tr hFM1 (by decide)
  show zG n (0, 0) d 243 (6, [.inr (.inr (some 97)), .inl a1, .inl a2], []) M1 _
  refine zG_blk (c' := (10, [.inr (.inr (some 97)), .inl a1, .inl a2], [.inl a2, .inl a1, .inr (.inr (some 97)), .inr (.inr (some 97))])) 4 hd0 hz (by rfl) ?_
  refine zG_call hd0 hz zp_242 rfl rfl (Nat.le_of_ble_eq_true rfl) ⟨Nat.le_refl _, Nat.le_refl _⟩ (qm_242_97 (by first | exact zdp hd (by decide) | omega) hCM1   a1 (by first | with_reducible exact ha1 | omega) a2 (by first | with_reducible exact ha2 | omega) ) (fun vr M3 hr => ?_)
  obtain ⟨⟨hCM3, hFM3⟩, x4, rfl, hx4⟩ := hr
  have hWM3 : qFm [102, 103, 104, 105, 106, 107, 108, 109, 110, 1007, 1010, 1012, 1013, 1016, 1018, 1019, 1020, 1021, 1022, 1023] M M3 := hWM1.tr hFM3 (by decide)
  show zG n (0, 0) d 243 (13, [.inr (.inr (some 97)), .inl a1, .inl a2], [.inl x4, .inr (.inr (some 97))]) M3 _
  refine zG_call hd0 hz zp_241 rfl rfl (Nat.le_of_ble_eq_true rfl) ⟨Nat.le_refl _, Nat.le_refl _⟩ (qm_241_97 (by first | exact zdp hd (by decide) | omega) hCM3   x4 (by omega) ) (fun vr M5 hr => ?_)
  obtain ⟨⟨hCM5, hFM5⟩, x6, rfl, hx6⟩ := hr
  have hWM5 : qFm [102, 103, 104, 105, 106, 107, 108, 109, 110, 1007, 1010, 1012, 1013, 1016, 1018, 1019, 1020, 1021, 1022, 1023] M M5 := hWM3.tr hFM5 (by decide)
  show zG n (0, 0) d 243 (16, [.inr (.inr (some 97)), .inl a1, .inl a2], [.inl x6]) M5 _
  exact zG_ret hd0 hz rfl rfl ⟨⟨hCM5, hWM5⟩, _, rfl, by omega⟩
