theorem qm_268_97 {n d : Nat} {M : zM} (hd : 9 ≤ d) (hC : qMI M)  (a1 : Int) (ha1 : (-2147483648) ≤ a1 ∧ a1 ≤ 2147483647) (a2 : Int) (ha2 : (-2147483648) ≤ a2 ∧ a2 ≤ 2147483647) (a3 : Int) (ha3 : (-2147483648) ≤ a3 ∧ a3 ≤ 2147483647) (a4 : Int) (ha4 : (-2147483648) ≤ a4 ∧ a4 ≤ 2147483647) (a5 : Int) (ha5 : (-2147483648) ≤ a5 ∧ a5 ≤ 2147483647) (a6 : Int) (ha6 : (-2147483648) ≤ a6 ∧ a6 ≤ 2147483647) : qOkN n d 268 [.inr (.inr (some 97)), .inl a1, .inl a2, .inl a3, .inl a4, .inl a5, .inl a6] 7 [101, 102, 103, 104, 105, 106, 107, 108, 109, 110, 114, 115, 1007, 1010, 1012, 1013, 1016, 1018, 1019, 1020, 1021, 1022, 1023, 1028, 1030, 1031, 1032, 1033] M (fun v M' => ∃ x : Int, v = some (.inl x) ∧ ((-2147483648) ≤ x ∧ x ≤ 2147483647)) := by
  have hz := zp_268
  have hd0 : 0 < d := by omega
  have hW : qFm [101, 102, 103, 104, 105, 106, 107, 108, 109, 110, 114, 115, 1007, 1010, 1012, 1013, 1016, 1018, 1019, 1020, 1021, 1022, 1023, 1028, 1030, 1031, 1032, 1033] M M := qFm.rfl
  have r1 := hC.cnt1
  show zG n (0, 0) d 268 (0, [.inr (.inr (some 97)), .inl a1, .inl a2, .inl a3, .inl a4, .inl a5, .inl a6], []) M _
  refine zG_blk (c' := (10, [.inr (.inr (some 97)), .inl a1, .inl a2, .inl a3, .inl a4, .inl a5, .inl a6], [.inl a6, .inl a5, .inl a4, .inl a3, .inl a2, .inl a1, .inr (.inr (some 97))])) 7 hd0 hz (by rfl) ?_
  refine zG_call hd0 hz zp_266 rfl rfl (Nat.le_of_ble_eq_true rfl) ⟨Nat.le_refl _, Nat.le_refl _⟩ (qm_266_97 (by first | exact zdp hd (by decide) | omega) hC   a1 (by first | with_reducible exact ha1 | omega) a2 (by first | with_reducible exact ha2 | omega) a3 (by first | with_reducible exact ha3 | omega) a4 (by first | with_reducible exact ha4 | omega) a5 (by first | with_reducible exact ha5 | omega) a6 (by first | with_reducible exact ha6 | omega) ) (fun vr M2 hr => ?_)
  obtain ⟨hq, x3, rfl, hx3, hpx3_0⟩ := hr
  replace hq := hq.symm; subst hq
  show zG n (0, 0) d 268 (13, [.inr (.inr (some 97)), .inl a1, .inl a2, .inl a3, .inl a4, .inl a5, .inl a6], [.inl x3]) M _
  have j34 : ∀ (v4 : Int) (M5 : zM) , (-2147483648) ≤ v4 ∧ v4 ≤ 2147483647 → qMI M5 → qFm [101, 102, 103, 104, 105, 106, 107, 108, 109, 110, 114, 115, 1007, 1010, 1012, 1013, 1016, 1018, 1019, 1020, 1021, 1022, 1023, 1028, 1030, 1031, 1032, 1033] M M5 → zG n (0, 0) d 268 (34, [.inr (.inr (some 97)), .inl a1, .inl a2, .inl a3, .inl a4, .inl a5, .inl a6], [.inl v4]) M5 (fun v M' => (qMI M' ∧ qFm [101, 102, 103, 104, 105, 106, 107, 108, 109, 110, 114, 115, 1007, 1010, 1012, 1013, 1016, 1018, 1019, 1020, 1021, 1022, 1023, 1028, 1030, 1031, 1032, 1033] M M') ∧ ∃ x : Int, v = some (.inl x) ∧ ((-2147483648) ≤ x ∧ x ≤ 2147483647)) := by
    intro v4 M5 hv4 hCM5 hWM5
    have e6 : M5 98 1 = M 98 1 := hWM5 98 1 (by decide)
    exact zG_ret hd0 hz rfl rfl ⟨⟨hCM5, hWM5⟩, _, rfl, by omega⟩
  refine zG_if_eq hd0 hz rfl (fun hb7 => ?_) (fun hb7 => ?_)
  · refine zG_blk (c' := (34, [.inr (.inr (some 97)), .inl a1, .inl a2, .inl a3, .inl a4, .inl a5, .inl a6], [.inl (-2)])) 1 hd0 hz (by rfl) ?_
    exact j34 (-2) M (by omega) hC hW
  · refine zG_blk (c' := (26, [.inr (.inr (some 97)), .inl a1, .inl a2, .inl a3, .inl a4, .inl a5, .inl a6], [.inl a6, .inl a5, .inl a4, .inl a3, .inl a2, .inl a1, .inr (.inr (some 97))])) 7 hd0 hz (by rfl) ?_
    refine zG_call hd0 hz zp_267 rfl rfl (Nat.le_of_ble_eq_true rfl) ⟨Nat.le_refl _, Nat.le_refl _⟩ (qm_267_97 (by first | exact zdp hd (by decide) | omega) hC   a1 (by first | with_reducible exact ha1 | omega) a2 (by first | with_reducible exact ha2 | omega) a3 (by first | with_reducible exact ha3 | omega) a4 (by first | with_reducible exact ha4 | omega) a5 (by first | with_reducible exact ha5 | omega) a6 (by first | with_reducible exact ha6 | omega) ) (fun vr M8 hr => ?_)
    obtain ⟨⟨hCM8, hFM8⟩, x9, rfl, hx9, hpx9_0⟩ := hr
    have hWM8 : qFm [101, 102, 103, 104, 105, 106, 107, 108, 109, 110, 114, 115, 1007, 1010, 1012, 1013, 1016, 1018, 1019, 1020, 1021, 1022, 1023, 1028, 1030, 1031, 1032, 1033] M M8 := hW.tr hFM8 (by decide)
    have e10 : M8 98 1 = M 98 1 := hFM8 98 1 (by decide)
    show zG n (0, 0) d 268 (29, [.inr (.inr (some 97)), .inl a1, .inl a2, .inl a3, .inl a4, .inl a5, .inl a6], [.inl x9]) M8 _
    refine zG_blk (c' := (34, [.inr (.inr (some 97)), .inl a1, .inl a2, .inl a3, .inl a4, .inl a5, .inl a6], [.inl x9])) 1 hd0 hz (by rfl) ?_
    exact j34 x9 M8 (by omega) hCM8 hWM8
