theorem qm_278_97 {n d : Nat} {M : zM} (hd : 4 ≤ d) (hC : qMI M)  (a1 : Int) (ha1 : (-2147483648) ≤ a1 ∧ a1 ≤ 2147483647) (a2 : Int) (ha2 : (-2147483648) ≤ a2 ∧ a2 ≤ 2147483647) : qOkN n d 278 [.inr (.inr (some 97)), .inl a1, .inl a2] 4 [116, 117, 118, 1034] M (fun v M' => ∃ x : Int, v = some (.inl x) ∧ ((-3) ≤ x ∧ x ≤ 9)) := by
  have hz := zp_278
  have hd0 : 0 < d := by omega
  have hW : qFm [116, 117, 118, 1034] M M := qFm.rfl
  show zG n (0, 0) d 278 (0, [.inr (.inr (some 97)), .inl a1, .inl a2, zN], []) M _
  refine zG_blk (c' := (4, [.inr (.inr (some 97)), .inl a1, .inl a2, zN], [.inl 1, .inl a2, .inl a1, .inr (.inr (some 97))])) 4 hd0 hz (by rfl) ?_
  refine zG_call hd0 hz zp_277 rfl rfl (Nat.le_of_ble_eq_true rfl) ⟨Nat.le_refl _, Nat.le_refl _⟩ (qm_277_97 (by first | exact zdp hd (by decide) | omega) hC   a1 (by first | with_reducible exact ha1 | omega) a2 (by first | with_reducible exact ha2 | omega) 1 (by first | decide | omega) ) (fun vr M1 hr => ?_)
  obtain ⟨hq, x2, rfl, hx2, hpx2_0⟩ := hr
  replace hq := hq.symm; subst hq
  show zG n (0, 0) d 278 (7, [.inr (.inr (some 97)), .inl a1, .inl a2, zN], [.inl x2]) M _
  refine zG_blk (c' := (10, [.inr (.inr (some 97)), .inl a1, .inl a2, .inl x2], [.inl 1, .inl x2])) 3 hd0 hz (by rfl) ?_
  have j23 : ∀ (v3 : Int) (M4 : zM) , (-3) ≤ v3 ∧ v3 ≤ 9 → qMI M4 → qFm [116, 117, 118, 1034] M M4 → zG n (0, 0) d 278 (23, [.inr (.inr (some 97)), .inl a1, .inl a2, .inl x2], [.inl v3]) M4 (fun v M' => (qMI M' ∧ qFm [116, 117, 118, 1034] M M') ∧ ∃ x : Int, v = some (.inl x) ∧ ((-3) ≤ x ∧ x ≤ 9)) := by
    intro v3 M4 hv3 hCM4 hWM4
    exact zG_ret hd0 hz rfl rfl ⟨⟨hCM4, hWM4⟩, _, rfl, by omega⟩
  refine zG_icmp_eq hd0 hz rfl (fun hb5 => ?_) (fun hb5 => ?_)
  · refine zG_blk (c' := (20, [.inr (.inr (some 97)), .inl a1, .inl a2, .inl x2], [.inl a2, .inl a1, .inr (.inr (some 97))])) 3 hd0 hz (by rfl) ?_
    refine zG_call hd0 hz zp_276 rfl rfl (Nat.le_of_ble_eq_true rfl) ⟨Nat.le_refl _, Nat.le_refl _⟩ (qm_276_97 (by first | exact zdp hd (by decide) | omega) hC 0  a1 (by first | with_reducible exact ha1 | omega) a2 (by first | with_reducible exact ha2 | omega) (by omega)) (fun vr M6 hr => ?_)
    obtain ⟨⟨hCM6, hFM6⟩, x7, rfl, hx7, hpx7_0⟩ := hr
    have hWM6 : qFm [116, 117, 118, 1034] M M6 := hW.tr hFM6 (by decide)
    show zG n (0, 0) d 278 (23, [.inr (.inr (some 97)), .inl a1, .inl a2, .inl x2], [.inl x7]) M6 _
    exact j23 x7 M6 (by omega) hCM6 hWM6
  · refine zG_blk (c' := (23, [.inr (.inr (some 97)), .inl a1, .inl a2, .inl x2], [.inl x2])) 2 hd0 hz (by rfl) ?_
    exact j23 x2 M (by omega) hC hW
