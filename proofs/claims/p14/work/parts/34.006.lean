theorem qm_293_97 {n d : Nat} {M : zM} (hd : 4 ≤ d) (hC : qMI M)  (a1 : Int) (ha1 : (-2147483648) ≤ a1 ∧ a1 ≤ 2147483647) : qOkP n d 293 [.inr (.inr (some 97)), .inl a1] 2 M (fun v => ∃ x : Int, v = some (.inl x) ∧ ((-2147483648) ≤ x ∧ x ≤ 2147483647)) := by
  have hz := zp_293
  have hd0 : 0 < d := by omega
  show zG n (0, 0) d 293 (0, [.inr (.inr (some 97)), .inl a1], []) M _
  refine zG_blk (c' := (4, [.inr (.inr (some 97)), .inl a1], [.inl 7, .inl 0, .inl a1])) 3 hd0 hz (by rfl) ?_
  refine zG_call hd0 hz zp_180 rfl rfl (Nat.le_of_ble_eq_true rfl) ⟨Nat.le_refl _, Nat.le_refl _⟩ (qx_in (by first | exact zdp hd (by decide) | omega) hC   a1 (by first | with_reducible exact ha1 | omega) 0 (by first | decide | omega) 7 (by first | decide | omega) ) (fun vr M1 hr => ?_)
  obtain ⟨hq, x2, rfl, hx2⟩ := hr
  replace hq := hq.symm; subst hq
  show zG n (0, 0) d 293 (7, [.inr (.inr (some 97)), .inl a1], [.inl x2]) M _
  have j20 : ∀ (v3 : Int) , (-2147483648) ≤ v3 ∧ v3 ≤ 2147483647 → zG n (0, 0) d 293 (20, [.inr (.inr (some 97)), .inl a1], [.inl v3]) M (fun v M' => M' = M ∧ ∃ x : Int, v = some (.inl x) ∧ ((-2147483648) ≤ x ∧ x ≤ 2147483647)) := by
    intro v3 hv3
    exact zG_ret hd0 hz rfl rfl ⟨rfl, _, rfl, by omega⟩
  refine zG_if_eq hd0 hz rfl (fun hb4 => ?_) (fun hb4 => ?_)
  · refine zG_blk (c' := (20, [.inr (.inr (some 97)), .inl a1], [.inl (-2)])) 1 hd0 hz (by rfl) ?_
    exact j20 (-2) (by first | decide | omega)
  · have hcx2 := hx2.2.2.mp (by omega)
    clear hx2 hb4
    refine zG_blk (c' := (12, [.inr (.inr (some 97)), .inl a1], [.inl a1, .inr (.inr (some 97))])) 2 hd0 hz (by rfl) ?_
    refine zG_call hd0 hz zp_292 rfl rfl (Nat.le_of_ble_eq_true rfl) ⟨Nat.le_refl _, Nat.le_refl _⟩ (qm_292_97 (by first | exact zdp hd (by decide) | omega) hC   a1 (by first | with_reducible exact ha1 | omega) ) (fun vr M5 hr => ?_)
    obtain ⟨hq, x6, rfl, hx6⟩ := hr
    replace hq := hq.symm; subst hq
    show zG n (0, 0) d 293 (15, [.inr (.inr (some 97)), .inl a1], [.inl x6]) M _
    refine zG_blk (c' := (20, [.inr (.inr (some 97)), .inl a1], [.inl x6])) 1 hd0 hz (by rfl) ?_
    exact j20 x6 (by omega)
