theorem qm_193_97 {n d : Nat} {M : zM} (hd : 3 ≤ d) (hC : qMI M)  (a1 : Int) (ha1 : (-2147483648) ≤ a1 ∧ a1 ≤ 2147483647) : qOkP n d 193 [.inr (.inr (some 97)), .inl a1] 2 M (fun v => ∃ x : Int, v = some (.inl x) ∧ ((-2) ≤ x ∧ x ≤ 1)) := by
  have hz := zp_193
  have hd0 : 0 < d := by omega
  have r1 := hC.cnt3
  show zG n (0, 0) d 193 (0, [.inr (.inr (some 97)), .inl a1], []) M _
  refine zG_blk (c' := (3, [.inr (.inr (some 97)), .inl a1], [.inl a1, .inl 3, .inr (.inr (some 97))])) 3 hd0 hz (by rfl) ?_
  refine zG_call hd0 hz zp_182 rfl rfl (Nat.le_of_ble_eq_true rfl) ⟨Nat.le_refl _, Nat.le_refl _⟩ (qx_is (by first | exact zdp hd (by decide) | omega) hC   3 (by first | decide | omega) a1 (by first | with_reducible exact ha1 | omega) ) (fun vr M2 hr => ?_)
  obtain ⟨hq, x3, rfl, hx3⟩ := hr
  replace hq := hq.symm; subst hq
  show zG n (0, 0) d 193 (6, [.inr (.inr (some 97)), .inl a1], [.inl x3]) M _
  have j27 : ∀ (v4 : Int) , (-2) ≤ v4 ∧ v4 ≤ 1 → zG n (0, 0) d 193 (27, [.inr (.inr (some 97)), .inl a1], [.inl v4]) M (fun v M' => M' = M ∧ ∃ x : Int, v = some (.inl x) ∧ ((-2) ≤ x ∧ x ≤ 1)) := by
    intro v4 hv4
    exact zG_ret hd0 hz rfl rfl ⟨rfl, _, rfl, by omega⟩
  refine zG_if_ne hd0 hz rfl (fun hb5 => ?_) (fun hb5 => ?_)
  · have hcx3 := hx3.2.2.mp (by omega)
    clear hx3 hb5
    refine zG_blk (c' := (16, [.inr (.inr (some 97)), .inl a1], [.inl a1, .inr (.inr (some 97))])) 2 hd0 hz (by rfl) ?_
    refine zG_call hd0 hz zp_192 rfl rfl (Nat.le_of_ble_eq_true rfl) ⟨Nat.le_refl _, Nat.le_refl _⟩ (qm_192_97 (by first | exact zdp hd (by decide) | omega) hC   a1 (by first | with_reducible exact ha1 | omega) ) (fun vr M6 hr => ?_)
    obtain ⟨hq, x7, rfl, hx7, hpx7_0⟩ := hr
    replace hq := hq.symm; subst hq
    show zG n (0, 0) d 193 (19, [.inr (.inr (some 97)), .inl a1], [.inl x7]) M _
    refine zG_if_eq hd0 hz rfl (fun hb8 => ?_) (fun hb8 => ?_)
    · refine zG_blk (c' := (27, [.inr (.inr (some 97)), .inl a1], [.inl 0])) 1 hd0 hz (by rfl) ?_
      exact j27 0 (by first | decide | omega)
    · refine zG_blk (c' := (27, [.inr (.inr (some 97)), .inl a1], [.inl 1])) 2 hd0 hz (by rfl) ?_
      exact j27 1 (by first | decide | omega)
  · refine zG_blk (c' := (27, [.inr (.inr (some 97)), .inl a1], [.inl (-2)])) 2 hd0 hz (by rfl) ?_
    exact j27 (-2) (by first | decide | omega)
