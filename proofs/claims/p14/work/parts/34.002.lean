theorem qm_259_97 {n d : Nat} {M : zM} (hd : 3 ≤ d) (hC : qMI M)  (a1 : Int) (ha1 : (-2147483648) ≤ a1 ∧ a1 ≤ 2147483647) (a2 : Int) (ha2 : (-2147483648) ≤ a2 ∧ a2 ≤ 2147483647) : qOkP n d 259 [.inr (.inr (some 97)), .inl a1, .inl a2] 3 M (fun v => ∃ x : Int, v = some (.inl x) ∧ ((-2) ≤ x ∧ x ≤ 9)) := by
  have hz := zp_259
  have hd0 : 0 < d := by omega
  have r1 := hC.cnt1
  show zG n (0, 0) d 259 (0, [.inr (.inr (some 97)), .inl a1, .inl a2], []) M _
  refine zG_blk (c' := (3, [.inr (.inr (some 97)), .inl a1, .inl a2], [.inl a1, .inl 1, .inr (.inr (some 97))])) 3 hd0 hz (by rfl) ?_
  refine zG_call hd0 hz zp_182 rfl rfl (Nat.le_of_ble_eq_true rfl) ⟨Nat.le_refl _, Nat.le_refl _⟩ (qx_is (by first | exact zdp hd (by decide) | omega) hC   1 (by first | decide | omega) a1 (by first | with_reducible exact ha1 | omega) ) (fun vr M2 hr => ?_)
  obtain ⟨hq, x3, rfl, hx3⟩ := hr
  replace hq := hq.symm; subst hq
  show zG n (0, 0) d 259 (6, [.inr (.inr (some 97)), .inl a1, .inl a2], [.inl x3]) M _
  have j27 : ∀ (v4 : Int) , (-2) ≤ v4 ∧ v4 ≤ 9 → zG n (0, 0) d 259 (27, [.inr (.inr (some 97)), .inl a1, .inl a2], [.inl v4]) M (fun v M' => M' = M ∧ ∃ x : Int, v = some (.inl x) ∧ ((-2) ≤ x ∧ x ≤ 9)) := by
    intro v4 hv4
    exact zG_ret hd0 hz rfl rfl ⟨rfl, _, rfl, by omega⟩
  have j25 : zG n (0, 0) d 259 (25, [.inr (.inr (some 97)), .inl a1, .inl a2], []) M (fun v M' => M' = M ∧ ∃ x : Int, v = some (.inl x) ∧ ((-2) ≤ x ∧ x ≤ 9)) := by
    refine zG_blk (c' := (27, [.inr (.inr (some 97)), .inl a1, .inl a2], [.inl (-2)])) 1 hd0 hz (by rfl) ?_
    exact j27 (-2) (by first | decide | omega)
  refine zG_if_eq hd0 hz rfl (fun hb5 => ?_) (fun hb5 => ?_)
  · exact j25
  · have hcx3 := hx3.2.2.mp (by omega)
    clear hx3 hb5
    refine zG_blk (c' := (10, [.inr (.inr (some 97)), .inl a1, .inl a2], [.inl a2])) 1 hd0 hz (by rfl) ?_
    refine zG_call hd0 hz zp_184 rfl rfl (Nat.le_of_ble_eq_true rfl) ⟨Nat.le_refl _, Nat.le_refl _⟩ (qm_184 (by first | exact zdp hd (by decide) | omega) hC   a2 (by first | with_reducible exact ha2 | omega) ) (fun vr M6 hr => ?_)
    obtain ⟨hq, x7, rfl, hx7, hpx7_0⟩ := hr
    replace hq := hq.symm; subst hq
    show zG n (0, 0) d 259 (13, [.inr (.inr (some 97)), .inl a1, .inl a2], [.inl x7]) M _
    refine zG_if_eq hd0 hz rfl (fun hb8 => ?_) (fun hb8 => ?_)
    · exact j25
    · have hcx7 := hpx7_0.mp (by omega)
      clear hx7 hpx7_0 hb8
      refine zG_blk (c' := (19, [.inr (.inr (some 97)), .inl a1, .inl a2], [.inl a2, .inl a1, .inr (.inr (some 97))])) 3 hd0 hz (by rfl) ?_
      refine zG_call hd0 hz zp_237 rfl rfl (Nat.le_of_ble_eq_true rfl) ⟨Nat.le_refl _, Nat.le_refl _⟩ (qm_237_97 (by first | exact zdp hd (by decide) | omega) hC   a1 (by first | with_reducible exact ha1 | omega) a2 (by first | with_reducible exact ha2 | omega) ) (fun vr M9 hr => ?_)
      obtain ⟨hq, x10, rfl, hx10⟩ := hr
      replace hq := hq.symm; subst hq
      show zG n (0, 0) d 259 (22, [.inr (.inr (some 97)), .inl a1, .inl a2], [.inl x10]) M _
      refine zG_blk (c' := (27, [.inr (.inr (some 97)), .inl a1, .inl a2], [.inl x10])) 1 hd0 hz (by rfl) ?_
      exact j27 x10 (by omega)
