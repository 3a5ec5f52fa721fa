theorem qm_245_97 {n d : Nat} {M : zM} (hd : 3 ≤ d) (hC : qMI M)  (a1 : Int) (ha1 : (-2147483648) ≤ a1 ∧ a1 ≤ 2147483647) (a2 : Int) (ha2 : (-2147483648) ≤ a2 ∧ a2 ≤ 2147483647) (a3 : Int) (ha3 : (-2147483648) ≤ a3 ∧ a3 ≤ 2147483647) : qOkP n d 245 [.inr (.inr (some 97)), .inl a1, .inl a2, .inl a3] 4 M (fun v => ∃ x : Int, v = some (.inl x) ∧ (0 ≤ x ∧ x ≤ 1) ∧ (x = 1 ↔ (0 ≤ a1 ∧ a1 < M 98 1 ∧ 0 ≤ a2 ∧ a2 ≤ 9999 ∧ 0 ≤ a3 ∧ a3 ≤ 9999))) := by
  have hz := zp_245
  have hd0 : 0 < d := by omega
  have r1 := hC.cnt1
  show zG n (0, 0) d 245 (0, [.inr (.inr (some 97)), .inl a1, .inl a2, .inl a3], []) M _
  refine zG_blk (c' := (3, [.inr (.inr (some 97)), .inl a1, .inl a2, .inl a3], [.inl a1, .inl 1, .inr (.inr (some 97))])) 3 hd0 hz (by rfl) ?_
  refine zG_call hd0 hz zp_182 rfl rfl (Nat.le_of_ble_eq_true rfl) ⟨Nat.le_refl _, Nat.le_refl _⟩ (qx_is (by first | exact zdp hd (by decide) | omega) hC   1 (by first | decide | omega) a1 (by first | with_reducible exact ha1 | omega) ) (fun vr M2 hr => ?_)
  obtain ⟨hq, x3, rfl, hx3⟩ := hr
  replace hq := hq.symm; subst hq
  show zG n (0, 0) d 245 (6, [.inr (.inr (some 97)), .inl a1, .inl a2, .inl a3], [.inl x3]) M _
  have j28 : ∀ (v4 : Int) , 0 ≤ v4 ∧ v4 ≤ 1 → (v4 = 1 ↔ (0 ≤ a1 ∧ a1 < M 98 1 ∧ 0 ≤ a2 ∧ a2 ≤ 9999 ∧ 0 ≤ a3 ∧ a3 ≤ 9999)) → zG n (0, 0) d 245 (28, [.inr (.inr (some 97)), .inl a1, .inl a2, .inl a3], [.inl v4]) M (fun v M' => M' = M ∧ ∃ x : Int, v = some (.inl x) ∧ (0 ≤ x ∧ x ≤ 1) ∧ (x = 1 ↔ (0 ≤ a1 ∧ a1 < M 98 1 ∧ 0 ≤ a2 ∧ a2 ≤ 9999 ∧ 0 ≤ a3 ∧ a3 ≤ 9999))) := by
    intro v4 hv4 hx0_28
    exact zG_zret hd0 hz rfl (by omega) ⟨rfl, _, rfl, by omega, by omega⟩
  have j27 : (¬ (0 ≤ a1 ∧ a1 < M 98 1 ∧ 0 ≤ a2 ∧ a2 ≤ 9999 ∧ 0 ≤ a3 ∧ a3 ≤ 9999)) → zG n (0, 0) d 245 (27, [.inr (.inr (some 97)), .inl a1, .inl a2, .inl a3], []) M (fun v M' => M' = M ∧ ∃ x : Int, v = some (.inl x) ∧ (0 ≤ x ∧ x ≤ 1) ∧ (x = 1 ↔ (0 ≤ a1 ∧ a1 < M 98 1 ∧ 0 ≤ a2 ∧ a2 ≤ 9999 ∧ 0 ≤ a3 ∧ a3 ≤ 9999))) := by
    intro hx0_27
    refine zG_blk (c' := (28, [.inr (.inr (some 97)), .inl a1, .inl a2, .inl a3], [.inl 0])) 1 hd0 hz (by rfl) ?_
    exact j28 0 (by first | decide | omega) (by omega)
  refine zG_if_eq hd0 hz rfl (fun hb5 => ?_) (fun hb5 => ?_)
  · exact j27 (by omega)
  · have hcx3 := hx3.2.2.mp (by omega)
    clear hx3 hb5
    refine zG_blk (c' := (10, [.inr (.inr (some 97)), .inl a1, .inl a2, .inl a3], [.inl a2])) 1 hd0 hz (by rfl) ?_
    refine zG_call hd0 hz zp_184 rfl rfl (Nat.le_of_ble_eq_true rfl) ⟨Nat.le_refl _, Nat.le_refl _⟩ (qm_184 (by first | exact zdp hd (by decide) | omega) hC   a2 (by first | with_reducible exact ha2 | omega) ) (fun vr M6 hr => ?_)
    obtain ⟨hq, x7, rfl, hx7, hpx7_0⟩ := hr
    replace hq := hq.symm; subst hq
    show zG n (0, 0) d 245 (13, [.inr (.inr (some 97)), .inl a1, .inl a2, .inl a3], [.inl x7]) M _
    refine zG_if_eq hd0 hz rfl (fun hb8 => ?_) (fun hb8 => ?_)
    · exact j27 (by omega)
    · have hcx7 := hpx7_0.mp (by omega)
      clear hx7 hpx7_0 hb8
      refine zG_blk (c' := (17, [.inr (.inr (some 97)), .inl a1, .inl a2, .inl a3], [.inl a3])) 1 hd0 hz (by rfl) ?_
      refine zG_call hd0 hz zp_184 rfl rfl (Nat.le_of_ble_eq_true rfl) ⟨Nat.le_refl _, Nat.le_refl _⟩ (qm_184 (by first | exact zdp hd (by decide) | omega) hC   a3 (by first | with_reducible exact ha3 | omega) ) (fun vr M9 hr => ?_)
      obtain ⟨hq, x10, rfl, hx10, hpx10_0⟩ := hr
      replace hq := hq.symm; subst hq
      show zG n (0, 0) d 245 (20, [.inr (.inr (some 97)), .inl a1, .inl a2, .inl a3], [.inl x10]) M _
      refine zG_if_eq hd0 hz rfl (fun hb11 => ?_) (fun hb11 => ?_)
      · exact j27 (by omega)
      · have hcx10 := hpx10_0.mp (by omega)
        clear hx10 hpx10_0 hb11
        refine zG_blk (c' := (28, [.inr (.inr (some 97)), .inl a1, .inl a2, .inl a3], [.inl 1])) 2 hd0 hz (by rfl) ?_
        exact j28 1 (by first | decide | omega) (by omega)
