theorem qm_200_97 {n d : Nat} {M : zM} (hd : 3 ≤ d) (hC : qMI M)  (a1 : Int) (ha1 : (-2147483648) ≤ a1 ∧ a1 ≤ 2147483647) (a2 : Int) (ha2 : (-2147483648) ≤ a2 ∧ a2 ≤ 2147483647) : qOkP n d 200 [.inr (.inr (some 97)), .inl a1, .inl a2] 3 M (fun v => ∃ x : Int, v = some (.inl x) ∧ (0 ≤ x ∧ x ≤ 1) ∧ (x = 1 ↔ (0 ≤ a1 ∧ a1 < M 98 3 ∧ qMt M a1 1 ≤ a2 ∧ a2 ≤ 9999))) := by
  have hz := zp_200
  have hd0 : 0 < d := by omega
  have r1 := hC.cnt3
  show zG n (0, 0) d 200 (0, [.inr (.inr (some 97)), .inl a1, .inl a2], []) M _
  refine zG_blk (c' := (3, [.inr (.inr (some 97)), .inl a1, .inl a2], [.inl a1, .inl 3, .inr (.inr (some 97))])) 3 hd0 hz (by rfl) ?_
  refine zG_call hd0 hz zp_182 rfl rfl (Nat.le_of_ble_eq_true rfl) ⟨Nat.le_refl _, Nat.le_refl _⟩ (qx_is (by first | exact zdp hd (by decide) | omega) hC   3 (by first | decide | omega) a1 (by first | with_reducible exact ha1 | omega) ) (fun vr M2 hr => ?_)
  obtain ⟨hq, x3, rfl, hx3⟩ := hr
  replace hq := hq.symm; subst hq
  show zG n (0, 0) d 200 (6, [.inr (.inr (some 97)), .inl a1, .inl a2], [.inl x3]) M _
  have j29 : ∀ (v4 : Int) , 0 ≤ v4 ∧ v4 ≤ 1 → (v4 = 1 ↔ (0 ≤ a1 ∧ a1 < M 98 3 ∧ qMt M a1 1 ≤ a2 ∧ a2 ≤ 9999)) → zG n (0, 0) d 200 (29, [.inr (.inr (some 97)), .inl a1, .inl a2], [.inl v4]) M (fun v M' => M' = M ∧ ∃ x : Int, v = some (.inl x) ∧ (0 ≤ x ∧ x ≤ 1) ∧ (x = 1 ↔ (0 ≤ a1 ∧ a1 < M 98 3 ∧ qMt M a1 1 ≤ a2 ∧ a2 ≤ 9999))) := by
    intro v4 hv4 hx0_29
    exact zG_zret hd0 hz rfl (by omega) ⟨rfl, _, rfl, by omega, by omega⟩
  have j28 : (¬ (0 ≤ a1 ∧ a1 < M 98 3 ∧ qMt M a1 1 ≤ a2 ∧ a2 ≤ 9999)) → zG n (0, 0) d 200 (28, [.inr (.inr (some 97)), .inl a1, .inl a2], []) M (fun v M' => M' = M ∧ ∃ x : Int, v = some (.inl x) ∧ (0 ≤ x ∧ x ≤ 1) ∧ (x = 1 ↔ (0 ≤ a1 ∧ a1 < M 98 3 ∧ qMt M a1 1 ≤ a2 ∧ a2 ≤ 9999))) := by
    intro hx0_28
    refine zG_blk (c' := (29, [.inr (.inr (some 97)), .inl a1, .inl a2], [.inl 0])) 1 hd0 hz (by rfl) ?_
    exact j29 0 (by first | decide | omega) (by omega)
  refine zG_if_eq hd0 hz rfl (fun hb5 => ?_) (fun hb5 => ?_)
  · exact j28 (by omega)
  · have hcx3 := hx3.2.2.mp (by omega)
    clear hx3 hb5
    refine zG_blk (c' := (12, [.inr (.inr (some 97)), .inl a1, .inl a2], [.inl a1, .inr (.inr (some 97)), .inl a2])) 3 hd0 hz (by rfl) ?_
    refine zG_call hd0 hz zp_199 rfl rfl (Nat.le_of_ble_eq_true rfl) ⟨Nat.le_refl _, Nat.le_refl _⟩ (qx_dayOf (by first | exact zdp hd (by decide) | omega) hC   a1 (by first | with_reducible exact ha1 | omega) ) (fun vr M6 hr => ?_)
    obtain ⟨hq, x7, rfl, hx7⟩ := hr
    replace hq := hq.symm; subst hq
    show zG n (0, 0) d 200 (15, [.inr (.inr (some 97)), .inl a1, .inl a2], [.inl x7, .inl a2]) M _
    refine zG_blk (c' := (18, [.inr (.inr (some 97)), .inl a1, .inl a2], [.inl 9999, .inl x7, .inl a2])) 1 hd0 hz (by rfl) ?_
    refine zG_call hd0 hz zp_180 rfl rfl (Nat.le_of_ble_eq_true rfl) ⟨Nat.le_refl _, Nat.le_refl _⟩ (qx_in (by first | exact zdp hd (by decide) | omega) hC   a2 (by first | with_reducible exact ha2 | omega) x7 (by omega) 9999 (by first | decide | omega) ) (fun vr M8 hr => ?_)
    obtain ⟨hq, x9, rfl, hx9⟩ := hr
    replace hq := hq.symm; subst hq
    show zG n (0, 0) d 200 (21, [.inr (.inr (some 97)), .inl a1, .inl a2], [.inl x9]) M _
    refine zG_if_eq hd0 hz rfl (fun hb10 => ?_) (fun hb10 => ?_)
    · exact j28 (by omega)
    · have hcx9 := hx9.2.2.mp (by omega)
      clear hx9 hb10
      refine zG_blk (c' := (29, [.inr (.inr (some 97)), .inl a1, .inl a2], [.inl 1])) 2 hd0 hz (by rfl) ?_
      exact j29 1 (by first | decide | omega) (by omega)
