theorem qm_198_97 {n d : Nat} {M : zM} (hd : 3 ≤ d) (hC : qMI M)  (a1 : Int) (ha1 : (-2147483648) ≤ a1 ∧ a1 ≤ 2147483647) : qOkP n d 198 [.inr (.inr (some 97)), .inl a1] 2 M (fun v => ∃ x : Int, v = some (.inl x) ∧ (0 ≤ x ∧ x ≤ 1) ∧ (x = 1 ↔ (0 ≤ a1 ∧ a1 < M 98 4 ∧ qA M a1 0 = 0))) := by
  have hz := zp_198
  have hd0 : 0 < d := by omega
  have r1 := hC.cnt4
  show zG n (0, 0) d 198 (0, [.inr (.inr (some 97)), .inl a1], []) M _
  refine zG_blk (c' := (3, [.inr (.inr (some 97)), .inl a1], [.inl a1, .inl 4, .inr (.inr (some 97))])) 3 hd0 hz (by rfl) ?_
  refine zG_call hd0 hz zp_182 rfl rfl (Nat.le_of_ble_eq_true rfl) ⟨Nat.le_refl _, Nat.le_refl _⟩ (qx_is (by first | exact zdp hd (by decide) | omega) hC   4 (by first | decide | omega) a1 (by first | with_reducible exact ha1 | omega) ) (fun vr M2 hr => ?_)
  obtain ⟨hq, x3, rfl, hx3⟩ := hr
  replace hq := hq.symm; subst hq
  show zG n (0, 0) d 198 (6, [.inr (.inr (some 97)), .inl a1], [.inl x3]) M _
  have j23 : ∀ (v4 : Int) , 0 ≤ v4 ∧ v4 ≤ 1 → (v4 = 1 ↔ (0 ≤ a1 ∧ a1 < M 98 4 ∧ qA M a1 0 = 0)) → zG n (0, 0) d 198 (23, [.inr (.inr (some 97)), .inl a1], [.inl v4]) M (fun v M' => M' = M ∧ ∃ x : Int, v = some (.inl x) ∧ (0 ≤ x ∧ x ≤ 1) ∧ (x = 1 ↔ (0 ≤ a1 ∧ a1 < M 98 4 ∧ qA M a1 0 = 0))) := by
    intro v4 hv4 hx0_23
    exact zG_zret hd0 hz rfl (by omega) ⟨rfl, _, rfl, by omega, by omega⟩
  have j22 : (¬ (0 ≤ a1 ∧ a1 < M 98 4 ∧ qA M a1 0 = 0)) → zG n (0, 0) d 198 (22, [.inr (.inr (some 97)), .inl a1], []) M (fun v M' => M' = M ∧ ∃ x : Int, v = some (.inl x) ∧ (0 ≤ x ∧ x ≤ 1) ∧ (x = 1 ↔ (0 ≤ a1 ∧ a1 < M 98 4 ∧ qA M a1 0 = 0))) := by
    intro hx0_22
    refine zG_blk (c' := (23, [.inr (.inr (some 97)), .inl a1], [.inl 0])) 1 hd0 hz (by rfl) ?_
    exact j23 0 (by first | decide | omega) (by omega)
  refine zG_if_eq hd0 hz rfl (fun hb5 => ?_) (fun hb5 => ?_)
  · exact j22 (by omega)
  · have hcx3 := hx3.2.2.mp (by omega)
    clear hx3 hb5
    refine zG_blk (c' := (12, [.inr (.inr (some 97)), .inl a1], [.inl 0, .inl a1, .inr (.inr (some 97))])) 3 hd0 hz (by rfl) ?_
    refine zG_call hd0 hz zp_194 rfl rfl (Nat.le_of_ble_eq_true rfl) ⟨Nat.le_refl _, Nat.le_refl _⟩ (qx_act0 (by first | exact zdp hd (by decide) | omega) hC   a1 (by first | with_reducible exact ha1 | omega) 0 (by first | decide | omega) ) (fun vr M6 hr => ?_)
    obtain ⟨hq, x7, rfl, hx7⟩ := hr
    replace hq := hq.symm; subst hq
    show zG n (0, 0) d 198 (15, [.inr (.inr (some 97)), .inl a1], [.inl x7]) M _
    refine zG_if_ne hd0 hz rfl (fun hb8 => ?_) (fun hb8 => ?_)
    · exact j22 (by omega)
    · refine zG_blk (c' := (23, [.inr (.inr (some 97)), .inl a1], [.inl 1])) 2 hd0 hz (by rfl) ?_
      exact j23 1 (by first | decide | omega) (by omega)
