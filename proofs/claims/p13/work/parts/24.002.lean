theorem qm_128_8 {n d : Nat} {M : zM} (hd : 3 ≤ d) (hC : qCI M) (a1 : Int) (ha1 : (-2147483648) ≤ a1 ∧ a1 ≤ 2147483647) : qOkP n d 128 [.inr (.inr (some 8)), .inl a1] 2 M (qRi (fun x => (-2) ≤ x ∧ x ≤ 1)) := by
  have hz := zp_128
  have hd0 : 0 < d := by omega
  show zG n (0, 0) d 128 (0, [.inr (.inr (some 8)), .inl a1], []) M _
  refine zG_blk (c' := (8, [.inr (.inr (some 8)), .inl a1], [.inl a1, .inr (.inr (some 16))])) 4 hd0 hz (by rfl) ?_
  refine zG_call hd0 hz zp_102 rfl rfl (Nat.le_of_ble_eq_true rfl) ⟨Nat.le_refl _, Nat.le_refl _⟩ (qw_has (by first | exact zdp hd (by decide) | omega) hC (⟨by decide, rfl, rfl⟩ : qT n 16 40 5) a1 (by first | with_reducible exact ha1 | omega)) (fun vr M1 hr => ?_)
  obtain ⟨hq, x2, rfl, hx2⟩ := hr
  replace hq := hq.symm; subst hq
  show zG n (0, 0) d 128 (11, [.inr (.inr (some 8)), .inl a1], [.inl x2]) M _
  refine zG_if_ne hd0 hz rfl (fun hb3 => ?_) (fun hb3 => ?_)
  · refine zG_blk (c' := (22, [.inr (.inr (some 8)), .inl a1], [.inl a1, .inr (.inr (some 9))])) 3 hd0 hz (by rfl) ?_
    refine zG_call hd0 hz zp_20 rfl rfl (Nat.le_of_ble_eq_true rfl) ⟨Nat.le_refl _, Nat.le_refl _⟩ (qm_20_9 (by first | exact zdp hd (by decide) | omega) hC  a1 (by first | with_reducible exact ha1 | omega)) (fun vr M4 hr => ?_)
    obtain ⟨hq, x5, rfl, hx5⟩ := hr
    replace hq := hq.symm; subst hq
    show zG n (0, 0) d 128 (25, [.inr (.inr (some 8)), .inl a1], [.inl x5]) M _
    have j33 : ∀ (v6 : Int) , 0 ≤ v6 ∧ v6 ≤ 1 → zG n (0, 0) d 128 (33, [.inr (.inr (some 8)), .inl a1], [.inl v6]) M (fun v M' => M' = M ∧ qRi (fun x => (-2) ≤ x ∧ x ≤ 1) v) := by
      intro v6 hv6
      exact zG_ret hd0 hz rfl rfl ⟨rfl, _, rfl, by omega⟩
    refine zG_if_eq hd0 hz rfl (fun hb7 => ?_) (fun hb7 => ?_)
    · refine zG_blk (c' := (33, [.inr (.inr (some 8)), .inl a1], [.inl 0])) 1 hd0 hz (by rfl) ?_
      exact j33 0 (by first | decide | omega)
    · refine zG_blk (c' := (33, [.inr (.inr (some 8)), .inl a1], [.inl 1])) 2 hd0 hz (by rfl) ?_
      exact j33 1 (by first | decide | omega)
  · refine zG_blk (c' := (16, [.inr (.inr (some 8)), .inl a1], [.inl (-2)])) 1 hd0 hz (by rfl) ?_
    exact zG_ret hd0 hz rfl rfl ⟨rfl, _, rfl, by omega⟩
theorem qm_174_8 {n d : Nat} {M : zM} (hd : 2 ≤ d) (hC : qCI M) (a1 : Int) (ha1 : (-2147483648) ≤ a1 ∧ a1 ≤ 2147483647) : qOkP n d 174 [.inr (.inr (some 8)), .inl a1] 2 M (qRi (fun x => 0 ≤ x ∧ x ≤ 1)) := by
  have hz := zp_174
  have hd0 : 0 < d := by omega
  show zG n (0, 0) d 174 (0, [.inr (.inr (some 8)), .inl a1], []) M _
  refine zG_blk (c' := (8, [.inr (.inr (some 8)), .inl a1], [.inl a1, .inr (.inr (some 12))])) 4 hd0 hz (by rfl) ?_
  refine zG_call hd0 hz zp_102 rfl rfl (Nat.le_of_ble_eq_true rfl) ⟨Nat.le_refl _, Nat.le_refl _⟩ (qw_has (by first | exact zdp hd (by decide) | omega) hC (⟨by decide, rfl, rfl⟩ : qT n 12 20 3) a1 (by first | with_reducible exact ha1 | omega)) (fun vr M1 hr => ?_)
  obtain ⟨hq, x2, rfl, hx2⟩ := hr
  replace hq := hq.symm; subst hq
  show zG n (0, 0) d 174 (11, [.inr (.inr (some 8)), .inl a1], [.inl x2]) M _
  exact zG_zret hd0 hz rfl (by omega) ⟨rfl, _, rfl, by omega⟩
theorem qm_175_8 {n d : Nat} {M : zM} (hd : 2 ≤ d) (hC : qCI M) (a1 : Int) (ha1 : (-2147483648) ≤ a1 ∧ a1 ≤ 2147483647) : qOkP n d 175 [.inr (.inr (some 8)), .inl a1] 2 M (qRi (fun x => 0 ≤ x ∧ x ≤ 1)) := by
  have hz := zp_175
  have hd0 : 0 < d := by omega
  show zG n (0, 0) d 175 (0, [.inr (.inr (some 8)), .inl a1], []) M _
  refine zG_blk (c' := (8, [.inr (.inr (some 8)), .inl a1], [.inl a1, .inr (.inr (some 10))])) 4 hd0 hz (by rfl) ?_
  refine zG_call hd0 hz zp_102 rfl rfl (Nat.le_of_ble_eq_true rfl) ⟨Nat.le_refl _, Nat.le_refl _⟩ (qw_has (by first | exact zdp hd (by decide) | omega) hC (⟨by decide, rfl, rfl⟩ : qT n 10 14 4) a1 (by first | with_reducible exact ha1 | omega)) (fun vr M1 hr => ?_)
  obtain ⟨hq, x2, rfl, hx2⟩ := hr
  replace hq := hq.symm; subst hq
  show zG n (0, 0) d 175 (11, [.inr (.inr (some 8)), .inl a1], [.inl x2]) M _
  exact zG_zret hd0 hz rfl (by omega) ⟨rfl, _, rfl, by omega⟩
theorem qm_171 {n d : Nat} {M : zM} (hd : 2 ≤ d) (hC : qCI M) (a0 : Int) (ha0 : (-2147483648) ≤ a0 ∧ a0 ≤ 2147483647) : qOkP n d 171 [.inl a0] 1 M (qRi (fun x => 0 ≤ x ∧ x ≤ 1)) := by
  have hz := zp_171
  have hd0 : 0 < d := by omega
  show zG n (0, 0) d 171 (0, [.inl a0], []) M _
  refine zG_blk (c' := (4, [.inl a0], [.inl 100, .inl 0, .inl a0])) 3 hd0 hz (by rfl) ?_
  refine zG_call hd0 hz zp_169 rfl rfl (Nat.le_of_ble_eq_true rfl) ⟨Nat.le_refl _, Nat.le_refl _⟩ (qm_169 (by first | exact zdp hd (by decide) | omega) hC  a0 (by first | with_reducible exact ha0 | omega) 0 (by first | decide | omega) 100 (by first | decide | omega)) (fun vr M1 hr => ?_)
  obtain ⟨hq, x2, rfl, hx2⟩ := hr
  replace hq := hq.symm; subst hq
  show zG n (0, 0) d 171 (7, [.inl a0], [.inl x2]) M _
  exact zG_zret hd0 hz rfl (by omega) ⟨rfl, _, rfl, by omega⟩
theorem qm_172 {n d : Nat} {M : zM} (hd : 2 ≤ d) (hC : qCI M) (a0 : Int) (ha0 : (-2147483648) ≤ a0 ∧ a0 ≤ 2147483647) : qOkP n d 172 [.inl a0] 1 M (qRi (fun x => 0 ≤ x ∧ x ≤ 1)) := by
  have hz := zp_172
  have hd0 : 0 < d := by omega
  show zG n (0, 0) d 172 (0, [.inl a0], []) M _
  refine zG_blk (c' := (3, [.inl a0], [.inl 4, .inl 0, .inl a0])) 3 hd0 hz (by rfl) ?_
  refine zG_call hd0 hz zp_169 rfl rfl (Nat.le_of_ble_eq_true rfl) ⟨Nat.le_refl _, Nat.le_refl _⟩ (qm_169 (by first | exact zdp hd (by decide) | omega) hC  a0 (by first | with_reducible exact ha0 | omega) 0 (by first | decide | omega) 4 (by first | decide | omega)) (fun vr M1 hr => ?_)
  obtain ⟨hq, x2, rfl, hx2⟩ := hr
  replace hq := hq.symm; subst hq
  show zG n (0, 0) d 172 (6, [.inl a0], [.inl x2]) M _
  exact zG_zret hd0 hz rfl (by omega) ⟨rfl, _, rfl, by omega⟩
