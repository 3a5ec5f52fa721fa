theorem qm_185 {n d : Nat} {M : zM} (hd : 2 ≤ d) (hC : qMI M)  (a0 : Int) (ha0 : (-2147483648) ≤ a0 ∧ a0 ≤ 2147483647) : qOkP n d 185 [.inl a0] 1 M (fun v => ∃ x : Int, v = some (.inl x) ∧ (0 ≤ x ∧ x ≤ 1) ∧ (x = 1 ↔ 0 ≤ a0 ∧ a0 ≤ 100)) := by
  have hz := zp_185
  have hd0 : 0 < d := by omega
  show zG n (0, 0) d 185 (0, [.inl a0], []) M _
  refine zG_blk (c' := (4, [.inl a0], [.inl 100, .inl 0, .inl a0])) 3 hd0 hz (by rfl) ?_
  refine zG_call hd0 hz zp_180 rfl rfl (Nat.le_of_ble_eq_true rfl) ⟨Nat.le_refl _, Nat.le_refl _⟩ (qx_in (by first | exact zdp hd (by decide) | omega) hC   a0 (by first | with_reducible exact ha0 | omega) 0 (by first | decide | omega) 100 (by first | decide | omega) ) (fun vr M1 hr => ?_)
  obtain ⟨hq, x2, rfl, hx2⟩ := hr
  replace hq := hq.symm; subst hq
  show zG n (0, 0) d 185 (7, [.inl a0], [.inl x2]) M _
  exact zG_zret hd0 hz rfl (by omega) ⟨rfl, _, rfl, by omega, by omega⟩
