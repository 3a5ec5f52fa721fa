theorem qm_237_97 {n d : Nat} {M : zM} (hd : 2 ≤ d) (hC : qMI M)  (a1 : Int) (ha1 : 0 ≤ a1 ∧ a1 ≤ 19) (a2 : Int) (ha2 : (-2147483648) ≤ a2 ∧ a2 ≤ 2147483647) : qOkP n d 237 [.inr (.inr (some 97)), .inl a1, .inl a2] 5 M (fun v => ∃ x : Int, v = some (.inl x) ∧ ((-1) ≤ x ∧ x ≤ 9)) := by
  have hz := zp_237
  have hd0 : 0 < d := by omega
  show zG n (0, 0) d 237 (0, [.inr (.inr (some 97)), .inl a1, .inl a2, zN, zN], []) M _
  refine zG_blk (c' := (3, [.inr (.inr (some 97)), .inl a1, .inl a2, zN, zN], [.inl 1, .inl a2, .inr (.inr (some 97))])) 3 hd0 hz (by rfl) ?_
  refine zG_call hd0 hz zp_236 rfl rfl (Nat.le_of_ble_eq_true rfl) ⟨Nat.le_refl _, Nat.le_refl _⟩ (qm_236_97 (by first | exact zdp hd (by decide) | omega) hC   a2 (by first | with_reducible exact ha2 | omega) 1 (by first | decide | omega) ) (fun vr M1 hr => ?_)
  obtain ⟨hq, x2, rfl, hx2⟩ := hr
  replace hq := hq.symm; subst hq
  show zG n (0, 0) d 237 (6, [.inr (.inr (some 97)), .inl a1, .inl a2, zN, zN], [.inl x2]) M _
  refine zG_blk (c' := (9, [.inr (.inr (some 97)), .inl a1, .inl a2, .inl x2, zN], [.inl (-1), .inl x2])) 3 hd0 hz (by rfl) ?_
  refine zG_icmp_eq hd0 hz rfl (fun hb3 => ?_) (fun hb3 => ?_)
  · obtain ⟨x4, hx4⟩ : ∃ x : Int, x = w32 (3 * a1) := ⟨_, rfl⟩
    have hx4e : x4 = 3 * a1 := by rw [hx4]; exact w32_id (by omega)
    obtain ⟨x5, hx5⟩ : ∃ x : Int, x = w32 (80 + x4) := ⟨_, rfl⟩
    have hx5e : x5 = 80 + x4 := by rw [hx5]; exact w32_id (by omega)
    obtain ⟨x6, hx6⟩ : ∃ x : Int, x = w32 (x5 + 1) := ⟨_, rfl⟩
    have hx6e : x6 = x5 + 1 := by rw [hx6]; exact w32_id (by omega)
    refine zG_blk (c' := (26, [.inr (.inr (some 97)), .inl a1, .inl a2, .inl x2, zN], [.inl x6, .inr (.inr (some 98))])) 9 hd0 hz (by subst hx6; subst hx5; subst hx4; rfl) ?_
    refine zG_iald hd0 hz rfl rfl (.inl rfl) (by omega) ?_
    obtain ⟨x7, hx7⟩ : ∃ x : Int, x = M 98 (x6 : Int).toNat := ⟨_, rfl⟩
    rw [← hx7]
    have hx7r : (-1) ≤ x7 ∧ x7 ≤ 9 := by rw [hx7]; exact hC.chosen a1 _ (by omega) (by omega)
    show zG n (0, 0) d 237 (27, [.inr (.inr (some 97)), .inl a1, .inl a2, .inl x2, zN], [.inl x7]) M _
    refine zG_blk (c' := (32, [.inr (.inr (some 97)), .inl a1, .inl a2, .inl x2, .inl x7], [.inl (-1), .inl x7])) 3 hd0 hz (by rfl) ?_
    have j56 : ∀ (v8 : Int) , (-1) ≤ v8 ∧ v8 ≤ 9 → zG n (0, 0) d 237 (56, [.inr (.inr (some 97)), .inl a1, .inl a2, .inl x2, .inl x7], [.inl v8]) M (fun v M' => M' = M ∧ ∃ x : Int, v = some (.inl x) ∧ ((-1) ≤ x ∧ x ≤ 9)) := by
      intro v8 hv8
      exact zG_ret hd0 hz rfl rfl ⟨rfl, _, rfl, by omega⟩
    refine zG_icmp_eq hd0 hz rfl (fun hb9 => ?_) (fun hb9 => ?_)
    · obtain ⟨x10, hx10⟩ : ∃ x : Int, x = w32 (3 * a1) := ⟨_, rfl⟩
      have hx10e : x10 = 3 * a1 := by rw [hx10]; exact w32_id (by omega)
      obtain ⟨x11, hx11⟩ : ∃ x : Int, x = w32 (80 + x10) := ⟨_, rfl⟩
      have hx11e : x11 = 80 + x10 := by rw [hx11]; exact w32_id (by omega)
      refine zG_blk (c' := (51, [.inr (.inr (some 97)), .inl a1, .inl a2, .inl x2, .inl x7], [.inl x11, .inr (.inr (some 98)), .inr (.inr (some 97))])) 8 hd0 hz (by subst hx11; subst hx10; rfl) ?_
      refine zG_iald hd0 hz rfl rfl (.inl rfl) (by omega) ?_
      obtain ⟨x12, hx12⟩ : ∃ x : Int, x = M 98 (x11 : Int).toNat := ⟨_, rfl⟩
      rw [← hx12]
      have hx12r : qin x12 := by rw [hx12]; exact hC.sin _
      show zG n (0, 0) d 237 (52, [.inr (.inr (some 97)), .inl a1, .inl a2, .inl x2, .inl x7], [.inl x12, .inr (.inr (some 97))]) M _
      refine zG_blk (c' := (53, [.inr (.inr (some 97)), .inl a1, .inl a2, .inl x2, .inl x7], [.inl 0, .inl x12, .inr (.inr (some 97))])) 1 hd0 hz (by rfl) ?_
      refine zG_call hd0 hz zp_236 rfl rfl (Nat.le_of_ble_eq_true rfl) ⟨Nat.le_refl _, Nat.le_refl _⟩ (qm_236_97 (by first | exact zdp hd (by decide) | omega) hC   x12 (by omega) 0 (by first | decide | omega) ) (fun vr M13 hr => ?_)
      obtain ⟨hq, x14, rfl, hx14⟩ := hr
      replace hq := hq.symm; subst hq
      show zG n (0, 0) d 237 (56, [.inr (.inr (some 97)), .inl a1, .inl a2, .inl x2, .inl x7], [.inl x14]) M _
      exact j56 x14 (by omega)
    · refine zG_blk (c' := (56, [.inr (.inr (some 97)), .inl a1, .inl a2, .inl x2, .inl x7], [.inl x7])) 2 hd0 hz (by rfl) ?_
      exact j56 x7 (by omega)
  · refine zG_blk (c' := (13, [.inr (.inr (some 97)), .inl a1, .inl a2, .inl x2, zN], [.inl x2])) 1 hd0 hz (by rfl) ?_
    exact zG_ret hd0 hz rfl rfl ⟨rfl, _, rfl, by omega⟩
