/-! THE MODEL'S METHODS, BY PROGRAM -/
theorem qm_184 {n d : Nat} {M : zM} (hd : 2 ≤ d) (hC : qMI M)  (a0 : Int) (ha0 : (-2147483648) ≤ a0 ∧ a0 ≤ 2147483647) : qOkP n d 184 [.inl a0] 1 M (fun v => ∃ x : Int, v = some (.inl x) ∧ (0 ≤ x ∧ x ≤ 1) ∧ (x = 1 ↔ 0 ≤ a0 ∧ a0 ≤ 9999)) := by
  have hz := zp_184
  have hd0 : 0 < d := by omega
  show zG n (0, 0) d 184 (0, [.inl a0], []) M _
  refine zG_blm (c' := (5, [.inl a0], [.inl 9999, .inl 0, .inl a0])) 3 hd0 hz (by rfl) ?_
  refine zG_call hd0 hz zp_180 rfl rfl (Nat.le_of_ble_eq_true rfl) ⟨Nat.le_refl _, Nat.le_refl _⟩ (qx_in (by first | exact zdp hd (by decide) | omega) hC   a0 (by first | with_reducible exact ha0 | omega) 0 (by first | decide | omega) 9999 (by first | decide | omega) ) (fun vr M1 hr => ?_)
  obtain ⟨hq, x2, rfl, hx2⟩ := hr
  replace hq := hq.symm; subst hq
  show zG n (0, 0) d 184 (8, [.inl a0], [.inl x2]) M _
  exact zG_zret hd0 hz rfl (by omega) ⟨rfl, _, rfl, by omega, by omega⟩
theorem qm_185 {n d : Nat} {M : zM} (hd : 2 ≤ d) (hC : qMI M)  (a0 : Int) (ha0 : (-2147483648) ≤ a0 ∧ a0 ≤ 2147483647) : qOkP n d 185 [.inl a0] 1 M (fun v => ∃ x : Int, v = some (.inl x) ∧ (0 ≤ x ∧ x ≤ 1) ∧ (x = 1 ↔ 0 ≤ a0 ∧ a0 ≤ 100)) := by
  have hz := zp_185
  have hd0 : 0 < d := by omega
  show zG n (0, 0) d 185 (0, [.inl a0], []) M _
  refine zG_blm (c' := (4, [.inl a0], [.inl 100, .inl 0, .inl a0])) 3 hd0 hz (by rfl) ?_
  refine zG_call hd0 hz zp_180 rfl rfl (Nat.le_of_ble_eq_true rfl) ⟨Nat.le_refl _, Nat.le_refl _⟩ (qx_in (by first | exact zdp hd (by decide) | omega) hC   a0 (by first | with_reducible exact ha0 | omega) 0 (by first | decide | omega) 100 (by first | decide | omega) ) (fun vr M1 hr => ?_)
  obtain ⟨hq, x2, rfl, hx2⟩ := hr
  replace hq := hq.symm; subst hq
  show zG n (0, 0) d 185 (7, [.inl a0], [.inl x2]) M _
  exact zG_zret hd0 hz rfl (by omega) ⟨rfl, _, rfl, by omega, by omega⟩
theorem qm_252 {n d : Nat} {M : zM} (hd : 2 ≤ d) (hC : qMI M)  (a0 : Int) (ha0 : (-2147483648) ≤ a0 ∧ a0 ≤ 2147483647) : qOkP n d 252 [.inl a0] 1 M (fun v => ∃ x : Int, v = some (.inl x) ∧ (0 ≤ x ∧ x ≤ 1) ∧ (x = 1 ↔ 0 ≤ a0 ∧ a0 ≤ 7)) := by
  have hz := zp_252
  have hd0 : 0 < d := by omega
  show zG n (0, 0) d 252 (0, [.inl a0], []) M _
  refine zG_blm (c' := (4, [.inl a0], [.inl 7, .inl 0, .inl a0])) 3 hd0 hz (by rfl) ?_
  refine zG_call hd0 hz zp_180 rfl rfl (Nat.le_of_ble_eq_true rfl) ⟨Nat.le_refl _, Nat.le_refl _⟩ (qx_in (by first | exact zdp hd (by decide) | omega) hC   a0 (by first | with_reducible exact ha0 | omega) 0 (by first | decide | omega) 7 (by first | decide | omega) ) (fun vr M1 hr => ?_)
  obtain ⟨hq, x2, rfl, hx2⟩ := hr
  replace hq := hq.symm; subst hq
  show zG n (0, 0) d 252 (7, [.inl a0], [.inl x2]) M _
  exact zG_zret hd0 hz rfl (by omega) ⟨rfl, _, rfl, by omega, by omega⟩
theorem qm_192_97 {n d : Nat} {M : zM} (hd : 2 ≤ d) (hC : qMI M)  (a1 : Int) (ha1 : 0 ≤ a1 ∧ a1 ≤ 39) : qOkP n d 192 [.inr (.inr (some 97)), .inl a1] 4 M (fun v => ∃ x : Int, v = some (.inl x) ∧ (0 ≤ x ∧ x ≤ 1) ∧ (x = qStN M a1)) := by
  have hz := zp_192
  have hd0 : 0 < d := by omega
  show zG n (0, 0) d 192 (0, [.inr (.inr (some 97)), .inl a1, zN, zN], []) M _
  obtain ⟨x1, hx1⟩ : ∃ x : Int, x = w32 (5 * a1) := ⟨_, rfl⟩
  have hx1e : x1 = 5 * a1 := by rw [hx1]; exact w32_id (by omega)
  obtain ⟨x2, hx2⟩ : ∃ x : Int, x = w32 (150 + x1) := ⟨_, rfl⟩
  have hx2e : x2 = 150 + x1 := by rw [hx2]; exact w32_id (by omega)
  refine zG_blm (c' := (21, [.inr (.inr (some 97)), .inl a1, .inl x2, zN], [.inl x2, .inr (.inr (some 98)), .inl 2, .inl 140, .inr (.inr (some 98))])) 13 hd0 hz (by subst hx2; subst hx1; rfl) ?_
  refine zG_iald hd0 hz rfl rfl (.inl rfl) (by omega) ?_
  obtain ⟨x3, hx3⟩ : ∃ x : Int, x = M 98 (x2 : Int).toNat := ⟨_, rfl⟩
  rw [← hx3]
  have hx3r : 0 ≤ x3 ∧ x3 ≤ 3 := by rw [hx3]; exact hC.brd a1 _ (by omega) (by omega)
  have hbo : x3 = qMt M a1 0 := by unfold qMt; rw [hx3, show x2 = 150 + 5 * a1 + 0 by omega]
  show zG n (0, 0) d 192 (22, [.inr (.inr (some 97)), .inl a1, .inl x2, zN], [.inl x3, .inl 2, .inl 140, .inr (.inr (some 98))]) M _
  obtain ⟨x4, hx4⟩ : ∃ x : Int, x = w32 (2 * x3) := ⟨_, rfl⟩
  have hx4e : x4 = 2 * x3 := by rw [hx4]; exact w32_id (by omega)
  obtain ⟨x5, hx5⟩ : ∃ x : Int, x = w32 (140 + x4) := ⟨_, rfl⟩
  have hx5e : x5 = 140 + x4 := by rw [hx5]; exact w32_id (by omega)
  refine zG_blm (c' := (24, [.inr (.inr (some 97)), .inl a1, .inl x2, zN], [.inl x5, .inr (.inr (some 98))])) 2 hd0 hz (by subst hx5; subst hx4; rfl) ?_
  refine zG_iald hd0 hz rfl rfl (.inl rfl) (by omega) ?_
  obtain ⟨x6, hx6⟩ : ∃ x : Int, x = M 98 (x5 : Int).toNat := ⟨_, rfl⟩
  rw [← hx6]
  have hx6r : qin x6 := by rw [hx6]; exact hC.sin _
  have hse : x6 = qSeats M a1 := by unfold qSeats; rw [hx6, show x5 = 140 + 2 * qMt M a1 0 by omega]
  show zG n (0, 0) d 192 (25, [.inr (.inr (some 97)), .inl a1, .inl x2, zN], [.inl x6]) M _
  obtain ⟨x7, hx7⟩ : ∃ x : Int, x = w32 (x2 + 4) := ⟨_, rfl⟩
  have hx7e : x7 = x2 + 4 := by rw [hx7]; exact w32_id (by omega)
  refine zG_blm (c' := (33, [.inr (.inr (some 97)), .inl a1, .inl x2, .inl x6], [.inl x7, .inr (.inr (some 98))])) 6 hd0 hz (by subst hx7; rfl) ?_
  refine zG_iald hd0 hz rfl rfl (.inl rfl) (by omega) ?_
  obtain ⟨x8, hx8⟩ : ∃ x : Int, x = M 98 (x7 : Int).toNat := ⟨_, rfl⟩
  rw [← hx8]
  have hx8r : qin x8 := by rw [hx8]; exact hC.sin _
  have hv4 : x8 = qMt M a1 4 := by unfold qMt; rw [hx8, show x7 = 150 + 5 * a1 + 4 by omega]
  have hs0 : x8 ≠ 0 → qStN M a1 = 0 := fun h9 => qStN_v (by omega)
  show zG n (0, 0) d 192 (34, [.inr (.inr (some 97)), .inl a1, .inl x2, .inl x6], [.inl x8]) M _
  have j91 : ∀ (v9 : Int) , 0 ≤ v9 ∧ v9 ≤ 1 → (v9 = qStN M a1) → zG n (0, 0) d 192 (91, [.inr (.inr (some 97)), .inl a1, .inl x2, .inl x6], [.inl v9]) M (fun v M' => M' = M ∧ ∃ x : Int, v = some (.inl x) ∧ (0 ≤ x ∧ x ≤ 1) ∧ (x = qStN M a1)) := by
    intro v9 hv9 hx0_91
    exact zG_zret hd0 hz rfl (by omega) ⟨rfl, _, rfl, by omega, by omega⟩
  have j90 : (qStN M a1 = 0) → zG n (0, 0) d 192 (90, [.inr (.inr (some 97)), .inl a1, .inl x2, .inl x6], []) M (fun v M' => M' = M ∧ ∃ x : Int, v = some (.inl x) ∧ (0 ≤ x ∧ x ≤ 1) ∧ (x = qStN M a1)) := by
    intro hx0_90
    refine zG_blm (c' := (91, [.inr (.inr (some 97)), .inl a1, .inl x2, .inl x6], [.inl 0])) 1 hd0 hz (by rfl) ?_
    exact j91 0 (by first | decide | omega) (by omega)
  refine zG_if_ne hd0 hz rfl (fun hb10 => ?_) (fun hb10 => ?_)
  · exact j90 (by omega)
  · obtain ⟨x11, hx11⟩ : ∃ x : Int, x = w32 (x2 + 2) := ⟨_, rfl⟩
    have hx11e : x11 = x2 + 2 := by rw [hx11]; exact w32_id (by omega)
    refine zG_blm (c' := (44, [.inr (.inr (some 97)), .inl a1, .inl x2, .inl x6], [.inl x11, .inr (.inr (some 98))])) 5 hd0 hz (by subst hx11; rfl) ?_
    refine zG_iald hd0 hz rfl rfl (.inl rfl) (by omega) ?_
    obtain ⟨x12, hx12⟩ : ∃ x : Int, x = M 98 (x11 : Int).toNat := ⟨_, rfl⟩
    rw [← hx12]
    have hx12r : qin x12 := by rw [hx12]; exact hC.sin _
    have hv2 : x12 = qMt M a1 2 := by unfold qMt; rw [hx12, show x11 = 150 + 5 * a1 + 2 by omega]
    show zG n (0, 0) d 192 (45, [.inr (.inr (some 97)), .inl a1, .inl x2, .inl x6], [.inl x12]) M _
    obtain ⟨x13, hx13⟩ : ∃ x : Int, x = zband x12 x6 := ⟨_, rfl⟩
    have hx13r : qin x13 := by rw [hx13]; exact qb32 _
    have hs1 : x13 ≠ x6 → qStN M a1 = 0 := fun h9 => qStN_c (by rw [← hv2, ← hse, ← hx13]; exact h9)
    have hs1e : x13 = x6 → zband (qMt M a1 2) (qSeats M a1) = qSeats M a1 := fun h9 => by rw [← hv2, ← hse, ← hx13]; exact h9
    refine zG_blm (c' := (48, [.inr (.inr (some 97)), .inl a1, .inl x2, .inl x6], [.inl x6, .inl x13])) 3 hd0 hz (by subst hx13; rfl) ?_
    refine zG_icmp_ne hd0 hz rfl (fun hb14 => ?_) (fun hb14 => ?_)
    · exact j90 (by omega)
    · obtain ⟨x15, hx15⟩ : ∃ x : Int, x = w32 (x2 + 3) := ⟨_, rfl⟩
      have hx15e : x15 = x2 + 3 := by rw [hx15]; exact w32_id (by omega)
      refine zG_blm (c' := (58, [.inr (.inr (some 97)), .inl a1, .inl x2, .inl x6], [.inl x15, .inr (.inr (some 98))])) 5 hd0 hz (by subst hx15; rfl) ?_
      refine zG_iald hd0 hz rfl rfl (.inl rfl) (by omega) ?_
      obtain ⟨x16, hx16⟩ : ∃ x : Int, x = M 98 (x15 : Int).toNat := ⟨_, rfl⟩
      rw [← hx16]
      have hx16r : qin x16 := by rw [hx16]; exact hC.sin _
      have hv3 : x16 = qMt M a1 3 := by unfold qMt; rw [hx16, show x15 = 150 + 5 * a1 + 3 by omega]
      show zG n (0, 0) d 192 (59, [.inr (.inr (some 97)), .inl a1, .inl x2, .inl x6], [.inl x16]) M _
      obtain ⟨x17, hx17⟩ : ∃ x : Int, x = zband x16 x6 := ⟨_, rfl⟩
      have hx17r : qin x17 := by rw [hx17]; exact qb32 _
      have hnd : x17 = zband (qMt M a1 3) (qSeats M a1) := by rw [hx17, ← hv3, ← hse]
      refine zG_blm (c' := (61, [.inr (.inr (some 97)), .inl a1, .inl x2, .inl x6], [.inl x17])) 2 hd0 hz (by subst hx17; rfl) ?_
      refine zG_call hd0 hz zp_186 rfl rfl (Nat.le_of_ble_eq_true rfl) ⟨Nat.le_refl _, Nat.le_refl _⟩ (qx_sizeOf (by first | exact zdp hd (by decide) | omega) hC   x17 (by omega) ) (fun vr M18 hr => ?_)
      obtain ⟨hq, x19, rfl, hx19⟩ := hr
      replace hq := hq.symm; subst hq
      have hsz := hx19.2.2
      rw [hnd] at hsz
      show zG n (0, 0) d 192 (64, [.inr (.inr (some 97)), .inl a1, .inl x2, .inl x6], [.inl x19]) M _
      refine zG_blm (c' := (77, [.inr (.inr (some 97)), .inl a1, .inl x2, .inl x6], [.inl x2, .inr (.inr (some 98)), .inl 2, .inl 140, .inr (.inr (some 98)), .inl x19])) 7 hd0 hz (by rfl) ?_
      refine zG_iald hd0 hz rfl rfl (.inl rfl) (by omega) ?_
      obtain ⟨x20, hx20⟩ : ∃ x : Int, x = M 98 (x2 : Int).toNat := ⟨_, rfl⟩
      rw [← hx20]
      have hx20r : 0 ≤ x20 ∧ x20 ≤ 3 := by rw [hx20]; exact hC.brd a1 _ (by omega) (by omega)
      have hbo2 : x20 = qMt M a1 0 := by unfold qMt; rw [hx20, show x2 = 150 + 5 * a1 + 0 by omega]
      show zG n (0, 0) d 192 (78, [.inr (.inr (some 97)), .inl a1, .inl x2, .inl x6], [.inl x20, .inl 2, .inl 140, .inr (.inr (some 98)), .inl x19]) M _
      obtain ⟨x21, hx21⟩ : ∃ x : Int, x = w32 (2 * x20) := ⟨_, rfl⟩
      have hx21e : x21 = 2 * x20 := by rw [hx21]; exact w32_id (by omega)
      obtain ⟨x22, hx22⟩ : ∃ x : Int, x = w32 (140 + x21) := ⟨_, rfl⟩
      have hx22e : x22 = 140 + x21 := by rw [hx22]; exact w32_id (by omega)
      obtain ⟨x23, hx23⟩ : ∃ x : Int, x = w32 (x22 + 1) := ⟨_, rfl⟩
      have hx23e : x23 = x22 + 1 := by rw [hx23]; exact w32_id (by omega)
      refine zG_blm (c' := (82, [.inr (.inr (some 97)), .inl a1, .inl x2, .inl x6], [.inl x23, .inr (.inr (some 98)), .inl x19])) 4 hd0 hz (by subst hx23; subst hx22; subst hx21; rfl) ?_
      refine zG_iald hd0 hz rfl rfl (.inl rfl) (by omega) ?_
      obtain ⟨x24, hx24⟩ : ∃ x : Int, x = M 98 (x23 : Int).toNat := ⟨_, rfl⟩
      rw [← hx24]
      have hx24r : qin x24 := by rw [hx24]; exact hC.sin _
      have hqu : x24 = qQuor M a1 := by unfold qQuor; rw [hx24, show x23 = 140 + 2 * qMt M a1 0 + 1 by omega]
      have hs2 : x19 < x24 → qStN M a1 = 0 := fun h9 => qStN_q (by omega)
      have hs3 : x24 ≤ x19 → qStN M a1 = 1 := fun h9 => qStN_1 (by omega) (hs1e (by omega)) (by omega)
      show zG n (0, 0) d 192 (83, [.inr (.inr (some 97)), .inl a1, .inl x2, .inl x6], [.inl x24, .inl x19]) M _
      refine zG_icmp_lt hd0 hz rfl (fun hb25 => ?_) (fun hb25 => ?_)
      · exact j90 (by omega)
      · refine zG_blm (c' := (91, [.inr (.inr (some 97)), .inl a1, .inl x2, .inl x6], [.inl 1])) 2 hd0 hz (by rfl) ?_
        exact j91 1 (by first | decide | omega) (by omega)
theorem qm_193_97 {n d : Nat} {M : zM} (hd : 3 ≤ d) (hC : qMI M)  (a1 : Int) (ha1 : (-2147483648) ≤ a1 ∧ a1 ≤ 2147483647) : qOkP n d 193 [.inr (.inr (some 97)), .inl a1] 2 M (fun v => ∃ x : Int, v = some (.inl x) ∧ ((-2) ≤ x ∧ x ≤ 1)) := by
  have hz := zp_193
  have hd0 : 0 < d := by omega
  have r1 := hC.cnt3
  show zG n (0, 0) d 193 (0, [.inr (.inr (some 97)), .inl a1], []) M _
  refine zG_blm (c' := (3, [.inr (.inr (some 97)), .inl a1], [.inl a1, .inl 3, .inr (.inr (some 97))])) 3 hd0 hz (by rfl) ?_
  refine zG_call hd0 hz zp_182 rfl rfl (Nat.le_of_ble_eq_true rfl) ⟨Nat.le_refl _, Nat.le_refl _⟩ (qx_is (by first | exact zdp hd (by decide) | omega) hC   3 (by first | decide | omega) a1 (by first | with_reducible exact ha1 | omega) ) (fun vr M2 hr => ?_)
  obtain ⟨hq, x3, rfl, hx3⟩ := hr
  replace hq := hq.symm; subst hq
  show zG n (0, 0) d 193 (6, [.inr (.inr (some 97)), .inl a1], [.inl x3]) M _
  have j27 : ∀ (v4 : Int) , (-2) ≤ v4 ∧ v4 ≤ 1 → zG n (0, 0) d 193 (27, [.inr (.inr (some 97)), .inl a1], [.inl v4]) M (fun v M' => M' = M ∧ ∃ x : Int, v = some (.inl x) ∧ ((-2) ≤ x ∧ x ≤ 1)) := by
    intro v4 hv4
    exact zG_ret hd0 hz rfl rfl ⟨rfl, _, rfl, by omega⟩
  refine zG_if_ne hd0 hz rfl (fun hb5 => ?_) (fun hb5 => ?_)
  · have hcx3 := hx3.2.2.mp (by omega)
    clear hx3 hb5
    refine zG_blm (c' := (16, [.inr (.inr (some 97)), .inl a1], [.inl a1, .inr (.inr (some 97))])) 2 hd0 hz (by rfl) ?_
    refine zG_call hd0 hz zp_192 rfl rfl (Nat.le_of_ble_eq_true rfl) ⟨Nat.le_refl _, Nat.le_refl _⟩ (qm_192_97 (by first | exact zdp hd (by decide) | omega) hC   a1 (by first | with_reducible exact ha1 | omega) ) (fun vr M6 hr => ?_)
    obtain ⟨hq, x7, rfl, hx7, hpx7_0⟩ := hr
    replace hq := hq.symm; subst hq
    show zG n (0, 0) d 193 (19, [.inr (.inr (some 97)), .inl a1], [.inl x7]) M _
    refine zG_if_eq hd0 hz rfl (fun hb8 => ?_) (fun hb8 => ?_)
    · refine zG_blm (c' := (27, [.inr (.inr (some 97)), .inl a1], [.inl 0])) 1 hd0 hz (by rfl) ?_
      exact j27 0 (by first | decide | omega)
    · refine zG_blm (c' := (27, [.inr (.inr (some 97)), .inl a1], [.inl 1])) 2 hd0 hz (by rfl) ?_
      exact j27 1 (by first | decide | omega)
  · refine zG_blm (c' := (27, [.inr (.inr (some 97)), .inl a1], [.inl (-2)])) 2 hd0 hz (by rfl) ?_
    exact j27 (-2) (by first | decide | omega)
theorem qm_198_97 {n d : Nat} {M : zM} (hd : 3 ≤ d) (hC : qMI M)  (a1 : Int) (ha1 : (-2147483648) ≤ a1 ∧ a1 ≤ 2147483647) : qOkP n d 198 [.inr (.inr (some 97)), .inl a1] 2 M (fun v => ∃ x : Int, v = some (.inl x) ∧ (0 ≤ x ∧ x ≤ 1) ∧ (x = 1 ↔ (0 ≤ a1 ∧ a1 < M 98 4 ∧ qA M a1 0 = 0))) := by
  have hz := zp_198
  have hd0 : 0 < d := by omega
  have r1 := hC.cnt4
  show zG n (0, 0) d 198 (0, [.inr (.inr (some 97)), .inl a1], []) M _
  refine zG_blm (c' := (3, [.inr (.inr (some 97)), .inl a1], [.inl a1, .inl 4, .inr (.inr (some 97))])) 3 hd0 hz (by rfl) ?_
  refine zG_call hd0 hz zp_182 rfl rfl (Nat.le_of_ble_eq_true rfl) ⟨Nat.le_refl _, Nat.le_refl _⟩ (qx_is (by first | exact zdp hd (by decide) | omega) hC   4 (by first | decide | omega) a1 (by first | with_reducible exact ha1 | omega) ) (fun vr M2 hr => ?_)
  obtain ⟨hq, x3, rfl, hx3⟩ := hr
  replace hq := hq.symm; subst hq
  show zG n (0, 0) d 198 (6, [.inr (.inr (some 97)), .inl a1], [.inl x3]) M _
  have j23 : ∀ (v4 : Int) , 0 ≤ v4 ∧ v4 ≤ 1 → (v4 = 1 ↔ (0 ≤ a1 ∧ a1 < M 98 4 ∧ qA M a1 0 = 0)) → zG n (0, 0) d 198 (23, [.inr (.inr (some 97)), .inl a1], [.inl v4]) M (fun v M' => M' = M ∧ ∃ x : Int, v = some (.inl x) ∧ (0 ≤ x ∧ x ≤ 1) ∧ (x = 1 ↔ (0 ≤ a1 ∧ a1 < M 98 4 ∧ qA M a1 0 = 0))) := by
    intro v4 hv4 hx0_23
    exact zG_zret hd0 hz rfl (by omega) ⟨rfl, _, rfl, by omega, by omega⟩
  have j22 : (¬ (0 ≤ a1 ∧ a1 < M 98 4 ∧ qA M a1 0 = 0)) → zG n (0, 0) d 198 (22, [.inr (.inr (some 97)), .inl a1], []) M (fun v M' => M' = M ∧ ∃ x : Int, v = some (.inl x) ∧ (0 ≤ x ∧ x ≤ 1) ∧ (x = 1 ↔ (0 ≤ a1 ∧ a1 < M 98 4 ∧ qA M a1 0 = 0))) := by
    intro hx0_22
    refine zG_blm (c' := (23, [.inr (.inr (some 97)), .inl a1], [.inl 0])) 1 hd0 hz (by rfl) ?_
    exact j23 0 (by first | decide | omega) (by omega)
  refine zG_if_eq hd0 hz rfl (fun hb5 => ?_) (fun hb5 => ?_)
  · exact j22 (by omega)
  · have hcx3 := hx3.2.2.mp (by omega)
    clear hx3 hb5
    refine zG_blm (c' := (12, [.inr (.inr (some 97)), .inl a1], [.inl 0, .inl a1, .inr (.inr (some 97))])) 3 hd0 hz (by rfl) ?_
    refine zG_call hd0 hz zp_194 rfl rfl (Nat.le_of_ble_eq_true rfl) ⟨Nat.le_refl _, Nat.le_refl _⟩ (qx_act0 (by first | exact zdp hd (by decide) | omega) hC   a1 (by first | with_reducible exact ha1 | omega) 0 (by first | decide | omega) ) (fun vr M6 hr => ?_)
    obtain ⟨hq, x7, rfl, hx7⟩ := hr
    replace hq := hq.symm; subst hq
    show zG n (0, 0) d 198 (15, [.inr (.inr (some 97)), .inl a1], [.inl x7]) M _
    refine zG_if_ne hd0 hz rfl (fun hb8 => ?_) (fun hb8 => ?_)
    · exact j22 (by omega)
    · refine zG_blm (c' := (23, [.inr (.inr (some 97)), .inl a1], [.inl 1])) 2 hd0 hz (by rfl) ?_
      exact j23 1 (by first | decide | omega) (by omega)
theorem qm_200_97 {n d : Nat} {M : zM} (hd : 3 ≤ d) (hC : qMI M)  (a1 : Int) (ha1 : (-2147483648) ≤ a1 ∧ a1 ≤ 2147483647) (a2 : Int) (ha2 : (-2147483648) ≤ a2 ∧ a2 ≤ 2147483647) : qOkP n d 200 [.inr (.inr (some 97)), .inl a1, .inl a2] 3 M (fun v => ∃ x : Int, v = some (.inl x) ∧ (0 ≤ x ∧ x ≤ 1) ∧ (x = 1 ↔ (0 ≤ a1 ∧ a1 < M 98 3 ∧ qMt M a1 1 ≤ a2 ∧ a2 ≤ 9999))) := by
  have hz := zp_200
  have hd0 : 0 < d := by omega
  have r1 := hC.cnt3
  show zG n (0, 0) d 200 (0, [.inr (.inr (some 97)), .inl a1, .inl a2], []) M _
  refine zG_blm (c' := (3, [.inr (.inr (some 97)), .inl a1, .inl a2], [.inl a1, .inl 3, .inr (.inr (some 97))])) 3 hd0 hz (by rfl) ?_
  refine zG_call hd0 hz zp_182 rfl rfl (Nat.le_of_ble_eq_true rfl) ⟨Nat.le_refl _, Nat.le_refl _⟩ (qx_is (by first | exact zdp hd (by decide) | omega) hC   3 (by first | decide | omega) a1 (by first | with_reducible exact ha1 | omega) ) (fun vr M2 hr => ?_)
  obtain ⟨hq, x3, rfl, hx3⟩ := hr
  replace hq := hq.symm; subst hq
  show zG n (0, 0) d 200 (6, [.inr (.inr (some 97)), .inl a1, .inl a2], [.inl x3]) M _
  have j29 : ∀ (v4 : Int) , 0 ≤ v4 ∧ v4 ≤ 1 → (v4 = 1 ↔ (0 ≤ a1 ∧ a1 < M 98 3 ∧ qMt M a1 1 ≤ a2 ∧ a2 ≤ 9999)) → zG n (0, 0) d 200 (29, [.inr (.inr (some 97)), .inl a1, .inl a2], [.inl v4]) M (fun v M' => M' = M ∧ ∃ x : Int, v = some (.inl x) ∧ (0 ≤ x ∧ x ≤ 1) ∧ (x = 1 ↔ (0 ≤ a1 ∧ a1 < M 98 3 ∧ qMt M a1 1 ≤ a2 ∧ a2 ≤ 9999))) := by
    intro v4 hv4 hx0_29
    exact zG_zret hd0 hz rfl (by omega) ⟨rfl, _, rfl, by omega, by omega⟩
  have j28 : (¬ (0 ≤ a1 ∧ a1 < M 98 3 ∧ qMt M a1 1 ≤ a2 ∧ a2 ≤ 9999)) → zG n (0, 0) d 200 (28, [.inr (.inr (some 97)), .inl a1, .inl a2], []) M (fun v M' => M' = M ∧ ∃ x : Int, v = some (.inl x) ∧ (0 ≤ x ∧ x ≤ 1) ∧ (x = 1 ↔ (0 ≤ a1 ∧ a1 < M 98 3 ∧ qMt M a1 1 ≤ a2 ∧ a2 ≤ 9999))) := by
    intro hx0_28
    refine zG_blm (c' := (29, [.inr (.inr (some 97)), .inl a1, .inl a2], [.inl 0])) 1 hd0 hz (by rfl) ?_
    exact j29 0 (by first | decide | omega) (by omega)
  refine zG_if_eq hd0 hz rfl (fun hb5 => ?_) (fun hb5 => ?_)
  · exact j28 (by omega)
  · have hcx3 := hx3.2.2.mp (by omega)
    clear hx3 hb5
    refine zG_blm (c' := (12, [.inr (.inr (some 97)), .inl a1, .inl a2], [.inl a1, .inr (.inr (some 97)), .inl a2])) 3 hd0 hz (by rfl) ?_
    refine zG_call hd0 hz zp_199 rfl rfl (Nat.le_of_ble_eq_true rfl) ⟨Nat.le_refl _, Nat.le_refl _⟩ (qx_dayOf (by first | exact zdp hd (by decide) | omega) hC   a1 (by first | with_reducible exact ha1 | omega) ) (fun vr M6 hr => ?_)
    obtain ⟨hq, x7, rfl, hx7⟩ := hr
    replace hq := hq.symm; subst hq
    show zG n (0, 0) d 200 (15, [.inr (.inr (some 97)), .inl a1, .inl a2], [.inl x7, .inl a2]) M _
    refine zG_blm (c' := (18, [.inr (.inr (some 97)), .inl a1, .inl a2], [.inl 9999, .inl x7, .inl a2])) 1 hd0 hz (by rfl) ?_
    refine zG_call hd0 hz zp_180 rfl rfl (Nat.le_of_ble_eq_true rfl) ⟨Nat.le_refl _, Nat.le_refl _⟩ (qx_in (by first | exact zdp hd (by decide) | omega) hC   a2 (by first | with_reducible exact ha2 | omega) x7 (by omega) 9999 (by first | decide | omega) ) (fun vr M8 hr => ?_)
    obtain ⟨hq, x9, rfl, hx9⟩ := hr
    replace hq := hq.symm; subst hq
    show zG n (0, 0) d 200 (21, [.inr (.inr (some 97)), .inl a1, .inl a2], [.inl x9]) M _
    refine zG_if_eq hd0 hz rfl (fun hb10 => ?_) (fun hb10 => ?_)
    · exact j28 (by omega)
    · have hcx9 := hx9.2.2.mp (by omega)
      clear hx9 hb10
      refine zG_blm (c' := (29, [.inr (.inr (some 97)), .inl a1, .inl a2], [.inl 1])) 2 hd0 hz (by rfl) ?_
      exact j29 1 (by first | decide | omega) (by omega)
theorem qm_210_97 {n d : Nat} {M : zM} (hd : 3 ≤ d) (hC : qMI M)  (a1 : Int) (ha1 : (-2147483648) ≤ a1 ∧ a1 ≤ 2147483647) (a2 : Int) (ha2 : (-2147483648) ≤ a2 ∧ a2 ≤ 2147483647) : qOkP n d 210 [.inr (.inr (some 97)), .inl a1, .inl a2] 3 M (fun v => ∃ x : Int, v = some (.inl x) ∧ ((-2147483648) ≤ x ∧ x ≤ 2147483647)) := by
  have hz := zp_210
  have hd0 : 0 < d := by omega
  have r1 := hC.cnt4
  show zG n (0, 0) d 210 (0, [.inr (.inr (some 97)), .inl a1, .inl a2], []) M _
  refine zG_blm (c' := (3, [.inr (.inr (some 97)), .inl a1, .inl a2], [.inl a1, .inl 4, .inr (.inr (some 97))])) 3 hd0 hz (by rfl) ?_
  refine zG_call hd0 hz zp_182 rfl rfl (Nat.le_of_ble_eq_true rfl) ⟨Nat.le_refl _, Nat.le_refl _⟩ (qx_is (by first | exact zdp hd (by decide) | omega) hC   4 (by first | decide | omega) a1 (by first | with_reducible exact ha1 | omega) ) (fun vr M2 hr => ?_)
  obtain ⟨hq, x3, rfl, hx3⟩ := hr
  replace hq := hq.symm; subst hq
  show zG n (0, 0) d 210 (6, [.inr (.inr (some 97)), .inl a1, .inl a2], [.inl x3]) M _
  have j30 : ∀ (v4 : Int) , (-2147483648) ≤ v4 ∧ v4 ≤ 2147483647 → zG n (0, 0) d 210 (30, [.inr (.inr (some 97)), .inl a1, .inl a2], [.inl v4]) M (fun v M' => M' = M ∧ ∃ x : Int, v = some (.inl x) ∧ ((-2147483648) ≤ x ∧ x ≤ 2147483647)) := by
    intro v4 hv4
    exact zG_ret hd0 hz rfl rfl ⟨rfl, _, rfl, by omega⟩
  have j28 : zG n (0, 0) d 210 (28, [.inr (.inr (some 97)), .inl a1, .inl a2], []) M (fun v M' => M' = M ∧ ∃ x : Int, v = some (.inl x) ∧ ((-2147483648) ≤ x ∧ x ≤ 2147483647)) := by
    refine zG_blm (c' := (30, [.inr (.inr (some 97)), .inl a1, .inl a2], [.inl (-2)])) 1 hd0 hz (by rfl) ?_
    exact j30 (-2) (by first | decide | omega)
  refine zG_if_eq hd0 hz rfl (fun hb5 => ?_) (fun hb5 => ?_)
  · exact j28
  · have hcx3 := hx3.2.2.mp (by omega)
    clear hx3 hb5
    refine zG_blm (c' := (13, [.inr (.inr (some 97)), .inl a1, .inl a2], [.inl 7, .inl 0, .inl a2])) 3 hd0 hz (by rfl) ?_
    refine zG_call hd0 hz zp_180 rfl rfl (Nat.le_of_ble_eq_true rfl) ⟨Nat.le_refl _, Nat.le_refl _⟩ (qx_in (by first | exact zdp hd (by decide) | omega) hC   a2 (by first | with_reducible exact ha2 | omega) 0 (by first | decide | omega) 7 (by first | decide | omega) ) (fun vr M6 hr => ?_)
    obtain ⟨hq, x7, rfl, hx7⟩ := hr
    replace hq := hq.symm; subst hq
    show zG n (0, 0) d 210 (16, [.inr (.inr (some 97)), .inl a1, .inl a2], [.inl x7]) M _
    refine zG_if_eq hd0 hz rfl (fun hb8 => ?_) (fun hb8 => ?_)
    · exact j28
    · have hcx7 := hx7.2.2.mp (by omega)
      clear hx7 hb8
      refine zG_blm (c' := (22, [.inr (.inr (some 97)), .inl a1, .inl a2], [.inl a2, .inl a1, .inr (.inr (some 97))])) 3 hd0 hz (by rfl) ?_
      refine zG_call hd0 hz zp_194 rfl rfl (Nat.le_of_ble_eq_true rfl) ⟨Nat.le_refl _, Nat.le_refl _⟩ (qx_act0 (by first | exact zdp hd (by decide) | omega) hC   a1 (by first | with_reducible exact ha1 | omega) a2 (by first | with_reducible exact ha2 | omega) ) (fun vr M9 hr => ?_)
      obtain ⟨hq, x10, rfl, hx10⟩ := hr
      replace hq := hq.symm; subst hq
      show zG n (0, 0) d 210 (25, [.inr (.inr (some 97)), .inl a1, .inl a2], [.inl x10]) M _
      refine zG_blm (c' := (30, [.inr (.inr (some 97)), .inl a1, .inl a2], [.inl x10])) 1 hd0 hz (by rfl) ?_
      exact j30 x10 (by omega)
theorem qm_211_97 {n d : Nat} {M : zM} (hd : 3 ≤ d) (hC : qMI M)  (a1 : Int) (ha1 : (-2147483648) ≤ a1 ∧ a1 ≤ 2147483647) : qOkN n d 211 [.inr (.inr (some 97)), .inl a1] 3 [101] M (fun v M' => v = none) := by
  have hz := zp_211
  have hd0 : 0 < d := by omega
  have hW : qFm [101] M M := qFm.rfl
  have r1 := hC.cnt4
  show zG n (0, 0) d 211 (0, [.inr (.inr (some 97)), .inl a1, zN], []) M _
  refine zG_blm (c' := (2, [.inr (.inr (some 97)), .inl a1, .inl 0], [])) 2 hd0 hz (by rfl) ?_
  have j2 : ∀ (N : Nat) (v2 : Int) (M3 : zM) , (250 - v2 : Int).toNat < N → 0 ≤ v2 ∧ v2 ≤ 250 → qMI M3 → qFm [101] M M3 → zG n (0, 0) d 211 (2, [.inr (.inr (some 97)), .inl a1, .inl v2], []) M3 (fun v M' => (qMI M' ∧ qFm [101] M M') ∧ v = none) := by
    intro N
    induction N with
    | zero => intro v2 M3 hN hv2 hCM3 hWM3; exact absurd hN (Nat.not_lt_zero _)
    | succ N ih2 =>
      intro v2 M3 hN hv2 hCM3 hWM3
      replace hN : 250 - v2 < (N : Int) + 1 := by omega
      have e4 : M3 98 4 = M 98 4 := hWM3 98 4 (by decide)
      refine zG_blm (c' := (8, [.inr (.inr (some 97)), .inl a1, .inl v2], [.inl 4, .inr (.inr (some 98)), .inl v2])) 4 hd0 hz (by rfl) ?_
      refine zG_iald hd0 hz rfl rfl (.inl rfl) (by omega) ?_
      show zG n (0, 0) d 211 (9, [.inr (.inr (some 97)), .inl a1, .inl v2], [.inl (M3 98 4), .inl v2]) M3 _
      refine zG_icmp_ge hd0 hz rfl (fun hb5 => ?_) (fun hb5 => ?_)
      · refine zG_blm (c' := (67, [.inr (.inr (some 97)), .inl a1, .inl v2], [.inl 4, .inr (.inr (some 98))])) 3 hd0 hz (by rfl) ?_
        refine zG_iald hd0 hz rfl rfl (.inl rfl) (by omega) ?_
        show zG n (0, 0) d 211 (68, [.inr (.inr (some 97)), .inl a1, .inl v2], [.inl (M3 98 4)]) M3 _
        obtain ⟨x6, hx6⟩ : ∃ x : Int, x = w32 ((M3 98 4) - 1) := ⟨_, rfl⟩
        have hx6e : x6 = (M3 98 4) - 1 := by rw [hx6]; exact w32_id (by omega)
        refine zG_blm (c' := (71, [.inr (.inr (some 97)), .inl a1, .inl x6], [])) 3 hd0 hz (by subst hx6; rfl) ?_
        have j71 : ∀ (N : Nat) (v7 : Int) (M8 : zM) , (v7 + 1 : Int).toNat < N → (-1) ≤ v7 ∧ v7 ≤ 249 → (v7 < M8 98 4) → qMI M8 → qFm [101] M M8 → zG n (0, 0) d 211 (71, [.inr (.inr (some 97)), .inl a1, .inl v7], []) M8 (fun v M' => (qMI M' ∧ qFm [101] M M') ∧ v = none) := by
          intro N
          induction N with
          | zero => intro v7 M8 hN hv7 hx0_71 hCM8 hWM8; exact absurd hN (Nat.not_lt_zero _)
          | succ N ih71 =>
            intro v7 M8 hN hv7 hx0_71 hCM8 hWM8
            replace hN : v7 + 1 < (N : Int) + 1 := by omega
            have e9 : M8 98 4 = M 98 4 := hWM8 98 4 (by decide)
            refine zG_blm (c' := (72, [.inr (.inr (some 97)), .inl a1, .inl v7], [.inl v7])) 1 hd0 hz (by rfl) ?_
            refine zG_if_lt hd0 hz rfl (fun hb10 => ?_) (fun hb10 => ?_)
            · exact zG_ret hd0 hz rfl rfl ⟨⟨hCM8, hWM8⟩, rfl⟩
            · refine zG_blm (c' := (80, [.inr (.inr (some 97)), .inl a1, .inl v7], [.inl v7, .inr (.inr (some 101))])) 3 hd0 hz (by rfl) ?_
              refine zG_bald hd0 hz rfl rfl (.inl rfl) (by omega) ?_
              obtain ⟨x11, hx11⟩ : ∃ x : Int, x = M8 101 (v7 : Int).toNat := ⟨_, rfl⟩
              rw [← hx11]
              have hx11r : x11 = 0 ∨ x11 = 1 := by rw [hx11]; exact hCM8.bl101 _
              show zG n (0, 0) d 211 (81, [.inr (.inr (some 97)), .inl a1, .inl v7], [.inl x11]) M8 _
              have j107 : ∀ (M12 : zM) , qMI M12 → qFm [101] M M12 → zG n (0, 0) d 211 (107, [.inr (.inr (some 97)), .inl a1, .inl v7], []) M12 (fun v M' => (qMI M' ∧ qFm [101] M M') ∧ v = none) := by
                intro M12 hCM12 hWM12
                have e13 : M12 98 4 = M 98 4 := hWM12 98 4 (by decide)
                obtain ⟨x14, hx14⟩ : ∃ x : Int, x = w32 (v7 + (-1)) := ⟨_, rfl⟩
                have hx14e : x14 = v7 + (-1) := by rw [hx14]; exact w32_id (by omega)
                refine zG_blm (c' := (71, [.inr (.inr (some 97)), .inl a1, .inl x14], [])) 2 hd0 hz (by subst hx14; rfl) ?_
                exact ih71 x14 M12 (by omega) (by omega) (by omega) hCM12 hWM12
              refine zG_if_eq hd0 hz rfl (fun hb15 => ?_) (fun hb15 => ?_)
              · exact j107 M8 hCM8 hWM8
              · refine zG_blm (c' := (87, [.inr (.inr (some 97)), .inl a1, .inl v7], [.inl 0, .inl v7, .inr (.inr (some 97))])) 3 hd0 hz (by rfl) ?_
                refine zG_call hd0 hz zp_194 rfl rfl (Nat.le_of_ble_eq_true rfl) ⟨Nat.le_refl _, Nat.le_refl _⟩ (qx_act0 (by first | exact zdp hd (by decide) | omega) hCM8   v7 (by first | with_reducible exact hv7 | omega) 0 (by first | decide | omega) ) (fun vr M16 hr => ?_)
                obtain ⟨hq, x17, rfl, hx17⟩ := hr
                replace hq := hq.symm; subst hq
                show zG n (0, 0) d 211 (90, [.inr (.inr (some 97)), .inl a1, .inl v7], [.inl x17]) M8 _
                refine zG_blm (c' := (91, [.inr (.inr (some 97)), .inl a1, .inl v7], [.inl 5, .inl x17])) 1 hd0 hz (by rfl) ?_
                refine zG_icmp_ne hd0 hz rfl (fun hb18 => ?_) (fun hb18 => ?_)
                · exact j107 M8 hCM8 hWM8
                · have hrel := hCM8.rel v7 (by first | with_reducible exact hv7 | omega) (by omega)
                  refine zG_blm (c' := (102, [.inr (.inr (some 97)), .inl a1, .inl v7], [.inl 6, .inl v7, .inr (.inr (some 97)), .inr (.inr (some 101))])) 5 hd0 hz (by rfl) ?_
                  refine zG_call hd0 hz zp_194 rfl rfl (Nat.le_of_ble_eq_true rfl) ⟨Nat.le_refl _, Nat.le_refl _⟩ (qx_act6 (by first | exact zdp hd (by decide) | omega) hCM8   v7 (by first | with_reducible exact hv7 | omega) ) (fun vr M19 hr => ?_)
                  obtain ⟨hq, x20, rfl, hx20⟩ := hr
                  replace hq := hq.symm; subst hq
                  show zG n (0, 0) d 211 (105, [.inr (.inr (some 97)), .inl a1, .inl v7], [.inl x20, .inr (.inr (some 101))]) M8 _
                  refine zG_blm (c' := (106, [.inr (.inr (some 97)), .inl a1, .inl v7], [.inl 0, .inl x20, .inr (.inr (some 101))])) 1 hd0 hz (by rfl) ?_
                  refine zG_bast (by omega) hd0 hz rfl rfl (by omega) ?_
                  obtain ⟨M21, hM21⟩ : ∃ X : zM, X = zput M8 101 (x20 : Int).toNat 0 := ⟨_, rfl⟩
                  rw [← hM21]
                  have hCM21 : qMI M21 := by rw [hM21]; exact hCM8.put (by decide) (qCd_a (by decide) (by decide)) (by first | exact qMC_ar (by decide) (fun _ => by omega) | (refine ⟨fun h => ?_, fun _ => ?_, fun h => ?_, fun h => ?_, fun h => ?_⟩ <;> first | omega | exact absurd h (by decide)))
                  have hWM21 : qFm [101] M M21 := by rw [hM21]; exact hWM8.pa (by decide) (by decide)
                  have e22 : M21 98 4 = M8 98 4 := by rw [hM21]; exact qput_ne (by decide)
                  show zG n (0, 0) d 211 (107, [.inr (.inr (some 97)), .inl a1, .inl v7], []) M21 _
                  exact j107 M21 hCM21 hWM21
        exact j71 ((x6 + 1 : Int).toNat + 1) x6 M3 (by omega) (by omega) (by omega) hCM3 hWM3
      · refine zG_blm (c' := (20, [.inr (.inr (some 97)), .inl a1, .inl v2], [.inl 2, .inl v2, .inr (.inr (some 97)), .inl v2, .inr (.inr (some 101))])) 6 hd0 hz (by rfl) ?_
        refine zG_call hd0 hz zp_194 rfl rfl (Nat.le_of_ble_eq_true rfl) ⟨Nat.le_refl _, Nat.le_refl _⟩ (qx_act0 (by first | exact zdp hd (by decide) | omega) hCM3   v2 (by first | with_reducible exact hv2 | omega) 2 (by first | decide | omega) ) (fun vr M23 hr => ?_)
        obtain ⟨hq, x24, rfl, hx24⟩ := hr
        replace hq := hq.symm; subst hq
        show zG n (0, 0) d 211 (23, [.inr (.inr (some 97)), .inl a1, .inl v2], [.inl x24, .inl v2, .inr (.inr (some 101))]) M3 _
        refine zG_blm (c' := (24, [.inr (.inr (some 97)), .inl a1, .inl v2], [.inl a1, .inl x24, .inl v2, .inr (.inr (some 101))])) 1 hd0 hz (by rfl) ?_
        have j55 : ∀ (v25 : Int) , 0 ≤ v25 ∧ v25 ≤ 1 → zG n (0, 0) d 211 (55, [.inr (.inr (some 97)), .inl a1, .inl v2], [.inl v25, .inl v2, .inr (.inr (some 101))]) M3 (fun v M' => (qMI M' ∧ qFm [101] M M') ∧ v = none) := by
          intro v25 hv25
          refine zG_bast (by omega) hd0 hz rfl rfl (by omega) ?_
          obtain ⟨M26, hM26⟩ : ∃ X : zM, X = zput M3 101 (v2 : Int).toNat v25 := ⟨_, rfl⟩
          rw [← hM26]
          have hCM26 : qMI M26 := by rw [hM26]; exact hCM3.put (by decide) (qCd_a (by decide) (by decide)) (by first | exact qMC_ar (by decide) (fun _ => by omega) | (refine ⟨fun h => ?_, fun _ => ?_, fun h => ?_, fun h => ?_, fun h => ?_⟩ <;> first | omega | exact absurd h (by decide)))
          have hWM26 : qFm [101] M M26 := by rw [hM26]; exact hWM3.pa (by decide) (by decide)
          have e27 : M26 98 4 = M3 98 4 := by rw [hM26]; exact qput_ne (by decide)
          show zG n (0, 0) d 211 (56, [.inr (.inr (some 97)), .inl a1, .inl v2], []) M26 _
          obtain ⟨x28, hx28⟩ : ∃ x : Int, x = w32 (v2 + 1) := ⟨_, rfl⟩
          have hx28e : x28 = v2 + 1 := by rw [hx28]; exact w32_id (by omega)
          refine zG_blm (c' := (2, [.inr (.inr (some 97)), .inl a1, .inl x28], [])) 2 hd0 hz (by subst hx28; rfl) ?_
          exact ih2 x28 M26 (by omega) (by omega) hCM26 hWM26
        have j54 : zG n (0, 0) d 211 (54, [.inr (.inr (some 97)), .inl a1, .inl v2], [.inl v2, .inr (.inr (some 101))]) M3 (fun v M' => (qMI M' ∧ qFm [101] M M') ∧ v = none) := by
          refine zG_blm (c' := (55, [.inr (.inr (some 97)), .inl a1, .inl v2], [.inl 0, .inl v2, .inr (.inr (some 101))])) 1 hd0 hz (by rfl) ?_
          exact j55 0 (by first | decide | omega)
        refine zG_icmp_gt hd0 hz rfl (fun hb29 => ?_) (fun hb29 => ?_)
        · exact j54
        · refine zG_blm (c' := (30, [.inr (.inr (some 97)), .inl a1, .inl v2], [.inl 3, .inl v2, .inr (.inr (some 97)), .inl v2, .inr (.inr (some 101))])) 3 hd0 hz (by rfl) ?_
          refine zG_call hd0 hz zp_194 rfl rfl (Nat.le_of_ble_eq_true rfl) ⟨Nat.le_refl _, Nat.le_refl _⟩ (qx_act3 (by first | exact zdp hd (by decide) | omega) hCM3   v2 (by first | with_reducible exact hv2 | omega) ) (fun vr M30 hr => ?_)
          obtain ⟨hq, x31, rfl, hx31⟩ := hr
          replace hq := hq.symm; subst hq
          show zG n (0, 0) d 211 (33, [.inr (.inr (some 97)), .inl a1, .inl v2], [.inl x31, .inl v2, .inr (.inr (some 101))]) M3 _
          refine zG_blm (c' := (34, [.inr (.inr (some 97)), .inl a1, .inl v2], [.inl (-1), .inl x31, .inl v2, .inr (.inr (some 101))])) 1 hd0 hz (by rfl) ?_
          have j50 : zG n (0, 0) d 211 (50, [.inr (.inr (some 97)), .inl a1, .inl v2], [.inl v2, .inr (.inr (some 101))]) M3 (fun v M' => (qMI M' ∧ qFm [101] M M') ∧ v = none) := by
            refine zG_blm (c' := (55, [.inr (.inr (some 97)), .inl a1, .inl v2], [.inl 1, .inl v2, .inr (.inr (some 101))])) 2 hd0 hz (by rfl) ?_
            exact j55 1 (by first | decide | omega)
          refine zG_icmp_eq hd0 hz rfl (fun hb32 => ?_) (fun hb32 => ?_)
          · exact j50
          · refine zG_blm (c' := (41, [.inr (.inr (some 97)), .inl a1, .inl v2], [.inl 3, .inl v2, .inr (.inr (some 97)), .inr (.inr (some 97)), .inl v2, .inr (.inr (some 101))])) 4 hd0 hz (by rfl) ?_
            refine zG_call hd0 hz zp_194 rfl rfl (Nat.le_of_ble_eq_true rfl) ⟨Nat.le_refl _, Nat.le_refl _⟩ (qx_act3 (by first | exact zdp hd (by decide) | omega) hCM3   v2 (by first | with_reducible exact hv2 | omega) ) (fun vr M33 hr => ?_)
            obtain ⟨hq, x34, rfl, hx34⟩ := hr
            replace hq := hq.symm; subst hq
            show zG n (0, 0) d 211 (44, [.inr (.inr (some 97)), .inl a1, .inl v2], [.inl x34, .inr (.inr (some 97)), .inl v2, .inr (.inr (some 101))]) M3 _
            refine zG_call hd0 hz zp_192 rfl rfl (Nat.le_of_ble_eq_true rfl) ⟨Nat.le_refl _, Nat.le_refl _⟩ (qm_192_97 (by first | exact zdp hd (by decide) | omega) hCM3   x34 (by omega) ) (fun vr M35 hr => ?_)
            obtain ⟨hq, x36, rfl, hx36, hpx36_0⟩ := hr
            replace hq := hq.symm; subst hq
            show zG n (0, 0) d 211 (47, [.inr (.inr (some 97)), .inl a1, .inl v2], [.inl x36, .inl v2, .inr (.inr (some 101))]) M3 _
            refine zG_if_eq hd0 hz rfl (fun hb37 => ?_) (fun hb37 => ?_)
            · exact j54
            · exact j50
  exact j2 ((250 - 0 : Int).toNat + 1) 0 M (by omega) (by omega) hC hW
theorem qm_212_97 {n d : Nat} {M : zM} (hd : 4 ≤ d) (hC : qMI M)  (a1 : Int) (ha1 : (-2147483648) ≤ a1 ∧ a1 ≤ 2147483647) (a2 : Int) (ha2 : (-2147483648) ≤ a2 ∧ a2 ≤ 2147483647) : qOkN n d 212 [.inr (.inr (some 97)), .inl a1, .inl a2] 3 [101] M (fun v M' => ∃ x : Int, v = some (.inl x) ∧ ((-2) ≤ x ∧ x ≤ 1)) := by
  have hz := zp_212
  have hd0 : 0 < d := by omega
  have hW : qFm [101] M M := qFm.rfl
  have r1 := hC.cnt4
  show zG n (0, 0) d 212 (0, [.inr (.inr (some 97)), .inl a1, .inl a2], []) M _
  refine zG_blm (c' := (3, [.inr (.inr (some 97)), .inl a1, .inl a2], [.inl a1, .inl 4, .inr (.inr (some 97))])) 3 hd0 hz (by rfl) ?_
  refine zG_call hd0 hz zp_182 rfl rfl (Nat.le_of_ble_eq_true rfl) ⟨Nat.le_refl _, Nat.le_refl _⟩ (qx_is (by first | exact zdp hd (by decide) | omega) hC   4 (by first | decide | omega) a1 (by first | with_reducible exact ha1 | omega) ) (fun vr M2 hr => ?_)
  obtain ⟨hq, x3, rfl, hx3⟩ := hr
  replace hq := hq.symm; subst hq
  show zG n (0, 0) d 212 (6, [.inr (.inr (some 97)), .inl a1, .inl a2], [.inl x3]) M _
  have j16 : zG n (0, 0) d 212 (16, [.inr (.inr (some 97)), .inl a1, .inl a2], []) M (fun v M' => (qMI M' ∧ qFm [101] M M') ∧ ∃ x : Int, v = some (.inl x) ∧ ((-2) ≤ x ∧ x ≤ 1)) := by
    refine zG_blm (c' := (18, [.inr (.inr (some 97)), .inl a1, .inl a2], [.inl (-2)])) 1 hd0 hz (by rfl) ?_
    exact zG_ret hd0 hz rfl rfl ⟨⟨hC, hW⟩, _, rfl, by omega⟩
  refine zG_if_eq hd0 hz rfl (fun hb4 => ?_) (fun hb4 => ?_)
  · exact j16
  · have hcx3 := hx3.2.2.mp (by omega)
    clear hx3 hb4
    refine zG_blm (c' := (10, [.inr (.inr (some 97)), .inl a1, .inl a2], [.inl a2])) 1 hd0 hz (by rfl) ?_
    refine zG_call hd0 hz zp_184 rfl rfl (Nat.le_of_ble_eq_true rfl) ⟨Nat.le_refl _, Nat.le_refl _⟩ (qm_184 (by first | exact zdp hd (by decide) | omega) hC   a2 (by first | with_reducible exact ha2 | omega) ) (fun vr M5 hr => ?_)
    obtain ⟨hq, x6, rfl, hx6, hpx6_0⟩ := hr
    replace hq := hq.symm; subst hq
    show zG n (0, 0) d 212 (13, [.inr (.inr (some 97)), .inl a1, .inl a2], [.inl x6]) M _
    refine zG_if_ne hd0 hz rfl (fun hb7 => ?_) (fun hb7 => ?_)
    · have hcx6 := hpx6_0.mp (by omega)
      clear hx6 hpx6_0 hb7
      refine zG_blm (c' := (21, [.inr (.inr (some 97)), .inl a1, .inl a2], [.inl a2, .inr (.inr (some 97))])) 2 hd0 hz (by rfl) ?_
      refine zG_call hd0 hz zp_211 rfl rfl (Nat.le_of_ble_eq_true rfl) ⟨Nat.le_refl _, Nat.le_refl _⟩ (qm_211_97 (by first | exact zdp hd (by decide) | omega) hC   a2 (by first | with_reducible exact ha2 | omega) ) (fun vr M8 hr => ?_)
      obtain ⟨⟨hCM8, hFM8⟩, rfl⟩ := hr
      have hWM8 : qFm [101] M M8 := hW.tr hFM8 (by decide)
      have e10 : M8 98 4 = M 98 4 := hFM8 98 4 (by decide)
      show zG n (0, 0) d 212 (24, [.inr (.inr (some 97)), .inl a1, .inl a2], []) M8 _
      refine zG_blm (c' := (29, [.inr (.inr (some 97)), .inl a1, .inl a2], [.inl a1, .inr (.inr (some 101))])) 3 hd0 hz (by rfl) ?_
      refine zG_bald hd0 hz rfl rfl (.inl rfl) (by omega) ?_
      obtain ⟨x11, hx11⟩ : ∃ x : Int, x = M8 101 (a1 : Int).toNat := ⟨_, rfl⟩
      rw [← hx11]
      have hx11r : x11 = 0 ∨ x11 = 1 := by rw [hx11]; exact hCM8.bl101 _
      show zG n (0, 0) d 212 (30, [.inr (.inr (some 97)), .inl a1, .inl a2], [.inl x11]) M8 _
      have j38 : ∀ (v12 : Int) , 0 ≤ v12 ∧ v12 ≤ 1 → zG n (0, 0) d 212 (38, [.inr (.inr (some 97)), .inl a1, .inl a2], [.inl v12]) M8 (fun v M' => (qMI M' ∧ qFm [101] M M') ∧ ∃ x : Int, v = some (.inl x) ∧ ((-2) ≤ x ∧ x ≤ 1)) := by
        intro v12 hv12
        exact zG_ret hd0 hz rfl rfl ⟨⟨hCM8, hWM8⟩, _, rfl, by omega⟩
      refine zG_if_eq hd0 hz rfl (fun hb13 => ?_) (fun hb13 => ?_)
      · refine zG_blm (c' := (38, [.inr (.inr (some 97)), .inl a1, .inl a2], [.inl 0])) 1 hd0 hz (by rfl) ?_
        exact j38 0 (by first | decide | omega)
      · refine zG_blm (c' := (38, [.inr (.inr (some 97)), .inl a1, .inl a2], [.inl 1])) 2 hd0 hz (by rfl) ?_
        exact j38 1 (by first | decide | omega)
    · exact j16
theorem qm_213_97 {n d : Nat} {M : zM} (hd : 2 ≤ d) (hC : qMI M)  (a1 : Int) (ha1 : 0 ≤ a1 ∧ a1 ≤ 6) (a2 : Int) (ha2 : 0 ≤ a2 ∧ a2 ≤ 249) : qOkP n d 213 [.inr (.inr (some 97)), .inl a1, .inl a2] 4 M (fun v => ∃ x : Int, v = some (.inl x) ∧ ((-1) ≤ x ∧ x ≤ 249) ∧ (x ≠ -1 → x < M 98 4 ∧ a2 < x ∧ qA M x 0 = a1 ∧ qA M x 6 = a2)) := by
  have hz := zp_213
  have hd0 : 0 < d := by omega
  have r1 := hC.cnt4
  show zG n (0, 0) d 213 (0, [.inr (.inr (some 97)), .inl a1, .inl a2, zN], []) M _
  refine zG_blm (c' := (5, [.inr (.inr (some 97)), .inl a1, .inl a2, zN], [.inl 4, .inr (.inr (some 98))])) 3 hd0 hz (by rfl) ?_
  refine zG_iald hd0 hz rfl rfl (.inl rfl) (by omega) ?_
  show zG n (0, 0) d 213 (6, [.inr (.inr (some 97)), .inl a1, .inl a2, zN], [.inl (M 98 4)]) M _
  obtain ⟨x2, hx2⟩ : ∃ x : Int, x = w32 ((M 98 4) - 1) := ⟨_, rfl⟩
  have hx2e : x2 = (M 98 4) - 1 := by rw [hx2]; exact w32_id (by omega)
  refine zG_blm (c' := (9, [.inr (.inr (some 97)), .inl a1, .inl a2, .inl x2], [])) 3 hd0 hz (by subst hx2; rfl) ?_
  have j9 : ∀ (N : Nat) (v3 : Int) , (v3 + 1 : Int).toNat < N → (-1) ≤ v3 ∧ v3 ≤ 249 → (v3 < M 98 4) → zG n (0, 0) d 213 (9, [.inr (.inr (some 97)), .inl a1, .inl a2, .inl v3], []) M (fun v M' => M' = M ∧ ∃ x : Int, v = some (.inl x) ∧ ((-1) ≤ x ∧ x ≤ 249) ∧ (x ≠ -1 → x < M 98 4 ∧ a2 < x ∧ qA M x 0 = a1 ∧ qA M x 6 = a2)) := by
    intro N
    induction N with
    | zero => intro v3 hN hv3 hx0_9; exact absurd hN (Nat.not_lt_zero _)
    | succ N ih9 =>
      intro v3 hN hv3 hx0_9
      replace hN : v3 + 1 < (N : Int) + 1 := by omega
      refine zG_blm (c' := (11, [.inr (.inr (some 97)), .inl a1, .inl a2, .inl v3], [.inl a2, .inl v3])) 2 hd0 hz (by rfl) ?_
      refine zG_icmp_le hd0 hz rfl (fun hb4 => ?_) (fun hb4 => ?_)
      · refine zG_blm (c' := (53, [.inr (.inr (some 97)), .inl a1, .inl a2, .inl v3], [.inl (-1)])) 1 hd0 hz (by rfl) ?_
        exact zG_ret hd0 hz rfl rfl ⟨rfl, _, rfl, by omega, by omega⟩
      · refine zG_blm (c' := (19, [.inr (.inr (some 97)), .inl a1, .inl a2, .inl v3], [.inl v3, .inr (.inr (some 101))])) 3 hd0 hz (by rfl) ?_
        refine zG_bald hd0 hz rfl rfl (.inl rfl) (by omega) ?_
        obtain ⟨x5, hx5⟩ : ∃ x : Int, x = M 101 (v3 : Int).toNat := ⟨_, rfl⟩
        rw [← hx5]
        have hx5r : x5 = 0 ∨ x5 = 1 := by rw [hx5]; exact hC.bl101 _
        show zG n (0, 0) d 213 (20, [.inr (.inr (some 97)), .inl a1, .inl a2, .inl v3], [.inl x5]) M _
        have j46 : zG n (0, 0) d 213 (46, [.inr (.inr (some 97)), .inl a1, .inl a2, .inl v3], []) M (fun v M' => M' = M ∧ ∃ x : Int, v = some (.inl x) ∧ ((-1) ≤ x ∧ x ≤ 249) ∧ (x ≠ -1 → x < M 98 4 ∧ a2 < x ∧ qA M x 0 = a1 ∧ qA M x 6 = a2)) := by
          obtain ⟨x6, hx6⟩ : ∃ x : Int, x = w32 (v3 + (-1)) := ⟨_, rfl⟩
          have hx6e : x6 = v3 + (-1) := by rw [hx6]; exact w32_id (by omega)
          refine zG_blm (c' := (9, [.inr (.inr (some 97)), .inl a1, .inl a2, .inl x6], [])) 2 hd0 hz (by subst hx6; rfl) ?_
          exact ih9 x6 (by omega) (by omega) (by omega)
        refine zG_if_eq hd0 hz rfl (fun hb7 => ?_) (fun hb7 => ?_)
        · exact j46
        · refine zG_blm (c' := (26, [.inr (.inr (some 97)), .inl a1, .inl a2, .inl v3], [.inl 0, .inl v3, .inr (.inr (some 97))])) 3 hd0 hz (by rfl) ?_
          refine zG_call hd0 hz zp_194 rfl rfl (Nat.le_of_ble_eq_true rfl) ⟨Nat.le_refl _, Nat.le_refl _⟩ (qx_act0 (by first | exact zdp hd (by decide) | omega) hC   v3 (by first | with_reducible exact hv3 | omega) 0 (by first | decide | omega) ) (fun vr M8 hr => ?_)
          obtain ⟨hq, x9, rfl, hx9⟩ := hr
          replace hq := hq.symm; subst hq
          show zG n (0, 0) d 213 (29, [.inr (.inr (some 97)), .inl a1, .inl a2, .inl v3], [.inl x9]) M _
          refine zG_blm (c' := (30, [.inr (.inr (some 97)), .inl a1, .inl a2, .inl v3], [.inl a1, .inl x9])) 1 hd0 hz (by rfl) ?_
          refine zG_icmp_ne hd0 hz rfl (fun hb10 => ?_) (fun hb10 => ?_)
          · exact j46
          · refine zG_blm (c' := (37, [.inr (.inr (some 97)), .inl a1, .inl a2, .inl v3], [.inl 6, .inl v3, .inr (.inr (some 97))])) 3 hd0 hz (by rfl) ?_
            refine zG_call hd0 hz zp_194 rfl rfl (Nat.le_of_ble_eq_true rfl) ⟨Nat.le_refl _, Nat.le_refl _⟩ (qx_act6 (by first | exact zdp hd (by decide) | omega) hC   v3 (by first | with_reducible exact hv3 | omega) ) (fun vr M11 hr => ?_)
            obtain ⟨hq, x12, rfl, hx12⟩ := hr
            replace hq := hq.symm; subst hq
            show zG n (0, 0) d 213 (40, [.inr (.inr (some 97)), .inl a1, .inl a2, .inl v3], [.inl x12]) M _
            refine zG_blm (c' := (41, [.inr (.inr (some 97)), .inl a1, .inl a2, .inl v3], [.inl a2, .inl x12])) 1 hd0 hz (by rfl) ?_
            refine zG_icmp_ne hd0 hz rfl (fun hb13 => ?_) (fun hb13 => ?_)
            · exact j46
            · refine zG_blm (c' := (45, [.inr (.inr (some 97)), .inl a1, .inl a2, .inl v3], [.inl v3])) 1 hd0 hz (by rfl) ?_
              exact zG_ret hd0 hz rfl rfl ⟨rfl, _, rfl, by omega, by omega⟩
  exact j9 ((x2 + 1 : Int).toNat + 1) x2 (by omega) (by omega) (by omega)
theorem qm_214_97 {n d : Nat} {M : zM} (hd : 2 ≤ d) (hC : qMI M)  (a1 : Int) (ha1 : 0 ≤ a1 ∧ a1 ≤ 249) : qOkP n d 214 [.inr (.inr (some 97)), .inl a1] 3 M (fun v => ∃ x : Int, v = some (.inl x) ∧ ((-1) ≤ x ∧ x ≤ 249) ∧ (x ≠ -1 → x < M 98 4 ∧ qA M x 0 = 3)) := by
  have hz := zp_214
  have hd0 : 0 < d := by omega
  have r1 := hC.cnt4
  show zG n (0, 0) d 214 (0, [.inr (.inr (some 97)), .inl a1, zN], []) M _
  refine zG_blm (c' := (5, [.inr (.inr (some 97)), .inl a1, zN], [.inl 4, .inr (.inr (some 98))])) 3 hd0 hz (by rfl) ?_
  refine zG_iald hd0 hz rfl rfl (.inl rfl) (by omega) ?_
  show zG n (0, 0) d 214 (6, [.inr (.inr (some 97)), .inl a1, zN], [.inl (M 98 4)]) M _
  obtain ⟨x2, hx2⟩ : ∃ x : Int, x = w32 ((M 98 4) - 1) := ⟨_, rfl⟩
  have hx2e : x2 = (M 98 4) - 1 := by rw [hx2]; exact w32_id (by omega)
  refine zG_blm (c' := (9, [.inr (.inr (some 97)), .inl a1, .inl x2], [])) 3 hd0 hz (by subst hx2; rfl) ?_
  have j9 : ∀ (N : Nat) (v3 : Int) , (v3 + 1 : Int).toNat < N → (-1) ≤ v3 ∧ v3 ≤ 249 → (v3 < M 98 4) → zG n (0, 0) d 214 (9, [.inr (.inr (some 97)), .inl a1, .inl v3], []) M (fun v M' => M' = M ∧ ∃ x : Int, v = some (.inl x) ∧ ((-1) ≤ x ∧ x ≤ 249) ∧ (x ≠ -1 → x < M 98 4 ∧ qA M x 0 = 3)) := by
    intro N
    induction N with
    | zero => intro v3 hN hv3 hx0_9; exact absurd hN (Nat.not_lt_zero _)
    | succ N ih9 =>
      intro v3 hN hv3 hx0_9
      replace hN : v3 + 1 < (N : Int) + 1 := by omega
      refine zG_blm (c' := (10, [.inr (.inr (some 97)), .inl a1, .inl v3], [.inl v3])) 1 hd0 hz (by rfl) ?_
      refine zG_if_lt hd0 hz rfl (fun hb4 => ?_) (fun hb4 => ?_)
      · refine zG_blm (c' := (71, [.inr (.inr (some 97)), .inl a1, .inl v3], [.inl (-1)])) 1 hd0 hz (by rfl) ?_
        exact zG_ret hd0 hz rfl rfl ⟨rfl, _, rfl, by omega, by omega⟩
      · refine zG_blm (c' := (18, [.inr (.inr (some 97)), .inl a1, .inl v3], [.inl v3, .inr (.inr (some 101))])) 3 hd0 hz (by rfl) ?_
        refine zG_bald hd0 hz rfl rfl (.inl rfl) (by omega) ?_
        obtain ⟨x5, hx5⟩ : ∃ x : Int, x = M 101 (v3 : Int).toNat := ⟨_, rfl⟩
        rw [← hx5]
        have hx5r : x5 = 0 ∨ x5 = 1 := by rw [hx5]; exact hC.bl101 _
        show zG n (0, 0) d 214 (19, [.inr (.inr (some 97)), .inl a1, .inl v3], [.inl x5]) M _
        have j64 : zG n (0, 0) d 214 (64, [.inr (.inr (some 97)), .inl a1, .inl v3], []) M (fun v M' => M' = M ∧ ∃ x : Int, v = some (.inl x) ∧ ((-1) ≤ x ∧ x ≤ 249) ∧ (x ≠ -1 → x < M 98 4 ∧ qA M x 0 = 3)) := by
          obtain ⟨x6, hx6⟩ : ∃ x : Int, x = w32 (v3 + (-1)) := ⟨_, rfl⟩
          have hx6e : x6 = v3 + (-1) := by rw [hx6]; exact w32_id (by omega)
          refine zG_blm (c' := (9, [.inr (.inr (some 97)), .inl a1, .inl x6], [])) 2 hd0 hz (by subst hx6; rfl) ?_
          exact ih9 x6 (by omega) (by omega) (by omega)
        refine zG_if_eq hd0 hz rfl (fun hb7 => ?_) (fun hb7 => ?_)
        · exact j64
        · refine zG_blm (c' := (25, [.inr (.inr (some 97)), .inl a1, .inl v3], [.inl 0, .inl v3, .inr (.inr (some 97))])) 3 hd0 hz (by rfl) ?_
          refine zG_call hd0 hz zp_194 rfl rfl (Nat.le_of_ble_eq_true rfl) ⟨Nat.le_refl _, Nat.le_refl _⟩ (qx_act0 (by first | exact zdp hd (by decide) | omega) hC   v3 (by first | with_reducible exact hv3 | omega) 0 (by first | decide | omega) ) (fun vr M8 hr => ?_)
          obtain ⟨hq, x9, rfl, hx9⟩ := hr
          replace hq := hq.symm; subst hq
          show zG n (0, 0) d 214 (28, [.inr (.inr (some 97)), .inl a1, .inl v3], [.inl x9]) M _
          refine zG_blm (c' := (29, [.inr (.inr (some 97)), .inl a1, .inl v3], [.inl 3, .inl x9])) 1 hd0 hz (by rfl) ?_
          refine zG_icmp_ne hd0 hz rfl (fun hb10 => ?_) (fun hb10 => ?_)
          · exact j64
          · refine zG_blm (c' := (35, [.inr (.inr (some 97)), .inl a1, .inl v3], [.inl 5, .inl v3, .inr (.inr (some 97))])) 3 hd0 hz (by rfl) ?_
            refine zG_call hd0 hz zp_194 rfl rfl (Nat.le_of_ble_eq_true rfl) ⟨Nat.le_refl _, Nat.le_refl _⟩ (qx_act5 (by first | exact zdp hd (by decide) | omega) hC   v3 (by first | with_reducible exact hv3 | omega) ) (fun vr M11 hr => ?_)
            obtain ⟨hq, x12, rfl, hx12⟩ := hr
            replace hq := hq.symm; subst hq
            show zG n (0, 0) d 214 (38, [.inr (.inr (some 97)), .inl a1, .inl v3], [.inl x12]) M _
            refine zG_blm (c' := (41, [.inr (.inr (some 97)), .inl a1, .inl v3], [.inl 5, .inl a1, .inr (.inr (some 97)), .inl x12])) 3 hd0 hz (by rfl) ?_
            refine zG_call hd0 hz zp_194 rfl rfl (Nat.le_of_ble_eq_true rfl) ⟨Nat.le_refl _, Nat.le_refl _⟩ (qx_act5 (by first | exact zdp hd (by decide) | omega) hC   a1 (by first | with_reducible exact ha1 | omega) ) (fun vr M13 hr => ?_)
            obtain ⟨hq, x14, rfl, hx14⟩ := hr
            replace hq := hq.symm; subst hq
            show zG n (0, 0) d 214 (44, [.inr (.inr (some 97)), .inl a1, .inl v3], [.inl x14, .inl x12]) M _
            refine zG_icmp_ne hd0 hz rfl (fun hb15 => ?_) (fun hb15 => ?_)
            · exact j64
            · refine zG_blm (c' := (50, [.inr (.inr (some 97)), .inl a1, .inl v3], [.inl 1, .inl v3, .inr (.inr (some 97))])) 3 hd0 hz (by rfl) ?_
              refine zG_call hd0 hz zp_194 rfl rfl (Nat.le_of_ble_eq_true rfl) ⟨Nat.le_refl _, Nat.le_refl _⟩ (qx_act0 (by first | exact zdp hd (by decide) | omega) hC   v3 (by first | with_reducible exact hv3 | omega) 1 (by first | decide | omega) ) (fun vr M16 hr => ?_)
              obtain ⟨hq, x17, rfl, hx17⟩ := hr
              replace hq := hq.symm; subst hq
              show zG n (0, 0) d 214 (53, [.inr (.inr (some 97)), .inl a1, .inl v3], [.inl x17]) M _
              refine zG_blm (c' := (56, [.inr (.inr (some 97)), .inl a1, .inl v3], [.inl 1, .inl a1, .inr (.inr (some 97)), .inl x17])) 3 hd0 hz (by rfl) ?_
              refine zG_call hd0 hz zp_194 rfl rfl (Nat.le_of_ble_eq_true rfl) ⟨Nat.le_refl _, Nat.le_refl _⟩ (qx_act0 (by first | exact zdp hd (by decide) | omega) hC   a1 (by first | with_reducible exact ha1 | omega) 1 (by first | decide | omega) ) (fun vr M18 hr => ?_)
              obtain ⟨hq, x19, rfl, hx19⟩ := hr
              replace hq := hq.symm; subst hq
              show zG n (0, 0) d 214 (59, [.inr (.inr (some 97)), .inl a1, .inl v3], [.inl x19, .inl x17]) M _
              refine zG_icmp_lt hd0 hz rfl (fun hb20 => ?_) (fun hb20 => ?_)
              · exact j64
              · refine zG_blm (c' := (63, [.inr (.inr (some 97)), .inl a1, .inl v3], [.inl v3])) 1 hd0 hz (by rfl) ?_
                exact zG_ret hd0 hz rfl rfl ⟨rfl, _, rfl, by omega, by omega⟩
  exact j9 ((x2 + 1 : Int).toNat + 1) x2 (by omega) (by omega) (by omega)
theorem qm_215_97 {n d : Nat} {M : zM} (hd : 2 ≤ d) (hC : qMI M)  (a1 : Int) (ha1 : 0 ≤ a1 ∧ a1 ≤ 249) : qOkP n d 215 [.inr (.inr (some 97)), .inl a1] 4 M (fun v => ∃ x : Int, v = some (.inl x) ∧ (0 ≤ x ∧ x ≤ 1)) := by
  have hz := zp_215
  have hd0 : 0 < d := by omega
  have r1 := hC.cnt4
  show zG n (0, 0) d 215 (0, [.inr (.inr (some 97)), .inl a1, zN, zN], []) M _
  refine zG_blm (c' := (2, [.inr (.inr (some 97)), .inl a1, .inl 0, zN], [])) 2 hd0 hz (by rfl) ?_
  have j2 : ∀ (N : Nat) (v2 : Int) , (250 - v2 : Int).toNat < N → 0 ≤ v2 ∧ v2 ≤ 250 → zG n (0, 0) d 215 (2, [.inr (.inr (some 97)), .inl a1, .inl v2, zN], []) M (fun v M' => M' = M ∧ ∃ x : Int, v = some (.inl x) ∧ (0 ≤ x ∧ x ≤ 1)) := by
    intro N
    induction N with
    | zero => intro v2 hN hv2; exact absurd hN (Nat.not_lt_zero _)
    | succ N ih2 =>
      intro v2 hN hv2
      replace hN : 250 - v2 < (N : Int) + 1 := by omega
      refine zG_blm (c' := (8, [.inr (.inr (some 97)), .inl a1, .inl v2, zN], [.inl 4, .inr (.inr (some 98)), .inl v2])) 4 hd0 hz (by rfl) ?_
      refine zG_iald hd0 hz rfl rfl (.inl rfl) (by omega) ?_
      show zG n (0, 0) d 215 (9, [.inr (.inr (some 97)), .inl a1, .inl v2, zN], [.inl (M 98 4), .inl v2]) M _
      refine zG_icmp_ge hd0 hz rfl (fun hb3 => ?_) (fun hb3 => ?_)
      · refine zG_blm (c' := (119, [.inr (.inr (some 97)), .inl a1, .inl v2, zN], [.inl 0])) 1 hd0 hz (by rfl) ?_
        exact zG_ret hd0 hz rfl rfl ⟨rfl, _, rfl, by omega⟩
      · refine zG_blm (c' := (14, [.inr (.inr (some 97)), .inl a1, .inl v2, zN], [.inl a1, .inl v2])) 2 hd0 hz (by rfl) ?_
        have j70 : ∀ (v4 : Int) , 0 ≤ v4 ∧ v4 ≤ 1 → zG n (0, 0) d 215 (70, [.inr (.inr (some 97)), .inl a1, .inl v2, zN], [.inl v4]) M (fun v M' => M' = M ∧ ∃ x : Int, v = some (.inl x) ∧ (0 ≤ x ∧ x ≤ 1)) := by
          intro v4 hv4
          refine zG_blm (c' := (72, [.inr (.inr (some 97)), .inl a1, .inl v2, .inl v4], [.inl v4])) 2 hd0 hz (by rfl) ?_
          have j112 : zG n (0, 0) d 215 (112, [.inr (.inr (some 97)), .inl a1, .inl v2, .inl v4], []) M (fun v M' => M' = M ∧ ∃ x : Int, v = some (.inl x) ∧ (0 ≤ x ∧ x ≤ 1)) := by
            obtain ⟨x5, hx5⟩ : ∃ x : Int, x = w32 (v2 + 1) := ⟨_, rfl⟩
            have hx5e : x5 = v2 + 1 := by rw [hx5]; exact w32_id (by omega)
            refine zG_blm (c' := (2, [.inr (.inr (some 97)), .inl a1, .inl x5, .inl v4], [])) 2 hd0 hz (by subst hx5; rfl) ?_
            exact zG_weak (ih2 x5 (by omega) (by omega)) ⟨.inr rfl, .inr rfl, .inr rfl, .inl rfl, trivial⟩
          refine zG_if_eq hd0 hz rfl (fun hb6 => ?_) (fun hb6 => ?_)
          · exact j112
          · refine zG_blm (c' := (78, [.inr (.inr (some 97)), .inl a1, .inl v2, .inl v4], [.inl 1, .inl v2, .inr (.inr (some 97))])) 3 hd0 hz (by rfl) ?_
            refine zG_call hd0 hz zp_194 rfl rfl (Nat.le_of_ble_eq_true rfl) ⟨Nat.le_refl _, Nat.le_refl _⟩ (qx_act0 (by first | exact zdp hd (by decide) | omega) hC   v2 (by first | with_reducible exact hv2 | omega) 1 (by first | decide | omega) ) (fun vr M7 hr => ?_)
            obtain ⟨hq, x8, rfl, hx8⟩ := hr
            replace hq := hq.symm; subst hq
            show zG n (0, 0) d 215 (81, [.inr (.inr (some 97)), .inl a1, .inl v2, .inl v4], [.inl x8]) M _
            refine zG_blm (c' := (84, [.inr (.inr (some 97)), .inl a1, .inl v2, .inl v4], [.inl 1, .inl a1, .inr (.inr (some 97)), .inl x8])) 3 hd0 hz (by rfl) ?_
            refine zG_call hd0 hz zp_194 rfl rfl (Nat.le_of_ble_eq_true rfl) ⟨Nat.le_refl _, Nat.le_refl _⟩ (qx_act0 (by first | exact zdp hd (by decide) | omega) hC   a1 (by first | with_reducible exact ha1 | omega) 1 (by first | decide | omega) ) (fun vr M9 hr => ?_)
            obtain ⟨hq, x10, rfl, hx10⟩ := hr
            replace hq := hq.symm; subst hq
            show zG n (0, 0) d 215 (87, [.inr (.inr (some 97)), .inl a1, .inl v2, .inl v4], [.inl x10, .inl x8]) M _
            have j110 : zG n (0, 0) d 215 (110, [.inr (.inr (some 97)), .inl a1, .inl v2, .inl v4], []) M (fun v M' => M' = M ∧ ∃ x : Int, v = some (.inl x) ∧ (0 ≤ x ∧ x ≤ 1)) := by
              refine zG_blm (c' := (111, [.inr (.inr (some 97)), .inl a1, .inl v2, .inl v4], [.inl 1])) 1 hd0 hz (by rfl) ?_
              exact zG_ret hd0 hz rfl rfl ⟨rfl, _, rfl, by omega⟩
            refine zG_icmp_lt hd0 hz rfl (fun hb11 => ?_) (fun hb11 => ?_)
            · exact j110
            · refine zG_blm (c' := (93, [.inr (.inr (some 97)), .inl a1, .inl v2, .inl v4], [.inl 1, .inl v2, .inr (.inr (some 97))])) 3 hd0 hz (by rfl) ?_
              refine zG_call hd0 hz zp_194 rfl rfl (Nat.le_of_ble_eq_true rfl) ⟨Nat.le_refl _, Nat.le_refl _⟩ (qx_act0 (by first | exact zdp hd (by decide) | omega) hC   v2 (by first | with_reducible exact hv2 | omega) 1 (by first | decide | omega) ) (fun vr M12 hr => ?_)
              obtain ⟨hq, x13, rfl, hx13⟩ := hr
              replace hq := hq.symm; subst hq
              show zG n (0, 0) d 215 (96, [.inr (.inr (some 97)), .inl a1, .inl v2, .inl v4], [.inl x13]) M _
              refine zG_blm (c' := (99, [.inr (.inr (some 97)), .inl a1, .inl v2, .inl v4], [.inl 1, .inl a1, .inr (.inr (some 97)), .inl x13])) 3 hd0 hz (by rfl) ?_
              refine zG_call hd0 hz zp_194 rfl rfl (Nat.le_of_ble_eq_true rfl) ⟨Nat.le_refl _, Nat.le_refl _⟩ (qx_act0 (by first | exact zdp hd (by decide) | omega) hC   a1 (by first | with_reducible exact ha1 | omega) 1 (by first | decide | omega) ) (fun vr M14 hr => ?_)
              obtain ⟨hq, x15, rfl, hx15⟩ := hr
              replace hq := hq.symm; subst hq
              show zG n (0, 0) d 215 (102, [.inr (.inr (some 97)), .inl a1, .inl v2, .inl v4], [.inl x15, .inl x13]) M _
              refine zG_icmp_ne hd0 hz rfl (fun hb16 => ?_) (fun hb16 => ?_)
              · exact j112
              · refine zG_blm (c' := (107, [.inr (.inr (some 97)), .inl a1, .inl v2, .inl v4], [.inl a1, .inl v2])) 2 hd0 hz (by rfl) ?_
                refine zG_icmp_ge hd0 hz rfl (fun hb17 => ?_) (fun hb17 => ?_)
                · exact j112
                · exact j110
        have j69 : zG n (0, 0) d 215 (69, [.inr (.inr (some 97)), .inl a1, .inl v2, zN], []) M (fun v M' => M' = M ∧ ∃ x : Int, v = some (.inl x) ∧ (0 ≤ x ∧ x ≤ 1)) := by
          refine zG_blm (c' := (70, [.inr (.inr (some 97)), .inl a1, .inl v2, zN], [.inl 0])) 1 hd0 hz (by rfl) ?_
          exact j70 0 (by first | decide | omega)
        refine zG_icmp_eq hd0 hz rfl (fun hb18 => ?_) (fun hb18 => ?_)
        · exact j69
        · refine zG_blm (c' := (22, [.inr (.inr (some 97)), .inl a1, .inl v2, zN], [.inl v2, .inr (.inr (some 101))])) 3 hd0 hz (by rfl) ?_
          refine zG_bald hd0 hz rfl rfl (.inl rfl) (by omega) ?_
          obtain ⟨x19, hx19⟩ : ∃ x : Int, x = M 101 (v2 : Int).toNat := ⟨_, rfl⟩
          rw [← hx19]
          have hx19r : x19 = 0 ∨ x19 = 1 := by rw [hx19]; exact hC.bl101 _
          show zG n (0, 0) d 215 (23, [.inr (.inr (some 97)), .inl a1, .inl v2, zN], [.inl x19]) M _
          refine zG_if_eq hd0 hz rfl (fun hb20 => ?_) (fun hb20 => ?_)
          · exact j69
          · refine zG_blm (c' := (29, [.inr (.inr (some 97)), .inl a1, .inl v2, zN], [.inl 0, .inl v2, .inr (.inr (some 97))])) 3 hd0 hz (by rfl) ?_
            refine zG_call hd0 hz zp_194 rfl rfl (Nat.le_of_ble_eq_true rfl) ⟨Nat.le_refl _, Nat.le_refl _⟩ (qx_act0 (by first | exact zdp hd (by decide) | omega) hC   v2 (by first | with_reducible exact hv2 | omega) 0 (by first | decide | omega) ) (fun vr M21 hr => ?_)
            obtain ⟨hq, x22, rfl, hx22⟩ := hr
            replace hq := hq.symm; subst hq
            show zG n (0, 0) d 215 (32, [.inr (.inr (some 97)), .inl a1, .inl v2, zN], [.inl x22]) M _
            refine zG_if_ne hd0 hz rfl (fun hb23 => ?_) (fun hb23 => ?_)
            · exact j69
            · refine zG_blm (c' := (38, [.inr (.inr (some 97)), .inl a1, .inl v2, zN], [.inl 4, .inl v2, .inr (.inr (some 97))])) 3 hd0 hz (by rfl) ?_
              refine zG_call hd0 hz zp_194 rfl rfl (Nat.le_of_ble_eq_true rfl) ⟨Nat.le_refl _, Nat.le_refl _⟩ (qx_act4 (by first | exact zdp hd (by decide) | omega) hC   v2 (by first | with_reducible exact hv2 | omega) ) (fun vr M24 hr => ?_)
              obtain ⟨hq, x25, rfl, hx25⟩ := hr
              replace hq := hq.symm; subst hq
              show zG n (0, 0) d 215 (41, [.inr (.inr (some 97)), .inl a1, .inl v2, zN], [.inl x25]) M _
              refine zG_blm (c' := (44, [.inr (.inr (some 97)), .inl a1, .inl v2, zN], [.inl 4, .inl a1, .inr (.inr (some 97)), .inl x25])) 3 hd0 hz (by rfl) ?_
              refine zG_call hd0 hz zp_194 rfl rfl (Nat.le_of_ble_eq_true rfl) ⟨Nat.le_refl _, Nat.le_refl _⟩ (qx_act4 (by first | exact zdp hd (by decide) | omega) hC   a1 (by first | with_reducible exact ha1 | omega) ) (fun vr M26 hr => ?_)
              obtain ⟨hq, x27, rfl, hx27⟩ := hr
              replace hq := hq.symm; subst hq
              show zG n (0, 0) d 215 (47, [.inr (.inr (some 97)), .inl a1, .inl v2, zN], [.inl x27, .inl x25]) M _
              refine zG_icmp_ne hd0 hz rfl (fun hb28 => ?_) (fun hb28 => ?_)
              · exact j69
              · refine zG_blm (c' := (53, [.inr (.inr (some 97)), .inl a1, .inl v2, zN], [.inl 5, .inl v2, .inr (.inr (some 97))])) 3 hd0 hz (by rfl) ?_
                refine zG_call hd0 hz zp_194 rfl rfl (Nat.le_of_ble_eq_true rfl) ⟨Nat.le_refl _, Nat.le_refl _⟩ (qx_act5 (by first | exact zdp hd (by decide) | omega) hC   v2 (by first | with_reducible exact hv2 | omega) ) (fun vr M29 hr => ?_)
                obtain ⟨hq, x30, rfl, hx30⟩ := hr
                replace hq := hq.symm; subst hq
                show zG n (0, 0) d 215 (56, [.inr (.inr (some 97)), .inl a1, .inl v2, zN], [.inl x30]) M _
                refine zG_blm (c' := (59, [.inr (.inr (some 97)), .inl a1, .inl v2, zN], [.inl 5, .inl a1, .inr (.inr (some 97)), .inl x30])) 3 hd0 hz (by rfl) ?_
                refine zG_call hd0 hz zp_194 rfl rfl (Nat.le_of_ble_eq_true rfl) ⟨Nat.le_refl _, Nat.le_refl _⟩ (qx_act5 (by first | exact zdp hd (by decide) | omega) hC   a1 (by first | with_reducible exact ha1 | omega) ) (fun vr M31 hr => ?_)
                obtain ⟨hq, x32, rfl, hx32⟩ := hr
                replace hq := hq.symm; subst hq
                show zG n (0, 0) d 215 (62, [.inr (.inr (some 97)), .inl a1, .inl v2, zN], [.inl x32, .inl x30]) M _
                refine zG_icmp_ne hd0 hz rfl (fun hb33 => ?_) (fun hb33 => ?_)
                · exact j69
                · refine zG_blm (c' := (70, [.inr (.inr (some 97)), .inl a1, .inl v2, zN], [.inl 1])) 2 hd0 hz (by rfl) ?_
                  exact j70 1 (by first | decide | omega)
  exact j2 ((250 - 0 : Int).toNat + 1) 0 (by first | decide | omega) (by omega)
theorem qm_216_97 {n d : Nat} {M : zM} (hd : 3 ≤ d) (hC : qMI M)  (a1 : Int) (ha1 : 0 ≤ a1 ∧ a1 ≤ 249) (a2 : Int) (ha2 : 0 ≤ a2 ∧ a2 ≤ 4) : qOkP n d 216 [.inr (.inr (some 97)), .inl a1, .inl a2] 8 M (fun v => ∃ x : Int, v = some (.inl x) ∧ ((-2147483648) ≤ x ∧ x ≤ 2147483647)) := by
  have hz := zp_216
  have hd0 : 0 < d := by omega
  have r1 := hC.cnt4
  show zG n (0, 0) d 216 (0, [.inr (.inr (some 97)), .inl a1, .inl a2, zN, zN, zN, zN, zN], []) M _
  refine zG_blm (c' := (4, [.inr (.inr (some 97)), .inl a1, .inl a2, zN, zN, zN, zN, zN], [.inl 7, .inl a1, .inr (.inr (some 97))])) 3 hd0 hz (by rfl) ?_
  refine zG_call hd0 hz zp_194 rfl rfl (Nat.le_of_ble_eq_true rfl) ⟨Nat.le_refl _, Nat.le_refl _⟩ (qx_act0 (by first | exact zdp hd (by decide) | omega) hC   a1 (by first | with_reducible exact ha1 | omega) 7 (by first | decide | omega) ) (fun vr M2 hr => ?_)
  obtain ⟨hq, x3, rfl, hx3⟩ := hr
  replace hq := hq.symm; subst hq
  show zG n (0, 0) d 216 (7, [.inr (.inr (some 97)), .inl a1, .inl a2, zN, zN, zN, zN, zN], [.inl x3]) M _
  refine zG_blm (c' := (9, [.inr (.inr (some 97)), .inl a1, .inl a2, .inl x3, zN, zN, zN, zN], [.inl a2])) 2 hd0 hz (by rfl) ?_
  have j22 : ∀ (v4 : Int) , (-1) ≤ v4 ∧ v4 ≤ 249 → zG n (0, 0) d 216 (22, [.inr (.inr (some 97)), .inl a1, .inl a2, .inl x3, zN, zN, zN, zN], [.inl v4]) M (fun v M' => M' = M ∧ ∃ x : Int, v = some (.inl x) ∧ ((-2147483648) ≤ x ∧ x ≤ 2147483647)) := by
    intro v4 hv4
    refine zG_blm (c' := (27, [.inr (.inr (some 97)), .inl a1, .inl a2, .inl x3, .inl v4, zN, zN, zN], [.inl (-1), .inl v4])) 3 hd0 hz (by rfl) ?_
    have j80 : ∀ (v5 : Int) , (-2147483648) ≤ v5 ∧ v5 ≤ 2147483647 → zG n (0, 0) d 216 (80, [.inr (.inr (some 97)), .inl a1, .inl a2, .inl v5, .inl v4, zN, zN, zN], []) M (fun v M' => M' = M ∧ ∃ x : Int, v = some (.inl x) ∧ ((-2147483648) ≤ x ∧ x ≤ 2147483647)) := by
      intro v5 hv5
      refine zG_blm (c' := (82, [.inr (.inr (some 97)), .inl a1, .inl a2, .inl v5, .inl v4, zN, zN, zN], [.inl 1, .inl a2])) 2 hd0 hz (by rfl) ?_
      have j95 : ∀ (v6 : Int) , (-1) ≤ v6 ∧ v6 ≤ 249 → zG n (0, 0) d 216 (95, [.inr (.inr (some 97)), .inl a1, .inl a2, .inl v5, .inl v4, zN, zN, zN], [.inl v6]) M (fun v M' => M' = M ∧ ∃ x : Int, v = some (.inl x) ∧ ((-2147483648) ≤ x ∧ x ≤ 2147483647)) := by
        intro v6 hv6
        refine zG_blm (c' := (100, [.inr (.inr (some 97)), .inl a1, .inl a2, .inl v5, .inl v4, .inl v6, zN, zN], [.inl (-1), .inl v6])) 3 hd0 hz (by rfl) ?_
        have j115 : ∀ (v7 : Int) , (-2147483648) ≤ v7 ∧ v7 ≤ 2147483647 → zG n (0, 0) d 216 (115, [.inr (.inr (some 97)), .inl a1, .inl a2, .inl v5, .inl v4, .inl v6, zN, zN], [.inl v7]) M (fun v M' => M' = M ∧ ∃ x : Int, v = some (.inl x) ∧ ((-2147483648) ≤ x ∧ x ≤ 2147483647)) := by
          intro v7 hv7
          refine zG_blm (c' := (118, [.inr (.inr (some 97)), .inl a1, .inl a2, .inl v7, .inl v4, .inl v6, zN, zN], [.inl 2, .inl a2])) 3 hd0 hz (by rfl) ?_
          have j130 : ∀ (v8 : Int) , (-1) ≤ v8 ∧ v8 ≤ 249 → (v8 ≠ -1 → v8 < M 98 4 ∧ qA M v8 0 = 3) → zG n (0, 0) d 216 (130, [.inr (.inr (some 97)), .inl a1, .inl a2, .inl v7, .inl v4, .inl v6, zN, zN], [.inl v8]) M (fun v M' => M' = M ∧ ∃ x : Int, v = some (.inl x) ∧ ((-2147483648) ≤ x ∧ x ≤ 2147483647)) := by
            intro v8 hv8 hx0_130
            refine zG_blm (c' := (135, [.inr (.inr (some 97)), .inl a1, .inl a2, .inl v7, .inl v4, .inl v6, .inl v8, zN], [.inl (-1), .inl v8])) 3 hd0 hz (by rfl) ?_
            have j188 : ∀ (v9 : Int) , (-2147483648) ≤ v9 ∧ v9 ≤ 2147483647 → zG n (0, 0) d 216 (188, [.inr (.inr (some 97)), .inl a1, .inl a2, .inl v9, .inl v4, .inl v6, .inl v8, zN], []) M (fun v M' => M' = M ∧ ∃ x : Int, v = some (.inl x) ∧ ((-2147483648) ≤ x ∧ x ≤ 2147483647)) := by
              intro v9 hv9
              refine zG_blm (c' := (198, [.inr (.inr (some 97)), .inl a1, .inl a2, .inl v9, .inl v4, .inl v6, .inl v8, zN], [.inl 5, .inl a1, .inr (.inr (some 97)), .inl 4, .inl 20, .inr (.inr (some 98))])) 7 hd0 hz (by rfl) ?_
              refine zG_call hd0 hz zp_194 rfl rfl (Nat.le_of_ble_eq_true rfl) ⟨Nat.le_refl _, Nat.le_refl _⟩ (qx_act5 (by first | exact zdp hd (by decide) | omega) hC   a1 (by first | with_reducible exact ha1 | omega) ) (fun vr M10 hr => ?_)
              obtain ⟨hq, x11, rfl, hx11⟩ := hr
              replace hq := hq.symm; subst hq
              show zG n (0, 0) d 216 (201, [.inr (.inr (some 97)), .inl a1, .inl a2, .inl v9, .inl v4, .inl v6, .inl v8, zN], [.inl x11, .inl 4, .inl 20, .inr (.inr (some 98))]) M _
              obtain ⟨x12, hx12⟩ : ∃ x : Int, x = w32 (4 * x11) := ⟨_, rfl⟩
              have hx12e : x12 = 4 * x11 := by rw [hx12]; exact w32_id (by omega)
              obtain ⟨x13, hx13⟩ : ∃ x : Int, x = w32 (20 + x12) := ⟨_, rfl⟩
              have hx13e : x13 = 20 + x12 := by rw [hx13]; exact w32_id (by omega)
              obtain ⟨x14, hx14⟩ : ∃ x : Int, x = w32 (x13 + 3) := ⟨_, rfl⟩
              have hx14e : x14 = x13 + 3 := by rw [hx14]; exact w32_id (by omega)
              refine zG_blm (c' := (205, [.inr (.inr (some 97)), .inl a1, .inl a2, .inl v9, .inl v4, .inl v6, .inl v8, zN], [.inl x14, .inr (.inr (some 98))])) 4 hd0 hz (by subst hx14; subst hx13; subst hx12; rfl) ?_
              refine zG_iald hd0 hz rfl rfl (.inl rfl) (by omega) ?_
              obtain ⟨x15, hx15⟩ : ∃ x : Int, x = M 98 (x14 : Int).toNat := ⟨_, rfl⟩
              rw [← hx15]
              have hx15r : qin x15 := by rw [hx15]; exact hC.sin _
              show zG n (0, 0) d 216 (206, [.inr (.inr (some 97)), .inl a1, .inl a2, .inl v9, .inl v4, .inl v6, .inl v8, zN], [.inl x15]) M _
              refine zG_blm (c' := (210, [.inr (.inr (some 97)), .inl a1, .inl a2, .inl v9, .inl v4, .inl v6, .inl v8, .inl x15], [.inl 3, .inl a2])) 3 hd0 hz (by rfl) ?_
              have j233 : ∀ (v16 : Int) , (-2147483648) ≤ v16 ∧ v16 ≤ 2147483647 → zG n (0, 0) d 216 (233, [.inr (.inr (some 97)), .inl a1, .inl a2, .inl v9, .inl v4, .inl v6, .inl v8, .inl x15], [.inl v16]) M (fun v M' => M' = M ∧ ∃ x : Int, v = some (.inl x) ∧ ((-2147483648) ≤ x ∧ x ≤ 2147483647)) := by
                intro v16 hv16
                exact zG_ret hd0 hz rfl rfl ⟨rfl, _, rfl, by omega⟩
              have j232 : zG n (0, 0) d 216 (232, [.inr (.inr (some 97)), .inl a1, .inl a2, .inl v9, .inl v4, .inl v6, .inl v8, .inl x15], []) M (fun v M' => M' = M ∧ ∃ x : Int, v = some (.inl x) ∧ ((-2147483648) ≤ x ∧ x ≤ 2147483647)) := by
                refine zG_blm (c' := (233, [.inr (.inr (some 97)), .inl a1, .inl a2, .inl v9, .inl v4, .inl v6, .inl v8, .inl x15], [.inl v9])) 1 hd0 hz (by rfl) ?_
                exact j233 v9 (by first | with_reducible exact hv9 | omega)
              refine zG_icmp_le hd0 hz rfl (fun hb17 => ?_) (fun hb17 => ?_)
              · exact j232
              · refine zG_blm (c' := (216, [.inr (.inr (some 97)), .inl a1, .inl a2, .inl v9, .inl v4, .inl v6, .inl v8, .inl x15], [.inl x15, .inl v9])) 2 hd0 hz (by rfl) ?_
                refine zG_icmp_le hd0 hz rfl (fun hb18 => ?_) (fun hb18 => ?_)
                · exact j232
                · refine zG_blm (c' := (221, [.inr (.inr (some 97)), .inl a1, .inl a2, .inl v9, .inl v4, .inl v6, .inl v8, .inl x15], [.inl a1, .inr (.inr (some 97))])) 2 hd0 hz (by rfl) ?_
                  refine zG_call hd0 hz zp_215 rfl rfl (Nat.le_of_ble_eq_true rfl) ⟨Nat.le_refl _, Nat.le_refl _⟩ (qm_215_97 (by first | exact zdp hd (by decide) | omega) hC   a1 (by first | with_reducible exact ha1 | omega) ) (fun vr M19 hr => ?_)
                  obtain ⟨hq, x20, rfl, hx20⟩ := hr
                  replace hq := hq.symm; subst hq
                  show zG n (0, 0) d 216 (224, [.inr (.inr (some 97)), .inl a1, .inl a2, .inl v9, .inl v4, .inl v6, .inl v8, .inl x15], [.inl x20]) M _
                  refine zG_if_eq hd0 hz rfl (fun hb21 => ?_) (fun hb21 => ?_)
                  · exact j232
                  · refine zG_blm (c' := (233, [.inr (.inr (some 97)), .inl a1, .inl a2, .inl v9, .inl v4, .inl v6, .inl v8, .inl x15], [.inl x15])) 2 hd0 hz (by rfl) ?_
                    exact j233 x15 (by omega)
            refine zG_icmp_eq hd0 hz rfl (fun hb22 => ?_) (fun hb22 => ?_)
            · exact j188 v7 (by first | with_reducible exact hv7 | omega)
            · have hrel := (hC.rel v8 (by first | with_reducible exact hv8 | omega) (by omega)).2.2.2.2.2.2.2.2.2 (by omega)
              refine zG_blm (c' := (144, [.inr (.inr (some 97)), .inl a1, .inl a2, .inl v7, .inl v4, .inl v6, .inl v8, zN], [.inl 9, .inl v8, .inr (.inr (some 97)), .inl v7])) 4 hd0 hz (by rfl) ?_
              refine zG_call hd0 hz zp_194 rfl rfl (Nat.le_of_ble_eq_true rfl) ⟨Nat.le_refl _, Nat.le_refl _⟩ (qx_act0 (by first | exact zdp hd (by decide) | omega) hC   v8 (by first | with_reducible exact hv8 | omega) 9 (by first | decide | omega) ) (fun vr M23 hr => ?_)
              obtain ⟨hq, x24, rfl, hx24⟩ := hr
              replace hq := hq.symm; subst hq
              show zG n (0, 0) d 216 (147, [.inr (.inr (some 97)), .inl a1, .inl a2, .inl v7, .inl v4, .inl v6, .inl v8, zN], [.inl x24, .inl v7]) M _
              obtain ⟨x25, hx25⟩ : ∃ x : Int, x = w32 (v7 * x24) := ⟨_, rfl⟩
              have hx25r : qin x25 := by rw [hx25]; exact w32_in _
              refine zG_blm (c' := (153, [.inr (.inr (some 97)), .inl a1, .inl a2, .inl v7, .inl v4, .inl v6, .inl v8, zN], [.inl 10, .inl v8, .inr (.inr (some 97)), .inl x25])) 4 hd0 hz (by subst hx25; rfl) ?_
              refine zG_call hd0 hz zp_194 rfl rfl (Nat.le_of_ble_eq_true rfl) ⟨Nat.le_refl _, Nat.le_refl _⟩ (qx_act0 (by first | exact zdp hd (by decide) | omega) hC   v8 (by first | with_reducible exact hv8 | omega) 10 (by first | decide | omega) ) (fun vr M26 hr => ?_)
              obtain ⟨hq, x27, rfl, hx27⟩ := hr
              replace hq := hq.symm; subst hq
              show zG n (0, 0) d 216 (156, [.inr (.inr (some 97)), .inl a1, .inl a2, .inl v7, .inl v4, .inl v6, .inl v8, zN], [.inl x27, .inl x25]) M _
              refine zG_idiv hd0 hz rfl (by omega) ?_
              have hx28 := w32_in (x25.tdiv x27)
              generalize w32 (x25.tdiv x27) = x28 at hx28 ⊢
              show zG n (0, 0) d 216 (157, [.inr (.inr (some 97)), .inl a1, .inl a2, .inl v7, .inl v4, .inl v6, .inl v8, zN], [.inl x28]) M _
              refine zG_blm (c' := (162, [.inr (.inr (some 97)), .inl a1, .inl a2, .inl v7, .inl v4, .inl v6, .inl v8, zN], [.inl 11, .inl v8, .inr (.inr (some 97)), .inl x28])) 3 hd0 hz (by rfl) ?_
              refine zG_call hd0 hz zp_194 rfl rfl (Nat.le_of_ble_eq_true rfl) ⟨Nat.le_refl _, Nat.le_refl _⟩ (qx_act0 (by first | exact zdp hd (by decide) | omega) hC   v8 (by first | with_reducible exact hv8 | omega) 11 (by first | decide | omega) ) (fun vr M29 hr => ?_)
              obtain ⟨hq, x30, rfl, hx30⟩ := hr
              replace hq := hq.symm; subst hq
              show zG n (0, 0) d 216 (165, [.inr (.inr (some 97)), .inl a1, .inl a2, .inl v7, .inl v4, .inl v6, .inl v8, zN], [.inl x30, .inl x28]) M _
              obtain ⟨x31, hx31⟩ : ∃ x : Int, x = w32 (x28 + x30) := ⟨_, rfl⟩
              have hx31r : x31 = (x28 + x30 + 2147483648) % 4294967296 - 2147483648 := hx31
              refine zG_blm (c' := (168, [.inr (.inr (some 97)), .inl a1, .inl a2, .inl x31, .inl v4, .inl v6, .inl v8, zN], [.inl x31])) 3 hd0 hz (by subst hx31; rfl) ?_
              have j187 : ∀ (v32 : Int) , 0 ≤ v32 ∧ v32 ≤ 100 → zG n (0, 0) d 216 (187, [.inr (.inr (some 97)), .inl a1, .inl a2, .inl x31, .inl v4, .inl v6, .inl v8, zN], [.inl v32]) M (fun v M' => M' = M ∧ ∃ x : Int, v = some (.inl x) ∧ ((-2147483648) ≤ x ∧ x ≤ 2147483647)) := by
                intro v32 hv32
                refine zG_blm (c' := (188, [.inr (.inr (some 97)), .inl a1, .inl a2, .inl v32, .inl v4, .inl v6, .inl v8, zN], [])) 1 hd0 hz (by rfl) ?_
                exact j188 v32 (by first | with_reducible exact hv32 | omega)
              refine zG_if_ge hd0 hz rfl (fun hb33 => ?_) (fun hb33 => ?_)
              · refine zG_blm (c' := (178, [.inr (.inr (some 97)), .inl a1, .inl a2, .inl x31, .inl v4, .inl v6, .inl v8, zN], [.inl 100, .inl x31])) 2 hd0 hz (by rfl) ?_
                refine zG_icmp_le hd0 hz rfl (fun hb34 => ?_) (fun hb34 => ?_)
                · refine zG_blm (c' := (187, [.inr (.inr (some 97)), .inl a1, .inl a2, .inl x31, .inl v4, .inl v6, .inl v8, zN], [.inl x31])) 1 hd0 hz (by rfl) ?_
                  exact j187 x31 (by omega)
                · refine zG_blm (c' := (187, [.inr (.inr (some 97)), .inl a1, .inl a2, .inl x31, .inl v4, .inl v6, .inl v8, zN], [.inl 100])) 2 hd0 hz (by rfl) ?_
                  exact j187 100 (by first | decide | omega)
              · refine zG_blm (c' := (187, [.inr (.inr (some 97)), .inl a1, .inl a2, .inl x31, .inl v4, .inl v6, .inl v8, zN], [.inl 0])) 2 hd0 hz (by rfl) ?_
                exact j187 0 (by first | decide | omega)
          refine zG_icmp_le hd0 hz rfl (fun hb35 => ?_) (fun hb35 => ?_)
          · refine zG_blm (c' := (130, [.inr (.inr (some 97)), .inl a1, .inl a2, .inl v7, .inl v4, .inl v6, zN, zN], [.inl (-1)])) 1 hd0 hz (by rfl) ?_
            exact j130 (-1) (by first | decide | omega) (by omega)
          · refine zG_blm (c' := (123, [.inr (.inr (some 97)), .inl a1, .inl a2, .inl v7, .inl v4, .inl v6, zN, zN], [.inl a1, .inr (.inr (some 97))])) 2 hd0 hz (by rfl) ?_
            refine zG_call hd0 hz zp_214 rfl rfl (Nat.le_of_ble_eq_true rfl) ⟨Nat.le_refl _, Nat.le_refl _⟩ (qm_214_97 (by first | exact zdp hd (by decide) | omega) hC   a1 (by first | with_reducible exact ha1 | omega) ) (fun vr M36 hr => ?_)
            obtain ⟨hq, x37, rfl, hx37, hpx37_0⟩ := hr
            replace hq := hq.symm; subst hq
            show zG n (0, 0) d 216 (126, [.inr (.inr (some 97)), .inl a1, .inl a2, .inl v7, .inl v4, .inl v6, zN, zN], [.inl x37]) M _
            refine zG_blm (c' := (130, [.inr (.inr (some 97)), .inl a1, .inl a2, .inl v7, .inl v4, .inl v6, zN, zN], [.inl x37])) 1 hd0 hz (by rfl) ?_
            exact j130 x37 (by omega) (by omega)
        refine zG_icmp_ne hd0 hz rfl (fun hb38 => ?_) (fun hb38 => ?_)
        · refine zG_blm (c' := (112, [.inr (.inr (some 97)), .inl a1, .inl a2, .inl v5, .inl v4, .inl v6, zN, zN], [.inl 7, .inl v6, .inr (.inr (some 97))])) 3 hd0 hz (by rfl) ?_
          refine zG_call hd0 hz zp_194 rfl rfl (Nat.le_of_ble_eq_true rfl) ⟨Nat.le_refl _, Nat.le_refl _⟩ (qx_act0 (by first | exact zdp hd (by decide) | omega) hC   v6 (by first | with_reducible exact hv6 | omega) 7 (by first | decide | omega) ) (fun vr M39 hr => ?_)
          obtain ⟨hq, x40, rfl, hx40⟩ := hr
          replace hq := hq.symm; subst hq
          show zG n (0, 0) d 216 (115, [.inr (.inr (some 97)), .inl a1, .inl a2, .inl v5, .inl v4, .inl v6, zN, zN], [.inl x40]) M _
          exact j115 x40 (by omega)
        · refine zG_blm (c' := (115, [.inr (.inr (some 97)), .inl a1, .inl a2, .inl v5, .inl v4, .inl v6, zN, zN], [.inl v5])) 2 hd0 hz (by rfl) ?_
          exact j115 v5 (by first | with_reducible exact hv5 | omega)
      refine zG_icmp_le hd0 hz rfl (fun hb41 => ?_) (fun hb41 => ?_)
      · refine zG_blm (c' := (95, [.inr (.inr (some 97)), .inl a1, .inl a2, .inl v5, .inl v4, zN, zN, zN], [.inl (-1)])) 1 hd0 hz (by rfl) ?_
        exact j95 (-1) (by first | decide | omega)
      · refine zG_blm (c' := (88, [.inr (.inr (some 97)), .inl a1, .inl a2, .inl v5, .inl v4, zN, zN, zN], [.inl a1, .inl 2, .inr (.inr (some 97))])) 3 hd0 hz (by rfl) ?_
        refine zG_call hd0 hz zp_213 rfl rfl (Nat.le_of_ble_eq_true rfl) ⟨Nat.le_refl _, Nat.le_refl _⟩ (qm_213_97 (by first | exact zdp hd (by decide) | omega) hC   2 (by first | decide | omega) a1 (by first | with_reducible exact ha1 | omega) ) (fun vr M42 hr => ?_)
        obtain ⟨hq, x43, rfl, hx43, hpx43_0⟩ := hr
        replace hq := hq.symm; subst hq
        show zG n (0, 0) d 216 (91, [.inr (.inr (some 97)), .inl a1, .inl a2, .inl v5, .inl v4, zN, zN, zN], [.inl x43]) M _
        refine zG_blm (c' := (95, [.inr (.inr (some 97)), .inl a1, .inl a2, .inl v5, .inl v4, zN, zN, zN], [.inl x43])) 1 hd0 hz (by rfl) ?_
        exact j95 x43 (by omega)
    refine zG_icmp_eq hd0 hz rfl (fun hb44 => ?_) (fun hb44 => ?_)
    · exact j80 x3 (by omega)
    · refine zG_blm (c' := (35, [.inr (.inr (some 97)), .inl a1, .inl a2, .inl x3, .inl v4, zN, zN, zN], [.inl 7, .inl v4, .inr (.inr (some 97))])) 3 hd0 hz (by rfl) ?_
      refine zG_call hd0 hz zp_194 rfl rfl (Nat.le_of_ble_eq_true rfl) ⟨Nat.le_refl _, Nat.le_refl _⟩ (qx_act0 (by first | exact zdp hd (by decide) | omega) hC   v4 (by first | with_reducible exact hv4 | omega) 7 (by first | decide | omega) ) (fun vr M45 hr => ?_)
      obtain ⟨hq, x46, rfl, hx46⟩ := hr
      replace hq := hq.symm; subst hq
      show zG n (0, 0) d 216 (38, [.inr (.inr (some 97)), .inl a1, .inl a2, .inl x3, .inl v4, zN, zN, zN], [.inl x46]) M _
      refine zG_blm (c' := (43, [.inr (.inr (some 97)), .inl a1, .inl a2, .inl x3, .inl v4, .inl x46, zN, zN], [.inl x46, .inl x3])) 3 hd0 hz (by rfl) ?_
      have j52 : ∀ (v47 : Int) , (-2147483648) ≤ v47 ∧ v47 ≤ 2147483647 → zG n (0, 0) d 216 (52, [.inr (.inr (some 97)), .inl a1, .inl a2, .inl x3, .inl v4, .inl x46, zN, zN], [.inl v47]) M (fun v M' => M' = M ∧ ∃ x : Int, v = some (.inl x) ∧ ((-2147483648) ≤ x ∧ x ≤ 2147483647)) := by
        intro v47 hv47
        obtain ⟨x48, hx48⟩ : ∃ x : Int, x = w32 (x3 - x46) := ⟨_, rfl⟩
        have hx48r : x48 = (x3 - x46 + 2147483648) % 4294967296 - 2147483648 := hx48
        refine zG_blm (c' := (62, [.inr (.inr (some 97)), .inl a1, .inl a2, .inl x3, .inl v4, .inl x46, .inl v47, zN], [.inl 10, .inl (-10), .inl x48])) 6 hd0 hz (by subst hx48; rfl) ?_
        refine zG_call hd0 hz zp_180 rfl rfl (Nat.le_of_ble_eq_true rfl) ⟨Nat.le_refl _, Nat.le_refl _⟩ (qx_in (by first | exact zdp hd (by decide) | omega) hC   x48 (by omega) (-10) (by first | decide | omega) 10 (by first | decide | omega) ) (fun vr M49 hr => ?_)
        obtain ⟨hq, x50, rfl, hx50⟩ := hr
        replace hq := hq.symm; subst hq
        show zG n (0, 0) d 216 (65, [.inr (.inr (some 97)), .inl a1, .inl a2, .inl x3, .inl v4, .inl x46, .inl v47, zN], [.inl x50]) M _
        have j79 : ∀ (v51 : Int) , (-2147483648) ≤ v51 ∧ v51 ≤ 2147483647 → zG n (0, 0) d 216 (79, [.inr (.inr (some 97)), .inl a1, .inl a2, .inl x3, .inl v4, .inl x46, .inl v47, zN], [.inl v51]) M (fun v M' => M' = M ∧ ∃ x : Int, v = some (.inl x) ∧ ((-2147483648) ≤ x ∧ x ≤ 2147483647)) := by
          intro v51 hv51
          refine zG_blm (c' := (80, [.inr (.inr (some 97)), .inl a1, .inl a2, .inl v51, .inl v4, .inl x46, .inl v47, zN], [])) 1 hd0 hz (by rfl) ?_
          exact zG_weak (j80 v51 (by first | with_reducible exact hv51 | omega)) ⟨.inr rfl, .inr rfl, .inr rfl, .inr rfl, .inr rfl, .inl rfl, .inl rfl, .inr rfl, trivial⟩
        refine zG_if_eq hd0 hz rfl (fun hb52 => ?_) (fun hb52 => ?_)
        · refine zG_blm (c' := (79, [.inr (.inr (some 97)), .inl a1, .inl a2, .inl x3, .inl v4, .inl x46, .inl v47, zN], [.inl v47])) 1 hd0 hz (by rfl) ?_
          exact j79 v47 (by first | with_reducible exact hv47 | omega)
        · have hcx50 := hx50.2.2.mp (by omega)
          clear hx50 hb52
          obtain ⟨x53, hx53⟩ : ∃ x : Int, x = w32 (x3 + x46) := ⟨_, rfl⟩
          have hx53r : x53 = (x3 + x46 + 2147483648) % 4294967296 - 2147483648 := hx53
          refine zG_blm (c' := (73, [.inr (.inr (some 97)), .inl a1, .inl a2, .inl x3, .inl v4, .inl x46, .inl v47, zN], [.inl 2, .inl x53])) 4 hd0 hz (by subst hx53; rfl) ?_
          refine zG_idiv hd0 hz rfl (by omega) ?_
          have hx54 := qtdiv_in x53 2 (by first | decide | omega) (by omega)
          generalize w32 (x53.tdiv 2) = x54 at hx54 ⊢
          show zG n (0, 0) d 216 (74, [.inr (.inr (some 97)), .inl a1, .inl a2, .inl x3, .inl v4, .inl x46, .inl v47, zN], [.inl x54]) M _
          refine zG_blm (c' := (79, [.inr (.inr (some 97)), .inl a1, .inl a2, .inl x3, .inl v4, .inl x46, .inl v47, zN], [.inl x54])) 1 hd0 hz (by rfl) ?_
          exact j79 x54 (by omega)
      refine zG_icmp_ge hd0 hz rfl (fun hb55 => ?_) (fun hb55 => ?_)
      · refine zG_blm (c' := (52, [.inr (.inr (some 97)), .inl a1, .inl a2, .inl x3, .inl v4, .inl x46, zN, zN], [.inl x46])) 1 hd0 hz (by rfl) ?_
        exact j52 x46 (by omega)
      · refine zG_blm (c' := (52, [.inr (.inr (some 97)), .inl a1, .inl a2, .inl x3, .inl v4, .inl x46, zN, zN], [.inl x3])) 2 hd0 hz (by rfl) ?_
        exact j52 x3 (by omega)
  refine zG_if_le hd0 hz rfl (fun hb56 => ?_) (fun hb56 => ?_)
  · refine zG_blm (c' := (22, [.inr (.inr (some 97)), .inl a1, .inl a2, .inl x3, zN, zN, zN, zN], [.inl (-1)])) 1 hd0 hz (by rfl) ?_
    exact j22 (-1) (by first | decide | omega)
  · refine zG_blm (c' := (15, [.inr (.inr (some 97)), .inl a1, .inl a2, .inl x3, zN, zN, zN, zN], [.inl a1, .inl 1, .inr (.inr (some 97))])) 3 hd0 hz (by rfl) ?_
    refine zG_call hd0 hz zp_213 rfl rfl (Nat.le_of_ble_eq_true rfl) ⟨Nat.le_refl _, Nat.le_refl _⟩ (qm_213_97 (by first | exact zdp hd (by decide) | omega) hC   1 (by first | decide | omega) a1 (by first | with_reducible exact ha1 | omega) ) (fun vr M57 hr => ?_)
    obtain ⟨hq, x58, rfl, hx58, hpx58_0⟩ := hr
    replace hq := hq.symm; subst hq
    show zG n (0, 0) d 216 (18, [.inr (.inr (some 97)), .inl a1, .inl a2, .inl x3, zN, zN, zN, zN], [.inl x58]) M _
    refine zG_blm (c' := (22, [.inr (.inr (some 97)), .inl a1, .inl a2, .inl x3, zN, zN, zN, zN], [.inl x58])) 1 hd0 hz (by rfl) ?_
    exact j22 x58 (by omega)
theorem qm_217_97 {n d : Nat} {M : zM} (hd : 4 ≤ d) (hC : qMI M)  (a1 : Int) (ha1 : (-2147483648) ≤ a1 ∧ a1 ≤ 2147483647) (a2 : Int) (ha2 : (-2147483648) ≤ a2 ∧ a2 ≤ 2147483647) (a3 : Int) (ha3 : (-2147483648) ≤ a3 ∧ a3 ≤ 2147483647) : qOkN n d 217 [.inr (.inr (some 97)), .inl a1, .inl a2, .inl a3] 4 [101] M (fun v M' => ∃ x : Int, v = some (.inl x) ∧ ((-2147483648) ≤ x ∧ x ≤ 2147483647)) := by
  have hz := zp_217
  have hd0 : 0 < d := by omega
  have hW : qFm [101] M M := qFm.rfl
  have r1 := hC.cnt4
  show zG n (0, 0) d 217 (0, [.inr (.inr (some 97)), .inl a1, .inl a2, .inl a3], []) M _
  refine zG_blm (c' := (2, [.inr (.inr (some 97)), .inl a1, .inl a2, .inl a3], [.inl a1, .inr (.inr (some 97))])) 2 hd0 hz (by rfl) ?_
  refine zG_call hd0 hz zp_198 rfl rfl (Nat.le_of_ble_eq_true rfl) ⟨Nat.le_refl _, Nat.le_refl _⟩ (qm_198_97 (by first | exact zdp hd (by decide) | omega) hC   a1 (by first | with_reducible exact ha1 | omega) ) (fun vr M2 hr => ?_)
  obtain ⟨hq, x3, rfl, hx3, hpx3_0⟩ := hr
  replace hq := hq.symm; subst hq
  show zG n (0, 0) d 217 (5, [.inr (.inr (some 97)), .inl a1, .inl a2, .inl a3], [.inl x3]) M _
  have j24 : zG n (0, 0) d 217 (24, [.inr (.inr (some 97)), .inl a1, .inl a2, .inl a3], []) M (fun v M' => (qMI M' ∧ qFm [101] M M') ∧ ∃ x : Int, v = some (.inl x) ∧ ((-2147483648) ≤ x ∧ x ≤ 2147483647)) := by
    refine zG_blm (c' := (26, [.inr (.inr (some 97)), .inl a1, .inl a2, .inl a3], [.inl (-2)])) 1 hd0 hz (by rfl) ?_
    exact zG_ret hd0 hz rfl rfl ⟨⟨hC, hW⟩, _, rfl, by omega⟩
  refine zG_if_eq hd0 hz rfl (fun hb4 => ?_) (fun hb4 => ?_)
  · exact j24
  · have hcx3 := hpx3_0.mp (by omega)
    clear hx3 hpx3_0 hb4
    refine zG_blm (c' := (11, [.inr (.inr (some 97)), .inl a1, .inl a2, .inl a3], [.inl 4, .inl 0, .inl a2])) 3 hd0 hz (by rfl) ?_
    refine zG_call hd0 hz zp_180 rfl rfl (Nat.le_of_ble_eq_true rfl) ⟨Nat.le_refl _, Nat.le_refl _⟩ (qx_in (by first | exact zdp hd (by decide) | omega) hC   a2 (by first | with_reducible exact ha2 | omega) 0 (by first | decide | omega) 4 (by first | decide | omega) ) (fun vr M5 hr => ?_)
    obtain ⟨hq, x6, rfl, hx6⟩ := hr
    replace hq := hq.symm; subst hq
    show zG n (0, 0) d 217 (14, [.inr (.inr (some 97)), .inl a1, .inl a2, .inl a3], [.inl x6]) M _
    refine zG_if_eq hd0 hz rfl (fun hb7 => ?_) (fun hb7 => ?_)
    · exact j24
    · have hcx6 := hx6.2.2.mp (by omega)
      clear hx6 hb7
      refine zG_blm (c' := (18, [.inr (.inr (some 97)), .inl a1, .inl a2, .inl a3], [.inl a3])) 1 hd0 hz (by rfl) ?_
      refine zG_call hd0 hz zp_184 rfl rfl (Nat.le_of_ble_eq_true rfl) ⟨Nat.le_refl _, Nat.le_refl _⟩ (qm_184 (by first | exact zdp hd (by decide) | omega) hC   a3 (by first | with_reducible exact ha3 | omega) ) (fun vr M8 hr => ?_)
      obtain ⟨hq, x9, rfl, hx9, hpx9_0⟩ := hr
      replace hq := hq.symm; subst hq
      show zG n (0, 0) d 217 (21, [.inr (.inr (some 97)), .inl a1, .inl a2, .inl a3], [.inl x9]) M _
      refine zG_if_ne hd0 hz rfl (fun hb10 => ?_) (fun hb10 => ?_)
      · have hcx9 := hpx9_0.mp (by omega)
        clear hx9 hpx9_0 hb10
        refine zG_blm (c' := (29, [.inr (.inr (some 97)), .inl a1, .inl a2, .inl a3], [.inl a3, .inr (.inr (some 97))])) 2 hd0 hz (by rfl) ?_
        refine zG_call hd0 hz zp_211 rfl rfl (Nat.le_of_ble_eq_true rfl) ⟨Nat.le_refl _, Nat.le_refl _⟩ (qm_211_97 (by first | exact zdp hd (by decide) | omega) hC   a3 (by first | with_reducible exact ha3 | omega) ) (fun vr M11 hr => ?_)
        obtain ⟨⟨hCM11, hFM11⟩, rfl⟩ := hr
        have hWM11 : qFm [101] M M11 := hW.tr hFM11 (by decide)
        have e13 : M11 98 4 = M 98 4 := hFM11 98 4 (by decide)
        show zG n (0, 0) d 217 (32, [.inr (.inr (some 97)), .inl a1, .inl a2, .inl a3], []) M11 _
        refine zG_blm (c' := (37, [.inr (.inr (some 97)), .inl a1, .inl a2, .inl a3], [.inl a1, .inr (.inr (some 101))])) 3 hd0 hz (by rfl) ?_
        refine zG_bald hd0 hz rfl rfl (.inl rfl) (by omega) ?_
        obtain ⟨x14, hx14⟩ : ∃ x : Int, x = M11 101 (a1 : Int).toNat := ⟨_, rfl⟩
        rw [← hx14]
        have hx14r : x14 = 0 ∨ x14 = 1 := by rw [hx14]; exact hCM11.bl101 _
        show zG n (0, 0) d 217 (38, [.inr (.inr (some 97)), .inl a1, .inl a2, .inl a3], [.inl x14]) M11 _
        have j51 : ∀ (v15 : Int) , (-2147483648) ≤ v15 ∧ v15 ≤ 2147483647 → zG n (0, 0) d 217 (51, [.inr (.inr (some 97)), .inl a1, .inl a2, .inl a3], [.inl v15]) M11 (fun v M' => (qMI M' ∧ qFm [101] M M') ∧ ∃ x : Int, v = some (.inl x) ∧ ((-2147483648) ≤ x ∧ x ≤ 2147483647)) := by
          intro v15 hv15
          exact zG_ret hd0 hz rfl rfl ⟨⟨hCM11, hWM11⟩, _, rfl, by omega⟩
        refine zG_if_eq hd0 hz rfl (fun hb16 => ?_) (fun hb16 => ?_)
        · refine zG_blm (c' := (51, [.inr (.inr (some 97)), .inl a1, .inl a2, .inl a3], [.inl (-1)])) 1 hd0 hz (by rfl) ?_
          exact j51 (-1) (by first | decide | omega)
        · refine zG_blm (c' := (44, [.inr (.inr (some 97)), .inl a1, .inl a2, .inl a3], [.inl a2, .inl a1, .inr (.inr (some 97))])) 3 hd0 hz (by rfl) ?_
          refine zG_call hd0 hz zp_216 rfl rfl (Nat.le_of_ble_eq_true rfl) ⟨Nat.le_refl _, Nat.le_refl _⟩ (qm_216_97 (by first | exact zdp hd (by decide) | omega) hCM11   a1 (by first | with_reducible exact ha1 | omega) a2 (by first | with_reducible exact ha2 | omega) ) (fun vr M17 hr => ?_)
          obtain ⟨hq, x18, rfl, hx18⟩ := hr
          replace hq := hq.symm; subst hq
          show zG n (0, 0) d 217 (47, [.inr (.inr (some 97)), .inl a1, .inl a2, .inl a3], [.inl x18]) M11 _
          refine zG_blm (c' := (51, [.inr (.inr (some 97)), .inl a1, .inl a2, .inl a3], [.inl x18])) 1 hd0 hz (by rfl) ?_
          exact j51 x18 (by omega)
      · exact j24
theorem qm_218_97 {n d : Nat} {M : zM} (hd : 4 ≤ d) (hC : qMI M)  (a1 : Int) (ha1 : (-2147483648) ≤ a1 ∧ a1 ≤ 2147483647) : qOkN n d 218 [.inr (.inr (some 97)), .inl a1] 5 [102, 103, 104] M (fun v M' => v = none) := by
  have hz := zp_218
  have hd0 : 0 < d := by omega
  have hW : qFm [102, 103, 104] M M := qFm.rfl
  have r1 := hC.cnt4
  show zG n (0, 0) d 218 (0, [.inr (.inr (some 97)), .inl a1, zN, zN, zN], []) M _
  refine zG_blm (c' := (2, [.inr (.inr (some 97)), .inl a1, .inl 0, zN, zN], [])) 2 hd0 hz (by rfl) ?_
  have j2 : ∀ (N : Nat) (v2 : Int) (M3 : zM) , (14 - v2 : Int).toNat < N → 0 ≤ v2 ∧ v2 ≤ 14 → qMI M3 → qFm [102, 103, 104] M M3 → zG n (0, 0) d 218 (2, [.inr (.inr (some 97)), .inl a1, .inl v2, zN, zN], []) M3 (fun v M' => (qMI M' ∧ qFm [102, 103, 104] M M') ∧ v = none) := by
    intro N
    induction N with
    | zero => intro v2 M3 hN hv2 hCM3 hWM3; exact absurd hN (Nat.not_lt_zero _)
    | succ N ih2 =>
      intro v2 M3 hN hv2 hCM3 hWM3
      replace hN : 14 - v2 < (N : Int) + 1 := by omega
      have e4 : M3 98 4 = M 98 4 := hWM3 98 4 (by decide)
      refine zG_blm (c' := (5, [.inr (.inr (some 97)), .inl a1, .inl v2, zN, zN], [.inl 14, .inl v2])) 2 hd0 hz (by rfl) ?_
      refine zG_icmp_ge hd0 hz rfl (fun hb5 => ?_) (fun hb5 => ?_)
      · refine zG_blm (c' := (37, [.inr (.inr (some 97)), .inl a1, .inl 0, zN, zN], [])) 2 hd0 hz (by rfl) ?_
        have j37 : ∀ (N : Nat) (v6 : Int) (M7 : zM) , (250 - v6 : Int).toNat < N → 0 ≤ v6 ∧ v6 ≤ 250 → qMI M7 → qFm [102, 103, 104] M M7 → zG n (0, 0) d 218 (37, [.inr (.inr (some 97)), .inl a1, .inl v6, zN, zN], []) M7 (fun v M' => (qMI M' ∧ qFm [102, 103, 104] M M') ∧ v = none) := by
          intro N
          induction N with
          | zero => intro v6 M7 hN hv6 hCM7 hWM7; exact absurd hN (Nat.not_lt_zero _)
          | succ N ih37 =>
            intro v6 M7 hN hv6 hCM7 hWM7
            replace hN : 250 - v6 < (N : Int) + 1 := by omega
            have e8 : M7 98 4 = M 98 4 := hWM7 98 4 (by decide)
            refine zG_blm (c' := (43, [.inr (.inr (some 97)), .inl a1, .inl v6, zN, zN], [.inl 4, .inr (.inr (some 98)), .inl v6])) 4 hd0 hz (by rfl) ?_
            refine zG_iald hd0 hz rfl rfl (.inl rfl) (by omega) ?_
            show zG n (0, 0) d 218 (44, [.inr (.inr (some 97)), .inl a1, .inl v6, zN, zN], [.inl (M7 98 4), .inl v6]) M7 _
            refine zG_icmp_ge hd0 hz rfl (fun hb9 => ?_) (fun hb9 => ?_)
            · exact zG_ret hd0 hz rfl rfl ⟨⟨hCM7, hWM7⟩, rfl⟩
            · refine zG_blm (c' := (52, [.inr (.inr (some 97)), .inl a1, .inl v6, zN, zN], [.inl v6, .inr (.inr (some 101))])) 3 hd0 hz (by rfl) ?_
              refine zG_bald hd0 hz rfl rfl (.inl rfl) (by omega) ?_
              obtain ⟨x10, hx10⟩ : ∃ x : Int, x = M7 101 (v6 : Int).toNat := ⟨_, rfl⟩
              rw [← hx10]
              have hx10r : x10 = 0 ∨ x10 = 1 := by rw [hx10]; exact hCM7.bl101 _
              show zG n (0, 0) d 218 (53, [.inr (.inr (some 97)), .inl a1, .inl v6, zN, zN], [.inl x10]) M7 _
              have j172 : ∀ (M11 : zM) , qMI M11 → qFm [102, 103, 104] M M11 → zG n (0, 0) d 218 (172, [.inr (.inr (some 97)), .inl a1, .inl v6, zN, zN], []) M11 (fun v M' => (qMI M' ∧ qFm [102, 103, 104] M M') ∧ v = none) := by
                intro M11 hCM11 hWM11
                have e12 : M11 98 4 = M 98 4 := hWM11 98 4 (by decide)
                obtain ⟨x13, hx13⟩ : ∃ x : Int, x = w32 (v6 + 1) := ⟨_, rfl⟩
                have hx13e : x13 = v6 + 1 := by rw [hx13]; exact w32_id (by omega)
                refine zG_blm (c' := (37, [.inr (.inr (some 97)), .inl a1, .inl x13, zN, zN], [])) 2 hd0 hz (by subst hx13; rfl) ?_
                exact ih37 x13 M11 (by omega) (by omega) hCM11 hWM11
              have j131 : zG n (0, 0) d 218 (131, [.inr (.inr (some 97)), .inl a1, .inl v6, zN, zN], []) M7 (fun v M' => (qMI M' ∧ qFm [102, 103, 104] M M') ∧ v = none) := by
                refine zG_blm (c' := (136, [.inr (.inr (some 97)), .inl a1, .inl v6, zN, zN], [.inl v6, .inr (.inr (some 101))])) 3 hd0 hz (by rfl) ?_
                refine zG_bald hd0 hz rfl rfl (.inl rfl) (by omega) ?_
                obtain ⟨x14, hx14⟩ : ∃ x : Int, x = M7 101 (v6 : Int).toNat := ⟨_, rfl⟩
                rw [← hx14]
                have hx14r : x14 = 0 ∨ x14 = 1 := by rw [hx14]; exact hCM7.bl101 _
                show zG n (0, 0) d 218 (137, [.inr (.inr (some 97)), .inl a1, .inl v6, zN, zN], [.inl x14]) M7 _
                refine zG_if_eq hd0 hz rfl (fun hb15 => ?_) (fun hb15 => ?_)
                · exact j172 M7 hCM7 hWM7
                · refine zG_blm (c' := (143, [.inr (.inr (some 97)), .inl a1, .inl v6, zN, zN], [.inl 4, .inl v6, .inr (.inr (some 97))])) 3 hd0 hz (by rfl) ?_
                  refine zG_call hd0 hz zp_194 rfl rfl (Nat.le_of_ble_eq_true rfl) ⟨Nat.le_refl _, Nat.le_refl _⟩ (qx_act4 (by first | exact zdp hd (by decide) | omega) hCM7   v6 (by first | with_reducible exact hv6 | omega) ) (fun vr M16 hr => ?_)
                  obtain ⟨hq, x17, rfl, hx17⟩ := hr
                  replace hq := hq.symm; subst hq
                  show zG n (0, 0) d 218 (146, [.inr (.inr (some 97)), .inl a1, .inl v6, zN, zN], [.inl x17]) M7 _
                  refine zG_blm (c' := (147, [.inr (.inr (some 97)), .inl a1, .inl v6, zN, zN], [.inl a1, .inl x17])) 1 hd0 hz (by rfl) ?_
                  refine zG_icmp_ne hd0 hz rfl (fun hb18 => ?_) (fun hb18 => ?_)
                  · exact j172 M7 hCM7 hWM7
                  · refine zG_blm (c' := (153, [.inr (.inr (some 97)), .inl a1, .inl v6, zN, zN], [.inl 0, .inl v6, .inr (.inr (some 97))])) 3 hd0 hz (by rfl) ?_
                    refine zG_call hd0 hz zp_194 rfl rfl (Nat.le_of_ble_eq_true rfl) ⟨Nat.le_refl _, Nat.le_refl _⟩ (qx_act0 (by first | exact zdp hd (by decide) | omega) hCM7   v6 (by first | with_reducible exact hv6 | omega) 0 (by first | decide | omega) ) (fun vr M19 hr => ?_)
                    obtain ⟨hq, x20, rfl, hx20⟩ := hr
                    replace hq := hq.symm; subst hq
                    show zG n (0, 0) d 218 (156, [.inr (.inr (some 97)), .inl a1, .inl v6, zN, zN], [.inl x20]) M7 _
                    refine zG_blm (c' := (157, [.inr (.inr (some 97)), .inl a1, .inl v6, zN, zN], [.inl 4, .inl x20])) 1 hd0 hz (by rfl) ?_
                    refine zG_icmp_ne hd0 hz rfl (fun hb21 => ?_) (fun hb21 => ?_)
                    · exact j172 M7 hCM7 hWM7
                    · have hrel := hCM7.rel v6 (by first | with_reducible exact hv6 | omega) (by omega)
                      refine zG_blm (c' := (167, [.inr (.inr (some 97)), .inl a1, .inl v6, zN, zN], [.inl 5, .inl v6, .inr (.inr (some 97)), .inr (.inr (some 104))])) 5 hd0 hz (by rfl) ?_
                      refine zG_call hd0 hz zp_194 rfl rfl (Nat.le_of_ble_eq_true rfl) ⟨Nat.le_refl _, Nat.le_refl _⟩ (qx_act5 (by first | exact zdp hd (by decide) | omega) hCM7   v6 (by first | with_reducible exact hv6 | omega) ) (fun vr M22 hr => ?_)
                      obtain ⟨hq, x23, rfl, hx23⟩ := hr
                      replace hq := hq.symm; subst hq
                      show zG n (0, 0) d 218 (170, [.inr (.inr (some 97)), .inl a1, .inl v6, zN, zN], [.inl x23, .inr (.inr (some 104))]) M7 _
                      refine zG_blm (c' := (171, [.inr (.inr (some 97)), .inl a1, .inl v6, zN, zN], [.inl 1, .inl x23, .inr (.inr (some 104))])) 1 hd0 hz (by rfl) ?_
                      refine zG_iast hd0 hz rfl rfl (by omega) ?_
                      obtain ⟨M24, hM24⟩ : ∃ X : zM, X = zput M7 104 (x23 : Int).toNat 1 := ⟨_, rfl⟩
                      rw [← hM24]
                      have hCM24 : qMI M24 := by rw [hM24]; exact hCM7.put (by decide) (qCd_a (by decide) (by decide)) (by first | exact qMC_ar (by decide) (fun _ => by omega) | (refine ⟨fun h => ?_, fun _ => ?_, fun h => ?_, fun h => ?_, fun h => ?_⟩ <;> first | omega | exact absurd h (by decide)))
                      have hWM24 : qFm [102, 103, 104] M M24 := by rw [hM24]; exact hWM7.pa (by decide) (by decide)
                      have e25 : M24 98 4 = M7 98 4 := by rw [hM24]; exact qput_ne (by decide)
                      show zG n (0, 0) d 218 (172, [.inr (.inr (some 97)), .inl a1, .inl v6, zN, zN], []) M24 _
                      exact j172 M24 hCM24 hWM24
              refine zG_if_eq hd0 hz rfl (fun hb26 => ?_) (fun hb26 => ?_)
              · exact j131
              · refine zG_blm (c' := (59, [.inr (.inr (some 97)), .inl a1, .inl v6, zN, zN], [.inl 4, .inl v6, .inr (.inr (some 97))])) 3 hd0 hz (by rfl) ?_
                refine zG_call hd0 hz zp_194 rfl rfl (Nat.le_of_ble_eq_true rfl) ⟨Nat.le_refl _, Nat.le_refl _⟩ (qx_act4 (by first | exact zdp hd (by decide) | omega) hCM7   v6 (by first | with_reducible exact hv6 | omega) ) (fun vr M27 hr => ?_)
                obtain ⟨hq, x28, rfl, hx28⟩ := hr
                replace hq := hq.symm; subst hq
                show zG n (0, 0) d 218 (62, [.inr (.inr (some 97)), .inl a1, .inl v6, zN, zN], [.inl x28]) M7 _
                refine zG_blm (c' := (63, [.inr (.inr (some 97)), .inl a1, .inl v6, zN, zN], [.inl a1, .inl x28])) 1 hd0 hz (by rfl) ?_
                refine zG_icmp_ne hd0 hz rfl (fun hb29 => ?_) (fun hb29 => ?_)
                · exact j131
                · refine zG_blm (c' := (69, [.inr (.inr (some 97)), .inl a1, .inl v6, zN, zN], [.inl 0, .inl v6, .inr (.inr (some 97))])) 3 hd0 hz (by rfl) ?_
                  refine zG_call hd0 hz zp_194 rfl rfl (Nat.le_of_ble_eq_true rfl) ⟨Nat.le_refl _, Nat.le_refl _⟩ (qx_act0 (by first | exact zdp hd (by decide) | omega) hCM7   v6 (by first | with_reducible exact hv6 | omega) 0 (by first | decide | omega) ) (fun vr M30 hr => ?_)
                  obtain ⟨hq, x31, rfl, hx31⟩ := hr
                  replace hq := hq.symm; subst hq
                  show zG n (0, 0) d 218 (72, [.inr (.inr (some 97)), .inl a1, .inl v6, zN, zN], [.inl x31]) M7 _
                  refine zG_if_ne hd0 hz rfl (fun hb32 => ?_) (fun hb32 => ?_)
                  · exact j131
                  · have hrel := hCM7.rel v6 (by first | with_reducible exact hv6 | omega) (by omega)
                    refine zG_blm (c' := (78, [.inr (.inr (some 97)), .inl a1, .inl v6, zN, zN], [.inl 5, .inl v6, .inr (.inr (some 97))])) 3 hd0 hz (by rfl) ?_
                    refine zG_call hd0 hz zp_194 rfl rfl (Nat.le_of_ble_eq_true rfl) ⟨Nat.le_refl _, Nat.le_refl _⟩ (qx_act5 (by first | exact zdp hd (by decide) | omega) hCM7   v6 (by first | with_reducible exact hv6 | omega) ) (fun vr M33 hr => ?_)
                    obtain ⟨hq, x34, rfl, hx34⟩ := hr
                    replace hq := hq.symm; subst hq
                    show zG n (0, 0) d 218 (81, [.inr (.inr (some 97)), .inl a1, .inl v6, zN, zN], [.inl x34]) M7 _
                    refine zG_blm (c' := (85, [.inr (.inr (some 97)), .inl a1, .inl v6, .inl x34, zN], [.inl 4, .inl v6, .inr (.inr (some 97))])) 4 hd0 hz (by rfl) ?_
                    refine zG_call hd0 hz zp_216 rfl rfl (Nat.le_of_ble_eq_true rfl) ⟨Nat.le_refl _, Nat.le_refl _⟩ (qm_216_97 (by first | exact zdp hd (by decide) | omega) hCM7   v6 (by first | with_reducible exact hv6 | omega) 4 (by first | decide | omega) ) (fun vr M35 hr => ?_)
                    obtain ⟨hq, x36, rfl, hx36⟩ := hr
                    replace hq := hq.symm; subst hq
                    show zG n (0, 0) d 218 (88, [.inr (.inr (some 97)), .inl a1, .inl v6, .inl x34, zN], [.inl x36]) M7 _
                    refine zG_blm (c' := (102, [.inr (.inr (some 97)), .inl a1, .inl v6, .inl x34, .inl x36], [.inl x34, .inr (.inr (some 102)), .inl x36, .inl x34, .inr (.inr (some 102))])) 8 hd0 hz (by rfl) ?_
                    refine zG_iald hd0 hz rfl rfl (.inl rfl) (by omega) ?_
                    obtain ⟨x37, hx37⟩ : ∃ x : Int, x = M7 102 (x34 : Int).toNat := ⟨_, rfl⟩
                    rw [← hx37]
                    have hx37r : qin x37 := by rw [hx37]; exact hCM7.ra 102 _ (by decide) (by decide)
                    show zG n (0, 0) d 218 (103, [.inr (.inr (some 97)), .inl a1, .inl v6, .inl x34, .inl x36], [.inl x37, .inl x36, .inl x34, .inr (.inr (some 102))]) M7 _
                    have j117 : ∀ (v38 : Int) , (-2147483648) ≤ v38 ∧ v38 ≤ 2147483647 → zG n (0, 0) d 218 (117, [.inr (.inr (some 97)), .inl a1, .inl v6, .inl x34, .inl x36], [.inl v38, .inl x34, .inr (.inr (some 102))]) M7 (fun v M' => (qMI M' ∧ qFm [102, 103, 104] M M') ∧ v = none) := by
                      intro v38 hv38
                      refine zG_iast hd0 hz rfl rfl (by omega) ?_
                      obtain ⟨M39, hM39⟩ : ∃ X : zM, X = zput M7 102 (x34 : Int).toNat v38 := ⟨_, rfl⟩
                      rw [← hM39]
                      have hCM39 : qMI M39 := by rw [hM39]; exact hCM7.put (by decide) (qCd_a (by decide) (by decide)) (by first | exact qMC_ar (by decide) (fun _ => by omega) | (refine ⟨fun h => ?_, fun _ => ?_, fun h => ?_, fun h => ?_, fun h => ?_⟩ <;> first | omega | exact absurd h (by decide)))
                      have hWM39 : qFm [102, 103, 104] M M39 := by rw [hM39]; exact hWM7.pa (by decide) (by decide)
                      have e40 : M39 98 4 = M7 98 4 := by rw [hM39]; exact qput_ne (by decide)
                      show zG n (0, 0) d 218 (118, [.inr (.inr (some 97)), .inl a1, .inl v6, .inl x34, .inl x36], []) M39 _
                      refine zG_blm (c' := (124, [.inr (.inr (some 97)), .inl a1, .inl v6, .inl x34, .inl x36], [.inl x34, .inr (.inr (some 103)), .inl x34, .inr (.inr (some 103))])) 4 hd0 hz (by rfl) ?_
                      refine zG_iald hd0 hz rfl rfl (.inl rfl) (by omega) ?_
                      obtain ⟨x41, hx41⟩ : ∃ x : Int, x = M39 103 (x34 : Int).toNat := ⟨_, rfl⟩
                      rw [← hx41]
                      have hx41r : qin x41 := by rw [hx41]; exact hCM39.ra 103 _ (by decide) (by decide)
                      show zG n (0, 0) d 218 (125, [.inr (.inr (some 97)), .inl a1, .inl v6, .inl x34, .inl x36], [.inl x41, .inl x34, .inr (.inr (some 103))]) M39 _
                      obtain ⟨x42, hx42⟩ : ∃ x : Int, x = w32 (x41 + 1) := ⟨_, rfl⟩
                      have hx42r : x42 = (x41 + 1 + 2147483648) % 4294967296 - 2147483648 := hx42
                      refine zG_blm (c' := (127, [.inr (.inr (some 97)), .inl a1, .inl v6, .inl x34, .inl x36], [.inl x42, .inl x34, .inr (.inr (some 103))])) 2 hd0 hz (by subst hx42; rfl) ?_
                      refine zG_iast hd0 hz rfl rfl (by omega) ?_
                      obtain ⟨M43, hM43⟩ : ∃ X : zM, X = zput M39 103 (x34 : Int).toNat x42 := ⟨_, rfl⟩
                      rw [← hM43]
                      have hCM43 : qMI M43 := by rw [hM43]; exact hCM39.put (by decide) (qCd_a (by decide) (by decide)) (by first | exact qMC_ar (by decide) (fun _ => by omega) | (refine ⟨fun h => ?_, fun _ => ?_, fun h => ?_, fun h => ?_, fun h => ?_⟩ <;> first | omega | exact absurd h (by decide)))
                      have hWM43 : qFm [102, 103, 104] M M43 := by rw [hM43]; exact hWM39.pa (by decide) (by decide)
                      have e44 : M43 98 4 = M39 98 4 := by rw [hM43]; exact qput_ne (by decide)
                      show zG n (0, 0) d 218 (128, [.inr (.inr (some 97)), .inl a1, .inl v6, .inl x34, .inl x36], []) M43 _
                      refine zG_blm (c' := (172, [.inr (.inr (some 97)), .inl a1, .inl v6, .inl x34, .inl x36], [])) 1 hd0 hz (by rfl) ?_
                      exact zG_weak (j172 M43 hCM43 hWM43) ⟨.inr rfl, .inr rfl, .inr rfl, .inl rfl, .inl rfl, trivial⟩
                    refine zG_icmp_le hd0 hz rfl (fun hb45 => ?_) (fun hb45 => ?_)
                    · refine zG_blm (c' := (116, [.inr (.inr (some 97)), .inl a1, .inl v6, .inl x34, .inl x36], [.inl x34, .inr (.inr (some 102)), .inl x34, .inr (.inr (some 102))])) 3 hd0 hz (by rfl) ?_
                      refine zG_iald hd0 hz rfl rfl (.inl rfl) (by omega) ?_
                      obtain ⟨x46, hx46⟩ : ∃ x : Int, x = M7 102 (x34 : Int).toNat := ⟨_, rfl⟩
                      rw [← hx46]
                      have hx46r : qin x46 := by rw [hx46]; exact hCM7.ra 102 _ (by decide) (by decide)
                      show zG n (0, 0) d 218 (117, [.inr (.inr (some 97)), .inl a1, .inl v6, .inl x34, .inl x36], [.inl x46, .inl x34, .inr (.inr (some 102))]) M7 _
                      exact j117 x46 (by omega)
                    · refine zG_blm (c' := (117, [.inr (.inr (some 97)), .inl a1, .inl v6, .inl x34, .inl x36], [.inl x36, .inl x34, .inr (.inr (some 102))])) 2 hd0 hz (by rfl) ?_
                      exact j117 x36 (by omega)
        exact j37 ((250 - 0 : Int).toNat + 1) 0 M3 (by omega) (by omega) hCM3 hWM3
      · refine zG_blm (c' := (14, [.inr (.inr (some 97)), .inl a1, .inl v2, zN, zN], [.inl (-1), .inl v2, .inr (.inr (some 102))])) 4 hd0 hz (by rfl) ?_
        refine zG_iast hd0 hz rfl rfl (by omega) ?_
        obtain ⟨M47, hM47⟩ : ∃ X : zM, X = zput M3 102 (v2 : Int).toNat (-1) := ⟨_, rfl⟩
        rw [← hM47]
        have hCM47 : qMI M47 := by rw [hM47]; exact hCM3.put (by decide) (qCd_a (by decide) (by decide)) (by first | exact qMC_ar (by decide) (fun _ => by omega) | (refine ⟨fun h => ?_, fun _ => ?_, fun h => ?_, fun h => ?_, fun h => ?_⟩ <;> first | omega | exact absurd h (by decide)))
        have hWM47 : qFm [102, 103, 104] M M47 := by rw [hM47]; exact hWM3.pa (by decide) (by decide)
        have e48 : M47 98 4 = M3 98 4 := by rw [hM47]; exact qput_ne (by decide)
        show zG n (0, 0) d 218 (15, [.inr (.inr (some 97)), .inl a1, .inl v2, zN, zN], []) M47 _
        refine zG_blm (c' := (21, [.inr (.inr (some 97)), .inl a1, .inl v2, zN, zN], [.inl 0, .inl v2, .inr (.inr (some 103))])) 4 hd0 hz (by rfl) ?_
        refine zG_iast hd0 hz rfl rfl (by omega) ?_
        obtain ⟨M49, hM49⟩ : ∃ X : zM, X = zput M47 103 (v2 : Int).toNat 0 := ⟨_, rfl⟩
        rw [← hM49]
        have hCM49 : qMI M49 := by rw [hM49]; exact hCM47.put (by decide) (qCd_a (by decide) (by decide)) (by first | exact qMC_ar (by decide) (fun _ => by omega) | (refine ⟨fun h => ?_, fun _ => ?_, fun h => ?_, fun h => ?_, fun h => ?_⟩ <;> first | omega | exact absurd h (by decide)))
        have hWM49 : qFm [102, 103, 104] M M49 := by rw [hM49]; exact hWM47.pa (by decide) (by decide)
        have e50 : M49 98 4 = M47 98 4 := by rw [hM49]; exact qput_ne (by decide)
        show zG n (0, 0) d 218 (22, [.inr (.inr (some 97)), .inl a1, .inl v2, zN, zN], []) M49 _
        refine zG_blm (c' := (28, [.inr (.inr (some 97)), .inl a1, .inl v2, zN, zN], [.inl 0, .inl v2, .inr (.inr (some 104))])) 4 hd0 hz (by rfl) ?_
        refine zG_iast hd0 hz rfl rfl (by omega) ?_
        obtain ⟨M51, hM51⟩ : ∃ X : zM, X = zput M49 104 (v2 : Int).toNat 0 := ⟨_, rfl⟩
        rw [← hM51]
        have hCM51 : qMI M51 := by rw [hM51]; exact hCM49.put (by decide) (qCd_a (by decide) (by decide)) (by first | exact qMC_ar (by decide) (fun _ => by omega) | (refine ⟨fun h => ?_, fun _ => ?_, fun h => ?_, fun h => ?_, fun h => ?_⟩ <;> first | omega | exact absurd h (by decide)))
        have hWM51 : qFm [102, 103, 104] M M51 := by rw [hM51]; exact hWM49.pa (by decide) (by decide)
        have e52 : M51 98 4 = M49 98 4 := by rw [hM51]; exact qput_ne (by decide)
        show zG n (0, 0) d 218 (29, [.inr (.inr (some 97)), .inl a1, .inl v2, zN, zN], []) M51 _
        obtain ⟨x53, hx53⟩ : ∃ x : Int, x = w32 (v2 + 1) := ⟨_, rfl⟩
        have hx53e : x53 = v2 + 1 := by rw [hx53]; exact w32_id (by omega)
        refine zG_blm (c' := (2, [.inr (.inr (some 97)), .inl a1, .inl x53, zN, zN], [])) 2 hd0 hz (by subst hx53; rfl) ?_
        exact ih2 x53 M51 (by omega) (by omega) hCM51 hWM51
  exact j2 ((14 - 0 : Int).toNat + 1) 0 M (by omega) (by omega) hC hW
theorem qm_219_97 {n d : Nat} {M : zM} (hd : 5 ≤ d) (hC : qMI M)  (a1 : Int) (ha1 : (-2147483648) ≤ a1 ∧ a1 ≤ 2147483647) (a2 : Int) (ha2 : (-2147483648) ≤ a2 ∧ a2 ≤ 2147483647) (a3 : Int) (ha3 : (-2147483648) ≤ a3 ∧ a3 ≤ 2147483647) (a4 : Int) (ha4 : (-2147483648) ≤ a4 ∧ a4 ≤ 2147483647) : qOkN n d 219 [.inr (.inr (some 97)), .inl a1, .inl a2, .inl a3, .inl a4] 5 [101, 102, 103, 104] M (fun v M' => ∃ x : Int, v = some (.inl x) ∧ ((-2147483648) ≤ x ∧ x ≤ 2147483647)) := by
  have hz := zp_219
  have hd0 : 0 < d := by omega
  have hW : qFm [101, 102, 103, 104] M M := qFm.rfl
  have r1 := hC.cnt1
  have r2 := hC.cnt0
  show zG n (0, 0) d 219 (0, [.inr (.inr (some 97)), .inl a1, .inl a2, .inl a3, .inl a4], []) M _
  refine zG_blm (c' := (3, [.inr (.inr (some 97)), .inl a1, .inl a2, .inl a3, .inl a4], [.inl a1, .inl 1, .inr (.inr (some 97))])) 3 hd0 hz (by rfl) ?_
  refine zG_call hd0 hz zp_182 rfl rfl (Nat.le_of_ble_eq_true rfl) ⟨Nat.le_refl _, Nat.le_refl _⟩ (qx_is (by first | exact zdp hd (by decide) | omega) hC   1 (by first | decide | omega) a1 (by first | with_reducible exact ha1 | omega) ) (fun vr M3 hr => ?_)
  obtain ⟨hq, x4, rfl, hx4⟩ := hr
  replace hq := hq.symm; subst hq
  show zG n (0, 0) d 219 (6, [.inr (.inr (some 97)), .inl a1, .inl a2, .inl a3, .inl a4], [.inl x4]) M _
  have j35 : zG n (0, 0) d 219 (35, [.inr (.inr (some 97)), .inl a1, .inl a2, .inl a3, .inl a4], []) M (fun v M' => (qMI M' ∧ qFm [101, 102, 103, 104] M M') ∧ ∃ x : Int, v = some (.inl x) ∧ ((-2147483648) ≤ x ∧ x ≤ 2147483647)) := by
    refine zG_blm (c' := (37, [.inr (.inr (some 97)), .inl a1, .inl a2, .inl a3, .inl a4], [.inl (-2)])) 1 hd0 hz (by rfl) ?_
    exact zG_ret hd0 hz rfl rfl ⟨⟨hC, hW⟩, _, rfl, by omega⟩
  refine zG_if_eq hd0 hz rfl (fun hb5 => ?_) (fun hb5 => ?_)
  · exact j35
  · have hcx4 := hx4.2.2.mp (by omega)
    clear hx4 hb5
    refine zG_blm (c' := (12, [.inr (.inr (some 97)), .inl a1, .inl a2, .inl a3, .inl a4], [.inl a2, .inl 0, .inr (.inr (some 97))])) 3 hd0 hz (by rfl) ?_
    refine zG_call hd0 hz zp_182 rfl rfl (Nat.le_of_ble_eq_true rfl) ⟨Nat.le_refl _, Nat.le_refl _⟩ (qx_is (by first | exact zdp hd (by decide) | omega) hC   0 (by first | decide | omega) a2 (by first | with_reducible exact ha2 | omega) ) (fun vr M6 hr => ?_)
    obtain ⟨hq, x7, rfl, hx7⟩ := hr
    replace hq := hq.symm; subst hq
    show zG n (0, 0) d 219 (15, [.inr (.inr (some 97)), .inl a1, .inl a2, .inl a3, .inl a4], [.inl x7]) M _
    refine zG_if_eq hd0 hz rfl (fun hb8 => ?_) (fun hb8 => ?_)
    · exact j35
    · have hcx7 := hx7.2.2.mp (by omega)
      clear hx7 hb8
      refine zG_blm (c' := (19, [.inr (.inr (some 97)), .inl a1, .inl a2, .inl a3, .inl a4], [.inl a3])) 1 hd0 hz (by rfl) ?_
      refine zG_call hd0 hz zp_184 rfl rfl (Nat.le_of_ble_eq_true rfl) ⟨Nat.le_refl _, Nat.le_refl _⟩ (qm_184 (by first | exact zdp hd (by decide) | omega) hC   a3 (by first | with_reducible exact ha3 | omega) ) (fun vr M9 hr => ?_)
      obtain ⟨hq, x10, rfl, hx10, hpx10_0⟩ := hr
      replace hq := hq.symm; subst hq
      show zG n (0, 0) d 219 (22, [.inr (.inr (some 97)), .inl a1, .inl a2, .inl a3, .inl a4], [.inl x10]) M _
      refine zG_if_eq hd0 hz rfl (fun hb11 => ?_) (fun hb11 => ?_)
      · exact j35
      · have hcx10 := hpx10_0.mp (by omega)
        clear hx10 hpx10_0 hb11
        refine zG_blm (c' := (29, [.inr (.inr (some 97)), .inl a1, .inl a2, .inl a3, .inl a4], [.inl 2, .inl 0, .inl a4])) 3 hd0 hz (by rfl) ?_
        refine zG_call hd0 hz zp_180 rfl rfl (Nat.le_of_ble_eq_true rfl) ⟨Nat.le_refl _, Nat.le_refl _⟩ (qx_in (by first | exact zdp hd (by decide) | omega) hC   a4 (by first | with_reducible exact ha4 | omega) 0 (by first | decide | omega) 2 (by first | decide | omega) ) (fun vr M12 hr => ?_)
        obtain ⟨hq, x13, rfl, hx13⟩ := hr
        replace hq := hq.symm; subst hq
        show zG n (0, 0) d 219 (32, [.inr (.inr (some 97)), .inl a1, .inl a2, .inl a3, .inl a4], [.inl x13]) M _
        refine zG_if_ne hd0 hz rfl (fun hb14 => ?_) (fun hb14 => ?_)
        · have hcx13 := hx13.2.2.mp (by omega)
          clear hx13 hb14
          refine zG_blm (c' := (40, [.inr (.inr (some 97)), .inl a1, .inl a2, .inl a3, .inl a4], [.inl a3, .inr (.inr (some 97))])) 2 hd0 hz (by rfl) ?_
          refine zG_call hd0 hz zp_211 rfl rfl (Nat.le_of_ble_eq_true rfl) ⟨Nat.le_refl _, Nat.le_refl _⟩ (qm_211_97 (by first | exact zdp hd (by decide) | omega) hC   a3 (by first | with_reducible exact ha3 | omega) ) (fun vr M15 hr => ?_)
          obtain ⟨⟨hCM15, hFM15⟩, rfl⟩ := hr
          have hWM15 : qFm [101, 102, 103, 104] M M15 := hW.tr hFM15 (by decide)
          have e17 : M15 98 1 = M 98 1 := hFM15 98 1 (by decide)
          have e18 : M15 98 0 = M 98 0 := hFM15 98 0 (by decide)
          show zG n (0, 0) d 219 (43, [.inr (.inr (some 97)), .inl a1, .inl a2, .inl a3, .inl a4], []) M15 _
          refine zG_blm (c' := (45, [.inr (.inr (some 97)), .inl a1, .inl a2, .inl a3, .inl a4], [.inl a1, .inr (.inr (some 97))])) 2 hd0 hz (by rfl) ?_
          refine zG_call hd0 hz zp_218 rfl rfl (Nat.le_of_ble_eq_true rfl) ⟨Nat.le_refl _, Nat.le_refl _⟩ (qm_218_97 (by first | exact zdp hd (by decide) | omega) hCM15   a1 (by first | with_reducible exact ha1 | omega) ) (fun vr M19 hr => ?_)
          obtain ⟨⟨hCM19, hFM19⟩, rfl⟩ := hr
          have hWM19 : qFm [101, 102, 103, 104] M M19 := hWM15.tr hFM19 (by decide)
          have e21 : M19 98 1 = M15 98 1 := hFM19 98 1 (by decide)
          have e22 : M19 98 0 = M15 98 0 := hFM19 98 0 (by decide)
          show zG n (0, 0) d 219 (48, [.inr (.inr (some 97)), .inl a1, .inl a2, .inl a3, .inl a4], []) M19 _
          refine zG_blm (c' := (50, [.inr (.inr (some 97)), .inl a1, .inl a2, .inl a3, .inl a4], [.inl a4])) 1 hd0 hz (by rfl) ?_
          have j83 : ∀ (v23 : Int) , (-2147483648) ≤ v23 ∧ v23 ≤ 2147483647 → zG n (0, 0) d 219 (83, [.inr (.inr (some 97)), .inl a1, .inl a2, .inl a3, .inl a4], [.inl v23]) M19 (fun v M' => (qMI M' ∧ qFm [101, 102, 103, 104] M M') ∧ ∃ x : Int, v = some (.inl x) ∧ ((-2147483648) ≤ x ∧ x ≤ 2147483647)) := by
            intro v23 hv23
            exact zG_ret hd0 hz rfl rfl ⟨⟨hCM19, hWM19⟩, _, rfl, by omega⟩
          refine zG_if_ne hd0 hz rfl (fun hb24 => ?_) (fun hb24 => ?_)
          · refine zG_blm (c' := (65, [.inr (.inr (some 97)), .inl a1, .inl a2, .inl a3, .inl a4], [.inl 1, .inl a4])) 2 hd0 hz (by rfl) ?_
            refine zG_icmp_ne hd0 hz rfl (fun hb25 => ?_) (fun hb25 => ?_)
            · refine zG_blm (c' := (82, [.inr (.inr (some 97)), .inl a1, .inl a2, .inl a3, .inl a4], [.inl a2, .inr (.inr (some 104))])) 3 hd0 hz (by rfl) ?_
              refine zG_iald hd0 hz rfl rfl (.inl rfl) (by omega) ?_
              obtain ⟨x26, hx26⟩ : ∃ x : Int, x = M19 104 (a2 : Int).toNat := ⟨_, rfl⟩
              rw [← hx26]
              have hx26r : qin x26 := by rw [hx26]; exact hCM19.ra 104 _ (by decide) (by decide)
              show zG n (0, 0) d 219 (83, [.inr (.inr (some 97)), .inl a1, .inl a2, .inl a3, .inl a4], [.inl x26]) M19 _
              exact j83 x26 (by omega)
            · refine zG_blm (c' := (73, [.inr (.inr (some 97)), .inl a1, .inl a2, .inl a3, .inl a4], [.inl a2, .inr (.inr (some 103))])) 3 hd0 hz (by rfl) ?_
              refine zG_iald hd0 hz rfl rfl (.inl rfl) (by omega) ?_
              obtain ⟨x27, hx27⟩ : ∃ x : Int, x = M19 103 (a2 : Int).toNat := ⟨_, rfl⟩
              rw [← hx27]
              have hx27r : qin x27 := by rw [hx27]; exact hCM19.ra 103 _ (by decide) (by decide)
              show zG n (0, 0) d 219 (74, [.inr (.inr (some 97)), .inl a1, .inl a2, .inl a3, .inl a4], [.inl x27]) M19 _
              refine zG_blm (c' := (83, [.inr (.inr (some 97)), .inl a1, .inl a2, .inl a3, .inl a4], [.inl x27])) 1 hd0 hz (by rfl) ?_
              exact j83 x27 (by omega)
          · refine zG_blm (c' := (58, [.inr (.inr (some 97)), .inl a1, .inl a2, .inl a3, .inl a4], [.inl a2, .inr (.inr (some 102))])) 3 hd0 hz (by rfl) ?_
            refine zG_iald hd0 hz rfl rfl (.inl rfl) (by omega) ?_
            obtain ⟨x28, hx28⟩ : ∃ x : Int, x = M19 102 (a2 : Int).toNat := ⟨_, rfl⟩
            rw [← hx28]
            have hx28r : qin x28 := by rw [hx28]; exact hCM19.ra 102 _ (by decide) (by decide)
            show zG n (0, 0) d 219 (59, [.inr (.inr (some 97)), .inl a1, .inl a2, .inl a3, .inl a4], [.inl x28]) M19 _
            refine zG_blm (c' := (83, [.inr (.inr (some 97)), .inl a1, .inl a2, .inl a3, .inl a4], [.inl x28])) 1 hd0 hz (by rfl) ?_
            exact j83 x28 (by omega)
        · exact j35
