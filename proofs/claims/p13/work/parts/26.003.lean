theorem qm_192_97 {n d : Nat} {M : zM} (hd : 2 ≤ d) (hC : qMI M)  (a1 : Int) (ha1 : 0 ≤ a1 ∧ a1 ≤ 39) : qOkP n d 192 [.inr (.inr (some 97)), .inl a1] 4 M (fun v => ∃ x : Int, v = some (.inl x) ∧ (0 ≤ x ∧ x ≤ 1) ∧ (x = qStN M a1)) := by
  have hz := zp_192
  have hd0 : 0 < d := by omega
  show zG n (0, 0) d 192 (0, [.inr (.inr (some 97)), .inl a1, zN, zN], []) M _
  obtain ⟨x1, hx1⟩ : ∃ x : Int, x = w32 (5 * a1) := ⟨_, rfl⟩
  have hx1e : x1 = 5 * a1 := by rw [hx1]; exact w32_id (by omega)
  obtain ⟨x2, hx2⟩ : ∃ x : Int, x = w32 (150 + x1) := ⟨_, rfl⟩
  have hx2e : x2 = 150 + x1 := by rw [hx2]; exact w32_id (by omega)
  refine zG_blk (c' := (21, [.inr (.inr (some 97)), .inl a1, .inl x2, zN], [.inl x2, .inr (.inr (some 98)), .inl 2, .inl 140, .inr (.inr (some 98))])) 13 hd0 hz (by subst hx2; subst hx1; rfl) ?_
  refine zG_iald hd0 hz rfl rfl (.inl rfl) (by omega) ?_
  obtain ⟨x3, hx3⟩ : ∃ x : Int, x = M 98 (x2 : Int).toNat := ⟨_, rfl⟩
  rw [← hx3]
  have hx3r : 0 ≤ x3 ∧ x3 ≤ 3 := by rw [hx3]; exact hC.brd a1 _ (by omega) (by omega)
  have hbo : x3 = qMt M a1 0 := by unfold qMt; rw [hx3, show x2 = 150 + 5 * a1 + 0 by omega]
  show zG n (0, 0) d 192 (22, [.inr (.inr (some 97)), .inl a1, .inl x2, zN], [.inl x3, .inl 2, .inl 140, .inr (.inr (some 98))]) M _
  obtain ⟨x4, hx4⟩ : ∃ x : Int, x = w32 (2 * x3) := ⟨_, rfl⟩
  have hx4e : x4 = 2 * x3 := by rw [hx4]; exact w32_id (by omega)
  obtain ⟨x5, hx5⟩ : ∃ x : Int, x = w32 (140 + x4) := ⟨_, rfl⟩
  have hx5e : x5 = 140 + x4 := by rw [hx5]; exact w32_id (by omega)
  refine zG_blk (c' := (24, [.inr (.inr (some 97)), .inl a1, .inl x2, zN], [.inl x5, .inr (.inr (some 98))])) 2 hd0 hz (by subst hx5; subst hx4; rfl) ?_
  refine zG_iald hd0 hz rfl rfl (.inl rfl) (by omega) ?_
  obtain ⟨x6, hx6⟩ : ∃ x : Int, x = M 98 (x5 : Int).toNat := ⟨_, rfl⟩
  rw [← hx6]
  have hx6r : qin x6 := by rw [hx6]; exact hC.sin _
  have hse : x6 = qSeats M a1 := by unfold qSeats; rw [hx6, show x5 = 140 + 2 * qMt M a1 0 by omega]
  show zG n (0, 0) d 192 (25, [.inr (.inr (some 97)), .inl a1, .inl x2, zN], [.inl x6]) M _
  obtain ⟨x7, hx7⟩ : ∃ x : Int, x = w32 (x2 + 4) := ⟨_, rfl⟩
  have hx7e : x7 = x2 + 4 := by rw [hx7]; exact w32_id (by omega)
  refine zG_blk (c' := (33, [.inr (.inr (some 97)), .inl a1, .inl x2, .inl x6], [.inl x7, .inr (.inr (some 98))])) 6 hd0 hz (by subst hx7; rfl) ?_
  refine zG_iald hd0 hz rfl rfl (.inl rfl) (by omega) ?_
  obtain ⟨x8, hx8⟩ : ∃ x : Int, x = M 98 (x7 : Int).toNat := ⟨_, rfl⟩
  rw [← hx8]
  have hx8r : qin x8 := by rw [hx8]; exact hC.sin _
  have hv4 : x8 = qMt M a1 4 := by unfold qMt; rw [hx8, show x7 = 150 + 5 * a1 + 4 by omega]
  have hs0 : x8 ≠ 0 → qStN M a1 = 0 := fun h9 => qStN_v (by omega)
  show zG n (0, 0) d 192 (34, [.inr (.inr (some 97)), .inl a1, .inl x2, .inl x6], [.inl x8]) M _
  have j91 : ∀ (v9 : Int) , 0 ≤ v9 ∧ v9 ≤ 1 → (v9 = qStN M a1) → zG n (0, 0) d 192 (91, [.inr (.inr (some 97)), .inl a1, .inl x2, .inl x6], [.inl v9]) M (fun v M' => M' = M ∧ ∃ x : Int, v = some (.inl x) ∧ (0 ≤ x ∧ x ≤ 1) ∧ (x = qStN M a1)) := by
    intro v9 hv9 hx0_91
    exact zG_zret hd0 hz rfl (by omega) ⟨rfl, _, rfl, by omega, by omega⟩
  have j90 : (qStN M a1 = 0) → zG n (0, 0) d 192 (90, [.inr (.inr (some 97)), .inl a1, .inl x2, .inl x6], []) M (fun v M' => M' = M ∧ ∃ x : Int, v = some (.inl x) ∧ (0 ≤ x ∧ x ≤ 1) ∧ (x = qStN M a1)) := by
    intro hx0_90
    refine zG_blk (c' := (91, [.inr (.inr (some 97)), .inl a1, .inl x2, .inl x6], [.inl 0])) 1 hd0 hz (by rfl) ?_
    exact j91 0 (by first | decide | omega) (by omega)
  refine zG_if_ne hd0 hz rfl (fun hb10 => ?_) (fun hb10 => ?_)
  · exact j90 (by omega)
  · obtain ⟨x11, hx11⟩ : ∃ x : Int, x = w32 (x2 + 2) := ⟨_, rfl⟩
    have hx11e : x11 = x2 + 2 := by rw [hx11]; exact w32_id (by omega)
    refine zG_blk (c' := (44, [.inr (.inr (some 97)), .inl a1, .inl x2, .inl x6], [.inl x11, .inr (.inr (some 98))])) 5 hd0 hz (by subst hx11; rfl) ?_
    refine zG_iald hd0 hz rfl rfl (.inl rfl) (by omega) ?_
    obtain ⟨x12, hx12⟩ : ∃ x : Int, x = M 98 (x11 : Int).toNat := ⟨_, rfl⟩
    rw [← hx12]
    have hx12r : qin x12 := by rw [hx12]; exact hC.sin _
    have hv2 : x12 = qMt M a1 2 := by unfold qMt; rw [hx12, show x11 = 150 + 5 * a1 + 2 by omega]
    show zG n (0, 0) d 192 (45, [.inr (.inr (some 97)), .inl a1, .inl x2, .inl x6], [.inl x12]) M _
    obtain ⟨x13, hx13⟩ : ∃ x : Int, x = zband x12 x6 := ⟨_, rfl⟩
    have hx13r : qin x13 := by rw [hx13]; exact qb32 _
    have hs1 : x13 ≠ x6 → qStN M a1 = 0 := fun h9 => qStN_c (by rw [← hv2, ← hse, ← hx13]; exact h9)
    have hs1e : x13 = x6 → zband (qMt M a1 2) (qSeats M a1) = qSeats M a1 := fun h9 => by rw [← hv2, ← hse, ← hx13]; exact h9
    refine zG_blk (c' := (48, [.inr (.inr (some 97)), .inl a1, .inl x2, .inl x6], [.inl x6, .inl x13])) 3 hd0 hz (by subst hx13; rfl) ?_
    refine zG_icmp_ne hd0 hz rfl (fun hb14 => ?_) (fun hb14 => ?_)
    · exact j90 (by omega)
    · obtain ⟨x15, hx15⟩ : ∃ x : Int, x = w32 (x2 + 3) := ⟨_, rfl⟩
      have hx15e : x15 = x2 + 3 := by rw [hx15]; exact w32_id (by omega)
      refine zG_blk (c' := (58, [.inr (.inr (some 97)), .inl a1, .inl x2, .inl x6], [.inl x15, .inr (.inr (some 98))])) 5 hd0 hz (by subst hx15; rfl) ?_
      refine zG_iald hd0 hz rfl rfl (.inl rfl) (by omega) ?_
      obtain ⟨x16, hx16⟩ : ∃ x : Int, x = M 98 (x15 : Int).toNat := ⟨_, rfl⟩
      rw [← hx16]
      have hx16r : qin x16 := by rw [hx16]; exact hC.sin _
      have hv3 : x16 = qMt M a1 3 := by unfold qMt; rw [hx16, show x15 = 150 + 5 * a1 + 3 by omega]
      show zG n (0, 0) d 192 (59, [.inr (.inr (some 97)), .inl a1, .inl x2, .inl x6], [.inl x16]) M _
      obtain ⟨x17, hx17⟩ : ∃ x : Int, x = zband x16 x6 := ⟨_, rfl⟩
      have hx17r : qin x17 := by rw [hx17]; exact qb32 _
      have hnd : x17 = zband (qMt M a1 3) (qSeats M a1) := by rw [hx17, ← hv3, ← hse]
      refine zG_blk (c' := (61, [.inr (.inr (some 97)), .inl a1, .inl x2, .inl x6], [.inl x17])) 2 hd0 hz (by subst hx17; rfl) ?_
      refine zG_call hd0 hz zp_186 rfl rfl (Nat.le_of_ble_eq_true rfl) ⟨Nat.le_refl _, Nat.le_refl _⟩ (qx_sizeOf (by first | exact zdp hd (by decide) | omega) hC   x17 (by omega) ) (fun vr M18 hr => ?_)
      obtain ⟨hq, x19, rfl, hx19⟩ := hr
      replace hq := hq.symm; subst hq
      have hsz := hx19.2.2
      rw [hnd] at hsz
      show zG n (0, 0) d 192 (64, [.inr (.inr (some 97)), .inl a1, .inl x2, .inl x6], [.inl x19]) M _
      refine zG_blk (c' := (77, [.inr (.inr (some 97)), .inl a1, .inl x2, .inl x6], [.inl x2, .inr (.inr (some 98)), .inl 2, .inl 140, .inr (.inr (some 98)), .inl x19])) 7 hd0 hz (by rfl) ?_
      refine zG_iald hd0 hz rfl rfl (.inl rfl) (by omega) ?_
      obtain ⟨x20, hx20⟩ : ∃ x : Int, x = M 98 (x2 : Int).toNat := ⟨_, rfl⟩
      rw [← hx20]
      have hx20r : 0 ≤ x20 ∧ x20 ≤ 3 := by rw [hx20]; exact hC.brd a1 _ (by omega) (by omega)
      have hbo2 : x20 = qMt M a1 0 := by unfold qMt; rw [hx20, show x2 = 150 + 5 * a1 + 0 by omega]
      show zG n (0, 0) d 192 (78, [.inr (.inr (some 97)), .inl a1, .inl x2, .inl x6], [.inl x20, .inl 2, .inl 140, .inr (.inr (some 98)), .inl x19]) M _
      obtain ⟨x21, hx21⟩ : ∃ x : Int, x = w32 (2 * x20) := ⟨_, rfl⟩
      have hx21e : x21 = 2 * x20 := by rw [hx21]; exact w32_id (by omega)
      obtain ⟨x22, hx22⟩ : ∃ x : Int, x = w32 (140 + x21) := ⟨_, rfl⟩
      have hx22e : x22 = 140 + x21 := by rw [hx22]; exact w32_id (by omega)
      obtain ⟨x23, hx23⟩ : ∃ x : Int, x = w32 (x22 + 1) := ⟨_, rfl⟩
      have hx23e : x23 = x22 + 1 := by rw [hx23]; exact w32_id (by omega)
      refine zG_blk (c' := (82, [.inr (.inr (some 97)), .inl a1, .inl x2, .inl x6], [.inl x23, .inr (.inr (some 98)), .inl x19])) 4 hd0 hz (by subst hx23; subst hx22; subst hx21; rfl) ?_
      refine zG_iald hd0 hz rfl rfl (.inl rfl) (by omega) ?_
      obtain ⟨x24, hx24⟩ : ∃ x : Int, x = M 98 (x23 : Int).toNat := ⟨_, rfl⟩
      rw [← hx24]
      have hx24r : qin x24 := by rw [hx24]; exact hC.sin _
      have hqu : x24 = qQuor M a1 := by unfold qQuor; rw [hx24, show x23 = 140 + 2 * qMt M a1 0 + 1 by omega]
      have hs2 : x19 < x24 → qStN M a1 = 0 := fun h9 => qStN_q (by omega)
      have hs3 : x24 ≤ x19 → qStN M a1 = 1 := fun h9 => qStN_1 (by omega) (hs1e (by omega)) (by omega)
      show zG n (0, 0) d 192 (83, [.inr (.inr (some 97)), .inl a1, .inl x2, .inl x6], [.inl x24, .inl x19]) M _
      refine zG_icmp_lt hd0 hz rfl (fun hb25 => ?_) (fun hb25 => ?_)
      · exact j90 (by omega)
      · refine zG_blk (c' := (91, [.inr (.inr (some 97)), .inl a1, .inl x2, .inl x6], [.inl 1])) 2 hd0 hz (by rfl) ?_
        exact j91 1 (by first | decide | omega) (by omega)
