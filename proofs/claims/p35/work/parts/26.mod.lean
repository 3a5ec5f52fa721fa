/-! THE MODEL'S METHODS, BY PROGRAM -/
theorem qm_184 {n d : Nat} {M : zM} (hd : 2 ≤ d) (hC : qMI M)  (a0 : Int) (ha0 : (-2147483648) ≤ a0 ∧ a0 ≤ 2147483647) : qOkP n d 184 [.inl a0] 1 M (fun v => ∃ x : Int, v = some (.inl x) ∧ (0 ≤ x ∧ x ≤ 1) ∧ (x = 1 ↔ 0 ≤ a0 ∧ a0 ≤ 9999)) := by
  have hz := zp_184
  have hd0 : 0 < d := by omega
  show zG n (0, 0) d 184 (0, [.inl a0], []) M _
  refine zG_wp (pc := 8) (L := [.inl a0]) (st := []) 3 hd0 hz zp_180 (qx_in (by first | exact zdk hd rfl | omega) hC   a0 (by first | with_reducible exact ha0 | omega) 0 (by first | decide | omega) 9999 (by first | decide | omega) ) (by rfl) (fun x2 hx2 => ?_)
  exact zG_zret hd0 hz rfl (by omega) ⟨rfl, _, rfl, by omega, by omega⟩
theorem qm_185 {n d : Nat} {M : zM} (hd : 2 ≤ d) (hC : qMI M)  (a0 : Int) (ha0 : (-2147483648) ≤ a0 ∧ a0 ≤ 2147483647) : qOkP n d 185 [.inl a0] 1 M (fun v => ∃ x : Int, v = some (.inl x) ∧ (0 ≤ x ∧ x ≤ 1) ∧ (x = 1 ↔ 0 ≤ a0 ∧ a0 ≤ 100)) := by
  have hz := zp_185
  have hd0 : 0 < d := by omega
  show zG n (0, 0) d 185 (0, [.inl a0], []) M _
  refine zG_wp (pc := 7) (L := [.inl a0]) (st := []) 3 hd0 hz zp_180 (qx_in (by first | exact zdk hd rfl | omega) hC   a0 (by first | with_reducible exact ha0 | omega) 0 (by first | decide | omega) 100 (by first | decide | omega) ) (by rfl) (fun x2 hx2 => ?_)
  exact zG_zret hd0 hz rfl (by omega) ⟨rfl, _, rfl, by omega, by omega⟩
theorem qm_252 {n d : Nat} {M : zM} (hd : 2 ≤ d) (hC : qMI M)  (a0 : Int) (ha0 : (-2147483648) ≤ a0 ∧ a0 ≤ 2147483647) : qOkP n d 252 [.inl a0] 1 M (fun v => ∃ x : Int, v = some (.inl x) ∧ (0 ≤ x ∧ x ≤ 1) ∧ (x = 1 ↔ 0 ≤ a0 ∧ a0 ≤ 7)) := by
  have hz := zp_252
  have hd0 : 0 < d := by omega
  show zG n (0, 0) d 252 (0, [.inl a0], []) M _
  refine zG_wp (pc := 7) (L := [.inl a0]) (st := []) 3 hd0 hz zp_180 (qx_in (by first | exact zdk hd rfl | omega) hC   a0 (by first | with_reducible exact ha0 | omega) 0 (by first | decide | omega) 7 (by first | decide | omega) ) (by rfl) (fun x2 hx2 => ?_)
  exact zG_zret hd0 hz rfl (by omega) ⟨rfl, _, rfl, by omega, by omega⟩
theorem qm_192_97 {n d : Nat} {M : zM} (hd : 2 ≤ d) (hC : qMI M)  (a1 : Int) (ha1 : 0 ≤ a1 ∧ a1 ≤ 39) : qOkP n d 192 [.inr (.inr (some 97)), .inl a1] 4 M (fun v => ∃ x : Int, v = some (.inl x) ∧ (0 ≤ x ∧ x ≤ 1) ∧ (x = qStN M a1)) := by
  have hz := zp_192
  have hd0 : 0 < d := by omega
  show zG n (0, 0) d 192 (0, [.inr (.inr (some 97)), .inl a1, zN, zN], []) M _
  obtain ⟨x1, hx1⟩ : ∃ x : Int, x = w32 (5 * a1) := ⟨_, rfl⟩
  have hx1e : x1 = 5 * a1 := by rw [hx1]; exact w32_id (by omega)
  obtain ⟨x2, hx2⟩ : ∃ x : Int, x = w32 (150 + x1) := ⟨_, rfl⟩
  have hx2e : x2 = 150 + x1 := by rw [hx2]; exact w32_id (by omega)
  refine zG_w (c' := (21, [.inr (.inr (some 97)), .inl a1, .inl x2, zN], [.inl x2, .inr (.inr (some 98)), .inl 2, .inl 140, .inr (.inr (some 98))])) 13 hd0 hz (by subst hx2; subst hx1; rfl) ?_
  refine zG_iald hd0 hz rfl rfl (.inl rfl) (by omega) ?_
  obtain ⟨x3, hx3⟩ : ∃ x : Int, x = M 98 (x2 : Int).toNat := ⟨_, rfl⟩
  rw [← hx3]
  have hx3r : 0 ≤ x3 ∧ x3 ≤ 3 := by rw [hx3]; exact hC.brd a1 _ (by omega) (by omega)
  have hbo : x3 = qMt M a1 0 := by unfold qMt; rw [hx3, show x2 = 150 + 5 * a1 + 0 by omega]
  show zG n (0, 0) d 192 (22, [.inr (.inr (some 97)), .inl a1, .inl x2, zN], [.inl x3, .inl 2, .inl 140, .inr (.inr (some 98))]) M _
  obtain ⟨x4, hx4⟩ : ∃ x : Int, x = w32 (2 * x3) := ⟨_, rfl⟩
  have hx4e : x4 = 2 * x3 := by rw [hx4]; exact w32_id (by omega)
  obtain ⟨x5, hx5⟩ : ∃ x : Int, x = w32 (140 + x4) := ⟨_, rfl⟩
  have hx5e : x5 = 140 + x4 := by rw [hx5]; exact w32_id (by omega)
  refine zG_w (c' := (24, [.inr (.inr (some 97)), .inl a1, .inl x2, zN], [.inl x5, .inr (.inr (some 98))])) 2 hd0 hz (by subst hx5; subst hx4; rfl) ?_
  refine zG_iald hd0 hz rfl rfl (.inl rfl) (by omega) ?_
  obtain ⟨x6, hx6⟩ : ∃ x : Int, x = M 98 (x5 : Int).toNat := ⟨_, rfl⟩
  rw [← hx6]
  have hx6r : qin x6 := by rw [hx6]; exact hC.sin _
  have hse : x6 = qSeats M a1 := by unfold qSeats; rw [hx6, show x5 = 140 + 2 * qMt M a1 0 by omega]
  show zG n (0, 0) d 192 (25, [.inr (.inr (some 97)), .inl a1, .inl x2, zN], [.inl x6]) M _
  obtain ⟨x7, hx7⟩ : ∃ x : Int, x = w32 (x2 + 4) := ⟨_, rfl⟩
  have hx7e : x7 = x2 + 4 := by rw [hx7]; exact w32_id (by omega)
  refine zG_w (c' := (33, [.inr (.inr (some 97)), .inl a1, .inl x2, .inl x6], [.inl x7, .inr (.inr (some 98))])) 6 hd0 hz (by subst hx7; rfl) ?_
  refine zG_iald hd0 hz rfl rfl (.inl rfl) (by omega) ?_
  obtain ⟨x8, hx8⟩ : ∃ x : Int, x = M 98 (x7 : Int).toNat := ⟨_, rfl⟩
  rw [← hx8]
  have hx8r : qin x8 := by rw [hx8]; exact hC.sin _
  have hv4 : x8 = qMt M a1 4 := by unfold qMt; rw [hx8, show x7 = 150 + 5 * a1 + 4 by omega]
  have hs0 : x8 ≠ 0 → qStN M a1 = 0 := fun h9 => qStN_v (by omega)
  show zG n (0, 0) d 192 (34, [.inr (.inr (some 97)), .inl a1, .inl x2, .inl x6], [.inl x8]) M _
  have j91 : ∀ (v9 : Int) , 0 ≤ v9 ∧ v9 ≤ 1 → (v9 = qStN M a1) → zG n (0, 0) d 192 (91, [.inr (.inr (some 97)), .inl a1, .inl x2, .inl x6], [.inl v9]) M (fun v M' => M' = M ∧ ∃ x : Int, v = some (.inl x) ∧ (0 ≤ x ∧ x ≤ 1) ∧ (x = qStN M a1)) := by
    intro v9 hv9 hx0_91
    exact zG_zret hd0 hz rfl (by omega) ⟨rfl, _, rfl, by omega, by omega⟩
  have j90 : (qStN M a1 = 0) → zG n (0, 0) d 192 (90, [.inr (.inr (some 97)), .inl a1, .inl x2, .inl x6], []) M (fun v M' => M' = M ∧ ∃ x : Int, v = some (.inl x) ∧ (0 ≤ x ∧ x ≤ 1) ∧ (x = qStN M a1)) := by
    intro hx0_90
    refine zG_w (c' := (91, [.inr (.inr (some 97)), .inl a1, .inl x2, .inl x6], [.inl 0])) 1 hd0 hz (by rfl) ?_
    exact j91 0 (by first | decide | omega) (by omega)
  refine zG_wf_ne (pc := 34) (n' := 37) (t := 90) (L := [.inr (.inr (some 97)), .inl a1, .inl x2, .inl x6]) (st := []) (x := x8) 0 hd0 hz (by rfl) (fun hb10 => ?_) (fun hb10 => ?_)
  · exact j90 (by omega)
  · obtain ⟨x11, hx11⟩ : ∃ x : Int, x = w32 (x2 + 2) := ⟨_, rfl⟩
    have hx11e : x11 = x2 + 2 := by rw [hx11]; exact w32_id (by omega)
    refine zG_w (c' := (44, [.inr (.inr (some 97)), .inl a1, .inl x2, .inl x6], [.inl x11, .inr (.inr (some 98))])) 5 hd0 hz (by subst hx11; rfl) ?_
    refine zG_iald hd0 hz rfl rfl (.inl rfl) (by omega) ?_
    obtain ⟨x12, hx12⟩ : ∃ x : Int, x = M 98 (x11 : Int).toNat := ⟨_, rfl⟩
    rw [← hx12]
    have hx12r : qin x12 := by rw [hx12]; exact hC.sin _
    have hv2 : x12 = qMt M a1 2 := by unfold qMt; rw [hx12, show x11 = 150 + 5 * a1 + 2 by omega]
    show zG n (0, 0) d 192 (45, [.inr (.inr (some 97)), .inl a1, .inl x2, .inl x6], [.inl x12]) M _
    obtain ⟨x13, hx13⟩ : ∃ x : Int, x = zband x12 x6 := ⟨_, rfl⟩
    have hx13r : qin x13 := by rw [hx13]; exact qb32 _
    have hs1 : x13 ≠ x6 → qStN M a1 = 0 := fun h9 => qStN_c (by rw [← hv2, ← hse, ← hx13]; exact h9)
    have hs1e : x13 = x6 → zband (qMt M a1 2) (qSeats M a1) = qSeats M a1 := fun h9 => by rw [← hv2, ← hse, ← hx13]; exact h9
    refine zG_wi_ne (pc := 48) (n' := 51) (t := 90) (L := [.inr (.inr (some 97)), .inl a1, .inl x2, .inl x6]) (st := []) (x := x13) (y := x6) 3 hd0 hz (by subst hx13; rfl) (fun hb14 => ?_) (fun hb14 => ?_)
    · exact j90 (by omega)
    · obtain ⟨x15, hx15⟩ : ∃ x : Int, x = w32 (x2 + 3) := ⟨_, rfl⟩
      have hx15e : x15 = x2 + 3 := by rw [hx15]; exact w32_id (by omega)
      refine zG_w (c' := (58, [.inr (.inr (some 97)), .inl a1, .inl x2, .inl x6], [.inl x15, .inr (.inr (some 98))])) 5 hd0 hz (by subst hx15; rfl) ?_
      refine zG_iald hd0 hz rfl rfl (.inl rfl) (by omega) ?_
      obtain ⟨x16, hx16⟩ : ∃ x : Int, x = M 98 (x15 : Int).toNat := ⟨_, rfl⟩
      rw [← hx16]
      have hx16r : qin x16 := by rw [hx16]; exact hC.sin _
      have hv3 : x16 = qMt M a1 3 := by unfold qMt; rw [hx16, show x15 = 150 + 5 * a1 + 3 by omega]
      show zG n (0, 0) d 192 (59, [.inr (.inr (some 97)), .inl a1, .inl x2, .inl x6], [.inl x16]) M _
      obtain ⟨x17, hx17⟩ : ∃ x : Int, x = zband x16 x6 := ⟨_, rfl⟩
      have hx17r : qin x17 := by rw [hx17]; exact qb32 _
      have hnd : x17 = zband (qMt M a1 3) (qSeats M a1) := by rw [hx17, ← hv3, ← hse]
      refine zG_wp (pc := 64) (L := [.inr (.inr (some 97)), .inl a1, .inl x2, .inl x6]) (st := []) 2 hd0 hz zp_186 (qx_sizeOf (by first | exact zdk hd rfl | omega) hC   x17 (by omega) ) (by subst hx17; rfl) (fun x19 hx19 => ?_)
      have hsz := hx19.2.2
      rw [hnd] at hsz
      refine zG_w (c' := (77, [.inr (.inr (some 97)), .inl a1, .inl x2, .inl x6], [.inl x2, .inr (.inr (some 98)), .inl 2, .inl 140, .inr (.inr (some 98)), .inl x19])) 7 hd0 hz (by rfl) ?_
      refine zG_iald hd0 hz rfl rfl (.inl rfl) (by omega) ?_
      obtain ⟨x20, hx20⟩ : ∃ x : Int, x = M 98 (x2 : Int).toNat := ⟨_, rfl⟩
      rw [← hx20]
      have hx20r : 0 ≤ x20 ∧ x20 ≤ 3 := by rw [hx20]; exact hC.brd a1 _ (by omega) (by omega)
      have hbo2 : x20 = qMt M a1 0 := by unfold qMt; rw [hx20, show x2 = 150 + 5 * a1 + 0 by omega]
      show zG n (0, 0) d 192 (78, [.inr (.inr (some 97)), .inl a1, .inl x2, .inl x6], [.inl x20, .inl 2, .inl 140, .inr (.inr (some 98)), .inl x19]) M _
      obtain ⟨x21, hx21⟩ : ∃ x : Int, x = w32 (2 * x20) := ⟨_, rfl⟩
      have hx21e : x21 = 2 * x20 := by rw [hx21]; exact w32_id (by omega)
      obtain ⟨x22, hx22⟩ : ∃ x : Int, x = w32 (140 + x21) := ⟨_, rfl⟩
      have hx22e : x22 = 140 + x21 := by rw [hx22]; exact w32_id (by omega)
      obtain ⟨x23, hx23⟩ : ∃ x : Int, x = w32 (x22 + 1) := ⟨_, rfl⟩
      have hx23e : x23 = x22 + 1 := by rw [hx23]; exact w32_id (by omega)
      refine zG_w (c' := (82, [.inr (.inr (some 97)), .inl a1, .inl x2, .inl x6], [.inl x23, .inr (.inr (some 98)), .inl x19])) 4 hd0 hz (by subst hx23; subst hx22; subst hx21; rfl) ?_
      refine zG_iald hd0 hz rfl rfl (.inl rfl) (by omega) ?_
      obtain ⟨x24, hx24⟩ : ∃ x : Int, x = M 98 (x23 : Int).toNat := ⟨_, rfl⟩
      rw [← hx24]
      have hx24r : qin x24 := by rw [hx24]; exact hC.sin _
      have hqu : x24 = qQuor M a1 := by unfold qQuor; rw [hx24, show x23 = 140 + 2 * qMt M a1 0 + 1 by omega]
      have hs2 : x19 < x24 → qStN M a1 = 0 := fun h9 => qStN_q (by omega)
      have hs3 : x24 ≤ x19 → qStN M a1 = 1 := fun h9 => qStN_1 (by omega) (hs1e (by omega)) (by omega)
      show zG n (0, 0) d 192 (83, [.inr (.inr (some 97)), .inl a1, .inl x2, .inl x6], [.inl x24, .inl x19]) M _
      refine zG_wi_lt (pc := 83) (n' := 86) (t := 90) (L := [.inr (.inr (some 97)), .inl a1, .inl x2, .inl x6]) (st := []) (x := x19) (y := x24) 0 hd0 hz (by rfl) (fun hb25 => ?_) (fun hb25 => ?_)
      · exact j90 (by omega)
      · refine zG_w (c' := (91, [.inr (.inr (some 97)), .inl a1, .inl x2, .inl x6], [.inl 1])) 2 hd0 hz (by rfl) ?_
        exact j91 1 (by first | decide | omega) (by omega)
theorem qm_193_97 {n d : Nat} {M : zM} (hd : 3 ≤ d) (hC : qMI M)  (a1 : Int) (ha1 : (-2147483648) ≤ a1 ∧ a1 ≤ 2147483647) : qOkP n d 193 [.inr (.inr (some 97)), .inl a1] 2 M (fun v => ∃ x : Int, v = some (.inl x) ∧ ((-2) ≤ x ∧ x ≤ 1)) := by
  have hz := zp_193
  have hd0 : 0 < d := by omega
  have r1 := hC.cnt3
  show zG n (0, 0) d 193 (0, [.inr (.inr (some 97)), .inl a1], []) M _
  refine zG_wp (pc := 6) (L := [.inr (.inr (some 97)), .inl a1]) (st := []) 3 hd0 hz zp_182 (qx_is (by first | exact zdk hd rfl | omega) hC   3 (by first | decide | omega) a1 (by first | with_reducible exact ha1 | omega) ) (by rfl) (fun x3 hx3 => ?_)
  have j27 : ∀ (v4 : Int) , (-2) ≤ v4 ∧ v4 ≤ 1 → zG n (0, 0) d 193 (27, [.inr (.inr (some 97)), .inl a1], [.inl v4]) M (fun v M' => M' = M ∧ ∃ x : Int, v = some (.inl x) ∧ ((-2) ≤ x ∧ x ≤ 1)) := by
    intro v4 hv4
    exact zG_wr (r := some (.inl v4)) 0 hd0 hz (by rfl) ⟨rfl, _, rfl, by omega⟩
  refine zG_wf_ne (pc := 6) (n' := 9) (t := 14) (L := [.inr (.inr (some 97)), .inl a1]) (st := []) (x := x3) 0 hd0 hz (by rfl) (fun hb5 => ?_) (fun hb5 => ?_)
  · have hcx3 := hx3.2.2.mp (by omega)
    clear hx3 hb5
    refine zG_wp (pc := 19) (L := [.inr (.inr (some 97)), .inl a1]) (st := []) 2 hd0 hz zp_192 (qm_192_97 (by first | exact zdk hd rfl | omega) hC   a1 (by first | with_reducible exact ha1 | omega) ) (by rfl) (fun x7 hr => ?_)
    obtain ⟨hx7, hpx7_0⟩ := hr
    refine zG_wf_eq (pc := 19) (n' := 22) (t := 26) (L := [.inr (.inr (some 97)), .inl a1]) (st := []) (x := x7) 0 hd0 hz (by rfl) (fun hb8 => ?_) (fun hb8 => ?_)
    · refine zG_w (c' := (27, [.inr (.inr (some 97)), .inl a1], [.inl 0])) 1 hd0 hz (by rfl) ?_
      exact j27 0 (by first | decide | omega)
    · refine zG_w (c' := (27, [.inr (.inr (some 97)), .inl a1], [.inl 1])) 2 hd0 hz (by rfl) ?_
      exact j27 1 (by first | decide | omega)
  · refine zG_w (c' := (27, [.inr (.inr (some 97)), .inl a1], [.inl (-2)])) 2 hd0 hz (by rfl) ?_
    exact j27 (-2) (by first | decide | omega)
theorem qm_198_97 {n d : Nat} {M : zM} (hd : 3 ≤ d) (hC : qMI M)  (a1 : Int) (ha1 : (-2147483648) ≤ a1 ∧ a1 ≤ 2147483647) : qOkP n d 198 [.inr (.inr (some 97)), .inl a1] 2 M (fun v => ∃ x : Int, v = some (.inl x) ∧ (0 ≤ x ∧ x ≤ 1) ∧ (x = 1 ↔ (0 ≤ a1 ∧ a1 < M 98 4 ∧ qA M a1 0 = 0))) := by
  have hz := zp_198
  have hd0 : 0 < d := by omega
  have r1 := hC.cnt4
  show zG n (0, 0) d 198 (0, [.inr (.inr (some 97)), .inl a1], []) M _
  refine zG_wp (pc := 6) (L := [.inr (.inr (some 97)), .inl a1]) (st := []) 3 hd0 hz zp_182 (qx_is (by first | exact zdk hd rfl | omega) hC   4 (by first | decide | omega) a1 (by first | with_reducible exact ha1 | omega) ) (by rfl) (fun x3 hx3 => ?_)
  have j23 : ∀ (v4 : Int) , 0 ≤ v4 ∧ v4 ≤ 1 → (v4 = 1 ↔ (0 ≤ a1 ∧ a1 < M 98 4 ∧ qA M a1 0 = 0)) → zG n (0, 0) d 198 (23, [.inr (.inr (some 97)), .inl a1], [.inl v4]) M (fun v M' => M' = M ∧ ∃ x : Int, v = some (.inl x) ∧ (0 ≤ x ∧ x ≤ 1) ∧ (x = 1 ↔ (0 ≤ a1 ∧ a1 < M 98 4 ∧ qA M a1 0 = 0))) := by
    intro v4 hv4 hx0_23
    exact zG_zret hd0 hz rfl (by omega) ⟨rfl, _, rfl, by omega, by omega⟩
  have j22 : (¬ (0 ≤ a1 ∧ a1 < M 98 4 ∧ qA M a1 0 = 0)) → zG n (0, 0) d 198 (22, [.inr (.inr (some 97)), .inl a1], []) M (fun v M' => M' = M ∧ ∃ x : Int, v = some (.inl x) ∧ (0 ≤ x ∧ x ≤ 1) ∧ (x = 1 ↔ (0 ≤ a1 ∧ a1 < M 98 4 ∧ qA M a1 0 = 0))) := by
    intro hx0_22
    refine zG_w (c' := (23, [.inr (.inr (some 97)), .inl a1], [.inl 0])) 1 hd0 hz (by rfl) ?_
    exact j23 0 (by first | decide | omega) (by omega)
  refine zG_wf_eq (pc := 6) (n' := 9) (t := 22) (L := [.inr (.inr (some 97)), .inl a1]) (st := []) (x := x3) 0 hd0 hz (by rfl) (fun hb5 => ?_) (fun hb5 => ?_)
  · exact j22 (by omega)
  · have hcx3 := hx3.2.2.mp (by omega)
    clear hx3 hb5
    refine zG_wp (pc := 15) (L := [.inr (.inr (some 97)), .inl a1]) (st := []) 3 hd0 hz zp_194 (qx_act0 (by first | exact zdk hd rfl | omega) hC   a1 (by first | with_reducible exact ha1 | omega) 0 (by first | decide | omega) ) (by rfl) (fun x7 hx7 => ?_)
    refine zG_wf_ne (pc := 15) (n' := 18) (t := 22) (L := [.inr (.inr (some 97)), .inl a1]) (st := []) (x := x7) 0 hd0 hz (by rfl) (fun hb8 => ?_) (fun hb8 => ?_)
    · exact j22 (by omega)
    · refine zG_w (c' := (23, [.inr (.inr (some 97)), .inl a1], [.inl 1])) 2 hd0 hz (by rfl) ?_
      exact j23 1 (by first | decide | omega) (by omega)
theorem qm_200_97 {n d : Nat} {M : zM} (hd : 3 ≤ d) (hC : qMI M)  (a1 : Int) (ha1 : (-2147483648) ≤ a1 ∧ a1 ≤ 2147483647) (a2 : Int) (ha2 : (-2147483648) ≤ a2 ∧ a2 ≤ 2147483647) : qOkP n d 200 [.inr (.inr (some 97)), .inl a1, .inl a2] 3 M (fun v => ∃ x : Int, v = some (.inl x) ∧ (0 ≤ x ∧ x ≤ 1) ∧ (x = 1 ↔ (0 ≤ a1 ∧ a1 < M 98 3 ∧ qMt M a1 1 ≤ a2 ∧ a2 ≤ 9999))) := by
  have hz := zp_200
  have hd0 : 0 < d := by omega
  have r1 := hC.cnt3
  show zG n (0, 0) d 200 (0, [.inr (.inr (some 97)), .inl a1, .inl a2], []) M _
  refine zG_wp (pc := 6) (L := [.inr (.inr (some 97)), .inl a1, .inl a2]) (st := []) 3 hd0 hz zp_182 (qx_is (by first | exact zdk hd rfl | omega) hC   3 (by first | decide | omega) a1 (by first | with_reducible exact ha1 | omega) ) (by rfl) (fun x3 hx3 => ?_)
  have j29 : ∀ (v4 : Int) , 0 ≤ v4 ∧ v4 ≤ 1 → (v4 = 1 ↔ (0 ≤ a1 ∧ a1 < M 98 3 ∧ qMt M a1 1 ≤ a2 ∧ a2 ≤ 9999)) → zG n (0, 0) d 200 (29, [.inr (.inr (some 97)), .inl a1, .inl a2], [.inl v4]) M (fun v M' => M' = M ∧ ∃ x : Int, v = some (.inl x) ∧ (0 ≤ x ∧ x ≤ 1) ∧ (x = 1 ↔ (0 ≤ a1 ∧ a1 < M 98 3 ∧ qMt M a1 1 ≤ a2 ∧ a2 ≤ 9999))) := by
    intro v4 hv4 hx0_29
    exact zG_zret hd0 hz rfl (by omega) ⟨rfl, _, rfl, by omega, by omega⟩
  have j28 : (¬ (0 ≤ a1 ∧ a1 < M 98 3 ∧ qMt M a1 1 ≤ a2 ∧ a2 ≤ 9999)) → zG n (0, 0) d 200 (28, [.inr (.inr (some 97)), .inl a1, .inl a2], []) M (fun v M' => M' = M ∧ ∃ x : Int, v = some (.inl x) ∧ (0 ≤ x ∧ x ≤ 1) ∧ (x = 1 ↔ (0 ≤ a1 ∧ a1 < M 98 3 ∧ qMt M a1 1 ≤ a2 ∧ a2 ≤ 9999))) := by
    intro hx0_28
    refine zG_w (c' := (29, [.inr (.inr (some 97)), .inl a1, .inl a2], [.inl 0])) 1 hd0 hz (by rfl) ?_
    exact j29 0 (by first | decide | omega) (by omega)
  refine zG_wf_eq (pc := 6) (n' := 9) (t := 28) (L := [.inr (.inr (some 97)), .inl a1, .inl a2]) (st := []) (x := x3) 0 hd0 hz (by rfl) (fun hb5 => ?_) (fun hb5 => ?_)
  · exact j28 (by omega)
  · have hcx3 := hx3.2.2.mp (by omega)
    clear hx3 hb5
    refine zG_wp (pc := 15) (L := [.inr (.inr (some 97)), .inl a1, .inl a2]) (st := [.inl a2]) 3 hd0 hz zp_199 (qx_dayOf (by first | exact zdk hd rfl | omega) hC   a1 (by first | with_reducible exact ha1 | omega) ) (by rfl) (fun x7 hx7 => ?_)
    refine zG_wp (pc := 21) (L := [.inr (.inr (some 97)), .inl a1, .inl a2]) (st := []) 1 hd0 hz zp_180 (qx_in (by first | exact zdk hd rfl | omega) hC   a2 (by first | with_reducible exact ha2 | omega) x7 (by omega) 9999 (by first | decide | omega) ) (by rfl) (fun x9 hx9 => ?_)
    refine zG_wf_eq (pc := 21) (n' := 24) (t := 28) (L := [.inr (.inr (some 97)), .inl a1, .inl a2]) (st := []) (x := x9) 0 hd0 hz (by rfl) (fun hb10 => ?_) (fun hb10 => ?_)
    · exact j28 (by omega)
    · have hcx9 := hx9.2.2.mp (by omega)
      clear hx9 hb10
      refine zG_w (c' := (29, [.inr (.inr (some 97)), .inl a1, .inl a2], [.inl 1])) 2 hd0 hz (by rfl) ?_
      exact j29 1 (by first | decide | omega) (by omega)
theorem qm_210_97 {n d : Nat} {M : zM} (hd : 3 ≤ d) (hC : qMI M)  (a1 : Int) (ha1 : (-2147483648) ≤ a1 ∧ a1 ≤ 2147483647) (a2 : Int) (ha2 : (-2147483648) ≤ a2 ∧ a2 ≤ 2147483647) : qOkP n d 210 [.inr (.inr (some 97)), .inl a1, .inl a2] 3 M (fun v => ∃ x : Int, v = some (.inl x) ∧ ((-2147483648) ≤ x ∧ x ≤ 2147483647)) := by
  have hz := zp_210
  have hd0 : 0 < d := by omega
  have r1 := hC.cnt4
  show zG n (0, 0) d 210 (0, [.inr (.inr (some 97)), .inl a1, .inl a2], []) M _
  refine zG_wp (pc := 6) (L := [.inr (.inr (some 97)), .inl a1, .inl a2]) (st := []) 3 hd0 hz zp_182 (qx_is (by first | exact zdk hd rfl | omega) hC   4 (by first | decide | omega) a1 (by first | with_reducible exact ha1 | omega) ) (by rfl) (fun x3 hx3 => ?_)
  have j30 : ∀ (v4 : Int) , (-2147483648) ≤ v4 ∧ v4 ≤ 2147483647 → zG n (0, 0) d 210 (30, [.inr (.inr (some 97)), .inl a1, .inl a2], [.inl v4]) M (fun v M' => M' = M ∧ ∃ x : Int, v = some (.inl x) ∧ ((-2147483648) ≤ x ∧ x ≤ 2147483647)) := by
    intro v4 hv4
    exact zG_wr (r := some (.inl v4)) 0 hd0 hz (by rfl) ⟨rfl, _, rfl, by omega⟩
  have j28 : zG n (0, 0) d 210 (28, [.inr (.inr (some 97)), .inl a1, .inl a2], []) M (fun v M' => M' = M ∧ ∃ x : Int, v = some (.inl x) ∧ ((-2147483648) ≤ x ∧ x ≤ 2147483647)) := by
    refine zG_w (c' := (30, [.inr (.inr (some 97)), .inl a1, .inl a2], [.inl (-2)])) 1 hd0 hz (by rfl) ?_
    exact j30 (-2) (by first | decide | omega)
  refine zG_wf_eq (pc := 6) (n' := 9) (t := 28) (L := [.inr (.inr (some 97)), .inl a1, .inl a2]) (st := []) (x := x3) 0 hd0 hz (by rfl) (fun hb5 => ?_) (fun hb5 => ?_)
  · exact j28
  · have hcx3 := hx3.2.2.mp (by omega)
    clear hx3 hb5
    refine zG_wp (pc := 16) (L := [.inr (.inr (some 97)), .inl a1, .inl a2]) (st := []) 3 hd0 hz zp_180 (qx_in (by first | exact zdk hd rfl | omega) hC   a2 (by first | with_reducible exact ha2 | omega) 0 (by first | decide | omega) 7 (by first | decide | omega) ) (by rfl) (fun x7 hx7 => ?_)
    refine zG_wf_eq (pc := 16) (n' := 19) (t := 28) (L := [.inr (.inr (some 97)), .inl a1, .inl a2]) (st := []) (x := x7) 0 hd0 hz (by rfl) (fun hb8 => ?_) (fun hb8 => ?_)
    · exact j28
    · have hcx7 := hx7.2.2.mp (by omega)
      clear hx7 hb8
      refine zG_wp (pc := 25) (L := [.inr (.inr (some 97)), .inl a1, .inl a2]) (st := []) 3 hd0 hz zp_194 (qx_act0 (by first | exact zdk hd rfl | omega) hC   a1 (by first | with_reducible exact ha1 | omega) a2 (by first | with_reducible exact ha2 | omega) ) (by rfl) (fun x10 hx10 => ?_)
      refine zG_w (c' := (30, [.inr (.inr (some 97)), .inl a1, .inl a2], [.inl x10])) 1 hd0 hz (by rfl) ?_
      exact j30 x10 (by omega)
theorem qm_211_97 {n d : Nat} {M : zM} (hd : 3 ≤ d) (hC : qMI M)  (a1 : Int) (ha1 : (-2147483648) ≤ a1 ∧ a1 ≤ 2147483647) : qOkN n d 211 [.inr (.inr (some 97)), .inl a1] 3 [101] M (fun v M' => v = none) := by
  have hz := zp_211
  have hd0 : 0 < d := by omega
  have hW : qFm [101] M M := qFm.rfl
  have r1 := hC.cnt4
  show zG n (0, 0) d 211 (0, [.inr (.inr (some 97)), .inl a1, zN], []) M _
  refine zG_w (c' := (2, [.inr (.inr (some 97)), .inl a1, .inl 0], [])) 2 hd0 hz (by rfl) ?_
  have j2 : ∀ (N : Nat) (v2 : Int) (M3 : zM) , (250 - v2 : Int).toNat < N → 0 ≤ v2 ∧ v2 ≤ 250 → qMI M3 → qFm [101] M M3 → zG n (0, 0) d 211 (2, [.inr (.inr (some 97)), .inl a1, .inl v2], []) M3 (fun v M' => (qMI M' ∧ qFm [101] M M') ∧ v = none) := by
    intro N
    induction N with
    | zero => intro v2 M3 hN hv2 hCM3 hWM3; exact absurd hN (Nat.not_lt_zero _)
    | succ N ih2 =>
      intro v2 M3 hN hv2 hCM3 hWM3
      replace hN : 250 - v2 < (N : Int) + 1 := by omega
      have e4 : M3 98 4 = M 98 4 := hWM3 98 4 (by decide)
      refine zG_w (c' := (8, [.inr (.inr (some 97)), .inl a1, .inl v2], [.inl 4, .inr (.inr (some 98)), .inl v2])) 4 hd0 hz (by rfl) ?_
      refine zG_iald hd0 hz rfl rfl (.inl rfl) (by omega) ?_
      show zG n (0, 0) d 211 (9, [.inr (.inr (some 97)), .inl a1, .inl v2], [.inl (M3 98 4), .inl v2]) M3 _
      refine zG_wi_ge (pc := 9) (n' := 12) (t := 62) (L := [.inr (.inr (some 97)), .inl a1, .inl v2]) (st := []) (x := v2) (y := (M3 98 4)) 0 hd0 hz (by rfl) (fun hb5 => ?_) (fun hb5 => ?_)
      · refine zG_w (c' := (67, [.inr (.inr (some 97)), .inl a1, .inl v2], [.inl 4, .inr (.inr (some 98))])) 3 hd0 hz (by rfl) ?_
        refine zG_iald hd0 hz rfl rfl (.inl rfl) (by omega) ?_
        show zG n (0, 0) d 211 (68, [.inr (.inr (some 97)), .inl a1, .inl v2], [.inl (M3 98 4)]) M3 _
        obtain ⟨x6, hx6⟩ : ∃ x : Int, x = w32 ((M3 98 4) - 1) := ⟨_, rfl⟩
        have hx6e : x6 = (M3 98 4) - 1 := by rw [hx6]; exact w32_id (by omega)
        refine zG_w (c' := (71, [.inr (.inr (some 97)), .inl a1, .inl x6], [])) 3 hd0 hz (by subst hx6; rfl) ?_
        have j71 : ∀ (N : Nat) (v7 : Int) (M8 : zM) , (v7 + 1 : Int).toNat < N → (-1) ≤ v7 ∧ v7 ≤ 249 → (v7 < M8 98 4) → qMI M8 → qFm [101] M M8 → zG n (0, 0) d 211 (71, [.inr (.inr (some 97)), .inl a1, .inl v7], []) M8 (fun v M' => (qMI M' ∧ qFm [101] M M') ∧ v = none) := by
          intro N
          induction N with
          | zero => intro v7 M8 hN hv7 hx0_71 hCM8 hWM8; exact absurd hN (Nat.not_lt_zero _)
          | succ N ih71 =>
            intro v7 M8 hN hv7 hx0_71 hCM8 hWM8
            replace hN : v7 + 1 < (N : Int) + 1 := by omega
            have e9 : M8 98 4 = M 98 4 := hWM8 98 4 (by decide)
            refine zG_wf_lt (pc := 72) (n' := 75) (t := 113) (L := [.inr (.inr (some 97)), .inl a1, .inl v7]) (st := []) (x := v7) 1 hd0 hz (by rfl) (fun hb10 => ?_) (fun hb10 => ?_)
            · exact zG_ret hd0 hz rfl rfl ⟨⟨hCM8, hWM8⟩, rfl⟩
            · refine zG_w (c' := (80, [.inr (.inr (some 97)), .inl a1, .inl v7], [.inl v7, .inr (.inr (some 101))])) 3 hd0 hz (by rfl) ?_
              refine zG_bald hd0 hz rfl rfl (.inl rfl) (by omega) ?_
              obtain ⟨x11, hx11⟩ : ∃ x : Int, x = M8 101 (v7 : Int).toNat := ⟨_, rfl⟩
              rw [← hx11]
              have hx11r : x11 = 0 ∨ x11 = 1 := by rw [hx11]; exact hCM8.bl101 _
              show zG n (0, 0) d 211 (81, [.inr (.inr (some 97)), .inl a1, .inl v7], [.inl x11]) M8 _
              have j107 : ∀ (M12 : zM) , qMI M12 → qFm [101] M M12 → zG n (0, 0) d 211 (107, [.inr (.inr (some 97)), .inl a1, .inl v7], []) M12 (fun v M' => (qMI M' ∧ qFm [101] M M') ∧ v = none) := by
                intro M12 hCM12 hWM12
                have e13 : M12 98 4 = M 98 4 := hWM12 98 4 (by decide)
                obtain ⟨x14, hx14⟩ : ∃ x : Int, x = w32 (v7 + (-1)) := ⟨_, rfl⟩
                have hx14e : x14 = v7 + (-1) := by rw [hx14]; exact w32_id (by omega)
                refine zG_w (c' := (71, [.inr (.inr (some 97)), .inl a1, .inl x14], [])) 2 hd0 hz (by subst hx14; rfl) ?_
                exact ih71 x14 M12 (by omega) (by omega) (by omega) hCM12 hWM12
              refine zG_wf_eq (pc := 81) (n' := 84) (t := 107) (L := [.inr (.inr (some 97)), .inl a1, .inl v7]) (st := []) (x := x11) 0 hd0 hz (by rfl) (fun hb15 => ?_) (fun hb15 => ?_)
              · exact j107 M8 hCM8 hWM8
              · refine zG_wp (pc := 90) (L := [.inr (.inr (some 97)), .inl a1, .inl v7]) (st := []) 3 hd0 hz zp_194 (qx_act0 (by first | exact zdk hd rfl | omega) hCM8   v7 (by first | with_reducible exact hv7 | omega) 0 (by first | decide | omega) ) (by rfl) (fun x17 hx17 => ?_)
                refine zG_wi_ne (pc := 91) (n' := 94) (t := 107) (L := [.inr (.inr (some 97)), .inl a1, .inl v7]) (st := []) (x := x17) (y := 5) 1 hd0 hz (by rfl) (fun hb18 => ?_) (fun hb18 => ?_)
                · exact j107 M8 hCM8 hWM8
                · have hrel := hCM8.rel v7 (by first | with_reducible exact hv7 | omega) (by omega)
                  refine zG_wp (pc := 105) (L := [.inr (.inr (some 97)), .inl a1, .inl v7]) (st := [.inr (.inr (some 101))]) 5 hd0 hz zp_194 (qx_act6 (by first | exact zdk hd rfl | omega) hCM8   v7 (by first | with_reducible exact hv7 | omega) ) (by rfl) (fun x20 hx20 => ?_)
                  refine zG_w (c' := (106, [.inr (.inr (some 97)), .inl a1, .inl v7], [.inl 0, .inl x20, .inr (.inr (some 101))])) 1 hd0 hz (by rfl) ?_
                  refine zG_bast (by omega) hd0 hz rfl rfl (by omega) ?_
                  obtain ⟨M21, hM21⟩ : ∃ X : zM, X = zput M8 101 (x20 : Int).toNat 0 := ⟨_, rfl⟩
                  rw [← hM21]
                  have hCM21 : qMI M21 := by rw [hM21]; exact hCM8.put (by decide) (qCd_a (by decide) (by decide)) (by first | exact qMC_ar (by decide) (fun _ => by omega) | (refine ⟨fun h => ?_, fun _ => ?_, fun h => ?_, fun h => ?_, fun h => ?_⟩ <;> first | omega | exact absurd h (by decide)))
                  have hWM21 : qFm [101] M M21 := by rw [hM21]; exact hWM8.pa (by decide) (by decide)
                  have e22 : M21 98 4 = M8 98 4 := by rw [hM21]; exact qput_ne (by decide)
                  show zG n (0, 0) d 211 (107, [.inr (.inr (some 97)), .inl a1, .inl v7], []) M21 _
                  exact j107 M21 hCM21 hWM21
        exact j71 ((x6 + 1 : Int).toNat + 1) x6 M3 (by omega) (by omega) (by omega) hCM3 hWM3
      · refine zG_wp (pc := 23) (L := [.inr (.inr (some 97)), .inl a1, .inl v2]) (st := [.inl v2, .inr (.inr (some 101))]) 6 hd0 hz zp_194 (qx_act0 (by first | exact zdk hd rfl | omega) hCM3   v2 (by first | with_reducible exact hv2 | omega) 2 (by first | decide | omega) ) (by rfl) (fun x24 hx24 => ?_)
        refine zG_w (c' := (24, [.inr (.inr (some 97)), .inl a1, .inl v2], [.inl a1, .inl x24, .inl v2, .inr (.inr (some 101))])) 1 hd0 hz (by rfl) ?_
        have j55 : ∀ (v25 : Int) , 0 ≤ v25 ∧ v25 ≤ 1 → zG n (0, 0) d 211 (55, [.inr (.inr (some 97)), .inl a1, .inl v2], [.inl v25, .inl v2, .inr (.inr (some 101))]) M3 (fun v M' => (qMI M' ∧ qFm [101] M M') ∧ v = none) := by
          intro v25 hv25
          refine zG_bast (by omega) hd0 hz rfl rfl (by omega) ?_
          obtain ⟨M26, hM26⟩ : ∃ X : zM, X = zput M3 101 (v2 : Int).toNat v25 := ⟨_, rfl⟩
          rw [← hM26]
          have hCM26 : qMI M26 := by rw [hM26]; exact hCM3.put (by decide) (qCd_a (by decide) (by decide)) (by first | exact qMC_ar (by decide) (fun _ => by omega) | (refine ⟨fun h => ?_, fun _ => ?_, fun h => ?_, fun h => ?_, fun h => ?_⟩ <;> first | omega | exact absurd h (by decide)))
          have hWM26 : qFm [101] M M26 := by rw [hM26]; exact hWM3.pa (by decide) (by decide)
          have e27 : M26 98 4 = M3 98 4 := by rw [hM26]; exact qput_ne (by decide)
          show zG n (0, 0) d 211 (56, [.inr (.inr (some 97)), .inl a1, .inl v2], []) M26 _
          obtain ⟨x28, hx28⟩ : ∃ x : Int, x = w32 (v2 + 1) := ⟨_, rfl⟩
          have hx28e : x28 = v2 + 1 := by rw [hx28]; exact w32_id (by omega)
          refine zG_w (c' := (2, [.inr (.inr (some 97)), .inl a1, .inl x28], [])) 2 hd0 hz (by subst hx28; rfl) ?_
          exact ih2 x28 M26 (by omega) (by omega) hCM26 hWM26
        have j54 : zG n (0, 0) d 211 (54, [.inr (.inr (some 97)), .inl a1, .inl v2], [.inl v2, .inr (.inr (some 101))]) M3 (fun v M' => (qMI M' ∧ qFm [101] M M') ∧ v = none) := by
          refine zG_w (c' := (55, [.inr (.inr (some 97)), .inl a1, .inl v2], [.inl 0, .inl v2, .inr (.inr (some 101))])) 1 hd0 hz (by rfl) ?_
          exact j55 0 (by first | decide | omega)
        refine zG_wi_gt (pc := 24) (n' := 27) (t := 54) (L := [.inr (.inr (some 97)), .inl a1, .inl v2]) (st := [.inl v2, .inr (.inr (some 101))]) (x := x24) (y := a1) 0 hd0 hz (by rfl) (fun hb29 => ?_) (fun hb29 => ?_)
        · exact j54
        · refine zG_wp (pc := 33) (L := [.inr (.inr (some 97)), .inl a1, .inl v2]) (st := [.inl v2, .inr (.inr (some 101))]) 3 hd0 hz zp_194 (qx_act3 (by first | exact zdk hd rfl | omega) hCM3   v2 (by first | with_reducible exact hv2 | omega) ) (by rfl) (fun x31 hx31 => ?_)
          refine zG_w (c' := (34, [.inr (.inr (some 97)), .inl a1, .inl v2], [.inl (-1), .inl x31, .inl v2, .inr (.inr (some 101))])) 1 hd0 hz (by rfl) ?_
          have j50 : zG n (0, 0) d 211 (50, [.inr (.inr (some 97)), .inl a1, .inl v2], [.inl v2, .inr (.inr (some 101))]) M3 (fun v M' => (qMI M' ∧ qFm [101] M M') ∧ v = none) := by
            refine zG_w (c' := (55, [.inr (.inr (some 97)), .inl a1, .inl v2], [.inl 1, .inl v2, .inr (.inr (some 101))])) 2 hd0 hz (by rfl) ?_
            exact j55 1 (by first | decide | omega)
          refine zG_wi_eq (pc := 34) (n' := 37) (t := 50) (L := [.inr (.inr (some 97)), .inl a1, .inl v2]) (st := [.inl v2, .inr (.inr (some 101))]) (x := x31) (y := (-1)) 0 hd0 hz (by rfl) (fun hb32 => ?_) (fun hb32 => ?_)
          · exact j50
          · refine zG_wp (pc := 44) (L := [.inr (.inr (some 97)), .inl a1, .inl v2]) (st := [.inr (.inr (some 97)), .inl v2, .inr (.inr (some 101))]) 4 hd0 hz zp_194 (qx_act3 (by first | exact zdk hd rfl | omega) hCM3   v2 (by first | with_reducible exact hv2 | omega) ) (by rfl) (fun x34 hx34 => ?_)
            refine zG_wp (pc := 47) (L := [.inr (.inr (some 97)), .inl a1, .inl v2]) (st := [.inl v2, .inr (.inr (some 101))]) 0 hd0 hz zp_192 (qm_192_97 (by first | exact zdk hd rfl | omega) hCM3   x34 (by omega) ) (by rfl) (fun x36 hr => ?_)
            obtain ⟨hx36, hpx36_0⟩ := hr
            refine zG_wf_eq (pc := 47) (n' := 50) (t := 54) (L := [.inr (.inr (some 97)), .inl a1, .inl v2]) (st := [.inl v2, .inr (.inr (some 101))]) (x := x36) 0 hd0 hz (by rfl) (fun hb37 => ?_) (fun hb37 => ?_)
            · exact j54
            · exact j50
  exact j2 ((250 - 0 : Int).toNat + 1) 0 M (by omega) (by omega) hC hW
theorem qm_212_97 {n d : Nat} {M : zM} (hd : 4 ≤ d) (hC : qMI M)  (a1 : Int) (ha1 : (-2147483648) ≤ a1 ∧ a1 ≤ 2147483647) (a2 : Int) (ha2 : (-2147483648) ≤ a2 ∧ a2 ≤ 2147483647) : qOkN n d 212 [.inr (.inr (some 97)), .inl a1, .inl a2] 3 [101] M (fun v M' => ∃ x : Int, v = some (.inl x) ∧ ((-2) ≤ x ∧ x ≤ 1)) := by
  have hz := zp_212
  have hd0 : 0 < d := by omega
  have hW : qFm [101] M M := qFm.rfl
  have r1 := hC.cnt4
  show zG n (0, 0) d 212 (0, [.inr (.inr (some 97)), .inl a1, .inl a2], []) M _
  refine zG_wp (pc := 6) (L := [.inr (.inr (some 97)), .inl a1, .inl a2]) (st := []) 3 hd0 hz zp_182 (qx_is (by first | exact zdk hd rfl | omega) hC   4 (by first | decide | omega) a1 (by first | with_reducible exact ha1 | omega) ) (by rfl) (fun x3 hx3 => ?_)
  have j16 : zG n (0, 0) d 212 (16, [.inr (.inr (some 97)), .inl a1, .inl a2], []) M (fun v M' => (qMI M' ∧ qFm [101] M M') ∧ ∃ x : Int, v = some (.inl x) ∧ ((-2) ≤ x ∧ x ≤ 1)) := by
    exact zG_wr (r := some (.inl (-2))) 1 hd0 hz (by rfl) ⟨⟨hC, hW⟩, _, rfl, by omega⟩
  refine zG_wf_eq (pc := 6) (n' := 9) (t := 16) (L := [.inr (.inr (some 97)), .inl a1, .inl a2]) (st := []) (x := x3) 0 hd0 hz (by rfl) (fun hb4 => ?_) (fun hb4 => ?_)
  · exact j16
  · have hcx3 := hx3.2.2.mp (by omega)
    clear hx3 hb4
    refine zG_wp (pc := 13) (L := [.inr (.inr (some 97)), .inl a1, .inl a2]) (st := []) 1 hd0 hz zp_184 (qm_184 (by first | exact zdk hd rfl | omega) hC   a2 (by first | with_reducible exact ha2 | omega) ) (by rfl) (fun x6 hr => ?_)
    obtain ⟨hx6, hpx6_0⟩ := hr
    refine zG_wf_ne (pc := 13) (n' := 16) (t := 19) (L := [.inr (.inr (some 97)), .inl a1, .inl a2]) (st := []) (x := x6) 0 hd0 hz (by rfl) (fun hb7 => ?_) (fun hb7 => ?_)
    · have hcx6 := hpx6_0.mp (by omega)
      clear hx6 hpx6_0 hb7
      refine zG_wv (pc := 24) (L := [.inr (.inr (some 97)), .inl a1, .inl a2]) (st := []) 2 hd0 hz zp_211 (qm_211_97 (by first | exact zdk hd rfl | omega) hC   a2 (by first | with_reducible exact ha2 | omega) ) (by rfl) (fun M8 hr => ?_)
      obtain ⟨hCM8, hFM8⟩ := hr
      have hWM8 : qFm [101] M M8 := hW.tr hFM8 (by decide)
      have e10 : M8 98 4 = M 98 4 := hFM8 98 4 (by decide)
      refine zG_w (c' := (29, [.inr (.inr (some 97)), .inl a1, .inl a2], [.inl a1, .inr (.inr (some 101))])) 3 hd0 hz (by rfl) ?_
      refine zG_bald hd0 hz rfl rfl (.inl rfl) (by omega) ?_
      obtain ⟨x11, hx11⟩ : ∃ x : Int, x = M8 101 (a1 : Int).toNat := ⟨_, rfl⟩
      rw [← hx11]
      have hx11r : x11 = 0 ∨ x11 = 1 := by rw [hx11]; exact hCM8.bl101 _
      show zG n (0, 0) d 212 (30, [.inr (.inr (some 97)), .inl a1, .inl a2], [.inl x11]) M8 _
      have j38 : ∀ (v12 : Int) , 0 ≤ v12 ∧ v12 ≤ 1 → zG n (0, 0) d 212 (38, [.inr (.inr (some 97)), .inl a1, .inl a2], [.inl v12]) M8 (fun v M' => (qMI M' ∧ qFm [101] M M') ∧ ∃ x : Int, v = some (.inl x) ∧ ((-2) ≤ x ∧ x ≤ 1)) := by
        intro v12 hv12
        exact zG_wr (r := some (.inl v12)) 0 hd0 hz (by rfl) ⟨⟨hCM8, hWM8⟩, _, rfl, by omega⟩
      refine zG_wf_eq (pc := 30) (n' := 33) (t := 37) (L := [.inr (.inr (some 97)), .inl a1, .inl a2]) (st := []) (x := x11) 0 hd0 hz (by rfl) (fun hb13 => ?_) (fun hb13 => ?_)
      · refine zG_w (c' := (38, [.inr (.inr (some 97)), .inl a1, .inl a2], [.inl 0])) 1 hd0 hz (by rfl) ?_
        exact j38 0 (by first | decide | omega)
      · refine zG_w (c' := (38, [.inr (.inr (some 97)), .inl a1, .inl a2], [.inl 1])) 2 hd0 hz (by rfl) ?_
        exact j38 1 (by first | decide | omega)
    · exact j16
theorem qm_213_97 {n d : Nat} {M : zM} (hd : 2 ≤ d) (hC : qMI M)  (a1 : Int) (ha1 : 0 ≤ a1 ∧ a1 ≤ 6) (a2 : Int) (ha2 : 0 ≤ a2 ∧ a2 ≤ 249) : qOkP n d 213 [.inr (.inr (some 97)), .inl a1, .inl a2] 4 M (fun v => ∃ x : Int, v = some (.inl x) ∧ ((-1) ≤ x ∧ x ≤ 249) ∧ (x ≠ -1 → x < M 98 4 ∧ a2 < x ∧ qA M x 0 = a1 ∧ qA M x 6 = a2)) := by
  have hz := zp_213
  have hd0 : 0 < d := by omega
  have r1 := hC.cnt4
  show zG n (0, 0) d 213 (0, [.inr (.inr (some 97)), .inl a1, .inl a2, zN], []) M _
  refine zG_w (c' := (5, [.inr (.inr (some 97)), .inl a1, .inl a2, zN], [.inl 4, .inr (.inr (some 98))])) 3 hd0 hz (by rfl) ?_
  refine zG_iald hd0 hz rfl rfl (.inl rfl) (by omega) ?_
  show zG n (0, 0) d 213 (6, [.inr (.inr (some 97)), .inl a1, .inl a2, zN], [.inl (M 98 4)]) M _
  obtain ⟨x2, hx2⟩ : ∃ x : Int, x = w32 ((M 98 4) - 1) := ⟨_, rfl⟩
  have hx2e : x2 = (M 98 4) - 1 := by rw [hx2]; exact w32_id (by omega)
  refine zG_w (c' := (9, [.inr (.inr (some 97)), .inl a1, .inl a2, .inl x2], [])) 3 hd0 hz (by subst hx2; rfl) ?_
  have j9 : ∀ (N : Nat) (v3 : Int) , (v3 + 1 : Int).toNat < N → (-1) ≤ v3 ∧ v3 ≤ 249 → (v3 < M 98 4) → zG n (0, 0) d 213 (9, [.inr (.inr (some 97)), .inl a1, .inl a2, .inl v3], []) M (fun v M' => M' = M ∧ ∃ x : Int, v = some (.inl x) ∧ ((-1) ≤ x ∧ x ≤ 249) ∧ (x ≠ -1 → x < M 98 4 ∧ a2 < x ∧ qA M x 0 = a1 ∧ qA M x 6 = a2)) := by
    intro N
    induction N with
    | zero => intro v3 hN hv3 hx0_9; exact absurd hN (Nat.not_lt_zero _)
    | succ N ih9 =>
      intro v3 hN hv3 hx0_9
      replace hN : v3 + 1 < (N : Int) + 1 := by omega
      refine zG_wi_le (pc := 11) (n' := 14) (t := 52) (L := [.inr (.inr (some 97)), .inl a1, .inl a2, .inl v3]) (st := []) (x := v3) (y := a2) 2 hd0 hz (by rfl) (fun hb4 => ?_) (fun hb4 => ?_)
      · exact zG_wr (r := some (.inl (-1))) 1 hd0 hz (by rfl) ⟨rfl, _, rfl, by omega, by omega⟩
      · refine zG_w (c' := (19, [.inr (.inr (some 97)), .inl a1, .inl a2, .inl v3], [.inl v3, .inr (.inr (some 101))])) 3 hd0 hz (by rfl) ?_
        refine zG_bald hd0 hz rfl rfl (.inl rfl) (by omega) ?_
        obtain ⟨x5, hx5⟩ : ∃ x : Int, x = M 101 (v3 : Int).toNat := ⟨_, rfl⟩
        rw [← hx5]
        have hx5r : x5 = 0 ∨ x5 = 1 := by rw [hx5]; exact hC.bl101 _
        show zG n (0, 0) d 213 (20, [.inr (.inr (some 97)), .inl a1, .inl a2, .inl v3], [.inl x5]) M _
        have j46 : zG n (0, 0) d 213 (46, [.inr (.inr (some 97)), .inl a1, .inl a2, .inl v3], []) M (fun v M' => M' = M ∧ ∃ x : Int, v = some (.inl x) ∧ ((-1) ≤ x ∧ x ≤ 249) ∧ (x ≠ -1 → x < M 98 4 ∧ a2 < x ∧ qA M x 0 = a1 ∧ qA M x 6 = a2)) := by
          obtain ⟨x6, hx6⟩ : ∃ x : Int, x = w32 (v3 + (-1)) := ⟨_, rfl⟩
          have hx6e : x6 = v3 + (-1) := by rw [hx6]; exact w32_id (by omega)
          refine zG_w (c' := (9, [.inr (.inr (some 97)), .inl a1, .inl a2, .inl x6], [])) 2 hd0 hz (by subst hx6; rfl) ?_
          exact ih9 x6 (by omega) (by omega) (by omega)
        refine zG_wf_eq (pc := 20) (n' := 23) (t := 46) (L := [.inr (.inr (some 97)), .inl a1, .inl a2, .inl v3]) (st := []) (x := x5) 0 hd0 hz (by rfl) (fun hb7 => ?_) (fun hb7 => ?_)
        · exact j46
        · refine zG_wp (pc := 29) (L := [.inr (.inr (some 97)), .inl a1, .inl a2, .inl v3]) (st := []) 3 hd0 hz zp_194 (qx_act0 (by first | exact zdk hd rfl | omega) hC   v3 (by first | with_reducible exact hv3 | omega) 0 (by first | decide | omega) ) (by rfl) (fun x9 hx9 => ?_)
          refine zG_wi_ne (pc := 30) (n' := 33) (t := 46) (L := [.inr (.inr (some 97)), .inl a1, .inl a2, .inl v3]) (st := []) (x := x9) (y := a1) 1 hd0 hz (by rfl) (fun hb10 => ?_) (fun hb10 => ?_)
          · exact j46
          · refine zG_wp (pc := 40) (L := [.inr (.inr (some 97)), .inl a1, .inl a2, .inl v3]) (st := []) 3 hd0 hz zp_194 (qx_act6 (by first | exact zdk hd rfl | omega) hC   v3 (by first | with_reducible exact hv3 | omega) ) (by rfl) (fun x12 hx12 => ?_)
            refine zG_wi_ne (pc := 41) (n' := 44) (t := 46) (L := [.inr (.inr (some 97)), .inl a1, .inl a2, .inl v3]) (st := []) (x := x12) (y := a2) 1 hd0 hz (by rfl) (fun hb13 => ?_) (fun hb13 => ?_)
            · exact j46
            · exact zG_wr (r := some (.inl v3)) 1 hd0 hz (by rfl) ⟨rfl, _, rfl, by omega, by omega⟩
  exact j9 ((x2 + 1 : Int).toNat + 1) x2 (by omega) (by omega) (by omega)
theorem qm_214_97 {n d : Nat} {M : zM} (hd : 2 ≤ d) (hC : qMI M)  (a1 : Int) (ha1 : 0 ≤ a1 ∧ a1 ≤ 249) : qOkP n d 214 [.inr (.inr (some 97)), .inl a1] 3 M (fun v => ∃ x : Int, v = some (.inl x) ∧ ((-1) ≤ x ∧ x ≤ 249) ∧ (x ≠ -1 → x < M 98 4 ∧ qA M x 0 = 3)) := by
  have hz := zp_214
  have hd0 : 0 < d := by omega
  have r1 := hC.cnt4
  show zG n (0, 0) d 214 (0, [.inr (.inr (some 97)), .inl a1, zN], []) M _
  refine zG_w (c' := (5, [.inr (.inr (some 97)), .inl a1, zN], [.inl 4, .inr (.inr (some 98))])) 3 hd0 hz (by rfl) ?_
  refine zG_iald hd0 hz rfl rfl (.inl rfl) (by omega) ?_
  show zG n (0, 0) d 214 (6, [.inr (.inr (some 97)), .inl a1, zN], [.inl (M 98 4)]) M _
  obtain ⟨x2, hx2⟩ : ∃ x : Int, x = w32 ((M 98 4) - 1) := ⟨_, rfl⟩
  have hx2e : x2 = (M 98 4) - 1 := by rw [hx2]; exact w32_id (by omega)
  refine zG_w (c' := (9, [.inr (.inr (some 97)), .inl a1, .inl x2], [])) 3 hd0 hz (by subst hx2; rfl) ?_
  have j9 : ∀ (N : Nat) (v3 : Int) , (v3 + 1 : Int).toNat < N → (-1) ≤ v3 ∧ v3 ≤ 249 → (v3 < M 98 4) → zG n (0, 0) d 214 (9, [.inr (.inr (some 97)), .inl a1, .inl v3], []) M (fun v M' => M' = M ∧ ∃ x : Int, v = some (.inl x) ∧ ((-1) ≤ x ∧ x ≤ 249) ∧ (x ≠ -1 → x < M 98 4 ∧ qA M x 0 = 3)) := by
    intro N
    induction N with
    | zero => intro v3 hN hv3 hx0_9; exact absurd hN (Nat.not_lt_zero _)
    | succ N ih9 =>
      intro v3 hN hv3 hx0_9
      replace hN : v3 + 1 < (N : Int) + 1 := by omega
      refine zG_wf_lt (pc := 10) (n' := 13) (t := 70) (L := [.inr (.inr (some 97)), .inl a1, .inl v3]) (st := []) (x := v3) 1 hd0 hz (by rfl) (fun hb4 => ?_) (fun hb4 => ?_)
      · exact zG_wr (r := some (.inl (-1))) 1 hd0 hz (by rfl) ⟨rfl, _, rfl, by omega, by omega⟩
      · refine zG_w (c' := (18, [.inr (.inr (some 97)), .inl a1, .inl v3], [.inl v3, .inr (.inr (some 101))])) 3 hd0 hz (by rfl) ?_
        refine zG_bald hd0 hz rfl rfl (.inl rfl) (by omega) ?_
        obtain ⟨x5, hx5⟩ : ∃ x : Int, x = M 101 (v3 : Int).toNat := ⟨_, rfl⟩
        rw [← hx5]
        have hx5r : x5 = 0 ∨ x5 = 1 := by rw [hx5]; exact hC.bl101 _
        show zG n (0, 0) d 214 (19, [.inr (.inr (some 97)), .inl a1, .inl v3], [.inl x5]) M _
        have j64 : zG n (0, 0) d 214 (64, [.inr (.inr (some 97)), .inl a1, .inl v3], []) M (fun v M' => M' = M ∧ ∃ x : Int, v = some (.inl x) ∧ ((-1) ≤ x ∧ x ≤ 249) ∧ (x ≠ -1 → x < M 98 4 ∧ qA M x 0 = 3)) := by
          obtain ⟨x6, hx6⟩ : ∃ x : Int, x = w32 (v3 + (-1)) := ⟨_, rfl⟩
          have hx6e : x6 = v3 + (-1) := by rw [hx6]; exact w32_id (by omega)
          refine zG_w (c' := (9, [.inr (.inr (some 97)), .inl a1, .inl x6], [])) 2 hd0 hz (by subst hx6; rfl) ?_
          exact ih9 x6 (by omega) (by omega) (by omega)
        refine zG_wf_eq (pc := 19) (n' := 22) (t := 64) (L := [.inr (.inr (some 97)), .inl a1, .inl v3]) (st := []) (x := x5) 0 hd0 hz (by rfl) (fun hb7 => ?_) (fun hb7 => ?_)
        · exact j64
        · refine zG_wp (pc := 28) (L := [.inr (.inr (some 97)), .inl a1, .inl v3]) (st := []) 3 hd0 hz zp_194 (qx_act0 (by first | exact zdk hd rfl | omega) hC   v3 (by first | with_reducible exact hv3 | omega) 0 (by first | decide | omega) ) (by rfl) (fun x9 hx9 => ?_)
          refine zG_wi_ne (pc := 29) (n' := 32) (t := 64) (L := [.inr (.inr (some 97)), .inl a1, .inl v3]) (st := []) (x := x9) (y := 3) 1 hd0 hz (by rfl) (fun hb10 => ?_) (fun hb10 => ?_)
          · exact j64
          · refine zG_wp (pc := 38) (L := [.inr (.inr (some 97)), .inl a1, .inl v3]) (st := []) 3 hd0 hz zp_194 (qx_act5 (by first | exact zdk hd rfl | omega) hC   v3 (by first | with_reducible exact hv3 | omega) ) (by rfl) (fun x12 hx12 => ?_)
            refine zG_wp (pc := 44) (L := [.inr (.inr (some 97)), .inl a1, .inl v3]) (st := [.inl x12]) 3 hd0 hz zp_194 (qx_act5 (by first | exact zdk hd rfl | omega) hC   a1 (by first | with_reducible exact ha1 | omega) ) (by rfl) (fun x14 hx14 => ?_)
            refine zG_wi_ne (pc := 44) (n' := 47) (t := 64) (L := [.inr (.inr (some 97)), .inl a1, .inl v3]) (st := []) (x := x12) (y := x14) 0 hd0 hz (by rfl) (fun hb15 => ?_) (fun hb15 => ?_)
            · exact j64
            · refine zG_wp (pc := 53) (L := [.inr (.inr (some 97)), .inl a1, .inl v3]) (st := []) 3 hd0 hz zp_194 (qx_act0 (by first | exact zdk hd rfl | omega) hC   v3 (by first | with_reducible exact hv3 | omega) 1 (by first | decide | omega) ) (by rfl) (fun x17 hx17 => ?_)
              refine zG_wp (pc := 59) (L := [.inr (.inr (some 97)), .inl a1, .inl v3]) (st := [.inl x17]) 3 hd0 hz zp_194 (qx_act0 (by first | exact zdk hd rfl | omega) hC   a1 (by first | with_reducible exact ha1 | omega) 1 (by first | decide | omega) ) (by rfl) (fun x19 hx19 => ?_)
              refine zG_wi_lt (pc := 59) (n' := 62) (t := 64) (L := [.inr (.inr (some 97)), .inl a1, .inl v3]) (st := []) (x := x17) (y := x19) 0 hd0 hz (by rfl) (fun hb20 => ?_) (fun hb20 => ?_)
              · exact j64
              · exact zG_wr (r := some (.inl v3)) 1 hd0 hz (by rfl) ⟨rfl, _, rfl, by omega, by omega⟩
  exact j9 ((x2 + 1 : Int).toNat + 1) x2 (by omega) (by omega) (by omega)
theorem qm_215_97 {n d : Nat} {M : zM} (hd : 2 ≤ d) (hC : qMI M)  (a1 : Int) (ha1 : 0 ≤ a1 ∧ a1 ≤ 249) : qOkP n d 215 [.inr (.inr (some 97)), .inl a1] 4 M (fun v => ∃ x : Int, v = some (.inl x) ∧ (0 ≤ x ∧ x ≤ 1)) := by
  have hz := zp_215
  have hd0 : 0 < d := by omega
  have r1 := hC.cnt4
  show zG n (0, 0) d 215 (0, [.inr (.inr (some 97)), .inl a1, zN, zN], []) M _
  refine zG_w (c' := (2, [.inr (.inr (some 97)), .inl a1, .inl 0, zN], [])) 2 hd0 hz (by rfl) ?_
  have j2 : ∀ (N : Nat) (v2 : Int) , (250 - v2 : Int).toNat < N → 0 ≤ v2 ∧ v2 ≤ 250 → zG n (0, 0) d 215 (2, [.inr (.inr (some 97)), .inl a1, .inl v2, zN], []) M (fun v M' => M' = M ∧ ∃ x : Int, v = some (.inl x) ∧ (0 ≤ x ∧ x ≤ 1)) := by
    intro N
    induction N with
    | zero => intro v2 hN hv2; exact absurd hN (Nat.not_lt_zero _)
    | succ N ih2 =>
      intro v2 hN hv2
      replace hN : 250 - v2 < (N : Int) + 1 := by omega
      refine zG_w (c' := (8, [.inr (.inr (some 97)), .inl a1, .inl v2, zN], [.inl 4, .inr (.inr (some 98)), .inl v2])) 4 hd0 hz (by rfl) ?_
      refine zG_iald hd0 hz rfl rfl (.inl rfl) (by omega) ?_
      show zG n (0, 0) d 215 (9, [.inr (.inr (some 97)), .inl a1, .inl v2, zN], [.inl (M 98 4), .inl v2]) M _
      refine zG_wi_ge (pc := 9) (n' := 12) (t := 118) (L := [.inr (.inr (some 97)), .inl a1, .inl v2, zN]) (st := []) (x := v2) (y := (M 98 4)) 0 hd0 hz (by rfl) (fun hb3 => ?_) (fun hb3 => ?_)
      · exact zG_wr (r := some (.inl 0)) 1 hd0 hz (by rfl) ⟨rfl, _, rfl, by omega⟩
      · refine zG_w (c' := (14, [.inr (.inr (some 97)), .inl a1, .inl v2, zN], [.inl a1, .inl v2])) 2 hd0 hz (by rfl) ?_
        have j70 : ∀ (v4 : Int) , 0 ≤ v4 ∧ v4 ≤ 1 → zG n (0, 0) d 215 (70, [.inr (.inr (some 97)), .inl a1, .inl v2, zN], [.inl v4]) M (fun v M' => M' = M ∧ ∃ x : Int, v = some (.inl x) ∧ (0 ≤ x ∧ x ≤ 1)) := by
          intro v4 hv4
          refine zG_w (c' := (72, [.inr (.inr (some 97)), .inl a1, .inl v2, .inl v4], [.inl v4])) 2 hd0 hz (by rfl) ?_
          have j112 : zG n (0, 0) d 215 (112, [.inr (.inr (some 97)), .inl a1, .inl v2, .inl v4], []) M (fun v M' => M' = M ∧ ∃ x : Int, v = some (.inl x) ∧ (0 ≤ x ∧ x ≤ 1)) := by
            obtain ⟨x5, hx5⟩ : ∃ x : Int, x = w32 (v2 + 1) := ⟨_, rfl⟩
            have hx5e : x5 = v2 + 1 := by rw [hx5]; exact w32_id (by omega)
            refine zG_w (c' := (2, [.inr (.inr (some 97)), .inl a1, .inl x5, .inl v4], [])) 2 hd0 hz (by subst hx5; rfl) ?_
            exact zG_weak (ih2 x5 (by omega) (by omega)) ⟨.inr rfl, .inr rfl, .inr rfl, .inl rfl, trivial⟩
          refine zG_wf_eq (pc := 72) (n' := 75) (t := 112) (L := [.inr (.inr (some 97)), .inl a1, .inl v2, .inl v4]) (st := []) (x := v4) 0 hd0 hz (by rfl) (fun hb6 => ?_) (fun hb6 => ?_)
          · exact j112
          · refine zG_wp (pc := 81) (L := [.inr (.inr (some 97)), .inl a1, .inl v2, .inl v4]) (st := []) 3 hd0 hz zp_194 (qx_act0 (by first | exact zdk hd rfl | omega) hC   v2 (by first | with_reducible exact hv2 | omega) 1 (by first | decide | omega) ) (by rfl) (fun x8 hx8 => ?_)
            refine zG_wp (pc := 87) (L := [.inr (.inr (some 97)), .inl a1, .inl v2, .inl v4]) (st := [.inl x8]) 3 hd0 hz zp_194 (qx_act0 (by first | exact zdk hd rfl | omega) hC   a1 (by first | with_reducible exact ha1 | omega) 1 (by first | decide | omega) ) (by rfl) (fun x10 hx10 => ?_)
            have j110 : zG n (0, 0) d 215 (110, [.inr (.inr (some 97)), .inl a1, .inl v2, .inl v4], []) M (fun v M' => M' = M ∧ ∃ x : Int, v = some (.inl x) ∧ (0 ≤ x ∧ x ≤ 1)) := by
              exact zG_wr (r := some (.inl 1)) 1 hd0 hz (by rfl) ⟨rfl, _, rfl, by omega⟩
            refine zG_wi_lt (pc := 87) (n' := 90) (t := 110) (L := [.inr (.inr (some 97)), .inl a1, .inl v2, .inl v4]) (st := []) (x := x8) (y := x10) 0 hd0 hz (by rfl) (fun hb11 => ?_) (fun hb11 => ?_)
            · exact j110
            · refine zG_wp (pc := 96) (L := [.inr (.inr (some 97)), .inl a1, .inl v2, .inl v4]) (st := []) 3 hd0 hz zp_194 (qx_act0 (by first | exact zdk hd rfl | omega) hC   v2 (by first | with_reducible exact hv2 | omega) 1 (by first | decide | omega) ) (by rfl) (fun x13 hx13 => ?_)
              refine zG_wp (pc := 102) (L := [.inr (.inr (some 97)), .inl a1, .inl v2, .inl v4]) (st := [.inl x13]) 3 hd0 hz zp_194 (qx_act0 (by first | exact zdk hd rfl | omega) hC   a1 (by first | with_reducible exact ha1 | omega) 1 (by first | decide | omega) ) (by rfl) (fun x15 hx15 => ?_)
              refine zG_wi_ne (pc := 102) (n' := 105) (t := 112) (L := [.inr (.inr (some 97)), .inl a1, .inl v2, .inl v4]) (st := []) (x := x13) (y := x15) 0 hd0 hz (by rfl) (fun hb16 => ?_) (fun hb16 => ?_)
              · exact j112
              · refine zG_wi_ge (pc := 107) (n' := 110) (t := 112) (L := [.inr (.inr (some 97)), .inl a1, .inl v2, .inl v4]) (st := []) (x := v2) (y := a1) 2 hd0 hz (by rfl) (fun hb17 => ?_) (fun hb17 => ?_)
                · exact j112
                · exact j110
        have j69 : zG n (0, 0) d 215 (69, [.inr (.inr (some 97)), .inl a1, .inl v2, zN], []) M (fun v M' => M' = M ∧ ∃ x : Int, v = some (.inl x) ∧ (0 ≤ x ∧ x ≤ 1)) := by
          refine zG_w (c' := (70, [.inr (.inr (some 97)), .inl a1, .inl v2, zN], [.inl 0])) 1 hd0 hz (by rfl) ?_
          exact j70 0 (by first | decide | omega)
        refine zG_wi_eq (pc := 14) (n' := 17) (t := 69) (L := [.inr (.inr (some 97)), .inl a1, .inl v2, zN]) (st := []) (x := v2) (y := a1) 0 hd0 hz (by rfl) (fun hb18 => ?_) (fun hb18 => ?_)
        · exact j69
        · refine zG_w (c' := (22, [.inr (.inr (some 97)), .inl a1, .inl v2, zN], [.inl v2, .inr (.inr (some 101))])) 3 hd0 hz (by rfl) ?_
          refine zG_bald hd0 hz rfl rfl (.inl rfl) (by omega) ?_
          obtain ⟨x19, hx19⟩ : ∃ x : Int, x = M 101 (v2 : Int).toNat := ⟨_, rfl⟩
          rw [← hx19]
          have hx19r : x19 = 0 ∨ x19 = 1 := by rw [hx19]; exact hC.bl101 _
          show zG n (0, 0) d 215 (23, [.inr (.inr (some 97)), .inl a1, .inl v2, zN], [.inl x19]) M _
          refine zG_wf_eq (pc := 23) (n' := 26) (t := 69) (L := [.inr (.inr (some 97)), .inl a1, .inl v2, zN]) (st := []) (x := x19) 0 hd0 hz (by rfl) (fun hb20 => ?_) (fun hb20 => ?_)
          · exact j69
          · refine zG_wp (pc := 32) (L := [.inr (.inr (some 97)), .inl a1, .inl v2, zN]) (st := []) 3 hd0 hz zp_194 (qx_act0 (by first | exact zdk hd rfl | omega) hC   v2 (by first | with_reducible exact hv2 | omega) 0 (by first | decide | omega) ) (by rfl) (fun x22 hx22 => ?_)
            refine zG_wf_ne (pc := 32) (n' := 35) (t := 69) (L := [.inr (.inr (some 97)), .inl a1, .inl v2, zN]) (st := []) (x := x22) 0 hd0 hz (by rfl) (fun hb23 => ?_) (fun hb23 => ?_)
            · exact j69
            · refine zG_wp (pc := 41) (L := [.inr (.inr (some 97)), .inl a1, .inl v2, zN]) (st := []) 3 hd0 hz zp_194 (qx_act4 (by first | exact zdk hd rfl | omega) hC   v2 (by first | with_reducible exact hv2 | omega) ) (by rfl) (fun x25 hx25 => ?_)
              refine zG_wp (pc := 47) (L := [.inr (.inr (some 97)), .inl a1, .inl v2, zN]) (st := [.inl x25]) 3 hd0 hz zp_194 (qx_act4 (by first | exact zdk hd rfl | omega) hC   a1 (by first | with_reducible exact ha1 | omega) ) (by rfl) (fun x27 hx27 => ?_)
              refine zG_wi_ne (pc := 47) (n' := 50) (t := 69) (L := [.inr (.inr (some 97)), .inl a1, .inl v2, zN]) (st := []) (x := x25) (y := x27) 0 hd0 hz (by rfl) (fun hb28 => ?_) (fun hb28 => ?_)
              · exact j69
              · refine zG_wp (pc := 56) (L := [.inr (.inr (some 97)), .inl a1, .inl v2, zN]) (st := []) 3 hd0 hz zp_194 (qx_act5 (by first | exact zdk hd rfl | omega) hC   v2 (by first | with_reducible exact hv2 | omega) ) (by rfl) (fun x30 hx30 => ?_)
                refine zG_wp (pc := 62) (L := [.inr (.inr (some 97)), .inl a1, .inl v2, zN]) (st := [.inl x30]) 3 hd0 hz zp_194 (qx_act5 (by first | exact zdk hd rfl | omega) hC   a1 (by first | with_reducible exact ha1 | omega) ) (by rfl) (fun x32 hx32 => ?_)
                refine zG_wi_ne (pc := 62) (n' := 65) (t := 69) (L := [.inr (.inr (some 97)), .inl a1, .inl v2, zN]) (st := []) (x := x30) (y := x32) 0 hd0 hz (by rfl) (fun hb33 => ?_) (fun hb33 => ?_)
                · exact j69
                · refine zG_w (c' := (70, [.inr (.inr (some 97)), .inl a1, .inl v2, zN], [.inl 1])) 2 hd0 hz (by rfl) ?_
                  exact j70 1 (by first | decide | omega)
  exact j2 ((250 - 0 : Int).toNat + 1) 0 (by first | decide | omega) (by omega)
theorem qm_216_97 {n d : Nat} {M : zM} (hd : 3 ≤ d) (hC : qMI M)  (a1 : Int) (ha1 : 0 ≤ a1 ∧ a1 ≤ 249) (a2 : Int) (ha2 : 0 ≤ a2 ∧ a2 ≤ 4) : qOkP n d 216 [.inr (.inr (some 97)), .inl a1, .inl a2] 8 M (fun v => ∃ x : Int, v = some (.inl x) ∧ ((-2147483648) ≤ x ∧ x ≤ 2147483647)) := by
  have hz := zp_216
  have hd0 : 0 < d := by omega
  have r1 := hC.cnt4
  show zG n (0, 0) d 216 (0, [.inr (.inr (some 97)), .inl a1, .inl a2, zN, zN, zN, zN, zN], []) M _
  refine zG_wp (pc := 7) (L := [.inr (.inr (some 97)), .inl a1, .inl a2, zN, zN, zN, zN, zN]) (st := []) 3 hd0 hz zp_194 (qx_act0 (by first | exact zdk hd rfl | omega) hC   a1 (by first | with_reducible exact ha1 | omega) 7 (by first | decide | omega) ) (by rfl) (fun x3 hx3 => ?_)
  refine zG_w (c' := (9, [.inr (.inr (some 97)), .inl a1, .inl a2, .inl x3, zN, zN, zN, zN], [.inl a2])) 2 hd0 hz (by rfl) ?_
  have j22 : ∀ (v4 : Int) , (-1) ≤ v4 ∧ v4 ≤ 249 → zG n (0, 0) d 216 (22, [.inr (.inr (some 97)), .inl a1, .inl a2, .inl x3, zN, zN, zN, zN], [.inl v4]) M (fun v M' => M' = M ∧ ∃ x : Int, v = some (.inl x) ∧ ((-2147483648) ≤ x ∧ x ≤ 2147483647)) := by
    intro v4 hv4
    refine zG_w (c' := (27, [.inr (.inr (some 97)), .inl a1, .inl a2, .inl x3, .inl v4, zN, zN, zN], [.inl (-1), .inl v4])) 3 hd0 hz (by rfl) ?_
    have j80 : ∀ (v5 : Int) , (-2147483648) ≤ v5 ∧ v5 ≤ 2147483647 → zG n (0, 0) d 216 (80, [.inr (.inr (some 97)), .inl a1, .inl a2, .inl v5, .inl v4, zN, zN, zN], []) M (fun v M' => M' = M ∧ ∃ x : Int, v = some (.inl x) ∧ ((-2147483648) ≤ x ∧ x ≤ 2147483647)) := by
      intro v5 hv5
      refine zG_w (c' := (82, [.inr (.inr (some 97)), .inl a1, .inl a2, .inl v5, .inl v4, zN, zN, zN], [.inl 1, .inl a2])) 2 hd0 hz (by rfl) ?_
      have j95 : ∀ (v6 : Int) , (-1) ≤ v6 ∧ v6 ≤ 249 → zG n (0, 0) d 216 (95, [.inr (.inr (some 97)), .inl a1, .inl a2, .inl v5, .inl v4, zN, zN, zN], [.inl v6]) M (fun v M' => M' = M ∧ ∃ x : Int, v = some (.inl x) ∧ ((-2147483648) ≤ x ∧ x ≤ 2147483647)) := by
        intro v6 hv6
        refine zG_w (c' := (100, [.inr (.inr (some 97)), .inl a1, .inl a2, .inl v5, .inl v4, .inl v6, zN, zN], [.inl (-1), .inl v6])) 3 hd0 hz (by rfl) ?_
        have j115 : ∀ (v7 : Int) , (-2147483648) ≤ v7 ∧ v7 ≤ 2147483647 → zG n (0, 0) d 216 (115, [.inr (.inr (some 97)), .inl a1, .inl a2, .inl v5, .inl v4, .inl v6, zN, zN], [.inl v7]) M (fun v M' => M' = M ∧ ∃ x : Int, v = some (.inl x) ∧ ((-2147483648) ≤ x ∧ x ≤ 2147483647)) := by
          intro v7 hv7
          refine zG_w (c' := (118, [.inr (.inr (some 97)), .inl a1, .inl a2, .inl v7, .inl v4, .inl v6, zN, zN], [.inl 2, .inl a2])) 3 hd0 hz (by rfl) ?_
          have j130 : ∀ (v8 : Int) , (-1) ≤ v8 ∧ v8 ≤ 249 → (v8 ≠ -1 → v8 < M 98 4 ∧ qA M v8 0 = 3) → zG n (0, 0) d 216 (130, [.inr (.inr (some 97)), .inl a1, .inl a2, .inl v7, .inl v4, .inl v6, zN, zN], [.inl v8]) M (fun v M' => M' = M ∧ ∃ x : Int, v = some (.inl x) ∧ ((-2147483648) ≤ x ∧ x ≤ 2147483647)) := by
            intro v8 hv8 hx0_130
            refine zG_w (c' := (135, [.inr (.inr (some 97)), .inl a1, .inl a2, .inl v7, .inl v4, .inl v6, .inl v8, zN], [.inl (-1), .inl v8])) 3 hd0 hz (by rfl) ?_
            have j188 : ∀ (v9 : Int) , (-2147483648) ≤ v9 ∧ v9 ≤ 2147483647 → zG n (0, 0) d 216 (188, [.inr (.inr (some 97)), .inl a1, .inl a2, .inl v9, .inl v4, .inl v6, .inl v8, zN], []) M (fun v M' => M' = M ∧ ∃ x : Int, v = some (.inl x) ∧ ((-2147483648) ≤ x ∧ x ≤ 2147483647)) := by
              intro v9 hv9
              refine zG_wp (pc := 201) (L := [.inr (.inr (some 97)), .inl a1, .inl a2, .inl v9, .inl v4, .inl v6, .inl v8, zN]) (st := [.inl 4, .inl 20, .inr (.inr (some 98))]) 7 hd0 hz zp_194 (qx_act5 (by first | exact zdk hd rfl | omega) hC   a1 (by first | with_reducible exact ha1 | omega) ) (by rfl) (fun x11 hx11 => ?_)
              obtain ⟨x12, hx12⟩ : ∃ x : Int, x = w32 (4 * x11) := ⟨_, rfl⟩
              have hx12e : x12 = 4 * x11 := by rw [hx12]; exact w32_id (by omega)
              obtain ⟨x13, hx13⟩ : ∃ x : Int, x = w32 (20 + x12) := ⟨_, rfl⟩
              have hx13e : x13 = 20 + x12 := by rw [hx13]; exact w32_id (by omega)
              obtain ⟨x14, hx14⟩ : ∃ x : Int, x = w32 (x13 + 3) := ⟨_, rfl⟩
              have hx14e : x14 = x13 + 3 := by rw [hx14]; exact w32_id (by omega)
              refine zG_w (c' := (205, [.inr (.inr (some 97)), .inl a1, .inl a2, .inl v9, .inl v4, .inl v6, .inl v8, zN], [.inl x14, .inr (.inr (some 98))])) 4 hd0 hz (by subst hx14; subst hx13; subst hx12; rfl) ?_
              refine zG_iald hd0 hz rfl rfl (.inl rfl) (by omega) ?_
              obtain ⟨x15, hx15⟩ : ∃ x : Int, x = M 98 (x14 : Int).toNat := ⟨_, rfl⟩
              rw [← hx15]
              have hx15r : qin x15 := by rw [hx15]; exact hC.sin _
              show zG n (0, 0) d 216 (206, [.inr (.inr (some 97)), .inl a1, .inl a2, .inl v9, .inl v4, .inl v6, .inl v8, zN], [.inl x15]) M _
              refine zG_w (c' := (210, [.inr (.inr (some 97)), .inl a1, .inl a2, .inl v9, .inl v4, .inl v6, .inl v8, .inl x15], [.inl 3, .inl a2])) 3 hd0 hz (by rfl) ?_
              have j233 : ∀ (v16 : Int) , (-2147483648) ≤ v16 ∧ v16 ≤ 2147483647 → zG n (0, 0) d 216 (233, [.inr (.inr (some 97)), .inl a1, .inl a2, .inl v9, .inl v4, .inl v6, .inl v8, .inl x15], [.inl v16]) M (fun v M' => M' = M ∧ ∃ x : Int, v = some (.inl x) ∧ ((-2147483648) ≤ x ∧ x ≤ 2147483647)) := by
                intro v16 hv16
                exact zG_wr (r := some (.inl v16)) 0 hd0 hz (by rfl) ⟨rfl, _, rfl, by omega⟩
              have j232 : zG n (0, 0) d 216 (232, [.inr (.inr (some 97)), .inl a1, .inl a2, .inl v9, .inl v4, .inl v6, .inl v8, .inl x15], []) M (fun v M' => M' = M ∧ ∃ x : Int, v = some (.inl x) ∧ ((-2147483648) ≤ x ∧ x ≤ 2147483647)) := by
                refine zG_w (c' := (233, [.inr (.inr (some 97)), .inl a1, .inl a2, .inl v9, .inl v4, .inl v6, .inl v8, .inl x15], [.inl v9])) 1 hd0 hz (by rfl) ?_
                exact j233 v9 (by first | with_reducible exact hv9 | omega)
              refine zG_wi_le (pc := 210) (n' := 213) (t := 232) (L := [.inr (.inr (some 97)), .inl a1, .inl a2, .inl v9, .inl v4, .inl v6, .inl v8, .inl x15]) (st := []) (x := a2) (y := 3) 0 hd0 hz (by rfl) (fun hb17 => ?_) (fun hb17 => ?_)
              · exact j232
              · refine zG_wi_le (pc := 216) (n' := 219) (t := 232) (L := [.inr (.inr (some 97)), .inl a1, .inl a2, .inl v9, .inl v4, .inl v6, .inl v8, .inl x15]) (st := []) (x := v9) (y := x15) 2 hd0 hz (by rfl) (fun hb18 => ?_) (fun hb18 => ?_)
                · exact j232
                · refine zG_wp (pc := 224) (L := [.inr (.inr (some 97)), .inl a1, .inl a2, .inl v9, .inl v4, .inl v6, .inl v8, .inl x15]) (st := []) 2 hd0 hz zp_215 (qm_215_97 (by first | exact zdk hd rfl | omega) hC   a1 (by first | with_reducible exact ha1 | omega) ) (by rfl) (fun x20 hx20 => ?_)
                  refine zG_wf_eq (pc := 224) (n' := 227) (t := 232) (L := [.inr (.inr (some 97)), .inl a1, .inl a2, .inl v9, .inl v4, .inl v6, .inl v8, .inl x15]) (st := []) (x := x20) 0 hd0 hz (by rfl) (fun hb21 => ?_) (fun hb21 => ?_)
                  · exact j232
                  · refine zG_w (c' := (233, [.inr (.inr (some 97)), .inl a1, .inl a2, .inl v9, .inl v4, .inl v6, .inl v8, .inl x15], [.inl x15])) 2 hd0 hz (by rfl) ?_
                    exact j233 x15 (by omega)
            refine zG_wi_eq (pc := 135) (n' := 138) (t := 188) (L := [.inr (.inr (some 97)), .inl a1, .inl a2, .inl v7, .inl v4, .inl v6, .inl v8, zN]) (st := []) (x := v8) (y := (-1)) 0 hd0 hz (by rfl) (fun hb22 => ?_) (fun hb22 => ?_)
            · exact j188 v7 (by first | with_reducible exact hv7 | omega)
            · have hrel := (hC.rel v8 (by first | with_reducible exact hv8 | omega) (by omega)).2.2.2.2.2.2.2.2.2 (by omega)
              refine zG_wp (pc := 147) (L := [.inr (.inr (some 97)), .inl a1, .inl a2, .inl v7, .inl v4, .inl v6, .inl v8, zN]) (st := [.inl v7]) 4 hd0 hz zp_194 (qx_act0 (by first | exact zdk hd rfl | omega) hC   v8 (by first | with_reducible exact hv8 | omega) 9 (by first | decide | omega) ) (by rfl) (fun x24 hx24 => ?_)
              obtain ⟨x25, hx25⟩ : ∃ x : Int, x = w32 (v7 * x24) := ⟨_, rfl⟩
              have hx25r : qin x25 := by rw [hx25]; exact w32_in _
              refine zG_wp (pc := 156) (L := [.inr (.inr (some 97)), .inl a1, .inl a2, .inl v7, .inl v4, .inl v6, .inl v8, zN]) (st := [.inl x25]) 4 hd0 hz zp_194 (qx_act0 (by first | exact zdk hd rfl | omega) hC   v8 (by first | with_reducible exact hv8 | omega) 10 (by first | decide | omega) ) (by subst hx25; rfl) (fun x27 hx27 => ?_)
              refine zG_idiv hd0 hz rfl (by omega) ?_
              have hx28 := w32_in (x25.tdiv x27)
              generalize w32 (x25.tdiv x27) = x28 at hx28 ⊢
              show zG n (0, 0) d 216 (157, [.inr (.inr (some 97)), .inl a1, .inl a2, .inl v7, .inl v4, .inl v6, .inl v8, zN], [.inl x28]) M _
              refine zG_wp (pc := 165) (L := [.inr (.inr (some 97)), .inl a1, .inl a2, .inl v7, .inl v4, .inl v6, .inl v8, zN]) (st := [.inl x28]) 3 hd0 hz zp_194 (qx_act0 (by first | exact zdk hd rfl | omega) hC   v8 (by first | with_reducible exact hv8 | omega) 11 (by first | decide | omega) ) (by rfl) (fun x30 hx30 => ?_)
              obtain ⟨x31, hx31⟩ : ∃ x : Int, x = w32 (x28 + x30) := ⟨_, rfl⟩
              have hx31r : x31 = (x28 + x30 + 2147483648) % 4294967296 - 2147483648 := hx31
              refine zG_w (c' := (168, [.inr (.inr (some 97)), .inl a1, .inl a2, .inl x31, .inl v4, .inl v6, .inl v8, zN], [.inl x31])) 3 hd0 hz (by subst hx31; rfl) ?_
              have j187 : ∀ (v32 : Int) , 0 ≤ v32 ∧ v32 ≤ 100 → zG n (0, 0) d 216 (187, [.inr (.inr (some 97)), .inl a1, .inl a2, .inl x31, .inl v4, .inl v6, .inl v8, zN], [.inl v32]) M (fun v M' => M' = M ∧ ∃ x : Int, v = some (.inl x) ∧ ((-2147483648) ≤ x ∧ x ≤ 2147483647)) := by
                intro v32 hv32
                refine zG_w (c' := (188, [.inr (.inr (some 97)), .inl a1, .inl a2, .inl v32, .inl v4, .inl v6, .inl v8, zN], [])) 1 hd0 hz (by rfl) ?_
                exact j188 v32 (by first | with_reducible exact hv32 | omega)
              refine zG_wf_ge (pc := 168) (n' := 171) (t := 175) (L := [.inr (.inr (some 97)), .inl a1, .inl a2, .inl x31, .inl v4, .inl v6, .inl v8, zN]) (st := []) (x := x31) 0 hd0 hz (by rfl) (fun hb33 => ?_) (fun hb33 => ?_)
              · refine zG_wi_le (pc := 178) (n' := 181) (t := 186) (L := [.inr (.inr (some 97)), .inl a1, .inl a2, .inl x31, .inl v4, .inl v6, .inl v8, zN]) (st := []) (x := x31) (y := 100) 2 hd0 hz (by rfl) (fun hb34 => ?_) (fun hb34 => ?_)
                · refine zG_w (c' := (187, [.inr (.inr (some 97)), .inl a1, .inl a2, .inl x31, .inl v4, .inl v6, .inl v8, zN], [.inl x31])) 1 hd0 hz (by rfl) ?_
                  exact j187 x31 (by omega)
                · refine zG_w (c' := (187, [.inr (.inr (some 97)), .inl a1, .inl a2, .inl x31, .inl v4, .inl v6, .inl v8, zN], [.inl 100])) 2 hd0 hz (by rfl) ?_
                  exact j187 100 (by first | decide | omega)
              · refine zG_w (c' := (187, [.inr (.inr (some 97)), .inl a1, .inl a2, .inl x31, .inl v4, .inl v6, .inl v8, zN], [.inl 0])) 2 hd0 hz (by rfl) ?_
                exact j187 0 (by first | decide | omega)
          refine zG_wi_le (pc := 118) (n' := 121) (t := 129) (L := [.inr (.inr (some 97)), .inl a1, .inl a2, .inl v7, .inl v4, .inl v6, zN, zN]) (st := []) (x := a2) (y := 2) 0 hd0 hz (by rfl) (fun hb35 => ?_) (fun hb35 => ?_)
          · refine zG_w (c' := (130, [.inr (.inr (some 97)), .inl a1, .inl a2, .inl v7, .inl v4, .inl v6, zN, zN], [.inl (-1)])) 1 hd0 hz (by rfl) ?_
            exact j130 (-1) (by first | decide | omega) (by omega)
          · refine zG_wp (pc := 126) (L := [.inr (.inr (some 97)), .inl a1, .inl a2, .inl v7, .inl v4, .inl v6, zN, zN]) (st := []) 2 hd0 hz zp_214 (qm_214_97 (by first | exact zdk hd rfl | omega) hC   a1 (by first | with_reducible exact ha1 | omega) ) (by rfl) (fun x37 hr => ?_)
            obtain ⟨hx37, hpx37_0⟩ := hr
            refine zG_w (c' := (130, [.inr (.inr (some 97)), .inl a1, .inl a2, .inl v7, .inl v4, .inl v6, zN, zN], [.inl x37])) 1 hd0 hz (by rfl) ?_
            exact j130 x37 (by omega) (by omega)
        refine zG_wi_ne (pc := 100) (n' := 103) (t := 107) (L := [.inr (.inr (some 97)), .inl a1, .inl a2, .inl v5, .inl v4, .inl v6, zN, zN]) (st := []) (x := v6) (y := (-1)) 0 hd0 hz (by rfl) (fun hb38 => ?_) (fun hb38 => ?_)
        · refine zG_wp (pc := 115) (L := [.inr (.inr (some 97)), .inl a1, .inl a2, .inl v5, .inl v4, .inl v6, zN, zN]) (st := []) 3 hd0 hz zp_194 (qx_act0 (by first | exact zdk hd rfl | omega) hC   v6 (by first | with_reducible exact hv6 | omega) 7 (by first | decide | omega) ) (by rfl) (fun x40 hx40 => ?_)
          exact j115 x40 (by omega)
        · refine zG_w (c' := (115, [.inr (.inr (some 97)), .inl a1, .inl a2, .inl v5, .inl v4, .inl v6, zN, zN], [.inl v5])) 2 hd0 hz (by rfl) ?_
          exact j115 v5 (by first | with_reducible exact hv5 | omega)
      refine zG_wi_le (pc := 82) (n' := 85) (t := 94) (L := [.inr (.inr (some 97)), .inl a1, .inl a2, .inl v5, .inl v4, zN, zN, zN]) (st := []) (x := a2) (y := 1) 0 hd0 hz (by rfl) (fun hb41 => ?_) (fun hb41 => ?_)
      · refine zG_w (c' := (95, [.inr (.inr (some 97)), .inl a1, .inl a2, .inl v5, .inl v4, zN, zN, zN], [.inl (-1)])) 1 hd0 hz (by rfl) ?_
        exact j95 (-1) (by first | decide | omega)
      · refine zG_wp (pc := 91) (L := [.inr (.inr (some 97)), .inl a1, .inl a2, .inl v5, .inl v4, zN, zN, zN]) (st := []) 3 hd0 hz zp_213 (qm_213_97 (by first | exact zdk hd rfl | omega) hC   2 (by first | decide | omega) a1 (by first | with_reducible exact ha1 | omega) ) (by rfl) (fun x43 hr => ?_)
        obtain ⟨hx43, hpx43_0⟩ := hr
        refine zG_w (c' := (95, [.inr (.inr (some 97)), .inl a1, .inl a2, .inl v5, .inl v4, zN, zN, zN], [.inl x43])) 1 hd0 hz (by rfl) ?_
        exact j95 x43 (by omega)
    refine zG_wi_eq (pc := 27) (n' := 30) (t := 80) (L := [.inr (.inr (some 97)), .inl a1, .inl a2, .inl x3, .inl v4, zN, zN, zN]) (st := []) (x := v4) (y := (-1)) 0 hd0 hz (by rfl) (fun hb44 => ?_) (fun hb44 => ?_)
    · exact j80 x3 (by omega)
    · refine zG_wp (pc := 38) (L := [.inr (.inr (some 97)), .inl a1, .inl a2, .inl x3, .inl v4, zN, zN, zN]) (st := []) 3 hd0 hz zp_194 (qx_act0 (by first | exact zdk hd rfl | omega) hC   v4 (by first | with_reducible exact hv4 | omega) 7 (by first | decide | omega) ) (by rfl) (fun x46 hx46 => ?_)
      refine zG_w (c' := (43, [.inr (.inr (some 97)), .inl a1, .inl a2, .inl x3, .inl v4, .inl x46, zN, zN], [.inl x46, .inl x3])) 3 hd0 hz (by rfl) ?_
      have j52 : ∀ (v47 : Int) , (-2147483648) ≤ v47 ∧ v47 ≤ 2147483647 → zG n (0, 0) d 216 (52, [.inr (.inr (some 97)), .inl a1, .inl a2, .inl x3, .inl v4, .inl x46, zN, zN], [.inl v47]) M (fun v M' => M' = M ∧ ∃ x : Int, v = some (.inl x) ∧ ((-2147483648) ≤ x ∧ x ≤ 2147483647)) := by
        intro v47 hv47
        obtain ⟨x48, hx48⟩ : ∃ x : Int, x = w32 (x3 - x46) := ⟨_, rfl⟩
        have hx48r : x48 = (x3 - x46 + 2147483648) % 4294967296 - 2147483648 := hx48
        refine zG_wp (pc := 65) (L := [.inr (.inr (some 97)), .inl a1, .inl a2, .inl x3, .inl v4, .inl x46, .inl v47, zN]) (st := []) 6 hd0 hz zp_180 (qx_in (by first | exact zdk hd rfl | omega) hC   x48 (by omega) (-10) (by first | decide | omega) 10 (by first | decide | omega) ) (by subst hx48; rfl) (fun x50 hx50 => ?_)
        have j79 : ∀ (v51 : Int) , (-2147483648) ≤ v51 ∧ v51 ≤ 2147483647 → zG n (0, 0) d 216 (79, [.inr (.inr (some 97)), .inl a1, .inl a2, .inl x3, .inl v4, .inl x46, .inl v47, zN], [.inl v51]) M (fun v M' => M' = M ∧ ∃ x : Int, v = some (.inl x) ∧ ((-2147483648) ≤ x ∧ x ≤ 2147483647)) := by
          intro v51 hv51
          refine zG_w (c' := (80, [.inr (.inr (some 97)), .inl a1, .inl a2, .inl v51, .inl v4, .inl x46, .inl v47, zN], [])) 1 hd0 hz (by rfl) ?_
          exact zG_weak (j80 v51 (by first | with_reducible exact hv51 | omega)) ⟨.inr rfl, .inr rfl, .inr rfl, .inr rfl, .inr rfl, .inl rfl, .inl rfl, .inr rfl, trivial⟩
        refine zG_wf_eq (pc := 65) (n' := 68) (t := 77) (L := [.inr (.inr (some 97)), .inl a1, .inl a2, .inl x3, .inl v4, .inl x46, .inl v47, zN]) (st := []) (x := x50) 0 hd0 hz (by rfl) (fun hb52 => ?_) (fun hb52 => ?_)
        · refine zG_w (c' := (79, [.inr (.inr (some 97)), .inl a1, .inl a2, .inl x3, .inl v4, .inl x46, .inl v47, zN], [.inl v47])) 1 hd0 hz (by rfl) ?_
          exact j79 v47 (by first | with_reducible exact hv47 | omega)
        · have hcx50 := hx50.2.2.mp (by omega)
          clear hx50 hb52
          obtain ⟨x53, hx53⟩ : ∃ x : Int, x = w32 (x3 + x46) := ⟨_, rfl⟩
          have hx53r : x53 = (x3 + x46 + 2147483648) % 4294967296 - 2147483648 := hx53
          refine zG_w (c' := (73, [.inr (.inr (some 97)), .inl a1, .inl a2, .inl x3, .inl v4, .inl x46, .inl v47, zN], [.inl 2, .inl x53])) 4 hd0 hz (by subst hx53; rfl) ?_
          refine zG_idiv hd0 hz rfl (by omega) ?_
          have hx54 := qtdiv_in x53 2 (by first | decide | omega) (by omega)
          generalize w32 (x53.tdiv 2) = x54 at hx54 ⊢
          show zG n (0, 0) d 216 (74, [.inr (.inr (some 97)), .inl a1, .inl a2, .inl x3, .inl v4, .inl x46, .inl v47, zN], [.inl x54]) M _
          refine zG_w (c' := (79, [.inr (.inr (some 97)), .inl a1, .inl a2, .inl x3, .inl v4, .inl x46, .inl v47, zN], [.inl x54])) 1 hd0 hz (by rfl) ?_
          exact j79 x54 (by omega)
      refine zG_wi_ge (pc := 43) (n' := 46) (t := 50) (L := [.inr (.inr (some 97)), .inl a1, .inl a2, .inl x3, .inl v4, .inl x46, zN, zN]) (st := []) (x := x3) (y := x46) 0 hd0 hz (by rfl) (fun hb55 => ?_) (fun hb55 => ?_)
      · refine zG_w (c' := (52, [.inr (.inr (some 97)), .inl a1, .inl a2, .inl x3, .inl v4, .inl x46, zN, zN], [.inl x46])) 1 hd0 hz (by rfl) ?_
        exact j52 x46 (by omega)
      · refine zG_w (c' := (52, [.inr (.inr (some 97)), .inl a1, .inl a2, .inl x3, .inl v4, .inl x46, zN, zN], [.inl x3])) 2 hd0 hz (by rfl) ?_
        exact j52 x3 (by omega)
  refine zG_wf_le (pc := 9) (n' := 12) (t := 21) (L := [.inr (.inr (some 97)), .inl a1, .inl a2, .inl x3, zN, zN, zN, zN]) (st := []) (x := a2) 0 hd0 hz (by rfl) (fun hb56 => ?_) (fun hb56 => ?_)
  · refine zG_w (c' := (22, [.inr (.inr (some 97)), .inl a1, .inl a2, .inl x3, zN, zN, zN, zN], [.inl (-1)])) 1 hd0 hz (by rfl) ?_
    exact j22 (-1) (by first | decide | omega)
  · refine zG_wp (pc := 18) (L := [.inr (.inr (some 97)), .inl a1, .inl a2, .inl x3, zN, zN, zN, zN]) (st := []) 3 hd0 hz zp_213 (qm_213_97 (by first | exact zdk hd rfl | omega) hC   1 (by first | decide | omega) a1 (by first | with_reducible exact ha1 | omega) ) (by rfl) (fun x58 hr => ?_)
    obtain ⟨hx58, hpx58_0⟩ := hr
    refine zG_w (c' := (22, [.inr (.inr (some 97)), .inl a1, .inl a2, .inl x3, zN, zN, zN, zN], [.inl x58])) 1 hd0 hz (by rfl) ?_
    exact j22 x58 (by omega)
theorem qm_217_97 {n d : Nat} {M : zM} (hd : 4 ≤ d) (hC : qMI M)  (a1 : Int) (ha1 : (-2147483648) ≤ a1 ∧ a1 ≤ 2147483647) (a2 : Int) (ha2 : (-2147483648) ≤ a2 ∧ a2 ≤ 2147483647) (a3 : Int) (ha3 : (-2147483648) ≤ a3 ∧ a3 ≤ 2147483647) : qOkN n d 217 [.inr (.inr (some 97)), .inl a1, .inl a2, .inl a3] 4 [101] M (fun v M' => ∃ x : Int, v = some (.inl x) ∧ ((-2147483648) ≤ x ∧ x ≤ 2147483647)) := by
  have hz := zp_217
  have hd0 : 0 < d := by omega
  have hW : qFm [101] M M := qFm.rfl
  have r1 := hC.cnt4
  show zG n (0, 0) d 217 (0, [.inr (.inr (some 97)), .inl a1, .inl a2, .inl a3], []) M _
  refine zG_wp (pc := 5) (L := [.inr (.inr (some 97)), .inl a1, .inl a2, .inl a3]) (st := []) 2 hd0 hz zp_198 (qm_198_97 (by first | exact zdk hd rfl | omega) hC   a1 (by first | with_reducible exact ha1 | omega) ) (by rfl) (fun x3 hr => ?_)
  obtain ⟨hx3, hpx3_0⟩ := hr
  have j24 : zG n (0, 0) d 217 (24, [.inr (.inr (some 97)), .inl a1, .inl a2, .inl a3], []) M (fun v M' => (qMI M' ∧ qFm [101] M M') ∧ ∃ x : Int, v = some (.inl x) ∧ ((-2147483648) ≤ x ∧ x ≤ 2147483647)) := by
    exact zG_wr (r := some (.inl (-2))) 1 hd0 hz (by rfl) ⟨⟨hC, hW⟩, _, rfl, by omega⟩
  refine zG_wf_eq (pc := 5) (n' := 8) (t := 24) (L := [.inr (.inr (some 97)), .inl a1, .inl a2, .inl a3]) (st := []) (x := x3) 0 hd0 hz (by rfl) (fun hb4 => ?_) (fun hb4 => ?_)
  · exact j24
  · have hcx3 := hpx3_0.mp (by omega)
    clear hx3 hpx3_0 hb4
    refine zG_wp (pc := 14) (L := [.inr (.inr (some 97)), .inl a1, .inl a2, .inl a3]) (st := []) 3 hd0 hz zp_180 (qx_in (by first | exact zdk hd rfl | omega) hC   a2 (by first | with_reducible exact ha2 | omega) 0 (by first | decide | omega) 4 (by first | decide | omega) ) (by rfl) (fun x6 hx6 => ?_)
    refine zG_wf_eq (pc := 14) (n' := 17) (t := 24) (L := [.inr (.inr (some 97)), .inl a1, .inl a2, .inl a3]) (st := []) (x := x6) 0 hd0 hz (by rfl) (fun hb7 => ?_) (fun hb7 => ?_)
    · exact j24
    · have hcx6 := hx6.2.2.mp (by omega)
      clear hx6 hb7
      refine zG_wp (pc := 21) (L := [.inr (.inr (some 97)), .inl a1, .inl a2, .inl a3]) (st := []) 1 hd0 hz zp_184 (qm_184 (by first | exact zdk hd rfl | omega) hC   a3 (by first | with_reducible exact ha3 | omega) ) (by rfl) (fun x9 hr => ?_)
      obtain ⟨hx9, hpx9_0⟩ := hr
      refine zG_wf_ne (pc := 21) (n' := 24) (t := 27) (L := [.inr (.inr (some 97)), .inl a1, .inl a2, .inl a3]) (st := []) (x := x9) 0 hd0 hz (by rfl) (fun hb10 => ?_) (fun hb10 => ?_)
      · have hcx9 := hpx9_0.mp (by omega)
        clear hx9 hpx9_0 hb10
        refine zG_wv (pc := 32) (L := [.inr (.inr (some 97)), .inl a1, .inl a2, .inl a3]) (st := []) 2 hd0 hz zp_211 (qm_211_97 (by first | exact zdk hd rfl | omega) hC   a3 (by first | with_reducible exact ha3 | omega) ) (by rfl) (fun M11 hr => ?_)
        obtain ⟨hCM11, hFM11⟩ := hr
        have hWM11 : qFm [101] M M11 := hW.tr hFM11 (by decide)
        have e13 : M11 98 4 = M 98 4 := hFM11 98 4 (by decide)
        refine zG_w (c' := (37, [.inr (.inr (some 97)), .inl a1, .inl a2, .inl a3], [.inl a1, .inr (.inr (some 101))])) 3 hd0 hz (by rfl) ?_
        refine zG_bald hd0 hz rfl rfl (.inl rfl) (by omega) ?_
        obtain ⟨x14, hx14⟩ : ∃ x : Int, x = M11 101 (a1 : Int).toNat := ⟨_, rfl⟩
        rw [← hx14]
        have hx14r : x14 = 0 ∨ x14 = 1 := by rw [hx14]; exact hCM11.bl101 _
        show zG n (0, 0) d 217 (38, [.inr (.inr (some 97)), .inl a1, .inl a2, .inl a3], [.inl x14]) M11 _
        have j51 : ∀ (v15 : Int) , (-2147483648) ≤ v15 ∧ v15 ≤ 2147483647 → zG n (0, 0) d 217 (51, [.inr (.inr (some 97)), .inl a1, .inl a2, .inl a3], [.inl v15]) M11 (fun v M' => (qMI M' ∧ qFm [101] M M') ∧ ∃ x : Int, v = some (.inl x) ∧ ((-2147483648) ≤ x ∧ x ≤ 2147483647)) := by
          intro v15 hv15
          exact zG_wr (r := some (.inl v15)) 0 hd0 hz (by rfl) ⟨⟨hCM11, hWM11⟩, _, rfl, by omega⟩
        refine zG_wf_eq (pc := 38) (n' := 41) (t := 50) (L := [.inr (.inr (some 97)), .inl a1, .inl a2, .inl a3]) (st := []) (x := x14) 0 hd0 hz (by rfl) (fun hb16 => ?_) (fun hb16 => ?_)
        · refine zG_w (c' := (51, [.inr (.inr (some 97)), .inl a1, .inl a2, .inl a3], [.inl (-1)])) 1 hd0 hz (by rfl) ?_
          exact j51 (-1) (by first | decide | omega)
        · refine zG_wp (pc := 47) (L := [.inr (.inr (some 97)), .inl a1, .inl a2, .inl a3]) (st := []) 3 hd0 hz zp_216 (qm_216_97 (by first | exact zdk hd rfl | omega) hCM11   a1 (by first | with_reducible exact ha1 | omega) a2 (by first | with_reducible exact ha2 | omega) ) (by rfl) (fun x18 hx18 => ?_)
          refine zG_w (c' := (51, [.inr (.inr (some 97)), .inl a1, .inl a2, .inl a3], [.inl x18])) 1 hd0 hz (by rfl) ?_
          exact j51 x18 (by omega)
      · exact j24
theorem qm_218_97 {n d : Nat} {M : zM} (hd : 4 ≤ d) (hC : qMI M)  (a1 : Int) (ha1 : (-2147483648) ≤ a1 ∧ a1 ≤ 2147483647) : qOkN n d 218 [.inr (.inr (some 97)), .inl a1] 5 [102, 103, 104] M (fun v M' => v = none) := by
  have hz := zp_218
  have hd0 : 0 < d := by omega
  have hW : qFm [102, 103, 104] M M := qFm.rfl
  have r1 := hC.cnt4
  show zG n (0, 0) d 218 (0, [.inr (.inr (some 97)), .inl a1, zN, zN, zN], []) M _
  refine zG_w (c' := (2, [.inr (.inr (some 97)), .inl a1, .inl 0, zN, zN], [])) 2 hd0 hz (by rfl) ?_
  have j2 : ∀ (N : Nat) (v2 : Int) (M3 : zM) , (14 - v2 : Int).toNat < N → 0 ≤ v2 ∧ v2 ≤ 14 → qMI M3 → qFm [102, 103, 104] M M3 → zG n (0, 0) d 218 (2, [.inr (.inr (some 97)), .inl a1, .inl v2, zN, zN], []) M3 (fun v M' => (qMI M' ∧ qFm [102, 103, 104] M M') ∧ v = none) := by
    intro N
    induction N with
    | zero => intro v2 M3 hN hv2 hCM3 hWM3; exact absurd hN (Nat.not_lt_zero _)
    | succ N ih2 =>
      intro v2 M3 hN hv2 hCM3 hWM3
      replace hN : 14 - v2 < (N : Int) + 1 := by omega
      have e4 : M3 98 4 = M 98 4 := hWM3 98 4 (by decide)
      refine zG_wi_ge (pc := 5) (n' := 8) (t := 35) (L := [.inr (.inr (some 97)), .inl a1, .inl v2, zN, zN]) (st := []) (x := v2) (y := 14) 2 hd0 hz (by rfl) (fun hb5 => ?_) (fun hb5 => ?_)
      · refine zG_w (c' := (37, [.inr (.inr (some 97)), .inl a1, .inl 0, zN, zN], [])) 2 hd0 hz (by rfl) ?_
        have j37 : ∀ (N : Nat) (v6 : Int) (M7 : zM) , (250 - v6 : Int).toNat < N → 0 ≤ v6 ∧ v6 ≤ 250 → qMI M7 → qFm [102, 103, 104] M M7 → zG n (0, 0) d 218 (37, [.inr (.inr (some 97)), .inl a1, .inl v6, zN, zN], []) M7 (fun v M' => (qMI M' ∧ qFm [102, 103, 104] M M') ∧ v = none) := by
          intro N
          induction N with
          | zero => intro v6 M7 hN hv6 hCM7 hWM7; exact absurd hN (Nat.not_lt_zero _)
          | succ N ih37 =>
            intro v6 M7 hN hv6 hCM7 hWM7
            replace hN : 250 - v6 < (N : Int) + 1 := by omega
            have e8 : M7 98 4 = M 98 4 := hWM7 98 4 (by decide)
            refine zG_w (c' := (43, [.inr (.inr (some 97)), .inl a1, .inl v6, zN, zN], [.inl 4, .inr (.inr (some 98)), .inl v6])) 4 hd0 hz (by rfl) ?_
            refine zG_iald hd0 hz rfl rfl (.inl rfl) (by omega) ?_
            show zG n (0, 0) d 218 (44, [.inr (.inr (some 97)), .inl a1, .inl v6, zN, zN], [.inl (M7 98 4), .inl v6]) M7 _
            refine zG_wi_ge (pc := 44) (n' := 47) (t := 178) (L := [.inr (.inr (some 97)), .inl a1, .inl v6, zN, zN]) (st := []) (x := v6) (y := (M7 98 4)) 0 hd0 hz (by rfl) (fun hb9 => ?_) (fun hb9 => ?_)
            · exact zG_ret hd0 hz rfl rfl ⟨⟨hCM7, hWM7⟩, rfl⟩
            · refine zG_w (c' := (52, [.inr (.inr (some 97)), .inl a1, .inl v6, zN, zN], [.inl v6, .inr (.inr (some 101))])) 3 hd0 hz (by rfl) ?_
              refine zG_bald hd0 hz rfl rfl (.inl rfl) (by omega) ?_
              obtain ⟨x10, hx10⟩ : ∃ x : Int, x = M7 101 (v6 : Int).toNat := ⟨_, rfl⟩
              rw [← hx10]
              have hx10r : x10 = 0 ∨ x10 = 1 := by rw [hx10]; exact hCM7.bl101 _
              show zG n (0, 0) d 218 (53, [.inr (.inr (some 97)), .inl a1, .inl v6, zN, zN], [.inl x10]) M7 _
              have j172 : ∀ (M11 : zM) , qMI M11 → qFm [102, 103, 104] M M11 → zG n (0, 0) d 218 (172, [.inr (.inr (some 97)), .inl a1, .inl v6, zN, zN], []) M11 (fun v M' => (qMI M' ∧ qFm [102, 103, 104] M M') ∧ v = none) := by
                intro M11 hCM11 hWM11
                have e12 : M11 98 4 = M 98 4 := hWM11 98 4 (by decide)
                obtain ⟨x13, hx13⟩ : ∃ x : Int, x = w32 (v6 + 1) := ⟨_, rfl⟩
                have hx13e : x13 = v6 + 1 := by rw [hx13]; exact w32_id (by omega)
                refine zG_w (c' := (37, [.inr (.inr (some 97)), .inl a1, .inl x13, zN, zN], [])) 2 hd0 hz (by subst hx13; rfl) ?_
                exact ih37 x13 M11 (by omega) (by omega) hCM11 hWM11
              have j131 : zG n (0, 0) d 218 (131, [.inr (.inr (some 97)), .inl a1, .inl v6, zN, zN], []) M7 (fun v M' => (qMI M' ∧ qFm [102, 103, 104] M M') ∧ v = none) := by
                refine zG_w (c' := (136, [.inr (.inr (some 97)), .inl a1, .inl v6, zN, zN], [.inl v6, .inr (.inr (some 101))])) 3 hd0 hz (by rfl) ?_
                refine zG_bald hd0 hz rfl rfl (.inl rfl) (by omega) ?_
                obtain ⟨x14, hx14⟩ : ∃ x : Int, x = M7 101 (v6 : Int).toNat := ⟨_, rfl⟩
                rw [← hx14]
                have hx14r : x14 = 0 ∨ x14 = 1 := by rw [hx14]; exact hCM7.bl101 _
                show zG n (0, 0) d 218 (137, [.inr (.inr (some 97)), .inl a1, .inl v6, zN, zN], [.inl x14]) M7 _
                refine zG_wf_eq (pc := 137) (n' := 140) (t := 172) (L := [.inr (.inr (some 97)), .inl a1, .inl v6, zN, zN]) (st := []) (x := x14) 0 hd0 hz (by rfl) (fun hb15 => ?_) (fun hb15 => ?_)
                · exact j172 M7 hCM7 hWM7
                · refine zG_wp (pc := 146) (L := [.inr (.inr (some 97)), .inl a1, .inl v6, zN, zN]) (st := []) 3 hd0 hz zp_194 (qx_act4 (by first | exact zdk hd rfl | omega) hCM7   v6 (by first | with_reducible exact hv6 | omega) ) (by rfl) (fun x17 hx17 => ?_)
                  refine zG_wi_ne (pc := 147) (n' := 150) (t := 172) (L := [.inr (.inr (some 97)), .inl a1, .inl v6, zN, zN]) (st := []) (x := x17) (y := a1) 1 hd0 hz (by rfl) (fun hb18 => ?_) (fun hb18 => ?_)
                  · exact j172 M7 hCM7 hWM7
                  · refine zG_wp (pc := 156) (L := [.inr (.inr (some 97)), .inl a1, .inl v6, zN, zN]) (st := []) 3 hd0 hz zp_194 (qx_act0 (by first | exact zdk hd rfl | omega) hCM7   v6 (by first | with_reducible exact hv6 | omega) 0 (by first | decide | omega) ) (by rfl) (fun x20 hx20 => ?_)
                    refine zG_wi_ne (pc := 157) (n' := 160) (t := 172) (L := [.inr (.inr (some 97)), .inl a1, .inl v6, zN, zN]) (st := []) (x := x20) (y := 4) 1 hd0 hz (by rfl) (fun hb21 => ?_) (fun hb21 => ?_)
                    · exact j172 M7 hCM7 hWM7
                    · have hrel := hCM7.rel v6 (by first | with_reducible exact hv6 | omega) (by omega)
                      refine zG_wp (pc := 170) (L := [.inr (.inr (some 97)), .inl a1, .inl v6, zN, zN]) (st := [.inr (.inr (some 104))]) 5 hd0 hz zp_194 (qx_act5 (by first | exact zdk hd rfl | omega) hCM7   v6 (by first | with_reducible exact hv6 | omega) ) (by rfl) (fun x23 hx23 => ?_)
                      refine zG_w (c' := (171, [.inr (.inr (some 97)), .inl a1, .inl v6, zN, zN], [.inl 1, .inl x23, .inr (.inr (some 104))])) 1 hd0 hz (by rfl) ?_
                      refine zG_iast hd0 hz rfl rfl (by omega) ?_
                      obtain ⟨M24, hM24⟩ : ∃ X : zM, X = zput M7 104 (x23 : Int).toNat 1 := ⟨_, rfl⟩
                      rw [← hM24]
                      have hCM24 : qMI M24 := by rw [hM24]; exact hCM7.put (by decide) (qCd_a (by decide) (by decide)) (by first | exact qMC_ar (by decide) (fun _ => by omega) | (refine ⟨fun h => ?_, fun _ => ?_, fun h => ?_, fun h => ?_, fun h => ?_⟩ <;> first | omega | exact absurd h (by decide)))
                      have hWM24 : qFm [102, 103, 104] M M24 := by rw [hM24]; exact hWM7.pa (by decide) (by decide)
                      have e25 : M24 98 4 = M7 98 4 := by rw [hM24]; exact qput_ne (by decide)
                      show zG n (0, 0) d 218 (172, [.inr (.inr (some 97)), .inl a1, .inl v6, zN, zN], []) M24 _
                      exact j172 M24 hCM24 hWM24
              refine zG_wf_eq (pc := 53) (n' := 56) (t := 131) (L := [.inr (.inr (some 97)), .inl a1, .inl v6, zN, zN]) (st := []) (x := x10) 0 hd0 hz (by rfl) (fun hb26 => ?_) (fun hb26 => ?_)
              · exact j131
              · refine zG_wp (pc := 62) (L := [.inr (.inr (some 97)), .inl a1, .inl v6, zN, zN]) (st := []) 3 hd0 hz zp_194 (qx_act4 (by first | exact zdk hd rfl | omega) hCM7   v6 (by first | with_reducible exact hv6 | omega) ) (by rfl) (fun x28 hx28 => ?_)
                refine zG_wi_ne (pc := 63) (n' := 66) (t := 131) (L := [.inr (.inr (some 97)), .inl a1, .inl v6, zN, zN]) (st := []) (x := x28) (y := a1) 1 hd0 hz (by rfl) (fun hb29 => ?_) (fun hb29 => ?_)
                · exact j131
                · refine zG_wp (pc := 72) (L := [.inr (.inr (some 97)), .inl a1, .inl v6, zN, zN]) (st := []) 3 hd0 hz zp_194 (qx_act0 (by first | exact zdk hd rfl | omega) hCM7   v6 (by first | with_reducible exact hv6 | omega) 0 (by first | decide | omega) ) (by rfl) (fun x31 hx31 => ?_)
                  refine zG_wf_ne (pc := 72) (n' := 75) (t := 131) (L := [.inr (.inr (some 97)), .inl a1, .inl v6, zN, zN]) (st := []) (x := x31) 0 hd0 hz (by rfl) (fun hb32 => ?_) (fun hb32 => ?_)
                  · exact j131
                  · have hrel := hCM7.rel v6 (by first | with_reducible exact hv6 | omega) (by omega)
                    refine zG_wp (pc := 81) (L := [.inr (.inr (some 97)), .inl a1, .inl v6, zN, zN]) (st := []) 3 hd0 hz zp_194 (qx_act5 (by first | exact zdk hd rfl | omega) hCM7   v6 (by first | with_reducible exact hv6 | omega) ) (by rfl) (fun x34 hx34 => ?_)
                    refine zG_wp (pc := 88) (L := [.inr (.inr (some 97)), .inl a1, .inl v6, .inl x34, zN]) (st := []) 4 hd0 hz zp_216 (qm_216_97 (by first | exact zdk hd rfl | omega) hCM7   v6 (by first | with_reducible exact hv6 | omega) 4 (by first | decide | omega) ) (by rfl) (fun x36 hx36 => ?_)
                    refine zG_w (c' := (102, [.inr (.inr (some 97)), .inl a1, .inl v6, .inl x34, .inl x36], [.inl x34, .inr (.inr (some 102)), .inl x36, .inl x34, .inr (.inr (some 102))])) 8 hd0 hz (by rfl) ?_
                    refine zG_iald hd0 hz rfl rfl (.inl rfl) (by omega) ?_
                    obtain ⟨x37, hx37⟩ : ∃ x : Int, x = M7 102 (x34 : Int).toNat := ⟨_, rfl⟩
                    rw [← hx37]
                    have hx37r : qin x37 := by rw [hx37]; exact hCM7.ra 102 _ (by decide) (by decide)
                    show zG n (0, 0) d 218 (103, [.inr (.inr (some 97)), .inl a1, .inl v6, .inl x34, .inl x36], [.inl x37, .inl x36, .inl x34, .inr (.inr (some 102))]) M7 _
                    have j117 : ∀ (v38 : Int) , (-2147483648) ≤ v38 ∧ v38 ≤ 2147483647 → zG n (0, 0) d 218 (117, [.inr (.inr (some 97)), .inl a1, .inl v6, .inl x34, .inl x36], [.inl v38, .inl x34, .inr (.inr (some 102))]) M7 (fun v M' => (qMI M' ∧ qFm [102, 103, 104] M M') ∧ v = none) := by
                      intro v38 hv38
                      refine zG_iast hd0 hz rfl rfl (by omega) ?_
                      obtain ⟨M39, hM39⟩ : ∃ X : zM, X = zput M7 102 (x34 : Int).toNat v38 := ⟨_, rfl⟩
                      rw [← hM39]
                      have hCM39 : qMI M39 := by rw [hM39]; exact hCM7.put (by decide) (qCd_a (by decide) (by decide)) (by first | exact qMC_ar (by decide) (fun _ => by omega) | (refine ⟨fun h => ?_, fun _ => ?_, fun h => ?_, fun h => ?_, fun h => ?_⟩ <;> first | omega | exact absurd h (by decide)))
                      have hWM39 : qFm [102, 103, 104] M M39 := by rw [hM39]; exact hWM7.pa (by decide) (by decide)
                      have e40 : M39 98 4 = M7 98 4 := by rw [hM39]; exact qput_ne (by decide)
                      show zG n (0, 0) d 218 (118, [.inr (.inr (some 97)), .inl a1, .inl v6, .inl x34, .inl x36], []) M39 _
                      refine zG_w (c' := (124, [.inr (.inr (some 97)), .inl a1, .inl v6, .inl x34, .inl x36], [.inl x34, .inr (.inr (some 103)), .inl x34, .inr (.inr (some 103))])) 4 hd0 hz (by rfl) ?_
                      refine zG_iald hd0 hz rfl rfl (.inl rfl) (by omega) ?_
                      obtain ⟨x41, hx41⟩ : ∃ x : Int, x = M39 103 (x34 : Int).toNat := ⟨_, rfl⟩
                      rw [← hx41]
                      have hx41r : qin x41 := by rw [hx41]; exact hCM39.ra 103 _ (by decide) (by decide)
                      show zG n (0, 0) d 218 (125, [.inr (.inr (some 97)), .inl a1, .inl v6, .inl x34, .inl x36], [.inl x41, .inl x34, .inr (.inr (some 103))]) M39 _
                      obtain ⟨x42, hx42⟩ : ∃ x : Int, x = w32 (x41 + 1) := ⟨_, rfl⟩
                      have hx42r : x42 = (x41 + 1 + 2147483648) % 4294967296 - 2147483648 := hx42
                      refine zG_w (c' := (127, [.inr (.inr (some 97)), .inl a1, .inl v6, .inl x34, .inl x36], [.inl x42, .inl x34, .inr (.inr (some 103))])) 2 hd0 hz (by subst hx42; rfl) ?_
                      refine zG_iast hd0 hz rfl rfl (by omega) ?_
                      obtain ⟨M43, hM43⟩ : ∃ X : zM, X = zput M39 103 (x34 : Int).toNat x42 := ⟨_, rfl⟩
                      rw [← hM43]
                      have hCM43 : qMI M43 := by rw [hM43]; exact hCM39.put (by decide) (qCd_a (by decide) (by decide)) (by first | exact qMC_ar (by decide) (fun _ => by omega) | (refine ⟨fun h => ?_, fun _ => ?_, fun h => ?_, fun h => ?_, fun h => ?_⟩ <;> first | omega | exact absurd h (by decide)))
                      have hWM43 : qFm [102, 103, 104] M M43 := by rw [hM43]; exact hWM39.pa (by decide) (by decide)
                      have e44 : M43 98 4 = M39 98 4 := by rw [hM43]; exact qput_ne (by decide)
                      show zG n (0, 0) d 218 (128, [.inr (.inr (some 97)), .inl a1, .inl v6, .inl x34, .inl x36], []) M43 _
                      refine zG_w (c' := (172, [.inr (.inr (some 97)), .inl a1, .inl v6, .inl x34, .inl x36], [])) 1 hd0 hz (by rfl) ?_
                      exact zG_weak (j172 M43 hCM43 hWM43) ⟨.inr rfl, .inr rfl, .inr rfl, .inl rfl, .inl rfl, trivial⟩
                    refine zG_wi_le (pc := 103) (n' := 106) (t := 111) (L := [.inr (.inr (some 97)), .inl a1, .inl v6, .inl x34, .inl x36]) (st := [.inl x34, .inr (.inr (some 102))]) (x := x36) (y := x37) 0 hd0 hz (by rfl) (fun hb45 => ?_) (fun hb45 => ?_)
                    · refine zG_w (c' := (116, [.inr (.inr (some 97)), .inl a1, .inl v6, .inl x34, .inl x36], [.inl x34, .inr (.inr (some 102)), .inl x34, .inr (.inr (some 102))])) 3 hd0 hz (by rfl) ?_
                      refine zG_iald hd0 hz rfl rfl (.inl rfl) (by omega) ?_
                      obtain ⟨x46, hx46⟩ : ∃ x : Int, x = M7 102 (x34 : Int).toNat := ⟨_, rfl⟩
                      rw [← hx46]
                      have hx46r : qin x46 := by rw [hx46]; exact hCM7.ra 102 _ (by decide) (by decide)
                      show zG n (0, 0) d 218 (117, [.inr (.inr (some 97)), .inl a1, .inl v6, .inl x34, .inl x36], [.inl x46, .inl x34, .inr (.inr (some 102))]) M7 _
                      exact j117 x46 (by omega)
                    · refine zG_w (c' := (117, [.inr (.inr (some 97)), .inl a1, .inl v6, .inl x34, .inl x36], [.inl x36, .inl x34, .inr (.inr (some 102))])) 2 hd0 hz (by rfl) ?_
                      exact j117 x36 (by omega)
        exact j37 ((250 - 0 : Int).toNat + 1) 0 M3 (by omega) (by omega) hCM3 hWM3
      · refine zG_w (c' := (14, [.inr (.inr (some 97)), .inl a1, .inl v2, zN, zN], [.inl (-1), .inl v2, .inr (.inr (some 102))])) 4 hd0 hz (by rfl) ?_
        refine zG_iast hd0 hz rfl rfl (by omega) ?_
        obtain ⟨M47, hM47⟩ : ∃ X : zM, X = zput M3 102 (v2 : Int).toNat (-1) := ⟨_, rfl⟩
        rw [← hM47]
        have hCM47 : qMI M47 := by rw [hM47]; exact hCM3.put (by decide) (qCd_a (by decide) (by decide)) (by first | exact qMC_ar (by decide) (fun _ => by omega) | (refine ⟨fun h => ?_, fun _ => ?_, fun h => ?_, fun h => ?_, fun h => ?_⟩ <;> first | omega | exact absurd h (by decide)))
        have hWM47 : qFm [102, 103, 104] M M47 := by rw [hM47]; exact hWM3.pa (by decide) (by decide)
        have e48 : M47 98 4 = M3 98 4 := by rw [hM47]; exact qput_ne (by decide)
        show zG n (0, 0) d 218 (15, [.inr (.inr (some 97)), .inl a1, .inl v2, zN, zN], []) M47 _
        refine zG_w (c' := (21, [.inr (.inr (some 97)), .inl a1, .inl v2, zN, zN], [.inl 0, .inl v2, .inr (.inr (some 103))])) 4 hd0 hz (by rfl) ?_
        refine zG_iast hd0 hz rfl rfl (by omega) ?_
        obtain ⟨M49, hM49⟩ : ∃ X : zM, X = zput M47 103 (v2 : Int).toNat 0 := ⟨_, rfl⟩
        rw [← hM49]
        have hCM49 : qMI M49 := by rw [hM49]; exact hCM47.put (by decide) (qCd_a (by decide) (by decide)) (by first | exact qMC_ar (by decide) (fun _ => by omega) | (refine ⟨fun h => ?_, fun _ => ?_, fun h => ?_, fun h => ?_, fun h => ?_⟩ <;> first | omega | exact absurd h (by decide)))
        have hWM49 : qFm [102, 103, 104] M M49 := by rw [hM49]; exact hWM47.pa (by decide) (by decide)
        have e50 : M49 98 4 = M47 98 4 := by rw [hM49]; exact qput_ne (by decide)
        show zG n (0, 0) d 218 (22, [.inr (.inr (some 97)), .inl a1, .inl v2, zN, zN], []) M49 _
        refine zG_w (c' := (28, [.inr (.inr (some 97)), .inl a1, .inl v2, zN, zN], [.inl 0, .inl v2, .inr (.inr (some 104))])) 4 hd0 hz (by rfl) ?_
        refine zG_iast hd0 hz rfl rfl (by omega) ?_
        obtain ⟨M51, hM51⟩ : ∃ X : zM, X = zput M49 104 (v2 : Int).toNat 0 := ⟨_, rfl⟩
        rw [← hM51]
        have hCM51 : qMI M51 := by rw [hM51]; exact hCM49.put (by decide) (qCd_a (by decide) (by decide)) (by first | exact qMC_ar (by decide) (fun _ => by omega) | (refine ⟨fun h => ?_, fun _ => ?_, fun h => ?_, fun h => ?_, fun h => ?_⟩ <;> first | omega | exact absurd h (by decide)))
        have hWM51 : qFm [102, 103, 104] M M51 := by rw [hM51]; exact hWM49.pa (by decide) (by decide)
        have e52 : M51 98 4 = M49 98 4 := by rw [hM51]; exact qput_ne (by decide)
        show zG n (0, 0) d 218 (29, [.inr (.inr (some 97)), .inl a1, .inl v2, zN, zN], []) M51 _
        obtain ⟨x53, hx53⟩ : ∃ x : Int, x = w32 (v2 + 1) := ⟨_, rfl⟩
        have hx53e : x53 = v2 + 1 := by rw [hx53]; exact w32_id (by omega)
        refine zG_w (c' := (2, [.inr (.inr (some 97)), .inl a1, .inl x53, zN, zN], [])) 2 hd0 hz (by subst hx53; rfl) ?_
        exact ih2 x53 M51 (by omega) (by omega) hCM51 hWM51
  exact j2 ((14 - 0 : Int).toNat + 1) 0 M (by omega) (by omega) hC hW
theorem qm_219_97 {n d : Nat} {M : zM} (hd : 5 ≤ d) (hC : qMI M)  (a1 : Int) (ha1 : (-2147483648) ≤ a1 ∧ a1 ≤ 2147483647) (a2 : Int) (ha2 : (-2147483648) ≤ a2 ∧ a2 ≤ 2147483647) (a3 : Int) (ha3 : (-2147483648) ≤ a3 ∧ a3 ≤ 2147483647) (a4 : Int) (ha4 : (-2147483648) ≤ a4 ∧ a4 ≤ 2147483647) : qOkN n d 219 [.inr (.inr (some 97)), .inl a1, .inl a2, .inl a3, .inl a4] 5 [101, 102, 103, 104] M (fun v M' => ∃ x : Int, v = some (.inl x) ∧ ((-2147483648) ≤ x ∧ x ≤ 2147483647)) := by
  have hz := zp_219
  have hd0 : 0 < d := by omega
  have hW : qFm [101, 102, 103, 104] M M := qFm.rfl
  have r1 := hC.cnt1
  have r2 := hC.cnt0
  show zG n (0, 0) d 219 (0, [.inr (.inr (some 97)), .inl a1, .inl a2, .inl a3, .inl a4], []) M _
  refine zG_wp (pc := 6) (L := [.inr (.inr (some 97)), .inl a1, .inl a2, .inl a3, .inl a4]) (st := []) 3 hd0 hz zp_182 (qx_is (by first | exact zdk hd rfl | omega) hC   1 (by first | decide | omega) a1 (by first | with_reducible exact ha1 | omega) ) (by rfl) (fun x4 hx4 => ?_)
  have j35 : zG n (0, 0) d 219 (35, [.inr (.inr (some 97)), .inl a1, .inl a2, .inl a3, .inl a4], []) M (fun v M' => (qMI M' ∧ qFm [101, 102, 103, 104] M M') ∧ ∃ x : Int, v = some (.inl x) ∧ ((-2147483648) ≤ x ∧ x ≤ 2147483647)) := by
    exact zG_wr (r := some (.inl (-2))) 1 hd0 hz (by rfl) ⟨⟨hC, hW⟩, _, rfl, by omega⟩
  refine zG_wf_eq (pc := 6) (n' := 9) (t := 35) (L := [.inr (.inr (some 97)), .inl a1, .inl a2, .inl a3, .inl a4]) (st := []) (x := x4) 0 hd0 hz (by rfl) (fun hb5 => ?_) (fun hb5 => ?_)
  · exact j35
  · have hcx4 := hx4.2.2.mp (by omega)
    clear hx4 hb5
    refine zG_wp (pc := 15) (L := [.inr (.inr (some 97)), .inl a1, .inl a2, .inl a3, .inl a4]) (st := []) 3 hd0 hz zp_182 (qx_is (by first | exact zdk hd rfl | omega) hC   0 (by first | decide | omega) a2 (by first | with_reducible exact ha2 | omega) ) (by rfl) (fun x7 hx7 => ?_)
    refine zG_wf_eq (pc := 15) (n' := 18) (t := 35) (L := [.inr (.inr (some 97)), .inl a1, .inl a2, .inl a3, .inl a4]) (st := []) (x := x7) 0 hd0 hz (by rfl) (fun hb8 => ?_) (fun hb8 => ?_)
    · exact j35
    · have hcx7 := hx7.2.2.mp (by omega)
      clear hx7 hb8
      refine zG_wp (pc := 22) (L := [.inr (.inr (some 97)), .inl a1, .inl a2, .inl a3, .inl a4]) (st := []) 1 hd0 hz zp_184 (qm_184 (by first | exact zdk hd rfl | omega) hC   a3 (by first | with_reducible exact ha3 | omega) ) (by rfl) (fun x10 hr => ?_)
      obtain ⟨hx10, hpx10_0⟩ := hr
      refine zG_wf_eq (pc := 22) (n' := 25) (t := 35) (L := [.inr (.inr (some 97)), .inl a1, .inl a2, .inl a3, .inl a4]) (st := []) (x := x10) 0 hd0 hz (by rfl) (fun hb11 => ?_) (fun hb11 => ?_)
      · exact j35
      · have hcx10 := hpx10_0.mp (by omega)
        clear hx10 hpx10_0 hb11
        refine zG_wp (pc := 32) (L := [.inr (.inr (some 97)), .inl a1, .inl a2, .inl a3, .inl a4]) (st := []) 3 hd0 hz zp_180 (qx_in (by first | exact zdk hd rfl | omega) hC   a4 (by first | with_reducible exact ha4 | omega) 0 (by first | decide | omega) 2 (by first | decide | omega) ) (by rfl) (fun x13 hx13 => ?_)
        refine zG_wf_ne (pc := 32) (n' := 35) (t := 38) (L := [.inr (.inr (some 97)), .inl a1, .inl a2, .inl a3, .inl a4]) (st := []) (x := x13) 0 hd0 hz (by rfl) (fun hb14 => ?_) (fun hb14 => ?_)
        · have hcx13 := hx13.2.2.mp (by omega)
          clear hx13 hb14
          refine zG_wv (pc := 43) (L := [.inr (.inr (some 97)), .inl a1, .inl a2, .inl a3, .inl a4]) (st := []) 2 hd0 hz zp_211 (qm_211_97 (by first | exact zdk hd rfl | omega) hC   a3 (by first | with_reducible exact ha3 | omega) ) (by rfl) (fun M15 hr => ?_)
          obtain ⟨hCM15, hFM15⟩ := hr
          have hWM15 : qFm [101, 102, 103, 104] M M15 := hW.tr hFM15 (by decide)
          have e17 : M15 98 1 = M 98 1 := hFM15 98 1 (by decide)
          have e18 : M15 98 0 = M 98 0 := hFM15 98 0 (by decide)
          refine zG_wv (pc := 48) (L := [.inr (.inr (some 97)), .inl a1, .inl a2, .inl a3, .inl a4]) (st := []) 2 hd0 hz zp_218 (qm_218_97 (by first | exact zdk hd rfl | omega) hCM15   a1 (by first | with_reducible exact ha1 | omega) ) (by rfl) (fun M19 hr => ?_)
          obtain ⟨hCM19, hFM19⟩ := hr
          have hWM19 : qFm [101, 102, 103, 104] M M19 := hWM15.tr hFM19 (by decide)
          have e21 : M19 98 1 = M15 98 1 := hFM19 98 1 (by decide)
          have e22 : M19 98 0 = M15 98 0 := hFM19 98 0 (by decide)
          refine zG_w (c' := (50, [.inr (.inr (some 97)), .inl a1, .inl a2, .inl a3, .inl a4], [.inl a4])) 1 hd0 hz (by rfl) ?_
          have j83 : ∀ (v23 : Int) , (-2147483648) ≤ v23 ∧ v23 ≤ 2147483647 → zG n (0, 0) d 219 (83, [.inr (.inr (some 97)), .inl a1, .inl a2, .inl a3, .inl a4], [.inl v23]) M19 (fun v M' => (qMI M' ∧ qFm [101, 102, 103, 104] M M') ∧ ∃ x : Int, v = some (.inl x) ∧ ((-2147483648) ≤ x ∧ x ≤ 2147483647)) := by
            intro v23 hv23
            exact zG_wr (r := some (.inl v23)) 0 hd0 hz (by rfl) ⟨⟨hCM19, hWM19⟩, _, rfl, by omega⟩
          refine zG_wf_ne (pc := 50) (n' := 53) (t := 62) (L := [.inr (.inr (some 97)), .inl a1, .inl a2, .inl a3, .inl a4]) (st := []) (x := a4) 0 hd0 hz (by rfl) (fun hb24 => ?_) (fun hb24 => ?_)
          · refine zG_wi_ne (pc := 65) (n' := 68) (t := 77) (L := [.inr (.inr (some 97)), .inl a1, .inl a2, .inl a3, .inl a4]) (st := []) (x := a4) (y := 1) 2 hd0 hz (by rfl) (fun hb25 => ?_) (fun hb25 => ?_)
            · refine zG_w (c' := (82, [.inr (.inr (some 97)), .inl a1, .inl a2, .inl a3, .inl a4], [.inl a2, .inr (.inr (some 104))])) 3 hd0 hz (by rfl) ?_
              refine zG_iald hd0 hz rfl rfl (.inl rfl) (by omega) ?_
              obtain ⟨x26, hx26⟩ : ∃ x : Int, x = M19 104 (a2 : Int).toNat := ⟨_, rfl⟩
              rw [← hx26]
              have hx26r : qin x26 := by rw [hx26]; exact hCM19.ra 104 _ (by decide) (by decide)
              show zG n (0, 0) d 219 (83, [.inr (.inr (some 97)), .inl a1, .inl a2, .inl a3, .inl a4], [.inl x26]) M19 _
              exact j83 x26 (by omega)
            · refine zG_w (c' := (73, [.inr (.inr (some 97)), .inl a1, .inl a2, .inl a3, .inl a4], [.inl a2, .inr (.inr (some 103))])) 3 hd0 hz (by rfl) ?_
              refine zG_iald hd0 hz rfl rfl (.inl rfl) (by omega) ?_
              obtain ⟨x27, hx27⟩ : ∃ x : Int, x = M19 103 (a2 : Int).toNat := ⟨_, rfl⟩
              rw [← hx27]
              have hx27r : qin x27 := by rw [hx27]; exact hCM19.ra 103 _ (by decide) (by decide)
              show zG n (0, 0) d 219 (74, [.inr (.inr (some 97)), .inl a1, .inl a2, .inl a3, .inl a4], [.inl x27]) M19 _
              refine zG_w (c' := (83, [.inr (.inr (some 97)), .inl a1, .inl a2, .inl a3, .inl a4], [.inl x27])) 1 hd0 hz (by rfl) ?_
              exact j83 x27 (by omega)
          · refine zG_w (c' := (58, [.inr (.inr (some 97)), .inl a1, .inl a2, .inl a3, .inl a4], [.inl a2, .inr (.inr (some 102))])) 3 hd0 hz (by rfl) ?_
            refine zG_iald hd0 hz rfl rfl (.inl rfl) (by omega) ?_
            obtain ⟨x28, hx28⟩ : ∃ x : Int, x = M19 102 (a2 : Int).toNat := ⟨_, rfl⟩
            rw [← hx28]
            have hx28r : qin x28 := by rw [hx28]; exact hCM19.ra 102 _ (by decide) (by decide)
            show zG n (0, 0) d 219 (59, [.inr (.inr (some 97)), .inl a1, .inl a2, .inl a3, .inl a4], [.inl x28]) M19 _
            refine zG_w (c' := (83, [.inr (.inr (some 97)), .inl a1, .inl a2, .inl a3, .inl a4], [.inl x28])) 1 hd0 hz (by rfl) ?_
            exact j83 x28 (by omega)
        · exact j35
