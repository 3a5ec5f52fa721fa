/-! THE MODEL'S METHODS, BY PROGRAM -/
theorem qm_184 {n d : Nat} {M : zM} (hd : 2 ≤ d) (hC : qMI M) (a0 : Int) (ha0 : (-2147483648) ≤ a0 ∧ a0 ≤ 2147483647) : qOkP n d 184 [.inl a0] 1 M (qRi (fun x => 0 ≤ x ∧ x ≤ 1 ∧ (x = 1 ↔ 0 ≤ a0 ∧ a0 ≤ 9999))) := by
  have hz : zP 184 = (zk_X11_isDay, 1, (0, 0)) := rfl
  have hd0 : 0 < d := by omega
  show zG n (0, 0) d 184 (0, [.inl a0], []) M _
  refine zG_blk (c' := (5, [.inl a0], [.inl 9999, .inl 0, .inl a0])) 3 hd0 hz (by rfl) ?_
  refine zG_call hd0 hz (rfl : zP 180 = (zk_X11_in, 3, (0, 0))) rfl rfl (Nat.le_of_ble_eq_true rfl) ⟨Nat.le_refl _, Nat.le_refl _⟩ (qx_in (by omega) hC  a0 (by omega) 0 (by omega) 9999 (by omega)) (fun vr M1 hr => ?_)
  obtain ⟨hq, x2, rfl, hx2⟩ := hr
  replace hq := hq.symm; subst hq
  show zG n (0, 0) d 184 (8, [.inl a0], [.inl x2]) M _
  exact zG_zret hd0 hz rfl (by omega) ⟨rfl, _, rfl, by omega⟩
theorem qm_185 {n d : Nat} {M : zM} (hd : 2 ≤ d) (hC : qMI M) (a0 : Int) (ha0 : (-2147483648) ≤ a0 ∧ a0 ≤ 2147483647) : qOkP n d 185 [.inl a0] 1 M (qRi (fun x => 0 ≤ x ∧ x ≤ 1 ∧ (x = 1 ↔ 0 ≤ a0 ∧ a0 ≤ 100))) := by
  have hz : zP 185 = (zk_X11_isMarkNumber, 1, (0, 0)) := rfl
  have hd0 : 0 < d := by omega
  show zG n (0, 0) d 185 (0, [.inl a0], []) M _
  refine zG_blk (c' := (4, [.inl a0], [.inl 100, .inl 0, .inl a0])) 3 hd0 hz (by rfl) ?_
  refine zG_call hd0 hz (rfl : zP 180 = (zk_X11_in, 3, (0, 0))) rfl rfl (Nat.le_of_ble_eq_true rfl) ⟨Nat.le_refl _, Nat.le_refl _⟩ (qx_in (by omega) hC  a0 (by omega) 0 (by omega) 100 (by omega)) (fun vr M1 hr => ?_)
  obtain ⟨hq, x2, rfl, hx2⟩ := hr
  replace hq := hq.symm; subst hq
  show zG n (0, 0) d 185 (7, [.inl a0], [.inl x2]) M _
  exact zG_zret hd0 hz rfl (by omega) ⟨rfl, _, rfl, by omega⟩
theorem qm_252 {n d : Nat} {M : zM} (hd : 2 ≤ d) (hC : qMI M) (a0 : Int) (ha0 : (-2147483648) ≤ a0 ∧ a0 ≤ 2147483647) : qOkP n d 252 [.inl a0] 1 M (qRi (fun x => 0 ≤ x ∧ x ≤ 1 ∧ (x = 1 ↔ 0 ≤ a0 ∧ a0 ≤ 7))) := by
  have hz : zP 252 = (zk_X11_isText, 1, (0, 0)) := rfl
  have hd0 : 0 < d := by omega
  show zG n (0, 0) d 252 (0, [.inl a0], []) M _
  refine zG_blk (c' := (4, [.inl a0], [.inl 7, .inl 0, .inl a0])) 3 hd0 hz (by rfl) ?_
  refine zG_call hd0 hz (rfl : zP 180 = (zk_X11_in, 3, (0, 0))) rfl rfl (Nat.le_of_ble_eq_true rfl) ⟨Nat.le_refl _, Nat.le_refl _⟩ (qx_in (by omega) hC  a0 (by omega) 0 (by omega) 7 (by omega)) (fun vr M1 hr => ?_)
  obtain ⟨hq, x2, rfl, hx2⟩ := hr
  replace hq := hq.symm; subst hq
  show zG n (0, 0) d 252 (7, [.inl a0], [.inl x2]) M _
  exact zG_zret hd0 hz rfl (by omega) ⟨rfl, _, rfl, by omega⟩
theorem qm_192_97 {n d : Nat} {M : zM} (hd : 2 ≤ d) (hC : qMI M) (a1 : Int) (ha1 : 0 ≤ a1 ∧ a1 ≤ 39) : qOkP n d 192 [.inr (.inr (some 97)), .inl a1] 4 M (qRi (fun x => 0 ≤ x ∧ x ≤ 1)) := by
  have hz : zP 192 = (zk_X11_isStanding, 4, (0, 0)) := rfl
  have hd0 : 0 < d := by omega
  show zG n (0, 0) d 192 (0, [.inr (.inr (some 97)), .inl a1, zN, zN], []) M _
  obtain ⟨x1, hx1⟩ : ∃ x : Int, x = w32 (5 * a1) := ⟨_, rfl⟩
  have hx1e : x1 = 5 * a1 := by rw [hx1]; exact w32_id (by omega)
  obtain ⟨x2, hx2⟩ : ∃ x : Int, x = w32 (150 + x1) := ⟨_, rfl⟩
  have hx2e : x2 = 150 + x1 := by rw [hx2]; exact w32_id (by omega)
  refine zG_blk (c' := (21, [.inr (.inr (some 97)), .inl a1, .inl x2, zN], [.inl x2, .inr (.inr (some 98)), .inl 2, .inl 140, .inr (.inr (some 98))])) 13 hd0 hz (by subst hx2; subst hx1; rfl) ?_
  refine zG_iald hd0 hz rfl rfl (.inl rfl) (by omega) ?_
  obtain ⟨x3, hx3⟩ : ∃ x : Int, x = M 98 (x2 : Int).toNat := ⟨_, rfl⟩
  rw [← hx3]
  have hx3r : 0 ≤ x3 ∧ x3 ≤ 3 := by rw [hx3]; exact hC.brd a1 _ (by omega) (by omega)
  show zG n (0, 0) d 192 (22, [.inr (.inr (some 97)), .inl a1, .inl x2, zN], [.inl x3, .inl 2, .inl 140, .inr (.inr (some 98))]) M _
  obtain ⟨x4, hx4⟩ : ∃ x : Int, x = w32 (2 * x3) := ⟨_, rfl⟩
  have hx4e : x4 = 2 * x3 := by rw [hx4]; exact w32_id (by omega)
  obtain ⟨x5, hx5⟩ : ∃ x : Int, x = w32 (140 + x4) := ⟨_, rfl⟩
  have hx5e : x5 = 140 + x4 := by rw [hx5]; exact w32_id (by omega)
  refine zG_blk (c' := (24, [.inr (.inr (some 97)), .inl a1, .inl x2, zN], [.inl x5, .inr (.inr (some 98))])) 2 hd0 hz (by subst hx5; subst hx4; rfl) ?_
  refine zG_iald hd0 hz rfl rfl (.inl rfl) (by omega) ?_
  obtain ⟨x6, hx6⟩ : ∃ x : Int, x = M 98 (x5 : Int).toNat := ⟨_, rfl⟩
  rw [← hx6]
  have hx6r : qin x6 := by rw [hx6]; exact hC.sin _
  show zG n (0, 0) d 192 (25, [.inr (.inr (some 97)), .inl a1, .inl x2, zN], [.inl x6]) M _
  obtain ⟨x7, hx7⟩ : ∃ x : Int, x = w32 (x2 + 4) := ⟨_, rfl⟩
  have hx7e : x7 = x2 + 4 := by rw [hx7]; exact w32_id (by omega)
  refine zG_blk (c' := (33, [.inr (.inr (some 97)), .inl a1, .inl x2, .inl x6], [.inl x7, .inr (.inr (some 98))])) 6 hd0 hz (by subst hx7; rfl) ?_
  refine zG_iald hd0 hz rfl rfl (.inl rfl) (by omega) ?_
  obtain ⟨x8, hx8⟩ : ∃ x : Int, x = M 98 (x7 : Int).toNat := ⟨_, rfl⟩
  rw [← hx8]
  have hx8r : qin x8 := by rw [hx8]; exact hC.sin _
  show zG n (0, 0) d 192 (34, [.inr (.inr (some 97)), .inl a1, .inl x2, .inl x6], [.inl x8]) M _
  have j91 : ∀ (v9 : Int) , 0 ≤ v9 ∧ v9 ≤ 1 → zG n (0, 0) d 192 (91, [.inr (.inr (some 97)), .inl a1, .inl x2, .inl x6], [.inl v9]) M (fun v M' => M' = M ∧ qRi (fun x => 0 ≤ x ∧ x ≤ 1) v) := by
    intro v9 hv9
    exact zG_zret hd0 hz rfl (by omega) ⟨rfl, _, rfl, by omega⟩
  have j90 : zG n (0, 0) d 192 (90, [.inr (.inr (some 97)), .inl a1, .inl x2, .inl x6], []) M (fun v M' => M' = M ∧ qRi (fun x => 0 ≤ x ∧ x ≤ 1) v) := by
    refine zG_blk (c' := (91, [.inr (.inr (some 97)), .inl a1, .inl x2, .inl x6], [.inl 0])) 1 hd0 hz (by rfl) ?_
    exact j91 0 (by omega)
  refine zG_if_ne hd0 hz rfl (fun hb10 => ?_) (fun hb10 => ?_)
  · exact j90
  · obtain ⟨x11, hx11⟩ : ∃ x : Int, x = w32 (x2 + 2) := ⟨_, rfl⟩
    have hx11e : x11 = x2 + 2 := by rw [hx11]; exact w32_id (by omega)
    refine zG_blk (c' := (44, [.inr (.inr (some 97)), .inl a1, .inl x2, .inl x6], [.inl x11, .inr (.inr (some 98))])) 5 hd0 hz (by subst hx11; rfl) ?_
    refine zG_iald hd0 hz rfl rfl (.inl rfl) (by omega) ?_
    obtain ⟨x12, hx12⟩ : ∃ x : Int, x = M 98 (x11 : Int).toNat := ⟨_, rfl⟩
    rw [← hx12]
    have hx12r : qin x12 := by rw [hx12]; exact hC.sin _
    show zG n (0, 0) d 192 (45, [.inr (.inr (some 97)), .inl a1, .inl x2, .inl x6], [.inl x12]) M _
    obtain ⟨x13, hx13⟩ : ∃ x : Int, x = zband x12 x6 := ⟨_, rfl⟩
    have hx13r : qin x13 := by rw [hx13]; exact qb32 _
    refine zG_blk (c' := (48, [.inr (.inr (some 97)), .inl a1, .inl x2, .inl x6], [.inl x6, .inl x13])) 3 hd0 hz (by subst hx13; rfl) ?_
    refine zG_icmp_ne hd0 hz rfl (fun hb14 => ?_) (fun hb14 => ?_)
    · exact j90
    · obtain ⟨x15, hx15⟩ : ∃ x : Int, x = w32 (x2 + 3) := ⟨_, rfl⟩
      have hx15e : x15 = x2 + 3 := by rw [hx15]; exact w32_id (by omega)
      refine zG_blk (c' := (58, [.inr (.inr (some 97)), .inl a1, .inl x2, .inl x6], [.inl x15, .inr (.inr (some 98))])) 5 hd0 hz (by subst hx15; rfl) ?_
      refine zG_iald hd0 hz rfl rfl (.inl rfl) (by omega) ?_
      obtain ⟨x16, hx16⟩ : ∃ x : Int, x = M 98 (x15 : Int).toNat := ⟨_, rfl⟩
      rw [← hx16]
      have hx16r : qin x16 := by rw [hx16]; exact hC.sin _
      show zG n (0, 0) d 192 (59, [.inr (.inr (some 97)), .inl a1, .inl x2, .inl x6], [.inl x16]) M _
      obtain ⟨x17, hx17⟩ : ∃ x : Int, x = zband x16 x6 := ⟨_, rfl⟩
      have hx17r : qin x17 := by rw [hx17]; exact qb32 _
      refine zG_blk (c' := (61, [.inr (.inr (some 97)), .inl a1, .inl x2, .inl x6], [.inl x17])) 2 hd0 hz (by subst hx17; rfl) ?_
      refine zG_call hd0 hz (rfl : zP 186 = (zk_X11_sizeOf, 3, (0, 0))) rfl rfl (Nat.le_of_ble_eq_true rfl) ⟨Nat.le_refl _, Nat.le_refl _⟩ (qx_sizeOf (by omega) hC  x17 (by omega)) (fun vr M18 hr => ?_)
      obtain ⟨hq, x19, rfl, hx19⟩ := hr
      replace hq := hq.symm; subst hq
      show zG n (0, 0) d 192 (64, [.inr (.inr (some 97)), .inl a1, .inl x2, .inl x6], [.inl x19]) M _
      refine zG_blk (c' := (77, [.inr (.inr (some 97)), .inl a1, .inl x2, .inl x6], [.inl x2, .inr (.inr (some 98)), .inl 2, .inl 140, .inr (.inr (some 98)), .inl x19])) 7 hd0 hz (by rfl) ?_
      refine zG_iald hd0 hz rfl rfl (.inl rfl) (by omega) ?_
      obtain ⟨x20, hx20⟩ : ∃ x : Int, x = M 98 (x2 : Int).toNat := ⟨_, rfl⟩
      rw [← hx20]
      have hx20r : 0 ≤ x20 ∧ x20 ≤ 3 := by rw [hx20]; exact hC.brd a1 _ (by omega) (by omega)
      show zG n (0, 0) d 192 (78, [.inr (.inr (some 97)), .inl a1, .inl x2, .inl x6], [.inl x20, .inl 2, .inl 140, .inr (.inr (some 98)), .inl x19]) M _
      obtain ⟨x21, hx21⟩ : ∃ x : Int, x = w32 (2 * x20) := ⟨_, rfl⟩
      have hx21e : x21 = 2 * x20 := by rw [hx21]; exact w32_id (by omega)
      obtain ⟨x22, hx22⟩ : ∃ x : Int, x = w32 (140 + x21) := ⟨_, rfl⟩
      have hx22e : x22 = 140 + x21 := by rw [hx22]; exact w32_id (by omega)
      obtain ⟨x23, hx23⟩ : ∃ x : Int, x = w32 (x22 + 1) := ⟨_, rfl⟩
      have hx23e : x23 = x22 + 1 := by rw [hx23]; exact w32_id (by omega)
      refine zG_blk (c' := (82, [.inr (.inr (some 97)), .inl a1, .inl x2, .inl x6], [.inl x23, .inr (.inr (some 98)), .inl x19])) 4 hd0 hz (by subst hx23; subst hx22; subst hx21; rfl) ?_
      refine zG_iald hd0 hz rfl rfl (.inl rfl) (by omega) ?_
      obtain ⟨x24, hx24⟩ : ∃ x : Int, x = M 98 (x23 : Int).toNat := ⟨_, rfl⟩
      rw [← hx24]
      have hx24r : qin x24 := by rw [hx24]; exact hC.sin _
      show zG n (0, 0) d 192 (83, [.inr (.inr (some 97)), .inl a1, .inl x2, .inl x6], [.inl x24, .inl x19]) M _
      refine zG_icmp_lt hd0 hz rfl (fun hb25 => ?_) (fun hb25 => ?_)
      · exact j90
      · refine zG_blk (c' := (91, [.inr (.inr (some 97)), .inl a1, .inl x2, .inl x6], [.inl 1])) 2 hd0 hz (by rfl) ?_
        exact j91 1 (by omega)
theorem qm_193_97 {n d : Nat} {M : zM} (hd : 3 ≤ d) (hC : qMI M) (a1 : Int) (ha1 : (-2147483648) ≤ a1 ∧ a1 ≤ 2147483647) : qOkP n d 193 [.inr (.inr (some 97)), .inl a1] 2 M (qRi (fun x => (-2) ≤ x ∧ x ≤ 1)) := by
  have hz : zP 193 = (zk_X11_stands, 2, (0, 0)) := rfl
  have hd0 : 0 < d := by omega
  show zG n (0, 0) d 193 (0, [.inr (.inr (some 97)), .inl a1], []) M _
  refine zG_blk (c' := (3, [.inr (.inr (some 97)), .inl a1], [.inl a1, .inl 3, .inr (.inr (some 97))])) 3 hd0 hz (by rfl) ?_
  refine zG_call hd0 hz (rfl : zP 182 = (zk_X11_is, 3, (0, 0))) rfl rfl (Nat.le_of_ble_eq_true rfl) ⟨Nat.le_refl _, Nat.le_refl _⟩ (qx_is (by omega) hC  3 (by omega) a1 (by omega)) (fun vr M1 hr => ?_)
  obtain ⟨hq, x2, rfl, hx2⟩ := hr
  replace hq := hq.symm; subst hq
  show zG n (0, 0) d 193 (6, [.inr (.inr (some 97)), .inl a1], [.inl x2]) M _
  have j27 : ∀ (v3 : Int) , (-2) ≤ v3 ∧ v3 ≤ 1 → zG n (0, 0) d 193 (27, [.inr (.inr (some 97)), .inl a1], [.inl v3]) M (fun v M' => M' = M ∧ qRi (fun x => (-2) ≤ x ∧ x ≤ 1) v) := by
    intro v3 hv3
    exact zG_ret hd0 hz rfl rfl ⟨rfl, _, rfl, by omega⟩
  refine zG_if_ne hd0 hz rfl (fun hb4 => ?_) (fun hb4 => ?_)
  · refine zG_blk (c' := (16, [.inr (.inr (some 97)), .inl a1], [.inl a1, .inr (.inr (some 97))])) 2 hd0 hz (by rfl) ?_
    refine zG_call hd0 hz (rfl : zP 192 = (zk_X11_isStanding, 4, (0, 0))) rfl rfl (Nat.le_of_ble_eq_true rfl) ⟨Nat.le_refl _, Nat.le_refl _⟩ (qm_192_97 (by omega) hC  a1 (by omega)) (fun vr M5 hr => ?_)
    obtain ⟨hq, x6, rfl, hx6⟩ := hr
    replace hq := hq.symm; subst hq
    show zG n (0, 0) d 193 (19, [.inr (.inr (some 97)), .inl a1], [.inl x6]) M _
    refine zG_if_eq hd0 hz rfl (fun hb7 => ?_) (fun hb7 => ?_)
    · refine zG_blk (c' := (27, [.inr (.inr (some 97)), .inl a1], [.inl 0])) 1 hd0 hz (by rfl) ?_
      exact j27 0 (by omega)
    · refine zG_blk (c' := (27, [.inr (.inr (some 97)), .inl a1], [.inl 1])) 2 hd0 hz (by rfl) ?_
      exact j27 1 (by omega)
  · refine zG_blk (c' := (27, [.inr (.inr (some 97)), .inl a1], [.inl (-2)])) 2 hd0 hz (by rfl) ?_
    exact j27 (-2) (by omega)
theorem qm_198_97 {n d : Nat} {M : zM} (hd : 3 ≤ d) (hC : qMI M) (a1 : Int) (ha1 : (-2147483648) ≤ a1 ∧ a1 ≤ 2147483647) : qOkP n d 198 [.inr (.inr (some 97)), .inl a1] 2 M (qRi (fun x => 0 ≤ x ∧ x ≤ 1)) := by
  have hz : zP 198 = (zk_X11_isMark, 2, (0, 0)) := rfl
  have hd0 : 0 < d := by omega
  show zG n (0, 0) d 198 (0, [.inr (.inr (some 97)), .inl a1], []) M _
  refine zG_blk (c' := (3, [.inr (.inr (some 97)), .inl a1], [.inl a1, .inl 4, .inr (.inr (some 97))])) 3 hd0 hz (by rfl) ?_
  refine zG_call hd0 hz (rfl : zP 182 = (zk_X11_is, 3, (0, 0))) rfl rfl (Nat.le_of_ble_eq_true rfl) ⟨Nat.le_refl _, Nat.le_refl _⟩ (qx_is (by omega) hC  4 (by omega) a1 (by omega)) (fun vr M1 hr => ?_)
  obtain ⟨hq, x2, rfl, hx2⟩ := hr
  replace hq := hq.symm; subst hq
  show zG n (0, 0) d 198 (6, [.inr (.inr (some 97)), .inl a1], [.inl x2]) M _
  have j23 : ∀ (v3 : Int) , 0 ≤ v3 ∧ v3 ≤ 1 → zG n (0, 0) d 198 (23, [.inr (.inr (some 97)), .inl a1], [.inl v3]) M (fun v M' => M' = M ∧ qRi (fun x => 0 ≤ x ∧ x ≤ 1) v) := by
    intro v3 hv3
    exact zG_zret hd0 hz rfl (by omega) ⟨rfl, _, rfl, by omega⟩
  have j22 : zG n (0, 0) d 198 (22, [.inr (.inr (some 97)), .inl a1], []) M (fun v M' => M' = M ∧ qRi (fun x => 0 ≤ x ∧ x ≤ 1) v) := by
    refine zG_blk (c' := (23, [.inr (.inr (some 97)), .inl a1], [.inl 0])) 1 hd0 hz (by rfl) ?_
    exact j23 0 (by omega)
  refine zG_if_eq hd0 hz rfl (fun hb4 => ?_) (fun hb4 => ?_)
  · exact j22
  · refine zG_blk (c' := (12, [.inr (.inr (some 97)), .inl a1], [.inl 0, .inl a1, .inr (.inr (some 97))])) 3 hd0 hz (by rfl) ?_
    refine zG_call hd0 hz (rfl : zP 194 = (zk_X11_act, 3, (0, 0))) rfl rfl (Nat.le_of_ble_eq_true rfl) ⟨Nat.le_refl _, Nat.le_refl _⟩ (qx_act (by omega) hC  a1 (by omega) 0 (by omega)) (fun vr M5 hr => ?_)
    obtain ⟨hq, x6, rfl, hx6⟩ := hr
    replace hq := hq.symm; subst hq
    show zG n (0, 0) d 198 (15, [.inr (.inr (some 97)), .inl a1], [.inl x6]) M _
    refine zG_if_ne hd0 hz rfl (fun hb7 => ?_) (fun hb7 => ?_)
    · exact j22
    · refine zG_blk (c' := (23, [.inr (.inr (some 97)), .inl a1], [.inl 1])) 2 hd0 hz (by rfl) ?_
      exact j23 1 (by omega)
theorem qm_200_97 {n d : Nat} {M : zM} (hd : 3 ≤ d) (hC : qMI M) (a1 : Int) (ha1 : (-2147483648) ≤ a1 ∧ a1 ≤ 2147483647) (a2 : Int) (ha2 : (-2147483648) ≤ a2 ∧ a2 ≤ 2147483647) : qOkP n d 200 [.inr (.inr (some 97)), .inl a1, .inl a2] 3 M (qRi (fun x => 0 ≤ x ∧ x ≤ 1)) := by
  have hz : zP 200 = (zk_X11_isBy, 3, (0, 0)) := rfl
  have hd0 : 0 < d := by omega
  show zG n (0, 0) d 200 (0, [.inr (.inr (some 97)), .inl a1, .inl a2], []) M _
  refine zG_blk (c' := (3, [.inr (.inr (some 97)), .inl a1, .inl a2], [.inl a1, .inl 3, .inr (.inr (some 97))])) 3 hd0 hz (by rfl) ?_
  refine zG_call hd0 hz (rfl : zP 182 = (zk_X11_is, 3, (0, 0))) rfl rfl (Nat.le_of_ble_eq_true rfl) ⟨Nat.le_refl _, Nat.le_refl _⟩ (qx_is (by omega) hC  3 (by omega) a1 (by omega)) (fun vr M1 hr => ?_)
  obtain ⟨hq, x2, rfl, hx2⟩ := hr
  replace hq := hq.symm; subst hq
  show zG n (0, 0) d 200 (6, [.inr (.inr (some 97)), .inl a1, .inl a2], [.inl x2]) M _
  have j29 : ∀ (v3 : Int) , 0 ≤ v3 ∧ v3 ≤ 1 → zG n (0, 0) d 200 (29, [.inr (.inr (some 97)), .inl a1, .inl a2], [.inl v3]) M (fun v M' => M' = M ∧ qRi (fun x => 0 ≤ x ∧ x ≤ 1) v) := by
    intro v3 hv3
    exact zG_zret hd0 hz rfl (by omega) ⟨rfl, _, rfl, by omega⟩
  have j28 : zG n (0, 0) d 200 (28, [.inr (.inr (some 97)), .inl a1, .inl a2], []) M (fun v M' => M' = M ∧ qRi (fun x => 0 ≤ x ∧ x ≤ 1) v) := by
    refine zG_blk (c' := (29, [.inr (.inr (some 97)), .inl a1, .inl a2], [.inl 0])) 1 hd0 hz (by rfl) ?_
    exact j29 0 (by omega)
  refine zG_if_eq hd0 hz rfl (fun hb4 => ?_) (fun hb4 => ?_)
  · exact j28
  · refine zG_blk (c' := (12, [.inr (.inr (some 97)), .inl a1, .inl a2], [.inl a1, .inr (.inr (some 97)), .inl a2])) 3 hd0 hz (by rfl) ?_
    refine zG_call hd0 hz (rfl : zP 199 = (zk_X11_dayOf, 2, (0, 0))) rfl rfl (Nat.le_of_ble_eq_true rfl) ⟨Nat.le_refl _, Nat.le_refl _⟩ (qx_dayOf (by omega) hC  a1 (by omega)) (fun vr M5 hr => ?_)
    obtain ⟨hq, x6, rfl, hx6⟩ := hr
    replace hq := hq.symm; subst hq
    show zG n (0, 0) d 200 (15, [.inr (.inr (some 97)), .inl a1, .inl a2], [.inl x6, .inl a2]) M _
    refine zG_blk (c' := (18, [.inr (.inr (some 97)), .inl a1, .inl a2], [.inl 9999, .inl x6, .inl a2])) 1 hd0 hz (by rfl) ?_
    refine zG_call hd0 hz (rfl : zP 180 = (zk_X11_in, 3, (0, 0))) rfl rfl (Nat.le_of_ble_eq_true rfl) ⟨Nat.le_refl _, Nat.le_refl _⟩ (qx_in (by omega) hC  a2 (by omega) x6 (by omega) 9999 (by omega)) (fun vr M7 hr => ?_)
    obtain ⟨hq, x8, rfl, hx8⟩ := hr
    replace hq := hq.symm; subst hq
    show zG n (0, 0) d 200 (21, [.inr (.inr (some 97)), .inl a1, .inl a2], [.inl x8]) M _
    refine zG_if_eq hd0 hz rfl (fun hb9 => ?_) (fun hb9 => ?_)
    · exact j28
    · refine zG_blk (c' := (29, [.inr (.inr (some 97)), .inl a1, .inl a2], [.inl 1])) 2 hd0 hz (by rfl) ?_
      exact j29 1 (by omega)
theorem qm_210_97 {n d : Nat} {M : zM} (hd : 3 ≤ d) (hC : qMI M) (a1 : Int) (ha1 : (-2147483648) ≤ a1 ∧ a1 ≤ 2147483647) (a2 : Int) (ha2 : (-2147483648) ≤ a2 ∧ a2 ≤ 2147483647) : qOkP n d 210 [.inr (.inr (some 97)), .inl a1, .inl a2] 3 M (qRi (fun x => (-2147483648) ≤ x ∧ x ≤ 2147483647)) := by
  have hz : zP 210 = (zk_X11_about, 3, (0, 0)) := rfl
  have hd0 : 0 < d := by omega
  show zG n (0, 0) d 210 (0, [.inr (.inr (some 97)), .inl a1, .inl a2], []) M _
  refine zG_blk (c' := (3, [.inr (.inr (some 97)), .inl a1, .inl a2], [.inl a1, .inl 4, .inr (.inr (some 97))])) 3 hd0 hz (by rfl) ?_
  refine zG_call hd0 hz (rfl : zP 182 = (zk_X11_is, 3, (0, 0))) rfl rfl (Nat.le_of_ble_eq_true rfl) ⟨Nat.le_refl _, Nat.le_refl _⟩ (qx_is (by omega) hC  4 (by omega) a1 (by omega)) (fun vr M1 hr => ?_)
  obtain ⟨hq, x2, rfl, hx2⟩ := hr
  replace hq := hq.symm; subst hq
  show zG n (0, 0) d 210 (6, [.inr (.inr (some 97)), .inl a1, .inl a2], [.inl x2]) M _
  have j30 : ∀ (v3 : Int) , (-2147483648) ≤ v3 ∧ v3 ≤ 2147483647 → zG n (0, 0) d 210 (30, [.inr (.inr (some 97)), .inl a1, .inl a2], [.inl v3]) M (fun v M' => M' = M ∧ qRi (fun x => (-2147483648) ≤ x ∧ x ≤ 2147483647) v) := by
    intro v3 hv3
    exact zG_ret hd0 hz rfl rfl ⟨rfl, _, rfl, by omega⟩
  have j28 : zG n (0, 0) d 210 (28, [.inr (.inr (some 97)), .inl a1, .inl a2], []) M (fun v M' => M' = M ∧ qRi (fun x => (-2147483648) ≤ x ∧ x ≤ 2147483647) v) := by
    refine zG_blk (c' := (30, [.inr (.inr (some 97)), .inl a1, .inl a2], [.inl (-2)])) 1 hd0 hz (by rfl) ?_
    exact j30 (-2) (by omega)
  refine zG_if_eq hd0 hz rfl (fun hb4 => ?_) (fun hb4 => ?_)
  · exact j28
  · refine zG_blk (c' := (13, [.inr (.inr (some 97)), .inl a1, .inl a2], [.inl 7, .inl 0, .inl a2])) 3 hd0 hz (by rfl) ?_
    refine zG_call hd0 hz (rfl : zP 180 = (zk_X11_in, 3, (0, 0))) rfl rfl (Nat.le_of_ble_eq_true rfl) ⟨Nat.le_refl _, Nat.le_refl _⟩ (qx_in (by omega) hC  a2 (by omega) 0 (by omega) 7 (by omega)) (fun vr M5 hr => ?_)
    obtain ⟨hq, x6, rfl, hx6⟩ := hr
    replace hq := hq.symm; subst hq
    show zG n (0, 0) d 210 (16, [.inr (.inr (some 97)), .inl a1, .inl a2], [.inl x6]) M _
    refine zG_if_eq hd0 hz rfl (fun hb7 => ?_) (fun hb7 => ?_)
    · exact j28
    · refine zG_blk (c' := (22, [.inr (.inr (some 97)), .inl a1, .inl a2], [.inl a2, .inl a1, .inr (.inr (some 97))])) 3 hd0 hz (by rfl) ?_
      refine zG_call hd0 hz (rfl : zP 194 = (zk_X11_act, 3, (0, 0))) rfl rfl (Nat.le_of_ble_eq_true rfl) ⟨Nat.le_refl _, Nat.le_refl _⟩ (qx_act (by omega) hC  a1 (by omega) a2 (by omega)) (fun vr M8 hr => ?_)
      obtain ⟨hq, x9, rfl, hx9⟩ := hr
      replace hq := hq.symm; subst hq
      show zG n (0, 0) d 210 (25, [.inr (.inr (some 97)), .inl a1, .inl a2], [.inl x9]) M _
      refine zG_blk (c' := (30, [.inr (.inr (some 97)), .inl a1, .inl a2], [.inl x9])) 1 hd0 hz (by rfl) ?_
      exact j30 x9 (by omega)
theorem qm_211_97 {n d : Nat} {M : zM} (hd : 3 ≤ d) (hC : qMI M) (a1 : Int) (ha1 : (-2147483648) ≤ a1 ∧ a1 ≤ 2147483647) : qOkM n d 211 [.inr (.inr (some 97)), .inl a1] 3 qMI [101] M qRn := by
  have hz : zP 211 = (zk_X11_finds, 3, (0, 0)) := rfl
  have hd0 : 0 < d := by omega
  have hW : qFr [101] M M := qFr.rfl
  show zG n (0, 0) d 211 (0, [.inr (.inr (some 97)), .inl a1, zN], []) M _
  refine zG_blk (c' := (2, [.inr (.inr (some 97)), .inl a1, .inl 0], [])) 2 hd0 hz (by rfl) ?_
  have j2 : ∀ (N : Nat) (v1 : Int) (M2 : zM) , (250 - v1 : Int).toNat < N → 0 ≤ v1 ∧ v1 ≤ 250 → qMI M2 → qFr [101] M M2 → zG n (0, 0) d 211 (2, [.inr (.inr (some 97)), .inl a1, .inl v1], []) M2 (fun v M' => qWf qMI [101] M M' ∧ qRn v) := by
    intro N
    induction N with
    | zero => intro v1 M2 hN hv1 hCM2 hWM2; exact absurd hN (Nat.not_lt_zero _)
    | succ N ih2 =>
      intro v1 M2 hN hv1 hCM2 hWM2
      refine zG_blk (c' := (8, [.inr (.inr (some 97)), .inl a1, .inl v1], [.inl 4, .inr (.inr (some 98)), .inl v1])) 4 hd0 hz (by rfl) ?_
      refine zG_iald hd0 hz rfl rfl (.inl rfl) (by omega) ?_
      have r3 := hCM2.cnt4
      show zG n (0, 0) d 211 (9, [.inr (.inr (some 97)), .inl a1, .inl v1], [.inl (M2 98 4), .inl v1]) M2 _
      refine zG_icmp_ge hd0 hz rfl (fun hb4 => ?_) (fun hb4 => ?_)
      · refine zG_blk (c' := (67, [.inr (.inr (some 97)), .inl a1, .inl v1], [.inl 4, .inr (.inr (some 98))])) 3 hd0 hz (by rfl) ?_
        refine zG_iald hd0 hz rfl rfl (.inl rfl) (by omega) ?_
        show zG n (0, 0) d 211 (68, [.inr (.inr (some 97)), .inl a1, .inl v1], [.inl (M2 98 4)]) M2 _
        obtain ⟨x5, hx5⟩ : ∃ x : Int, x = w32 ((M2 98 4) - 1) := ⟨_, rfl⟩
        have hx5e : x5 = (M2 98 4) - 1 := by rw [hx5]; exact w32_id (by omega)
        refine zG_blk (c' := (71, [.inr (.inr (some 97)), .inl a1, .inl x5], [])) 3 hd0 hz (by subst hx5; rfl) ?_
        have j71 : ∀ (N : Nat) (v6 : Int) (M7 : zM) , (v6 + 1 : Int).toNat < N → (-1) ≤ v6 ∧ v6 ≤ 249 → qMI M7 → qFr [101] M M7 → zG n (0, 0) d 211 (71, [.inr (.inr (some 97)), .inl a1, .inl v6], []) M7 (fun v M' => qWf qMI [101] M M' ∧ qRn v) := by
          intro N
          induction N with
          | zero => intro v6 M7 hN hv6 hCM7 hWM7; exact absurd hN (Nat.not_lt_zero _)
          | succ N ih71 =>
            intro v6 M7 hN hv6 hCM7 hWM7
            refine zG_blk (c' := (72, [.inr (.inr (some 97)), .inl a1, .inl v6], [.inl v6])) 1 hd0 hz (by rfl) ?_
            refine zG_if_lt hd0 hz rfl (fun hb8 => ?_) (fun hb8 => ?_)
            · exact zG_ret hd0 hz rfl rfl ⟨⟨hCM7, hWM7⟩, rfl⟩
            · refine zG_blk (c' := (80, [.inr (.inr (some 97)), .inl a1, .inl v6], [.inl v6, .inr (.inr (some 101))])) 3 hd0 hz (by rfl) ?_
              refine zG_bald hd0 hz rfl rfl (.inl rfl) (by omega) ?_
              obtain ⟨x9, hx9⟩ : ∃ x : Int, x = M7 101 (v6 : Int).toNat := ⟨_, rfl⟩
              rw [← hx9]
              have hx9r : x9 = 0 ∨ x9 = 1 := by rw [hx9]; exact hCM7.bl101 _
              show zG n (0, 0) d 211 (81, [.inr (.inr (some 97)), .inl a1, .inl v6], [.inl x9]) M7 _
              have j107 : ∀ (M10 : zM) , qMI M10 → qFr [101] M M10 → zG n (0, 0) d 211 (107, [.inr (.inr (some 97)), .inl a1, .inl v6], []) M10 (fun v M' => qWf qMI [101] M M' ∧ qRn v) := by
                intro M10 hCM10 hWM10
                obtain ⟨x11, hx11⟩ : ∃ x : Int, x = w32 (v6 + (-1)) := ⟨_, rfl⟩
                have hx11e : x11 = v6 + (-1) := by rw [hx11]; exact w32_id (by omega)
                refine zG_blk (c' := (71, [.inr (.inr (some 97)), .inl a1, .inl x11], [])) 2 hd0 hz (by subst hx11; rfl) ?_
                exact ih71 x11 M10 (by omega) (by omega) hCM10 hWM10
              refine zG_if_eq hd0 hz rfl (fun hb12 => ?_) (fun hb12 => ?_)
              · exact j107 M7 hCM7 hWM7
              · refine zG_blk (c' := (87, [.inr (.inr (some 97)), .inl a1, .inl v6], [.inl 0, .inl v6, .inr (.inr (some 97))])) 3 hd0 hz (by rfl) ?_
                refine zG_call hd0 hz (rfl : zP 194 = (zk_X11_act, 3, (0, 0))) rfl rfl (Nat.le_of_ble_eq_true rfl) ⟨Nat.le_refl _, Nat.le_refl _⟩ (qx_act (by omega) hCM7  v6 (by omega) 0 (by omega)) (fun vr M13 hr => ?_)
                obtain ⟨hq, x14, rfl, hx14⟩ := hr
                replace hq := hq.symm; subst hq
                show zG n (0, 0) d 211 (90, [.inr (.inr (some 97)), .inl a1, .inl v6], [.inl x14]) M7 _
                refine zG_blk (c' := (91, [.inr (.inr (some 97)), .inl a1, .inl v6], [.inl 5, .inl x14])) 1 hd0 hz (by rfl) ?_
                refine zG_icmp_ne hd0 hz rfl (fun hb15 => ?_) (fun hb15 => ?_)
                · exact j107 M7 hCM7 hWM7
                · have hrel := hCM7.rel v6 (by omega) (by omega)
                  refine zG_blk (c' := (102, [.inr (.inr (some 97)), .inl a1, .inl v6], [.inl 6, .inl v6, .inr (.inr (some 97)), .inr (.inr (some 101))])) 5 hd0 hz (by rfl) ?_
                  refine zG_call hd0 hz (rfl : zP 194 = (zk_X11_act, 3, (0, 0))) rfl rfl (Nat.le_of_ble_eq_true rfl) ⟨Nat.le_refl _, Nat.le_refl _⟩ (qx_act (by omega) hCM7  v6 (by omega) 6 (by omega)) (fun vr M16 hr => ?_)
                  obtain ⟨hq, x17, rfl, hx17⟩ := hr
                  replace hq := hq.symm; subst hq
                  show zG n (0, 0) d 211 (105, [.inr (.inr (some 97)), .inl a1, .inl v6], [.inl x17, .inr (.inr (some 101))]) M7 _
                  refine zG_blk (c' := (106, [.inr (.inr (some 97)), .inl a1, .inl v6], [.inl 0, .inl x17, .inr (.inr (some 101))])) 1 hd0 hz (by rfl) ?_
                  refine zG_bast (by omega) hd0 hz rfl rfl (by omega) ?_
                  obtain ⟨M18, hM18⟩ : ∃ X : zM, X = zput M7 101 (x17 : Int).toNat 0 := ⟨_, rfl⟩
                  rw [← hM18]
                  have hCM18 : qMI M18 := by rw [hM18]; exact hCM7.put (by decide) (by decide) (by decide) (by refine ⟨fun _ => ?_, fun _ => ?_, fun h => ?_, fun h => ?_, fun h => ?_⟩ <;> omega)
                  have hWM18 : qFr [101] M M18 := by rw [hM18]; exact hWM7.put (by decide)
                  show zG n (0, 0) d 211 (107, [.inr (.inr (some 97)), .inl a1, .inl v6], []) M18 _
                  exact j107 M18 hCM18 hWM18
        exact j71 ((x5 + 1 : Int).toNat + 1) x5 M2 (by omega) (by omega) hCM2 hWM2
      · refine zG_blk (c' := (20, [.inr (.inr (some 97)), .inl a1, .inl v1], [.inl 2, .inl v1, .inr (.inr (some 97)), .inl v1, .inr (.inr (some 101))])) 6 hd0 hz (by rfl) ?_
        refine zG_call hd0 hz (rfl : zP 194 = (zk_X11_act, 3, (0, 0))) rfl rfl (Nat.le_of_ble_eq_true rfl) ⟨Nat.le_refl _, Nat.le_refl _⟩ (qx_act (by omega) hCM2  v1 (by omega) 2 (by omega)) (fun vr M19 hr => ?_)
        obtain ⟨hq, x20, rfl, hx20⟩ := hr
        replace hq := hq.symm; subst hq
        show zG n (0, 0) d 211 (23, [.inr (.inr (some 97)), .inl a1, .inl v1], [.inl x20, .inl v1, .inr (.inr (some 101))]) M2 _
        refine zG_blk (c' := (24, [.inr (.inr (some 97)), .inl a1, .inl v1], [.inl a1, .inl x20, .inl v1, .inr (.inr (some 101))])) 1 hd0 hz (by rfl) ?_
        have j55 : ∀ (v21 v22 : Int) , 0 ≤ v21 ∧ v21 ≤ 249 → 0 ≤ v22 ∧ v22 ≤ 1 → zG n (0, 0) d 211 (55, [.inr (.inr (some 97)), .inl a1, .inl v1], [.inl v22, .inl v21, .inr (.inr (some 101))]) M2 (fun v M' => qWf qMI [101] M M' ∧ qRn v) := by
          intro v21 v22 hv21 hv22
          refine zG_bast (by omega) hd0 hz rfl rfl (by omega) ?_
          obtain ⟨M23, hM23⟩ : ∃ X : zM, X = zput M2 101 (v21 : Int).toNat v22 := ⟨_, rfl⟩
          rw [← hM23]
          have hCM23 : qMI M23 := by rw [hM23]; exact hCM2.put (by decide) (by decide) (by decide) (by refine ⟨fun _ => ?_, fun _ => ?_, fun h => ?_, fun h => ?_, fun h => ?_⟩ <;> omega)
          have hWM23 : qFr [101] M M23 := by rw [hM23]; exact hWM2.put (by decide)
          have e24 : M23 98 4 = M2 98 4 := by rw [hM23]; exact qput_ne (by decide)
          show zG n (0, 0) d 211 (56, [.inr (.inr (some 97)), .inl a1, .inl v1], []) M23 _
          obtain ⟨x25, hx25⟩ : ∃ x : Int, x = w32 (v1 + 1) := ⟨_, rfl⟩
          have hx25e : x25 = v1 + 1 := by rw [hx25]; exact w32_id (by omega)
          refine zG_blk (c' := (2, [.inr (.inr (some 97)), .inl a1, .inl x25], [])) 2 hd0 hz (by subst hx25; rfl) ?_
          exact ih2 x25 M23 (by omega) (by omega) hCM23 hWM23
        have j54 : ∀ (v26 : Int) , 0 ≤ v26 ∧ v26 ≤ 249 → zG n (0, 0) d 211 (54, [.inr (.inr (some 97)), .inl a1, .inl v1], [.inl v26, .inr (.inr (some 101))]) M2 (fun v M' => qWf qMI [101] M M' ∧ qRn v) := by
          intro v26 hv26
          refine zG_blk (c' := (55, [.inr (.inr (some 97)), .inl a1, .inl v1], [.inl 0, .inl v26, .inr (.inr (some 101))])) 1 hd0 hz (by rfl) ?_
          exact j55 v26 0 (by omega) (by omega)
        refine zG_icmp_gt hd0 hz rfl (fun hb27 => ?_) (fun hb27 => ?_)
        · exact j54 v1 (by omega)
        · refine zG_blk (c' := (30, [.inr (.inr (some 97)), .inl a1, .inl v1], [.inl 3, .inl v1, .inr (.inr (some 97)), .inl v1, .inr (.inr (some 101))])) 3 hd0 hz (by rfl) ?_
          refine zG_call hd0 hz (rfl : zP 194 = (zk_X11_act, 3, (0, 0))) rfl rfl (Nat.le_of_ble_eq_true rfl) ⟨Nat.le_refl _, Nat.le_refl _⟩ (qx_act (by omega) hCM2  v1 (by omega) 3 (by omega)) (fun vr M28 hr => ?_)
          obtain ⟨hq, x29, rfl, hx29⟩ := hr
          replace hq := hq.symm; subst hq
          show zG n (0, 0) d 211 (33, [.inr (.inr (some 97)), .inl a1, .inl v1], [.inl x29, .inl v1, .inr (.inr (some 101))]) M2 _
          refine zG_blk (c' := (34, [.inr (.inr (some 97)), .inl a1, .inl v1], [.inl (-1), .inl x29, .inl v1, .inr (.inr (some 101))])) 1 hd0 hz (by rfl) ?_
          have j50 : ∀ (v30 : Int) , 0 ≤ v30 ∧ v30 ≤ 249 → zG n (0, 0) d 211 (50, [.inr (.inr (some 97)), .inl a1, .inl v1], [.inl v30, .inr (.inr (some 101))]) M2 (fun v M' => qWf qMI [101] M M' ∧ qRn v) := by
            intro v30 hv30
            refine zG_blk (c' := (55, [.inr (.inr (some 97)), .inl a1, .inl v1], [.inl 1, .inl v30, .inr (.inr (some 101))])) 2 hd0 hz (by rfl) ?_
            exact j55 v30 1 (by omega) (by omega)
          refine zG_icmp_eq hd0 hz rfl (fun hb31 => ?_) (fun hb31 => ?_)
          · exact j50 v1 (by omega)
          · refine zG_blk (c' := (41, [.inr (.inr (some 97)), .inl a1, .inl v1], [.inl 3, .inl v1, .inr (.inr (some 97)), .inr (.inr (some 97)), .inl v1, .inr (.inr (some 101))])) 4 hd0 hz (by rfl) ?_
            refine zG_call hd0 hz (rfl : zP 194 = (zk_X11_act, 3, (0, 0))) rfl rfl (Nat.le_of_ble_eq_true rfl) ⟨Nat.le_refl _, Nat.le_refl _⟩ (qx_act (by omega) hCM2  v1 (by omega) 3 (by omega)) (fun vr M32 hr => ?_)
            obtain ⟨hq, x33, rfl, hx33⟩ := hr
            replace hq := hq.symm; subst hq
            show zG n (0, 0) d 211 (44, [.inr (.inr (some 97)), .inl a1, .inl v1], [.inl x33, .inr (.inr (some 97)), .inl v1, .inr (.inr (some 101))]) M2 _
            refine zG_call hd0 hz (rfl : zP 192 = (zk_X11_isStanding, 4, (0, 0))) rfl rfl (Nat.le_of_ble_eq_true rfl) ⟨Nat.le_refl _, Nat.le_refl _⟩ (qm_192_97 (by omega) hCM2  x33 (by omega)) (fun vr M34 hr => ?_)
            obtain ⟨hq, x35, rfl, hx35⟩ := hr
            replace hq := hq.symm; subst hq
            show zG n (0, 0) d 211 (47, [.inr (.inr (some 97)), .inl a1, .inl v1], [.inl x35, .inl v1, .inr (.inr (some 101))]) M2 _
            refine zG_if_eq hd0 hz rfl (fun hb36 => ?_) (fun hb36 => ?_)
            · exact j54 v1 (by omega)
            · exact j50 v1 (by omega)
  exact j2 ((250 - 0 : Int).toNat + 1) 0 M (by omega) (by omega) hC hW
theorem qm_212_97 {n d : Nat} {M : zM} (hd : 4 ≤ d) (hC : qMI M) (a1 : Int) (ha1 : (-2147483648) ≤ a1 ∧ a1 ≤ 2147483647) (a2 : Int) (ha2 : (-2147483648) ≤ a2 ∧ a2 ≤ 2147483647) : qOkM n d 212 [.inr (.inr (some 97)), .inl a1, .inl a2] 3 qMI [101] M (qRi (fun x => (-2) ≤ x ∧ x ≤ 1)) := by
  have hz : zP 212 = (zk_X11_counts, 3, (0, 0)) := rfl
  have hd0 : 0 < d := by omega
  have hW : qFr [101] M M := qFr.rfl
  show zG n (0, 0) d 212 (0, [.inr (.inr (some 97)), .inl a1, .inl a2], []) M _
  refine zG_blk (c' := (3, [.inr (.inr (some 97)), .inl a1, .inl a2], [.inl a1, .inl 4, .inr (.inr (some 97))])) 3 hd0 hz (by rfl) ?_
  refine zG_call hd0 hz (rfl : zP 182 = (zk_X11_is, 3, (0, 0))) rfl rfl (Nat.le_of_ble_eq_true rfl) ⟨Nat.le_refl _, Nat.le_refl _⟩ (qx_is (by omega) hC  4 (by omega) a1 (by omega)) (fun vr M1 hr => ?_)
  obtain ⟨hq, x2, rfl, hx2⟩ := hr
  replace hq := hq.symm; subst hq
  show zG n (0, 0) d 212 (6, [.inr (.inr (some 97)), .inl a1, .inl a2], [.inl x2]) M _
  have j16 : zG n (0, 0) d 212 (16, [.inr (.inr (some 97)), .inl a1, .inl a2], []) M (fun v M' => qWf qMI [101] M M' ∧ qRi (fun x => (-2) ≤ x ∧ x ≤ 1) v) := by
    refine zG_blk (c' := (18, [.inr (.inr (some 97)), .inl a1, .inl a2], [.inl (-2)])) 1 hd0 hz (by rfl) ?_
    exact zG_ret hd0 hz rfl rfl ⟨⟨hC, hW⟩, _, rfl, by omega⟩
  refine zG_if_eq hd0 hz rfl (fun hb3 => ?_) (fun hb3 => ?_)
  · exact j16
  · refine zG_blk (c' := (10, [.inr (.inr (some 97)), .inl a1, .inl a2], [.inl a2])) 1 hd0 hz (by rfl) ?_
    refine zG_call hd0 hz (rfl : zP 184 = (zk_X11_isDay, 1, (0, 0))) rfl rfl (Nat.le_of_ble_eq_true rfl) ⟨Nat.le_refl _, Nat.le_refl _⟩ (qm_184 (by omega) hC  a2 (by omega)) (fun vr M4 hr => ?_)
    obtain ⟨hq, x5, rfl, hx5⟩ := hr
    replace hq := hq.symm; subst hq
    show zG n (0, 0) d 212 (13, [.inr (.inr (some 97)), .inl a1, .inl a2], [.inl x5]) M _
    refine zG_if_ne hd0 hz rfl (fun hb6 => ?_) (fun hb6 => ?_)
    · refine zG_blk (c' := (21, [.inr (.inr (some 97)), .inl a1, .inl a2], [.inl a2, .inr (.inr (some 97))])) 2 hd0 hz (by rfl) ?_
      refine zG_call hd0 hz (rfl : zP 211 = (zk_X11_finds, 3, (0, 0))) rfl rfl (Nat.le_of_ble_eq_true rfl) ⟨Nat.le_refl _, Nat.le_refl _⟩ (qm_211_97 (by omega) hC  a2 (by omega)) (fun vr M7 hr => ?_)
      obtain ⟨⟨hCM7, hFM7⟩, rfl⟩ := hr
      have hWM7 : qFr [101] M M7 := hW.tr hFM7 (by decide)
      show zG n (0, 0) d 212 (24, [.inr (.inr (some 97)), .inl a1, .inl a2], []) M7 _
      refine zG_blk (c' := (29, [.inr (.inr (some 97)), .inl a1, .inl a2], [.inl a1, .inr (.inr (some 101))])) 3 hd0 hz (by rfl) ?_
      refine zG_bald hd0 hz rfl rfl (.inl rfl) (by omega) ?_
      obtain ⟨x9, hx9⟩ : ∃ x : Int, x = M7 101 (a1 : Int).toNat := ⟨_, rfl⟩
      rw [← hx9]
      have hx9r : x9 = 0 ∨ x9 = 1 := by rw [hx9]; exact hCM7.bl101 _
      show zG n (0, 0) d 212 (30, [.inr (.inr (some 97)), .inl a1, .inl a2], [.inl x9]) M7 _
      have j38 : ∀ (v10 : Int) , 0 ≤ v10 ∧ v10 ≤ 1 → zG n (0, 0) d 212 (38, [.inr (.inr (some 97)), .inl a1, .inl a2], [.inl v10]) M7 (fun v M' => qWf qMI [101] M M' ∧ qRi (fun x => (-2) ≤ x ∧ x ≤ 1) v) := by
        intro v10 hv10
        exact zG_ret hd0 hz rfl rfl ⟨⟨hCM7, hWM7⟩, _, rfl, by omega⟩
      refine zG_if_eq hd0 hz rfl (fun hb11 => ?_) (fun hb11 => ?_)
      · refine zG_blk (c' := (38, [.inr (.inr (some 97)), .inl a1, .inl a2], [.inl 0])) 1 hd0 hz (by rfl) ?_
        exact j38 0 (by omega)
      · refine zG_blk (c' := (38, [.inr (.inr (some 97)), .inl a1, .inl a2], [.inl 1])) 2 hd0 hz (by rfl) ?_
        exact j38 1 (by omega)
    · exact j16
theorem qm_213_97 {n d : Nat} {M : zM} (hd : 2 ≤ d) (hC : qMI M) (a1 : Int) (ha1 : 0 ≤ a1 ∧ a1 ≤ 6) (a2 : Int) (ha2 : 0 ≤ a2 ∧ a2 ≤ 249) : qOkP n d 213 [.inr (.inr (some 97)), .inl a1, .inl a2] 4 M (qRi (fun x => (-1) ≤ x ∧ x ≤ 249 ∧ (x ≠ -1 → x < M 98 4 ∧ a2 < x ∧ qA M x 0 = a1 ∧ qA M x 6 = a2))) := by
  have hz : zP 213 = (zk_X11_lastOf, 4, (0, 0)) := rfl
  have hd0 : 0 < d := by omega
  show zG n (0, 0) d 213 (0, [.inr (.inr (some 97)), .inl a1, .inl a2, zN], []) M _
  refine zG_blk (c' := (5, [.inr (.inr (some 97)), .inl a1, .inl a2, zN], [.inl 4, .inr (.inr (some 98))])) 3 hd0 hz (by rfl) ?_
  refine zG_iald hd0 hz rfl rfl (.inl rfl) (by omega) ?_
  have r1 := hC.cnt4
  show zG n (0, 0) d 213 (6, [.inr (.inr (some 97)), .inl a1, .inl a2, zN], [.inl (M 98 4)]) M _
  obtain ⟨x2, hx2⟩ : ∃ x : Int, x = w32 ((M 98 4) - 1) := ⟨_, rfl⟩
  have hx2e : x2 = (M 98 4) - 1 := by rw [hx2]; exact w32_id (by omega)
  refine zG_blk (c' := (9, [.inr (.inr (some 97)), .inl a1, .inl a2, .inl x2], [])) 3 hd0 hz (by subst hx2; rfl) ?_
  have j9 : ∀ (N : Nat) (v3 : Int) , (v3 + 1 : Int).toNat < N → (-1) ≤ v3 ∧ v3 ≤ 249 → zG n (0, 0) d 213 (9, [.inr (.inr (some 97)), .inl a1, .inl a2, .inl v3], []) M (fun v M' => M' = M ∧ qRi (fun x => (-1) ≤ x ∧ x ≤ 249 ∧ (x ≠ -1 → x < M 98 4 ∧ a2 < x ∧ qA M x 0 = a1 ∧ qA M x 6 = a2)) v) := by
    intro N
    induction N with
    | zero => intro v3 hN hv3; exact absurd hN (Nat.not_lt_zero _)
    | succ N ih9 =>
      intro v3 hN hv3
      refine zG_blk (c' := (11, [.inr (.inr (some 97)), .inl a1, .inl a2, .inl v3], [.inl a2, .inl v3])) 2 hd0 hz (by rfl) ?_
      refine zG_icmp_le hd0 hz rfl (fun hb4 => ?_) (fun hb4 => ?_)
      · refine zG_blk (c' := (53, [.inr (.inr (some 97)), .inl a1, .inl a2, .inl v3], [.inl (-1)])) 1 hd0 hz (by rfl) ?_
        exact zG_ret hd0 hz rfl rfl ⟨rfl, _, rfl, by omega⟩
      · refine zG_blk (c' := (19, [.inr (.inr (some 97)), .inl a1, .inl a2, .inl v3], [.inl v3, .inr (.inr (some 101))])) 3 hd0 hz (by rfl) ?_
        refine zG_bald hd0 hz rfl rfl (.inl rfl) (by omega) ?_
        obtain ⟨x5, hx5⟩ : ∃ x : Int, x = M 101 (v3 : Int).toNat := ⟨_, rfl⟩
        rw [← hx5]
        have hx5r : x5 = 0 ∨ x5 = 1 := by rw [hx5]; exact hC.bl101 _
        show zG n (0, 0) d 213 (20, [.inr (.inr (some 97)), .inl a1, .inl a2, .inl v3], [.inl x5]) M _
        have j46 : zG n (0, 0) d 213 (46, [.inr (.inr (some 97)), .inl a1, .inl a2, .inl v3], []) M (fun v M' => M' = M ∧ qRi (fun x => (-1) ≤ x ∧ x ≤ 249 ∧ (x ≠ -1 → x < M 98 4 ∧ a2 < x ∧ qA M x 0 = a1 ∧ qA M x 6 = a2)) v) := by
          obtain ⟨x6, hx6⟩ : ∃ x : Int, x = w32 (v3 + (-1)) := ⟨_, rfl⟩
          have hx6e : x6 = v3 + (-1) := by rw [hx6]; exact w32_id (by omega)
          refine zG_blk (c' := (9, [.inr (.inr (some 97)), .inl a1, .inl a2, .inl x6], [])) 2 hd0 hz (by subst hx6; rfl) ?_
          exact ih9 x6 (by omega) (by omega)
        refine zG_if_eq hd0 hz rfl (fun hb7 => ?_) (fun hb7 => ?_)
        · exact j46
        · refine zG_blk (c' := (26, [.inr (.inr (some 97)), .inl a1, .inl a2, .inl v3], [.inl 0, .inl v3, .inr (.inr (some 97))])) 3 hd0 hz (by rfl) ?_
          refine zG_call hd0 hz (rfl : zP 194 = (zk_X11_act, 3, (0, 0))) rfl rfl (Nat.le_of_ble_eq_true rfl) ⟨Nat.le_refl _, Nat.le_refl _⟩ (qx_act (by omega) hC  v3 (by omega) 0 (by omega)) (fun vr M8 hr => ?_)
          obtain ⟨hq, x9, rfl, hx9⟩ := hr
          replace hq := hq.symm; subst hq
          show zG n (0, 0) d 213 (29, [.inr (.inr (some 97)), .inl a1, .inl a2, .inl v3], [.inl x9]) M _
          refine zG_blk (c' := (30, [.inr (.inr (some 97)), .inl a1, .inl a2, .inl v3], [.inl a1, .inl x9])) 1 hd0 hz (by rfl) ?_
          refine zG_icmp_ne hd0 hz rfl (fun hb10 => ?_) (fun hb10 => ?_)
          · exact j46
          · refine zG_blk (c' := (37, [.inr (.inr (some 97)), .inl a1, .inl a2, .inl v3], [.inl 6, .inl v3, .inr (.inr (some 97))])) 3 hd0 hz (by rfl) ?_
            refine zG_call hd0 hz (rfl : zP 194 = (zk_X11_act, 3, (0, 0))) rfl rfl (Nat.le_of_ble_eq_true rfl) ⟨Nat.le_refl _, Nat.le_refl _⟩ (qx_act (by omega) hC  v3 (by omega) 6 (by omega)) (fun vr M11 hr => ?_)
            obtain ⟨hq, x12, rfl, hx12⟩ := hr
            replace hq := hq.symm; subst hq
            show zG n (0, 0) d 213 (40, [.inr (.inr (some 97)), .inl a1, .inl a2, .inl v3], [.inl x12]) M _
            refine zG_blk (c' := (41, [.inr (.inr (some 97)), .inl a1, .inl a2, .inl v3], [.inl a2, .inl x12])) 1 hd0 hz (by rfl) ?_
            refine zG_icmp_ne hd0 hz rfl (fun hb13 => ?_) (fun hb13 => ?_)
            · exact j46
            · refine zG_blk (c' := (45, [.inr (.inr (some 97)), .inl a1, .inl a2, .inl v3], [.inl v3])) 1 hd0 hz (by rfl) ?_
              exact zG_ret hd0 hz rfl rfl ⟨rfl, _, rfl, by omega⟩
  exact j9 ((x2 + 1 : Int).toNat + 1) x2 (by omega) (by omega)
theorem qm_214_97 {n d : Nat} {M : zM} (hd : 2 ≤ d) (hC : qMI M) (a1 : Int) (ha1 : 0 ≤ a1 ∧ a1 ≤ 249) : qOkP n d 214 [.inr (.inr (some 97)), .inl a1] 3 M (qRi (fun x => (-1) ≤ x ∧ x ≤ 249 ∧ (x ≠ -1 → x < M 98 4 ∧ qA M x 0 = 3))) := by
  have hz : zP 214 = (zk_X11_scaledFor, 3, (0, 0)) := rfl
  have hd0 : 0 < d := by omega
  show zG n (0, 0) d 214 (0, [.inr (.inr (some 97)), .inl a1, zN], []) M _
  refine zG_blk (c' := (5, [.inr (.inr (some 97)), .inl a1, zN], [.inl 4, .inr (.inr (some 98))])) 3 hd0 hz (by rfl) ?_
  refine zG_iald hd0 hz rfl rfl (.inl rfl) (by omega) ?_
  have r1 := hC.cnt4
  show zG n (0, 0) d 214 (6, [.inr (.inr (some 97)), .inl a1, zN], [.inl (M 98 4)]) M _
  obtain ⟨x2, hx2⟩ : ∃ x : Int, x = w32 ((M 98 4) - 1) := ⟨_, rfl⟩
  have hx2e : x2 = (M 98 4) - 1 := by rw [hx2]; exact w32_id (by omega)
  refine zG_blk (c' := (9, [.inr (.inr (some 97)), .inl a1, .inl x2], [])) 3 hd0 hz (by subst hx2; rfl) ?_
  have j9 : ∀ (N : Nat) (v3 : Int) , (v3 + 1 : Int).toNat < N → (-1) ≤ v3 ∧ v3 ≤ 249 → zG n (0, 0) d 214 (9, [.inr (.inr (some 97)), .inl a1, .inl v3], []) M (fun v M' => M' = M ∧ qRi (fun x => (-1) ≤ x ∧ x ≤ 249 ∧ (x ≠ -1 → x < M 98 4 ∧ qA M x 0 = 3)) v) := by
    intro N
    induction N with
    | zero => intro v3 hN hv3; exact absurd hN (Nat.not_lt_zero _)
    | succ N ih9 =>
      intro v3 hN hv3
      refine zG_blk (c' := (10, [.inr (.inr (some 97)), .inl a1, .inl v3], [.inl v3])) 1 hd0 hz (by rfl) ?_
      refine zG_if_lt hd0 hz rfl (fun hb4 => ?_) (fun hb4 => ?_)
      · refine zG_blk (c' := (71, [.inr (.inr (some 97)), .inl a1, .inl v3], [.inl (-1)])) 1 hd0 hz (by rfl) ?_
        exact zG_ret hd0 hz rfl rfl ⟨rfl, _, rfl, by omega⟩
      · refine zG_blk (c' := (18, [.inr (.inr (some 97)), .inl a1, .inl v3], [.inl v3, .inr (.inr (some 101))])) 3 hd0 hz (by rfl) ?_
        refine zG_bald hd0 hz rfl rfl (.inl rfl) (by omega) ?_
        obtain ⟨x5, hx5⟩ : ∃ x : Int, x = M 101 (v3 : Int).toNat := ⟨_, rfl⟩
        rw [← hx5]
        have hx5r : x5 = 0 ∨ x5 = 1 := by rw [hx5]; exact hC.bl101 _
        show zG n (0, 0) d 214 (19, [.inr (.inr (some 97)), .inl a1, .inl v3], [.inl x5]) M _
        have j64 : zG n (0, 0) d 214 (64, [.inr (.inr (some 97)), .inl a1, .inl v3], []) M (fun v M' => M' = M ∧ qRi (fun x => (-1) ≤ x ∧ x ≤ 249 ∧ (x ≠ -1 → x < M 98 4 ∧ qA M x 0 = 3)) v) := by
          obtain ⟨x6, hx6⟩ : ∃ x : Int, x = w32 (v3 + (-1)) := ⟨_, rfl⟩
          have hx6e : x6 = v3 + (-1) := by rw [hx6]; exact w32_id (by omega)
          refine zG_blk (c' := (9, [.inr (.inr (some 97)), .inl a1, .inl x6], [])) 2 hd0 hz (by subst hx6; rfl) ?_
          exact ih9 x6 (by omega) (by omega)
        refine zG_if_eq hd0 hz rfl (fun hb7 => ?_) (fun hb7 => ?_)
        · exact j64
        · refine zG_blk (c' := (25, [.inr (.inr (some 97)), .inl a1, .inl v3], [.inl 0, .inl v3, .inr (.inr (some 97))])) 3 hd0 hz (by rfl) ?_
          refine zG_call hd0 hz (rfl : zP 194 = (zk_X11_act, 3, (0, 0))) rfl rfl (Nat.le_of_ble_eq_true rfl) ⟨Nat.le_refl _, Nat.le_refl _⟩ (qx_act (by omega) hC  v3 (by omega) 0 (by omega)) (fun vr M8 hr => ?_)
          obtain ⟨hq, x9, rfl, hx9⟩ := hr
          replace hq := hq.symm; subst hq
          show zG n (0, 0) d 214 (28, [.inr (.inr (some 97)), .inl a1, .inl v3], [.inl x9]) M _
          refine zG_blk (c' := (29, [.inr (.inr (some 97)), .inl a1, .inl v3], [.inl 3, .inl x9])) 1 hd0 hz (by rfl) ?_
          refine zG_icmp_ne hd0 hz rfl (fun hb10 => ?_) (fun hb10 => ?_)
          · exact j64
          · refine zG_blk (c' := (35, [.inr (.inr (some 97)), .inl a1, .inl v3], [.inl 5, .inl v3, .inr (.inr (some 97))])) 3 hd0 hz (by rfl) ?_
            refine zG_call hd0 hz (rfl : zP 194 = (zk_X11_act, 3, (0, 0))) rfl rfl (Nat.le_of_ble_eq_true rfl) ⟨Nat.le_refl _, Nat.le_refl _⟩ (qx_act (by omega) hC  v3 (by omega) 5 (by omega)) (fun vr M11 hr => ?_)
            obtain ⟨hq, x12, rfl, hx12⟩ := hr
            replace hq := hq.symm; subst hq
            show zG n (0, 0) d 214 (38, [.inr (.inr (some 97)), .inl a1, .inl v3], [.inl x12]) M _
            refine zG_blk (c' := (41, [.inr (.inr (some 97)), .inl a1, .inl v3], [.inl 5, .inl a1, .inr (.inr (some 97)), .inl x12])) 3 hd0 hz (by rfl) ?_
            refine zG_call hd0 hz (rfl : zP 194 = (zk_X11_act, 3, (0, 0))) rfl rfl (Nat.le_of_ble_eq_true rfl) ⟨Nat.le_refl _, Nat.le_refl _⟩ (qx_act (by omega) hC  a1 (by omega) 5 (by omega)) (fun vr M13 hr => ?_)
            obtain ⟨hq, x14, rfl, hx14⟩ := hr
            replace hq := hq.symm; subst hq
            show zG n (0, 0) d 214 (44, [.inr (.inr (some 97)), .inl a1, .inl v3], [.inl x14, .inl x12]) M _
            refine zG_icmp_ne hd0 hz rfl (fun hb15 => ?_) (fun hb15 => ?_)
            · exact j64
            · refine zG_blk (c' := (50, [.inr (.inr (some 97)), .inl a1, .inl v3], [.inl 1, .inl v3, .inr (.inr (some 97))])) 3 hd0 hz (by rfl) ?_
              refine zG_call hd0 hz (rfl : zP 194 = (zk_X11_act, 3, (0, 0))) rfl rfl (Nat.le_of_ble_eq_true rfl) ⟨Nat.le_refl _, Nat.le_refl _⟩ (qx_act (by omega) hC  v3 (by omega) 1 (by omega)) (fun vr M16 hr => ?_)
              obtain ⟨hq, x17, rfl, hx17⟩ := hr
              replace hq := hq.symm; subst hq
              show zG n (0, 0) d 214 (53, [.inr (.inr (some 97)), .inl a1, .inl v3], [.inl x17]) M _
              refine zG_blk (c' := (56, [.inr (.inr (some 97)), .inl a1, .inl v3], [.inl 1, .inl a1, .inr (.inr (some 97)), .inl x17])) 3 hd0 hz (by rfl) ?_
              refine zG_call hd0 hz (rfl : zP 194 = (zk_X11_act, 3, (0, 0))) rfl rfl (Nat.le_of_ble_eq_true rfl) ⟨Nat.le_refl _, Nat.le_refl _⟩ (qx_act (by omega) hC  a1 (by omega) 1 (by omega)) (fun vr M18 hr => ?_)
              obtain ⟨hq, x19, rfl, hx19⟩ := hr
              replace hq := hq.symm; subst hq
              show zG n (0, 0) d 214 (59, [.inr (.inr (some 97)), .inl a1, .inl v3], [.inl x19, .inl x17]) M _
              refine zG_icmp_lt hd0 hz rfl (fun hb20 => ?_) (fun hb20 => ?_)
              · exact j64
              · refine zG_blk (c' := (63, [.inr (.inr (some 97)), .inl a1, .inl v3], [.inl v3])) 1 hd0 hz (by rfl) ?_
                exact zG_ret hd0 hz rfl rfl ⟨rfl, _, rfl, by omega⟩
  exact j9 ((x2 + 1 : Int).toNat + 1) x2 (by omega) (by omega)
theorem qm_215_97 {n d : Nat} {M : zM} (hd : 2 ≤ d) (hC : qMI M) (a1 : Int) (ha1 : 0 ≤ a1 ∧ a1 ≤ 249) : qOkP n d 215 [.inr (.inr (some 97)), .inl a1] 4 M (qRi (fun x => 0 ≤ x ∧ x ≤ 1)) := by
  have hz : zP 215 = (zk_X11_isLater, 4, (0, 0)) := rfl
  have hd0 : 0 < d := by omega
  show zG n (0, 0) d 215 (0, [.inr (.inr (some 97)), .inl a1, zN, zN], []) M _
  refine zG_blk (c' := (2, [.inr (.inr (some 97)), .inl a1, .inl 0, zN], [])) 2 hd0 hz (by rfl) ?_
  have j2 : ∀ (N : Nat) (v1 : Int) , (250 - v1 : Int).toNat < N → 0 ≤ v1 ∧ v1 ≤ 250 → zG n (0, 0) d 215 (2, [.inr (.inr (some 97)), .inl a1, .inl v1, zN], []) M (fun v M' => M' = M ∧ qRi (fun x => 0 ≤ x ∧ x ≤ 1) v) := by
    intro N
    induction N with
    | zero => intro v1 hN hv1; exact absurd hN (Nat.not_lt_zero _)
    | succ N ih2 =>
      intro v1 hN hv1
      refine zG_blk (c' := (8, [.inr (.inr (some 97)), .inl a1, .inl v1, zN], [.inl 4, .inr (.inr (some 98)), .inl v1])) 4 hd0 hz (by rfl) ?_
      refine zG_iald hd0 hz rfl rfl (.inl rfl) (by omega) ?_
      have r2 := hC.cnt4
      show zG n (0, 0) d 215 (9, [.inr (.inr (some 97)), .inl a1, .inl v1, zN], [.inl (M 98 4), .inl v1]) M _
      refine zG_icmp_ge hd0 hz rfl (fun hb3 => ?_) (fun hb3 => ?_)
      · refine zG_blk (c' := (119, [.inr (.inr (some 97)), .inl a1, .inl v1, zN], [.inl 0])) 1 hd0 hz (by rfl) ?_
        exact zG_ret hd0 hz rfl rfl ⟨rfl, _, rfl, by omega⟩
      · refine zG_blk (c' := (14, [.inr (.inr (some 97)), .inl a1, .inl v1, zN], [.inl a1, .inl v1])) 2 hd0 hz (by rfl) ?_
        have j70 : ∀ (v4 : Int) , 0 ≤ v4 ∧ v4 ≤ 1 → zG n (0, 0) d 215 (70, [.inr (.inr (some 97)), .inl a1, .inl v1, zN], [.inl v4]) M (fun v M' => M' = M ∧ qRi (fun x => 0 ≤ x ∧ x ≤ 1) v) := by
          intro v4 hv4
          refine zG_blk (c' := (72, [.inr (.inr (some 97)), .inl a1, .inl v1, .inl v4], [.inl v4])) 2 hd0 hz (by rfl) ?_
          have j112 : zG n (0, 0) d 215 (112, [.inr (.inr (some 97)), .inl a1, .inl v1, .inl v4], []) M (fun v M' => M' = M ∧ qRi (fun x => 0 ≤ x ∧ x ≤ 1) v) := by
            obtain ⟨x5, hx5⟩ : ∃ x : Int, x = w32 (v1 + 1) := ⟨_, rfl⟩
            have hx5e : x5 = v1 + 1 := by rw [hx5]; exact w32_id (by omega)
            refine zG_blk (c' := (2, [.inr (.inr (some 97)), .inl a1, .inl x5, .inl v4], [])) 2 hd0 hz (by subst hx5; rfl) ?_
            exact zG_weak (ih2 x5 (by omega) (by omega)) ⟨.inr rfl, .inr rfl, .inr rfl, .inl rfl, trivial⟩
          refine zG_if_eq hd0 hz rfl (fun hb6 => ?_) (fun hb6 => ?_)
          · exact j112
          · refine zG_blk (c' := (78, [.inr (.inr (some 97)), .inl a1, .inl v1, .inl v4], [.inl 1, .inl v1, .inr (.inr (some 97))])) 3 hd0 hz (by rfl) ?_
            refine zG_call hd0 hz (rfl : zP 194 = (zk_X11_act, 3, (0, 0))) rfl rfl (Nat.le_of_ble_eq_true rfl) ⟨Nat.le_refl _, Nat.le_refl _⟩ (qx_act (by omega) hC  v1 (by omega) 1 (by omega)) (fun vr M7 hr => ?_)
            obtain ⟨hq, x8, rfl, hx8⟩ := hr
            replace hq := hq.symm; subst hq
            show zG n (0, 0) d 215 (81, [.inr (.inr (some 97)), .inl a1, .inl v1, .inl v4], [.inl x8]) M _
            refine zG_blk (c' := (84, [.inr (.inr (some 97)), .inl a1, .inl v1, .inl v4], [.inl 1, .inl a1, .inr (.inr (some 97)), .inl x8])) 3 hd0 hz (by rfl) ?_
            refine zG_call hd0 hz (rfl : zP 194 = (zk_X11_act, 3, (0, 0))) rfl rfl (Nat.le_of_ble_eq_true rfl) ⟨Nat.le_refl _, Nat.le_refl _⟩ (qx_act (by omega) hC  a1 (by omega) 1 (by omega)) (fun vr M9 hr => ?_)
            obtain ⟨hq, x10, rfl, hx10⟩ := hr
            replace hq := hq.symm; subst hq
            show zG n (0, 0) d 215 (87, [.inr (.inr (some 97)), .inl a1, .inl v1, .inl v4], [.inl x10, .inl x8]) M _
            have j110 : zG n (0, 0) d 215 (110, [.inr (.inr (some 97)), .inl a1, .inl v1, .inl v4], []) M (fun v M' => M' = M ∧ qRi (fun x => 0 ≤ x ∧ x ≤ 1) v) := by
              refine zG_blk (c' := (111, [.inr (.inr (some 97)), .inl a1, .inl v1, .inl v4], [.inl 1])) 1 hd0 hz (by rfl) ?_
              exact zG_ret hd0 hz rfl rfl ⟨rfl, _, rfl, by omega⟩
            refine zG_icmp_lt hd0 hz rfl (fun hb11 => ?_) (fun hb11 => ?_)
            · exact j110
            · refine zG_blk (c' := (93, [.inr (.inr (some 97)), .inl a1, .inl v1, .inl v4], [.inl 1, .inl v1, .inr (.inr (some 97))])) 3 hd0 hz (by rfl) ?_
              refine zG_call hd0 hz (rfl : zP 194 = (zk_X11_act, 3, (0, 0))) rfl rfl (Nat.le_of_ble_eq_true rfl) ⟨Nat.le_refl _, Nat.le_refl _⟩ (qx_act (by omega) hC  v1 (by omega) 1 (by omega)) (fun vr M12 hr => ?_)
              obtain ⟨hq, x13, rfl, hx13⟩ := hr
              replace hq := hq.symm; subst hq
              show zG n (0, 0) d 215 (96, [.inr (.inr (some 97)), .inl a1, .inl v1, .inl v4], [.inl x13]) M _
              refine zG_blk (c' := (99, [.inr (.inr (some 97)), .inl a1, .inl v1, .inl v4], [.inl 1, .inl a1, .inr (.inr (some 97)), .inl x13])) 3 hd0 hz (by rfl) ?_
              refine zG_call hd0 hz (rfl : zP 194 = (zk_X11_act, 3, (0, 0))) rfl rfl (Nat.le_of_ble_eq_true rfl) ⟨Nat.le_refl _, Nat.le_refl _⟩ (qx_act (by omega) hC  a1 (by omega) 1 (by omega)) (fun vr M14 hr => ?_)
              obtain ⟨hq, x15, rfl, hx15⟩ := hr
              replace hq := hq.symm; subst hq
              show zG n (0, 0) d 215 (102, [.inr (.inr (some 97)), .inl a1, .inl v1, .inl v4], [.inl x15, .inl x13]) M _
              refine zG_icmp_ne hd0 hz rfl (fun hb16 => ?_) (fun hb16 => ?_)
              · exact j112
              · refine zG_blk (c' := (107, [.inr (.inr (some 97)), .inl a1, .inl v1, .inl v4], [.inl a1, .inl v1])) 2 hd0 hz (by rfl) ?_
                refine zG_icmp_ge hd0 hz rfl (fun hb17 => ?_) (fun hb17 => ?_)
                · exact j112
                · exact j110
        have j69 : zG n (0, 0) d 215 (69, [.inr (.inr (some 97)), .inl a1, .inl v1, zN], []) M (fun v M' => M' = M ∧ qRi (fun x => 0 ≤ x ∧ x ≤ 1) v) := by
          refine zG_blk (c' := (70, [.inr (.inr (some 97)), .inl a1, .inl v1, zN], [.inl 0])) 1 hd0 hz (by rfl) ?_
          exact j70 0 (by omega)
        refine zG_icmp_eq hd0 hz rfl (fun hb18 => ?_) (fun hb18 => ?_)
        · exact j69
        · refine zG_blk (c' := (22, [.inr (.inr (some 97)), .inl a1, .inl v1, zN], [.inl v1, .inr (.inr (some 101))])) 3 hd0 hz (by rfl) ?_
          refine zG_bald hd0 hz rfl rfl (.inl rfl) (by omega) ?_
          obtain ⟨x19, hx19⟩ : ∃ x : Int, x = M 101 (v1 : Int).toNat := ⟨_, rfl⟩
          rw [← hx19]
          have hx19r : x19 = 0 ∨ x19 = 1 := by rw [hx19]; exact hC.bl101 _
          show zG n (0, 0) d 215 (23, [.inr (.inr (some 97)), .inl a1, .inl v1, zN], [.inl x19]) M _
          refine zG_if_eq hd0 hz rfl (fun hb20 => ?_) (fun hb20 => ?_)
          · exact j69
          · refine zG_blk (c' := (29, [.inr (.inr (some 97)), .inl a1, .inl v1, zN], [.inl 0, .inl v1, .inr (.inr (some 97))])) 3 hd0 hz (by rfl) ?_
            refine zG_call hd0 hz (rfl : zP 194 = (zk_X11_act, 3, (0, 0))) rfl rfl (Nat.le_of_ble_eq_true rfl) ⟨Nat.le_refl _, Nat.le_refl _⟩ (qx_act (by omega) hC  v1 (by omega) 0 (by omega)) (fun vr M21 hr => ?_)
            obtain ⟨hq, x22, rfl, hx22⟩ := hr
            replace hq := hq.symm; subst hq
            show zG n (0, 0) d 215 (32, [.inr (.inr (some 97)), .inl a1, .inl v1, zN], [.inl x22]) M _
            refine zG_if_ne hd0 hz rfl (fun hb23 => ?_) (fun hb23 => ?_)
            · exact j69
            · refine zG_blk (c' := (38, [.inr (.inr (some 97)), .inl a1, .inl v1, zN], [.inl 4, .inl v1, .inr (.inr (some 97))])) 3 hd0 hz (by rfl) ?_
              refine zG_call hd0 hz (rfl : zP 194 = (zk_X11_act, 3, (0, 0))) rfl rfl (Nat.le_of_ble_eq_true rfl) ⟨Nat.le_refl _, Nat.le_refl _⟩ (qx_act (by omega) hC  v1 (by omega) 4 (by omega)) (fun vr M24 hr => ?_)
              obtain ⟨hq, x25, rfl, hx25⟩ := hr
              replace hq := hq.symm; subst hq
              show zG n (0, 0) d 215 (41, [.inr (.inr (some 97)), .inl a1, .inl v1, zN], [.inl x25]) M _
              refine zG_blk (c' := (44, [.inr (.inr (some 97)), .inl a1, .inl v1, zN], [.inl 4, .inl a1, .inr (.inr (some 97)), .inl x25])) 3 hd0 hz (by rfl) ?_
              refine zG_call hd0 hz (rfl : zP 194 = (zk_X11_act, 3, (0, 0))) rfl rfl (Nat.le_of_ble_eq_true rfl) ⟨Nat.le_refl _, Nat.le_refl _⟩ (qx_act (by omega) hC  a1 (by omega) 4 (by omega)) (fun vr M26 hr => ?_)
              obtain ⟨hq, x27, rfl, hx27⟩ := hr
              replace hq := hq.symm; subst hq
              show zG n (0, 0) d 215 (47, [.inr (.inr (some 97)), .inl a1, .inl v1, zN], [.inl x27, .inl x25]) M _
              refine zG_icmp_ne hd0 hz rfl (fun hb28 => ?_) (fun hb28 => ?_)
              · exact j69
              · refine zG_blk (c' := (53, [.inr (.inr (some 97)), .inl a1, .inl v1, zN], [.inl 5, .inl v1, .inr (.inr (some 97))])) 3 hd0 hz (by rfl) ?_
                refine zG_call hd0 hz (rfl : zP 194 = (zk_X11_act, 3, (0, 0))) rfl rfl (Nat.le_of_ble_eq_true rfl) ⟨Nat.le_refl _, Nat.le_refl _⟩ (qx_act (by omega) hC  v1 (by omega) 5 (by omega)) (fun vr M29 hr => ?_)
                obtain ⟨hq, x30, rfl, hx30⟩ := hr
                replace hq := hq.symm; subst hq
                show zG n (0, 0) d 215 (56, [.inr (.inr (some 97)), .inl a1, .inl v1, zN], [.inl x30]) M _
                refine zG_blk (c' := (59, [.inr (.inr (some 97)), .inl a1, .inl v1, zN], [.inl 5, .inl a1, .inr (.inr (some 97)), .inl x30])) 3 hd0 hz (by rfl) ?_
                refine zG_call hd0 hz (rfl : zP 194 = (zk_X11_act, 3, (0, 0))) rfl rfl (Nat.le_of_ble_eq_true rfl) ⟨Nat.le_refl _, Nat.le_refl _⟩ (qx_act (by omega) hC  a1 (by omega) 5 (by omega)) (fun vr M31 hr => ?_)
                obtain ⟨hq, x32, rfl, hx32⟩ := hr
                replace hq := hq.symm; subst hq
                show zG n (0, 0) d 215 (62, [.inr (.inr (some 97)), .inl a1, .inl v1, zN], [.inl x32, .inl x30]) M _
                refine zG_icmp_ne hd0 hz rfl (fun hb33 => ?_) (fun hb33 => ?_)
                · exact j69
                · refine zG_blk (c' := (70, [.inr (.inr (some 97)), .inl a1, .inl v1, zN], [.inl 1])) 2 hd0 hz (by rfl) ?_
                  exact j70 1 (by omega)
  exact j2 ((250 - 0 : Int).toNat + 1) 0 (by omega) (by omega)
theorem qm_216_97 {n d : Nat} {M : zM} (hd : 3 ≤ d) (hC : qMI M) (a1 : Int) (ha1 : 0 ≤ a1 ∧ a1 ≤ 249) (a2 : Int) (ha2 : 0 ≤ a2 ∧ a2 ≤ 4) : qOkP n d 216 [.inr (.inr (some 97)), .inl a1, .inl a2] 8 M (qRi (fun x => (-2147483648) ≤ x ∧ x ≤ 2147483647)) := by
  have hz : zP 216 = (zk_X11_stepOf, 8, (0, 0)) := rfl
  have hd0 : 0 < d := by omega
  show zG n (0, 0) d 216 (0, [.inr (.inr (some 97)), .inl a1, .inl a2, zN, zN, zN, zN, zN], []) M _
  refine zG_blk (c' := (4, [.inr (.inr (some 97)), .inl a1, .inl a2, zN, zN, zN, zN, zN], [.inl 7, .inl a1, .inr (.inr (some 97))])) 3 hd0 hz (by rfl) ?_
  refine zG_call hd0 hz (rfl : zP 194 = (zk_X11_act, 3, (0, 0))) rfl rfl (Nat.le_of_ble_eq_true rfl) ⟨Nat.le_refl _, Nat.le_refl _⟩ (qx_act (by omega) hC  a1 (by omega) 7 (by omega)) (fun vr M1 hr => ?_)
  obtain ⟨hq, x2, rfl, hx2⟩ := hr
  replace hq := hq.symm; subst hq
  show zG n (0, 0) d 216 (7, [.inr (.inr (some 97)), .inl a1, .inl a2, zN, zN, zN, zN, zN], [.inl x2]) M _
  refine zG_blk (c' := (9, [.inr (.inr (some 97)), .inl a1, .inl a2, .inl x2, zN, zN, zN, zN], [.inl a2])) 2 hd0 hz (by rfl) ?_
  have j22 : ∀ (v3 : Int) , (-1) ≤ v3 ∧ v3 ≤ 249 → zG n (0, 0) d 216 (22, [.inr (.inr (some 97)), .inl a1, .inl a2, .inl x2, zN, zN, zN, zN], [.inl v3]) M (fun v M' => M' = M ∧ qRi (fun x => (-2147483648) ≤ x ∧ x ≤ 2147483647) v) := by
    intro v3 hv3
    refine zG_blk (c' := (27, [.inr (.inr (some 97)), .inl a1, .inl a2, .inl x2, .inl v3, zN, zN, zN], [.inl (-1), .inl v3])) 3 hd0 hz (by rfl) ?_
    have j80 : ∀ (v4 : Int) , (-2147483648) ≤ v4 ∧ v4 ≤ 2147483647 → zG n (0, 0) d 216 (80, [.inr (.inr (some 97)), .inl a1, .inl a2, .inl v4, .inl v3, zN, zN, zN], []) M (fun v M' => M' = M ∧ qRi (fun x => (-2147483648) ≤ x ∧ x ≤ 2147483647) v) := by
      intro v4 hv4
      refine zG_blk (c' := (82, [.inr (.inr (some 97)), .inl a1, .inl a2, .inl v4, .inl v3, zN, zN, zN], [.inl 1, .inl a2])) 2 hd0 hz (by rfl) ?_
      have j95 : ∀ (v5 : Int) , (-1) ≤ v5 ∧ v5 ≤ 249 → zG n (0, 0) d 216 (95, [.inr (.inr (some 97)), .inl a1, .inl a2, .inl v4, .inl v3, zN, zN, zN], [.inl v5]) M (fun v M' => M' = M ∧ qRi (fun x => (-2147483648) ≤ x ∧ x ≤ 2147483647) v) := by
        intro v5 hv5
        refine zG_blk (c' := (100, [.inr (.inr (some 97)), .inl a1, .inl a2, .inl v4, .inl v3, .inl v5, zN, zN], [.inl (-1), .inl v5])) 3 hd0 hz (by rfl) ?_
        have j115 : ∀ (v6 : Int) , (-2147483648) ≤ v6 ∧ v6 ≤ 2147483647 → zG n (0, 0) d 216 (115, [.inr (.inr (some 97)), .inl a1, .inl a2, .inl v4, .inl v3, .inl v5, zN, zN], [.inl v6]) M (fun v M' => M' = M ∧ qRi (fun x => (-2147483648) ≤ x ∧ x ≤ 2147483647) v) := by
          intro v6 hv6
          refine zG_blk (c' := (118, [.inr (.inr (some 97)), .inl a1, .inl a2, .inl v6, .inl v3, .inl v5, zN, zN], [.inl 2, .inl a2])) 3 hd0 hz (by rfl) ?_
          have j130 : ∀ (v7 : Int) , (-1) ≤ v7 ∧ v7 ≤ 249 → zG n (0, 0) d 216 (130, [.inr (.inr (some 97)), .inl a1, .inl a2, .inl v6, .inl v3, .inl v5, zN, zN], [.inl v7]) M (fun v M' => M' = M ∧ qRi (fun x => (-2147483648) ≤ x ∧ x ≤ 2147483647) v) := by
            intro v7 hv7
            refine zG_blk (c' := (135, [.inr (.inr (some 97)), .inl a1, .inl a2, .inl v6, .inl v3, .inl v5, .inl v7, zN], [.inl (-1), .inl v7])) 3 hd0 hz (by rfl) ?_
            have j188 : ∀ (v8 : Int) , (-2147483648) ≤ v8 ∧ v8 ≤ 2147483647 → zG n (0, 0) d 216 (188, [.inr (.inr (some 97)), .inl a1, .inl a2, .inl v8, .inl v3, .inl v5, .inl v7, zN], []) M (fun v M' => M' = M ∧ qRi (fun x => (-2147483648) ≤ x ∧ x ≤ 2147483647) v) := by
              intro v8 hv8
              refine zG_blk (c' := (198, [.inr (.inr (some 97)), .inl a1, .inl a2, .inl v8, .inl v3, .inl v5, .inl v7, zN], [.inl 5, .inl a1, .inr (.inr (some 97)), .inl 4, .inl 20, .inr (.inr (some 98))])) 7 hd0 hz (by rfl) ?_
              refine zG_call hd0 hz (rfl : zP 194 = (zk_X11_act, 3, (0, 0))) rfl rfl (Nat.le_of_ble_eq_true rfl) ⟨Nat.le_refl _, Nat.le_refl _⟩ (qx_act (by omega) hC  a1 (by omega) 5 (by omega)) (fun vr M9 hr => ?_)
              obtain ⟨hq, x10, rfl, hx10⟩ := hr
              replace hq := hq.symm; subst hq
              show zG n (0, 0) d 216 (201, [.inr (.inr (some 97)), .inl a1, .inl a2, .inl v8, .inl v3, .inl v5, .inl v7, zN], [.inl x10, .inl 4, .inl 20, .inr (.inr (some 98))]) M _
              obtain ⟨x11, hx11⟩ : ∃ x : Int, x = w32 (4 * x10) := ⟨_, rfl⟩
              have hx11e : x11 = 4 * x10 := by rw [hx11]; exact w32_id (by omega)
              obtain ⟨x12, hx12⟩ : ∃ x : Int, x = w32 (20 + x11) := ⟨_, rfl⟩
              have hx12e : x12 = 20 + x11 := by rw [hx12]; exact w32_id (by omega)
              obtain ⟨x13, hx13⟩ : ∃ x : Int, x = w32 (x12 + 3) := ⟨_, rfl⟩
              have hx13e : x13 = x12 + 3 := by rw [hx13]; exact w32_id (by omega)
              refine zG_blk (c' := (205, [.inr (.inr (some 97)), .inl a1, .inl a2, .inl v8, .inl v3, .inl v5, .inl v7, zN], [.inl x13, .inr (.inr (some 98))])) 4 hd0 hz (by subst hx13; subst hx12; subst hx11; rfl) ?_
              refine zG_iald hd0 hz rfl rfl (.inl rfl) (by omega) ?_
              obtain ⟨x14, hx14⟩ : ∃ x : Int, x = M 98 (x13 : Int).toNat := ⟨_, rfl⟩
              rw [← hx14]
              have hx14r : qin x14 := by rw [hx14]; exact hC.sin _
              show zG n (0, 0) d 216 (206, [.inr (.inr (some 97)), .inl a1, .inl a2, .inl v8, .inl v3, .inl v5, .inl v7, zN], [.inl x14]) M _
              refine zG_blk (c' := (210, [.inr (.inr (some 97)), .inl a1, .inl a2, .inl v8, .inl v3, .inl v5, .inl v7, .inl x14], [.inl 3, .inl a2])) 3 hd0 hz (by rfl) ?_
              have j233 : ∀ (v15 : Int) , (-2147483648) ≤ v15 ∧ v15 ≤ 2147483647 → zG n (0, 0) d 216 (233, [.inr (.inr (some 97)), .inl a1, .inl a2, .inl v8, .inl v3, .inl v5, .inl v7, .inl x14], [.inl v15]) M (fun v M' => M' = M ∧ qRi (fun x => (-2147483648) ≤ x ∧ x ≤ 2147483647) v) := by
                intro v15 hv15
                exact zG_ret hd0 hz rfl rfl ⟨rfl, _, rfl, by omega⟩
              have j232 : zG n (0, 0) d 216 (232, [.inr (.inr (some 97)), .inl a1, .inl a2, .inl v8, .inl v3, .inl v5, .inl v7, .inl x14], []) M (fun v M' => M' = M ∧ qRi (fun x => (-2147483648) ≤ x ∧ x ≤ 2147483647) v) := by
                refine zG_blk (c' := (233, [.inr (.inr (some 97)), .inl a1, .inl a2, .inl v8, .inl v3, .inl v5, .inl v7, .inl x14], [.inl v8])) 1 hd0 hz (by rfl) ?_
                exact j233 v8 (by omega)
              refine zG_icmp_le hd0 hz rfl (fun hb16 => ?_) (fun hb16 => ?_)
              · exact j232
              · refine zG_blk (c' := (216, [.inr (.inr (some 97)), .inl a1, .inl a2, .inl v8, .inl v3, .inl v5, .inl v7, .inl x14], [.inl x14, .inl v8])) 2 hd0 hz (by rfl) ?_
                refine zG_icmp_le hd0 hz rfl (fun hb17 => ?_) (fun hb17 => ?_)
                · exact j232
                · refine zG_blk (c' := (221, [.inr (.inr (some 97)), .inl a1, .inl a2, .inl v8, .inl v3, .inl v5, .inl v7, .inl x14], [.inl a1, .inr (.inr (some 97))])) 2 hd0 hz (by rfl) ?_
                  refine zG_call hd0 hz (rfl : zP 215 = (zk_X11_isLater, 4, (0, 0))) rfl rfl (Nat.le_of_ble_eq_true rfl) ⟨Nat.le_refl _, Nat.le_refl _⟩ (qm_215_97 (by omega) hC  a1 (by omega)) (fun vr M18 hr => ?_)
                  obtain ⟨hq, x19, rfl, hx19⟩ := hr
                  replace hq := hq.symm; subst hq
                  show zG n (0, 0) d 216 (224, [.inr (.inr (some 97)), .inl a1, .inl a2, .inl v8, .inl v3, .inl v5, .inl v7, .inl x14], [.inl x19]) M _
                  refine zG_if_eq hd0 hz rfl (fun hb20 => ?_) (fun hb20 => ?_)
                  · exact j232
                  · refine zG_blk (c' := (233, [.inr (.inr (some 97)), .inl a1, .inl a2, .inl v8, .inl v3, .inl v5, .inl v7, .inl x14], [.inl x14])) 2 hd0 hz (by rfl) ?_
                    exact j233 x14 (by omega)
            refine zG_icmp_eq hd0 hz rfl (fun hb21 => ?_) (fun hb21 => ?_)
            · exact j188 v6 (by omega)
            · have hrel := hC.rel v7 (by omega) (by omega)
              refine zG_blk (c' := (144, [.inr (.inr (some 97)), .inl a1, .inl a2, .inl v6, .inl v3, .inl v5, .inl v7, zN], [.inl 9, .inl v7, .inr (.inr (some 97)), .inl v6])) 4 hd0 hz (by rfl) ?_
              refine zG_call hd0 hz (rfl : zP 194 = (zk_X11_act, 3, (0, 0))) rfl rfl (Nat.le_of_ble_eq_true rfl) ⟨Nat.le_refl _, Nat.le_refl _⟩ (qx_act (by omega) hC  v7 (by omega) 9 (by omega)) (fun vr M22 hr => ?_)
              obtain ⟨hq, x23, rfl, hx23⟩ := hr
              replace hq := hq.symm; subst hq
              show zG n (0, 0) d 216 (147, [.inr (.inr (some 97)), .inl a1, .inl a2, .inl v6, .inl v3, .inl v5, .inl v7, zN], [.inl x23, .inl v6]) M _
              obtain ⟨x24, hx24⟩ : ∃ x : Int, x = w32 (v6 * x23) := ⟨_, rfl⟩
              have hx24r : qin x24 := by rw [hx24]; exact w32_in _
              refine zG_blk (c' := (153, [.inr (.inr (some 97)), .inl a1, .inl a2, .inl v6, .inl v3, .inl v5, .inl v7, zN], [.inl 10, .inl v7, .inr (.inr (some 97)), .inl x24])) 4 hd0 hz (by subst hx24; rfl) ?_
              refine zG_call hd0 hz (rfl : zP 194 = (zk_X11_act, 3, (0, 0))) rfl rfl (Nat.le_of_ble_eq_true rfl) ⟨Nat.le_refl _, Nat.le_refl _⟩ (qx_act (by omega) hC  v7 (by omega) 10 (by omega)) (fun vr M25 hr => ?_)
              obtain ⟨hq, x26, rfl, hx26⟩ := hr
              replace hq := hq.symm; subst hq
              show zG n (0, 0) d 216 (156, [.inr (.inr (some 97)), .inl a1, .inl a2, .inl v6, .inl v3, .inl v5, .inl v7, zN], [.inl x26, .inl x24]) M _
              refine zG_idiv hd0 hz rfl (by omega) ?_
              have hx27 := w32_in (x24.tdiv x26)
              generalize w32 (x24.tdiv x26) = x27 at hx27 ⊢
              show zG n (0, 0) d 216 (157, [.inr (.inr (some 97)), .inl a1, .inl a2, .inl v6, .inl v3, .inl v5, .inl v7, zN], [.inl x27]) M _
              refine zG_blk (c' := (162, [.inr (.inr (some 97)), .inl a1, .inl a2, .inl v6, .inl v3, .inl v5, .inl v7, zN], [.inl 11, .inl v7, .inr (.inr (some 97)), .inl x27])) 3 hd0 hz (by rfl) ?_
              refine zG_call hd0 hz (rfl : zP 194 = (zk_X11_act, 3, (0, 0))) rfl rfl (Nat.le_of_ble_eq_true rfl) ⟨Nat.le_refl _, Nat.le_refl _⟩ (qx_act (by omega) hC  v7 (by omega) 11 (by omega)) (fun vr M28 hr => ?_)
              obtain ⟨hq, x29, rfl, hx29⟩ := hr
              replace hq := hq.symm; subst hq
              show zG n (0, 0) d 216 (165, [.inr (.inr (some 97)), .inl a1, .inl a2, .inl v6, .inl v3, .inl v5, .inl v7, zN], [.inl x29, .inl x27]) M _
              obtain ⟨x30, hx30⟩ : ∃ x : Int, x = w32 (x27 + x29) := ⟨_, rfl⟩
              have hx30r : x30 = (x27 + x29 + 2147483648) % 4294967296 - 2147483648 := hx30
              refine zG_blk (c' := (168, [.inr (.inr (some 97)), .inl a1, .inl a2, .inl x30, .inl v3, .inl v5, .inl v7, zN], [.inl x30])) 3 hd0 hz (by subst hx30; rfl) ?_
              have j187 : ∀ (v31 : Int) , 0 ≤ v31 ∧ v31 ≤ 100 → zG n (0, 0) d 216 (187, [.inr (.inr (some 97)), .inl a1, .inl a2, .inl x30, .inl v3, .inl v5, .inl v7, zN], [.inl v31]) M (fun v M' => M' = M ∧ qRi (fun x => (-2147483648) ≤ x ∧ x ≤ 2147483647) v) := by
                intro v31 hv31
                refine zG_blk (c' := (188, [.inr (.inr (some 97)), .inl a1, .inl a2, .inl v31, .inl v3, .inl v5, .inl v7, zN], [])) 1 hd0 hz (by rfl) ?_
                exact j188 v31 (by omega)
              refine zG_if_ge hd0 hz rfl (fun hb32 => ?_) (fun hb32 => ?_)
              · refine zG_blk (c' := (178, [.inr (.inr (some 97)), .inl a1, .inl a2, .inl x30, .inl v3, .inl v5, .inl v7, zN], [.inl 100, .inl x30])) 2 hd0 hz (by rfl) ?_
                refine zG_icmp_le hd0 hz rfl (fun hb33 => ?_) (fun hb33 => ?_)
                · refine zG_blk (c' := (187, [.inr (.inr (some 97)), .inl a1, .inl a2, .inl x30, .inl v3, .inl v5, .inl v7, zN], [.inl x30])) 1 hd0 hz (by rfl) ?_
                  exact j187 x30 (by omega)
                · refine zG_blk (c' := (187, [.inr (.inr (some 97)), .inl a1, .inl a2, .inl x30, .inl v3, .inl v5, .inl v7, zN], [.inl 100])) 2 hd0 hz (by rfl) ?_
                  exact j187 100 (by omega)
              · refine zG_blk (c' := (187, [.inr (.inr (some 97)), .inl a1, .inl a2, .inl x30, .inl v3, .inl v5, .inl v7, zN], [.inl 0])) 2 hd0 hz (by rfl) ?_
                exact j187 0 (by omega)
          refine zG_icmp_le hd0 hz rfl (fun hb34 => ?_) (fun hb34 => ?_)
          · refine zG_blk (c' := (130, [.inr (.inr (some 97)), .inl a1, .inl a2, .inl v6, .inl v3, .inl v5, zN, zN], [.inl (-1)])) 1 hd0 hz (by rfl) ?_
            exact j130 (-1) (by omega)
          · refine zG_blk (c' := (123, [.inr (.inr (some 97)), .inl a1, .inl a2, .inl v6, .inl v3, .inl v5, zN, zN], [.inl a1, .inr (.inr (some 97))])) 2 hd0 hz (by rfl) ?_
            refine zG_call hd0 hz (rfl : zP 214 = (zk_X11_scaledFor, 3, (0, 0))) rfl rfl (Nat.le_of_ble_eq_true rfl) ⟨Nat.le_refl _, Nat.le_refl _⟩ (qm_214_97 (by omega) hC  a1 (by omega)) (fun vr M35 hr => ?_)
            obtain ⟨hq, x36, rfl, hx36⟩ := hr
            replace hq := hq.symm; subst hq
            show zG n (0, 0) d 216 (126, [.inr (.inr (some 97)), .inl a1, .inl a2, .inl v6, .inl v3, .inl v5, zN, zN], [.inl x36]) M _
            refine zG_blk (c' := (130, [.inr (.inr (some 97)), .inl a1, .inl a2, .inl v6, .inl v3, .inl v5, zN, zN], [.inl x36])) 1 hd0 hz (by rfl) ?_
            exact j130 x36 (by omega)
        refine zG_icmp_ne hd0 hz rfl (fun hb37 => ?_) (fun hb37 => ?_)
        · refine zG_blk (c' := (112, [.inr (.inr (some 97)), .inl a1, .inl a2, .inl v4, .inl v3, .inl v5, zN, zN], [.inl 7, .inl v5, .inr (.inr (some 97))])) 3 hd0 hz (by rfl) ?_
          refine zG_call hd0 hz (rfl : zP 194 = (zk_X11_act, 3, (0, 0))) rfl rfl (Nat.le_of_ble_eq_true rfl) ⟨Nat.le_refl _, Nat.le_refl _⟩ (qx_act (by omega) hC  v5 (by omega) 7 (by omega)) (fun vr M38 hr => ?_)
          obtain ⟨hq, x39, rfl, hx39⟩ := hr
          replace hq := hq.symm; subst hq
          show zG n (0, 0) d 216 (115, [.inr (.inr (some 97)), .inl a1, .inl a2, .inl v4, .inl v3, .inl v5, zN, zN], [.inl x39]) M _
          exact j115 x39 (by omega)
        · refine zG_blk (c' := (115, [.inr (.inr (some 97)), .inl a1, .inl a2, .inl v4, .inl v3, .inl v5, zN, zN], [.inl v4])) 2 hd0 hz (by rfl) ?_
          exact j115 v4 (by omega)
      refine zG_icmp_le hd0 hz rfl (fun hb40 => ?_) (fun hb40 => ?_)
      · refine zG_blk (c' := (95, [.inr (.inr (some 97)), .inl a1, .inl a2, .inl v4, .inl v3, zN, zN, zN], [.inl (-1)])) 1 hd0 hz (by rfl) ?_
        exact j95 (-1) (by omega)
      · refine zG_blk (c' := (88, [.inr (.inr (some 97)), .inl a1, .inl a2, .inl v4, .inl v3, zN, zN, zN], [.inl a1, .inl 2, .inr (.inr (some 97))])) 3 hd0 hz (by rfl) ?_
        refine zG_call hd0 hz (rfl : zP 213 = (zk_X11_lastOf, 4, (0, 0))) rfl rfl (Nat.le_of_ble_eq_true rfl) ⟨Nat.le_refl _, Nat.le_refl _⟩ (qm_213_97 (by omega) hC  2 (by omega) a1 (by omega)) (fun vr M41 hr => ?_)
        obtain ⟨hq, x42, rfl, hx42⟩ := hr
        replace hq := hq.symm; subst hq
        show zG n (0, 0) d 216 (91, [.inr (.inr (some 97)), .inl a1, .inl a2, .inl v4, .inl v3, zN, zN, zN], [.inl x42]) M _
        refine zG_blk (c' := (95, [.inr (.inr (some 97)), .inl a1, .inl a2, .inl v4, .inl v3, zN, zN, zN], [.inl x42])) 1 hd0 hz (by rfl) ?_
        exact j95 x42 (by omega)
    refine zG_icmp_eq hd0 hz rfl (fun hb43 => ?_) (fun hb43 => ?_)
    · exact j80 x2 (by omega)
    · refine zG_blk (c' := (35, [.inr (.inr (some 97)), .inl a1, .inl a2, .inl x2, .inl v3, zN, zN, zN], [.inl 7, .inl v3, .inr (.inr (some 97))])) 3 hd0 hz (by rfl) ?_
      refine zG_call hd0 hz (rfl : zP 194 = (zk_X11_act, 3, (0, 0))) rfl rfl (Nat.le_of_ble_eq_true rfl) ⟨Nat.le_refl _, Nat.le_refl _⟩ (qx_act (by omega) hC  v3 (by omega) 7 (by omega)) (fun vr M44 hr => ?_)
      obtain ⟨hq, x45, rfl, hx45⟩ := hr
      replace hq := hq.symm; subst hq
      show zG n (0, 0) d 216 (38, [.inr (.inr (some 97)), .inl a1, .inl a2, .inl x2, .inl v3, zN, zN, zN], [.inl x45]) M _
      refine zG_blk (c' := (43, [.inr (.inr (some 97)), .inl a1, .inl a2, .inl x2, .inl v3, .inl x45, zN, zN], [.inl x45, .inl x2])) 3 hd0 hz (by rfl) ?_
      have j52 : ∀ (v46 : Int) , (-2147483648) ≤ v46 ∧ v46 ≤ 2147483647 → zG n (0, 0) d 216 (52, [.inr (.inr (some 97)), .inl a1, .inl a2, .inl x2, .inl v3, .inl x45, zN, zN], [.inl v46]) M (fun v M' => M' = M ∧ qRi (fun x => (-2147483648) ≤ x ∧ x ≤ 2147483647) v) := by
        intro v46 hv46
        obtain ⟨x47, hx47⟩ : ∃ x : Int, x = w32 (x2 - x45) := ⟨_, rfl⟩
        have hx47r : x47 = (x2 - x45 + 2147483648) % 4294967296 - 2147483648 := hx47
        refine zG_blk (c' := (62, [.inr (.inr (some 97)), .inl a1, .inl a2, .inl x2, .inl v3, .inl x45, .inl v46, zN], [.inl 10, .inl (-10), .inl x47])) 6 hd0 hz (by subst hx47; rfl) ?_
        refine zG_call hd0 hz (rfl : zP 180 = (zk_X11_in, 3, (0, 0))) rfl rfl (Nat.le_of_ble_eq_true rfl) ⟨Nat.le_refl _, Nat.le_refl _⟩ (qx_in (by omega) hC  x47 (by omega) (-10) (by omega) 10 (by omega)) (fun vr M48 hr => ?_)
        obtain ⟨hq, x49, rfl, hx49⟩ := hr
        replace hq := hq.symm; subst hq
        show zG n (0, 0) d 216 (65, [.inr (.inr (some 97)), .inl a1, .inl a2, .inl x2, .inl v3, .inl x45, .inl v46, zN], [.inl x49]) M _
        have j79 : ∀ (v50 : Int) , (-2147483648) ≤ v50 ∧ v50 ≤ 2147483647 → zG n (0, 0) d 216 (79, [.inr (.inr (some 97)), .inl a1, .inl a2, .inl x2, .inl v3, .inl x45, .inl v46, zN], [.inl v50]) M (fun v M' => M' = M ∧ qRi (fun x => (-2147483648) ≤ x ∧ x ≤ 2147483647) v) := by
          intro v50 hv50
          refine zG_blk (c' := (80, [.inr (.inr (some 97)), .inl a1, .inl a2, .inl v50, .inl v3, .inl x45, .inl v46, zN], [])) 1 hd0 hz (by rfl) ?_
          exact zG_weak (j80 v50 (by omega)) ⟨.inr rfl, .inr rfl, .inr rfl, .inr rfl, .inr rfl, .inl rfl, .inl rfl, .inr rfl, trivial⟩
        refine zG_if_eq hd0 hz rfl (fun hb51 => ?_) (fun hb51 => ?_)
        · refine zG_blk (c' := (79, [.inr (.inr (some 97)), .inl a1, .inl a2, .inl x2, .inl v3, .inl x45, .inl v46, zN], [.inl v46])) 1 hd0 hz (by rfl) ?_
          exact j79 v46 (by omega)
        · obtain ⟨x52, hx52⟩ : ∃ x : Int, x = w32 (x2 + x45) := ⟨_, rfl⟩
          have hx52r : x52 = (x2 + x45 + 2147483648) % 4294967296 - 2147483648 := hx52
          refine zG_blk (c' := (73, [.inr (.inr (some 97)), .inl a1, .inl a2, .inl x2, .inl v3, .inl x45, .inl v46, zN], [.inl 2, .inl x52])) 4 hd0 hz (by subst hx52; rfl) ?_
          refine zG_idiv hd0 hz rfl (by omega) ?_
          have hx53 := qtdiv_in x52 2 (by omega) (by omega)
          generalize w32 (x52.tdiv 2) = x53 at hx53 ⊢
          show zG n (0, 0) d 216 (74, [.inr (.inr (some 97)), .inl a1, .inl a2, .inl x2, .inl v3, .inl x45, .inl v46, zN], [.inl x53]) M _
          refine zG_blk (c' := (79, [.inr (.inr (some 97)), .inl a1, .inl a2, .inl x2, .inl v3, .inl x45, .inl v46, zN], [.inl x53])) 1 hd0 hz (by rfl) ?_
          exact j79 x53 (by omega)
      refine zG_icmp_ge hd0 hz rfl (fun hb54 => ?_) (fun hb54 => ?_)
      · refine zG_blk (c' := (52, [.inr (.inr (some 97)), .inl a1, .inl a2, .inl x2, .inl v3, .inl x45, zN, zN], [.inl x45])) 1 hd0 hz (by rfl) ?_
        exact j52 x45 (by omega)
      · refine zG_blk (c' := (52, [.inr (.inr (some 97)), .inl a1, .inl a2, .inl x2, .inl v3, .inl x45, zN, zN], [.inl x2])) 2 hd0 hz (by rfl) ?_
        exact j52 x2 (by omega)
  refine zG_if_le hd0 hz rfl (fun hb55 => ?_) (fun hb55 => ?_)
  · refine zG_blk (c' := (22, [.inr (.inr (some 97)), .inl a1, .inl a2, .inl x2, zN, zN, zN, zN], [.inl (-1)])) 1 hd0 hz (by rfl) ?_
    exact j22 (-1) (by omega)
  · refine zG_blk (c' := (15, [.inr (.inr (some 97)), .inl a1, .inl a2, .inl x2, zN, zN, zN, zN], [.inl a1, .inl 1, .inr (.inr (some 97))])) 3 hd0 hz (by rfl) ?_
    refine zG_call hd0 hz (rfl : zP 213 = (zk_X11_lastOf, 4, (0, 0))) rfl rfl (Nat.le_of_ble_eq_true rfl) ⟨Nat.le_refl _, Nat.le_refl _⟩ (qm_213_97 (by omega) hC  1 (by omega) a1 (by omega)) (fun vr M56 hr => ?_)
    obtain ⟨hq, x57, rfl, hx57⟩ := hr
    replace hq := hq.symm; subst hq
    show zG n (0, 0) d 216 (18, [.inr (.inr (some 97)), .inl a1, .inl a2, .inl x2, zN, zN, zN, zN], [.inl x57]) M _
    refine zG_blk (c' := (22, [.inr (.inr (some 97)), .inl a1, .inl a2, .inl x2, zN, zN, zN, zN], [.inl x57])) 1 hd0 hz (by rfl) ?_
    exact j22 x57 (by omega)
theorem qm_217_97 {n d : Nat} {M : zM} (hd : 4 ≤ d) (hC : qMI M) (a1 : Int) (ha1 : (-2147483648) ≤ a1 ∧ a1 ≤ 2147483647) (a2 : Int) (ha2 : (-2147483648) ≤ a2 ∧ a2 ≤ 2147483647) (a3 : Int) (ha3 : (-2147483648) ≤ a3 ∧ a3 ≤ 2147483647) : qOkM n d 217 [.inr (.inr (some 97)), .inl a1, .inl a2, .inl a3] 4 qMI [101] M (qRi (fun x => (-2147483648) ≤ x ∧ x ≤ 2147483647)) := by
  have hz : zP 217 = (zk_X11_step, 4, (0, 0)) := rfl
  have hd0 : 0 < d := by omega
  have hW : qFr [101] M M := qFr.rfl
  show zG n (0, 0) d 217 (0, [.inr (.inr (some 97)), .inl a1, .inl a2, .inl a3], []) M _
  refine zG_blk (c' := (2, [.inr (.inr (some 97)), .inl a1, .inl a2, .inl a3], [.inl a1, .inr (.inr (some 97))])) 2 hd0 hz (by rfl) ?_
  refine zG_call hd0 hz (rfl : zP 198 = (zk_X11_isMark, 2, (0, 0))) rfl rfl (Nat.le_of_ble_eq_true rfl) ⟨Nat.le_refl _, Nat.le_refl _⟩ (qm_198_97 (by omega) hC  a1 (by omega)) (fun vr M1 hr => ?_)
  obtain ⟨hq, x2, rfl, hx2⟩ := hr
  replace hq := hq.symm; subst hq
  show zG n (0, 0) d 217 (5, [.inr (.inr (some 97)), .inl a1, .inl a2, .inl a3], [.inl x2]) M _
  have j24 : zG n (0, 0) d 217 (24, [.inr (.inr (some 97)), .inl a1, .inl a2, .inl a3], []) M (fun v M' => qWf qMI [101] M M' ∧ qRi (fun x => (-2147483648) ≤ x ∧ x ≤ 2147483647) v) := by
    refine zG_blk (c' := (26, [.inr (.inr (some 97)), .inl a1, .inl a2, .inl a3], [.inl (-2)])) 1 hd0 hz (by rfl) ?_
    exact zG_ret hd0 hz rfl rfl ⟨⟨hC, hW⟩, _, rfl, by omega⟩
  refine zG_if_eq hd0 hz rfl (fun hb3 => ?_) (fun hb3 => ?_)
  · exact j24
  · refine zG_blk (c' := (11, [.inr (.inr (some 97)), .inl a1, .inl a2, .inl a3], [.inl 4, .inl 0, .inl a2])) 3 hd0 hz (by rfl) ?_
    refine zG_call hd0 hz (rfl : zP 180 = (zk_X11_in, 3, (0, 0))) rfl rfl (Nat.le_of_ble_eq_true rfl) ⟨Nat.le_refl _, Nat.le_refl _⟩ (qx_in (by omega) hC  a2 (by omega) 0 (by omega) 4 (by omega)) (fun vr M4 hr => ?_)
    obtain ⟨hq, x5, rfl, hx5⟩ := hr
    replace hq := hq.symm; subst hq
    show zG n (0, 0) d 217 (14, [.inr (.inr (some 97)), .inl a1, .inl a2, .inl a3], [.inl x5]) M _
    refine zG_if_eq hd0 hz rfl (fun hb6 => ?_) (fun hb6 => ?_)
    · exact j24
    · refine zG_blk (c' := (18, [.inr (.inr (some 97)), .inl a1, .inl a2, .inl a3], [.inl a3])) 1 hd0 hz (by rfl) ?_
      refine zG_call hd0 hz (rfl : zP 184 = (zk_X11_isDay, 1, (0, 0))) rfl rfl (Nat.le_of_ble_eq_true rfl) ⟨Nat.le_refl _, Nat.le_refl _⟩ (qm_184 (by omega) hC  a3 (by omega)) (fun vr M7 hr => ?_)
      obtain ⟨hq, x8, rfl, hx8⟩ := hr
      replace hq := hq.symm; subst hq
      show zG n (0, 0) d 217 (21, [.inr (.inr (some 97)), .inl a1, .inl a2, .inl a3], [.inl x8]) M _
      refine zG_if_ne hd0 hz rfl (fun hb9 => ?_) (fun hb9 => ?_)
      · refine zG_blk (c' := (29, [.inr (.inr (some 97)), .inl a1, .inl a2, .inl a3], [.inl a3, .inr (.inr (some 97))])) 2 hd0 hz (by rfl) ?_
        refine zG_call hd0 hz (rfl : zP 211 = (zk_X11_finds, 3, (0, 0))) rfl rfl (Nat.le_of_ble_eq_true rfl) ⟨Nat.le_refl _, Nat.le_refl _⟩ (qm_211_97 (by omega) hC  a3 (by omega)) (fun vr M10 hr => ?_)
        obtain ⟨⟨hCM10, hFM10⟩, rfl⟩ := hr
        have hWM10 : qFr [101] M M10 := hW.tr hFM10 (by decide)
        show zG n (0, 0) d 217 (32, [.inr (.inr (some 97)), .inl a1, .inl a2, .inl a3], []) M10 _
        refine zG_blk (c' := (37, [.inr (.inr (some 97)), .inl a1, .inl a2, .inl a3], [.inl a1, .inr (.inr (some 101))])) 3 hd0 hz (by rfl) ?_
        refine zG_bald hd0 hz rfl rfl (.inl rfl) (by omega) ?_
        obtain ⟨x12, hx12⟩ : ∃ x : Int, x = M10 101 (a1 : Int).toNat := ⟨_, rfl⟩
        rw [← hx12]
        have hx12r : x12 = 0 ∨ x12 = 1 := by rw [hx12]; exact hCM10.bl101 _
        show zG n (0, 0) d 217 (38, [.inr (.inr (some 97)), .inl a1, .inl a2, .inl a3], [.inl x12]) M10 _
        have j51 : ∀ (v13 : Int) , (-2147483648) ≤ v13 ∧ v13 ≤ 2147483647 → zG n (0, 0) d 217 (51, [.inr (.inr (some 97)), .inl a1, .inl a2, .inl a3], [.inl v13]) M10 (fun v M' => qWf qMI [101] M M' ∧ qRi (fun x => (-2147483648) ≤ x ∧ x ≤ 2147483647) v) := by
          intro v13 hv13
          exact zG_ret hd0 hz rfl rfl ⟨⟨hCM10, hWM10⟩, _, rfl, by omega⟩
        refine zG_if_eq hd0 hz rfl (fun hb14 => ?_) (fun hb14 => ?_)
        · refine zG_blk (c' := (51, [.inr (.inr (some 97)), .inl a1, .inl a2, .inl a3], [.inl (-1)])) 1 hd0 hz (by rfl) ?_
          exact j51 (-1) (by omega)
        · refine zG_blk (c' := (44, [.inr (.inr (some 97)), .inl a1, .inl a2, .inl a3], [.inl a2, .inl a1, .inr (.inr (some 97))])) 3 hd0 hz (by rfl) ?_
          refine zG_call hd0 hz (rfl : zP 216 = (zk_X11_stepOf, 8, (0, 0))) rfl rfl (Nat.le_of_ble_eq_true rfl) ⟨Nat.le_refl _, Nat.le_refl _⟩ (qm_216_97 (by omega) hCM10  a1 (by omega) a2 (by omega)) (fun vr M15 hr => ?_)
          obtain ⟨hq, x16, rfl, hx16⟩ := hr
          replace hq := hq.symm; subst hq
          show zG n (0, 0) d 217 (47, [.inr (.inr (some 97)), .inl a1, .inl a2, .inl a3], [.inl x16]) M10 _
          refine zG_blk (c' := (51, [.inr (.inr (some 97)), .inl a1, .inl a2, .inl a3], [.inl x16])) 1 hd0 hz (by rfl) ?_
          exact j51 x16 (by omega)
      · exact j24
theorem qm_218_97 {n d : Nat} {M : zM} (hd : 4 ≤ d) (hC : qMI M) (a1 : Int) (ha1 : (-2147483648) ≤ a1 ∧ a1 ≤ 2147483647) : qOkM n d 218 [.inr (.inr (some 97)), .inl a1] 5 qMI [102, 103, 104] M qRn := by
  have hz : zP 218 = (zk_X11_findCourses, 5, (0, 0)) := rfl
  have hd0 : 0 < d := by omega
  have hW : qFr [102, 103, 104] M M := qFr.rfl
  show zG n (0, 0) d 218 (0, [.inr (.inr (some 97)), .inl a1, zN, zN, zN], []) M _
  refine zG_blk (c' := (2, [.inr (.inr (some 97)), .inl a1, .inl 0, zN, zN], [])) 2 hd0 hz (by rfl) ?_
  have j2 : ∀ (N : Nat) (v1 : Int) (M2 : zM) , (14 - v1 : Int).toNat < N → 0 ≤ v1 ∧ v1 ≤ 14 → qMI M2 → qFr [102, 103, 104] M M2 → zG n (0, 0) d 218 (2, [.inr (.inr (some 97)), .inl a1, .inl v1, zN, zN], []) M2 (fun v M' => qWf qMI [102, 103, 104] M M' ∧ qRn v) := by
    intro N
    induction N with
    | zero => intro v1 M2 hN hv1 hCM2 hWM2; exact absurd hN (Nat.not_lt_zero _)
    | succ N ih2 =>
      intro v1 M2 hN hv1 hCM2 hWM2
      refine zG_blk (c' := (5, [.inr (.inr (some 97)), .inl a1, .inl v1, zN, zN], [.inl 14, .inl v1])) 2 hd0 hz (by rfl) ?_
      refine zG_icmp_ge hd0 hz rfl (fun hb3 => ?_) (fun hb3 => ?_)
      · refine zG_blk (c' := (37, [.inr (.inr (some 97)), .inl a1, .inl 0, zN, zN], [])) 2 hd0 hz (by rfl) ?_
        have j37 : ∀ (N : Nat) (v4 : Int) (M5 : zM) , (250 - v4 : Int).toNat < N → 0 ≤ v4 ∧ v4 ≤ 250 → qMI M5 → qFr [102, 103, 104] M M5 → zG n (0, 0) d 218 (37, [.inr (.inr (some 97)), .inl a1, .inl v4, zN, zN], []) M5 (fun v M' => qWf qMI [102, 103, 104] M M' ∧ qRn v) := by
          intro N
          induction N with
          | zero => intro v4 M5 hN hv4 hCM5 hWM5; exact absurd hN (Nat.not_lt_zero _)
          | succ N ih37 =>
            intro v4 M5 hN hv4 hCM5 hWM5
            refine zG_blk (c' := (43, [.inr (.inr (some 97)), .inl a1, .inl v4, zN, zN], [.inl 4, .inr (.inr (some 98)), .inl v4])) 4 hd0 hz (by rfl) ?_
            refine zG_iald hd0 hz rfl rfl (.inl rfl) (by omega) ?_
            have r6 := hCM5.cnt4
            show zG n (0, 0) d 218 (44, [.inr (.inr (some 97)), .inl a1, .inl v4, zN, zN], [.inl (M5 98 4), .inl v4]) M5 _
            refine zG_icmp_ge hd0 hz rfl (fun hb7 => ?_) (fun hb7 => ?_)
            · exact zG_ret hd0 hz rfl rfl ⟨⟨hCM5, hWM5⟩, rfl⟩
            · refine zG_blk (c' := (52, [.inr (.inr (some 97)), .inl a1, .inl v4, zN, zN], [.inl v4, .inr (.inr (some 101))])) 3 hd0 hz (by rfl) ?_
              refine zG_bald hd0 hz rfl rfl (.inl rfl) (by omega) ?_
              obtain ⟨x8, hx8⟩ : ∃ x : Int, x = M5 101 (v4 : Int).toNat := ⟨_, rfl⟩
              rw [← hx8]
              have hx8r : x8 = 0 ∨ x8 = 1 := by rw [hx8]; exact hCM5.bl101 _
              show zG n (0, 0) d 218 (53, [.inr (.inr (some 97)), .inl a1, .inl v4, zN, zN], [.inl x8]) M5 _
              have j172 : ∀ (M9 : zM) , qMI M9 → qFr [102, 103, 104] M M9 → zG n (0, 0) d 218 (172, [.inr (.inr (some 97)), .inl a1, .inl v4, zN, zN], []) M9 (fun v M' => qWf qMI [102, 103, 104] M M' ∧ qRn v) := by
                intro M9 hCM9 hWM9
                obtain ⟨x10, hx10⟩ : ∃ x : Int, x = w32 (v4 + 1) := ⟨_, rfl⟩
                have hx10e : x10 = v4 + 1 := by rw [hx10]; exact w32_id (by omega)
                refine zG_blk (c' := (37, [.inr (.inr (some 97)), .inl a1, .inl x10, zN, zN], [])) 2 hd0 hz (by subst hx10; rfl) ?_
                exact ih37 x10 M9 (by omega) (by omega) hCM9 hWM9
              have j131 : zG n (0, 0) d 218 (131, [.inr (.inr (some 97)), .inl a1, .inl v4, zN, zN], []) M5 (fun v M' => qWf qMI [102, 103, 104] M M' ∧ qRn v) := by
                refine zG_blk (c' := (136, [.inr (.inr (some 97)), .inl a1, .inl v4, zN, zN], [.inl v4, .inr (.inr (some 101))])) 3 hd0 hz (by rfl) ?_
                refine zG_bald hd0 hz rfl rfl (.inl rfl) (by omega) ?_
                obtain ⟨x11, hx11⟩ : ∃ x : Int, x = M5 101 (v4 : Int).toNat := ⟨_, rfl⟩
                rw [← hx11]
                have hx11r : x11 = 0 ∨ x11 = 1 := by rw [hx11]; exact hCM5.bl101 _
                show zG n (0, 0) d 218 (137, [.inr (.inr (some 97)), .inl a1, .inl v4, zN, zN], [.inl x11]) M5 _
                refine zG_if_eq hd0 hz rfl (fun hb12 => ?_) (fun hb12 => ?_)
                · exact j172 M5 hCM5 hWM5
                · refine zG_blk (c' := (143, [.inr (.inr (some 97)), .inl a1, .inl v4, zN, zN], [.inl 4, .inl v4, .inr (.inr (some 97))])) 3 hd0 hz (by rfl) ?_
                  refine zG_call hd0 hz (rfl : zP 194 = (zk_X11_act, 3, (0, 0))) rfl rfl (Nat.le_of_ble_eq_true rfl) ⟨Nat.le_refl _, Nat.le_refl _⟩ (qx_act (by omega) hCM5  v4 (by omega) 4 (by omega)) (fun vr M13 hr => ?_)
                  obtain ⟨hq, x14, rfl, hx14⟩ := hr
                  replace hq := hq.symm; subst hq
                  show zG n (0, 0) d 218 (146, [.inr (.inr (some 97)), .inl a1, .inl v4, zN, zN], [.inl x14]) M5 _
                  refine zG_blk (c' := (147, [.inr (.inr (some 97)), .inl a1, .inl v4, zN, zN], [.inl a1, .inl x14])) 1 hd0 hz (by rfl) ?_
                  refine zG_icmp_ne hd0 hz rfl (fun hb15 => ?_) (fun hb15 => ?_)
                  · exact j172 M5 hCM5 hWM5
                  · refine zG_blk (c' := (153, [.inr (.inr (some 97)), .inl a1, .inl v4, zN, zN], [.inl 0, .inl v4, .inr (.inr (some 97))])) 3 hd0 hz (by rfl) ?_
                    refine zG_call hd0 hz (rfl : zP 194 = (zk_X11_act, 3, (0, 0))) rfl rfl (Nat.le_of_ble_eq_true rfl) ⟨Nat.le_refl _, Nat.le_refl _⟩ (qx_act (by omega) hCM5  v4 (by omega) 0 (by omega)) (fun vr M16 hr => ?_)
                    obtain ⟨hq, x17, rfl, hx17⟩ := hr
                    replace hq := hq.symm; subst hq
                    show zG n (0, 0) d 218 (156, [.inr (.inr (some 97)), .inl a1, .inl v4, zN, zN], [.inl x17]) M5 _
                    refine zG_blk (c' := (157, [.inr (.inr (some 97)), .inl a1, .inl v4, zN, zN], [.inl 4, .inl x17])) 1 hd0 hz (by rfl) ?_
                    refine zG_icmp_ne hd0 hz rfl (fun hb18 => ?_) (fun hb18 => ?_)
                    · exact j172 M5 hCM5 hWM5
                    · have hrel := hCM5.rel v4 (by omega) (by omega)
                      refine zG_blk (c' := (167, [.inr (.inr (some 97)), .inl a1, .inl v4, zN, zN], [.inl 5, .inl v4, .inr (.inr (some 97)), .inr (.inr (some 104))])) 5 hd0 hz (by rfl) ?_
                      refine zG_call hd0 hz (rfl : zP 194 = (zk_X11_act, 3, (0, 0))) rfl rfl (Nat.le_of_ble_eq_true rfl) ⟨Nat.le_refl _, Nat.le_refl _⟩ (qx_act (by omega) hCM5  v4 (by omega) 5 (by omega)) (fun vr M19 hr => ?_)
                      obtain ⟨hq, x20, rfl, hx20⟩ := hr
                      replace hq := hq.symm; subst hq
                      show zG n (0, 0) d 218 (170, [.inr (.inr (some 97)), .inl a1, .inl v4, zN, zN], [.inl x20, .inr (.inr (some 104))]) M5 _
                      refine zG_blk (c' := (171, [.inr (.inr (some 97)), .inl a1, .inl v4, zN, zN], [.inl 1, .inl x20, .inr (.inr (some 104))])) 1 hd0 hz (by rfl) ?_
                      refine zG_iast hd0 hz rfl rfl (by omega) ?_
                      obtain ⟨M21, hM21⟩ : ∃ X : zM, X = zput M5 104 (x20 : Int).toNat 1 := ⟨_, rfl⟩
                      rw [← hM21]
                      have hCM21 : qMI M21 := by rw [hM21]; exact hCM5.put (by decide) (by decide) (by decide) (by refine ⟨fun _ => ?_, fun _ => ?_, fun h => ?_, fun h => ?_, fun h => ?_⟩ <;> omega)
                      have hWM21 : qFr [102, 103, 104] M M21 := by rw [hM21]; exact hWM5.put (by decide)
                      have e22 : M21 98 4 = M5 98 4 := by rw [hM21]; exact qput_ne (by decide)
                      show zG n (0, 0) d 218 (172, [.inr (.inr (some 97)), .inl a1, .inl v4, zN, zN], []) M21 _
                      exact j172 M21 hCM21 hWM21
              refine zG_if_eq hd0 hz rfl (fun hb23 => ?_) (fun hb23 => ?_)
              · exact j131
              · refine zG_blk (c' := (59, [.inr (.inr (some 97)), .inl a1, .inl v4, zN, zN], [.inl 4, .inl v4, .inr (.inr (some 97))])) 3 hd0 hz (by rfl) ?_
                refine zG_call hd0 hz (rfl : zP 194 = (zk_X11_act, 3, (0, 0))) rfl rfl (Nat.le_of_ble_eq_true rfl) ⟨Nat.le_refl _, Nat.le_refl _⟩ (qx_act (by omega) hCM5  v4 (by omega) 4 (by omega)) (fun vr M24 hr => ?_)
                obtain ⟨hq, x25, rfl, hx25⟩ := hr
                replace hq := hq.symm; subst hq
                show zG n (0, 0) d 218 (62, [.inr (.inr (some 97)), .inl a1, .inl v4, zN, zN], [.inl x25]) M5 _
                refine zG_blk (c' := (63, [.inr (.inr (some 97)), .inl a1, .inl v4, zN, zN], [.inl a1, .inl x25])) 1 hd0 hz (by rfl) ?_
                refine zG_icmp_ne hd0 hz rfl (fun hb26 => ?_) (fun hb26 => ?_)
                · exact j131
                · refine zG_blk (c' := (69, [.inr (.inr (some 97)), .inl a1, .inl v4, zN, zN], [.inl 0, .inl v4, .inr (.inr (some 97))])) 3 hd0 hz (by rfl) ?_
                  refine zG_call hd0 hz (rfl : zP 194 = (zk_X11_act, 3, (0, 0))) rfl rfl (Nat.le_of_ble_eq_true rfl) ⟨Nat.le_refl _, Nat.le_refl _⟩ (qx_act (by omega) hCM5  v4 (by omega) 0 (by omega)) (fun vr M27 hr => ?_)
                  obtain ⟨hq, x28, rfl, hx28⟩ := hr
                  replace hq := hq.symm; subst hq
                  show zG n (0, 0) d 218 (72, [.inr (.inr (some 97)), .inl a1, .inl v4, zN, zN], [.inl x28]) M5 _
                  refine zG_if_ne hd0 hz rfl (fun hb29 => ?_) (fun hb29 => ?_)
                  · exact j131
                  · have hrel := hCM5.rel v4 (by omega) (by omega)
                    refine zG_blk (c' := (78, [.inr (.inr (some 97)), .inl a1, .inl v4, zN, zN], [.inl 5, .inl v4, .inr (.inr (some 97))])) 3 hd0 hz (by rfl) ?_
                    refine zG_call hd0 hz (rfl : zP 194 = (zk_X11_act, 3, (0, 0))) rfl rfl (Nat.le_of_ble_eq_true rfl) ⟨Nat.le_refl _, Nat.le_refl _⟩ (qx_act (by omega) hCM5  v4 (by omega) 5 (by omega)) (fun vr M30 hr => ?_)
                    obtain ⟨hq, x31, rfl, hx31⟩ := hr
                    replace hq := hq.symm; subst hq
                    show zG n (0, 0) d 218 (81, [.inr (.inr (some 97)), .inl a1, .inl v4, zN, zN], [.inl x31]) M5 _
                    refine zG_blk (c' := (85, [.inr (.inr (some 97)), .inl a1, .inl v4, .inl x31, zN], [.inl 4, .inl v4, .inr (.inr (some 97))])) 4 hd0 hz (by rfl) ?_
                    refine zG_call hd0 hz (rfl : zP 216 = (zk_X11_stepOf, 8, (0, 0))) rfl rfl (Nat.le_of_ble_eq_true rfl) ⟨Nat.le_refl _, Nat.le_refl _⟩ (qm_216_97 (by omega) hCM5  v4 (by omega) 4 (by omega)) (fun vr M32 hr => ?_)
                    obtain ⟨hq, x33, rfl, hx33⟩ := hr
                    replace hq := hq.symm; subst hq
                    show zG n (0, 0) d 218 (88, [.inr (.inr (some 97)), .inl a1, .inl v4, .inl x31, zN], [.inl x33]) M5 _
                    refine zG_blk (c' := (102, [.inr (.inr (some 97)), .inl a1, .inl v4, .inl x31, .inl x33], [.inl x31, .inr (.inr (some 102)), .inl x33, .inl x31, .inr (.inr (some 102))])) 8 hd0 hz (by rfl) ?_
                    refine zG_iald hd0 hz rfl rfl (.inl rfl) (by omega) ?_
                    obtain ⟨x34, hx34⟩ : ∃ x : Int, x = M5 102 (x31 : Int).toNat := ⟨_, rfl⟩
                    rw [← hx34]
                    have hx34r : qin x34 := by rw [hx34]; exact hCM5.ra 102 _ (by decide) (by decide)
                    show zG n (0, 0) d 218 (103, [.inr (.inr (some 97)), .inl a1, .inl v4, .inl x31, .inl x33], [.inl x34, .inl x33, .inl x31, .inr (.inr (some 102))]) M5 _
                    have j117 : ∀ (v35 v36 : Int) , (-1) ≤ v35 ∧ v35 ≤ 13 → (-2147483648) ≤ v36 ∧ v36 ≤ 2147483647 → zG n (0, 0) d 218 (117, [.inr (.inr (some 97)), .inl a1, .inl v4, .inl x31, .inl x33], [.inl v36, .inl v35, .inr (.inr (some 102))]) M5 (fun v M' => qWf qMI [102, 103, 104] M M' ∧ qRn v) := by
                      intro v35 v36 hv35 hv36
                      refine zG_iast hd0 hz rfl rfl (by omega) ?_
                      obtain ⟨M37, hM37⟩ : ∃ X : zM, X = zput M5 102 (v35 : Int).toNat v36 := ⟨_, rfl⟩
                      rw [← hM37]
                      have hCM37 : qMI M37 := by rw [hM37]; exact hCM5.put (by decide) (by decide) (by decide) (by refine ⟨fun _ => ?_, fun _ => ?_, fun h => ?_, fun h => ?_, fun h => ?_⟩ <;> omega)
                      have hWM37 : qFr [102, 103, 104] M M37 := by rw [hM37]; exact hWM5.put (by decide)
                      have e38 : M37 98 4 = M5 98 4 := by rw [hM37]; exact qput_ne (by decide)
                      show zG n (0, 0) d 218 (118, [.inr (.inr (some 97)), .inl a1, .inl v4, .inl x31, .inl x33], []) M37 _
                      refine zG_blk (c' := (124, [.inr (.inr (some 97)), .inl a1, .inl v4, .inl x31, .inl x33], [.inl x31, .inr (.inr (some 103)), .inl x31, .inr (.inr (some 103))])) 4 hd0 hz (by rfl) ?_
                      refine zG_iald hd0 hz rfl rfl (.inl rfl) (by omega) ?_
                      obtain ⟨x39, hx39⟩ : ∃ x : Int, x = M37 103 (x31 : Int).toNat := ⟨_, rfl⟩
                      rw [← hx39]
                      have hx39r : qin x39 := by rw [hx39]; exact hCM37.ra 103 _ (by decide) (by decide)
                      show zG n (0, 0) d 218 (125, [.inr (.inr (some 97)), .inl a1, .inl v4, .inl x31, .inl x33], [.inl x39, .inl x31, .inr (.inr (some 103))]) M37 _
                      obtain ⟨x40, hx40⟩ : ∃ x : Int, x = w32 (x39 + 1) := ⟨_, rfl⟩
                      have hx40r : x40 = (x39 + 1 + 2147483648) % 4294967296 - 2147483648 := hx40
                      refine zG_blk (c' := (127, [.inr (.inr (some 97)), .inl a1, .inl v4, .inl x31, .inl x33], [.inl x40, .inl x31, .inr (.inr (some 103))])) 2 hd0 hz (by subst hx40; rfl) ?_
                      refine zG_iast hd0 hz rfl rfl (by omega) ?_
                      obtain ⟨M41, hM41⟩ : ∃ X : zM, X = zput M37 103 (x31 : Int).toNat x40 := ⟨_, rfl⟩
                      rw [← hM41]
                      have hCM41 : qMI M41 := by rw [hM41]; exact hCM37.put (by decide) (by decide) (by decide) (by refine ⟨fun _ => ?_, fun _ => ?_, fun h => ?_, fun h => ?_, fun h => ?_⟩ <;> omega)
                      have hWM41 : qFr [102, 103, 104] M M41 := by rw [hM41]; exact hWM37.put (by decide)
                      have e42 : M41 98 4 = M37 98 4 := by rw [hM41]; exact qput_ne (by decide)
                      show zG n (0, 0) d 218 (128, [.inr (.inr (some 97)), .inl a1, .inl v4, .inl x31, .inl x33], []) M41 _
                      refine zG_blk (c' := (172, [.inr (.inr (some 97)), .inl a1, .inl v4, .inl x31, .inl x33], [])) 1 hd0 hz (by rfl) ?_
                      exact zG_weak (j172 M41 hCM41 hWM41) ⟨.inr rfl, .inr rfl, .inr rfl, .inl rfl, .inl rfl, trivial⟩
                    refine zG_icmp_le hd0 hz rfl (fun hb43 => ?_) (fun hb43 => ?_)
                    · refine zG_blk (c' := (116, [.inr (.inr (some 97)), .inl a1, .inl v4, .inl x31, .inl x33], [.inl x31, .inr (.inr (some 102)), .inl x31, .inr (.inr (some 102))])) 3 hd0 hz (by rfl) ?_
                      refine zG_iald hd0 hz rfl rfl (.inl rfl) (by omega) ?_
                      obtain ⟨x44, hx44⟩ : ∃ x : Int, x = M5 102 (x31 : Int).toNat := ⟨_, rfl⟩
                      rw [← hx44]
                      have hx44r : qin x44 := by rw [hx44]; exact hCM5.ra 102 _ (by decide) (by decide)
                      show zG n (0, 0) d 218 (117, [.inr (.inr (some 97)), .inl a1, .inl v4, .inl x31, .inl x33], [.inl x44, .inl x31, .inr (.inr (some 102))]) M5 _
                      exact j117 x31 x44 (by omega) (by omega)
                    · refine zG_blk (c' := (117, [.inr (.inr (some 97)), .inl a1, .inl v4, .inl x31, .inl x33], [.inl x33, .inl x31, .inr (.inr (some 102))])) 2 hd0 hz (by rfl) ?_
                      exact j117 x31 x33 (by omega) (by omega)
        exact j37 ((250 - 0 : Int).toNat + 1) 0 M2 (by omega) (by omega) hCM2 hWM2
      · refine zG_blk (c' := (14, [.inr (.inr (some 97)), .inl a1, .inl v1, zN, zN], [.inl (-1), .inl v1, .inr (.inr (some 102))])) 4 hd0 hz (by rfl) ?_
        refine zG_iast hd0 hz rfl rfl (by omega) ?_
        obtain ⟨M45, hM45⟩ : ∃ X : zM, X = zput M2 102 (v1 : Int).toNat (-1) := ⟨_, rfl⟩
        rw [← hM45]
        have hCM45 : qMI M45 := by rw [hM45]; exact hCM2.put (by decide) (by decide) (by decide) (by refine ⟨fun _ => ?_, fun _ => ?_, fun h => ?_, fun h => ?_, fun h => ?_⟩ <;> omega)
        have hWM45 : qFr [102, 103, 104] M M45 := by rw [hM45]; exact hWM2.put (by decide)
        show zG n (0, 0) d 218 (15, [.inr (.inr (some 97)), .inl a1, .inl v1, zN, zN], []) M45 _
        refine zG_blk (c' := (21, [.inr (.inr (some 97)), .inl a1, .inl v1, zN, zN], [.inl 0, .inl v1, .inr (.inr (some 103))])) 4 hd0 hz (by rfl) ?_
        refine zG_iast hd0 hz rfl rfl (by omega) ?_
        obtain ⟨M46, hM46⟩ : ∃ X : zM, X = zput M45 103 (v1 : Int).toNat 0 := ⟨_, rfl⟩
        rw [← hM46]
        have hCM46 : qMI M46 := by rw [hM46]; exact hCM45.put (by decide) (by decide) (by decide) (by refine ⟨fun _ => ?_, fun _ => ?_, fun h => ?_, fun h => ?_, fun h => ?_⟩ <;> omega)
        have hWM46 : qFr [102, 103, 104] M M46 := by rw [hM46]; exact hWM45.put (by decide)
        show zG n (0, 0) d 218 (22, [.inr (.inr (some 97)), .inl a1, .inl v1, zN, zN], []) M46 _
        refine zG_blk (c' := (28, [.inr (.inr (some 97)), .inl a1, .inl v1, zN, zN], [.inl 0, .inl v1, .inr (.inr (some 104))])) 4 hd0 hz (by rfl) ?_
        refine zG_iast hd0 hz rfl rfl (by omega) ?_
        obtain ⟨M47, hM47⟩ : ∃ X : zM, X = zput M46 104 (v1 : Int).toNat 0 := ⟨_, rfl⟩
        rw [← hM47]
        have hCM47 : qMI M47 := by rw [hM47]; exact hCM46.put (by decide) (by decide) (by decide) (by refine ⟨fun _ => ?_, fun _ => ?_, fun h => ?_, fun h => ?_, fun h => ?_⟩ <;> omega)
        have hWM47 : qFr [102, 103, 104] M M47 := by rw [hM47]; exact hWM46.put (by decide)
        show zG n (0, 0) d 218 (29, [.inr (.inr (some 97)), .inl a1, .inl v1, zN, zN], []) M47 _
        obtain ⟨x48, hx48⟩ : ∃ x : Int, x = w32 (v1 + 1) := ⟨_, rfl⟩
        have hx48e : x48 = v1 + 1 := by rw [hx48]; exact w32_id (by omega)
        refine zG_blk (c' := (2, [.inr (.inr (some 97)), .inl a1, .inl x48, zN, zN], [])) 2 hd0 hz (by subst hx48; rfl) ?_
        exact ih2 x48 M47 (by omega) (by omega) hCM47 hWM47
  exact j2 ((14 - 0 : Int).toNat + 1) 0 M (by omega) (by omega) hC hW
theorem qm_219_97 {n d : Nat} {M : zM} (hd : 5 ≤ d) (hC : qMI M) (a1 : Int) (ha1 : (-2147483648) ≤ a1 ∧ a1 ≤ 2147483647) (a2 : Int) (ha2 : (-2147483648) ≤ a2 ∧ a2 ≤ 2147483647) (a3 : Int) (ha3 : (-2147483648) ≤ a3 ∧ a3 ≤ 2147483647) (a4 : Int) (ha4 : (-2147483648) ≤ a4 ∧ a4 ≤ 2147483647) : qOkM n d 219 [.inr (.inr (some 97)), .inl a1, .inl a2, .inl a3, .inl a4] 5 qMI [101, 102, 103, 104] M (qRi (fun x => (-2147483648) ≤ x ∧ x ≤ 2147483647)) := by
  have hz : zP 219 = (zk_X11_outcome, 5, (0, 0)) := rfl
  have hd0 : 0 < d := by omega
  have hW : qFr [101, 102, 103, 104] M M := qFr.rfl
  show zG n (0, 0) d 219 (0, [.inr (.inr (some 97)), .inl a1, .inl a2, .inl a3, .inl a4], []) M _
  refine zG_blk (c' := (3, [.inr (.inr (some 97)), .inl a1, .inl a2, .inl a3, .inl a4], [.inl a1, .inl 1, .inr (.inr (some 97))])) 3 hd0 hz (by rfl) ?_
  refine zG_call hd0 hz (rfl : zP 182 = (zk_X11_is, 3, (0, 0))) rfl rfl (Nat.le_of_ble_eq_true rfl) ⟨Nat.le_refl _, Nat.le_refl _⟩ (qx_is (by omega) hC  1 (by omega) a1 (by omega)) (fun vr M1 hr => ?_)
  obtain ⟨hq, x2, rfl, hx2⟩ := hr
  replace hq := hq.symm; subst hq
  show zG n (0, 0) d 219 (6, [.inr (.inr (some 97)), .inl a1, .inl a2, .inl a3, .inl a4], [.inl x2]) M _
  have j35 : zG n (0, 0) d 219 (35, [.inr (.inr (some 97)), .inl a1, .inl a2, .inl a3, .inl a4], []) M (fun v M' => qWf qMI [101, 102, 103, 104] M M' ∧ qRi (fun x => (-2147483648) ≤ x ∧ x ≤ 2147483647) v) := by
    refine zG_blk (c' := (37, [.inr (.inr (some 97)), .inl a1, .inl a2, .inl a3, .inl a4], [.inl (-2)])) 1 hd0 hz (by rfl) ?_
    exact zG_ret hd0 hz rfl rfl ⟨⟨hC, hW⟩, _, rfl, by omega⟩
  refine zG_if_eq hd0 hz rfl (fun hb3 => ?_) (fun hb3 => ?_)
  · exact j35
  · refine zG_blk (c' := (12, [.inr (.inr (some 97)), .inl a1, .inl a2, .inl a3, .inl a4], [.inl a2, .inl 0, .inr (.inr (some 97))])) 3 hd0 hz (by rfl) ?_
    refine zG_call hd0 hz (rfl : zP 182 = (zk_X11_is, 3, (0, 0))) rfl rfl (Nat.le_of_ble_eq_true rfl) ⟨Nat.le_refl _, Nat.le_refl _⟩ (qx_is (by omega) hC  0 (by omega) a2 (by omega)) (fun vr M4 hr => ?_)
    obtain ⟨hq, x5, rfl, hx5⟩ := hr
    replace hq := hq.symm; subst hq
    show zG n (0, 0) d 219 (15, [.inr (.inr (some 97)), .inl a1, .inl a2, .inl a3, .inl a4], [.inl x5]) M _
    refine zG_if_eq hd0 hz rfl (fun hb6 => ?_) (fun hb6 => ?_)
    · exact j35
    · refine zG_blk (c' := (19, [.inr (.inr (some 97)), .inl a1, .inl a2, .inl a3, .inl a4], [.inl a3])) 1 hd0 hz (by rfl) ?_
      refine zG_call hd0 hz (rfl : zP 184 = (zk_X11_isDay, 1, (0, 0))) rfl rfl (Nat.le_of_ble_eq_true rfl) ⟨Nat.le_refl _, Nat.le_refl _⟩ (qm_184 (by omega) hC  a3 (by omega)) (fun vr M7 hr => ?_)
      obtain ⟨hq, x8, rfl, hx8⟩ := hr
      replace hq := hq.symm; subst hq
      show zG n (0, 0) d 219 (22, [.inr (.inr (some 97)), .inl a1, .inl a2, .inl a3, .inl a4], [.inl x8]) M _
      refine zG_if_eq hd0 hz rfl (fun hb9 => ?_) (fun hb9 => ?_)
      · exact j35
      · refine zG_blk (c' := (29, [.inr (.inr (some 97)), .inl a1, .inl a2, .inl a3, .inl a4], [.inl 2, .inl 0, .inl a4])) 3 hd0 hz (by rfl) ?_
        refine zG_call hd0 hz (rfl : zP 180 = (zk_X11_in, 3, (0, 0))) rfl rfl (Nat.le_of_ble_eq_true rfl) ⟨Nat.le_refl _, Nat.le_refl _⟩ (qx_in (by omega) hC  a4 (by omega) 0 (by omega) 2 (by omega)) (fun vr M10 hr => ?_)
        obtain ⟨hq, x11, rfl, hx11⟩ := hr
        replace hq := hq.symm; subst hq
        show zG n (0, 0) d 219 (32, [.inr (.inr (some 97)), .inl a1, .inl a2, .inl a3, .inl a4], [.inl x11]) M _
        refine zG_if_ne hd0 hz rfl (fun hb12 => ?_) (fun hb12 => ?_)
        · refine zG_blk (c' := (40, [.inr (.inr (some 97)), .inl a1, .inl a2, .inl a3, .inl a4], [.inl a3, .inr (.inr (some 97))])) 2 hd0 hz (by rfl) ?_
          refine zG_call hd0 hz (rfl : zP 211 = (zk_X11_finds, 3, (0, 0))) rfl rfl (Nat.le_of_ble_eq_true rfl) ⟨Nat.le_refl _, Nat.le_refl _⟩ (qm_211_97 (by omega) hC  a3 (by omega)) (fun vr M13 hr => ?_)
          obtain ⟨⟨hCM13, hFM13⟩, rfl⟩ := hr
          have hWM13 : qFr [101, 102, 103, 104] M M13 := hW.tr hFM13 (by decide)
          show zG n (0, 0) d 219 (43, [.inr (.inr (some 97)), .inl a1, .inl a2, .inl a3, .inl a4], []) M13 _
          refine zG_blk (c' := (45, [.inr (.inr (some 97)), .inl a1, .inl a2, .inl a3, .inl a4], [.inl a1, .inr (.inr (some 97))])) 2 hd0 hz (by rfl) ?_
          refine zG_call hd0 hz (rfl : zP 218 = (zk_X11_findCourses, 5, (0, 0))) rfl rfl (Nat.le_of_ble_eq_true rfl) ⟨Nat.le_refl _, Nat.le_refl _⟩ (qm_218_97 (by omega) hCM13  a1 (by omega)) (fun vr M15 hr => ?_)
          obtain ⟨⟨hCM15, hFM15⟩, rfl⟩ := hr
          have hWM15 : qFr [101, 102, 103, 104] M M15 := hWM13.tr hFM15 (by decide)
          show zG n (0, 0) d 219 (48, [.inr (.inr (some 97)), .inl a1, .inl a2, .inl a3, .inl a4], []) M15 _
          refine zG_blk (c' := (50, [.inr (.inr (some 97)), .inl a1, .inl a2, .inl a3, .inl a4], [.inl a4])) 1 hd0 hz (by rfl) ?_
          have j83 : ∀ (v17 : Int) , (-2147483648) ≤ v17 ∧ v17 ≤ 2147483647 → zG n (0, 0) d 219 (83, [.inr (.inr (some 97)), .inl a1, .inl a2, .inl a3, .inl a4], [.inl v17]) M15 (fun v M' => qWf qMI [101, 102, 103, 104] M M' ∧ qRi (fun x => (-2147483648) ≤ x ∧ x ≤ 2147483647) v) := by
            intro v17 hv17
            exact zG_ret hd0 hz rfl rfl ⟨⟨hCM15, hWM15⟩, _, rfl, by omega⟩
          refine zG_if_ne hd0 hz rfl (fun hb18 => ?_) (fun hb18 => ?_)
          · refine zG_blk (c' := (65, [.inr (.inr (some 97)), .inl a1, .inl a2, .inl a3, .inl a4], [.inl 1, .inl a4])) 2 hd0 hz (by rfl) ?_
            refine zG_icmp_ne hd0 hz rfl (fun hb19 => ?_) (fun hb19 => ?_)
            · refine zG_blk (c' := (82, [.inr (.inr (some 97)), .inl a1, .inl a2, .inl a3, .inl a4], [.inl a2, .inr (.inr (some 104))])) 3 hd0 hz (by rfl) ?_
              refine zG_iald hd0 hz rfl rfl (.inl rfl) (by omega) ?_
              obtain ⟨x20, hx20⟩ : ∃ x : Int, x = M15 104 (a2 : Int).toNat := ⟨_, rfl⟩
              rw [← hx20]
              have hx20r : qin x20 := by rw [hx20]; exact hCM15.ra 104 _ (by decide) (by decide)
              show zG n (0, 0) d 219 (83, [.inr (.inr (some 97)), .inl a1, .inl a2, .inl a3, .inl a4], [.inl x20]) M15 _
              exact j83 x20 (by omega)
            · refine zG_blk (c' := (73, [.inr (.inr (some 97)), .inl a1, .inl a2, .inl a3, .inl a4], [.inl a2, .inr (.inr (some 103))])) 3 hd0 hz (by rfl) ?_
              refine zG_iald hd0 hz rfl rfl (.inl rfl) (by omega) ?_
              obtain ⟨x21, hx21⟩ : ∃ x : Int, x = M15 103 (a2 : Int).toNat := ⟨_, rfl⟩
              rw [← hx21]
              have hx21r : qin x21 := by rw [hx21]; exact hCM15.ra 103 _ (by decide) (by decide)
              show zG n (0, 0) d 219 (74, [.inr (.inr (some 97)), .inl a1, .inl a2, .inl a3, .inl a4], [.inl x21]) M15 _
              refine zG_blk (c' := (83, [.inr (.inr (some 97)), .inl a1, .inl a2, .inl a3, .inl a4], [.inl x21])) 1 hd0 hz (by rfl) ?_
              exact j83 x21 (by omega)
          · refine zG_blk (c' := (58, [.inr (.inr (some 97)), .inl a1, .inl a2, .inl a3, .inl a4], [.inl a2, .inr (.inr (some 102))])) 3 hd0 hz (by rfl) ?_
            refine zG_iald hd0 hz rfl rfl (.inl rfl) (by omega) ?_
            obtain ⟨x22, hx22⟩ : ∃ x : Int, x = M15 102 (a2 : Int).toNat := ⟨_, rfl⟩
            rw [← hx22]
            have hx22r : qin x22 := by rw [hx22]; exact hCM15.ra 102 _ (by decide) (by decide)
            show zG n (0, 0) d 219 (59, [.inr (.inr (some 97)), .inl a1, .inl a2, .inl a3, .inl a4], [.inl x22]) M15 _
            refine zG_blk (c' := (83, [.inr (.inr (some 97)), .inl a1, .inl a2, .inl a3, .inl a4], [.inl x22])) 1 hd0 hz (by rfl) ?_
            exact j83 x22 (by omega)
        · exact j35
