/-! THE MODEL'S METHODS, BY PROGRAM -/
theorem qm_258_97 {n d : Nat} {M : zM} (hd : 3 ≤ d) (hC : qMI M)  (a1 : Int) (ha1 : (-2147483648) ≤ a1 ∧ a1 ≤ 2147483647) (a2 : Int) (ha2 : (-2147483648) ≤ a2 ∧ a2 ≤ 2147483647) : qOkN n d 258 [.inr (.inr (some 97)), .inl a1, .inl a2] 4 [98] M (fun v M' => ∃ x : Int, v = some (.inl x) ∧ ((-2147483648) ≤ x ∧ x ≤ 2147483647) ∧ (M' 98 6 = M 98 6)) := by
  have hz : zP 258 = (zk_X11_choose, 4, (0, 0)) := rfl
  have hd0 : 0 < d := by omega
  have hW : qFm [98] M M := qFm.rfl
  have r1 := hC.cnt6
  have r2 := hC.cnt1
  have r3 := hC.cnt5
  show zG n (0, 0) d 258 (0, [.inr (.inr (some 97)), .inl a1, .inl a2, zN], []) M _
  refine zG_blk (c' := (3, [.inr (.inr (some 97)), .inl a1, .inl a2, zN], [.inl a1, .inl 1, .inr (.inr (some 97))])) 3 hd0 hz (by rfl) ?_
  refine zG_call hd0 hz (rfl : zP 182 = (zk_X11_is, 3, (0, 0))) rfl rfl (Nat.le_of_ble_eq_true rfl) ⟨Nat.le_refl _, Nat.le_refl _⟩ (qx_is (by omega) hC   1 (by omega) a1 (by omega) ) (fun vr M4 hr => ?_)
  obtain ⟨hq, x5, rfl, hx5⟩ := hr
  replace hq := hq.symm; subst hq
  show zG n (0, 0) d 258 (6, [.inr (.inr (some 97)), .inl a1, .inl a2, zN], [.inl x5]) M _
  have j23 : zG n (0, 0) d 258 (23, [.inr (.inr (some 97)), .inl a1, .inl a2, zN], []) M (fun v M' => (qMI M' ∧ qFm [98] M M') ∧ ∃ x : Int, v = some (.inl x) ∧ ((-2147483648) ≤ x ∧ x ≤ 2147483647) ∧ (M' 98 6 = M 98 6)) := by
    refine zG_blk (c' := (25, [.inr (.inr (some 97)), .inl a1, .inl a2, zN], [.inl (-10)])) 1 hd0 hz (by rfl) ?_
    exact zG_ret hd0 hz rfl rfl ⟨⟨hC, hW⟩, _, rfl, by omega, by omega⟩
  refine zG_if_eq hd0 hz rfl (fun hb6 => ?_) (fun hb6 => ?_)
  · exact j23
  · refine zG_blk (c' := (11, [.inr (.inr (some 97)), .inl a1, .inl a2, zN], [.inl (-1), .inl a2])) 2 hd0 hz (by rfl) ?_
    have j26 : (a2 = -1 ∨ (0 ≤ a2 ∧ a2 < M 98 5)) → zG n (0, 0) d 258 (26, [.inr (.inr (some 97)), .inl a1, .inl a2, zN], []) M (fun v M' => (qMI M' ∧ qFm [98] M M') ∧ ∃ x : Int, v = some (.inl x) ∧ ((-2147483648) ≤ x ∧ x ≤ 2147483647) ∧ (M' 98 6 = M 98 6)) := by
      intro hx0_26
      obtain ⟨x7, hx7⟩ : ∃ x : Int, x = w32 (3 * a1) := ⟨_, rfl⟩
      have hx7e : x7 = 3 * a1 := by rw [hx7]; exact w32_id (by omega)
      obtain ⟨x8, hx8⟩ : ∃ x : Int, x = w32 (80 + x7) := ⟨_, rfl⟩
      have hx8e : x8 = 80 + x7 := by rw [hx8]; exact w32_id (by omega)
      obtain ⟨x9, hx9⟩ : ∃ x : Int, x = w32 (x8 + 1) := ⟨_, rfl⟩
      have hx9e : x9 = x8 + 1 := by rw [hx9]; exact w32_id (by omega)
      refine zG_blk (c' := (38, [.inr (.inr (some 97)), .inl a1, .inl a2, zN], [.inl x9, .inr (.inr (some 98))])) 9 hd0 hz (by subst hx9; subst hx8; subst hx7; rfl) ?_
      refine zG_iald hd0 hz rfl rfl (.inl rfl) (by omega) ?_
      obtain ⟨x10, hx10⟩ : ∃ x : Int, x = M 98 (x9 : Int).toNat := ⟨_, rfl⟩
      rw [← hx10]
      have hx10r : qin x10 := by rw [hx10]; exact hC.sin _
      show zG n (0, 0) d 258 (39, [.inr (.inr (some 97)), .inl a1, .inl a2, zN], [.inl x10]) M _
      obtain ⟨x11, hx11⟩ : ∃ x : Int, x = w32 (3 * a1) := ⟨_, rfl⟩
      have hx11e : x11 = 3 * a1 := by rw [hx11]; exact w32_id (by omega)
      obtain ⟨x12, hx12⟩ : ∃ x : Int, x = w32 (80 + x11) := ⟨_, rfl⟩
      have hx12e : x12 = 80 + x11 := by rw [hx12]; exact w32_id (by omega)
      obtain ⟨x13, hx13⟩ : ∃ x : Int, x = w32 (x12 + 1) := ⟨_, rfl⟩
      have hx13e : x13 = x12 + 1 := by rw [hx13]; exact w32_id (by omega)
      refine zG_blk (c' := (53, [.inr (.inr (some 97)), .inl a1, .inl a2, .inl x10], [.inl a2, .inl x13, .inr (.inr (some 98))])) 11 hd0 hz (by subst hx13; subst hx12; subst hx11; rfl) ?_
      refine zG_iast hd0 hz rfl rfl (by omega) ?_
      obtain ⟨M14, hM14⟩ : ∃ X : zM, X = zput M 98 (x13 : Int).toNat a2 := ⟨_, rfl⟩
      rw [← hM14]
      have hCM14 : qMI M14 := by rw [hM14]; exact hC.put98' (by refine ⟨by omega, fun _ => by omega, fun _ => by omega, fun _ => by omega, fun _ => by omega, fun _ => by omega, fun _ => by omega, fun _ => by omega, fun c9 hc9 _ => by omega, fun u9 hu9 _ => by omega, fun m9 hm9 _ => by omega, fun a9 ha9 => ⟨fun _ => by omega, fun _ => by omega, fun _ => by omega, fun _ => by omega⟩, fun t9 ht9 _ => by omega, fun o9 ho9 _ => by omega⟩) (by omega) (by omega)
      have hWM14 : qFm [98] M M14 := by rw [hM14]; exact hW.pa (by decide) (by decide)
      have e15 : M14 98 6 = M 98 6 := by rw [hM14]; exact qput_nk (by omega)
      have e16 : M14 98 1 = M 98 1 := by rw [hM14]; exact qput_nk (by omega)
      have e17 : M14 98 5 = M 98 5 := by rw [hM14]; exact qput_nk (by omega)
      show zG n (0, 0) d 258 (54, [.inr (.inr (some 97)), .inl a1, .inl a2, .inl x10], []) M14 _
      refine zG_blk (c' := (55, [.inr (.inr (some 97)), .inl a1, .inl a2, .inl x10], [.inl x10])) 1 hd0 hz (by rfl) ?_
      exact zG_ret hd0 hz rfl rfl ⟨⟨hCM14, hWM14⟩, _, rfl, by omega, by omega⟩
    refine zG_icmp_eq hd0 hz rfl (fun hb18 => ?_) (fun hb18 => ?_)
    · exact j26 (by omega)
    · refine zG_blk (c' := (17, [.inr (.inr (some 97)), .inl a1, .inl a2, zN], [.inl a2, .inl 5, .inr (.inr (some 97))])) 3 hd0 hz (by rfl) ?_
      refine zG_call hd0 hz (rfl : zP 182 = (zk_X11_is, 3, (0, 0))) rfl rfl (Nat.le_of_ble_eq_true rfl) ⟨Nat.le_refl _, Nat.le_refl _⟩ (qx_is (by omega) hC   5 (by omega) a2 (by omega) ) (fun vr M19 hr => ?_)
      obtain ⟨hq, x20, rfl, hx20⟩ := hr
      replace hq := hq.symm; subst hq
      show zG n (0, 0) d 258 (20, [.inr (.inr (some 97)), .inl a1, .inl a2, zN], [.inl x20]) M _
      refine zG_if_ne hd0 hz rfl (fun hb21 => ?_) (fun hb21 => ?_)
      · exact j26 (by omega)
      · exact j23
theorem qm_271_97 {n d : Nat} {M : zM} (hd : 3 ≤ d) (hC : qMI M)  (a1 : Int) (ha1 : (-2147483648) ≤ a1 ∧ a1 ≤ 2147483647) (a2 : Int) (ha2 : (-2147483648) ≤ a2 ∧ a2 ≤ 2147483647) (a3 : Int) (ha3 : 0 ≤ a3 ∧ a3 ≤ 1) : qOkN n d 271 [.inr (.inr (some 97)), .inl a1, .inl a2, .inl a3] 5 [98] M (fun v M' => ∃ x : Int, v = some (.inl x) ∧ ((-3) ≤ x ∧ x ≤ 1) ∧ (M' 98 6 = M 98 6)) := by
  have hz : zP 271 = (zk_X11_sits, 5, (0, 0)) := rfl
  have hd0 : 0 < d := by omega
  have hW : qFm [98] M M := qFm.rfl
  have r1 := hC.cnt6
  have r2 := hC.cnt1
  have r3 := hC.cnt0
  show zG n (0, 0) d 271 (0, [.inr (.inr (some 97)), .inl a1, .inl a2, .inl a3, zN], []) M _
  refine zG_blk (c' := (3, [.inr (.inr (some 97)), .inl a1, .inl a2, .inl a3, zN], [.inl a1, .inl 1, .inr (.inr (some 97))])) 3 hd0 hz (by rfl) ?_
  refine zG_call hd0 hz (rfl : zP 182 = (zk_X11_is, 3, (0, 0))) rfl rfl (Nat.le_of_ble_eq_true rfl) ⟨Nat.le_refl _, Nat.le_refl _⟩ (qx_is (by omega) hC   1 (by omega) a1 (by omega) ) (fun vr M4 hr => ?_)
  obtain ⟨hq, x5, rfl, hx5⟩ := hr
  replace hq := hq.symm; subst hq
  show zG n (0, 0) d 271 (6, [.inr (.inr (some 97)), .inl a1, .inl a2, .inl a3, zN], [.inl x5]) M _
  have j18 : zG n (0, 0) d 271 (18, [.inr (.inr (some 97)), .inl a1, .inl a2, .inl a3, zN], []) M (fun v M' => (qMI M' ∧ qFm [98] M M') ∧ ∃ x : Int, v = some (.inl x) ∧ ((-3) ≤ x ∧ x ≤ 1) ∧ (M' 98 6 = M 98 6)) := by
    refine zG_blk (c' := (20, [.inr (.inr (some 97)), .inl a1, .inl a2, .inl a3, zN], [.inl (-2)])) 1 hd0 hz (by rfl) ?_
    exact zG_ret hd0 hz rfl rfl ⟨⟨hC, hW⟩, _, rfl, by omega, by omega⟩
  refine zG_if_eq hd0 hz rfl (fun hb6 => ?_) (fun hb6 => ?_)
  · exact j18
  · refine zG_blk (c' := (12, [.inr (.inr (some 97)), .inl a1, .inl a2, .inl a3, zN], [.inl a2, .inl 0, .inr (.inr (some 97))])) 3 hd0 hz (by rfl) ?_
    refine zG_call hd0 hz (rfl : zP 182 = (zk_X11_is, 3, (0, 0))) rfl rfl (Nat.le_of_ble_eq_true rfl) ⟨Nat.le_refl _, Nat.le_refl _⟩ (qx_is (by omega) hC   0 (by omega) a2 (by omega) ) (fun vr M7 hr => ?_)
    obtain ⟨hq, x8, rfl, hx8⟩ := hr
    replace hq := hq.symm; subst hq
    show zG n (0, 0) d 271 (15, [.inr (.inr (some 97)), .inl a1, .inl a2, .inl a3, zN], [.inl x8]) M _
    refine zG_if_ne hd0 hz rfl (fun hb9 => ?_) (fun hb9 => ?_)
    · obtain ⟨x10, hx10⟩ : ∃ x : Int, x = w32 (3 * a1) := ⟨_, rfl⟩
      have hx10e : x10 = 3 * a1 := by rw [hx10]; exact w32_id (by omega)
      obtain ⟨x11, hx11⟩ : ∃ x : Int, x = w32 (80 + x10) := ⟨_, rfl⟩
      have hx11e : x11 = 80 + x10 := by rw [hx11]; exact w32_id (by omega)
      obtain ⟨x12, hx12⟩ : ∃ x : Int, x = w32 (x11 + 2) := ⟨_, rfl⟩
      have hx12e : x12 = x11 + 2 := by rw [hx12]; exact w32_id (by omega)
      refine zG_blk (c' := (37, [.inr (.inr (some 97)), .inl a1, .inl a2, .inl a3, .inl x12], [.inl x12, .inr (.inr (some 98))])) 11 hd0 hz (by subst hx12; subst hx11; subst hx10; rfl) ?_
      refine zG_iald hd0 hz rfl rfl (.inl rfl) (by omega) ?_
      obtain ⟨x13, hx13⟩ : ∃ x : Int, x = M 98 (x12 : Int).toNat := ⟨_, rfl⟩
      rw [← hx13]
      have hx13r : qin x13 := by rw [hx13]; exact hC.sin _
      show zG n (0, 0) d 271 (38, [.inr (.inr (some 97)), .inl a1, .inl a2, .inl a3, .inl x12], [.inl x13]) M _
      obtain ⟨x14, hx14⟩ : ∃ x : Int, x = zbshr x13 a2 := ⟨_, rfl⟩
      have hx14r : qin x14 := by rw [hx14]; exact qb32 _
      obtain ⟨x15, hx15⟩ : ∃ x : Int, x = zband x14 1 := ⟨_, rfl⟩
      have hx15r := qband_r x14 1 (by omega) (by omega); rw [← hx15] at hx15r
      have hx15l : 0 ≤ x14 → x15 ≤ x14 := fun h9 => by rw [hx15]; exact (qband_l x14 1 ⟨h9, by omega⟩ (by omega)).2
      refine zG_blk (c' := (43, [.inr (.inr (some 97)), .inl a1, .inl a2, .inl a3, .inl x12], [.inl 1, .inl x15])) 5 hd0 hz (by subst hx15; subst hx14; rfl) ?_
      have j51 : ∀ (v16 : Int) , 0 ≤ v16 ∧ v16 ≤ 1 → zG n (0, 0) d 271 (51, [.inr (.inr (some 97)), .inl a1, .inl a2, .inl a3, .inl x12], [.inl v16]) M (fun v M' => (qMI M' ∧ qFm [98] M M') ∧ ∃ x : Int, v = some (.inl x) ∧ ((-3) ≤ x ∧ x ≤ 1) ∧ (M' 98 6 = M 98 6)) := by
        intro v16 hv16
        refine zG_blk (c' := (52, [.inr (.inr (some 97)), .inl a1, .inl a2, .inl a3, .inl x12], [.inl a3, .inl v16])) 1 hd0 hz (by rfl) ?_
        refine zG_icmp_ne hd0 hz rfl (fun hb17 => ?_) (fun hb17 => ?_)
        · refine zG_blk (c' := (65, [.inr (.inr (some 97)), .inl a1, .inl a2, .inl a3, .inl x12], [.inl a3, .inl x12, .inr (.inr (some 98))])) 4 hd0 hz (by rfl) ?_
          have j95 : ∀ (v18 : Int) , (-2147483648) ≤ v18 ∧ v18 ≤ 2147483647 → zG n (0, 0) d 271 (95, [.inr (.inr (some 97)), .inl a1, .inl a2, .inl a3, .inl x12], [.inl v18, .inl x12, .inr (.inr (some 98))]) M (fun v M' => (qMI M' ∧ qFm [98] M M') ∧ ∃ x : Int, v = some (.inl x) ∧ ((-3) ≤ x ∧ x ≤ 1) ∧ (M' 98 6 = M 98 6)) := by
            intro v18 hv18
            refine zG_iast hd0 hz rfl rfl (by omega) ?_
            obtain ⟨M19, hM19⟩ : ∃ X : zM, X = zput M 98 (x12 : Int).toNat v18 := ⟨_, rfl⟩
            rw [← hM19]
            have hCM19 : qMI M19 := by rw [hM19]; exact hC.put98' (by refine ⟨by omega, fun _ => by omega, fun _ => by omega, fun _ => by omega, fun _ => by omega, fun _ => by omega, fun _ => by omega, fun _ => by omega, fun c9 hc9 _ => by omega, fun u9 hu9 _ => by omega, fun m9 hm9 _ => by omega, fun a9 ha9 => ⟨fun _ => by omega, fun _ => by omega, fun _ => by omega, fun _ => by omega⟩, fun t9 ht9 _ => by omega, fun o9 ho9 _ => by omega⟩) (by omega) (by omega)
            have hWM19 : qFm [98] M M19 := by rw [hM19]; exact hW.pa (by decide) (by decide)
            have e20 : M19 98 6 = M 98 6 := by rw [hM19]; exact qput_nk (by omega)
            have e21 : M19 98 1 = M 98 1 := by rw [hM19]; exact qput_nk (by omega)
            have e22 : M19 98 0 = M 98 0 := by rw [hM19]; exact qput_nk (by omega)
            show zG n (0, 0) d 271 (96, [.inr (.inr (some 97)), .inl a1, .inl a2, .inl a3, .inl x12], []) M19 _
            refine zG_blk (c' := (97, [.inr (.inr (some 97)), .inl a1, .inl a2, .inl a3, .inl x12], [.inl 1])) 1 hd0 hz (by rfl) ?_
            exact zG_ret hd0 hz rfl rfl ⟨⟨hCM19, hWM19⟩, _, rfl, by omega, by omega⟩
          refine zG_if_eq hd0 hz rfl (fun hb23 => ?_) (fun hb23 => ?_)
          · refine zG_blk (c' := (88, [.inr (.inr (some 97)), .inl a1, .inl a2, .inl a3, .inl x12], [.inl x12, .inr (.inr (some 98)), .inl x12, .inr (.inr (some 98))])) 3 hd0 hz (by rfl) ?_
            refine zG_iald hd0 hz rfl rfl (.inl rfl) (by omega) ?_
            obtain ⟨x24, hx24⟩ : ∃ x : Int, x = M 98 (x12 : Int).toNat := ⟨_, rfl⟩
            rw [← hx24]
            have hx24r : qin x24 := by rw [hx24]; exact hC.sin _
            show zG n (0, 0) d 271 (89, [.inr (.inr (some 97)), .inl a1, .inl a2, .inl a3, .inl x12], [.inl x24, .inl x12, .inr (.inr (some 98))]) M _
            obtain ⟨x25, hx25⟩ : ∃ x : Int, x = zbshl 1 a2 := ⟨_, rfl⟩
            have hx25r := qshl1_in a2 8192 13 (by decide) (by decide) (by omega); rw [← hx25] at hx25r
            obtain ⟨x26, hx26⟩ : ∃ x : Int, x = zbxor x25 (-1) := ⟨_, rfl⟩
            have hx26r : qin x26 := by rw [hx26]; exact qb32 _
            obtain ⟨x27, hx27⟩ : ∃ x : Int, x = zband x24 x26 := ⟨_, rfl⟩
            have hx27r : qin x27 := by rw [hx27]; exact qb32 _
            refine zG_blk (c' := (95, [.inr (.inr (some 97)), .inl a1, .inl a2, .inl a3, .inl x12], [.inl x27, .inl x12, .inr (.inr (some 98))])) 6 hd0 hz (by subst hx27; subst hx26; subst hx25; rfl) ?_
            exact j95 x27 (by omega)
          · refine zG_blk (c' := (74, [.inr (.inr (some 97)), .inl a1, .inl a2, .inl a3, .inl x12], [.inl x12, .inr (.inr (some 98)), .inl x12, .inr (.inr (some 98))])) 3 hd0 hz (by rfl) ?_
            refine zG_iald hd0 hz rfl rfl (.inl rfl) (by omega) ?_
            obtain ⟨x28, hx28⟩ : ∃ x : Int, x = M 98 (x12 : Int).toNat := ⟨_, rfl⟩
            rw [← hx28]
            have hx28r : qin x28 := by rw [hx28]; exact hC.sin _
            show zG n (0, 0) d 271 (75, [.inr (.inr (some 97)), .inl a1, .inl a2, .inl a3, .inl x12], [.inl x28, .inl x12, .inr (.inr (some 98))]) M _
            obtain ⟨x29, hx29⟩ : ∃ x : Int, x = zbshl 1 a2 := ⟨_, rfl⟩
            have hx29r := qshl1_in a2 8192 13 (by decide) (by decide) (by omega); rw [← hx29] at hx29r
            obtain ⟨x30, hx30⟩ : ∃ x : Int, x = zbor x28 x29 := ⟨_, rfl⟩
            have hx30r : qin x30 := by rw [hx30]; exact qb32 _
            refine zG_blk (c' := (95, [.inr (.inr (some 97)), .inl a1, .inl a2, .inl a3, .inl x12], [.inl x30, .inl x12, .inr (.inr (some 98))])) 5 hd0 hz (by subst hx30; subst hx29; rfl) ?_
            exact j95 x30 (by omega)
        · refine zG_blk (c' := (57, [.inr (.inr (some 97)), .inl a1, .inl a2, .inl a3, .inl x12], [.inl (-3)])) 1 hd0 hz (by rfl) ?_
          exact zG_ret hd0 hz rfl rfl ⟨⟨hC, hW⟩, _, rfl, by omega, by omega⟩
      refine zG_icmp_ne hd0 hz rfl (fun hb31 => ?_) (fun hb31 => ?_)
      · refine zG_blk (c' := (51, [.inr (.inr (some 97)), .inl a1, .inl a2, .inl a3, .inl x12], [.inl 0])) 1 hd0 hz (by rfl) ?_
        exact j51 0 (by omega)
      · refine zG_blk (c' := (51, [.inr (.inr (some 97)), .inl a1, .inl a2, .inl a3, .inl x12], [.inl 1])) 2 hd0 hz (by rfl) ?_
        exact j51 1 (by omega)
    · exact j18
theorem qm_285_97 {n d : Nat} {M : zM} (hd : 2 ≤ d) (hC : qMI M)  (a1 : Int) (ha1 : (-2147483648) ≤ a1 ∧ a1 ≤ 2147483647) : qOkN n d 285 [.inr (.inr (some 97)), .inl a1] 3 [98] M (fun v M' => ∃ x : Int, v = some (.inl x) ∧ ((-2147483648) ≤ x ∧ x ≤ 2147483647) ∧ (M' 98 6 = M 98 6)) := by
  have hz : zP 285 = (zk_X11_odds, 3, (0, 0)) := rfl
  have hd0 : 0 < d := by omega
  have hW : qFm [98] M M := qFm.rfl
  have r1 := hC.cnt6
  show zG n (0, 0) d 285 (0, [.inr (.inr (some 97)), .inl a1, zN], []) M _
  refine zG_blk (c' := (5, [.inr (.inr (some 97)), .inl a1, zN], [.inl 10000, .inl 1, .inl a1])) 3 hd0 hz (by rfl) ?_
  refine zG_call hd0 hz (rfl : zP 180 = (zk_X11_in, 3, (0, 0))) rfl rfl (Nat.le_of_ble_eq_true rfl) ⟨Nat.le_refl _, Nat.le_refl _⟩ (qx_in (by omega) hC   a1 (by omega) 1 (by omega) 10000 (by omega) ) (fun vr M2 hr => ?_)
  obtain ⟨hq, x3, rfl, hx3⟩ := hr
  replace hq := hq.symm; subst hq
  show zG n (0, 0) d 285 (8, [.inr (.inr (some 97)), .inl a1, zN], [.inl x3]) M _
  refine zG_if_ne hd0 hz rfl (fun hb4 => ?_) (fun hb4 => ?_)
  · refine zG_blk (c' := (20, [.inr (.inr (some 97)), .inl a1, zN], [.inl 8, .inr (.inr (some 98))])) 3 hd0 hz (by rfl) ?_
    refine zG_iald hd0 hz rfl rfl (.inl rfl) (by omega) ?_
    have r5 := hC.sin 8
    show zG n (0, 0) d 285 (21, [.inr (.inr (some 97)), .inl a1, zN], [.inl (M 98 8)]) M _
    refine zG_blk (c' := (29, [.inr (.inr (some 97)), .inl a1, .inl (M 98 8)], [.inl a1, .inl 8, .inr (.inr (some 98))])) 5 hd0 hz (by rfl) ?_
    refine zG_iast hd0 hz rfl rfl (by omega) ?_
    obtain ⟨M6, hM6⟩ : ∃ X : zM, X = zput M 98 (8 : Int).toNat a1 := ⟨_, rfl⟩
    rw [← hM6]
    have hCM6 : qMI M6 := by rw [hM6]; exact hC.put98' (by refine ⟨by omega, fun _ => by omega, fun _ => by omega, fun _ => by omega, fun _ => by omega, fun _ => by omega, fun _ => by omega, fun _ => by omega, fun c9 hc9 _ => by omega, fun u9 hu9 _ => by omega, fun m9 hm9 _ => by omega, fun a9 ha9 => ⟨fun _ => by omega, fun _ => by omega, fun _ => by omega, fun _ => by omega⟩, fun t9 ht9 _ => by omega, fun o9 ho9 _ => by omega⟩) (by omega) (by omega)
    have hWM6 : qFm [98] M M6 := by rw [hM6]; exact hW.pa (by decide) (by decide)
    have e7 : M6 98 6 = M 98 6 := by rw [hM6]; exact qput_nk (by omega)
    show zG n (0, 0) d 285 (30, [.inr (.inr (some 97)), .inl a1, .inl (M 98 8)], []) M6 _
    refine zG_blk (c' := (31, [.inr (.inr (some 97)), .inl a1, .inl (M 98 8)], [.inl (M 98 8)])) 1 hd0 hz (by rfl) ?_
    exact zG_ret hd0 hz rfl rfl ⟨⟨hCM6, hWM6⟩, _, rfl, by omega, by omega⟩
  · refine zG_blk (c' := (13, [.inr (.inr (some 97)), .inl a1, zN], [.inl (-2)])) 1 hd0 hz (by rfl) ?_
    exact zG_ret hd0 hz rfl rfl ⟨⟨hC, hW⟩, _, rfl, by omega, by omega⟩
theorem qm_286_97 {n d : Nat} {M : zM} (hd : 2 ≤ d) (hC : qMI M)  (a1 : Int) (ha1 : (-2147483648) ≤ a1 ∧ a1 ≤ 2147483647) (a2 : Int) (ha2 : (-2147483648) ≤ a2 ∧ a2 ≤ 2147483647) : qOkN n d 286 [.inr (.inr (some 97)), .inl a1, .inl a2] 3 [98] M (fun v M' => ∃ x : Int, v = some (.inl x) ∧ ((-2147483648) ≤ x ∧ x ≤ 2147483647) ∧ ((x < 0 ∧ M' 98 6 = M 98 6 ∧ (x = -4 → M 98 6 = 12) ∧ (x = -2 → ¬ (0 ≤ a1 ∧ a1 ≤ 1000 ∧ 0 ≤ a2 ∧ a2 ≤ 1000))) ∨ ((0 ≤ a1 ∧ a1 ≤ 1000 ∧ 0 ≤ a2 ∧ a2 ≤ 1000) ∧ M 98 6 < 12 ∧ x = M 98 6 + 1 ∧ M' 98 6 = M 98 6 + 1))) := by
  have hz : zP 286 = (zk_X11_line, 3, (0, 0)) := rfl
  have hd0 : 0 < d := by omega
  have hW : qFm [98] M M := qFm.rfl
  have r1 := hC.cnt6
  show zG n (0, 0) d 286 (0, [.inr (.inr (some 97)), .inl a1, .inl a2], []) M _
  refine zG_blk (c' := (5, [.inr (.inr (some 97)), .inl a1, .inl a2], [.inl 1000, .inl 0, .inl a1])) 3 hd0 hz (by rfl) ?_
  refine zG_call hd0 hz (rfl : zP 180 = (zk_X11_in, 3, (0, 0))) rfl rfl (Nat.le_of_ble_eq_true rfl) ⟨Nat.le_refl _, Nat.le_refl _⟩ (qx_in (by omega) hC   a1 (by omega) 0 (by omega) 1000 (by omega) ) (fun vr M2 hr => ?_)
  obtain ⟨hq, x3, rfl, hx3⟩ := hr
  replace hq := hq.symm; subst hq
  show zG n (0, 0) d 286 (8, [.inr (.inr (some 97)), .inl a1, .inl a2], [.inl x3]) M _
  have j22 : (¬ (0 ≤ a1 ∧ a1 ≤ 1000 ∧ 0 ≤ a2 ∧ a2 ≤ 1000)) → zG n (0, 0) d 286 (22, [.inr (.inr (some 97)), .inl a1, .inl a2], []) M (fun v M' => (qMI M' ∧ qFm [98] M M') ∧ ∃ x : Int, v = some (.inl x) ∧ ((-2147483648) ≤ x ∧ x ≤ 2147483647) ∧ ((x < 0 ∧ M' 98 6 = M 98 6 ∧ (x = -4 → M 98 6 = 12) ∧ (x = -2 → ¬ (0 ≤ a1 ∧ a1 ≤ 1000 ∧ 0 ≤ a2 ∧ a2 ≤ 1000))) ∨ ((0 ≤ a1 ∧ a1 ≤ 1000 ∧ 0 ≤ a2 ∧ a2 ≤ 1000) ∧ M 98 6 < 12 ∧ x = M 98 6 + 1 ∧ M' 98 6 = M 98 6 + 1))) := by
    intro hx0_22
    refine zG_blk (c' := (24, [.inr (.inr (some 97)), .inl a1, .inl a2], [.inl (-2)])) 1 hd0 hz (by rfl) ?_
    exact zG_ret hd0 hz rfl rfl ⟨⟨hC, hW⟩, _, rfl, by omega, by omega⟩
  refine zG_if_eq hd0 hz rfl (fun hb4 => ?_) (fun hb4 => ?_)
  · exact j22 (by omega)
  · refine zG_blk (c' := (16, [.inr (.inr (some 97)), .inl a1, .inl a2], [.inl 1000, .inl 0, .inl a2])) 3 hd0 hz (by rfl) ?_
    refine zG_call hd0 hz (rfl : zP 180 = (zk_X11_in, 3, (0, 0))) rfl rfl (Nat.le_of_ble_eq_true rfl) ⟨Nat.le_refl _, Nat.le_refl _⟩ (qx_in (by omega) hC   a2 (by omega) 0 (by omega) 1000 (by omega) ) (fun vr M5 hr => ?_)
    obtain ⟨hq, x6, rfl, hx6⟩ := hr
    replace hq := hq.symm; subst hq
    show zG n (0, 0) d 286 (19, [.inr (.inr (some 97)), .inl a1, .inl a2], [.inl x6]) M _
    refine zG_if_ne hd0 hz rfl (fun hb7 => ?_) (fun hb7 => ?_)
    · refine zG_blk (c' := (31, [.inr (.inr (some 97)), .inl a1, .inl a2], [.inl 6, .inr (.inr (some 98))])) 3 hd0 hz (by rfl) ?_
      refine zG_iald hd0 hz rfl rfl (.inl rfl) (by omega) ?_
      show zG n (0, 0) d 286 (32, [.inr (.inr (some 97)), .inl a1, .inl a2], [.inl (M 98 6)]) M _
      refine zG_blk (c' := (34, [.inr (.inr (some 97)), .inl a1, .inl a2], [.inl 12, .inl (M 98 6)])) 1 hd0 hz (by rfl) ?_
      refine zG_icmp_ne hd0 hz rfl (fun hb8 => ?_) (fun hb8 => ?_)
      · refine zG_blk (c' := (54, [.inr (.inr (some 97)), .inl a1, .inl a2], [.inl 6, .inr (.inr (some 98)), .inl 2, .inl 5640, .inr (.inr (some 98))])) 7 hd0 hz (by rfl) ?_
        refine zG_iald hd0 hz rfl rfl (.inl rfl) (by omega) ?_
        show zG n (0, 0) d 286 (55, [.inr (.inr (some 97)), .inl a1, .inl a2], [.inl (M 98 6), .inl 2, .inl 5640, .inr (.inr (some 98))]) M _
        obtain ⟨x9, hx9⟩ : ∃ x : Int, x = w32 (2 * (M 98 6)) := ⟨_, rfl⟩
        have hx9e : x9 = 2 * (M 98 6) := by rw [hx9]; exact w32_id (by omega)
        obtain ⟨x10, hx10⟩ : ∃ x : Int, x = w32 (5640 + x9) := ⟨_, rfl⟩
        have hx10e : x10 = 5640 + x9 := by rw [hx10]; exact w32_id (by omega)
        refine zG_blk (c' := (58, [.inr (.inr (some 97)), .inl a1, .inl a2], [.inl a1, .inl x10, .inr (.inr (some 98))])) 3 hd0 hz (by subst hx10; subst hx9; rfl) ?_
        refine zG_iast hd0 hz rfl rfl (by omega) ?_
        obtain ⟨M11, hM11⟩ : ∃ X : zM, X = zput M 98 (x10 : Int).toNat a1 := ⟨_, rfl⟩
        rw [← hM11]
        have hCM11 : qMI M11 := by rw [hM11]; exact hC.put98' (by refine ⟨by omega, fun _ => by omega, fun _ => by omega, fun _ => by omega, fun _ => by omega, fun _ => by omega, fun _ => by omega, fun _ => by omega, fun c9 hc9 _ => by omega, fun u9 hu9 _ => by omega, fun m9 hm9 _ => by omega, fun a9 ha9 => ⟨fun _ => by omega, fun _ => by omega, fun _ => by omega, fun _ => by omega⟩, fun t9 ht9 _ => by omega, fun o9 ho9 _ => by omega⟩) (by omega) (by omega)
        have hWM11 : qFm [98] M M11 := by rw [hM11]; exact hW.pa (by decide) (by decide)
        have e12 : M11 98 6 = M 98 6 := by rw [hM11]; exact qput_nk (by omega)
        show zG n (0, 0) d 286 (59, [.inr (.inr (some 97)), .inl a1, .inl a2], []) M11 _
        refine zG_blk (c' := (73, [.inr (.inr (some 97)), .inl a1, .inl a2], [.inl 6, .inr (.inr (some 98)), .inl 2, .inl 5640, .inr (.inr (some 98))])) 7 hd0 hz (by rfl) ?_
        refine zG_iald hd0 hz rfl rfl (.inl rfl) (by omega) ?_
        show zG n (0, 0) d 286 (74, [.inr (.inr (some 97)), .inl a1, .inl a2], [.inl (M11 98 6), .inl 2, .inl 5640, .inr (.inr (some 98))]) M11 _
        obtain ⟨x13, hx13⟩ : ∃ x : Int, x = w32 (2 * (M11 98 6)) := ⟨_, rfl⟩
        have hx13e : x13 = 2 * (M11 98 6) := by rw [hx13]; exact w32_id (by omega)
        obtain ⟨x14, hx14⟩ : ∃ x : Int, x = w32 (5640 + x13) := ⟨_, rfl⟩
        have hx14e : x14 = 5640 + x13 := by rw [hx14]; exact w32_id (by omega)
        obtain ⟨x15, hx15⟩ : ∃ x : Int, x = w32 (x14 + 1) := ⟨_, rfl⟩
        have hx15e : x15 = x14 + 1 := by rw [hx15]; exact w32_id (by omega)
        refine zG_blk (c' := (79, [.inr (.inr (some 97)), .inl a1, .inl a2], [.inl a2, .inl x15, .inr (.inr (some 98))])) 5 hd0 hz (by subst hx15; subst hx14; subst hx13; rfl) ?_
        refine zG_iast hd0 hz rfl rfl (by omega) ?_
        obtain ⟨M16, hM16⟩ : ∃ X : zM, X = zput M11 98 (x15 : Int).toNat a2 := ⟨_, rfl⟩
        rw [← hM16]
        have hCM16 : qMI M16 := by rw [hM16]; exact hCM11.put98' (by refine ⟨by omega, fun _ => by omega, fun _ => by omega, fun _ => by omega, fun _ => by omega, fun _ => by omega, fun _ => by omega, fun _ => by omega, fun c9 hc9 _ => by omega, fun u9 hu9 _ => by omega, fun m9 hm9 _ => by omega, fun a9 ha9 => ⟨fun _ => by omega, fun _ => by omega, fun _ => by omega, fun _ => by omega⟩, fun t9 ht9 _ => by omega, fun o9 ho9 _ => by omega⟩) (by omega) (by omega)
        have hWM16 : qFm [98] M M16 := by rw [hM16]; exact hWM11.pa (by decide) (by decide)
        have e17 : M16 98 6 = M11 98 6 := by rw [hM16]; exact qput_nk (by omega)
        show zG n (0, 0) d 286 (80, [.inr (.inr (some 97)), .inl a1, .inl a2], []) M16 _
        refine zG_blk (c' := (83, [.inr (.inr (some 97)), .inl a1, .inl a2], [.inl 6, .inr (.inr (some 97))])) 2 hd0 hz (by rfl) ?_
        refine zG_call hd0 hz (rfl : zP 183 = (zk_X11_one, 2, (0, 0))) rfl rfl (Nat.le_of_ble_eq_true rfl) ⟨Nat.le_refl _, Nat.le_refl _⟩ (qx_oneC (by omega) hCM16   6 (by decide) (by decide) (by refine ⟨by omega, fun _ => by omega, fun _ => by omega, fun _ => by omega, fun _ => by omega, fun _ => by omega, fun _ => by omega, fun _ => by omega, fun c9 hc9 _ => by omega, fun u9 hu9 _ => by omega, fun m9 hm9 _ => by omega, fun a9 ha9 => ⟨fun _ => by omega, fun _ => by omega, fun _ => by omega, fun _ => by omega⟩, fun t9 ht9 _ => by omega, fun o9 ho9 _ => by omega⟩) ) (fun vr M18 hr => ?_)
        obtain ⟨⟨hCM18, hFM18⟩, x19, rfl, hx19, hpx19_0, hpx19_1⟩ := hr
        have hWM18 : qFm [98] M M18 := hWM16.tr hFM18 (by decide)
        show zG n (0, 0) d 286 (86, [.inr (.inr (some 97)), .inl a1, .inl a2], [.inl x19]) M18 _
        obtain ⟨x21, hx21⟩ : ∃ x : Int, x = w32 (x19 + 1) := ⟨_, rfl⟩
        have hx21r : x21 = (x19 + 1 + 2147483648) % 4294967296 - 2147483648 := hx21
        refine zG_blk (c' := (88, [.inr (.inr (some 97)), .inl a1, .inl a2], [.inl x21])) 2 hd0 hz (by subst hx21; rfl) ?_
        exact zG_ret hd0 hz rfl rfl ⟨⟨hCM18, hWM18⟩, _, rfl, by omega, by omega⟩
      · refine zG_blk (c' := (39, [.inr (.inr (some 97)), .inl a1, .inl a2], [.inl (-4)])) 1 hd0 hz (by rfl) ?_
        exact zG_ret hd0 hz rfl rfl ⟨⟨hC, hW⟩, _, rfl, by omega, by omega⟩
    · exact j22 (by omega)
theorem qm_287_97 {n d : Nat} {M : zM} (hd : 1 ≤ d) (hC : qMI M)   : qOkN n d 287 [.inr (.inr (some 97))] 2 [98] M (fun v M' => ∃ x : Int, v = some (.inl x) ∧ (0 ≤ x ∧ x ≤ 12) ∧ (x = M 98 6) ∧ (M' 98 6 = 0)) := by
  have hz : zP 287 = (zk_X11_clear, 2, (0, 0)) := rfl
  have hd0 : 0 < d := by omega
  have hW : qFm [98] M M := qFm.rfl
  have r1 := hC.cnt6
  show zG n (0, 0) d 287 (0, [.inr (.inr (some 97)), zN], []) M _
  refine zG_blk (c' := (6, [.inr (.inr (some 97)), zN], [.inl 6, .inr (.inr (some 98))])) 3 hd0 hz (by rfl) ?_
  refine zG_iald hd0 hz rfl rfl (.inl rfl) (by omega) ?_
  show zG n (0, 0) d 287 (7, [.inr (.inr (some 97)), zN], [.inl (M 98 6)]) M _
  refine zG_blk (c' := (15, [.inr (.inr (some 97)), .inl (M 98 6)], [.inl 0, .inl 6, .inr (.inr (some 98))])) 5 hd0 hz (by rfl) ?_
  refine zG_iast hd0 hz rfl rfl (by omega) ?_
  obtain ⟨M2, hM2⟩ : ∃ X : zM, X = zput M 98 (6 : Int).toNat 0 := ⟨_, rfl⟩
  rw [← hM2]
  have hCM2 : qMI M2 := by rw [hM2]; exact hC.put98' (by refine ⟨by omega, fun _ => by omega, fun _ => by omega, fun _ => by omega, fun _ => by omega, fun _ => by omega, fun _ => by omega, fun _ => by omega, fun c9 hc9 _ => by omega, fun u9 hu9 _ => by omega, fun m9 hm9 _ => by omega, fun a9 ha9 => ⟨fun _ => by omega, fun _ => by omega, fun _ => by omega, fun _ => by omega⟩, fun t9 ht9 _ => by omega, fun o9 ho9 _ => by omega⟩) (by omega) (by omega)
  have hWM2 : qFm [98] M M2 := by rw [hM2]; exact hW.pa (by decide) (by decide)
  have hz6 : M2 98 6 = 0 := by rw [hM2]; exact qput_eq
  show zG n (0, 0) d 287 (16, [.inr (.inr (some 97)), .inl (M 98 6)], []) M2 _
  refine zG_blk (c' := (17, [.inr (.inr (some 97)), .inl (M 98 6)], [.inl (M 98 6)])) 1 hd0 hz (by rfl) ?_
  exact zG_ret hd0 hz rfl rfl ⟨⟨hCM2, hWM2⟩, _, rfl, by omega, by omega, by omega⟩
