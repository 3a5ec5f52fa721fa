/-! THE LAW (ID) -/
theorem qy_286_97 {n d : Nat} {M : zM} (hd : 2 ≤ d) (hC : qMI M)  (a1 : Int) (ha1 : (-2147483648) ≤ a1 ∧ a1 ≤ 2147483647) (a2 : Int) (ha2 : (-2147483648) ≤ a2 ∧ a2 ≤ 2147483647) : qOkN n d 286 [.inr (.inr (some 97)), .inl a1, .inl a2] 3 [98] M (fun v M' => ∃ x : Int, v = some (.inl x) ∧ ((-2147483648) ≤ x ∧ x ≤ 2147483647) ∧ (((x = -2 ∨ x = -4) ∧ M' 98 6 = M 98 6 ∧ (x = -4 → M 98 6 = 12 ∧ (0 ≤ a1 ∧ a1 ≤ 1000 ∧ 0 ≤ a2 ∧ a2 ≤ 1000)) ∧ (x = -2 → ¬ (0 ≤ a1 ∧ a1 ≤ 1000 ∧ 0 ≤ a2 ∧ a2 ≤ 1000))) ∨ ((0 ≤ a1 ∧ a1 ≤ 1000 ∧ 0 ≤ a2 ∧ a2 ≤ 1000) ∧ M 98 6 < 12 ∧ x = M 98 6 + 1 ∧ M' 98 6 = M 98 6 + 1))) := by
  have hz := zp_286
  have hd0 : 0 < d := by omega
  have hW : qFm [98] M M := qFm.rfl
  have r1 := hC.cnt6
  show zG n (0, 0) d 286 (0, [.inr (.inr (some 97)), .inl a1, .inl a2], []) M _
  refine zG_blk (c' := (5, [.inr (.inr (some 97)), .inl a1, .inl a2], [.inl 1000, .inl 0, .inl a1])) 3 hd0 hz (by rfl) ?_
  refine zG_call hd0 hz zp_180 rfl rfl (Nat.le_of_ble_eq_true rfl) ⟨Nat.le_refl _, Nat.le_refl _⟩ (qx_in (by omega) hC   a1 (by omega) 0 (by omega) 1000 (by omega) ) (fun vr M2 hr => ?_)
  obtain ⟨hq, x3, rfl, hx3⟩ := hr
  replace hq := hq.symm; subst hq
  show zG n (0, 0) d 286 (8, [.inr (.inr (some 97)), .inl a1, .inl a2], [.inl x3]) M _
  have j22 : (¬ (0 ≤ a1 ∧ a1 ≤ 1000 ∧ 0 ≤ a2 ∧ a2 ≤ 1000)) → zG n (0, 0) d 286 (22, [.inr (.inr (some 97)), .inl a1, .inl a2], []) M (fun v M' => (qMI M' ∧ qFm [98] M M') ∧ ∃ x : Int, v = some (.inl x) ∧ ((-2147483648) ≤ x ∧ x ≤ 2147483647) ∧ (((x = -2 ∨ x = -4) ∧ M' 98 6 = M 98 6 ∧ (x = -4 → M 98 6 = 12 ∧ (0 ≤ a1 ∧ a1 ≤ 1000 ∧ 0 ≤ a2 ∧ a2 ≤ 1000)) ∧ (x = -2 → ¬ (0 ≤ a1 ∧ a1 ≤ 1000 ∧ 0 ≤ a2 ∧ a2 ≤ 1000))) ∨ ((0 ≤ a1 ∧ a1 ≤ 1000 ∧ 0 ≤ a2 ∧ a2 ≤ 1000) ∧ M 98 6 < 12 ∧ x = M 98 6 + 1 ∧ M' 98 6 = M 98 6 + 1))) := by
    intro hx0_22
    refine zG_blk (c' := (24, [.inr (.inr (some 97)), .inl a1, .inl a2], [.inl (-2)])) 1 hd0 hz (by rfl) ?_
    exact zG_ret hd0 hz rfl rfl ⟨⟨hC, hW⟩, _, rfl, by omega, by omega⟩
  refine zG_if_eq hd0 hz rfl (fun hb4 => ?_) (fun hb4 => ?_)
  · exact j22 (by omega)
  · refine zG_blk (c' := (16, [.inr (.inr (some 97)), .inl a1, .inl a2], [.inl 1000, .inl 0, .inl a2])) 3 hd0 hz (by rfl) ?_
    refine zG_call hd0 hz zp_180 rfl rfl (Nat.le_of_ble_eq_true rfl) ⟨Nat.le_refl _, Nat.le_refl _⟩ (qx_in (by omega) hC   a2 (by omega) 0 (by omega) 1000 (by omega) ) (fun vr M5 hr => ?_)
    obtain ⟨hq, x6, rfl, hx6⟩ := hr
    replace hq := hq.symm; subst hq
    show zG n (0, 0) d 286 (19, [.inr (.inr (some 97)), .inl a1, .inl a2], [.inl x6]) M _
    refine zG_if_ne hd0 hz rfl (fun hb7 => ?_) (fun hb7 => ?_)
    · refine zG_blk (c' := (31, [.inr (.inr (some 97)), .inl a1, .inl a2], [.inl 6, .inr (.inr (some 98))])) 3 hd0 hz (by rfl) ?_
      refine zG_iald hd0 hz rfl rfl (.inl rfl) (by omega) ?_
      show zG n (0, 0) d 286 (32, [.inr (.inr (some 97)), .inl a1, .inl a2], [.inl (M 98 6)]) M _
      refine zG_blk (c' := (34, [.inr (.inr (some 97)), .inl a1, .inl a2], [.inl 12, .inl (M 98 6)])) 1 hd0 hz (by rfl) ?_
      refine zG_icmp_ne hd0 hz rfl (fun hb8 => ?_) (fun hb8 => ?_)
      · refine zG_blk (c' := (54, [.inr (.inr (some 97)), .inl a1, .inl a2], [.inl 6, .inr (.inr (some 98)), .inl 2, .inl 5640, .inr (.inr (some 98))])) 7 hd0 hz (by rfl) ?_
        refine zG_iald hd0 hz rfl rfl (.inl rfl) (by omega) ?_
        show zG n (0, 0) d 286 (55, [.inr (.inr (some 97)), .inl a1, .inl a2], [.inl (M 98 6), .inl 2, .inl 5640, .inr (.inr (some 98))]) M _
        obtain ⟨x9, hx9⟩ : ∃ x : Int, x = w32 (2 * (M 98 6)) := ⟨_, rfl⟩
        have hx9e : x9 = 2 * (M 98 6) := by rw [hx9]; exact w32_id (by omega)
        obtain ⟨x10, hx10⟩ : ∃ x : Int, x = w32 (5640 + x9) := ⟨_, rfl⟩
        have hx10e : x10 = 5640 + x9 := by rw [hx10]; exact w32_id (by omega)
        refine zG_blk (c' := (58, [.inr (.inr (some 97)), .inl a1, .inl a2], [.inl a1, .inl x10, .inr (.inr (some 98))])) 3 hd0 hz (by subst hx10; subst hx9; rfl) ?_
        refine zG_iast hd0 hz rfl rfl (by omega) ?_
        obtain ⟨M11, hM11⟩ : ∃ X : zM, X = zput M 98 (x10 : Int).toNat a1 := ⟨_, rfl⟩
        rw [← hM11]
        have hCM11 : qMI M11 := by rw [hM11]; exact hC.put98' (by refine ⟨by omega, fun _ => by omega, fun _ => by omega, fun _ => by omega, fun _ => by omega, fun _ => by omega, fun _ => by omega, fun _ => by omega, fun c9 hc9 _ => by omega, fun u9 hu9 _ => by omega, fun m9 hm9 _ => by omega, fun a9 ha9 => ⟨fun _ => by omega, fun _ => by omega, fun _ => by omega, fun _ => by omega⟩, fun t9 ht9 _ => by omega, fun o9 ho9 _ => by omega⟩) (by omega) (by omega)
        have hWM11 : qFm [98] M M11 := by rw [hM11]; exact hW.pa (by decide) (by decide)
        have e12 : M11 98 6 = M 98 6 := by rw [hM11]; exact qput_nk (by omega)
        show zG n (0, 0) d 286 (59, [.inr (.inr (some 97)), .inl a1, .inl a2], []) M11 _
        refine zG_blk (c' := (73, [.inr (.inr (some 97)), .inl a1, .inl a2], [.inl 6, .inr (.inr (some 98)), .inl 2, .inl 5640, .inr (.inr (some 98))])) 7 hd0 hz (by rfl) ?_
        refine zG_iald hd0 hz rfl rfl (.inl rfl) (by omega) ?_
        show zG n (0, 0) d 286 (74, [.inr (.inr (some 97)), .inl a1, .inl a2], [.inl (M11 98 6), .inl 2, .inl 5640, .inr (.inr (some 98))]) M11 _
        obtain ⟨x13, hx13⟩ : ∃ x : Int, x = w32 (2 * (M11 98 6)) := ⟨_, rfl⟩
        have hx13e : x13 = 2 * (M11 98 6) := by rw [hx13]; exact w32_id (by omega)
        obtain ⟨x14, hx14⟩ : ∃ x : Int, x = w32 (5640 + x13) := ⟨_, rfl⟩
        have hx14e : x14 = 5640 + x13 := by rw [hx14]; exact w32_id (by omega)
        obtain ⟨x15, hx15⟩ : ∃ x : Int, x = w32 (x14 + 1) := ⟨_, rfl⟩
        have hx15e : x15 = x14 + 1 := by rw [hx15]; exact w32_id (by omega)
        refine zG_blk (c' := (79, [.inr (.inr (some 97)), .inl a1, .inl a2], [.inl a2, .inl x15, .inr (.inr (some 98))])) 5 hd0 hz (by subst hx15; subst hx14; subst hx13; rfl) ?_
        refine zG_iast hd0 hz rfl rfl (by omega) ?_
        obtain ⟨M16, hM16⟩ : ∃ X : zM, X = zput M11 98 (x15 : Int).toNat a2 := ⟨_, rfl⟩
        rw [← hM16]
        have hCM16 : qMI M16 := by rw [hM16]; exact hCM11.put98' (by refine ⟨by omega, fun _ => by omega, fun _ => by omega, fun _ => by omega, fun _ => by omega, fun _ => by omega, fun _ => by omega, fun _ => by omega, fun c9 hc9 _ => by omega, fun u9 hu9 _ => by omega, fun m9 hm9 _ => by omega, fun a9 ha9 => ⟨fun _ => by omega, fun _ => by omega, fun _ => by omega, fun _ => by omega⟩, fun t9 ht9 _ => by omega, fun o9 ho9 _ => by omega⟩) (by omega) (by omega)
        have hWM16 : qFm [98] M M16 := by rw [hM16]; exact hWM11.pa (by decide) (by decide)
        have e17 : M16 98 6 = M11 98 6 := by rw [hM16]; exact qput_nk (by omega)
        show zG n (0, 0) d 286 (80, [.inr (.inr (some 97)), .inl a1, .inl a2], []) M16 _
        refine zG_blk (c' := (83, [.inr (.inr (some 97)), .inl a1, .inl a2], [.inl 6, .inr (.inr (some 97))])) 2 hd0 hz (by rfl) ?_
        refine zG_call hd0 hz zp_183 rfl rfl (Nat.le_of_ble_eq_true rfl) ⟨Nat.le_refl _, Nat.le_refl _⟩ (qx_oneC (by omega) hCM16   6 (by decide) (by decide) (by refine ⟨by omega, fun _ => by omega, fun _ => by omega, fun _ => by omega, fun _ => by omega, fun _ => by omega, fun _ => by omega, fun _ => by omega, fun c9 hc9 _ => by omega, fun u9 hu9 _ => by omega, fun m9 hm9 _ => by omega, fun a9 ha9 => ⟨fun _ => by omega, fun _ => by omega, fun _ => by omega, fun _ => by omega⟩, fun t9 ht9 _ => by omega, fun o9 ho9 _ => by omega⟩) ) (fun vr M18 hr => ?_)
        obtain ⟨⟨hCM18, hFM18⟩, x19, rfl, hx19, hpx19_0, hpx19_1⟩ := hr
        have hWM18 : qFm [98] M M18 := hWM16.tr hFM18 (by decide)
        show zG n (0, 0) d 286 (86, [.inr (.inr (some 97)), .inl a1, .inl a2], [.inl x19]) M18 _
        obtain ⟨x21, hx21⟩ : ∃ x : Int, x = w32 (x19 + 1) := ⟨_, rfl⟩
        have hx21r : x21 = (x19 + 1 + 2147483648) % 4294967296 - 2147483648 := hx21
        refine zG_blk (c' := (88, [.inr (.inr (some 97)), .inl a1, .inl a2], [.inl x21])) 2 hd0 hz (by subst hx21; rfl) ?_
        exact zG_ret hd0 hz rfl rfl ⟨⟨hCM18, hWM18⟩, _, rfl, by omega, by omega⟩
      · refine zG_blk (c' := (39, [.inr (.inr (some 97)), .inl a1, .inl a2], [.inl (-4)])) 1 hd0 hz (by rfl) ?_
        exact zG_ret hd0 hz rfl rfl ⟨⟨hC, hW⟩, _, rfl, by omega, by omega⟩
    · exact j22 (by omega)
theorem qy_162_8 {n d : Nat} {M : zM} (hd : 2 ≤ d) (hC : qCI M) (a1 : Int) (ha1 : (-2147483648) ≤ a1 ∧ a1 ≤ 2147483647) (a2 : Int) (ha2 : (-2147483648) ≤ a2 ∧ a2 ≤ 2147483647) : zG n (0, 0) d 162 (0, zini [.inr (.inr (some 8)), .inl a1, .inl a2] 4, []) M (fun v M' => qWf qCI [24, 25] M M' ∧ ∃ x : Int, v = some (.inl x) ∧ (((x = -2 ∨ x = -4) ∧ M' 24 3 = M 24 3 ∧ (x = -4 → M 24 3 = 12 ∧ (0 ≤ a1 ∧ a1 ≤ 1000 ∧ 0 ≤ a2 ∧ a2 ≤ 1000)) ∧ (x = -2 → ¬ (0 ≤ a1 ∧ a1 ≤ 1000 ∧ 0 ≤ a2 ∧ a2 ≤ 1000))) ∨ ((0 ≤ a1 ∧ a1 ≤ 1000 ∧ 0 ≤ a2 ∧ a2 ≤ 1000) ∧ M 24 3 < 12 ∧ x = M 24 3 + 1 ∧ M' 24 3 = M 24 3 + 1))) := by
  have hz := zp_162
  have hd0 : 0 < d := by omega
  have hW : qFr [24, 25] M M := qFr.rfl
  have hrw := hC.rows 24 12 2 (by decide)
  show zG n (0, 0) d 162 (0, [.inr (.inr (some 8)), .inl a1, .inl a2, zN], []) M _
  refine zG_blk (c' := (5, [.inr (.inr (some 8)), .inl a1, .inl a2, zN], [.inl 1000, .inl 0, .inl a1])) 3 hd0 hz (by rfl) ?_
  refine zG_call hd0 hz zp_169 rfl rfl (Nat.le_of_ble_eq_true rfl) ⟨Nat.le_refl _, Nat.le_refl _⟩ (qe_within (by omega) a1 0 1000) (fun vr M1 hr => ?_)
  obtain ⟨hq, x2, rfl, hx2⟩ := hr
  replace hq := hq.symm; subst hq
  show zG n (0, 0) d 162 (8, [.inr (.inr (some 8)), .inl a1, .inl a2, zN], [.inl x2]) M _
  have j22 : ¬ (0 ≤ a1 ∧ a1 ≤ 1000 ∧ 0 ≤ a2 ∧ a2 ≤ 1000) → zG n (0, 0) d 162 (22, [.inr (.inr (some 8)), .inl a1, .inl a2, zN], []) M (fun v M' => qWf qCI [24, 25] M M' ∧ ∃ x : Int, v = some (.inl x) ∧ (((x = -2 ∨ x = -4) ∧ M' 24 3 = M 24 3 ∧ (x = -4 → M 24 3 = 12 ∧ (0 ≤ a1 ∧ a1 ≤ 1000 ∧ 0 ≤ a2 ∧ a2 ≤ 1000)) ∧ (x = -2 → ¬ (0 ≤ a1 ∧ a1 ≤ 1000 ∧ 0 ≤ a2 ∧ a2 ≤ 1000))) ∨ ((0 ≤ a1 ∧ a1 ≤ 1000 ∧ 0 ≤ a2 ∧ a2 ≤ 1000) ∧ M 24 3 < 12 ∧ x = M 24 3 + 1 ∧ M' 24 3 = M 24 3 + 1))) := by
    intro hnok
    refine zG_blk (c' := (24, [.inr (.inr (some 8)), .inl a1, .inl a2, zN], [.inl (-2)])) 1 hd0 hz (by rfl) ?_
    exact zG_ret hd0 hz rfl rfl ⟨⟨hC, hW⟩, _, rfl, by omega⟩
  refine zG_if_eq hd0 hz rfl (fun hb3 => ?_) (fun hb3 => ?_)
  · exact j22 (by omega)
  · refine zG_blk (c' := (16, [.inr (.inr (some 8)), .inl a1, .inl a2, zN], [.inl 1000, .inl 0, .inl a2])) 3 hd0 hz (by rfl) ?_
    refine zG_call hd0 hz zp_169 rfl rfl (Nat.le_of_ble_eq_true rfl) ⟨Nat.le_refl _, Nat.le_refl _⟩ (qe_within (by omega) a2 0 1000) (fun vr M4 hr => ?_)
    obtain ⟨hq, x5, rfl, hx5⟩ := hr
    replace hq := hq.symm; subst hq
    show zG n (0, 0) d 162 (19, [.inr (.inr (some 8)), .inl a1, .inl a2, zN], [.inl x5]) M _
    refine zG_if_ne hd0 hz rfl (fun hb6 => ?_) (fun hb6 => ?_)
    · refine zG_blk (c' := (32, [.inr (.inr (some 8)), .inl a1, .inl a2, zN], [.inr (.inr (some 24))])) 3 hd0 hz (by rfl) ?_
      refine zG_call hd0 hz zp_103 rfl rfl (Nat.le_of_ble_eq_true rfl) ⟨Nat.le_refl _, Nat.le_refl _⟩ (qe_open (by omega) hC (⟨by decide, rfl, rfl⟩ : qT n 24 12 2) ) (fun vr M7 hr => ?_)
      obtain ⟨⟨hCM7, hFM7⟩, x8, rfl, hx8⟩ := hr
      have hWM7 : qFr [24, 25] M M7 := hW.tr hFM7 (by decide)
      show zG n (0, 0) d 162 (35, [.inr (.inr (some 8)), .inl a1, .inl a2, zN], [.inl x8]) M7 _
      refine zG_blk (c' := (39, [.inr (.inr (some 8)), .inl a1, .inl a2, .inl x8], [.inl (-4), .inl x8])) 3 hd0 hz (by rfl) ?_
      refine zG_icmp_ne hd0 hz rfl (fun hb9 => ?_) (fun hb9 => ?_)
      · refine zG_blk (c' := (55, [.inr (.inr (some 8)), .inl a1, .inl a2, .inl x8], [.inl a1, .inl 0, .inl x8, .inr (.inr (some 24))])) 6 hd0 hz (by rfl) ?_
        refine zG_call hd0 hz zp_107 rfl rfl (Nat.le_of_ble_eq_true rfl) ⟨Nat.le_refl _, Nat.le_refl _⟩ (qw_set (by omega) hCM7 (⟨by decide, rfl, rfl⟩ : qT n 24 12 2) x8 (by omega) 0 (by omega) a1 (by omega)) (fun vr M10 hr => ?_)
        obtain ⟨⟨hCM10, hFM10⟩, rfl⟩ := hr
        have hWM10 : qFr [24, 25] M M10 := hWM7.tr hFM10 (by decide)
        have hu10 : M10 24 3 = M7 24 3 := hFM10 24 3 (by decide)
        show zG n (0, 0) d 162 (58, [.inr (.inr (some 8)), .inl a1, .inl a2, .inl x8], []) M10 _
        refine zG_blk (c' := (68, [.inr (.inr (some 8)), .inl a1, .inl a2, .inl x8], [.inl a2, .inl 1, .inl x8, .inr (.inr (some 24))])) 6 hd0 hz (by rfl) ?_
        refine zG_call hd0 hz zp_107 rfl rfl (Nat.le_of_ble_eq_true rfl) ⟨Nat.le_refl _, Nat.le_refl _⟩ (qw_set (by omega) hCM10 (⟨by decide, rfl, rfl⟩ : qT n 24 12 2) x8 (by omega) 1 (by omega) a2 (by omega)) (fun vr M12 hr => ?_)
        obtain ⟨⟨hCM12, hFM12⟩, rfl⟩ := hr
        have hWM12 : qFr [24, 25] M M12 := hWM10.tr hFM12 (by decide)
        have hu12 : M12 24 3 = M10 24 3 := hFM12 24 3 (by decide)
        show zG n (0, 0) d 162 (71, [.inr (.inr (some 8)), .inl a1, .inl a2, .inl x8], []) M12 _
        obtain ⟨x14, hx14⟩ : ∃ x : Int, x = w32 (x8 + 1) := ⟨_, rfl⟩
        have hx14e : x14 = x8 + 1 := by rw [hx14]; exact w32_id (by omega)
        refine zG_blk (c' := (74, [.inr (.inr (some 8)), .inl a1, .inl a2, .inl x8], [.inl x14])) 3 hd0 hz (by subst hx14; rfl) ?_
        exact zG_ret hd0 hz rfl rfl ⟨⟨hCM12, hWM12⟩, _, rfl, by omega⟩
      · refine zG_blk (c' := (44, [.inr (.inr (some 8)), .inl a1, .inl a2, .inl x8], [.inl (-4)])) 1 hd0 hz (by rfl) ?_
        exact zG_ret hd0 hz rfl rfl ⟨⟨hCM7, hWM7⟩, _, rfl, by omega⟩
    · exact j22 (by omega)
def qK (M : zM) : Prop := M 24 3 = M 98 6 ∧ (0 ≤ M 8 3 ∧ M 8 3 ≤ 3 ∧ M 8 3 = M 100 0 + 2 * M 100 1) ∧ (M 100 0 ≠ 0 → M 41 3 = M 99 6) ∧ (M 100 1 ≠ 0 → M 58 3 = M 99 5670)
def qJ (M : zM) : Prop := qCI M ∧ qMI M ∧ qK M
theorem qMI.same {M M' : zM} (h : qMI M) (e : ∀ r k, 97 ≤ r → M' r k = M r k) : qMI M' := by
  refine ⟨?_, ?_, ?_, fun r k hr => by rw [e r k hr]; exact h.2.2.2.1 r k hr, ?_⟩
  · rw [show M' 98 = M 98 from funext fun j => e 98 j (by decide)]; exact h.1
  · rw [show M' 99 = M 99 from funext fun j => e 99 j (by decide)]; exact h.2.1
  · rw [show M' 99 = M 99 from funext fun j => e 99 j (by decide)]; exact h.2.2.1
  · have ht := h.2.2.2.2
    unfold qTS at ht ⊢
    rw [show M' 105 = M 105 from funext fun j => e 105 j (by decide), show M' 106 = M 106 from funext fun j => e 106 j (by decide), e 97 7 (by decide)]
    exact ht
theorem qCI.same {M M' : zM} (h : qCI M) (e : ∀ r k, r < 97 → M' r k = M r k) : qCI M' := by
  refine ⟨fun r l c hm => ?_, ?_, ?_, ?_, fun r k hr hl => by rw [e r k hr]; exact h.rng r k hr hl, ?_⟩
  · have hz := qRTL_rz _ hm
    rw [e r 0 hz.2.2.1, e r 1 hz.2.2.1, e r 3 hz.2.2.1]; exact h.rows r l c hm
  · rw [e 72 3 (by decide)]; exact h.rk
  · rw [e 72 5 (by decide)]; exact h.um
  · rw [e 87 5 (by decide)]; exact h.pp
  · rw [e 4 1 (by decide), e 6 1 (by decide)]; exact h.st
theorem qFr.hi {g : List Nat} {M M' : zM} (h : qFr g M M') (hg : g.all (fun x => Nat.blt x 97) = true) : ∀ r k, 97 ≤ r → M' r k = M r k := fun r k hr => h r k (fun hm => by
  have := List.all_eq_true.mp hg r hm
  rw [Nat.blt_eq] at this
  omega)
theorem qFm.lo {g : List Nat} {M M' : zM} (h : qFm g M M') (hg : g.all (fun x => Nat.ble 97 x) = true) : ∀ r k, r < 97 → M' r k = M r k := fun r k hr => h r k (fun hm => by
  have := List.all_eq_true.mp hg _ hm
  rw [Nat.ble_eq] at this
  simp only [qCd, if_neg (show r ≠ 97 by omega)] at this
  omega)
theorem qJ.cls {g : List Nat} {M M' : zM} (h : qJ M) (hc : qCI M') (hf : qFr g M M') (hg : g.all (fun x => Nat.blt x 97) = true) (hg2 : (8 ∉ g ∧ 24 ∉ g) ∧ 41 ∉ g ∧ 58 ∉ g) : qJ M' := by
  have hi := hf.hi hg
  refine ⟨hc, h.2.1.same hi, ?_⟩
  unfold qK
  rw [hi 98 6 (by decide), hi 100 0 (by decide), hi 100 1 (by decide), hi 99 6 (by decide), hi 99 5670 (by decide), hf 24 3 hg2.1.2, hf 8 3 hg2.1.1, hf 41 3 hg2.2.1, hf 58 3 hg2.2.2]
  exact h.2.2
theorem qJ.mdl {g : List Nat} {M M' : zM} (h : qJ M) (hm : qMI M') (hf : qFm g M M') (hg : g.all (fun x => Nat.ble 97 x) = true) (hg2 : 99 ∉ g ∧ 100 ∉ g) (h6 : M' 98 6 = M 98 6) : qJ M' := by
  have lo := hf.lo hg
  refine ⟨h.1.same lo, hm, ?_⟩
  unfold qK
  rw [h6, hf.ar 100 0 (by decide) hg2.2, hf.ar 100 1 (by decide) hg2.2, hf.ar 99 6 (by decide) hg2.1, hf.ar 99 5670 (by decide) hg2.1, lo 24 3 (by decide), lo 8 3 (by decide), lo 41 3 (by decide), lo 58 3 (by decide)]
  exact h.2.2
section LW
variable {n : Nat} {M : zM} {i : Int}
abbrev qLQ : Option zV → zM → Prop := fun v _ => v = some (.inl 1)
set_option maxRecDepth 100000 in
theorem qL_0 (hJ : qJ M) (hn : n ≤ 4096) (hi : 0 ≤ i ∧ i + 8 ≤ n) (K : ∀ M', qJ M' → zG n (114, 4080270) 300 311 (2158, [zR 0, zR 8, zR 97, .inl i], []) M' qLQ) : zG n (114, 4080270) 300 311 (232, [zR 0, zR 8, zR 97, .inl i], []) M qLQ := by
  have hz := zp_311
  refine zG_blk (c' := (237, [zR 0, zR 8, zR 97, .inl i], [.inl (i + 1), zR 0, zR 8])) 5 (by decide) hz (by rw [show (.inl (i + 1) : zV) = .inl (w32 (i + 1)) from by rw [w32_id (by omega)]]; rfl) ?_
  refine zG_iald (by decide) hz rfl rfl (.inr rfl) (by omega) ?_
  obtain ⟨x1, hx1⟩ : ∃ x : Int, x = M 0 (i + 1).toNat := ⟨_, rfl⟩
  rw [← hx1]
  have hr1 : qin x1 := by rw [hx1]; exact hJ.1.rng 0 _ (by decide) (by decide)
  show zG n (114, 4080270) 300 311 (238, [zR 0, zR 8, zR 97, .inl i], [.inl x1, zR 8]) M _
  refine zG_blk (c' := (242, [zR 0, zR 8, zR 97, .inl i], [.inl (i + 2), zR 0, .inl x1, zR 8])) 4 (by decide) hz (by rw [show (.inl (i + 2) : zV) = .inl (w32 (i + 2)) from by rw [w32_id (by omega)]]; rfl) ?_
  refine zG_iald (by decide) hz rfl rfl (.inr rfl) (by omega) ?_
  obtain ⟨x2, hx2⟩ : ∃ x : Int, x = M 0 (i + 2).toNat := ⟨_, rfl⟩
  rw [← hx2]
  have hr2 : qin x2 := by rw [hx2]; exact hJ.1.rng 0 _ (by decide) (by decide)
  show zG n (114, 4080270) 300 311 (243, [zR 0, zR 8, zR 97, .inl i], [.inl x2, .inl x1, zR 8]) M _
  refine zG_blk (c' := (247, [zR 0, zR 8, zR 97, .inl i], [.inl (i + 3), zR 0, .inl x2, .inl x1, zR 8])) 4 (by decide) hz (by rw [show (.inl (i + 3) : zV) = .inl (w32 (i + 3)) from by rw [w32_id (by omega)]]; rfl) ?_
  refine zG_iald (by decide) hz rfl rfl (.inr rfl) (by omega) ?_
  obtain ⟨x3, hx3⟩ : ∃ x : Int, x = M 0 (i + 3).toNat := ⟨_, rfl⟩
  rw [← hx3]
  have hr3 : qin x3 := by rw [hx3]; exact hJ.1.rng 0 _ (by decide) (by decide)
  show zG n (114, 4080270) 300 311 (248, [zR 0, zR 8, zR 97, .inl i], [.inl x3, .inl x2, .inl x1, zR 8]) M _
  refine zG_blk (c' := (252, [zR 0, zR 8, zR 97, .inl i], [.inl (i + 4), zR 0, .inl x3, .inl x2, .inl x1, zR 8])) 4 (by decide) hz (by rw [show (.inl (i + 4) : zV) = .inl (w32 (i + 4)) from by rw [w32_id (by omega)]]; rfl) ?_
  refine zG_iald (by decide) hz rfl rfl (.inr rfl) (by omega) ?_
  obtain ⟨x4, hx4⟩ : ∃ x : Int, x = M 0 (i + 4).toNat := ⟨_, rfl⟩
  rw [← hx4]
  have hr4 : qin x4 := by rw [hx4]; exact hJ.1.rng 0 _ (by decide) (by decide)
  show zG n (114, 4080270) 300 311 (253, [zR 0, zR 8, zR 97, .inl i], [.inl x4, .inl x3, .inl x2, .inl x1, zR 8]) M _
  refine zG_call (by decide) hz zp_123 rfl rfl (Nat.le_of_ble_eq_true rfl) ⟨Nat.le_of_ble_eq_true rfl, Nat.le_of_ble_eq_true rfl⟩ (qm_123_8 (by decide) hJ.1 x1 (by omega) x2 (by omega) x3 (by omega) x4 (by omega)) (fun vr M1 hr => ?_)
  obtain ⟨⟨hCM1, hFM1⟩, hr⟩ := hr
  have hJM1 : qJ M1 := hJ.cls hCM1 hFM1 rfl (by decide)
  have hc0 : ∀ j, M1 0 j = M 0 j := fun j => hFM1 0 j (by decide)
  obtain ⟨r1, rfl, -⟩ := hr
  show zG n (114, 4080270) 300 311 (256, [zR 0, zR 8, zR 97, .inl i], [.inl r1]) M1 _
  refine zG_blk (c' := (262, [zR 0, zR 8, zR 97, .inl i], [.inl (i + 1), zR 0, zR 97])) 6 (by decide) hz (by rw [show (.inl (i + 1) : zV) = .inl (w32 (i + 1)) from by rw [w32_id (by omega)]]; rfl) ?_
  refine zG_iald (by decide) hz rfl rfl (.inr rfl) (by omega) ?_
  rw [show M1 0 (i + 1).toNat = x1 from by rw [hx1]; exact hc0 _]
  show zG n (114, 4080270) 300 311 (263, [zR 0, zR 8, zR 97, .inl i], [.inl x1, zR 97]) M1 _
  refine zG_blk (c' := (267, [zR 0, zR 8, zR 97, .inl i], [.inl (i + 2), zR 0, .inl x1, zR 97])) 4 (by decide) hz (by rw [show (.inl (i + 2) : zV) = .inl (w32 (i + 2)) from by rw [w32_id (by omega)]]; rfl) ?_
  refine zG_iald (by decide) hz rfl rfl (.inr rfl) (by omega) ?_
  rw [show M1 0 (i + 2).toNat = x2 from by rw [hx2]; exact hc0 _]
  show zG n (114, 4080270) 300 311 (268, [zR 0, zR 8, zR 97, .inl i], [.inl x2, .inl x1, zR 97]) M1 _
  refine zG_blk (c' := (272, [zR 0, zR 8, zR 97, .inl i], [.inl (i + 3), zR 0, .inl x2, .inl x1, zR 97])) 4 (by decide) hz (by rw [show (.inl (i + 3) : zV) = .inl (w32 (i + 3)) from by rw [w32_id (by omega)]]; rfl) ?_
  refine zG_iald (by decide) hz rfl rfl (.inr rfl) (by omega) ?_
  rw [show M1 0 (i + 3).toNat = x3 from by rw [hx3]; exact hc0 _]
  show zG n (114, 4080270) 300 311 (273, [zR 0, zR 8, zR 97, .inl i], [.inl x3, .inl x2, .inl x1, zR 97]) M1 _
  refine zG_blk (c' := (277, [zR 0, zR 8, zR 97, .inl i], [.inl (i + 4), zR 0, .inl x3, .inl x2, .inl x1, zR 97])) 4 (by decide) hz (by rw [show (.inl (i + 4) : zV) = .inl (w32 (i + 4)) from by rw [w32_id (by omega)]]; rfl) ?_
  refine zG_iald (by decide) hz rfl rfl (.inr rfl) (by omega) ?_
  rw [show M1 0 (i + 4).toNat = x4 from by rw [hx4]; exact hc0 _]
  show zG n (114, 4080270) 300 311 (278, [zR 0, zR 8, zR 97, .inl i], [.inl x4, .inl x3, .inl x2, .inl x1, zR 97]) M1 _
  refine zG_call (by decide) hz zp_187 rfl rfl (Nat.le_of_ble_eq_true rfl) ⟨Nat.le_of_ble_eq_true rfl, Nat.le_of_ble_eq_true rfl⟩ (qm_187_97 (by decide) hJM1.2.1 x1 (by omega) x2 (by omega) x3 (by omega) x4 (by omega)) (fun vr M2 hr => ?_)
  obtain ⟨⟨hCM2, hFM2⟩, hr⟩ := hr
  have h6 : M2 98 6 = M1 98 6 := by obtain ⟨x9, -, -, h9⟩ := hr; exact h9
  have hJM2 : qJ M2 := hJM1.mdl hCM2 hFM2 rfl (by decide) h6
  obtain ⟨r2, hv9⟩ := hr
  first | (obtain ⟨rfl, -⟩ := hv9) | (obtain rfl := hv9)
  show zG n (114, 4080270) 300 311 (281, [zR 0, zR 8, zR 97, .inl i], [.inl r2]) M2 _
  refine zG_blk (c' := (2158, [zR 0, zR 8, zR 97, .inl i], [])) 2 (by decide) hz rfl ?_
  exact K M2 hJM2
set_option maxRecDepth 100000 in
theorem qL_1 (hJ : qJ M) (hn : n ≤ 4096) (hi : 0 ≤ i ∧ i + 8 ≤ n) (K : ∀ M', qJ M' → zG n (114, 4080270) 300 311 (2158, [zR 0, zR 8, zR 97, .inl i], []) M' qLQ) : zG n (114, 4080270) 300 311 (285, [zR 0, zR 8, zR 97, .inl i], []) M qLQ := by
  have hz := zp_311
  refine zG_blk (c' := (290, [zR 0, zR 8, zR 97, .inl i], [.inl (i + 1), zR 0, zR 8])) 5 (by decide) hz (by rw [show (.inl (i + 1) : zV) = .inl (w32 (i + 1)) from by rw [w32_id (by omega)]]; rfl) ?_
  refine zG_iald (by decide) hz rfl rfl (.inr rfl) (by omega) ?_
  obtain ⟨x1, hx1⟩ : ∃ x : Int, x = M 0 (i + 1).toNat := ⟨_, rfl⟩
  rw [← hx1]
  have hr1 : qin x1 := by rw [hx1]; exact hJ.1.rng 0 _ (by decide) (by decide)
  show zG n (114, 4080270) 300 311 (291, [zR 0, zR 8, zR 97, .inl i], [.inl x1, zR 8]) M _
  refine zG_call (by decide) hz zp_124 rfl rfl (Nat.le_of_ble_eq_true rfl) ⟨Nat.le_of_ble_eq_true rfl, Nat.le_of_ble_eq_true rfl⟩ (qm_124_8 (by decide) hJ.1 x1 (by omega)) (fun vr M1 hr => ?_)
  obtain ⟨⟨hCM1, hFM1⟩, hr⟩ := hr
  have hJM1 : qJ M1 := hJ.cls hCM1 hFM1 rfl (by decide)
  have hc0 : ∀ j, M1 0 j = M 0 j := fun j => hFM1 0 j (by decide)
  obtain ⟨r1, rfl, -⟩ := hr
  show zG n (114, 4080270) 300 311 (294, [zR 0, zR 8, zR 97, .inl i], [.inl r1]) M1 _
  refine zG_blk (c' := (300, [zR 0, zR 8, zR 97, .inl i], [.inl (i + 1), zR 0, zR 97])) 6 (by decide) hz (by rw [show (.inl (i + 1) : zV) = .inl (w32 (i + 1)) from by rw [w32_id (by omega)]]; rfl) ?_
  refine zG_iald (by decide) hz rfl rfl (.inr rfl) (by omega) ?_
  rw [show M1 0 (i + 1).toNat = x1 from by rw [hx1]; exact hc0 _]
  show zG n (114, 4080270) 300 311 (301, [zR 0, zR 8, zR 97, .inl i], [.inl x1, zR 97]) M1 _
  refine zG_call (by decide) hz zp_188 rfl rfl (Nat.le_of_ble_eq_true rfl) ⟨Nat.le_of_ble_eq_true rfl, Nat.le_of_ble_eq_true rfl⟩ (qm_188_97 (by decide) hJM1.2.1 x1 (by omega)) (fun vr M2 hr => ?_)
  obtain ⟨⟨hCM2, hFM2⟩, hr⟩ := hr
  have h6 : M2 98 6 = M1 98 6 := by obtain ⟨x9, -, -, h9⟩ := hr; exact h9
  have hJM2 : qJ M2 := hJM1.mdl hCM2 hFM2 rfl (by decide) h6
  obtain ⟨r2, hv9⟩ := hr
  first | (obtain ⟨rfl, -⟩ := hv9) | (obtain rfl := hv9)
  show zG n (114, 4080270) 300 311 (304, [zR 0, zR 8, zR 97, .inl i], [.inl r2]) M2 _
  refine zG_blk (c' := (2158, [zR 0, zR 8, zR 97, .inl i], [])) 2 (by decide) hz rfl ?_
  exact K M2 hJM2
set_option maxRecDepth 100000 in
theorem qL_2 (hJ : qJ M) (hn : n ≤ 4096) (hi : 0 ≤ i ∧ i + 8 ≤ n) (K : ∀ M', qJ M' → zG n (114, 4080270) 300 311 (2158, [zR 0, zR 8, zR 97, .inl i], []) M' qLQ) : zG n (114, 4080270) 300 311 (308, [zR 0, zR 8, zR 97, .inl i], []) M qLQ := by
  have hz := zp_311
  refine zG_blk (c' := (313, [zR 0, zR 8, zR 97, .inl i], [.inl (i + 1), zR 0, zR 8])) 5 (by decide) hz (by rw [show (.inl (i + 1) : zV) = .inl (w32 (i + 1)) from by rw [w32_id (by omega)]]; rfl) ?_
  refine zG_iald (by decide) hz rfl rfl (.inr rfl) (by omega) ?_
  obtain ⟨x1, hx1⟩ : ∃ x : Int, x = M 0 (i + 1).toNat := ⟨_, rfl⟩
  rw [← hx1]
  have hr1 : qin x1 := by rw [hx1]; exact hJ.1.rng 0 _ (by decide) (by decide)
  show zG n (114, 4080270) 300 311 (314, [zR 0, zR 8, zR 97, .inl i], [.inl x1, zR 8]) M _
  refine zG_blk (c' := (318, [zR 0, zR 8, zR 97, .inl i], [.inl (i + 2), zR 0, .inl x1, zR 8])) 4 (by decide) hz (by rw [show (.inl (i + 2) : zV) = .inl (w32 (i + 2)) from by rw [w32_id (by omega)]]; rfl) ?_
  refine zG_iald (by decide) hz rfl rfl (.inr rfl) (by omega) ?_
  obtain ⟨x2, hx2⟩ : ∃ x : Int, x = M 0 (i + 2).toNat := ⟨_, rfl⟩
  rw [← hx2]
  have hr2 : qin x2 := by rw [hx2]; exact hJ.1.rng 0 _ (by decide) (by decide)
  show zG n (114, 4080270) 300 311 (319, [zR 0, zR 8, zR 97, .inl i], [.inl x2, .inl x1, zR 8]) M _
  refine zG_call (by decide) hz zp_125 rfl rfl (Nat.le_of_ble_eq_true rfl) ⟨Nat.le_of_ble_eq_true rfl, Nat.le_of_ble_eq_true rfl⟩ (qm_125_8 (by decide) hJ.1 x1 (by omega) x2 (by omega)) (fun vr M1 hr => ?_)
  obtain ⟨⟨hCM1, hFM1⟩, hr⟩ := hr
  have hJM1 : qJ M1 := hJ.cls hCM1 hFM1 rfl (by decide)
  have hc0 : ∀ j, M1 0 j = M 0 j := fun j => hFM1 0 j (by decide)
  obtain ⟨r1, rfl, -⟩ := hr
  show zG n (114, 4080270) 300 311 (322, [zR 0, zR 8, zR 97, .inl i], [.inl r1]) M1 _
  refine zG_blk (c' := (328, [zR 0, zR 8, zR 97, .inl i], [.inl (i + 1), zR 0, zR 97])) 6 (by decide) hz (by rw [show (.inl (i + 1) : zV) = .inl (w32 (i + 1)) from by rw [w32_id (by omega)]]; rfl) ?_
  refine zG_iald (by decide) hz rfl rfl (.inr rfl) (by omega) ?_
  rw [show M1 0 (i + 1).toNat = x1 from by rw [hx1]; exact hc0 _]
  show zG n (114, 4080270) 300 311 (329, [zR 0, zR 8, zR 97, .inl i], [.inl x1, zR 97]) M1 _
  refine zG_blk (c' := (333, [zR 0, zR 8, zR 97, .inl i], [.inl (i + 2), zR 0, .inl x1, zR 97])) 4 (by decide) hz (by rw [show (.inl (i + 2) : zV) = .inl (w32 (i + 2)) from by rw [w32_id (by omega)]]; rfl) ?_
  refine zG_iald (by decide) hz rfl rfl (.inr rfl) (by omega) ?_
  rw [show M1 0 (i + 2).toNat = x2 from by rw [hx2]; exact hc0 _]
  show zG n (114, 4080270) 300 311 (334, [zR 0, zR 8, zR 97, .inl i], [.inl x2, .inl x1, zR 97]) M1 _
  refine zG_call (by decide) hz zp_189 rfl rfl (Nat.le_of_ble_eq_true rfl) ⟨Nat.le_of_ble_eq_true rfl, Nat.le_of_ble_eq_true rfl⟩ (qm_189_97 (by decide) hJM1.2.1 x1 (by omega) x2 (by omega)) (fun vr M2 hr => ?_)
  obtain ⟨⟨hCM2, hFM2⟩, hr⟩ := hr
  have h6 : M2 98 6 = M1 98 6 := by obtain ⟨x9, -, -, h9⟩ := hr; exact h9
  have hJM2 : qJ M2 := hJM1.mdl hCM2 hFM2 rfl (by decide) h6
  obtain ⟨r2, hv9⟩ := hr
  first | (obtain ⟨rfl, -⟩ := hv9) | (obtain rfl := hv9)
  show zG n (114, 4080270) 300 311 (337, [zR 0, zR 8, zR 97, .inl i], [.inl r2]) M2 _
  refine zG_blk (c' := (2158, [zR 0, zR 8, zR 97, .inl i], [])) 2 (by decide) hz rfl ?_
  exact K M2 hJM2
set_option maxRecDepth 100000 in
theorem qL_3 (hJ : qJ M) (hn : n ≤ 4096) (hi : 0 ≤ i ∧ i + 8 ≤ n) (K : ∀ M', qJ M' → zG n (114, 4080270) 300 311 (2158, [zR 0, zR 8, zR 97, .inl i], []) M' qLQ) : zG n (114, 4080270) 300 311 (341, [zR 0, zR 8, zR 97, .inl i], []) M qLQ := by
  have hz := zp_311
  refine zG_blk (c' := (346, [zR 0, zR 8, zR 97, .inl i], [.inl (i + 1), zR 0, zR 8])) 5 (by decide) hz (by rw [show (.inl (i + 1) : zV) = .inl (w32 (i + 1)) from by rw [w32_id (by omega)]]; rfl) ?_
  refine zG_iald (by decide) hz rfl rfl (.inr rfl) (by omega) ?_
  obtain ⟨x1, hx1⟩ : ∃ x : Int, x = M 0 (i + 1).toNat := ⟨_, rfl⟩
  rw [← hx1]
  have hr1 : qin x1 := by rw [hx1]; exact hJ.1.rng 0 _ (by decide) (by decide)
  show zG n (114, 4080270) 300 311 (347, [zR 0, zR 8, zR 97, .inl i], [.inl x1, zR 8]) M _
  refine zG_blk (c' := (351, [zR 0, zR 8, zR 97, .inl i], [.inl (i + 2), zR 0, .inl x1, zR 8])) 4 (by decide) hz (by rw [show (.inl (i + 2) : zV) = .inl (w32 (i + 2)) from by rw [w32_id (by omega)]]; rfl) ?_
  refine zG_iald (by decide) hz rfl rfl (.inr rfl) (by omega) ?_
  obtain ⟨x2, hx2⟩ : ∃ x : Int, x = M 0 (i + 2).toNat := ⟨_, rfl⟩
  rw [← hx2]
  have hr2 : qin x2 := by rw [hx2]; exact hJ.1.rng 0 _ (by decide) (by decide)
  show zG n (114, 4080270) 300 311 (352, [zR 0, zR 8, zR 97, .inl i], [.inl x2, .inl x1, zR 8]) M _
  refine zG_blk (c' := (356, [zR 0, zR 8, zR 97, .inl i], [.inl (i + 3), zR 0, .inl x2, .inl x1, zR 8])) 4 (by decide) hz (by rw [show (.inl (i + 3) : zV) = .inl (w32 (i + 3)) from by rw [w32_id (by omega)]]; rfl) ?_
  refine zG_iald (by decide) hz rfl rfl (.inr rfl) (by omega) ?_
  obtain ⟨x3, hx3⟩ : ∃ x : Int, x = M 0 (i + 3).toNat := ⟨_, rfl⟩
  rw [← hx3]
  have hr3 : qin x3 := by rw [hx3]; exact hJ.1.rng 0 _ (by decide) (by decide)
  show zG n (114, 4080270) 300 311 (357, [zR 0, zR 8, zR 97, .inl i], [.inl x3, .inl x2, .inl x1, zR 8]) M _
  refine zG_blk (c' := (361, [zR 0, zR 8, zR 97, .inl i], [.inl (i + 4), zR 0, .inl x3, .inl x2, .inl x1, zR 8])) 4 (by decide) hz (by rw [show (.inl (i + 4) : zV) = .inl (w32 (i + 4)) from by rw [w32_id (by omega)]]; rfl) ?_
  refine zG_iald (by decide) hz rfl rfl (.inr rfl) (by omega) ?_
  obtain ⟨x4, hx4⟩ : ∃ x : Int, x = M 0 (i + 4).toNat := ⟨_, rfl⟩
  rw [← hx4]
  have hr4 : qin x4 := by rw [hx4]; exact hJ.1.rng 0 _ (by decide) (by decide)
  show zG n (114, 4080270) 300 311 (362, [zR 0, zR 8, zR 97, .inl i], [.inl x4, .inl x3, .inl x2, .inl x1, zR 8]) M _
  refine zG_call (by decide) hz zp_126 rfl rfl (Nat.le_of_ble_eq_true rfl) ⟨Nat.le_of_ble_eq_true rfl, Nat.le_of_ble_eq_true rfl⟩ (qm_126_8 (by decide) hJ.1 x1 (by omega) x2 (by omega) x3 (by omega) x4 (by omega)) (fun vr M1 hr => ?_)
  obtain ⟨⟨hCM1, hFM1⟩, hr⟩ := hr
  have hJM1 : qJ M1 := hJ.cls hCM1 hFM1 rfl (by decide)
  have hc0 : ∀ j, M1 0 j = M 0 j := fun j => hFM1 0 j (by decide)
  obtain ⟨r1, rfl, -⟩ := hr
  show zG n (114, 4080270) 300 311 (365, [zR 0, zR 8, zR 97, .inl i], [.inl r1]) M1 _
  refine zG_blk (c' := (371, [zR 0, zR 8, zR 97, .inl i], [.inl (i + 1), zR 0, zR 97])) 6 (by decide) hz (by rw [show (.inl (i + 1) : zV) = .inl (w32 (i + 1)) from by rw [w32_id (by omega)]]; rfl) ?_
  refine zG_iald (by decide) hz rfl rfl (.inr rfl) (by omega) ?_
  rw [show M1 0 (i + 1).toNat = x1 from by rw [hx1]; exact hc0 _]
  show zG n (114, 4080270) 300 311 (372, [zR 0, zR 8, zR 97, .inl i], [.inl x1, zR 97]) M1 _
  refine zG_blk (c' := (376, [zR 0, zR 8, zR 97, .inl i], [.inl (i + 2), zR 0, .inl x1, zR 97])) 4 (by decide) hz (by rw [show (.inl (i + 2) : zV) = .inl (w32 (i + 2)) from by rw [w32_id (by omega)]]; rfl) ?_
  refine zG_iald (by decide) hz rfl rfl (.inr rfl) (by omega) ?_
  rw [show M1 0 (i + 2).toNat = x2 from by rw [hx2]; exact hc0 _]
  show zG n (114, 4080270) 300 311 (377, [zR 0, zR 8, zR 97, .inl i], [.inl x2, .inl x1, zR 97]) M1 _
  refine zG_blk (c' := (381, [zR 0, zR 8, zR 97, .inl i], [.inl (i + 3), zR 0, .inl x2, .inl x1, zR 97])) 4 (by decide) hz (by rw [show (.inl (i + 3) : zV) = .inl (w32 (i + 3)) from by rw [w32_id (by omega)]]; rfl) ?_
  refine zG_iald (by decide) hz rfl rfl (.inr rfl) (by omega) ?_
  rw [show M1 0 (i + 3).toNat = x3 from by rw [hx3]; exact hc0 _]
  show zG n (114, 4080270) 300 311 (382, [zR 0, zR 8, zR 97, .inl i], [.inl x3, .inl x2, .inl x1, zR 97]) M1 _
  refine zG_blk (c' := (386, [zR 0, zR 8, zR 97, .inl i], [.inl (i + 4), zR 0, .inl x3, .inl x2, .inl x1, zR 97])) 4 (by decide) hz (by rw [show (.inl (i + 4) : zV) = .inl (w32 (i + 4)) from by rw [w32_id (by omega)]]; rfl) ?_
  refine zG_iald (by decide) hz rfl rfl (.inr rfl) (by omega) ?_
  rw [show M1 0 (i + 4).toNat = x4 from by rw [hx4]; exact hc0 _]
  show zG n (114, 4080270) 300 311 (387, [zR 0, zR 8, zR 97, .inl i], [.inl x4, .inl x3, .inl x2, .inl x1, zR 97]) M1 _
  refine zG_call (by decide) hz zp_190 rfl rfl (Nat.le_of_ble_eq_true rfl) ⟨Nat.le_of_ble_eq_true rfl, Nat.le_of_ble_eq_true rfl⟩ (qm_190_97 (by decide) hJM1.2.1 x1 (by omega) x2 (by omega) x3 (by omega) x4 (by omega)) (fun vr M2 hr => ?_)
  obtain ⟨⟨hCM2, hFM2⟩, hr⟩ := hr
  have h6 : M2 98 6 = M1 98 6 := by obtain ⟨x9, -, -, h9⟩ := hr; exact h9
  have hJM2 : qJ M2 := hJM1.mdl hCM2 hFM2 rfl (by decide) h6
  obtain ⟨r2, hv9⟩ := hr
  first | (obtain ⟨rfl, -⟩ := hv9) | (obtain rfl := hv9)
  show zG n (114, 4080270) 300 311 (390, [zR 0, zR 8, zR 97, .inl i], [.inl r2]) M2 _
  refine zG_blk (c' := (2158, [zR 0, zR 8, zR 97, .inl i], [])) 2 (by decide) hz rfl ?_
  exact K M2 hJM2
set_option maxRecDepth 100000 in
theorem qL_4 (hJ : qJ M) (hn : n ≤ 4096) (hi : 0 ≤ i ∧ i + 8 ≤ n) (K : ∀ M', qJ M' → zG n (114, 4080270) 300 311 (2158, [zR 0, zR 8, zR 97, .inl i], []) M' qLQ) : zG n (114, 4080270) 300 311 (394, [zR 0, zR 8, zR 97, .inl i], []) M qLQ := by
  have hz := zp_311
  refine zG_blk (c' := (399, [zR 0, zR 8, zR 97, .inl i], [.inl (i + 1), zR 0, zR 8])) 5 (by decide) hz (by rw [show (.inl (i + 1) : zV) = .inl (w32 (i + 1)) from by rw [w32_id (by omega)]]; rfl) ?_
  refine zG_iald (by decide) hz rfl rfl (.inr rfl) (by omega) ?_
  obtain ⟨x1, hx1⟩ : ∃ x : Int, x = M 0 (i + 1).toNat := ⟨_, rfl⟩
  rw [← hx1]
  have hr1 : qin x1 := by rw [hx1]; exact hJ.1.rng 0 _ (by decide) (by decide)
  show zG n (114, 4080270) 300 311 (400, [zR 0, zR 8, zR 97, .inl i], [.inl x1, zR 8]) M _
  refine zG_blk (c' := (404, [zR 0, zR 8, zR 97, .inl i], [.inl (i + 2), zR 0, .inl x1, zR 8])) 4 (by decide) hz (by rw [show (.inl (i + 2) : zV) = .inl (w32 (i + 2)) from by rw [w32_id (by omega)]]; rfl) ?_
  refine zG_iald (by decide) hz rfl rfl (.inr rfl) (by omega) ?_
  obtain ⟨x2, hx2⟩ : ∃ x : Int, x = M 0 (i + 2).toNat := ⟨_, rfl⟩
  rw [← hx2]
  have hr2 : qin x2 := by rw [hx2]; exact hJ.1.rng 0 _ (by decide) (by decide)
  show zG n (114, 4080270) 300 311 (405, [zR 0, zR 8, zR 97, .inl i], [.inl x2, .inl x1, zR 8]) M _
  have j413 : ∀ b405 : Int, 0 ≤ b405 ∧ b405 ≤ 1 → zG n (114, 4080270) 300 311 (413, [zR 0, zR 8, zR 97, .inl i], [.inl b405, .inl x1, zR 8]) M qLQ := by
    intro b405 hb405
    refine zG_call (by decide) hz zp_127 rfl rfl (Nat.le_of_ble_eq_true rfl) ⟨Nat.le_of_ble_eq_true rfl, Nat.le_of_ble_eq_true rfl⟩ (qm_127_8 (by decide) hJ.1 x1 (by omega) b405 (by omega)) (fun vr M1 hr => ?_)
    obtain ⟨⟨hCM1, hFM1⟩, hr⟩ := hr
    have hJM1 : qJ M1 := hJ.cls hCM1 hFM1 rfl (by decide)
    have hc0 : ∀ j, M1 0 j = M 0 j := fun j => hFM1 0 j (by decide)
    obtain ⟨r1, rfl, -⟩ := hr
    show zG n (114, 4080270) 300 311 (416, [zR 0, zR 8, zR 97, .inl i], [.inl r1]) M1 _
    refine zG_blk (c' := (422, [zR 0, zR 8, zR 97, .inl i], [.inl (i + 1), zR 0, zR 97])) 6 (by decide) hz (by rw [show (.inl (i + 1) : zV) = .inl (w32 (i + 1)) from by rw [w32_id (by omega)]]; rfl) ?_
    refine zG_iald (by decide) hz rfl rfl (.inr rfl) (by omega) ?_
    rw [show M1 0 (i + 1).toNat = x1 from by rw [hx1]; exact hc0 _]
    show zG n (114, 4080270) 300 311 (423, [zR 0, zR 8, zR 97, .inl i], [.inl x1, zR 97]) M1 _
    refine zG_blk (c' := (427, [zR 0, zR 8, zR 97, .inl i], [.inl (i + 2), zR 0, .inl x1, zR 97])) 4 (by decide) hz (by rw [show (.inl (i + 2) : zV) = .inl (w32 (i + 2)) from by rw [w32_id (by omega)]]; rfl) ?_
    refine zG_iald (by decide) hz rfl rfl (.inr rfl) (by omega) ?_
    rw [show M1 0 (i + 2).toNat = x2 from by rw [hx2]; exact hc0 _]
    show zG n (114, 4080270) 300 311 (428, [zR 0, zR 8, zR 97, .inl i], [.inl x2, .inl x1, zR 97]) M1 _
    have j436 : ∀ b428 : Int, 0 ≤ b428 ∧ b428 ≤ 1 → zG n (114, 4080270) 300 311 (436, [zR 0, zR 8, zR 97, .inl i], [.inl b428, .inl x1, zR 97]) M1 qLQ := by
      intro b428 hb428
      refine zG_call (by decide) hz zp_191 rfl rfl (Nat.le_of_ble_eq_true rfl) ⟨Nat.le_of_ble_eq_true rfl, Nat.le_of_ble_eq_true rfl⟩ (qm_191_97 (by decide) hJM1.2.1 x1 (by omega) b428 (by omega)) (fun vr M2 hr => ?_)
      obtain ⟨⟨hCM2, hFM2⟩, hr⟩ := hr
      have h6 : M2 98 6 = M1 98 6 := by obtain ⟨x9, -, -, h9⟩ := hr; exact h9
      have hJM2 : qJ M2 := hJM1.mdl hCM2 hFM2 rfl (by decide) h6
      obtain ⟨r2, hv9⟩ := hr
      first | (obtain ⟨rfl, -⟩ := hv9) | (obtain rfl := hv9)
      show zG n (114, 4080270) 300 311 (439, [zR 0, zR 8, zR 97, .inl i], [.inl r2]) M2 _
      refine zG_blk (c' := (2158, [zR 0, zR 8, zR 97, .inl i], [])) 2 (by decide) hz rfl ?_
      exact K M2 hJM2
    refine zG_if_eq (by decide) hz rfl (fun _ => ?_) (fun _ => ?_)
    · exact zG_blk (c' := (436, [zR 0, zR 8, zR 97, .inl i], [.inl 0, .inl x1, zR 97])) 1 (by decide) hz rfl (j436 0 (by omega))
    · exact zG_blk (c' := (436, [zR 0, zR 8, zR 97, .inl i], [.inl 1, .inl x1, zR 97])) 2 (by decide) hz rfl (j436 1 (by omega))
  refine zG_if_eq (by decide) hz rfl (fun _ => ?_) (fun _ => ?_)
  · exact zG_blk (c' := (413, [zR 0, zR 8, zR 97, .inl i], [.inl 0, .inl x1, zR 8])) 1 (by decide) hz rfl (j413 0 (by omega))
  · exact zG_blk (c' := (413, [zR 0, zR 8, zR 97, .inl i], [.inl 1, .inl x1, zR 8])) 2 (by decide) hz rfl (j413 1 (by omega))
set_option maxRecDepth 100000 in
theorem qL_5 (hJ : qJ M) (hn : n ≤ 4096) (hi : 0 ≤ i ∧ i + 8 ≤ n) (K : ∀ M', qJ M' → zG n (114, 4080270) 300 311 (2158, [zR 0, zR 8, zR 97, .inl i], []) M' qLQ) : zG n (114, 4080270) 300 311 (443, [zR 0, zR 8, zR 97, .inl i], []) M qLQ := by
  have hz := zp_311
  refine zG_blk (c' := (448, [zR 0, zR 8, zR 97, .inl i], [.inl (i + 1), zR 0, zR 8])) 5 (by decide) hz (by rw [show (.inl (i + 1) : zV) = .inl (w32 (i + 1)) from by rw [w32_id (by omega)]]; rfl) ?_
  refine zG_iald (by decide) hz rfl rfl (.inr rfl) (by omega) ?_
  obtain ⟨x1, hx1⟩ : ∃ x : Int, x = M 0 (i + 1).toNat := ⟨_, rfl⟩
  rw [← hx1]
  have hr1 : qin x1 := by rw [hx1]; exact hJ.1.rng 0 _ (by decide) (by decide)
  show zG n (114, 4080270) 300 311 (449, [zR 0, zR 8, zR 97, .inl i], [.inl x1, zR 8]) M _
  refine zG_call (by decide) hz zp_128 rfl rfl (Nat.le_of_ble_eq_true rfl) ⟨Nat.le_of_ble_eq_true rfl, Nat.le_of_ble_eq_true rfl⟩ (qm_128_8 (by decide) hJ.1 x1 (by omega)) (fun vr M1 hr => ?_)
  obtain ⟨hq, hr⟩ := hr
  replace hq := hq.symm; subst hq
  have hc0 : ∀ j, M 0 j = M 0 j := fun _ => rfl
  obtain ⟨r1, rfl, -⟩ := hr
  show zG n (114, 4080270) 300 311 (452, [zR 0, zR 8, zR 97, .inl i], [.inl r1]) M _
  refine zG_blk (c' := (458, [zR 0, zR 8, zR 97, .inl i], [.inl (i + 1), zR 0, zR 97])) 6 (by decide) hz (by rw [show (.inl (i + 1) : zV) = .inl (w32 (i + 1)) from by rw [w32_id (by omega)]]; rfl) ?_
  refine zG_iald (by decide) hz rfl rfl (.inr rfl) (by omega) ?_
  rw [show M 0 (i + 1).toNat = x1 from hx1.symm]
  show zG n (114, 4080270) 300 311 (459, [zR 0, zR 8, zR 97, .inl i], [.inl x1, zR 97]) M _
  refine zG_call (by decide) hz zp_193 rfl rfl (Nat.le_of_ble_eq_true rfl) ⟨Nat.le_of_ble_eq_true rfl, Nat.le_of_ble_eq_true rfl⟩ (qm_193_97 (by decide) hJ.2.1 x1 (by omega)) (fun vr M2 hr => ?_)
  obtain ⟨hq, hr⟩ := hr
  replace hq := hq.symm; subst hq
  obtain ⟨r2, hv9⟩ := hr
  first | (obtain ⟨rfl, -⟩ := hv9) | (obtain rfl := hv9)
  show zG n (114, 4080270) 300 311 (462, [zR 0, zR 8, zR 97, .inl i], [.inl r2]) M _
  refine zG_blk (c' := (2158, [zR 0, zR 8, zR 97, .inl i], [])) 2 (by decide) hz rfl ?_
  exact K M hJ
set_option maxRecDepth 100000 in
theorem qL_6 (hJ : qJ M) (hn : n ≤ 4096) (hi : 0 ≤ i ∧ i + 8 ≤ n) (K : ∀ M', qJ M' → zG n (114, 4080270) 300 311 (2158, [zR 0, zR 8, zR 97, .inl i], []) M' qLQ) : zG n (114, 4080270) 300 311 (466, [zR 0, zR 8, zR 97, .inl i], []) M qLQ := by
  have hz := zp_311
  refine zG_blk (c' := (471, [zR 0, zR 8, zR 97, .inl i], [.inl (i + 1), zR 0, zR 8])) 5 (by decide) hz (by rw [show (.inl (i + 1) : zV) = .inl (w32 (i + 1)) from by rw [w32_id (by omega)]]; rfl) ?_
  refine zG_iald (by decide) hz rfl rfl (.inr rfl) (by omega) ?_
  obtain ⟨x1, hx1⟩ : ∃ x : Int, x = M 0 (i + 1).toNat := ⟨_, rfl⟩
  rw [← hx1]
  have hr1 : qin x1 := by rw [hx1]; exact hJ.1.rng 0 _ (by decide) (by decide)
  show zG n (114, 4080270) 300 311 (472, [zR 0, zR 8, zR 97, .inl i], [.inl x1, zR 8]) M _
  refine zG_blk (c' := (476, [zR 0, zR 8, zR 97, .inl i], [.inl (i + 2), zR 0, .inl x1, zR 8])) 4 (by decide) hz (by rw [show (.inl (i + 2) : zV) = .inl (w32 (i + 2)) from by rw [w32_id (by omega)]]; rfl) ?_
  refine zG_iald (by decide) hz rfl rfl (.inr rfl) (by omega) ?_
  obtain ⟨x2, hx2⟩ : ∃ x : Int, x = M 0 (i + 2).toNat := ⟨_, rfl⟩
  rw [← hx2]
  have hr2 : qin x2 := by rw [hx2]; exact hJ.1.rng 0 _ (by decide) (by decide)
  show zG n (114, 4080270) 300 311 (477, [zR 0, zR 8, zR 97, .inl i], [.inl x2, .inl x1, zR 8]) M _
  refine zG_blk (c' := (481, [zR 0, zR 8, zR 97, .inl i], [.inl (i + 3), zR 0, .inl x2, .inl x1, zR 8])) 4 (by decide) hz (by rw [show (.inl (i + 3) : zV) = .inl (w32 (i + 3)) from by rw [w32_id (by omega)]]; rfl) ?_
  refine zG_iald (by decide) hz rfl rfl (.inr rfl) (by omega) ?_
  obtain ⟨x3, hx3⟩ : ∃ x : Int, x = M 0 (i + 3).toNat := ⟨_, rfl⟩
  rw [← hx3]
  have hr3 : qin x3 := by rw [hx3]; exact hJ.1.rng 0 _ (by decide) (by decide)
  show zG n (114, 4080270) 300 311 (482, [zR 0, zR 8, zR 97, .inl i], [.inl x3, .inl x2, .inl x1, zR 8]) M _
  refine zG_blk (c' := (486, [zR 0, zR 8, zR 97, .inl i], [.inl (i + 4), zR 0, .inl x3, .inl x2, .inl x1, zR 8])) 4 (by decide) hz (by rw [show (.inl (i + 4) : zV) = .inl (w32 (i + 4)) from by rw [w32_id (by omega)]]; rfl) ?_
  refine zG_iald (by decide) hz rfl rfl (.inr rfl) (by omega) ?_
  obtain ⟨x4, hx4⟩ : ∃ x : Int, x = M 0 (i + 4).toNat := ⟨_, rfl⟩
  rw [← hx4]
  have hr4 : qin x4 := by rw [hx4]; exact hJ.1.rng 0 _ (by decide) (by decide)
  show zG n (114, 4080270) 300 311 (487, [zR 0, zR 8, zR 97, .inl i], [.inl x4, .inl x3, .inl x2, .inl x1, zR 8]) M _
  refine zG_blk (c' := (491, [zR 0, zR 8, zR 97, .inl i], [.inl (i + 5), zR 0, .inl x4, .inl x3, .inl x2, .inl x1, zR 8])) 4 (by decide) hz (by rw [show (.inl (i + 5) : zV) = .inl (w32 (i + 5)) from by rw [w32_id (by omega)]]; rfl) ?_
  refine zG_iald (by decide) hz rfl rfl (.inr rfl) (by omega) ?_
  obtain ⟨x5, hx5⟩ : ∃ x : Int, x = M 0 (i + 5).toNat := ⟨_, rfl⟩
  rw [← hx5]
  have hr5 : qin x5 := by rw [hx5]; exact hJ.1.rng 0 _ (by decide) (by decide)
  show zG n (114, 4080270) 300 311 (492, [zR 0, zR 8, zR 97, .inl i], [.inl x5, .inl x4, .inl x3, .inl x2, .inl x1, zR 8]) M _
  refine zG_blk (c' := (497, [zR 0, zR 8, zR 97, .inl i], [.inl (i + 6), zR 0, .inl x5, .inl x4, .inl x3, .inl x2, .inl x1, zR 8])) 4 (by decide) hz (by rw [show (.inl (i + 6) : zV) = .inl (w32 (i + 6)) from by rw [w32_id (by omega)]]; rfl) ?_
  refine zG_iald (by decide) hz rfl rfl (.inr rfl) (by omega) ?_
  obtain ⟨x6, hx6⟩ : ∃ x : Int, x = M 0 (i + 6).toNat := ⟨_, rfl⟩
  rw [← hx6]
  have hr6 : qin x6 := by rw [hx6]; exact hJ.1.rng 0 _ (by decide) (by decide)
  show zG n (114, 4080270) 300 311 (498, [zR 0, zR 8, zR 97, .inl i], [.inl x6, .inl x5, .inl x4, .inl x3, .inl x2, .inl x1, zR 8]) M _
  refine zG_call (by decide) hz zp_129 rfl rfl (Nat.le_of_ble_eq_true rfl) ⟨Nat.le_of_ble_eq_true rfl, Nat.le_of_ble_eq_true rfl⟩ (qm_129_8 (by decide) hJ.1 x1 (by omega) x2 (by omega) x3 (by omega) x4 (by omega) x5 (by omega) x6 (by omega)) (fun vr M1 hr => ?_)
  obtain ⟨⟨hCM1, hFM1⟩, hr⟩ := hr
  have hJM1 : qJ M1 := hJ.cls hCM1 hFM1 rfl (by decide)
  have hc0 : ∀ j, M1 0 j = M 0 j := fun j => hFM1 0 j (by decide)
  obtain ⟨r1, rfl, -⟩ := hr
  show zG n (114, 4080270) 300 311 (501, [zR 0, zR 8, zR 97, .inl i], [.inl r1]) M1 _
  refine zG_blk (c' := (507, [zR 0, zR 8, zR 97, .inl i], [.inl (i + 1), zR 0, zR 97])) 6 (by decide) hz (by rw [show (.inl (i + 1) : zV) = .inl (w32 (i + 1)) from by rw [w32_id (by omega)]]; rfl) ?_
  refine zG_iald (by decide) hz rfl rfl (.inr rfl) (by omega) ?_
  rw [show M1 0 (i + 1).toNat = x1 from by rw [hx1]; exact hc0 _]
  show zG n (114, 4080270) 300 311 (508, [zR 0, zR 8, zR 97, .inl i], [.inl x1, zR 97]) M1 _
  refine zG_blk (c' := (512, [zR 0, zR 8, zR 97, .inl i], [.inl (i + 2), zR 0, .inl x1, zR 97])) 4 (by decide) hz (by rw [show (.inl (i + 2) : zV) = .inl (w32 (i + 2)) from by rw [w32_id (by omega)]]; rfl) ?_
  refine zG_iald (by decide) hz rfl rfl (.inr rfl) (by omega) ?_
  rw [show M1 0 (i + 2).toNat = x2 from by rw [hx2]; exact hc0 _]
  show zG n (114, 4080270) 300 311 (513, [zR 0, zR 8, zR 97, .inl i], [.inl x2, .inl x1, zR 97]) M1 _
  refine zG_blk (c' := (517, [zR 0, zR 8, zR 97, .inl i], [.inl (i + 3), zR 0, .inl x2, .inl x1, zR 97])) 4 (by decide) hz (by rw [show (.inl (i + 3) : zV) = .inl (w32 (i + 3)) from by rw [w32_id (by omega)]]; rfl) ?_
  refine zG_iald (by decide) hz rfl rfl (.inr rfl) (by omega) ?_
  rw [show M1 0 (i + 3).toNat = x3 from by rw [hx3]; exact hc0 _]
  show zG n (114, 4080270) 300 311 (518, [zR 0, zR 8, zR 97, .inl i], [.inl x3, .inl x2, .inl x1, zR 97]) M1 _
  refine zG_blk (c' := (522, [zR 0, zR 8, zR 97, .inl i], [.inl (i + 4), zR 0, .inl x3, .inl x2, .inl x1, zR 97])) 4 (by decide) hz (by rw [show (.inl (i + 4) : zV) = .inl (w32 (i + 4)) from by rw [w32_id (by omega)]]; rfl) ?_
  refine zG_iald (by decide) hz rfl rfl (.inr rfl) (by omega) ?_
  rw [show M1 0 (i + 4).toNat = x4 from by rw [hx4]; exact hc0 _]
  show zG n (114, 4080270) 300 311 (523, [zR 0, zR 8, zR 97, .inl i], [.inl x4, .inl x3, .inl x2, .inl x1, zR 97]) M1 _
  refine zG_blk (c' := (527, [zR 0, zR 8, zR 97, .inl i], [.inl (i + 5), zR 0, .inl x4, .inl x3, .inl x2, .inl x1, zR 97])) 4 (by decide) hz (by rw [show (.inl (i + 5) : zV) = .inl (w32 (i + 5)) from by rw [w32_id (by omega)]]; rfl) ?_
  refine zG_iald (by decide) hz rfl rfl (.inr rfl) (by omega) ?_
  rw [show M1 0 (i + 5).toNat = x5 from by rw [hx5]; exact hc0 _]
  show zG n (114, 4080270) 300 311 (528, [zR 0, zR 8, zR 97, .inl i], [.inl x5, .inl x4, .inl x3, .inl x2, .inl x1, zR 97]) M1 _
  refine zG_blk (c' := (533, [zR 0, zR 8, zR 97, .inl i], [.inl (i + 6), zR 0, .inl x5, .inl x4, .inl x3, .inl x2, .inl x1, zR 97])) 4 (by decide) hz (by rw [show (.inl (i + 6) : zV) = .inl (w32 (i + 6)) from by rw [w32_id (by omega)]]; rfl) ?_
  refine zG_iald (by decide) hz rfl rfl (.inr rfl) (by omega) ?_
  rw [show M1 0 (i + 6).toNat = x6 from by rw [hx6]; exact hc0 _]
  show zG n (114, 4080270) 300 311 (534, [zR 0, zR 8, zR 97, .inl i], [.inl x6, .inl x5, .inl x4, .inl x3, .inl x2, .inl x1, zR 97]) M1 _
  refine zG_call (by decide) hz zp_201 rfl rfl (Nat.le_of_ble_eq_true rfl) ⟨Nat.le_of_ble_eq_true rfl, Nat.le_of_ble_eq_true rfl⟩ (qm_201_97 (by decide) hJM1.2.1 x1 (by omega) x2 (by omega) x3 (by omega) x4 (by omega) x5 (by omega) x6 (by omega)) (fun vr M2 hr => ?_)
  obtain ⟨⟨hCM2, hFM2⟩, hr⟩ := hr
  have h6 : M2 98 6 = M1 98 6 := by obtain ⟨x9, -, -, h9⟩ := hr; exact h9
  have hJM2 : qJ M2 := hJM1.mdl hCM2 hFM2 rfl (by decide) h6
  obtain ⟨r2, hv9⟩ := hr
  first | (obtain ⟨rfl, -⟩ := hv9) | (obtain rfl := hv9)
  show zG n (114, 4080270) 300 311 (537, [zR 0, zR 8, zR 97, .inl i], [.inl r2]) M2 _
  refine zG_blk (c' := (2158, [zR 0, zR 8, zR 97, .inl i], [])) 2 (by decide) hz rfl ?_
  exact K M2 hJM2
set_option maxRecDepth 100000 in
theorem qL_7 (hJ : qJ M) (hn : n ≤ 4096) (hi : 0 ≤ i ∧ i + 8 ≤ n) (K : ∀ M', qJ M' → zG n (114, 4080270) 300 311 (2158, [zR 0, zR 8, zR 97, .inl i], []) M' qLQ) : zG n (114, 4080270) 300 311 (541, [zR 0, zR 8, zR 97, .inl i], []) M qLQ := by
  have hz := zp_311
  refine zG_blk (c' := (546, [zR 0, zR 8, zR 97, .inl i], [.inl (i + 1), zR 0, zR 8])) 5 (by decide) hz (by rw [show (.inl (i + 1) : zV) = .inl (w32 (i + 1)) from by rw [w32_id (by omega)]]; rfl) ?_
  refine zG_iald (by decide) hz rfl rfl (.inr rfl) (by omega) ?_
  obtain ⟨x1, hx1⟩ : ∃ x : Int, x = M 0 (i + 1).toNat := ⟨_, rfl⟩
  rw [← hx1]
  have hr1 : qin x1 := by rw [hx1]; exact hJ.1.rng 0 _ (by decide) (by decide)
  show zG n (114, 4080270) 300 311 (547, [zR 0, zR 8, zR 97, .inl i], [.inl x1, zR 8]) M _
  refine zG_blk (c' := (551, [zR 0, zR 8, zR 97, .inl i], [.inl (i + 2), zR 0, .inl x1, zR 8])) 4 (by decide) hz (by rw [show (.inl (i + 2) : zV) = .inl (w32 (i + 2)) from by rw [w32_id (by omega)]]; rfl) ?_
  refine zG_iald (by decide) hz rfl rfl (.inr rfl) (by omega) ?_
  obtain ⟨x2, hx2⟩ : ∃ x : Int, x = M 0 (i + 2).toNat := ⟨_, rfl⟩
  rw [← hx2]
  have hr2 : qin x2 := by rw [hx2]; exact hJ.1.rng 0 _ (by decide) (by decide)
  show zG n (114, 4080270) 300 311 (552, [zR 0, zR 8, zR 97, .inl i], [.inl x2, .inl x1, zR 8]) M _
  refine zG_blk (c' := (556, [zR 0, zR 8, zR 97, .inl i], [.inl (i + 3), zR 0, .inl x2, .inl x1, zR 8])) 4 (by decide) hz (by rw [show (.inl (i + 3) : zV) = .inl (w32 (i + 3)) from by rw [w32_id (by omega)]]; rfl) ?_
  refine zG_iald (by decide) hz rfl rfl (.inr rfl) (by omega) ?_
  obtain ⟨x3, hx3⟩ : ∃ x : Int, x = M 0 (i + 3).toNat := ⟨_, rfl⟩
  rw [← hx3]
  have hr3 : qin x3 := by rw [hx3]; exact hJ.1.rng 0 _ (by decide) (by decide)
  show zG n (114, 4080270) 300 311 (557, [zR 0, zR 8, zR 97, .inl i], [.inl x3, .inl x2, .inl x1, zR 8]) M _
  refine zG_blk (c' := (561, [zR 0, zR 8, zR 97, .inl i], [.inl (i + 4), zR 0, .inl x3, .inl x2, .inl x1, zR 8])) 4 (by decide) hz (by rw [show (.inl (i + 4) : zV) = .inl (w32 (i + 4)) from by rw [w32_id (by omega)]]; rfl) ?_
  refine zG_iald (by decide) hz rfl rfl (.inr rfl) (by omega) ?_
  obtain ⟨x4, hx4⟩ : ∃ x : Int, x = M 0 (i + 4).toNat := ⟨_, rfl⟩
  rw [← hx4]
  have hr4 : qin x4 := by rw [hx4]; exact hJ.1.rng 0 _ (by decide) (by decide)
  show zG n (114, 4080270) 300 311 (562, [zR 0, zR 8, zR 97, .inl i], [.inl x4, .inl x3, .inl x2, .inl x1, zR 8]) M _
  refine zG_blk (c' := (566, [zR 0, zR 8, zR 97, .inl i], [.inl (i + 5), zR 0, .inl x4, .inl x3, .inl x2, .inl x1, zR 8])) 4 (by decide) hz (by rw [show (.inl (i + 5) : zV) = .inl (w32 (i + 5)) from by rw [w32_id (by omega)]]; rfl) ?_
  refine zG_iald (by decide) hz rfl rfl (.inr rfl) (by omega) ?_
  obtain ⟨x5, hx5⟩ : ∃ x : Int, x = M 0 (i + 5).toNat := ⟨_, rfl⟩
  rw [← hx5]
  have hr5 : qin x5 := by rw [hx5]; exact hJ.1.rng 0 _ (by decide) (by decide)
  show zG n (114, 4080270) 300 311 (567, [zR 0, zR 8, zR 97, .inl i], [.inl x5, .inl x4, .inl x3, .inl x2, .inl x1, zR 8]) M _
  refine zG_call (by decide) hz zp_130 rfl rfl (Nat.le_of_ble_eq_true rfl) ⟨Nat.le_of_ble_eq_true rfl, Nat.le_of_ble_eq_true rfl⟩ (qm_130_8 (by decide) hJ.1 x1 (by omega) x2 (by omega) x3 (by omega) x4 (by omega) x5 (by omega)) (fun vr M1 hr => ?_)
  obtain ⟨⟨hCM1, hFM1⟩, hr⟩ := hr
  have hJM1 : qJ M1 := hJ.cls hCM1 hFM1 rfl (by decide)
  have hc0 : ∀ j, M1 0 j = M 0 j := fun j => hFM1 0 j (by decide)
  obtain ⟨r1, rfl, -⟩ := hr
  show zG n (114, 4080270) 300 311 (570, [zR 0, zR 8, zR 97, .inl i], [.inl r1]) M1 _
  refine zG_blk (c' := (576, [zR 0, zR 8, zR 97, .inl i], [.inl (i + 1), zR 0, zR 97])) 6 (by decide) hz (by rw [show (.inl (i + 1) : zV) = .inl (w32 (i + 1)) from by rw [w32_id (by omega)]]; rfl) ?_
  refine zG_iald (by decide) hz rfl rfl (.inr rfl) (by omega) ?_
  rw [show M1 0 (i + 1).toNat = x1 from by rw [hx1]; exact hc0 _]
  show zG n (114, 4080270) 300 311 (577, [zR 0, zR 8, zR 97, .inl i], [.inl x1, zR 97]) M1 _
  refine zG_blk (c' := (581, [zR 0, zR 8, zR 97, .inl i], [.inl (i + 2), zR 0, .inl x1, zR 97])) 4 (by decide) hz (by rw [show (.inl (i + 2) : zV) = .inl (w32 (i + 2)) from by rw [w32_id (by omega)]]; rfl) ?_
  refine zG_iald (by decide) hz rfl rfl (.inr rfl) (by omega) ?_
  rw [show M1 0 (i + 2).toNat = x2 from by rw [hx2]; exact hc0 _]
  show zG n (114, 4080270) 300 311 (582, [zR 0, zR 8, zR 97, .inl i], [.inl x2, .inl x1, zR 97]) M1 _
  refine zG_blk (c' := (586, [zR 0, zR 8, zR 97, .inl i], [.inl (i + 3), zR 0, .inl x2, .inl x1, zR 97])) 4 (by decide) hz (by rw [show (.inl (i + 3) : zV) = .inl (w32 (i + 3)) from by rw [w32_id (by omega)]]; rfl) ?_
  refine zG_iald (by decide) hz rfl rfl (.inr rfl) (by omega) ?_
  rw [show M1 0 (i + 3).toNat = x3 from by rw [hx3]; exact hc0 _]
  show zG n (114, 4080270) 300 311 (587, [zR 0, zR 8, zR 97, .inl i], [.inl x3, .inl x2, .inl x1, zR 97]) M1 _
  refine zG_blk (c' := (591, [zR 0, zR 8, zR 97, .inl i], [.inl (i + 4), zR 0, .inl x3, .inl x2, .inl x1, zR 97])) 4 (by decide) hz (by rw [show (.inl (i + 4) : zV) = .inl (w32 (i + 4)) from by rw [w32_id (by omega)]]; rfl) ?_
  refine zG_iald (by decide) hz rfl rfl (.inr rfl) (by omega) ?_
  rw [show M1 0 (i + 4).toNat = x4 from by rw [hx4]; exact hc0 _]
  show zG n (114, 4080270) 300 311 (592, [zR 0, zR 8, zR 97, .inl i], [.inl x4, .inl x3, .inl x2, .inl x1, zR 97]) M1 _
  refine zG_blk (c' := (596, [zR 0, zR 8, zR 97, .inl i], [.inl (i + 5), zR 0, .inl x4, .inl x3, .inl x2, .inl x1, zR 97])) 4 (by decide) hz (by rw [show (.inl (i + 5) : zV) = .inl (w32 (i + 5)) from by rw [w32_id (by omega)]]; rfl) ?_
  refine zG_iald (by decide) hz rfl rfl (.inr rfl) (by omega) ?_
  rw [show M1 0 (i + 5).toNat = x5 from by rw [hx5]; exact hc0 _]
  show zG n (114, 4080270) 300 311 (597, [zR 0, zR 8, zR 97, .inl i], [.inl x5, .inl x4, .inl x3, .inl x2, .inl x1, zR 97]) M1 _
  refine zG_call (by decide) hz zp_202 rfl rfl (Nat.le_of_ble_eq_true rfl) ⟨Nat.le_of_ble_eq_true rfl, Nat.le_of_ble_eq_true rfl⟩ (qm_202_97 (by decide) hJM1.2.1 x1 (by omega) x2 (by omega) x3 (by omega) x4 (by omega) x5 (by omega)) (fun vr M2 hr => ?_)
  obtain ⟨⟨hCM2, hFM2⟩, hr⟩ := hr
  have h6 : M2 98 6 = M1 98 6 := by obtain ⟨x9, -, -, h9⟩ := hr; exact h9
  have hJM2 : qJ M2 := hJM1.mdl hCM2 hFM2 rfl (by decide) h6
  obtain ⟨r2, hv9⟩ := hr
  first | (obtain ⟨rfl, -⟩ := hv9) | (obtain rfl := hv9)
  show zG n (114, 4080270) 300 311 (600, [zR 0, zR 8, zR 97, .inl i], [.inl r2]) M2 _
  refine zG_blk (c' := (2158, [zR 0, zR 8, zR 97, .inl i], [])) 2 (by decide) hz rfl ?_
  exact K M2 hJM2
set_option maxRecDepth 100000 in
theorem qL_8 (hJ : qJ M) (hn : n ≤ 4096) (hi : 0 ≤ i ∧ i + 8 ≤ n) (K : ∀ M', qJ M' → zG n (114, 4080270) 300 311 (2158, [zR 0, zR 8, zR 97, .inl i], []) M' qLQ) : zG n (114, 4080270) 300 311 (604, [zR 0, zR 8, zR 97, .inl i], []) M qLQ := by
  have hz := zp_311
  refine zG_blk (c' := (609, [zR 0, zR 8, zR 97, .inl i], [.inl (i + 1), zR 0, zR 8])) 5 (by decide) hz (by rw [show (.inl (i + 1) : zV) = .inl (w32 (i + 1)) from by rw [w32_id (by omega)]]; rfl) ?_
  refine zG_iald (by decide) hz rfl rfl (.inr rfl) (by omega) ?_
  obtain ⟨x1, hx1⟩ : ∃ x : Int, x = M 0 (i + 1).toNat := ⟨_, rfl⟩
  rw [← hx1]
  have hr1 : qin x1 := by rw [hx1]; exact hJ.1.rng 0 _ (by decide) (by decide)
  show zG n (114, 4080270) 300 311 (610, [zR 0, zR 8, zR 97, .inl i], [.inl x1, zR 8]) M _
  refine zG_blk (c' := (614, [zR 0, zR 8, zR 97, .inl i], [.inl (i + 2), zR 0, .inl x1, zR 8])) 4 (by decide) hz (by rw [show (.inl (i + 2) : zV) = .inl (w32 (i + 2)) from by rw [w32_id (by omega)]]; rfl) ?_
  refine zG_iald (by decide) hz rfl rfl (.inr rfl) (by omega) ?_
  obtain ⟨x2, hx2⟩ : ∃ x : Int, x = M 0 (i + 2).toNat := ⟨_, rfl⟩
  rw [← hx2]
  have hr2 : qin x2 := by rw [hx2]; exact hJ.1.rng 0 _ (by decide) (by decide)
  show zG n (114, 4080270) 300 311 (615, [zR 0, zR 8, zR 97, .inl i], [.inl x2, .inl x1, zR 8]) M _
  refine zG_blk (c' := (619, [zR 0, zR 8, zR 97, .inl i], [.inl (i + 3), zR 0, .inl x2, .inl x1, zR 8])) 4 (by decide) hz (by rw [show (.inl (i + 3) : zV) = .inl (w32 (i + 3)) from by rw [w32_id (by omega)]]; rfl) ?_
  refine zG_iald (by decide) hz rfl rfl (.inr rfl) (by omega) ?_
  obtain ⟨x3, hx3⟩ : ∃ x : Int, x = M 0 (i + 3).toNat := ⟨_, rfl⟩
  rw [← hx3]
  have hr3 : qin x3 := by rw [hx3]; exact hJ.1.rng 0 _ (by decide) (by decide)
  show zG n (114, 4080270) 300 311 (620, [zR 0, zR 8, zR 97, .inl i], [.inl x3, .inl x2, .inl x1, zR 8]) M _
  refine zG_blk (c' := (624, [zR 0, zR 8, zR 97, .inl i], [.inl (i + 4), zR 0, .inl x3, .inl x2, .inl x1, zR 8])) 4 (by decide) hz (by rw [show (.inl (i + 4) : zV) = .inl (w32 (i + 4)) from by rw [w32_id (by omega)]]; rfl) ?_
  refine zG_iald (by decide) hz rfl rfl (.inr rfl) (by omega) ?_
  obtain ⟨x4, hx4⟩ : ∃ x : Int, x = M 0 (i + 4).toNat := ⟨_, rfl⟩
  rw [← hx4]
  have hr4 : qin x4 := by rw [hx4]; exact hJ.1.rng 0 _ (by decide) (by decide)
  show zG n (114, 4080270) 300 311 (625, [zR 0, zR 8, zR 97, .inl i], [.inl x4, .inl x3, .inl x2, .inl x1, zR 8]) M _
  refine zG_call (by decide) hz zp_131 rfl rfl (Nat.le_of_ble_eq_true rfl) ⟨Nat.le_of_ble_eq_true rfl, Nat.le_of_ble_eq_true rfl⟩ (qm_131_8 (by decide) hJ.1 x1 (by omega) x2 (by omega) x3 (by omega) x4 (by omega)) (fun vr M1 hr => ?_)
  obtain ⟨⟨hCM1, hFM1⟩, hr⟩ := hr
  have hJM1 : qJ M1 := hJ.cls hCM1 hFM1 rfl (by decide)
  have hc0 : ∀ j, M1 0 j = M 0 j := fun j => hFM1 0 j (by decide)
  obtain ⟨r1, rfl, -⟩ := hr
  show zG n (114, 4080270) 300 311 (628, [zR 0, zR 8, zR 97, .inl i], [.inl r1]) M1 _
  refine zG_blk (c' := (634, [zR 0, zR 8, zR 97, .inl i], [.inl (i + 1), zR 0, zR 97])) 6 (by decide) hz (by rw [show (.inl (i + 1) : zV) = .inl (w32 (i + 1)) from by rw [w32_id (by omega)]]; rfl) ?_
  refine zG_iald (by decide) hz rfl rfl (.inr rfl) (by omega) ?_
  rw [show M1 0 (i + 1).toNat = x1 from by rw [hx1]; exact hc0 _]
  show zG n (114, 4080270) 300 311 (635, [zR 0, zR 8, zR 97, .inl i], [.inl x1, zR 97]) M1 _
  refine zG_blk (c' := (639, [zR 0, zR 8, zR 97, .inl i], [.inl (i + 2), zR 0, .inl x1, zR 97])) 4 (by decide) hz (by rw [show (.inl (i + 2) : zV) = .inl (w32 (i + 2)) from by rw [w32_id (by omega)]]; rfl) ?_
  refine zG_iald (by decide) hz rfl rfl (.inr rfl) (by omega) ?_
  rw [show M1 0 (i + 2).toNat = x2 from by rw [hx2]; exact hc0 _]
  show zG n (114, 4080270) 300 311 (640, [zR 0, zR 8, zR 97, .inl i], [.inl x2, .inl x1, zR 97]) M1 _
  refine zG_blk (c' := (644, [zR 0, zR 8, zR 97, .inl i], [.inl (i + 3), zR 0, .inl x2, .inl x1, zR 97])) 4 (by decide) hz (by rw [show (.inl (i + 3) : zV) = .inl (w32 (i + 3)) from by rw [w32_id (by omega)]]; rfl) ?_
  refine zG_iald (by decide) hz rfl rfl (.inr rfl) (by omega) ?_
  rw [show M1 0 (i + 3).toNat = x3 from by rw [hx3]; exact hc0 _]
  show zG n (114, 4080270) 300 311 (645, [zR 0, zR 8, zR 97, .inl i], [.inl x3, .inl x2, .inl x1, zR 97]) M1 _
  refine zG_blk (c' := (649, [zR 0, zR 8, zR 97, .inl i], [.inl (i + 4), zR 0, .inl x3, .inl x2, .inl x1, zR 97])) 4 (by decide) hz (by rw [show (.inl (i + 4) : zV) = .inl (w32 (i + 4)) from by rw [w32_id (by omega)]]; rfl) ?_
  refine zG_iald (by decide) hz rfl rfl (.inr rfl) (by omega) ?_
  rw [show M1 0 (i + 4).toNat = x4 from by rw [hx4]; exact hc0 _]
  show zG n (114, 4080270) 300 311 (650, [zR 0, zR 8, zR 97, .inl i], [.inl x4, .inl x3, .inl x2, .inl x1, zR 97]) M1 _
  refine zG_call (by decide) hz zp_203 rfl rfl (Nat.le_of_ble_eq_true rfl) ⟨Nat.le_of_ble_eq_true rfl, Nat.le_of_ble_eq_true rfl⟩ (qm_203_97 (by decide) hJM1.2.1 x1 (by omega) x2 (by omega) x3 (by omega) x4 (by omega)) (fun vr M2 hr => ?_)
  obtain ⟨⟨hCM2, hFM2⟩, hr⟩ := hr
  have h6 : M2 98 6 = M1 98 6 := by obtain ⟨x9, -, -, h9⟩ := hr; exact h9
  have hJM2 : qJ M2 := hJM1.mdl hCM2 hFM2 rfl (by decide) h6
  obtain ⟨r2, hv9⟩ := hr
  first | (obtain ⟨rfl, -⟩ := hv9) | (obtain rfl := hv9)
  show zG n (114, 4080270) 300 311 (653, [zR 0, zR 8, zR 97, .inl i], [.inl r2]) M2 _
  refine zG_blk (c' := (2158, [zR 0, zR 8, zR 97, .inl i], [])) 2 (by decide) hz rfl ?_
  exact K M2 hJM2
set_option maxRecDepth 100000 in
theorem qL_9 (hJ : qJ M) (hn : n ≤ 4096) (hi : 0 ≤ i ∧ i + 8 ≤ n) (K : ∀ M', qJ M' → zG n (114, 4080270) 300 311 (2158, [zR 0, zR 8, zR 97, .inl i], []) M' qLQ) : zG n (114, 4080270) 300 311 (657, [zR 0, zR 8, zR 97, .inl i], []) M qLQ := by
  have hz := zp_311
  refine zG_blk (c' := (662, [zR 0, zR 8, zR 97, .inl i], [.inl (i + 1), zR 0, zR 8])) 5 (by decide) hz (by rw [show (.inl (i + 1) : zV) = .inl (w32 (i + 1)) from by rw [w32_id (by omega)]]; rfl) ?_
  refine zG_iald (by decide) hz rfl rfl (.inr rfl) (by omega) ?_
  obtain ⟨x1, hx1⟩ : ∃ x : Int, x = M 0 (i + 1).toNat := ⟨_, rfl⟩
  rw [← hx1]
  have hr1 : qin x1 := by rw [hx1]; exact hJ.1.rng 0 _ (by decide) (by decide)
  show zG n (114, 4080270) 300 311 (663, [zR 0, zR 8, zR 97, .inl i], [.inl x1, zR 8]) M _
  refine zG_blk (c' := (667, [zR 0, zR 8, zR 97, .inl i], [.inl (i + 2), zR 0, .inl x1, zR 8])) 4 (by decide) hz (by rw [show (.inl (i + 2) : zV) = .inl (w32 (i + 2)) from by rw [w32_id (by omega)]]; rfl) ?_
  refine zG_iald (by decide) hz rfl rfl (.inr rfl) (by omega) ?_
  obtain ⟨x2, hx2⟩ : ∃ x : Int, x = M 0 (i + 2).toNat := ⟨_, rfl⟩
  rw [← hx2]
  have hr2 : qin x2 := by rw [hx2]; exact hJ.1.rng 0 _ (by decide) (by decide)
  show zG n (114, 4080270) 300 311 (668, [zR 0, zR 8, zR 97, .inl i], [.inl x2, .inl x1, zR 8]) M _
  refine zG_blk (c' := (672, [zR 0, zR 8, zR 97, .inl i], [.inl (i + 3), zR 0, .inl x2, .inl x1, zR 8])) 4 (by decide) hz (by rw [show (.inl (i + 3) : zV) = .inl (w32 (i + 3)) from by rw [w32_id (by omega)]]; rfl) ?_
  refine zG_iald (by decide) hz rfl rfl (.inr rfl) (by omega) ?_
  obtain ⟨x3, hx3⟩ : ∃ x : Int, x = M 0 (i + 3).toNat := ⟨_, rfl⟩
  rw [← hx3]
  have hr3 : qin x3 := by rw [hx3]; exact hJ.1.rng 0 _ (by decide) (by decide)
  show zG n (114, 4080270) 300 311 (673, [zR 0, zR 8, zR 97, .inl i], [.inl x3, .inl x2, .inl x1, zR 8]) M _
  refine zG_blk (c' := (677, [zR 0, zR 8, zR 97, .inl i], [.inl (i + 4), zR 0, .inl x3, .inl x2, .inl x1, zR 8])) 4 (by decide) hz (by rw [show (.inl (i + 4) : zV) = .inl (w32 (i + 4)) from by rw [w32_id (by omega)]]; rfl) ?_
  refine zG_iald (by decide) hz rfl rfl (.inr rfl) (by omega) ?_
  obtain ⟨x4, hx4⟩ : ∃ x : Int, x = M 0 (i + 4).toNat := ⟨_, rfl⟩
  rw [← hx4]
  have hr4 : qin x4 := by rw [hx4]; exact hJ.1.rng 0 _ (by decide) (by decide)
  show zG n (114, 4080270) 300 311 (678, [zR 0, zR 8, zR 97, .inl i], [.inl x4, .inl x3, .inl x2, .inl x1, zR 8]) M _
  refine zG_blk (c' := (682, [zR 0, zR 8, zR 97, .inl i], [.inl (i + 5), zR 0, .inl x4, .inl x3, .inl x2, .inl x1, zR 8])) 4 (by decide) hz (by rw [show (.inl (i + 5) : zV) = .inl (w32 (i + 5)) from by rw [w32_id (by omega)]]; rfl) ?_
  refine zG_iald (by decide) hz rfl rfl (.inr rfl) (by omega) ?_
  obtain ⟨x5, hx5⟩ : ∃ x : Int, x = M 0 (i + 5).toNat := ⟨_, rfl⟩
  rw [← hx5]
  have hr5 : qin x5 := by rw [hx5]; exact hJ.1.rng 0 _ (by decide) (by decide)
  show zG n (114, 4080270) 300 311 (683, [zR 0, zR 8, zR 97, .inl i], [.inl x5, .inl x4, .inl x3, .inl x2, .inl x1, zR 8]) M _
  refine zG_blk (c' := (688, [zR 0, zR 8, zR 97, .inl i], [.inl (i + 6), zR 0, .inl x5, .inl x4, .inl x3, .inl x2, .inl x1, zR 8])) 4 (by decide) hz (by rw [show (.inl (i + 6) : zV) = .inl (w32 (i + 6)) from by rw [w32_id (by omega)]]; rfl) ?_
  refine zG_iald (by decide) hz rfl rfl (.inr rfl) (by omega) ?_
  obtain ⟨x6, hx6⟩ : ∃ x : Int, x = M 0 (i + 6).toNat := ⟨_, rfl⟩
  rw [← hx6]
  have hr6 : qin x6 := by rw [hx6]; exact hJ.1.rng 0 _ (by decide) (by decide)
  show zG n (114, 4080270) 300 311 (689, [zR 0, zR 8, zR 97, .inl i], [.inl x6, .inl x5, .inl x4, .inl x3, .inl x2, .inl x1, zR 8]) M _
  refine zG_call (by decide) hz zp_132 rfl rfl (Nat.le_of_ble_eq_true rfl) ⟨Nat.le_of_ble_eq_true rfl, Nat.le_of_ble_eq_true rfl⟩ (qm_132_8 (by decide) hJ.1 x1 (by omega) x2 (by omega) x3 (by omega) x4 (by omega) x5 (by omega) x6 (by omega)) (fun vr M1 hr => ?_)
  obtain ⟨⟨hCM1, hFM1⟩, hr⟩ := hr
  have hJM1 : qJ M1 := hJ.cls hCM1 hFM1 rfl (by decide)
  have hc0 : ∀ j, M1 0 j = M 0 j := fun j => hFM1 0 j (by decide)
  obtain ⟨r1, rfl, -⟩ := hr
  show zG n (114, 4080270) 300 311 (692, [zR 0, zR 8, zR 97, .inl i], [.inl r1]) M1 _
  refine zG_blk (c' := (698, [zR 0, zR 8, zR 97, .inl i], [.inl (i + 1), zR 0, zR 97])) 6 (by decide) hz (by rw [show (.inl (i + 1) : zV) = .inl (w32 (i + 1)) from by rw [w32_id (by omega)]]; rfl) ?_
  refine zG_iald (by decide) hz rfl rfl (.inr rfl) (by omega) ?_
  rw [show M1 0 (i + 1).toNat = x1 from by rw [hx1]; exact hc0 _]
  show zG n (114, 4080270) 300 311 (699, [zR 0, zR 8, zR 97, .inl i], [.inl x1, zR 97]) M1 _
  refine zG_blk (c' := (703, [zR 0, zR 8, zR 97, .inl i], [.inl (i + 2), zR 0, .inl x1, zR 97])) 4 (by decide) hz (by rw [show (.inl (i + 2) : zV) = .inl (w32 (i + 2)) from by rw [w32_id (by omega)]]; rfl) ?_
  refine zG_iald (by decide) hz rfl rfl (.inr rfl) (by omega) ?_
  rw [show M1 0 (i + 2).toNat = x2 from by rw [hx2]; exact hc0 _]
  show zG n (114, 4080270) 300 311 (704, [zR 0, zR 8, zR 97, .inl i], [.inl x2, .inl x1, zR 97]) M1 _
  refine zG_blk (c' := (708, [zR 0, zR 8, zR 97, .inl i], [.inl (i + 3), zR 0, .inl x2, .inl x1, zR 97])) 4 (by decide) hz (by rw [show (.inl (i + 3) : zV) = .inl (w32 (i + 3)) from by rw [w32_id (by omega)]]; rfl) ?_
  refine zG_iald (by decide) hz rfl rfl (.inr rfl) (by omega) ?_
  rw [show M1 0 (i + 3).toNat = x3 from by rw [hx3]; exact hc0 _]
  show zG n (114, 4080270) 300 311 (709, [zR 0, zR 8, zR 97, .inl i], [.inl x3, .inl x2, .inl x1, zR 97]) M1 _
  refine zG_blk (c' := (713, [zR 0, zR 8, zR 97, .inl i], [.inl (i + 4), zR 0, .inl x3, .inl x2, .inl x1, zR 97])) 4 (by decide) hz (by rw [show (.inl (i + 4) : zV) = .inl (w32 (i + 4)) from by rw [w32_id (by omega)]]; rfl) ?_
  refine zG_iald (by decide) hz rfl rfl (.inr rfl) (by omega) ?_
  rw [show M1 0 (i + 4).toNat = x4 from by rw [hx4]; exact hc0 _]
  show zG n (114, 4080270) 300 311 (714, [zR 0, zR 8, zR 97, .inl i], [.inl x4, .inl x3, .inl x2, .inl x1, zR 97]) M1 _
  refine zG_blk (c' := (718, [zR 0, zR 8, zR 97, .inl i], [.inl (i + 5), zR 0, .inl x4, .inl x3, .inl x2, .inl x1, zR 97])) 4 (by decide) hz (by rw [show (.inl (i + 5) : zV) = .inl (w32 (i + 5)) from by rw [w32_id (by omega)]]; rfl) ?_
  refine zG_iald (by decide) hz rfl rfl (.inr rfl) (by omega) ?_
  rw [show M1 0 (i + 5).toNat = x5 from by rw [hx5]; exact hc0 _]
  show zG n (114, 4080270) 300 311 (719, [zR 0, zR 8, zR 97, .inl i], [.inl x5, .inl x4, .inl x3, .inl x2, .inl x1, zR 97]) M1 _
  refine zG_blk (c' := (724, [zR 0, zR 8, zR 97, .inl i], [.inl (i + 6), zR 0, .inl x5, .inl x4, .inl x3, .inl x2, .inl x1, zR 97])) 4 (by decide) hz (by rw [show (.inl (i + 6) : zV) = .inl (w32 (i + 6)) from by rw [w32_id (by omega)]]; rfl) ?_
  refine zG_iald (by decide) hz rfl rfl (.inr rfl) (by omega) ?_
  rw [show M1 0 (i + 6).toNat = x6 from by rw [hx6]; exact hc0 _]
  show zG n (114, 4080270) 300 311 (725, [zR 0, zR 8, zR 97, .inl i], [.inl x6, .inl x5, .inl x4, .inl x3, .inl x2, .inl x1, zR 97]) M1 _
  refine zG_call (by decide) hz zp_204 rfl rfl (Nat.le_of_ble_eq_true rfl) ⟨Nat.le_of_ble_eq_true rfl, Nat.le_of_ble_eq_true rfl⟩ (qm_204_97 (by decide) hJM1.2.1 x1 (by omega) x2 (by omega) x3 (by omega) x4 (by omega) x5 (by omega) x6 (by omega)) (fun vr M2 hr => ?_)
  obtain ⟨⟨hCM2, hFM2⟩, hr⟩ := hr
  have h6 : M2 98 6 = M1 98 6 := by obtain ⟨x9, -, -, h9⟩ := hr; exact h9
  have hJM2 : qJ M2 := hJM1.mdl hCM2 hFM2 rfl (by decide) h6
  obtain ⟨r2, hv9⟩ := hr
  first | (obtain ⟨rfl, -⟩ := hv9) | (obtain rfl := hv9)
  show zG n (114, 4080270) 300 311 (728, [zR 0, zR 8, zR 97, .inl i], [.inl r2]) M2 _
  refine zG_blk (c' := (2158, [zR 0, zR 8, zR 97, .inl i], [])) 2 (by decide) hz rfl ?_
  exact K M2 hJM2
set_option maxRecDepth 100000 in
theorem qL_10 (hJ : qJ M) (hn : n ≤ 4096) (hi : 0 ≤ i ∧ i + 8 ≤ n) (K : ∀ M', qJ M' → zG n (114, 4080270) 300 311 (2158, [zR 0, zR 8, zR 97, .inl i], []) M' qLQ) : zG n (114, 4080270) 300 311 (732, [zR 0, zR 8, zR 97, .inl i], []) M qLQ := by
  have hz := zp_311
  refine zG_blk (c' := (737, [zR 0, zR 8, zR 97, .inl i], [.inl (i + 1), zR 0, zR 8])) 5 (by decide) hz (by rw [show (.inl (i + 1) : zV) = .inl (w32 (i + 1)) from by rw [w32_id (by omega)]]; rfl) ?_
  refine zG_iald (by decide) hz rfl rfl (.inr rfl) (by omega) ?_
  obtain ⟨x1, hx1⟩ : ∃ x : Int, x = M 0 (i + 1).toNat := ⟨_, rfl⟩
  rw [← hx1]
  have hr1 : qin x1 := by rw [hx1]; exact hJ.1.rng 0 _ (by decide) (by decide)
  show zG n (114, 4080270) 300 311 (738, [zR 0, zR 8, zR 97, .inl i], [.inl x1, zR 8]) M _
  refine zG_blk (c' := (742, [zR 0, zR 8, zR 97, .inl i], [.inl (i + 2), zR 0, .inl x1, zR 8])) 4 (by decide) hz (by rw [show (.inl (i + 2) : zV) = .inl (w32 (i + 2)) from by rw [w32_id (by omega)]]; rfl) ?_
  refine zG_iald (by decide) hz rfl rfl (.inr rfl) (by omega) ?_
  obtain ⟨x2, hx2⟩ : ∃ x : Int, x = M 0 (i + 2).toNat := ⟨_, rfl⟩
  rw [← hx2]
  have hr2 : qin x2 := by rw [hx2]; exact hJ.1.rng 0 _ (by decide) (by decide)
  show zG n (114, 4080270) 300 311 (743, [zR 0, zR 8, zR 97, .inl i], [.inl x2, .inl x1, zR 8]) M _
  refine zG_blk (c' := (747, [zR 0, zR 8, zR 97, .inl i], [.inl (i + 3), zR 0, .inl x2, .inl x1, zR 8])) 4 (by decide) hz (by rw [show (.inl (i + 3) : zV) = .inl (w32 (i + 3)) from by rw [w32_id (by omega)]]; rfl) ?_
  refine zG_iald (by decide) hz rfl rfl (.inr rfl) (by omega) ?_
  obtain ⟨x3, hx3⟩ : ∃ x : Int, x = M 0 (i + 3).toNat := ⟨_, rfl⟩
  rw [← hx3]
  have hr3 : qin x3 := by rw [hx3]; exact hJ.1.rng 0 _ (by decide) (by decide)
  show zG n (114, 4080270) 300 311 (748, [zR 0, zR 8, zR 97, .inl i], [.inl x3, .inl x2, .inl x1, zR 8]) M _
  refine zG_blk (c' := (752, [zR 0, zR 8, zR 97, .inl i], [.inl (i + 4), zR 0, .inl x3, .inl x2, .inl x1, zR 8])) 4 (by decide) hz (by rw [show (.inl (i + 4) : zV) = .inl (w32 (i + 4)) from by rw [w32_id (by omega)]]; rfl) ?_
  refine zG_iald (by decide) hz rfl rfl (.inr rfl) (by omega) ?_
  obtain ⟨x4, hx4⟩ : ∃ x : Int, x = M 0 (i + 4).toNat := ⟨_, rfl⟩
  rw [← hx4]
  have hr4 : qin x4 := by rw [hx4]; exact hJ.1.rng 0 _ (by decide) (by decide)
  show zG n (114, 4080270) 300 311 (753, [zR 0, zR 8, zR 97, .inl i], [.inl x4, .inl x3, .inl x2, .inl x1, zR 8]) M _
  refine zG_call (by decide) hz zp_133 rfl rfl (Nat.le_of_ble_eq_true rfl) ⟨Nat.le_of_ble_eq_true rfl, Nat.le_of_ble_eq_true rfl⟩ (qm_133_8 (by decide) hJ.1 x1 (by omega) x2 (by omega) x3 (by omega) x4 (by omega)) (fun vr M1 hr => ?_)
  obtain ⟨⟨hCM1, hFM1⟩, hr⟩ := hr
  have hJM1 : qJ M1 := hJ.cls hCM1 hFM1 rfl (by decide)
  have hc0 : ∀ j, M1 0 j = M 0 j := fun j => hFM1 0 j (by decide)
  obtain ⟨r1, rfl, -⟩ := hr
  show zG n (114, 4080270) 300 311 (756, [zR 0, zR 8, zR 97, .inl i], [.inl r1]) M1 _
  refine zG_blk (c' := (762, [zR 0, zR 8, zR 97, .inl i], [.inl (i + 1), zR 0, zR 97])) 6 (by decide) hz (by rw [show (.inl (i + 1) : zV) = .inl (w32 (i + 1)) from by rw [w32_id (by omega)]]; rfl) ?_
  refine zG_iald (by decide) hz rfl rfl (.inr rfl) (by omega) ?_
  rw [show M1 0 (i + 1).toNat = x1 from by rw [hx1]; exact hc0 _]
  show zG n (114, 4080270) 300 311 (763, [zR 0, zR 8, zR 97, .inl i], [.inl x1, zR 97]) M1 _
  refine zG_blk (c' := (767, [zR 0, zR 8, zR 97, .inl i], [.inl (i + 2), zR 0, .inl x1, zR 97])) 4 (by decide) hz (by rw [show (.inl (i + 2) : zV) = .inl (w32 (i + 2)) from by rw [w32_id (by omega)]]; rfl) ?_
  refine zG_iald (by decide) hz rfl rfl (.inr rfl) (by omega) ?_
  rw [show M1 0 (i + 2).toNat = x2 from by rw [hx2]; exact hc0 _]
  show zG n (114, 4080270) 300 311 (768, [zR 0, zR 8, zR 97, .inl i], [.inl x2, .inl x1, zR 97]) M1 _
  refine zG_blk (c' := (772, [zR 0, zR 8, zR 97, .inl i], [.inl (i + 3), zR 0, .inl x2, .inl x1, zR 97])) 4 (by decide) hz (by rw [show (.inl (i + 3) : zV) = .inl (w32 (i + 3)) from by rw [w32_id (by omega)]]; rfl) ?_
  refine zG_iald (by decide) hz rfl rfl (.inr rfl) (by omega) ?_
  rw [show M1 0 (i + 3).toNat = x3 from by rw [hx3]; exact hc0 _]
  show zG n (114, 4080270) 300 311 (773, [zR 0, zR 8, zR 97, .inl i], [.inl x3, .inl x2, .inl x1, zR 97]) M1 _
  refine zG_blk (c' := (777, [zR 0, zR 8, zR 97, .inl i], [.inl (i + 4), zR 0, .inl x3, .inl x2, .inl x1, zR 97])) 4 (by decide) hz (by rw [show (.inl (i + 4) : zV) = .inl (w32 (i + 4)) from by rw [w32_id (by omega)]]; rfl) ?_
  refine zG_iald (by decide) hz rfl rfl (.inr rfl) (by omega) ?_
  rw [show M1 0 (i + 4).toNat = x4 from by rw [hx4]; exact hc0 _]
  show zG n (114, 4080270) 300 311 (778, [zR 0, zR 8, zR 97, .inl i], [.inl x4, .inl x3, .inl x2, .inl x1, zR 97]) M1 _
  refine zG_call (by decide) hz zp_205 rfl rfl (Nat.le_of_ble_eq_true rfl) ⟨Nat.le_of_ble_eq_true rfl, Nat.le_of_ble_eq_true rfl⟩ (qm_205_97 (by decide) hJM1.2.1 x1 (by omega) x2 (by omega) x3 (by omega) x4 (by omega)) (fun vr M2 hr => ?_)
  obtain ⟨⟨hCM2, hFM2⟩, hr⟩ := hr
  have h6 : M2 98 6 = M1 98 6 := by obtain ⟨x9, -, -, h9⟩ := hr; exact h9
  have hJM2 : qJ M2 := hJM1.mdl hCM2 hFM2 rfl (by decide) h6
  obtain ⟨r2, hv9⟩ := hr
  first | (obtain ⟨rfl, -⟩ := hv9) | (obtain rfl := hv9)
  show zG n (114, 4080270) 300 311 (781, [zR 0, zR 8, zR 97, .inl i], [.inl r2]) M2 _
  refine zG_blk (c' := (2158, [zR 0, zR 8, zR 97, .inl i], [])) 2 (by decide) hz rfl ?_
  exact K M2 hJM2
set_option maxRecDepth 100000 in
theorem qL_11 (hJ : qJ M) (hn : n ≤ 4096) (hi : 0 ≤ i ∧ i + 8 ≤ n) (K : ∀ M', qJ M' → zG n (114, 4080270) 300 311 (2158, [zR 0, zR 8, zR 97, .inl i], []) M' qLQ) : zG n (114, 4080270) 300 311 (785, [zR 0, zR 8, zR 97, .inl i], []) M qLQ := by
  have hz := zp_311
  refine zG_blk (c' := (790, [zR 0, zR 8, zR 97, .inl i], [.inl (i + 1), zR 0, zR 8])) 5 (by decide) hz (by rw [show (.inl (i + 1) : zV) = .inl (w32 (i + 1)) from by rw [w32_id (by omega)]]; rfl) ?_
  refine zG_iald (by decide) hz rfl rfl (.inr rfl) (by omega) ?_
  obtain ⟨x1, hx1⟩ : ∃ x : Int, x = M 0 (i + 1).toNat := ⟨_, rfl⟩
  rw [← hx1]
  have hr1 : qin x1 := by rw [hx1]; exact hJ.1.rng 0 _ (by decide) (by decide)
  show zG n (114, 4080270) 300 311 (791, [zR 0, zR 8, zR 97, .inl i], [.inl x1, zR 8]) M _
  refine zG_blk (c' := (795, [zR 0, zR 8, zR 97, .inl i], [.inl (i + 2), zR 0, .inl x1, zR 8])) 4 (by decide) hz (by rw [show (.inl (i + 2) : zV) = .inl (w32 (i + 2)) from by rw [w32_id (by omega)]]; rfl) ?_
  refine zG_iald (by decide) hz rfl rfl (.inr rfl) (by omega) ?_
  obtain ⟨x2, hx2⟩ : ∃ x : Int, x = M 0 (i + 2).toNat := ⟨_, rfl⟩
  rw [← hx2]
  have hr2 : qin x2 := by rw [hx2]; exact hJ.1.rng 0 _ (by decide) (by decide)
  show zG n (114, 4080270) 300 311 (796, [zR 0, zR 8, zR 97, .inl i], [.inl x2, .inl x1, zR 8]) M _
  refine zG_blk (c' := (800, [zR 0, zR 8, zR 97, .inl i], [.inl (i + 3), zR 0, .inl x2, .inl x1, zR 8])) 4 (by decide) hz (by rw [show (.inl (i + 3) : zV) = .inl (w32 (i + 3)) from by rw [w32_id (by omega)]]; rfl) ?_
  refine zG_iald (by decide) hz rfl rfl (.inr rfl) (by omega) ?_
  obtain ⟨x3, hx3⟩ : ∃ x : Int, x = M 0 (i + 3).toNat := ⟨_, rfl⟩
  rw [← hx3]
  have hr3 : qin x3 := by rw [hx3]; exact hJ.1.rng 0 _ (by decide) (by decide)
  show zG n (114, 4080270) 300 311 (801, [zR 0, zR 8, zR 97, .inl i], [.inl x3, .inl x2, .inl x1, zR 8]) M _
  refine zG_call (by decide) hz zp_134 rfl rfl (Nat.le_of_ble_eq_true rfl) ⟨Nat.le_of_ble_eq_true rfl, Nat.le_of_ble_eq_true rfl⟩ (qm_134_8 (by decide) hJ.1 x1 (by omega) x2 (by omega) x3 (by omega)) (fun vr M1 hr => ?_)
  obtain ⟨⟨hCM1, hFM1⟩, hr⟩ := hr
  have hJM1 : qJ M1 := hJ.cls hCM1 hFM1 rfl (by decide)
  have hc0 : ∀ j, M1 0 j = M 0 j := fun j => hFM1 0 j (by decide)
  obtain ⟨r1, rfl, -⟩ := hr
  show zG n (114, 4080270) 300 311 (804, [zR 0, zR 8, zR 97, .inl i], [.inl r1]) M1 _
  refine zG_blk (c' := (810, [zR 0, zR 8, zR 97, .inl i], [.inl (i + 1), zR 0, zR 97])) 6 (by decide) hz (by rw [show (.inl (i + 1) : zV) = .inl (w32 (i + 1)) from by rw [w32_id (by omega)]]; rfl) ?_
  refine zG_iald (by decide) hz rfl rfl (.inr rfl) (by omega) ?_
  rw [show M1 0 (i + 1).toNat = x1 from by rw [hx1]; exact hc0 _]
  show zG n (114, 4080270) 300 311 (811, [zR 0, zR 8, zR 97, .inl i], [.inl x1, zR 97]) M1 _
  refine zG_blk (c' := (815, [zR 0, zR 8, zR 97, .inl i], [.inl (i + 2), zR 0, .inl x1, zR 97])) 4 (by decide) hz (by rw [show (.inl (i + 2) : zV) = .inl (w32 (i + 2)) from by rw [w32_id (by omega)]]; rfl) ?_
  refine zG_iald (by decide) hz rfl rfl (.inr rfl) (by omega) ?_
  rw [show M1 0 (i + 2).toNat = x2 from by rw [hx2]; exact hc0 _]
  show zG n (114, 4080270) 300 311 (816, [zR 0, zR 8, zR 97, .inl i], [.inl x2, .inl x1, zR 97]) M1 _
  refine zG_blk (c' := (820, [zR 0, zR 8, zR 97, .inl i], [.inl (i + 3), zR 0, .inl x2, .inl x1, zR 97])) 4 (by decide) hz (by rw [show (.inl (i + 3) : zV) = .inl (w32 (i + 3)) from by rw [w32_id (by omega)]]; rfl) ?_
  refine zG_iald (by decide) hz rfl rfl (.inr rfl) (by omega) ?_
  rw [show M1 0 (i + 3).toNat = x3 from by rw [hx3]; exact hc0 _]
  show zG n (114, 4080270) 300 311 (821, [zR 0, zR 8, zR 97, .inl i], [.inl x3, .inl x2, .inl x1, zR 97]) M1 _
  refine zG_call (by decide) hz zp_206 rfl rfl (Nat.le_of_ble_eq_true rfl) ⟨Nat.le_of_ble_eq_true rfl, Nat.le_of_ble_eq_true rfl⟩ (qm_206_97 (by decide) hJM1.2.1 x1 (by omega) x2 (by omega) x3 (by omega)) (fun vr M2 hr => ?_)
  obtain ⟨⟨hCM2, hFM2⟩, hr⟩ := hr
  have h6 : M2 98 6 = M1 98 6 := by obtain ⟨x9, -, -, h9⟩ := hr; exact h9
  have hJM2 : qJ M2 := hJM1.mdl hCM2 hFM2 rfl (by decide) h6
  obtain ⟨r2, hv9⟩ := hr
  first | (obtain ⟨rfl, -⟩ := hv9) | (obtain rfl := hv9)
  show zG n (114, 4080270) 300 311 (824, [zR 0, zR 8, zR 97, .inl i], [.inl r2]) M2 _
  refine zG_blk (c' := (2158, [zR 0, zR 8, zR 97, .inl i], [])) 2 (by decide) hz rfl ?_
  exact K M2 hJM2
set_option maxRecDepth 100000 in
theorem qL_12 (hJ : qJ M) (hn : n ≤ 4096) (hi : 0 ≤ i ∧ i + 8 ≤ n) (K : ∀ M', qJ M' → zG n (114, 4080270) 300 311 (2158, [zR 0, zR 8, zR 97, .inl i], []) M' qLQ) : zG n (114, 4080270) 300 311 (828, [zR 0, zR 8, zR 97, .inl i], []) M qLQ := by
  have hz := zp_311
  refine zG_blk (c' := (833, [zR 0, zR 8, zR 97, .inl i], [.inl (i + 1), zR 0, zR 8])) 5 (by decide) hz (by rw [show (.inl (i + 1) : zV) = .inl (w32 (i + 1)) from by rw [w32_id (by omega)]]; rfl) ?_
  refine zG_iald (by decide) hz rfl rfl (.inr rfl) (by omega) ?_
  obtain ⟨x1, hx1⟩ : ∃ x : Int, x = M 0 (i + 1).toNat := ⟨_, rfl⟩
  rw [← hx1]
  have hr1 : qin x1 := by rw [hx1]; exact hJ.1.rng 0 _ (by decide) (by decide)
  show zG n (114, 4080270) 300 311 (834, [zR 0, zR 8, zR 97, .inl i], [.inl x1, zR 8]) M _
  refine zG_blk (c' := (838, [zR 0, zR 8, zR 97, .inl i], [.inl (i + 2), zR 0, .inl x1, zR 8])) 4 (by decide) hz (by rw [show (.inl (i + 2) : zV) = .inl (w32 (i + 2)) from by rw [w32_id (by omega)]]; rfl) ?_
  refine zG_iald (by decide) hz rfl rfl (.inr rfl) (by omega) ?_
  obtain ⟨x2, hx2⟩ : ∃ x : Int, x = M 0 (i + 2).toNat := ⟨_, rfl⟩
  rw [← hx2]
  have hr2 : qin x2 := by rw [hx2]; exact hJ.1.rng 0 _ (by decide) (by decide)
  show zG n (114, 4080270) 300 311 (839, [zR 0, zR 8, zR 97, .inl i], [.inl x2, .inl x1, zR 8]) M _
  refine zG_blk (c' := (843, [zR 0, zR 8, zR 97, .inl i], [.inl (i + 3), zR 0, .inl x2, .inl x1, zR 8])) 4 (by decide) hz (by rw [show (.inl (i + 3) : zV) = .inl (w32 (i + 3)) from by rw [w32_id (by omega)]]; rfl) ?_
  refine zG_iald (by decide) hz rfl rfl (.inr rfl) (by omega) ?_
  obtain ⟨x3, hx3⟩ : ∃ x : Int, x = M 0 (i + 3).toNat := ⟨_, rfl⟩
  rw [← hx3]
  have hr3 : qin x3 := by rw [hx3]; exact hJ.1.rng 0 _ (by decide) (by decide)
  show zG n (114, 4080270) 300 311 (844, [zR 0, zR 8, zR 97, .inl i], [.inl x3, .inl x2, .inl x1, zR 8]) M _
  refine zG_call (by decide) hz zp_135 rfl rfl (Nat.le_of_ble_eq_true rfl) ⟨Nat.le_of_ble_eq_true rfl, Nat.le_of_ble_eq_true rfl⟩ (qm_135_8 (by decide) hJ.1 x1 (by omega) x2 (by omega) x3 (by omega)) (fun vr M1 hr => ?_)
  obtain ⟨⟨hCM1, hFM1⟩, hr⟩ := hr
  have hJM1 : qJ M1 := hJ.cls hCM1 hFM1 rfl (by decide)
  have hc0 : ∀ j, M1 0 j = M 0 j := fun j => hFM1 0 j (by decide)
  obtain ⟨r1, rfl, -⟩ := hr
  show zG n (114, 4080270) 300 311 (847, [zR 0, zR 8, zR 97, .inl i], [.inl r1]) M1 _
  refine zG_blk (c' := (853, [zR 0, zR 8, zR 97, .inl i], [.inl (i + 1), zR 0, zR 97])) 6 (by decide) hz (by rw [show (.inl (i + 1) : zV) = .inl (w32 (i + 1)) from by rw [w32_id (by omega)]]; rfl) ?_
  refine zG_iald (by decide) hz rfl rfl (.inr rfl) (by omega) ?_
  rw [show M1 0 (i + 1).toNat = x1 from by rw [hx1]; exact hc0 _]
  show zG n (114, 4080270) 300 311 (854, [zR 0, zR 8, zR 97, .inl i], [.inl x1, zR 97]) M1 _
  refine zG_blk (c' := (858, [zR 0, zR 8, zR 97, .inl i], [.inl (i + 2), zR 0, .inl x1, zR 97])) 4 (by decide) hz (by rw [show (.inl (i + 2) : zV) = .inl (w32 (i + 2)) from by rw [w32_id (by omega)]]; rfl) ?_
  refine zG_iald (by decide) hz rfl rfl (.inr rfl) (by omega) ?_
  rw [show M1 0 (i + 2).toNat = x2 from by rw [hx2]; exact hc0 _]
  show zG n (114, 4080270) 300 311 (859, [zR 0, zR 8, zR 97, .inl i], [.inl x2, .inl x1, zR 97]) M1 _
  refine zG_blk (c' := (863, [zR 0, zR 8, zR 97, .inl i], [.inl (i + 3), zR 0, .inl x2, .inl x1, zR 97])) 4 (by decide) hz (by rw [show (.inl (i + 3) : zV) = .inl (w32 (i + 3)) from by rw [w32_id (by omega)]]; rfl) ?_
  refine zG_iald (by decide) hz rfl rfl (.inr rfl) (by omega) ?_
  rw [show M1 0 (i + 3).toNat = x3 from by rw [hx3]; exact hc0 _]
  show zG n (114, 4080270) 300 311 (864, [zR 0, zR 8, zR 97, .inl i], [.inl x3, .inl x2, .inl x1, zR 97]) M1 _
  refine zG_call (by decide) hz zp_207 rfl rfl (Nat.le_of_ble_eq_true rfl) ⟨Nat.le_of_ble_eq_true rfl, Nat.le_of_ble_eq_true rfl⟩ (qm_207_97 (by decide) hJM1.2.1 x1 (by omega) x2 (by omega) x3 (by omega)) (fun vr M2 hr => ?_)
  obtain ⟨⟨hCM2, hFM2⟩, hr⟩ := hr
  have h6 : M2 98 6 = M1 98 6 := by obtain ⟨x9, -, -, h9⟩ := hr; exact h9
  have hJM2 : qJ M2 := hJM1.mdl hCM2 hFM2 rfl (by decide) h6
  obtain ⟨r2, hv9⟩ := hr
  first | (obtain ⟨rfl, -⟩ := hv9) | (obtain rfl := hv9)
  show zG n (114, 4080270) 300 311 (867, [zR 0, zR 8, zR 97, .inl i], [.inl r2]) M2 _
  refine zG_blk (c' := (2158, [zR 0, zR 8, zR 97, .inl i], [])) 2 (by decide) hz rfl ?_
  exact K M2 hJM2
set_option maxRecDepth 100000 in
theorem qL_13 (hJ : qJ M) (hn : n ≤ 4096) (hi : 0 ≤ i ∧ i + 8 ≤ n) (K : ∀ M', qJ M' → zG n (114, 4080270) 300 311 (2158, [zR 0, zR 8, zR 97, .inl i], []) M' qLQ) : zG n (114, 4080270) 300 311 (871, [zR 0, zR 8, zR 97, .inl i], []) M qLQ := by
  have hz := zp_311
  refine zG_blk (c' := (876, [zR 0, zR 8, zR 97, .inl i], [.inl (i + 1), zR 0, zR 8])) 5 (by decide) hz (by rw [show (.inl (i + 1) : zV) = .inl (w32 (i + 1)) from by rw [w32_id (by omega)]]; rfl) ?_
  refine zG_iald (by decide) hz rfl rfl (.inr rfl) (by omega) ?_
  obtain ⟨x1, hx1⟩ : ∃ x : Int, x = M 0 (i + 1).toNat := ⟨_, rfl⟩
  rw [← hx1]
  have hr1 : qin x1 := by rw [hx1]; exact hJ.1.rng 0 _ (by decide) (by decide)
  show zG n (114, 4080270) 300 311 (877, [zR 0, zR 8, zR 97, .inl i], [.inl x1, zR 8]) M _
  refine zG_blk (c' := (881, [zR 0, zR 8, zR 97, .inl i], [.inl (i + 2), zR 0, .inl x1, zR 8])) 4 (by decide) hz (by rw [show (.inl (i + 2) : zV) = .inl (w32 (i + 2)) from by rw [w32_id (by omega)]]; rfl) ?_
  refine zG_iald (by decide) hz rfl rfl (.inr rfl) (by omega) ?_
  obtain ⟨x2, hx2⟩ : ∃ x : Int, x = M 0 (i + 2).toNat := ⟨_, rfl⟩
  rw [← hx2]
  have hr2 : qin x2 := by rw [hx2]; exact hJ.1.rng 0 _ (by decide) (by decide)
  show zG n (114, 4080270) 300 311 (882, [zR 0, zR 8, zR 97, .inl i], [.inl x2, .inl x1, zR 8]) M _
  refine zG_call (by decide) hz zp_136 rfl rfl (Nat.le_of_ble_eq_true rfl) ⟨Nat.le_of_ble_eq_true rfl, Nat.le_of_ble_eq_true rfl⟩ (qm_136_8 (by decide) hJ.1 x1 (by omega) x2 (by omega)) (fun vr M1 hr => ?_)
  obtain ⟨⟨hCM1, hFM1⟩, hr⟩ := hr
  have hJM1 : qJ M1 := hJ.cls hCM1 hFM1 rfl (by decide)
  have hc0 : ∀ j, M1 0 j = M 0 j := fun j => hFM1 0 j (by decide)
  obtain ⟨r1, rfl, -⟩ := hr
  show zG n (114, 4080270) 300 311 (885, [zR 0, zR 8, zR 97, .inl i], [.inl r1]) M1 _
  refine zG_blk (c' := (891, [zR 0, zR 8, zR 97, .inl i], [.inl (i + 1), zR 0, zR 97])) 6 (by decide) hz (by rw [show (.inl (i + 1) : zV) = .inl (w32 (i + 1)) from by rw [w32_id (by omega)]]; rfl) ?_
  refine zG_iald (by decide) hz rfl rfl (.inr rfl) (by omega) ?_
  rw [show M1 0 (i + 1).toNat = x1 from by rw [hx1]; exact hc0 _]
  show zG n (114, 4080270) 300 311 (892, [zR 0, zR 8, zR 97, .inl i], [.inl x1, zR 97]) M1 _
  refine zG_blk (c' := (896, [zR 0, zR 8, zR 97, .inl i], [.inl (i + 2), zR 0, .inl x1, zR 97])) 4 (by decide) hz (by rw [show (.inl (i + 2) : zV) = .inl (w32 (i + 2)) from by rw [w32_id (by omega)]]; rfl) ?_
  refine zG_iald (by decide) hz rfl rfl (.inr rfl) (by omega) ?_
  rw [show M1 0 (i + 2).toNat = x2 from by rw [hx2]; exact hc0 _]
  show zG n (114, 4080270) 300 311 (897, [zR 0, zR 8, zR 97, .inl i], [.inl x2, .inl x1, zR 97]) M1 _
  refine zG_call (by decide) hz zp_208 rfl rfl (Nat.le_of_ble_eq_true rfl) ⟨Nat.le_of_ble_eq_true rfl, Nat.le_of_ble_eq_true rfl⟩ (qm_208_97 (by decide) hJM1.2.1 x1 (by omega) x2 (by omega)) (fun vr M2 hr => ?_)
  obtain ⟨⟨hCM2, hFM2⟩, hr⟩ := hr
  have h6 : M2 98 6 = M1 98 6 := by obtain ⟨x9, -, -, h9⟩ := hr; exact h9
  have hJM2 : qJ M2 := hJM1.mdl hCM2 hFM2 rfl (by decide) h6
  obtain ⟨r2, hv9⟩ := hr
  first | (obtain ⟨rfl, -⟩ := hv9) | (obtain rfl := hv9)
  show zG n (114, 4080270) 300 311 (900, [zR 0, zR 8, zR 97, .inl i], [.inl r2]) M2 _
  refine zG_blk (c' := (2158, [zR 0, zR 8, zR 97, .inl i], [])) 2 (by decide) hz rfl ?_
  exact K M2 hJM2
set_option maxRecDepth 100000 in
theorem qL_14 (hJ : qJ M) (hn : n ≤ 4096) (hi : 0 ≤ i ∧ i + 8 ≤ n) (K : ∀ M', qJ M' → zG n (114, 4080270) 300 311 (2158, [zR 0, zR 8, zR 97, .inl i], []) M' qLQ) : zG n (114, 4080270) 300 311 (904, [zR 0, zR 8, zR 97, .inl i], []) M qLQ := by
  have hz := zp_311
  refine zG_blk (c' := (909, [zR 0, zR 8, zR 97, .inl i], [.inl (i + 1), zR 0, zR 8])) 5 (by decide) hz (by rw [show (.inl (i + 1) : zV) = .inl (w32 (i + 1)) from by rw [w32_id (by omega)]]; rfl) ?_
  refine zG_iald (by decide) hz rfl rfl (.inr rfl) (by omega) ?_
  obtain ⟨x1, hx1⟩ : ∃ x : Int, x = M 0 (i + 1).toNat := ⟨_, rfl⟩
  rw [← hx1]
  have hr1 : qin x1 := by rw [hx1]; exact hJ.1.rng 0 _ (by decide) (by decide)
  show zG n (114, 4080270) 300 311 (910, [zR 0, zR 8, zR 97, .inl i], [.inl x1, zR 8]) M _
  refine zG_call (by decide) hz zp_137 rfl rfl (Nat.le_of_ble_eq_true rfl) ⟨Nat.le_of_ble_eq_true rfl, Nat.le_of_ble_eq_true rfl⟩ (qm_137_8 (by decide) hJ.1 x1 (by omega)) (fun vr M1 hr => ?_)
  obtain ⟨⟨hCM1, hFM1⟩, hr⟩ := hr
  have hJM1 : qJ M1 := hJ.cls hCM1 hFM1 rfl (by decide)
  have hc0 : ∀ j, M1 0 j = M 0 j := fun j => hFM1 0 j (by decide)
  obtain ⟨r1, rfl, -⟩ := hr
  show zG n (114, 4080270) 300 311 (913, [zR 0, zR 8, zR 97, .inl i], [.inl r1]) M1 _
  refine zG_blk (c' := (919, [zR 0, zR 8, zR 97, .inl i], [.inl (i + 1), zR 0, zR 97])) 6 (by decide) hz (by rw [show (.inl (i + 1) : zV) = .inl (w32 (i + 1)) from by rw [w32_id (by omega)]]; rfl) ?_
  refine zG_iald (by decide) hz rfl rfl (.inr rfl) (by omega) ?_
  rw [show M1 0 (i + 1).toNat = x1 from by rw [hx1]; exact hc0 _]
  show zG n (114, 4080270) 300 311 (920, [zR 0, zR 8, zR 97, .inl i], [.inl x1, zR 97]) M1 _
  refine zG_call (by decide) hz zp_209 rfl rfl (Nat.le_of_ble_eq_true rfl) ⟨Nat.le_of_ble_eq_true rfl, Nat.le_of_ble_eq_true rfl⟩ (qm_209_97 (by decide) hJM1.2.1 x1 (by omega)) (fun vr M2 hr => ?_)
  obtain ⟨⟨hCM2, hFM2⟩, hr⟩ := hr
  have h6 : M2 98 6 = M1 98 6 := by obtain ⟨x9, -, -, h9⟩ := hr; exact h9
  have hJM2 : qJ M2 := hJM1.mdl hCM2 hFM2 rfl (by decide) h6
  obtain ⟨r2, hv9⟩ := hr
  first | (obtain ⟨rfl, -⟩ := hv9) | (obtain rfl := hv9)
  show zG n (114, 4080270) 300 311 (923, [zR 0, zR 8, zR 97, .inl i], [.inl r2]) M2 _
  refine zG_blk (c' := (2158, [zR 0, zR 8, zR 97, .inl i], [])) 2 (by decide) hz rfl ?_
  exact K M2 hJM2
set_option maxRecDepth 100000 in
theorem qL_15 (hJ : qJ M) (hn : n ≤ 4096) (hi : 0 ≤ i ∧ i + 8 ≤ n) (K : ∀ M', qJ M' → zG n (114, 4080270) 300 311 (2158, [zR 0, zR 8, zR 97, .inl i], []) M' qLQ) : zG n (114, 4080270) 300 311 (927, [zR 0, zR 8, zR 97, .inl i], []) M qLQ := by
  have hz := zp_311
  refine zG_blk (c' := (932, [zR 0, zR 8, zR 97, .inl i], [.inl (i + 1), zR 0, zR 8])) 5 (by decide) hz (by rw [show (.inl (i + 1) : zV) = .inl (w32 (i + 1)) from by rw [w32_id (by omega)]]; rfl) ?_
  refine zG_iald (by decide) hz rfl rfl (.inr rfl) (by omega) ?_
  obtain ⟨x1, hx1⟩ : ∃ x : Int, x = M 0 (i + 1).toNat := ⟨_, rfl⟩
  rw [← hx1]
  have hr1 : qin x1 := by rw [hx1]; exact hJ.1.rng 0 _ (by decide) (by decide)
  show zG n (114, 4080270) 300 311 (933, [zR 0, zR 8, zR 97, .inl i], [.inl x1, zR 8]) M _
  refine zG_blk (c' := (937, [zR 0, zR 8, zR 97, .inl i], [.inl (i + 2), zR 0, .inl x1, zR 8])) 4 (by decide) hz (by rw [show (.inl (i + 2) : zV) = .inl (w32 (i + 2)) from by rw [w32_id (by omega)]]; rfl) ?_
  refine zG_iald (by decide) hz rfl rfl (.inr rfl) (by omega) ?_
  obtain ⟨x2, hx2⟩ : ∃ x : Int, x = M 0 (i + 2).toNat := ⟨_, rfl⟩
  rw [← hx2]
  have hr2 : qin x2 := by rw [hx2]; exact hJ.1.rng 0 _ (by decide) (by decide)
  show zG n (114, 4080270) 300 311 (938, [zR 0, zR 8, zR 97, .inl i], [.inl x2, .inl x1, zR 8]) M _
  refine zG_call (by decide) hz zp_138 rfl rfl (Nat.le_of_ble_eq_true rfl) ⟨Nat.le_of_ble_eq_true rfl, Nat.le_of_ble_eq_true rfl⟩ (qm_138_8 (by decide) hJ.1 x1 (by omega) x2 (by omega)) (fun vr M1 hr => ?_)
  obtain ⟨hq, hr⟩ := hr
  replace hq := hq.symm; subst hq
  have hc0 : ∀ j, M 0 j = M 0 j := fun _ => rfl
  obtain ⟨r1, rfl, -⟩ := hr
  show zG n (114, 4080270) 300 311 (941, [zR 0, zR 8, zR 97, .inl i], [.inl r1]) M _
  refine zG_blk (c' := (947, [zR 0, zR 8, zR 97, .inl i], [.inl (i + 1), zR 0, zR 97])) 6 (by decide) hz (by rw [show (.inl (i + 1) : zV) = .inl (w32 (i + 1)) from by rw [w32_id (by omega)]]; rfl) ?_
  refine zG_iald (by decide) hz rfl rfl (.inr rfl) (by omega) ?_
  rw [show M 0 (i + 1).toNat = x1 from hx1.symm]
  show zG n (114, 4080270) 300 311 (948, [zR 0, zR 8, zR 97, .inl i], [.inl x1, zR 97]) M _
  refine zG_blk (c' := (952, [zR 0, zR 8, zR 97, .inl i], [.inl (i + 2), zR 0, .inl x1, zR 97])) 4 (by decide) hz (by rw [show (.inl (i + 2) : zV) = .inl (w32 (i + 2)) from by rw [w32_id (by omega)]]; rfl) ?_
  refine zG_iald (by decide) hz rfl rfl (.inr rfl) (by omega) ?_
  rw [show M 0 (i + 2).toNat = x2 from hx2.symm]
  show zG n (114, 4080270) 300 311 (953, [zR 0, zR 8, zR 97, .inl i], [.inl x2, .inl x1, zR 97]) M _
  refine zG_call (by decide) hz zp_210 rfl rfl (Nat.le_of_ble_eq_true rfl) ⟨Nat.le_of_ble_eq_true rfl, Nat.le_of_ble_eq_true rfl⟩ (qm_210_97 (by decide) hJ.2.1 x1 (by omega) x2 (by omega)) (fun vr M2 hr => ?_)
  obtain ⟨hq, hr⟩ := hr
  replace hq := hq.symm; subst hq
  obtain ⟨r2, hv9⟩ := hr
  first | (obtain ⟨rfl, -⟩ := hv9) | (obtain rfl := hv9)
  show zG n (114, 4080270) 300 311 (956, [zR 0, zR 8, zR 97, .inl i], [.inl r2]) M _
  refine zG_blk (c' := (2158, [zR 0, zR 8, zR 97, .inl i], [])) 2 (by decide) hz rfl ?_
  exact K M hJ
set_option maxRecDepth 100000 in
theorem qL_16 (hJ : qJ M) (hn : n ≤ 4096) (hi : 0 ≤ i ∧ i + 8 ≤ n) (K : ∀ M', qJ M' → zG n (114, 4080270) 300 311 (2158, [zR 0, zR 8, zR 97, .inl i], []) M' qLQ) : zG n (114, 4080270) 300 311 (960, [zR 0, zR 8, zR 97, .inl i], []) M qLQ := by
  have hz := zp_311
  refine zG_blk (c' := (965, [zR 0, zR 8, zR 97, .inl i], [.inl (i + 1), zR 0, zR 8])) 5 (by decide) hz (by rw [show (.inl (i + 1) : zV) = .inl (w32 (i + 1)) from by rw [w32_id (by omega)]]; rfl) ?_
  refine zG_iald (by decide) hz rfl rfl (.inr rfl) (by omega) ?_
  obtain ⟨x1, hx1⟩ : ∃ x : Int, x = M 0 (i + 1).toNat := ⟨_, rfl⟩
  rw [← hx1]
  have hr1 : qin x1 := by rw [hx1]; exact hJ.1.rng 0 _ (by decide) (by decide)
  show zG n (114, 4080270) 300 311 (966, [zR 0, zR 8, zR 97, .inl i], [.inl x1, zR 8]) M _
  refine zG_blk (c' := (970, [zR 0, zR 8, zR 97, .inl i], [.inl (i + 2), zR 0, .inl x1, zR 8])) 4 (by decide) hz (by rw [show (.inl (i + 2) : zV) = .inl (w32 (i + 2)) from by rw [w32_id (by omega)]]; rfl) ?_
  refine zG_iald (by decide) hz rfl rfl (.inr rfl) (by omega) ?_
  obtain ⟨x2, hx2⟩ : ∃ x : Int, x = M 0 (i + 2).toNat := ⟨_, rfl⟩
  rw [← hx2]
  have hr2 : qin x2 := by rw [hx2]; exact hJ.1.rng 0 _ (by decide) (by decide)
  show zG n (114, 4080270) 300 311 (971, [zR 0, zR 8, zR 97, .inl i], [.inl x2, .inl x1, zR 8]) M _
  refine zG_call (by decide) hz zp_139 rfl rfl (Nat.le_of_ble_eq_true rfl) ⟨Nat.le_of_ble_eq_true rfl, Nat.le_of_ble_eq_true rfl⟩ (qm_139_8 (by decide) hJ.1 x1 (by omega) x2 (by omega)) (fun vr M1 hr => ?_)
  obtain ⟨⟨hCM1, hFM1⟩, hr⟩ := hr
  have hJM1 : qJ M1 := hJ.cls hCM1 hFM1 rfl (by decide)
  have hc0 : ∀ j, M1 0 j = M 0 j := fun j => hFM1 0 j (by decide)
  obtain ⟨r1, rfl, -⟩ := hr
  show zG n (114, 4080270) 300 311 (974, [zR 0, zR 8, zR 97, .inl i], [.inl r1]) M1 _
  refine zG_blk (c' := (980, [zR 0, zR 8, zR 97, .inl i], [.inl (i + 1), zR 0, zR 97])) 6 (by decide) hz (by rw [show (.inl (i + 1) : zV) = .inl (w32 (i + 1)) from by rw [w32_id (by omega)]]; rfl) ?_
  refine zG_iald (by decide) hz rfl rfl (.inr rfl) (by omega) ?_
  rw [show M1 0 (i + 1).toNat = x1 from by rw [hx1]; exact hc0 _]
  show zG n (114, 4080270) 300 311 (981, [zR 0, zR 8, zR 97, .inl i], [.inl x1, zR 97]) M1 _
  refine zG_blk (c' := (985, [zR 0, zR 8, zR 97, .inl i], [.inl (i + 2), zR 0, .inl x1, zR 97])) 4 (by decide) hz (by rw [show (.inl (i + 2) : zV) = .inl (w32 (i + 2)) from by rw [w32_id (by omega)]]; rfl) ?_
  refine zG_iald (by decide) hz rfl rfl (.inr rfl) (by omega) ?_
  rw [show M1 0 (i + 2).toNat = x2 from by rw [hx2]; exact hc0 _]
  show zG n (114, 4080270) 300 311 (986, [zR 0, zR 8, zR 97, .inl i], [.inl x2, .inl x1, zR 97]) M1 _
  refine zG_call (by decide) hz zp_212 rfl rfl (Nat.le_of_ble_eq_true rfl) ⟨Nat.le_of_ble_eq_true rfl, Nat.le_of_ble_eq_true rfl⟩ (qm_212_97 (by decide) hJM1.2.1 x1 (by omega) x2 (by omega)) (fun vr M2 hr => ?_)
  obtain ⟨⟨hCM2, hFM2⟩, hr⟩ := hr
  have hJM2 : qJ M2 := hJM1.mdl hCM2 hFM2 rfl (by decide) (hFM2.ar 98 6 (by decide) (by decide))
  obtain ⟨r2, hv9⟩ := hr
  first | (obtain ⟨rfl, -⟩ := hv9) | (obtain rfl := hv9)
  show zG n (114, 4080270) 300 311 (989, [zR 0, zR 8, zR 97, .inl i], [.inl r2]) M2 _
  refine zG_blk (c' := (2158, [zR 0, zR 8, zR 97, .inl i], [])) 2 (by decide) hz rfl ?_
  exact K M2 hJM2
set_option maxRecDepth 100000 in
theorem qL_17 (hJ : qJ M) (hn : n ≤ 4096) (hi : 0 ≤ i ∧ i + 8 ≤ n) (K : ∀ M', qJ M' → zG n (114, 4080270) 300 311 (2158, [zR 0, zR 8, zR 97, .inl i], []) M' qLQ) : zG n (114, 4080270) 300 311 (993, [zR 0, zR 8, zR 97, .inl i], []) M qLQ := by
  have hz := zp_311
  refine zG_blk (c' := (998, [zR 0, zR 8, zR 97, .inl i], [.inl (i + 1), zR 0, zR 8])) 5 (by decide) hz (by rw [show (.inl (i + 1) : zV) = .inl (w32 (i + 1)) from by rw [w32_id (by omega)]]; rfl) ?_
  refine zG_iald (by decide) hz rfl rfl (.inr rfl) (by omega) ?_
  obtain ⟨x1, hx1⟩ : ∃ x : Int, x = M 0 (i + 1).toNat := ⟨_, rfl⟩
  rw [← hx1]
  have hr1 : qin x1 := by rw [hx1]; exact hJ.1.rng 0 _ (by decide) (by decide)
  show zG n (114, 4080270) 300 311 (999, [zR 0, zR 8, zR 97, .inl i], [.inl x1, zR 8]) M _
  refine zG_blk (c' := (1003, [zR 0, zR 8, zR 97, .inl i], [.inl (i + 2), zR 0, .inl x1, zR 8])) 4 (by decide) hz (by rw [show (.inl (i + 2) : zV) = .inl (w32 (i + 2)) from by rw [w32_id (by omega)]]; rfl) ?_
  refine zG_iald (by decide) hz rfl rfl (.inr rfl) (by omega) ?_
  obtain ⟨x2, hx2⟩ : ∃ x : Int, x = M 0 (i + 2).toNat := ⟨_, rfl⟩
  rw [← hx2]
  have hr2 : qin x2 := by rw [hx2]; exact hJ.1.rng 0 _ (by decide) (by decide)
  show zG n (114, 4080270) 300 311 (1004, [zR 0, zR 8, zR 97, .inl i], [.inl x2, .inl x1, zR 8]) M _
  refine zG_blk (c' := (1008, [zR 0, zR 8, zR 97, .inl i], [.inl (i + 3), zR 0, .inl x2, .inl x1, zR 8])) 4 (by decide) hz (by rw [show (.inl (i + 3) : zV) = .inl (w32 (i + 3)) from by rw [w32_id (by omega)]]; rfl) ?_
  refine zG_iald (by decide) hz rfl rfl (.inr rfl) (by omega) ?_
  obtain ⟨x3, hx3⟩ : ∃ x : Int, x = M 0 (i + 3).toNat := ⟨_, rfl⟩
  rw [← hx3]
  have hr3 : qin x3 := by rw [hx3]; exact hJ.1.rng 0 _ (by decide) (by decide)
  show zG n (114, 4080270) 300 311 (1009, [zR 0, zR 8, zR 97, .inl i], [.inl x3, .inl x2, .inl x1, zR 8]) M _
  refine zG_call (by decide) hz zp_140 rfl rfl (Nat.le_of_ble_eq_true rfl) ⟨Nat.le_of_ble_eq_true rfl, Nat.le_of_ble_eq_true rfl⟩ (qm_140_8 (by decide) hJ.1 x1 (by omega) x2 (by omega) x3 (by omega)) (fun vr M1 hr => ?_)
  obtain ⟨⟨hCM1, hFM1⟩, hr⟩ := hr
  have hJM1 : qJ M1 := hJ.cls hCM1 hFM1 rfl (by decide)
  have hc0 : ∀ j, M1 0 j = M 0 j := fun j => hFM1 0 j (by decide)
  obtain ⟨r1, rfl, -⟩ := hr
  show zG n (114, 4080270) 300 311 (1012, [zR 0, zR 8, zR 97, .inl i], [.inl r1]) M1 _
  refine zG_blk (c' := (1018, [zR 0, zR 8, zR 97, .inl i], [.inl (i + 1), zR 0, zR 97])) 6 (by decide) hz (by rw [show (.inl (i + 1) : zV) = .inl (w32 (i + 1)) from by rw [w32_id (by omega)]]; rfl) ?_
  refine zG_iald (by decide) hz rfl rfl (.inr rfl) (by omega) ?_
  rw [show M1 0 (i + 1).toNat = x1 from by rw [hx1]; exact hc0 _]
  show zG n (114, 4080270) 300 311 (1019, [zR 0, zR 8, zR 97, .inl i], [.inl x1, zR 97]) M1 _
  refine zG_blk (c' := (1023, [zR 0, zR 8, zR 97, .inl i], [.inl (i + 2), zR 0, .inl x1, zR 97])) 4 (by decide) hz (by rw [show (.inl (i + 2) : zV) = .inl (w32 (i + 2)) from by rw [w32_id (by omega)]]; rfl) ?_
  refine zG_iald (by decide) hz rfl rfl (.inr rfl) (by omega) ?_
  rw [show M1 0 (i + 2).toNat = x2 from by rw [hx2]; exact hc0 _]
  show zG n (114, 4080270) 300 311 (1024, [zR 0, zR 8, zR 97, .inl i], [.inl x2, .inl x1, zR 97]) M1 _
  refine zG_blk (c' := (1028, [zR 0, zR 8, zR 97, .inl i], [.inl (i + 3), zR 0, .inl x2, .inl x1, zR 97])) 4 (by decide) hz (by rw [show (.inl (i + 3) : zV) = .inl (w32 (i + 3)) from by rw [w32_id (by omega)]]; rfl) ?_
  refine zG_iald (by decide) hz rfl rfl (.inr rfl) (by omega) ?_
  rw [show M1 0 (i + 3).toNat = x3 from by rw [hx3]; exact hc0 _]
  show zG n (114, 4080270) 300 311 (1029, [zR 0, zR 8, zR 97, .inl i], [.inl x3, .inl x2, .inl x1, zR 97]) M1 _
  refine zG_call (by decide) hz zp_217 rfl rfl (Nat.le_of_ble_eq_true rfl) ⟨Nat.le_of_ble_eq_true rfl, Nat.le_of_ble_eq_true rfl⟩ (qm_217_97 (by decide) hJM1.2.1 x1 (by omega) x2 (by omega) x3 (by omega)) (fun vr M2 hr => ?_)
  obtain ⟨⟨hCM2, hFM2⟩, hr⟩ := hr
  have hJM2 : qJ M2 := hJM1.mdl hCM2 hFM2 rfl (by decide) (hFM2.ar 98 6 (by decide) (by decide))
  obtain ⟨r2, hv9⟩ := hr
  first | (obtain ⟨rfl, -⟩ := hv9) | (obtain rfl := hv9)
  show zG n (114, 4080270) 300 311 (1032, [zR 0, zR 8, zR 97, .inl i], [.inl r2]) M2 _
  refine zG_blk (c' := (2158, [zR 0, zR 8, zR 97, .inl i], [])) 2 (by decide) hz rfl ?_
  exact K M2 hJM2
set_option maxRecDepth 100000 in
theorem qL_18 (hJ : qJ M) (hn : n ≤ 4096) (hi : 0 ≤ i ∧ i + 8 ≤ n) (K : ∀ M', qJ M' → zG n (114, 4080270) 300 311 (2158, [zR 0, zR 8, zR 97, .inl i], []) M' qLQ) : zG n (114, 4080270) 300 311 (1036, [zR 0, zR 8, zR 97, .inl i], []) M qLQ := by
  have hz := zp_311
  refine zG_blk (c' := (1041, [zR 0, zR 8, zR 97, .inl i], [.inl (i + 1), zR 0, zR 8])) 5 (by decide) hz (by rw [show (.inl (i + 1) : zV) = .inl (w32 (i + 1)) from by rw [w32_id (by omega)]]; rfl) ?_
  refine zG_iald (by decide) hz rfl rfl (.inr rfl) (by omega) ?_
  obtain ⟨x1, hx1⟩ : ∃ x : Int, x = M 0 (i + 1).toNat := ⟨_, rfl⟩
  rw [← hx1]
  have hr1 : qin x1 := by rw [hx1]; exact hJ.1.rng 0 _ (by decide) (by decide)
  show zG n (114, 4080270) 300 311 (1042, [zR 0, zR 8, zR 97, .inl i], [.inl x1, zR 8]) M _
  refine zG_blk (c' := (1046, [zR 0, zR 8, zR 97, .inl i], [.inl (i + 2), zR 0, .inl x1, zR 8])) 4 (by decide) hz (by rw [show (.inl (i + 2) : zV) = .inl (w32 (i + 2)) from by rw [w32_id (by omega)]]; rfl) ?_
  refine zG_iald (by decide) hz rfl rfl (.inr rfl) (by omega) ?_
  obtain ⟨x2, hx2⟩ : ∃ x : Int, x = M 0 (i + 2).toNat := ⟨_, rfl⟩
  rw [← hx2]
  have hr2 : qin x2 := by rw [hx2]; exact hJ.1.rng 0 _ (by decide) (by decide)
  show zG n (114, 4080270) 300 311 (1047, [zR 0, zR 8, zR 97, .inl i], [.inl x2, .inl x1, zR 8]) M _
  refine zG_blk (c' := (1051, [zR 0, zR 8, zR 97, .inl i], [.inl (i + 3), zR 0, .inl x2, .inl x1, zR 8])) 4 (by decide) hz (by rw [show (.inl (i + 3) : zV) = .inl (w32 (i + 3)) from by rw [w32_id (by omega)]]; rfl) ?_
  refine zG_iald (by decide) hz rfl rfl (.inr rfl) (by omega) ?_
  obtain ⟨x3, hx3⟩ : ∃ x : Int, x = M 0 (i + 3).toNat := ⟨_, rfl⟩
  rw [← hx3]
  have hr3 : qin x3 := by rw [hx3]; exact hJ.1.rng 0 _ (by decide) (by decide)
  show zG n (114, 4080270) 300 311 (1052, [zR 0, zR 8, zR 97, .inl i], [.inl x3, .inl x2, .inl x1, zR 8]) M _
  refine zG_blk (c' := (1056, [zR 0, zR 8, zR 97, .inl i], [.inl (i + 4), zR 0, .inl x3, .inl x2, .inl x1, zR 8])) 4 (by decide) hz (by rw [show (.inl (i + 4) : zV) = .inl (w32 (i + 4)) from by rw [w32_id (by omega)]]; rfl) ?_
  refine zG_iald (by decide) hz rfl rfl (.inr rfl) (by omega) ?_
  obtain ⟨x4, hx4⟩ : ∃ x : Int, x = M 0 (i + 4).toNat := ⟨_, rfl⟩
  rw [← hx4]
  have hr4 : qin x4 := by rw [hx4]; exact hJ.1.rng 0 _ (by decide) (by decide)
  show zG n (114, 4080270) 300 311 (1057, [zR 0, zR 8, zR 97, .inl i], [.inl x4, .inl x3, .inl x2, .inl x1, zR 8]) M _
  refine zG_call (by decide) hz zp_141 rfl rfl (Nat.le_of_ble_eq_true rfl) ⟨Nat.le_of_ble_eq_true rfl, Nat.le_of_ble_eq_true rfl⟩ (qm_141_8 (by decide) hJ.1 x1 (by omega) x2 (by omega) x3 (by omega) x4 (by omega)) (fun vr M1 hr => ?_)
  obtain ⟨⟨hCM1, hFM1⟩, hr⟩ := hr
  have hJM1 : qJ M1 := hJ.cls hCM1 hFM1 rfl (by decide)
  have hc0 : ∀ j, M1 0 j = M 0 j := fun j => hFM1 0 j (by decide)
  obtain ⟨r1, rfl, -⟩ := hr
  show zG n (114, 4080270) 300 311 (1060, [zR 0, zR 8, zR 97, .inl i], [.inl r1]) M1 _
  refine zG_blk (c' := (1066, [zR 0, zR 8, zR 97, .inl i], [.inl (i + 1), zR 0, zR 97])) 6 (by decide) hz (by rw [show (.inl (i + 1) : zV) = .inl (w32 (i + 1)) from by rw [w32_id (by omega)]]; rfl) ?_
  refine zG_iald (by decide) hz rfl rfl (.inr rfl) (by omega) ?_
  rw [show M1 0 (i + 1).toNat = x1 from by rw [hx1]; exact hc0 _]
  show zG n (114, 4080270) 300 311 (1067, [zR 0, zR 8, zR 97, .inl i], [.inl x1, zR 97]) M1 _
  refine zG_blk (c' := (1071, [zR 0, zR 8, zR 97, .inl i], [.inl (i + 2), zR 0, .inl x1, zR 97])) 4 (by decide) hz (by rw [show (.inl (i + 2) : zV) = .inl (w32 (i + 2)) from by rw [w32_id (by omega)]]; rfl) ?_
  refine zG_iald (by decide) hz rfl rfl (.inr rfl) (by omega) ?_
  rw [show M1 0 (i + 2).toNat = x2 from by rw [hx2]; exact hc0 _]
  show zG n (114, 4080270) 300 311 (1072, [zR 0, zR 8, zR 97, .inl i], [.inl x2, .inl x1, zR 97]) M1 _
  refine zG_blk (c' := (1076, [zR 0, zR 8, zR 97, .inl i], [.inl (i + 3), zR 0, .inl x2, .inl x1, zR 97])) 4 (by decide) hz (by rw [show (.inl (i + 3) : zV) = .inl (w32 (i + 3)) from by rw [w32_id (by omega)]]; rfl) ?_
  refine zG_iald (by decide) hz rfl rfl (.inr rfl) (by omega) ?_
  rw [show M1 0 (i + 3).toNat = x3 from by rw [hx3]; exact hc0 _]
  show zG n (114, 4080270) 300 311 (1077, [zR 0, zR 8, zR 97, .inl i], [.inl x3, .inl x2, .inl x1, zR 97]) M1 _
  refine zG_blk (c' := (1081, [zR 0, zR 8, zR 97, .inl i], [.inl (i + 4), zR 0, .inl x3, .inl x2, .inl x1, zR 97])) 4 (by decide) hz (by rw [show (.inl (i + 4) : zV) = .inl (w32 (i + 4)) from by rw [w32_id (by omega)]]; rfl) ?_
  refine zG_iald (by decide) hz rfl rfl (.inr rfl) (by omega) ?_
  rw [show M1 0 (i + 4).toNat = x4 from by rw [hx4]; exact hc0 _]
  show zG n (114, 4080270) 300 311 (1082, [zR 0, zR 8, zR 97, .inl i], [.inl x4, .inl x3, .inl x2, .inl x1, zR 97]) M1 _
  refine zG_call (by decide) hz zp_219 rfl rfl (Nat.le_of_ble_eq_true rfl) ⟨Nat.le_of_ble_eq_true rfl, Nat.le_of_ble_eq_true rfl⟩ (qm_219_97 (by decide) hJM1.2.1 x1 (by omega) x2 (by omega) x3 (by omega) x4 (by omega)) (fun vr M2 hr => ?_)
  obtain ⟨⟨hCM2, hFM2⟩, hr⟩ := hr
  have hJM2 : qJ M2 := hJM1.mdl hCM2 hFM2 rfl (by decide) (hFM2.ar 98 6 (by decide) (by decide))
  obtain ⟨r2, hv9⟩ := hr
  first | (obtain ⟨rfl, -⟩ := hv9) | (obtain rfl := hv9)
  show zG n (114, 4080270) 300 311 (1085, [zR 0, zR 8, zR 97, .inl i], [.inl r2]) M2 _
  refine zG_blk (c' := (2158, [zR 0, zR 8, zR 97, .inl i], [])) 2 (by decide) hz rfl ?_
  exact K M2 hJM2
set_option maxRecDepth 100000 in
theorem qL_19 (hJ : qJ M) (hn : n ≤ 4096) (hi : 0 ≤ i ∧ i + 8 ≤ n) (K : ∀ M', qJ M' → zG n (114, 4080270) 300 311 (2158, [zR 0, zR 8, zR 97, .inl i], []) M' qLQ) : zG n (114, 4080270) 300 311 (1089, [zR 0, zR 8, zR 97, .inl i], []) M qLQ := by
  have hz := zp_311
  refine zG_blk (c' := (1094, [zR 0, zR 8, zR 97, .inl i], [.inl (i + 1), zR 0, zR 8])) 5 (by decide) hz (by rw [show (.inl (i + 1) : zV) = .inl (w32 (i + 1)) from by rw [w32_id (by omega)]]; rfl) ?_
  refine zG_iald (by decide) hz rfl rfl (.inr rfl) (by omega) ?_
  obtain ⟨x1, hx1⟩ : ∃ x : Int, x = M 0 (i + 1).toNat := ⟨_, rfl⟩
  rw [← hx1]
  have hr1 : qin x1 := by rw [hx1]; exact hJ.1.rng 0 _ (by decide) (by decide)
  show zG n (114, 4080270) 300 311 (1095, [zR 0, zR 8, zR 97, .inl i], [.inl x1, zR 8]) M _
  refine zG_blk (c' := (1099, [zR 0, zR 8, zR 97, .inl i], [.inl (i + 2), zR 0, .inl x1, zR 8])) 4 (by decide) hz (by rw [show (.inl (i + 2) : zV) = .inl (w32 (i + 2)) from by rw [w32_id (by omega)]]; rfl) ?_
  refine zG_iald (by decide) hz rfl rfl (.inr rfl) (by omega) ?_
  obtain ⟨x2, hx2⟩ : ∃ x : Int, x = M 0 (i + 2).toNat := ⟨_, rfl⟩
  rw [← hx2]
  have hr2 : qin x2 := by rw [hx2]; exact hJ.1.rng 0 _ (by decide) (by decide)
  show zG n (114, 4080270) 300 311 (1100, [zR 0, zR 8, zR 97, .inl i], [.inl x2, .inl x1, zR 8]) M _
  refine zG_blk (c' := (1104, [zR 0, zR 8, zR 97, .inl i], [.inl (i + 3), zR 0, .inl x2, .inl x1, zR 8])) 4 (by decide) hz (by rw [show (.inl (i + 3) : zV) = .inl (w32 (i + 3)) from by rw [w32_id (by omega)]]; rfl) ?_
  refine zG_iald (by decide) hz rfl rfl (.inr rfl) (by omega) ?_
  obtain ⟨x3, hx3⟩ : ∃ x : Int, x = M 0 (i + 3).toNat := ⟨_, rfl⟩
  rw [← hx3]
  have hr3 : qin x3 := by rw [hx3]; exact hJ.1.rng 0 _ (by decide) (by decide)
  show zG n (114, 4080270) 300 311 (1105, [zR 0, zR 8, zR 97, .inl i], [.inl x3, .inl x2, .inl x1, zR 8]) M _
  refine zG_call (by decide) hz zp_142 rfl rfl (Nat.le_of_ble_eq_true rfl) ⟨Nat.le_of_ble_eq_true rfl, Nat.le_of_ble_eq_true rfl⟩ (qm_142_8 (by decide) hJ.1 x1 (by omega) x2 (by omega) x3 (by omega)) (fun vr M1 hr => ?_)
  obtain ⟨⟨hCM1, hFM1⟩, hr⟩ := hr
  have hJM1 : qJ M1 := hJ.cls hCM1 hFM1 rfl (by decide)
  have hc0 : ∀ j, M1 0 j = M 0 j := fun j => hFM1 0 j (by decide)
  obtain ⟨r1, rfl, -⟩ := hr
  show zG n (114, 4080270) 300 311 (1108, [zR 0, zR 8, zR 97, .inl i], [.inl r1]) M1 _
  refine zG_blk (c' := (1114, [zR 0, zR 8, zR 97, .inl i], [.inl (i + 1), zR 0, zR 97])) 6 (by decide) hz (by rw [show (.inl (i + 1) : zV) = .inl (w32 (i + 1)) from by rw [w32_id (by omega)]]; rfl) ?_
  refine zG_iald (by decide) hz rfl rfl (.inr rfl) (by omega) ?_
  rw [show M1 0 (i + 1).toNat = x1 from by rw [hx1]; exact hc0 _]
  show zG n (114, 4080270) 300 311 (1115, [zR 0, zR 8, zR 97, .inl i], [.inl x1, zR 97]) M1 _
  refine zG_blk (c' := (1119, [zR 0, zR 8, zR 97, .inl i], [.inl (i + 2), zR 0, .inl x1, zR 97])) 4 (by decide) hz (by rw [show (.inl (i + 2) : zV) = .inl (w32 (i + 2)) from by rw [w32_id (by omega)]]; rfl) ?_
  refine zG_iald (by decide) hz rfl rfl (.inr rfl) (by omega) ?_
  rw [show M1 0 (i + 2).toNat = x2 from by rw [hx2]; exact hc0 _]
  show zG n (114, 4080270) 300 311 (1120, [zR 0, zR 8, zR 97, .inl i], [.inl x2, .inl x1, zR 97]) M1 _
  refine zG_blk (c' := (1124, [zR 0, zR 8, zR 97, .inl i], [.inl (i + 3), zR 0, .inl x2, .inl x1, zR 97])) 4 (by decide) hz (by rw [show (.inl (i + 3) : zV) = .inl (w32 (i + 3)) from by rw [w32_id (by omega)]]; rfl) ?_
  refine zG_iald (by decide) hz rfl rfl (.inr rfl) (by omega) ?_
  rw [show M1 0 (i + 3).toNat = x3 from by rw [hx3]; exact hc0 _]
  show zG n (114, 4080270) 300 311 (1125, [zR 0, zR 8, zR 97, .inl i], [.inl x3, .inl x2, .inl x1, zR 97]) M1 _
  refine zG_call (by decide) hz zp_246 rfl rfl (Nat.le_of_ble_eq_true rfl) ⟨Nat.le_of_ble_eq_true rfl, Nat.le_of_ble_eq_true rfl⟩ (qm_246_97 (by decide) hJM1.2.1 x1 (by omega) x2 (by omega) x3 (by omega)) (fun vr M2 hr => ?_)
  obtain ⟨⟨hCM2, hFM2⟩, hr⟩ := hr
  have hJM2 : qJ M2 := hJM1.mdl hCM2 hFM2 rfl (by decide) (hFM2.ar 98 6 (by decide) (by decide))
  obtain ⟨r2, hv9⟩ := hr
  first | (obtain ⟨rfl, -⟩ := hv9) | (obtain rfl := hv9)
  show zG n (114, 4080270) 300 311 (1128, [zR 0, zR 8, zR 97, .inl i], [.inl r2]) M2 _
  refine zG_blk (c' := (2158, [zR 0, zR 8, zR 97, .inl i], [])) 2 (by decide) hz rfl ?_
  exact K M2 hJM2
set_option maxRecDepth 100000 in
theorem qL_20 (hJ : qJ M) (hn : n ≤ 4096) (hi : 0 ≤ i ∧ i + 8 ≤ n) (K : ∀ M', qJ M' → zG n (114, 4080270) 300 311 (2158, [zR 0, zR 8, zR 97, .inl i], []) M' qLQ) : zG n (114, 4080270) 300 311 (1132, [zR 0, zR 8, zR 97, .inl i], []) M qLQ := by
  have hz := zp_311
  refine zG_blk (c' := (1137, [zR 0, zR 8, zR 97, .inl i], [.inl (i + 1), zR 0, zR 8])) 5 (by decide) hz (by rw [show (.inl (i + 1) : zV) = .inl (w32 (i + 1)) from by rw [w32_id (by omega)]]; rfl) ?_
  refine zG_iald (by decide) hz rfl rfl (.inr rfl) (by omega) ?_
  obtain ⟨x1, hx1⟩ : ∃ x : Int, x = M 0 (i + 1).toNat := ⟨_, rfl⟩
  rw [← hx1]
  have hr1 : qin x1 := by rw [hx1]; exact hJ.1.rng 0 _ (by decide) (by decide)
  show zG n (114, 4080270) 300 311 (1138, [zR 0, zR 8, zR 97, .inl i], [.inl x1, zR 8]) M _
  refine zG_blk (c' := (1142, [zR 0, zR 8, zR 97, .inl i], [.inl (i + 2), zR 0, .inl x1, zR 8])) 4 (by decide) hz (by rw [show (.inl (i + 2) : zV) = .inl (w32 (i + 2)) from by rw [w32_id (by omega)]]; rfl) ?_
  refine zG_iald (by decide) hz rfl rfl (.inr rfl) (by omega) ?_
  obtain ⟨x2, hx2⟩ : ∃ x : Int, x = M 0 (i + 2).toNat := ⟨_, rfl⟩
  rw [← hx2]
  have hr2 : qin x2 := by rw [hx2]; exact hJ.1.rng 0 _ (by decide) (by decide)
  show zG n (114, 4080270) 300 311 (1143, [zR 0, zR 8, zR 97, .inl i], [.inl x2, .inl x1, zR 8]) M _
  refine zG_blk (c' := (1147, [zR 0, zR 8, zR 97, .inl i], [.inl (i + 3), zR 0, .inl x2, .inl x1, zR 8])) 4 (by decide) hz (by rw [show (.inl (i + 3) : zV) = .inl (w32 (i + 3)) from by rw [w32_id (by omega)]]; rfl) ?_
  refine zG_iald (by decide) hz rfl rfl (.inr rfl) (by omega) ?_
  obtain ⟨x3, hx3⟩ : ∃ x : Int, x = M 0 (i + 3).toNat := ⟨_, rfl⟩
  rw [← hx3]
  have hr3 : qin x3 := by rw [hx3]; exact hJ.1.rng 0 _ (by decide) (by decide)
  show zG n (114, 4080270) 300 311 (1148, [zR 0, zR 8, zR 97, .inl i], [.inl x3, .inl x2, .inl x1, zR 8]) M _
  refine zG_call (by decide) hz zp_143 rfl rfl (Nat.le_of_ble_eq_true rfl) ⟨Nat.le_of_ble_eq_true rfl, Nat.le_of_ble_eq_true rfl⟩ (qm_143_8 (by decide) hJ.1 x1 (by omega) x2 (by omega) x3 (by omega)) (fun vr M1 hr => ?_)
  obtain ⟨⟨hCM1, hFM1⟩, hr⟩ := hr
  have hJM1 : qJ M1 := hJ.cls hCM1 hFM1 rfl (by decide)
  have hc0 : ∀ j, M1 0 j = M 0 j := fun j => hFM1 0 j (by decide)
  obtain ⟨r1, rfl, -⟩ := hr
  show zG n (114, 4080270) 300 311 (1151, [zR 0, zR 8, zR 97, .inl i], [.inl r1]) M1 _
  refine zG_blk (c' := (1157, [zR 0, zR 8, zR 97, .inl i], [.inl (i + 1), zR 0, zR 97])) 6 (by decide) hz (by rw [show (.inl (i + 1) : zV) = .inl (w32 (i + 1)) from by rw [w32_id (by omega)]]; rfl) ?_
  refine zG_iald (by decide) hz rfl rfl (.inr rfl) (by omega) ?_
  rw [show M1 0 (i + 1).toNat = x1 from by rw [hx1]; exact hc0 _]
  show zG n (114, 4080270) 300 311 (1158, [zR 0, zR 8, zR 97, .inl i], [.inl x1, zR 97]) M1 _
  refine zG_blk (c' := (1162, [zR 0, zR 8, zR 97, .inl i], [.inl (i + 2), zR 0, .inl x1, zR 97])) 4 (by decide) hz (by rw [show (.inl (i + 2) : zV) = .inl (w32 (i + 2)) from by rw [w32_id (by omega)]]; rfl) ?_
  refine zG_iald (by decide) hz rfl rfl (.inr rfl) (by omega) ?_
  rw [show M1 0 (i + 2).toNat = x2 from by rw [hx2]; exact hc0 _]
  show zG n (114, 4080270) 300 311 (1163, [zR 0, zR 8, zR 97, .inl i], [.inl x2, .inl x1, zR 97]) M1 _
  refine zG_blk (c' := (1167, [zR 0, zR 8, zR 97, .inl i], [.inl (i + 3), zR 0, .inl x2, .inl x1, zR 97])) 4 (by decide) hz (by rw [show (.inl (i + 3) : zV) = .inl (w32 (i + 3)) from by rw [w32_id (by omega)]]; rfl) ?_
  refine zG_iald (by decide) hz rfl rfl (.inr rfl) (by omega) ?_
  rw [show M1 0 (i + 3).toNat = x3 from by rw [hx3]; exact hc0 _]
  show zG n (114, 4080270) 300 311 (1168, [zR 0, zR 8, zR 97, .inl i], [.inl x3, .inl x2, .inl x1, zR 97]) M1 _
  refine zG_call (by decide) hz zp_247 rfl rfl (Nat.le_of_ble_eq_true rfl) ⟨Nat.le_of_ble_eq_true rfl, Nat.le_of_ble_eq_true rfl⟩ (qm_247_97 (by decide) hJM1.2.1 x1 (by omega) x2 (by omega) x3 (by omega)) (fun vr M2 hr => ?_)
  obtain ⟨⟨hCM2, hFM2⟩, hr⟩ := hr
  have hJM2 : qJ M2 := hJM1.mdl hCM2 hFM2 rfl (by decide) (hFM2.ar 98 6 (by decide) (by decide))
  obtain ⟨r2, hv9⟩ := hr
  first | (obtain ⟨rfl, -⟩ := hv9) | (obtain rfl := hv9)
  show zG n (114, 4080270) 300 311 (1171, [zR 0, zR 8, zR 97, .inl i], [.inl r2]) M2 _
  refine zG_blk (c' := (2158, [zR 0, zR 8, zR 97, .inl i], [])) 2 (by decide) hz rfl ?_
  exact K M2 hJM2
set_option maxRecDepth 100000 in
theorem qL_21 (hJ : qJ M) (hn : n ≤ 4096) (hi : 0 ≤ i ∧ i + 8 ≤ n) (K : ∀ M', qJ M' → zG n (114, 4080270) 300 311 (2158, [zR 0, zR 8, zR 97, .inl i], []) M' qLQ) : zG n (114, 4080270) 300 311 (1175, [zR 0, zR 8, zR 97, .inl i], []) M qLQ := by
  have hz := zp_311
  refine zG_blk (c' := (1180, [zR 0, zR 8, zR 97, .inl i], [.inl (i + 1), zR 0, zR 8])) 5 (by decide) hz (by rw [show (.inl (i + 1) : zV) = .inl (w32 (i + 1)) from by rw [w32_id (by omega)]]; rfl) ?_
  refine zG_iald (by decide) hz rfl rfl (.inr rfl) (by omega) ?_
  obtain ⟨x1, hx1⟩ : ∃ x : Int, x = M 0 (i + 1).toNat := ⟨_, rfl⟩
  rw [← hx1]
  have hr1 : qin x1 := by rw [hx1]; exact hJ.1.rng 0 _ (by decide) (by decide)
  show zG n (114, 4080270) 300 311 (1181, [zR 0, zR 8, zR 97, .inl i], [.inl x1, zR 8]) M _
  refine zG_blk (c' := (1185, [zR 0, zR 8, zR 97, .inl i], [.inl (i + 2), zR 0, .inl x1, zR 8])) 4 (by decide) hz (by rw [show (.inl (i + 2) : zV) = .inl (w32 (i + 2)) from by rw [w32_id (by omega)]]; rfl) ?_
  refine zG_iald (by decide) hz rfl rfl (.inr rfl) (by omega) ?_
  obtain ⟨x2, hx2⟩ : ∃ x : Int, x = M 0 (i + 2).toNat := ⟨_, rfl⟩
  rw [← hx2]
  have hr2 : qin x2 := by rw [hx2]; exact hJ.1.rng 0 _ (by decide) (by decide)
  show zG n (114, 4080270) 300 311 (1186, [zR 0, zR 8, zR 97, .inl i], [.inl x2, .inl x1, zR 8]) M _
  refine zG_blk (c' := (1190, [zR 0, zR 8, zR 97, .inl i], [.inl (i + 3), zR 0, .inl x2, .inl x1, zR 8])) 4 (by decide) hz (by rw [show (.inl (i + 3) : zV) = .inl (w32 (i + 3)) from by rw [w32_id (by omega)]]; rfl) ?_
  refine zG_iald (by decide) hz rfl rfl (.inr rfl) (by omega) ?_
  obtain ⟨x3, hx3⟩ : ∃ x : Int, x = M 0 (i + 3).toNat := ⟨_, rfl⟩
  rw [← hx3]
  have hr3 : qin x3 := by rw [hx3]; exact hJ.1.rng 0 _ (by decide) (by decide)
  show zG n (114, 4080270) 300 311 (1191, [zR 0, zR 8, zR 97, .inl i], [.inl x3, .inl x2, .inl x1, zR 8]) M _
  refine zG_blk (c' := (1195, [zR 0, zR 8, zR 97, .inl i], [.inl (i + 4), zR 0, .inl x3, .inl x2, .inl x1, zR 8])) 4 (by decide) hz (by rw [show (.inl (i + 4) : zV) = .inl (w32 (i + 4)) from by rw [w32_id (by omega)]]; rfl) ?_
  refine zG_iald (by decide) hz rfl rfl (.inr rfl) (by omega) ?_
  obtain ⟨x4, hx4⟩ : ∃ x : Int, x = M 0 (i + 4).toNat := ⟨_, rfl⟩
  rw [← hx4]
  have hr4 : qin x4 := by rw [hx4]; exact hJ.1.rng 0 _ (by decide) (by decide)
  show zG n (114, 4080270) 300 311 (1196, [zR 0, zR 8, zR 97, .inl i], [.inl x4, .inl x3, .inl x2, .inl x1, zR 8]) M _
  refine zG_call (by decide) hz zp_144 rfl rfl (Nat.le_of_ble_eq_true rfl) ⟨Nat.le_of_ble_eq_true rfl, Nat.le_of_ble_eq_true rfl⟩ (qm_144_8 (by decide) hJ.1 x1 (by omega) x2 (by omega) x3 (by omega) x4 (by omega)) (fun vr M1 hr => ?_)
  obtain ⟨⟨hCM1, hFM1⟩, hr⟩ := hr
  have hJM1 : qJ M1 := hJ.cls hCM1 hFM1 rfl (by decide)
  have hc0 : ∀ j, M1 0 j = M 0 j := fun j => hFM1 0 j (by decide)
  obtain ⟨r1, rfl⟩ := hr
  show zG n (114, 4080270) 300 311 (1199, [zR 0, zR 8, zR 97, .inl i], [(.inr (.inl r1))]) M1 _
  refine zG_blk (c' := (1205, [zR 0, zR 8, zR 97, .inl i], [.inl (i + 1), zR 0, zR 97])) 6 (by decide) hz (by rw [show (.inl (i + 1) : zV) = .inl (w32 (i + 1)) from by rw [w32_id (by omega)]]; rfl) ?_
  refine zG_iald (by decide) hz rfl rfl (.inr rfl) (by omega) ?_
  rw [show M1 0 (i + 1).toNat = x1 from by rw [hx1]; exact hc0 _]
  show zG n (114, 4080270) 300 311 (1206, [zR 0, zR 8, zR 97, .inl i], [.inl x1, zR 97]) M1 _
  refine zG_blk (c' := (1210, [zR 0, zR 8, zR 97, .inl i], [.inl (i + 2), zR 0, .inl x1, zR 97])) 4 (by decide) hz (by rw [show (.inl (i + 2) : zV) = .inl (w32 (i + 2)) from by rw [w32_id (by omega)]]; rfl) ?_
  refine zG_iald (by decide) hz rfl rfl (.inr rfl) (by omega) ?_
  rw [show M1 0 (i + 2).toNat = x2 from by rw [hx2]; exact hc0 _]
  show zG n (114, 4080270) 300 311 (1211, [zR 0, zR 8, zR 97, .inl i], [.inl x2, .inl x1, zR 97]) M1 _
  refine zG_blk (c' := (1215, [zR 0, zR 8, zR 97, .inl i], [.inl (i + 3), zR 0, .inl x2, .inl x1, zR 97])) 4 (by decide) hz (by rw [show (.inl (i + 3) : zV) = .inl (w32 (i + 3)) from by rw [w32_id (by omega)]]; rfl) ?_
  refine zG_iald (by decide) hz rfl rfl (.inr rfl) (by omega) ?_
  rw [show M1 0 (i + 3).toNat = x3 from by rw [hx3]; exact hc0 _]
  show zG n (114, 4080270) 300 311 (1216, [zR 0, zR 8, zR 97, .inl i], [.inl x3, .inl x2, .inl x1, zR 97]) M1 _
  refine zG_blk (c' := (1220, [zR 0, zR 8, zR 97, .inl i], [.inl (i + 4), zR 0, .inl x3, .inl x2, .inl x1, zR 97])) 4 (by decide) hz (by rw [show (.inl (i + 4) : zV) = .inl (w32 (i + 4)) from by rw [w32_id (by omega)]]; rfl) ?_
  refine zG_iald (by decide) hz rfl rfl (.inr rfl) (by omega) ?_
  rw [show M1 0 (i + 4).toNat = x4 from by rw [hx4]; exact hc0 _]
  show zG n (114, 4080270) 300 311 (1221, [zR 0, zR 8, zR 97, .inl i], [.inl x4, .inl x3, .inl x2, .inl x1, zR 97]) M1 _
  refine zG_call (by decide) hz zp_248 rfl rfl (Nat.le_of_ble_eq_true rfl) ⟨Nat.le_of_ble_eq_true rfl, Nat.le_of_ble_eq_true rfl⟩ (qm_248_97 (by decide) hJM1.2.1 x1 (by omega) x2 (by omega) x3 (by omega) x4 (by omega)) (fun vr M2 hr => ?_)
  obtain ⟨⟨hCM2, hFM2⟩, hr⟩ := hr
  have hJM2 : qJ M2 := hJM1.mdl hCM2 hFM2 rfl (by decide) (hFM2.ar 98 6 (by decide) (by decide))
  obtain ⟨r2, hv9⟩ := hr
  first | (obtain ⟨rfl, -⟩ := hv9) | (obtain rfl := hv9)
  show zG n (114, 4080270) 300 311 (1224, [zR 0, zR 8, zR 97, .inl i], [(.inr (.inl r2))]) M2 _
  refine zG_blk (c' := (2158, [zR 0, zR 8, zR 97, .inl i], [])) 2 (by decide) hz rfl ?_
  exact K M2 hJM2
set_option maxRecDepth 100000 in
theorem qL_22 (hJ : qJ M) (hn : n ≤ 4096) (hi : 0 ≤ i ∧ i + 8 ≤ n) (K : ∀ M', qJ M' → zG n (114, 4080270) 300 311 (2158, [zR 0, zR 8, zR 97, .inl i], []) M' qLQ) : zG n (114, 4080270) 300 311 (1228, [zR 0, zR 8, zR 97, .inl i], []) M qLQ := by
  have hz := zp_311
  refine zG_blk (c' := (1233, [zR 0, zR 8, zR 97, .inl i], [.inl (i + 1), zR 0, zR 8])) 5 (by decide) hz (by rw [show (.inl (i + 1) : zV) = .inl (w32 (i + 1)) from by rw [w32_id (by omega)]]; rfl) ?_
  refine zG_iald (by decide) hz rfl rfl (.inr rfl) (by omega) ?_
  obtain ⟨x1, hx1⟩ : ∃ x : Int, x = M 0 (i + 1).toNat := ⟨_, rfl⟩
  rw [← hx1]
  have hr1 : qin x1 := by rw [hx1]; exact hJ.1.rng 0 _ (by decide) (by decide)
  show zG n (114, 4080270) 300 311 (1234, [zR 0, zR 8, zR 97, .inl i], [.inl x1, zR 8]) M _
  refine zG_blk (c' := (1238, [zR 0, zR 8, zR 97, .inl i], [.inl (i + 2), zR 0, .inl x1, zR 8])) 4 (by decide) hz (by rw [show (.inl (i + 2) : zV) = .inl (w32 (i + 2)) from by rw [w32_id (by omega)]]; rfl) ?_
  refine zG_iald (by decide) hz rfl rfl (.inr rfl) (by omega) ?_
  obtain ⟨x2, hx2⟩ : ∃ x : Int, x = M 0 (i + 2).toNat := ⟨_, rfl⟩
  rw [← hx2]
  have hr2 : qin x2 := by rw [hx2]; exact hJ.1.rng 0 _ (by decide) (by decide)
  show zG n (114, 4080270) 300 311 (1239, [zR 0, zR 8, zR 97, .inl i], [.inl x2, .inl x1, zR 8]) M _
  refine zG_blk (c' := (1243, [zR 0, zR 8, zR 97, .inl i], [.inl (i + 3), zR 0, .inl x2, .inl x1, zR 8])) 4 (by decide) hz (by rw [show (.inl (i + 3) : zV) = .inl (w32 (i + 3)) from by rw [w32_id (by omega)]]; rfl) ?_
  refine zG_iald (by decide) hz rfl rfl (.inr rfl) (by omega) ?_
  obtain ⟨x3, hx3⟩ : ∃ x : Int, x = M 0 (i + 3).toNat := ⟨_, rfl⟩
  rw [← hx3]
  have hr3 : qin x3 := by rw [hx3]; exact hJ.1.rng 0 _ (by decide) (by decide)
  show zG n (114, 4080270) 300 311 (1244, [zR 0, zR 8, zR 97, .inl i], [.inl x3, .inl x2, .inl x1, zR 8]) M _
  refine zG_call (by decide) hz zp_145 rfl rfl (Nat.le_of_ble_eq_true rfl) ⟨Nat.le_of_ble_eq_true rfl, Nat.le_of_ble_eq_true rfl⟩ (qm_145_8 (by decide) hJ.1 x1 (by omega) x2 (by omega) x3 (by omega)) (fun vr M1 hr => ?_)
  obtain ⟨⟨hCM1, hFM1⟩, hr⟩ := hr
  have hJM1 : qJ M1 := hJ.cls hCM1 hFM1 rfl (by decide)
  have hc0 : ∀ j, M1 0 j = M 0 j := fun j => hFM1 0 j (by decide)
  obtain ⟨r1, rfl, -⟩ := hr
  show zG n (114, 4080270) 300 311 (1247, [zR 0, zR 8, zR 97, .inl i], [.inl r1]) M1 _
  refine zG_blk (c' := (1253, [zR 0, zR 8, zR 97, .inl i], [.inl (i + 1), zR 0, zR 97])) 6 (by decide) hz (by rw [show (.inl (i + 1) : zV) = .inl (w32 (i + 1)) from by rw [w32_id (by omega)]]; rfl) ?_
  refine zG_iald (by decide) hz rfl rfl (.inr rfl) (by omega) ?_
  rw [show M1 0 (i + 1).toNat = x1 from by rw [hx1]; exact hc0 _]
  show zG n (114, 4080270) 300 311 (1254, [zR 0, zR 8, zR 97, .inl i], [.inl x1, zR 97]) M1 _
  refine zG_blk (c' := (1258, [zR 0, zR 8, zR 97, .inl i], [.inl (i + 2), zR 0, .inl x1, zR 97])) 4 (by decide) hz (by rw [show (.inl (i + 2) : zV) = .inl (w32 (i + 2)) from by rw [w32_id (by omega)]]; rfl) ?_
  refine zG_iald (by decide) hz rfl rfl (.inr rfl) (by omega) ?_
  rw [show M1 0 (i + 2).toNat = x2 from by rw [hx2]; exact hc0 _]
  show zG n (114, 4080270) 300 311 (1259, [zR 0, zR 8, zR 97, .inl i], [.inl x2, .inl x1, zR 97]) M1 _
  refine zG_blk (c' := (1263, [zR 0, zR 8, zR 97, .inl i], [.inl (i + 3), zR 0, .inl x2, .inl x1, zR 97])) 4 (by decide) hz (by rw [show (.inl (i + 3) : zV) = .inl (w32 (i + 3)) from by rw [w32_id (by omega)]]; rfl) ?_
  refine zG_iald (by decide) hz rfl rfl (.inr rfl) (by omega) ?_
  rw [show M1 0 (i + 3).toNat = x3 from by rw [hx3]; exact hc0 _]
  show zG n (114, 4080270) 300 311 (1264, [zR 0, zR 8, zR 97, .inl i], [.inl x3, .inl x2, .inl x1, zR 97]) M1 _
  refine zG_call (by decide) hz zp_249 rfl rfl (Nat.le_of_ble_eq_true rfl) ⟨Nat.le_of_ble_eq_true rfl, Nat.le_of_ble_eq_true rfl⟩ (qm_249_97 (by decide) hJM1.2.1 x1 (by omega) x2 (by omega) x3 (by omega)) (fun vr M2 hr => ?_)
  obtain ⟨⟨hCM2, hFM2⟩, hr⟩ := hr
  have hJM2 : qJ M2 := hJM1.mdl hCM2 hFM2 rfl (by decide) (hFM2.ar 98 6 (by decide) (by decide))
  obtain ⟨r2, hv9⟩ := hr
  first | (obtain ⟨rfl, -⟩ := hv9) | (obtain rfl := hv9)
  show zG n (114, 4080270) 300 311 (1267, [zR 0, zR 8, zR 97, .inl i], [.inl r2]) M2 _
  refine zG_blk (c' := (2158, [zR 0, zR 8, zR 97, .inl i], [])) 2 (by decide) hz rfl ?_
  exact K M2 hJM2
set_option maxRecDepth 100000 in
theorem qL_23 (hJ : qJ M) (hn : n ≤ 4096) (hi : 0 ≤ i ∧ i + 8 ≤ n) (K : ∀ M', qJ M' → zG n (114, 4080270) 300 311 (2158, [zR 0, zR 8, zR 97, .inl i], []) M' qLQ) : zG n (114, 4080270) 300 311 (1271, [zR 0, zR 8, zR 97, .inl i], []) M qLQ := by
  have hz := zp_311
  refine zG_blk (c' := (1276, [zR 0, zR 8, zR 97, .inl i], [.inl (i + 1), zR 0, zR 8])) 5 (by decide) hz (by rw [show (.inl (i + 1) : zV) = .inl (w32 (i + 1)) from by rw [w32_id (by omega)]]; rfl) ?_
  refine zG_iald (by decide) hz rfl rfl (.inr rfl) (by omega) ?_
  obtain ⟨x1, hx1⟩ : ∃ x : Int, x = M 0 (i + 1).toNat := ⟨_, rfl⟩
  rw [← hx1]
  have hr1 : qin x1 := by rw [hx1]; exact hJ.1.rng 0 _ (by decide) (by decide)
  show zG n (114, 4080270) 300 311 (1277, [zR 0, zR 8, zR 97, .inl i], [.inl x1, zR 8]) M _
  refine zG_blk (c' := (1281, [zR 0, zR 8, zR 97, .inl i], [.inl (i + 2), zR 0, .inl x1, zR 8])) 4 (by decide) hz (by rw [show (.inl (i + 2) : zV) = .inl (w32 (i + 2)) from by rw [w32_id (by omega)]]; rfl) ?_
  refine zG_iald (by decide) hz rfl rfl (.inr rfl) (by omega) ?_
  obtain ⟨x2, hx2⟩ : ∃ x : Int, x = M 0 (i + 2).toNat := ⟨_, rfl⟩
  rw [← hx2]
  have hr2 : qin x2 := by rw [hx2]; exact hJ.1.rng 0 _ (by decide) (by decide)
  show zG n (114, 4080270) 300 311 (1282, [zR 0, zR 8, zR 97, .inl i], [.inl x2, .inl x1, zR 8]) M _
  refine zG_blk (c' := (1286, [zR 0, zR 8, zR 97, .inl i], [.inl (i + 3), zR 0, .inl x2, .inl x1, zR 8])) 4 (by decide) hz (by rw [show (.inl (i + 3) : zV) = .inl (w32 (i + 3)) from by rw [w32_id (by omega)]]; rfl) ?_
  refine zG_iald (by decide) hz rfl rfl (.inr rfl) (by omega) ?_
  obtain ⟨x3, hx3⟩ : ∃ x : Int, x = M 0 (i + 3).toNat := ⟨_, rfl⟩
  rw [← hx3]
  have hr3 : qin x3 := by rw [hx3]; exact hJ.1.rng 0 _ (by decide) (by decide)
  show zG n (114, 4080270) 300 311 (1287, [zR 0, zR 8, zR 97, .inl i], [.inl x3, .inl x2, .inl x1, zR 8]) M _
  refine zG_call (by decide) hz zp_146 rfl rfl (Nat.le_of_ble_eq_true rfl) ⟨Nat.le_of_ble_eq_true rfl, Nat.le_of_ble_eq_true rfl⟩ (qm_146_8 (by decide) hJ.1 x1 (by omega) x2 (by omega) x3 (by omega)) (fun vr M1 hr => ?_)
  obtain ⟨⟨hCM1, hFM1⟩, hr⟩ := hr
  have hJM1 : qJ M1 := hJ.cls hCM1 hFM1 rfl (by decide)
  have hc0 : ∀ j, M1 0 j = M 0 j := fun j => hFM1 0 j (by decide)
  obtain ⟨r1, rfl, -⟩ := hr
  show zG n (114, 4080270) 300 311 (1290, [zR 0, zR 8, zR 97, .inl i], [.inl r1]) M1 _
  refine zG_blk (c' := (1296, [zR 0, zR 8, zR 97, .inl i], [.inl (i + 1), zR 0, zR 97])) 6 (by decide) hz (by rw [show (.inl (i + 1) : zV) = .inl (w32 (i + 1)) from by rw [w32_id (by omega)]]; rfl) ?_
  refine zG_iald (by decide) hz rfl rfl (.inr rfl) (by omega) ?_
  rw [show M1 0 (i + 1).toNat = x1 from by rw [hx1]; exact hc0 _]
  show zG n (114, 4080270) 300 311 (1297, [zR 0, zR 8, zR 97, .inl i], [.inl x1, zR 97]) M1 _
  refine zG_blk (c' := (1301, [zR 0, zR 8, zR 97, .inl i], [.inl (i + 2), zR 0, .inl x1, zR 97])) 4 (by decide) hz (by rw [show (.inl (i + 2) : zV) = .inl (w32 (i + 2)) from by rw [w32_id (by omega)]]; rfl) ?_
  refine zG_iald (by decide) hz rfl rfl (.inr rfl) (by omega) ?_
  rw [show M1 0 (i + 2).toNat = x2 from by rw [hx2]; exact hc0 _]
  show zG n (114, 4080270) 300 311 (1302, [zR 0, zR 8, zR 97, .inl i], [.inl x2, .inl x1, zR 97]) M1 _
  refine zG_blk (c' := (1306, [zR 0, zR 8, zR 97, .inl i], [.inl (i + 3), zR 0, .inl x2, .inl x1, zR 97])) 4 (by decide) hz (by rw [show (.inl (i + 3) : zV) = .inl (w32 (i + 3)) from by rw [w32_id (by omega)]]; rfl) ?_
  refine zG_iald (by decide) hz rfl rfl (.inr rfl) (by omega) ?_
  rw [show M1 0 (i + 3).toNat = x3 from by rw [hx3]; exact hc0 _]
  show zG n (114, 4080270) 300 311 (1307, [zR 0, zR 8, zR 97, .inl i], [.inl x3, .inl x2, .inl x1, zR 97]) M1 _
  refine zG_call (by decide) hz zp_250 rfl rfl (Nat.le_of_ble_eq_true rfl) ⟨Nat.le_of_ble_eq_true rfl, Nat.le_of_ble_eq_true rfl⟩ (qm_250_97 (by decide) hJM1.2.1 x1 (by omega) x2 (by omega) x3 (by omega)) (fun vr M2 hr => ?_)
  obtain ⟨⟨hCM2, hFM2⟩, hr⟩ := hr
  have hJM2 : qJ M2 := hJM1.mdl hCM2 hFM2 rfl (by decide) (hFM2.ar 98 6 (by decide) (by decide))
  obtain ⟨r2, hv9⟩ := hr
  first | (obtain ⟨rfl, -⟩ := hv9) | (obtain rfl := hv9)
  show zG n (114, 4080270) 300 311 (1310, [zR 0, zR 8, zR 97, .inl i], [.inl r2]) M2 _
  refine zG_blk (c' := (2158, [zR 0, zR 8, zR 97, .inl i], [])) 2 (by decide) hz rfl ?_
  exact K M2 hJM2
set_option maxRecDepth 100000 in
theorem qL_24 (hJ : qJ M) (hn : n ≤ 4096) (hi : 0 ≤ i ∧ i + 8 ≤ n) (K : ∀ M', qJ M' → zG n (114, 4080270) 300 311 (2158, [zR 0, zR 8, zR 97, .inl i], []) M' qLQ) : zG n (114, 4080270) 300 311 (1314, [zR 0, zR 8, zR 97, .inl i], []) M qLQ := by
  have hz := zp_311
  refine zG_blk (c' := (1319, [zR 0, zR 8, zR 97, .inl i], [.inl (i + 1), zR 0, zR 8])) 5 (by decide) hz (by rw [show (.inl (i + 1) : zV) = .inl (w32 (i + 1)) from by rw [w32_id (by omega)]]; rfl) ?_
  refine zG_iald (by decide) hz rfl rfl (.inr rfl) (by omega) ?_
  obtain ⟨x1, hx1⟩ : ∃ x : Int, x = M 0 (i + 1).toNat := ⟨_, rfl⟩
  rw [← hx1]
  have hr1 : qin x1 := by rw [hx1]; exact hJ.1.rng 0 _ (by decide) (by decide)
  show zG n (114, 4080270) 300 311 (1320, [zR 0, zR 8, zR 97, .inl i], [.inl x1, zR 8]) M _
  refine zG_blk (c' := (1324, [zR 0, zR 8, zR 97, .inl i], [.inl (i + 2), zR 0, .inl x1, zR 8])) 4 (by decide) hz (by rw [show (.inl (i + 2) : zV) = .inl (w32 (i + 2)) from by rw [w32_id (by omega)]]; rfl) ?_
  refine zG_iald (by decide) hz rfl rfl (.inr rfl) (by omega) ?_
  obtain ⟨x2, hx2⟩ : ∃ x : Int, x = M 0 (i + 2).toNat := ⟨_, rfl⟩
  rw [← hx2]
  have hr2 : qin x2 := by rw [hx2]; exact hJ.1.rng 0 _ (by decide) (by decide)
  show zG n (114, 4080270) 300 311 (1325, [zR 0, zR 8, zR 97, .inl i], [.inl x2, .inl x1, zR 8]) M _
  refine zG_blk (c' := (1329, [zR 0, zR 8, zR 97, .inl i], [.inl (i + 3), zR 0, .inl x2, .inl x1, zR 8])) 4 (by decide) hz (by rw [show (.inl (i + 3) : zV) = .inl (w32 (i + 3)) from by rw [w32_id (by omega)]]; rfl) ?_
  refine zG_iald (by decide) hz rfl rfl (.inr rfl) (by omega) ?_
  obtain ⟨x3, hx3⟩ : ∃ x : Int, x = M 0 (i + 3).toNat := ⟨_, rfl⟩
  rw [← hx3]
  have hr3 : qin x3 := by rw [hx3]; exact hJ.1.rng 0 _ (by decide) (by decide)
  show zG n (114, 4080270) 300 311 (1330, [zR 0, zR 8, zR 97, .inl i], [.inl x3, .inl x2, .inl x1, zR 8]) M _
  refine zG_call (by decide) hz zp_147 rfl rfl (Nat.le_of_ble_eq_true rfl) ⟨Nat.le_of_ble_eq_true rfl, Nat.le_of_ble_eq_true rfl⟩ (qm_147_8 (by decide) hJ.1 x1 (by omega) x2 (by omega) x3 (by omega)) (fun vr M1 hr => ?_)
  obtain ⟨⟨hCM1, hFM1⟩, hr⟩ := hr
  have hJM1 : qJ M1 := hJ.cls hCM1 hFM1 rfl (by decide)
  have hc0 : ∀ j, M1 0 j = M 0 j := fun j => hFM1 0 j (by decide)
  obtain ⟨r1, rfl, -⟩ := hr
  show zG n (114, 4080270) 300 311 (1333, [zR 0, zR 8, zR 97, .inl i], [.inl r1]) M1 _
  refine zG_blk (c' := (1339, [zR 0, zR 8, zR 97, .inl i], [.inl (i + 1), zR 0, zR 97])) 6 (by decide) hz (by rw [show (.inl (i + 1) : zV) = .inl (w32 (i + 1)) from by rw [w32_id (by omega)]]; rfl) ?_
  refine zG_iald (by decide) hz rfl rfl (.inr rfl) (by omega) ?_
  rw [show M1 0 (i + 1).toNat = x1 from by rw [hx1]; exact hc0 _]
  show zG n (114, 4080270) 300 311 (1340, [zR 0, zR 8, zR 97, .inl i], [.inl x1, zR 97]) M1 _
  refine zG_blk (c' := (1344, [zR 0, zR 8, zR 97, .inl i], [.inl (i + 2), zR 0, .inl x1, zR 97])) 4 (by decide) hz (by rw [show (.inl (i + 2) : zV) = .inl (w32 (i + 2)) from by rw [w32_id (by omega)]]; rfl) ?_
  refine zG_iald (by decide) hz rfl rfl (.inr rfl) (by omega) ?_
  rw [show M1 0 (i + 2).toNat = x2 from by rw [hx2]; exact hc0 _]
  show zG n (114, 4080270) 300 311 (1345, [zR 0, zR 8, zR 97, .inl i], [.inl x2, .inl x1, zR 97]) M1 _
  refine zG_blk (c' := (1349, [zR 0, zR 8, zR 97, .inl i], [.inl (i + 3), zR 0, .inl x2, .inl x1, zR 97])) 4 (by decide) hz (by rw [show (.inl (i + 3) : zV) = .inl (w32 (i + 3)) from by rw [w32_id (by omega)]]; rfl) ?_
  refine zG_iald (by decide) hz rfl rfl (.inr rfl) (by omega) ?_
  rw [show M1 0 (i + 3).toNat = x3 from by rw [hx3]; exact hc0 _]
  show zG n (114, 4080270) 300 311 (1350, [zR 0, zR 8, zR 97, .inl i], [.inl x3, .inl x2, .inl x1, zR 97]) M1 _
  refine zG_call (by decide) hz zp_251 rfl rfl (Nat.le_of_ble_eq_true rfl) ⟨Nat.le_of_ble_eq_true rfl, Nat.le_of_ble_eq_true rfl⟩ (qm_251_97 (by decide) hJM1.2.1 x1 (by omega) x2 (by omega) x3 (by omega)) (fun vr M2 hr => ?_)
  obtain ⟨⟨hCM2, hFM2⟩, hr⟩ := hr
  have h6 : M2 98 6 = M1 98 6 := by obtain ⟨x9, -, -, h9⟩ := hr; exact h9
  have hJM2 : qJ M2 := hJM1.mdl hCM2 hFM2 rfl (by decide) h6
  obtain ⟨r2, hv9⟩ := hr
  first | (obtain ⟨rfl, -⟩ := hv9) | (obtain rfl := hv9)
  show zG n (114, 4080270) 300 311 (1353, [zR 0, zR 8, zR 97, .inl i], [.inl r2]) M2 _
  refine zG_blk (c' := (2158, [zR 0, zR 8, zR 97, .inl i], [])) 2 (by decide) hz rfl ?_
  exact K M2 hJM2
set_option maxRecDepth 100000 in
theorem qL_25 (hJ : qJ M) (hn : n ≤ 4096) (hi : 0 ≤ i ∧ i + 8 ≤ n) (K : ∀ M', qJ M' → zG n (114, 4080270) 300 311 (2158, [zR 0, zR 8, zR 97, .inl i], []) M' qLQ) : zG n (114, 4080270) 300 311 (1357, [zR 0, zR 8, zR 97, .inl i], []) M qLQ := by
  have hz := zp_311
  refine zG_blk (c' := (1362, [zR 0, zR 8, zR 97, .inl i], [.inl (i + 1), zR 0, zR 8])) 5 (by decide) hz (by rw [show (.inl (i + 1) : zV) = .inl (w32 (i + 1)) from by rw [w32_id (by omega)]]; rfl) ?_
  refine zG_iald (by decide) hz rfl rfl (.inr rfl) (by omega) ?_
  obtain ⟨x1, hx1⟩ : ∃ x : Int, x = M 0 (i + 1).toNat := ⟨_, rfl⟩
  rw [← hx1]
  have hr1 : qin x1 := by rw [hx1]; exact hJ.1.rng 0 _ (by decide) (by decide)
  show zG n (114, 4080270) 300 311 (1363, [zR 0, zR 8, zR 97, .inl i], [.inl x1, zR 8]) M _
  refine zG_blk (c' := (1367, [zR 0, zR 8, zR 97, .inl i], [.inl (i + 2), zR 0, .inl x1, zR 8])) 4 (by decide) hz (by rw [show (.inl (i + 2) : zV) = .inl (w32 (i + 2)) from by rw [w32_id (by omega)]]; rfl) ?_
  refine zG_iald (by decide) hz rfl rfl (.inr rfl) (by omega) ?_
  obtain ⟨x2, hx2⟩ : ∃ x : Int, x = M 0 (i + 2).toNat := ⟨_, rfl⟩
  rw [← hx2]
  have hr2 : qin x2 := by rw [hx2]; exact hJ.1.rng 0 _ (by decide) (by decide)
  show zG n (114, 4080270) 300 311 (1368, [zR 0, zR 8, zR 97, .inl i], [.inl x2, .inl x1, zR 8]) M _
  refine zG_call (by decide) hz zp_148 rfl rfl (Nat.le_of_ble_eq_true rfl) ⟨Nat.le_of_ble_eq_true rfl, Nat.le_of_ble_eq_true rfl⟩ (qm_148_8 (by decide) hJ.1 x1 (by omega) x2 (by omega)) (fun vr M1 hr => ?_)
  obtain ⟨⟨hCM1, hFM1⟩, hr⟩ := hr
  have hJM1 : qJ M1 := hJ.cls hCM1 hFM1 rfl (by decide)
  have hc0 : ∀ j, M1 0 j = M 0 j := fun j => hFM1 0 j (by decide)
  obtain ⟨r1, rfl, -⟩ := hr
  show zG n (114, 4080270) 300 311 (1371, [zR 0, zR 8, zR 97, .inl i], [.inl r1]) M1 _
  refine zG_blk (c' := (1377, [zR 0, zR 8, zR 97, .inl i], [.inl (i + 1), zR 0, zR 97])) 6 (by decide) hz (by rw [show (.inl (i + 1) : zV) = .inl (w32 (i + 1)) from by rw [w32_id (by omega)]]; rfl) ?_
  refine zG_iald (by decide) hz rfl rfl (.inr rfl) (by omega) ?_
  rw [show M1 0 (i + 1).toNat = x1 from by rw [hx1]; exact hc0 _]
  show zG n (114, 4080270) 300 311 (1378, [zR 0, zR 8, zR 97, .inl i], [.inl x1, zR 97]) M1 _
  refine zG_blk (c' := (1382, [zR 0, zR 8, zR 97, .inl i], [.inl (i + 2), zR 0, .inl x1, zR 97])) 4 (by decide) hz (by rw [show (.inl (i + 2) : zV) = .inl (w32 (i + 2)) from by rw [w32_id (by omega)]]; rfl) ?_
  refine zG_iald (by decide) hz rfl rfl (.inr rfl) (by omega) ?_
  rw [show M1 0 (i + 2).toNat = x2 from by rw [hx2]; exact hc0 _]
  show zG n (114, 4080270) 300 311 (1383, [zR 0, zR 8, zR 97, .inl i], [.inl x2, .inl x1, zR 97]) M1 _
  refine zG_call (by decide) hz zp_253 rfl rfl (Nat.le_of_ble_eq_true rfl) ⟨Nat.le_of_ble_eq_true rfl, Nat.le_of_ble_eq_true rfl⟩ (qm_253_97 (by decide) hJM1.2.1 x1 (by omega) x2 (by omega)) (fun vr M2 hr => ?_)
  obtain ⟨⟨hCM2, hFM2⟩, hr⟩ := hr
  have h6 : M2 98 6 = M1 98 6 := by obtain ⟨x9, -, -, h9⟩ := hr; exact h9
  have hJM2 : qJ M2 := hJM1.mdl hCM2 hFM2 rfl (by decide) h6
  obtain ⟨r2, hv9⟩ := hr
  first | (obtain ⟨rfl, -⟩ := hv9) | (obtain rfl := hv9)
  show zG n (114, 4080270) 300 311 (1386, [zR 0, zR 8, zR 97, .inl i], [.inl r2]) M2 _
  refine zG_blk (c' := (2158, [zR 0, zR 8, zR 97, .inl i], [])) 2 (by decide) hz rfl ?_
  exact K M2 hJM2
set_option maxRecDepth 100000 in
theorem qL_26 (hJ : qJ M) (hn : n ≤ 4096) (hi : 0 ≤ i ∧ i + 8 ≤ n) (K : ∀ M', qJ M' → zG n (114, 4080270) 300 311 (2158, [zR 0, zR 8, zR 97, .inl i], []) M' qLQ) : zG n (114, 4080270) 300 311 (1390, [zR 0, zR 8, zR 97, .inl i], []) M qLQ := by
  have hz := zp_311
  refine zG_blk (c' := (1395, [zR 0, zR 8, zR 97, .inl i], [.inl (i + 1), zR 0, zR 8])) 5 (by decide) hz (by rw [show (.inl (i + 1) : zV) = .inl (w32 (i + 1)) from by rw [w32_id (by omega)]]; rfl) ?_
  refine zG_iald (by decide) hz rfl rfl (.inr rfl) (by omega) ?_
  obtain ⟨x1, hx1⟩ : ∃ x : Int, x = M 0 (i + 1).toNat := ⟨_, rfl⟩
  rw [← hx1]
  have hr1 : qin x1 := by rw [hx1]; exact hJ.1.rng 0 _ (by decide) (by decide)
  show zG n (114, 4080270) 300 311 (1396, [zR 0, zR 8, zR 97, .inl i], [.inl x1, zR 8]) M _
  refine zG_call (by decide) hz zp_149 rfl rfl (Nat.le_of_ble_eq_true rfl) ⟨Nat.le_of_ble_eq_true rfl, Nat.le_of_ble_eq_true rfl⟩ (qm_149_8 (by decide) hJ.1 x1 (by omega)) (fun vr M1 hr => ?_)
  obtain ⟨⟨hCM1, hFM1⟩, hr⟩ := hr
  have hJM1 : qJ M1 := hJ.cls hCM1 hFM1 rfl (by decide)
  have hc0 : ∀ j, M1 0 j = M 0 j := fun j => hFM1 0 j (by decide)
  obtain ⟨r1, rfl, -⟩ := hr
  show zG n (114, 4080270) 300 311 (1399, [zR 0, zR 8, zR 97, .inl i], [.inl r1]) M1 _
  refine zG_blk (c' := (1405, [zR 0, zR 8, zR 97, .inl i], [.inl (i + 1), zR 0, zR 97])) 6 (by decide) hz (by rw [show (.inl (i + 1) : zV) = .inl (w32 (i + 1)) from by rw [w32_id (by omega)]]; rfl) ?_
  refine zG_iald (by decide) hz rfl rfl (.inr rfl) (by omega) ?_
  rw [show M1 0 (i + 1).toNat = x1 from by rw [hx1]; exact hc0 _]
  show zG n (114, 4080270) 300 311 (1406, [zR 0, zR 8, zR 97, .inl i], [.inl x1, zR 97]) M1 _
  refine zG_call (by decide) hz zp_254 rfl rfl (Nat.le_of_ble_eq_true rfl) ⟨Nat.le_of_ble_eq_true rfl, Nat.le_of_ble_eq_true rfl⟩ (qm_254_97 (by decide) hJM1.2.1 x1 (by omega)) (fun vr M2 hr => ?_)
  obtain ⟨⟨hCM2, hFM2⟩, hr⟩ := hr
  have h6 : M2 98 6 = M1 98 6 := by obtain ⟨x9, -, -, h9⟩ := hr; exact h9
  have hJM2 : qJ M2 := hJM1.mdl hCM2 hFM2 rfl (by decide) h6
  obtain ⟨r2, hv9⟩ := hr
  first | (obtain ⟨rfl, -⟩ := hv9) | (obtain rfl := hv9)
  show zG n (114, 4080270) 300 311 (1409, [zR 0, zR 8, zR 97, .inl i], [.inl r2]) M2 _
  refine zG_blk (c' := (2158, [zR 0, zR 8, zR 97, .inl i], [])) 2 (by decide) hz rfl ?_
  exact K M2 hJM2
set_option maxRecDepth 100000 in
theorem qL_27 (hJ : qJ M) (hn : n ≤ 4096) (hi : 0 ≤ i ∧ i + 8 ≤ n) (K : ∀ M', qJ M' → zG n (114, 4080270) 300 311 (2158, [zR 0, zR 8, zR 97, .inl i], []) M' qLQ) : zG n (114, 4080270) 300 311 (1413, [zR 0, zR 8, zR 97, .inl i], []) M qLQ := by
  have hz := zp_311
  refine zG_blk (c' := (1418, [zR 0, zR 8, zR 97, .inl i], [.inl (i + 1), zR 0, zR 8])) 5 (by decide) hz (by rw [show (.inl (i + 1) : zV) = .inl (w32 (i + 1)) from by rw [w32_id (by omega)]]; rfl) ?_
  refine zG_iald (by decide) hz rfl rfl (.inr rfl) (by omega) ?_
  obtain ⟨x1, hx1⟩ : ∃ x : Int, x = M 0 (i + 1).toNat := ⟨_, rfl⟩
  rw [← hx1]
  have hr1 : qin x1 := by rw [hx1]; exact hJ.1.rng 0 _ (by decide) (by decide)
  show zG n (114, 4080270) 300 311 (1419, [zR 0, zR 8, zR 97, .inl i], [.inl x1, zR 8]) M _
  refine zG_call (by decide) hz zp_150 rfl rfl (Nat.le_of_ble_eq_true rfl) ⟨Nat.le_of_ble_eq_true rfl, Nat.le_of_ble_eq_true rfl⟩ (qm_150_8 (by decide) hJ.1 x1 (by omega)) (fun vr M1 hr => ?_)
  obtain ⟨⟨hCM1, hFM1⟩, hr⟩ := hr
  have hJM1 : qJ M1 := hJ.cls hCM1 hFM1 rfl (by decide)
  have hc0 : ∀ j, M1 0 j = M 0 j := fun j => hFM1 0 j (by decide)
  obtain ⟨r1, rfl, -⟩ := hr
  show zG n (114, 4080270) 300 311 (1422, [zR 0, zR 8, zR 97, .inl i], [.inl r1]) M1 _
  refine zG_blk (c' := (1428, [zR 0, zR 8, zR 97, .inl i], [.inl (i + 1), zR 0, zR 97])) 6 (by decide) hz (by rw [show (.inl (i + 1) : zV) = .inl (w32 (i + 1)) from by rw [w32_id (by omega)]]; rfl) ?_
  refine zG_iald (by decide) hz rfl rfl (.inr rfl) (by omega) ?_
  rw [show M1 0 (i + 1).toNat = x1 from by rw [hx1]; exact hc0 _]
  show zG n (114, 4080270) 300 311 (1429, [zR 0, zR 8, zR 97, .inl i], [.inl x1, zR 97]) M1 _
  refine zG_call (by decide) hz zp_255 rfl rfl (Nat.le_of_ble_eq_true rfl) ⟨Nat.le_of_ble_eq_true rfl, Nat.le_of_ble_eq_true rfl⟩ (qm_255_97 (by decide) hJM1.2.1 x1 (by omega)) (fun vr M2 hr => ?_)
  obtain ⟨⟨hCM2, hFM2⟩, hr⟩ := hr
  have hJM2 : qJ M2 := hJM1.mdl hCM2 hFM2 rfl (by decide) (hFM2.ar 98 6 (by decide) (by decide))
  obtain ⟨r2, hv9⟩ := hr
  first | (obtain ⟨rfl, -⟩ := hv9) | (obtain rfl := hv9)
  show zG n (114, 4080270) 300 311 (1432, [zR 0, zR 8, zR 97, .inl i], [.inl r2]) M2 _
  refine zG_blk (c' := (2158, [zR 0, zR 8, zR 97, .inl i], [])) 2 (by decide) hz rfl ?_
  exact K M2 hJM2
set_option maxRecDepth 100000 in
theorem qL_28 (hJ : qJ M) (hn : n ≤ 4096) (hi : 0 ≤ i ∧ i + 8 ≤ n) (K : ∀ M', qJ M' → zG n (114, 4080270) 300 311 (2158, [zR 0, zR 8, zR 97, .inl i], []) M' qLQ) : zG n (114, 4080270) 300 311 (1436, [zR 0, zR 8, zR 97, .inl i], []) M qLQ := by
  have hz := zp_311
  refine zG_blk (c' := (1441, [zR 0, zR 8, zR 97, .inl i], [.inl (i + 1), zR 0, zR 8])) 5 (by decide) hz (by rw [show (.inl (i + 1) : zV) = .inl (w32 (i + 1)) from by rw [w32_id (by omega)]]; rfl) ?_
  refine zG_iald (by decide) hz rfl rfl (.inr rfl) (by omega) ?_
  obtain ⟨x1, hx1⟩ : ∃ x : Int, x = M 0 (i + 1).toNat := ⟨_, rfl⟩
  rw [← hx1]
  have hr1 : qin x1 := by rw [hx1]; exact hJ.1.rng 0 _ (by decide) (by decide)
  show zG n (114, 4080270) 300 311 (1442, [zR 0, zR 8, zR 97, .inl i], [.inl x1, zR 8]) M _
  refine zG_blk (c' := (1446, [zR 0, zR 8, zR 97, .inl i], [.inl (i + 2), zR 0, .inl x1, zR 8])) 4 (by decide) hz (by rw [show (.inl (i + 2) : zV) = .inl (w32 (i + 2)) from by rw [w32_id (by omega)]]; rfl) ?_
  refine zG_iald (by decide) hz rfl rfl (.inr rfl) (by omega) ?_
  obtain ⟨x2, hx2⟩ : ∃ x : Int, x = M 0 (i + 2).toNat := ⟨_, rfl⟩
  rw [← hx2]
  have hr2 : qin x2 := by rw [hx2]; exact hJ.1.rng 0 _ (by decide) (by decide)
  show zG n (114, 4080270) 300 311 (1447, [zR 0, zR 8, zR 97, .inl i], [.inl x2, .inl x1, zR 8]) M _
  refine zG_blk (c' := (1451, [zR 0, zR 8, zR 97, .inl i], [.inl (i + 3), zR 0, .inl x2, .inl x1, zR 8])) 4 (by decide) hz (by rw [show (.inl (i + 3) : zV) = .inl (w32 (i + 3)) from by rw [w32_id (by omega)]]; rfl) ?_
  refine zG_iald (by decide) hz rfl rfl (.inr rfl) (by omega) ?_
  obtain ⟨x3, hx3⟩ : ∃ x : Int, x = M 0 (i + 3).toNat := ⟨_, rfl⟩
  rw [← hx3]
  have hr3 : qin x3 := by rw [hx3]; exact hJ.1.rng 0 _ (by decide) (by decide)
  show zG n (114, 4080270) 300 311 (1452, [zR 0, zR 8, zR 97, .inl i], [.inl x3, .inl x2, .inl x1, zR 8]) M _
  refine zG_blk (c' := (1456, [zR 0, zR 8, zR 97, .inl i], [.inl (i + 4), zR 0, .inl x3, .inl x2, .inl x1, zR 8])) 4 (by decide) hz (by rw [show (.inl (i + 4) : zV) = .inl (w32 (i + 4)) from by rw [w32_id (by omega)]]; rfl) ?_
  refine zG_iald (by decide) hz rfl rfl (.inr rfl) (by omega) ?_
  obtain ⟨x4, hx4⟩ : ∃ x : Int, x = M 0 (i + 4).toNat := ⟨_, rfl⟩
  rw [← hx4]
  have hr4 : qin x4 := by rw [hx4]; exact hJ.1.rng 0 _ (by decide) (by decide)
  show zG n (114, 4080270) 300 311 (1457, [zR 0, zR 8, zR 97, .inl i], [.inl x4, .inl x3, .inl x2, .inl x1, zR 8]) M _
  refine zG_blk (c' := (1461, [zR 0, zR 8, zR 97, .inl i], [.inl (i + 5), zR 0, .inl x4, .inl x3, .inl x2, .inl x1, zR 8])) 4 (by decide) hz (by rw [show (.inl (i + 5) : zV) = .inl (w32 (i + 5)) from by rw [w32_id (by omega)]]; rfl) ?_
  refine zG_iald (by decide) hz rfl rfl (.inr rfl) (by omega) ?_
  obtain ⟨x5, hx5⟩ : ∃ x : Int, x = M 0 (i + 5).toNat := ⟨_, rfl⟩
  rw [← hx5]
  have hr5 : qin x5 := by rw [hx5]; exact hJ.1.rng 0 _ (by decide) (by decide)
  show zG n (114, 4080270) 300 311 (1462, [zR 0, zR 8, zR 97, .inl i], [.inl x5, .inl x4, .inl x3, .inl x2, .inl x1, zR 8]) M _
  refine zG_call (by decide) hz zp_151 rfl rfl (Nat.le_of_ble_eq_true rfl) ⟨Nat.le_of_ble_eq_true rfl, Nat.le_of_ble_eq_true rfl⟩ (qm_151_8 (by decide) hJ.1 x1 (by omega) x2 (by omega) x3 (by omega) x4 (by omega) x5 (by omega)) (fun vr M1 hr => ?_)
  obtain ⟨⟨hCM1, hFM1⟩, hr⟩ := hr
  have hJM1 : qJ M1 := hJ.cls hCM1 hFM1 rfl (by decide)
  have hc0 : ∀ j, M1 0 j = M 0 j := fun j => hFM1 0 j (by decide)
  obtain ⟨r1, rfl⟩ := hr
  show zG n (114, 4080270) 300 311 (1465, [zR 0, zR 8, zR 97, .inl i], [(.inr (.inl r1))]) M1 _
  refine zG_blk (c' := (1471, [zR 0, zR 8, zR 97, .inl i], [.inl (i + 1), zR 0, zR 97])) 6 (by decide) hz (by rw [show (.inl (i + 1) : zV) = .inl (w32 (i + 1)) from by rw [w32_id (by omega)]]; rfl) ?_
  refine zG_iald (by decide) hz rfl rfl (.inr rfl) (by omega) ?_
  rw [show M1 0 (i + 1).toNat = x1 from by rw [hx1]; exact hc0 _]
  show zG n (114, 4080270) 300 311 (1472, [zR 0, zR 8, zR 97, .inl i], [.inl x1, zR 97]) M1 _
  refine zG_blk (c' := (1476, [zR 0, zR 8, zR 97, .inl i], [.inl (i + 2), zR 0, .inl x1, zR 97])) 4 (by decide) hz (by rw [show (.inl (i + 2) : zV) = .inl (w32 (i + 2)) from by rw [w32_id (by omega)]]; rfl) ?_
  refine zG_iald (by decide) hz rfl rfl (.inr rfl) (by omega) ?_
  rw [show M1 0 (i + 2).toNat = x2 from by rw [hx2]; exact hc0 _]
  show zG n (114, 4080270) 300 311 (1477, [zR 0, zR 8, zR 97, .inl i], [.inl x2, .inl x1, zR 97]) M1 _
  refine zG_blk (c' := (1481, [zR 0, zR 8, zR 97, .inl i], [.inl (i + 3), zR 0, .inl x2, .inl x1, zR 97])) 4 (by decide) hz (by rw [show (.inl (i + 3) : zV) = .inl (w32 (i + 3)) from by rw [w32_id (by omega)]]; rfl) ?_
  refine zG_iald (by decide) hz rfl rfl (.inr rfl) (by omega) ?_
  rw [show M1 0 (i + 3).toNat = x3 from by rw [hx3]; exact hc0 _]
  show zG n (114, 4080270) 300 311 (1482, [zR 0, zR 8, zR 97, .inl i], [.inl x3, .inl x2, .inl x1, zR 97]) M1 _
  refine zG_blk (c' := (1486, [zR 0, zR 8, zR 97, .inl i], [.inl (i + 4), zR 0, .inl x3, .inl x2, .inl x1, zR 97])) 4 (by decide) hz (by rw [show (.inl (i + 4) : zV) = .inl (w32 (i + 4)) from by rw [w32_id (by omega)]]; rfl) ?_
  refine zG_iald (by decide) hz rfl rfl (.inr rfl) (by omega) ?_
  rw [show M1 0 (i + 4).toNat = x4 from by rw [hx4]; exact hc0 _]
  show zG n (114, 4080270) 300 311 (1487, [zR 0, zR 8, zR 97, .inl i], [.inl x4, .inl x3, .inl x2, .inl x1, zR 97]) M1 _
  refine zG_blk (c' := (1491, [zR 0, zR 8, zR 97, .inl i], [.inl (i + 5), zR 0, .inl x4, .inl x3, .inl x2, .inl x1, zR 97])) 4 (by decide) hz (by rw [show (.inl (i + 5) : zV) = .inl (w32 (i + 5)) from by rw [w32_id (by omega)]]; rfl) ?_
  refine zG_iald (by decide) hz rfl rfl (.inr rfl) (by omega) ?_
  rw [show M1 0 (i + 5).toNat = x5 from by rw [hx5]; exact hc0 _]
  show zG n (114, 4080270) 300 311 (1492, [zR 0, zR 8, zR 97, .inl i], [.inl x5, .inl x4, .inl x3, .inl x2, .inl x1, zR 97]) M1 _
  refine zG_call (by decide) hz zp_256 rfl rfl (Nat.le_of_ble_eq_true rfl) ⟨Nat.le_of_ble_eq_true rfl, Nat.le_of_ble_eq_true rfl⟩ (qm_256_97 (by decide) hJM1.2.1 x1 (by omega) x2 (by omega) x3 (by omega) x4 (by omega) x5 (by omega)) (fun vr M2 hr => ?_)
  obtain ⟨⟨hCM2, hFM2⟩, hr⟩ := hr
  have hJM2 : qJ M2 := hJM1.mdl hCM2 hFM2 rfl (by decide) (hFM2.ar 98 6 (by decide) (by decide))
  obtain ⟨r2, hv9⟩ := hr
  first | (obtain ⟨rfl, -⟩ := hv9) | (obtain rfl := hv9)
  show zG n (114, 4080270) 300 311 (1495, [zR 0, zR 8, zR 97, .inl i], [(.inr (.inl r2))]) M2 _
  refine zG_blk (c' := (2158, [zR 0, zR 8, zR 97, .inl i], [])) 2 (by decide) hz rfl ?_
  exact K M2 hJM2
set_option maxRecDepth 100000 in
theorem qL_29 (hJ : qJ M) (hn : n ≤ 4096) (hi : 0 ≤ i ∧ i + 8 ≤ n) (K : ∀ M', qJ M' → zG n (114, 4080270) 300 311 (2158, [zR 0, zR 8, zR 97, .inl i], []) M' qLQ) : zG n (114, 4080270) 300 311 (1499, [zR 0, zR 8, zR 97, .inl i], []) M qLQ := by
  have hz := zp_311
  refine zG_blk (c' := (1504, [zR 0, zR 8, zR 97, .inl i], [.inl (i + 1), zR 0, zR 8])) 5 (by decide) hz (by rw [show (.inl (i + 1) : zV) = .inl (w32 (i + 1)) from by rw [w32_id (by omega)]]; rfl) ?_
  refine zG_iald (by decide) hz rfl rfl (.inr rfl) (by omega) ?_
  obtain ⟨x1, hx1⟩ : ∃ x : Int, x = M 0 (i + 1).toNat := ⟨_, rfl⟩
  rw [← hx1]
  have hr1 : qin x1 := by rw [hx1]; exact hJ.1.rng 0 _ (by decide) (by decide)
  show zG n (114, 4080270) 300 311 (1505, [zR 0, zR 8, zR 97, .inl i], [.inl x1, zR 8]) M _
  refine zG_blk (c' := (1509, [zR 0, zR 8, zR 97, .inl i], [.inl (i + 2), zR 0, .inl x1, zR 8])) 4 (by decide) hz (by rw [show (.inl (i + 2) : zV) = .inl (w32 (i + 2)) from by rw [w32_id (by omega)]]; rfl) ?_
  refine zG_iald (by decide) hz rfl rfl (.inr rfl) (by omega) ?_
  obtain ⟨x2, hx2⟩ : ∃ x : Int, x = M 0 (i + 2).toNat := ⟨_, rfl⟩
  rw [← hx2]
  have hr2 : qin x2 := by rw [hx2]; exact hJ.1.rng 0 _ (by decide) (by decide)
  show zG n (114, 4080270) 300 311 (1510, [zR 0, zR 8, zR 97, .inl i], [.inl x2, .inl x1, zR 8]) M _
  refine zG_blk (c' := (1514, [zR 0, zR 8, zR 97, .inl i], [.inl (i + 3), zR 0, .inl x2, .inl x1, zR 8])) 4 (by decide) hz (by rw [show (.inl (i + 3) : zV) = .inl (w32 (i + 3)) from by rw [w32_id (by omega)]]; rfl) ?_
  refine zG_iald (by decide) hz rfl rfl (.inr rfl) (by omega) ?_
  obtain ⟨x3, hx3⟩ : ∃ x : Int, x = M 0 (i + 3).toNat := ⟨_, rfl⟩
  rw [← hx3]
  have hr3 : qin x3 := by rw [hx3]; exact hJ.1.rng 0 _ (by decide) (by decide)
  show zG n (114, 4080270) 300 311 (1515, [zR 0, zR 8, zR 97, .inl i], [.inl x3, .inl x2, .inl x1, zR 8]) M _
  refine zG_blk (c' := (1519, [zR 0, zR 8, zR 97, .inl i], [.inl (i + 4), zR 0, .inl x3, .inl x2, .inl x1, zR 8])) 4 (by decide) hz (by rw [show (.inl (i + 4) : zV) = .inl (w32 (i + 4)) from by rw [w32_id (by omega)]]; rfl) ?_
  refine zG_iald (by decide) hz rfl rfl (.inr rfl) (by omega) ?_
  obtain ⟨x4, hx4⟩ : ∃ x : Int, x = M 0 (i + 4).toNat := ⟨_, rfl⟩
  rw [← hx4]
  have hr4 : qin x4 := by rw [hx4]; exact hJ.1.rng 0 _ (by decide) (by decide)
  show zG n (114, 4080270) 300 311 (1520, [zR 0, zR 8, zR 97, .inl i], [.inl x4, .inl x3, .inl x2, .inl x1, zR 8]) M _
  have j1528 : ∀ b1520 : Int, 0 ≤ b1520 ∧ b1520 ≤ 1 → zG n (114, 4080270) 300 311 (1528, [zR 0, zR 8, zR 97, .inl i], [.inl b1520, .inl x3, .inl x2, .inl x1, zR 8]) M qLQ := by
    intro b1520 hb1520
    refine zG_call (by decide) hz zp_152 rfl rfl (Nat.le_of_ble_eq_true rfl) ⟨Nat.le_of_ble_eq_true rfl, Nat.le_of_ble_eq_true rfl⟩ (qm_152_8 (by decide) hJ.1 x1 (by omega) x2 (by omega) x3 (by omega) b1520 (by omega)) (fun vr M1 hr => ?_)
    obtain ⟨⟨hCM1, hFM1⟩, hr⟩ := hr
    have hJM1 : qJ M1 := hJ.cls hCM1 hFM1 rfl (by decide)
    have hc0 : ∀ j, M1 0 j = M 0 j := fun j => hFM1 0 j (by decide)
    obtain ⟨r1, rfl, -⟩ := hr
    show zG n (114, 4080270) 300 311 (1531, [zR 0, zR 8, zR 97, .inl i], [.inl r1]) M1 _
    refine zG_blk (c' := (1537, [zR 0, zR 8, zR 97, .inl i], [.inl (i + 1), zR 0, zR 97])) 6 (by decide) hz (by rw [show (.inl (i + 1) : zV) = .inl (w32 (i + 1)) from by rw [w32_id (by omega)]]; rfl) ?_
    refine zG_iald (by decide) hz rfl rfl (.inr rfl) (by omega) ?_
    rw [show M1 0 (i + 1).toNat = x1 from by rw [hx1]; exact hc0 _]
    show zG n (114, 4080270) 300 311 (1538, [zR 0, zR 8, zR 97, .inl i], [.inl x1, zR 97]) M1 _
    refine zG_blk (c' := (1542, [zR 0, zR 8, zR 97, .inl i], [.inl (i + 2), zR 0, .inl x1, zR 97])) 4 (by decide) hz (by rw [show (.inl (i + 2) : zV) = .inl (w32 (i + 2)) from by rw [w32_id (by omega)]]; rfl) ?_
    refine zG_iald (by decide) hz rfl rfl (.inr rfl) (by omega) ?_
    rw [show M1 0 (i + 2).toNat = x2 from by rw [hx2]; exact hc0 _]
    show zG n (114, 4080270) 300 311 (1543, [zR 0, zR 8, zR 97, .inl i], [.inl x2, .inl x1, zR 97]) M1 _
    refine zG_blk (c' := (1547, [zR 0, zR 8, zR 97, .inl i], [.inl (i + 3), zR 0, .inl x2, .inl x1, zR 97])) 4 (by decide) hz (by rw [show (.inl (i + 3) : zV) = .inl (w32 (i + 3)) from by rw [w32_id (by omega)]]; rfl) ?_
    refine zG_iald (by decide) hz rfl rfl (.inr rfl) (by omega) ?_
    rw [show M1 0 (i + 3).toNat = x3 from by rw [hx3]; exact hc0 _]
    show zG n (114, 4080270) 300 311 (1548, [zR 0, zR 8, zR 97, .inl i], [.inl x3, .inl x2, .inl x1, zR 97]) M1 _
    refine zG_blk (c' := (1552, [zR 0, zR 8, zR 97, .inl i], [.inl (i + 4), zR 0, .inl x3, .inl x2, .inl x1, zR 97])) 4 (by decide) hz (by rw [show (.inl (i + 4) : zV) = .inl (w32 (i + 4)) from by rw [w32_id (by omega)]]; rfl) ?_
    refine zG_iald (by decide) hz rfl rfl (.inr rfl) (by omega) ?_
    rw [show M1 0 (i + 4).toNat = x4 from by rw [hx4]; exact hc0 _]
    show zG n (114, 4080270) 300 311 (1553, [zR 0, zR 8, zR 97, .inl i], [.inl x4, .inl x3, .inl x2, .inl x1, zR 97]) M1 _
    have j1561 : ∀ b1553 : Int, 0 ≤ b1553 ∧ b1553 ≤ 1 → zG n (114, 4080270) 300 311 (1561, [zR 0, zR 8, zR 97, .inl i], [.inl b1553, .inl x3, .inl x2, .inl x1, zR 97]) M1 qLQ := by
      intro b1553 hb1553
      refine zG_call (by decide) hz zp_257 rfl rfl (Nat.le_of_ble_eq_true rfl) ⟨Nat.le_of_ble_eq_true rfl, Nat.le_of_ble_eq_true rfl⟩ (qm_257_97 (by decide) hJM1.2.1 x1 (by omega) x2 (by omega) x3 (by omega) b1553 (by omega)) (fun vr M2 hr => ?_)
      obtain ⟨⟨hCM2, hFM2⟩, hr⟩ := hr
      have h6 : M2 98 6 = M1 98 6 := by obtain ⟨x9, -, -, h9⟩ := hr; exact h9
      have hJM2 : qJ M2 := hJM1.mdl hCM2 hFM2 rfl (by decide) h6
      obtain ⟨r2, hv9⟩ := hr
      first | (obtain ⟨rfl, -⟩ := hv9) | (obtain rfl := hv9)
      show zG n (114, 4080270) 300 311 (1564, [zR 0, zR 8, zR 97, .inl i], [.inl r2]) M2 _
      refine zG_blk (c' := (2158, [zR 0, zR 8, zR 97, .inl i], [])) 2 (by decide) hz rfl ?_
      exact K M2 hJM2
    refine zG_if_eq (by decide) hz rfl (fun _ => ?_) (fun _ => ?_)
    · exact zG_blk (c' := (1561, [zR 0, zR 8, zR 97, .inl i], [.inl 0, .inl x3, .inl x2, .inl x1, zR 97])) 1 (by decide) hz rfl (j1561 0 (by omega))
    · exact zG_blk (c' := (1561, [zR 0, zR 8, zR 97, .inl i], [.inl 1, .inl x3, .inl x2, .inl x1, zR 97])) 2 (by decide) hz rfl (j1561 1 (by omega))
  refine zG_if_eq (by decide) hz rfl (fun _ => ?_) (fun _ => ?_)
  · exact zG_blk (c' := (1528, [zR 0, zR 8, zR 97, .inl i], [.inl 0, .inl x3, .inl x2, .inl x1, zR 8])) 1 (by decide) hz rfl (j1528 0 (by omega))
  · exact zG_blk (c' := (1528, [zR 0, zR 8, zR 97, .inl i], [.inl 1, .inl x3, .inl x2, .inl x1, zR 8])) 2 (by decide) hz rfl (j1528 1 (by omega))
set_option maxRecDepth 100000 in
theorem qL_30 (hJ : qJ M) (hn : n ≤ 4096) (hi : 0 ≤ i ∧ i + 8 ≤ n) (K : ∀ M', qJ M' → zG n (114, 4080270) 300 311 (2158, [zR 0, zR 8, zR 97, .inl i], []) M' qLQ) : zG n (114, 4080270) 300 311 (1568, [zR 0, zR 8, zR 97, .inl i], []) M qLQ := by
  have hz := zp_311
  refine zG_blk (c' := (1573, [zR 0, zR 8, zR 97, .inl i], [.inl (i + 1), zR 0, zR 8])) 5 (by decide) hz (by rw [show (.inl (i + 1) : zV) = .inl (w32 (i + 1)) from by rw [w32_id (by omega)]]; rfl) ?_
  refine zG_iald (by decide) hz rfl rfl (.inr rfl) (by omega) ?_
  obtain ⟨x1, hx1⟩ : ∃ x : Int, x = M 0 (i + 1).toNat := ⟨_, rfl⟩
  rw [← hx1]
  have hr1 : qin x1 := by rw [hx1]; exact hJ.1.rng 0 _ (by decide) (by decide)
  show zG n (114, 4080270) 300 311 (1574, [zR 0, zR 8, zR 97, .inl i], [.inl x1, zR 8]) M _
  refine zG_blk (c' := (1578, [zR 0, zR 8, zR 97, .inl i], [.inl (i + 2), zR 0, .inl x1, zR 8])) 4 (by decide) hz (by rw [show (.inl (i + 2) : zV) = .inl (w32 (i + 2)) from by rw [w32_id (by omega)]]; rfl) ?_
  refine zG_iald (by decide) hz rfl rfl (.inr rfl) (by omega) ?_
  obtain ⟨x2, hx2⟩ : ∃ x : Int, x = M 0 (i + 2).toNat := ⟨_, rfl⟩
  rw [← hx2]
  have hr2 : qin x2 := by rw [hx2]; exact hJ.1.rng 0 _ (by decide) (by decide)
  show zG n (114, 4080270) 300 311 (1579, [zR 0, zR 8, zR 97, .inl i], [.inl x2, .inl x1, zR 8]) M _
  refine zG_call (by decide) hz zp_153 rfl rfl (Nat.le_of_ble_eq_true rfl) ⟨Nat.le_of_ble_eq_true rfl, Nat.le_of_ble_eq_true rfl⟩ (qm_153_8 (by decide) hJ.1 x1 (by omega) x2 (by omega)) (fun vr M1 hr => ?_)
  obtain ⟨⟨hCM1, hFM1⟩, hr⟩ := hr
  have hJM1 : qJ M1 := hJ.cls hCM1 hFM1 rfl (by decide)
  have hc0 : ∀ j, M1 0 j = M 0 j := fun j => hFM1 0 j (by decide)
  obtain ⟨r1, rfl, -⟩ := hr
  show zG n (114, 4080270) 300 311 (1582, [zR 0, zR 8, zR 97, .inl i], [.inl r1]) M1 _
  refine zG_blk (c' := (1588, [zR 0, zR 8, zR 97, .inl i], [.inl (i + 1), zR 0, zR 97])) 6 (by decide) hz (by rw [show (.inl (i + 1) : zV) = .inl (w32 (i + 1)) from by rw [w32_id (by omega)]]; rfl) ?_
  refine zG_iald (by decide) hz rfl rfl (.inr rfl) (by omega) ?_
  rw [show M1 0 (i + 1).toNat = x1 from by rw [hx1]; exact hc0 _]
  show zG n (114, 4080270) 300 311 (1589, [zR 0, zR 8, zR 97, .inl i], [.inl x1, zR 97]) M1 _
  refine zG_blk (c' := (1593, [zR 0, zR 8, zR 97, .inl i], [.inl (i + 2), zR 0, .inl x1, zR 97])) 4 (by decide) hz (by rw [show (.inl (i + 2) : zV) = .inl (w32 (i + 2)) from by rw [w32_id (by omega)]]; rfl) ?_
  refine zG_iald (by decide) hz rfl rfl (.inr rfl) (by omega) ?_
  rw [show M1 0 (i + 2).toNat = x2 from by rw [hx2]; exact hc0 _]
  show zG n (114, 4080270) 300 311 (1594, [zR 0, zR 8, zR 97, .inl i], [.inl x2, .inl x1, zR 97]) M1 _
  refine zG_call (by decide) hz zp_258 rfl rfl (Nat.le_of_ble_eq_true rfl) ⟨Nat.le_of_ble_eq_true rfl, Nat.le_of_ble_eq_true rfl⟩ (qm_258_97 (by decide) hJM1.2.1 x1 (by omega) x2 (by omega)) (fun vr M2 hr => ?_)
  obtain ⟨⟨hCM2, hFM2⟩, hr⟩ := hr
  have h6 : M2 98 6 = M1 98 6 := by obtain ⟨x9, -, -, h9⟩ := hr; exact h9
  have hJM2 : qJ M2 := hJM1.mdl hCM2 hFM2 rfl (by decide) h6
  obtain ⟨r2, hv9⟩ := hr
  first | (obtain ⟨rfl, -⟩ := hv9) | (obtain rfl := hv9)
  show zG n (114, 4080270) 300 311 (1597, [zR 0, zR 8, zR 97, .inl i], [.inl r2]) M2 _
  refine zG_blk (c' := (2158, [zR 0, zR 8, zR 97, .inl i], [])) 2 (by decide) hz rfl ?_
  exact K M2 hJM2
set_option maxRecDepth 100000 in
theorem qL_31 (hJ : qJ M) (hn : n ≤ 4096) (hi : 0 ≤ i ∧ i + 8 ≤ n) (K : ∀ M', qJ M' → zG n (114, 4080270) 300 311 (2158, [zR 0, zR 8, zR 97, .inl i], []) M' qLQ) : zG n (114, 4080270) 300 311 (1601, [zR 0, zR 8, zR 97, .inl i], []) M qLQ := by
  have hz := zp_311
  refine zG_blk (c' := (1606, [zR 0, zR 8, zR 97, .inl i], [.inl (i + 1), zR 0, zR 8])) 5 (by decide) hz (by rw [show (.inl (i + 1) : zV) = .inl (w32 (i + 1)) from by rw [w32_id (by omega)]]; rfl) ?_
  refine zG_iald (by decide) hz rfl rfl (.inr rfl) (by omega) ?_
  obtain ⟨x1, hx1⟩ : ∃ x : Int, x = M 0 (i + 1).toNat := ⟨_, rfl⟩
  rw [← hx1]
  have hr1 : qin x1 := by rw [hx1]; exact hJ.1.rng 0 _ (by decide) (by decide)
  show zG n (114, 4080270) 300 311 (1607, [zR 0, zR 8, zR 97, .inl i], [.inl x1, zR 8]) M _
  refine zG_blk (c' := (1611, [zR 0, zR 8, zR 97, .inl i], [.inl (i + 2), zR 0, .inl x1, zR 8])) 4 (by decide) hz (by rw [show (.inl (i + 2) : zV) = .inl (w32 (i + 2)) from by rw [w32_id (by omega)]]; rfl) ?_
  refine zG_iald (by decide) hz rfl rfl (.inr rfl) (by omega) ?_
  obtain ⟨x2, hx2⟩ : ∃ x : Int, x = M 0 (i + 2).toNat := ⟨_, rfl⟩
  rw [← hx2]
  have hr2 : qin x2 := by rw [hx2]; exact hJ.1.rng 0 _ (by decide) (by decide)
  show zG n (114, 4080270) 300 311 (1612, [zR 0, zR 8, zR 97, .inl i], [.inl x2, .inl x1, zR 8]) M _
  refine zG_call (by decide) hz zp_154 rfl rfl (Nat.le_of_ble_eq_true rfl) ⟨Nat.le_of_ble_eq_true rfl, Nat.le_of_ble_eq_true rfl⟩ (qm_154_8 (by decide) hJ.1 x1 (by omega) x2 (by omega)) (fun vr M1 hr => ?_)
  obtain ⟨hq, hr⟩ := hr
  replace hq := hq.symm; subst hq
  have hc0 : ∀ j, M 0 j = M 0 j := fun _ => rfl
  obtain ⟨r1, rfl, -⟩ := hr
  show zG n (114, 4080270) 300 311 (1615, [zR 0, zR 8, zR 97, .inl i], [.inl r1]) M _
  refine zG_blk (c' := (1621, [zR 0, zR 8, zR 97, .inl i], [.inl (i + 1), zR 0, zR 97])) 6 (by decide) hz (by rw [show (.inl (i + 1) : zV) = .inl (w32 (i + 1)) from by rw [w32_id (by omega)]]; rfl) ?_
  refine zG_iald (by decide) hz rfl rfl (.inr rfl) (by omega) ?_
  rw [show M 0 (i + 1).toNat = x1 from hx1.symm]
  show zG n (114, 4080270) 300 311 (1622, [zR 0, zR 8, zR 97, .inl i], [.inl x1, zR 97]) M _
  refine zG_blk (c' := (1626, [zR 0, zR 8, zR 97, .inl i], [.inl (i + 2), zR 0, .inl x1, zR 97])) 4 (by decide) hz (by rw [show (.inl (i + 2) : zV) = .inl (w32 (i + 2)) from by rw [w32_id (by omega)]]; rfl) ?_
  refine zG_iald (by decide) hz rfl rfl (.inr rfl) (by omega) ?_
  rw [show M 0 (i + 2).toNat = x2 from hx2.symm]
  show zG n (114, 4080270) 300 311 (1627, [zR 0, zR 8, zR 97, .inl i], [.inl x2, .inl x1, zR 97]) M _
  refine zG_call (by decide) hz zp_259 rfl rfl (Nat.le_of_ble_eq_true rfl) ⟨Nat.le_of_ble_eq_true rfl, Nat.le_of_ble_eq_true rfl⟩ (qm_259_97 (by decide) hJ.2.1 x1 (by omega) x2 (by omega)) (fun vr M2 hr => ?_)
  obtain ⟨hq, hr⟩ := hr
  replace hq := hq.symm; subst hq
  obtain ⟨r2, hv9⟩ := hr
  first | (obtain ⟨rfl, -⟩ := hv9) | (obtain rfl := hv9)
  show zG n (114, 4080270) 300 311 (1630, [zR 0, zR 8, zR 97, .inl i], [.inl r2]) M _
  refine zG_blk (c' := (2158, [zR 0, zR 8, zR 97, .inl i], [])) 2 (by decide) hz rfl ?_
  exact K M hJ
set_option maxRecDepth 100000 in
theorem qL_32 (hJ : qJ M) (hn : n ≤ 4096) (hi : 0 ≤ i ∧ i + 8 ≤ n) (K : ∀ M', qJ M' → zG n (114, 4080270) 300 311 (2158, [zR 0, zR 8, zR 97, .inl i], []) M' qLQ) : zG n (114, 4080270) 300 311 (1634, [zR 0, zR 8, zR 97, .inl i], []) M qLQ := by
  have hz := zp_311
  refine zG_blk (c' := (1639, [zR 0, zR 8, zR 97, .inl i], [.inl (i + 1), zR 0, zR 8])) 5 (by decide) hz (by rw [show (.inl (i + 1) : zV) = .inl (w32 (i + 1)) from by rw [w32_id (by omega)]]; rfl) ?_
  refine zG_iald (by decide) hz rfl rfl (.inr rfl) (by omega) ?_
  obtain ⟨x1, hx1⟩ : ∃ x : Int, x = M 0 (i + 1).toNat := ⟨_, rfl⟩
  rw [← hx1]
  have hr1 : qin x1 := by rw [hx1]; exact hJ.1.rng 0 _ (by decide) (by decide)
  show zG n (114, 4080270) 300 311 (1640, [zR 0, zR 8, zR 97, .inl i], [.inl x1, zR 8]) M _
  refine zG_blk (c' := (1644, [zR 0, zR 8, zR 97, .inl i], [.inl (i + 2), zR 0, .inl x1, zR 8])) 4 (by decide) hz (by rw [show (.inl (i + 2) : zV) = .inl (w32 (i + 2)) from by rw [w32_id (by omega)]]; rfl) ?_
  refine zG_iald (by decide) hz rfl rfl (.inr rfl) (by omega) ?_
  obtain ⟨x2, hx2⟩ : ∃ x : Int, x = M 0 (i + 2).toNat := ⟨_, rfl⟩
  rw [← hx2]
  have hr2 : qin x2 := by rw [hx2]; exact hJ.1.rng 0 _ (by decide) (by decide)
  show zG n (114, 4080270) 300 311 (1645, [zR 0, zR 8, zR 97, .inl i], [.inl x2, .inl x1, zR 8]) M _
  refine zG_blk (c' := (1649, [zR 0, zR 8, zR 97, .inl i], [.inl (i + 3), zR 0, .inl x2, .inl x1, zR 8])) 4 (by decide) hz (by rw [show (.inl (i + 3) : zV) = .inl (w32 (i + 3)) from by rw [w32_id (by omega)]]; rfl) ?_
  refine zG_iald (by decide) hz rfl rfl (.inr rfl) (by omega) ?_
  obtain ⟨x3, hx3⟩ : ∃ x : Int, x = M 0 (i + 3).toNat := ⟨_, rfl⟩
  rw [← hx3]
  have hr3 : qin x3 := by rw [hx3]; exact hJ.1.rng 0 _ (by decide) (by decide)
  show zG n (114, 4080270) 300 311 (1650, [zR 0, zR 8, zR 97, .inl i], [.inl x3, .inl x2, .inl x1, zR 8]) M _
  refine zG_blk (c' := (1654, [zR 0, zR 8, zR 97, .inl i], [.inl (i + 4), zR 0, .inl x3, .inl x2, .inl x1, zR 8])) 4 (by decide) hz (by rw [show (.inl (i + 4) : zV) = .inl (w32 (i + 4)) from by rw [w32_id (by omega)]]; rfl) ?_
  refine zG_iald (by decide) hz rfl rfl (.inr rfl) (by omega) ?_
  obtain ⟨x4, hx4⟩ : ∃ x : Int, x = M 0 (i + 4).toNat := ⟨_, rfl⟩
  rw [← hx4]
  have hr4 : qin x4 := by rw [hx4]; exact hJ.1.rng 0 _ (by decide) (by decide)
  show zG n (114, 4080270) 300 311 (1655, [zR 0, zR 8, zR 97, .inl i], [.inl x4, .inl x3, .inl x2, .inl x1, zR 8]) M _
  refine zG_blk (c' := (1659, [zR 0, zR 8, zR 97, .inl i], [.inl (i + 5), zR 0, .inl x4, .inl x3, .inl x2, .inl x1, zR 8])) 4 (by decide) hz (by rw [show (.inl (i + 5) : zV) = .inl (w32 (i + 5)) from by rw [w32_id (by omega)]]; rfl) ?_
  refine zG_iald (by decide) hz rfl rfl (.inr rfl) (by omega) ?_
  obtain ⟨x5, hx5⟩ : ∃ x : Int, x = M 0 (i + 5).toNat := ⟨_, rfl⟩
  rw [← hx5]
  have hr5 : qin x5 := by rw [hx5]; exact hJ.1.rng 0 _ (by decide) (by decide)
  show zG n (114, 4080270) 300 311 (1660, [zR 0, zR 8, zR 97, .inl i], [.inl x5, .inl x4, .inl x3, .inl x2, .inl x1, zR 8]) M _
  refine zG_blk (c' := (1665, [zR 0, zR 8, zR 97, .inl i], [.inl (i + 6), zR 0, .inl x5, .inl x4, .inl x3, .inl x2, .inl x1, zR 8])) 4 (by decide) hz (by rw [show (.inl (i + 6) : zV) = .inl (w32 (i + 6)) from by rw [w32_id (by omega)]]; rfl) ?_
  refine zG_iald (by decide) hz rfl rfl (.inr rfl) (by omega) ?_
  obtain ⟨x6, hx6⟩ : ∃ x : Int, x = M 0 (i + 6).toNat := ⟨_, rfl⟩
  rw [← hx6]
  have hr6 : qin x6 := by rw [hx6]; exact hJ.1.rng 0 _ (by decide) (by decide)
  show zG n (114, 4080270) 300 311 (1666, [zR 0, zR 8, zR 97, .inl i], [.inl x6, .inl x5, .inl x4, .inl x3, .inl x2, .inl x1, zR 8]) M _
  refine zG_call (by decide) hz zp_155 rfl rfl (Nat.le_of_ble_eq_true rfl) ⟨Nat.le_of_ble_eq_true rfl, Nat.le_of_ble_eq_true rfl⟩ (qm_155_8 (by decide) hJ.1 x1 (by omega) x2 (by omega) x3 (by omega) x4 (by omega) x5 (by omega) x6 (by omega)) (fun vr M1 hr => ?_)
  obtain ⟨⟨hCM1, hFM1⟩, hr⟩ := hr
  have hJM1 : qJ M1 := hJ.cls hCM1 hFM1 rfl (by decide)
  have hc0 : ∀ j, M1 0 j = M 0 j := fun j => hFM1 0 j (by decide)
  obtain ⟨r1, rfl, -⟩ := hr
  show zG n (114, 4080270) 300 311 (1669, [zR 0, zR 8, zR 97, .inl i], [.inl r1]) M1 _
  refine zG_blk (c' := (1675, [zR 0, zR 8, zR 97, .inl i], [.inl (i + 1), zR 0, zR 97])) 6 (by decide) hz (by rw [show (.inl (i + 1) : zV) = .inl (w32 (i + 1)) from by rw [w32_id (by omega)]]; rfl) ?_
  refine zG_iald (by decide) hz rfl rfl (.inr rfl) (by omega) ?_
  rw [show M1 0 (i + 1).toNat = x1 from by rw [hx1]; exact hc0 _]
  show zG n (114, 4080270) 300 311 (1676, [zR 0, zR 8, zR 97, .inl i], [.inl x1, zR 97]) M1 _
  refine zG_blk (c' := (1680, [zR 0, zR 8, zR 97, .inl i], [.inl (i + 2), zR 0, .inl x1, zR 97])) 4 (by decide) hz (by rw [show (.inl (i + 2) : zV) = .inl (w32 (i + 2)) from by rw [w32_id (by omega)]]; rfl) ?_
  refine zG_iald (by decide) hz rfl rfl (.inr rfl) (by omega) ?_
  rw [show M1 0 (i + 2).toNat = x2 from by rw [hx2]; exact hc0 _]
  show zG n (114, 4080270) 300 311 (1681, [zR 0, zR 8, zR 97, .inl i], [.inl x2, .inl x1, zR 97]) M1 _
  refine zG_blk (c' := (1685, [zR 0, zR 8, zR 97, .inl i], [.inl (i + 3), zR 0, .inl x2, .inl x1, zR 97])) 4 (by decide) hz (by rw [show (.inl (i + 3) : zV) = .inl (w32 (i + 3)) from by rw [w32_id (by omega)]]; rfl) ?_
  refine zG_iald (by decide) hz rfl rfl (.inr rfl) (by omega) ?_
  rw [show M1 0 (i + 3).toNat = x3 from by rw [hx3]; exact hc0 _]
  show zG n (114, 4080270) 300 311 (1686, [zR 0, zR 8, zR 97, .inl i], [.inl x3, .inl x2, .inl x1, zR 97]) M1 _
  refine zG_blk (c' := (1690, [zR 0, zR 8, zR 97, .inl i], [.inl (i + 4), zR 0, .inl x3, .inl x2, .inl x1, zR 97])) 4 (by decide) hz (by rw [show (.inl (i + 4) : zV) = .inl (w32 (i + 4)) from by rw [w32_id (by omega)]]; rfl) ?_
  refine zG_iald (by decide) hz rfl rfl (.inr rfl) (by omega) ?_
  rw [show M1 0 (i + 4).toNat = x4 from by rw [hx4]; exact hc0 _]
  show zG n (114, 4080270) 300 311 (1691, [zR 0, zR 8, zR 97, .inl i], [.inl x4, .inl x3, .inl x2, .inl x1, zR 97]) M1 _
  refine zG_blk (c' := (1695, [zR 0, zR 8, zR 97, .inl i], [.inl (i + 5), zR 0, .inl x4, .inl x3, .inl x2, .inl x1, zR 97])) 4 (by decide) hz (by rw [show (.inl (i + 5) : zV) = .inl (w32 (i + 5)) from by rw [w32_id (by omega)]]; rfl) ?_
  refine zG_iald (by decide) hz rfl rfl (.inr rfl) (by omega) ?_
  rw [show M1 0 (i + 5).toNat = x5 from by rw [hx5]; exact hc0 _]
  show zG n (114, 4080270) 300 311 (1696, [zR 0, zR 8, zR 97, .inl i], [.inl x5, .inl x4, .inl x3, .inl x2, .inl x1, zR 97]) M1 _
  refine zG_blk (c' := (1701, [zR 0, zR 8, zR 97, .inl i], [.inl (i + 6), zR 0, .inl x5, .inl x4, .inl x3, .inl x2, .inl x1, zR 97])) 4 (by decide) hz (by rw [show (.inl (i + 6) : zV) = .inl (w32 (i + 6)) from by rw [w32_id (by omega)]]; rfl) ?_
  refine zG_iald (by decide) hz rfl rfl (.inr rfl) (by omega) ?_
  rw [show M1 0 (i + 6).toNat = x6 from by rw [hx6]; exact hc0 _]
  show zG n (114, 4080270) 300 311 (1702, [zR 0, zR 8, zR 97, .inl i], [.inl x6, .inl x5, .inl x4, .inl x3, .inl x2, .inl x1, zR 97]) M1 _
  refine zG_call (by decide) hz zp_268 rfl rfl (Nat.le_of_ble_eq_true rfl) ⟨Nat.le_of_ble_eq_true rfl, Nat.le_of_ble_eq_true rfl⟩ (qm_268_97 (by decide) hJM1.2.1 x1 (by omega) x2 (by omega) x3 (by omega) x4 (by omega) x5 (by omega) x6 (by omega)) (fun vr M2 hr => ?_)
  obtain ⟨⟨hCM2, hFM2⟩, hr⟩ := hr
  have hJM2 : qJ M2 := hJM1.mdl hCM2 hFM2 rfl (by decide) (hFM2.ar 98 6 (by decide) (by decide))
  obtain ⟨r2, hv9⟩ := hr
  first | (obtain ⟨rfl, -⟩ := hv9) | (obtain rfl := hv9)
  show zG n (114, 4080270) 300 311 (1705, [zR 0, zR 8, zR 97, .inl i], [.inl r2]) M2 _
  refine zG_blk (c' := (2158, [zR 0, zR 8, zR 97, .inl i], [])) 2 (by decide) hz rfl ?_
  exact K M2 hJM2
set_option maxRecDepth 100000 in
theorem qL_33 (hJ : qJ M) (hn : n ≤ 4096) (hi : 0 ≤ i ∧ i + 8 ≤ n) (K : ∀ M', qJ M' → zG n (114, 4080270) 300 311 (2158, [zR 0, zR 8, zR 97, .inl i], []) M' qLQ) : zG n (114, 4080270) 300 311 (1709, [zR 0, zR 8, zR 97, .inl i], []) M qLQ := by
  have hz := zp_311
  refine zG_blk (c' := (1714, [zR 0, zR 8, zR 97, .inl i], [.inl (i + 1), zR 0, zR 8])) 5 (by decide) hz (by rw [show (.inl (i + 1) : zV) = .inl (w32 (i + 1)) from by rw [w32_id (by omega)]]; rfl) ?_
  refine zG_iald (by decide) hz rfl rfl (.inr rfl) (by omega) ?_
  obtain ⟨x1, hx1⟩ : ∃ x : Int, x = M 0 (i + 1).toNat := ⟨_, rfl⟩
  rw [← hx1]
  have hr1 : qin x1 := by rw [hx1]; exact hJ.1.rng 0 _ (by decide) (by decide)
  show zG n (114, 4080270) 300 311 (1715, [zR 0, zR 8, zR 97, .inl i], [.inl x1, zR 8]) M _
  refine zG_blk (c' := (1719, [zR 0, zR 8, zR 97, .inl i], [.inl (i + 2), zR 0, .inl x1, zR 8])) 4 (by decide) hz (by rw [show (.inl (i + 2) : zV) = .inl (w32 (i + 2)) from by rw [w32_id (by omega)]]; rfl) ?_
  refine zG_iald (by decide) hz rfl rfl (.inr rfl) (by omega) ?_
  obtain ⟨x2, hx2⟩ : ∃ x : Int, x = M 0 (i + 2).toNat := ⟨_, rfl⟩
  rw [← hx2]
  have hr2 : qin x2 := by rw [hx2]; exact hJ.1.rng 0 _ (by decide) (by decide)
  show zG n (114, 4080270) 300 311 (1720, [zR 0, zR 8, zR 97, .inl i], [.inl x2, .inl x1, zR 8]) M _
  refine zG_blk (c' := (1724, [zR 0, zR 8, zR 97, .inl i], [.inl (i + 3), zR 0, .inl x2, .inl x1, zR 8])) 4 (by decide) hz (by rw [show (.inl (i + 3) : zV) = .inl (w32 (i + 3)) from by rw [w32_id (by omega)]]; rfl) ?_
  refine zG_iald (by decide) hz rfl rfl (.inr rfl) (by omega) ?_
  obtain ⟨x3, hx3⟩ : ∃ x : Int, x = M 0 (i + 3).toNat := ⟨_, rfl⟩
  rw [← hx3]
  have hr3 : qin x3 := by rw [hx3]; exact hJ.1.rng 0 _ (by decide) (by decide)
  show zG n (114, 4080270) 300 311 (1725, [zR 0, zR 8, zR 97, .inl i], [.inl x3, .inl x2, .inl x1, zR 8]) M _
  refine zG_blk (c' := (1729, [zR 0, zR 8, zR 97, .inl i], [.inl (i + 4), zR 0, .inl x3, .inl x2, .inl x1, zR 8])) 4 (by decide) hz (by rw [show (.inl (i + 4) : zV) = .inl (w32 (i + 4)) from by rw [w32_id (by omega)]]; rfl) ?_
  refine zG_iald (by decide) hz rfl rfl (.inr rfl) (by omega) ?_
  obtain ⟨x4, hx4⟩ : ∃ x : Int, x = M 0 (i + 4).toNat := ⟨_, rfl⟩
  rw [← hx4]
  have hr4 : qin x4 := by rw [hx4]; exact hJ.1.rng 0 _ (by decide) (by decide)
  show zG n (114, 4080270) 300 311 (1730, [zR 0, zR 8, zR 97, .inl i], [.inl x4, .inl x3, .inl x2, .inl x1, zR 8]) M _
  refine zG_blk (c' := (1734, [zR 0, zR 8, zR 97, .inl i], [.inl (i + 5), zR 0, .inl x4, .inl x3, .inl x2, .inl x1, zR 8])) 4 (by decide) hz (by rw [show (.inl (i + 5) : zV) = .inl (w32 (i + 5)) from by rw [w32_id (by omega)]]; rfl) ?_
  refine zG_iald (by decide) hz rfl rfl (.inr rfl) (by omega) ?_
  obtain ⟨x5, hx5⟩ : ∃ x : Int, x = M 0 (i + 5).toNat := ⟨_, rfl⟩
  rw [← hx5]
  have hr5 : qin x5 := by rw [hx5]; exact hJ.1.rng 0 _ (by decide) (by decide)
  show zG n (114, 4080270) 300 311 (1735, [zR 0, zR 8, zR 97, .inl i], [.inl x5, .inl x4, .inl x3, .inl x2, .inl x1, zR 8]) M _
  refine zG_blk (c' := (1740, [zR 0, zR 8, zR 97, .inl i], [.inl (i + 6), zR 0, .inl x5, .inl x4, .inl x3, .inl x2, .inl x1, zR 8])) 4 (by decide) hz (by rw [show (.inl (i + 6) : zV) = .inl (w32 (i + 6)) from by rw [w32_id (by omega)]]; rfl) ?_
  refine zG_iald (by decide) hz rfl rfl (.inr rfl) (by omega) ?_
  obtain ⟨x6, hx6⟩ : ∃ x : Int, x = M 0 (i + 6).toNat := ⟨_, rfl⟩
  rw [← hx6]
  have hr6 : qin x6 := by rw [hx6]; exact hJ.1.rng 0 _ (by decide) (by decide)
  show zG n (114, 4080270) 300 311 (1741, [zR 0, zR 8, zR 97, .inl i], [.inl x6, .inl x5, .inl x4, .inl x3, .inl x2, .inl x1, zR 8]) M _
  refine zG_blk (c' := (1746, [zR 0, zR 8, zR 97, .inl i], [.inl (i + 7), zR 0, .inl x6, .inl x5, .inl x4, .inl x3, .inl x2, .inl x1, zR 8])) 4 (by decide) hz (by rw [show (.inl (i + 7) : zV) = .inl (w32 (i + 7)) from by rw [w32_id (by omega)]]; rfl) ?_
  refine zG_iald (by decide) hz rfl rfl (.inr rfl) (by omega) ?_
  obtain ⟨x7, hx7⟩ : ∃ x : Int, x = M 0 (i + 7).toNat := ⟨_, rfl⟩
  rw [← hx7]
  have hr7 : qin x7 := by rw [hx7]; exact hJ.1.rng 0 _ (by decide) (by decide)
  show zG n (114, 4080270) 300 311 (1747, [zR 0, zR 8, zR 97, .inl i], [.inl x7, .inl x6, .inl x5, .inl x4, .inl x3, .inl x2, .inl x1, zR 8]) M _
  refine zG_call (by decide) hz zp_156 rfl rfl (Nat.le_of_ble_eq_true rfl) ⟨Nat.le_of_ble_eq_true rfl, Nat.le_of_ble_eq_true rfl⟩ (qm_156_8 (by decide) hJ.1 x1 (by omega) x2 (by omega) x3 (by omega) x4 (by omega) x5 (by omega) x6 (by omega) x7 (by omega)) (fun vr M1 hr => ?_)
  obtain ⟨⟨hCM1, hFM1⟩, hr⟩ := hr
  have hJM1 : qJ M1 := hJ.cls hCM1 hFM1 rfl (by decide)
  have hc0 : ∀ j, M1 0 j = M 0 j := fun j => hFM1 0 j (by decide)
  obtain ⟨r1, rfl, -⟩ := hr
  show zG n (114, 4080270) 300 311 (1750, [zR 0, zR 8, zR 97, .inl i], [.inl r1]) M1 _
  refine zG_blk (c' := (1756, [zR 0, zR 8, zR 97, .inl i], [.inl (i + 1), zR 0, zR 97])) 6 (by decide) hz (by rw [show (.inl (i + 1) : zV) = .inl (w32 (i + 1)) from by rw [w32_id (by omega)]]; rfl) ?_
  refine zG_iald (by decide) hz rfl rfl (.inr rfl) (by omega) ?_
  rw [show M1 0 (i + 1).toNat = x1 from by rw [hx1]; exact hc0 _]
  show zG n (114, 4080270) 300 311 (1757, [zR 0, zR 8, zR 97, .inl i], [.inl x1, zR 97]) M1 _
  refine zG_blk (c' := (1761, [zR 0, zR 8, zR 97, .inl i], [.inl (i + 2), zR 0, .inl x1, zR 97])) 4 (by decide) hz (by rw [show (.inl (i + 2) : zV) = .inl (w32 (i + 2)) from by rw [w32_id (by omega)]]; rfl) ?_
  refine zG_iald (by decide) hz rfl rfl (.inr rfl) (by omega) ?_
  rw [show M1 0 (i + 2).toNat = x2 from by rw [hx2]; exact hc0 _]
  show zG n (114, 4080270) 300 311 (1762, [zR 0, zR 8, zR 97, .inl i], [.inl x2, .inl x1, zR 97]) M1 _
  refine zG_blk (c' := (1766, [zR 0, zR 8, zR 97, .inl i], [.inl (i + 3), zR 0, .inl x2, .inl x1, zR 97])) 4 (by decide) hz (by rw [show (.inl (i + 3) : zV) = .inl (w32 (i + 3)) from by rw [w32_id (by omega)]]; rfl) ?_
  refine zG_iald (by decide) hz rfl rfl (.inr rfl) (by omega) ?_
  rw [show M1 0 (i + 3).toNat = x3 from by rw [hx3]; exact hc0 _]
  show zG n (114, 4080270) 300 311 (1767, [zR 0, zR 8, zR 97, .inl i], [.inl x3, .inl x2, .inl x1, zR 97]) M1 _
  refine zG_blk (c' := (1771, [zR 0, zR 8, zR 97, .inl i], [.inl (i + 4), zR 0, .inl x3, .inl x2, .inl x1, zR 97])) 4 (by decide) hz (by rw [show (.inl (i + 4) : zV) = .inl (w32 (i + 4)) from by rw [w32_id (by omega)]]; rfl) ?_
  refine zG_iald (by decide) hz rfl rfl (.inr rfl) (by omega) ?_
  rw [show M1 0 (i + 4).toNat = x4 from by rw [hx4]; exact hc0 _]
  show zG n (114, 4080270) 300 311 (1772, [zR 0, zR 8, zR 97, .inl i], [.inl x4, .inl x3, .inl x2, .inl x1, zR 97]) M1 _
  refine zG_blk (c' := (1776, [zR 0, zR 8, zR 97, .inl i], [.inl (i + 5), zR 0, .inl x4, .inl x3, .inl x2, .inl x1, zR 97])) 4 (by decide) hz (by rw [show (.inl (i + 5) : zV) = .inl (w32 (i + 5)) from by rw [w32_id (by omega)]]; rfl) ?_
  refine zG_iald (by decide) hz rfl rfl (.inr rfl) (by omega) ?_
  rw [show M1 0 (i + 5).toNat = x5 from by rw [hx5]; exact hc0 _]
  show zG n (114, 4080270) 300 311 (1777, [zR 0, zR 8, zR 97, .inl i], [.inl x5, .inl x4, .inl x3, .inl x2, .inl x1, zR 97]) M1 _
  refine zG_blk (c' := (1782, [zR 0, zR 8, zR 97, .inl i], [.inl (i + 6), zR 0, .inl x5, .inl x4, .inl x3, .inl x2, .inl x1, zR 97])) 4 (by decide) hz (by rw [show (.inl (i + 6) : zV) = .inl (w32 (i + 6)) from by rw [w32_id (by omega)]]; rfl) ?_
  refine zG_iald (by decide) hz rfl rfl (.inr rfl) (by omega) ?_
  rw [show M1 0 (i + 6).toNat = x6 from by rw [hx6]; exact hc0 _]
  show zG n (114, 4080270) 300 311 (1783, [zR 0, zR 8, zR 97, .inl i], [.inl x6, .inl x5, .inl x4, .inl x3, .inl x2, .inl x1, zR 97]) M1 _
  refine zG_blk (c' := (1788, [zR 0, zR 8, zR 97, .inl i], [.inl (i + 7), zR 0, .inl x6, .inl x5, .inl x4, .inl x3, .inl x2, .inl x1, zR 97])) 4 (by decide) hz (by rw [show (.inl (i + 7) : zV) = .inl (w32 (i + 7)) from by rw [w32_id (by omega)]]; rfl) ?_
  refine zG_iald (by decide) hz rfl rfl (.inr rfl) (by omega) ?_
  rw [show M1 0 (i + 7).toNat = x7 from by rw [hx7]; exact hc0 _]
  show zG n (114, 4080270) 300 311 (1789, [zR 0, zR 8, zR 97, .inl i], [.inl x7, .inl x6, .inl x5, .inl x4, .inl x3, .inl x2, .inl x1, zR 97]) M1 _
  refine zG_call (by decide) hz zp_270 rfl rfl (Nat.le_of_ble_eq_true rfl) ⟨Nat.le_of_ble_eq_true rfl, Nat.le_of_ble_eq_true rfl⟩ (qm_270_97 (by decide) hJM1.2.1 x1 (by omega) x2 (by omega) x3 (by omega) x4 (by omega) x5 (by omega) x6 (by omega) x7 (by omega)) (fun vr M2 hr => ?_)
  obtain ⟨⟨hCM2, hFM2⟩, hr⟩ := hr
  have hJM2 : qJ M2 := hJM1.mdl hCM2 hFM2 rfl (by decide) (hFM2.ar 98 6 (by decide) (by decide))
  obtain ⟨r2, hv9⟩ := hr
  first | (obtain ⟨rfl, -⟩ := hv9) | (obtain rfl := hv9)
  show zG n (114, 4080270) 300 311 (1792, [zR 0, zR 8, zR 97, .inl i], [.inl r2]) M2 _
  refine zG_blk (c' := (2158, [zR 0, zR 8, zR 97, .inl i], [])) 2 (by decide) hz rfl ?_
  exact K M2 hJM2
set_option maxRecDepth 100000 in
theorem qL_34 (hJ : qJ M) (hn : n ≤ 4096) (hi : 0 ≤ i ∧ i + 8 ≤ n) (K : ∀ M', qJ M' → zG n (114, 4080270) 300 311 (2158, [zR 0, zR 8, zR 97, .inl i], []) M' qLQ) : zG n (114, 4080270) 300 311 (1796, [zR 0, zR 8, zR 97, .inl i], []) M qLQ := by
  have hz := zp_311
  refine zG_blk (c' := (1801, [zR 0, zR 8, zR 97, .inl i], [.inl (i + 1), zR 0, zR 8])) 5 (by decide) hz (by rw [show (.inl (i + 1) : zV) = .inl (w32 (i + 1)) from by rw [w32_id (by omega)]]; rfl) ?_
  refine zG_iald (by decide) hz rfl rfl (.inr rfl) (by omega) ?_
  obtain ⟨x1, hx1⟩ : ∃ x : Int, x = M 0 (i + 1).toNat := ⟨_, rfl⟩
  rw [← hx1]
  have hr1 : qin x1 := by rw [hx1]; exact hJ.1.rng 0 _ (by decide) (by decide)
  show zG n (114, 4080270) 300 311 (1802, [zR 0, zR 8, zR 97, .inl i], [.inl x1, zR 8]) M _
  refine zG_blk (c' := (1806, [zR 0, zR 8, zR 97, .inl i], [.inl (i + 2), zR 0, .inl x1, zR 8])) 4 (by decide) hz (by rw [show (.inl (i + 2) : zV) = .inl (w32 (i + 2)) from by rw [w32_id (by omega)]]; rfl) ?_
  refine zG_iald (by decide) hz rfl rfl (.inr rfl) (by omega) ?_
  obtain ⟨x2, hx2⟩ : ∃ x : Int, x = M 0 (i + 2).toNat := ⟨_, rfl⟩
  rw [← hx2]
  have hr2 : qin x2 := by rw [hx2]; exact hJ.1.rng 0 _ (by decide) (by decide)
  show zG n (114, 4080270) 300 311 (1807, [zR 0, zR 8, zR 97, .inl i], [.inl x2, .inl x1, zR 8]) M _
  refine zG_blk (c' := (1811, [zR 0, zR 8, zR 97, .inl i], [.inl (i + 3), zR 0, .inl x2, .inl x1, zR 8])) 4 (by decide) hz (by rw [show (.inl (i + 3) : zV) = .inl (w32 (i + 3)) from by rw [w32_id (by omega)]]; rfl) ?_
  refine zG_iald (by decide) hz rfl rfl (.inr rfl) (by omega) ?_
  obtain ⟨x3, hx3⟩ : ∃ x : Int, x = M 0 (i + 3).toNat := ⟨_, rfl⟩
  rw [← hx3]
  have hr3 : qin x3 := by rw [hx3]; exact hJ.1.rng 0 _ (by decide) (by decide)
  show zG n (114, 4080270) 300 311 (1812, [zR 0, zR 8, zR 97, .inl i], [.inl x3, .inl x2, .inl x1, zR 8]) M _
  have j1820 : ∀ b1812 : Int, 0 ≤ b1812 ∧ b1812 ≤ 1 → zG n (114, 4080270) 300 311 (1820, [zR 0, zR 8, zR 97, .inl i], [.inl b1812, .inl x2, .inl x1, zR 8]) M qLQ := by
    intro b1812 hb1812
    refine zG_call (by decide) hz zp_157 rfl rfl (Nat.le_of_ble_eq_true rfl) ⟨Nat.le_of_ble_eq_true rfl, Nat.le_of_ble_eq_true rfl⟩ (qm_157_8 (by decide) hJ.1 x1 (by omega) x2 (by omega) b1812 (by omega)) (fun vr M1 hr => ?_)
    obtain ⟨⟨hCM1, hFM1⟩, hr⟩ := hr
    have hJM1 : qJ M1 := hJ.cls hCM1 hFM1 rfl (by decide)
    have hc0 : ∀ j, M1 0 j = M 0 j := fun j => hFM1 0 j (by decide)
    obtain ⟨r1, rfl, -⟩ := hr
    show zG n (114, 4080270) 300 311 (1823, [zR 0, zR 8, zR 97, .inl i], [.inl r1]) M1 _
    refine zG_blk (c' := (1829, [zR 0, zR 8, zR 97, .inl i], [.inl (i + 1), zR 0, zR 97])) 6 (by decide) hz (by rw [show (.inl (i + 1) : zV) = .inl (w32 (i + 1)) from by rw [w32_id (by omega)]]; rfl) ?_
    refine zG_iald (by decide) hz rfl rfl (.inr rfl) (by omega) ?_
    rw [show M1 0 (i + 1).toNat = x1 from by rw [hx1]; exact hc0 _]
    show zG n (114, 4080270) 300 311 (1830, [zR 0, zR 8, zR 97, .inl i], [.inl x1, zR 97]) M1 _
    refine zG_blk (c' := (1834, [zR 0, zR 8, zR 97, .inl i], [.inl (i + 2), zR 0, .inl x1, zR 97])) 4 (by decide) hz (by rw [show (.inl (i + 2) : zV) = .inl (w32 (i + 2)) from by rw [w32_id (by omega)]]; rfl) ?_
    refine zG_iald (by decide) hz rfl rfl (.inr rfl) (by omega) ?_
    rw [show M1 0 (i + 2).toNat = x2 from by rw [hx2]; exact hc0 _]
    show zG n (114, 4080270) 300 311 (1835, [zR 0, zR 8, zR 97, .inl i], [.inl x2, .inl x1, zR 97]) M1 _
    refine zG_blk (c' := (1839, [zR 0, zR 8, zR 97, .inl i], [.inl (i + 3), zR 0, .inl x2, .inl x1, zR 97])) 4 (by decide) hz (by rw [show (.inl (i + 3) : zV) = .inl (w32 (i + 3)) from by rw [w32_id (by omega)]]; rfl) ?_
    refine zG_iald (by decide) hz rfl rfl (.inr rfl) (by omega) ?_
    rw [show M1 0 (i + 3).toNat = x3 from by rw [hx3]; exact hc0 _]
    show zG n (114, 4080270) 300 311 (1840, [zR 0, zR 8, zR 97, .inl i], [.inl x3, .inl x2, .inl x1, zR 97]) M1 _
    have j1848 : ∀ b1840 : Int, 0 ≤ b1840 ∧ b1840 ≤ 1 → zG n (114, 4080270) 300 311 (1848, [zR 0, zR 8, zR 97, .inl i], [.inl b1840, .inl x2, .inl x1, zR 97]) M1 qLQ := by
      intro b1840 hb1840
      refine zG_call (by decide) hz zp_271 rfl rfl (Nat.le_of_ble_eq_true rfl) ⟨Nat.le_of_ble_eq_true rfl, Nat.le_of_ble_eq_true rfl⟩ (qm_271_97 (by decide) hJM1.2.1 x1 (by omega) x2 (by omega) b1840 (by omega)) (fun vr M2 hr => ?_)
      obtain ⟨⟨hCM2, hFM2⟩, hr⟩ := hr
      have h6 : M2 98 6 = M1 98 6 := by obtain ⟨x9, -, -, h9⟩ := hr; exact h9
      have hJM2 : qJ M2 := hJM1.mdl hCM2 hFM2 rfl (by decide) h6
      obtain ⟨r2, hv9⟩ := hr
      first | (obtain ⟨rfl, -⟩ := hv9) | (obtain rfl := hv9)
      show zG n (114, 4080270) 300 311 (1851, [zR 0, zR 8, zR 97, .inl i], [.inl r2]) M2 _
      refine zG_blk (c' := (2158, [zR 0, zR 8, zR 97, .inl i], [])) 2 (by decide) hz rfl ?_
      exact K M2 hJM2
    refine zG_if_eq (by decide) hz rfl (fun _ => ?_) (fun _ => ?_)
    · exact zG_blk (c' := (1848, [zR 0, zR 8, zR 97, .inl i], [.inl 0, .inl x2, .inl x1, zR 97])) 1 (by decide) hz rfl (j1848 0 (by omega))
    · exact zG_blk (c' := (1848, [zR 0, zR 8, zR 97, .inl i], [.inl 1, .inl x2, .inl x1, zR 97])) 2 (by decide) hz rfl (j1848 1 (by omega))
  refine zG_if_eq (by decide) hz rfl (fun _ => ?_) (fun _ => ?_)
  · exact zG_blk (c' := (1820, [zR 0, zR 8, zR 97, .inl i], [.inl 0, .inl x2, .inl x1, zR 8])) 1 (by decide) hz rfl (j1820 0 (by omega))
  · exact zG_blk (c' := (1820, [zR 0, zR 8, zR 97, .inl i], [.inl 1, .inl x2, .inl x1, zR 8])) 2 (by decide) hz rfl (j1820 1 (by omega))
set_option maxRecDepth 100000 in
theorem qL_35 (hJ : qJ M) (hn : n ≤ 4096) (hi : 0 ≤ i ∧ i + 8 ≤ n) (K : ∀ M', qJ M' → zG n (114, 4080270) 300 311 (2158, [zR 0, zR 8, zR 97, .inl i], []) M' qLQ) : zG n (114, 4080270) 300 311 (1855, [zR 0, zR 8, zR 97, .inl i], []) M qLQ := by
  have hz := zp_311
  refine zG_blk (c' := (1860, [zR 0, zR 8, zR 97, .inl i], [.inl (i + 1), zR 0, zR 8])) 5 (by decide) hz (by rw [show (.inl (i + 1) : zV) = .inl (w32 (i + 1)) from by rw [w32_id (by omega)]]; rfl) ?_
  refine zG_iald (by decide) hz rfl rfl (.inr rfl) (by omega) ?_
  obtain ⟨x1, hx1⟩ : ∃ x : Int, x = M 0 (i + 1).toNat := ⟨_, rfl⟩
  rw [← hx1]
  have hr1 : qin x1 := by rw [hx1]; exact hJ.1.rng 0 _ (by decide) (by decide)
  show zG n (114, 4080270) 300 311 (1861, [zR 0, zR 8, zR 97, .inl i], [.inl x1, zR 8]) M _
  refine zG_blk (c' := (1865, [zR 0, zR 8, zR 97, .inl i], [.inl (i + 2), zR 0, .inl x1, zR 8])) 4 (by decide) hz (by rw [show (.inl (i + 2) : zV) = .inl (w32 (i + 2)) from by rw [w32_id (by omega)]]; rfl) ?_
  refine zG_iald (by decide) hz rfl rfl (.inr rfl) (by omega) ?_
  obtain ⟨x2, hx2⟩ : ∃ x : Int, x = M 0 (i + 2).toNat := ⟨_, rfl⟩
  rw [← hx2]
  have hr2 : qin x2 := by rw [hx2]; exact hJ.1.rng 0 _ (by decide) (by decide)
  show zG n (114, 4080270) 300 311 (1866, [zR 0, zR 8, zR 97, .inl i], [.inl x2, .inl x1, zR 8]) M _
  refine zG_call (by decide) hz zp_158 rfl rfl (Nat.le_of_ble_eq_true rfl) ⟨Nat.le_of_ble_eq_true rfl, Nat.le_of_ble_eq_true rfl⟩ (qm_158_8 (by decide) hJ.1 x1 (by omega) x2 (by omega)) (fun vr M1 hr => ?_)
  obtain ⟨⟨hCM1, hFM1⟩, hr⟩ := hr
  have hJM1 : qJ M1 := hJ.cls hCM1 hFM1 rfl (by decide)
  have hc0 : ∀ j, M1 0 j = M 0 j := fun j => hFM1 0 j (by decide)
  obtain ⟨r1, rfl, -⟩ := hr
  show zG n (114, 4080270) 300 311 (1869, [zR 0, zR 8, zR 97, .inl i], [.inl r1]) M1 _
  refine zG_blk (c' := (1875, [zR 0, zR 8, zR 97, .inl i], [.inl (i + 1), zR 0, zR 97])) 6 (by decide) hz (by rw [show (.inl (i + 1) : zV) = .inl (w32 (i + 1)) from by rw [w32_id (by omega)]]; rfl) ?_
  refine zG_iald (by decide) hz rfl rfl (.inr rfl) (by omega) ?_
  rw [show M1 0 (i + 1).toNat = x1 from by rw [hx1]; exact hc0 _]
  show zG n (114, 4080270) 300 311 (1876, [zR 0, zR 8, zR 97, .inl i], [.inl x1, zR 97]) M1 _
  refine zG_blk (c' := (1880, [zR 0, zR 8, zR 97, .inl i], [.inl (i + 2), zR 0, .inl x1, zR 97])) 4 (by decide) hz (by rw [show (.inl (i + 2) : zV) = .inl (w32 (i + 2)) from by rw [w32_id (by omega)]]; rfl) ?_
  refine zG_iald (by decide) hz rfl rfl (.inr rfl) (by omega) ?_
  rw [show M1 0 (i + 2).toNat = x2 from by rw [hx2]; exact hc0 _]
  show zG n (114, 4080270) 300 311 (1881, [zR 0, zR 8, zR 97, .inl i], [.inl x2, .inl x1, zR 97]) M1 _
  refine zG_call (by decide) hz zp_278 rfl rfl (Nat.le_of_ble_eq_true rfl) ⟨Nat.le_of_ble_eq_true rfl, Nat.le_of_ble_eq_true rfl⟩ (qm_278_97 (by decide) hJM1.2.1 x1 (by omega) x2 (by omega)) (fun vr M2 hr => ?_)
  obtain ⟨⟨hCM2, hFM2⟩, hr⟩ := hr
  have hJM2 : qJ M2 := hJM1.mdl hCM2 hFM2 rfl (by decide) (hFM2.ar 98 6 (by decide) (by decide))
  obtain ⟨r2, hv9⟩ := hr
  first | (obtain ⟨rfl, -⟩ := hv9) | (obtain rfl := hv9)
  show zG n (114, 4080270) 300 311 (1884, [zR 0, zR 8, zR 97, .inl i], [.inl r2]) M2 _
  refine zG_blk (c' := (2158, [zR 0, zR 8, zR 97, .inl i], [])) 2 (by decide) hz rfl ?_
  exact K M2 hJM2
set_option maxRecDepth 100000 in
theorem qL_36 (hJ : qJ M) (hn : n ≤ 4096) (hi : 0 ≤ i ∧ i + 8 ≤ n) (K : ∀ M', qJ M' → zG n (114, 4080270) 300 311 (2158, [zR 0, zR 8, zR 97, .inl i], []) M' qLQ) : zG n (114, 4080270) 300 311 (1888, [zR 0, zR 8, zR 97, .inl i], []) M qLQ := by
  have hz := zp_311
  refine zG_blk (c' := (1893, [zR 0, zR 8, zR 97, .inl i], [.inl (i + 1), zR 0, zR 8])) 5 (by decide) hz (by rw [show (.inl (i + 1) : zV) = .inl (w32 (i + 1)) from by rw [w32_id (by omega)]]; rfl) ?_
  refine zG_iald (by decide) hz rfl rfl (.inr rfl) (by omega) ?_
  obtain ⟨x1, hx1⟩ : ∃ x : Int, x = M 0 (i + 1).toNat := ⟨_, rfl⟩
  rw [← hx1]
  have hr1 : qin x1 := by rw [hx1]; exact hJ.1.rng 0 _ (by decide) (by decide)
  show zG n (114, 4080270) 300 311 (1894, [zR 0, zR 8, zR 97, .inl i], [.inl x1, zR 8]) M _
  refine zG_blk (c' := (1898, [zR 0, zR 8, zR 97, .inl i], [.inl (i + 2), zR 0, .inl x1, zR 8])) 4 (by decide) hz (by rw [show (.inl (i + 2) : zV) = .inl (w32 (i + 2)) from by rw [w32_id (by omega)]]; rfl) ?_
  refine zG_iald (by decide) hz rfl rfl (.inr rfl) (by omega) ?_
  obtain ⟨x2, hx2⟩ : ∃ x : Int, x = M 0 (i + 2).toNat := ⟨_, rfl⟩
  rw [← hx2]
  have hr2 : qin x2 := by rw [hx2]; exact hJ.1.rng 0 _ (by decide) (by decide)
  show zG n (114, 4080270) 300 311 (1899, [zR 0, zR 8, zR 97, .inl i], [.inl x2, .inl x1, zR 8]) M _
  refine zG_blk (c' := (1903, [zR 0, zR 8, zR 97, .inl i], [.inl (i + 3), zR 0, .inl x2, .inl x1, zR 8])) 4 (by decide) hz (by rw [show (.inl (i + 3) : zV) = .inl (w32 (i + 3)) from by rw [w32_id (by omega)]]; rfl) ?_
  refine zG_iald (by decide) hz rfl rfl (.inr rfl) (by omega) ?_
  obtain ⟨x3, hx3⟩ : ∃ x : Int, x = M 0 (i + 3).toNat := ⟨_, rfl⟩
  rw [← hx3]
  have hr3 : qin x3 := by rw [hx3]; exact hJ.1.rng 0 _ (by decide) (by decide)
  show zG n (114, 4080270) 300 311 (1904, [zR 0, zR 8, zR 97, .inl i], [.inl x3, .inl x2, .inl x1, zR 8]) M _
  refine zG_call (by decide) hz zp_159 rfl rfl (Nat.le_of_ble_eq_true rfl) ⟨Nat.le_of_ble_eq_true rfl, Nat.le_of_ble_eq_true rfl⟩ (qm_159_8 (by decide) hJ.1 x1 (by omega) x2 (by omega) x3 (by omega)) (fun vr M1 hr => ?_)
  obtain ⟨⟨hCM1, hFM1⟩, hr⟩ := hr
  have hJM1 : qJ M1 := hJ.cls hCM1 hFM1 rfl (by decide)
  have hc0 : ∀ j, M1 0 j = M 0 j := fun j => hFM1 0 j (by decide)
  obtain ⟨r1, rfl, -⟩ := hr
  show zG n (114, 4080270) 300 311 (1907, [zR 0, zR 8, zR 97, .inl i], [.inl r1]) M1 _
  refine zG_blk (c' := (1913, [zR 0, zR 8, zR 97, .inl i], [.inl (i + 1), zR 0, zR 97])) 6 (by decide) hz (by rw [show (.inl (i + 1) : zV) = .inl (w32 (i + 1)) from by rw [w32_id (by omega)]]; rfl) ?_
  refine zG_iald (by decide) hz rfl rfl (.inr rfl) (by omega) ?_
  rw [show M1 0 (i + 1).toNat = x1 from by rw [hx1]; exact hc0 _]
  show zG n (114, 4080270) 300 311 (1914, [zR 0, zR 8, zR 97, .inl i], [.inl x1, zR 97]) M1 _
  refine zG_blk (c' := (1918, [zR 0, zR 8, zR 97, .inl i], [.inl (i + 2), zR 0, .inl x1, zR 97])) 4 (by decide) hz (by rw [show (.inl (i + 2) : zV) = .inl (w32 (i + 2)) from by rw [w32_id (by omega)]]; rfl) ?_
  refine zG_iald (by decide) hz rfl rfl (.inr rfl) (by omega) ?_
  rw [show M1 0 (i + 2).toNat = x2 from by rw [hx2]; exact hc0 _]
  show zG n (114, 4080270) 300 311 (1919, [zR 0, zR 8, zR 97, .inl i], [.inl x2, .inl x1, zR 97]) M1 _
  refine zG_blk (c' := (1923, [zR 0, zR 8, zR 97, .inl i], [.inl (i + 3), zR 0, .inl x2, .inl x1, zR 97])) 4 (by decide) hz (by rw [show (.inl (i + 3) : zV) = .inl (w32 (i + 3)) from by rw [w32_id (by omega)]]; rfl) ?_
  refine zG_iald (by decide) hz rfl rfl (.inr rfl) (by omega) ?_
  rw [show M1 0 (i + 3).toNat = x3 from by rw [hx3]; exact hc0 _]
  show zG n (114, 4080270) 300 311 (1924, [zR 0, zR 8, zR 97, .inl i], [.inl x3, .inl x2, .inl x1, zR 97]) M1 _
  refine zG_call (by decide) hz zp_279 rfl rfl (Nat.le_of_ble_eq_true rfl) ⟨Nat.le_of_ble_eq_true rfl, Nat.le_of_ble_eq_true rfl⟩ (qm_279_97 (by decide) hJM1.2.1 x1 (by omega) x2 (by omega) x3 (by omega)) (fun vr M2 hr => ?_)
  obtain ⟨⟨hCM2, hFM2⟩, hr⟩ := hr
  have hJM2 : qJ M2 := hJM1.mdl hCM2 hFM2 rfl (by decide) (hFM2.ar 98 6 (by decide) (by decide))
  obtain ⟨r2, hv9⟩ := hr
  first | (obtain ⟨rfl, -⟩ := hv9) | (obtain rfl := hv9)
  show zG n (114, 4080270) 300 311 (1927, [zR 0, zR 8, zR 97, .inl i], [.inl r2]) M2 _
  refine zG_blk (c' := (2158, [zR 0, zR 8, zR 97, .inl i], [])) 2 (by decide) hz rfl ?_
  exact K M2 hJM2
set_option maxRecDepth 100000 in
theorem qL_37 (hJ : qJ M) (hn : n ≤ 4096) (hi : 0 ≤ i ∧ i + 8 ≤ n) (K : ∀ M', qJ M' → zG n (114, 4080270) 300 311 (2158, [zR 0, zR 8, zR 97, .inl i], []) M' qLQ) : zG n (114, 4080270) 300 311 (1931, [zR 0, zR 8, zR 97, .inl i], []) M qLQ := by
  have hz := zp_311
  refine zG_blk (c' := (1936, [zR 0, zR 8, zR 97, .inl i], [.inl (i + 1), zR 0, zR 8])) 5 (by decide) hz (by rw [show (.inl (i + 1) : zV) = .inl (w32 (i + 1)) from by rw [w32_id (by omega)]]; rfl) ?_
  refine zG_iald (by decide) hz rfl rfl (.inr rfl) (by omega) ?_
  obtain ⟨x1, hx1⟩ : ∃ x : Int, x = M 0 (i + 1).toNat := ⟨_, rfl⟩
  rw [← hx1]
  have hr1 : qin x1 := by rw [hx1]; exact hJ.1.rng 0 _ (by decide) (by decide)
  show zG n (114, 4080270) 300 311 (1937, [zR 0, zR 8, zR 97, .inl i], [.inl x1, zR 8]) M _
  refine zG_blk (c' := (1941, [zR 0, zR 8, zR 97, .inl i], [.inl (i + 2), zR 0, .inl x1, zR 8])) 4 (by decide) hz (by rw [show (.inl (i + 2) : zV) = .inl (w32 (i + 2)) from by rw [w32_id (by omega)]]; rfl) ?_
  refine zG_iald (by decide) hz rfl rfl (.inr rfl) (by omega) ?_
  obtain ⟨x2, hx2⟩ : ∃ x : Int, x = M 0 (i + 2).toNat := ⟨_, rfl⟩
  rw [← hx2]
  have hr2 : qin x2 := by rw [hx2]; exact hJ.1.rng 0 _ (by decide) (by decide)
  show zG n (114, 4080270) 300 311 (1942, [zR 0, zR 8, zR 97, .inl i], [.inl x2, .inl x1, zR 8]) M _
  refine zG_blk (c' := (1946, [zR 0, zR 8, zR 97, .inl i], [.inl (i + 3), zR 0, .inl x2, .inl x1, zR 8])) 4 (by decide) hz (by rw [show (.inl (i + 3) : zV) = .inl (w32 (i + 3)) from by rw [w32_id (by omega)]]; rfl) ?_
  refine zG_iald (by decide) hz rfl rfl (.inr rfl) (by omega) ?_
  obtain ⟨x3, hx3⟩ : ∃ x : Int, x = M 0 (i + 3).toNat := ⟨_, rfl⟩
  rw [← hx3]
  have hr3 : qin x3 := by rw [hx3]; exact hJ.1.rng 0 _ (by decide) (by decide)
  show zG n (114, 4080270) 300 311 (1947, [zR 0, zR 8, zR 97, .inl i], [.inl x3, .inl x2, .inl x1, zR 8]) M _
  refine zG_call (by decide) hz zp_160 rfl rfl (Nat.le_of_ble_eq_true rfl) ⟨Nat.le_of_ble_eq_true rfl, Nat.le_of_ble_eq_true rfl⟩ (qm_160_8 (by decide) hJ.1 x1 (by omega) x2 (by omega) x3 (by omega)) (fun vr M1 hr => ?_)
  obtain ⟨⟨hCM1, hFM1⟩, hr⟩ := hr
  have hJM1 : qJ M1 := hJ.cls hCM1 hFM1 rfl (by decide)
  have hc0 : ∀ j, M1 0 j = M 0 j := fun j => hFM1 0 j (by decide)
  obtain ⟨r1, rfl, -⟩ := hr
  show zG n (114, 4080270) 300 311 (1950, [zR 0, zR 8, zR 97, .inl i], [.inl r1]) M1 _
  refine zG_blk (c' := (1956, [zR 0, zR 8, zR 97, .inl i], [.inl (i + 1), zR 0, zR 97])) 6 (by decide) hz (by rw [show (.inl (i + 1) : zV) = .inl (w32 (i + 1)) from by rw [w32_id (by omega)]]; rfl) ?_
  refine zG_iald (by decide) hz rfl rfl (.inr rfl) (by omega) ?_
  rw [show M1 0 (i + 1).toNat = x1 from by rw [hx1]; exact hc0 _]
  show zG n (114, 4080270) 300 311 (1957, [zR 0, zR 8, zR 97, .inl i], [.inl x1, zR 97]) M1 _
  refine zG_blk (c' := (1961, [zR 0, zR 8, zR 97, .inl i], [.inl (i + 2), zR 0, .inl x1, zR 97])) 4 (by decide) hz (by rw [show (.inl (i + 2) : zV) = .inl (w32 (i + 2)) from by rw [w32_id (by omega)]]; rfl) ?_
  refine zG_iald (by decide) hz rfl rfl (.inr rfl) (by omega) ?_
  rw [show M1 0 (i + 2).toNat = x2 from by rw [hx2]; exact hc0 _]
  show zG n (114, 4080270) 300 311 (1962, [zR 0, zR 8, zR 97, .inl i], [.inl x2, .inl x1, zR 97]) M1 _
  refine zG_blk (c' := (1966, [zR 0, zR 8, zR 97, .inl i], [.inl (i + 3), zR 0, .inl x2, .inl x1, zR 97])) 4 (by decide) hz (by rw [show (.inl (i + 3) : zV) = .inl (w32 (i + 3)) from by rw [w32_id (by omega)]]; rfl) ?_
  refine zG_iald (by decide) hz rfl rfl (.inr rfl) (by omega) ?_
  rw [show M1 0 (i + 3).toNat = x3 from by rw [hx3]; exact hc0 _]
  show zG n (114, 4080270) 300 311 (1967, [zR 0, zR 8, zR 97, .inl i], [.inl x3, .inl x2, .inl x1, zR 97]) M1 _
  refine zG_call (by decide) hz zp_284 rfl rfl (Nat.le_of_ble_eq_true rfl) ⟨Nat.le_of_ble_eq_true rfl, Nat.le_of_ble_eq_true rfl⟩ (qm_284_97 (by decide) hJM1.2.1 x1 (by omega) x2 (by omega) x3 (by omega)) (fun vr M2 hr => ?_)
  obtain ⟨⟨hCM2, hFM2⟩, hr⟩ := hr
  have hJM2 : qJ M2 := hJM1.mdl hCM2 hFM2 rfl (by decide) (hFM2.ar 98 6 (by decide) (by decide))
  obtain ⟨r2, hv9⟩ := hr
  first | (obtain ⟨rfl, -⟩ := hv9) | (obtain rfl := hv9)
  show zG n (114, 4080270) 300 311 (1970, [zR 0, zR 8, zR 97, .inl i], [.inl r2]) M2 _
  refine zG_blk (c' := (2158, [zR 0, zR 8, zR 97, .inl i], [])) 2 (by decide) hz rfl ?_
  exact K M2 hJM2
set_option maxRecDepth 100000 in
theorem qL_38 (hJ : qJ M) (hn : n ≤ 4096) (hi : 0 ≤ i ∧ i + 8 ≤ n) (K : ∀ M', qJ M' → zG n (114, 4080270) 300 311 (2158, [zR 0, zR 8, zR 97, .inl i], []) M' qLQ) : zG n (114, 4080270) 300 311 (1974, [zR 0, zR 8, zR 97, .inl i], []) M qLQ := by
  have hz := zp_311
  refine zG_blk (c' := (1979, [zR 0, zR 8, zR 97, .inl i], [.inl (i + 1), zR 0, zR 8])) 5 (by decide) hz (by rw [show (.inl (i + 1) : zV) = .inl (w32 (i + 1)) from by rw [w32_id (by omega)]]; rfl) ?_
  refine zG_iald (by decide) hz rfl rfl (.inr rfl) (by omega) ?_
  obtain ⟨x1, hx1⟩ : ∃ x : Int, x = M 0 (i + 1).toNat := ⟨_, rfl⟩
  rw [← hx1]
  have hr1 : qin x1 := by rw [hx1]; exact hJ.1.rng 0 _ (by decide) (by decide)
  show zG n (114, 4080270) 300 311 (1980, [zR 0, zR 8, zR 97, .inl i], [.inl x1, zR 8]) M _
  refine zG_call (by decide) hz zp_161 rfl rfl (Nat.le_of_ble_eq_true rfl) ⟨Nat.le_of_ble_eq_true rfl, Nat.le_of_ble_eq_true rfl⟩ (qm_161_8 (by decide) hJ.1 x1 (by omega)) (fun vr M1 hr => ?_)
  obtain ⟨⟨hCM1, hFM1⟩, hr⟩ := hr
  have hJM1 : qJ M1 := hJ.cls hCM1 hFM1 rfl (by decide)
  have hc0 : ∀ j, M1 0 j = M 0 j := fun j => hFM1 0 j (by decide)
  obtain ⟨r1, rfl, -⟩ := hr
  show zG n (114, 4080270) 300 311 (1983, [zR 0, zR 8, zR 97, .inl i], [.inl r1]) M1 _
  refine zG_blk (c' := (1989, [zR 0, zR 8, zR 97, .inl i], [.inl (i + 1), zR 0, zR 97])) 6 (by decide) hz (by rw [show (.inl (i + 1) : zV) = .inl (w32 (i + 1)) from by rw [w32_id (by omega)]]; rfl) ?_
  refine zG_iald (by decide) hz rfl rfl (.inr rfl) (by omega) ?_
  rw [show M1 0 (i + 1).toNat = x1 from by rw [hx1]; exact hc0 _]
  show zG n (114, 4080270) 300 311 (1990, [zR 0, zR 8, zR 97, .inl i], [.inl x1, zR 97]) M1 _
  refine zG_call (by decide) hz zp_285 rfl rfl (Nat.le_of_ble_eq_true rfl) ⟨Nat.le_of_ble_eq_true rfl, Nat.le_of_ble_eq_true rfl⟩ (qm_285_97 (by decide) hJM1.2.1 x1 (by omega)) (fun vr M2 hr => ?_)
  obtain ⟨⟨hCM2, hFM2⟩, hr⟩ := hr
  have h6 : M2 98 6 = M1 98 6 := by obtain ⟨x9, -, -, h9⟩ := hr; exact h9
  have hJM2 : qJ M2 := hJM1.mdl hCM2 hFM2 rfl (by decide) h6
  obtain ⟨r2, hv9⟩ := hr
  first | (obtain ⟨rfl, -⟩ := hv9) | (obtain rfl := hv9)
  show zG n (114, 4080270) 300 311 (1993, [zR 0, zR 8, zR 97, .inl i], [.inl r2]) M2 _
  refine zG_blk (c' := (2158, [zR 0, zR 8, zR 97, .inl i], [])) 2 (by decide) hz rfl ?_
  exact K M2 hJM2
set_option maxRecDepth 100000 in
theorem qL_39 (hJ : qJ M) (hn : n ≤ 4096) (hi : 0 ≤ i ∧ i + 8 ≤ n) (K : ∀ M', qJ M' → zG n (114, 4080270) 300 311 (2158, [zR 0, zR 8, zR 97, .inl i], []) M' qLQ) : zG n (114, 4080270) 300 311 (1997, [zR 0, zR 8, zR 97, .inl i], []) M qLQ := by
  have hz := zp_311
  refine zG_blk (c' := (2002, [zR 0, zR 8, zR 97, .inl i], [.inl (i + 1), zR 0, zR 8])) 5 (by decide) hz (by rw [show (.inl (i + 1) : zV) = .inl (w32 (i + 1)) from by rw [w32_id (by omega)]]; rfl) ?_
  refine zG_iald (by decide) hz rfl rfl (.inr rfl) (by omega) ?_
  obtain ⟨x1, hx1⟩ : ∃ x : Int, x = M 0 (i + 1).toNat := ⟨_, rfl⟩
  rw [← hx1]
  have hr1 : qin x1 := by rw [hx1]; exact hJ.1.rng 0 _ (by decide) (by decide)
  show zG n (114, 4080270) 300 311 (2003, [zR 0, zR 8, zR 97, .inl i], [.inl x1, zR 8]) M _
  refine zG_blk (c' := (2007, [zR 0, zR 8, zR 97, .inl i], [.inl (i + 2), zR 0, .inl x1, zR 8])) 4 (by decide) hz (by rw [show (.inl (i + 2) : zV) = .inl (w32 (i + 2)) from by rw [w32_id (by omega)]]; rfl) ?_
  refine zG_iald (by decide) hz rfl rfl (.inr rfl) (by omega) ?_
  obtain ⟨x2, hx2⟩ : ∃ x : Int, x = M 0 (i + 2).toNat := ⟨_, rfl⟩
  rw [← hx2]
  have hr2 : qin x2 := by rw [hx2]; exact hJ.1.rng 0 _ (by decide) (by decide)
  show zG n (114, 4080270) 300 311 (2008, [zR 0, zR 8, zR 97, .inl i], [.inl x2, .inl x1, zR 8]) M _
  refine zG_call (by decide) hz zp_162 rfl rfl (Nat.le_of_ble_eq_true rfl) ⟨Nat.le_of_ble_eq_true rfl, Nat.le_of_ble_eq_true rfl⟩ (qy_162_8 (by decide) hJ.1 x1 (by omega) x2 (by omega)) (fun vr M1 hr => ?_)
  obtain ⟨⟨hCM1, hFM1⟩, r1, rfl, h1⟩ := hr
  have hi := hFM1.hi rfl
  have hI := hJ.2.1.same hi
  have hc0 : ∀ j, M1 0 j = M 0 j := fun j => hFM1 0 j (by decide)
  show zG n (114, 4080270) 300 311 (2011, [zR 0, zR 8, zR 97, .inl i], [.inl r1]) M1 _
  refine zG_blk (c' := (2017, [zR 0, zR 8, zR 97, .inl i], [.inl (i + 1), zR 0, zR 97])) 6 (by decide) hz (by rw [show (.inl (i + 1) : zV) = .inl (w32 (i + 1)) from by rw [w32_id (by omega)]]; rfl) ?_
  refine zG_iald (by decide) hz rfl rfl (.inr rfl) (by omega) ?_
  rw [show M1 0 (i + 1).toNat = x1 from by rw [hx1]; exact hc0 _]
  show zG n (114, 4080270) 300 311 (2018, [zR 0, zR 8, zR 97, .inl i], [.inl x1, zR 97]) M1 _
  refine zG_blk (c' := (2022, [zR 0, zR 8, zR 97, .inl i], [.inl (i + 2), zR 0, .inl x1, zR 97])) 4 (by decide) hz (by rw [show (.inl (i + 2) : zV) = .inl (w32 (i + 2)) from by rw [w32_id (by omega)]]; rfl) ?_
  refine zG_iald (by decide) hz rfl rfl (.inr rfl) (by omega) ?_
  rw [show M1 0 (i + 2).toNat = x2 from by rw [hx2]; exact hc0 _]
  show zG n (114, 4080270) 300 311 (2023, [zR 0, zR 8, zR 97, .inl i], [.inl x2, .inl x1, zR 97]) M1 _
  refine zG_call (by decide) hz zp_286 rfl rfl (Nat.le_of_ble_eq_true rfl) ⟨Nat.le_of_ble_eq_true rfl, Nat.le_of_ble_eq_true rfl⟩ (qy_286_97 (by decide) hI x1 (by omega) x2 (by omega)) (fun vr M2 hr => ?_)
  obtain ⟨⟨hCM2, hFM2⟩, r2, rfl, -, h2⟩ := hr
  have lo := hFM2.lo rfl
  have a2 : M1 98 6 = M 98 6 := hi 98 6 (by decide)
  have a0 := hJ.2.2.1
  have a1 : M2 24 3 = M1 24 3 := lo 24 3 (by decide)
  have a3 : M2 8 3 = M1 8 3 := lo 8 3 (by decide)
  have a4 : M2 41 3 = M1 41 3 := lo 41 3 (by decide)
  have a5 : M2 58 3 = M1 58 3 := lo 58 3 (by decide)
  have a6 : M2 100 0 = M 100 0 := (hFM2.ar 100 0 (by decide) (by decide)).trans (hi 100 0 (by decide))
  have a7 : M2 100 1 = M 100 1 := (hFM2.ar 100 1 (by decide) (by decide)).trans (hi 100 1 (by decide))
  have a8 : M2 99 6 = M 99 6 := (hFM2.ar 99 6 (by decide) (by decide)).trans (hi 99 6 (by decide))
  have a9 : M2 99 5670 = M 99 5670 := (hFM2.ar 99 5670 (by decide) (by decide)).trans (hi 99 5670 (by decide))
  have c3 : M1 8 3 = M 8 3 := hFM1 8 3 (by decide)
  have c4 : M1 41 3 = M 41 3 := hFM1 41 3 (by decide)
  have c5 : M1 58 3 = M 58 3 := hFM1 58 3 (by decide)
  have hJ2 : qJ M2 := ⟨hCM1.same lo, hCM2, by unfold qK; rw [a3, a4, a5, a6, a7, a8, a9, c3, c4, c5]; exact ⟨by omega, hJ.2.2.2⟩⟩
  show zG n (114, 4080270) 300 311 (2026, [zR 0, zR 8, zR 97, .inl i], [.inl r2]) M2 _
  refine zG_blk (c' := (2158, [zR 0, zR 8, zR 97, .inl i], [])) 2 (by decide) hz rfl ?_
  exact K M2 hJ2
set_option maxRecDepth 100000 in
theorem qL_40 (hJ : qJ M) (hn : n ≤ 4096) (hi : 0 ≤ i ∧ i + 8 ≤ n) (K : ∀ M', qJ M' → zG n (114, 4080270) 300 311 (2158, [zR 0, zR 8, zR 97, .inl i], []) M' qLQ) : zG n (114, 4080270) 300 311 (2030, [zR 0, zR 8, zR 97, .inl i], []) M qLQ := by
  have hz := zp_311
  refine zG_blk (c' := (2031, [zR 0, zR 8, zR 97, .inl i], [zR 8])) 1 (by decide) hz rfl ?_
  refine zG_call (by decide) hz zp_163 rfl rfl (Nat.le_of_ble_eq_true rfl) ⟨Nat.le_of_ble_eq_true rfl, Nat.le_of_ble_eq_true rfl⟩ (qe_163_8 (by decide) hJ.1 ) (fun vr M1 hr => ?_)
  obtain ⟨⟨hCM1, hFM1⟩, rfl, h1⟩ := hr
  have hi := hFM1.hi rfl
  have hI := hJ.2.1.same hi
  have hc0 : ∀ j, M1 0 j = M 0 j := fun j => hFM1 0 j (by decide)
  show zG n (114, 4080270) 300 311 (2034, [zR 0, zR 8, zR 97, .inl i], [.inl (M 24 3)]) M1 _
  refine zG_blk (c' := (2036, [zR 0, zR 8, zR 97, .inl i], [zR 97])) 2 (by decide) hz rfl ?_
  refine zG_call (by decide) hz zp_287 rfl rfl (Nat.le_of_ble_eq_true rfl) ⟨Nat.le_of_ble_eq_true rfl, Nat.le_of_ble_eq_true rfl⟩ (qm_287_97 (by decide) hI ) (fun vr M2 hr => ?_)
  obtain ⟨⟨hCM2, hFM2⟩, r2, rfl, -, h2, h3⟩ := hr
  have lo := hFM2.lo rfl
  have a2 : M1 98 6 = M 98 6 := hi 98 6 (by decide)
  have a0 := hJ.2.2.1
  have a1 : M2 24 3 = M1 24 3 := lo 24 3 (by decide)
  have a3 : M2 8 3 = M1 8 3 := lo 8 3 (by decide)
  have a4 : M2 41 3 = M1 41 3 := lo 41 3 (by decide)
  have a5 : M2 58 3 = M1 58 3 := lo 58 3 (by decide)
  have a6 : M2 100 0 = M 100 0 := (hFM2.ar 100 0 (by decide) (by decide)).trans (hi 100 0 (by decide))
  have a7 : M2 100 1 = M 100 1 := (hFM2.ar 100 1 (by decide) (by decide)).trans (hi 100 1 (by decide))
  have a8 : M2 99 6 = M 99 6 := (hFM2.ar 99 6 (by decide) (by decide)).trans (hi 99 6 (by decide))
  have a9 : M2 99 5670 = M 99 5670 := (hFM2.ar 99 5670 (by decide) (by decide)).trans (hi 99 5670 (by decide))
  have c3 : M1 8 3 = M 8 3 := hFM1 8 3 (by decide)
  have c4 : M1 41 3 = M 41 3 := hFM1 41 3 (by decide)
  have c5 : M1 58 3 = M 58 3 := hFM1 58 3 (by decide)
  have hJ2 : qJ M2 := ⟨hCM1.same lo, hCM2, by unfold qK; rw [a3, a4, a5, a6, a7, a8, a9, c3, c4, c5]; exact ⟨by omega, hJ.2.2.2⟩⟩
  show zG n (114, 4080270) 300 311 (2039, [zR 0, zR 8, zR 97, .inl i], [.inl r2]) M2 _
  refine zG_blk (c' := (2158, [zR 0, zR 8, zR 97, .inl i], [])) 2 (by decide) hz rfl ?_
  exact K M2 hJ2
set_option maxRecDepth 100000 in
theorem qL_41 (hJ : qJ M) (hn : n ≤ 4096) (hi : 0 ≤ i ∧ i + 8 ≤ n) (K : ∀ M', qJ M' → zG n (114, 4080270) 300 311 (2158, [zR 0, zR 8, zR 97, .inl i], []) M' qLQ) : zG n (114, 4080270) 300 311 (2043, [zR 0, zR 8, zR 97, .inl i], []) M qLQ := by
  have hz := zp_311
  refine zG_blk (c' := (2048, [zR 0, zR 8, zR 97, .inl i], [.inl (i + 1), zR 0, zR 8])) 5 (by decide) hz (by rw [show (.inl (i + 1) : zV) = .inl (w32 (i + 1)) from by rw [w32_id (by omega)]]; rfl) ?_
  refine zG_iald (by decide) hz rfl rfl (.inr rfl) (by omega) ?_
  obtain ⟨x1, hx1⟩ : ∃ x : Int, x = M 0 (i + 1).toNat := ⟨_, rfl⟩
  rw [← hx1]
  have hr1 : qin x1 := by rw [hx1]; exact hJ.1.rng 0 _ (by decide) (by decide)
  show zG n (114, 4080270) 300 311 (2049, [zR 0, zR 8, zR 97, .inl i], [.inl x1, zR 8]) M _
  refine zG_blk (c' := (2053, [zR 0, zR 8, zR 97, .inl i], [.inl (i + 2), zR 0, .inl x1, zR 8])) 4 (by decide) hz (by rw [show (.inl (i + 2) : zV) = .inl (w32 (i + 2)) from by rw [w32_id (by omega)]]; rfl) ?_
  refine zG_iald (by decide) hz rfl rfl (.inr rfl) (by omega) ?_
  obtain ⟨x2, hx2⟩ : ∃ x : Int, x = M 0 (i + 2).toNat := ⟨_, rfl⟩
  rw [← hx2]
  have hr2 : qin x2 := by rw [hx2]; exact hJ.1.rng 0 _ (by decide) (by decide)
  show zG n (114, 4080270) 300 311 (2054, [zR 0, zR 8, zR 97, .inl i], [.inl x2, .inl x1, zR 8]) M _
  refine zG_call (by decide) hz zp_164 rfl rfl (Nat.le_of_ble_eq_true rfl) ⟨Nat.le_of_ble_eq_true rfl, Nat.le_of_ble_eq_true rfl⟩ (qm_164_8 (by decide) hJ.1 x1 (by omega) x2 (by omega)) (fun vr M1 hr => ?_)
  obtain ⟨⟨hCM1, hFM1⟩, hr⟩ := hr
  have hJM1 : qJ M1 := hJ.cls hCM1 hFM1 rfl (by decide)
  have hc0 : ∀ j, M1 0 j = M 0 j := fun j => hFM1 0 j (by decide)
  obtain ⟨r1, rfl, -⟩ := hr
  show zG n (114, 4080270) 300 311 (2057, [zR 0, zR 8, zR 97, .inl i], [.inl r1]) M1 _
  refine zG_blk (c' := (2063, [zR 0, zR 8, zR 97, .inl i], [.inl (i + 1), zR 0, zR 97])) 6 (by decide) hz (by rw [show (.inl (i + 1) : zV) = .inl (w32 (i + 1)) from by rw [w32_id (by omega)]]; rfl) ?_
  refine zG_iald (by decide) hz rfl rfl (.inr rfl) (by omega) ?_
  rw [show M1 0 (i + 1).toNat = x1 from by rw [hx1]; exact hc0 _]
  show zG n (114, 4080270) 300 311 (2064, [zR 0, zR 8, zR 97, .inl i], [.inl x1, zR 97]) M1 _
  refine zG_blk (c' := (2068, [zR 0, zR 8, zR 97, .inl i], [.inl (i + 2), zR 0, .inl x1, zR 97])) 4 (by decide) hz (by rw [show (.inl (i + 2) : zV) = .inl (w32 (i + 2)) from by rw [w32_id (by omega)]]; rfl) ?_
  refine zG_iald (by decide) hz rfl rfl (.inr rfl) (by omega) ?_
  rw [show M1 0 (i + 2).toNat = x2 from by rw [hx2]; exact hc0 _]
  show zG n (114, 4080270) 300 311 (2069, [zR 0, zR 8, zR 97, .inl i], [.inl x2, .inl x1, zR 97]) M1 _
  refine zG_call (by decide) hz zp_289 rfl rfl (Nat.le_of_ble_eq_true rfl) ⟨Nat.le_of_ble_eq_true rfl, Nat.le_of_ble_eq_true rfl⟩ (qm_289_97 (by decide) hJM1.2.1 x1 (by omega) x2 (by omega)) (fun vr M2 hr => ?_)
  obtain ⟨hq, hr⟩ := hr
  replace hq := hq.symm; subst hq
  obtain ⟨r2, hv9⟩ := hr
  first | (obtain ⟨rfl, -⟩ := hv9) | (obtain rfl := hv9)
  show zG n (114, 4080270) 300 311 (2072, [zR 0, zR 8, zR 97, .inl i], [.inl r2]) M1 _
  refine zG_blk (c' := (2158, [zR 0, zR 8, zR 97, .inl i], [])) 2 (by decide) hz rfl ?_
  exact K M1 hJM1
set_option maxRecDepth 100000 in
theorem qL_42 (hJ : qJ M) (hn : n ≤ 4096) (hi : 0 ≤ i ∧ i + 8 ≤ n) (K : ∀ M', qJ M' → zG n (114, 4080270) 300 311 (2158, [zR 0, zR 8, zR 97, .inl i], []) M' qLQ) : zG n (114, 4080270) 300 311 (2076, [zR 0, zR 8, zR 97, .inl i], []) M qLQ := by
  have hz := zp_311
  refine zG_blk (c' := (2081, [zR 0, zR 8, zR 97, .inl i], [.inl (i + 1), zR 0, zR 8])) 5 (by decide) hz (by rw [show (.inl (i + 1) : zV) = .inl (w32 (i + 1)) from by rw [w32_id (by omega)]]; rfl) ?_
  refine zG_iald (by decide) hz rfl rfl (.inr rfl) (by omega) ?_
  obtain ⟨x1, hx1⟩ : ∃ x : Int, x = M 0 (i + 1).toNat := ⟨_, rfl⟩
  rw [← hx1]
  have hr1 : qin x1 := by rw [hx1]; exact hJ.1.rng 0 _ (by decide) (by decide)
  show zG n (114, 4080270) 300 311 (2082, [zR 0, zR 8, zR 97, .inl i], [.inl x1, zR 8]) M _
  refine zG_call (by decide) hz zp_165 rfl rfl (Nat.le_of_ble_eq_true rfl) ⟨Nat.le_of_ble_eq_true rfl, Nat.le_of_ble_eq_true rfl⟩ (qe_165_8 (by decide) hJ.1 x1 (by omega)) (fun vr M1 hr => ?_)
  obtain ⟨⟨hCM1, hFM1⟩, h1⟩ := hr
  have hv1 : ∃ x : Int, vr = some (.inl x) := by rcases h1 with ⟨h, -⟩ | ⟨h, -⟩ <;> exact ⟨_, h⟩
  obtain ⟨r1, rfl⟩ := hv1
  have hi := hFM1.hi rfl
  have hI := hJ.2.1.same hi
  have hc0 : ∀ j, M1 0 j = M 0 j := fun j => hFM1 0 j (by decide)
  show zG n (114, 4080270) 300 311 (2085, [zR 0, zR 8, zR 97, .inl i], [.inl r1]) M1 _
  refine zG_blk (c' := (2091, [zR 0, zR 8, zR 97, .inl i], [.inl (i + 1), zR 0, zR 97])) 6 (by decide) hz (by rw [show (.inl (i + 1) : zV) = .inl (w32 (i + 1)) from by rw [w32_id (by omega)]]; rfl) ?_
  refine zG_iald (by decide) hz rfl rfl (.inr rfl) (by omega) ?_
  rw [show M1 0 (i + 1).toNat = x1 from by rw [hx1]; exact hc0 _]
  show zG n (114, 4080270) 300 311 (2092, [zR 0, zR 8, zR 97, .inl i], [.inl x1, zR 97]) M1 _
  refine zG_call (by decide) hz zp_290 rfl rfl (Nat.le_of_ble_eq_true rfl) ⟨Nat.le_of_ble_eq_true rfl, Nat.le_of_ble_eq_true rfl⟩ (qx_image (by decide) hI x1 (by omega)) (fun vr M2 hr => ?_)
  obtain ⟨⟨hCM2, hFM2⟩, h2⟩ := hr
  have hv2 : ∃ x : Int, vr = some (.inl x) := by rcases h2 with ⟨h, -⟩ | ⟨h, -⟩ <;> exact ⟨_, h⟩
  obtain ⟨r2, rfl⟩ := hv2
  have lo := hFM2.lo rfl
  have a2 : M1 98 6 = M 98 6 := hi 98 6 (by decide)
  have a0 := hJ.2.2.1
  have a1 : M2 24 3 = M1 24 3 := lo 24 3 (by decide)
  have a3 : M2 8 3 = M1 8 3 := lo 8 3 (by decide)
  have a4 : M2 41 3 = M1 41 3 := lo 41 3 (by decide)
  have a5 : M2 58 3 = M1 58 3 := lo 58 3 (by decide)
  have hJ2 : qJ M2 := by
    rcases h1 with ⟨-, hx, rfl⟩ | ⟨-, hx, u1, u2, u3, u4⟩
    · rcases h2 with ⟨-, -, rfl⟩ | ⟨-, hy, -⟩
      · exact hJ
      · exact absurd hy hx
    · rcases h2 with ⟨-, hy, -⟩ | ⟨-, -, ⟨v1, v2⟩, v3, v4⟩
      · exact absurd hx hy
      · have p0 := hJ.2.1.bl100 0
        have p1 := hJ.2.1.bl100 1
        have m8 := hJ.2.2.2.1
        have q0 := hi 100 0 (by decide)
        have q1 := hi 100 1 (by decide)
        have q6 := hi 99 6 (by decide)
        have q7 := hi 99 5670 (by decide)
        refine ⟨hCM1.same lo, hCM2, ?_⟩
        have n98 : M2 98 6 = M1 98 6 := hFM2.ar 98 6 (by decide) (by decide)
        rcases (by omega : x1 = 0 ∨ x1 = 1) with rfl | rfl
        · have w1 := u3 rfl
          have z1 : M2 100 0 = 1 := v1
          have z2 : M2 100 1 = M1 100 1 := v2 1 (by decide)
          have z3 : M2 99 6 = M1 98 6 := v3 6 (by decide)
          have z4 : M2 99 5670 = M1 99 5670 := v4 5670 (.inr (by decide))
          have z5 : M1 8 3 = 1 + 2 * M 100 1 := by
            rw [u2, m8.2.2]
            rcases p0 with h | h <;> rcases p1 with h' | h' <;> rw [h, h'] <;> decide
          refine ⟨by omega, by omega, fun _ => by omega, fun hh => ?_⟩
          have := hJ.2.2.2.2.2 (by omega)
          omega
        · have w1 := u4 rfl
          have z1 : M2 100 1 = 1 := v1
          have z2 : M2 100 0 = M1 100 0 := v2 0 (by decide)
          have z3 : M2 99 5670 = M1 98 6 := v3 6 (by decide)
          have z4 : M2 99 6 = M1 99 6 := v4 6 (.inl (by decide))
          have z5 : M1 8 3 = M 100 0 + 2 := by
            rw [u2, m8.2.2]
            rcases p0 with h | h <;> rcases p1 with h' | h' <;> rw [h, h'] <;> decide
          refine ⟨by omega, by omega, fun hh => ?_, fun _ => by omega⟩
          have := hJ.2.2.2.2.1 (by omega)
          omega
  show zG n (114, 4080270) 300 311 (2095, [zR 0, zR 8, zR 97, .inl i], [.inl r2]) M2 _
  refine zG_blk (c' := (2158, [zR 0, zR 8, zR 97, .inl i], [])) 2 (by decide) hz rfl ?_
  exact K M2 hJ2
set_option maxRecDepth 100000 in
theorem qL_43 (hJ : qJ M) (hn : n ≤ 4096) (hi : 0 ≤ i ∧ i + 8 ≤ n) (K : ∀ M', qJ M' → zG n (114, 4080270) 300 311 (2158, [zR 0, zR 8, zR 97, .inl i], []) M' qLQ) : zG n (114, 4080270) 300 311 (2099, [zR 0, zR 8, zR 97, .inl i], []) M qLQ := by
  have hz := zp_311
  refine zG_blk (c' := (2104, [zR 0, zR 8, zR 97, .inl i], [.inl (i + 1), zR 0, zR 8])) 5 (by decide) hz (by rw [show (.inl (i + 1) : zV) = .inl (w32 (i + 1)) from by rw [w32_id (by omega)]]; rfl) ?_
  refine zG_iald (by decide) hz rfl rfl (.inr rfl) (by omega) ?_
  obtain ⟨x1, hx1⟩ : ∃ x : Int, x = M 0 (i + 1).toNat := ⟨_, rfl⟩
  rw [← hx1]
  have hr1 : qin x1 := by rw [hx1]; exact hJ.1.rng 0 _ (by decide) (by decide)
  show zG n (114, 4080270) 300 311 (2105, [zR 0, zR 8, zR 97, .inl i], [.inl x1, zR 8]) M _
  refine zG_call (by decide) hz zp_166 rfl rfl (Nat.le_of_ble_eq_true rfl) ⟨Nat.le_of_ble_eq_true rfl, Nat.le_of_ble_eq_true rfl⟩ (qe_166_8 (by decide) hJ.1 x1 (by omega)) (fun vr M1 hr => ?_)
  obtain ⟨⟨hCM1, hFM1⟩, h1⟩ := hr
  have hv1 : ∃ x : Int, vr = some (.inl x) := by rcases h1 with ⟨h, -⟩ | ⟨h, -⟩ | ⟨h, -⟩ <;> exact ⟨_, h⟩
  obtain ⟨r1, rfl⟩ := hv1
  have hi := hFM1.hi rfl
  have hI := hJ.2.1.same hi
  have hc0 : ∀ j, M1 0 j = M 0 j := fun j => hFM1 0 j (by decide)
  show zG n (114, 4080270) 300 311 (2108, [zR 0, zR 8, zR 97, .inl i], [.inl r1]) M1 _
  refine zG_blk (c' := (2113, [zR 0, zR 8, zR 97, .inl i], [.inl (i + 1), zR 0, zR 97, .inl r1])) 5 (by decide) hz (by rw [show (.inl (i + 1) : zV) = .inl (w32 (i + 1)) from by rw [w32_id (by omega)]]; rfl) ?_
  refine zG_iald (by decide) hz rfl rfl (.inr rfl) (by omega) ?_
  rw [show M1 0 (i + 1).toNat = x1 from by rw [hx1]; exact hc0 _]
  show zG n (114, 4080270) 300 311 (2114, [zR 0, zR 8, zR 97, .inl i], [.inl x1, zR 97, .inl r1]) M1 _
  refine zG_call (by decide) hz zp_291 rfl rfl (Nat.le_of_ble_eq_true rfl) ⟨Nat.le_of_ble_eq_true rfl, Nat.le_of_ble_eq_true rfl⟩ (qx_from (by decide) hI x1 (by omega)) (fun vr M2 hr => ?_)
  obtain ⟨⟨hCM2, hFM2⟩, h2⟩ := hr
  have hv2 : ∃ x : Int, vr = some (.inl x) := by rcases h2 with ⟨h, -⟩ | ⟨h, -⟩ | ⟨h, -⟩ <;> exact ⟨_, h⟩
  obtain ⟨r2, rfl⟩ := hv2
  have lo := hFM2.lo rfl
  have a2 : M1 98 6 = M 98 6 := hi 98 6 (by decide)
  have a0 := hJ.2.2.1
  have a1 : M2 24 3 = M1 24 3 := lo 24 3 (by decide)
  have a3 : M2 8 3 = M1 8 3 := lo 8 3 (by decide)
  have a4 : M2 41 3 = M1 41 3 := lo 41 3 (by decide)
  have a5 : M2 58 3 = M1 58 3 := lo 58 3 (by decide)
  have a6 : M2 100 0 = M 100 0 := (hFM2.ar 100 0 (by decide) (by decide)).trans (hi 100 0 (by decide))
  have a7 : M2 100 1 = M 100 1 := (hFM2.ar 100 1 (by decide) (by decide)).trans (hi 100 1 (by decide))
  have a8 : M2 99 6 = M 99 6 := (hFM2.ar 99 6 (by decide) (by decide)).trans (hi 99 6 (by decide))
  have a9 : M2 99 5670 = M 99 5670 := (hFM2.ar 99 5670 (by decide) (by decide)).trans (hi 99 5670 (by decide))
  have c3 : M1 8 3 = M 8 3 := hFM1 8 3 (by decide)
  have c4 : M1 41 3 = M 41 3 := hFM1 41 3 (by decide)
  have c5 : M1 58 3 = M 58 3 := hFM1 58 3 (by decide)
  have hJ2 : qJ M2 := by
    have p0 := hJ.2.1.bl100 0
    have p1 := hJ.2.1.bl100 1
    have m8 := hJ.2.2.2.1
    have q0 := hi 100 0 (by decide)
    have q1 := hi 100 1 (by decide)
    have t0 : zband (zbshr (M 8 3) 0) 1 = M 100 0 := by rw [m8.2.2]; rcases p0 with h | h <;> rcases p1 with h' | h' <;> rw [h, h'] <;> decide
    have t1 : zband (zbshr (M 8 3) 1) 1 = M 100 1 := by rw [m8.2.2]; rcases p0 with h | h <;> rcases p1 with h' | h' <;> rw [h, h'] <;> decide
    have s0 : M1 100 (0 : Int).toNat = M 100 0 := q0
    have s1 : M1 100 (1 : Int).toNat = M 100 1 := q1
    refine ⟨hCM1.same lo, hCM2, ?_⟩
    unfold qK
    rw [a3, a4, a5, a6, a7, a8, a9, c3, c4, c5]
    refine ⟨?_, hJ.2.2.2⟩
    by_cases hx : 0 ≤ x1 ∧ x1 ≤ 1
    · rcases (by omega : x1 = 0 ∨ x1 = 1) with rfl | rfl
      · rcases h1 with ⟨-, h, -⟩ | ⟨-, -, h, rfl⟩ | ⟨-, -, h, u0, u1⟩
        · exact absurd hx h
        · rcases h2 with ⟨-, h9, -⟩ | ⟨-, -, -, rfl⟩ | ⟨-, -, h9, -⟩
          · exact absurd hx h9
          · exact a0
          · exact absurd (s0.trans (t0.symm.trans h)) h9
        · rcases h2 with ⟨-, h9, -⟩ | ⟨-, -, h9, -⟩ | ⟨-, -, h9, v⟩
          · exact absurd hx h9
          · exact absurd (t0.trans (s0.symm.trans h9)) h
          · have v6 : M2 98 6 = M1 99 6 := v 6 (by decide)
            have w6 := hi 99 6 (by decide)
            have k6 := hJ.2.2.2.2.1 (fun hh => h (t0.trans hh))
            have u6 := u0 rfl
            omega
      · rcases h1 with ⟨-, h, -⟩ | ⟨-, -, h, rfl⟩ | ⟨-, -, h, u0, u1⟩
        · exact absurd hx h
        · rcases h2 with ⟨-, h9, -⟩ | ⟨-, -, -, rfl⟩ | ⟨-, -, h9, -⟩
          · exact absurd hx h9
          · exact a0
          · exact absurd (s1.trans (t1.symm.trans h)) h9
        · rcases h2 with ⟨-, h9, -⟩ | ⟨-, -, h9, -⟩ | ⟨-, -, h9, v⟩
          · exact absurd hx h9
          · exact absurd (t1.trans (s1.symm.trans h9)) h
          · have v6 : M2 98 6 = M1 99 5670 := v 6 (by decide)
            have w6 := hi 99 5670 (by decide)
            have k6 := hJ.2.2.2.2.2 (fun hh => h (t1.trans hh))
            have u6 := u1 rfl
            omega
    · rcases h1 with ⟨-, -, rfl⟩ | ⟨-, h, -⟩ | ⟨-, h, -⟩
      · rcases h2 with ⟨-, -, rfl⟩ | ⟨-, h, -⟩ | ⟨-, h, -⟩
        · exact a0
        · exact absurd h hx
        · exact absurd h hx
      · exact absurd h hx
      · exact absurd h hx
  show zG n (114, 4080270) 300 311 (2117, [zR 0, zR 8, zR 97, .inl i], [.inl r2, .inl r1]) M2 _
  have heq : r1 = r2 := by
    have p0 := hJ.2.1.bl100 0
    have p1 := hJ.2.1.bl100 1
    have m8 := hJ.2.2.2.1
    have q0 := hi 100 0 (by decide)
    have q1 := hi 100 1 (by decide)
    have t0 : zband (zbshr (M 8 3) 0) 1 = M 100 0 := by rw [m8.2.2]; rcases p0 with h | h <;> rcases p1 with h' | h' <;> rw [h, h'] <;> decide
    have t1 : zband (zbshr (M 8 3) 1) 1 = M 100 1 := by rw [m8.2.2]; rcases p0 with h | h <;> rcases p1 with h' | h' <;> rw [h, h'] <;> decide
    have s0 : M1 100 (0 : Int).toNat = M 100 0 := q0
    have s1 : M1 100 (1 : Int).toNat = M 100 1 := q1
    by_cases hx : 0 ≤ x1 ∧ x1 ≤ 1
    · rcases (by omega : x1 = 0 ∨ x1 = 1) with rfl | rfl
      · rcases h1 with ⟨-, h, -⟩ | ⟨g, -, h, -⟩ | ⟨g, -, h, -⟩
        · exact absurd hx h
        · rcases h2 with ⟨-, h9, -⟩ | ⟨g', -, -, -⟩ | ⟨-, -, h9, -⟩
          · exact absurd hx h9
          · exact Sum.inl.inj (Option.some.inj (g.trans g'.symm))
          · exact absurd (s0.trans (t0.symm.trans h)) h9
        · rcases h2 with ⟨-, h9, -⟩ | ⟨-, -, h9, -⟩ | ⟨g', -, -, -⟩
          · exact absurd hx h9
          · exact absurd (t0.trans (s0.symm.trans h9)) h
          · exact Sum.inl.inj (Option.some.inj (g.trans g'.symm))
      · rcases h1 with ⟨-, h, -⟩ | ⟨g, -, h, -⟩ | ⟨g, -, h, -⟩
        · exact absurd hx h
        · rcases h2 with ⟨-, h9, -⟩ | ⟨g', -, -, -⟩ | ⟨-, -, h9, -⟩
          · exact absurd hx h9
          · exact Sum.inl.inj (Option.some.inj (g.trans g'.symm))
          · exact absurd (s1.trans (t1.symm.trans h)) h9
        · rcases h2 with ⟨-, h9, -⟩ | ⟨-, -, h9, -⟩ | ⟨g', -, -, -⟩
          · exact absurd hx h9
          · exact absurd (t1.trans (s1.symm.trans h9)) h
          · exact Sum.inl.inj (Option.some.inj (g.trans g'.symm))
    · rcases h1 with ⟨g, -, -⟩ | ⟨-, h, -⟩ | ⟨-, h, -⟩
      · rcases h2 with ⟨g', -, -⟩ | ⟨-, h, -⟩ | ⟨-, h, -⟩
        · exact Sum.inl.inj (Option.some.inj (g.trans g'.symm))
        · exact absurd h hx
        · exact absurd h hx
      · exact absurd h hx
      · exact absurd h hx
  refine zG_icmp_eq (by decide) hz rfl (fun _ => ?_) (fun hne => absurd heq hne)
  exact K M2 hJ2
set_option maxRecDepth 100000 in
theorem qL_44 (hJ : qJ M) (hn : n ≤ 4096) (hi : 0 ≤ i ∧ i + 8 ≤ n) (K : ∀ M', qJ M' → zG n (114, 4080270) 300 311 (2158, [zR 0, zR 8, zR 97, .inl i], []) M' qLQ) : zG n (114, 4080270) 300 311 (2122, [zR 0, zR 8, zR 97, .inl i], []) M qLQ := by
  have hz := zp_311
  refine zG_blk (c' := (2127, [zR 0, zR 8, zR 97, .inl i], [.inl (i + 1), zR 0, zR 8])) 5 (by decide) hz (by rw [show (.inl (i + 1) : zV) = .inl (w32 (i + 1)) from by rw [w32_id (by omega)]]; rfl) ?_
  refine zG_iald (by decide) hz rfl rfl (.inr rfl) (by omega) ?_
  obtain ⟨x1, hx1⟩ : ∃ x : Int, x = M 0 (i + 1).toNat := ⟨_, rfl⟩
  rw [← hx1]
  have hr1 : qin x1 := by rw [hx1]; exact hJ.1.rng 0 _ (by decide) (by decide)
  show zG n (114, 4080270) 300 311 (2128, [zR 0, zR 8, zR 97, .inl i], [.inl x1, zR 8]) M _
  refine zG_call (by decide) hz zp_167 rfl rfl (Nat.le_of_ble_eq_true rfl) ⟨Nat.le_of_ble_eq_true rfl, Nat.le_of_ble_eq_true rfl⟩ (qm_167_8 (by decide) hJ.1 x1 (by omega)) (fun vr M1 hr => ?_)
  obtain ⟨hq, hr⟩ := hr
  replace hq := hq.symm; subst hq
  have hc0 : ∀ j, M 0 j = M 0 j := fun _ => rfl
  obtain ⟨r1, rfl, -⟩ := hr
  show zG n (114, 4080270) 300 311 (2131, [zR 0, zR 8, zR 97, .inl i], [.inl r1]) M _
  refine zG_blk (c' := (2137, [zR 0, zR 8, zR 97, .inl i], [.inl (i + 1), zR 0, zR 97])) 6 (by decide) hz (by rw [show (.inl (i + 1) : zV) = .inl (w32 (i + 1)) from by rw [w32_id (by omega)]]; rfl) ?_
  refine zG_iald (by decide) hz rfl rfl (.inr rfl) (by omega) ?_
  rw [show M 0 (i + 1).toNat = x1 from hx1.symm]
  show zG n (114, 4080270) 300 311 (2138, [zR 0, zR 8, zR 97, .inl i], [.inl x1, zR 97]) M _
  refine zG_call (by decide) hz zp_293 rfl rfl (Nat.le_of_ble_eq_true rfl) ⟨Nat.le_of_ble_eq_true rfl, Nat.le_of_ble_eq_true rfl⟩ (qm_293_97 (by decide) hJ.2.1 x1 (by omega)) (fun vr M2 hr => ?_)
  obtain ⟨hq, hr⟩ := hr
  replace hq := hq.symm; subst hq
  obtain ⟨r2, hv9⟩ := hr
  first | (obtain ⟨rfl, -⟩ := hv9) | (obtain rfl := hv9)
  show zG n (114, 4080270) 300 311 (2141, [zR 0, zR 8, zR 97, .inl i], [.inl r2]) M _
  refine zG_blk (c' := (2158, [zR 0, zR 8, zR 97, .inl i], [])) 2 (by decide) hz rfl ?_
  exact K M hJ
set_option maxRecDepth 100000 in
theorem qL_45 (hJ : qJ M) (hn : n ≤ 4096) (hi : 0 ≤ i ∧ i + 8 ≤ n) (K : ∀ M', qJ M' → zG n (114, 4080270) 300 311 (2158, [zR 0, zR 8, zR 97, .inl i], []) M' qLQ) : zG n (114, 4080270) 300 311 (2145, [zR 0, zR 8, zR 97, .inl i], []) M qLQ := by
  have hz := zp_311
  refine zG_blk (c' := (2146, [zR 0, zR 8, zR 97, .inl i], [zR 8])) 1 (by decide) hz rfl ?_
  refine zG_call (by decide) hz zp_168 rfl rfl (Nat.le_of_ble_eq_true rfl) ⟨Nat.le_of_ble_eq_true rfl, Nat.le_of_ble_eq_true rfl⟩ (qm_168_8 (by decide) hJ.1 ) (fun vr M1 hr => ?_)
  obtain ⟨hq, hr⟩ := hr
  replace hq := hq.symm; subst hq
  have hc0 : ∀ j, M 0 j = M 0 j := fun _ => rfl
  obtain ⟨r1, rfl⟩ := hr
  show zG n (114, 4080270) 300 311 (2149, [zR 0, zR 8, zR 97, .inl i], [(.inr (.inl r1))]) M _
  refine zG_blk (c' := (2151, [zR 0, zR 8, zR 97, .inl i], [zR 97])) 2 (by decide) hz rfl ?_
  refine zG_call (by decide) hz zp_295 rfl rfl (Nat.le_of_ble_eq_true rfl) ⟨Nat.le_of_ble_eq_true rfl, Nat.le_of_ble_eq_true rfl⟩ (qm_295_97 (by decide) hJ.2.1 ) (fun vr M2 hr => ?_)
  obtain ⟨hq, hr⟩ := hr
  replace hq := hq.symm; subst hq
  obtain ⟨r2, hv9⟩ := hr
  first | (obtain ⟨rfl, -⟩ := hv9) | (obtain rfl := hv9)
  show zG n (114, 4080270) 300 311 (2154, [zR 0, zR 8, zR 97, .inl i], [(.inr (.inl r2))]) M _
  refine zG_blk (c' := (2158, [zR 0, zR 8, zR 97, .inl i], [])) 2 (by decide) hz rfl ?_
  exact K M hJ
set_option maxRecDepth 100000 in
theorem qL_all (hn : n ≤ 4096) : ∀ (N : Nat) (i : Int) (M : zM), ((n : Int) + 8 - i).toNat < N → 0 ≤ i ∧ i ≤ n + 8 → qJ M → zG n (114, 4080270) 300 311 (18, [zR 0, zR 8, zR 97, .inl i], []) M qLQ := by
  have hz := zp_311
  intro N
  induction N with
  | zero => intro i M hN; exact absurd hN (Nat.not_lt_zero _)
  | succ N ih =>
    intro i M hN hi hJ
    refine zG_blk (c' := (20, [zR 0, zR 8, zR 97, .inl i], [zR 0, .inl i])) 2 (by decide) hz rfl ?_
    refine zG_alen (by decide) hz rfl rfl ?_
    refine zG_blk (c' := (24, [zR 0, zR 8, zR 97, .inl i], [.inl ((n : Int) - 8), .inl i])) 2 (by decide) hz (by rw [show (.inl ((n : Int) - 8) : zV) = .inl (w32 ((n : Int) - 8)) from by rw [w32_id (by omega)]]; rfl) ?_
    refine zG_icmp_gt (by decide) hz rfl (fun hb => ?_) (fun hb => ?_)
    · refine zG_blk (c' := (2165, [zR 0, zR 8, zR 97, .inl i], [.inl 1])) 1 (by decide) hz rfl ?_
      exact zG_zret (by decide) hz rfl (.inr rfl) rfl
    · have K : ∀ M', qJ M' → zG n (114, 4080270) 300 311 (2158, [zR 0, zR 8, zR 97, .inl i], []) M' qLQ := by
        intro M' hJ'
        refine zG_blk (c' := (18, [zR 0, zR 8, zR 97, .inl (i + 8)], [])) 2 (by decide) hz (by rw [show (.inl (i + 8) : zV) = .inl (w32 (i + 8)) from by rw [w32_id (by omega)]]; rfl) ?_
        exact ih (i + 8) M' (by omega) (by omega) hJ'
      have hi8 : 0 ≤ i ∧ i + 8 ≤ n := by omega
      refine zG_blk (c' := (29, [zR 0, zR 8, zR 97, .inl i], [.inl i, zR 0])) 2 (by decide) hz rfl ?_
      refine zG_iald (by decide) hz rfl rfl (.inr rfl) (by omega) ?_
      refine zG_blk (c' := (33, [zR 0, zR 8, zR 97, .inl i], [.inl (zband (M 0 i.toNat) 63)])) 2 (by decide) hz rfl ?_
      refine zG_sw (by decide) hz rfl ?_
      refine zts_all (P := fun t => zG n (114, 4080270) 300 311 (t, [zR 0, zR 8, zR 97, .inl i], []) M _) (K M hJ) ?_
      intro t ht
      simp only [List.mem_cons, List.not_mem_nil, or_false] at ht
      rcases ht with rfl | rfl | rfl | rfl | rfl | rfl | rfl | rfl | rfl | rfl | rfl | rfl | rfl | rfl | rfl | rfl | rfl | rfl | rfl | rfl | rfl | rfl | rfl | rfl | rfl | rfl | rfl | rfl | rfl | rfl | rfl | rfl | rfl | rfl | rfl | rfl | rfl | rfl | rfl | rfl | rfl | rfl | rfl | rfl | rfl | rfl
      · exact qL_0 hJ hn hi8 K
      · exact qL_1 hJ hn hi8 K
      · exact qL_2 hJ hn hi8 K
      · exact qL_3 hJ hn hi8 K
      · exact qL_4 hJ hn hi8 K
      · exact qL_5 hJ hn hi8 K
      · exact qL_6 hJ hn hi8 K
      · exact qL_7 hJ hn hi8 K
      · exact qL_8 hJ hn hi8 K
      · exact qL_9 hJ hn hi8 K
      · exact qL_10 hJ hn hi8 K
      · exact qL_11 hJ hn hi8 K
      · exact qL_12 hJ hn hi8 K
      · exact qL_13 hJ hn hi8 K
      · exact qL_14 hJ hn hi8 K
      · exact qL_15 hJ hn hi8 K
      · exact qL_16 hJ hn hi8 K
      · exact qL_17 hJ hn hi8 K
      · exact qL_18 hJ hn hi8 K
      · exact qL_19 hJ hn hi8 K
      · exact qL_20 hJ hn hi8 K
      · exact qL_21 hJ hn hi8 K
      · exact qL_22 hJ hn hi8 K
      · exact qL_23 hJ hn hi8 K
      · exact qL_24 hJ hn hi8 K
      · exact qL_25 hJ hn hi8 K
      · exact qL_26 hJ hn hi8 K
      · exact qL_27 hJ hn hi8 K
      · exact qL_28 hJ hn hi8 K
      · exact qL_29 hJ hn hi8 K
      · exact qL_30 hJ hn hi8 K
      · exact qL_31 hJ hn hi8 K
      · exact qL_32 hJ hn hi8 K
      · exact qL_33 hJ hn hi8 K
      · exact qL_34 hJ hn hi8 K
      · exact qL_35 hJ hn hi8 K
      · exact qL_36 hJ hn hi8 K
      · exact qL_37 hJ hn hi8 K
      · exact qL_38 hJ hn hi8 K
      · exact qL_39 hJ hn hi8 K
      · exact qL_40 hJ hn hi8 K
      · exact qL_41 hJ hn hi8 K
      · exact qL_42 hJ hn hi8 K
      · exact qL_43 hJ hn hi8 K
      · exact qL_44 hJ hn hi8 K
      · exact qL_45 hJ hn hi8 K
end LW

