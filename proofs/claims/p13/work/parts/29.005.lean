theorem qm_238_97 {n d : Nat} {M : zM} (hd : 1 ≤ d) (hC : qMI M)  (a1 : Int) (ha1 : 0 ≤ a1 ∧ a1 ≤ 13) : qOkN n d 238 [.inr (.inr (some 97)), .inl a1] 3 [108, 1020] M (fun v M' => v = none) := by
  have hz := zp_238
  have hd0 : 0 < d := by omega
  have hW : qFm [108, 1020] M M := qFm.rfl
  show zG n (0, 0) d 238 (0, [.inr (.inr (some 97)), .inl a1, zN], []) M _
  refine zG_blk (c' := (2, [.inr (.inr (some 97)), .inl a1, zN], [.inl 0, .inr (.inr (some 97))])) 2 hd0 hz (by rfl) ?_
  refine zG_putf (.inr ⟨rfl, by omega⟩) hd0 hz rfl (by decide) rfl rfl ?_
  obtain ⟨M1, hM1⟩ : ∃ X : zM, X = zput M 97 20 0 := ⟨_, rfl⟩
  rw [← hM1]
  have hCM1 : qMI M1 := by rw [hM1]; exact hC.put (by decide) (by decide) (by refine ⟨fun _ => ?_, fun _ => ?_, fun h => ⟨fun _ => ?_, fun _ => ?_, fun _ => ?_, fun _ => ?_, fun _ => ?_⟩, fun h => ?_, fun h => ?_⟩ <;> first | omega | exact absurd rfl (by assumption) | (rename_i h9; exact absurd h9 (by decide)))
  have hWM1 : qFm [108, 1020] M M1 := by rw [hM1]; exact hW.put (by decide)
  have e2 : M1 97 20 = 0 := by rw [hM1]; exact qput_eq
  show zG n (0, 0) d 238 (5, [.inr (.inr (some 97)), .inl a1, zN], []) M1 _
  obtain ⟨x3, hx3⟩ : ∃ x : Int, x = w32 (4 * a1) := ⟨_, rfl⟩
  have hx3e : x3 = 4 * a1 := by rw [hx3]; exact w32_id (by omega)
  obtain ⟨x4, hx4⟩ : ∃ x : Int, x = w32 (20 + x3) := ⟨_, rfl⟩
  have hx4e : x4 = 20 + x3 := by rw [hx4]; exact w32_id (by omega)
  obtain ⟨x5, hx5⟩ : ∃ x : Int, x = w32 (x4 + 1) := ⟨_, rfl⟩
  have hx5e : x5 = x4 + 1 := by rw [hx5]; exact w32_id (by omega)
  refine zG_blk (c' := (17, [.inr (.inr (some 97)), .inl a1, zN], [.inl x5, .inr (.inr (some 98))])) 9 hd0 hz (by subst hx5; subst hx4; subst hx3; rfl) ?_
  refine zG_iald hd0 hz rfl rfl (.inl rfl) (by omega) ?_
  obtain ⟨x6, hx6⟩ : ∃ x : Int, x = M1 98 (x5 : Int).toNat := ⟨_, rfl⟩
  rw [← hx6]
  have hx6r : qin x6 := by rw [hx6]; exact hCM1.sin _
  show zG n (0, 0) d 238 (18, [.inr (.inr (some 97)), .inl a1, zN], [.inl x6]) M1 _
  refine zG_blk (c' := (29, [.inr (.inr (some 97)), .inl a1, .inl x6], [.inl a1, .inr (.inr (some 102)), .inl 0, .inr (.inr (some 108))])) 7 hd0 hz (by rfl) ?_
  refine zG_iald hd0 hz rfl rfl (.inl rfl) (by omega) ?_
  obtain ⟨x7, hx7⟩ : ∃ x : Int, x = M1 102 (a1 : Int).toNat := ⟨_, rfl⟩
  rw [← hx7]
  have hx7r : qin x7 := by rw [hx7]; exact hCM1.ra 102 _ (by decide) (by decide)
  show zG n (0, 0) d 238 (30, [.inr (.inr (some 97)), .inl a1, .inl x6], [.inl x7, .inl 0, .inr (.inr (some 108))]) M1 _
  refine zG_blk (c' := (31, [.inr (.inr (some 97)), .inl a1, .inl x6], [.inr (.inl (x7)), .inl 0, .inr (.inr (some 108))])) 1 hd0 hz (by rfl) ?_
  refine zG_last hd0 hz rfl rfl (by omega) ?_
  obtain ⟨M8, hM8⟩ : ∃ X : zM, X = zput M1 108 (0 : Int).toNat x7 := ⟨_, rfl⟩
  rw [← hM8]
  have hCM8 : qMI M8 := by rw [hM8]; exact hCM1.put (by decide) (qCd_a (by decide) (by decide)) (by refine ⟨fun h => ?_, fun _ => ?_, fun h => ?_, fun h => ?_, fun h => ?_⟩ <;> first | exact absurd h (Bool.noConfusion ∘ Eq.trans (Eq.symm (rfl : qLJ 108 _ = true))) | omega)
  have hWM8 : qFm [108, 1020] M M8 := by rw [hM8]; exact hWM1.pa (by decide) (by decide)
  have e9 : M8 97 20 = M1 97 20 := by rw [hM8]; exact qput_ne (by decide)
  show zG n (0, 0) d 238 (32, [.inr (.inr (some 97)), .inl a1, .inl x6], []) M8 _
  refine zG_blk (c' := (42, [.inr (.inr (some 97)), .inl a1, .inl x6], [.inl a1, .inr (.inr (some 103)), .inl 1, .inr (.inr (some 108))])) 6 hd0 hz (by rfl) ?_
  refine zG_iald hd0 hz rfl rfl (.inl rfl) (by omega) ?_
  obtain ⟨x10, hx10⟩ : ∃ x : Int, x = M8 103 (a1 : Int).toNat := ⟨_, rfl⟩
  rw [← hx10]
  have hx10r : qin x10 := by rw [hx10]; exact hCM8.ra 103 _ (by decide) (by decide)
  show zG n (0, 0) d 238 (43, [.inr (.inr (some 97)), .inl a1, .inl x6], [.inl x10, .inl 1, .inr (.inr (some 108))]) M8 _
  refine zG_blk (c' := (44, [.inr (.inr (some 97)), .inl a1, .inl x6], [.inr (.inl (x10)), .inl 1, .inr (.inr (some 108))])) 1 hd0 hz (by rfl) ?_
  refine zG_last hd0 hz rfl rfl (by omega) ?_
  obtain ⟨M11, hM11⟩ : ∃ X : zM, X = zput M8 108 (1 : Int).toNat x10 := ⟨_, rfl⟩
  rw [← hM11]
  have hCM11 : qMI M11 := by rw [hM11]; exact hCM8.put (by decide) (qCd_a (by decide) (by decide)) (by refine ⟨fun h => ?_, fun _ => ?_, fun h => ?_, fun h => ?_, fun h => ?_⟩ <;> first | exact absurd h (Bool.noConfusion ∘ Eq.trans (Eq.symm (rfl : qLJ 108 _ = true))) | omega)
  have hWM11 : qFm [108, 1020] M M11 := by rw [hM11]; exact hWM8.pa (by decide) (by decide)
  have e12 : M11 97 20 = M8 97 20 := by rw [hM11]; exact qput_ne (by decide)
  show zG n (0, 0) d 238 (45, [.inr (.inr (some 97)), .inl a1, .inl x6], []) M11 _
  refine zG_blk (c' := (55, [.inr (.inr (some 97)), .inl a1, .inl x6], [.inl a1, .inr (.inr (some 104)), .inl 2, .inr (.inr (some 108))])) 6 hd0 hz (by rfl) ?_
  refine zG_iald hd0 hz rfl rfl (.inl rfl) (by omega) ?_
  obtain ⟨x13, hx13⟩ : ∃ x : Int, x = M11 104 (a1 : Int).toNat := ⟨_, rfl⟩
  rw [← hx13]
  have hx13r : qin x13 := by rw [hx13]; exact hCM11.ra 104 _ (by decide) (by decide)
  show zG n (0, 0) d 238 (56, [.inr (.inr (some 97)), .inl a1, .inl x6], [.inl x13, .inl 2, .inr (.inr (some 108))]) M11 _
  refine zG_blk (c' := (57, [.inr (.inr (some 97)), .inl a1, .inl x6], [.inr (.inl (x13)), .inl 2, .inr (.inr (some 108))])) 1 hd0 hz (by rfl) ?_
  refine zG_last hd0 hz rfl rfl (by omega) ?_
  obtain ⟨M14, hM14⟩ : ∃ X : zM, X = zput M11 108 (2 : Int).toNat x13 := ⟨_, rfl⟩
  rw [← hM14]
  have hCM14 : qMI M14 := by rw [hM14]; exact hCM11.put (by decide) (qCd_a (by decide) (by decide)) (by refine ⟨fun h => ?_, fun _ => ?_, fun h => ?_, fun h => ?_, fun h => ?_⟩ <;> first | exact absurd h (Bool.noConfusion ∘ Eq.trans (Eq.symm (rfl : qLJ 108 _ = true))) | omega)
  have hWM14 : qFm [108, 1020] M M14 := by rw [hM14]; exact hWM11.pa (by decide) (by decide)
  have e15 : M14 97 20 = M11 97 20 := by rw [hM14]; exact qput_ne (by decide)
  show zG n (0, 0) d 238 (58, [.inr (.inr (some 97)), .inl a1, .inl x6], []) M14 _
  have r16 := hCM14.rg 97 21 (by decide) (by decide)
  obtain ⟨x17, hx17⟩ : ∃ x : Int, x = zbxor (M14 97 21) (-1) := ⟨_, rfl⟩
  have hx17r : qin x17 := by rw [hx17]; exact qb32 _
  obtain ⟨x18, hx18⟩ : ∃ x : Int, x = zband x6 x17 := ⟨_, rfl⟩
  have hx18r : qin x18 := by rw [hx18]; exact qb32 _
  refine zG_blk (c' := (71, [.inr (.inr (some 97)), .inl a1, .inl x6], [.inl x18, .inl 3, .inr (.inr (some 108))])) 9 hd0 hz (by subst hx18; subst hx17; rfl) ?_
  have j79 : ∀ (v19 : Int) , zG n (0, 0) d 238 (79, [.inr (.inr (some 97)), .inl a1, .inl x6], [.inr (.inl (v19)), .inl 3, .inr (.inr (some 108))]) M14 (fun v M' => (qMI M' ∧ qFm [108, 1020] M M') ∧ v = none) := by
    intro v19
    refine zG_last hd0 hz rfl rfl (by omega) ?_
    obtain ⟨M20, hM20⟩ : ∃ X : zM, X = zput M14 108 (3 : Int).toNat v19 := ⟨_, rfl⟩
    rw [← hM20]
    have hCM20 : qMI M20 := by rw [hM20]; exact hCM14.put (by decide) (qCd_a (by decide) (by decide)) (by refine ⟨fun h => ?_, fun _ => ?_, fun h => ?_, fun h => ?_, fun h => ?_⟩ <;> first | exact absurd h (Bool.noConfusion ∘ Eq.trans (Eq.symm (rfl : qLJ 108 _ = true))) | omega)
    have hWM20 : qFm [108, 1020] M M20 := by rw [hM20]; exact hWM14.pa (by decide) (by decide)
    have e21 : M20 97 20 = M14 97 20 := by rw [hM20]; exact qput_ne (by decide)
    have e22 : M20 97 21 = M14 97 21 := by rw [hM20]; exact qput_ne (by decide)
    show zG n (0, 0) d 238 (80, [.inr (.inr (some 97)), .inl a1, .inl x6], []) M20 _
    refine zG_blk (c' := (87, [.inr (.inr (some 97)), .inl a1, .inl x6], [.inr (.inl (a1)), .inl 4, .inr (.inr (some 108))])) 5 hd0 hz (by rfl) ?_
    refine zG_last hd0 hz rfl rfl (by omega) ?_
    obtain ⟨M23, hM23⟩ : ∃ X : zM, X = zput M20 108 (4 : Int).toNat a1 := ⟨_, rfl⟩
    rw [← hM23]
    have hCM23 : qMI M23 := by rw [hM23]; exact hCM20.put (by decide) (qCd_a (by decide) (by decide)) (by refine ⟨fun h => ?_, fun _ => ?_, fun h => ?_, fun h => ?_, fun h => ?_⟩ <;> first | exact absurd h (Bool.noConfusion ∘ Eq.trans (Eq.symm (rfl : qLJ 108 _ = true))) | omega)
    have hWM23 : qFm [108, 1020] M M23 := by rw [hM23]; exact hWM20.pa (by decide) (by decide)
    have e24 : M23 97 20 = M20 97 20 := by rw [hM23]; exact qput_ne (by decide)
    have e25 : M23 97 21 = M20 97 21 := by rw [hM23]; exact qput_ne (by decide)
    show zG n (0, 0) d 238 (88, [.inr (.inr (some 97)), .inl a1, .inl x6], []) M23 _
    refine zG_blk (c' := (94, [.inr (.inr (some 97)), .inl a1, .inl x6], [.inr (.inl (0)), .inl 5, .inr (.inr (some 108))])) 4 hd0 hz (by rfl) ?_
    refine zG_last hd0 hz rfl rfl (by omega) ?_
    obtain ⟨M26, hM26⟩ : ∃ X : zM, X = zput M23 108 (5 : Int).toNat 0 := ⟨_, rfl⟩
    rw [← hM26]
    have hCM26 : qMI M26 := by rw [hM26]; exact hCM23.put (by decide) (qCd_a (by decide) (by decide)) (by refine ⟨fun h => ?_, fun _ => ?_, fun h => ?_, fun h => ?_, fun h => ?_⟩ <;> first | exact absurd h (Bool.noConfusion ∘ Eq.trans (Eq.symm (rfl : qLJ 108 _ = true))) | omega)
    have hWM26 : qFm [108, 1020] M M26 := by rw [hM26]; exact hWM23.pa (by decide) (by decide)
    have e27 : M26 97 20 = M23 97 20 := by rw [hM26]; exact qput_ne (by decide)
    have e28 : M26 97 21 = M23 97 21 := by rw [hM26]; exact qput_ne (by decide)
    show zG n (0, 0) d 238 (95, [.inr (.inr (some 97)), .inl a1, .inl x6], []) M26 _
    refine zG_blk (c' := (102, [.inr (.inr (some 97)), .inl a1, .inl x6], [.inr (.inl (0)), .inl 6, .inr (.inr (some 108))])) 4 hd0 hz (by rfl) ?_
    refine zG_last hd0 hz rfl rfl (by omega) ?_
    obtain ⟨M29, hM29⟩ : ∃ X : zM, X = zput M26 108 (6 : Int).toNat 0 := ⟨_, rfl⟩
    rw [← hM29]
    have hCM29 : qMI M29 := by rw [hM29]; exact hCM26.put (by decide) (qCd_a (by decide) (by decide)) (by refine ⟨fun h => ?_, fun _ => ?_, fun h => ?_, fun h => ?_, fun h => ?_⟩ <;> first | exact absurd h (Bool.noConfusion ∘ Eq.trans (Eq.symm (rfl : qLJ 108 _ = true))) | omega)
    have hWM29 : qFm [108, 1020] M M29 := by rw [hM29]; exact hWM26.pa (by decide) (by decide)
    have e30 : M29 97 20 = M26 97 20 := by rw [hM29]; exact qput_ne (by decide)
    have e31 : M29 97 21 = M26 97 21 := by rw [hM29]; exact qput_ne (by decide)
    show zG n (0, 0) d 238 (103, [.inr (.inr (some 97)), .inl a1, .inl x6], []) M29 _
    refine zG_blk (c' := (110, [.inr (.inr (some 97)), .inl a1, .inl x6], [.inr (.inl (0)), .inl 7, .inr (.inr (some 108))])) 4 hd0 hz (by rfl) ?_
    refine zG_last hd0 hz rfl rfl (by omega) ?_
    obtain ⟨M32, hM32⟩ : ∃ X : zM, X = zput M29 108 (7 : Int).toNat 0 := ⟨_, rfl⟩
    rw [← hM32]
    have hCM32 : qMI M32 := by rw [hM32]; exact hCM29.put (by decide) (qCd_a (by decide) (by decide)) (by refine ⟨fun h => ?_, fun _ => ?_, fun h => ?_, fun h => ?_, fun h => ?_⟩ <;> first | exact absurd h (Bool.noConfusion ∘ Eq.trans (Eq.symm (rfl : qLJ 108 _ = true))) | omega)
    have hWM32 : qFm [108, 1020] M M32 := by rw [hM32]; exact hWM29.pa (by decide) (by decide)
    have e33 : M32 97 20 = M29 97 20 := by rw [hM32]; exact qput_ne (by decide)
    have e34 : M32 97 21 = M29 97 21 := by rw [hM32]; exact qput_ne (by decide)
    show zG n (0, 0) d 238 (111, [.inr (.inr (some 97)), .inl a1, .inl x6], []) M32 _
    exact zG_ret hd0 hz rfl rfl ⟨⟨hCM32, hWM32⟩, rfl⟩
  refine zG_if_ne hd0 hz rfl (fun hb35 => ?_) (fun hb35 => ?_)
  · refine zG_blk (c' := (79, [.inr (.inr (some 97)), .inl a1, .inl x6], [.inr (.inl (0)), .inl 3, .inr (.inr (some 108))])) 1 hd0 hz (by rfl) ?_
    exact j79 0
  · refine zG_blk (c' := (79, [.inr (.inr (some 97)), .inl a1, .inl x6], [.inr (.inl (1)), .inl 3, .inr (.inr (some 108))])) 2 hd0 hz (by rfl) ?_
    exact j79 1
