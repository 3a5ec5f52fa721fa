/-! THE CLASS'S METHODS, EXACTLY, BY PROGRAM -/
theorem qf_170 {n d : Nat} {M : zM} (hd : 2 ≤ d) (hC : qCI M)  (a0 : Int) (ha0 : (-2147483648) ≤ a0 ∧ a0 ≤ 2147483647) : qOkP n d 170 [.inl a0] 1 M (fun v => ∃ x : Int, v = some (.inl x) ∧ (0 ≤ x ∧ x ≤ 1) ∧ (x = 1 ↔ 0 ≤ a0 ∧ a0 ≤ 9999)) := by
  have hz : zP 170 = (zk_X10_isDay, 1, (0, 0)) := rfl
  have hd0 : 0 < d := by omega
  show zG n (0, 0) d 170 (0, [.inl a0], []) M _
  refine zG_blk (c' := (5, [.inl a0], [.inl 9999, .inl 0, .inl a0])) 3 hd0 hz (by rfl) ?_
  refine zG_call hd0 hz (rfl : zP 169 = (zk_X10_within, 3, (0, 0))) rfl rfl (Nat.le_of_ble_eq_true rfl) ⟨Nat.le_refl _, Nat.le_refl _⟩ (qf_within (by omega) hC   a0 (by omega) 0 (by omega) 9999 (by omega) ) (fun vr M1 hr => ?_)
  obtain ⟨hq, x2, rfl, hx2⟩ := hr
  replace hq := hq.symm; subst hq
  show zG n (0, 0) d 170 (8, [.inl a0], [.inl x2]) M _
  exact zG_zret hd0 hz rfl (by omega) ⟨rfl, _, rfl, by omega, by omega⟩
theorem qf_171 {n d : Nat} {M : zM} (hd : 2 ≤ d) (hC : qCI M)  (a0 : Int) (ha0 : (-2147483648) ≤ a0 ∧ a0 ≤ 2147483647) : qOkP n d 171 [.inl a0] 1 M (fun v => ∃ x : Int, v = some (.inl x) ∧ (0 ≤ x ∧ x ≤ 1) ∧ (x = 1 ↔ 0 ≤ a0 ∧ a0 ≤ 100)) := by
  have hz : zP 171 = (zk_X10_isMark, 1, (0, 0)) := rfl
  have hd0 : 0 < d := by omega
  show zG n (0, 0) d 171 (0, [.inl a0], []) M _
  refine zG_blk (c' := (4, [.inl a0], [.inl 100, .inl 0, .inl a0])) 3 hd0 hz (by rfl) ?_
  refine zG_call hd0 hz (rfl : zP 169 = (zk_X10_within, 3, (0, 0))) rfl rfl (Nat.le_of_ble_eq_true rfl) ⟨Nat.le_refl _, Nat.le_refl _⟩ (qf_within (by omega) hC   a0 (by omega) 0 (by omega) 100 (by omega) ) (fun vr M1 hr => ?_)
  obtain ⟨hq, x2, rfl, hx2⟩ := hr
  replace hq := hq.symm; subst hq
  show zG n (0, 0) d 171 (7, [.inl a0], [.inl x2]) M _
  exact zG_zret hd0 hz rfl (by omega) ⟨rfl, _, rfl, by omega, by omega⟩
theorem qf_172 {n d : Nat} {M : zM} (hd : 2 ≤ d) (hC : qCI M)  (a0 : Int) (ha0 : (-2147483648) ≤ a0 ∧ a0 ≤ 2147483647) : qOkP n d 172 [.inl a0] 1 M (fun v => ∃ x : Int, v = some (.inl x) ∧ (0 ≤ x ∧ x ≤ 1) ∧ (x = 1 ↔ 0 ≤ a0 ∧ a0 ≤ 4)) := by
  have hz : zP 172 = (zk_X10_isExaminer, 1, (0, 0)) := rfl
  have hd0 : 0 < d := by omega
  show zG n (0, 0) d 172 (0, [.inl a0], []) M _
  refine zG_blk (c' := (3, [.inl a0], [.inl 4, .inl 0, .inl a0])) 3 hd0 hz (by rfl) ?_
  refine zG_call hd0 hz (rfl : zP 169 = (zk_X10_within, 3, (0, 0))) rfl rfl (Nat.le_of_ble_eq_true rfl) ⟨Nat.le_refl _, Nat.le_refl _⟩ (qf_within (by omega) hC   a0 (by omega) 0 (by omega) 4 (by omega) ) (fun vr M1 hr => ?_)
  obtain ⟨hq, x2, rfl, hx2⟩ := hr
  replace hq := hq.symm; subst hq
  show zG n (0, 0) d 172 (6, [.inl a0], [.inl x2]) M _
  exact zG_zret hd0 hz rfl (by omega) ⟨rfl, _, rfl, by omega, by omega⟩
theorem qf_173 {n d : Nat} {M : zM} (hd : 2 ≤ d) (hC : qCI M)  (a0 : Int) (ha0 : (-2147483648) ≤ a0 ∧ a0 ≤ 2147483647) : qOkP n d 173 [.inl a0] 1 M (fun v => ∃ x : Int, v = some (.inl x) ∧ (0 ≤ x ∧ x ≤ 1) ∧ (x = 1 ↔ 0 ≤ a0 ∧ a0 ≤ 7)) := by
  have hz : zP 173 = (zk_X10_isText, 1, (0, 0)) := rfl
  have hd0 : 0 < d := by omega
  show zG n (0, 0) d 173 (0, [.inl a0], []) M _
  refine zG_blk (c' := (4, [.inl a0], [.inl 7, .inl 0, .inl a0])) 3 hd0 hz (by rfl) ?_
  refine zG_call hd0 hz (rfl : zP 169 = (zk_X10_within, 3, (0, 0))) rfl rfl (Nat.le_of_ble_eq_true rfl) ⟨Nat.le_refl _, Nat.le_refl _⟩ (qf_within (by omega) hC   a0 (by omega) 0 (by omega) 7 (by omega) ) (fun vr M1 hr => ?_)
  obtain ⟨hq, x2, rfl, hx2⟩ := hr
  replace hq := hq.symm; subst hq
  show zG n (0, 0) d 173 (7, [.inl a0], [.inl x2]) M _
  exact zG_zret hd0 hz rfl (by omega) ⟨rfl, _, rfl, by omega, by omega⟩
theorem qf_174_8 {n d : Nat} {M : zM} (hd : 2 ≤ d) (hC : qCI M)  (a1 : Int) (ha1 : (-2147483648) ≤ a1 ∧ a1 ≤ 2147483647) : qOkP n d 174 [.inr (.inr (some 8)), .inl a1] 2 M (fun v => ∃ x : Int, v = some (.inl x) ∧ (0 ≤ x ∧ x ≤ 1) ∧ (x = 1 ↔ 0 ≤ a1 ∧ a1 < M 12 3)) := by
  have hz : zP 174 = (zk_X10_isStudent, 2, (0, 0)) := rfl
  have hd0 : 0 < d := by omega
  have r1 := hC.rows 12 20 3 (by decide)
  show zG n (0, 0) d 174 (0, [.inr (.inr (some 8)), .inl a1], []) M _
  refine zG_blk (c' := (8, [.inr (.inr (some 8)), .inl a1], [.inl a1, .inr (.inr (some 12))])) 4 hd0 hz (by rfl) ?_
  refine zG_call hd0 hz (rfl : zP 102 = (zk_X8_has, 2, (0, 0))) rfl rfl (Nat.le_of_ble_eq_true rfl) ⟨Nat.le_refl _, Nat.le_refl _⟩ (qw_has (by omega) hC  (⟨by decide, rfl, rfl⟩ : qT n 12 20 3) a1 (by omega) ) (fun vr M2 hr => ?_)
  obtain ⟨hq, x3, rfl, hx3⟩ := hr
  replace hq := hq.symm; subst hq
  show zG n (0, 0) d 174 (11, [.inr (.inr (some 8)), .inl a1], [.inl x3]) M _
  exact zG_zret hd0 hz rfl (by omega) ⟨rfl, _, rfl, by omega, by omega⟩
theorem qf_175_8 {n d : Nat} {M : zM} (hd : 2 ≤ d) (hC : qCI M)  (a1 : Int) (ha1 : (-2147483648) ≤ a1 ∧ a1 ≤ 2147483647) : qOkP n d 175 [.inr (.inr (some 8)), .inl a1] 2 M (fun v => ∃ x : Int, v = some (.inl x) ∧ (0 ≤ x ∧ x ≤ 1) ∧ (x = 1 ↔ 0 ≤ a1 ∧ a1 < M 10 3)) := by
  have hz : zP 175 = (zk_X10_isCourse, 2, (0, 0)) := rfl
  have hd0 : 0 < d := by omega
  have r1 := hC.rows 10 14 4 (by decide)
  show zG n (0, 0) d 175 (0, [.inr (.inr (some 8)), .inl a1], []) M _
  refine zG_blk (c' := (8, [.inr (.inr (some 8)), .inl a1], [.inl a1, .inr (.inr (some 10))])) 4 hd0 hz (by rfl) ?_
  refine zG_call hd0 hz (rfl : zP 102 = (zk_X8_has, 2, (0, 0))) rfl rfl (Nat.le_of_ble_eq_true rfl) ⟨Nat.le_refl _, Nat.le_refl _⟩ (qw_has (by omega) hC  (⟨by decide, rfl, rfl⟩ : qT n 10 14 4) a1 (by omega) ) (fun vr M2 hr => ?_)
  obtain ⟨hq, x3, rfl, hx3⟩ := hr
  replace hq := hq.symm; subst hq
  show zG n (0, 0) d 175 (11, [.inr (.inr (some 8)), .inl a1], [.inl x3]) M _
  exact zG_zret hd0 hz rfl (by omega) ⟨rfl, _, rfl, by omega, by omega⟩
theorem qf_177_8 {n d : Nat} {M : zM} (hd : 2 ≤ d) (hC : qCI M)   : qOkP n d 177 [.inr (.inr (some 8))] 1 M (fun v => ∃ x : Int, v = some (.inl x) ∧ (0 ≤ x ∧ x ≤ 16383) ∧ (x = zbshl 1 (M 10 3) - 1)) := by
  have hz : zP 177 = (zk_X10_allCourses, 1, (0, 0)) := rfl
  have hd0 : 0 < d := by omega
  have r1 := hC.rows 10 14 4 (by decide)
  show zG n (0, 0) d 177 (0, [.inr (.inr (some 8))], []) M _
  refine zG_blk (c' := (8, [.inr (.inr (some 8))], [.inr (.inr (some 10)), .inl 1])) 4 hd0 hz (by rfl) ?_
  refine zG_call hd0 hz (rfl : zP 101 = (zk_X8_size, 1, (0, 0))) rfl rfl (Nat.le_of_ble_eq_true rfl) ⟨Nat.le_refl _, Nat.le_refl _⟩ (qe_size (by omega) hC  (⟨by decide, rfl, rfl⟩ : qT n 10 14 4)  ) (fun vr M2 hr => ?_)
  obtain ⟨hq, x3, rfl, hx3⟩ := hr
  replace hq := hq.symm; subst hq
  show zG n (0, 0) d 177 (11, [.inr (.inr (some 8))], [.inl x3, .inl 1]) M _
  obtain ⟨x4, hx4⟩ : ∃ x : Int, x = zbshl 1 x3 := ⟨_, rfl⟩
  have hx4r := qshl1_in x3 16384 14 (by decide) (by decide) (by omega); rw [← hx4] at hx4r
  have hsh : x4 = zbshl 1 (M 10 3) := by rw [hx4, hx3.2]
  obtain ⟨x5, hx5⟩ : ∃ x : Int, x = w32 (x4 - 1) := ⟨_, rfl⟩
  have hx5e : x5 = x4 - 1 := by rw [hx5]; exact w32_id (by omega)
  refine zG_blk (c' := (14, [.inr (.inr (some 8))], [.inl x5])) 3 hd0 hz (by subst hx5; subst hx4; rfl) ?_
  exact zG_ret hd0 hz rfl rfl ⟨rfl, _, rfl, by omega, by omega⟩
theorem qf_178_8 {n d : Nat} {M : zM} (hd : 2 ≤ d) (hC : qCI M)  (a1 : Int) (ha1 : (-2147483648) ≤ a1 ∧ a1 ≤ 2147483647) (a2 : Int) (ha2 : (-2147483648) ≤ a2 ∧ a2 ≤ 2147483647) : qOkP n d 178 [.inr (.inr (some 8)), .inl a1, .inl a2] 3 M (fun v => ∃ x : Int, v = some (.inl x) ∧ (0 ≤ x ∧ x ≤ 1) ∧ (x = 1 ↔ (0 ≤ a1 ∧ a1 < M 16 3 ∧ M 17 (a1 * 5 + 1 : Int).toNat ≤ a2 ∧ a2 ≤ 9999))) := by
  have hz : zP 178 = (zk_X10_isKnownAfter, 3, (0, 0)) := rfl
  have hd0 : 0 < d := by omega
  have r1 := hC.rows 16 40 5 (by decide)
  show zG n (0, 0) d 178 (0, [.inr (.inr (some 8)), .inl a1, .inl a2], []) M _
  refine zG_blk (c' := (8, [.inr (.inr (some 8)), .inl a1, .inl a2], [.inl a1, .inr (.inr (some 16))])) 4 hd0 hz (by rfl) ?_
  refine zG_call hd0 hz (rfl : zP 102 = (zk_X8_has, 2, (0, 0))) rfl rfl (Nat.le_of_ble_eq_true rfl) ⟨Nat.le_refl _, Nat.le_refl _⟩ (qw_has (by omega) hC  (⟨by decide, rfl, rfl⟩ : qT n 16 40 5) a1 (by omega) ) (fun vr M2 hr => ?_)
  obtain ⟨hq, x3, rfl, hx3⟩ := hr
  replace hq := hq.symm; subst hq
  show zG n (0, 0) d 178 (11, [.inr (.inr (some 8)), .inl a1, .inl a2], [.inl x3]) M _
  have j41 : ∀ (v4 : Int) , 0 ≤ v4 ∧ v4 ≤ 1 → (v4 = 1 ↔ (0 ≤ a1 ∧ a1 < M 16 3 ∧ M 17 (a1 * 5 + 1 : Int).toNat ≤ a2 ∧ a2 ≤ 9999)) → zG n (0, 0) d 178 (41, [.inr (.inr (some 8)), .inl a1, .inl a2], [.inl v4]) M (fun v M' => M' = M ∧ ∃ x : Int, v = some (.inl x) ∧ (0 ≤ x ∧ x ≤ 1) ∧ (x = 1 ↔ (0 ≤ a1 ∧ a1 < M 16 3 ∧ M 17 (a1 * 5 + 1 : Int).toNat ≤ a2 ∧ a2 ≤ 9999))) := by
    intro v4 hv4 hx0_41
    exact zG_zret hd0 hz rfl (by omega) ⟨rfl, _, rfl, by omega, by omega⟩
  have j40 : (¬ (0 ≤ a1 ∧ a1 < M 16 3 ∧ M 17 (a1 * 5 + 1 : Int).toNat ≤ a2 ∧ a2 ≤ 9999)) → zG n (0, 0) d 178 (40, [.inr (.inr (some 8)), .inl a1, .inl a2], []) M (fun v M' => M' = M ∧ ∃ x : Int, v = some (.inl x) ∧ (0 ≤ x ∧ x ≤ 1) ∧ (x = 1 ↔ (0 ≤ a1 ∧ a1 < M 16 3 ∧ M 17 (a1 * 5 + 1 : Int).toNat ≤ a2 ∧ a2 ≤ 9999))) := by
    intro hx0_40
    refine zG_blk (c' := (41, [.inr (.inr (some 8)), .inl a1, .inl a2], [.inl 0])) 1 hd0 hz (by rfl) ?_
    exact j41 0 (by omega) (by omega)
  refine zG_if_eq hd0 hz rfl (fun hb5 => ?_) (fun hb5 => ?_)
  · exact j40 (by omega)
  · refine zG_blk (c' := (24, [.inr (.inr (some 8)), .inl a1, .inl a2], [.inl 1, .inl a1, .inr (.inr (some 16)), .inl a2])) 6 hd0 hz (by rfl) ?_
    refine zG_call hd0 hz (rfl : zP 106 = (zk_X8_get, 3, (0, 0))) rfl rfl (Nat.le_of_ble_eq_true rfl) ⟨Nat.le_refl _, Nat.le_refl _⟩ (qe_get (by omega) hC  (⟨by decide, rfl, rfl⟩ : qT n 16 40 5) a1 (by omega) 1 (by omega) ) (fun vr M6 hr => ?_)
    obtain ⟨hq, x7, rfl, hx7⟩ := hr
    replace hq := hq.symm; subst hq
    have hvx7 : 0 ≤ a1 ∧ a1 < 40 → x7 = M 17 (a1 * 5 + 1 : Int).toNat := fun h9 => hx7.2.1 ⟨h9, by omega⟩
    replace hx7 := hx7.1
    show zG n (0, 0) d 178 (27, [.inr (.inr (some 8)), .inl a1, .inl a2], [.inl x7, .inl a2]) M _
    refine zG_blk (c' := (30, [.inr (.inr (some 8)), .inl a1, .inl a2], [.inl 9999, .inl x7, .inl a2])) 1 hd0 hz (by rfl) ?_
    refine zG_call hd0 hz (rfl : zP 169 = (zk_X10_within, 3, (0, 0))) rfl rfl (Nat.le_of_ble_eq_true rfl) ⟨Nat.le_refl _, Nat.le_refl _⟩ (qf_within (by omega) hC   a2 (by omega) x7 (by omega) 9999 (by omega) ) (fun vr M8 hr => ?_)
    obtain ⟨hq, x9, rfl, hx9⟩ := hr
    replace hq := hq.symm; subst hq
    show zG n (0, 0) d 178 (33, [.inr (.inr (some 8)), .inl a1, .inl a2], [.inl x9]) M _
    refine zG_if_eq hd0 hz rfl (fun hb10 => ?_) (fun hb10 => ?_)
    · exact j40 (by omega)
    · refine zG_blk (c' := (41, [.inr (.inr (some 8)), .inl a1, .inl a2], [.inl 1])) 2 hd0 hz (by rfl) ?_
      exact j41 1 (by omega) (by omega)
theorem qf_123_8 {n d : Nat} {M : zM} (hd : 3 ≤ d) (hC : qCI M)  (a1 : Int) (ha1 : (-2147483648) ≤ a1 ∧ a1 ≤ 2147483647) (a2 : Int) (ha2 : (-2147483648) ≤ a2 ∧ a2 ≤ 2147483647) (a3 : Int) (ha3 : (-2147483648) ≤ a3 ∧ a3 ≤ 2147483647) (a4 : Int) (ha4 : (-2147483648) ≤ a4 ∧ a4 ≤ 2147483647) : qOkC n d 123 [.inr (.inr (some 8)), .inl a1, .inl a2, .inl a3, .inl a4] 6 [10, 11] M (fun v M' => ∃ x : Int, v = some (.inl x) ∧ ((-4) ≤ x ∧ x ≤ 13) ∧ ((x = -2 ∧ ¬ (1 ≤ a1 ∧ a1 ≤ 60 ∧ 0 ≤ a2 ∧ a2 ≤ zbshl 1 (M 10 3) - 1 ∧ 1 ≤ a3 ∧ a3 ≤ 7 ∧ 0 ≤ a4 ∧ a4 ≤ 100) ∧ M' 10 3 = M 10 3) ∨ (x = -4 ∧ (1 ≤ a1 ∧ a1 ≤ 60 ∧ 0 ≤ a2 ∧ a2 ≤ zbshl 1 (M 10 3) - 1 ∧ 1 ≤ a3 ∧ a3 ≤ 7 ∧ 0 ≤ a4 ∧ a4 ≤ 100) ∧ M 10 3 = 14 ∧ M' 10 3 = M 10 3) ∨ (x = M 10 3 ∧ (1 ≤ a1 ∧ a1 ≤ 60 ∧ 0 ≤ a2 ∧ a2 ≤ zbshl 1 (M 10 3) - 1 ∧ 1 ≤ a3 ∧ a3 ≤ 7 ∧ 0 ≤ a4 ∧ a4 ≤ 100) ∧ M 10 3 < 14 ∧ M' 10 3 = M 10 3 + 1 ∧ M' 11 (x * 4 + 0 : Int).toNat = a1 ∧ M' 11 (x * 4 + 1 : Int).toNat = a2 ∧ M' 11 (x * 4 + 2 : Int).toNat = a3 ∧ M' 11 (x * 4 + 3 : Int).toNat = a4)) ∧ (∀ j : Nat, ((j : Int) < 4 * M 10 3 ∨ 4 * M 10 3 + 4 ≤ j) → M' 11 j = M 11 j)) := by
  have hz : zP 123 = (zk_X10_course, 6, (0, 0)) := rfl
  have hd0 : 0 < d := by omega
  have hW : qFr [10, 11] M M := qFr.rfl
  have hX11_M : ∀ j : Nat, ((j : Int) < 4 * M 10 3 ∨ 4 * M 10 3 + 4 ≤ j) → M 11 j = M 11 j := fun _ _ => rfl
  have r1 := hC.rows 10 14 4 (by decide)
  show zG n (0, 0) d 123 (0, [.inr (.inr (some 8)), .inl a1, .inl a2, .inl a3, .inl a4, zN], []) M _
  refine zG_blk (c' := (4, [.inr (.inr (some 8)), .inl a1, .inl a2, .inl a3, .inl a4, zN], [.inl 60, .inl 1, .inl a1])) 3 hd0 hz (by rfl) ?_
  refine zG_call hd0 hz (rfl : zP 169 = (zk_X10_within, 3, (0, 0))) rfl rfl (Nat.le_of_ble_eq_true rfl) ⟨Nat.le_refl _, Nat.le_refl _⟩ (qf_within (by omega) hC   a1 (by omega) 1 (by omega) 60 (by omega) ) (fun vr M2 hr => ?_)
  obtain ⟨hq, x3, rfl, hx3⟩ := hr
  replace hq := hq.symm; subst hq
  show zG n (0, 0) d 123 (7, [.inr (.inr (some 8)), .inl a1, .inl a2, .inl a3, .inl a4, zN], [.inl x3]) M _
  have j22 : (¬ (1 ≤ a1 ∧ a1 ≤ 60 ∧ 0 ≤ a2 ∧ a2 ≤ zbshl 1 (M 10 3) - 1 ∧ 1 ≤ a3 ∧ a3 ≤ 7 ∧ 0 ≤ a4 ∧ a4 ≤ 100)) → zG n (0, 0) d 123 (22, [.inr (.inr (some 8)), .inl a1, .inl a2, .inl a3, .inl a4, zN], []) M (fun v M' => (qCI M' ∧ qFr [10, 11] M M') ∧ ∃ x : Int, v = some (.inl x) ∧ ((-4) ≤ x ∧ x ≤ 13) ∧ ((x = -2 ∧ ¬ (1 ≤ a1 ∧ a1 ≤ 60 ∧ 0 ≤ a2 ∧ a2 ≤ zbshl 1 (M 10 3) - 1 ∧ 1 ≤ a3 ∧ a3 ≤ 7 ∧ 0 ≤ a4 ∧ a4 ≤ 100) ∧ M' 10 3 = M 10 3) ∨ (x = -4 ∧ (1 ≤ a1 ∧ a1 ≤ 60 ∧ 0 ≤ a2 ∧ a2 ≤ zbshl 1 (M 10 3) - 1 ∧ 1 ≤ a3 ∧ a3 ≤ 7 ∧ 0 ≤ a4 ∧ a4 ≤ 100) ∧ M 10 3 = 14 ∧ M' 10 3 = M 10 3) ∨ (x = M 10 3 ∧ (1 ≤ a1 ∧ a1 ≤ 60 ∧ 0 ≤ a2 ∧ a2 ≤ zbshl 1 (M 10 3) - 1 ∧ 1 ≤ a3 ∧ a3 ≤ 7 ∧ 0 ≤ a4 ∧ a4 ≤ 100) ∧ M 10 3 < 14 ∧ M' 10 3 = M 10 3 + 1 ∧ M' 11 (x * 4 + 0 : Int).toNat = a1 ∧ M' 11 (x * 4 + 1 : Int).toNat = a2 ∧ M' 11 (x * 4 + 2 : Int).toNat = a3 ∧ M' 11 (x * 4 + 3 : Int).toNat = a4)) ∧ (∀ j : Nat, ((j : Int) < 4 * M 10 3 ∨ 4 * M 10 3 + 4 ≤ j) → M' 11 j = M 11 j)) := by
    intro hx0_22
    refine zG_blk (c' := (24, [.inr (.inr (some 8)), .inl a1, .inl a2, .inl a3, .inl a4, zN], [.inl (-2)])) 1 hd0 hz (by rfl) ?_
    exact zG_ret hd0 hz rfl rfl ⟨⟨hC, hW⟩, _, rfl, by omega, by omega, hX11_M⟩
  refine zG_if_eq hd0 hz rfl (fun hb4 => ?_) (fun hb4 => ?_)
  · exact j22 (by omega)
  · refine zG_blk (c' := (13, [.inr (.inr (some 8)), .inl a1, .inl a2, .inl a3, .inl a4, zN], [.inr (.inr (some 8)), .inl 0, .inl a2])) 3 hd0 hz (by rfl) ?_
    refine zG_call hd0 hz (rfl : zP 177 = (zk_X10_allCourses, 1, (0, 0))) rfl rfl (Nat.le_of_ble_eq_true rfl) ⟨Nat.le_refl _, Nat.le_refl _⟩ (qf_177_8 (by omega) hC    ) (fun vr M5 hr => ?_)
    obtain ⟨hq, x6, rfl, hx6, hpx6_0⟩ := hr
    replace hq := hq.symm; subst hq
    show zG n (0, 0) d 123 (16, [.inr (.inr (some 8)), .inl a1, .inl a2, .inl a3, .inl a4, zN], [.inl x6, .inl 0, .inl a2]) M _
    refine zG_call hd0 hz (rfl : zP 169 = (zk_X10_within, 3, (0, 0))) rfl rfl (Nat.le_of_ble_eq_true rfl) ⟨Nat.le_refl _, Nat.le_refl _⟩ (qf_within (by omega) hC   a2 (by omega) 0 (by omega) x6 (by omega) ) (fun vr M7 hr => ?_)
    obtain ⟨hq, x8, rfl, hx8⟩ := hr
    replace hq := hq.symm; subst hq
    show zG n (0, 0) d 123 (19, [.inr (.inr (some 8)), .inl a1, .inl a2, .inl a3, .inl a4, zN], [.inl x8]) M _
    refine zG_if_ne hd0 hz rfl (fun hb9 => ?_) (fun hb9 => ?_)
    · refine zG_blk (c' := (29, [.inr (.inr (some 8)), .inl a1, .inl a2, .inl a3, .inl a4, zN], [.inl 7, .inl 1, .inl a3])) 3 hd0 hz (by rfl) ?_
      refine zG_call hd0 hz (rfl : zP 169 = (zk_X10_within, 3, (0, 0))) rfl rfl (Nat.le_of_ble_eq_true rfl) ⟨Nat.le_refl _, Nat.le_refl _⟩ (qf_within (by omega) hC   a3 (by omega) 1 (by omega) 7 (by omega) ) (fun vr M10 hr => ?_)
      obtain ⟨hq, x11, rfl, hx11⟩ := hr
      replace hq := hq.symm; subst hq
      show zG n (0, 0) d 123 (32, [.inr (.inr (some 8)), .inl a1, .inl a2, .inl a3, .inl a4, zN], [.inl x11]) M _
      have j46 : (¬ (1 ≤ a1 ∧ a1 ≤ 60 ∧ 0 ≤ a2 ∧ a2 ≤ zbshl 1 (M 10 3) - 1 ∧ 1 ≤ a3 ∧ a3 ≤ 7 ∧ 0 ≤ a4 ∧ a4 ≤ 100)) → zG n (0, 0) d 123 (46, [.inr (.inr (some 8)), .inl a1, .inl a2, .inl a3, .inl a4, zN], []) M (fun v M' => (qCI M' ∧ qFr [10, 11] M M') ∧ ∃ x : Int, v = some (.inl x) ∧ ((-4) ≤ x ∧ x ≤ 13) ∧ ((x = -2 ∧ ¬ (1 ≤ a1 ∧ a1 ≤ 60 ∧ 0 ≤ a2 ∧ a2 ≤ zbshl 1 (M 10 3) - 1 ∧ 1 ≤ a3 ∧ a3 ≤ 7 ∧ 0 ≤ a4 ∧ a4 ≤ 100) ∧ M' 10 3 = M 10 3) ∨ (x = -4 ∧ (1 ≤ a1 ∧ a1 ≤ 60 ∧ 0 ≤ a2 ∧ a2 ≤ zbshl 1 (M 10 3) - 1 ∧ 1 ≤ a3 ∧ a3 ≤ 7 ∧ 0 ≤ a4 ∧ a4 ≤ 100) ∧ M 10 3 = 14 ∧ M' 10 3 = M 10 3) ∨ (x = M 10 3 ∧ (1 ≤ a1 ∧ a1 ≤ 60 ∧ 0 ≤ a2 ∧ a2 ≤ zbshl 1 (M 10 3) - 1 ∧ 1 ≤ a3 ∧ a3 ≤ 7 ∧ 0 ≤ a4 ∧ a4 ≤ 100) ∧ M 10 3 < 14 ∧ M' 10 3 = M 10 3 + 1 ∧ M' 11 (x * 4 + 0 : Int).toNat = a1 ∧ M' 11 (x * 4 + 1 : Int).toNat = a2 ∧ M' 11 (x * 4 + 2 : Int).toNat = a3 ∧ M' 11 (x * 4 + 3 : Int).toNat = a4)) ∧ (∀ j : Nat, ((j : Int) < 4 * M 10 3 ∨ 4 * M 10 3 + 4 ≤ j) → M' 11 j = M 11 j)) := by
        intro hx0_46
        refine zG_blk (c' := (48, [.inr (.inr (some 8)), .inl a1, .inl a2, .inl a3, .inl a4, zN], [.inl (-2)])) 1 hd0 hz (by rfl) ?_
        exact zG_ret hd0 hz rfl rfl ⟨⟨hC, hW⟩, _, rfl, by omega, by omega, hX11_M⟩
      refine zG_if_eq hd0 hz rfl (fun hb12 => ?_) (fun hb12 => ?_)
      · exact j46 (by omega)
      · refine zG_blk (c' := (40, [.inr (.inr (some 8)), .inl a1, .inl a2, .inl a3, .inl a4, zN], [.inl 100, .inl 0, .inl a4])) 3 hd0 hz (by rfl) ?_
        refine zG_call hd0 hz (rfl : zP 169 = (zk_X10_within, 3, (0, 0))) rfl rfl (Nat.le_of_ble_eq_true rfl) ⟨Nat.le_refl _, Nat.le_refl _⟩ (qf_within (by omega) hC   a4 (by omega) 0 (by omega) 100 (by omega) ) (fun vr M13 hr => ?_)
        obtain ⟨hq, x14, rfl, hx14⟩ := hr
        replace hq := hq.symm; subst hq
        show zG n (0, 0) d 123 (43, [.inr (.inr (some 8)), .inl a1, .inl a2, .inl a3, .inl a4, zN], [.inl x14]) M _
        refine zG_if_ne hd0 hz rfl (fun hb15 => ?_) (fun hb15 => ?_)
        · refine zG_blk (c' := (56, [.inr (.inr (some 8)), .inl a1, .inl a2, .inl a3, .inl a4, zN], [.inr (.inr (some 10))])) 3 hd0 hz (by rfl) ?_
          refine zG_call hd0 hz (rfl : zP 103 = (zk_X8_open, 1, (0, 0))) rfl rfl (Nat.le_of_ble_eq_true rfl) ⟨Nat.le_refl _, Nat.le_refl _⟩ (qe_open (by omega) hC  (⟨by decide, rfl, rfl⟩ : qT n 10 14 4)  ) (fun vr M16 hr => ?_)
          obtain ⟨⟨hCM16, hFM16⟩, x17, rfl, hx17⟩ := hr
          have hWM16 : qFr [10, 11] M M16 := hW.tr hFM16 (by decide)
          have hX11_M16 : ∀ j : Nat, ((j : Int) < 4 * M 10 3 ∨ 4 * M 10 3 + 4 ≤ j) → M16 11 j = M 11 j := fun j hj => (hFM16 11 j (by decide)).trans (hX11_M j hj)
          have r19 := hCM16.rows 10 14 4 (by decide)
          show zG n (0, 0) d 123 (59, [.inr (.inr (some 8)), .inl a1, .inl a2, .inl a3, .inl a4, zN], [.inl x17]) M16 _
          refine zG_blk (c' := (72, [.inr (.inr (some 8)), .inl a1, .inl a2, .inl a3, .inl a4, .inl x17], [.inl a1, .inl 0, .inl x17, .inr (.inr (some 10))])) 7 hd0 hz (by rfl) ?_
          refine zG_call hd0 hz (rfl : zP 107 = (zk_X8_set, 4, (0, 0))) rfl rfl (Nat.le_of_ble_eq_true rfl) ⟨Nat.le_refl _, Nat.le_refl _⟩ (qf_set (by omega) hCM16  (⟨by decide, rfl, rfl⟩ : qT n 10 14 4) x17 (by omega) 0 (by omega) a1 (by omega) ) (fun vr M20 hr => ?_)
          obtain ⟨⟨hCM20, hFM20⟩, rfl, hpx21_0, hpx21_1⟩ := hr
          have hWM20 : qFr [10, 11] M M20 := hWM16.tr hFM20 (by decide)
          have e22 : M20 10 3 = M16 10 3 := hFM20 10 3 (by decide)
          have hX11_M20 : ∀ j : Nat, ((j : Int) < 4 * M 10 3 ∨ 4 * M 10 3 + 4 ≤ j) → M20 11 j = M 11 j := fun j hj => (hpx21_1 j (by omega)).trans (hX11_M16 j hj)
          have hvx21 : 0 ≤ x17 ∧ x17 < 14 → M20 11 (x17 * 4 + 0 : Int).toNat = a1 := fun h9 => hpx21_0 ⟨h9, by omega⟩
          show zG n (0, 0) d 123 (75, [.inr (.inr (some 8)), .inl a1, .inl a2, .inl a3, .inl a4, .inl x17], []) M20 _
          refine zG_blk (c' := (86, [.inr (.inr (some 8)), .inl a1, .inl a2, .inl a3, .inl a4, .inl x17], [.inl a2, .inl 1, .inl x17, .inr (.inr (some 10))])) 6 hd0 hz (by rfl) ?_
          refine zG_call hd0 hz (rfl : zP 107 = (zk_X8_set, 4, (0, 0))) rfl rfl (Nat.le_of_ble_eq_true rfl) ⟨Nat.le_refl _, Nat.le_refl _⟩ (qf_set (by omega) hCM20  (⟨by decide, rfl, rfl⟩ : qT n 10 14 4) x17 (by omega) 1 (by omega) a2 (by omega) ) (fun vr M23 hr => ?_)
          obtain ⟨⟨hCM23, hFM23⟩, rfl, hpx24_0, hpx24_1⟩ := hr
          have hWM23 : qFr [10, 11] M M23 := hWM20.tr hFM23 (by decide)
          have e25 : M23 10 3 = M20 10 3 := hFM23 10 3 (by decide)
          have e26 : M23 11 (x17 * 4 + 0 : Int).toNat = M20 11 (x17 * 4 + 0 : Int).toNat := hpx24_1 _ (by omega)
          have hX11_M23 : ∀ j : Nat, ((j : Int) < 4 * M 10 3 ∨ 4 * M 10 3 + 4 ≤ j) → M23 11 j = M 11 j := fun j hj => (hpx24_1 j (by omega)).trans (hX11_M20 j hj)
          have hvx24 : 0 ≤ x17 ∧ x17 < 14 → M23 11 (x17 * 4 + 1 : Int).toNat = a2 := fun h9 => hpx24_0 ⟨h9, by omega⟩
          show zG n (0, 0) d 123 (89, [.inr (.inr (some 8)), .inl a1, .inl a2, .inl a3, .inl a4, .inl x17], []) M23 _
          refine zG_blk (c' := (100, [.inr (.inr (some 8)), .inl a1, .inl a2, .inl a3, .inl a4, .inl x17], [.inl a3, .inl 2, .inl x17, .inr (.inr (some 10))])) 6 hd0 hz (by rfl) ?_
          refine zG_call hd0 hz (rfl : zP 107 = (zk_X8_set, 4, (0, 0))) rfl rfl (Nat.le_of_ble_eq_true rfl) ⟨Nat.le_refl _, Nat.le_refl _⟩ (qf_set (by omega) hCM23  (⟨by decide, rfl, rfl⟩ : qT n 10 14 4) x17 (by omega) 2 (by omega) a3 (by omega) ) (fun vr M27 hr => ?_)
          obtain ⟨⟨hCM27, hFM27⟩, rfl, hpx28_0, hpx28_1⟩ := hr
          have hWM27 : qFr [10, 11] M M27 := hWM23.tr hFM27 (by decide)
          have e29 : M27 10 3 = M23 10 3 := hFM27 10 3 (by decide)
          have e30 : M27 11 (x17 * 4 + 0 : Int).toNat = M23 11 (x17 * 4 + 0 : Int).toNat := hpx28_1 _ (by omega)
          have e31 : M27 11 (x17 * 4 + 1 : Int).toNat = M23 11 (x17 * 4 + 1 : Int).toNat := hpx28_1 _ (by omega)
          have hX11_M27 : ∀ j : Nat, ((j : Int) < 4 * M 10 3 ∨ 4 * M 10 3 + 4 ≤ j) → M27 11 j = M 11 j := fun j hj => (hpx28_1 j (by omega)).trans (hX11_M23 j hj)
          have hvx28 : 0 ≤ x17 ∧ x17 < 14 → M27 11 (x17 * 4 + 2 : Int).toNat = a3 := fun h9 => hpx28_0 ⟨h9, by omega⟩
          show zG n (0, 0) d 123 (103, [.inr (.inr (some 8)), .inl a1, .inl a2, .inl a3, .inl a4, .inl x17], []) M27 _
          refine zG_blk (c' := (115, [.inr (.inr (some 8)), .inl a1, .inl a2, .inl a3, .inl a4, .inl x17], [.inl a4, .inl 3, .inl x17, .inr (.inr (some 10))])) 6 hd0 hz (by rfl) ?_
          refine zG_call hd0 hz (rfl : zP 107 = (zk_X8_set, 4, (0, 0))) rfl rfl (Nat.le_of_ble_eq_true rfl) ⟨Nat.le_refl _, Nat.le_refl _⟩ (qf_set (by omega) hCM27  (⟨by decide, rfl, rfl⟩ : qT n 10 14 4) x17 (by omega) 3 (by omega) a4 (by omega) ) (fun vr M32 hr => ?_)
          obtain ⟨⟨hCM32, hFM32⟩, rfl, hpx33_0, hpx33_1⟩ := hr
          have hWM32 : qFr [10, 11] M M32 := hWM27.tr hFM32 (by decide)
          have e34 : M32 10 3 = M27 10 3 := hFM32 10 3 (by decide)
          have e35 : M32 11 (x17 * 4 + 0 : Int).toNat = M27 11 (x17 * 4 + 0 : Int).toNat := hpx33_1 _ (by omega)
          have e36 : M32 11 (x17 * 4 + 1 : Int).toNat = M27 11 (x17 * 4 + 1 : Int).toNat := hpx33_1 _ (by omega)
          have e37 : M32 11 (x17 * 4 + 2 : Int).toNat = M27 11 (x17 * 4 + 2 : Int).toNat := hpx33_1 _ (by omega)
          have hX11_M32 : ∀ j : Nat, ((j : Int) < 4 * M 10 3 ∨ 4 * M 10 3 + 4 ≤ j) → M32 11 j = M 11 j := fun j hj => (hpx33_1 j (by omega)).trans (hX11_M27 j hj)
          have hvx33 : 0 ≤ x17 ∧ x17 < 14 → M32 11 (x17 * 4 + 3 : Int).toNat = a4 := fun h9 => hpx33_0 ⟨h9, by omega⟩
          show zG n (0, 0) d 123 (118, [.inr (.inr (some 8)), .inl a1, .inl a2, .inl a3, .inl a4, .inl x17], []) M32 _
          refine zG_blk (c' := (120, [.inr (.inr (some 8)), .inl a1, .inl a2, .inl a3, .inl a4, .inl x17], [.inl x17])) 1 hd0 hz (by rfl) ?_
          exact zG_ret hd0 hz rfl rfl ⟨⟨hCM32, hWM32⟩, _, rfl, by omega, by omega, hX11_M32⟩
        · exact j46 (by omega)
    · exact j22 (by omega)
theorem qf_124_8 {n d : Nat} {M : zM} (hd : 3 ≤ d) (hC : qCI M)  (a1 : Int) (ha1 : (-2147483648) ≤ a1 ∧ a1 ≤ 2147483647) : qOkC n d 124 [.inr (.inr (some 8)), .inl a1] 3 [12, 13] M (fun v M' => ∃ x : Int, v = some (.inl x) ∧ ((-4) ≤ x ∧ x ≤ 19) ∧ ((x = -2 ∧ ¬ (0 ≤ a1 ∧ a1 ≤ 9999) ∧ M' 12 3 = M 12 3) ∨ (x = -4 ∧ (0 ≤ a1 ∧ a1 ≤ 9999) ∧ M 12 3 = 20 ∧ M' 12 3 = M 12 3) ∨ (x = M 12 3 ∧ (0 ≤ a1 ∧ a1 ≤ 9999) ∧ M 12 3 < 20 ∧ M' 12 3 = M 12 3 + 1 ∧ M' 13 (x * 3 + 0 : Int).toNat = a1 ∧ M' 13 (x * 3 + 1 : Int).toNat = -1 ∧ M' 13 (x * 3 + 2 : Int).toNat = 0)) ∧ (∀ j : Nat, ((j : Int) < 3 * M 12 3 ∨ 3 * M 12 3 + 3 ≤ j) → M' 13 j = M 13 j)) := by
  have hz : zP 124 = (zk_X10_student, 3, (0, 0)) := rfl
  have hd0 : 0 < d := by omega
  have hW : qFr [12, 13] M M := qFr.rfl
  have hX13_M : ∀ j : Nat, ((j : Int) < 3 * M 12 3 ∨ 3 * M 12 3 + 3 ≤ j) → M 13 j = M 13 j := fun _ _ => rfl
  have r1 := hC.rows 12 20 3 (by decide)
  show zG n (0, 0) d 124 (0, [.inr (.inr (some 8)), .inl a1, zN], []) M _
  refine zG_blk (c' := (1, [.inr (.inr (some 8)), .inl a1, zN], [.inl a1])) 1 hd0 hz (by rfl) ?_
  refine zG_call hd0 hz (rfl : zP 170 = (zk_X10_isDay, 1, (0, 0))) rfl rfl (Nat.le_of_ble_eq_true rfl) ⟨Nat.le_refl _, Nat.le_refl _⟩ (qf_170 (by omega) hC   a1 (by omega) ) (fun vr M2 hr => ?_)
  obtain ⟨hq, x3, rfl, hx3, hpx3_0⟩ := hr
  replace hq := hq.symm; subst hq
  show zG n (0, 0) d 124 (4, [.inr (.inr (some 8)), .inl a1, zN], [.inl x3]) M _
  refine zG_if_ne hd0 hz rfl (fun hb4 => ?_) (fun hb4 => ?_)
  · refine zG_blk (c' := (17, [.inr (.inr (some 8)), .inl a1, zN], [.inr (.inr (some 12))])) 3 hd0 hz (by rfl) ?_
    refine zG_call hd0 hz (rfl : zP 103 = (zk_X8_open, 1, (0, 0))) rfl rfl (Nat.le_of_ble_eq_true rfl) ⟨Nat.le_refl _, Nat.le_refl _⟩ (qe_open (by omega) hC  (⟨by decide, rfl, rfl⟩ : qT n 12 20 3)  ) (fun vr M5 hr => ?_)
    obtain ⟨⟨hCM5, hFM5⟩, x6, rfl, hx6⟩ := hr
    have hWM5 : qFr [12, 13] M M5 := hW.tr hFM5 (by decide)
    have hX13_M5 : ∀ j : Nat, ((j : Int) < 3 * M 12 3 ∨ 3 * M 12 3 + 3 ≤ j) → M5 13 j = M 13 j := fun j hj => (hFM5 13 j (by decide)).trans (hX13_M j hj)
    have r8 := hCM5.rows 12 20 3 (by decide)
    show zG n (0, 0) d 124 (20, [.inr (.inr (some 8)), .inl a1, zN], [.inl x6]) M5 _
    refine zG_blk (c' := (31, [.inr (.inr (some 8)), .inl a1, .inl x6], [.inl a1, .inl 0, .inl x6, .inr (.inr (some 12))])) 7 hd0 hz (by rfl) ?_
    refine zG_call hd0 hz (rfl : zP 107 = (zk_X8_set, 4, (0, 0))) rfl rfl (Nat.le_of_ble_eq_true rfl) ⟨Nat.le_refl _, Nat.le_refl _⟩ (qf_set (by omega) hCM5  (⟨by decide, rfl, rfl⟩ : qT n 12 20 3) x6 (by omega) 0 (by omega) a1 (by omega) ) (fun vr M9 hr => ?_)
    obtain ⟨⟨hCM9, hFM9⟩, rfl, hpx10_0, hpx10_1⟩ := hr
    have hWM9 : qFr [12, 13] M M9 := hWM5.tr hFM9 (by decide)
    have e11 : M9 12 3 = M5 12 3 := hFM9 12 3 (by decide)
    have hX13_M9 : ∀ j : Nat, ((j : Int) < 3 * M 12 3 ∨ 3 * M 12 3 + 3 ≤ j) → M9 13 j = M 13 j := fun j hj => (hpx10_1 j (by omega)).trans (hX13_M5 j hj)
    have hvx10 : 0 ≤ x6 ∧ x6 < 20 → M9 13 (x6 * 3 + 0 : Int).toNat = a1 := fun h9 => hpx10_0 ⟨h9, by omega⟩
    show zG n (0, 0) d 124 (34, [.inr (.inr (some 8)), .inl a1, .inl x6], []) M9 _
    refine zG_blk (c' := (44, [.inr (.inr (some 8)), .inl a1, .inl x6], [.inl (-1), .inl 1, .inl x6, .inr (.inr (some 12))])) 6 hd0 hz (by rfl) ?_
    refine zG_call hd0 hz (rfl : zP 107 = (zk_X8_set, 4, (0, 0))) rfl rfl (Nat.le_of_ble_eq_true rfl) ⟨Nat.le_refl _, Nat.le_refl _⟩ (qf_set (by omega) hCM9  (⟨by decide, rfl, rfl⟩ : qT n 12 20 3) x6 (by omega) 1 (by omega) (-1) (by omega) ) (fun vr M12 hr => ?_)
    obtain ⟨⟨hCM12, hFM12⟩, rfl, hpx13_0, hpx13_1⟩ := hr
    have hWM12 : qFr [12, 13] M M12 := hWM9.tr hFM12 (by decide)
    have e14 : M12 12 3 = M9 12 3 := hFM12 12 3 (by decide)
    have e15 : M12 13 (x6 * 3 + 0 : Int).toNat = M9 13 (x6 * 3 + 0 : Int).toNat := hpx13_1 _ (by omega)
    have hX13_M12 : ∀ j : Nat, ((j : Int) < 3 * M 12 3 ∨ 3 * M 12 3 + 3 ≤ j) → M12 13 j = M 13 j := fun j hj => (hpx13_1 j (by omega)).trans (hX13_M9 j hj)
    have hvx13 : 0 ≤ x6 ∧ x6 < 20 → M12 13 (x6 * 3 + 1 : Int).toNat = (-1) := fun h9 => hpx13_0 ⟨h9, by omega⟩
    show zG n (0, 0) d 124 (47, [.inr (.inr (some 8)), .inl a1, .inl x6], []) M12 _
    refine zG_blk (c' := (57, [.inr (.inr (some 8)), .inl a1, .inl x6], [.inl 0, .inl 2, .inl x6, .inr (.inr (some 12))])) 6 hd0 hz (by rfl) ?_
    refine zG_call hd0 hz (rfl : zP 107 = (zk_X8_set, 4, (0, 0))) rfl rfl (Nat.le_of_ble_eq_true rfl) ⟨Nat.le_refl _, Nat.le_refl _⟩ (qf_set (by omega) hCM12  (⟨by decide, rfl, rfl⟩ : qT n 12 20 3) x6 (by omega) 2 (by omega) 0 (by omega) ) (fun vr M16 hr => ?_)
    obtain ⟨⟨hCM16, hFM16⟩, rfl, hpx17_0, hpx17_1⟩ := hr
    have hWM16 : qFr [12, 13] M M16 := hWM12.tr hFM16 (by decide)
    have e18 : M16 12 3 = M12 12 3 := hFM16 12 3 (by decide)
    have e19 : M16 13 (x6 * 3 + 0 : Int).toNat = M12 13 (x6 * 3 + 0 : Int).toNat := hpx17_1 _ (by omega)
    have e20 : M16 13 (x6 * 3 + 1 : Int).toNat = M12 13 (x6 * 3 + 1 : Int).toNat := hpx17_1 _ (by omega)
    have hX13_M16 : ∀ j : Nat, ((j : Int) < 3 * M 12 3 ∨ 3 * M 12 3 + 3 ≤ j) → M16 13 j = M 13 j := fun j hj => (hpx17_1 j (by omega)).trans (hX13_M12 j hj)
    have hvx17 : 0 ≤ x6 ∧ x6 < 20 → M16 13 (x6 * 3 + 2 : Int).toNat = 0 := fun h9 => hpx17_0 ⟨h9, by omega⟩
    show zG n (0, 0) d 124 (60, [.inr (.inr (some 8)), .inl a1, .inl x6], []) M16 _
    refine zG_blk (c' := (61, [.inr (.inr (some 8)), .inl a1, .inl x6], [.inl x6])) 1 hd0 hz (by rfl) ?_
    exact zG_ret hd0 hz rfl rfl ⟨⟨hCM16, hWM16⟩, _, rfl, by omega, by omega, hX13_M16⟩
  · refine zG_blk (c' := (9, [.inr (.inr (some 8)), .inl a1, zN], [.inl (-2)])) 1 hd0 hz (by rfl) ?_
    exact zG_ret hd0 hz rfl rfl ⟨⟨hC, hW⟩, _, rfl, by omega, by omega, hX13_M⟩
theorem qf_125_8 {n d : Nat} {M : zM} (hd : 2 ≤ d) (hC : qCI M)  (a1 : Int) (ha1 : (-2147483648) ≤ a1 ∧ a1 ≤ 2147483647) (a2 : Int) (ha2 : (-2147483648) ≤ a2 ∧ a2 ≤ 2147483647) : qOkC n d 125 [.inr (.inr (some 8)), .inl a1, .inl a2] 4 [14, 15] M (fun v M' => ∃ x : Int, v = some (.inl x) ∧ ((-4) ≤ x ∧ x ≤ 3) ∧ ((x = -2 ∧ ¬ (1 ≤ a1 ∧ a1 ≤ 1023 ∧ 1 ≤ a2 ∧ a2 ≤ 10) ∧ M' 14 3 = M 14 3) ∨ (x = -4 ∧ (1 ≤ a1 ∧ a1 ≤ 1023 ∧ 1 ≤ a2 ∧ a2 ≤ 10) ∧ M 14 3 = 4 ∧ M' 14 3 = M 14 3) ∨ (x = M 14 3 ∧ (1 ≤ a1 ∧ a1 ≤ 1023 ∧ 1 ≤ a2 ∧ a2 ≤ 10) ∧ M 14 3 < 4 ∧ M' 14 3 = M 14 3 + 1 ∧ M' 15 (x * 2 + 0 : Int).toNat = a1 ∧ M' 15 (x * 2 + 1 : Int).toNat = a2)) ∧ (∀ j : Nat, ((j : Int) < 2 * M 14 3 ∨ 2 * M 14 3 + 2 ≤ j) → M' 15 j = M 15 j)) := by
  have hz : zP 125 = (zk_X10_board, 4, (0, 0)) := rfl
  have hd0 : 0 < d := by omega
  have hW : qFr [14, 15] M M := qFr.rfl
  have hX15_M : ∀ j : Nat, ((j : Int) < 2 * M 14 3 ∨ 2 * M 14 3 + 2 ≤ j) → M 15 j = M 15 j := fun _ _ => rfl
  have r1 := hC.rows 14 4 2 (by decide)
  show zG n (0, 0) d 125 (0, [.inr (.inr (some 8)), .inl a1, .inl a2, zN], []) M _
  refine zG_blk (c' := (5, [.inr (.inr (some 8)), .inl a1, .inl a2, zN], [.inl 1023, .inl 1, .inl a1])) 3 hd0 hz (by rfl) ?_
  refine zG_call hd0 hz (rfl : zP 169 = (zk_X10_within, 3, (0, 0))) rfl rfl (Nat.le_of_ble_eq_true rfl) ⟨Nat.le_refl _, Nat.le_refl _⟩ (qf_within (by omega) hC   a1 (by omega) 1 (by omega) 1023 (by omega) ) (fun vr M2 hr => ?_)
  obtain ⟨hq, x3, rfl, hx3⟩ := hr
  replace hq := hq.symm; subst hq
  show zG n (0, 0) d 125 (8, [.inr (.inr (some 8)), .inl a1, .inl a2, zN], [.inl x3]) M _
  have j21 : (¬ (1 ≤ a1 ∧ a1 ≤ 1023 ∧ 1 ≤ a2 ∧ a2 ≤ 10)) → zG n (0, 0) d 125 (21, [.inr (.inr (some 8)), .inl a1, .inl a2, zN], []) M (fun v M' => (qCI M' ∧ qFr [14, 15] M M') ∧ ∃ x : Int, v = some (.inl x) ∧ ((-4) ≤ x ∧ x ≤ 3) ∧ ((x = -2 ∧ ¬ (1 ≤ a1 ∧ a1 ≤ 1023 ∧ 1 ≤ a2 ∧ a2 ≤ 10) ∧ M' 14 3 = M 14 3) ∨ (x = -4 ∧ (1 ≤ a1 ∧ a1 ≤ 1023 ∧ 1 ≤ a2 ∧ a2 ≤ 10) ∧ M 14 3 = 4 ∧ M' 14 3 = M 14 3) ∨ (x = M 14 3 ∧ (1 ≤ a1 ∧ a1 ≤ 1023 ∧ 1 ≤ a2 ∧ a2 ≤ 10) ∧ M 14 3 < 4 ∧ M' 14 3 = M 14 3 + 1 ∧ M' 15 (x * 2 + 0 : Int).toNat = a1 ∧ M' 15 (x * 2 + 1 : Int).toNat = a2)) ∧ (∀ j : Nat, ((j : Int) < 2 * M 14 3 ∨ 2 * M 14 3 + 2 ≤ j) → M' 15 j = M 15 j)) := by
    intro hx0_21
    refine zG_blk (c' := (23, [.inr (.inr (some 8)), .inl a1, .inl a2, zN], [.inl (-2)])) 1 hd0 hz (by rfl) ?_
    exact zG_ret hd0 hz rfl rfl ⟨⟨hC, hW⟩, _, rfl, by omega, by omega, hX15_M⟩
  refine zG_if_eq hd0 hz rfl (fun hb4 => ?_) (fun hb4 => ?_)
  · exact j21 (by omega)
  · refine zG_blk (c' := (15, [.inr (.inr (some 8)), .inl a1, .inl a2, zN], [.inl 10, .inl 1, .inl a2])) 3 hd0 hz (by rfl) ?_
    refine zG_call hd0 hz (rfl : zP 169 = (zk_X10_within, 3, (0, 0))) rfl rfl (Nat.le_of_ble_eq_true rfl) ⟨Nat.le_refl _, Nat.le_refl _⟩ (qf_within (by omega) hC   a2 (by omega) 1 (by omega) 10 (by omega) ) (fun vr M5 hr => ?_)
    obtain ⟨hq, x6, rfl, hx6⟩ := hr
    replace hq := hq.symm; subst hq
    show zG n (0, 0) d 125 (18, [.inr (.inr (some 8)), .inl a1, .inl a2, zN], [.inl x6]) M _
    refine zG_if_ne hd0 hz rfl (fun hb7 => ?_) (fun hb7 => ?_)
    · refine zG_blk (c' := (31, [.inr (.inr (some 8)), .inl a1, .inl a2, zN], [.inr (.inr (some 14))])) 3 hd0 hz (by rfl) ?_
      refine zG_call hd0 hz (rfl : zP 103 = (zk_X8_open, 1, (0, 0))) rfl rfl (Nat.le_of_ble_eq_true rfl) ⟨Nat.le_refl _, Nat.le_refl _⟩ (qe_open (by omega) hC  (⟨by decide, rfl, rfl⟩ : qT n 14 4 2)  ) (fun vr M8 hr => ?_)
      obtain ⟨⟨hCM8, hFM8⟩, x9, rfl, hx9⟩ := hr
      have hWM8 : qFr [14, 15] M M8 := hW.tr hFM8 (by decide)
      have hX15_M8 : ∀ j : Nat, ((j : Int) < 2 * M 14 3 ∨ 2 * M 14 3 + 2 ≤ j) → M8 15 j = M 15 j := fun j hj => (hFM8 15 j (by decide)).trans (hX15_M j hj)
      have r11 := hCM8.rows 14 4 2 (by decide)
      show zG n (0, 0) d 125 (34, [.inr (.inr (some 8)), .inl a1, .inl a2, zN], [.inl x9]) M8 _
      refine zG_blk (c' := (45, [.inr (.inr (some 8)), .inl a1, .inl a2, .inl x9], [.inl a1, .inl 0, .inl x9, .inr (.inr (some 14))])) 7 hd0 hz (by rfl) ?_
      refine zG_call hd0 hz (rfl : zP 107 = (zk_X8_set, 4, (0, 0))) rfl rfl (Nat.le_of_ble_eq_true rfl) ⟨Nat.le_refl _, Nat.le_refl _⟩ (qf_set (by omega) hCM8  (⟨by decide, rfl, rfl⟩ : qT n 14 4 2) x9 (by omega) 0 (by omega) a1 (by omega) ) (fun vr M12 hr => ?_)
      obtain ⟨⟨hCM12, hFM12⟩, rfl, hpx13_0, hpx13_1⟩ := hr
      have hWM12 : qFr [14, 15] M M12 := hWM8.tr hFM12 (by decide)
      have e14 : M12 14 3 = M8 14 3 := hFM12 14 3 (by decide)
      have hX15_M12 : ∀ j : Nat, ((j : Int) < 2 * M 14 3 ∨ 2 * M 14 3 + 2 ≤ j) → M12 15 j = M 15 j := fun j hj => (hpx13_1 j (by omega)).trans (hX15_M8 j hj)
      have hvx13 : 0 ≤ x9 ∧ x9 < 4 → M12 15 (x9 * 2 + 0 : Int).toNat = a1 := fun h9 => hpx13_0 ⟨h9, by omega⟩
      show zG n (0, 0) d 125 (48, [.inr (.inr (some 8)), .inl a1, .inl a2, .inl x9], []) M12 _
      refine zG_blk (c' := (58, [.inr (.inr (some 8)), .inl a1, .inl a2, .inl x9], [.inl a2, .inl 1, .inl x9, .inr (.inr (some 14))])) 6 hd0 hz (by rfl) ?_
      refine zG_call hd0 hz (rfl : zP 107 = (zk_X8_set, 4, (0, 0))) rfl rfl (Nat.le_of_ble_eq_true rfl) ⟨Nat.le_refl _, Nat.le_refl _⟩ (qf_set (by omega) hCM12  (⟨by decide, rfl, rfl⟩ : qT n 14 4 2) x9 (by omega) 1 (by omega) a2 (by omega) ) (fun vr M15 hr => ?_)
      obtain ⟨⟨hCM15, hFM15⟩, rfl, hpx16_0, hpx16_1⟩ := hr
      have hWM15 : qFr [14, 15] M M15 := hWM12.tr hFM15 (by decide)
      have e17 : M15 14 3 = M12 14 3 := hFM15 14 3 (by decide)
      have e18 : M15 15 (x9 * 2 + 0 : Int).toNat = M12 15 (x9 * 2 + 0 : Int).toNat := hpx16_1 _ (by omega)
      have hX15_M15 : ∀ j : Nat, ((j : Int) < 2 * M 14 3 ∨ 2 * M 14 3 + 2 ≤ j) → M15 15 j = M 15 j := fun j hj => (hpx16_1 j (by omega)).trans (hX15_M12 j hj)
      have hvx16 : 0 ≤ x9 ∧ x9 < 4 → M15 15 (x9 * 2 + 1 : Int).toNat = a2 := fun h9 => hpx16_0 ⟨h9, by omega⟩
      show zG n (0, 0) d 125 (61, [.inr (.inr (some 8)), .inl a1, .inl a2, .inl x9], []) M15 _
      refine zG_blk (c' := (62, [.inr (.inr (some 8)), .inl a1, .inl a2, .inl x9], [.inl x9])) 1 hd0 hz (by rfl) ?_
      exact zG_ret hd0 hz rfl rfl ⟨⟨hCM15, hWM15⟩, _, rfl, by omega, by omega, hX15_M15⟩
    · exact j21 (by omega)
theorem qf_126_8 {n d : Nat} {M : zM} (hd : 3 ≤ d) (hC : qCI M)  (a1 : Int) (ha1 : (-2147483648) ≤ a1 ∧ a1 ≤ 2147483647) (a2 : Int) (ha2 : (-2147483648) ≤ a2 ∧ a2 ≤ 2147483647) (a3 : Int) (ha3 : (-2147483648) ≤ a3 ∧ a3 ≤ 2147483647) (a4 : Int) (ha4 : (-2147483648) ≤ a4 ∧ a4 ≤ 2147483647) : qOkC n d 126 [.inr (.inr (some 8)), .inl a1, .inl a2, .inl a3, .inl a4] 6 [16, 17] M (fun v M' => ∃ x : Int, v = some (.inl x) ∧ ((-4) ≤ x ∧ x ≤ 39) ∧ ((x = -2 ∧ ¬ (0 ≤ a1 ∧ a1 < M 14 3 ∧ 0 ≤ a2 ∧ a2 ≤ 9999 ∧ 0 ≤ a3 ∧ a3 ≤ 1023 ∧ 0 ≤ a4 ∧ a4 ≤ 1023) ∧ M' 16 3 = M 16 3) ∨ (x = -4 ∧ (0 ≤ a1 ∧ a1 < M 14 3 ∧ 0 ≤ a2 ∧ a2 ≤ 9999 ∧ 0 ≤ a3 ∧ a3 ≤ 1023 ∧ 0 ≤ a4 ∧ a4 ≤ 1023) ∧ M 16 3 = 40 ∧ M' 16 3 = M 16 3) ∨ (x = M 16 3 ∧ (0 ≤ a1 ∧ a1 < M 14 3 ∧ 0 ≤ a2 ∧ a2 ≤ 9999 ∧ 0 ≤ a3 ∧ a3 ≤ 1023 ∧ 0 ≤ a4 ∧ a4 ≤ 1023) ∧ M 16 3 < 40 ∧ M' 16 3 = M 16 3 + 1 ∧ M' 17 (x * 5 + 0 : Int).toNat = a1 ∧ M' 17 (x * 5 + 1 : Int).toNat = a2 ∧ M' 17 (x * 5 + 2 : Int).toNat = a3 ∧ M' 17 (x * 5 + 3 : Int).toNat = a4 ∧ M' 17 (x * 5 + 4 : Int).toNat = 0)) ∧ (∀ j : Nat, ((j : Int) < 5 * M 16 3 ∨ 5 * M 16 3 + 5 ≤ j) → M' 17 j = M 17 j)) := by
  have hz : zP 126 = (zk_X10_meeting, 6, (0, 0)) := rfl
  have hd0 : 0 < d := by omega
  have hW : qFr [16, 17] M M := qFr.rfl
  have hX17_M : ∀ j : Nat, ((j : Int) < 5 * M 16 3 ∨ 5 * M 16 3 + 5 ≤ j) → M 17 j = M 17 j := fun _ _ => rfl
  have r1 := hC.rows 16 40 5 (by decide)
  have r2 := hC.rows 14 4 2 (by decide)
  show zG n (0, 0) d 126 (0, [.inr (.inr (some 8)), .inl a1, .inl a2, .inl a3, .inl a4, zN], []) M _
  refine zG_blk (c' := (8, [.inr (.inr (some 8)), .inl a1, .inl a2, .inl a3, .inl a4, zN], [.inl a1, .inr (.inr (some 14))])) 4 hd0 hz (by rfl) ?_
  refine zG_call hd0 hz (rfl : zP 102 = (zk_X8_has, 2, (0, 0))) rfl rfl (Nat.le_of_ble_eq_true rfl) ⟨Nat.le_refl _, Nat.le_refl _⟩ (qw_has (by omega) hC  (⟨by decide, rfl, rfl⟩ : qT n 14 4 2) a1 (by omega) ) (fun vr M3 hr => ?_)
  obtain ⟨hq, x4, rfl, hx4⟩ := hr
  replace hq := hq.symm; subst hq
  show zG n (0, 0) d 126 (11, [.inr (.inr (some 8)), .inl a1, .inl a2, .inl a3, .inl a4, zN], [.inl x4]) M _
  have j21 : (¬ (0 ≤ a1 ∧ a1 < M 14 3 ∧ 0 ≤ a2 ∧ a2 ≤ 9999 ∧ 0 ≤ a3 ∧ a3 ≤ 1023 ∧ 0 ≤ a4 ∧ a4 ≤ 1023)) → zG n (0, 0) d 126 (21, [.inr (.inr (some 8)), .inl a1, .inl a2, .inl a3, .inl a4, zN], []) M (fun v M' => (qCI M' ∧ qFr [16, 17] M M') ∧ ∃ x : Int, v = some (.inl x) ∧ ((-4) ≤ x ∧ x ≤ 39) ∧ ((x = -2 ∧ ¬ (0 ≤ a1 ∧ a1 < M 14 3 ∧ 0 ≤ a2 ∧ a2 ≤ 9999 ∧ 0 ≤ a3 ∧ a3 ≤ 1023 ∧ 0 ≤ a4 ∧ a4 ≤ 1023) ∧ M' 16 3 = M 16 3) ∨ (x = -4 ∧ (0 ≤ a1 ∧ a1 < M 14 3 ∧ 0 ≤ a2 ∧ a2 ≤ 9999 ∧ 0 ≤ a3 ∧ a3 ≤ 1023 ∧ 0 ≤ a4 ∧ a4 ≤ 1023) ∧ M 16 3 = 40 ∧ M' 16 3 = M 16 3) ∨ (x = M 16 3 ∧ (0 ≤ a1 ∧ a1 < M 14 3 ∧ 0 ≤ a2 ∧ a2 ≤ 9999 ∧ 0 ≤ a3 ∧ a3 ≤ 1023 ∧ 0 ≤ a4 ∧ a4 ≤ 1023) ∧ M 16 3 < 40 ∧ M' 16 3 = M 16 3 + 1 ∧ M' 17 (x * 5 + 0 : Int).toNat = a1 ∧ M' 17 (x * 5 + 1 : Int).toNat = a2 ∧ M' 17 (x * 5 + 2 : Int).toNat = a3 ∧ M' 17 (x * 5 + 3 : Int).toNat = a4 ∧ M' 17 (x * 5 + 4 : Int).toNat = 0)) ∧ (∀ j : Nat, ((j : Int) < 5 * M 16 3 ∨ 5 * M 16 3 + 5 ≤ j) → M' 17 j = M 17 j)) := by
    intro hx0_21
    refine zG_blk (c' := (23, [.inr (.inr (some 8)), .inl a1, .inl a2, .inl a3, .inl a4, zN], [.inl (-2)])) 1 hd0 hz (by rfl) ?_
    exact zG_ret hd0 hz rfl rfl ⟨⟨hC, hW⟩, _, rfl, by omega, by omega, hX17_M⟩
  refine zG_if_eq hd0 hz rfl (fun hb5 => ?_) (fun hb5 => ?_)
  · exact j21 (by omega)
  · refine zG_blk (c' := (15, [.inr (.inr (some 8)), .inl a1, .inl a2, .inl a3, .inl a4, zN], [.inl a2])) 1 hd0 hz (by rfl) ?_
    refine zG_call hd0 hz (rfl : zP 170 = (zk_X10_isDay, 1, (0, 0))) rfl rfl (Nat.le_of_ble_eq_true rfl) ⟨Nat.le_refl _, Nat.le_refl _⟩ (qf_170 (by omega) hC   a2 (by omega) ) (fun vr M6 hr => ?_)
    obtain ⟨hq, x7, rfl, hx7, hpx7_0⟩ := hr
    replace hq := hq.symm; subst hq
    show zG n (0, 0) d 126 (18, [.inr (.inr (some 8)), .inl a1, .inl a2, .inl a3, .inl a4, zN], [.inl x7]) M _
    refine zG_if_ne hd0 hz rfl (fun hb8 => ?_) (fun hb8 => ?_)
    · refine zG_blk (c' := (29, [.inr (.inr (some 8)), .inl a1, .inl a2, .inl a3, .inl a4, zN], [.inl 1023, .inl 0, .inl a3])) 3 hd0 hz (by rfl) ?_
      refine zG_call hd0 hz (rfl : zP 169 = (zk_X10_within, 3, (0, 0))) rfl rfl (Nat.le_of_ble_eq_true rfl) ⟨Nat.le_refl _, Nat.le_refl _⟩ (qf_within (by omega) hC   a3 (by omega) 0 (by omega) 1023 (by omega) ) (fun vr M9 hr => ?_)
      obtain ⟨hq, x10, rfl, hx10⟩ := hr
      replace hq := hq.symm; subst hq
      show zG n (0, 0) d 126 (32, [.inr (.inr (some 8)), .inl a1, .inl a2, .inl a3, .inl a4, zN], [.inl x10]) M _
      have j47 : (¬ (0 ≤ a1 ∧ a1 < M 14 3 ∧ 0 ≤ a2 ∧ a2 ≤ 9999 ∧ 0 ≤ a3 ∧ a3 ≤ 1023 ∧ 0 ≤ a4 ∧ a4 ≤ 1023)) → zG n (0, 0) d 126 (47, [.inr (.inr (some 8)), .inl a1, .inl a2, .inl a3, .inl a4, zN], []) M (fun v M' => (qCI M' ∧ qFr [16, 17] M M') ∧ ∃ x : Int, v = some (.inl x) ∧ ((-4) ≤ x ∧ x ≤ 39) ∧ ((x = -2 ∧ ¬ (0 ≤ a1 ∧ a1 < M 14 3 ∧ 0 ≤ a2 ∧ a2 ≤ 9999 ∧ 0 ≤ a3 ∧ a3 ≤ 1023 ∧ 0 ≤ a4 ∧ a4 ≤ 1023) ∧ M' 16 3 = M 16 3) ∨ (x = -4 ∧ (0 ≤ a1 ∧ a1 < M 14 3 ∧ 0 ≤ a2 ∧ a2 ≤ 9999 ∧ 0 ≤ a3 ∧ a3 ≤ 1023 ∧ 0 ≤ a4 ∧ a4 ≤ 1023) ∧ M 16 3 = 40 ∧ M' 16 3 = M 16 3) ∨ (x = M 16 3 ∧ (0 ≤ a1 ∧ a1 < M 14 3 ∧ 0 ≤ a2 ∧ a2 ≤ 9999 ∧ 0 ≤ a3 ∧ a3 ≤ 1023 ∧ 0 ≤ a4 ∧ a4 ≤ 1023) ∧ M 16 3 < 40 ∧ M' 16 3 = M 16 3 + 1 ∧ M' 17 (x * 5 + 0 : Int).toNat = a1 ∧ M' 17 (x * 5 + 1 : Int).toNat = a2 ∧ M' 17 (x * 5 + 2 : Int).toNat = a3 ∧ M' 17 (x * 5 + 3 : Int).toNat = a4 ∧ M' 17 (x * 5 + 4 : Int).toNat = 0)) ∧ (∀ j : Nat, ((j : Int) < 5 * M 16 3 ∨ 5 * M 16 3 + 5 ≤ j) → M' 17 j = M 17 j)) := by
        intro hx0_47
        refine zG_blk (c' := (49, [.inr (.inr (some 8)), .inl a1, .inl a2, .inl a3, .inl a4, zN], [.inl (-2)])) 1 hd0 hz (by rfl) ?_
        exact zG_ret hd0 hz rfl rfl ⟨⟨hC, hW⟩, _, rfl, by omega, by omega, hX17_M⟩
      refine zG_if_eq hd0 hz rfl (fun hb11 => ?_) (fun hb11 => ?_)
      · exact j47 (by omega)
      · refine zG_blk (c' := (41, [.inr (.inr (some 8)), .inl a1, .inl a2, .inl a3, .inl a4, zN], [.inl 1023, .inl 0, .inl a4])) 3 hd0 hz (by rfl) ?_
        refine zG_call hd0 hz (rfl : zP 169 = (zk_X10_within, 3, (0, 0))) rfl rfl (Nat.le_of_ble_eq_true rfl) ⟨Nat.le_refl _, Nat.le_refl _⟩ (qf_within (by omega) hC   a4 (by omega) 0 (by omega) 1023 (by omega) ) (fun vr M12 hr => ?_)
        obtain ⟨hq, x13, rfl, hx13⟩ := hr
        replace hq := hq.symm; subst hq
        show zG n (0, 0) d 126 (44, [.inr (.inr (some 8)), .inl a1, .inl a2, .inl a3, .inl a4, zN], [.inl x13]) M _
        refine zG_if_ne hd0 hz rfl (fun hb14 => ?_) (fun hb14 => ?_)
        · refine zG_blk (c' := (57, [.inr (.inr (some 8)), .inl a1, .inl a2, .inl a3, .inl a4, zN], [.inr (.inr (some 16))])) 3 hd0 hz (by rfl) ?_
          refine zG_call hd0 hz (rfl : zP 103 = (zk_X8_open, 1, (0, 0))) rfl rfl (Nat.le_of_ble_eq_true rfl) ⟨Nat.le_refl _, Nat.le_refl _⟩ (qe_open (by omega) hC  (⟨by decide, rfl, rfl⟩ : qT n 16 40 5)  ) (fun vr M15 hr => ?_)
          obtain ⟨⟨hCM15, hFM15⟩, x16, rfl, hx16⟩ := hr
          have hWM15 : qFr [16, 17] M M15 := hW.tr hFM15 (by decide)
          have e18 : M15 14 3 = M 14 3 := hFM15 14 3 (by decide)
          have hX17_M15 : ∀ j : Nat, ((j : Int) < 5 * M 16 3 ∨ 5 * M 16 3 + 5 ≤ j) → M15 17 j = M 17 j := fun j hj => (hFM15 17 j (by decide)).trans (hX17_M j hj)
          have r19 := hCM15.rows 16 40 5 (by decide)
          show zG n (0, 0) d 126 (60, [.inr (.inr (some 8)), .inl a1, .inl a2, .inl a3, .inl a4, zN], [.inl x16]) M15 _
          refine zG_blk (c' := (73, [.inr (.inr (some 8)), .inl a1, .inl a2, .inl a3, .inl a4, .inl x16], [.inl a1, .inl 0, .inl x16, .inr (.inr (some 16))])) 7 hd0 hz (by rfl) ?_
          refine zG_call hd0 hz (rfl : zP 107 = (zk_X8_set, 4, (0, 0))) rfl rfl (Nat.le_of_ble_eq_true rfl) ⟨Nat.le_refl _, Nat.le_refl _⟩ (qf_set (by omega) hCM15  (⟨by decide, rfl, rfl⟩ : qT n 16 40 5) x16 (by omega) 0 (by omega) a1 (by omega) ) (fun vr M20 hr => ?_)
          obtain ⟨⟨hCM20, hFM20⟩, rfl, hpx21_0, hpx21_1⟩ := hr
          have hWM20 : qFr [16, 17] M M20 := hWM15.tr hFM20 (by decide)
          have e22 : M20 14 3 = M15 14 3 := hFM20 14 3 (by decide)
          have e23 : M20 16 3 = M15 16 3 := hFM20 16 3 (by decide)
          have hX17_M20 : ∀ j : Nat, ((j : Int) < 5 * M 16 3 ∨ 5 * M 16 3 + 5 ≤ j) → M20 17 j = M 17 j := fun j hj => (hpx21_1 j (by omega)).trans (hX17_M15 j hj)
          have hvx21 : 0 ≤ x16 ∧ x16 < 40 → M20 17 (x16 * 5 + 0 : Int).toNat = a1 := fun h9 => hpx21_0 ⟨h9, by omega⟩
          show zG n (0, 0) d 126 (76, [.inr (.inr (some 8)), .inl a1, .inl a2, .inl a3, .inl a4, .inl x16], []) M20 _
          refine zG_blk (c' := (87, [.inr (.inr (some 8)), .inl a1, .inl a2, .inl a3, .inl a4, .inl x16], [.inl a2, .inl 1, .inl x16, .inr (.inr (some 16))])) 6 hd0 hz (by rfl) ?_
          refine zG_call hd0 hz (rfl : zP 107 = (zk_X8_set, 4, (0, 0))) rfl rfl (Nat.le_of_ble_eq_true rfl) ⟨Nat.le_refl _, Nat.le_refl _⟩ (qf_set (by omega) hCM20  (⟨by decide, rfl, rfl⟩ : qT n 16 40 5) x16 (by omega) 1 (by omega) a2 (by omega) ) (fun vr M24 hr => ?_)
          obtain ⟨⟨hCM24, hFM24⟩, rfl, hpx25_0, hpx25_1⟩ := hr
          have hWM24 : qFr [16, 17] M M24 := hWM20.tr hFM24 (by decide)
          have e26 : M24 14 3 = M20 14 3 := hFM24 14 3 (by decide)
          have e27 : M24 16 3 = M20 16 3 := hFM24 16 3 (by decide)
          have e28 : M24 17 (x16 * 5 + 0 : Int).toNat = M20 17 (x16 * 5 + 0 : Int).toNat := hpx25_1 _ (by omega)
          have hX17_M24 : ∀ j : Nat, ((j : Int) < 5 * M 16 3 ∨ 5 * M 16 3 + 5 ≤ j) → M24 17 j = M 17 j := fun j hj => (hpx25_1 j (by omega)).trans (hX17_M20 j hj)
          have hvx25 : 0 ≤ x16 ∧ x16 < 40 → M24 17 (x16 * 5 + 1 : Int).toNat = a2 := fun h9 => hpx25_0 ⟨h9, by omega⟩
          show zG n (0, 0) d 126 (90, [.inr (.inr (some 8)), .inl a1, .inl a2, .inl a3, .inl a4, .inl x16], []) M24 _
          refine zG_blk (c' := (101, [.inr (.inr (some 8)), .inl a1, .inl a2, .inl a3, .inl a4, .inl x16], [.inl a3, .inl 2, .inl x16, .inr (.inr (some 16))])) 6 hd0 hz (by rfl) ?_
          refine zG_call hd0 hz (rfl : zP 107 = (zk_X8_set, 4, (0, 0))) rfl rfl (Nat.le_of_ble_eq_true rfl) ⟨Nat.le_refl _, Nat.le_refl _⟩ (qf_set (by omega) hCM24  (⟨by decide, rfl, rfl⟩ : qT n 16 40 5) x16 (by omega) 2 (by omega) a3 (by omega) ) (fun vr M29 hr => ?_)
          obtain ⟨⟨hCM29, hFM29⟩, rfl, hpx30_0, hpx30_1⟩ := hr
          have hWM29 : qFr [16, 17] M M29 := hWM24.tr hFM29 (by decide)
          have e31 : M29 14 3 = M24 14 3 := hFM29 14 3 (by decide)
          have e32 : M29 16 3 = M24 16 3 := hFM29 16 3 (by decide)
          have e33 : M29 17 (x16 * 5 + 0 : Int).toNat = M24 17 (x16 * 5 + 0 : Int).toNat := hpx30_1 _ (by omega)
          have e34 : M29 17 (x16 * 5 + 1 : Int).toNat = M24 17 (x16 * 5 + 1 : Int).toNat := hpx30_1 _ (by omega)
          have hX17_M29 : ∀ j : Nat, ((j : Int) < 5 * M 16 3 ∨ 5 * M 16 3 + 5 ≤ j) → M29 17 j = M 17 j := fun j hj => (hpx30_1 j (by omega)).trans (hX17_M24 j hj)
          have hvx30 : 0 ≤ x16 ∧ x16 < 40 → M29 17 (x16 * 5 + 2 : Int).toNat = a3 := fun h9 => hpx30_0 ⟨h9, by omega⟩
          show zG n (0, 0) d 126 (104, [.inr (.inr (some 8)), .inl a1, .inl a2, .inl a3, .inl a4, .inl x16], []) M29 _
          refine zG_blk (c' := (116, [.inr (.inr (some 8)), .inl a1, .inl a2, .inl a3, .inl a4, .inl x16], [.inl a4, .inl 3, .inl x16, .inr (.inr (some 16))])) 6 hd0 hz (by rfl) ?_
          refine zG_call hd0 hz (rfl : zP 107 = (zk_X8_set, 4, (0, 0))) rfl rfl (Nat.le_of_ble_eq_true rfl) ⟨Nat.le_refl _, Nat.le_refl _⟩ (qf_set (by omega) hCM29  (⟨by decide, rfl, rfl⟩ : qT n 16 40 5) x16 (by omega) 3 (by omega) a4 (by omega) ) (fun vr M35 hr => ?_)
          obtain ⟨⟨hCM35, hFM35⟩, rfl, hpx36_0, hpx36_1⟩ := hr
          have hWM35 : qFr [16, 17] M M35 := hWM29.tr hFM35 (by decide)
          have e37 : M35 14 3 = M29 14 3 := hFM35 14 3 (by decide)
          have e38 : M35 16 3 = M29 16 3 := hFM35 16 3 (by decide)
          have e39 : M35 17 (x16 * 5 + 0 : Int).toNat = M29 17 (x16 * 5 + 0 : Int).toNat := hpx36_1 _ (by omega)
          have e40 : M35 17 (x16 * 5 + 1 : Int).toNat = M29 17 (x16 * 5 + 1 : Int).toNat := hpx36_1 _ (by omega)
          have e41 : M35 17 (x16 * 5 + 2 : Int).toNat = M29 17 (x16 * 5 + 2 : Int).toNat := hpx36_1 _ (by omega)
          have hX17_M35 : ∀ j : Nat, ((j : Int) < 5 * M 16 3 ∨ 5 * M 16 3 + 5 ≤ j) → M35 17 j = M 17 j := fun j hj => (hpx36_1 j (by omega)).trans (hX17_M29 j hj)
          have hvx36 : 0 ≤ x16 ∧ x16 < 40 → M35 17 (x16 * 5 + 3 : Int).toNat = a4 := fun h9 => hpx36_0 ⟨h9, by omega⟩
          show zG n (0, 0) d 126 (119, [.inr (.inr (some 8)), .inl a1, .inl a2, .inl a3, .inl a4, .inl x16], []) M35 _
          refine zG_blk (c' := (130, [.inr (.inr (some 8)), .inl a1, .inl a2, .inl a3, .inl a4, .inl x16], [.inl 0, .inl 4, .inl x16, .inr (.inr (some 16))])) 6 hd0 hz (by rfl) ?_
          refine zG_call hd0 hz (rfl : zP 107 = (zk_X8_set, 4, (0, 0))) rfl rfl (Nat.le_of_ble_eq_true rfl) ⟨Nat.le_refl _, Nat.le_refl _⟩ (qf_set (by omega) hCM35  (⟨by decide, rfl, rfl⟩ : qT n 16 40 5) x16 (by omega) 4 (by omega) 0 (by omega) ) (fun vr M42 hr => ?_)
          obtain ⟨⟨hCM42, hFM42⟩, rfl, hpx43_0, hpx43_1⟩ := hr
          have hWM42 : qFr [16, 17] M M42 := hWM35.tr hFM42 (by decide)
          have e44 : M42 14 3 = M35 14 3 := hFM42 14 3 (by decide)
          have e45 : M42 16 3 = M35 16 3 := hFM42 16 3 (by decide)
          have e46 : M42 17 (x16 * 5 + 0 : Int).toNat = M35 17 (x16 * 5 + 0 : Int).toNat := hpx43_1 _ (by omega)
          have e47 : M42 17 (x16 * 5 + 1 : Int).toNat = M35 17 (x16 * 5 + 1 : Int).toNat := hpx43_1 _ (by omega)
          have e48 : M42 17 (x16 * 5 + 2 : Int).toNat = M35 17 (x16 * 5 + 2 : Int).toNat := hpx43_1 _ (by omega)
          have e49 : M42 17 (x16 * 5 + 3 : Int).toNat = M35 17 (x16 * 5 + 3 : Int).toNat := hpx43_1 _ (by omega)
          have hX17_M42 : ∀ j : Nat, ((j : Int) < 5 * M 16 3 ∨ 5 * M 16 3 + 5 ≤ j) → M42 17 j = M 17 j := fun j hj => (hpx43_1 j (by omega)).trans (hX17_M35 j hj)
          have hvx43 : 0 ≤ x16 ∧ x16 < 40 → M42 17 (x16 * 5 + 4 : Int).toNat = 0 := fun h9 => hpx43_0 ⟨h9, by omega⟩
          show zG n (0, 0) d 126 (133, [.inr (.inr (some 8)), .inl a1, .inl a2, .inl a3, .inl a4, .inl x16], []) M42 _
          refine zG_blk (c' := (135, [.inr (.inr (some 8)), .inl a1, .inl a2, .inl a3, .inl a4, .inl x16], [.inl x16])) 1 hd0 hz (by rfl) ?_
          exact zG_ret hd0 hz rfl rfl ⟨⟨hCM42, hWM42⟩, _, rfl, by omega, by omega, hX17_M42⟩
        · exact j47 (by omega)
    · exact j21 (by omega)
