theorem qm_307 {n d : Nat} {M : zM} (hd : 1 ≤ d) (hC : qCI M) (a0 : Int) (ha0 : (-2147483648) ≤ a0 ∧ a0 ≤ 2147483647) : qOkP n d 307 [.inl a0] 1 M (qRi (fun x => 0 ≤ x ∧ x ≤ 1)) := by
  have hz := zp_307
  have hd0 : 0 < d := by omega
  show zG n (0, 0) d 307 (0, [.inl a0], []) M _
  refine zG_blk (c' := (1, [.inl a0], [.inl a0])) 1 hd0 hz (by rfl) ?_
  have j16 : ∀ (v1 : Int) , 0 ≤ v1 ∧ v1 ≤ 1 → zG n (0, 0) d 307 (16, [.inl a0], [.inl v1]) M (fun v M' => M' = M ∧ qRi (fun x => 0 ≤ x ∧ x ≤ 1) v) := by
    intro v1 hv1
    exact zG_zret hd0 hz rfl (by omega) ⟨rfl, _, rfl, by omega⟩
  have j15 : zG n (0, 0) d 307 (15, [.inl a0], []) M (fun v M' => M' = M ∧ qRi (fun x => 0 ≤ x ∧ x ≤ 1) v) := by
    refine zG_blk (c' := (16, [.inl a0], [.inl 0])) 1 hd0 hz (by rfl) ?_
    exact j16 0 (by first | decide | omega)
  refine zG_if_lt hd0 hz rfl (fun hb2 => ?_) (fun hb2 => ?_)
  · exact j15
  · refine zG_blk (c' := (8, [.inl a0], [.inl 255, .inl a0])) 2 hd0 hz (by rfl) ?_
    refine zG_icmp_gt hd0 hz rfl (fun hb3 => ?_) (fun hb3 => ?_)
    · exact j15
    · refine zG_blk (c' := (16, [.inl a0], [.inl 1])) 2 hd0 hz (by rfl) ?_
      exact j16 1 (by first | decide | omega)
theorem qm_309_7 {n d : Nat} {M : zM} (hd : 1 ≤ d) (hC : qCI M) (a1 : Int) (ha1 : (-2147483648) ≤ a1 ∧ a1 ≤ 2147483647) (a2 : Int) (ha2 : 0 ≤ a2 ∧ a2 ≤ 2147483647) (a3 : Int) (ha3 : (-2147483648) ≤ a3 ∧ a3 ≤ 9) : qOkP n d 309 [.inr (.inr (some 7)), .inl a1, .inl a2, .inl a3] 6 M (qRi (fun x => (-1) ≤ x ∧ x ≤ 8)) := by
  have hz := zp_309
  have hd0 : 0 < d := by omega
  show zG n (0, 0) d 309 (0, [.inr (.inr (some 7)), .inl a1, .inl a2, .inl a3, zN, zN], []) M _
  obtain ⟨x1, hx1⟩ : ∃ x : Int, x = (a1 + 128) % 256 - 128 := ⟨_, rfl⟩
  refine zG_blk (c' := (7, [.inr (.inr (some 7)), .inl a1, .inl a2, .inl a3, .inl x1, .inl a2], [])) 5 hd0 hz (by subst hx1; rfl) ?_
  have j7 : ∀ (N : Nat) (v2 : Int) , (a3 - v2 : Int).toNat < N → 0 ≤ v2 ∧ v2 ≤ 2147483647 → zG n (0, 0) d 309 (7, [.inr (.inr (some 7)), .inl a1, .inl a2, .inl a3, .inl x1, .inl v2], []) M (fun v M' => M' = M ∧ qRi (fun x => (-1) ≤ x ∧ x ≤ 8) v) := by
    intro N
    induction N with
    | zero => intro v2 hN hv2; exact absurd hN (Nat.not_lt_zero _)
    | succ N ih7 =>
      intro v2 hN hv2
      refine zG_blk (c' := (10, [.inr (.inr (some 7)), .inl a1, .inl a2, .inl a3, .inl x1, .inl v2], [.inl a3, .inl v2])) 2 hd0 hz (by rfl) ?_
      refine zG_icmp_ge hd0 hz rfl (fun hb3 => ?_) (fun hb3 => ?_)
      · refine zG_blk (c' := (32, [.inr (.inr (some 7)), .inl a1, .inl a2, .inl a3, .inl x1, .inl v2], [.inl (-1)])) 1 hd0 hz (by rfl) ?_
        exact zG_ret hd0 hz rfl rfl ⟨rfl, _, rfl, by omega⟩
      · refine zG_blk (c' := (16, [.inr (.inr (some 7)), .inl a1, .inl a2, .inl a3, .inl x1, .inl v2], [.inl v2, .inr (.inr (some 7))])) 2 hd0 hz (by rfl) ?_
        refine zG_bald hd0 hz rfl rfl (.inr rfl) (by omega) ?_
        have hx4 := hC.rng 7 (v2 : Int).toNat (by decide) (by decide)
        generalize M 7 (v2 : Int).toNat = x4 at hx4 ⊢
        show zG n (0, 0) d 309 (17, [.inr (.inr (some 7)), .inl a1, .inl a2, .inl a3, .inl x1, .inl v2], [.inl x4]) M _
        refine zG_blk (c' := (19, [.inr (.inr (some 7)), .inl a1, .inl a2, .inl a3, .inl x1, .inl v2], [.inl x1, .inl x4])) 1 hd0 hz (by rfl) ?_
        refine zG_icmp_ne hd0 hz rfl (fun hb5 => ?_) (fun hb5 => ?_)
        · obtain ⟨x6, hx6⟩ : ∃ x : Int, x = w32 (v2 + 1) := ⟨_, rfl⟩
          have hx6e : x6 = v2 + 1 := by rw [hx6]; exact w32_id (by omega)
          refine zG_blk (c' := (7, [.inr (.inr (some 7)), .inl a1, .inl a2, .inl a3, .inl x1, .inl x6], [])) 2 hd0 hz (by subst hx6; rfl) ?_
          exact ih7 x6 (by omega) (by omega)
        · refine zG_blk (c' := (24, [.inr (.inr (some 7)), .inl a1, .inl a2, .inl a3, .inl x1, .inl v2], [.inl v2])) 1 hd0 hz (by rfl) ?_
          exact zG_ret hd0 hz rfl rfl ⟨rfl, _, rfl, by omega⟩
  exact j7 ((a3 - a2 : Int).toNat + 1) a2 (by first | with_reducible exact ha2 | omega) (by omega)
theorem qm_308_7 {n d : Nat} {M : zM} (hd : 2 ≤ d) (hC : qCI M) (a1 : Int) (ha1 : (-2147483648) ≤ a1 ∧ a1 ≤ 2147483647) (a2 : Int) (ha2 : (-2147483648) ≤ a2 ∧ a2 ≤ 2147483647) (a3 : Int) (ha3 : (-2147483648) ≤ a3 ∧ a3 ≤ 2147483647) : qOkP n d 308 [.inr (.inr (some 7)), .inl a1, .inl a2, .inl a3] 4 M (qRi (fun x => (-1) ≤ x ∧ x ≤ 8)) := by
  have hz := zp_308
  have hd0 : 0 < d := by omega
  show zG n (0, 0) d 308 (0, [.inr (.inr (some 7)), .inl a1, .inl a2, .inl a3], []) M _
  refine zG_blk (c' := (1, [.inr (.inr (some 7)), .inl a1, .inl a2, .inl a3], [.inl a1])) 1 hd0 hz (by rfl) ?_
  refine zG_call hd0 hz zp_307 rfl rfl (Nat.le_of_ble_eq_true rfl) ⟨Nat.le_refl _, Nat.le_refl _⟩ (qm_307 (by first | exact zdp hd (by decide) | omega) hC  a1 (by first | with_reducible exact ha1 | omega)) (fun vr M1 hr => ?_)
  obtain ⟨hq, x2, rfl, hx2⟩ := hr
  replace hq := hq.symm; subst hq
  show zG n (0, 0) d 308 (4, [.inr (.inr (some 7)), .inl a1, .inl a2, .inl a3], [.inl x2]) M _
  refine zG_if_ne hd0 hz rfl (fun hb3 => ?_) (fun hb3 => ?_)
  · obtain ⟨x4, hx4⟩ : ∃ x : Int, x = (if a2 < 0 then 0 else a2) := ⟨_, rfl⟩
    have hx4r := qite hx4
    obtain ⟨x5, hx5⟩ : ∃ x : Int, x = (if 9 < a3 then 9 else a3) := ⟨_, rfl⟩
    have hx5r := qite hx5
    refine zG_blk (c' := (24, [.inr (.inr (some 7)), .inl a1, .inl x4, .inl x5], [.inl x5, .inl x4])) 11 hd0 hz (by subst hx5; subst hx4; rfl) ?_
    refine zG_icmp_lt hd0 hz rfl (fun hb6 => ?_) (fun hb6 => ?_)
    · refine zG_blk (c' := (33, [.inr (.inr (some 7)), .inl a1, .inl x4, .inl x5], [.inl x5, .inl x4, .inl a1, .inr (.inr (some 7))])) 4 hd0 hz (by rfl) ?_
      refine zG_call hd0 hz zp_309 rfl rfl (Nat.le_of_ble_eq_true rfl) ⟨Nat.le_refl _, Nat.le_refl _⟩ (qm_309_7 (by first | exact zdp hd (by decide) | omega) hC  a1 (by first | with_reducible exact ha1 | omega) x4 (by omega) x5 (by omega)) (fun vr M7 hr => ?_)
      obtain ⟨hq, x8, rfl, hx8⟩ := hr
      replace hq := hq.symm; subst hq
      show zG n (0, 0) d 308 (36, [.inr (.inr (some 7)), .inl a1, .inl x4, .inl x5], [.inl x8]) M _
      exact zG_ret hd0 hz rfl rfl ⟨rfl, _, rfl, by omega⟩
    · refine zG_blk (c' := (28, [.inr (.inr (some 7)), .inl a1, .inl x4, .inl x5], [.inl (-1)])) 1 hd0 hz (by rfl) ?_
      exact zG_ret hd0 hz rfl rfl ⟨rfl, _, rfl, by omega⟩
  · refine zG_blk (c' := (8, [.inr (.inr (some 7)), .inl a1, .inl a2, .inl a3], [.inl (-1)])) 1 hd0 hz (by rfl) ?_
    exact zG_ret hd0 hz rfl rfl ⟨rfl, _, rfl, by omega⟩
theorem qm_301_6 {n d : Nat} {M : zM} (hd : 3 ≤ d) (hC : qCI M) (a1 : Int) (ha1 : (-2147483648) ≤ a1 ∧ a1 ≤ 2147483647) (a2 : Int) (ha2 : (-2147483648) ≤ a2 ∧ a2 ≤ 2147483647) : qOkP n d 301 [.inr (.inr (some 6)), .inl a1, .inl a2] 3 M (qRi (fun x => (-1) ≤ x ∧ x ≤ 8)) := by
  have hz := zp_301
  have hd0 : 0 < d := by omega
  show zG n (0, 0) d 301 (0, [.inr (.inr (some 6)), .inl a1, .inl a2], []) M _
  refine zG_blk (c' := (1, [.inr (.inr (some 6)), .inl a1, .inl a2], [.inr (.inr (some 6))])) 1 hd0 hz (by rfl) ?_
  refine zG_call hd0 hz zp_304 rfl rfl (Nat.le_of_ble_eq_true rfl) ⟨Nat.le_refl _, Nat.le_refl _⟩ (qm_304_6 (by first | exact zdp hd (by decide) | omega) hC  ) (fun vr M1 hr => ?_)
  obtain ⟨hq, x2, rfl, hx2⟩ := hr
  replace hq := hq.symm; subst hq
  show zG n (0, 0) d 301 (4, [.inr (.inr (some 6)), .inl a1, .inl a2], [.inl x2]) M _
  refine zG_if_eq hd0 hz rfl (fun hb3 => ?_) (fun hb3 => ?_)
  · exfalso; omega
  · refine zG_blk (c' := (14, [.inr (.inr (some 6)), .inl a1, .inl a2], [.inr (.inr (some 6)), .inl a2, .inl a1, .inr (.inr (some 7))])) 5 hd0 hz (by rfl) ?_
    refine zG_call hd0 hz zp_302 rfl rfl (Nat.le_of_ble_eq_true rfl) ⟨Nat.le_refl _, Nat.le_refl _⟩ (qm_302_6 (by first | exact zdp hd (by decide) | omega) hC  ) (fun vr M4 hr => ?_)
    obtain ⟨hq, x5, rfl, hx5⟩ := hr
    replace hq := hq.symm; subst hq
    show zG n (0, 0) d 301 (17, [.inr (.inr (some 6)), .inl a1, .inl a2], [.inl x5, .inl a2, .inl a1, .inr (.inr (some 7))]) M _
    refine zG_call hd0 hz zp_308 rfl rfl (Nat.le_of_ble_eq_true rfl) ⟨Nat.le_refl _, Nat.le_refl _⟩ (qm_308_7 (by first | exact zdp hd (by decide) | omega) hC  a1 (by first | with_reducible exact ha1 | omega) a2 (by first | with_reducible exact ha2 | omega) x5 (by omega)) (fun vr M6 hr => ?_)
    obtain ⟨hq, x7, rfl, hx7⟩ := hr
    replace hq := hq.symm; subst hq
    show zG n (0, 0) d 301 (20, [.inr (.inr (some 6)), .inl a1, .inl a2], [.inl x7]) M _
    refine zG_blk (c' := (36, [.inr (.inr (some 6)), .inl a1, .inl a2], [.inl x7])) 1 hd0 hz (by rfl) ?_
    exact zG_ret hd0 hz rfl rfl ⟨rfl, _, rfl, by omega⟩
theorem qm_300_6 {n d : Nat} {M : zM} (hd : 4 ≤ d) (hC : qCI M) (a1 : Int) (ha1 : (-2147483648) ≤ a1 ∧ a1 ≤ 2147483647) : qOkP n d 300 [.inr (.inr (some 6)), .inl a1] 2 M (qRi (fun x => (-1) ≤ x ∧ x ≤ 8)) := by
  have hz := zp_300
  have hd0 : 0 < d := by omega
  show zG n (0, 0) d 300 (0, [.inr (.inr (some 6)), .inl a1], []) M _
  refine zG_blk (c' := (3, [.inr (.inr (some 6)), .inl a1], [.inl 0, .inl a1, .inr (.inr (some 6))])) 3 hd0 hz (by rfl) ?_
  refine zG_call hd0 hz zp_301 rfl rfl (Nat.le_of_ble_eq_true rfl) ⟨Nat.le_refl _, Nat.le_refl _⟩ (qm_301_6 (by first | exact zdp hd (by decide) | omega) hC  a1 (by first | with_reducible exact ha1 | omega) 0 (by first | decide | omega)) (fun vr M1 hr => ?_)
  obtain ⟨hq, x2, rfl, hx2⟩ := hr
  replace hq := hq.symm; subst hq
  show zG n (0, 0) d 300 (6, [.inr (.inr (some 6)), .inl a1], [.inl x2]) M _
  exact zG_ret hd0 hz rfl rfl ⟨rfl, _, rfl, by omega⟩
