theorem qm_30_76 {n d : Nat} {M : zM} (hd : 2 ≤ d) (hC : qCI M) (a1 : Int) (ha1 : (-2147483648) ≤ a1 ∧ a1 ≤ 2147483647) (a2 : Int) (ha2 : 0 ≤ a2 ∧ a2 ≤ 1) : qOkP n d 30 [.inr (.inr (some 76)), .inl a1, .inl a2] 8 M (qRi (fun x => (-1) ≤ x ∧ x ≤ 9)) := by
  have hz := zp_30
  have hd0 : 0 < d := by omega
  show zG n (0, 0) d 30 (0, [.inr (.inr (some 76)), .inl a1, .inl a2, zN, zN, zN, zN, zN], []) M _
  refine zG_blk (c' := (8, [.inr (.inr (some 76)), .inl a1, .inl a2, .inl (-1), .inl (-1), .inl 0, zN, zN], [])) 6 hd0 hz (by rfl) ?_
  have j8 : ∀ (N : Nat) (v1 v2 v3 : Int) , (10 - v3 : Int).toNat < N → (-1) ≤ v1 ∧ v1 ≤ 9 → (-1) ≤ v2 ∧ v2 ≤ 2147483647 → 0 ≤ v3 ∧ v3 ≤ 10 → zG n (0, 0) d 30 (8, [.inr (.inr (some 76)), .inl a1, .inl a2, .inl v1, .inl v2, .inl v3, zN, zN], []) M (fun v M' => M' = M ∧ qRi (fun x => (-1) ≤ x ∧ x ≤ 9) v) := by
    intro N
    induction N with
    | zero => intro v1 v2 v3 hN hv1 hv2 hv3; exact absurd hN (Nat.not_lt_zero _)
    | succ N ih8 =>
      intro v1 v2 v3 hN hv1 hv2 hv3
      refine zG_blk (c' := (17, [.inr (.inr (some 76)), .inl a1, .inl a2, .inl v1, .inl v2, .inl v3, zN, zN], [.inr (.inr (some 22)), .inl v3])) 4 hd0 hz (by rfl) ?_
      refine zG_call hd0 hz zp_101 rfl rfl (Nat.le_of_ble_eq_true rfl) ⟨Nat.le_refl _, Nat.le_refl _⟩ (qw_size (by first | exact zdp hd (by decide) | omega) hC (⟨by decide, rfl, rfl⟩ : qT n 22 10 164) ) (fun vr M4 hr => ?_)
      obtain ⟨hq, x5, rfl, hx5⟩ := hr
      replace hq := hq.symm; subst hq
      show zG n (0, 0) d 30 (20, [.inr (.inr (some 76)), .inl a1, .inl a2, .inl v1, .inl v2, .inl v3, zN, zN], [.inl x5, .inl v3]) M _
      refine zG_icmp_ge hd0 hz rfl (fun hb6 => ?_) (fun hb6 => ?_)
      · refine zG_blk (c' := (98, [.inr (.inr (some 76)), .inl a1, .inl a2, .inl v1, .inl v2, .inl v3, zN, zN], [.inl v1])) 1 hd0 hz (by rfl) ?_
        exact zG_ret hd0 hz rfl rfl ⟨rfl, _, rfl, by omega⟩
      · refine zG_blk (c' := (33, [.inr (.inr (some 76)), .inl a1, .inl a2, .inl v1, .inl v2, .inl v3, zN, zN], [.inl 0, .inl v3, .inr (.inr (some 22))])) 5 hd0 hz (by rfl) ?_
        refine zG_call hd0 hz zp_106 rfl rfl (Nat.le_of_ble_eq_true rfl) ⟨Nat.le_refl _, Nat.le_refl _⟩ (qw_get (by first | exact zdp hd (by decide) | omega) hC (⟨by decide, rfl, rfl⟩ : qT n 22 10 164) v3 (by first | with_reducible exact hv3 | omega) 0 (by first | decide | omega)) (fun vr M7 hr => ?_)
        obtain ⟨hq, x8, rfl, hx8⟩ := hr
        replace hq := hq.symm; subst hq
        show zG n (0, 0) d 30 (36, [.inr (.inr (some 76)), .inl a1, .inl a2, .inl v1, .inl v2, .inl v3, zN, zN], [.inl x8]) M _
        refine zG_blk (c' := (39, [.inr (.inr (some 76)), .inl a1, .inl a2, .inl v1, .inl v2, .inl v3, .inl x8, zN], [.inl a2])) 2 hd0 hz (by rfl) ?_
        have j64 : ∀ (v9 : Int) , 0 ≤ v9 ∧ v9 ≤ 1 → zG n (0, 0) d 30 (64, [.inr (.inr (some 76)), .inl a1, .inl a2, .inl v1, .inl v2, .inl v3, .inl x8, zN], [.inl v9]) M (fun v M' => M' = M ∧ qRi (fun x => (-1) ≤ x ∧ x ≤ 9) v) := by
          intro v9 hv9
          refine zG_blk (c' := (68, [.inr (.inr (some 76)), .inl a1, .inl a2, .inl v1, .inl v2, .inl v3, .inl x8, .inl v9], [.inl v9])) 2 hd0 hz (by rfl) ?_
          have j91 : ∀ (v10 v11 : Int) , (-1) ≤ v10 ∧ v10 ≤ 9 → (-1) ≤ v11 ∧ v11 ≤ 2147483647 → zG n (0, 0) d 30 (91, [.inr (.inr (some 76)), .inl a1, .inl a2, .inl v10, .inl v11, .inl v3, .inl x8, .inl v9], []) M (fun v M' => M' = M ∧ qRi (fun x => (-1) ≤ x ∧ x ≤ 9) v) := by
            intro v10 v11 hv10 hv11
            obtain ⟨x12, hx12⟩ : ∃ x : Int, x = w32 (v3 + 1) := ⟨_, rfl⟩
            have hx12e : x12 = v3 + 1 := by rw [hx12]; exact w32_id (by omega)
            refine zG_blk (c' := (8, [.inr (.inr (some 76)), .inl a1, .inl a2, .inl v10, .inl v11, .inl x12, .inl x8, .inl v9], [])) 2 hd0 hz (by subst hx12; rfl) ?_
            exact zG_weak (ih8 v10 v11 x12 (by omega) (by omega) (by omega) (by omega)) ⟨.inr rfl, .inr rfl, .inr rfl, .inr rfl, .inr rfl, .inr rfl, .inl rfl, .inl rfl, trivial⟩
          refine zG_if_eq hd0 hz rfl (fun hb13 => ?_) (fun hb13 => ?_)
          · exact j91 v1 v2 (by first | with_reducible exact hv2 | omega) (by omega)
          · refine zG_blk (c' := (74, [.inr (.inr (some 76)), .inl a1, .inl a2, .inl v1, .inl v2, .inl v3, .inl x8, .inl v9], [.inl a1, .inl x8])) 2 hd0 hz (by rfl) ?_
            refine zG_icmp_gt hd0 hz rfl (fun hb14 => ?_) (fun hb14 => ?_)
            · exact j91 v1 v2 (by first | with_reducible exact hv2 | omega) (by omega)
            · refine zG_blk (c' := (81, [.inr (.inr (some 76)), .inl a1, .inl a2, .inl v1, .inl v2, .inl v3, .inl x8, .inl v9], [.inl v2, .inl x8])) 2 hd0 hz (by rfl) ?_
              refine zG_icmp_lt hd0 hz rfl (fun hb15 => ?_) (fun hb15 => ?_)
              · exact j91 v1 v2 (by first | with_reducible exact hv2 | omega) (by omega)
              · refine zG_blk (c' := (91, [.inr (.inr (some 76)), .inl a1, .inl a2, .inl v3, .inl x8, .inl v3, .inl x8, .inl v9], [])) 4 hd0 hz (by rfl) ?_
                exact j91 v3 x8 (by omega) (by omega)
        have j59 : zG n (0, 0) d 30 (59, [.inr (.inr (some 76)), .inl a1, .inl a2, .inl v1, .inl v2, .inl v3, .inl x8, zN], []) M (fun v M' => M' = M ∧ qRi (fun x => (-1) ≤ x ∧ x ≤ 9) v) := by
          refine zG_blk (c' := (64, [.inr (.inr (some 76)), .inl a1, .inl a2, .inl v1, .inl v2, .inl v3, .inl x8, zN], [.inl 1])) 2 hd0 hz (by rfl) ?_
          exact j64 1 (by first | decide | omega)
        refine zG_if_eq hd0 hz rfl (fun hb16 => ?_) (fun hb16 => ?_)
        · exact j59
        · refine zG_blk (c' := (52, [.inr (.inr (some 76)), .inl a1, .inl a2, .inl v1, .inl v2, .inl v3, .inl x8, zN], [.inl 1, .inl v3, .inr (.inr (some 22))])) 5 hd0 hz (by rfl) ?_
          refine zG_call hd0 hz zp_106 rfl rfl (Nat.le_of_ble_eq_true rfl) ⟨Nat.le_refl _, Nat.le_refl _⟩ (qw_get (by first | exact zdp hd (by decide) | omega) hC (⟨by decide, rfl, rfl⟩ : qT n 22 10 164) v3 (by first | with_reducible exact hv3 | omega) 1 (by first | decide | omega)) (fun vr M17 hr => ?_)
          obtain ⟨hq, x18, rfl, hx18⟩ := hr
          replace hq := hq.symm; subst hq
          show zG n (0, 0) d 30 (55, [.inr (.inr (some 76)), .inl a1, .inl a2, .inl v1, .inl v2, .inl v3, .inl x8, zN], [.inl x18]) M _
          refine zG_blk (c' := (56, [.inr (.inr (some 76)), .inl a1, .inl a2, .inl v1, .inl v2, .inl v3, .inl x8, zN], [.inl 1, .inl x18])) 1 hd0 hz (by rfl) ?_
          refine zG_icmp_ne hd0 hz rfl (fun hb19 => ?_) (fun hb19 => ?_)
          · refine zG_blk (c' := (64, [.inr (.inr (some 76)), .inl a1, .inl a2, .inl v1, .inl v2, .inl v3, .inl x8, zN], [.inl 0])) 1 hd0 hz (by rfl) ?_
            exact j64 0 (by first | decide | omega)
          · exact j59
  exact j8 ((10 - 0 : Int).toNat + 1) (-1) (-1) 0 (by first | decide | omega) (by omega) (by omega) (by omega)
theorem qm_29_76 {n d : Nat} {M : zM} (hd : 3 ≤ d) (hC : qCI M) (a1 : Int) (ha1 : (-2147483648) ≤ a1 ∧ a1 ≤ 2147483647) (a2 : Int) (ha2 : (-2147483648) ≤ a2 ∧ a2 ≤ 2147483647) : qOkP n d 29 [.inr (.inr (some 76)), .inl a1, .inl a2] 5 M (qRi (fun x => (-2147483648) ≤ x ∧ x ≤ 2147483647)) := by
  have hz := zp_29
  have hd0 : 0 < d := by omega
  show zG n (0, 0) d 29 (0, [.inr (.inr (some 76)), .inl a1, .inl a2, zN, zN], []) M _
  refine zG_blk (c' := (3, [.inr (.inr (some 76)), .inl a1, .inl a2, zN, zN], [.inl 1, .inl a2, .inr (.inr (some 76))])) 3 hd0 hz (by rfl) ?_
  refine zG_call hd0 hz zp_30 rfl rfl (Nat.le_of_ble_eq_true rfl) ⟨Nat.le_refl _, Nat.le_refl _⟩ (qm_30_76 (by first | exact zdp hd (by decide) | omega) hC  a2 (by first | with_reducible exact ha2 | omega) 1 (by first | decide | omega)) (fun vr M1 hr => ?_)
  obtain ⟨hq, x2, rfl, hx2⟩ := hr
  replace hq := hq.symm; subst hq
  show zG n (0, 0) d 29 (6, [.inr (.inr (some 76)), .inl a1, .inl a2, zN, zN], [.inl x2]) M _
  refine zG_blk (c' := (9, [.inr (.inr (some 76)), .inl a1, .inl a2, .inl x2, zN], [.inl (-1), .inl x2])) 3 hd0 hz (by rfl) ?_
  refine zG_icmp_eq hd0 hz rfl (fun hb3 => ?_) (fun hb3 => ?_)
  · refine zG_blk (c' := (23, [.inr (.inr (some 76)), .inl a1, .inl a2, .inl x2, zN], [.inl 1, .inl a1, .inr (.inr (some 12))])) 5 hd0 hz (by rfl) ?_
    refine zG_call hd0 hz zp_106 rfl rfl (Nat.le_of_ble_eq_true rfl) ⟨Nat.le_refl _, Nat.le_refl _⟩ (qw_get (by first | exact zdp hd (by decide) | omega) hC (⟨by decide, rfl, rfl⟩ : qT n 12 20 3) a1 (by first | with_reducible exact ha1 | omega) 1 (by first | decide | omega)) (fun vr M4 hr => ?_)
    obtain ⟨hq, x5, rfl, hx5⟩ := hr
    replace hq := hq.symm; subst hq
    show zG n (0, 0) d 29 (26, [.inr (.inr (some 76)), .inl a1, .inl a2, .inl x2, zN], [.inl x5]) M _
    refine zG_blk (c' := (31, [.inr (.inr (some 76)), .inl a1, .inl a2, .inl x2, .inl x5], [.inl (-1), .inl x5])) 3 hd0 hz (by rfl) ?_
    have j56 : ∀ (v6 : Int) , (-2147483648) ≤ v6 ∧ v6 ≤ 2147483647 → zG n (0, 0) d 29 (56, [.inr (.inr (some 76)), .inl a1, .inl a2, .inl x2, .inl x5], [.inl v6]) M (fun v M' => M' = M ∧ qRi (fun x => (-2147483648) ≤ x ∧ x ≤ 2147483647) v) := by
      intro v6 hv6
      exact zG_ret hd0 hz rfl rfl ⟨rfl, _, rfl, by omega⟩
    refine zG_icmp_eq hd0 hz rfl (fun hb7 => ?_) (fun hb7 => ?_)
    · refine zG_blk (c' := (49, [.inr (.inr (some 76)), .inl a1, .inl a2, .inl x2, .inl x5], [.inl 0, .inl a1, .inr (.inr (some 12)), .inr (.inr (some 76))])) 6 hd0 hz (by rfl) ?_
      refine zG_call hd0 hz zp_106 rfl rfl (Nat.le_of_ble_eq_true rfl) ⟨Nat.le_refl _, Nat.le_refl _⟩ (qw_get (by first | exact zdp hd (by decide) | omega) hC (⟨by decide, rfl, rfl⟩ : qT n 12 20 3) a1 (by first | with_reducible exact ha1 | omega) 0 (by first | decide | omega)) (fun vr M8 hr => ?_)
      obtain ⟨hq, x9, rfl, hx9⟩ := hr
      replace hq := hq.symm; subst hq
      show zG n (0, 0) d 29 (52, [.inr (.inr (some 76)), .inl a1, .inl a2, .inl x2, .inl x5], [.inl x9, .inr (.inr (some 76))]) M _
      refine zG_blk (c' := (53, [.inr (.inr (some 76)), .inl a1, .inl a2, .inl x2, .inl x5], [.inl 0, .inl x9, .inr (.inr (some 76))])) 1 hd0 hz (by rfl) ?_
      refine zG_call hd0 hz zp_30 rfl rfl (Nat.le_of_ble_eq_true rfl) ⟨Nat.le_refl _, Nat.le_refl _⟩ (qm_30_76 (by first | exact zdp hd (by decide) | omega) hC  x9 (by omega) 0 (by first | decide | omega)) (fun vr M10 hr => ?_)
      obtain ⟨hq, x11, rfl, hx11⟩ := hr
      replace hq := hq.symm; subst hq
      show zG n (0, 0) d 29 (56, [.inr (.inr (some 76)), .inl a1, .inl a2, .inl x2, .inl x5], [.inl x11]) M _
      exact j56 x11 (by omega)
    · refine zG_blk (c' := (56, [.inr (.inr (some 76)), .inl a1, .inl a2, .inl x2, .inl x5], [.inl x5])) 2 hd0 hz (by rfl) ?_
      exact j56 x5 (by omega)
  · refine zG_blk (c' := (13, [.inr (.inr (some 76)), .inl a1, .inl a2, .inl x2, zN], [.inl x2])) 1 hd0 hz (by rfl) ?_
    exact zG_ret hd0 hz rfl rfl ⟨rfl, _, rfl, by omega⟩
theorem qm_298_74 {n d : Nat} {M : zM} (hd : 1 ≤ d) (hC : qCI M) (a1 : Int) : qOkM n d 298 [.inr (.inr (some 74)), .inr (.inl (a1))] 5 qCI [74] M qRn := by
  have hz := zp_298
  have hd0 : 0 < d := by omega
  have hW : qFr [74] M M := qFr.rfl
  show zG n (0, 0) d 298 (0, [.inr (.inr (some 74)), .inr (.inl (a1)), zN, zN, zN], []) M _
  refine zG_blk (c' := (6, [.inr (.inr (some 74)), .inr (.inl (a1)), zN, .inl 0, .inl 15], [])) 5 hd0 hz (by rfl) ?_
  have j6 : ∀ (N : Nat) (v1 : Int) (M2 : zM) , (15 - v1 : Int).toNat < N → 0 ≤ v1 ∧ v1 ≤ 15 → qCI M2 → qFr [74] M M2 → zG n (0, 0) d 298 (6, [.inr (.inr (some 74)), .inr (.inl (a1)), zN, .inl v1, .inl 15], []) M2 (fun v M' => qWf qCI [74] M M' ∧ qRn v) := by
    intro N
    induction N with
    | zero => intro v1 M2 hN hv1 hCM2 hWM2; exact absurd hN (Nat.not_lt_zero _)
    | succ N ih6 =>
      intro v1 M2 hN hv1 hCM2 hWM2
      refine zG_blk (c' := (9, [.inr (.inr (some 74)), .inr (.inl (a1)), zN, .inl v1, .inl 15], [.inl 15, .inl v1])) 2 hd0 hz (by rfl) ?_
      refine zG_icmp_ge hd0 hz rfl (fun hb3 => ?_) (fun hb3 => ?_)
      · exact zG_ret hd0 hz rfl rfl ⟨⟨hCM2, hWM2⟩, rfl⟩
      · refine zG_blk (c' := (15, [.inr (.inr (some 74)), .inr (.inl (a1)), zN, .inl v1, .inl 15], [.inr (.inl (a1)), .inl v1, .inr (.inr (some 74))])) 3 hd0 hz (by rfl) ?_
        refine zG_last hd0 hz rfl rfl (by omega) ?_
        obtain ⟨M4, hM4⟩ : ∃ X : zM, X = zput M2 74 (v1 : Int).toNat a1 := ⟨_, rfl⟩
        rw [← hM4]
        have hCM4 : qCI M4 := by rw [hM4]; exact hCM2.put (r := 74) rfl (.inr (.inl (by decide)))
        have hWM4 : qFr [74] M M4 := by rw [hM4]; exact hWM2.put (by decide)
        show zG n (0, 0) d 298 (16, [.inr (.inr (some 74)), .inr (.inl (a1)), zN, .inl v1, .inl 15], []) M4 _
        obtain ⟨x5, hx5⟩ : ∃ x : Int, x = w32 (v1 + 1) := ⟨_, rfl⟩
        have hx5e : x5 = v1 + 1 := by rw [hx5]; exact w32_id (by omega)
        refine zG_blk (c' := (6, [.inr (.inr (some 74)), .inr (.inl (a1)), zN, .inl x5, .inl 15], [])) 2 hd0 hz (by subst hx5; rfl) ?_
        exact ih6 x5 M4 (by omega) (by omega) hCM4 hWM4
  exact j6 ((15 - 0 : Int).toNat + 1) 0 M (by omega) (by omega) hC hW
theorem qm_56_72 {n d : Nat} {M : zM} (hd : 2 ≤ d) (hC : qCI M)  : qOkM n d 56 [.inr (.inr (some 72))] 1 qCI [72, 74] M qRn := by
  have hz := zp_56
  have hd0 : 0 < d := by omega
  have hW : qFr [72, 74] M M := qFr.rfl
  show zG n (0, 0) d 56 (0, [.inr (.inr (some 72))], []) M _
  refine zG_blk (c' := (5, [.inr (.inr (some 72))], [.inr (.inl (0)), .inr (.inr (some 74))])) 3 hd0 hz (by rfl) ?_
  refine zG_call hd0 hz zp_298 rfl rfl (Nat.le_of_ble_eq_true rfl) ⟨Nat.le_refl _, Nat.le_refl _⟩ (qm_298_74 (by first | exact zdp hd (by decide) | omega) hC  0) (fun vr M1 hr => ?_)
  obtain ⟨⟨hCM1, hFM1⟩, rfl⟩ := hr
  have hWM1 : qFr [72, 74] M M1 := hW.tr hFM1 (by decide)
  show zG n (0, 0) d 56 (8, [.inr (.inr (some 72))], []) M1 _
  refine zG_blk (c' := (10, [.inr (.inr (some 72))], [.inl 0, .inr (.inr (some 72))])) 2 hd0 hz (by rfl) ?_
  refine zG_putf (.inl rfl) hd0 hz rfl (by decide) rfl rfl ?_
  obtain ⟨M3, hM3⟩ : ∃ X : zM, X = zput M1 72 3 0 := ⟨_, rfl⟩
  rw [← hM3]
  have hCM3 : qCI M3 := by rw [hM3]; exact hCM1.putRk (by omega)
  have hWM3 : qFr [72, 74] M M3 := by rw [hM3]; exact hWM1.put (by decide)
  have e4 : M3 72 3 = 0 := by rw [hM3]; exact qput_eq
  show zG n (0, 0) d 56 (13, [.inr (.inr (some 72))], []) M3 _
  exact zG_ret hd0 hz rfl rfl ⟨⟨hCM3, hWM3⟩, rfl⟩
theorem qm_57_72 {n d : Nat} {M : zM} (hd : 1 ≤ d) (hC : qCI M) (a1 : Int) (ha1 : (-2147483648) ≤ a1 ∧ a1 ≤ 2147483647) (a2 : Int) : qOkM n d 57 [.inr (.inr (some 72)), .inl a1, .inr (.inl (a2))] 4 qCI [74] M qRn := by
  have hz := zp_57
  have hd0 : 0 < d := by omega
  have hW : qFr [74] M M := qFr.rfl
  show zG n (0, 0) d 57 (0, [.inr (.inr (some 72)), .inl a1, .inr (.inl (a2)), zN], []) M _
  refine zG_blk (c' := (1, [.inr (.inr (some 72)), .inl a1, .inr (.inl (a2)), zN], [.inl a1])) 1 hd0 hz (by rfl) ?_
  have j20 : ∀ (M1 : zM) , qCI M1 → qFr [74] M M1 → zG n (0, 0) d 57 (20, [.inr (.inr (some 72)), .inl a1, .inr (.inl (a2)), zN], []) M1 (fun v M' => qWf qCI [74] M M' ∧ qRn v) := by
    intro M1 hCM1 hWM1
    exact zG_ret hd0 hz rfl rfl ⟨⟨hCM1, hWM1⟩, rfl⟩
  refine zG_if_lt hd0 hz rfl (fun hb2 => ?_) (fun hb2 => ?_)
  · exact j20 M hC hW
  · refine zG_blk (c' := (10, [.inr (.inr (some 72)), .inl a1, .inr (.inl (a2)), zN], [.inl 15, .inl a1])) 4 hd0 hz (by rfl) ?_
    refine zG_icmp_ge hd0 hz rfl (fun hb3 => ?_) (fun hb3 => ?_)
    · exact j20 M hC hW
    · refine zG_blk (c' := (19, [.inr (.inr (some 72)), .inl a1, .inr (.inl (a2)), zN], [.inr (.inl (a2)), .inl a1, .inr (.inr (some 74))])) 4 hd0 hz (by rfl) ?_
      refine zG_last hd0 hz rfl rfl (by omega) ?_
      obtain ⟨M4, hM4⟩ : ∃ X : zM, X = zput M 74 (a1 : Int).toNat a2 := ⟨_, rfl⟩
      rw [← hM4]
      have hCM4 : qCI M4 := by rw [hM4]; exact hC.put (r := 74) rfl (.inr (.inl (by decide)))
      have hWM4 : qFr [74] M M4 := by rw [hM4]; exact hW.put (by decide)
      show zG n (0, 0) d 57 (20, [.inr (.inr (some 72)), .inl a1, .inr (.inl (a2)), zN], []) M4 _
      exact j20 M4 hCM4 hWM4
