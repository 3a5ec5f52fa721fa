theorem qm_289_97 {n d : Nat} {M : zM} (hd : 2 ≤ d) (hC : qMI M)  (a1 : Int) (ha1 : (-2147483648) ≤ a1 ∧ a1 ≤ 2147483647) (a2 : Int) (ha2 : (-2147483648) ≤ a2 ∧ a2 ≤ 2147483647) : qOkP n d 289 [.inr (.inr (some 97)), .inl a1, .inl a2] 7 M (fun v => ∃ x : Int, v = some (.inl x) ∧ ((-2147483648) ≤ x ∧ x ≤ 2147483647)) := by
  have hz := zp_289
  have hd0 : 0 < d := by omega
  have r1 := hC.cnt6
  show zG n (0, 0) d 289 (0, [.inr (.inr (some 97)), .inl a1, .inl a2, zN, zN, zN, zN], []) M _
  refine zG_blk (c' := (5, [.inr (.inr (some 97)), .inl a1, .inl a2, zN, zN, zN, zN], [.inl 12000, .inl 0, .inl a1])) 3 hd0 hz (by rfl) ?_
  refine zG_call hd0 hz zp_180 rfl rfl (Nat.le_of_ble_eq_true rfl) ⟨Nat.le_refl _, Nat.le_refl _⟩ (qx_in (by first | exact zdp hd (by decide) | omega) hC   a1 (by first | with_reducible exact ha1 | omega) 0 (by first | decide | omega) 12000 (by first | decide | omega) ) (fun vr M2 hr => ?_)
  obtain ⟨hq, x3, rfl, hx3⟩ := hr
  replace hq := hq.symm; subst hq
  show zG n (0, 0) d 289 (8, [.inr (.inr (some 97)), .inl a1, .inl a2, zN, zN, zN, zN], [.inl x3]) M _
  have j20 : zG n (0, 0) d 289 (20, [.inr (.inr (some 97)), .inl a1, .inl a2, zN, zN, zN, zN], []) M (fun v M' => M' = M ∧ ∃ x : Int, v = some (.inl x) ∧ ((-2147483648) ≤ x ∧ x ≤ 2147483647)) := by
    refine zG_blk (c' := (22, [.inr (.inr (some 97)), .inl a1, .inl a2, zN, zN, zN, zN], [.inl (-2)])) 1 hd0 hz (by rfl) ?_
    exact zG_ret hd0 hz rfl rfl ⟨rfl, _, rfl, by omega⟩
  refine zG_if_eq hd0 hz rfl (fun hb4 => ?_) (fun hb4 => ?_)
  · exact j20
  · have hcx3 := hx3.2.2.mp (by omega)
    clear hx3 hb4
    refine zG_blk (c' := (14, [.inr (.inr (some 97)), .inl a1, .inl a2, zN, zN, zN, zN], [.inl 1, .inl 0, .inl a2])) 3 hd0 hz (by rfl) ?_
    refine zG_call hd0 hz zp_180 rfl rfl (Nat.le_of_ble_eq_true rfl) ⟨Nat.le_refl _, Nat.le_refl _⟩ (qx_in (by first | exact zdp hd (by decide) | omega) hC   a2 (by first | with_reducible exact ha2 | omega) 0 (by first | decide | omega) 1 (by first | decide | omega) ) (fun vr M5 hr => ?_)
    obtain ⟨hq, x6, rfl, hx6⟩ := hr
    replace hq := hq.symm; subst hq
    show zG n (0, 0) d 289 (17, [.inr (.inr (some 97)), .inl a1, .inl a2, zN, zN, zN, zN], [.inl x6]) M _
    refine zG_if_ne hd0 hz rfl (fun hb7 => ?_) (fun hb7 => ?_)
    · have hcx6 := hx6.2.2.mp (by omega)
      clear hx6 hb7
      refine zG_blk (c' := (31, [.inr (.inr (some 97)), .inl a1, .inl a2, .inl (-1), .inl 0, .inl 0, zN], [])) 6 hd0 hz (by rfl) ?_
      have j31 : ∀ (N : Nat) (v8 v9 v10 : Int) , (4096 - v10 : Int).toNat < N → (-1) ≤ v8 ∧ v8 ≤ 5663 → (-2147483648) ≤ v9 ∧ v9 ≤ 2147483647 → 0 ≤ v10 ∧ v10 ≤ 5663 → zG n (0, 0) d 289 (31, [.inr (.inr (some 97)), .inl a1, .inl a2, .inl v8, .inl v9, .inl v10, zN], []) M (fun v M' => M' = M ∧ ∃ x : Int, v = some (.inl x) ∧ ((-2147483648) ≤ x ∧ x ≤ 2147483647)) := by
        intro N
        induction N with
        | zero => intro v8 v9 v10 hN hv8 hv9 hv10; exact absurd hN (Nat.not_lt_zero _)
        | succ N ih31 =>
          intro v8 v9 v10 hN hv8 hv9 hv10
          refine zG_blk (c' := (40, [.inr (.inr (some 97)), .inl a1, .inl a2, .inl v8, .inl v9, .inl v10, zN], [.inl 6, .inr (.inr (some 98)), .inl 1, .inl v10])) 5 hd0 hz (by rfl) ?_
          refine zG_iald hd0 hz rfl rfl (.inl rfl) (by omega) ?_
          show zG n (0, 0) d 289 (41, [.inr (.inr (some 97)), .inl a1, .inl a2, .inl v8, .inl v9, .inl v10, zN], [.inl (M 98 6), .inl 1, .inl v10]) M _
          obtain ⟨x11, hx11⟩ : ∃ x : Int, x = zbshl 1 (M 98 6) := ⟨_, rfl⟩
          have hx11r := qshl1_in (M 98 6) 4096 12 (by decide) (by decide) (by omega); rw [← hx11] at hx11r
          refine zG_blk (c' := (42, [.inr (.inr (some 97)), .inl a1, .inl a2, .inl v8, .inl v9, .inl v10, zN], [.inl x11, .inl v10])) 1 hd0 hz (by subst hx11; rfl) ?_
          refine zG_icmp_ge hd0 hz rfl (fun hb12 => ?_) (fun hb12 => ?_)
          · refine zG_blk (c' := (120, [.inr (.inr (some 97)), .inl a1, .inl a2, .inl v8, .inl v9, .inl v10, zN], [.inl a2])) 1 hd0 hz (by rfl) ?_
            have j134 : ∀ (v13 : Int) , (-2147483648) ≤ v13 ∧ v13 ≤ 2147483647 → zG n (0, 0) d 289 (134, [.inr (.inr (some 97)), .inl a1, .inl a2, .inl v8, .inl v9, .inl v10, zN], [.inl v13]) M (fun v M' => M' = M ∧ ∃ x : Int, v = some (.inl x) ∧ ((-2147483648) ≤ x ∧ x ≤ 2147483647)) := by
              intro v13 hv13
              exact zG_ret hd0 hz rfl rfl ⟨rfl, _, rfl, by omega⟩
            have j128 : zG n (0, 0) d 289 (128, [.inr (.inr (some 97)), .inl a1, .inl a2, .inl v8, .inl v9, .inl v10, zN], []) M (fun v M' => M' = M ∧ ∃ x : Int, v = some (.inl x) ∧ ((-2147483648) ≤ x ∧ x ≤ 2147483647)) := by
              refine zG_blk (c' := (134, [.inr (.inr (some 97)), .inl a1, .inl a2, .inl v8, .inl v9, .inl v10, zN], [.inl v8])) 2 hd0 hz (by rfl) ?_
              exact j134 v8 (by first | with_reducible exact hv8 | omega)
            refine zG_if_eq hd0 hz rfl (fun hb14 => ?_) (fun hb14 => ?_)
            · exact j128
            · refine zG_blk (c' := (125, [.inr (.inr (some 97)), .inl a1, .inl a2, .inl v8, .inl v9, .inl v10, zN], [.inl (-1), .inl v8])) 2 hd0 hz (by rfl) ?_
              refine zG_icmp_ne hd0 hz rfl (fun hb15 => ?_) (fun hb15 => ?_)
              · refine zG_blk (c' := (134, [.inr (.inr (some 97)), .inl a1, .inl a2, .inl v8, .inl v9, .inl v10, zN], [.inl v9])) 1 hd0 hz (by rfl) ?_
                exact j134 v9 (by first | with_reducible exact hv9 | omega)
              · exact j128
          · refine zG_blk (c' := (48, [.inr (.inr (some 97)), .inl a1, .inl a2, .inl v8, .inl v9, .inl v10, zN], [.inl v10, .inr (.inr (some 97))])) 2 hd0 hz (by rfl) ?_
            refine zG_call hd0 hz zp_288 rfl rfl (Nat.le_of_ble_eq_true rfl) ⟨Nat.le_refl _, Nat.le_refl _⟩ (qm_288_97 (by first | exact zdp hd (by decide) | omega) hC   v10 (by first | with_reducible exact hv10 | omega) ) (fun vr M16 hr => ?_)
            obtain ⟨hq, x17, rfl, hx17⟩ := hr
            replace hq := hq.symm; subst hq
            show zG n (0, 0) d 289 (51, [.inr (.inr (some 97)), .inl a1, .inl a2, .inl v8, .inl v9, .inl v10, zN], [.inl x17]) M _
            refine zG_blk (c' := (52, [.inr (.inr (some 97)), .inl a1, .inl a2, .inl v8, .inl v9, .inl v10, zN], [.inl a1, .inl x17])) 1 hd0 hz (by rfl) ?_
            have j113 : ∀ (v18 v19 : Int) , (-1) ≤ v18 ∧ v18 ≤ 5663 → (-2147483648) ≤ v19 ∧ v19 ≤ 2147483647 → zG n (0, 0) d 289 (113, [.inr (.inr (some 97)), .inl a1, .inl a2, .inl v18, .inl v19, .inl v10, zN], []) M (fun v M' => M' = M ∧ ∃ x : Int, v = some (.inl x) ∧ ((-2147483648) ≤ x ∧ x ≤ 2147483647)) := by
              intro v18 v19 hv18 hv19
              obtain ⟨x20, hx20⟩ : ∃ x : Int, x = w32 (v10 + 1) := ⟨_, rfl⟩
              have hx20e : x20 = v10 + 1 := by rw [hx20]; exact w32_id (by omega)
              refine zG_blk (c' := (31, [.inr (.inr (some 97)), .inl a1, .inl a2, .inl v18, .inl v19, .inl x20, zN], [])) 2 hd0 hz (by subst hx20; rfl) ?_
              exact ih31 v18 v19 x20 (by omega) (by omega) (by omega) (by omega)
            refine zG_icmp_ne hd0 hz rfl (fun hb21 => ?_) (fun hb21 => ?_)
            · exact j113 v8 v9 (by first | with_reducible exact hv9 | omega) (by omega)
            · refine zG_blk (c' := (57, [.inr (.inr (some 97)), .inl a1, .inl a2, .inl v8, .inl v9, .inl v10, zN], [.inl (-1), .inl v8])) 2 hd0 hz (by rfl) ?_
              have j74 : ∀ (v22 : Int) , (-31) ≤ v22 ∧ v22 ≤ 31 → zG n (0, 0) d 289 (74, [.inr (.inr (some 97)), .inl a1, .inl a2, .inl v8, .inl v9, .inl v10, zN], [.inl v22]) M (fun v M' => M' = M ∧ ∃ x : Int, v = some (.inl x) ∧ ((-2147483648) ≤ x ∧ x ≤ 2147483647)) := by
                intro v22 hv22
                refine zG_blk (c' := (78, [.inr (.inr (some 97)), .inl a1, .inl a2, .inl v8, .inl v9, .inl v10, .inl v22], [.inl v22])) 2 hd0 hz (by rfl) ?_
                have j99 : ∀ (v23 : Int) , (-2147483648) ≤ v23 ∧ v23 ≤ 2147483647 → zG n (0, 0) d 289 (99, [.inr (.inr (some 97)), .inl a1, .inl a2, .inl v8, .inl v9, .inl v10, .inl v22], [.inl v23]) M (fun v M' => M' = M ∧ ∃ x : Int, v = some (.inl x) ∧ ((-2147483648) ≤ x ∧ x ≤ 2147483647)) := by
                  intro v23 hv23
                  refine zG_blk (c' := (103, [.inr (.inr (some 97)), .inl a1, .inl a2, .inl v8, .inl v23, .inl v10, .inl v22], [.inl v22])) 2 hd0 hz (by rfl) ?_
                  have j112 : ∀ (v24 : Int) , (-1) ≤ v24 ∧ v24 ≤ 5663 → zG n (0, 0) d 289 (112, [.inr (.inr (some 97)), .inl a1, .inl a2, .inl v8, .inl v23, .inl v10, .inl v22], [.inl v24]) M (fun v M' => M' = M ∧ ∃ x : Int, v = some (.inl x) ∧ ((-2147483648) ≤ x ∧ x ≤ 2147483647)) := by
                    intro v24 hv24
                    refine zG_blk (c' := (113, [.inr (.inr (some 97)), .inl a1, .inl a2, .inl v24, .inl v23, .inl v10, .inl v22], [])) 1 hd0 hz (by rfl) ?_
                    exact zG_weak (j113 v24 v23 (by first | with_reducible exact hv23 | omega) (by omega)) ⟨.inr rfl, .inr rfl, .inr rfl, .inr rfl, .inr rfl, .inr rfl, .inl rfl, trivial⟩
                  refine zG_if_ge hd0 hz rfl (fun hb25 => ?_) (fun hb25 => ?_)
                  · refine zG_blk (c' := (112, [.inr (.inr (some 97)), .inl a1, .inl a2, .inl v8, .inl v23, .inl v10, .inl v22], [.inl v8])) 1 hd0 hz (by rfl) ?_
                    exact j112 v8 (by first | with_reducible exact hv8 | omega)
                  · refine zG_blk (c' := (112, [.inr (.inr (some 97)), .inl a1, .inl a2, .inl v8, .inl v23, .inl v10, .inl v22], [.inl v10])) 2 hd0 hz (by rfl) ?_
                    exact j112 v10 (by first | with_reducible exact hv10 | omega)
                refine zG_if_ge hd0 hz rfl (fun hb26 => ?_) (fun hb26 => ?_)
                · refine zG_blk (c' := (87, [.inr (.inr (some 97)), .inl a1, .inl a2, .inl v8, .inl v9, .inl v10, .inl v22], [.inl v22])) 1 hd0 hz (by rfl) ?_
                  refine zG_if_ne hd0 hz rfl (fun hb27 => ?_) (fun hb27 => ?_)
                  · refine zG_blk (c' := (99, [.inr (.inr (some 97)), .inl a1, .inl a2, .inl v8, .inl v9, .inl v10, .inl v22], [.inl v9])) 1 hd0 hz (by rfl) ?_
                    exact j99 v9 (by first | with_reducible exact hv9 | omega)
                  · obtain ⟨x28, hx28⟩ : ∃ x : Int, x = w32 (v9 + 1) := ⟨_, rfl⟩
                    have hx28r : x28 = (v9 + 1 + 2147483648) % 4294967296 - 2147483648 := hx28
                    refine zG_blk (c' := (99, [.inr (.inr (some 97)), .inl a1, .inl a2, .inl v8, .inl v9, .inl v10, .inl v22], [.inl x28])) 4 hd0 hz (by subst hx28; rfl) ?_
                    exact j99 x28 (by omega)
                · refine zG_blk (c' := (99, [.inr (.inr (some 97)), .inl a1, .inl a2, .inl v8, .inl v9, .inl v10, .inl v22], [.inl 0])) 2 hd0 hz (by rfl) ?_
                  exact j99 0 (by first | decide | omega)
              refine zG_icmp_ne hd0 hz rfl (fun hb29 => ?_) (fun hb29 => ?_)
              · refine zG_blk (c' := (66, [.inr (.inr (some 97)), .inl a1, .inl a2, .inl v8, .inl v9, .inl v10, zN], [.inl v10])) 1 hd0 hz (by rfl) ?_
                refine zG_call hd0 hz zp_186 rfl rfl (Nat.le_of_ble_eq_true rfl) ⟨Nat.le_refl _, Nat.le_refl _⟩ (qx_sizeOf (by first | exact zdp hd (by decide) | omega) hC   v10 (by first | with_reducible exact hv10 | omega) ) (fun vr M30 hr => ?_)
                obtain ⟨hq, x31, rfl, hx31⟩ := hr
                replace hq := hq.symm; subst hq
                show zG n (0, 0) d 289 (69, [.inr (.inr (some 97)), .inl a1, .inl a2, .inl v8, .inl v9, .inl v10, zN], [.inl x31]) M _
                refine zG_blk (c' := (70, [.inr (.inr (some 97)), .inl a1, .inl a2, .inl v8, .inl v9, .inl v10, zN], [.inl v8, .inl x31])) 1 hd0 hz (by rfl) ?_
                refine zG_call hd0 hz zp_186 rfl rfl (Nat.le_of_ble_eq_true rfl) ⟨Nat.le_refl _, Nat.le_refl _⟩ (qx_sizeOf (by first | exact zdp hd (by decide) | omega) hC   v8 (by first | with_reducible exact hv8 | omega) ) (fun vr M32 hr => ?_)
                obtain ⟨hq, x33, rfl, hx33⟩ := hr
                replace hq := hq.symm; subst hq
                show zG n (0, 0) d 289 (73, [.inr (.inr (some 97)), .inl a1, .inl a2, .inl v8, .inl v9, .inl v10, zN], [.inl x33, .inl x31]) M _
                obtain ⟨x34, hx34⟩ : ∃ x : Int, x = w32 (x31 - x33) := ⟨_, rfl⟩
                have hx34e : x34 = x31 - x33 := by rw [hx34]; exact w32_id (by omega)
                refine zG_blk (c' := (74, [.inr (.inr (some 97)), .inl a1, .inl a2, .inl v8, .inl v9, .inl v10, zN], [.inl x34])) 1 hd0 hz (by subst hx34; rfl) ?_
                exact j74 x34 (by omega)
              · refine zG_blk (c' := (74, [.inr (.inr (some 97)), .inl a1, .inl a2, .inl v8, .inl v9, .inl v10, zN], [.inl (-1)])) 2 hd0 hz (by rfl) ?_
                exact j74 (-1) (by first | decide | omega)
      exact j31 ((4096 - 0 : Int).toNat + 1) (-1) 0 0 (by first | decide | omega) (by omega) (by omega) (by omega)
    · exact j20
