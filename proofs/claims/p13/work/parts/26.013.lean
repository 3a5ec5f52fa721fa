theorem qm_216_97 {n d : Nat} {M : zM} (hd : 3 ≤ d) (hC : qMI M)  (a1 : Int) (ha1 : 0 ≤ a1 ∧ a1 ≤ 249) (a2 : Int) (ha2 : 0 ≤ a2 ∧ a2 ≤ 4) : qOkP n d 216 [.inr (.inr (some 97)), .inl a1, .inl a2] 8 M (fun v => ∃ x : Int, v = some (.inl x) ∧ ((-2147483648) ≤ x ∧ x ≤ 2147483647)) := by
  have hz := zp_216
  have hd0 : 0 < d := by omega
  have r1 := hC.cnt4
  show zG n (0, 0) d 216 (0, [.inr (.inr (some 97)), .inl a1, .inl a2, zN, zN, zN, zN, zN], []) M _
  refine zG_blk (c' := (4, [.inr (.inr (some 97)), .inl a1, .inl a2, zN, zN, zN, zN, zN], [.inl 7, .inl a1, .inr (.inr (some 97))])) 3 hd0 hz (by rfl) ?_
  refine zG_call hd0 hz zp_194 rfl rfl (Nat.le_of_ble_eq_true rfl) ⟨Nat.le_refl _, Nat.le_refl _⟩ (qx_act0 (by first | exact zdp hd (by decide) | omega) hC   a1 (by first | with_reducible exact ha1 | omega) 7 (by first | decide | omega) ) (fun vr M2 hr => ?_)
  obtain ⟨hq, x3, rfl, hx3⟩ := hr
  replace hq := hq.symm; subst hq
  show zG n (0, 0) d 216 (7, [.inr (.inr (some 97)), .inl a1, .inl a2, zN, zN, zN, zN, zN], [.inl x3]) M _
  refine zG_blk (c' := (9, [.inr (.inr (some 97)), .inl a1, .inl a2, .inl x3, zN, zN, zN, zN], [.inl a2])) 2 hd0 hz (by rfl) ?_
  have j22 : ∀ (v4 : Int) , (-1) ≤ v4 ∧ v4 ≤ 249 → zG n (0, 0) d 216 (22, [.inr (.inr (some 97)), .inl a1, .inl a2, .inl x3, zN, zN, zN, zN], [.inl v4]) M (fun v M' => M' = M ∧ ∃ x : Int, v = some (.inl x) ∧ ((-2147483648) ≤ x ∧ x ≤ 2147483647)) := by
    intro v4 hv4
    refine zG_blk (c' := (27, [.inr (.inr (some 97)), .inl a1, .inl a2, .inl x3, .inl v4, zN, zN, zN], [.inl (-1), .inl v4])) 3 hd0 hz (by rfl) ?_
    have j80 : ∀ (v5 : Int) , (-2147483648) ≤ v5 ∧ v5 ≤ 2147483647 → zG n (0, 0) d 216 (80, [.inr (.inr (some 97)), .inl a1, .inl a2, .inl v5, .inl v4, zN, zN, zN], []) M (fun v M' => M' = M ∧ ∃ x : Int, v = some (.inl x) ∧ ((-2147483648) ≤ x ∧ x ≤ 2147483647)) := by
      intro v5 hv5
      refine zG_blk (c' := (82, [.inr (.inr (some 97)), .inl a1, .inl a2, .inl v5, .inl v4, zN, zN, zN], [.inl 1, .inl a2])) 2 hd0 hz (by rfl) ?_
      have j95 : ∀ (v6 : Int) , (-1) ≤ v6 ∧ v6 ≤ 249 → zG n (0, 0) d 216 (95, [.inr (.inr (some 97)), .inl a1, .inl a2, .inl v5, .inl v4, zN, zN, zN], [.inl v6]) M (fun v M' => M' = M ∧ ∃ x : Int, v = some (.inl x) ∧ ((-2147483648) ≤ x ∧ x ≤ 2147483647)) := by
        intro v6 hv6
        refine zG_blk (c' := (100, [.inr (.inr (some 97)), .inl a1, .inl a2, .inl v5, .inl v4, .inl v6, zN, zN], [.inl (-1), .inl v6])) 3 hd0 hz (by rfl) ?_
        have j115 : ∀ (v7 : Int) , (-2147483648) ≤ v7 ∧ v7 ≤ 2147483647 → zG n (0, 0) d 216 (115, [.inr (.inr (some 97)), .inl a1, .inl a2, .inl v5, .inl v4, .inl v6, zN, zN], [.inl v7]) M (fun v M' => M' = M ∧ ∃ x : Int, v = some (.inl x) ∧ ((-2147483648) ≤ x ∧ x ≤ 2147483647)) := by
          intro v7 hv7
          refine zG_blk (c' := (118, [.inr (.inr (some 97)), .inl a1, .inl a2, .inl v7, .inl v4, .inl v6, zN, zN], [.inl 2, .inl a2])) 3 hd0 hz (by rfl) ?_
          have j130 : ∀ (v8 : Int) , (-1) ≤ v8 ∧ v8 ≤ 249 → (v8 ≠ -1 → v8 < M 98 4 ∧ qA M v8 0 = 3) → zG n (0, 0) d 216 (130, [.inr (.inr (some 97)), .inl a1, .inl a2, .inl v7, .inl v4, .inl v6, zN, zN], [.inl v8]) M (fun v M' => M' = M ∧ ∃ x : Int, v = some (.inl x) ∧ ((-2147483648) ≤ x ∧ x ≤ 2147483647)) := by
            intro v8 hv8 hx0_130
            refine zG_blk (c' := (135, [.inr (.inr (some 97)), .inl a1, .inl a2, .inl v7, .inl v4, .inl v6, .inl v8, zN], [.inl (-1), .inl v8])) 3 hd0 hz (by rfl) ?_
            have j188 : ∀ (v9 : Int) , (-2147483648) ≤ v9 ∧ v9 ≤ 2147483647 → zG n (0, 0) d 216 (188, [.inr (.inr (some 97)), .inl a1, .inl a2, .inl v9, .inl v4, .inl v6, .inl v8, zN], []) M (fun v M' => M' = M ∧ ∃ x : Int, v = some (.inl x) ∧ ((-2147483648) ≤ x ∧ x ≤ 2147483647)) := by
              intro v9 hv9
              refine zG_blk (c' := (198, [.inr (.inr (some 97)), .inl a1, .inl a2, .inl v9, .inl v4, .inl v6, .inl v8, zN], [.inl 5, .inl a1, .inr (.inr (some 97)), .inl 4, .inl 20, .inr (.inr (some 98))])) 7 hd0 hz (by rfl) ?_
              refine zG_call hd0 hz zp_194 rfl rfl (Nat.le_of_ble_eq_true rfl) ⟨Nat.le_refl _, Nat.le_refl _⟩ (qx_act5 (by first | exact zdp hd (by decide) | omega) hC   a1 (by first | with_reducible exact ha1 | omega) ) (fun vr M10 hr => ?_)
              obtain ⟨hq, x11, rfl, hx11⟩ := hr
              replace hq := hq.symm; subst hq
              show zG n (0, 0) d 216 (201, [.inr (.inr (some 97)), .inl a1, .inl a2, .inl v9, .inl v4, .inl v6, .inl v8, zN], [.inl x11, .inl 4, .inl 20, .inr (.inr (some 98))]) M _
              obtain ⟨x12, hx12⟩ : ∃ x : Int, x = w32 (4 * x11) := ⟨_, rfl⟩
              have hx12e : x12 = 4 * x11 := by rw [hx12]; exact w32_id (by omega)
              obtain ⟨x13, hx13⟩ : ∃ x : Int, x = w32 (20 + x12) := ⟨_, rfl⟩
              have hx13e : x13 = 20 + x12 := by rw [hx13]; exact w32_id (by omega)
              obtain ⟨x14, hx14⟩ : ∃ x : Int, x = w32 (x13 + 3) := ⟨_, rfl⟩
              have hx14e : x14 = x13 + 3 := by rw [hx14]; exact w32_id (by omega)
              refine zG_blk (c' := (205, [.inr (.inr (some 97)), .inl a1, .inl a2, .inl v9, .inl v4, .inl v6, .inl v8, zN], [.inl x14, .inr (.inr (some 98))])) 4 hd0 hz (by subst hx14; subst hx13; subst hx12; rfl) ?_
              refine zG_iald hd0 hz rfl rfl (.inl rfl) (by omega) ?_
              obtain ⟨x15, hx15⟩ : ∃ x : Int, x = M 98 (x14 : Int).toNat := ⟨_, rfl⟩
              rw [← hx15]
              have hx15r : qin x15 := by rw [hx15]; exact hC.sin _
              show zG n (0, 0) d 216 (206, [.inr (.inr (some 97)), .inl a1, .inl a2, .inl v9, .inl v4, .inl v6, .inl v8, zN], [.inl x15]) M _
              refine zG_blk (c' := (210, [.inr (.inr (some 97)), .inl a1, .inl a2, .inl v9, .inl v4, .inl v6, .inl v8, .inl x15], [.inl 3, .inl a2])) 3 hd0 hz (by rfl) ?_
              have j233 : ∀ (v16 : Int) , (-2147483648) ≤ v16 ∧ v16 ≤ 2147483647 → zG n (0, 0) d 216 (233, [.inr (.inr (some 97)), .inl a1, .inl a2, .inl v9, .inl v4, .inl v6, .inl v8, .inl x15], [.inl v16]) M (fun v M' => M' = M ∧ ∃ x : Int, v = some (.inl x) ∧ ((-2147483648) ≤ x ∧ x ≤ 2147483647)) := by
                intro v16 hv16
                exact zG_ret hd0 hz rfl rfl ⟨rfl, _, rfl, by omega⟩
              have j232 : zG n (0, 0) d 216 (232, [.inr (.inr (some 97)), .inl a1, .inl a2, .inl v9, .inl v4, .inl v6, .inl v8, .inl x15], []) M (fun v M' => M' = M ∧ ∃ x : Int, v = some (.inl x) ∧ ((-2147483648) ≤ x ∧ x ≤ 2147483647)) := by
                refine zG_blk (c' := (233, [.inr (.inr (some 97)), .inl a1, .inl a2, .inl v9, .inl v4, .inl v6, .inl v8, .inl x15], [.inl v9])) 1 hd0 hz (by rfl) ?_
                exact j233 v9 (by first | with_reducible exact hv9 | omega)
              refine zG_icmp_le hd0 hz rfl (fun hb17 => ?_) (fun hb17 => ?_)
              · exact j232
              · refine zG_blk (c' := (216, [.inr (.inr (some 97)), .inl a1, .inl a2, .inl v9, .inl v4, .inl v6, .inl v8, .inl x15], [.inl x15, .inl v9])) 2 hd0 hz (by rfl) ?_
                refine zG_icmp_le hd0 hz rfl (fun hb18 => ?_) (fun hb18 => ?_)
                · exact j232
                · refine zG_blk (c' := (221, [.inr (.inr (some 97)), .inl a1, .inl a2, .inl v9, .inl v4, .inl v6, .inl v8, .inl x15], [.inl a1, .inr (.inr (some 97))])) 2 hd0 hz (by rfl) ?_
                  refine zG_call hd0 hz zp_215 rfl rfl (Nat.le_of_ble_eq_true rfl) ⟨Nat.le_refl _, Nat.le_refl _⟩ (qm_215_97 (by first | exact zdp hd (by decide) | omega) hC   a1 (by first | with_reducible exact ha1 | omega) ) (fun vr M19 hr => ?_)
                  obtain ⟨hq, x20, rfl, hx20⟩ := hr
                  replace hq := hq.symm; subst hq
                  show zG n (0, 0) d 216 (224, [.inr (.inr (some 97)), .inl a1, .inl a2, .inl v9, .inl v4, .inl v6, .inl v8, .inl x15], [.inl x20]) M _
                  refine zG_if_eq hd0 hz rfl (fun hb21 => ?_) (fun hb21 => ?_)
                  · exact j232
                  · refine zG_blk (c' := (233, [.inr (.inr (some 97)), .inl a1, .inl a2, .inl v9, .inl v4, .inl v6, .inl v8, .inl x15], [.inl x15])) 2 hd0 hz (by rfl) ?_
                    exact j233 x15 (by omega)
            refine zG_icmp_eq hd0 hz rfl (fun hb22 => ?_) (fun hb22 => ?_)
            · exact j188 v7 (by first | with_reducible exact hv7 | omega)
            · have hrel := hC.rel v8 (by first | with_reducible exact hv8 | omega) (by omega)
              refine zG_blk (c' := (144, [.inr (.inr (some 97)), .inl a1, .inl a2, .inl v7, .inl v4, .inl v6, .inl v8, zN], [.inl 9, .inl v8, .inr (.inr (some 97)), .inl v7])) 4 hd0 hz (by rfl) ?_
              refine zG_call hd0 hz zp_194 rfl rfl (Nat.le_of_ble_eq_true rfl) ⟨Nat.le_refl _, Nat.le_refl _⟩ (qx_act0 (by first | exact zdp hd (by decide) | omega) hC   v8 (by first | with_reducible exact hv8 | omega) 9 (by first | decide | omega) ) (fun vr M23 hr => ?_)
              obtain ⟨hq, x24, rfl, hx24⟩ := hr
              replace hq := hq.symm; subst hq
              show zG n (0, 0) d 216 (147, [.inr (.inr (some 97)), .inl a1, .inl a2, .inl v7, .inl v4, .inl v6, .inl v8, zN], [.inl x24, .inl v7]) M _
              obtain ⟨x25, hx25⟩ : ∃ x : Int, x = w32 (v7 * x24) := ⟨_, rfl⟩
              have hx25r : qin x25 := by rw [hx25]; exact w32_in _
              refine zG_blk (c' := (153, [.inr (.inr (some 97)), .inl a1, .inl a2, .inl v7, .inl v4, .inl v6, .inl v8, zN], [.inl 10, .inl v8, .inr (.inr (some 97)), .inl x25])) 4 hd0 hz (by subst hx25; rfl) ?_
              refine zG_call hd0 hz zp_194 rfl rfl (Nat.le_of_ble_eq_true rfl) ⟨Nat.le_refl _, Nat.le_refl _⟩ (qx_act0 (by first | exact zdp hd (by decide) | omega) hC   v8 (by first | with_reducible exact hv8 | omega) 10 (by first | decide | omega) ) (fun vr M26 hr => ?_)
              obtain ⟨hq, x27, rfl, hx27⟩ := hr
              replace hq := hq.symm; subst hq
              show zG n (0, 0) d 216 (156, [.inr (.inr (some 97)), .inl a1, .inl a2, .inl v7, .inl v4, .inl v6, .inl v8, zN], [.inl x27, .inl x25]) M _
              refine zG_idiv hd0 hz rfl (by omega) ?_
              have hx28 := w32_in (x25.tdiv x27)
              generalize w32 (x25.tdiv x27) = x28 at hx28 ⊢
              show zG n (0, 0) d 216 (157, [.inr (.inr (some 97)), .inl a1, .inl a2, .inl v7, .inl v4, .inl v6, .inl v8, zN], [.inl x28]) M _
              refine zG_blk (c' := (162, [.inr (.inr (some 97)), .inl a1, .inl a2, .inl v7, .inl v4, .inl v6, .inl v8, zN], [.inl 11, .inl v8, .inr (.inr (some 97)), .inl x28])) 3 hd0 hz (by rfl) ?_
              refine zG_call hd0 hz zp_194 rfl rfl (Nat.le_of_ble_eq_true rfl) ⟨Nat.le_refl _, Nat.le_refl _⟩ (qx_act0 (by first | exact zdp hd (by decide) | omega) hC   v8 (by first | with_reducible exact hv8 | omega) 11 (by first | decide | omega) ) (fun vr M29 hr => ?_)
              obtain ⟨hq, x30, rfl, hx30⟩ := hr
              replace hq := hq.symm; subst hq
              show zG n (0, 0) d 216 (165, [.inr (.inr (some 97)), .inl a1, .inl a2, .inl v7, .inl v4, .inl v6, .inl v8, zN], [.inl x30, .inl x28]) M _
              obtain ⟨x31, hx31⟩ : ∃ x : Int, x = w32 (x28 + x30) := ⟨_, rfl⟩
              have hx31r : x31 = (x28 + x30 + 2147483648) % 4294967296 - 2147483648 := hx31
              refine zG_blk (c' := (168, [.inr (.inr (some 97)), .inl a1, .inl a2, .inl x31, .inl v4, .inl v6, .inl v8, zN], [.inl x31])) 3 hd0 hz (by subst hx31; rfl) ?_
              have j187 : ∀ (v32 : Int) , 0 ≤ v32 ∧ v32 ≤ 100 → zG n (0, 0) d 216 (187, [.inr (.inr (some 97)), .inl a1, .inl a2, .inl x31, .inl v4, .inl v6, .inl v8, zN], [.inl v32]) M (fun v M' => M' = M ∧ ∃ x : Int, v = some (.inl x) ∧ ((-2147483648) ≤ x ∧ x ≤ 2147483647)) := by
                intro v32 hv32
                refine zG_blk (c' := (188, [.inr (.inr (some 97)), .inl a1, .inl a2, .inl v32, .inl v4, .inl v6, .inl v8, zN], [])) 1 hd0 hz (by rfl) ?_
                exact j188 v32 (by first | with_reducible exact hv32 | omega)
              refine zG_if_ge hd0 hz rfl (fun hb33 => ?_) (fun hb33 => ?_)
              · refine zG_blk (c' := (178, [.inr (.inr (some 97)), .inl a1, .inl a2, .inl x31, .inl v4, .inl v6, .inl v8, zN], [.inl 100, .inl x31])) 2 hd0 hz (by rfl) ?_
                refine zG_icmp_le hd0 hz rfl (fun hb34 => ?_) (fun hb34 => ?_)
                · refine zG_blk (c' := (187, [.inr (.inr (some 97)), .inl a1, .inl a2, .inl x31, .inl v4, .inl v6, .inl v8, zN], [.inl x31])) 1 hd0 hz (by rfl) ?_
                  exact j187 x31 (by omega)
                · refine zG_blk (c' := (187, [.inr (.inr (some 97)), .inl a1, .inl a2, .inl x31, .inl v4, .inl v6, .inl v8, zN], [.inl 100])) 2 hd0 hz (by rfl) ?_
                  exact j187 100 (by first | decide | omega)
              · refine zG_blk (c' := (187, [.inr (.inr (some 97)), .inl a1, .inl a2, .inl x31, .inl v4, .inl v6, .inl v8, zN], [.inl 0])) 2 hd0 hz (by rfl) ?_
                exact j187 0 (by first | decide | omega)
          refine zG_icmp_le hd0 hz rfl (fun hb35 => ?_) (fun hb35 => ?_)
          · refine zG_blk (c' := (130, [.inr (.inr (some 97)), .inl a1, .inl a2, .inl v7, .inl v4, .inl v6, zN, zN], [.inl (-1)])) 1 hd0 hz (by rfl) ?_
            exact j130 (-1) (by first | decide | omega) (by omega)
          · refine zG_blk (c' := (123, [.inr (.inr (some 97)), .inl a1, .inl a2, .inl v7, .inl v4, .inl v6, zN, zN], [.inl a1, .inr (.inr (some 97))])) 2 hd0 hz (by rfl) ?_
            refine zG_call hd0 hz zp_214 rfl rfl (Nat.le_of_ble_eq_true rfl) ⟨Nat.le_refl _, Nat.le_refl _⟩ (qm_214_97 (by first | exact zdp hd (by decide) | omega) hC   a1 (by first | with_reducible exact ha1 | omega) ) (fun vr M36 hr => ?_)
            obtain ⟨hq, x37, rfl, hx37, hpx37_0⟩ := hr
            replace hq := hq.symm; subst hq
            show zG n (0, 0) d 216 (126, [.inr (.inr (some 97)), .inl a1, .inl a2, .inl v7, .inl v4, .inl v6, zN, zN], [.inl x37]) M _
            refine zG_blk (c' := (130, [.inr (.inr (some 97)), .inl a1, .inl a2, .inl v7, .inl v4, .inl v6, zN, zN], [.inl x37])) 1 hd0 hz (by rfl) ?_
            exact j130 x37 (by omega) (by omega)
        refine zG_icmp_ne hd0 hz rfl (fun hb38 => ?_) (fun hb38 => ?_)
        · refine zG_blk (c' := (112, [.inr (.inr (some 97)), .inl a1, .inl a2, .inl v5, .inl v4, .inl v6, zN, zN], [.inl 7, .inl v6, .inr (.inr (some 97))])) 3 hd0 hz (by rfl) ?_
          refine zG_call hd0 hz zp_194 rfl rfl (Nat.le_of_ble_eq_true rfl) ⟨Nat.le_refl _, Nat.le_refl _⟩ (qx_act0 (by first | exact zdp hd (by decide) | omega) hC   v6 (by first | with_reducible exact hv6 | omega) 7 (by first | decide | omega) ) (fun vr M39 hr => ?_)
          obtain ⟨hq, x40, rfl, hx40⟩ := hr
          replace hq := hq.symm; subst hq
          show zG n (0, 0) d 216 (115, [.inr (.inr (some 97)), .inl a1, .inl a2, .inl v5, .inl v4, .inl v6, zN, zN], [.inl x40]) M _
          exact j115 x40 (by omega)
        · refine zG_blk (c' := (115, [.inr (.inr (some 97)), .inl a1, .inl a2, .inl v5, .inl v4, .inl v6, zN, zN], [.inl v5])) 2 hd0 hz (by rfl) ?_
          exact j115 v5 (by first | with_reducible exact hv5 | omega)
      refine zG_icmp_le hd0 hz rfl (fun hb41 => ?_) (fun hb41 => ?_)
      · refine zG_blk (c' := (95, [.inr (.inr (some 97)), .inl a1, .inl a2, .inl v5, .inl v4, zN, zN, zN], [.inl (-1)])) 1 hd0 hz (by rfl) ?_
        exact j95 (-1) (by first | decide | omega)
      · refine zG_blk (c' := (88, [.inr (.inr (some 97)), .inl a1, .inl a2, .inl v5, .inl v4, zN, zN, zN], [.inl a1, .inl 2, .inr (.inr (some 97))])) 3 hd0 hz (by rfl) ?_
        refine zG_call hd0 hz zp_213 rfl rfl (Nat.le_of_ble_eq_true rfl) ⟨Nat.le_refl _, Nat.le_refl _⟩ (qm_213_97 (by first | exact zdp hd (by decide) | omega) hC   2 (by first | decide | omega) a1 (by first | with_reducible exact ha1 | omega) ) (fun vr M42 hr => ?_)
        obtain ⟨hq, x43, rfl, hx43, hpx43_0⟩ := hr
        replace hq := hq.symm; subst hq
        show zG n (0, 0) d 216 (91, [.inr (.inr (some 97)), .inl a1, .inl a2, .inl v5, .inl v4, zN, zN, zN], [.inl x43]) M _
        refine zG_blk (c' := (95, [.inr (.inr (some 97)), .inl a1, .inl a2, .inl v5, .inl v4, zN, zN, zN], [.inl x43])) 1 hd0 hz (by rfl) ?_
        exact j95 x43 (by omega)
    refine zG_icmp_eq hd0 hz rfl (fun hb44 => ?_) (fun hb44 => ?_)
    · exact j80 x3 (by omega)
    · refine zG_blk (c' := (35, [.inr (.inr (some 97)), .inl a1, .inl a2, .inl x3, .inl v4, zN, zN, zN], [.inl 7, .inl v4, .inr (.inr (some 97))])) 3 hd0 hz (by rfl) ?_
      refine zG_call hd0 hz zp_194 rfl rfl (Nat.le_of_ble_eq_true rfl) ⟨Nat.le_refl _, Nat.le_refl _⟩ (qx_act0 (by first | exact zdp hd (by decide) | omega) hC   v4 (by first | with_reducible exact hv4 | omega) 7 (by first | decide | omega) ) (fun vr M45 hr => ?_)
      obtain ⟨hq, x46, rfl, hx46⟩ := hr
      replace hq := hq.symm; subst hq
      show zG n (0, 0) d 216 (38, [.inr (.inr (some 97)), .inl a1, .inl a2, .inl x3, .inl v4, zN, zN, zN], [.inl x46]) M _
      refine zG_blk (c' := (43, [.inr (.inr (some 97)), .inl a1, .inl a2, .inl x3, .inl v4, .inl x46, zN, zN], [.inl x46, .inl x3])) 3 hd0 hz (by rfl) ?_
      have j52 : ∀ (v47 : Int) , (-2147483648) ≤ v47 ∧ v47 ≤ 2147483647 → zG n (0, 0) d 216 (52, [.inr (.inr (some 97)), .inl a1, .inl a2, .inl x3, .inl v4, .inl x46, zN, zN], [.inl v47]) M (fun v M' => M' = M ∧ ∃ x : Int, v = some (.inl x) ∧ ((-2147483648) ≤ x ∧ x ≤ 2147483647)) := by
        intro v47 hv47
        obtain ⟨x48, hx48⟩ : ∃ x : Int, x = w32 (x3 - x46) := ⟨_, rfl⟩
        have hx48r : x48 = (x3 - x46 + 2147483648) % 4294967296 - 2147483648 := hx48
        refine zG_blk (c' := (62, [.inr (.inr (some 97)), .inl a1, .inl a2, .inl x3, .inl v4, .inl x46, .inl v47, zN], [.inl 10, .inl (-10), .inl x48])) 6 hd0 hz (by subst hx48; rfl) ?_
        refine zG_call hd0 hz zp_180 rfl rfl (Nat.le_of_ble_eq_true rfl) ⟨Nat.le_refl _, Nat.le_refl _⟩ (qx_in (by first | exact zdp hd (by decide) | omega) hC   x48 (by omega) (-10) (by first | decide | omega) 10 (by first | decide | omega) ) (fun vr M49 hr => ?_)
        obtain ⟨hq, x50, rfl, hx50⟩ := hr
        replace hq := hq.symm; subst hq
        show zG n (0, 0) d 216 (65, [.inr (.inr (some 97)), .inl a1, .inl a2, .inl x3, .inl v4, .inl x46, .inl v47, zN], [.inl x50]) M _
        have j79 : ∀ (v51 : Int) , (-2147483648) ≤ v51 ∧ v51 ≤ 2147483647 → zG n (0, 0) d 216 (79, [.inr (.inr (some 97)), .inl a1, .inl a2, .inl x3, .inl v4, .inl x46, .inl v47, zN], [.inl v51]) M (fun v M' => M' = M ∧ ∃ x : Int, v = some (.inl x) ∧ ((-2147483648) ≤ x ∧ x ≤ 2147483647)) := by
          intro v51 hv51
          refine zG_blk (c' := (80, [.inr (.inr (some 97)), .inl a1, .inl a2, .inl v51, .inl v4, .inl x46, .inl v47, zN], [])) 1 hd0 hz (by rfl) ?_
          exact zG_weak (j80 v51 (by first | with_reducible exact hv51 | omega)) ⟨.inr rfl, .inr rfl, .inr rfl, .inr rfl, .inr rfl, .inl rfl, .inl rfl, .inr rfl, trivial⟩
        refine zG_if_eq hd0 hz rfl (fun hb52 => ?_) (fun hb52 => ?_)
        · refine zG_blk (c' := (79, [.inr (.inr (some 97)), .inl a1, .inl a2, .inl x3, .inl v4, .inl x46, .inl v47, zN], [.inl v47])) 1 hd0 hz (by rfl) ?_
          exact j79 v47 (by first | with_reducible exact hv47 | omega)
        · have hcx50 := hx50.2.2.mp (by omega)
          clear hx50 hb52
          obtain ⟨x53, hx53⟩ : ∃ x : Int, x = w32 (x3 + x46) := ⟨_, rfl⟩
          have hx53r : x53 = (x3 + x46 + 2147483648) % 4294967296 - 2147483648 := hx53
          refine zG_blk (c' := (73, [.inr (.inr (some 97)), .inl a1, .inl a2, .inl x3, .inl v4, .inl x46, .inl v47, zN], [.inl 2, .inl x53])) 4 hd0 hz (by subst hx53; rfl) ?_
          refine zG_idiv hd0 hz rfl (by omega) ?_
          have hx54 := qtdiv_in x53 2 (by first | decide | omega) (by omega)
          generalize w32 (x53.tdiv 2) = x54 at hx54 ⊢
          show zG n (0, 0) d 216 (74, [.inr (.inr (some 97)), .inl a1, .inl a2, .inl x3, .inl v4, .inl x46, .inl v47, zN], [.inl x54]) M _
          refine zG_blk (c' := (79, [.inr (.inr (some 97)), .inl a1, .inl a2, .inl x3, .inl v4, .inl x46, .inl v47, zN], [.inl x54])) 1 hd0 hz (by rfl) ?_
          exact j79 x54 (by omega)
      refine zG_icmp_ge hd0 hz rfl (fun hb55 => ?_) (fun hb55 => ?_)
      · refine zG_blk (c' := (52, [.inr (.inr (some 97)), .inl a1, .inl a2, .inl x3, .inl v4, .inl x46, zN, zN], [.inl x46])) 1 hd0 hz (by rfl) ?_
        exact j52 x46 (by omega)
      · refine zG_blk (c' := (52, [.inr (.inr (some 97)), .inl a1, .inl a2, .inl x3, .inl v4, .inl x46, zN, zN], [.inl x3])) 2 hd0 hz (by rfl) ?_
        exact j52 x3 (by omega)
  refine zG_if_le hd0 hz rfl (fun hb56 => ?_) (fun hb56 => ?_)
  · refine zG_blk (c' := (22, [.inr (.inr (some 97)), .inl a1, .inl a2, .inl x3, zN, zN, zN, zN], [.inl (-1)])) 1 hd0 hz (by rfl) ?_
    exact j22 (-1) (by first | decide | omega)
  · refine zG_blk (c' := (15, [.inr (.inr (some 97)), .inl a1, .inl a2, .inl x3, zN, zN, zN, zN], [.inl a1, .inl 1, .inr (.inr (some 97))])) 3 hd0 hz (by rfl) ?_
    refine zG_call hd0 hz zp_213 rfl rfl (Nat.le_of_ble_eq_true rfl) ⟨Nat.le_refl _, Nat.le_refl _⟩ (qm_213_97 (by first | exact zdp hd (by decide) | omega) hC   1 (by first | decide | omega) a1 (by first | with_reducible exact ha1 | omega) ) (fun vr M57 hr => ?_)
    obtain ⟨hq, x58, rfl, hx58, hpx58_0⟩ := hr
    replace hq := hq.symm; subst hq
    show zG n (0, 0) d 216 (18, [.inr (.inr (some 97)), .inl a1, .inl a2, .inl x3, zN, zN, zN, zN], [.inl x58]) M _
    refine zG_blk (c' := (22, [.inr (.inr (some 97)), .inl a1, .inl a2, .inl x3, zN, zN, zN, zN], [.inl x58])) 1 hd0 hz (by rfl) ?_
    exact j22 x58 (by omega)
