theorem qm_244_97 {n d : Nat} {M : zM} (hd : 9 ≤ d) (hC : qMI M)  (a1 : Int) (ha1 : 0 ≤ a1 ∧ a1 ≤ 19) (a2 : Int) (ha2 : (-2147483648) ≤ a2 ∧ a2 ≤ 2147483647) : qOkN n d 244 [.inr (.inr (some 97)), .inl a1, .inl a2] 6 [102, 103, 104, 105, 106, 107, 108, 109, 110, 1007, 1010, 1012, 1013, 1016, 1018, 1019, 1020, 1021, 1022, 1023] M (fun v M' => ∃ x : Int, v = some (.inl x) ∧ ((-2147483648) ≤ x ∧ x ≤ 2147483647)) := by
  have hz := zp_244
  have hd0 : 0 < d := by omega
  have hW : qFm [102, 103, 104, 105, 106, 107, 108, 109, 110, 1007, 1010, 1012, 1013, 1016, 1018, 1019, 1020, 1021, 1022, 1023] M M := qFm.rfl
  have r1 := hC.cnt4
  show zG n (0, 0) d 244 (0, [.inr (.inr (some 97)), .inl a1, .inl a2, zN, zN, zN], []) M _
  refine zG_blk (c' := (5, [.inr (.inr (some 97)), .inl a1, .inl a2, .inl (-1), .inl 0, zN], [])) 4 hd0 hz (by rfl) ?_
  have j5 : ∀ (N : Nat) (v2 v3 : Int) , (250 - v3 : Int).toNat < N → (-1) ≤ v2 ∧ v2 ≤ 249 → 0 ≤ v3 ∧ v3 ≤ 250 → zG n (0, 0) d 244 (5, [.inr (.inr (some 97)), .inl a1, .inl a2, .inl v2, .inl v3, zN], []) M (fun v M' => (qMI M' ∧ qFm [102, 103, 104, 105, 106, 107, 108, 109, 110, 1007, 1010, 1012, 1013, 1016, 1018, 1019, 1020, 1021, 1022, 1023] M M') ∧ ∃ x : Int, v = some (.inl x) ∧ ((-2147483648) ≤ x ∧ x ≤ 2147483647)) := by
    intro N
    induction N with
    | zero => intro v2 v3 hN hv2 hv3; exact absurd hN (Nat.not_lt_zero _)
    | succ N ih5 =>
      intro v2 v3 hN hv2 hv3
      refine zG_blk (c' := (12, [.inr (.inr (some 97)), .inl a1, .inl a2, .inl v2, .inl v3, zN], [.inl 4, .inr (.inr (some 98)), .inl v3])) 4 hd0 hz (by rfl) ?_
      refine zG_iald hd0 hz rfl rfl (.inl rfl) (by omega) ?_
      show zG n (0, 0) d 244 (13, [.inr (.inr (some 97)), .inl a1, .inl a2, .inl v2, .inl v3, zN], [.inl (M 98 4), .inl v3]) M _
      refine zG_icmp_ge hd0 hz rfl (fun hb4 => ?_) (fun hb4 => ?_)
      · refine zG_blk (c' := (108, [.inr (.inr (some 97)), .inl a1, .inl a2, .inl v2, .inl v3, zN], [.inl (-1), .inl v2])) 2 hd0 hz (by rfl) ?_
        have j126 : ∀ (v5 : Int) (M6 : zM) , (-2147483648) ≤ v5 ∧ v5 ≤ 2147483647 → qMI M6 → qFm [102, 103, 104, 105, 106, 107, 108, 109, 110, 1007, 1010, 1012, 1013, 1016, 1018, 1019, 1020, 1021, 1022, 1023] M M6 → zG n (0, 0) d 244 (126, [.inr (.inr (some 97)), .inl a1, .inl a2, .inl v2, .inl v3, zN], [.inl v5]) M6 (fun v M' => (qMI M' ∧ qFm [102, 103, 104, 105, 106, 107, 108, 109, 110, 1007, 1010, 1012, 1013, 1016, 1018, 1019, 1020, 1021, 1022, 1023] M M') ∧ ∃ x : Int, v = some (.inl x) ∧ ((-2147483648) ≤ x ∧ x ≤ 2147483647)) := by
          intro v5 M6 hv5 hCM6 hWM6
          have e7 : M6 98 4 = M 98 4 := hWM6 98 4 (by decide)
          exact zG_ret hd0 hz rfl rfl ⟨⟨hCM6, hWM6⟩, _, rfl, by omega⟩
        refine zG_icmp_ne hd0 hz rfl (fun hb8 => ?_) (fun hb8 => ?_)
        · refine zG_blk (c' := (120, [.inr (.inr (some 97)), .inl a1, .inl a2, .inl v2, .inl v3, zN], [.inl 1, .inl v2, .inr (.inr (some 97)), .inl a1, .inr (.inr (some 97))])) 5 hd0 hz (by rfl) ?_
          refine zG_call hd0 hz zp_194 rfl rfl (Nat.le_of_ble_eq_true rfl) ⟨Nat.le_refl _, Nat.le_refl _⟩ (qx_act0 (by first | exact zdp hd (by decide) | omega) hC   v2 (by first | with_reducible exact hv2 | omega) 1 (by first | decide | omega) ) (fun vr M9 hr => ?_)
          obtain ⟨hq, x10, rfl, hx10⟩ := hr
          replace hq := hq.symm; subst hq
          show zG n (0, 0) d 244 (123, [.inr (.inr (some 97)), .inl a1, .inl a2, .inl v2, .inl v3, zN], [.inl x10, .inl a1, .inr (.inr (some 97))]) M _
          refine zG_call hd0 hz zp_243 rfl rfl (Nat.le_of_ble_eq_true rfl) ⟨Nat.le_refl _, Nat.le_refl _⟩ (qm_243_97 (by first | exact zdp hd (by decide) | omega) hC   a1 (by first | with_reducible exact ha1 | omega) x10 (by omega) ) (fun vr M11 hr => ?_)
          obtain ⟨⟨hCM11, hFM11⟩, x12, rfl, hx12⟩ := hr
          have hWM11 : qFm [102, 103, 104, 105, 106, 107, 108, 109, 110, 1007, 1010, 1012, 1013, 1016, 1018, 1019, 1020, 1021, 1022, 1023] M M11 := hW.tr hFM11 (by decide)
          have e13 : M11 98 4 = M 98 4 := hFM11 98 4 (by decide)
          show zG n (0, 0) d 244 (126, [.inr (.inr (some 97)), .inl a1, .inl a2, .inl v2, .inl v3, zN], [.inl x12]) M11 _
          exact j126 x12 M11 (by omega) hCM11 hWM11
        · refine zG_blk (c' := (126, [.inr (.inr (some 97)), .inl a1, .inl a2, .inl v2, .inl v3, zN], [.inl (-1)])) 2 hd0 hz (by rfl) ?_
          exact j126 (-1) M (by omega) hC hW
      · refine zG_blk (c' := (22, [.inr (.inr (some 97)), .inl a1, .inl a2, .inl v2, .inl v3, zN], [.inl v3, .inr (.inr (some 101))])) 3 hd0 hz (by rfl) ?_
        refine zG_bald hd0 hz rfl rfl (.inl rfl) (by omega) ?_
        obtain ⟨x14, hx14⟩ : ∃ x : Int, x = M 101 (v3 : Int).toNat := ⟨_, rfl⟩
        rw [← hx14]
        have hx14r : x14 = 0 ∨ x14 = 1 := by rw [hx14]; exact hC.bl101 _
        show zG n (0, 0) d 244 (23, [.inr (.inr (some 97)), .inl a1, .inl a2, .inl v2, .inl v3, zN], [.inl x14]) M _
        have j65 : ∀ (v15 : Int) , 0 ≤ v15 ∧ v15 ≤ 1 → zG n (0, 0) d 244 (65, [.inr (.inr (some 97)), .inl a1, .inl a2, .inl v2, .inl v3, zN], [.inl v15]) M (fun v M' => (qMI M' ∧ qFm [102, 103, 104, 105, 106, 107, 108, 109, 110, 1007, 1010, 1012, 1013, 1016, 1018, 1019, 1020, 1021, 1022, 1023] M M') ∧ ∃ x : Int, v = some (.inl x) ∧ ((-2147483648) ≤ x ∧ x ≤ 2147483647)) := by
          intro v15 hv15
          refine zG_blk (c' := (69, [.inr (.inr (some 97)), .inl a1, .inl a2, .inl v2, .inl v3, .inl v15], [.inl v15])) 2 hd0 hz (by rfl) ?_
          have j99 : ∀ (v16 : Int) , (-1) ≤ v16 ∧ v16 ≤ 249 → zG n (0, 0) d 244 (99, [.inr (.inr (some 97)), .inl a1, .inl a2, .inl v2, .inl v3, .inl v15], [.inl v16]) M (fun v M' => (qMI M' ∧ qFm [102, 103, 104, 105, 106, 107, 108, 109, 110, 1007, 1010, 1012, 1013, 1016, 1018, 1019, 1020, 1021, 1022, 1023] M M') ∧ ∃ x : Int, v = some (.inl x) ∧ ((-2147483648) ≤ x ∧ x ≤ 2147483647)) := by
            intro v16 hv16
            obtain ⟨x17, hx17⟩ : ∃ x : Int, x = w32 (v3 + 1) := ⟨_, rfl⟩
            have hx17e : x17 = v3 + 1 := by rw [hx17]; exact w32_id (by omega)
            refine zG_blk (c' := (5, [.inr (.inr (some 97)), .inl a1, .inl a2, .inl v16, .inl x17, .inl v15], [])) 3 hd0 hz (by subst hx17; rfl) ?_
            exact zG_weak (ih5 v16 x17 (by omega) (by omega) (by omega)) ⟨.inr rfl, .inr rfl, .inr rfl, .inr rfl, .inr rfl, .inl rfl, trivial⟩
          have j98 : zG n (0, 0) d 244 (98, [.inr (.inr (some 97)), .inl a1, .inl a2, .inl v2, .inl v3, .inl v15], []) M (fun v M' => (qMI M' ∧ qFm [102, 103, 104, 105, 106, 107, 108, 109, 110, 1007, 1010, 1012, 1013, 1016, 1018, 1019, 1020, 1021, 1022, 1023] M M') ∧ ∃ x : Int, v = some (.inl x) ∧ ((-2147483648) ≤ x ∧ x ≤ 2147483647)) := by
            refine zG_blk (c' := (99, [.inr (.inr (some 97)), .inl a1, .inl a2, .inl v2, .inl v3, .inl v15], [.inl v2])) 1 hd0 hz (by rfl) ?_
            exact j99 v2 (by first | with_reducible exact hv2 | omega)
          refine zG_if_eq hd0 hz rfl (fun hb18 => ?_) (fun hb18 => ?_)
          · exact j98
          · refine zG_blk (c' := (74, [.inr (.inr (some 97)), .inl a1, .inl a2, .inl v2, .inl v3, .inl v15], [.inl (-1), .inl v2])) 2 hd0 hz (by rfl) ?_
            have j93 : zG n (0, 0) d 244 (93, [.inr (.inr (some 97)), .inl a1, .inl a2, .inl v2, .inl v3, .inl v15], []) M (fun v M' => (qMI M' ∧ qFm [102, 103, 104, 105, 106, 107, 108, 109, 110, 1007, 1010, 1012, 1013, 1016, 1018, 1019, 1020, 1021, 1022, 1023] M M') ∧ ∃ x : Int, v = some (.inl x) ∧ ((-2147483648) ≤ x ∧ x ≤ 2147483647)) := by
              refine zG_blk (c' := (99, [.inr (.inr (some 97)), .inl a1, .inl a2, .inl v2, .inl v3, .inl v15], [.inl v3])) 2 hd0 hz (by rfl) ?_
              exact j99 v3 (by first | with_reducible exact hv3 | omega)
            refine zG_icmp_eq hd0 hz rfl (fun hb19 => ?_) (fun hb19 => ?_)
            · exact j93
            · refine zG_blk (c' := (81, [.inr (.inr (some 97)), .inl a1, .inl a2, .inl v2, .inl v3, .inl v15], [.inl 1, .inl v3, .inr (.inr (some 97))])) 3 hd0 hz (by rfl) ?_
              refine zG_call hd0 hz zp_194 rfl rfl (Nat.le_of_ble_eq_true rfl) ⟨Nat.le_refl _, Nat.le_refl _⟩ (qx_act0 (by first | exact zdp hd (by decide) | omega) hC   v3 (by first | with_reducible exact hv3 | omega) 1 (by first | decide | omega) ) (fun vr M20 hr => ?_)
              obtain ⟨hq, x21, rfl, hx21⟩ := hr
              replace hq := hq.symm; subst hq
              show zG n (0, 0) d 244 (84, [.inr (.inr (some 97)), .inl a1, .inl a2, .inl v2, .inl v3, .inl v15], [.inl x21]) M _
              refine zG_blk (c' := (87, [.inr (.inr (some 97)), .inl a1, .inl a2, .inl v2, .inl v3, .inl v15], [.inl 1, .inl v2, .inr (.inr (some 97)), .inl x21])) 3 hd0 hz (by rfl) ?_
              refine zG_call hd0 hz zp_194 rfl rfl (Nat.le_of_ble_eq_true rfl) ⟨Nat.le_refl _, Nat.le_refl _⟩ (qx_act0 (by first | exact zdp hd (by decide) | omega) hC   v2 (by first | with_reducible exact hv2 | omega) 1 (by first | decide | omega) ) (fun vr M22 hr => ?_)
              obtain ⟨hq, x23, rfl, hx23⟩ := hr
              replace hq := hq.symm; subst hq
              show zG n (0, 0) d 244 (90, [.inr (.inr (some 97)), .inl a1, .inl a2, .inl v2, .inl v3, .inl v15], [.inl x23, .inl x21]) M _
              refine zG_icmp_lt hd0 hz rfl (fun hb24 => ?_) (fun hb24 => ?_)
              · exact j98
              · exact j93
        have j64 : zG n (0, 0) d 244 (64, [.inr (.inr (some 97)), .inl a1, .inl a2, .inl v2, .inl v3, zN], []) M (fun v M' => (qMI M' ∧ qFm [102, 103, 104, 105, 106, 107, 108, 109, 110, 1007, 1010, 1012, 1013, 1016, 1018, 1019, 1020, 1021, 1022, 1023] M M') ∧ ∃ x : Int, v = some (.inl x) ∧ ((-2147483648) ≤ x ∧ x ≤ 2147483647)) := by
          refine zG_blk (c' := (65, [.inr (.inr (some 97)), .inl a1, .inl a2, .inl v2, .inl v3, zN], [.inl 0])) 1 hd0 hz (by rfl) ?_
          exact j65 0 (by first | decide | omega)
        refine zG_if_eq hd0 hz rfl (fun hb25 => ?_) (fun hb25 => ?_)
        · exact j64
        · refine zG_blk (c' := (30, [.inr (.inr (some 97)), .inl a1, .inl a2, .inl v2, .inl v3, zN], [.inl 0, .inl v3, .inr (.inr (some 97))])) 3 hd0 hz (by rfl) ?_
          refine zG_call hd0 hz zp_194 rfl rfl (Nat.le_of_ble_eq_true rfl) ⟨Nat.le_refl _, Nat.le_refl _⟩ (qx_act0 (by first | exact zdp hd (by decide) | omega) hC   v3 (by first | with_reducible exact hv3 | omega) 0 (by first | decide | omega) ) (fun vr M26 hr => ?_)
          obtain ⟨hq, x27, rfl, hx27⟩ := hr
          replace hq := hq.symm; subst hq
          show zG n (0, 0) d 244 (33, [.inr (.inr (some 97)), .inl a1, .inl a2, .inl v2, .inl v3, zN], [.inl x27]) M _
          refine zG_blk (c' := (35, [.inr (.inr (some 97)), .inl a1, .inl a2, .inl v2, .inl v3, zN], [.inl 6, .inl x27])) 1 hd0 hz (by rfl) ?_
          refine zG_icmp_ne hd0 hz rfl (fun hb28 => ?_) (fun hb28 => ?_)
          · exact j64
          · refine zG_blk (c' := (42, [.inr (.inr (some 97)), .inl a1, .inl a2, .inl v2, .inl v3, zN], [.inl 4, .inl v3, .inr (.inr (some 97))])) 3 hd0 hz (by rfl) ?_
            refine zG_call hd0 hz zp_194 rfl rfl (Nat.le_of_ble_eq_true rfl) ⟨Nat.le_refl _, Nat.le_refl _⟩ (qx_act4 (by first | exact zdp hd (by decide) | omega) hC   v3 (by first | with_reducible exact hv3 | omega) ) (fun vr M29 hr => ?_)
            obtain ⟨hq, x30, rfl, hx30⟩ := hr
            replace hq := hq.symm; subst hq
            show zG n (0, 0) d 244 (45, [.inr (.inr (some 97)), .inl a1, .inl a2, .inl v2, .inl v3, zN], [.inl x30]) M _
            refine zG_blk (c' := (46, [.inr (.inr (some 97)), .inl a1, .inl a2, .inl v2, .inl v3, zN], [.inl a1, .inl x30])) 1 hd0 hz (by rfl) ?_
            refine zG_icmp_ne hd0 hz rfl (fun hb31 => ?_) (fun hb31 => ?_)
            · exact j64
            · refine zG_blk (c' := (53, [.inr (.inr (some 97)), .inl a1, .inl a2, .inl v2, .inl v3, zN], [.inl 1, .inl v3, .inr (.inr (some 97))])) 3 hd0 hz (by rfl) ?_
              refine zG_call hd0 hz zp_194 rfl rfl (Nat.le_of_ble_eq_true rfl) ⟨Nat.le_refl _, Nat.le_refl _⟩ (qx_act0 (by first | exact zdp hd (by decide) | omega) hC   v3 (by first | with_reducible exact hv3 | omega) 1 (by first | decide | omega) ) (fun vr M32 hr => ?_)
              obtain ⟨hq, x33, rfl, hx33⟩ := hr
              replace hq := hq.symm; subst hq
              show zG n (0, 0) d 244 (56, [.inr (.inr (some 97)), .inl a1, .inl a2, .inl v2, .inl v3, zN], [.inl x33]) M _
              refine zG_blk (c' := (57, [.inr (.inr (some 97)), .inl a1, .inl a2, .inl v2, .inl v3, zN], [.inl a2, .inl x33])) 1 hd0 hz (by rfl) ?_
              refine zG_icmp_gt hd0 hz rfl (fun hb34 => ?_) (fun hb34 => ?_)
              · exact j64
              · refine zG_blk (c' := (65, [.inr (.inr (some 97)), .inl a1, .inl a2, .inl v2, .inl v3, zN], [.inl 1])) 2 hd0 hz (by rfl) ?_
                exact j65 1 (by first | decide | omega)
  exact j5 ((250 - 0 : Int).toNat + 1) (-1) 0 (by first | decide | omega) (by omega) (by omega)
