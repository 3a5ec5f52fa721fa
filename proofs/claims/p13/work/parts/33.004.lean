theorem qm_284_97 {n d : Nat} {M : zM} (hd : 5 ≤ d) (hC : qMI M)  (a1 : Int) (ha1 : (-2147483648) ≤ a1 ∧ a1 ≤ 2147483647) (a2 : Int) (ha2 : (-2147483648) ≤ a2 ∧ a2 ≤ 2147483647) (a3 : Int) (ha3 : (-2147483648) ≤ a3 ∧ a3 ≤ 2147483647) : qOkN n d 284 [.inr (.inr (some 97)), .inl a1, .inl a2, .inl a3] 4 [101, 119, 120, 121, 1041, 1042, 1043, 1044] M (fun v M' => ∃ x : Int, v = some (.inl x) ∧ ((-2147483648) ≤ x ∧ x ≤ 2147483647)) := by
  have hz := zp_284
  have hd0 : 0 < d := by omega
  have hW : qFm [101, 119, 120, 121, 1041, 1042, 1043, 1044] M M := qFm.rfl
  show zG n (0, 0) d 284 (0, [.inr (.inr (some 97)), .inl a1, .inl a2, .inl a3], []) M _
  refine zG_blk (c' := (3, [.inr (.inr (some 97)), .inl a1, .inl a2, .inl a3], [.inl 4, .inl 0, .inl a1])) 3 hd0 hz (by rfl) ?_
  refine zG_call hd0 hz zp_180 rfl rfl (Nat.le_of_ble_eq_true rfl) ⟨Nat.le_refl _, Nat.le_refl _⟩ (qx_in (by first | exact zdp hd (by decide) | omega) hC   a1 (by first | with_reducible exact ha1 | omega) 0 (by first | decide | omega) 4 (by first | decide | omega) ) (fun vr M1 hr => ?_)
  obtain ⟨hq, x2, rfl, hx2⟩ := hr
  replace hq := hq.symm; subst hq
  show zG n (0, 0) d 284 (6, [.inr (.inr (some 97)), .inl a1, .inl a2, .inl a3], [.inl x2]) M _
  have j25 : zG n (0, 0) d 284 (25, [.inr (.inr (some 97)), .inl a1, .inl a2, .inl a3], []) M (fun v M' => (qMI M' ∧ qFm [101, 119, 120, 121, 1041, 1042, 1043, 1044] M M') ∧ ∃ x : Int, v = some (.inl x) ∧ ((-2147483648) ≤ x ∧ x ≤ 2147483647)) := by
    refine zG_blk (c' := (28, [.inr (.inr (some 97)), .inl a1, .inl a2, .inl a3], [.inl (-1000)])) 1 hd0 hz (by rfl) ?_
    exact zG_ret hd0 hz rfl rfl ⟨⟨hC, hW⟩, _, rfl, by omega⟩
  refine zG_if_eq hd0 hz rfl (fun hb3 => ?_) (fun hb3 => ?_)
  · exact j25
  · have hcx2 := hx2.2.2.mp (by omega)
    clear hx2 hb3
    refine zG_blk (c' := (10, [.inr (.inr (some 97)), .inl a1, .inl a2, .inl a3], [.inl a2])) 1 hd0 hz (by rfl) ?_
    refine zG_call hd0 hz zp_184 rfl rfl (Nat.le_of_ble_eq_true rfl) ⟨Nat.le_refl _, Nat.le_refl _⟩ (qm_184 (by first | exact zdp hd (by decide) | omega) hC   a2 (by first | with_reducible exact ha2 | omega) ) (fun vr M4 hr => ?_)
    obtain ⟨hq, x5, rfl, hx5, hpx5_0⟩ := hr
    replace hq := hq.symm; subst hq
    show zG n (0, 0) d 284 (13, [.inr (.inr (some 97)), .inl a1, .inl a2, .inl a3], [.inl x5]) M _
    refine zG_if_eq hd0 hz rfl (fun hb6 => ?_) (fun hb6 => ?_)
    · exact j25
    · have hcx5 := hpx5_0.mp (by omega)
      clear hx5 hpx5_0 hb6
      refine zG_blk (c' := (19, [.inr (.inr (some 97)), .inl a1, .inl a2, .inl a3], [.inl 3, .inl 0, .inl a3])) 3 hd0 hz (by rfl) ?_
      refine zG_call hd0 hz zp_180 rfl rfl (Nat.le_of_ble_eq_true rfl) ⟨Nat.le_refl _, Nat.le_refl _⟩ (qx_in (by first | exact zdp hd (by decide) | omega) hC   a3 (by first | with_reducible exact ha3 | omega) 0 (by first | decide | omega) 3 (by first | decide | omega) ) (fun vr M7 hr => ?_)
      obtain ⟨hq, x8, rfl, hx8⟩ := hr
      replace hq := hq.symm; subst hq
      show zG n (0, 0) d 284 (22, [.inr (.inr (some 97)), .inl a1, .inl a2, .inl a3], [.inl x8]) M _
      refine zG_if_ne hd0 hz rfl (fun hb9 => ?_) (fun hb9 => ?_)
      · have hcx8 := hx8.2.2.mp (by omega)
        clear hx8 hb9
        refine zG_blk (c' := (31, [.inr (.inr (some 97)), .inl a1, .inl a2, .inl a3], [.inl a2, .inr (.inr (some 97))])) 2 hd0 hz (by rfl) ?_
        refine zG_call hd0 hz zp_211 rfl rfl (Nat.le_of_ble_eq_true rfl) ⟨Nat.le_refl _, Nat.le_refl _⟩ (qm_211_97 (by first | exact zdp hd (by decide) | omega) hC   a2 (by first | with_reducible exact ha2 | omega) ) (fun vr M10 hr => ?_)
        obtain ⟨⟨hCM10, hFM10⟩, rfl⟩ := hr
        have hWM10 : qFm [101, 119, 120, 121, 1041, 1042, 1043, 1044] M M10 := hW.tr hFM10 (by decide)
        show zG n (0, 0) d 284 (34, [.inr (.inr (some 97)), .inl a1, .inl a2, .inl a3], []) M10 _
        refine zG_blk (c' := (36, [.inr (.inr (some 97)), .inl a1, .inl a2, .inl a3], [.inl 3, .inl a3])) 2 hd0 hz (by rfl) ?_
        refine zG_icmp_ne hd0 hz rfl (fun hb12 => ?_) (fun hb12 => ?_)
        · refine zG_blk (c' := (47, [.inr (.inr (some 97)), .inl a1, .inl a2, .inl a3], [.inl a1, .inr (.inr (some 97))])) 2 hd0 hz (by rfl) ?_
          refine zG_call hd0 hz zp_280 rfl rfl (Nat.le_of_ble_eq_true rfl) ⟨Nat.le_refl _, Nat.le_refl _⟩ (qm_280_97 (by first | exact zdp hd (by decide) | omega) hCM10   a1 (by first | with_reducible exact ha1 | omega) ) (fun vr M13 hr => ?_)
          obtain ⟨⟨hCM13, hFM13⟩, rfl, hpx14_0, hpx14_1⟩ := hr
          have hWM13 : qFm [101, 119, 120, 121, 1041, 1042, 1043, 1044] M M13 := hWM10.tr hFM13 (by decide)
          have r15 := hCM13.rg 97 41 (by decide) (by decide)
          have r16 := hCM13.rg 97 42 (by decide) (by decide)
          have r17 := hCM13.rg 97 43 (by decide) (by decide)
          show zG n (0, 0) d 284 (50, [.inr (.inr (some 97)), .inl a1, .inl a2, .inl a3], []) M13 _
          refine zG_blk (c' := (51, [.inr (.inr (some 97)), .inl a1, .inl a2, .inl a3], [.inl a3])) 1 hd0 hz (by rfl) ?_
          have j93 : ∀ (v18 : Int) , (-2147483648) ≤ v18 ∧ v18 ≤ 2147483647 → zG n (0, 0) d 284 (93, [.inr (.inr (some 97)), .inl a1, .inl a2, .inl a3], [.inl v18]) M13 (fun v M' => (qMI M' ∧ qFm [101, 119, 120, 121, 1041, 1042, 1043, 1044] M M') ∧ ∃ x : Int, v = some (.inl x) ∧ ((-2147483648) ≤ x ∧ x ≤ 2147483647)) := by
            intro v18 hv18
            exact zG_ret hd0 hz rfl rfl ⟨⟨hCM13, hWM13⟩, _, rfl, by omega⟩
          refine zG_if_ne hd0 hz rfl (fun hb19 => ?_) (fun hb19 => ?_)
          · refine zG_blk (c' := (63, [.inr (.inr (some 97)), .inl a1, .inl a2, .inl a3], [.inl 1, .inl a3])) 2 hd0 hz (by rfl) ?_
            refine zG_icmp_ne hd0 hz rfl (fun hb20 => ?_) (fun hb20 => ?_)
            · refine zG_blk (c' := (77, [.inr (.inr (some 97)), .inl a1, .inl a2, .inl a3], [.inl (M13 97 43)])) 2 hd0 hz (by rfl) ?_
              refine zG_if_ne hd0 hz rfl (fun hb21 => ?_) (fun hb21 => ?_)
              · have r22 := hCM13.rg 97 44 (by decide) (by decide)
                refine zG_blk (c' := (92, [.inr (.inr (some 97)), .inl a1, .inl a2, .inl a3], [.inl (M13 97 43), .inl (M13 97 44)])) 4 hd0 hz (by rfl) ?_
                refine zG_idiv hd0 hz rfl (by omega) ?_
                have hx23 := w32_in ((M13 97 44).tdiv (M13 97 43))
                generalize w32 ((M13 97 44).tdiv (M13 97 43)) = x23 at hx23 ⊢
                show zG n (0, 0) d 284 (93, [.inr (.inr (some 97)), .inl a1, .inl a2, .inl a3], [.inl x23]) M13 _
                exact j93 x23 (by omega)
              · refine zG_blk (c' := (93, [.inr (.inr (some 97)), .inl a1, .inl a2, .inl a3], [.inl 0])) 2 hd0 hz (by rfl) ?_
                exact j93 0 (by first | decide | omega)
            · refine zG_blk (c' := (93, [.inr (.inr (some 97)), .inl a1, .inl a2, .inl a3], [.inl (M13 97 42)])) 3 hd0 hz (by rfl) ?_
              exact j93 (M13 97 42) (by omega)
          · refine zG_blk (c' := (93, [.inr (.inr (some 97)), .inl a1, .inl a2, .inl a3], [.inl (M13 97 41)])) 3 hd0 hz (by rfl) ?_
            exact j93 (M13 97 41) (by omega)
        · refine zG_blk (c' := (41, [.inr (.inr (some 97)), .inl a1, .inl a2, .inl a3], [.inl a1, .inr (.inr (some 97))])) 2 hd0 hz (by rfl) ?_
          refine zG_call hd0 hz zp_283 rfl rfl (Nat.le_of_ble_eq_true rfl) ⟨Nat.le_refl _, Nat.le_refl _⟩ (qm_283_97 (by first | exact zdp hd (by decide) | omega) hCM10   a1 (by first | with_reducible exact ha1 | omega) ) (fun vr M24 hr => ?_)
          obtain ⟨⟨hCM24, hFM24⟩, x25, rfl, hx25⟩ := hr
          have hWM24 : qFm [101, 119, 120, 121, 1041, 1042, 1043, 1044] M M24 := hWM10.tr hFM24 (by decide)
          show zG n (0, 0) d 284 (44, [.inr (.inr (some 97)), .inl a1, .inl a2, .inl a3], [.inl x25]) M24 _
          exact zG_ret hd0 hz rfl rfl ⟨⟨hCM24, hWM24⟩, _, rfl, by omega⟩
      · exact j25
