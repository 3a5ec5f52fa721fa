theorem qm_219_97 {n d : Nat} {M : zM} (hd : 5 ≤ d) (hC : qMI M)  (a1 : Int) (ha1 : (-2147483648) ≤ a1 ∧ a1 ≤ 2147483647) (a2 : Int) (ha2 : (-2147483648) ≤ a2 ∧ a2 ≤ 2147483647) (a3 : Int) (ha3 : (-2147483648) ≤ a3 ∧ a3 ≤ 2147483647) (a4 : Int) (ha4 : (-2147483648) ≤ a4 ∧ a4 ≤ 2147483647) : qOkN n d 219 [.inr (.inr (some 97)), .inl a1, .inl a2, .inl a3, .inl a4] 5 [101, 102, 103, 104] M (fun v M' => ∃ x : Int, v = some (.inl x) ∧ ((-2147483648) ≤ x ∧ x ≤ 2147483647)) := by
  have hz := zp_219
  have hd0 : 0 < d := by omega
  have hW : qFm [101, 102, 103, 104] M M := qFm.rfl
  have r1 := hC.cnt1
  have r2 := hC.cnt0
  show zG n (0, 0) d 219 (0, [.inr (.inr (some 97)), .inl a1, .inl a2, .inl a3, .inl a4], []) M _
  refine zG_blk (c' := (3, [.inr (.inr (some 97)), .inl a1, .inl a2, .inl a3, .inl a4], [.inl a1, .inl 1, .inr (.inr (some 97))])) 3 hd0 hz (by rfl) ?_
  refine zG_call hd0 hz zp_182 rfl rfl (Nat.le_of_ble_eq_true rfl) ⟨Nat.le_refl _, Nat.le_refl _⟩ (qx_is (by first | exact zdp hd (by decide) | omega) hC   1 (by first | decide | omega) a1 (by first | with_reducible exact ha1 | omega) ) (fun vr M3 hr => ?_)
  obtain ⟨hq, x4, rfl, hx4⟩ := hr
  replace hq := hq.symm; subst hq
  show zG n (0, 0) d 219 (6, [.inr (.inr (some 97)), .inl a1, .inl a2, .inl a3, .inl a4], [.inl x4]) M _
  have j35 : zG n (0, 0) d 219 (35, [.inr (.inr (some 97)), .inl a1, .inl a2, .inl a3, .inl a4], []) M (fun v M' => (qMI M' ∧ qFm [101, 102, 103, 104] M M') ∧ ∃ x : Int, v = some (.inl x) ∧ ((-2147483648) ≤ x ∧ x ≤ 2147483647)) := by
    refine zG_blk (c' := (37, [.inr (.inr (some 97)), .inl a1, .inl a2, .inl a3, .inl a4], [.inl (-2)])) 1 hd0 hz (by rfl) ?_
    exact zG_ret hd0 hz rfl rfl ⟨⟨hC, hW⟩, _, rfl, by omega⟩
  refine zG_if_eq hd0 hz rfl (fun hb5 => ?_) (fun hb5 => ?_)
  · exact j35
  · have hcx4 := hx4.2.2.mp (by omega)
    clear hx4 hb5
    refine zG_blk (c' := (12, [.inr (.inr (some 97)), .inl a1, .inl a2, .inl a3, .inl a4], [.inl a2, .inl 0, .inr (.inr (some 97))])) 3 hd0 hz (by rfl) ?_
    refine zG_call hd0 hz zp_182 rfl rfl (Nat.le_of_ble_eq_true rfl) ⟨Nat.le_refl _, Nat.le_refl _⟩ (qx_is (by first | exact zdp hd (by decide) | omega) hC   0 (by first | decide | omega) a2 (by first | with_reducible exact ha2 | omega) ) (fun vr M6 hr => ?_)
    obtain ⟨hq, x7, rfl, hx7⟩ := hr
    replace hq := hq.symm; subst hq
    show zG n (0, 0) d 219 (15, [.inr (.inr (some 97)), .inl a1, .inl a2, .inl a3, .inl a4], [.inl x7]) M _
    refine zG_if_eq hd0 hz rfl (fun hb8 => ?_) (fun hb8 => ?_)
    · exact j35
    · have hcx7 := hx7.2.2.mp (by omega)
      clear hx7 hb8
      refine zG_blk (c' := (19, [.inr (.inr (some 97)), .inl a1, .inl a2, .inl a3, .inl a4], [.inl a3])) 1 hd0 hz (by rfl) ?_
      refine zG_call hd0 hz zp_184 rfl rfl (Nat.le_of_ble_eq_true rfl) ⟨Nat.le_refl _, Nat.le_refl _⟩ (qm_184 (by first | exact zdp hd (by decide) | omega) hC   a3 (by first | with_reducible exact ha3 | omega) ) (fun vr M9 hr => ?_)
      obtain ⟨hq, x10, rfl, hx10, hpx10_0⟩ := hr
      replace hq := hq.symm; subst hq
      show zG n (0, 0) d 219 (22, [.inr (.inr (some 97)), .inl a1, .inl a2, .inl a3, .inl a4], [.inl x10]) M _
      refine zG_if_eq hd0 hz rfl (fun hb11 => ?_) (fun hb11 => ?_)
      · exact j35
      · have hcx10 := hpx10_0.mp (by omega)
        clear hx10 hpx10_0 hb11
        refine zG_blk (c' := (29, [.inr (.inr (some 97)), .inl a1, .inl a2, .inl a3, .inl a4], [.inl 2, .inl 0, .inl a4])) 3 hd0 hz (by rfl) ?_
        refine zG_call hd0 hz zp_180 rfl rfl (Nat.le_of_ble_eq_true rfl) ⟨Nat.le_refl _, Nat.le_refl _⟩ (qx_in (by first | exact zdp hd (by decide) | omega) hC   a4 (by first | with_reducible exact ha4 | omega) 0 (by first | decide | omega) 2 (by first | decide | omega) ) (fun vr M12 hr => ?_)
        obtain ⟨hq, x13, rfl, hx13⟩ := hr
        replace hq := hq.symm; subst hq
        show zG n (0, 0) d 219 (32, [.inr (.inr (some 97)), .inl a1, .inl a2, .inl a3, .inl a4], [.inl x13]) M _
        refine zG_if_ne hd0 hz rfl (fun hb14 => ?_) (fun hb14 => ?_)
        · have hcx13 := hx13.2.2.mp (by omega)
          clear hx13 hb14
          refine zG_blk (c' := (40, [.inr (.inr (some 97)), .inl a1, .inl a2, .inl a3, .inl a4], [.inl a3, .inr (.inr (some 97))])) 2 hd0 hz (by rfl) ?_
          refine zG_call hd0 hz zp_211 rfl rfl (Nat.le_of_ble_eq_true rfl) ⟨Nat.le_refl _, Nat.le_refl _⟩ (qm_211_97 (by first | exact zdp hd (by decide) | omega) hC   a3 (by first | with_reducible exact ha3 | omega) ) (fun vr M15 hr => ?_)
          obtain ⟨⟨hCM15, hFM15⟩, rfl⟩ := hr
          have hWM15 : qFm [101, 102, 103, 104] M M15 := hW.tr hFM15 (by decide)
          have e17 : M15 98 1 = M 98 1 := hFM15 98 1 (by decide)
          have e18 : M15 98 0 = M 98 0 := hFM15 98 0 (by decide)
          show zG n (0, 0) d 219 (43, [.inr (.inr (some 97)), .inl a1, .inl a2, .inl a3, .inl a4], []) M15 _
          refine zG_blk (c' := (45, [.inr (.inr (some 97)), .inl a1, .inl a2, .inl a3, .inl a4], [.inl a1, .inr (.inr (some 97))])) 2 hd0 hz (by rfl) ?_
          refine zG_call hd0 hz zp_218 rfl rfl (Nat.le_of_ble_eq_true rfl) ⟨Nat.le_refl _, Nat.le_refl _⟩ (qm_218_97 (by first | exact zdp hd (by decide) | omega) hCM15   a1 (by first | with_reducible exact ha1 | omega) ) (fun vr M19 hr => ?_)
          obtain ⟨⟨hCM19, hFM19⟩, rfl⟩ := hr
          have hWM19 : qFm [101, 102, 103, 104] M M19 := hWM15.tr hFM19 (by decide)
          have e21 : M19 98 1 = M15 98 1 := hFM19 98 1 (by decide)
          have e22 : M19 98 0 = M15 98 0 := hFM19 98 0 (by decide)
          show zG n (0, 0) d 219 (48, [.inr (.inr (some 97)), .inl a1, .inl a2, .inl a3, .inl a4], []) M19 _
          refine zG_blk (c' := (50, [.inr (.inr (some 97)), .inl a1, .inl a2, .inl a3, .inl a4], [.inl a4])) 1 hd0 hz (by rfl) ?_
          have j83 : ∀ (v23 : Int) , (-2147483648) ≤ v23 ∧ v23 ≤ 2147483647 → zG n (0, 0) d 219 (83, [.inr (.inr (some 97)), .inl a1, .inl a2, .inl a3, .inl a4], [.inl v23]) M19 (fun v M' => (qMI M' ∧ qFm [101, 102, 103, 104] M M') ∧ ∃ x : Int, v = some (.inl x) ∧ ((-2147483648) ≤ x ∧ x ≤ 2147483647)) := by
            intro v23 hv23
            exact zG_ret hd0 hz rfl rfl ⟨⟨hCM19, hWM19⟩, _, rfl, by omega⟩
          refine zG_if_ne hd0 hz rfl (fun hb24 => ?_) (fun hb24 => ?_)
          · refine zG_blk (c' := (65, [.inr (.inr (some 97)), .inl a1, .inl a2, .inl a3, .inl a4], [.inl 1, .inl a4])) 2 hd0 hz (by rfl) ?_
            refine zG_icmp_ne hd0 hz rfl (fun hb25 => ?_) (fun hb25 => ?_)
            · refine zG_blk (c' := (82, [.inr (.inr (some 97)), .inl a1, .inl a2, .inl a3, .inl a4], [.inl a2, .inr (.inr (some 104))])) 3 hd0 hz (by rfl) ?_
              refine zG_iald hd0 hz rfl rfl (.inl rfl) (by omega) ?_
              obtain ⟨x26, hx26⟩ : ∃ x : Int, x = M19 104 (a2 : Int).toNat := ⟨_, rfl⟩
              rw [← hx26]
              have hx26r : qin x26 := by rw [hx26]; exact hCM19.ra 104 _ (by decide) (by decide)
              show zG n (0, 0) d 219 (83, [.inr (.inr (some 97)), .inl a1, .inl a2, .inl a3, .inl a4], [.inl x26]) M19 _
              exact j83 x26 (by omega)
            · refine zG_blk (c' := (73, [.inr (.inr (some 97)), .inl a1, .inl a2, .inl a3, .inl a4], [.inl a2, .inr (.inr (some 103))])) 3 hd0 hz (by rfl) ?_
              refine zG_iald hd0 hz rfl rfl (.inl rfl) (by omega) ?_
              obtain ⟨x27, hx27⟩ : ∃ x : Int, x = M19 103 (a2 : Int).toNat := ⟨_, rfl⟩
              rw [← hx27]
              have hx27r : qin x27 := by rw [hx27]; exact hCM19.ra 103 _ (by decide) (by decide)
              show zG n (0, 0) d 219 (74, [.inr (.inr (some 97)), .inl a1, .inl a2, .inl a3, .inl a4], [.inl x27]) M19 _
              refine zG_blk (c' := (83, [.inr (.inr (some 97)), .inl a1, .inl a2, .inl a3, .inl a4], [.inl x27])) 1 hd0 hz (by rfl) ?_
              exact j83 x27 (by omega)
          · refine zG_blk (c' := (58, [.inr (.inr (some 97)), .inl a1, .inl a2, .inl a3, .inl a4], [.inl a2, .inr (.inr (some 102))])) 3 hd0 hz (by rfl) ?_
            refine zG_iald hd0 hz rfl rfl (.inl rfl) (by omega) ?_
            obtain ⟨x28, hx28⟩ : ∃ x : Int, x = M19 102 (a2 : Int).toNat := ⟨_, rfl⟩
            rw [← hx28]
            have hx28r : qin x28 := by rw [hx28]; exact hCM19.ra 102 _ (by decide) (by decide)
            show zG n (0, 0) d 219 (59, [.inr (.inr (some 97)), .inl a1, .inl a2, .inl a3, .inl a4], [.inl x28]) M19 _
            refine zG_blk (c' := (83, [.inr (.inr (some 97)), .inl a1, .inl a2, .inl a3, .inl a4], [.inl x28])) 1 hd0 hz (by rfl) ?_
            exact j83 x28 (by omega)
        · exact j35
