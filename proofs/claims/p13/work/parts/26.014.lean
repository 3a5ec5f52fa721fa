theorem qm_217_97 {n d : Nat} {M : zM} (hd : 4 ≤ d) (hC : qMI M)  (a1 : Int) (ha1 : (-2147483648) ≤ a1 ∧ a1 ≤ 2147483647) (a2 : Int) (ha2 : (-2147483648) ≤ a2 ∧ a2 ≤ 2147483647) (a3 : Int) (ha3 : (-2147483648) ≤ a3 ∧ a3 ≤ 2147483647) : qOkN n d 217 [.inr (.inr (some 97)), .inl a1, .inl a2, .inl a3] 4 [101] M (fun v M' => ∃ x : Int, v = some (.inl x) ∧ ((-2147483648) ≤ x ∧ x ≤ 2147483647)) := by
  have hz := zp_217
  have hd0 : 0 < d := by omega
  have hW : qFm [101] M M := qFm.rfl
  have r1 := hC.cnt4
  show zG n (0, 0) d 217 (0, [.inr (.inr (some 97)), .inl a1, .inl a2, .inl a3], []) M _
  refine zG_blk (c' := (2, [.inr (.inr (some 97)), .inl a1, .inl a2, .inl a3], [.inl a1, .inr (.inr (some 97))])) 2 hd0 hz (by rfl) ?_
  refine zG_call hd0 hz zp_198 rfl rfl (Nat.le_of_ble_eq_true rfl) ⟨Nat.le_refl _, Nat.le_refl _⟩ (qm_198_97 (by first | exact zdp hd (by decide) | omega) hC   a1 (by first | with_reducible exact ha1 | omega) ) (fun vr M2 hr => ?_)
  obtain ⟨hq, x3, rfl, hx3, hpx3_0⟩ := hr
  replace hq := hq.symm; subst hq
  show zG n (0, 0) d 217 (5, [.inr (.inr (some 97)), .inl a1, .inl a2, .inl a3], [.inl x3]) M _
  have j24 : zG n (0, 0) d 217 (24, [.inr (.inr (some 97)), .inl a1, .inl a2, .inl a3], []) M (fun v M' => (qMI M' ∧ qFm [101] M M') ∧ ∃ x : Int, v = some (.inl x) ∧ ((-2147483648) ≤ x ∧ x ≤ 2147483647)) := by
    refine zG_blk (c' := (26, [.inr (.inr (some 97)), .inl a1, .inl a2, .inl a3], [.inl (-2)])) 1 hd0 hz (by rfl) ?_
    exact zG_ret hd0 hz rfl rfl ⟨⟨hC, hW⟩, _, rfl, by omega⟩
  refine zG_if_eq hd0 hz rfl (fun hb4 => ?_) (fun hb4 => ?_)
  · exact j24
  · have hcx3 := hpx3_0.mp (by omega)
    clear hx3 hpx3_0 hb4
    refine zG_blk (c' := (11, [.inr (.inr (some 97)), .inl a1, .inl a2, .inl a3], [.inl 4, .inl 0, .inl a2])) 3 hd0 hz (by rfl) ?_
    refine zG_call hd0 hz zp_180 rfl rfl (Nat.le_of_ble_eq_true rfl) ⟨Nat.le_refl _, Nat.le_refl _⟩ (qx_in (by first | exact zdp hd (by decide) | omega) hC   a2 (by first | with_reducible exact ha2 | omega) 0 (by first | decide | omega) 4 (by first | decide | omega) ) (fun vr M5 hr => ?_)
    obtain ⟨hq, x6, rfl, hx6⟩ := hr
    replace hq := hq.symm; subst hq
    show zG n (0, 0) d 217 (14, [.inr (.inr (some 97)), .inl a1, .inl a2, .inl a3], [.inl x6]) M _
    refine zG_if_eq hd0 hz rfl (fun hb7 => ?_) (fun hb7 => ?_)
    · exact j24
    · have hcx6 := hx6.2.2.mp (by omega)
      clear hx6 hb7
      refine zG_blk (c' := (18, [.inr (.inr (some 97)), .inl a1, .inl a2, .inl a3], [.inl a3])) 1 hd0 hz (by rfl) ?_
      refine zG_call hd0 hz zp_184 rfl rfl (Nat.le_of_ble_eq_true rfl) ⟨Nat.le_refl _, Nat.le_refl _⟩ (qm_184 (by first | exact zdp hd (by decide) | omega) hC   a3 (by first | with_reducible exact ha3 | omega) ) (fun vr M8 hr => ?_)
      obtain ⟨hq, x9, rfl, hx9, hpx9_0⟩ := hr
      replace hq := hq.symm; subst hq
      show zG n (0, 0) d 217 (21, [.inr (.inr (some 97)), .inl a1, .inl a2, .inl a3], [.inl x9]) M _
      refine zG_if_ne hd0 hz rfl (fun hb10 => ?_) (fun hb10 => ?_)
      · have hcx9 := hpx9_0.mp (by omega)
        clear hx9 hpx9_0 hb10
        refine zG_blk (c' := (29, [.inr (.inr (some 97)), .inl a1, .inl a2, .inl a3], [.inl a3, .inr (.inr (some 97))])) 2 hd0 hz (by rfl) ?_
        refine zG_call hd0 hz zp_211 rfl rfl (Nat.le_of_ble_eq_true rfl) ⟨Nat.le_refl _, Nat.le_refl _⟩ (qm_211_97 (by first | exact zdp hd (by decide) | omega) hC   a3 (by first | with_reducible exact ha3 | omega) ) (fun vr M11 hr => ?_)
        obtain ⟨⟨hCM11, hFM11⟩, rfl⟩ := hr
        have hWM11 : qFm [101] M M11 := hW.tr hFM11 (by decide)
        have e13 : M11 98 4 = M 98 4 := hFM11 98 4 (by decide)
        show zG n (0, 0) d 217 (32, [.inr (.inr (some 97)), .inl a1, .inl a2, .inl a3], []) M11 _
        refine zG_blk (c' := (37, [.inr (.inr (some 97)), .inl a1, .inl a2, .inl a3], [.inl a1, .inr (.inr (some 101))])) 3 hd0 hz (by rfl) ?_
        refine zG_bald hd0 hz rfl rfl (.inl rfl) (by omega) ?_
        obtain ⟨x14, hx14⟩ : ∃ x : Int, x = M11 101 (a1 : Int).toNat := ⟨_, rfl⟩
        rw [← hx14]
        have hx14r : x14 = 0 ∨ x14 = 1 := by rw [hx14]; exact hCM11.bl101 _
        show zG n (0, 0) d 217 (38, [.inr (.inr (some 97)), .inl a1, .inl a2, .inl a3], [.inl x14]) M11 _
        have j51 : ∀ (v15 : Int) , (-2147483648) ≤ v15 ∧ v15 ≤ 2147483647 → zG n (0, 0) d 217 (51, [.inr (.inr (some 97)), .inl a1, .inl a2, .inl a3], [.inl v15]) M11 (fun v M' => (qMI M' ∧ qFm [101] M M') ∧ ∃ x : Int, v = some (.inl x) ∧ ((-2147483648) ≤ x ∧ x ≤ 2147483647)) := by
          intro v15 hv15
          exact zG_ret hd0 hz rfl rfl ⟨⟨hCM11, hWM11⟩, _, rfl, by omega⟩
        refine zG_if_eq hd0 hz rfl (fun hb16 => ?_) (fun hb16 => ?_)
        · refine zG_blk (c' := (51, [.inr (.inr (some 97)), .inl a1, .inl a2, .inl a3], [.inl (-1)])) 1 hd0 hz (by rfl) ?_
          exact j51 (-1) (by first | decide | omega)
        · refine zG_blk (c' := (44, [.inr (.inr (some 97)), .inl a1, .inl a2, .inl a3], [.inl a2, .inl a1, .inr (.inr (some 97))])) 3 hd0 hz (by rfl) ?_
          refine zG_call hd0 hz zp_216 rfl rfl (Nat.le_of_ble_eq_true rfl) ⟨Nat.le_refl _, Nat.le_refl _⟩ (qm_216_97 (by first | exact zdp hd (by decide) | omega) hCM11   a1 (by first | with_reducible exact ha1 | omega) a2 (by first | with_reducible exact ha2 | omega) ) (fun vr M17 hr => ?_)
          obtain ⟨hq, x18, rfl, hx18⟩ := hr
          replace hq := hq.symm; subst hq
          show zG n (0, 0) d 217 (47, [.inr (.inr (some 97)), .inl a1, .inl a2, .inl a3], [.inl x18]) M11 _
          refine zG_blk (c' := (51, [.inr (.inr (some 97)), .inl a1, .inl a2, .inl a3], [.inl x18])) 1 hd0 hz (by rfl) ?_
          exact j51 x18 (by omega)
      · exact j24
