theorem qm_212_97 {n d : Nat} {M : zM} (hd : 4 ≤ d) (hC : qMI M)  (a1 : Int) (ha1 : (-2147483648) ≤ a1 ∧ a1 ≤ 2147483647) (a2 : Int) (ha2 : (-2147483648) ≤ a2 ∧ a2 ≤ 2147483647) : qOkN n d 212 [.inr (.inr (some 97)), .inl a1, .inl a2] 3 [101] M (fun v M' => ∃ x : Int, v = some (.inl x) ∧ ((-2) ≤ x ∧ x ≤ 1)) := by
  have hz := zp_212
  have hd0 : 0 < d := by omega
  have hW : qFm [101] M M := qFm.rfl
  have r1 := hC.cnt4
  show zG n (0, 0) d 212 (0, [.inr (.inr (some 97)), .inl a1, .inl a2], []) M _
  refine zG_blk (c' := (3, [.inr (.inr (some 97)), .inl a1, .inl a2], [.inl a1, .inl 4, .inr (.inr (some 97))])) 3 hd0 hz (by rfl) ?_
  refine zG_call hd0 hz zp_182 rfl rfl (Nat.le_of_ble_eq_true rfl) ⟨Nat.le_refl _, Nat.le_refl _⟩ (qx_is (by first | exact zdp hd (by decide) | omega) hC   4 (by first | decide | omega) a1 (by first | with_reducible exact ha1 | omega) ) (fun vr M2 hr => ?_)
  obtain ⟨hq, x3, rfl, hx3⟩ := hr
  replace hq := hq.symm; subst hq
  show zG n (0, 0) d 212 (6, [.inr (.inr (some 97)), .inl a1, .inl a2], [.inl x3]) M _
  have j16 : zG n (0, 0) d 212 (16, [.inr (.inr (some 97)), .inl a1, .inl a2], []) M (fun v M' => (qMI M' ∧ qFm [101] M M') ∧ ∃ x : Int, v = some (.inl x) ∧ ((-2) ≤ x ∧ x ≤ 1)) := by
    refine zG_blk (c' := (18, [.inr (.inr (some 97)), .inl a1, .inl a2], [.inl (-2)])) 1 hd0 hz (by rfl) ?_
    exact zG_ret hd0 hz rfl rfl ⟨⟨hC, hW⟩, _, rfl, by omega⟩
  refine zG_if_eq hd0 hz rfl (fun hb4 => ?_) (fun hb4 => ?_)
  · exact j16
  · have hcx3 := hx3.2.2.mp (by omega)
    clear hx3 hb4
    refine zG_blk (c' := (10, [.inr (.inr (some 97)), .inl a1, .inl a2], [.inl a2])) 1 hd0 hz (by rfl) ?_
    refine zG_call hd0 hz zp_184 rfl rfl (Nat.le_of_ble_eq_true rfl) ⟨Nat.le_refl _, Nat.le_refl _⟩ (qm_184 (by first | exact zdp hd (by decide) | omega) hC   a2 (by first | with_reducible exact ha2 | omega) ) (fun vr M5 hr => ?_)
    obtain ⟨hq, x6, rfl, hx6, hpx6_0⟩ := hr
    replace hq := hq.symm; subst hq
    show zG n (0, 0) d 212 (13, [.inr (.inr (some 97)), .inl a1, .inl a2], [.inl x6]) M _
    refine zG_if_ne hd0 hz rfl (fun hb7 => ?_) (fun hb7 => ?_)
    · have hcx6 := hpx6_0.mp (by omega)
      clear hx6 hpx6_0 hb7
      refine zG_blk (c' := (21, [.inr (.inr (some 97)), .inl a1, .inl a2], [.inl a2, .inr (.inr (some 97))])) 2 hd0 hz (by rfl) ?_
      refine zG_call hd0 hz zp_211 rfl rfl (Nat.le_of_ble_eq_true rfl) ⟨Nat.le_refl _, Nat.le_refl _⟩ (qm_211_97 (by first | exact zdp hd (by decide) | omega) hC   a2 (by first | with_reducible exact ha2 | omega) ) (fun vr M8 hr => ?_)
      obtain ⟨⟨hCM8, hFM8⟩, rfl⟩ := hr
      have hWM8 : qFm [101] M M8 := hW.tr hFM8 (by decide)
      have e10 : M8 98 4 = M 98 4 := hFM8 98 4 (by decide)
      show zG n (0, 0) d 212 (24, [.inr (.inr (some 97)), .inl a1, .inl a2], []) M8 _
      refine zG_blk (c' := (29, [.inr (.inr (some 97)), .inl a1, .inl a2], [.inl a1, .inr (.inr (some 101))])) 3 hd0 hz (by rfl) ?_
      refine zG_bald hd0 hz rfl rfl (.inl rfl) (by omega) ?_
      obtain ⟨x11, hx11⟩ : ∃ x : Int, x = M8 101 (a1 : Int).toNat := ⟨_, rfl⟩
      rw [← hx11]
      have hx11r : x11 = 0 ∨ x11 = 1 := by rw [hx11]; exact hCM8.bl101 _
      show zG n (0, 0) d 212 (30, [.inr (.inr (some 97)), .inl a1, .inl a2], [.inl x11]) M8 _
      have j38 : ∀ (v12 : Int) , 0 ≤ v12 ∧ v12 ≤ 1 → zG n (0, 0) d 212 (38, [.inr (.inr (some 97)), .inl a1, .inl a2], [.inl v12]) M8 (fun v M' => (qMI M' ∧ qFm [101] M M') ∧ ∃ x : Int, v = some (.inl x) ∧ ((-2) ≤ x ∧ x ≤ 1)) := by
        intro v12 hv12
        exact zG_ret hd0 hz rfl rfl ⟨⟨hCM8, hWM8⟩, _, rfl, by omega⟩
      refine zG_if_eq hd0 hz rfl (fun hb13 => ?_) (fun hb13 => ?_)
      · refine zG_blk (c' := (38, [.inr (.inr (some 97)), .inl a1, .inl a2], [.inl 0])) 1 hd0 hz (by rfl) ?_
        exact j38 0 (by first | decide | omega)
      · refine zG_blk (c' := (38, [.inr (.inr (some 97)), .inl a1, .inl a2], [.inl 1])) 2 hd0 hz (by rfl) ?_
        exact j38 1 (by first | decide | omega)
    · exact j16
