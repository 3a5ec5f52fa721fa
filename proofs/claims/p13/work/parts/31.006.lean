theorem qm_266_97 {n d : Nat} {M : zM} (hd : 4 ≤ d) (hC : qMI M)  (a1 : Int) (ha1 : (-2147483648) ≤ a1 ∧ a1 ≤ 2147483647) (a2 : Int) (ha2 : (-2147483648) ≤ a2 ∧ a2 ≤ 2147483647) (a3 : Int) (ha3 : (-2147483648) ≤ a3 ∧ a3 ≤ 2147483647) (a4 : Int) (ha4 : (-2147483648) ≤ a4 ∧ a4 ≤ 2147483647) (a5 : Int) (ha5 : (-2147483648) ≤ a5 ∧ a5 ≤ 2147483647) (a6 : Int) (ha6 : (-2147483648) ≤ a6 ∧ a6 ≤ 2147483647) : qOkP n d 266 [.inr (.inr (some 97)), .inl a1, .inl a2, .inl a3, .inl a4, .inl a5, .inl a6] 7 M (fun v => ∃ x : Int, v = some (.inl x) ∧ (0 ≤ x ∧ x ≤ 1) ∧ (x = 1 → (0 ≤ a1 ∧ a1 < M 98 1) ∧ (0 ≤ a2 ∧ a2 ≤ 16383) ∧ (0 ≤ a3 ∧ a3 ≤ 2) ∧ (1 ≤ a4 ∧ a4 ≤ 4))) := by
  have hz := zp_266
  have hd0 : 0 < d := by omega
  have r1 := hC.cnt1
  have r2 := hC.cnt0
  show zG n (0, 0) d 266 (0, [.inr (.inr (some 97)), .inl a1, .inl a2, .inl a3, .inl a4, .inl a5, .inl a6], []) M _
  refine zG_blk (c' := (6, [.inr (.inr (some 97)), .inl a1, .inl a2, .inl a3, .inl a4, .inl a5, .inl a6], [.inl a6, .inl a5, .inl a1, .inr (.inr (some 97))])) 4 hd0 hz (by rfl) ?_
  refine zG_call hd0 hz zp_245 rfl rfl (Nat.le_of_ble_eq_true rfl) ⟨Nat.le_refl _, Nat.le_refl _⟩ (qm_245_97 (by first | exact zdp hd (by decide) | omega) hC   a1 (by first | with_reducible exact ha1 | omega) a5 (by first | with_reducible exact ha5 | omega) a6 (by first | with_reducible exact ha6 | omega) ) (fun vr M3 hr => ?_)
  obtain ⟨hq, x4, rfl, hx4, hpx4_0⟩ := hr
  replace hq := hq.symm; subst hq
  show zG n (0, 0) d 266 (9, [.inr (.inr (some 97)), .inl a1, .inl a2, .inl a3, .inl a4, .inl a5, .inl a6], [.inl x4]) M _
  have j54 : ∀ (v5 : Int) , 0 ≤ v5 ∧ v5 ≤ 1 → (v5 = 1 → (0 ≤ a1 ∧ a1 < M 98 1) ∧ (0 ≤ a2 ∧ a2 ≤ 16383) ∧ (0 ≤ a3 ∧ a3 ≤ 2) ∧ (1 ≤ a4 ∧ a4 ≤ 4)) → zG n (0, 0) d 266 (54, [.inr (.inr (some 97)), .inl a1, .inl a2, .inl a3, .inl a4, .inl a5, .inl a6], [.inl v5]) M (fun v M' => M' = M ∧ ∃ x : Int, v = some (.inl x) ∧ (0 ≤ x ∧ x ≤ 1) ∧ (x = 1 → (0 ≤ a1 ∧ a1 < M 98 1) ∧ (0 ≤ a2 ∧ a2 ≤ 16383) ∧ (0 ≤ a3 ∧ a3 ≤ 2) ∧ (1 ≤ a4 ∧ a4 ≤ 4))) := by
    intro v5 hv5 hx0_54
    exact zG_zret hd0 hz rfl (by omega) ⟨rfl, _, rfl, by omega, by omega⟩
  have j53 : zG n (0, 0) d 266 (53, [.inr (.inr (some 97)), .inl a1, .inl a2, .inl a3, .inl a4, .inl a5, .inl a6], []) M (fun v M' => M' = M ∧ ∃ x : Int, v = some (.inl x) ∧ (0 ≤ x ∧ x ≤ 1) ∧ (x = 1 → (0 ≤ a1 ∧ a1 < M 98 1) ∧ (0 ≤ a2 ∧ a2 ≤ 16383) ∧ (0 ≤ a3 ∧ a3 ≤ 2) ∧ (1 ≤ a4 ∧ a4 ≤ 4))) := by
    refine zG_blk (c' := (54, [.inr (.inr (some 97)), .inl a1, .inl a2, .inl a3, .inl a4, .inl a5, .inl a6], [.inl 0])) 1 hd0 hz (by rfl) ?_
    exact j54 0 (by first | decide | omega) (by omega)
  refine zG_if_eq hd0 hz rfl (fun hb6 => ?_) (fun hb6 => ?_)
  · exact j53
  · refine zG_blk (c' := (20, [.inr (.inr (some 97)), .inl a1, .inl a2, .inl a3, .inl a4, .inl a5, .inl a6], [.inl 0, .inr (.inr (some 98)), .inl 1, .inl 0, .inl a2])) 6 hd0 hz (by rfl) ?_
    refine zG_iald hd0 hz rfl rfl (.inl rfl) (by omega) ?_
    show zG n (0, 0) d 266 (21, [.inr (.inr (some 97)), .inl a1, .inl a2, .inl a3, .inl a4, .inl a5, .inl a6], [.inl (M 98 0), .inl 1, .inl 0, .inl a2]) M _
    obtain ⟨x7, hx7⟩ : ∃ x : Int, x = zbshl 1 (M 98 0) := ⟨_, rfl⟩
    have hx7r := qshl1_in (M 98 0) 16384 14 (by decide) (by decide) (by omega); rw [← hx7] at hx7r
    obtain ⟨x8, hx8⟩ : ∃ x : Int, x = w32 (x7 - 1) := ⟨_, rfl⟩
    have hx8e : x8 = x7 - 1 := by rw [hx8]; exact w32_id (by omega)
    refine zG_blk (c' := (24, [.inr (.inr (some 97)), .inl a1, .inl a2, .inl a3, .inl a4, .inl a5, .inl a6], [.inl x8, .inl 0, .inl a2])) 3 hd0 hz (by subst hx8; subst hx7; rfl) ?_
    refine zG_call hd0 hz zp_180 rfl rfl (Nat.le_of_ble_eq_true rfl) ⟨Nat.le_refl _, Nat.le_refl _⟩ (qx_in (by first | exact zdp hd (by decide) | omega) hC   a2 (by first | with_reducible exact ha2 | omega) 0 (by first | decide | omega) x8 (by omega) ) (fun vr M9 hr => ?_)
    obtain ⟨hq, x10, rfl, hx10⟩ := hr
    replace hq := hq.symm; subst hq
    show zG n (0, 0) d 266 (27, [.inr (.inr (some 97)), .inl a1, .inl a2, .inl a3, .inl a4, .inl a5, .inl a6], [.inl x10]) M _
    refine zG_if_eq hd0 hz rfl (fun hb11 => ?_) (fun hb11 => ?_)
    · exact j53
    · have hcx10 := hx10.2.2.mp (by omega)
      clear hx10 hb11
      refine zG_blk (c' := (33, [.inr (.inr (some 97)), .inl a1, .inl a2, .inl a3, .inl a4, .inl a5, .inl a6], [.inl 2, .inl 0, .inl a3])) 3 hd0 hz (by rfl) ?_
      refine zG_call hd0 hz zp_180 rfl rfl (Nat.le_of_ble_eq_true rfl) ⟨Nat.le_refl _, Nat.le_refl _⟩ (qx_in (by first | exact zdp hd (by decide) | omega) hC   a3 (by first | with_reducible exact ha3 | omega) 0 (by first | decide | omega) 2 (by first | decide | omega) ) (fun vr M12 hr => ?_)
      obtain ⟨hq, x13, rfl, hx13⟩ := hr
      replace hq := hq.symm; subst hq
      show zG n (0, 0) d 266 (36, [.inr (.inr (some 97)), .inl a1, .inl a2, .inl a3, .inl a4, .inl a5, .inl a6], [.inl x13]) M _
      refine zG_if_eq hd0 hz rfl (fun hb14 => ?_) (fun hb14 => ?_)
      · exact j53
      · have hcx13 := hx13.2.2.mp (by omega)
        clear hx13 hb14
        refine zG_blk (c' := (43, [.inr (.inr (some 97)), .inl a1, .inl a2, .inl a3, .inl a4, .inl a5, .inl a6], [.inl 4, .inl 1, .inl a4])) 3 hd0 hz (by rfl) ?_
        refine zG_call hd0 hz zp_180 rfl rfl (Nat.le_of_ble_eq_true rfl) ⟨Nat.le_refl _, Nat.le_refl _⟩ (qx_in (by first | exact zdp hd (by decide) | omega) hC   a4 (by first | with_reducible exact ha4 | omega) 1 (by first | decide | omega) 4 (by first | decide | omega) ) (fun vr M15 hr => ?_)
        obtain ⟨hq, x16, rfl, hx16⟩ := hr
        replace hq := hq.symm; subst hq
        show zG n (0, 0) d 266 (46, [.inr (.inr (some 97)), .inl a1, .inl a2, .inl a3, .inl a4, .inl a5, .inl a6], [.inl x16]) M _
        refine zG_if_eq hd0 hz rfl (fun hb17 => ?_) (fun hb17 => ?_)
        · exact j53
        · have hcx16 := hx16.2.2.mp (by omega)
          clear hx16 hb17
          refine zG_blk (c' := (54, [.inr (.inr (some 97)), .inl a1, .inl a2, .inl a3, .inl a4, .inl a5, .inl a6], [.inl 1])) 2 hd0 hz (by rfl) ?_
          exact j54 1 (by first | decide | omega) (by omega)
