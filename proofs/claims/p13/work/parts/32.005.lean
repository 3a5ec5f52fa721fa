theorem qm_277_97 {n d : Nat} {M : zM} (hd : 2 ≤ d) (hC : qMI M)  (a1 : Int) (ha1 : (-2147483648) ≤ a1 ∧ a1 ≤ 2147483647) (a2 : Int) (ha2 : (-2147483648) ≤ a2 ∧ a2 ≤ 2147483647) (a3 : Int) (ha3 : 0 ≤ a3 ∧ a3 ≤ 1) : qOkP n d 277 [.inr (.inr (some 97)), .inl a1, .inl a2, .inl a3] 4 M (fun v => ∃ x : Int, v = some (.inl x) ∧ ((-3) ≤ x ∧ x ≤ 1) ∧ (x = 1 → (0 ≤ a1 ∧ a1 ≤ 16383) ∧ (1 ≤ a2 ∧ a2 ≤ 200) ∧ a3 ≠ 0 ∧ qpc 31 a1.toNat ≤ 9)) := by
  have hz := zp_277
  have hd0 : 0 < d := by omega
  have r1 := hC.cnt0
  show zG n (0, 0) d 277 (0, [.inr (.inr (some 97)), .inl a1, .inl a2, .inl a3], []) M _
  refine zG_blk (c' := (1, [.inr (.inr (some 97)), .inl a1, .inl a2, .inl a3], [.inl a3])) 1 hd0 hz (by rfl) ?_
  have j53 : ∀ (v2 : Int) , (-3) ≤ v2 ∧ v2 ≤ 1 → (v2 = 1 → (0 ≤ a1 ∧ a1 ≤ 16383) ∧ (1 ≤ a2 ∧ a2 ≤ 200) ∧ a3 ≠ 0 ∧ qpc 31 a1.toNat ≤ 9) → zG n (0, 0) d 277 (53, [.inr (.inr (some 97)), .inl a1, .inl a2, .inl a3], [.inl v2]) M (fun v M' => M' = M ∧ ∃ x : Int, v = some (.inl x) ∧ ((-3) ≤ x ∧ x ≤ 1) ∧ (x = 1 → (0 ≤ a1 ∧ a1 ≤ 16383) ∧ (1 ≤ a2 ∧ a2 ≤ 200) ∧ a3 ≠ 0 ∧ qpc 31 a1.toNat ≤ 9)) := by
    intro v2 hv2 hx0_53
    exact zG_ret hd0 hz rfl rfl ⟨rfl, _, rfl, by omega, by omega⟩
  have j33 : zG n (0, 0) d 277 (33, [.inr (.inr (some 97)), .inl a1, .inl a2, .inl a3], []) M (fun v M' => M' = M ∧ ∃ x : Int, v = some (.inl x) ∧ ((-3) ≤ x ∧ x ≤ 1) ∧ (x = 1 → (0 ≤ a1 ∧ a1 ≤ 16383) ∧ (1 ≤ a2 ∧ a2 ≤ 200) ∧ a3 ≠ 0 ∧ qpc 31 a1.toNat ≤ 9)) := by
    refine zG_blk (c' := (53, [.inr (.inr (some 97)), .inl a1, .inl a2, .inl a3], [.inl (-2)])) 2 hd0 hz (by rfl) ?_
    exact j53 (-2) (by first | decide | omega) (by omega)
  refine zG_if_eq hd0 hz rfl (fun hb3 => ?_) (fun hb3 => ?_)
  · exact j33
  · refine zG_blk (c' := (12, [.inr (.inr (some 97)), .inl a1, .inl a2, .inl a3], [.inl 0, .inr (.inr (some 98)), .inl 1, .inl 0, .inl a1])) 6 hd0 hz (by rfl) ?_
    refine zG_iald hd0 hz rfl rfl (.inl rfl) (by omega) ?_
    show zG n (0, 0) d 277 (13, [.inr (.inr (some 97)), .inl a1, .inl a2, .inl a3], [.inl (M 98 0), .inl 1, .inl 0, .inl a1]) M _
    obtain ⟨x4, hx4⟩ : ∃ x : Int, x = zbshl 1 (M 98 0) := ⟨_, rfl⟩
    have hx4r := qshl1_in (M 98 0) 16384 14 (by decide) (by decide) (by omega); rw [← hx4] at hx4r
    obtain ⟨x5, hx5⟩ : ∃ x : Int, x = w32 (x4 - 1) := ⟨_, rfl⟩
    have hx5e : x5 = x4 - 1 := by rw [hx5]; exact w32_id (by omega)
    refine zG_blk (c' := (16, [.inr (.inr (some 97)), .inl a1, .inl a2, .inl a3], [.inl x5, .inl 0, .inl a1])) 3 hd0 hz (by subst hx5; subst hx4; rfl) ?_
    refine zG_call hd0 hz zp_180 rfl rfl (Nat.le_of_ble_eq_true rfl) ⟨Nat.le_refl _, Nat.le_refl _⟩ (qx_in (by first | exact zdp hd (by decide) | omega) hC   a1 (by first | with_reducible exact ha1 | omega) 0 (by first | decide | omega) x5 (by omega) ) (fun vr M6 hr => ?_)
    obtain ⟨hq, x7, rfl, hx7⟩ := hr
    replace hq := hq.symm; subst hq
    show zG n (0, 0) d 277 (19, [.inr (.inr (some 97)), .inl a1, .inl a2, .inl a3], [.inl x7]) M _
    refine zG_if_eq hd0 hz rfl (fun hb8 => ?_) (fun hb8 => ?_)
    · exact j33
    · have hcx7 := hx7.2.2.mp (by omega)
      clear hx7 hb8
      refine zG_blk (c' := (27, [.inr (.inr (some 97)), .inl a1, .inl a2, .inl a3], [.inl 200, .inl 1, .inl a2])) 3 hd0 hz (by rfl) ?_
      refine zG_call hd0 hz zp_180 rfl rfl (Nat.le_of_ble_eq_true rfl) ⟨Nat.le_refl _, Nat.le_refl _⟩ (qx_in (by first | exact zdp hd (by decide) | omega) hC   a2 (by first | with_reducible exact ha2 | omega) 1 (by first | decide | omega) 200 (by first | decide | omega) ) (fun vr M9 hr => ?_)
      obtain ⟨hq, x10, rfl, hx10⟩ := hr
      replace hq := hq.symm; subst hq
      show zG n (0, 0) d 277 (30, [.inr (.inr (some 97)), .inl a1, .inl a2, .inl a3], [.inl x10]) M _
      refine zG_if_ne hd0 hz rfl (fun hb11 => ?_) (fun hb11 => ?_)
      · have hcx10 := hx10.2.2.mp (by omega)
        clear hx10 hb11
        refine zG_blk (c' := (39, [.inr (.inr (some 97)), .inl a1, .inl a2, .inl a3], [.inl a1])) 1 hd0 hz (by rfl) ?_
        refine zG_call hd0 hz zp_186 rfl rfl (Nat.le_of_ble_eq_true rfl) ⟨Nat.le_refl _, Nat.le_refl _⟩ (qx_sizeOf (by first | exact zdp hd (by decide) | omega) hC   a1 (by first | with_reducible exact ha1 | omega) ) (fun vr M12 hr => ?_)
        obtain ⟨hq, x13, rfl, hx13⟩ := hr
        replace hq := hq.symm; subst hq
        show zG n (0, 0) d 277 (42, [.inr (.inr (some 97)), .inl a1, .inl a2, .inl a3], [.inl x13]) M _
        refine zG_blk (c' := (44, [.inr (.inr (some 97)), .inl a1, .inl a2, .inl a3], [.inl 9, .inl x13])) 1 hd0 hz (by rfl) ?_
        refine zG_icmp_le hd0 hz rfl (fun hb14 => ?_) (fun hb14 => ?_)
        · refine zG_blk (c' := (53, [.inr (.inr (some 97)), .inl a1, .inl a2, .inl a3], [.inl 1])) 1 hd0 hz (by rfl) ?_
          exact j53 1 (by first | decide | omega) (by omega)
        · refine zG_blk (c' := (53, [.inr (.inr (some 97)), .inl a1, .inl a2, .inl a3], [.inl (-3)])) 2 hd0 hz (by rfl) ?_
          exact j53 (-3) (by first | decide | omega) (by omega)
      · exact j33
