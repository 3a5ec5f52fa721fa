theorem qm_292_97 {n d : Nat} {M : zM} (hd : 3 ≤ d) (hC : qMI M)  (a1 : Int) (ha1 : 0 ≤ a1 ∧ a1 ≤ 7) : qOkP n d 292 [.inr (.inr (some 97)), .inl a1] 4 M (fun v => ∃ x : Int, v = some (.inl x) ∧ ((-2147483648) ≤ x ∧ x ≤ 2147483647)) := by
  have hz := zp_292
  have hd0 : 0 < d := by omega
  have r1 := hC.cnt3
  show zG n (0, 0) d 292 (0, [.inr (.inr (some 97)), .inl a1, zN, zN], []) M _
  refine zG_blk (c' := (3, [.inr (.inr (some 97)), .inl a1, zN, zN], [.inl 7, .inl a1])) 2 hd0 hz (by rfl) ?_
  refine zG_icmp_ge hd0 hz rfl (fun hb2 => ?_) (fun hb2 => ?_)
  · refine zG_blk (c' := (17, [.inr (.inr (some 97)), .inl a1, .inl 0, .inl 0], [])) 4 hd0 hz (by rfl) ?_
    have j17 : ∀ (N : Nat) (v3 v4 : Int) , (40 - v4 : Int).toNat < N → (-2147483648) ≤ v3 ∧ v3 ≤ 2147483647 → 0 ≤ v4 ∧ v4 ≤ 40 → zG n (0, 0) d 292 (17, [.inr (.inr (some 97)), .inl a1, .inl v3, .inl v4], []) M (fun v M' => M' = M ∧ ∃ x : Int, v = some (.inl x) ∧ ((-2147483648) ≤ x ∧ x ≤ 2147483647)) := by
      intro N
      induction N with
      | zero => intro v3 v4 hN hv3 hv4; exact absurd hN (Nat.not_lt_zero _)
      | succ N ih17 =>
        intro v3 v4 hN hv3 hv4
        refine zG_blk (c' := (23, [.inr (.inr (some 97)), .inl a1, .inl v3, .inl v4], [.inl 3, .inr (.inr (some 98)), .inl v4])) 4 hd0 hz (by rfl) ?_
        refine zG_iald hd0 hz rfl rfl (.inl rfl) (by omega) ?_
        show zG n (0, 0) d 292 (24, [.inr (.inr (some 97)), .inl a1, .inl v3, .inl v4], [.inl (M 98 3), .inl v4]) M _
        refine zG_icmp_ge hd0 hz rfl (fun hb5 => ?_) (fun hb5 => ?_)
        · refine zG_blk (c' := (50, [.inr (.inr (some 97)), .inl a1, .inl v3, .inl v4], [.inl v3])) 1 hd0 hz (by rfl) ?_
          exact zG_ret hd0 hz rfl rfl ⟨rfl, _, rfl, by omega⟩
        · refine zG_blk (c' := (30, [.inr (.inr (some 97)), .inl a1, .inl v3, .inl v4], [.inl v4, .inr (.inr (some 97)), .inl v3])) 3 hd0 hz (by rfl) ?_
          refine zG_call hd0 hz zp_192 rfl rfl (Nat.le_of_ble_eq_true rfl) ⟨Nat.le_refl _, Nat.le_refl _⟩ (qm_192_97 (by first | exact zdp hd (by decide) | omega) hC   v4 (by first | with_reducible exact hv4 | omega) ) (fun vr M6 hr => ?_)
          obtain ⟨hq, x7, rfl, hx7, hpx7_0⟩ := hr
          replace hq := hq.symm; subst hq
          show zG n (0, 0) d 292 (33, [.inr (.inr (some 97)), .inl a1, .inl v3, .inl v4], [.inl x7, .inl v3]) M _
          have j41 : ∀ (v8 : Int) , 0 ≤ v8 ∧ v8 ≤ 1 → zG n (0, 0) d 292 (41, [.inr (.inr (some 97)), .inl a1, .inl v3, .inl v4], [.inl v8, .inl v3]) M (fun v M' => M' = M ∧ ∃ x : Int, v = some (.inl x) ∧ ((-2147483648) ≤ x ∧ x ≤ 2147483647)) := by
            intro v8 hv8
            obtain ⟨x9, hx9⟩ : ∃ x : Int, x = w32 (v3 + v8) := ⟨_, rfl⟩
            have hx9r : x9 = (v3 + v8 + 2147483648) % 4294967296 - 2147483648 := hx9
            obtain ⟨x10, hx10⟩ : ∃ x : Int, x = w32 (v4 + 1) := ⟨_, rfl⟩
            have hx10e : x10 = v4 + 1 := by rw [hx10]; exact w32_id (by omega)
            refine zG_blk (c' := (17, [.inr (.inr (some 97)), .inl a1, .inl x9, .inl x10], [])) 4 hd0 hz (by subst hx10; subst hx9; rfl) ?_
            exact ih17 x9 x10 (by omega) (by omega) (by omega)
          refine zG_if_eq hd0 hz rfl (fun hb11 => ?_) (fun hb11 => ?_)
          · refine zG_blk (c' := (41, [.inr (.inr (some 97)), .inl a1, .inl v3, .inl v4], [.inl 0, .inl v3])) 1 hd0 hz (by rfl) ?_
            exact j41 0 (by first | decide | omega)
          · refine zG_blk (c' := (41, [.inr (.inr (some 97)), .inl a1, .inl v3, .inl v4], [.inl 1, .inl v3])) 2 hd0 hz (by rfl) ?_
            exact j41 1 (by first | decide | omega)
    exact j17 ((40 - 0 : Int).toNat + 1) 0 0 (by first | decide | omega) (by omega) (by omega)
  · refine zG_blk (c' := (11, [.inr (.inr (some 97)), .inl a1, zN, zN], [.inl a1, .inr (.inr (some 98))])) 3 hd0 hz (by rfl) ?_
    refine zG_iald hd0 hz rfl rfl (.inl rfl) (by omega) ?_
    obtain ⟨x12, hx12⟩ : ∃ x : Int, x = M 98 (a1 : Int).toNat := ⟨_, rfl⟩
    rw [← hx12]
    have hx12r : qin x12 := by rw [hx12]; exact hC.sin _
    show zG n (0, 0) d 292 (12, [.inr (.inr (some 97)), .inl a1, zN, zN], [.inl x12]) M _
    exact zG_ret hd0 hz rfl rfl ⟨rfl, _, rfl, by omega⟩
