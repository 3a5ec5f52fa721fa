theorem qm_273_97 {n d : Nat} {M : zM} (hd : 1 ≤ d) (hC : qMI M)  (a1 : Int) (ha1 : (-2147483648) ≤ a1 ∧ a1 ≤ 2147483647) (a2 : Int) (ha2 : (-2147483648) ≤ a2 ∧ a2 ≤ 2147483647) : qOkP n d 273 [.inr (.inr (some 97)), .inl a1, .inl a2] 5 M (fun v => ∃ x : Int, v = some (.inl x) ∧ (0 ≤ x ∧ x ≤ 1)) := by
  have hz := zp_273
  have hd0 : 0 < d := by omega
  have r1 := hC.cnt1
  show zG n (0, 0) d 273 (0, [.inr (.inr (some 97)), .inl a1, .inl a2, zN, zN], []) M _
  refine zG_blk (c' := (2, [.inr (.inr (some 97)), .inl a1, .inl a2, .inl 0, zN], [])) 2 hd0 hz (by rfl) ?_
  have j2 : ∀ (N : Nat) (v2 : Int) , (20 - v2 : Int).toNat < N → 0 ≤ v2 ∧ v2 ≤ 20 → zG n (0, 0) d 273 (2, [.inr (.inr (some 97)), .inl a1, .inl a2, .inl v2, zN], []) M (fun v M' => M' = M ∧ ∃ x : Int, v = some (.inl x) ∧ (0 ≤ x ∧ x ≤ 1)) := by
    intro N
    induction N with
    | zero => intro v2 hN hv2; exact absurd hN (Nat.not_lt_zero _)
    | succ N ih2 =>
      intro v2 hN hv2
      refine zG_blk (c' := (8, [.inr (.inr (some 97)), .inl a1, .inl a2, .inl v2, zN], [.inl 1, .inr (.inr (some 98)), .inl v2])) 4 hd0 hz (by rfl) ?_
      refine zG_iald hd0 hz rfl rfl (.inl rfl) (by omega) ?_
      show zG n (0, 0) d 273 (9, [.inr (.inr (some 97)), .inl a1, .inl a2, .inl v2, zN], [.inl (M 98 1), .inl v2]) M _
      refine zG_icmp_ge hd0 hz rfl (fun hb3 => ?_) (fun hb3 => ?_)
      · refine zG_blk (c' := (56, [.inr (.inr (some 97)), .inl a1, .inl a2, .inl v2, zN], [.inl 1])) 1 hd0 hz (by rfl) ?_
        exact zG_ret hd0 hz rfl rfl ⟨rfl, _, rfl, by omega⟩
      · obtain ⟨x4, hx4⟩ : ∃ x : Int, x = w32 (3 * v2) := ⟨_, rfl⟩
        have hx4e : x4 = 3 * v2 := by rw [hx4]; exact w32_id (by omega)
        obtain ⟨x5, hx5⟩ : ∃ x : Int, x = w32 (80 + x4) := ⟨_, rfl⟩
        have hx5e : x5 = 80 + x4 := by rw [hx5]; exact w32_id (by omega)
        obtain ⟨x6, hx6⟩ : ∃ x : Int, x = w32 (x5 + 2) := ⟨_, rfl⟩
        have hx6e : x6 = x5 + 2 := by rw [hx6]; exact w32_id (by omega)
        refine zG_blk (c' := (24, [.inr (.inr (some 97)), .inl a1, .inl a2, .inl v2, zN], [.inl x6, .inr (.inr (some 98))])) 9 hd0 hz (by subst hx6; subst hx5; subst hx4; rfl) ?_
        refine zG_iald hd0 hz rfl rfl (.inl rfl) (by omega) ?_
        obtain ⟨x7, hx7⟩ : ∃ x : Int, x = M 98 (x6 : Int).toNat := ⟨_, rfl⟩
        rw [← hx7]
        have hx7r : qin x7 := by rw [hx7]; exact hC.sin _
        show zG n (0, 0) d 273 (25, [.inr (.inr (some 97)), .inl a1, .inl a2, .inl v2, zN], [.inl x7]) M _
        obtain ⟨x8, hx8⟩ : ∃ x : Int, x = zbshr x7 a1 := ⟨_, rfl⟩
        have hx8r : qin x8 := by rw [hx8]; exact qb32 _
        obtain ⟨x9, hx9⟩ : ∃ x : Int, x = zband x8 1 := ⟨_, rfl⟩
        have hx9r := qband_r x8 1 (by first | decide | omega) (by omega); rw [← hx9] at hx9r
        have hx9l : 0 ≤ x8 → x9 ≤ x8 := fun h9 => by rw [hx9]; exact (qband_l x8 1 ⟨h9, by omega⟩ (by omega)).2
        refine zG_blk (c' := (34, [.inr (.inr (some 97)), .inl a1, .inl a2, .inl v2, .inl x7], [.inl 1, .inl x9])) 7 hd0 hz (by subst hx9; subst hx8; rfl) ?_
        have j49 : zG n (0, 0) d 273 (49, [.inr (.inr (some 97)), .inl a1, .inl a2, .inl v2, .inl x7], []) M (fun v M' => M' = M ∧ ∃ x : Int, v = some (.inl x) ∧ (0 ≤ x ∧ x ≤ 1)) := by
          obtain ⟨x10, hx10⟩ : ∃ x : Int, x = w32 (v2 + 1) := ⟨_, rfl⟩
          have hx10e : x10 = v2 + 1 := by rw [hx10]; exact w32_id (by omega)
          refine zG_blk (c' := (2, [.inr (.inr (some 97)), .inl a1, .inl a2, .inl x10, .inl x7], [])) 2 hd0 hz (by subst hx10; rfl) ?_
          exact zG_weak (ih2 x10 (by omega) (by omega)) ⟨.inr rfl, .inr rfl, .inr rfl, .inr rfl, .inl rfl, trivial⟩
        refine zG_icmp_ne hd0 hz rfl (fun hb11 => ?_) (fun hb11 => ?_)
        · exact j49
        · obtain ⟨x12, hx12⟩ : ∃ x : Int, x = zbshr x7 a2 := ⟨_, rfl⟩
          have hx12r : qin x12 := by rw [hx12]; exact qb32 _
          obtain ⟨x13, hx13⟩ : ∃ x : Int, x = zband x12 1 := ⟨_, rfl⟩
          have hx13r := qband_r x12 1 (by first | decide | omega) (by omega); rw [← hx13] at hx13r
          have hx13l : 0 ≤ x12 → x13 ≤ x12 := fun h9 => by rw [hx13]; exact (qband_l x12 1 ⟨h9, by omega⟩ (by omega)).2
          refine zG_blk (c' := (44, [.inr (.inr (some 97)), .inl a1, .inl a2, .inl v2, .inl x7], [.inl 1, .inl x13])) 6 hd0 hz (by subst hx13; subst hx12; rfl) ?_
          refine zG_icmp_ne hd0 hz rfl (fun hb14 => ?_) (fun hb14 => ?_)
          · exact j49
          · refine zG_blk (c' := (48, [.inr (.inr (some 97)), .inl a1, .inl a2, .inl v2, .inl x7], [.inl 0])) 1 hd0 hz (by rfl) ?_
            exact zG_ret hd0 hz rfl rfl ⟨rfl, _, rfl, by omega⟩
  exact j2 ((20 - 0 : Int).toNat + 1) 0 (by first | decide | omega) (by omega)
