theorem qm_288_97 {n d : Nat} {M : zM} (hd : 1 ≤ d) (hC : qMI M)  (a1 : Int) (ha1 : (-2147483648) ≤ a1 ∧ a1 ≤ 2147483647) : qOkP n d 288 [.inr (.inr (some 97)), .inl a1] 4 M (fun v => ∃ x : Int, v = some (.inl x) ∧ ((-2147483648) ≤ x ∧ x ≤ 2147483647)) := by
  have hz := zp_288
  have hd0 : 0 < d := by omega
  have r1 := hC.cnt6
  show zG n (0, 0) d 288 (0, [.inr (.inr (some 97)), .inl a1, zN, zN], []) M _
  refine zG_blk (c' := (4, [.inr (.inr (some 97)), .inl a1, .inl 0, .inl 0], [])) 4 hd0 hz (by rfl) ?_
  have j4 : ∀ (N : Nat) (v2 v3 : Int) , (12 - v3 : Int).toNat < N → (-2147483648) ≤ v2 ∧ v2 ≤ 2147483647 → 0 ≤ v3 ∧ v3 ≤ 12 → zG n (0, 0) d 288 (4, [.inr (.inr (some 97)), .inl a1, .inl v2, .inl v3], []) M (fun v M' => M' = M ∧ ∃ x : Int, v = some (.inl x) ∧ ((-2147483648) ≤ x ∧ x ≤ 2147483647)) := by
    intro N
    induction N with
    | zero => intro v2 v3 hN hv2 hv3; exact absurd hN (Nat.not_lt_zero _)
    | succ N ih4 =>
      intro v2 v3 hN hv2 hv3
      refine zG_blk (c' := (11, [.inr (.inr (some 97)), .inl a1, .inl v2, .inl v3], [.inl 6, .inr (.inr (some 98)), .inl v3])) 4 hd0 hz (by rfl) ?_
      refine zG_iald hd0 hz rfl rfl (.inl rfl) (by omega) ?_
      show zG n (0, 0) d 288 (12, [.inr (.inr (some 97)), .inl a1, .inl v2, .inl v3], [.inl (M 98 6), .inl v3]) M _
      refine zG_icmp_ge hd0 hz rfl (fun hb4 => ?_) (fun hb4 => ?_)
      · refine zG_blk (c' := (43, [.inr (.inr (some 97)), .inl a1, .inl v2, .inl v3], [.inl v2])) 1 hd0 hz (by rfl) ?_
        exact zG_ret hd0 hz rfl rfl ⟨rfl, _, rfl, by omega⟩
      · obtain ⟨x5, hx5⟩ : ∃ x : Int, x = w32 (2 * v3) := ⟨_, rfl⟩
        have hx5e : x5 = 2 * v3 := by rw [hx5]; exact w32_id (by omega)
        obtain ⟨x6, hx6⟩ : ∃ x : Int, x = w32 (5640 + x5) := ⟨_, rfl⟩
        have hx6e : x6 = 5640 + x5 := by rw [hx6]; exact w32_id (by omega)
        obtain ⟨x7, hx7⟩ : ∃ x : Int, x = zbshr a1 v3 := ⟨_, rfl⟩
        have hx7r : qin x7 := by rw [hx7]; exact qb32 _
        obtain ⟨x8, hx8⟩ : ∃ x : Int, x = zband x7 1 := ⟨_, rfl⟩
        have hx8r := qband_r x7 1 (by first | decide | omega) (by omega); rw [← hx8] at hx8r
        have hx8l : 0 ≤ x7 → x8 ≤ x7 := fun h9 => by rw [hx8]; exact (qband_l x7 1 ⟨h9, by omega⟩ (by omega)).2
        obtain ⟨x9, hx9⟩ : ∃ x : Int, x = w32 (x6 + x8) := ⟨_, rfl⟩
        have hx9e : x9 = x6 + x8 := by rw [hx9]; exact w32_id (by omega)
        refine zG_blk (c' := (33, [.inr (.inr (some 97)), .inl a1, .inl v2, .inl v3], [.inl x9, .inr (.inr (some 98)), .inl v2])) 14 hd0 hz (by subst hx9; subst hx8; subst hx7; subst hx6; subst hx5; rfl) ?_
        refine zG_iald hd0 hz rfl rfl (.inl rfl) (by omega) ?_
        obtain ⟨x10, hx10⟩ : ∃ x : Int, x = M 98 (x9 : Int).toNat := ⟨_, rfl⟩
        rw [← hx10]
        have hx10r : qin x10 := by rw [hx10]; exact hC.sin _
        show zG n (0, 0) d 288 (34, [.inr (.inr (some 97)), .inl a1, .inl v2, .inl v3], [.inl x10, .inl v2]) M _
        obtain ⟨x11, hx11⟩ : ∃ x : Int, x = w32 (v2 + x10) := ⟨_, rfl⟩
        have hx11r : x11 = (v2 + x10 + 2147483648) % 4294967296 - 2147483648 := hx11
        obtain ⟨x12, hx12⟩ : ∃ x : Int, x = w32 (v3 + 1) := ⟨_, rfl⟩
        have hx12e : x12 = v3 + 1 := by rw [hx12]; exact w32_id (by omega)
        refine zG_blk (c' := (4, [.inr (.inr (some 97)), .inl a1, .inl x11, .inl x12], [])) 4 hd0 hz (by subst hx12; subst hx11; rfl) ?_
        exact ih4 x11 x12 (by omega) (by omega) (by omega)
  exact j4 ((12 - 0 : Int).toNat + 1) 0 0 (by first | decide | omega) (by omega) (by omega)
