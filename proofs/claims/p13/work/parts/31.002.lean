theorem qm_262_97 {n d : Nat} {M : zM} (hd : 1 ≤ d) (hC : qMI M)  (a1 : Int) (ha1 : 0 ≤ a1 ∧ a1 ≤ 32767) : qOkP n d 262 [.inr (.inr (some 97)), .inl a1] 4 M (fun v => ∃ x : Int, v = some (.inl x) ∧ (0 ≤ x ∧ x ≤ 16383)) := by
  have hz := zp_262
  have hd0 : 0 < d := by omega
  show zG n (0, 0) d 262 (0, [.inr (.inr (some 97)), .inl a1, zN, zN], []) M _
  refine zG_blk (c' := (4, [.inr (.inr (some 97)), .inl a1, .inl 0, .inl 0], [])) 4 hd0 hz (by rfl) ?_
  have j4 : ∀ (N : Nat) (v1 v2 : Int) , (14 - v2 : Int).toNat < N → 0 ≤ v1 ∧ v1 ≤ 16383 → 0 ≤ v2 ∧ v2 ≤ 14 → zG n (0, 0) d 262 (4, [.inr (.inr (some 97)), .inl a1, .inl v1, .inl v2], []) M (fun v M' => M' = M ∧ ∃ x : Int, v = some (.inl x) ∧ (0 ≤ x ∧ x ≤ 16383)) := by
    intro N
    induction N with
    | zero => intro v1 v2 hN hv1 hv2; exact absurd hN (Nat.not_lt_zero _)
    | succ N ih4 =>
      intro v1 v2 hN hv1 hv2
      have r3 := hC.f30
      refine zG_blk (c' := (9, [.inr (.inr (some 97)), .inl a1, .inl v1, .inl v2], [.inl (M 97 30), .inl v2])) 3 hd0 hz (by rfl) ?_
      refine zG_icmp_ge hd0 hz rfl (fun hb4 => ?_) (fun hb4 => ?_)
      · refine zG_blk (c' := (34, [.inr (.inr (some 97)), .inl a1, .inl v1, .inl v2], [.inl v1])) 1 hd0 hz (by rfl) ?_
        exact zG_ret hd0 hz rfl rfl ⟨rfl, _, rfl, by omega⟩
      · obtain ⟨x5, hx5⟩ : ∃ x : Int, x = zbshr a1 v2 := ⟨_, rfl⟩
        have hx5r := qbshr_n a1 v2 (by first | with_reducible exact hv2 | omega); rw [← hx5] at hx5r
        obtain ⟨x6, hx6⟩ : ∃ x : Int, x = zband x5 1 := ⟨_, rfl⟩
        have hx6r := qband_lr x5 1 (by first | decide | omega) (by omega); rw [← hx6] at hx6r
        refine zG_blk (c' := (23, [.inr (.inr (some 97)), .inl a1, .inl v1, .inl v2], [.inl v2, .inr (.inr (some 115)), .inl x6, .inl v1])) 9 hd0 hz (by subst hx6; subst hx5; rfl) ?_
        refine zG_iald hd0 hz rfl rfl (.inl rfl) (by omega) ?_
        obtain ⟨x7, hx7⟩ : ∃ x : Int, x = M 115 (v2 : Int).toNat := ⟨_, rfl⟩
        rw [← hx7]
        have hx7r : 0 ≤ x7 ∧ x7 ≤ 13 := by rw [hx7]; exact hC.c115 _
        show zG n (0, 0) d 262 (24, [.inr (.inr (some 97)), .inl a1, .inl v1, .inl v2], [.inl x7, .inl x6, .inl v1]) M _
        obtain ⟨x8, hx8⟩ : ∃ x : Int, x = zbshl x6 x7 := ⟨_, rfl⟩
        have hx8r := qshl_in x6 x7 1 8192 13 (by decide) (by decide) (by omega) (by omega) (by decide); rw [← hx8] at hx8r
        obtain ⟨x9, hx9⟩ : ∃ x : Int, x = zbor v1 x8 := ⟨_, rfl⟩
        have hx9r := qbor_in v1 x8 16384 14 (by decide) (by decide) (by omega) (by omega); rw [← hx9] at hx9r
        obtain ⟨x10, hx10⟩ : ∃ x : Int, x = w32 (v2 + 1) := ⟨_, rfl⟩
        have hx10e : x10 = v2 + 1 := by rw [hx10]; exact w32_id (by omega)
        refine zG_blk (c' := (4, [.inr (.inr (some 97)), .inl a1, .inl x9, .inl x10], [])) 5 hd0 hz (by subst hx10; subst hx9; subst hx8; rfl) ?_
        exact ih4 x9 x10 (by omega) (by omega) (by omega)
  exact j4 ((14 - 0 : Int).toNat + 1) 0 0 (by first | decide | omega) (by omega) (by omega)
