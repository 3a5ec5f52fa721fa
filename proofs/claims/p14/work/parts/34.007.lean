theorem qm_294_97 {n d : Nat} {M : zM} (hd : 1 ≤ d) (hC : qMI M)  (a1 : Int) (a2 : Int) (ha2 : 0 ≤ a2 ∧ a2 ≤ 5663) (a3 : Int) (ha3 : 0 ≤ a3 ∧ a3 ≤ 5664) (hp0 : a2 + a3 ≤ 5664) : qOkP n d 294 [.inr (.inr (some 97)), .inr (.inl (a1)), .inl a2, .inl a3] 8 M (fun v => ∃ x : Int, v = some (.inr (.inl x))) := by
  have hz := zp_294
  have hd0 : 0 < d := by omega
  show zG n (0, 0) d 294 (0, [.inr (.inr (some 97)), .inr (.inl (a1)), zN, .inl a2, .inl a3, zN, zN, zN], []) M _
  refine zG_blk (c' := (6, [.inr (.inr (some 97)), .inr (.inl (a1)), zN, .inl a2, .inl a3, .inr (.inl (a1)), zN, .inl 0], [])) 4 hd0 hz (by rfl) ?_
  have j6 : ∀ (N : Nat) (v1 v2 : Int) , (a3 - v2 : Int).toNat < N → 0 ≤ v2 ∧ v2 ≤ 5664 → zG n (0, 0) d 294 (6, [.inr (.inr (some 97)), .inr (.inl (a1)), zN, .inl a2, .inl a3, .inr (.inl (v1)), zN, .inl v2], []) M (fun v M' => M' = M ∧ ∃ x : Int, v = some (.inr (.inl x))) := by
    intro N
    induction N with
    | zero => intro v1 v2 hN hv2; exact absurd hN (Nat.not_lt_zero _)
    | succ N ih6 =>
      intro v1 v2 hN hv2
      refine zG_blk (c' := (10, [.inr (.inr (some 97)), .inr (.inl (a1)), zN, .inl a2, .inl a3, .inr (.inl (v1)), zN, .inl v2], [.inl a3, .inl v2])) 2 hd0 hz (by rfl) ?_
      refine zG_icmp_ge hd0 hz rfl (fun hb3 => ?_) (fun hb3 => ?_)
      · refine zG_blk (c' := (40, [.inr (.inr (some 97)), .inr (.inl (a1)), zN, .inl a2, .inl a3, .inr (.inl (v1)), zN, .inl v2], [.inr (.inl (v1))])) 1 hd0 hz (by rfl) ?_
        exact zG_ret hd0 hz rfl rfl ⟨rfl, _, rfl⟩
      · obtain ⟨x4, hx4⟩ : ∃ x : Int, x = w64 (31 * v1) := ⟨_, rfl⟩
        obtain ⟨x5, hx5⟩ : ∃ x : Int, x = w32 (a2 + v2) := ⟨_, rfl⟩
        have hx5e : x5 = a2 + v2 := by rw [hx5]; exact w32_id (by omega)
        refine zG_blk (c' := (27, [.inr (.inr (some 97)), .inr (.inl (a1)), zN, .inl a2, .inl a3, .inr (.inl (v1)), zN, .inl v2], [.inl x5, .inr (.inr (some 98)), .inr (.inl (x4))])) 8 hd0 hz (by subst hx5; subst hx4; rfl) ?_
        refine zG_iald hd0 hz rfl rfl (.inl rfl) (by omega) ?_
        obtain ⟨x6, hx6⟩ : ∃ x : Int, x = M 98 (x5 : Int).toNat := ⟨_, rfl⟩
        rw [← hx6]
        have hx6r : qin x6 := by rw [hx6]; exact hC.sin _
        show zG n (0, 0) d 294 (28, [.inr (.inr (some 97)), .inr (.inl (a1)), zN, .inl a2, .inl a3, .inr (.inl (v1)), zN, .inl v2], [.inl x6, .inr (.inl (x4))]) M _
        obtain ⟨x7, hx7⟩ : ∃ x : Int, x = w64 (x4 + x6) := ⟨_, rfl⟩
        obtain ⟨x8, hx8⟩ : ∃ x : Int, x = w32 (v2 + 1) := ⟨_, rfl⟩
        have hx8e : x8 = v2 + 1 := by rw [hx8]; exact w32_id (by omega)
        refine zG_blk (c' := (6, [.inr (.inr (some 97)), .inr (.inl (a1)), zN, .inl a2, .inl a3, .inr (.inl (x7)), zN, .inl x8], [])) 5 hd0 hz (by subst hx8; subst hx7; rfl) ?_
        exact ih6 x7 x8 (by omega) (by omega)
  exact j6 ((a3 - 0 : Int).toNat + 1) a1 0 (by first | decide | omega) (by omega)
