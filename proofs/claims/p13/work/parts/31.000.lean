/-! THE MODEL'S METHODS, BY PROGRAM -/
theorem qm_260_97 {n d : Nat} {M : zM} (hd : 1 ≤ d) (hC : qMI M)  (a1 : Int) (ha1 : 0 ≤ a1 ∧ a1 ≤ 16383) (a2 : Int) (ha2 : 0 ≤ a2 ∧ a2 ≤ 2) : qOkP n d 260 [.inr (.inr (some 97)), .inl a1, .inl a2] 7 M (fun v => ∃ x : Int, v = some (.inl x) ∧ (0 ≤ x ∧ x ≤ 16383)) := by
  have hz := zp_260
  have hd0 : 0 < d := by omega
  have r1 := hC.cnt0
  show zG n (0, 0) d 260 (0, [.inr (.inr (some 97)), .inl a1, .inl a2, zN, zN, zN, zN], []) M _
  refine zG_blk (c' := (5, [.inr (.inr (some 97)), .inl a1, .inl a2, .inl 0, .inl 0, zN, zN], [])) 4 hd0 hz (by rfl) ?_
  have j5 : ∀ (N : Nat) (v2 v3 : Int) , (14 - v3 : Int).toNat < N → 0 ≤ v2 ∧ v2 ≤ 16383 → 0 ≤ v3 ∧ v3 ≤ 14 → zG n (0, 0) d 260 (5, [.inr (.inr (some 97)), .inl a1, .inl a2, .inl v2, .inl v3, zN, zN], []) M (fun v M' => M' = M ∧ ∃ x : Int, v = some (.inl x) ∧ (0 ≤ x ∧ x ≤ 16383)) := by
    intro N
    induction N with
    | zero => intro v2 v3 hN hv2 hv3; exact absurd hN (Nat.not_lt_zero _)
    | succ N ih5 =>
      intro v2 v3 hN hv2 hv3
      refine zG_blk (c' := (12, [.inr (.inr (some 97)), .inl a1, .inl a2, .inl v2, .inl v3, zN, zN], [.inl 0, .inr (.inr (some 98)), .inl v3])) 4 hd0 hz (by rfl) ?_
      refine zG_iald hd0 hz rfl rfl (.inl rfl) (by omega) ?_
      show zG n (0, 0) d 260 (13, [.inr (.inr (some 97)), .inl a1, .inl a2, .inl v2, .inl v3, zN, zN], [.inl (M 98 0), .inl v3]) M _
      refine zG_icmp_ge hd0 hz rfl (fun hb4 => ?_) (fun hb4 => ?_)
      · refine zG_blk (c' := (117, [.inr (.inr (some 97)), .inl a1, .inl a2, .inl v2, .inl v3, zN, zN], [.inl v2])) 1 hd0 hz (by rfl) ?_
        exact zG_ret hd0 hz rfl rfl ⟨rfl, _, rfl, by omega⟩
      · obtain ⟨x5, hx5⟩ : ∃ x : Int, x = w32 (4 * v3) := ⟨_, rfl⟩
        have hx5e : x5 = 4 * v3 := by rw [hx5]; exact w32_id (by omega)
        obtain ⟨x6, hx6⟩ : ∃ x : Int, x = w32 (20 + x5) := ⟨_, rfl⟩
        have hx6e : x6 = 20 + x5 := by rw [hx6]; exact w32_id (by omega)
        have r7 := hC.f28
        obtain ⟨x8, hx8⟩ : ∃ x : Int, x = zbshr (M 97 28) v3 := ⟨_, rfl⟩
        have hx8r := qbshr_n (M 97 28) v3 (by first | with_reducible exact hv3 | omega); rw [← hx8] at hx8r
        obtain ⟨x9, hx9⟩ : ∃ x : Int, x = zband x8 1 := ⟨_, rfl⟩
        have hx9r := qband_lr x8 1 (by first | decide | omega) (by omega); rw [← hx9] at hx9r
        refine zG_blk (c' := (35, [.inr (.inr (some 97)), .inl a1, .inl a2, .inl v2, .inl v3, .inl x6, zN], [.inl 1, .inl x9])) 13 hd0 hz (by subst hx9; subst hx8; subst hx6; subst hx5; rfl) ?_
        have j92 : ∀ (v10 : Int) , 0 ≤ v10 ∧ v10 ≤ 1 → zG n (0, 0) d 260 (92, [.inr (.inr (some 97)), .inl a1, .inl a2, .inl v2, .inl v3, .inl x6, zN], [.inl v10]) M (fun v M' => M' = M ∧ ∃ x : Int, v = some (.inl x) ∧ (0 ≤ x ∧ x ≤ 16383)) := by
          intro v10 hv10
          refine zG_blk (c' := (97, [.inr (.inr (some 97)), .inl a1, .inl a2, .inl v2, .inl v3, .inl x6, .inl v10], [.inl v10, .inl v2])) 3 hd0 hz (by rfl) ?_
          have j108 : ∀ (v11 : Int) , 0 ≤ v11 ∧ v11 ≤ 8192 → zG n (0, 0) d 260 (108, [.inr (.inr (some 97)), .inl a1, .inl a2, .inl v2, .inl v3, .inl x6, .inl v10], [.inl v11, .inl v2]) M (fun v M' => M' = M ∧ ∃ x : Int, v = some (.inl x) ∧ (0 ≤ x ∧ x ≤ 16383)) := by
            intro v11 hv11
            obtain ⟨x12, hx12⟩ : ∃ x : Int, x = zbor v2 v11 := ⟨_, rfl⟩
            have hx12r := qbor_in v2 v11 16384 14 (by decide) (by decide) (by omega) (by omega); rw [← hx12] at hx12r
            obtain ⟨x13, hx13⟩ : ∃ x : Int, x = w32 (v3 + 1) := ⟨_, rfl⟩
            have hx13e : x13 = v3 + 1 := by rw [hx13]; exact w32_id (by omega)
            refine zG_blk (c' := (5, [.inr (.inr (some 97)), .inl a1, .inl a2, .inl x12, .inl x13, .inl x6, .inl v10], [])) 4 hd0 hz (by subst hx13; subst hx12; rfl) ?_
            exact zG_weak (ih5 x12 x13 (by omega) (by omega) (by omega)) ⟨.inr rfl, .inr rfl, .inr rfl, .inr rfl, .inr rfl, .inl rfl, .inl rfl, trivial⟩
          refine zG_if_eq hd0 hz rfl (fun hb14 => ?_) (fun hb14 => ?_)
          · refine zG_blk (c' := (108, [.inr (.inr (some 97)), .inl a1, .inl a2, .inl v2, .inl v3, .inl x6, .inl v10], [.inl 0, .inl v2])) 1 hd0 hz (by rfl) ?_
            exact j108 0 (by first | decide | omega)
          · obtain ⟨x15, hx15⟩ : ∃ x : Int, x = zbshl 1 v3 := ⟨_, rfl⟩
            have hx15r := qshl1_in v3 8192 13 (by decide) (by decide) (by omega); rw [← hx15] at hx15r
            refine zG_blk (c' := (108, [.inr (.inr (some 97)), .inl a1, .inl a2, .inl v2, .inl v3, .inl x6, .inl v10], [.inl x15, .inl v2])) 4 hd0 hz (by subst hx15; rfl) ?_
            exact j108 x15 (by omega)
        have j91 : zG n (0, 0) d 260 (91, [.inr (.inr (some 97)), .inl a1, .inl a2, .inl v2, .inl v3, .inl x6, zN], []) M (fun v M' => M' = M ∧ ∃ x : Int, v = some (.inl x) ∧ (0 ≤ x ∧ x ≤ 16383)) := by
          refine zG_blk (c' := (92, [.inr (.inr (some 97)), .inl a1, .inl a2, .inl v2, .inl v3, .inl x6, zN], [.inl 0])) 1 hd0 hz (by rfl) ?_
          exact j92 0 (by first | decide | omega)
        refine zG_icmp_ne hd0 hz rfl (fun hb16 => ?_) (fun hb16 => ?_)
        · exact j91
        · obtain ⟨x17, hx17⟩ : ∃ x : Int, x = zbshr a1 v3 := ⟨_, rfl⟩
          have hx17r := qbshr_n a1 v3 (by first | with_reducible exact hv3 | omega); rw [← hx17] at hx17r
          obtain ⟨x18, hx18⟩ : ∃ x : Int, x = zband x17 1 := ⟨_, rfl⟩
          have hx18r := qband_lr x17 1 (by first | decide | omega) (by omega); rw [← hx18] at hx18r
          refine zG_blk (c' := (44, [.inr (.inr (some 97)), .inl a1, .inl a2, .inl v2, .inl v3, .inl x6, zN], [.inl x18])) 5 hd0 hz (by subst hx18; subst hx17; rfl) ?_
          refine zG_if_ne hd0 hz rfl (fun hb19 => ?_) (fun hb19 => ?_)
          · exact j91
          · obtain ⟨x20, hx20⟩ : ∃ x : Int, x = w32 (x6 + 2) := ⟨_, rfl⟩
            have hx20e : x20 = x6 + 2 := by rw [hx20]; exact w32_id (by omega)
            refine zG_blk (c' := (55, [.inr (.inr (some 97)), .inl a1, .inl a2, .inl v2, .inl v3, .inl x6, zN], [.inl x20, .inr (.inr (some 98))])) 5 hd0 hz (by subst hx20; rfl) ?_
            refine zG_iald hd0 hz rfl rfl (.inl rfl) (by omega) ?_
            obtain ⟨x21, hx21⟩ : ∃ x : Int, x = M 98 (x20 : Int).toNat := ⟨_, rfl⟩
            rw [← hx21]
            have hx21r : qin x21 := by rw [hx21]; exact hC.sin _
            show zG n (0, 0) d 260 (56, [.inr (.inr (some 97)), .inl a1, .inl a2, .inl v2, .inl v3, .inl x6, zN], [.inl x21]) M _
            obtain ⟨x22, hx22⟩ : ∃ x : Int, x = zbshr x21 a2 := ⟨_, rfl⟩
            have hx22r : qin x22 := by rw [hx22]; exact qb32 _
            obtain ⟨x23, hx23⟩ : ∃ x : Int, x = zband x22 1 := ⟨_, rfl⟩
            have hx23r := qband_r x22 1 (by first | decide | omega) (by omega); rw [← hx23] at hx23r
            have hx23l : 0 ≤ x22 → x23 ≤ x22 := fun h9 => by rw [hx23]; exact (qband_l x22 1 ⟨h9, by omega⟩ (by omega)).2
            refine zG_blk (c' := (61, [.inr (.inr (some 97)), .inl a1, .inl a2, .inl v2, .inl v3, .inl x6, zN], [.inl 1, .inl x23])) 5 hd0 hz (by subst hx23; subst hx22; rfl) ?_
            refine zG_icmp_ne hd0 hz rfl (fun hb24 => ?_) (fun hb24 => ?_)
            · exact j91
            · obtain ⟨x25, hx25⟩ : ∃ x : Int, x = w32 (x6 + 1) := ⟨_, rfl⟩
              have hx25e : x25 = x6 + 1 := by rw [hx25]; exact w32_id (by omega)
              refine zG_blk (c' := (72, [.inr (.inr (some 97)), .inl a1, .inl a2, .inl v2, .inl v3, .inl x6, zN], [.inl x25, .inr (.inr (some 98))])) 5 hd0 hz (by subst hx25; rfl) ?_
              refine zG_iald hd0 hz rfl rfl (.inl rfl) (by omega) ?_
              obtain ⟨x26, hx26⟩ : ∃ x : Int, x = M 98 (x25 : Int).toNat := ⟨_, rfl⟩
              rw [← hx26]
              have hx26r : qin x26 := by rw [hx26]; exact hC.sin _
              show zG n (0, 0) d 260 (73, [.inr (.inr (some 97)), .inl a1, .inl a2, .inl v2, .inl v3, .inl x6, zN], [.inl x26]) M _
              obtain ⟨x27, hx27⟩ : ∃ x : Int, x = zbxor a1 (-1) := ⟨_, rfl⟩
              have hx27r : qin x27 := by rw [hx27]; exact qb32 _
              obtain ⟨x28, hx28⟩ : ∃ x : Int, x = zband x26 x27 := ⟨_, rfl⟩
              have hx28r : qin x28 := by rw [hx28]; exact qb32 _
              have r29 := hC.rg 97 21 (by decide) (by decide)
              obtain ⟨x30, hx30⟩ : ∃ x : Int, x = zbxor (M 97 21) (-1) := ⟨_, rfl⟩
              have hx30r : qin x30 := by rw [hx30]; exact qb32 _
              obtain ⟨x31, hx31⟩ : ∃ x : Int, x = zband x28 x30 := ⟨_, rfl⟩
              have hx31r : qin x31 := by rw [hx31]; exact qb32 _
              refine zG_blk (c' := (84, [.inr (.inr (some 97)), .inl a1, .inl a2, .inl v2, .inl v3, .inl x6, zN], [.inl x31])) 9 hd0 hz (by subst hx31; subst hx30; subst hx28; subst hx27; rfl) ?_
              refine zG_if_ne hd0 hz rfl (fun hb32 => ?_) (fun hb32 => ?_)
              · exact j91
              · refine zG_blk (c' := (92, [.inr (.inr (some 97)), .inl a1, .inl a2, .inl v2, .inl v3, .inl x6, zN], [.inl 1])) 2 hd0 hz (by rfl) ?_
                exact j92 1 (by first | decide | omega)
  exact j5 ((14 - 0 : Int).toNat + 1) 0 0 (by first | decide | omega) (by omega) (by omega)
