/-! THE MODEL'S METHODS, BY PROGRAM -/
theorem qm_233_97 {n d : Nat} {M : zM} (hd : 1 ≤ d) (hC : qMI M)  (a1 : Int) : qOkP n d 233 [.inr (.inr (some 97)), .inr (.inl (a1))] 6 M (fun v => ∃ x : Int, v = some (.inr (.inl x))) := by
  have hz := zp_233
  have hd0 : 0 < d := by omega
  show zG n (0, 0) d 233 (0, [.inr (.inr (some 97)), .inr (.inl (a1)), zN, zN, zN, zN], []) M _
  have r1 := hC.f20
  refine zG_blk (c' := (6, [.inr (.inr (some 97)), .inr (.inl (a1)), zN, .inr (.inl (0)), zN, zN], [.inl (M 97 20)])) 4 hd0 hz (by rfl) ?_
  have j61 : ∀ (v2 : Int) , zG n (0, 0) d 233 (61, [.inr (.inr (some 97)), .inr (.inl (a1)), zN, .inr (.inl (v2)), zN, zN], []) M (fun v M' => M' = M ∧ ∃ x : Int, v = some (.inr (.inl x))) := by
    intro v2
    refine zG_blk (c' := (65, [.inr (.inr (some 97)), .inr (.inl (a1)), zN, .inr (.inl (v2)), zN, zN], [.inl (M 97 20)])) 2 hd0 hz (by rfl) ?_
    have j79 : ∀ (v3 : Int) , zG n (0, 0) d 233 (79, [.inr (.inr (some 97)), .inr (.inl (a1)), zN, .inr (.inl (v2)), zN, zN], [.inr (.inl (v3))]) M (fun v M' => M' = M ∧ ∃ x : Int, v = some (.inr (.inl x))) := by
      intro v3
      exact zG_ret hd0 hz rfl rfl ⟨rfl, _, rfl⟩
    refine zG_if_eq hd0 hz rfl (fun hb4 => ?_) (fun hb4 => ?_)
    · refine zG_blk (c' := (79, [.inr (.inr (some 97)), .inr (.inl (a1)), zN, .inr (.inl (v2)), zN, zN], [.inr (.inl (0))])) 1 hd0 hz (by rfl) ?_
      exact j79 0
    · have r5 := hC.rg 97 19 (by decide) (by decide)
      obtain ⟨x6, hx6⟩ : ∃ x : Int, x = w64 (v2 + (M 97 19)) := ⟨_, rfl⟩
      refine zG_blk (c' := (79, [.inr (.inr (some 97)), .inr (.inl (a1)), zN, .inr (.inl (v2)), zN, zN], [.inr (.inl (x6))])) 6 hd0 hz (by subst hx6; rfl) ?_
      exact j79 x6
  refine zG_if_eq hd0 hz rfl (fun hb7 => ?_) (fun hb7 => ?_)
  · exact j61 0
  · refine zG_blk (c' := (11, [.inr (.inr (some 97)), .inr (.inl (a1)), zN, .inr (.inl (0)), zN, zN], [.inr (.inl (1)), .inr (.inl (a1))])) 2 hd0 hz (by rfl) ?_
    refine zG_lc_lt hd0 hz rfl rfl (fun hb11 => ?_) (fun hb11 => ?_)
    · exact j61 0
    · have r8 := hC.f18
      refine zG_blk (c' := (21, [.inr (.inr (some 97)), .inr (.inl (a1)), zN, .inr (.inl (0)), zN, zN], [.inr (.inl ((M 97 18))), .inr (.inl (a1))])) 4 hd0 hz (by rfl) ?_
      refine zG_lc_gt hd0 hz rfl rfl (fun hb21 => ?_) (fun hb21 => ?_)
      · exact j61 0
      · refine zG_blk (c' := (28, [.inr (.inr (some 97)), .inr (.inl (a1)), zN, .inr (.inl (0)), zN, .inl 0], [])) 2 hd0 hz (by rfl) ?_
        have j28 : ∀ (N : Nat) (v9 v10 : Int) , (14 - v10 : Int).toNat < N → (-2147483648) ≤ v10 ∧ v10 ≤ 2147483647 → (0 ≤ v10) → zG n (0, 0) d 233 (28, [.inr (.inr (some 97)), .inr (.inl (a1)), zN, .inr (.inl (v9)), zN, .inl v10], []) M (fun v M' => M' = M ∧ ∃ x : Int, v = some (.inr (.inl x))) := by
          intro N
          induction N with
          | zero => intro v9 v10 hN hv10 hx0_28; exact absurd hN (Nat.not_lt_zero _)
          | succ N ih28 =>
            intro v9 v10 hN hv10 hx0_28
            refine zG_blk (c' := (32, [.inr (.inr (some 97)), .inr (.inl (a1)), zN, .inr (.inl (v9)), zN, .inl v10], [.inr (.inl (a1)), .inr (.inl (v10))])) 3 hd0 hz (by rfl) ?_
            refine zG_lc_ge hd0 hz rfl rfl (fun hb32 => ?_) (fun hb32 => ?_)
            · obtain ⟨x11, hx11⟩ : ∃ x : Int, x = w64 (v9 * 100) := ⟨_, rfl⟩
              refine zG_blk (c' := (59, [.inr (.inr (some 97)), .inr (.inl (a1)), zN, .inr (.inl (v9)), zN, .inl v10], [.inr (.inl (a1)), .inr (.inl (x11))])) 4 hd0 hz (by subst hx11; rfl) ?_
              refine zG_ldiv hd0 hz rfl (by omega) ?_
              generalize w64 (x11.tdiv a1) = x12
              show zG n (0, 0) d 233 (60, [.inr (.inr (some 97)), .inr (.inl (a1)), zN, .inr (.inl (v9)), zN, .inl v10], [.inr (.inl (x12))]) M _
              refine zG_blk (c' := (61, [.inr (.inr (some 97)), .inr (.inl (a1)), zN, .inr (.inl (x12)), zN, .inl v10], [])) 1 hd0 hz (by rfl) ?_
              exact zG_weak (j61 x12) ⟨.inr rfl, .inr rfl, .inr rfl, .inr rfl, .inr rfl, .inl rfl, trivial⟩
            · refine zG_blk (c' := (43, [.inr (.inr (some 97)), .inr (.inl (a1)), zN, .inr (.inl (v9)), zN, .inl v10], [.inl v10, .inr (.inr (some 110)), .inr (.inl (v9))])) 4 hd0 hz (by rfl) ?_
              refine zG_iald hd0 hz rfl rfl (.inl rfl) (by omega) ?_
              obtain ⟨x13, hx13⟩ : ∃ x : Int, x = M 110 (v10 : Int).toNat := ⟨_, rfl⟩
              rw [← hx13]
              have hx13r : qin x13 := by rw [hx13]; exact hC.ra 110 _ (by decide) (by decide)
              show zG n (0, 0) d 233 (44, [.inr (.inr (some 97)), .inr (.inl (a1)), zN, .inr (.inl (v9)), zN, .inl v10], [.inl x13, .inr (.inl (v9))]) M _
              obtain ⟨x14, hx14⟩ : ∃ x : Int, x = w64 (v9 + x13) := ⟨_, rfl⟩
              obtain ⟨x15, hx15⟩ : ∃ x : Int, x = w32 (v10 + 1) := ⟨_, rfl⟩
              have hx15r : x15 = (v10 + 1 + 2147483648) % 4294967296 - 2147483648 := hx15
              refine zG_blk (c' := (28, [.inr (.inr (some 97)), .inr (.inl (a1)), zN, .inr (.inl (x14)), zN, .inl x15], [])) 5 hd0 hz (by subst hx15; subst hx14; rfl) ?_
              exact ih28 x14 x15 (by omega) (by omega) (by omega)
        exact j28 ((14 - 0 : Int).toNat + 1) 0 0 (by first | decide | omega) (by omega) (by omega)
