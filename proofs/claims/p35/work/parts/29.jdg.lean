/-! THE MODEL'S METHODS, BY PROGRAM -/
theorem qm_233_97 {n d : Nat} {M : zM} (hd : 1 ≤ d) (hC : qMI M)  (a1 : Int) : qOkP n d 233 [.inr (.inr (some 97)), .inr (.inl (a1))] 6 M (fun v => ∃ x : Int, v = some (.inr (.inl x))) := by
  have hz := zp_233
  have hd0 : 0 < d := by omega
  show zG n (0, 0) d 233 (0, [.inr (.inr (some 97)), .inr (.inl (a1)), zN, zN, zN, zN], []) M _
  have r1 := hC.f20
  refine zG_w (c' := (6, [.inr (.inr (some 97)), .inr (.inl (a1)), zN, .inr (.inl (0)), zN, zN], [.inl (M 97 20)])) 4 hd0 hz (by rfl) ?_
  have j61 : ∀ (v2 : Int) , zG n (0, 0) d 233 (61, [.inr (.inr (some 97)), .inr (.inl (a1)), zN, .inr (.inl (v2)), zN, zN], []) M (fun v M' => M' = M ∧ ∃ x : Int, v = some (.inr (.inl x))) := by
    intro v2
    refine zG_w (c' := (65, [.inr (.inr (some 97)), .inr (.inl (a1)), zN, .inr (.inl (v2)), zN, zN], [.inl (M 97 20)])) 2 hd0 hz (by rfl) ?_
    have j79 : ∀ (v3 : Int) , zG n (0, 0) d 233 (79, [.inr (.inr (some 97)), .inr (.inl (a1)), zN, .inr (.inl (v2)), zN, zN], [.inr (.inl (v3))]) M (fun v M' => M' = M ∧ ∃ x : Int, v = some (.inr (.inl x))) := by
      intro v3
      exact zG_wr (r := some (.inr (.inl (v3)))) 0 hd0 hz (by rfl) ⟨rfl, _, rfl⟩
    refine zG_wf_eq (pc := 65) (n' := 68) (t := 78) (L := [.inr (.inr (some 97)), .inr (.inl (a1)), zN, .inr (.inl (v2)), zN, zN]) (st := []) (x := (M 97 20)) 0 hd0 hz (by rfl) (fun hb4 => ?_) (fun hb4 => ?_)
    · refine zG_w (c' := (79, [.inr (.inr (some 97)), .inr (.inl (a1)), zN, .inr (.inl (v2)), zN, zN], [.inr (.inl (0))])) 1 hd0 hz (by rfl) ?_
      exact j79 0
    · have r5 := hC.rg 97 19 (by decide) (by decide)
      obtain ⟨x6, hx6⟩ : ∃ x : Int, x = w64 (v2 + (M 97 19)) := ⟨_, rfl⟩
      refine zG_w (c' := (79, [.inr (.inr (some 97)), .inr (.inl (a1)), zN, .inr (.inl (v2)), zN, zN], [.inr (.inl (x6))])) 6 hd0 hz (by subst hx6; rfl) ?_
      exact j79 x6
  refine zG_wf_eq (pc := 6) (n' := 9) (t := 61) (L := [.inr (.inr (some 97)), .inr (.inl (a1)), zN, .inr (.inl (0)), zN, zN]) (st := []) (x := (M 97 20)) 0 hd0 hz (by rfl) (fun hb7 => ?_) (fun hb7 => ?_)
  · exact j61 0
  · refine zG_w (c' := (11, [.inr (.inr (some 97)), .inr (.inl (a1)), zN, .inr (.inl (0)), zN, zN], [.inr (.inl (1)), .inr (.inl (a1))])) 2 hd0 hz (by rfl) ?_
    refine zG_lc_lt hd0 hz rfl rfl (fun hb11 => ?_) (fun hb11 => ?_)
    · exact j61 0
    · have r8 := hC.f18
      refine zG_w (c' := (21, [.inr (.inr (some 97)), .inr (.inl (a1)), zN, .inr (.inl (0)), zN, zN], [.inr (.inl ((M 97 18))), .inr (.inl (a1))])) 4 hd0 hz (by rfl) ?_
      refine zG_lc_gt hd0 hz rfl rfl (fun hb21 => ?_) (fun hb21 => ?_)
      · exact j61 0
      · refine zG_w (c' := (28, [.inr (.inr (some 97)), .inr (.inl (a1)), zN, .inr (.inl (0)), zN, .inl 0], [])) 2 hd0 hz (by rfl) ?_
        have j28 : ∀ (N : Nat) (v9 v10 : Int) , (14 - v10 : Int).toNat < N → (-2147483648) ≤ v10 ∧ v10 ≤ 2147483647 → (0 ≤ v10) → zG n (0, 0) d 233 (28, [.inr (.inr (some 97)), .inr (.inl (a1)), zN, .inr (.inl (v9)), zN, .inl v10], []) M (fun v M' => M' = M ∧ ∃ x : Int, v = some (.inr (.inl x))) := by
          intro N
          induction N with
          | zero => intro v9 v10 hN hv10 hx0_28; exact absurd hN (Nat.not_lt_zero _)
          | succ N ih28 =>
            intro v9 v10 hN hv10 hx0_28
            replace hN : 14 - v10 < (N : Int) + 1 := by omega
            refine zG_w (c' := (32, [.inr (.inr (some 97)), .inr (.inl (a1)), zN, .inr (.inl (v9)), zN, .inl v10], [.inr (.inl (a1)), .inr (.inl (v10))])) 3 hd0 hz (by rfl) ?_
            refine zG_lc_ge hd0 hz rfl rfl (fun hb32 => ?_) (fun hb32 => ?_)
            · obtain ⟨x11, hx11⟩ : ∃ x : Int, x = w64 (v9 * 100) := ⟨_, rfl⟩
              refine zG_w (c' := (59, [.inr (.inr (some 97)), .inr (.inl (a1)), zN, .inr (.inl (v9)), zN, .inl v10], [.inr (.inl (a1)), .inr (.inl (x11))])) 4 hd0 hz (by subst hx11; rfl) ?_
              refine zG_ldiv hd0 hz rfl (by omega) ?_
              generalize w64 (x11.tdiv a1) = x12
              show zG n (0, 0) d 233 (60, [.inr (.inr (some 97)), .inr (.inl (a1)), zN, .inr (.inl (v9)), zN, .inl v10], [.inr (.inl (x12))]) M _
              refine zG_w (c' := (61, [.inr (.inr (some 97)), .inr (.inl (a1)), zN, .inr (.inl (x12)), zN, .inl v10], [])) 1 hd0 hz (by rfl) ?_
              exact zG_weak (j61 x12) ⟨.inr rfl, .inr rfl, .inr rfl, .inr rfl, .inr rfl, .inl rfl, trivial⟩
            · refine zG_w (c' := (43, [.inr (.inr (some 97)), .inr (.inl (a1)), zN, .inr (.inl (v9)), zN, .inl v10], [.inl v10, .inr (.inr (some 110)), .inr (.inl (v9))])) 4 hd0 hz (by rfl) ?_
              refine zG_iald hd0 hz rfl rfl (.inl rfl) (by omega) ?_
              obtain ⟨x13, hx13⟩ : ∃ x : Int, x = M 110 (v10 : Int).toNat := ⟨_, rfl⟩
              rw [← hx13]
              have hx13r : qin x13 := by rw [hx13]; exact hC.ra 110 _ (by decide) (by decide)
              show zG n (0, 0) d 233 (44, [.inr (.inr (some 97)), .inr (.inl (a1)), zN, .inr (.inl (v9)), zN, .inl v10], [.inl x13, .inr (.inl (v9))]) M _
              obtain ⟨x14, hx14⟩ : ∃ x : Int, x = w64 (v9 + x13) := ⟨_, rfl⟩
              obtain ⟨x15, hx15⟩ : ∃ x : Int, x = w32 (v10 + 1) := ⟨_, rfl⟩
              have hx15r : x15 = (v10 + 1 + 2147483648) % 4294967296 - 2147483648 := hx15
              refine zG_w (c' := (28, [.inr (.inr (some 97)), .inr (.inl (a1)), zN, .inr (.inl (x14)), zN, .inl x15], [])) 5 hd0 hz (by subst hx15; subst hx14; rfl) ?_
              exact ih28 x14 x15 (by omega) (by omega) (by omega)
        exact j28 ((14 - 0 : Int).toNat + 1) 0 0 (by first | decide | omega) (by omega) (by omega)
theorem qm_234_97 {n d : Nat} {M : zM} (hd : 1 ≤ d) (hC : qMI M)  (a1 : Int) (ha1 : (-2147483648) ≤ a1 ∧ a1 ≤ 2147483647) (a2 : Int) (a3 : Int) : qOkP n d 234 [.inr (.inr (some 97)), .inl a1, .inr (.inl (a2)), .inr (.inl (a3))] 6 M (fun v => ∃ x : Int, v = some (.inr (.inl x))) := by
  have hz := zp_234
  have hd0 : 0 < d := by omega
  show zG n (0, 0) d 234 (0, [.inr (.inr (some 97)), .inl a1, .inr (.inl (a2)), zN, .inr (.inl (a3)), zN], []) M _
  refine zG_w (c' := (1, [.inr (.inr (some 97)), .inl a1, .inr (.inl (a2)), zN, .inr (.inl (a3)), zN], [.inl a1])) 1 hd0 hz (by rfl) ?_
  have j52 : zG n (0, 0) d 234 (52, [.inr (.inr (some 97)), .inl a1, .inr (.inl (a2)), zN, .inr (.inl (a3)), zN], []) M (fun v M' => M' = M ∧ ∃ x : Int, v = some (.inr (.inl x))) := by
    obtain ⟨x1, hx1⟩ : ∃ x : Int, x = w64 (a2 * a3) := ⟨_, rfl⟩
    exact zG_wr (r := some (.inr (.inl (x1)))) 3 hd0 hz (by subst hx1; rfl) ⟨rfl, _, rfl⟩
  have j57 : zG n (0, 0) d 234 (57, [.inr (.inr (some 97)), .inl a1, .inr (.inl (a2)), zN, .inr (.inl (a3)), zN], []) M (fun v M' => M' = M ∧ ∃ x : Int, v = some (.inr (.inl x))) := by
    refine zG_w (c' := (60, [.inr (.inr (some 97)), .inl a1, .inr (.inl (a2)), zN, .inr (.inl (a3)), zN], [.inr (.inl (0)), .inr (.inl (a3))])) 2 hd0 hz (by rfl) ?_
    have j72 : ∀ (v2 : Int) , zG n (0, 0) d 234 (72, [.inr (.inr (some 97)), .inl a1, .inr (.inl (a2)), zN, .inr (.inl (a3)), zN], [.inr (.inl (v2))]) M (fun v M' => M' = M ∧ ∃ x : Int, v = some (.inr (.inl x))) := by
      intro v2
      exact zG_wr (r := some (.inr (.inl (v2)))) 0 hd0 hz (by rfl) ⟨rfl, _, rfl⟩
    refine zG_lc_ne hd0 hz rfl rfl (fun hb60 => ?_) (fun hb60 => ?_)
    · refine zG_w (c' := (71, [.inr (.inr (some 97)), .inl a1, .inr (.inl (a2)), zN, .inr (.inl (a3)), zN], [.inr (.inl (a3)), .inr (.inl (a2))])) 2 hd0 hz (by rfl) ?_
      refine zG_ldiv hd0 hz rfl (by omega) ?_
      generalize w64 (a2.tdiv a3) = x3
      show zG n (0, 0) d 234 (72, [.inr (.inr (some 97)), .inl a1, .inr (.inl (a2)), zN, .inr (.inl (a3)), zN], [.inr (.inl (x3))]) M _
      exact j72 x3
    · refine zG_w (c' := (72, [.inr (.inr (some 97)), .inl a1, .inr (.inl (a2)), zN, .inr (.inl (a3)), zN], [.inr (.inl (0))])) 2 hd0 hz (by rfl) ?_
      exact j72 0
  have j73 : zG n (0, 0) d 234 (73, [.inr (.inr (some 97)), .inl a1, .inr (.inl (a2)), zN, .inr (.inl (a3)), zN], []) M (fun v M' => M' = M ∧ ∃ x : Int, v = some (.inr (.inl x))) := by
    obtain ⟨x4, hx4⟩ : ∃ x : Int, x = w64 (a2 + a3) := ⟨_, rfl⟩
    exact zG_wr (r := some (.inr (.inl (x4)))) 3 hd0 hz (by subst hx4; rfl) ⟨rfl, _, rfl⟩
  have j78 : zG n (0, 0) d 234 (78, [.inr (.inr (some 97)), .inl a1, .inr (.inl (a2)), zN, .inr (.inl (a3)), zN], []) M (fun v M' => M' = M ∧ ∃ x : Int, v = some (.inr (.inl x))) := by
    obtain ⟨x5, hx5⟩ : ∃ x : Int, x = w64 (a2 - a3) := ⟨_, rfl⟩
    exact zG_wr (r := some (.inr (.inl (x5)))) 3 hd0 hz (by subst hx5; rfl) ⟨rfl, _, rfl⟩
  have j83 : zG n (0, 0) d 234 (83, [.inr (.inr (some 97)), .inl a1, .inr (.inl (a2)), zN, .inr (.inl (a3)), zN], []) M (fun v M' => M' = M ∧ ∃ x : Int, v = some (.inr (.inl x))) := by
    refine zG_w (c' := (86, [.inr (.inr (some 97)), .inl a1, .inr (.inl (a2)), zN, .inr (.inl (a3)), zN], [.inr (.inl (a3)), .inr (.inl (a2))])) 2 hd0 hz (by rfl) ?_
    have j95 : ∀ (v6 : Int) , zG n (0, 0) d 234 (95, [.inr (.inr (some 97)), .inl a1, .inr (.inl (a2)), zN, .inr (.inl (a3)), zN], [.inr (.inl (v6))]) M (fun v M' => M' = M ∧ ∃ x : Int, v = some (.inr (.inl x))) := by
      intro v6
      exact zG_wr (r := some (.inr (.inl (v6)))) 0 hd0 hz (by rfl) ⟨rfl, _, rfl⟩
    refine zG_lc_ge hd0 hz rfl rfl (fun hb86 => ?_) (fun hb86 => ?_)
    · refine zG_w (c' := (95, [.inr (.inr (some 97)), .inl a1, .inr (.inl (a2)), zN, .inr (.inl (a3)), zN], [.inr (.inl (0))])) 1 hd0 hz (by rfl) ?_
      exact j95 0
    · refine zG_w (c' := (95, [.inr (.inr (some 97)), .inl a1, .inr (.inl (a2)), zN, .inr (.inl (a3)), zN], [.inr (.inl (1))])) 2 hd0 hz (by rfl) ?_
      exact j95 1
  have j96 : zG n (0, 0) d 234 (96, [.inr (.inr (some 97)), .inl a1, .inr (.inl (a2)), zN, .inr (.inl (a3)), zN], []) M (fun v M' => M' = M ∧ ∃ x : Int, v = some (.inr (.inl x))) := by
    refine zG_w (c' := (99, [.inr (.inr (some 97)), .inl a1, .inr (.inl (a2)), zN, .inr (.inl (a3)), zN], [.inr (.inl (a3)), .inr (.inl (a2))])) 2 hd0 hz (by rfl) ?_
    have j108 : ∀ (v7 : Int) , zG n (0, 0) d 234 (108, [.inr (.inr (some 97)), .inl a1, .inr (.inl (a2)), zN, .inr (.inl (a3)), zN], [.inr (.inl (v7))]) M (fun v M' => M' = M ∧ ∃ x : Int, v = some (.inr (.inl x))) := by
      intro v7
      exact zG_wr (r := some (.inr (.inl (v7)))) 0 hd0 hz (by rfl) ⟨rfl, _, rfl⟩
    refine zG_lc_le hd0 hz rfl rfl (fun hb99 => ?_) (fun hb99 => ?_)
    · refine zG_w (c' := (108, [.inr (.inr (some 97)), .inl a1, .inr (.inl (a2)), zN, .inr (.inl (a3)), zN], [.inr (.inl (0))])) 1 hd0 hz (by rfl) ?_
      exact j108 0
    · refine zG_w (c' := (108, [.inr (.inr (some 97)), .inl a1, .inr (.inl (a2)), zN, .inr (.inl (a3)), zN], [.inr (.inl (1))])) 2 hd0 hz (by rfl) ?_
      exact j108 1
  have j109 : zG n (0, 0) d 234 (109, [.inr (.inr (some 97)), .inl a1, .inr (.inl (a2)), zN, .inr (.inl (a3)), zN], []) M (fun v M' => M' = M ∧ ∃ x : Int, v = some (.inr (.inl x))) := by
    refine zG_w (c' := (112, [.inr (.inr (some 97)), .inl a1, .inr (.inl (a2)), zN, .inr (.inl (a3)), zN], [.inr (.inl (a3)), .inr (.inl (a2))])) 2 hd0 hz (by rfl) ?_
    have j121 : ∀ (v8 : Int) , zG n (0, 0) d 234 (121, [.inr (.inr (some 97)), .inl a1, .inr (.inl (a2)), zN, .inr (.inl (a3)), zN], [.inr (.inl (v8))]) M (fun v M' => M' = M ∧ ∃ x : Int, v = some (.inr (.inl x))) := by
      intro v8
      exact zG_wr (r := some (.inr (.inl (v8)))) 0 hd0 hz (by rfl) ⟨rfl, _, rfl⟩
    refine zG_lc_ne hd0 hz rfl rfl (fun hb112 => ?_) (fun hb112 => ?_)
    · refine zG_w (c' := (121, [.inr (.inr (some 97)), .inl a1, .inr (.inl (a2)), zN, .inr (.inl (a3)), zN], [.inr (.inl (0))])) 1 hd0 hz (by rfl) ?_
      exact j121 0
    · refine zG_w (c' := (121, [.inr (.inr (some 97)), .inl a1, .inr (.inl (a2)), zN, .inr (.inl (a3)), zN], [.inr (.inl (1))])) 2 hd0 hz (by rfl) ?_
      exact j121 1
  have j122 : zG n (0, 0) d 234 (122, [.inr (.inr (some 97)), .inl a1, .inr (.inl (a2)), zN, .inr (.inl (a3)), zN], []) M (fun v M' => M' = M ∧ ∃ x : Int, v = some (.inr (.inl x))) := by
    refine zG_w (c' := (124, [.inr (.inr (some 97)), .inl a1, .inr (.inl (a2)), zN, .inr (.inl (a3)), zN], [.inr (.inl (0)), .inr (.inl (a2))])) 2 hd0 hz (by rfl) ?_
    have j140 : ∀ (v9 : Int) , zG n (0, 0) d 234 (140, [.inr (.inr (some 97)), .inl a1, .inr (.inl (a2)), zN, .inr (.inl (a3)), zN], [.inr (.inl (v9))]) M (fun v M' => M' = M ∧ ∃ x : Int, v = some (.inr (.inl x))) := by
      intro v9
      exact zG_wr (r := some (.inr (.inl (v9)))) 0 hd0 hz (by rfl) ⟨rfl, _, rfl⟩
    have j139 : zG n (0, 0) d 234 (139, [.inr (.inr (some 97)), .inl a1, .inr (.inl (a2)), zN, .inr (.inl (a3)), zN], []) M (fun v M' => M' = M ∧ ∃ x : Int, v = some (.inr (.inl x))) := by
      refine zG_w (c' := (140, [.inr (.inr (some 97)), .inl a1, .inr (.inl (a2)), zN, .inr (.inl (a3)), zN], [.inr (.inl (0))])) 1 hd0 hz (by rfl) ?_
      exact j140 0
    refine zG_lc_eq hd0 hz rfl rfl (fun hb124 => ?_) (fun hb124 => ?_)
    · exact j139
    · refine zG_w (c' := (131, [.inr (.inr (some 97)), .inl a1, .inr (.inl (a2)), zN, .inr (.inl (a3)), zN], [.inr (.inl (0)), .inr (.inl (a3))])) 2 hd0 hz (by rfl) ?_
      refine zG_lc_eq hd0 hz rfl rfl (fun hb131 => ?_) (fun hb131 => ?_)
      · exact j139
      · refine zG_w (c' := (140, [.inr (.inr (some 97)), .inl a1, .inr (.inl (a2)), zN, .inr (.inl (a3)), zN], [.inr (.inl (1))])) 2 hd0 hz (by rfl) ?_
        exact j140 1
  have j141 : zG n (0, 0) d 234 (141, [.inr (.inr (some 97)), .inl a1, .inr (.inl (a2)), zN, .inr (.inl (a3)), zN], []) M (fun v M' => M' = M ∧ ∃ x : Int, v = some (.inr (.inl x))) := by
    refine zG_w (c' := (143, [.inr (.inr (some 97)), .inl a1, .inr (.inl (a2)), zN, .inr (.inl (a3)), zN], [.inr (.inl (0)), .inr (.inl (a2))])) 2 hd0 hz (by rfl) ?_
    have j159 : ∀ (v10 : Int) , zG n (0, 0) d 234 (159, [.inr (.inr (some 97)), .inl a1, .inr (.inl (a2)), zN, .inr (.inl (a3)), zN], [.inr (.inl (v10))]) M (fun v M' => M' = M ∧ ∃ x : Int, v = some (.inr (.inl x))) := by
      intro v10
      exact zG_wr (r := some (.inr (.inl (v10)))) 0 hd0 hz (by rfl) ⟨rfl, _, rfl⟩
    have j154 : zG n (0, 0) d 234 (154, [.inr (.inr (some 97)), .inl a1, .inr (.inl (a2)), zN, .inr (.inl (a3)), zN], []) M (fun v M' => M' = M ∧ ∃ x : Int, v = some (.inr (.inl x))) := by
      refine zG_w (c' := (159, [.inr (.inr (some 97)), .inl a1, .inr (.inl (a2)), zN, .inr (.inl (a3)), zN], [.inr (.inl (1))])) 2 hd0 hz (by rfl) ?_
      exact j159 1
    refine zG_lc_ne hd0 hz rfl rfl (fun hb143 => ?_) (fun hb143 => ?_)
    · exact j154
    · refine zG_w (c' := (150, [.inr (.inr (some 97)), .inl a1, .inr (.inl (a2)), zN, .inr (.inl (a3)), zN], [.inr (.inl (0)), .inr (.inl (a3))])) 2 hd0 hz (by rfl) ?_
      refine zG_lc_eq hd0 hz rfl rfl (fun hb150 => ?_) (fun hb150 => ?_)
      · refine zG_w (c' := (159, [.inr (.inr (some 97)), .inl a1, .inr (.inl (a2)), zN, .inr (.inl (a3)), zN], [.inr (.inl (0))])) 1 hd0 hz (by rfl) ?_
        exact j159 0
      · exact j154
  have j160 : zG n (0, 0) d 234 (160, [.inr (.inr (some 97)), .inl a1, .inr (.inl (a2)), zN, .inr (.inl (a3)), zN], []) M (fun v M' => M' = M ∧ ∃ x : Int, v = some (.inr (.inl x))) := by
    refine zG_w (c' := (163, [.inr (.inr (some 97)), .inl a1, .inr (.inl (a2)), zN, .inr (.inl (a3)), zN], [.inr (.inl (0)), .inr (.inl (a3))])) 2 hd0 hz (by rfl) ?_
    have j172 : ∀ (v11 : Int) , zG n (0, 0) d 234 (172, [.inr (.inr (some 97)), .inl a1, .inr (.inl (a2)), zN, .inr (.inl (a3)), zN], [.inr (.inl (v11))]) M (fun v M' => M' = M ∧ ∃ x : Int, v = some (.inr (.inl x))) := by
      intro v11
      exact zG_wr (r := some (.inr (.inl (v11)))) 0 hd0 hz (by rfl) ⟨rfl, _, rfl⟩
    refine zG_lc_eq hd0 hz rfl rfl (fun hb163 => ?_) (fun hb163 => ?_)
    · refine zG_w (c' := (172, [.inr (.inr (some 97)), .inl a1, .inr (.inl (a2)), zN, .inr (.inl (a3)), zN], [.inr (.inl (a2))])) 1 hd0 hz (by rfl) ?_
      exact j172 a2
    · refine zG_w (c' := (172, [.inr (.inr (some 97)), .inl a1, .inr (.inl (a2)), zN, .inr (.inl (a3)), zN], [.inr (.inl (0))])) 2 hd0 hz (by rfl) ?_
      exact j172 0
  refine zG_sw hd0 hz rfl ?_
  refine zts_all (P := fun t => zG n (0, 0) d 234 (t, [.inr (.inr (some 97)), .inl a1, .inr (.inl (a2)), zN, .inr (.inl (a3)), zN], []) M _) ?_ ?_
  · exact j160
  · intro t ht
    simp only [List.mem_cons, List.not_mem_nil, or_false] at ht
    rcases ht with rfl | rfl | rfl | rfl | rfl | rfl | rfl | rfl | rfl
    · exact j52
    · exact j57
    · exact j73
    · exact j78
    · exact j83
    · exact j96
    · exact j109
    · exact j122
    · exact j141
set_option maxRecDepth 100000 in
theorem qm_235_97 {n d : Nat} {M : zM} (hd : 2 ≤ d) (hC : qMI M)   : qOkN n d 235 [.inr (.inr (some 97))] 3 [109, 1016] M (fun v M' => ∃ x : Int, v = some (.inr (.inl x))) := by
  have hz := zp_235
  have hd0 : 0 < d := by omega
  have hW : qFm [109, 1016] M M := qFm.rfl
  have r1 := hC.steps
  show zG n (0, 0) d 235 (0, [.inr (.inr (some 97)), zN, zN], []) M _
  refine zG_w (c' := (2, [.inr (.inr (some 97)), zN, zN], [.inl 0, .inr (.inr (some 97))])) 2 hd0 hz (by rfl) ?_
  refine zG_putf (.inl rfl) hd0 hz rfl (by decide) rfl rfl ?_
  obtain ⟨M2, hM2⟩ : ∃ X : zM, X = zput M 97 16 0 := ⟨_, rfl⟩
  rw [← hM2]
  have hCM2 : qMI M2 := by rw [hM2]; exact hC.put (by decide) (by decide) (by first | exact qMC_97 (by decide) (fun _ => by omega) | (refine ⟨fun _ => ?_, fun _ => ?_, fun h => ⟨fun _ => ?_, fun _ => ?_, fun _ => ?_, fun _ => ?_, fun _ => ?_⟩, fun h => ?_, fun h => ?_⟩ <;> first | omega | exact absurd rfl (by assumption) | (rename_i h9; exact absurd h9 (by decide))))
  have hWM2 : qFm [109, 1016] M M2 := by rw [hM2]; exact hW.put (by decide)
  have e3 : M2 97 7 = M 97 7 := by rw [hM2]; exact qput_nk (by decide)
  have e4 : M2 97 16 = 0 := by rw [hM2]; exact qput_eq
  have hd0q : qDp (M 105) (0 : Int).toNat = 0 := rfl
  show zG n (0, 0) d 235 (5, [.inr (.inr (some 97)), zN, zN], []) M2 _
  refine zG_w (c' := (7, [.inr (.inr (some 97)), .inl 0, zN], [])) 2 hd0 hz (by rfl) ?_
  have j7 : ∀ (N : Nat) (v5 : Int) (M6 : zM) , (M 97 7 - v5 : Int).toNat < N → 0 ≤ v5 ∧ v5 ≤ 2147483647 → (M6 97 16 = qDp (M 105) (v5).toNat) → qMI M6 → qFm [109, 1016] M M6 → zG n (0, 0) d 235 (7, [.inr (.inr (some 97)), .inl v5, zN], []) M6 (fun v M' => (qMI M' ∧ qFm [109, 1016] M M') ∧ ∃ x : Int, v = some (.inr (.inl x))) := by
    intro N
    induction N with
    | zero => intro v5 M6 hN hv5 hx0_7 hCM6 hWM6; exact absurd hN (Nat.not_lt_zero _)
    | succ N ih7 =>
      intro v5 M6 hN hv5 hx0_7 hCM6 hWM6
      replace hN : M 97 7 - v5 < (N : Int) + 1 := by omega
      have e7 : M6 97 7 = M 97 7 := hWM6 97 7 (by decide)
      have r8 := hCM6.rg 97 16 (by decide) (by decide)
      refine zG_wi_ge (pc := 12) (n' := 15) (t := 304) (L := [.inr (.inr (some 97)), .inl v5, zN]) (st := []) (x := v5) (y := (M6 97 7)) 3 hd0 hz (by rfl) (fun hb9 => ?_) (fun hb9 => ?_)
      · refine zG_w (c' := (309, [.inr (.inr (some 97)), .inl v5, zN], [.inl 0, .inr (.inr (some 109))])) 3 hd0 hz (by rfl) ?_
        refine zG_lald hd0 hz rfl rfl (.inl rfl) (by omega) ?_
        obtain ⟨x10, hx10⟩ : ∃ x : Int, x = M6 109 (0 : Int).toNat := ⟨_, rfl⟩
        rw [← hx10]
        show zG n (0, 0) d 235 (310, [.inr (.inr (some 97)), .inl v5, zN], [.inr (.inl (x10))]) M6 _
        exact zG_wr (r := some (.inr (.inl (x10)))) 0 hd0 hz (by rfl) ⟨⟨hCM6, hWM6⟩, _, rfl⟩
      · refine zG_w (c' := (20, [.inr (.inr (some 97)), .inl v5, zN], [.inl v5, .inr (.inr (some 105))])) 3 hd0 hz (by rfl) ?_
        refine zG_iald hd0 hz rfl rfl (.inl rfl) (by omega) ?_
        obtain ⟨x11, hx11⟩ : ∃ x : Int, x = M6 105 (v5 : Int).toNat := ⟨_, rfl⟩
        rw [← hx11]
        have hx11r : qin x11 := by rw [hx11]; exact hCM6.ra 105 _ (by decide) (by decide)
        have hsf := hC.safe v5 x11 (by omega) (by rw [hx11]; exact hWM6.ar 105 _ (by decide) (by decide))
        show zG n (0, 0) d 235 (21, [.inr (.inr (some 97)), .inl v5, zN], [.inl x11]) M6 _
        refine zG_w (c' := (23, [.inr (.inr (some 97)), .inl v5, .inl x11], [.inl x11])) 2 hd0 hz (by rfl) ?_
        have j298 : ∀ (M12 : zM) , (M12 97 16 = qDp (M 105) (v5 + 1).toNat) → qMI M12 → qFm [109, 1016] M M12 → zG n (0, 0) d 235 (298, [.inr (.inr (some 97)), .inl v5, .inl x11], []) M12 (fun v M' => (qMI M' ∧ qFm [109, 1016] M M') ∧ ∃ x : Int, v = some (.inr (.inl x))) := by
          intro M12 hx0_298 hCM12 hWM12
          clear hsf
          have e13 : M12 97 7 = M 97 7 := hWM12 97 7 (by decide)
          have r14 := hCM12.rg 97 16 (by decide) (by decide)
          obtain ⟨x15, hx15⟩ : ∃ x : Int, x = w32 (v5 + 1) := ⟨_, rfl⟩
          have hx15e : x15 = v5 + 1 := by rw [hx15]; exact w32_id (by omega)
          have hnx : qDp (M 105) (x15).toNat = qDp (M 105) (v5 + 1).toNat := by rw [show x15 = v5 + 1 by omega]
          refine zG_w (c' := (7, [.inr (.inr (some 97)), .inl x15, .inl x11], [])) 2 hd0 hz (by subst hx15; rfl) ?_
          exact zG_weak (ih7 x15 M12 (by omega) (by omega) (by omega) hCM12 hWM12) ⟨.inr rfl, .inr rfl, .inl rfl, trivial⟩
        have j31 : (x11 = 0 ∨ x11 = 1) → zG n (0, 0) d 235 (31, [.inr (.inr (some 97)), .inl v5, .inl x11], []) M6 (fun v M' => (qMI M' ∧ qFm [109, 1016] M M') ∧ ∃ x : Int, v = some (.inr (.inl x))) := by
          intro hx0_31
          replace hsf : qDp (M 105) (v5 + 1).toNat = qDp (M 105) (v5).toNat + 1 ∧ 0 ≤ qDp (M 105) (v5).toNat ∧ qDp (M 105) (v5).toNat ≤ v5 ∧ (x11 = 1 → 0 ≤ M 106 (v5).toNat ∧ M 106 (v5).toNat ≤ 7) := ⟨(hsf.1 hx0_31).1, (hsf.1 hx0_31).2, hsf.2.2.2.2.1, hsf.2.2.2.2.2⟩
          refine zG_w (c' := (40, [.inr (.inr (some 97)), .inl v5, .inl x11], [.inl x11, .inl (M6 97 16), .inr (.inr (some 109))])) 5 hd0 hz (by rfl) ?_
          have j64 : ∀ (v16 : Int) , zG n (0, 0) d 235 (64, [.inr (.inr (some 97)), .inl v5, .inl x11], [.inr (.inl (v16)), .inl (M6 97 16), .inr (.inr (some 109))]) M6 (fun v M' => (qMI M' ∧ qFm [109, 1016] M M') ∧ ∃ x : Int, v = some (.inr (.inl x))) := by
            intro v16
            refine zG_last hd0 hz rfl rfl (by omega) ?_
            obtain ⟨M17, hM17⟩ : ∃ X : zM, X = zput M6 109 ((M6 97 16) : Int).toNat v16 := ⟨_, rfl⟩
            rw [← hM17]
            have hCM17 : qMI M17 := by rw [hM17]; exact hCM6.put (by decide) (qCd_a (by decide) (by decide)) qMC_109
            have hWM17 : qFm [109, 1016] M M17 := by rw [hM17]; exact hWM6.pa (by decide) (by decide)
            have e18 : M17 97 7 = M6 97 7 := by rw [hM17]; exact qput_ne (by decide)
            have e19 : M17 97 16 = M6 97 16 := by rw [hM17]; exact qput_ne (by decide)
            show zG n (0, 0) d 235 (65, [.inr (.inr (some 97)), .inl v5, .inl x11], []) M17 _
            obtain ⟨x20, hx20⟩ : ∃ x : Int, x = w32 ((M17 97 16) + 1) := ⟨_, rfl⟩
            have hx20r : x20 = ((M17 97 16) + 1 + 2147483648) % 4294967296 - 2147483648 := hx20
            refine zG_w (c' := (72, [.inr (.inr (some 97)), .inl v5, .inl x11], [.inl x20, .inr (.inr (some 97))])) 5 hd0 hz (by subst hx20; rfl) ?_
            refine zG_putf (.inl rfl) hd0 hz rfl (by decide) rfl rfl ?_
            obtain ⟨M21, hM21⟩ : ∃ X : zM, X = zput M17 97 16 x20 := ⟨_, rfl⟩
            rw [← hM21]
            have hCM21 : qMI M21 := by rw [hM21]; exact hCM17.put (by decide) (by decide) (by first | exact qMC_97 (by decide) (fun _ => by omega) | (refine ⟨fun _ => ?_, fun _ => ?_, fun h => ⟨fun _ => ?_, fun _ => ?_, fun _ => ?_, fun _ => ?_, fun _ => ?_⟩, fun h => ?_, fun h => ?_⟩ <;> first | omega | exact absurd rfl (by assumption) | (rename_i h9; exact absurd h9 (by decide))))
            have hWM21 : qFm [109, 1016] M M21 := by rw [hM21]; exact hWM17.put (by decide)
            have e22 : M21 97 7 = M17 97 7 := by rw [hM21]; exact qput_nk (by decide)
            have e23 : M21 97 16 = x20 := by rw [hM21]; exact qput_eq
            show zG n (0, 0) d 235 (75, [.inr (.inr (some 97)), .inl v5, .inl x11], []) M21 _
            refine zG_w (c' := (298, [.inr (.inr (some 97)), .inl v5, .inl x11], [])) 1 hd0 hz (by rfl) ?_
            exact j298 M21 (by omega) hCM21 hWM21
          refine zG_wf_ne (pc := 40) (n' := 43) (t := 53) (L := [.inr (.inr (some 97)), .inl v5, .inl x11]) (st := [.inl (M6 97 16), .inr (.inr (some 109))]) (x := x11) 0 hd0 hz (by rfl) (fun hb24 => ?_) (fun hb24 => ?_)
          · refine zG_w (c' := (62, [.inr (.inr (some 97)), .inl v5, .inl x11], [.inl v5, .inr (.inr (some 106)), .inr (.inr (some 108)), .inl (M6 97 16), .inr (.inr (some 109))])) 5 hd0 hz (by rfl) ?_
            refine zG_iald hd0 hz rfl rfl (.inl rfl) (by omega) ?_
            obtain ⟨x25, hx25⟩ : ∃ x : Int, x = M6 106 (v5 : Int).toNat := ⟨_, rfl⟩
            rw [← hx25]
            have hx25r : qin x25 := by rw [hx25]; exact hCM6.ra 106 _ (by decide) (by decide)
            have hwm : x25 = M 106 (v5).toNat := by rw [hx25]; exact hWM6.ar 106 _ (by decide) (by decide)
            show zG n (0, 0) d 235 (63, [.inr (.inr (some 97)), .inl v5, .inl x11], [.inl x25, .inr (.inr (some 108)), .inl (M6 97 16), .inr (.inr (some 109))]) M6 _
            refine zG_lald hd0 hz rfl rfl (.inl rfl) (by omega) ?_
            obtain ⟨x26, hx26⟩ : ∃ x : Int, x = M6 108 (x25 : Int).toNat := ⟨_, rfl⟩
            rw [← hx26]
            show zG n (0, 0) d 235 (64, [.inr (.inr (some 97)), .inl v5, .inl x11], [.inr (.inl (x26)), .inl (M6 97 16), .inr (.inr (some 109))]) M6 _
            exact j64 x26
          · refine zG_w (c' := (48, [.inr (.inr (some 97)), .inl v5, .inl x11], [.inl v5, .inr (.inr (some 106)), .inl (M6 97 16), .inr (.inr (some 109))])) 3 hd0 hz (by rfl) ?_
            refine zG_iald hd0 hz rfl rfl (.inl rfl) (by omega) ?_
            obtain ⟨x27, hx27⟩ : ∃ x : Int, x = M6 106 (v5 : Int).toNat := ⟨_, rfl⟩
            rw [← hx27]
            have hx27r : qin x27 := by rw [hx27]; exact hCM6.ra 106 _ (by decide) (by decide)
            show zG n (0, 0) d 235 (49, [.inr (.inr (some 97)), .inl v5, .inl x11], [.inl x27, .inl (M6 97 16), .inr (.inr (some 109))]) M6 _
            refine zG_w (c' := (64, [.inr (.inr (some 97)), .inl v5, .inl x11], [.inr (.inl (x27)), .inl (M6 97 16), .inr (.inr (some 109))])) 2 hd0 hz (by rfl) ?_
            exact j64 x27
        refine zG_wf_eq (pc := 23) (n' := 26) (t := 31) (L := [.inr (.inr (some 97)), .inl v5, .inl x11]) (st := []) (x := x11) 0 hd0 hz (by rfl) (fun hb28 => ?_) (fun hb28 => ?_)
        · exact j31 (by omega)
        · refine zG_wi_ne (pc := 28) (n' := 31) (t := 78) (L := [.inr (.inr (some 97)), .inl v5, .inl x11]) (st := []) (x := x11) (y := 1) 2 hd0 hz (by rfl) (fun hb29 => ?_) (fun hb29 => ?_)
          · refine zG_wi_ne (pc := 80) (n' := 83) (t := 118) (L := [.inr (.inr (some 97)), .inl v5, .inl x11]) (st := []) (x := x11) (y := 2) 2 hd0 hz (by rfl) (fun hb30 => ?_) (fun hb30 => ?_)
            · refine zG_wi_ne (pc := 120) (n' := 123) (t := 149) (L := [.inr (.inr (some 97)), .inl v5, .inl x11]) (st := []) (x := x11) (y := 3) 2 hd0 hz (by rfl) (fun hb31 => ?_) (fun hb31 => ?_)
              · refine zG_wi_ne (pc := 151) (n' := 154) (t := 183) (L := [.inr (.inr (some 97)), .inl v5, .inl x11]) (st := []) (x := x11) (y := 4) 2 hd0 hz (by rfl) (fun hb32 => ?_) (fun hb32 => ?_)
                · refine zG_wi_ne (pc := 186) (n' := 189) (t := 252) (L := [.inr (.inr (some 97)), .inl v5, .inl x11]) (st := []) (x := x11) (y := 14) 2 hd0 hz (by rfl) (fun hb33 => ?_) (fun hb33 => ?_)
                  · replace hsf : qDp (M 105) (v5 + 1).toNat = qDp (M 105) (v5).toNat - 1 ∧ 2 ≤ qDp (M 105) (v5).toNat ∧ qDp (M 105) (v5).toNat ≤ v5 := by omega
                    clear hb28 hb29 hb30 hb31 hb32 hb33
                    obtain ⟨x34, hx34⟩ : ∃ x : Int, x = w32 ((M6 97 16) - 1) := ⟨_, rfl⟩
                    have hx34r : x34 = ((M6 97 16) - 1 + 2147483648) % 4294967296 - 2147483648 := hx34
                    refine zG_w (c' := (259, [.inr (.inr (some 97)), .inl v5, .inl x11], [.inl x34, .inr (.inr (some 97))])) 5 hd0 hz (by subst hx34; rfl) ?_
                    refine zG_putf (.inl rfl) hd0 hz rfl (by decide) rfl rfl ?_
                    obtain ⟨M35, hM35⟩ : ∃ X : zM, X = zput M6 97 16 x34 := ⟨_, rfl⟩
                    rw [← hM35]
                    have hCM35 : qMI M35 := by rw [hM35]; exact hCM6.put (by decide) (by decide) (by first | exact qMC_97 (by decide) (fun _ => by omega) | (refine ⟨fun _ => ?_, fun _ => ?_, fun h => ⟨fun _ => ?_, fun _ => ?_, fun _ => ?_, fun _ => ?_, fun _ => ?_⟩, fun h => ?_, fun h => ?_⟩ <;> first | omega | exact absurd rfl (by assumption) | (rename_i h9; exact absurd h9 (by decide))))
                    have hWM35 : qFm [109, 1016] M M35 := by rw [hM35]; exact hWM6.put (by decide)
                    have e36 : M35 97 7 = M6 97 7 := by rw [hM35]; exact qput_nk (by decide)
                    have e37 : M35 97 16 = x34 := by rw [hM35]; exact qput_eq
                    show zG n (0, 0) d 235 (262, [.inr (.inr (some 97)), .inl v5, .inl x11], []) M35 _
                    obtain ⟨x38, hx38⟩ : ∃ x : Int, x = w32 ((M35 97 16) - 1) := ⟨_, rfl⟩
                    have hx38r : x38 = ((M35 97 16) - 1 + 2147483648) % 4294967296 - 2147483648 := hx38
                    obtain ⟨x39, hx39⟩ : ∃ x : Int, x = w32 ((M35 97 16) - 1) := ⟨_, rfl⟩
                    have hx39r : x39 = ((M35 97 16) - 1 + 2147483648) % 4294967296 - 2147483648 := hx39
                    refine zG_w (c' := (284, [.inr (.inr (some 97)), .inl v5, .inl x11], [.inl x39, .inr (.inr (some 109)), .inl x11, .inr (.inr (some 97)), .inl x38, .inr (.inr (some 109))])) 14 hd0 hz (by subst hx39; subst hx38; rfl) ?_
                    refine zG_lald hd0 hz rfl rfl (.inl rfl) (by omega) ?_
                    obtain ⟨x40, hx40⟩ : ∃ x : Int, x = M35 109 (x39 : Int).toNat := ⟨_, rfl⟩
                    rw [← hx40]
                    show zG n (0, 0) d 235 (285, [.inr (.inr (some 97)), .inl v5, .inl x11], [.inr (.inl (x40)), .inl x11, .inr (.inr (some 97)), .inl x38, .inr (.inr (some 109))]) M35 _
                    refine zG_w (c' := (293, [.inr (.inr (some 97)), .inl v5, .inl x11], [.inl (M35 97 16), .inr (.inr (some 109)), .inr (.inl (x40)), .inl x11, .inr (.inr (some 97)), .inl x38, .inr (.inr (some 109))])) 4 hd0 hz (by rfl) ?_
                    refine zG_lald hd0 hz rfl rfl (.inl rfl) (by omega) ?_
                    obtain ⟨x41, hx41⟩ : ∃ x : Int, x = M35 109 ((M35 97 16) : Int).toNat := ⟨_, rfl⟩
                    rw [← hx41]
                    show zG n (0, 0) d 235 (294, [.inr (.inr (some 97)), .inl v5, .inl x11], [.inr (.inl (x41)), .inr (.inl (x40)), .inl x11, .inr (.inr (some 97)), .inl x38, .inr (.inr (some 109))]) M35 _
                    refine zG_wl (pc := 297) (L := [.inr (.inr (some 97)), .inl v5, .inl x11]) (st := [.inl x38, .inr (.inr (some 109))]) 0 hd0 hz zp_234 (qm_234_97 (by first | exact zdk hd rfl | omega) hCM35   x11 (by omega) x40 x41 ) (by rfl) (fun x43 => ?_)
                    refine zG_last hd0 hz rfl rfl (by omega) ?_
                    obtain ⟨M44, hM44⟩ : ∃ X : zM, X = zput M35 109 (x38 : Int).toNat x43 := ⟨_, rfl⟩
                    rw [← hM44]
                    have hCM44 : qMI M44 := by rw [hM44]; exact hCM35.put (by decide) (qCd_a (by decide) (by decide)) qMC_109
                    have hWM44 : qFm [109, 1016] M M44 := by rw [hM44]; exact hWM35.pa (by decide) (by decide)
                    have e45 : M44 97 7 = M35 97 7 := by rw [hM44]; exact qput_ne (by decide)
                    have e46 : M44 97 16 = M35 97 16 := by rw [hM44]; exact qput_ne (by decide)
                    show zG n (0, 0) d 235 (298, [.inr (.inr (some 97)), .inl v5, .inl x11], []) M44 _
                    exact j298 M44 (by omega) hCM44 hWM44
                  · replace hsf : qDp (M 105) (v5 + 1).toNat = qDp (M 105) (v5).toNat - 2 ∧ 3 ≤ qDp (M 105) (v5).toNat ∧ qDp (M 105) (v5).toNat ≤ v5 := by omega
                    clear hb28 hb29 hb30 hb31 hb32 hb33
                    obtain ⟨x47, hx47⟩ : ∃ x : Int, x = w32 ((M6 97 16) - 2) := ⟨_, rfl⟩
                    have hx47r : x47 = ((M6 97 16) - 2 + 2147483648) % 4294967296 - 2147483648 := hx47
                    refine zG_w (c' := (196, [.inr (.inr (some 97)), .inl v5, .inl x11], [.inl x47, .inr (.inr (some 97))])) 5 hd0 hz (by subst hx47; rfl) ?_
                    refine zG_putf (.inl rfl) hd0 hz rfl (by decide) rfl rfl ?_
                    obtain ⟨M48, hM48⟩ : ∃ X : zM, X = zput M6 97 16 x47 := ⟨_, rfl⟩
                    rw [← hM48]
                    have hCM48 : qMI M48 := by rw [hM48]; exact hCM6.put (by decide) (by decide) (by first | exact qMC_97 (by decide) (fun _ => by omega) | (refine ⟨fun _ => ?_, fun _ => ?_, fun h => ⟨fun _ => ?_, fun _ => ?_, fun _ => ?_, fun _ => ?_, fun _ => ?_⟩, fun h => ?_, fun h => ?_⟩ <;> first | omega | exact absurd rfl (by assumption) | (rename_i h9; exact absurd h9 (by decide))))
                    have hWM48 : qFm [109, 1016] M M48 := by rw [hM48]; exact hWM6.put (by decide)
                    have e49 : M48 97 7 = M6 97 7 := by rw [hM48]; exact qput_nk (by decide)
                    have e50 : M48 97 16 = x47 := by rw [hM48]; exact qput_eq
                    show zG n (0, 0) d 235 (199, [.inr (.inr (some 97)), .inl v5, .inl x11], []) M48 _
                    obtain ⟨x51, hx51⟩ : ∃ x : Int, x = w32 ((M48 97 16) - 1) := ⟨_, rfl⟩
                    have hx51r : x51 = ((M48 97 16) - 1 + 2147483648) % 4294967296 - 2147483648 := hx51
                    refine zG_w (c' := (217, [.inr (.inr (some 97)), .inl v5, .inl x11], [.inl (M48 97 16), .inr (.inr (some 109)), .inl x51, .inr (.inr (some 109))])) 10 hd0 hz (by subst hx51; rfl) ?_
                    refine zG_lald hd0 hz rfl rfl (.inl rfl) (by omega) ?_
                    obtain ⟨x52, hx52⟩ : ∃ x : Int, x = M48 109 ((M48 97 16) : Int).toNat := ⟨_, rfl⟩
                    rw [← hx52]
                    show zG n (0, 0) d 235 (218, [.inr (.inr (some 97)), .inl v5, .inl x11], [.inr (.inl (x52)), .inl x51, .inr (.inr (some 109))]) M48 _
                    refine zG_w (c' := (219, [.inr (.inr (some 97)), .inl v5, .inl x11], [.inr (.inl (0)), .inr (.inl (x52)), .inl x51, .inr (.inr (some 109))])) 1 hd0 hz (by rfl) ?_
                    have j248 : ∀ (v53 : Int) , zG n (0, 0) d 235 (248, [.inr (.inr (some 97)), .inl v5, .inl x11], [.inr (.inl (v53)), .inl x51, .inr (.inr (some 109))]) M48 (fun v M' => (qMI M' ∧ qFm [109, 1016] M M') ∧ ∃ x : Int, v = some (.inr (.inl x))) := by
                      intro v53
                      refine zG_last hd0 hz rfl rfl (by omega) ?_
                      obtain ⟨M54, hM54⟩ : ∃ X : zM, X = zput M48 109 (x51 : Int).toNat v53 := ⟨_, rfl⟩
                      rw [← hM54]
                      have hCM54 : qMI M54 := by rw [hM54]; exact hCM48.put (by decide) (qCd_a (by decide) (by decide)) qMC_109
                      have hWM54 : qFm [109, 1016] M M54 := by rw [hM54]; exact hWM48.pa (by decide) (by decide)
                      have e55 : M54 97 7 = M48 97 7 := by rw [hM54]; exact qput_ne (by decide)
                      have e56 : M54 97 16 = M48 97 16 := by rw [hM54]; exact qput_ne (by decide)
                      show zG n (0, 0) d 235 (249, [.inr (.inr (some 97)), .inl v5, .inl x11], []) M54 _
                      refine zG_w (c' := (298, [.inr (.inr (some 97)), .inl v5, .inl x11], [])) 1 hd0 hz (by rfl) ?_
                      exact j298 M54 (by omega) hCM54 hWM54
                    refine zG_lc_eq hd0 hz rfl rfl (fun hb219 => ?_) (fun hb219 => ?_)
                    · obtain ⟨x57, hx57⟩ : ∃ x : Int, x = w32 ((M48 97 16) + 1) := ⟨_, rfl⟩
                      have hx57r : x57 = ((M48 97 16) + 1 + 2147483648) % 4294967296 - 2147483648 := hx57
                      refine zG_w (c' := (247, [.inr (.inr (some 97)), .inl v5, .inl x11], [.inl x57, .inr (.inr (some 109)), .inl x51, .inr (.inr (some 109))])) 6 hd0 hz (by subst hx57; rfl) ?_
                      refine zG_lald hd0 hz rfl rfl (.inl rfl) (by omega) ?_
                      obtain ⟨x58, hx58⟩ : ∃ x : Int, x = M48 109 (x57 : Int).toNat := ⟨_, rfl⟩
                      rw [← hx58]
                      show zG n (0, 0) d 235 (248, [.inr (.inr (some 97)), .inl v5, .inl x11], [.inr (.inl (x58)), .inl x51, .inr (.inr (some 109))]) M48 _
                      exact j248 x58
                    · obtain ⟨x59, hx59⟩ : ∃ x : Int, x = w32 ((M48 97 16) - 1) := ⟨_, rfl⟩
                      have hx59r : x59 = ((M48 97 16) - 1 + 2147483648) % 4294967296 - 2147483648 := hx59
                      refine zG_w (c' := (233, [.inr (.inr (some 97)), .inl v5, .inl x11], [.inl x59, .inr (.inr (some 109)), .inl x51, .inr (.inr (some 109))])) 6 hd0 hz (by subst hx59; rfl) ?_
                      refine zG_lald hd0 hz rfl rfl (.inl rfl) (by omega) ?_
                      obtain ⟨x60, hx60⟩ : ∃ x : Int, x = M48 109 (x59 : Int).toNat := ⟨_, rfl⟩
                      rw [← hx60]
                      show zG n (0, 0) d 235 (234, [.inr (.inr (some 97)), .inl v5, .inl x11], [.inr (.inl (x60)), .inl x51, .inr (.inr (some 109))]) M48 _
                      refine zG_w (c' := (248, [.inr (.inr (some 97)), .inl v5, .inl x11], [.inr (.inl (x60)), .inl x51, .inr (.inr (some 109))])) 1 hd0 hz (by rfl) ?_
                      exact j248 x60
                · replace hsf : qDp (M 105) (v5 + 1).toNat = qDp (M 105) (v5).toNat  ∧ 1 ≤ qDp (M 105) (v5).toNat ∧ qDp (M 105) (v5).toNat ≤ v5 := by omega
                  clear hb28 hb29 hb30 hb31 hb32
                  obtain ⟨x61, hx61⟩ : ∃ x : Int, x = w32 ((M6 97 16) - 1) := ⟨_, rfl⟩
                  have hx61r : x61 = ((M6 97 16) - 1 + 2147483648) % 4294967296 - 2147483648 := hx61
                  obtain ⟨x62, hx62⟩ : ∃ x : Int, x = w32 ((M6 97 16) - 1) := ⟨_, rfl⟩
                  have hx62r : x62 = ((M6 97 16) - 1 + 2147483648) % 4294967296 - 2147483648 := hx62
                  refine zG_w (c' := (175, [.inr (.inr (some 97)), .inl v5, .inl x11], [.inl x62, .inr (.inr (some 109)), .inr (.inr (some 97)), .inl x61, .inr (.inr (some 109))])) 13 hd0 hz (by subst hx62; subst hx61; rfl) ?_
                  refine zG_lald hd0 hz rfl rfl (.inl rfl) (by omega) ?_
                  obtain ⟨x63, hx63⟩ : ∃ x : Int, x = M6 109 (x62 : Int).toNat := ⟨_, rfl⟩
                  rw [← hx63]
                  show zG n (0, 0) d 235 (176, [.inr (.inr (some 97)), .inl v5, .inl x11], [.inr (.inl (x63)), .inr (.inr (some 97)), .inl x61, .inr (.inr (some 109))]) M6 _
                  refine zG_wl (pc := 179) (L := [.inr (.inr (some 97)), .inl v5, .inl x11]) (st := [.inl x61, .inr (.inr (some 109))]) 0 hd0 hz zp_233 (qm_233_97 (by first | exact zdk hd rfl | omega) hCM6   x63 ) (by rfl) (fun x65 => ?_)
                  refine zG_last hd0 hz rfl rfl (by omega) ?_
                  obtain ⟨M66, hM66⟩ : ∃ X : zM, X = zput M6 109 (x61 : Int).toNat x65 := ⟨_, rfl⟩
                  rw [← hM66]
                  have hCM66 : qMI M66 := by rw [hM66]; exact hCM6.put (by decide) (qCd_a (by decide) (by decide)) qMC_109
                  have hWM66 : qFm [109, 1016] M M66 := by rw [hM66]; exact hWM6.pa (by decide) (by decide)
                  have e67 : M66 97 7 = M6 97 7 := by rw [hM66]; exact qput_ne (by decide)
                  have e68 : M66 97 16 = M6 97 16 := by rw [hM66]; exact qput_ne (by decide)
                  show zG n (0, 0) d 235 (180, [.inr (.inr (some 97)), .inl v5, .inl x11], []) M66 _
                  refine zG_w (c' := (298, [.inr (.inr (some 97)), .inl v5, .inl x11], [])) 1 hd0 hz (by rfl) ?_
                  exact j298 M66 (by omega) hCM66 hWM66
              · replace hsf : qDp (M 105) (v5 + 1).toNat = qDp (M 105) (v5).toNat  ∧ 1 ≤ qDp (M 105) (v5).toNat ∧ qDp (M 105) (v5).toNat ≤ v5 := by omega
                clear hb28 hb29 hb30 hb31
                obtain ⟨x69, hx69⟩ : ∃ x : Int, x = w32 ((M6 97 16) - 1) := ⟨_, rfl⟩
                have hx69r : x69 = ((M6 97 16) - 1 + 2147483648) % 4294967296 - 2147483648 := hx69
                obtain ⟨x70, hx70⟩ : ∃ x : Int, x = w32 ((M6 97 16) - 1) := ⟨_, rfl⟩
                have hx70r : x70 = ((M6 97 16) - 1 + 2147483648) % 4294967296 - 2147483648 := hx70
                refine zG_w (c' := (143, [.inr (.inr (some 97)), .inl v5, .inl x11], [.inl x70, .inr (.inr (some 109)), .inl x69, .inr (.inr (some 109))])) 12 hd0 hz (by subst hx70; subst hx69; rfl) ?_
                refine zG_lald hd0 hz rfl rfl (.inl rfl) (by omega) ?_
                obtain ⟨x71, hx71⟩ : ∃ x : Int, x = M6 109 (x70 : Int).toNat := ⟨_, rfl⟩
                rw [← hx71]
                show zG n (0, 0) d 235 (144, [.inr (.inr (some 97)), .inl v5, .inl x11], [.inr (.inl (x71)), .inl x69, .inr (.inr (some 109))]) M6 _
                obtain ⟨x72, hx72⟩ : ∃ x : Int, x = w64 (-x71) := ⟨_, rfl⟩
                refine zG_w (c' := (145, [.inr (.inr (some 97)), .inl v5, .inl x11], [.inr (.inl (x72)), .inl x69, .inr (.inr (some 109))])) 1 hd0 hz (by subst hx72; rfl) ?_
                refine zG_last hd0 hz rfl rfl (by omega) ?_
                obtain ⟨M73, hM73⟩ : ∃ X : zM, X = zput M6 109 (x69 : Int).toNat x72 := ⟨_, rfl⟩
                rw [← hM73]
                have hCM73 : qMI M73 := by rw [hM73]; exact hCM6.put (by decide) (qCd_a (by decide) (by decide)) qMC_109
                have hWM73 : qFm [109, 1016] M M73 := by rw [hM73]; exact hWM6.pa (by decide) (by decide)
                have e74 : M73 97 7 = M6 97 7 := by rw [hM73]; exact qput_ne (by decide)
                have e75 : M73 97 16 = M6 97 16 := by rw [hM73]; exact qput_ne (by decide)
                show zG n (0, 0) d 235 (146, [.inr (.inr (some 97)), .inl v5, .inl x11], []) M73 _
                refine zG_w (c' := (298, [.inr (.inr (some 97)), .inl v5, .inl x11], [])) 1 hd0 hz (by rfl) ?_
                exact j298 M73 (by omega) hCM73 hWM73
            · replace hsf : qDp (M 105) (v5 + 1).toNat = qDp (M 105) (v5).toNat  ∧ 1 ≤ qDp (M 105) (v5).toNat ∧ qDp (M 105) (v5).toNat ≤ v5 := by omega
              clear hb28 hb29 hb30
              obtain ⟨x76, hx76⟩ : ∃ x : Int, x = w32 ((M6 97 16) - 1) := ⟨_, rfl⟩
              have hx76r : x76 = ((M6 97 16) - 1 + 2147483648) % 4294967296 - 2147483648 := hx76
              obtain ⟨x77, hx77⟩ : ∃ x : Int, x = w32 ((M6 97 16) - 1) := ⟨_, rfl⟩
              have hx77r : x77 = ((M6 97 16) - 1 + 2147483648) % 4294967296 - 2147483648 := hx77
              refine zG_w (c' := (103, [.inr (.inr (some 97)), .inl v5, .inl x11], [.inl x77, .inr (.inr (some 109)), .inl x76, .inr (.inr (some 109))])) 12 hd0 hz (by subst hx77; subst hx76; rfl) ?_
              refine zG_lald hd0 hz rfl rfl (.inl rfl) (by omega) ?_
              obtain ⟨x78, hx78⟩ : ∃ x : Int, x = M6 109 (x77 : Int).toNat := ⟨_, rfl⟩
              rw [← hx78]
              show zG n (0, 0) d 235 (104, [.inr (.inr (some 97)), .inl v5, .inl x11], [.inr (.inl (x78)), .inl x76, .inr (.inr (some 109))]) M6 _
              refine zG_w (c' := (105, [.inr (.inr (some 97)), .inl v5, .inl x11], [.inr (.inl (0)), .inr (.inl (x78)), .inl x76, .inr (.inr (some 109))])) 1 hd0 hz (by rfl) ?_
              have j114 : ∀ (v79 : Int) , zG n (0, 0) d 235 (114, [.inr (.inr (some 97)), .inl v5, .inl x11], [.inr (.inl (v79)), .inl x76, .inr (.inr (some 109))]) M6 (fun v M' => (qMI M' ∧ qFm [109, 1016] M M') ∧ ∃ x : Int, v = some (.inr (.inl x))) := by
                intro v79
                refine zG_last hd0 hz rfl rfl (by omega) ?_
                obtain ⟨M80, hM80⟩ : ∃ X : zM, X = zput M6 109 (x76 : Int).toNat v79 := ⟨_, rfl⟩
                rw [← hM80]
                have hCM80 : qMI M80 := by rw [hM80]; exact hCM6.put (by decide) (qCd_a (by decide) (by decide)) qMC_109
                have hWM80 : qFm [109, 1016] M M80 := by rw [hM80]; exact hWM6.pa (by decide) (by decide)
                have e81 : M80 97 7 = M6 97 7 := by rw [hM80]; exact qput_ne (by decide)
                have e82 : M80 97 16 = M6 97 16 := by rw [hM80]; exact qput_ne (by decide)
                show zG n (0, 0) d 235 (115, [.inr (.inr (some 97)), .inl v5, .inl x11], []) M80 _
                refine zG_w (c' := (298, [.inr (.inr (some 97)), .inl v5, .inl x11], [])) 1 hd0 hz (by rfl) ?_
                exact j298 M80 (by omega) hCM80 hWM80
              refine zG_lc_ne hd0 hz rfl rfl (fun hb105 => ?_) (fun hb105 => ?_)
              · refine zG_w (c' := (114, [.inr (.inr (some 97)), .inl v5, .inl x11], [.inr (.inl (0)), .inl x76, .inr (.inr (some 109))])) 1 hd0 hz (by rfl) ?_
                exact j114 0
              · refine zG_w (c' := (114, [.inr (.inr (some 97)), .inl v5, .inl x11], [.inr (.inl (1)), .inl x76, .inr (.inr (some 109))])) 2 hd0 hz (by rfl) ?_
                exact j114 1
          · exact j31 (by omega)
  exact j7 ((M 97 7 - 0 : Int).toNat + 1) 0 M2 (by omega) (by omega) (by omega) hCM2 hWM2
theorem qm_236_97 {n d : Nat} {M : zM} (hd : 1 ≤ d) (hC : qMI M)  (a1 : Int) (ha1 : (-2147483648) ≤ a1 ∧ a1 ≤ 2147483647) (a2 : Int) (ha2 : 0 ≤ a2 ∧ a2 ≤ 1) : qOkP n d 236 [.inr (.inr (some 97)), .inl a1, .inl a2] 7 M (fun v => ∃ x : Int, v = some (.inl x) ∧ ((-1) ≤ x ∧ x ≤ 9)) := by
  have hz := zp_236
  have hd0 : 0 < d := by omega
  have r1 := hC.cnt5
  show zG n (0, 0) d 236 (0, [.inr (.inr (some 97)), .inl a1, .inl a2, zN, zN, zN, zN], []) M _
  refine zG_w (c' := (5, [.inr (.inr (some 97)), .inl a1, .inl a2, .inl (-1), .inl 0, zN, zN], [])) 4 hd0 hz (by rfl) ?_
  have j5 : ∀ (N : Nat) (v2 v3 : Int) , (10 - v3 : Int).toNat < N → (-1) ≤ v2 ∧ v2 ≤ 9 → 0 ≤ v3 ∧ v3 ≤ 10 → zG n (0, 0) d 236 (5, [.inr (.inr (some 97)), .inl a1, .inl a2, .inl v2, .inl v3, zN, zN], []) M (fun v M' => M' = M ∧ ∃ x : Int, v = some (.inl x) ∧ ((-1) ≤ x ∧ x ≤ 9)) := by
    intro N
    induction N with
    | zero => intro v2 v3 hN hv2 hv3; exact absurd hN (Nat.not_lt_zero _)
    | succ N ih5 =>
      intro v2 v3 hN hv2 hv3
      replace hN : 10 - v3 < (N : Int) + 1 := by omega
      refine zG_w (c' := (12, [.inr (.inr (some 97)), .inl a1, .inl a2, .inl v2, .inl v3, zN, zN], [.inl 5, .inr (.inr (some 98)), .inl v3])) 4 hd0 hz (by rfl) ?_
      refine zG_iald hd0 hz rfl rfl (.inl rfl) (by omega) ?_
      show zG n (0, 0) d 236 (13, [.inr (.inr (some 97)), .inl a1, .inl a2, .inl v2, .inl v3, zN, zN], [.inl (M 98 5), .inl v3]) M _
      refine zG_wi_ge (pc := 13) (n' := 16) (t := 124) (L := [.inr (.inr (some 97)), .inl a1, .inl a2, .inl v2, .inl v3, zN, zN]) (st := []) (x := v3) (y := (M 98 5)) 0 hd0 hz (by rfl) (fun hb4 => ?_) (fun hb4 => ?_)
      · exact zG_wr (r := some (.inl v2)) 1 hd0 hz (by rfl) ⟨rfl, _, rfl, by omega⟩
      · obtain ⟨x5, hx5⟩ : ∃ x : Int, x = w32 (164 * v3) := ⟨_, rfl⟩
        have hx5e : x5 = 164 * v3 := by rw [hx5]; exact w32_id (by omega)
        obtain ⟨x6, hx6⟩ : ∃ x : Int, x = w32 (4000 + x5) := ⟨_, rfl⟩
        have hx6e : x6 = 4000 + x5 := by rw [hx6]; exact w32_id (by omega)
        obtain ⟨x7, hx7⟩ : ∃ x : Int, x = w32 (x6 + 162) := ⟨_, rfl⟩
        have hx7e : x7 = x6 + 162 := by rw [hx7]; exact w32_id (by omega)
        refine zG_w (c' := (38, [.inr (.inr (some 97)), .inl a1, .inl a2, .inl v2, .inl v3, .inl x6, zN], [.inl x7, .inr (.inr (some 98))])) 11 hd0 hz (by subst hx7; subst hx6; subst hx5; rfl) ?_
        refine zG_iald hd0 hz rfl rfl (.inl rfl) (by omega) ?_
        obtain ⟨x8, hx8⟩ : ∃ x : Int, x = M 98 (x7 : Int).toNat := ⟨_, rfl⟩
        rw [← hx8]
        have hx8r : qin x8 := by rw [hx8]; exact hC.sin _
        show zG n (0, 0) d 236 (39, [.inr (.inr (some 97)), .inl a1, .inl a2, .inl v2, .inl v3, .inl x6, zN], [.inl x8]) M _
        refine zG_w (c' := (40, [.inr (.inr (some 97)), .inl a1, .inl a2, .inl v2, .inl v3, .inl x6, zN], [.inl a1, .inl x8])) 1 hd0 hz (by rfl) ?_
        have j67 : ∀ (v9 : Int) , 0 ≤ v9 ∧ v9 ≤ 1 → zG n (0, 0) d 236 (67, [.inr (.inr (some 97)), .inl a1, .inl a2, .inl v2, .inl v3, .inl x6, zN], [.inl v9]) M (fun v M' => M' = M ∧ ∃ x : Int, v = some (.inl x) ∧ ((-1) ≤ x ∧ x ≤ 9)) := by
          intro v9 hv9
          refine zG_w (c' := (71, [.inr (.inr (some 97)), .inl a1, .inl a2, .inl v2, .inl v3, .inl x6, .inl v9], [.inl v9])) 2 hd0 hz (by rfl) ?_
          have j117 : ∀ (v10 : Int) , (-1) ≤ v10 ∧ v10 ≤ 9 → zG n (0, 0) d 236 (117, [.inr (.inr (some 97)), .inl a1, .inl a2, .inl v2, .inl v3, .inl x6, .inl v9], [.inl v10]) M (fun v M' => M' = M ∧ ∃ x : Int, v = some (.inl x) ∧ ((-1) ≤ x ∧ x ≤ 9)) := by
            intro v10 hv10
            obtain ⟨x11, hx11⟩ : ∃ x : Int, x = w32 (v3 + 1) := ⟨_, rfl⟩
            have hx11e : x11 = v3 + 1 := by rw [hx11]; exact w32_id (by omega)
            refine zG_w (c' := (5, [.inr (.inr (some 97)), .inl a1, .inl a2, .inl v10, .inl x11, .inl x6, .inl v9], [])) 3 hd0 hz (by subst hx11; rfl) ?_
            exact zG_weak (ih5 v10 x11 (by omega) (by omega) (by omega)) ⟨.inr rfl, .inr rfl, .inr rfl, .inr rfl, .inr rfl, .inl rfl, .inl rfl, trivial⟩
          have j116 : zG n (0, 0) d 236 (116, [.inr (.inr (some 97)), .inl a1, .inl a2, .inl v2, .inl v3, .inl x6, .inl v9], []) M (fun v M' => M' = M ∧ ∃ x : Int, v = some (.inl x) ∧ ((-1) ≤ x ∧ x ≤ 9)) := by
            refine zG_w (c' := (117, [.inr (.inr (some 97)), .inl a1, .inl a2, .inl v2, .inl v3, .inl x6, .inl v9], [.inl v2])) 1 hd0 hz (by rfl) ?_
            exact j117 v2 (by first | with_reducible exact hv2 | omega)
          refine zG_wf_eq (pc := 71) (n' := 74) (t := 116) (L := [.inr (.inr (some 97)), .inl a1, .inl a2, .inl v2, .inl v3, .inl x6, .inl v9]) (st := []) (x := v9) 0 hd0 hz (by rfl) (fun hb12 => ?_) (fun hb12 => ?_)
          · exact j116
          · refine zG_w (c' := (76, [.inr (.inr (some 97)), .inl a1, .inl a2, .inl v2, .inl v3, .inl x6, .inl v9], [.inl (-1), .inl v2])) 2 hd0 hz (by rfl) ?_
            have j111 : zG n (0, 0) d 236 (111, [.inr (.inr (some 97)), .inl a1, .inl a2, .inl v2, .inl v3, .inl x6, .inl v9], []) M (fun v M' => M' = M ∧ ∃ x : Int, v = some (.inl x) ∧ ((-1) ≤ x ∧ x ≤ 9)) := by
              refine zG_w (c' := (117, [.inr (.inr (some 97)), .inl a1, .inl a2, .inl v2, .inl v3, .inl x6, .inl v9], [.inl v3])) 2 hd0 hz (by rfl) ?_
              exact j117 v3 (by first | with_reducible exact hv3 | omega)
            refine zG_wi_eq (pc := 76) (n' := 79) (t := 111) (L := [.inr (.inr (some 97)), .inl a1, .inl a2, .inl v2, .inl v3, .inl x6, .inl v9]) (st := []) (x := v2) (y := (-1)) 0 hd0 hz (by rfl) (fun hb13 => ?_) (fun hb13 => ?_)
            · exact j111
            · obtain ⟨x14, hx14⟩ : ∃ x : Int, x = w32 (x6 + 162) := ⟨_, rfl⟩
              have hx14e : x14 = x6 + 162 := by rw [hx14]; exact w32_id (by omega)
              refine zG_w (c' := (89, [.inr (.inr (some 97)), .inl a1, .inl a2, .inl v2, .inl v3, .inl x6, .inl v9], [.inl x14, .inr (.inr (some 98))])) 5 hd0 hz (by subst hx14; rfl) ?_
              refine zG_iald hd0 hz rfl rfl (.inl rfl) (by omega) ?_
              obtain ⟨x15, hx15⟩ : ∃ x : Int, x = M 98 (x14 : Int).toNat := ⟨_, rfl⟩
              rw [← hx15]
              have hx15r : qin x15 := by rw [hx15]; exact hC.sin _
              show zG n (0, 0) d 236 (90, [.inr (.inr (some 97)), .inl a1, .inl a2, .inl v2, .inl v3, .inl x6, .inl v9], [.inl x15]) M _
              obtain ⟨x16, hx16⟩ : ∃ x : Int, x = w32 (164 * v2) := ⟨_, rfl⟩
              have hx16e : x16 = 164 * v2 := by rw [hx16]; exact w32_id (by omega)
              obtain ⟨x17, hx17⟩ : ∃ x : Int, x = w32 (4000 + x16) := ⟨_, rfl⟩
              have hx17e : x17 = 4000 + x16 := by rw [hx17]; exact w32_id (by omega)
              obtain ⟨x18, hx18⟩ : ∃ x : Int, x = w32 (x17 + 162) := ⟨_, rfl⟩
              have hx18e : x18 = x17 + 162 := by rw [hx18]; exact w32_id (by omega)
              refine zG_w (c' := (107, [.inr (.inr (some 97)), .inl a1, .inl a2, .inl v2, .inl v3, .inl x6, .inl v9], [.inl x18, .inr (.inr (some 98)), .inl x15])) 9 hd0 hz (by subst hx18; subst hx17; subst hx16; rfl) ?_
              refine zG_iald hd0 hz rfl rfl (.inl rfl) (by omega) ?_
              obtain ⟨x19, hx19⟩ : ∃ x : Int, x = M 98 (x18 : Int).toNat := ⟨_, rfl⟩
              rw [← hx19]
              have hx19r : qin x19 := by rw [hx19]; exact hC.sin _
              show zG n (0, 0) d 236 (108, [.inr (.inr (some 97)), .inl a1, .inl a2, .inl v2, .inl v3, .inl x6, .inl v9], [.inl x19, .inl x15]) M _
              refine zG_wi_lt (pc := 108) (n' := 111) (t := 116) (L := [.inr (.inr (some 97)), .inl a1, .inl a2, .inl v2, .inl v3, .inl x6, .inl v9]) (st := []) (x := x15) (y := x19) 0 hd0 hz (by rfl) (fun hb20 => ?_) (fun hb20 => ?_)
              · exact j116
              · exact j111
        have j66 : zG n (0, 0) d 236 (66, [.inr (.inr (some 97)), .inl a1, .inl a2, .inl v2, .inl v3, .inl x6, zN], []) M (fun v M' => M' = M ∧ ∃ x : Int, v = some (.inl x) ∧ ((-1) ≤ x ∧ x ≤ 9)) := by
          refine zG_w (c' := (67, [.inr (.inr (some 97)), .inl a1, .inl a2, .inl v2, .inl v3, .inl x6, zN], [.inl 0])) 1 hd0 hz (by rfl) ?_
          exact j67 0 (by first | decide | omega)
        refine zG_wi_gt (pc := 40) (n' := 43) (t := 66) (L := [.inr (.inr (some 97)), .inl a1, .inl a2, .inl v2, .inl v3, .inl x6, zN]) (st := []) (x := x8) (y := a1) 0 hd0 hz (by rfl) (fun hb21 => ?_) (fun hb21 => ?_)
        · exact j66
        · refine zG_w (c' := (44, [.inr (.inr (some 97)), .inl a1, .inl a2, .inl v2, .inl v3, .inl x6, zN], [.inl a2])) 1 hd0 hz (by rfl) ?_
          have j62 : zG n (0, 0) d 236 (62, [.inr (.inr (some 97)), .inl a1, .inl a2, .inl v2, .inl v3, .inl x6, zN], []) M (fun v M' => M' = M ∧ ∃ x : Int, v = some (.inl x) ∧ ((-1) ≤ x ∧ x ≤ 9)) := by
            refine zG_w (c' := (67, [.inr (.inr (some 97)), .inl a1, .inl a2, .inl v2, .inl v3, .inl x6, zN], [.inl 1])) 2 hd0 hz (by rfl) ?_
            exact j67 1 (by first | decide | omega)
          refine zG_wf_eq (pc := 44) (n' := 47) (t := 62) (L := [.inr (.inr (some 97)), .inl a1, .inl a2, .inl v2, .inl v3, .inl x6, zN]) (st := []) (x := a2) 0 hd0 hz (by rfl) (fun hb22 => ?_) (fun hb22 => ?_)
          · exact j62
          · obtain ⟨x23, hx23⟩ : ∃ x : Int, x = w32 (x6 + 163) := ⟨_, rfl⟩
            have hx23e : x23 = x6 + 163 := by rw [hx23]; exact w32_id (by omega)
            refine zG_w (c' := (57, [.inr (.inr (some 97)), .inl a1, .inl a2, .inl v2, .inl v3, .inl x6, zN], [.inl x23, .inr (.inr (some 98))])) 5 hd0 hz (by subst hx23; rfl) ?_
            refine zG_iald hd0 hz rfl rfl (.inl rfl) (by omega) ?_
            obtain ⟨x24, hx24⟩ : ∃ x : Int, x = M 98 (x23 : Int).toNat := ⟨_, rfl⟩
            rw [← hx24]
            have hx24r : qin x24 := by rw [hx24]; exact hC.sin _
            show zG n (0, 0) d 236 (58, [.inr (.inr (some 97)), .inl a1, .inl a2, .inl v2, .inl v3, .inl x6, zN], [.inl x24]) M _
            refine zG_wi_ne (pc := 59) (n' := 62) (t := 66) (L := [.inr (.inr (some 97)), .inl a1, .inl a2, .inl v2, .inl v3, .inl x6, zN]) (st := []) (x := x24) (y := 1) 1 hd0 hz (by rfl) (fun hb25 => ?_) (fun hb25 => ?_)
            · exact j66
            · exact j62
  exact j5 ((10 - 0 : Int).toNat + 1) (-1) 0 (by first | decide | omega) (by omega) (by omega)
theorem qm_237_97 {n d : Nat} {M : zM} (hd : 2 ≤ d) (hC : qMI M)  (a1 : Int) (ha1 : 0 ≤ a1 ∧ a1 ≤ 19) (a2 : Int) (ha2 : (-2147483648) ≤ a2 ∧ a2 ≤ 2147483647) : qOkP n d 237 [.inr (.inr (some 97)), .inl a1, .inl a2] 5 M (fun v => ∃ x : Int, v = some (.inl x) ∧ ((-1) ≤ x ∧ x ≤ 9)) := by
  have hz := zp_237
  have hd0 : 0 < d := by omega
  show zG n (0, 0) d 237 (0, [.inr (.inr (some 97)), .inl a1, .inl a2, zN, zN], []) M _
  refine zG_wp (pc := 6) (L := [.inr (.inr (some 97)), .inl a1, .inl a2, zN, zN]) (st := []) 3 hd0 hz zp_236 (qm_236_97 (by first | exact zdk hd rfl | omega) hC   a2 (by first | with_reducible exact ha2 | omega) 1 (by first | decide | omega) ) (by rfl) (fun x2 hx2 => ?_)
  refine zG_wi_eq (pc := 9) (n' := 12) (t := 14) (L := [.inr (.inr (some 97)), .inl a1, .inl a2, .inl x2, zN]) (st := []) (x := x2) (y := (-1)) 3 hd0 hz (by rfl) (fun hb3 => ?_) (fun hb3 => ?_)
  · obtain ⟨x4, hx4⟩ : ∃ x : Int, x = w32 (3 * a1) := ⟨_, rfl⟩
    have hx4e : x4 = 3 * a1 := by rw [hx4]; exact w32_id (by omega)
    obtain ⟨x5, hx5⟩ : ∃ x : Int, x = w32 (80 + x4) := ⟨_, rfl⟩
    have hx5e : x5 = 80 + x4 := by rw [hx5]; exact w32_id (by omega)
    obtain ⟨x6, hx6⟩ : ∃ x : Int, x = w32 (x5 + 1) := ⟨_, rfl⟩
    have hx6e : x6 = x5 + 1 := by rw [hx6]; exact w32_id (by omega)
    refine zG_w (c' := (26, [.inr (.inr (some 97)), .inl a1, .inl a2, .inl x2, zN], [.inl x6, .inr (.inr (some 98))])) 9 hd0 hz (by subst hx6; subst hx5; subst hx4; rfl) ?_
    refine zG_iald hd0 hz rfl rfl (.inl rfl) (by omega) ?_
    obtain ⟨x7, hx7⟩ : ∃ x : Int, x = M 98 (x6 : Int).toNat := ⟨_, rfl⟩
    rw [← hx7]
    have hx7r : (-1) ≤ x7 ∧ x7 ≤ 9 := by rw [hx7]; exact hC.chosen a1 _ (by omega) (by omega)
    show zG n (0, 0) d 237 (27, [.inr (.inr (some 97)), .inl a1, .inl a2, .inl x2, zN], [.inl x7]) M _
    refine zG_w (c' := (32, [.inr (.inr (some 97)), .inl a1, .inl a2, .inl x2, .inl x7], [.inl (-1), .inl x7])) 3 hd0 hz (by rfl) ?_
    have j56 : ∀ (v8 : Int) , (-1) ≤ v8 ∧ v8 ≤ 9 → zG n (0, 0) d 237 (56, [.inr (.inr (some 97)), .inl a1, .inl a2, .inl x2, .inl x7], [.inl v8]) M (fun v M' => M' = M ∧ ∃ x : Int, v = some (.inl x) ∧ ((-1) ≤ x ∧ x ≤ 9)) := by
      intro v8 hv8
      exact zG_wr (r := some (.inl v8)) 0 hd0 hz (by rfl) ⟨rfl, _, rfl, by omega⟩
    refine zG_wi_eq (pc := 32) (n' := 35) (t := 40) (L := [.inr (.inr (some 97)), .inl a1, .inl a2, .inl x2, .inl x7]) (st := []) (x := x7) (y := (-1)) 0 hd0 hz (by rfl) (fun hb9 => ?_) (fun hb9 => ?_)
    · obtain ⟨x10, hx10⟩ : ∃ x : Int, x = w32 (3 * a1) := ⟨_, rfl⟩
      have hx10e : x10 = 3 * a1 := by rw [hx10]; exact w32_id (by omega)
      obtain ⟨x11, hx11⟩ : ∃ x : Int, x = w32 (80 + x10) := ⟨_, rfl⟩
      have hx11e : x11 = 80 + x10 := by rw [hx11]; exact w32_id (by omega)
      refine zG_w (c' := (51, [.inr (.inr (some 97)), .inl a1, .inl a2, .inl x2, .inl x7], [.inl x11, .inr (.inr (some 98)), .inr (.inr (some 97))])) 8 hd0 hz (by subst hx11; subst hx10; rfl) ?_
      refine zG_iald hd0 hz rfl rfl (.inl rfl) (by omega) ?_
      obtain ⟨x12, hx12⟩ : ∃ x : Int, x = M 98 (x11 : Int).toNat := ⟨_, rfl⟩
      rw [← hx12]
      have hx12r : qin x12 := by rw [hx12]; exact hC.sin _
      show zG n (0, 0) d 237 (52, [.inr (.inr (some 97)), .inl a1, .inl a2, .inl x2, .inl x7], [.inl x12, .inr (.inr (some 97))]) M _
      refine zG_wp (pc := 56) (L := [.inr (.inr (some 97)), .inl a1, .inl a2, .inl x2, .inl x7]) (st := []) 1 hd0 hz zp_236 (qm_236_97 (by first | exact zdk hd rfl | omega) hC   x12 (by omega) 0 (by first | decide | omega) ) (by rfl) (fun x14 hx14 => ?_)
      exact j56 x14 (by omega)
    · refine zG_w (c' := (56, [.inr (.inr (some 97)), .inl a1, .inl a2, .inl x2, .inl x7], [.inl x7])) 2 hd0 hz (by rfl) ?_
      exact j56 x7 (by omega)
  · exact zG_wr (r := some (.inl x2)) 1 hd0 hz (by rfl) ⟨rfl, _, rfl, by omega⟩
theorem qm_238_97 {n d : Nat} {M : zM} (hd : 1 ≤ d) (hC : qMI M)  (a1 : Int) (ha1 : 0 ≤ a1 ∧ a1 ≤ 13) : qOkN n d 238 [.inr (.inr (some 97)), .inl a1] 3 [108, 1020] M (fun v M' => v = none) := by
  have hz := zp_238
  have hd0 : 0 < d := by omega
  have hW : qFm [108, 1020] M M := qFm.rfl
  show zG n (0, 0) d 238 (0, [.inr (.inr (some 97)), .inl a1, zN], []) M _
  refine zG_w (c' := (2, [.inr (.inr (some 97)), .inl a1, zN], [.inl 0, .inr (.inr (some 97))])) 2 hd0 hz (by rfl) ?_
  refine zG_putf (.inr ⟨rfl, by omega⟩) hd0 hz rfl (by decide) rfl rfl ?_
  obtain ⟨M1, hM1⟩ : ∃ X : zM, X = zput M 97 20 0 := ⟨_, rfl⟩
  rw [← hM1]
  have hCM1 : qMI M1 := by rw [hM1]; exact hC.put (by decide) (by decide) (by first | exact qMC_97 (by decide) (fun _ => by omega) | (refine ⟨fun _ => ?_, fun _ => ?_, fun h => ⟨fun _ => ?_, fun _ => ?_, fun _ => ?_, fun _ => ?_, fun _ => ?_⟩, fun h => ?_, fun h => ?_⟩ <;> first | omega | exact absurd rfl (by assumption) | (rename_i h9; exact absurd h9 (by decide))))
  have hWM1 : qFm [108, 1020] M M1 := by rw [hM1]; exact hW.put (by decide)
  have e2 : M1 97 20 = 0 := by rw [hM1]; exact qput_eq
  show zG n (0, 0) d 238 (5, [.inr (.inr (some 97)), .inl a1, zN], []) M1 _
  obtain ⟨x3, hx3⟩ : ∃ x : Int, x = w32 (4 * a1) := ⟨_, rfl⟩
  have hx3e : x3 = 4 * a1 := by rw [hx3]; exact w32_id (by omega)
  obtain ⟨x4, hx4⟩ : ∃ x : Int, x = w32 (20 + x3) := ⟨_, rfl⟩
  have hx4e : x4 = 20 + x3 := by rw [hx4]; exact w32_id (by omega)
  obtain ⟨x5, hx5⟩ : ∃ x : Int, x = w32 (x4 + 1) := ⟨_, rfl⟩
  have hx5e : x5 = x4 + 1 := by rw [hx5]; exact w32_id (by omega)
  refine zG_w (c' := (17, [.inr (.inr (some 97)), .inl a1, zN], [.inl x5, .inr (.inr (some 98))])) 9 hd0 hz (by subst hx5; subst hx4; subst hx3; rfl) ?_
  refine zG_iald hd0 hz rfl rfl (.inl rfl) (by omega) ?_
  obtain ⟨x6, hx6⟩ : ∃ x : Int, x = M1 98 (x5 : Int).toNat := ⟨_, rfl⟩
  rw [← hx6]
  have hx6r : qin x6 := by rw [hx6]; exact hCM1.sin _
  show zG n (0, 0) d 238 (18, [.inr (.inr (some 97)), .inl a1, zN], [.inl x6]) M1 _
  refine zG_w (c' := (29, [.inr (.inr (some 97)), .inl a1, .inl x6], [.inl a1, .inr (.inr (some 102)), .inl 0, .inr (.inr (some 108))])) 7 hd0 hz (by rfl) ?_
  refine zG_iald hd0 hz rfl rfl (.inl rfl) (by omega) ?_
  obtain ⟨x7, hx7⟩ : ∃ x : Int, x = M1 102 (a1 : Int).toNat := ⟨_, rfl⟩
  rw [← hx7]
  have hx7r : qin x7 := by rw [hx7]; exact hCM1.ra 102 _ (by decide) (by decide)
  show zG n (0, 0) d 238 (30, [.inr (.inr (some 97)), .inl a1, .inl x6], [.inl x7, .inl 0, .inr (.inr (some 108))]) M1 _
  refine zG_w (c' := (31, [.inr (.inr (some 97)), .inl a1, .inl x6], [.inr (.inl (x7)), .inl 0, .inr (.inr (some 108))])) 1 hd0 hz (by rfl) ?_
  refine zG_last hd0 hz rfl rfl (by omega) ?_
  obtain ⟨M8, hM8⟩ : ∃ X : zM, X = zput M1 108 (0 : Int).toNat x7 := ⟨_, rfl⟩
  rw [← hM8]
  have hCM8 : qMI M8 := by rw [hM8]; exact hCM1.put (by decide) (qCd_a (by decide) (by decide)) qMC_108
  have hWM8 : qFm [108, 1020] M M8 := by rw [hM8]; exact hWM1.pa (by decide) (by decide)
  have e9 : M8 97 20 = M1 97 20 := by rw [hM8]; exact qput_ne (by decide)
  show zG n (0, 0) d 238 (32, [.inr (.inr (some 97)), .inl a1, .inl x6], []) M8 _
  refine zG_w (c' := (42, [.inr (.inr (some 97)), .inl a1, .inl x6], [.inl a1, .inr (.inr (some 103)), .inl 1, .inr (.inr (some 108))])) 6 hd0 hz (by rfl) ?_
  refine zG_iald hd0 hz rfl rfl (.inl rfl) (by omega) ?_
  obtain ⟨x10, hx10⟩ : ∃ x : Int, x = M8 103 (a1 : Int).toNat := ⟨_, rfl⟩
  rw [← hx10]
  have hx10r : qin x10 := by rw [hx10]; exact hCM8.ra 103 _ (by decide) (by decide)
  show zG n (0, 0) d 238 (43, [.inr (.inr (some 97)), .inl a1, .inl x6], [.inl x10, .inl 1, .inr (.inr (some 108))]) M8 _
  refine zG_w (c' := (44, [.inr (.inr (some 97)), .inl a1, .inl x6], [.inr (.inl (x10)), .inl 1, .inr (.inr (some 108))])) 1 hd0 hz (by rfl) ?_
  refine zG_last hd0 hz rfl rfl (by omega) ?_
  obtain ⟨M11, hM11⟩ : ∃ X : zM, X = zput M8 108 (1 : Int).toNat x10 := ⟨_, rfl⟩
  rw [← hM11]
  have hCM11 : qMI M11 := by rw [hM11]; exact hCM8.put (by decide) (qCd_a (by decide) (by decide)) qMC_108
  have hWM11 : qFm [108, 1020] M M11 := by rw [hM11]; exact hWM8.pa (by decide) (by decide)
  have e12 : M11 97 20 = M8 97 20 := by rw [hM11]; exact qput_ne (by decide)
  show zG n (0, 0) d 238 (45, [.inr (.inr (some 97)), .inl a1, .inl x6], []) M11 _
  refine zG_w (c' := (55, [.inr (.inr (some 97)), .inl a1, .inl x6], [.inl a1, .inr (.inr (some 104)), .inl 2, .inr (.inr (some 108))])) 6 hd0 hz (by rfl) ?_
  refine zG_iald hd0 hz rfl rfl (.inl rfl) (by omega) ?_
  obtain ⟨x13, hx13⟩ : ∃ x : Int, x = M11 104 (a1 : Int).toNat := ⟨_, rfl⟩
  rw [← hx13]
  have hx13r : qin x13 := by rw [hx13]; exact hCM11.ra 104 _ (by decide) (by decide)
  show zG n (0, 0) d 238 (56, [.inr (.inr (some 97)), .inl a1, .inl x6], [.inl x13, .inl 2, .inr (.inr (some 108))]) M11 _
  refine zG_w (c' := (57, [.inr (.inr (some 97)), .inl a1, .inl x6], [.inr (.inl (x13)), .inl 2, .inr (.inr (some 108))])) 1 hd0 hz (by rfl) ?_
  refine zG_last hd0 hz rfl rfl (by omega) ?_
  obtain ⟨M14, hM14⟩ : ∃ X : zM, X = zput M11 108 (2 : Int).toNat x13 := ⟨_, rfl⟩
  rw [← hM14]
  have hCM14 : qMI M14 := by rw [hM14]; exact hCM11.put (by decide) (qCd_a (by decide) (by decide)) qMC_108
  have hWM14 : qFm [108, 1020] M M14 := by rw [hM14]; exact hWM11.pa (by decide) (by decide)
  have e15 : M14 97 20 = M11 97 20 := by rw [hM14]; exact qput_ne (by decide)
  show zG n (0, 0) d 238 (58, [.inr (.inr (some 97)), .inl a1, .inl x6], []) M14 _
  have r16 := hCM14.rg 97 21 (by decide) (by decide)
  obtain ⟨x17, hx17⟩ : ∃ x : Int, x = zbxor (M14 97 21) (-1) := ⟨_, rfl⟩
  have hx17r : qin x17 := by rw [hx17]; exact qb32 _
  obtain ⟨x18, hx18⟩ : ∃ x : Int, x = zband x6 x17 := ⟨_, rfl⟩
  have hx18r : qin x18 := by rw [hx18]; exact qb32 _
  refine zG_w (c' := (71, [.inr (.inr (some 97)), .inl a1, .inl x6], [.inl x18, .inl 3, .inr (.inr (some 108))])) 9 hd0 hz (by subst hx18; subst hx17; rfl) ?_
  have j79 : ∀ (v19 : Int) , zG n (0, 0) d 238 (79, [.inr (.inr (some 97)), .inl a1, .inl x6], [.inr (.inl (v19)), .inl 3, .inr (.inr (some 108))]) M14 (fun v M' => (qMI M' ∧ qFm [108, 1020] M M') ∧ v = none) := by
    intro v19
    refine zG_last hd0 hz rfl rfl (by omega) ?_
    obtain ⟨M20, hM20⟩ : ∃ X : zM, X = zput M14 108 (3 : Int).toNat v19 := ⟨_, rfl⟩
    rw [← hM20]
    have hCM20 : qMI M20 := by rw [hM20]; exact hCM14.put (by decide) (qCd_a (by decide) (by decide)) qMC_108
    have hWM20 : qFm [108, 1020] M M20 := by rw [hM20]; exact hWM14.pa (by decide) (by decide)
    have e21 : M20 97 20 = M14 97 20 := by rw [hM20]; exact qput_ne (by decide)
    have e22 : M20 97 21 = M14 97 21 := by rw [hM20]; exact qput_ne (by decide)
    show zG n (0, 0) d 238 (80, [.inr (.inr (some 97)), .inl a1, .inl x6], []) M20 _
    refine zG_w (c' := (87, [.inr (.inr (some 97)), .inl a1, .inl x6], [.inr (.inl (a1)), .inl 4, .inr (.inr (some 108))])) 5 hd0 hz (by rfl) ?_
    refine zG_last hd0 hz rfl rfl (by omega) ?_
    obtain ⟨M23, hM23⟩ : ∃ X : zM, X = zput M20 108 (4 : Int).toNat a1 := ⟨_, rfl⟩
    rw [← hM23]
    have hCM23 : qMI M23 := by rw [hM23]; exact hCM20.put (by decide) (qCd_a (by decide) (by decide)) qMC_108
    have hWM23 : qFm [108, 1020] M M23 := by rw [hM23]; exact hWM20.pa (by decide) (by decide)
    have e24 : M23 97 20 = M20 97 20 := by rw [hM23]; exact qput_ne (by decide)
    have e25 : M23 97 21 = M20 97 21 := by rw [hM23]; exact qput_ne (by decide)
    show zG n (0, 0) d 238 (88, [.inr (.inr (some 97)), .inl a1, .inl x6], []) M23 _
    refine zG_w (c' := (94, [.inr (.inr (some 97)), .inl a1, .inl x6], [.inr (.inl (0)), .inl 5, .inr (.inr (some 108))])) 4 hd0 hz (by rfl) ?_
    refine zG_last hd0 hz rfl rfl (by omega) ?_
    obtain ⟨M26, hM26⟩ : ∃ X : zM, X = zput M23 108 (5 : Int).toNat 0 := ⟨_, rfl⟩
    rw [← hM26]
    have hCM26 : qMI M26 := by rw [hM26]; exact hCM23.put (by decide) (qCd_a (by decide) (by decide)) qMC_108
    have hWM26 : qFm [108, 1020] M M26 := by rw [hM26]; exact hWM23.pa (by decide) (by decide)
    have e27 : M26 97 20 = M23 97 20 := by rw [hM26]; exact qput_ne (by decide)
    have e28 : M26 97 21 = M23 97 21 := by rw [hM26]; exact qput_ne (by decide)
    show zG n (0, 0) d 238 (95, [.inr (.inr (some 97)), .inl a1, .inl x6], []) M26 _
    refine zG_w (c' := (102, [.inr (.inr (some 97)), .inl a1, .inl x6], [.inr (.inl (0)), .inl 6, .inr (.inr (some 108))])) 4 hd0 hz (by rfl) ?_
    refine zG_last hd0 hz rfl rfl (by omega) ?_
    obtain ⟨M29, hM29⟩ : ∃ X : zM, X = zput M26 108 (6 : Int).toNat 0 := ⟨_, rfl⟩
    rw [← hM29]
    have hCM29 : qMI M29 := by rw [hM29]; exact hCM26.put (by decide) (qCd_a (by decide) (by decide)) qMC_108
    have hWM29 : qFm [108, 1020] M M29 := by rw [hM29]; exact hWM26.pa (by decide) (by decide)
    have e30 : M29 97 20 = M26 97 20 := by rw [hM29]; exact qput_ne (by decide)
    have e31 : M29 97 21 = M26 97 21 := by rw [hM29]; exact qput_ne (by decide)
    show zG n (0, 0) d 238 (103, [.inr (.inr (some 97)), .inl a1, .inl x6], []) M29 _
    refine zG_w (c' := (110, [.inr (.inr (some 97)), .inl a1, .inl x6], [.inr (.inl (0)), .inl 7, .inr (.inr (some 108))])) 4 hd0 hz (by rfl) ?_
    refine zG_last hd0 hz rfl rfl (by omega) ?_
    obtain ⟨M32, hM32⟩ : ∃ X : zM, X = zput M29 108 (7 : Int).toNat 0 := ⟨_, rfl⟩
    rw [← hM32]
    have hCM32 : qMI M32 := by rw [hM32]; exact hCM29.put (by decide) (qCd_a (by decide) (by decide)) qMC_108
    have hWM32 : qFm [108, 1020] M M32 := by rw [hM32]; exact hWM29.pa (by decide) (by decide)
    have e33 : M32 97 20 = M29 97 20 := by rw [hM32]; exact qput_ne (by decide)
    have e34 : M32 97 21 = M29 97 21 := by rw [hM32]; exact qput_ne (by decide)
    show zG n (0, 0) d 238 (111, [.inr (.inr (some 97)), .inl a1, .inl x6], []) M32 _
    exact zG_wr (r := none) 0 hd0 hz (by rfl) ⟨⟨hCM32, hWM32⟩, rfl⟩
  refine zG_wf_ne (pc := 71) (n' := 74) (t := 78) (L := [.inr (.inr (some 97)), .inl a1, .inl x6]) (st := [.inl 3, .inr (.inr (some 108))]) (x := x18) 0 hd0 hz (by rfl) (fun hb35 => ?_) (fun hb35 => ?_)
  · refine zG_w (c' := (79, [.inr (.inr (some 97)), .inl a1, .inl x6], [.inr (.inl (0)), .inl 3, .inr (.inr (some 108))])) 1 hd0 hz (by rfl) ?_
    exact j79 0
  · refine zG_w (c' := (79, [.inr (.inr (some 97)), .inl a1, .inl x6], [.inr (.inl (1)), .inl 3, .inr (.inr (some 108))])) 2 hd0 hz (by rfl) ?_
    exact j79 1
theorem qm_239_97 {n d : Nat} {M : zM} (hd : 1 ≤ d) (hC : qMI M)   : qOkN n d 239 [.inr (.inr (some 97))] 2 [108, 1020] M (fun v M' => v = none) := by
  have hz := zp_239
  have hd0 : 0 < d := by omega
  have hW : qFm [108, 1020] M M := qFm.rfl
  show zG n (0, 0) d 239 (0, [.inr (.inr (some 97)), zN], []) M _
  refine zG_w (c' := (2, [.inr (.inr (some 97)), zN], [.inl 1, .inr (.inr (some 97))])) 2 hd0 hz (by rfl) ?_
  refine zG_putf (.inr ⟨rfl, by omega⟩) hd0 hz rfl (by decide) rfl rfl ?_
  obtain ⟨M1, hM1⟩ : ∃ X : zM, X = zput M 97 20 1 := ⟨_, rfl⟩
  rw [← hM1]
  have hCM1 : qMI M1 := by rw [hM1]; exact hC.put (by decide) (by decide) (by first | exact qMC_97 (by decide) (fun _ => by omega) | (refine ⟨fun _ => ?_, fun _ => ?_, fun h => ⟨fun _ => ?_, fun _ => ?_, fun _ => ?_, fun _ => ?_, fun _ => ?_⟩, fun h => ?_, fun h => ?_⟩ <;> first | omega | exact absurd rfl (by assumption) | (rename_i h9; exact absurd h9 (by decide))))
  have hWM1 : qFm [108, 1020] M M1 := by rw [hM1]; exact hW.put (by decide)
  have e2 : M1 97 20 = 1 := by rw [hM1]; exact qput_eq
  show zG n (0, 0) d 239 (5, [.inr (.inr (some 97)), zN], []) M1 _
  refine zG_w (c' := (13, [.inr (.inr (some 97)), zN], [.inr (.inl ((-1))), .inl 0, .inr (.inr (some 108))])) 4 hd0 hz (by rfl) ?_
  refine zG_last hd0 hz rfl rfl (by omega) ?_
  obtain ⟨M3, hM3⟩ : ∃ X : zM, X = zput M1 108 (0 : Int).toNat (-1) := ⟨_, rfl⟩
  rw [← hM3]
  have hCM3 : qMI M3 := by rw [hM3]; exact hCM1.put (by decide) (qCd_a (by decide) (by decide)) qMC_108
  have hWM3 : qFm [108, 1020] M M3 := by rw [hM3]; exact hWM1.pa (by decide) (by decide)
  have e4 : M3 97 20 = M1 97 20 := by rw [hM3]; exact qput_ne (by decide)
  show zG n (0, 0) d 239 (14, [.inr (.inr (some 97)), zN], []) M3 _
  refine zG_w (c' := (16, [.inr (.inr (some 97)), .inl 1], [])) 2 hd0 hz (by rfl) ?_
  have j16 : ∀ (N : Nat) (v5 : Int) (M6 : zM) , (5 - v5 : Int).toNat < N → 1 ≤ v5 ∧ v5 ≤ 5 → qMI M6 → qFm [108, 1020] M M6 → zG n (0, 0) d 239 (16, [.inr (.inr (some 97)), .inl v5], []) M6 (fun v M' => (qMI M' ∧ qFm [108, 1020] M M') ∧ v = none) := by
    intro N
    induction N with
    | zero => intro v5 M6 hN hv5 hCM6 hWM6; exact absurd hN (Nat.not_lt_zero _)
    | succ N ih16 =>
      intro v5 M6 hN hv5 hCM6 hWM6
      replace hN : 5 - v5 < (N : Int) + 1 := by omega
      refine zG_wi_ge (pc := 18) (n' := 21) (t := 34) (L := [.inr (.inr (some 97)), .inl v5]) (st := []) (x := v5) (y := 5) 2 hd0 hz (by rfl) (fun hb7 => ?_) (fun hb7 => ?_)
      · refine zG_w (c' := (43, [.inr (.inr (some 97)), .inl v5], [.inr (.inl (M6 97 22)), .inl 5, .inr (.inr (some 108))])) 5 hd0 hz (by rfl) ?_
        refine zG_last hd0 hz rfl rfl (by omega) ?_
        obtain ⟨M8, hM8⟩ : ∃ X : zM, X = zput M6 108 (5 : Int).toNat (M6 97 22) := ⟨_, rfl⟩
        rw [← hM8]
        have hCM8 : qMI M8 := by rw [hM8]; exact hCM6.put (by decide) (qCd_a (by decide) (by decide)) qMC_108
        have hWM8 : qFm [108, 1020] M M8 := by rw [hM8]; exact hWM6.pa (by decide) (by decide)
        show zG n (0, 0) d 239 (44, [.inr (.inr (some 97)), .inl v5], []) M8 _
        have r9 := hCM8.rg 97 19 (by decide) (by decide)
        obtain ⟨x10, hx10⟩ : ∃ x : Int, x = w64 ((M8 97 23) + (M8 97 19)) := ⟨_, rfl⟩
        refine zG_w (c' := (60, [.inr (.inr (some 97)), .inl v5], [.inr (.inl (x10)), .inl 6, .inr (.inr (some 108))])) 9 hd0 hz (by subst hx10; rfl) ?_
        refine zG_last hd0 hz rfl rfl (by omega) ?_
        obtain ⟨M11, hM11⟩ : ∃ X : zM, X = zput M8 108 (6 : Int).toNat x10 := ⟨_, rfl⟩
        rw [← hM11]
        have hCM11 : qMI M11 := by rw [hM11]; exact hCM8.put (by decide) (qCd_a (by decide) (by decide)) qMC_108
        have hWM11 : qFm [108, 1020] M M11 := by rw [hM11]; exact hWM8.pa (by decide) (by decide)
        have e12 : M11 97 19 = M8 97 19 := by rw [hM11]; exact qput_ne (by decide)
        show zG n (0, 0) d 239 (61, [.inr (.inr (some 97)), .inl v5], []) M11 _
        have r13 := hCM11.f18
        refine zG_w (c' := (72, [.inr (.inr (some 97)), .inl v5], [.inr (.inl ((M11 97 18))), .inl 7, .inr (.inr (some 108))])) 6 hd0 hz (by rfl) ?_
        refine zG_last hd0 hz rfl rfl (by omega) ?_
        obtain ⟨M14, hM14⟩ : ∃ X : zM, X = zput M11 108 (7 : Int).toNat (M11 97 18) := ⟨_, rfl⟩
        rw [← hM14]
        have hCM14 : qMI M14 := by rw [hM14]; exact hCM11.put (by decide) (qCd_a (by decide) (by decide)) qMC_108
        have hWM14 : qFm [108, 1020] M M14 := by rw [hM14]; exact hWM11.pa (by decide) (by decide)
        have e15 : M14 97 19 = M11 97 19 := by rw [hM14]; exact qput_ne (by decide)
        have e16 : M14 97 18 = M11 97 18 := by rw [hM14]; exact qput_ne (by decide)
        show zG n (0, 0) d 239 (73, [.inr (.inr (some 97)), .inl v5], []) M14 _
        exact zG_wr (r := none) 0 hd0 hz (by rfl) ⟨⟨hCM14, hWM14⟩, rfl⟩
      · refine zG_w (c' := (27, [.inr (.inr (some 97)), .inl v5], [.inr (.inl (0)), .inl v5, .inr (.inr (some 108))])) 4 hd0 hz (by rfl) ?_
        refine zG_last hd0 hz rfl rfl (by omega) ?_
        obtain ⟨M17, hM17⟩ : ∃ X : zM, X = zput M6 108 (v5 : Int).toNat 0 := ⟨_, rfl⟩
        rw [← hM17]
        have hCM17 : qMI M17 := by rw [hM17]; exact hCM6.put (by decide) (qCd_a (by decide) (by decide)) qMC_108
        have hWM17 : qFm [108, 1020] M M17 := by rw [hM17]; exact hWM6.pa (by decide) (by decide)
        show zG n (0, 0) d 239 (28, [.inr (.inr (some 97)), .inl v5], []) M17 _
        obtain ⟨x18, hx18⟩ : ∃ x : Int, x = w32 (v5 + 1) := ⟨_, rfl⟩
        have hx18e : x18 = v5 + 1 := by rw [hx18]; exact w32_id (by omega)
        refine zG_w (c' := (16, [.inr (.inr (some 97)), .inl x18], [])) 2 hd0 hz (by subst hx18; rfl) ?_
        exact ih16 x18 M17 (by omega) (by omega) hCM17 hWM17
  exact j16 ((5 - 1 : Int).toNat + 1) 1 M3 (by omega) (by omega) hCM3 hWM3
set_option maxRecDepth 100000 in
theorem qm_240_97 {n d : Nat} {M : zM} (hd : 7 ≤ d) (hC : qMI M)  (a1 : Int) (ha1 : 0 ≤ a1 ∧ a1 ≤ 19) (a2 : Int) (ha2 : (-2147483648) ≤ a2 ∧ a2 ≤ 2147483647) : qOkN n d 240 [.inr (.inr (some 97)), .inl a1, .inl a2] 7 [102, 103, 104, 105, 106, 107, 108, 109, 110, 1007, 1010, 1012, 1013, 1016, 1018, 1019, 1020, 1021, 1022, 1023] M (fun v M' => v = none) := by
  have hz := zp_240
  have hd0 : 0 < d := by omega
  have hW : qFm [102, 103, 104, 105, 106, 107, 108, 109, 110, 1007, 1010, 1012, 1013, 1016, 1018, 1019, 1020, 1021, 1022, 1023] M M := qFm.rfl
  have r1 := hC.cnt0
  show zG n (0, 0) d 240 (0, [.inr (.inr (some 97)), .inl a1, .inl a2, zN, zN, zN, zN], []) M _
  refine zG_wv (pc := 5) (L := [.inr (.inr (some 97)), .inl a1, .inl a2, zN, zN, zN, zN]) (st := []) 2 hd0 hz zp_218 (qm_218_97 (by first | exact zdk hd rfl | omega) hC   a1 (by first | with_reducible exact ha1 | omega) ) (by rfl) (fun M2 hr => ?_)
  obtain ⟨hCM2, hFM2⟩ := hr
  have hWM2 : qFm [102, 103, 104, 105, 106, 107, 108, 109, 110, 1007, 1010, 1012, 1013, 1016, 1018, 1019, 1020, 1021, 1022, 1023] M M2 := hW.tr hFM2 (by decide)
  have e4 : M2 98 0 = M 98 0 := hFM2 98 0 (by decide)
  refine zG_w (c' := (7, [.inr (.inr (some 97)), .inl a1, .inl a2, zN, zN, zN, zN], [.inl 0, .inr (.inr (some 97))])) 2 hd0 hz (by rfl) ?_
  refine zG_putf (.inl rfl) hd0 hz rfl (by decide) rfl rfl ?_
  obtain ⟨M5, hM5⟩ : ∃ X : zM, X = zput M2 97 19 0 := ⟨_, rfl⟩
  rw [← hM5]
  have hCM5 : qMI M5 := by rw [hM5]; exact hCM2.put (by decide) (by decide) (by first | exact qMC_97 (by decide) (fun _ => by omega) | (refine ⟨fun _ => ?_, fun _ => ?_, fun h => ⟨fun _ => ?_, fun _ => ?_, fun _ => ?_, fun _ => ?_, fun _ => ?_⟩, fun h => ?_, fun h => ?_⟩ <;> first | omega | exact absurd rfl (by assumption) | (rename_i h9; exact absurd h9 (by decide))))
  have hWM5 : qFm [102, 103, 104, 105, 106, 107, 108, 109, 110, 1007, 1010, 1012, 1013, 1016, 1018, 1019, 1020, 1021, 1022, 1023] M M5 := by rw [hM5]; exact hWM2.put (by decide)
  have e6 : M5 98 0 = M2 98 0 := by rw [hM5]; exact qput_ne (by decide)
  have e7 : M5 97 19 = 0 := by rw [hM5]; exact qput_eq
  show zG n (0, 0) d 240 (10, [.inr (.inr (some 97)), .inl a1, .inl a2, zN, zN, zN, zN], []) M5 _
  refine zG_w (c' := (12, [.inr (.inr (some 97)), .inl a1, .inl a2, zN, zN, zN, zN], [.inl 0, .inr (.inr (some 97))])) 2 hd0 hz (by rfl) ?_
  refine zG_putf (.inl rfl) hd0 hz rfl (by decide) rfl rfl ?_
  obtain ⟨M8, hM8⟩ : ∃ X : zM, X = zput M5 97 21 0 := ⟨_, rfl⟩
  rw [← hM8]
  have hCM8 : qMI M8 := by rw [hM8]; exact hCM5.put (by decide) (by decide) (by first | exact qMC_97 (by decide) (fun _ => by omega) | (refine ⟨fun _ => ?_, fun _ => ?_, fun h => ⟨fun _ => ?_, fun _ => ?_, fun _ => ?_, fun _ => ?_, fun _ => ?_⟩, fun h => ?_, fun h => ?_⟩ <;> first | omega | exact absurd rfl (by assumption) | (rename_i h9; exact absurd h9 (by decide))))
  have hWM8 : qFm [102, 103, 104, 105, 106, 107, 108, 109, 110, 1007, 1010, 1012, 1013, 1016, 1018, 1019, 1020, 1021, 1022, 1023] M M8 := by rw [hM8]; exact hWM5.put (by decide)
  have e9 : M8 98 0 = M5 98 0 := by rw [hM8]; exact qput_ne (by decide)
  have e10 : M8 97 19 = M5 97 19 := by rw [hM8]; exact qput_nk (by decide)
  have e11 : M8 97 21 = 0 := by rw [hM8]; exact qput_eq
  show zG n (0, 0) d 240 (15, [.inr (.inr (some 97)), .inl a1, .inl a2, zN, zN, zN, zN], []) M8 _
  refine zG_wp (pc := 21) (L := [.inr (.inr (some 97)), .inl a1, .inl a2, zN, zN, zN, zN]) (st := []) 3 hd0 hz zp_237 (qm_237_97 (by first | exact zdk hd rfl | omega) hCM8   a1 (by first | with_reducible exact ha1 | omega) a2 (by first | with_reducible exact ha2 | omega) ) (by rfl) (fun x13 hx13 => ?_)
  refine zG_w (c' := (24, [.inr (.inr (some 97)), .inl a1, .inl a2, .inl x13, zN, zN, zN], [.inl (-1), .inl x13])) 3 hd0 hz (by rfl) ?_
  have j41 : ∀ (M14 : zM) , qMI M14 → qFm [102, 103, 104, 105, 106, 107, 108, 109, 110, 1007, 1010, 1012, 1013, 1016, 1018, 1019, 1020, 1021, 1022, 1023] M M14 → zG n (0, 0) d 240 (41, [.inr (.inr (some 97)), .inl a1, .inl a2, .inl x13, zN, zN, zN], []) M14 (fun v M' => (qMI M' ∧ qFm [102, 103, 104, 105, 106, 107, 108, 109, 110, 1007, 1010, 1012, 1013, 1016, 1018, 1019, 1020, 1021, 1022, 1023] M M') ∧ v = none) := by
    intro M14 hCM14 hWM14
    have e15 : M14 98 0 = M 98 0 := hWM14 98 0 (by decide)
    refine zG_w (c' := (44, [.inr (.inr (some 97)), .inl a1, .inl a2, .inl x13, .inl 0, zN, zN], [])) 2 hd0 hz (by rfl) ?_
    have j44 : ∀ (N : Nat) (v16 : Int) (M17 : zM) , (14 - v16 : Int).toNat < N → 0 ≤ v16 ∧ v16 ≤ 14 → qMI M17 → qFm [102, 103, 104, 105, 106, 107, 108, 109, 110, 1007, 1010, 1012, 1013, 1016, 1018, 1019, 1020, 1021, 1022, 1023] M M17 → zG n (0, 0) d 240 (44, [.inr (.inr (some 97)), .inl a1, .inl a2, .inl x13, .inl v16, zN, zN], []) M17 (fun v M' => (qMI M' ∧ qFm [102, 103, 104, 105, 106, 107, 108, 109, 110, 1007, 1010, 1012, 1013, 1016, 1018, 1019, 1020, 1021, 1022, 1023] M M') ∧ v = none) := by
      intro N
      induction N with
      | zero => intro v16 M17 hN hv16 hCM17 hWM17; exact absurd hN (Nat.not_lt_zero _)
      | succ N ih44 =>
        intro v16 M17 hN hv16 hCM17 hWM17
        replace hN : 14 - v16 < (N : Int) + 1 := by omega
        have e18 : M17 98 0 = M 98 0 := hWM17 98 0 (by decide)
        refine zG_w (c' := (51, [.inr (.inr (some 97)), .inl a1, .inl a2, .inl x13, .inl v16, zN, zN], [.inl 0, .inr (.inr (some 98)), .inl v16])) 4 hd0 hz (by rfl) ?_
        refine zG_iald hd0 hz rfl rfl (.inl rfl) (by omega) ?_
        show zG n (0, 0) d 240 (52, [.inr (.inr (some 97)), .inl a1, .inl a2, .inl x13, .inl v16, zN, zN], [.inl (M17 98 0), .inl v16]) M17 _
        refine zG_wi_ge (pc := 52) (n' := 55) (t := 141) (L := [.inr (.inr (some 97)), .inl a1, .inl a2, .inl x13, .inl v16, zN, zN]) (st := []) (x := v16) (y := (M17 98 0)) 0 hd0 hz (by rfl) (fun hb19 => ?_) (fun hb19 => ?_)
        · refine zG_w (c' := (143, [.inr (.inr (some 97)), .inl a1, .inl a2, .inl x13, .inl v16, zN, zN], [.inr (.inl (0)), .inr (.inr (some 97))])) 2 hd0 hz (by rfl) ?_
          refine zG_putj hd0 hz rfl (by decide) rfl rfl ?_
          obtain ⟨M20, hM20⟩ : ∃ X : zM, X = zput M17 97 22 0 := ⟨_, rfl⟩
          rw [← hM20]
          have hCM20 : qMI M20 := by rw [hM20]; exact hCM17.put (by decide) (by decide) (by first | exact qMC_97 (by decide) (fun _ => by omega) | (refine ⟨fun _ => ?_, fun _ => ?_, fun h => ⟨fun _ => ?_, fun _ => ?_, fun _ => ?_, fun _ => ?_, fun _ => ?_⟩, fun h => ?_, fun h => ?_⟩ <;> first | omega | exact absurd rfl (by assumption) | (rename_i h9; exact absurd h9 (by decide))))
          have hWM20 : qFm [102, 103, 104, 105, 106, 107, 108, 109, 110, 1007, 1010, 1012, 1013, 1016, 1018, 1019, 1020, 1021, 1022, 1023] M M20 := by rw [hM20]; exact hWM17.put (by decide)
          have e21 : M20 98 0 = M17 98 0 := by rw [hM20]; exact qput_ne (by decide)
          show zG n (0, 0) d 240 (146, [.inr (.inr (some 97)), .inl a1, .inl a2, .inl x13, .inl v16, zN, zN], []) M20 _
          refine zG_w (c' := (148, [.inr (.inr (some 97)), .inl a1, .inl a2, .inl x13, .inl v16, zN, zN], [.inr (.inl (0)), .inr (.inr (some 97))])) 2 hd0 hz (by rfl) ?_
          refine zG_putj hd0 hz rfl (by decide) rfl rfl ?_
          obtain ⟨M22, hM22⟩ : ∃ X : zM, X = zput M20 97 23 0 := ⟨_, rfl⟩
          rw [← hM22]
          have hCM22 : qMI M22 := by rw [hM22]; exact hCM20.put (by decide) (by decide) (by first | exact qMC_97 (by decide) (fun _ => by omega) | (refine ⟨fun _ => ?_, fun _ => ?_, fun h => ⟨fun _ => ?_, fun _ => ?_, fun _ => ?_, fun _ => ?_, fun _ => ?_⟩, fun h => ?_, fun h => ?_⟩ <;> first | omega | exact absurd rfl (by assumption) | (rename_i h9; exact absurd h9 (by decide))))
          have hWM22 : qFm [102, 103, 104, 105, 106, 107, 108, 109, 110, 1007, 1010, 1012, 1013, 1016, 1018, 1019, 1020, 1021, 1022, 1023] M M22 := by rw [hM22]; exact hWM20.put (by decide)
          have e23 : M22 98 0 = M20 98 0 := by rw [hM22]; exact qput_ne (by decide)
          show zG n (0, 0) d 240 (151, [.inr (.inr (some 97)), .inl a1, .inl a2, .inl x13, .inl v16, zN, zN], []) M22 _
          refine zG_w (c' := (153, [.inr (.inr (some 97)), .inl a1, .inl a2, .inl x13, .inl v16, zN, zN], [.inl 0, .inr (.inr (some 97))])) 2 hd0 hz (by rfl) ?_
          refine zG_putf (.inl rfl) hd0 hz rfl (by decide) rfl rfl ?_
          obtain ⟨M24, hM24⟩ : ∃ X : zM, X = zput M22 97 18 0 := ⟨_, rfl⟩
          rw [← hM24]
          have hCM24 : qMI M24 := by rw [hM24]; exact hCM22.put (by decide) (by decide) (by first | exact qMC_97 (by decide) (fun _ => by omega) | (refine ⟨fun _ => ?_, fun _ => ?_, fun h => ⟨fun _ => ?_, fun _ => ?_, fun _ => ?_, fun _ => ?_, fun _ => ?_⟩, fun h => ?_, fun h => ?_⟩ <;> first | omega | exact absurd rfl (by assumption) | (rename_i h9; exact absurd h9 (by decide))))
          have hWM24 : qFm [102, 103, 104, 105, 106, 107, 108, 109, 110, 1007, 1010, 1012, 1013, 1016, 1018, 1019, 1020, 1021, 1022, 1023] M M24 := by rw [hM24]; exact hWM22.put (by decide)
          have e25 : M24 98 0 = M22 98 0 := by rw [hM24]; exact qput_ne (by decide)
          have e26 : M24 97 18 = 0 := by rw [hM24]; exact qput_eq
          show zG n (0, 0) d 240 (156, [.inr (.inr (some 97)), .inl a1, .inl a2, .inl x13, .inl v16, zN, zN], []) M24 _
          refine zG_w (c' := (159, [.inr (.inr (some 97)), .inl a1, .inl a2, .inl x13, .inl 0, zN, zN], [])) 2 hd0 hz (by rfl) ?_
          have j159 : ∀ (N : Nat) (v27 : Int) (M28 : zM) , (14 - v27 : Int).toNat < N → 0 ≤ v27 ∧ v27 ≤ 14 → (M28 97 18 ≤ v27) → qMI M28 → qFm [102, 103, 104, 105, 106, 107, 108, 109, 110, 1007, 1010, 1012, 1013, 1016, 1018, 1019, 1020, 1021, 1022, 1023] M M28 → zG n (0, 0) d 240 (159, [.inr (.inr (some 97)), .inl a1, .inl a2, .inl x13, .inl v27, zN, zN], []) M28 (fun v M' => (qMI M' ∧ qFm [102, 103, 104, 105, 106, 107, 108, 109, 110, 1007, 1010, 1012, 1013, 1016, 1018, 1019, 1020, 1021, 1022, 1023] M M') ∧ v = none) := by
            intro N
            induction N with
            | zero => intro v27 M28 hN hv27 hx0_159 hCM28 hWM28; exact absurd hN (Nat.not_lt_zero _)
            | succ N ih159 =>
              intro v27 M28 hN hv27 hx0_159 hCM28 hWM28
              replace hN : 14 - v27 < (N : Int) + 1 := by omega
              have e29 : M28 98 0 = M 98 0 := hWM28 98 0 (by decide)
              have r30 := hCM28.f18
              refine zG_w (c' := (166, [.inr (.inr (some 97)), .inl a1, .inl a2, .inl x13, .inl v27, zN, zN], [.inl 0, .inr (.inr (some 98)), .inl v27])) 4 hd0 hz (by rfl) ?_
              refine zG_iald hd0 hz rfl rfl (.inl rfl) (by omega) ?_
              show zG n (0, 0) d 240 (167, [.inr (.inr (some 97)), .inl a1, .inl a2, .inl x13, .inl v27, zN, zN], [.inl (M28 98 0), .inl v27]) M28 _
              refine zG_wi_ge (pc := 167) (n' := 170) (t := 326) (L := [.inr (.inr (some 97)), .inl a1, .inl a2, .inl x13, .inl v27, zN, zN]) (st := []) (x := v27) (y := (M28 98 0)) 0 hd0 hz (by rfl) (fun hb31 => ?_) (fun hb31 => ?_)
              · refine zG_w (c' := (332, [.inr (.inr (some 97)), .inl a1, .inl a2, .inl x13, .inl v27, zN, zN], [.inr (.inl (0)), .inr (.inl (M28 97 22)), .inr (.inr (some 97))])) 4 hd0 hz (by rfl) ?_
                have j353 : ∀ (v32 : Int) , zG n (0, 0) d 240 (353, [.inr (.inr (some 97)), .inl a1, .inl a2, .inl x13, .inl v27, zN, zN], [.inr (.inl (v32)), .inr (.inr (some 97))]) M28 (fun v M' => (qMI M' ∧ qFm [102, 103, 104, 105, 106, 107, 108, 109, 110, 1007, 1010, 1012, 1013, 1016, 1018, 1019, 1020, 1021, 1022, 1023] M M') ∧ v = none) := by
                  intro v32
                  refine zG_putj hd0 hz rfl (by decide) rfl rfl ?_
                  obtain ⟨M33, hM33⟩ : ∃ X : zM, X = zput M28 97 23 v32 := ⟨_, rfl⟩
                  rw [← hM33]
                  have hCM33 : qMI M33 := by rw [hM33]; exact hCM28.put (by decide) (by decide) (by first | exact qMC_97 (by decide) (fun _ => by omega) | (refine ⟨fun _ => ?_, fun _ => ?_, fun h => ⟨fun _ => ?_, fun _ => ?_, fun _ => ?_, fun _ => ?_, fun _ => ?_⟩, fun h => ?_, fun h => ?_⟩ <;> first | omega | exact absurd rfl (by assumption) | (rename_i h9; exact absurd h9 (by decide))))
                  have hWM33 : qFm [102, 103, 104, 105, 106, 107, 108, 109, 110, 1007, 1010, 1012, 1013, 1016, 1018, 1019, 1020, 1021, 1022, 1023] M M33 := by rw [hM33]; exact hWM28.put (by decide)
                  have e34 : M33 98 0 = M28 98 0 := by rw [hM33]; exact qput_ne (by decide)
                  have e35 : M33 97 18 = M28 97 18 := by rw [hM33]; exact qput_nk (by decide)
                  show zG n (0, 0) d 240 (356, [.inr (.inr (some 97)), .inl a1, .inl a2, .inl x13, .inl v27, zN, zN], []) M33 _
                  exact zG_wr (r := none) 0 hd0 hz (by rfl) ⟨⟨hCM33, hWM33⟩, rfl⟩
                refine zG_lc_ne hd0 hz rfl rfl (fun hb332 => ?_) (fun hb332 => ?_)
                · obtain ⟨x36, hx36⟩ : ∃ x : Int, x = w64 ((M28 97 23) * 100) := ⟨_, rfl⟩
                  refine zG_w (c' := (352, [.inr (.inr (some 97)), .inl a1, .inl a2, .inl x13, .inl v27, zN, zN], [.inr (.inl (M28 97 22)), .inr (.inl (x36)), .inr (.inr (some 97))])) 6 hd0 hz (by subst hx36; rfl) ?_
                  refine zG_ldiv hd0 hz rfl (by omega) ?_
                  generalize w64 (x36.tdiv (M28 97 22)) = x37
                  show zG n (0, 0) d 240 (353, [.inr (.inr (some 97)), .inl a1, .inl a2, .inl x13, .inl v27, zN, zN], [.inr (.inl (x37)), .inr (.inr (some 97))]) M28 _
                  exact j353 x37
                · refine zG_w (c' := (353, [.inr (.inr (some 97)), .inl a1, .inl a2, .inl x13, .inl v27, zN, zN], [.inr (.inl (0)), .inr (.inr (some 97))])) 2 hd0 hz (by rfl) ?_
                  exact j353 0
              · have r38 := hCM28.rg 97 21 (by decide) (by decide)
                obtain ⟨x39, hx39⟩ : ∃ x : Int, x = zbshr (M28 97 21) v27 := ⟨_, rfl⟩
                have hx39r : qin x39 := by rw [hx39]; exact qb32 _
                obtain ⟨x40, hx40⟩ : ∃ x : Int, x = zband x39 1 := ⟨_, rfl⟩
                have hx40r := qband_r x39 1 (by first | decide | omega) (by omega); rw [← hx40] at hx40r
                have hx40l : 0 ≤ x39 → x40 ≤ x39 := fun h9 => by rw [hx40]; exact (qband_l x39 1 ⟨h9, by omega⟩ (by omega)).2
                refine zG_w (c' := (180, [.inr (.inr (some 97)), .inl a1, .inl a2, .inl x13, .inl v27, zN, zN], [.inl 1, .inl x40])) 7 hd0 hz (by subst hx40; subst hx39; rfl) ?_
                have j320 : ∀ (M41 : zM) , (M41 97 18 ≤ v27 + 1) → qMI M41 → qFm [102, 103, 104, 105, 106, 107, 108, 109, 110, 1007, 1010, 1012, 1013, 1016, 1018, 1019, 1020, 1021, 1022, 1023] M M41 → zG n (0, 0) d 240 (320, [.inr (.inr (some 97)), .inl a1, .inl a2, .inl x13, .inl v27, zN, zN], []) M41 (fun v M' => (qMI M' ∧ qFm [102, 103, 104, 105, 106, 107, 108, 109, 110, 1007, 1010, 1012, 1013, 1016, 1018, 1019, 1020, 1021, 1022, 1023] M M') ∧ v = none) := by
                  intro M41 hx0_320 hCM41 hWM41
                  have e42 : M41 98 0 = M 98 0 := hWM41 98 0 (by decide)
                  have r43 := hCM41.f18
                  obtain ⟨x44, hx44⟩ : ∃ x : Int, x = w32 (v27 + 1) := ⟨_, rfl⟩
                  have hx44e : x44 = v27 + 1 := by rw [hx44]; exact w32_id (by omega)
                  refine zG_w (c' := (159, [.inr (.inr (some 97)), .inl a1, .inl a2, .inl x13, .inl x44, zN, zN], [])) 2 hd0 hz (by subst hx44; rfl) ?_
                  exact ih159 x44 M41 (by omega) (by omega) (by omega) hCM41 hWM41
                refine zG_wi_ne (pc := 180) (n' := 183) (t := 320) (L := [.inr (.inr (some 97)), .inl a1, .inl a2, .inl x13, .inl v27, zN, zN]) (st := []) (x := x40) (y := 1) 0 hd0 hz (by rfl) (fun hb45 => ?_) (fun hb45 => ?_)
                · exact j320 M28 (by omega) hCM28 hWM28
                · refine zG_w (c' := (189, [.inr (.inr (some 97)), .inl a1, .inl a2, .inl x13, .inl v27, zN, zN], [.inl v27, .inr (.inr (some 102))])) 3 hd0 hz (by rfl) ?_
                  refine zG_iald hd0 hz rfl rfl (.inl rfl) (by omega) ?_
                  obtain ⟨x46, hx46⟩ : ∃ x : Int, x = M28 102 (v27 : Int).toNat := ⟨_, rfl⟩
                  rw [← hx46]
                  have hx46r : qin x46 := by rw [hx46]; exact hCM28.ra 102 _ (by decide) (by decide)
                  show zG n (0, 0) d 240 (190, [.inr (.inr (some 97)), .inl a1, .inl a2, .inl x13, .inl v27, zN, zN], [.inl x46]) M28 _
                  have j204 : ∀ (v47 : Int) , (-2147483648) ≤ v47 ∧ v47 ≤ 2147483647 → zG n (0, 0) d 240 (204, [.inr (.inr (some 97)), .inl a1, .inl a2, .inl x13, .inl v27, zN, zN], [.inl v47]) M28 (fun v M' => (qMI M' ∧ qFm [102, 103, 104, 105, 106, 107, 108, 109, 110, 1007, 1010, 1012, 1013, 1016, 1018, 1019, 1020, 1021, 1022, 1023] M M') ∧ v = none) := by
                    intro v47 hv47
                    obtain ⟨x48, hx48⟩ : ∃ x : Int, x = w32 (4 * v27) := ⟨_, rfl⟩
                    have hx48e : x48 = 4 * v27 := by rw [hx48]; exact w32_id (by omega)
                    obtain ⟨x49, hx49⟩ : ∃ x : Int, x = w32 (20 + x48) := ⟨_, rfl⟩
                    have hx49e : x49 = 20 + x48 := by rw [hx49]; exact w32_id (by omega)
                    refine zG_w (c' := (222, [.inr (.inr (some 97)), .inl a1, .inl a2, .inl x13, .inl v27, .inl v47, zN], [.inl x49, .inr (.inr (some 98)), .inr (.inl (M28 97 22)), .inr (.inr (some 97))])) 11 hd0 hz (by subst hx49; subst hx48; rfl) ?_
                    refine zG_iald hd0 hz rfl rfl (.inl rfl) (by omega) ?_
                    obtain ⟨x50, hx50⟩ : ∃ x : Int, x = M28 98 (x49 : Int).toNat := ⟨_, rfl⟩
                    rw [← hx50]
                    have hx50r : qin x50 := by rw [hx50]; exact hCM28.sin _
                    show zG n (0, 0) d 240 (223, [.inr (.inr (some 97)), .inl a1, .inl a2, .inl x13, .inl v27, .inl v47, zN], [.inl x50, .inr (.inl (M28 97 22)), .inr (.inr (some 97))]) M28 _
                    obtain ⟨x51, hx51⟩ : ∃ x : Int, x = w64 ((M28 97 22) + x50) := ⟨_, rfl⟩
                    refine zG_w (c' := (225, [.inr (.inr (some 97)), .inl a1, .inl a2, .inl x13, .inl v27, .inl v47, zN], [.inr (.inl (x51)), .inr (.inr (some 97))])) 2 hd0 hz (by subst hx51; rfl) ?_
                    refine zG_putj hd0 hz rfl (by decide) rfl rfl ?_
                    obtain ⟨M52, hM52⟩ : ∃ X : zM, X = zput M28 97 22 x51 := ⟨_, rfl⟩
                    rw [← hM52]
                    have hCM52 : qMI M52 := by rw [hM52]; exact hCM28.put (by decide) (by decide) (by first | exact qMC_97 (by decide) (fun _ => by omega) | (refine ⟨fun _ => ?_, fun _ => ?_, fun h => ⟨fun _ => ?_, fun _ => ?_, fun _ => ?_, fun _ => ?_, fun _ => ?_⟩, fun h => ?_, fun h => ?_⟩ <;> first | omega | exact absurd rfl (by assumption) | (rename_i h9; exact absurd h9 (by decide))))
                    have hWM52 : qFm [102, 103, 104, 105, 106, 107, 108, 109, 110, 1007, 1010, 1012, 1013, 1016, 1018, 1019, 1020, 1021, 1022, 1023] M M52 := by rw [hM52]; exact hWM28.put (by decide)
                    have e53 : M52 98 0 = M28 98 0 := by rw [hM52]; exact qput_ne (by decide)
                    have e54 : M52 97 18 = M28 97 18 := by rw [hM52]; exact qput_nk (by decide)
                    have e55 : M52 97 21 = M28 97 21 := by rw [hM52]; exact qput_nk (by decide)
                    show zG n (0, 0) d 240 (228, [.inr (.inr (some 97)), .inl a1, .inl a2, .inl x13, .inl v27, .inl v47, zN], []) M52 _
                    obtain ⟨x56, hx56⟩ : ∃ x : Int, x = w32 (4 * v27) := ⟨_, rfl⟩
                    have hx56e : x56 = 4 * v27 := by rw [hx56]; exact w32_id (by omega)
                    obtain ⟨x57, hx57⟩ : ∃ x : Int, x = w32 (20 + x56) := ⟨_, rfl⟩
                    have hx57e : x57 = 20 + x56 := by rw [hx57]; exact w32_id (by omega)
                    refine zG_w (c' := (247, [.inr (.inr (some 97)), .inl a1, .inl a2, .inl x13, .inl v27, .inl v47, zN], [.inl x57, .inr (.inr (some 98)), .inr (.inl (v47)), .inr (.inl (M52 97 23)), .inr (.inr (some 97))])) 12 hd0 hz (by subst hx57; subst hx56; rfl) ?_
                    refine zG_iald hd0 hz rfl rfl (.inl rfl) (by omega) ?_
                    obtain ⟨x58, hx58⟩ : ∃ x : Int, x = M52 98 (x57 : Int).toNat := ⟨_, rfl⟩
                    rw [← hx58]
                    have hx58r : qin x58 := by rw [hx58]; exact hCM52.sin _
                    show zG n (0, 0) d 240 (248, [.inr (.inr (some 97)), .inl a1, .inl a2, .inl x13, .inl v27, .inl v47, zN], [.inl x58, .inr (.inl (v47)), .inr (.inl (M52 97 23)), .inr (.inr (some 97))]) M52 _
                    obtain ⟨x59, hx59⟩ : ∃ x : Int, x = w64 (v47 * x58) := ⟨_, rfl⟩
                    obtain ⟨x60, hx60⟩ : ∃ x : Int, x = w64 ((M52 97 23) + x59) := ⟨_, rfl⟩
                    refine zG_w (c' := (251, [.inr (.inr (some 97)), .inl a1, .inl a2, .inl x13, .inl v27, .inl v47, zN], [.inr (.inl (x60)), .inr (.inr (some 97))])) 3 hd0 hz (by subst hx60; subst hx59; rfl) ?_
                    refine zG_putj hd0 hz rfl (by decide) rfl rfl ?_
                    obtain ⟨M61, hM61⟩ : ∃ X : zM, X = zput M52 97 23 x60 := ⟨_, rfl⟩
                    rw [← hM61]
                    have hCM61 : qMI M61 := by rw [hM61]; exact hCM52.put (by decide) (by decide) (by first | exact qMC_97 (by decide) (fun _ => by omega) | (refine ⟨fun _ => ?_, fun _ => ?_, fun h => ⟨fun _ => ?_, fun _ => ?_, fun _ => ?_, fun _ => ?_, fun _ => ?_⟩, fun h => ?_, fun h => ?_⟩ <;> first | omega | exact absurd rfl (by assumption) | (rename_i h9; exact absurd h9 (by decide))))
                    have hWM61 : qFm [102, 103, 104, 105, 106, 107, 108, 109, 110, 1007, 1010, 1012, 1013, 1016, 1018, 1019, 1020, 1021, 1022, 1023] M M61 := by rw [hM61]; exact hWM52.put (by decide)
                    have e62 : M61 98 0 = M52 98 0 := by rw [hM61]; exact qput_ne (by decide)
                    have e63 : M61 97 18 = M52 97 18 := by rw [hM61]; exact qput_nk (by decide)
                    have e64 : M61 97 21 = M52 97 21 := by rw [hM61]; exact qput_nk (by decide)
                    show zG n (0, 0) d 240 (254, [.inr (.inr (some 97)), .inl a1, .inl a2, .inl x13, .inl v27, .inl v47, zN], []) M61 _
                    refine zG_w (c' := (260, [.inr (.inr (some 97)), .inl a1, .inl a2, .inl x13, .inl v27, .inl v47, .inl (M61 97 18)], [])) 3 hd0 hz (by rfl) ?_
                    have j260 : ∀ (N : Nat) (v65 : Int) (M66 : zM) , (v65 : Int).toNat < N → 0 ≤ v65 ∧ v65 ≤ 14 → (v65 ≤ v27) → (M66 97 18 ≤ v27) → qMI M66 → qFm [102, 103, 104, 105, 106, 107, 108, 109, 110, 1007, 1010, 1012, 1013, 1016, 1018, 1019, 1020, 1021, 1022, 1023] M M66 → zG n (0, 0) d 240 (260, [.inr (.inr (some 97)), .inl a1, .inl a2, .inl x13, .inl v27, .inl v47, .inl v65], []) M66 (fun v M' => (qMI M' ∧ qFm [102, 103, 104, 105, 106, 107, 108, 109, 110, 1007, 1010, 1012, 1013, 1016, 1018, 1019, 1020, 1021, 1022, 1023] M M') ∧ v = none) := by
                      intro N
                      induction N with
                      | zero => intro v65 M66 hN hv65 hx0_260 hx1_260 hCM66 hWM66; exact absurd hN (Nat.not_lt_zero _)
                      | succ N ih260 =>
                        intro v65 M66 hN hv65 hx0_260 hx1_260 hCM66 hWM66
                        replace hN : v65 < (N : Int) + 1 := by omega
                        have e67 : M66 98 0 = M 98 0 := hWM66 98 0 (by decide)
                        have r68 := hCM66.f18
                        refine zG_w (c' := (262, [.inr (.inr (some 97)), .inl a1, .inl a2, .inl x13, .inl v27, .inl v47, .inl v65], [.inl v65])) 1 hd0 hz (by rfl) ?_
                        have j301 : (v65 ≤ v27) → (M66 97 18 ≤ v27) → zG n (0, 0) d 240 (301, [.inr (.inr (some 97)), .inl a1, .inl a2, .inl x13, .inl v27, .inl v47, .inl v65], []) M66 (fun v M' => (qMI M' ∧ qFm [102, 103, 104, 105, 106, 107, 108, 109, 110, 1007, 1010, 1012, 1013, 1016, 1018, 1019, 1020, 1021, 1022, 1023] M M') ∧ v = none) := by
                          intro hx0_301 hx1_301
                          refine zG_w (c' := (309, [.inr (.inr (some 97)), .inl a1, .inl a2, .inl x13, .inl v27, .inl v47, .inl v65], [.inl v47, .inl v65, .inr (.inr (some 110))])) 4 hd0 hz (by rfl) ?_
                          refine zG_iast hd0 hz rfl rfl (by omega) ?_
                          obtain ⟨M69, hM69⟩ : ∃ X : zM, X = zput M66 110 (v65 : Int).toNat v47 := ⟨_, rfl⟩
                          rw [← hM69]
                          have hCM69 : qMI M69 := by rw [hM69]; exact hCM66.put (by decide) (qCd_a (by decide) (by decide)) (by first | exact qMC_ar (by decide) (fun _ => by omega) | (refine ⟨fun h => ?_, fun _ => ?_, fun h => ?_, fun h => ?_, fun h => ?_⟩ <;> first | omega | exact absurd h (by decide)))
                          have hWM69 : qFm [102, 103, 104, 105, 106, 107, 108, 109, 110, 1007, 1010, 1012, 1013, 1016, 1018, 1019, 1020, 1021, 1022, 1023] M M69 := by rw [hM69]; exact hWM66.pa (by decide) (by decide)
                          have e70 : M69 98 0 = M66 98 0 := by rw [hM69]; exact qput_ne (by decide)
                          have e71 : M69 97 18 = M66 97 18 := by rw [hM69]; exact qput_ne (by decide)
                          show zG n (0, 0) d 240 (310, [.inr (.inr (some 97)), .inl a1, .inl a2, .inl x13, .inl v27, .inl v47, .inl v65], []) M69 _
                          obtain ⟨x72, hx72⟩ : ∃ x : Int, x = w32 ((M69 97 18) + 1) := ⟨_, rfl⟩
                          have hx72e : x72 = (M69 97 18) + 1 := by rw [hx72]; exact w32_id (by omega)
                          refine zG_w (c' := (317, [.inr (.inr (some 97)), .inl a1, .inl a2, .inl x13, .inl v27, .inl v47, .inl v65], [.inl x72, .inr (.inr (some 97))])) 5 hd0 hz (by subst hx72; rfl) ?_
                          refine zG_putf (.inl rfl) hd0 hz rfl (by decide) rfl rfl ?_
                          obtain ⟨M73, hM73⟩ : ∃ X : zM, X = zput M69 97 18 x72 := ⟨_, rfl⟩
                          rw [← hM73]
                          have hCM73 : qMI M73 := by rw [hM73]; exact hCM69.put (by decide) (by decide) (by first | exact qMC_97 (by decide) (fun _ => by omega) | (refine ⟨fun _ => ?_, fun _ => ?_, fun h => ⟨fun _ => ?_, fun _ => ?_, fun _ => ?_, fun _ => ?_, fun _ => ?_⟩, fun h => ?_, fun h => ?_⟩ <;> first | omega | exact absurd rfl (by assumption) | (rename_i h9; exact absurd h9 (by decide))))
                          have hWM73 : qFm [102, 103, 104, 105, 106, 107, 108, 109, 110, 1007, 1010, 1012, 1013, 1016, 1018, 1019, 1020, 1021, 1022, 1023] M M73 := by rw [hM73]; exact hWM69.put (by decide)
                          have e74 : M73 98 0 = M69 98 0 := by rw [hM73]; exact qput_ne (by decide)
                          have e75 : M73 97 18 = x72 := by rw [hM73]; exact qput_eq
                          show zG n (0, 0) d 240 (320, [.inr (.inr (some 97)), .inl a1, .inl a2, .inl x13, .inl v27, .inl v47, .inl v65], []) M73 _
                          exact zG_weak (j320 M73 (by omega) hCM73 hWM73) ⟨.inr rfl, .inr rfl, .inr rfl, .inr rfl, .inr rfl, .inl rfl, .inl rfl, trivial⟩
                        refine zG_wf_le (pc := 262) (n' := 265) (t := 301) (L := [.inr (.inr (some 97)), .inl a1, .inl a2, .inl x13, .inl v27, .inl v47, .inl v65]) (st := []) (x := v65) 0 hd0 hz (by rfl) (fun hb76 => ?_) (fun hb76 => ?_)
                        · exact j301 (by omega) (by omega)
                        · obtain ⟨x77, hx77⟩ : ∃ x : Int, x = w32 (v65 - 1) := ⟨_, rfl⟩
                          have hx77e : x77 = v65 - 1 := by rw [hx77]; exact w32_id (by omega)
                          refine zG_w (c' := (273, [.inr (.inr (some 97)), .inl a1, .inl a2, .inl x13, .inl v27, .inl v47, .inl v65], [.inl x77, .inr (.inr (some 110))])) 5 hd0 hz (by subst hx77; rfl) ?_
                          refine zG_iald hd0 hz rfl rfl (.inl rfl) (by omega) ?_
                          obtain ⟨x78, hx78⟩ : ∃ x : Int, x = M66 110 (x77 : Int).toNat := ⟨_, rfl⟩
                          rw [← hx78]
                          have hx78r : qin x78 := by rw [hx78]; exact hCM66.ra 110 _ (by decide) (by decide)
                          show zG n (0, 0) d 240 (274, [.inr (.inr (some 97)), .inl a1, .inl a2, .inl x13, .inl v27, .inl v47, .inl v65], [.inl x78]) M66 _
                          refine zG_wi_ge (pc := 276) (n' := 279) (t := 301) (L := [.inr (.inr (some 97)), .inl a1, .inl a2, .inl x13, .inl v27, .inl v47, .inl v65]) (st := []) (x := x78) (y := v47) 1 hd0 hz (by rfl) (fun hb79 => ?_) (fun hb79 => ?_)
                          · exact j301 (by omega) (by omega)
                          · obtain ⟨x80, hx80⟩ : ∃ x : Int, x = w32 (v65 - 1) := ⟨_, rfl⟩
                            have hx80e : x80 = v65 - 1 := by rw [hx80]; exact w32_id (by omega)
                            refine zG_w (c' := (293, [.inr (.inr (some 97)), .inl a1, .inl a2, .inl x13, .inl v27, .inl v47, .inl v65], [.inl x80, .inr (.inr (some 110)), .inl v65, .inr (.inr (some 110))])) 8 hd0 hz (by subst hx80; rfl) ?_
                            refine zG_iald hd0 hz rfl rfl (.inl rfl) (by omega) ?_
                            obtain ⟨x81, hx81⟩ : ∃ x : Int, x = M66 110 (x80 : Int).toNat := ⟨_, rfl⟩
                            rw [← hx81]
                            have hx81r : qin x81 := by rw [hx81]; exact hCM66.ra 110 _ (by decide) (by decide)
                            show zG n (0, 0) d 240 (294, [.inr (.inr (some 97)), .inl a1, .inl a2, .inl x13, .inl v27, .inl v47, .inl v65], [.inl x81, .inl v65, .inr (.inr (some 110))]) M66 _
                            refine zG_iast hd0 hz rfl rfl (by omega) ?_
                            obtain ⟨M82, hM82⟩ : ∃ X : zM, X = zput M66 110 (v65 : Int).toNat x81 := ⟨_, rfl⟩
                            rw [← hM82]
                            have hCM82 : qMI M82 := by rw [hM82]; exact hCM66.put (by decide) (qCd_a (by decide) (by decide)) (by first | exact qMC_ar (by decide) (fun _ => by omega) | (refine ⟨fun h => ?_, fun _ => ?_, fun h => ?_, fun h => ?_, fun h => ?_⟩ <;> first | omega | exact absurd h (by decide)))
                            have hWM82 : qFm [102, 103, 104, 105, 106, 107, 108, 109, 110, 1007, 1010, 1012, 1013, 1016, 1018, 1019, 1020, 1021, 1022, 1023] M M82 := by rw [hM82]; exact hWM66.pa (by decide) (by decide)
                            have e83 : M82 98 0 = M66 98 0 := by rw [hM82]; exact qput_ne (by decide)
                            have e84 : M82 97 18 = M66 97 18 := by rw [hM82]; exact qput_ne (by decide)
                            show zG n (0, 0) d 240 (295, [.inr (.inr (some 97)), .inl a1, .inl a2, .inl x13, .inl v27, .inl v47, .inl v65], []) M82 _
                            obtain ⟨x85, hx85⟩ : ∃ x : Int, x = w32 (v65 + (-1)) := ⟨_, rfl⟩
                            have hx85e : x85 = v65 + (-1) := by rw [hx85]; exact w32_id (by omega)
                            refine zG_w (c' := (260, [.inr (.inr (some 97)), .inl a1, .inl a2, .inl x13, .inl v27, .inl v47, .inl x85], [])) 2 hd0 hz (by subst hx85; rfl) ?_
                            exact ih260 x85 M82 (by omega) (by omega) (by omega) (by omega) hCM82 hWM82
                    exact j260 (((M61 97 18) : Int).toNat + 1) (M61 97 18) M61 (by omega) (by omega) (by omega) (by omega) hCM61 hWM61
                  refine zG_wf_ge (pc := 190) (n' := 193) (t := 197) (L := [.inr (.inr (some 97)), .inl a1, .inl a2, .inl x13, .inl v27, zN, zN]) (st := []) (x := x46) 0 hd0 hz (by rfl) (fun hb86 => ?_) (fun hb86 => ?_)
                  · refine zG_w (c' := (203, [.inr (.inr (some 97)), .inl a1, .inl a2, .inl x13, .inl v27, zN, zN], [.inl v27, .inr (.inr (some 102))])) 3 hd0 hz (by rfl) ?_
                    refine zG_iald hd0 hz rfl rfl (.inl rfl) (by omega) ?_
                    obtain ⟨x87, hx87⟩ : ∃ x : Int, x = M28 102 (v27 : Int).toNat := ⟨_, rfl⟩
                    rw [← hx87]
                    have hx87r : qin x87 := by rw [hx87]; exact hCM28.ra 102 _ (by decide) (by decide)
                    show zG n (0, 0) d 240 (204, [.inr (.inr (some 97)), .inl a1, .inl a2, .inl x13, .inl v27, zN, zN], [.inl x87]) M28 _
                    exact j204 x87 (by omega)
                  · refine zG_w (c' := (204, [.inr (.inr (some 97)), .inl a1, .inl a2, .inl x13, .inl v27, zN, zN], [.inl 0])) 2 hd0 hz (by rfl) ?_
                    exact j204 0 (by first | decide | omega)
          exact j159 ((14 - 0 : Int).toNat + 1) 0 M24 (by omega) (by omega) (by omega) hCM24 hWM24
        · refine zG_wv (pc := 61) (L := [.inr (.inr (some 97)), .inl a1, .inl a2, .inl x13, .inl v16, zN, zN]) (st := []) 2 hd0 hz zp_238 (qm_238_97 (by first | exact zdk hd rfl | omega) hCM17   v16 (by first | with_reducible exact hv16 | omega) ) (by rfl) (fun M88 hr => ?_)
          obtain ⟨hCM88, hFM88⟩ := hr
          have hWM88 : qFm [102, 103, 104, 105, 106, 107, 108, 109, 110, 1007, 1010, 1012, 1013, 1016, 1018, 1019, 1020, 1021, 1022, 1023] M M88 := hWM17.tr hFM88 (by decide)
          have e90 : M88 98 0 = M17 98 0 := hFM88 98 0 (by decide)
          refine zG_w (c' := (63, [.inr (.inr (some 97)), .inl a1, .inl a2, .inl x13, .inl v16, zN, zN], [.inl (-1), .inl x13])) 2 hd0 hz (by rfl) ?_
          have j111 : ∀ (v91 : Int) (M92 : zM) , 0 ≤ v91 ∧ v91 ≤ 1 → qMI M92 → qFm [102, 103, 104, 105, 106, 107, 108, 109, 110, 1007, 1010, 1012, 1013, 1016, 1018, 1019, 1020, 1021, 1022, 1023] M M92 → zG n (0, 0) d 240 (111, [.inr (.inr (some 97)), .inl a1, .inl a2, .inl x13, .inl v16, zN, zN], [.inl v91]) M92 (fun v M' => (qMI M' ∧ qFm [102, 103, 104, 105, 106, 107, 108, 109, 110, 1007, 1010, 1012, 1013, 1016, 1018, 1019, 1020, 1021, 1022, 1023] M M') ∧ v = none) := by
            intro v91 M92 hv91 hCM92 hWM92
            have e93 : M92 98 0 = M 98 0 := hWM92 98 0 (by decide)
            have r94 := hCM92.rg 97 21 (by decide) (by decide)
            refine zG_w (c' := (120, [.inr (.inr (some 97)), .inl a1, .inl a2, .inl x13, .inl v16, .inl v91, zN], [.inl v91, .inl (M92 97 21), .inr (.inr (some 97))])) 5 hd0 hz (by rfl) ?_
            have j131 : ∀ (v95 : Int) , 0 ≤ v95 ∧ v95 ≤ 8192 → zG n (0, 0) d 240 (131, [.inr (.inr (some 97)), .inl a1, .inl a2, .inl x13, .inl v16, .inl v91, zN], [.inl v95, .inl (M92 97 21), .inr (.inr (some 97))]) M92 (fun v M' => (qMI M' ∧ qFm [102, 103, 104, 105, 106, 107, 108, 109, 110, 1007, 1010, 1012, 1013, 1016, 1018, 1019, 1020, 1021, 1022, 1023] M M') ∧ v = none) := by
              intro v95 hv95
              obtain ⟨x96, hx96⟩ : ∃ x : Int, x = zbor (M92 97 21) v95 := ⟨_, rfl⟩
              have hx96r : qin x96 := by rw [hx96]; exact qb32 _
              refine zG_w (c' := (132, [.inr (.inr (some 97)), .inl a1, .inl a2, .inl x13, .inl v16, .inl v91, zN], [.inl x96, .inr (.inr (some 97))])) 1 hd0 hz (by subst hx96; rfl) ?_
              refine zG_putf (.inl rfl) hd0 hz rfl (by decide) rfl rfl ?_
              obtain ⟨M97, hM97⟩ : ∃ X : zM, X = zput M92 97 21 x96 := ⟨_, rfl⟩
              rw [← hM97]
              have hCM97 : qMI M97 := by rw [hM97]; exact hCM92.put (by decide) (by decide) (by first | exact qMC_97 (by decide) (fun _ => by omega) | (refine ⟨fun _ => ?_, fun _ => ?_, fun h => ⟨fun _ => ?_, fun _ => ?_, fun _ => ?_, fun _ => ?_, fun _ => ?_⟩, fun h => ?_, fun h => ?_⟩ <;> first | omega | exact absurd rfl (by assumption) | (rename_i h9; exact absurd h9 (by decide))))
              have hWM97 : qFm [102, 103, 104, 105, 106, 107, 108, 109, 110, 1007, 1010, 1012, 1013, 1016, 1018, 1019, 1020, 1021, 1022, 1023] M M97 := by rw [hM97]; exact hWM92.put (by decide)
              have e98 : M97 98 0 = M92 98 0 := by rw [hM97]; exact qput_ne (by decide)
              have e99 : M97 97 21 = x96 := by rw [hM97]; exact qput_eq
              show zG n (0, 0) d 240 (135, [.inr (.inr (some 97)), .inl a1, .inl a2, .inl x13, .inl v16, .inl v91, zN], []) M97 _
              obtain ⟨x100, hx100⟩ : ∃ x : Int, x = w32 (v16 + 1) := ⟨_, rfl⟩
              have hx100e : x100 = v16 + 1 := by rw [hx100]; exact w32_id (by omega)
              refine zG_w (c' := (44, [.inr (.inr (some 97)), .inl a1, .inl a2, .inl x13, .inl x100, .inl v91, zN], [])) 2 hd0 hz (by subst hx100; rfl) ?_
              exact zG_weak (ih44 x100 M97 (by omega) (by omega) hCM97 hWM97) ⟨.inr rfl, .inr rfl, .inr rfl, .inr rfl, .inr rfl, .inl rfl, .inr rfl, trivial⟩
            refine zG_wf_eq (pc := 120) (n' := 123) (t := 130) (L := [.inr (.inr (some 97)), .inl a1, .inl a2, .inl x13, .inl v16, .inl v91, zN]) (st := [.inl (M92 97 21), .inr (.inr (some 97))]) (x := v91) 0 hd0 hz (by rfl) (fun hb101 => ?_) (fun hb101 => ?_)
            · refine zG_w (c' := (131, [.inr (.inr (some 97)), .inl a1, .inl a2, .inl x13, .inl v16, .inl v91, zN], [.inl 0, .inl (M92 97 21), .inr (.inr (some 97))])) 1 hd0 hz (by rfl) ?_
              exact j131 0 (by first | decide | omega)
            · obtain ⟨x102, hx102⟩ : ∃ x : Int, x = zbshl 1 v16 := ⟨_, rfl⟩
              have hx102r := qshl1_in v16 8192 13 (by decide) (by decide) (by omega); rw [← hx102] at hx102r
              refine zG_w (c' := (131, [.inr (.inr (some 97)), .inl a1, .inl a2, .inl x13, .inl v16, .inl v91, zN], [.inl x102, .inl (M92 97 21), .inr (.inr (some 97))])) 4 hd0 hz (by subst hx102; rfl) ?_
              exact j131 x102 (by omega)
          refine zG_wi_ne (pc := 63) (n' := 66) (t := 97) (L := [.inr (.inr (some 97)), .inl a1, .inl a2, .inl x13, .inl v16, zN, zN]) (st := []) (x := x13) (y := (-1)) 0 hd0 hz (by rfl) (fun hb103 => ?_) (fun hb103 => ?_)
          · refine zG_wc (c1 := (101, [.inr (.inr (some 97)), .inl a1, .inl a2, .inl x13, .inl v16, zN, zN], [])) 1 hd0 hz zp_235 (qm_235_97 (by first | exact zdk hd rfl | omega) hCM88    ) (by rfl) (fun vr M104 hr => ?_)
            obtain ⟨⟨hCM104, hFM104⟩, x105, rfl⟩ := hr
            have hWM104 : qFm [102, 103, 104, 105, 106, 107, 108, 109, 110, 1007, 1010, 1012, 1013, 1016, 1018, 1019, 1020, 1021, 1022, 1023] M M104 := hWM88.tr hFM104 (by decide)
            have e106 : M104 98 0 = M88 98 0 := hFM104 98 0 (by decide)
            show zG n (0, 0) d 240 (101, [.inr (.inr (some 97)), .inl a1, .inl a2, .inl x13, .inl v16, zN, zN], [.inr (.inl (x105))]) M104 _
            refine zG_w (c' := (102, [.inr (.inr (some 97)), .inl a1, .inl a2, .inl x13, .inl v16, zN, zN], [.inr (.inl (0)), .inr (.inl (x105))])) 1 hd0 hz (by rfl) ?_
            refine zG_lc_eq hd0 hz rfl rfl (fun hb102 => ?_) (fun hb102 => ?_)
            · refine zG_w (c' := (111, [.inr (.inr (some 97)), .inl a1, .inl a2, .inl x13, .inl v16, zN, zN], [.inl 0])) 1 hd0 hz (by rfl) ?_
              exact j111 0 M104 (by omega) hCM104 hWM104
            · refine zG_w (c' := (111, [.inr (.inr (some 97)), .inl a1, .inl a2, .inl x13, .inl v16, zN, zN], [.inl 1])) 2 hd0 hz (by rfl) ?_
              exact j111 1 M104 (by omega) hCM104 hWM104
          · refine zG_w (c' := (72, [.inr (.inr (some 97)), .inl a1, .inl a2, .inl x13, .inl v16, zN, zN], [.inl v16, .inr (.inr (some 102))])) 3 hd0 hz (by rfl) ?_
            refine zG_iald hd0 hz rfl rfl (.inl rfl) (by omega) ?_
            obtain ⟨x107, hx107⟩ : ∃ x : Int, x = M88 102 (v16 : Int).toNat := ⟨_, rfl⟩
            rw [← hx107]
            have hx107r : qin x107 := by rw [hx107]; exact hCM88.ra 102 _ (by decide) (by decide)
            show zG n (0, 0) d 240 (73, [.inr (.inr (some 97)), .inl a1, .inl a2, .inl x13, .inl v16, zN, zN], [.inl x107]) M88 _
            refine zG_w (c' := (75, [.inr (.inr (some 97)), .inl a1, .inl a2, .inl x13, .inl v16, zN, zN], [.inl 39, .inl x107])) 1 hd0 hz (by rfl) ?_
            have j93 : zG n (0, 0) d 240 (93, [.inr (.inr (some 97)), .inl a1, .inl a2, .inl x13, .inl v16, zN, zN], []) M88 (fun v M' => (qMI M' ∧ qFm [102, 103, 104, 105, 106, 107, 108, 109, 110, 1007, 1010, 1012, 1013, 1016, 1018, 1019, 1020, 1021, 1022, 1023] M M') ∧ v = none) := by
              refine zG_w (c' := (111, [.inr (.inr (some 97)), .inl a1, .inl a2, .inl x13, .inl v16, zN, zN], [.inl 0])) 2 hd0 hz (by rfl) ?_
              exact j111 0 M88 (by omega) hCM88 hWM88
            refine zG_wi_le (pc := 75) (n' := 78) (t := 93) (L := [.inr (.inr (some 97)), .inl a1, .inl a2, .inl x13, .inl v16, zN, zN]) (st := []) (x := x107) (y := 39) 0 hd0 hz (by rfl) (fun hb108 => ?_) (fun hb108 => ?_)
            · exact j93
            · refine zG_w (c' := (83, [.inr (.inr (some 97)), .inl a1, .inl a2, .inl x13, .inl v16, zN, zN], [.inl 3, .inr (.inr (some 108))])) 3 hd0 hz (by rfl) ?_
              refine zG_lald hd0 hz rfl rfl (.inl rfl) (by omega) ?_
              obtain ⟨x109, hx109⟩ : ∃ x : Int, x = M88 108 (3 : Int).toNat := ⟨_, rfl⟩
              rw [← hx109]
              show zG n (0, 0) d 240 (84, [.inr (.inr (some 97)), .inl a1, .inl a2, .inl x13, .inl v16, zN, zN], [.inr (.inl (x109))]) M88 _
              refine zG_w (c' := (85, [.inr (.inr (some 97)), .inl a1, .inl a2, .inl x13, .inl v16, zN, zN], [.inr (.inl (1)), .inr (.inl (x109))])) 1 hd0 hz (by rfl) ?_
              refine zG_lc_ne hd0 hz rfl rfl (fun hb85 => ?_) (fun hb85 => ?_)
              · exact j93
              · refine zG_w (c' := (111, [.inr (.inr (some 97)), .inl a1, .inl a2, .inl x13, .inl v16, zN, zN], [.inl 1])) 2 hd0 hz (by rfl) ?_
                exact j111 1 M88 (by omega) hCM88 hWM88
    exact j44 ((14 - 0 : Int).toNat + 1) 0 M14 (by omega) (by omega) hCM14 hWM14
  refine zG_wi_eq (pc := 24) (n' := 27) (t := 41) (L := [.inr (.inr (some 97)), .inl a1, .inl a2, .inl x13, zN, zN, zN]) (st := []) (x := x13) (y := (-1)) 0 hd0 hz (by rfl) (fun hb110 => ?_) (fun hb110 => ?_)
  · exact j41 M8 hCM8 hWM8
  · obtain ⟨x111, hx111⟩ : ∃ x : Int, x = w32 (164 * x13) := ⟨_, rfl⟩
    have hx111e : x111 = 164 * x13 := by rw [hx111]; exact w32_id (by omega)
    obtain ⟨x112, hx112⟩ : ∃ x : Int, x = w32 (4000 + x111) := ⟨_, rfl⟩
    have hx112e : x112 = 4000 + x111 := by rw [hx112]; exact w32_id (by omega)
    refine zG_wn (pc := 40) (L := [.inr (.inr (some 97)), .inl a1, .inl a2, .inl x13, zN, zN, zN]) (st := []) 6 hd0 hz zp_231 (qm_231_97 (by first | exact zdk hd rfl | omega) hCM8   x112 (by omega) (by exact hCM8.ord x13 _ (by omega) (.inl (by omega)))) (by subst hx112; subst hx111; rfl) (fun x114 M113 hr hx114 => ?_)
    obtain ⟨hCM113, hFM113⟩ := hr
    have hWM113 : qFm [102, 103, 104, 105, 106, 107, 108, 109, 110, 1007, 1010, 1012, 1013, 1016, 1018, 1019, 1020, 1021, 1022, 1023] M M113 := hWM8.tr hFM113 (by decide)
    have e115 : M113 98 0 = M8 98 0 := hFM113 98 0 (by decide)
    have e116 : M113 97 19 = M8 97 19 := hFM113 97 19 (by decide)
    have e117 : M113 97 21 = M8 97 21 := hFM113 97 21 (by decide)
    refine zG_w (c' := (41, [.inr (.inr (some 97)), .inl a1, .inl a2, .inl x13, zN, zN, zN], [])) 1 hd0 hz (by rfl) ?_
    exact j41 M113 hCM113 hWM113
theorem qm_241_97 {n d : Nat} {M : zM} (hd : 3 ≤ d) (hC : qMI M)  (a1 : Int) (ha1 : (-1) ≤ a1 ∧ a1 ≤ 9) : qOkN n d 241 [.inr (.inr (some 97)), .inl a1] 4 [108, 109, 1016, 1020] M (fun v M' => ∃ x : Int, v = some (.inl x) ∧ ((-2147483648) ≤ x ∧ x ≤ 2147483647)) := by
  have hz := zp_241
  have hd0 : 0 < d := by omega
  have hW : qFm [108, 109, 1016, 1020] M M := qFm.rfl
  show zG n (0, 0) d 241 (0, [.inr (.inr (some 97)), .inl a1, zN, zN], []) M _
  refine zG_wv (pc := 4) (L := [.inr (.inr (some 97)), .inl a1, zN, zN]) (st := []) 1 hd0 hz zp_239 (qm_239_97 (by first | exact zdk hd rfl | omega) hC    ) (by rfl) (fun M1 hr => ?_)
  obtain ⟨hCM1, hFM1⟩ := hr
  have hWM1 : qFm [108, 109, 1016, 1020] M M1 := hW.tr hFM1 (by decide)
  refine zG_w (c' := (6, [.inr (.inr (some 97)), .inl a1, zN, zN], [.inl (-1), .inl a1])) 2 hd0 hz (by rfl) ?_
  have j24 : ∀ (v3 : Int) (M4 : zM) , qMI M4 → qFm [108, 109, 1016, 1020] M M4 → zG n (0, 0) d 241 (24, [.inr (.inr (some 97)), .inl a1, zN, zN], [.inr (.inl (v3))]) M4 (fun v M' => (qMI M' ∧ qFm [108, 109, 1016, 1020] M M') ∧ ∃ x : Int, v = some (.inl x) ∧ ((-2147483648) ≤ x ∧ x ≤ 2147483647)) := by
    intro v3 M4 hCM4 hWM4
    refine zG_w (c' := (27, [.inr (.inr (some 97)), .inl a1, .inr (.inl (v3)), zN], [.inr (.inl (0)), .inr (.inl (v3))])) 3 hd0 hz (by rfl) ?_
    have j50 : ∀ (v5 : Int) , (-2147483648) ≤ v5 ∧ v5 ≤ 2147483647 → zG n (0, 0) d 241 (50, [.inr (.inr (some 97)), .inl a1, .inr (.inl (v3)), zN], [.inl v5]) M4 (fun v M' => (qMI M' ∧ qFm [108, 109, 1016, 1020] M M') ∧ ∃ x : Int, v = some (.inl x) ∧ ((-2147483648) ≤ x ∧ x ≤ 2147483647)) := by
      intro v5 hv5
      exact zG_wr (r := some (.inl v5)) 0 hd0 hz (by rfl) ⟨⟨hCM4, hWM4⟩, _, rfl, by omega⟩
    refine zG_lc_ge hd0 hz rfl rfl (fun hb27 => ?_) (fun hb27 => ?_)
    · refine zG_w (c' := (39, [.inr (.inr (some 97)), .inl a1, .inr (.inl (v3)), zN], [.inr (.inl (9)), .inr (.inl (v3))])) 2 hd0 hz (by rfl) ?_
      refine zG_lc_le hd0 hz rfl rfl (fun hb39 => ?_) (fun hb39 => ?_)
      · obtain ⟨x6, hx6⟩ : ∃ x : Int, x = w32 v3 := ⟨_, rfl⟩
        have hx6r : qin x6 := by rw [hx6]; exact w32_in _
        refine zG_w (c' := (50, [.inr (.inr (some 97)), .inl a1, .inr (.inl (v3)), zN], [.inl x6])) 2 hd0 hz (by subst hx6; rfl) ?_
        exact j50 x6 (by omega)
      · refine zG_w (c' := (50, [.inr (.inr (some 97)), .inl a1, .inr (.inl (v3)), zN], [.inl 9])) 2 hd0 hz (by rfl) ?_
        exact j50 9 (by first | decide | omega)
    · refine zG_w (c' := (50, [.inr (.inr (some 97)), .inl a1, .inr (.inl (v3)), zN], [.inl 0])) 2 hd0 hz (by rfl) ?_
      exact j50 0 (by first | decide | omega)
  refine zG_wi_ne (pc := 6) (n' := 9) (t := 20) (L := [.inr (.inr (some 97)), .inl a1, zN, zN]) (st := []) (x := a1) (y := (-1)) 0 hd0 hz (by rfl) (fun hb7 => ?_) (fun hb7 => ?_)
  · refine zG_wc (c1 := (24, [.inr (.inr (some 97)), .inl a1, zN, zN], [])) 1 hd0 hz zp_235 (qm_235_97 (by first | exact zdk hd rfl | omega) hCM1    ) (by rfl) (fun vr M8 hr => ?_)
    obtain ⟨⟨hCM8, hFM8⟩, x9, rfl⟩ := hr
    have hWM8 : qFm [108, 109, 1016, 1020] M M8 := hWM1.tr hFM8 (by decide)
    show zG n (0, 0) d 241 (24, [.inr (.inr (some 97)), .inl a1, zN, zN], [.inr (.inl (x9))]) M8 _
    exact j24 x9 M8 hCM8 hWM8
  · refine zG_w (c' := (16, [.inr (.inr (some 97)), .inl a1, zN, zN], [.inr (.inl (10)), .inr (.inl (M1 97 22))])) 3 hd0 hz (by rfl) ?_
    refine zG_ldiv hd0 hz rfl (by omega) ?_
    generalize w64 ((M1 97 22).tdiv 10) = x10
    show zG n (0, 0) d 241 (17, [.inr (.inr (some 97)), .inl a1, zN, zN], [.inr (.inl (x10))]) M1 _
    refine zG_w (c' := (24, [.inr (.inr (some 97)), .inl a1, zN, zN], [.inr (.inl (x10))])) 1 hd0 hz (by rfl) ?_
    exact j24 x10 M1 hCM1 hWM1
theorem qm_242_97 {n d : Nat} {M : zM} (hd : 7 ≤ d) (hC : qMI M)  (a1 : Int) (ha1 : 0 ≤ a1 ∧ a1 ≤ 19) (a2 : Int) (ha2 : (-2147483648) ≤ a2 ∧ a2 ≤ 2147483647) : qOkN n d 242 [.inr (.inr (some 97)), .inl a1, .inl a2] 4 [105, 106, 107, 1007, 1010, 1012, 1013] M (fun v M' => ∃ x : Int, v = some (.inl x) ∧ ((-1) ≤ x ∧ x ≤ 9)) := by
  have hz := zp_242
  have hd0 : 0 < d := by omega
  have hW : qFm [105, 106, 107, 1007, 1010, 1012, 1013] M M := qFm.rfl
  show zG n (0, 0) d 242 (0, [.inr (.inr (some 97)), .inl a1, .inl a2, zN], []) M _
  refine zG_wp (pc := 6) (L := [.inr (.inr (some 97)), .inl a1, .inl a2, zN]) (st := []) 3 hd0 hz zp_237 (qm_237_97 (by first | exact zdk hd rfl | omega) hC   a1 (by first | with_reducible exact ha1 | omega) a2 (by first | with_reducible exact ha2 | omega) ) (by rfl) (fun x2 hx2 => ?_)
  refine zG_w (c' := (9, [.inr (.inr (some 97)), .inl a1, .inl a2, .inl x2], [.inl (-1), .inl x2])) 3 hd0 hz (by rfl) ?_
  have j29 : ∀ (M3 : zM) , qMI M3 → qFm [105, 106, 107, 1007, 1010, 1012, 1013] M M3 → zG n (0, 0) d 242 (29, [.inr (.inr (some 97)), .inl a1, .inl a2, .inl x2], []) M3 (fun v M' => (qMI M' ∧ qFm [105, 106, 107, 1007, 1010, 1012, 1013] M M') ∧ ∃ x : Int, v = some (.inl x) ∧ ((-1) ≤ x ∧ x ≤ 9)) := by
    intro M3 hCM3 hWM3
    exact zG_wr (r := some (.inl x2)) 1 hd0 hz (by rfl) ⟨⟨hCM3, hWM3⟩, _, rfl, by omega⟩
  refine zG_wi_eq (pc := 9) (n' := 12) (t := 29) (L := [.inr (.inr (some 97)), .inl a1, .inl a2, .inl x2]) (st := []) (x := x2) (y := (-1)) 0 hd0 hz (by rfl) (fun hb4 => ?_) (fun hb4 => ?_)
  · exact j29 M hC hW
  · obtain ⟨x5, hx5⟩ : ∃ x : Int, x = w32 (164 * x2) := ⟨_, rfl⟩
    have hx5e : x5 = 164 * x2 := by rw [hx5]; exact w32_id (by omega)
    obtain ⟨x6, hx6⟩ : ∃ x : Int, x = w32 (4000 + x5) := ⟨_, rfl⟩
    have hx6e : x6 = 4000 + x5 := by rw [hx6]; exact w32_id (by omega)
    obtain ⟨x7, hx7⟩ : ∃ x : Int, x = w32 (x6 + 81) := ⟨_, rfl⟩
    have hx7e : x7 = x6 + 81 := by rw [hx7]; exact w32_id (by omega)
    refine zG_wn (pc := 28) (L := [.inr (.inr (some 97)), .inl a1, .inl a2, .inl x2]) (st := []) 8 hd0 hz zp_231 (qm_231_97 (by first | exact zdk hd rfl | omega) hC   x7 (by omega) (by exact hC.ord x2 _ (by omega) (.inr (by omega)))) (by subst hx7; subst hx6; subst hx5; rfl) (fun x9 M8 hr hx9 => ?_)
    obtain ⟨hCM8, hFM8⟩ := hr
    have hWM8 : qFm [105, 106, 107, 1007, 1010, 1012, 1013] M M8 := hW.tr hFM8 (by decide)
    refine zG_w (c' := (29, [.inr (.inr (some 97)), .inl a1, .inl a2, .inl x2], [])) 1 hd0 hz (by rfl) ?_
    exact j29 M8 hCM8 hWM8
theorem qm_243_97 {n d : Nat} {M : zM} (hd : 8 ≤ d) (hC : qMI M)  (a1 : Int) (ha1 : 0 ≤ a1 ∧ a1 ≤ 19) (a2 : Int) (ha2 : (-2147483648) ≤ a2 ∧ a2 ≤ 2147483647) : qOkN n d 243 [.inr (.inr (some 97)), .inl a1, .inl a2] 3 [102, 103, 104, 105, 106, 107, 108, 109, 110, 1007, 1010, 1012, 1013, 1016, 1018, 1019, 1020, 1021, 1022, 1023] M (fun v M' => ∃ x : Int, v = some (.inl x) ∧ ((-2147483648) ≤ x ∧ x ≤ 2147483647)) := by
  have hz := zp_243
  have hd0 : 0 < d := by omega
  have hW : qFm [102, 103, 104, 105, 106, 107, 108, 109, 110, 1007, 1010, 1012, 1013, 1016, 1018, 1019, 1020, 1021, 1022, 1023] M M := qFm.rfl
  show zG n (0, 0) d 243 (0, [.inr (.inr (some 97)), .inl a1, .inl a2], []) M _
  refine zG_wv (pc := 6) (L := [.inr (.inr (some 97)), .inl a1, .inl a2]) (st := []) 3 hd0 hz zp_240 (qm_240_97 (by first | exact zdk hd rfl | omega) hC   a1 (by first | with_reducible exact ha1 | omega) a2 (by first | with_reducible exact ha2 | omega) ) (by rfl) (fun M1 hr => ?_)
  obtain ⟨hCM1, hFM1⟩ := hr
  have hWM1 : qFm [102, 103, 104, 105, 106, 107, 108, 109, 110, 1007, 1010, 1012, 1013, 1016, 1018, 1019, 1020, 1021, 1022, 1023] M M1 := hW.tr hFM1 (by decide)
  refine zG_wn (pc := 13) (L := [.inr (.inr (some 97)), .inl a1, .inl a2]) (st := [.inr (.inr (some 97))]) 4 hd0 hz zp_242 (qm_242_97 (by first | exact zdk hd rfl | omega) hCM1   a1 (by first | with_reducible exact ha1 | omega) a2 (by first | with_reducible exact ha2 | omega) ) (by rfl) (fun x4 M3 hr hx4 => ?_)
  obtain ⟨hCM3, hFM3⟩ := hr
  have hWM3 : qFm [102, 103, 104, 105, 106, 107, 108, 109, 110, 1007, 1010, 1012, 1013, 1016, 1018, 1019, 1020, 1021, 1022, 1023] M M3 := hWM1.tr hFM3 (by decide)
  refine zG_wn (pc := 16) (L := [.inr (.inr (some 97)), .inl a1, .inl a2]) (st := []) 0 hd0 hz zp_241 (qm_241_97 (by first | exact zdk hd rfl | omega) hCM3   x4 (by omega) ) (by rfl) (fun x6 M5 hr hx6 => ?_)
  obtain ⟨hCM5, hFM5⟩ := hr
  have hWM5 : qFm [102, 103, 104, 105, 106, 107, 108, 109, 110, 1007, 1010, 1012, 1013, 1016, 1018, 1019, 1020, 1021, 1022, 1023] M M5 := hWM3.tr hFM5 (by decide)
  exact zG_wr (r := some (.inl x6)) 0 hd0 hz (by rfl) ⟨⟨hCM5, hWM5⟩, _, rfl, by omega⟩
theorem qm_244_97 {n d : Nat} {M : zM} (hd : 9 ≤ d) (hC : qMI M)  (a1 : Int) (ha1 : 0 ≤ a1 ∧ a1 ≤ 19) (a2 : Int) (ha2 : (-2147483648) ≤ a2 ∧ a2 ≤ 2147483647) : qOkN n d 244 [.inr (.inr (some 97)), .inl a1, .inl a2] 6 [102, 103, 104, 105, 106, 107, 108, 109, 110, 1007, 1010, 1012, 1013, 1016, 1018, 1019, 1020, 1021, 1022, 1023] M (fun v M' => ∃ x : Int, v = some (.inl x) ∧ ((-2147483648) ≤ x ∧ x ≤ 2147483647)) := by
  have hz := zp_244
  have hd0 : 0 < d := by omega
  have hW : qFm [102, 103, 104, 105, 106, 107, 108, 109, 110, 1007, 1010, 1012, 1013, 1016, 1018, 1019, 1020, 1021, 1022, 1023] M M := qFm.rfl
  have r1 := hC.cnt4
  show zG n (0, 0) d 244 (0, [.inr (.inr (some 97)), .inl a1, .inl a2, zN, zN, zN], []) M _
  refine zG_w (c' := (5, [.inr (.inr (some 97)), .inl a1, .inl a2, .inl (-1), .inl 0, zN], [])) 4 hd0 hz (by rfl) ?_
  have j5 : ∀ (N : Nat) (v2 v3 : Int) , (250 - v3 : Int).toNat < N → (-1) ≤ v2 ∧ v2 ≤ 249 → 0 ≤ v3 ∧ v3 ≤ 250 → zG n (0, 0) d 244 (5, [.inr (.inr (some 97)), .inl a1, .inl a2, .inl v2, .inl v3, zN], []) M (fun v M' => (qMI M' ∧ qFm [102, 103, 104, 105, 106, 107, 108, 109, 110, 1007, 1010, 1012, 1013, 1016, 1018, 1019, 1020, 1021, 1022, 1023] M M') ∧ ∃ x : Int, v = some (.inl x) ∧ ((-2147483648) ≤ x ∧ x ≤ 2147483647)) := by
    intro N
    induction N with
    | zero => intro v2 v3 hN hv2 hv3; exact absurd hN (Nat.not_lt_zero _)
    | succ N ih5 =>
      intro v2 v3 hN hv2 hv3
      replace hN : 250 - v3 < (N : Int) + 1 := by omega
      refine zG_w (c' := (12, [.inr (.inr (some 97)), .inl a1, .inl a2, .inl v2, .inl v3, zN], [.inl 4, .inr (.inr (some 98)), .inl v3])) 4 hd0 hz (by rfl) ?_
      refine zG_iald hd0 hz rfl rfl (.inl rfl) (by omega) ?_
      show zG n (0, 0) d 244 (13, [.inr (.inr (some 97)), .inl a1, .inl a2, .inl v2, .inl v3, zN], [.inl (M 98 4), .inl v3]) M _
      refine zG_wi_ge (pc := 13) (n' := 16) (t := 106) (L := [.inr (.inr (some 97)), .inl a1, .inl a2, .inl v2, .inl v3, zN]) (st := []) (x := v3) (y := (M 98 4)) 0 hd0 hz (by rfl) (fun hb4 => ?_) (fun hb4 => ?_)
      · refine zG_w (c' := (108, [.inr (.inr (some 97)), .inl a1, .inl a2, .inl v2, .inl v3, zN], [.inl (-1), .inl v2])) 2 hd0 hz (by rfl) ?_
        have j126 : ∀ (v5 : Int) (M6 : zM) , (-2147483648) ≤ v5 ∧ v5 ≤ 2147483647 → qMI M6 → qFm [102, 103, 104, 105, 106, 107, 108, 109, 110, 1007, 1010, 1012, 1013, 1016, 1018, 1019, 1020, 1021, 1022, 1023] M M6 → zG n (0, 0) d 244 (126, [.inr (.inr (some 97)), .inl a1, .inl a2, .inl v2, .inl v3, zN], [.inl v5]) M6 (fun v M' => (qMI M' ∧ qFm [102, 103, 104, 105, 106, 107, 108, 109, 110, 1007, 1010, 1012, 1013, 1016, 1018, 1019, 1020, 1021, 1022, 1023] M M') ∧ ∃ x : Int, v = some (.inl x) ∧ ((-2147483648) ≤ x ∧ x ≤ 2147483647)) := by
          intro v5 M6 hv5 hCM6 hWM6
          have e7 : M6 98 4 = M 98 4 := hWM6 98 4 (by decide)
          exact zG_wr (r := some (.inl v5)) 0 hd0 hz (by rfl) ⟨⟨hCM6, hWM6⟩, _, rfl, by omega⟩
        refine zG_wi_ne (pc := 108) (n' := 111) (t := 115) (L := [.inr (.inr (some 97)), .inl a1, .inl a2, .inl v2, .inl v3, zN]) (st := []) (x := v2) (y := (-1)) 0 hd0 hz (by rfl) (fun hb8 => ?_) (fun hb8 => ?_)
        · refine zG_wp (pc := 123) (L := [.inr (.inr (some 97)), .inl a1, .inl a2, .inl v2, .inl v3, zN]) (st := [.inl a1, .inr (.inr (some 97))]) 5 hd0 hz zp_194 (qx_act0 (by first | exact zdk hd rfl | omega) hC   v2 (by first | with_reducible exact hv2 | omega) 1 (by first | decide | omega) ) (by rfl) (fun x10 hx10 => ?_)
          refine zG_wn (pc := 126) (L := [.inr (.inr (some 97)), .inl a1, .inl a2, .inl v2, .inl v3, zN]) (st := []) 0 hd0 hz zp_243 (qm_243_97 (by first | exact zdk hd rfl | omega) hC   a1 (by first | with_reducible exact ha1 | omega) x10 (by omega) ) (by rfl) (fun x12 M11 hr hx12 => ?_)
          obtain ⟨hCM11, hFM11⟩ := hr
          have hWM11 : qFm [102, 103, 104, 105, 106, 107, 108, 109, 110, 1007, 1010, 1012, 1013, 1016, 1018, 1019, 1020, 1021, 1022, 1023] M M11 := hW.tr hFM11 (by decide)
          have e13 : M11 98 4 = M 98 4 := hFM11 98 4 (by decide)
          exact j126 x12 M11 (by omega) hCM11 hWM11
        · refine zG_w (c' := (126, [.inr (.inr (some 97)), .inl a1, .inl a2, .inl v2, .inl v3, zN], [.inl (-1)])) 2 hd0 hz (by rfl) ?_
          exact j126 (-1) M (by omega) hC hW
      · refine zG_w (c' := (22, [.inr (.inr (some 97)), .inl a1, .inl a2, .inl v2, .inl v3, zN], [.inl v3, .inr (.inr (some 101))])) 3 hd0 hz (by rfl) ?_
        refine zG_bald hd0 hz rfl rfl (.inl rfl) (by omega) ?_
        obtain ⟨x14, hx14⟩ : ∃ x : Int, x = M 101 (v3 : Int).toNat := ⟨_, rfl⟩
        rw [← hx14]
        have hx14r : x14 = 0 ∨ x14 = 1 := by rw [hx14]; exact hC.bl101 _
        show zG n (0, 0) d 244 (23, [.inr (.inr (some 97)), .inl a1, .inl a2, .inl v2, .inl v3, zN], [.inl x14]) M _
        have j65 : ∀ (v15 : Int) , 0 ≤ v15 ∧ v15 ≤ 1 → zG n (0, 0) d 244 (65, [.inr (.inr (some 97)), .inl a1, .inl a2, .inl v2, .inl v3, zN], [.inl v15]) M (fun v M' => (qMI M' ∧ qFm [102, 103, 104, 105, 106, 107, 108, 109, 110, 1007, 1010, 1012, 1013, 1016, 1018, 1019, 1020, 1021, 1022, 1023] M M') ∧ ∃ x : Int, v = some (.inl x) ∧ ((-2147483648) ≤ x ∧ x ≤ 2147483647)) := by
          intro v15 hv15
          refine zG_w (c' := (69, [.inr (.inr (some 97)), .inl a1, .inl a2, .inl v2, .inl v3, .inl v15], [.inl v15])) 2 hd0 hz (by rfl) ?_
          have j99 : ∀ (v16 : Int) , (-1) ≤ v16 ∧ v16 ≤ 249 → zG n (0, 0) d 244 (99, [.inr (.inr (some 97)), .inl a1, .inl a2, .inl v2, .inl v3, .inl v15], [.inl v16]) M (fun v M' => (qMI M' ∧ qFm [102, 103, 104, 105, 106, 107, 108, 109, 110, 1007, 1010, 1012, 1013, 1016, 1018, 1019, 1020, 1021, 1022, 1023] M M') ∧ ∃ x : Int, v = some (.inl x) ∧ ((-2147483648) ≤ x ∧ x ≤ 2147483647)) := by
            intro v16 hv16
            obtain ⟨x17, hx17⟩ : ∃ x : Int, x = w32 (v3 + 1) := ⟨_, rfl⟩
            have hx17e : x17 = v3 + 1 := by rw [hx17]; exact w32_id (by omega)
            refine zG_w (c' := (5, [.inr (.inr (some 97)), .inl a1, .inl a2, .inl v16, .inl x17, .inl v15], [])) 3 hd0 hz (by subst hx17; rfl) ?_
            exact zG_weak (ih5 v16 x17 (by omega) (by omega) (by omega)) ⟨.inr rfl, .inr rfl, .inr rfl, .inr rfl, .inr rfl, .inl rfl, trivial⟩
          have j98 : zG n (0, 0) d 244 (98, [.inr (.inr (some 97)), .inl a1, .inl a2, .inl v2, .inl v3, .inl v15], []) M (fun v M' => (qMI M' ∧ qFm [102, 103, 104, 105, 106, 107, 108, 109, 110, 1007, 1010, 1012, 1013, 1016, 1018, 1019, 1020, 1021, 1022, 1023] M M') ∧ ∃ x : Int, v = some (.inl x) ∧ ((-2147483648) ≤ x ∧ x ≤ 2147483647)) := by
            refine zG_w (c' := (99, [.inr (.inr (some 97)), .inl a1, .inl a2, .inl v2, .inl v3, .inl v15], [.inl v2])) 1 hd0 hz (by rfl) ?_
            exact j99 v2 (by first | with_reducible exact hv2 | omega)
          refine zG_wf_eq (pc := 69) (n' := 72) (t := 98) (L := [.inr (.inr (some 97)), .inl a1, .inl a2, .inl v2, .inl v3, .inl v15]) (st := []) (x := v15) 0 hd0 hz (by rfl) (fun hb18 => ?_) (fun hb18 => ?_)
          · exact j98
          · refine zG_w (c' := (74, [.inr (.inr (some 97)), .inl a1, .inl a2, .inl v2, .inl v3, .inl v15], [.inl (-1), .inl v2])) 2 hd0 hz (by rfl) ?_
            have j93 : zG n (0, 0) d 244 (93, [.inr (.inr (some 97)), .inl a1, .inl a2, .inl v2, .inl v3, .inl v15], []) M (fun v M' => (qMI M' ∧ qFm [102, 103, 104, 105, 106, 107, 108, 109, 110, 1007, 1010, 1012, 1013, 1016, 1018, 1019, 1020, 1021, 1022, 1023] M M') ∧ ∃ x : Int, v = some (.inl x) ∧ ((-2147483648) ≤ x ∧ x ≤ 2147483647)) := by
              refine zG_w (c' := (99, [.inr (.inr (some 97)), .inl a1, .inl a2, .inl v2, .inl v3, .inl v15], [.inl v3])) 2 hd0 hz (by rfl) ?_
              exact j99 v3 (by first | with_reducible exact hv3 | omega)
            refine zG_wi_eq (pc := 74) (n' := 77) (t := 93) (L := [.inr (.inr (some 97)), .inl a1, .inl a2, .inl v2, .inl v3, .inl v15]) (st := []) (x := v2) (y := (-1)) 0 hd0 hz (by rfl) (fun hb19 => ?_) (fun hb19 => ?_)
            · exact j93
            · refine zG_wp (pc := 84) (L := [.inr (.inr (some 97)), .inl a1, .inl a2, .inl v2, .inl v3, .inl v15]) (st := []) 3 hd0 hz zp_194 (qx_act0 (by first | exact zdk hd rfl | omega) hC   v3 (by first | with_reducible exact hv3 | omega) 1 (by first | decide | omega) ) (by rfl) (fun x21 hx21 => ?_)
              refine zG_wp (pc := 90) (L := [.inr (.inr (some 97)), .inl a1, .inl a2, .inl v2, .inl v3, .inl v15]) (st := [.inl x21]) 3 hd0 hz zp_194 (qx_act0 (by first | exact zdk hd rfl | omega) hC   v2 (by first | with_reducible exact hv2 | omega) 1 (by first | decide | omega) ) (by rfl) (fun x23 hx23 => ?_)
              refine zG_wi_lt (pc := 90) (n' := 93) (t := 98) (L := [.inr (.inr (some 97)), .inl a1, .inl a2, .inl v2, .inl v3, .inl v15]) (st := []) (x := x21) (y := x23) 0 hd0 hz (by rfl) (fun hb24 => ?_) (fun hb24 => ?_)
              · exact j98
              · exact j93
        have j64 : zG n (0, 0) d 244 (64, [.inr (.inr (some 97)), .inl a1, .inl a2, .inl v2, .inl v3, zN], []) M (fun v M' => (qMI M' ∧ qFm [102, 103, 104, 105, 106, 107, 108, 109, 110, 1007, 1010, 1012, 1013, 1016, 1018, 1019, 1020, 1021, 1022, 1023] M M') ∧ ∃ x : Int, v = some (.inl x) ∧ ((-2147483648) ≤ x ∧ x ≤ 2147483647)) := by
          refine zG_w (c' := (65, [.inr (.inr (some 97)), .inl a1, .inl a2, .inl v2, .inl v3, zN], [.inl 0])) 1 hd0 hz (by rfl) ?_
          exact j65 0 (by first | decide | omega)
        refine zG_wf_eq (pc := 23) (n' := 26) (t := 64) (L := [.inr (.inr (some 97)), .inl a1, .inl a2, .inl v2, .inl v3, zN]) (st := []) (x := x14) 0 hd0 hz (by rfl) (fun hb25 => ?_) (fun hb25 => ?_)
        · exact j64
        · refine zG_wp (pc := 33) (L := [.inr (.inr (some 97)), .inl a1, .inl a2, .inl v2, .inl v3, zN]) (st := []) 3 hd0 hz zp_194 (qx_act0 (by first | exact zdk hd rfl | omega) hC   v3 (by first | with_reducible exact hv3 | omega) 0 (by first | decide | omega) ) (by rfl) (fun x27 hx27 => ?_)
          refine zG_wi_ne (pc := 35) (n' := 38) (t := 64) (L := [.inr (.inr (some 97)), .inl a1, .inl a2, .inl v2, .inl v3, zN]) (st := []) (x := x27) (y := 6) 1 hd0 hz (by rfl) (fun hb28 => ?_) (fun hb28 => ?_)
          · exact j64
          · refine zG_wp (pc := 45) (L := [.inr (.inr (some 97)), .inl a1, .inl a2, .inl v2, .inl v3, zN]) (st := []) 3 hd0 hz zp_194 (qx_act4 (by first | exact zdk hd rfl | omega) hC   v3 (by first | with_reducible exact hv3 | omega) ) (by rfl) (fun x30 hx30 => ?_)
            refine zG_wi_ne (pc := 46) (n' := 49) (t := 64) (L := [.inr (.inr (some 97)), .inl a1, .inl a2, .inl v2, .inl v3, zN]) (st := []) (x := x30) (y := a1) 1 hd0 hz (by rfl) (fun hb31 => ?_) (fun hb31 => ?_)
            · exact j64
            · refine zG_wp (pc := 56) (L := [.inr (.inr (some 97)), .inl a1, .inl a2, .inl v2, .inl v3, zN]) (st := []) 3 hd0 hz zp_194 (qx_act0 (by first | exact zdk hd rfl | omega) hC   v3 (by first | with_reducible exact hv3 | omega) 1 (by first | decide | omega) ) (by rfl) (fun x33 hx33 => ?_)
              refine zG_wi_gt (pc := 57) (n' := 60) (t := 64) (L := [.inr (.inr (some 97)), .inl a1, .inl a2, .inl v2, .inl v3, zN]) (st := []) (x := x33) (y := a2) 1 hd0 hz (by rfl) (fun hb34 => ?_) (fun hb34 => ?_)
              · exact j64
              · refine zG_w (c' := (65, [.inr (.inr (some 97)), .inl a1, .inl a2, .inl v2, .inl v3, zN], [.inl 1])) 2 hd0 hz (by rfl) ?_
                exact j65 1 (by first | decide | omega)
  exact j5 ((250 - 0 : Int).toNat + 1) (-1) 0 (by first | decide | omega) (by omega) (by omega)
theorem qm_245_97 {n d : Nat} {M : zM} (hd : 3 ≤ d) (hC : qMI M)  (a1 : Int) (ha1 : (-2147483648) ≤ a1 ∧ a1 ≤ 2147483647) (a2 : Int) (ha2 : (-2147483648) ≤ a2 ∧ a2 ≤ 2147483647) (a3 : Int) (ha3 : (-2147483648) ≤ a3 ∧ a3 ≤ 2147483647) : qOkP n d 245 [.inr (.inr (some 97)), .inl a1, .inl a2, .inl a3] 4 M (fun v => ∃ x : Int, v = some (.inl x) ∧ (0 ≤ x ∧ x ≤ 1) ∧ (x = 1 ↔ (0 ≤ a1 ∧ a1 < M 98 1 ∧ 0 ≤ a2 ∧ a2 ≤ 9999 ∧ 0 ≤ a3 ∧ a3 ≤ 9999))) := by
  have hz := zp_245
  have hd0 : 0 < d := by omega
  have r1 := hC.cnt1
  show zG n (0, 0) d 245 (0, [.inr (.inr (some 97)), .inl a1, .inl a2, .inl a3], []) M _
  refine zG_wp (pc := 6) (L := [.inr (.inr (some 97)), .inl a1, .inl a2, .inl a3]) (st := []) 3 hd0 hz zp_182 (qx_is (by first | exact zdk hd rfl | omega) hC   1 (by first | decide | omega) a1 (by first | with_reducible exact ha1 | omega) ) (by rfl) (fun x3 hx3 => ?_)
  have j28 : ∀ (v4 : Int) , 0 ≤ v4 ∧ v4 ≤ 1 → (v4 = 1 ↔ (0 ≤ a1 ∧ a1 < M 98 1 ∧ 0 ≤ a2 ∧ a2 ≤ 9999 ∧ 0 ≤ a3 ∧ a3 ≤ 9999)) → zG n (0, 0) d 245 (28, [.inr (.inr (some 97)), .inl a1, .inl a2, .inl a3], [.inl v4]) M (fun v M' => M' = M ∧ ∃ x : Int, v = some (.inl x) ∧ (0 ≤ x ∧ x ≤ 1) ∧ (x = 1 ↔ (0 ≤ a1 ∧ a1 < M 98 1 ∧ 0 ≤ a2 ∧ a2 ≤ 9999 ∧ 0 ≤ a3 ∧ a3 ≤ 9999))) := by
    intro v4 hv4 hx0_28
    exact zG_zret hd0 hz rfl (by omega) ⟨rfl, _, rfl, by omega, by omega⟩
  have j27 : (¬ (0 ≤ a1 ∧ a1 < M 98 1 ∧ 0 ≤ a2 ∧ a2 ≤ 9999 ∧ 0 ≤ a3 ∧ a3 ≤ 9999)) → zG n (0, 0) d 245 (27, [.inr (.inr (some 97)), .inl a1, .inl a2, .inl a3], []) M (fun v M' => M' = M ∧ ∃ x : Int, v = some (.inl x) ∧ (0 ≤ x ∧ x ≤ 1) ∧ (x = 1 ↔ (0 ≤ a1 ∧ a1 < M 98 1 ∧ 0 ≤ a2 ∧ a2 ≤ 9999 ∧ 0 ≤ a3 ∧ a3 ≤ 9999))) := by
    intro hx0_27
    refine zG_w (c' := (28, [.inr (.inr (some 97)), .inl a1, .inl a2, .inl a3], [.inl 0])) 1 hd0 hz (by rfl) ?_
    exact j28 0 (by first | decide | omega) (by omega)
  refine zG_wf_eq (pc := 6) (n' := 9) (t := 27) (L := [.inr (.inr (some 97)), .inl a1, .inl a2, .inl a3]) (st := []) (x := x3) 0 hd0 hz (by rfl) (fun hb5 => ?_) (fun hb5 => ?_)
  · exact j27 (by omega)
  · have hcx3 := hx3.2.2.mp (by omega)
    clear hx3 hb5
    refine zG_wp (pc := 13) (L := [.inr (.inr (some 97)), .inl a1, .inl a2, .inl a3]) (st := []) 1 hd0 hz zp_184 (qm_184 (by first | exact zdk hd rfl | omega) hC   a2 (by first | with_reducible exact ha2 | omega) ) (by rfl) (fun x7 hr => ?_)
    obtain ⟨hx7, hpx7_0⟩ := hr
    refine zG_wf_eq (pc := 13) (n' := 16) (t := 27) (L := [.inr (.inr (some 97)), .inl a1, .inl a2, .inl a3]) (st := []) (x := x7) 0 hd0 hz (by rfl) (fun hb8 => ?_) (fun hb8 => ?_)
    · exact j27 (by omega)
    · have hcx7 := hpx7_0.mp (by omega)
      clear hx7 hpx7_0 hb8
      refine zG_wp (pc := 20) (L := [.inr (.inr (some 97)), .inl a1, .inl a2, .inl a3]) (st := []) 1 hd0 hz zp_184 (qm_184 (by first | exact zdk hd rfl | omega) hC   a3 (by first | with_reducible exact ha3 | omega) ) (by rfl) (fun x10 hr => ?_)
      obtain ⟨hx10, hpx10_0⟩ := hr
      refine zG_wf_eq (pc := 20) (n' := 23) (t := 27) (L := [.inr (.inr (some 97)), .inl a1, .inl a2, .inl a3]) (st := []) (x := x10) 0 hd0 hz (by rfl) (fun hb11 => ?_) (fun hb11 => ?_)
      · exact j27 (by omega)
      · have hcx10 := hpx10_0.mp (by omega)
        clear hx10 hpx10_0 hb11
        refine zG_w (c' := (28, [.inr (.inr (some 97)), .inl a1, .inl a2, .inl a3], [.inl 1])) 2 hd0 hz (by rfl) ?_
        exact j28 1 (by first | decide | omega) (by omega)
theorem qm_246_97 {n d : Nat} {M : zM} (hd : 8 ≤ d) (hC : qMI M)  (a1 : Int) (ha1 : (-2147483648) ≤ a1 ∧ a1 ≤ 2147483647) (a2 : Int) (ha2 : (-2147483648) ≤ a2 ∧ a2 ≤ 2147483647) (a3 : Int) (ha3 : (-2147483648) ≤ a3 ∧ a3 ≤ 2147483647) : qOkN n d 246 [.inr (.inr (some 97)), .inl a1, .inl a2, .inl a3] 4 [101, 102, 103, 104, 105, 106, 107, 108, 109, 110, 1007, 1010, 1012, 1013, 1016, 1018, 1019, 1020, 1021, 1022, 1023] M (fun v M' => ∃ x : Int, v = some (.inl x) ∧ ((-2147483648) ≤ x ∧ x ≤ 2147483647)) := by
  have hz := zp_246
  have hd0 : 0 < d := by omega
  have hW : qFm [101, 102, 103, 104, 105, 106, 107, 108, 109, 110, 1007, 1010, 1012, 1013, 1016, 1018, 1019, 1020, 1021, 1022, 1023] M M := qFm.rfl
  have r1 := hC.cnt1
  show zG n (0, 0) d 246 (0, [.inr (.inr (some 97)), .inl a1, .inl a2, .inl a3], []) M _
  refine zG_wp (pc := 7) (L := [.inr (.inr (some 97)), .inl a1, .inl a2, .inl a3]) (st := []) 4 hd0 hz zp_245 (qm_245_97 (by first | exact zdk hd rfl | omega) hC   a1 (by first | with_reducible exact ha1 | omega) a2 (by first | with_reducible exact ha2 | omega) a3 (by first | with_reducible exact ha3 | omega) ) (by rfl) (fun x3 hr => ?_)
  obtain ⟨hx3, hpx3_0⟩ := hr
  refine zG_wf_ne (pc := 7) (n' := 10) (t := 13) (L := [.inr (.inr (some 97)), .inl a1, .inl a2, .inl a3]) (st := []) (x := x3) 0 hd0 hz (by rfl) (fun hb4 => ?_) (fun hb4 => ?_)
  · refine zG_wv (pc := 18) (L := [.inr (.inr (some 97)), .inl a1, .inl a2, .inl a3]) (st := []) 2 hd0 hz zp_211 (qm_211_97 (by first | exact zdk hd rfl | omega) hC   a3 (by first | with_reducible exact ha3 | omega) ) (by rfl) (fun M5 hr => ?_)
    obtain ⟨hCM5, hFM5⟩ := hr
    have hWM5 : qFm [101, 102, 103, 104, 105, 106, 107, 108, 109, 110, 1007, 1010, 1012, 1013, 1016, 1018, 1019, 1020, 1021, 1022, 1023] M M5 := hW.tr hFM5 (by decide)
    have e7 : M5 98 1 = M 98 1 := hFM5 98 1 (by decide)
    refine zG_wv (pc := 24) (L := [.inr (.inr (some 97)), .inl a1, .inl a2, .inl a3]) (st := []) 3 hd0 hz zp_240 (qm_240_97 (by first | exact zdk hd rfl | omega) hCM5   a1 (by first | with_reducible exact ha1 | omega) a2 (by first | with_reducible exact ha2 | omega) ) (by rfl) (fun M8 hr => ?_)
    obtain ⟨hCM8, hFM8⟩ := hr
    have hWM8 : qFm [101, 102, 103, 104, 105, 106, 107, 108, 109, 110, 1007, 1010, 1012, 1013, 1016, 1018, 1019, 1020, 1021, 1022, 1023] M M8 := hWM5.tr hFM8 (by decide)
    have e10 : M8 98 1 = M5 98 1 := hFM8 98 1 (by decide)
    have r11 := hCM8.rg 97 21 (by decide) (by decide)
    exact zG_wr (r := some (.inl (M8 97 21))) 2 hd0 hz (by rfl) ⟨⟨hCM8, hWM8⟩, _, rfl, by omega⟩
  · exact zG_wr (r := some (.inl (-2))) 1 hd0 hz (by rfl) ⟨⟨hC, hW⟩, _, rfl, by omega⟩
theorem qm_247_97 {n d : Nat} {M : zM} (hd : 9 ≤ d) (hC : qMI M)  (a1 : Int) (ha1 : (-2147483648) ≤ a1 ∧ a1 ≤ 2147483647) (a2 : Int) (ha2 : (-2147483648) ≤ a2 ∧ a2 ≤ 2147483647) (a3 : Int) (ha3 : (-2147483648) ≤ a3 ∧ a3 ≤ 2147483647) : qOkN n d 247 [.inr (.inr (some 97)), .inl a1, .inl a2, .inl a3] 4 [101, 102, 103, 104, 105, 106, 107, 108, 109, 110, 1007, 1010, 1012, 1013, 1016, 1018, 1019, 1020, 1021, 1022, 1023] M (fun v M' => ∃ x : Int, v = some (.inl x) ∧ ((-2147483648) ≤ x ∧ x ≤ 2147483647)) := by
  have hz := zp_247
  have hd0 : 0 < d := by omega
  have hW : qFm [101, 102, 103, 104, 105, 106, 107, 108, 109, 110, 1007, 1010, 1012, 1013, 1016, 1018, 1019, 1020, 1021, 1022, 1023] M M := qFm.rfl
  have r1 := hC.cnt1
  show zG n (0, 0) d 247 (0, [.inr (.inr (some 97)), .inl a1, .inl a2, .inl a3], []) M _
  refine zG_wp (pc := 7) (L := [.inr (.inr (some 97)), .inl a1, .inl a2, .inl a3]) (st := []) 4 hd0 hz zp_245 (qm_245_97 (by first | exact zdk hd rfl | omega) hC   a1 (by first | with_reducible exact ha1 | omega) a2 (by first | with_reducible exact ha2 | omega) a3 (by first | with_reducible exact ha3 | omega) ) (by rfl) (fun x3 hr => ?_)
  obtain ⟨hx3, hpx3_0⟩ := hr
  refine zG_wf_ne (pc := 7) (n' := 10) (t := 13) (L := [.inr (.inr (some 97)), .inl a1, .inl a2, .inl a3]) (st := []) (x := x3) 0 hd0 hz (by rfl) (fun hb4 => ?_) (fun hb4 => ?_)
  · refine zG_wv (pc := 18) (L := [.inr (.inr (some 97)), .inl a1, .inl a2, .inl a3]) (st := []) 2 hd0 hz zp_211 (qm_211_97 (by first | exact zdk hd rfl | omega) hC   a3 (by first | with_reducible exact ha3 | omega) ) (by rfl) (fun M5 hr => ?_)
    obtain ⟨hCM5, hFM5⟩ := hr
    have hWM5 : qFm [101, 102, 103, 104, 105, 106, 107, 108, 109, 110, 1007, 1010, 1012, 1013, 1016, 1018, 1019, 1020, 1021, 1022, 1023] M M5 := hW.tr hFM5 (by decide)
    have e7 : M5 98 1 = M 98 1 := hFM5 98 1 (by decide)
    refine zG_wn (pc := 24) (L := [.inr (.inr (some 97)), .inl a1, .inl a2, .inl a3]) (st := []) 3 hd0 hz zp_243 (qm_243_97 (by first | exact zdk hd rfl | omega) hCM5   a1 (by first | with_reducible exact ha1 | omega) a2 (by first | with_reducible exact ha2 | omega) ) (by rfl) (fun x9 M8 hr hx9 => ?_)
    obtain ⟨hCM8, hFM8⟩ := hr
    have hWM8 : qFm [101, 102, 103, 104, 105, 106, 107, 108, 109, 110, 1007, 1010, 1012, 1013, 1016, 1018, 1019, 1020, 1021, 1022, 1023] M M8 := hWM5.tr hFM8 (by decide)
    have e10 : M8 98 1 = M5 98 1 := hFM8 98 1 (by decide)
    exact zG_wr (r := some (.inl x9)) 0 hd0 hz (by rfl) ⟨⟨hCM8, hWM8⟩, _, rfl, by omega⟩
  · exact zG_wr (r := some (.inl (-2))) 1 hd0 hz (by rfl) ⟨⟨hC, hW⟩, _, rfl, by omega⟩
theorem qm_248_97 {n d : Nat} {M : zM} (hd : 8 ≤ d) (hC : qMI M)  (a1 : Int) (ha1 : (-2147483648) ≤ a1 ∧ a1 ≤ 2147483647) (a2 : Int) (ha2 : (-2147483648) ≤ a2 ∧ a2 ≤ 2147483647) (a3 : Int) (ha3 : (-2147483648) ≤ a3 ∧ a3 ≤ 2147483647) (a4 : Int) (ha4 : (-2147483648) ≤ a4 ∧ a4 ≤ 2147483647) : qOkN n d 248 [.inr (.inr (some 97)), .inl a1, .inl a2, .inl a3, .inl a4] 5 [101, 102, 103, 104, 105, 106, 107, 108, 109, 110, 1007, 1010, 1012, 1013, 1016, 1018, 1019, 1020, 1021, 1022, 1023] M (fun v M' => ∃ x : Int, v = some (.inr (.inl x))) := by
  have hz := zp_248
  have hd0 : 0 < d := by omega
  have hW : qFm [101, 102, 103, 104, 105, 106, 107, 108, 109, 110, 1007, 1010, 1012, 1013, 1016, 1018, 1019, 1020, 1021, 1022, 1023] M M := qFm.rfl
  have r1 := hC.cnt1
  show zG n (0, 0) d 248 (0, [.inr (.inr (some 97)), .inl a1, .inl a2, .inl a3, .inl a4], []) M _
  refine zG_wp (pc := 7) (L := [.inr (.inr (some 97)), .inl a1, .inl a2, .inl a3, .inl a4]) (st := []) 4 hd0 hz zp_245 (qm_245_97 (by first | exact zdk hd rfl | omega) hC   a1 (by first | with_reducible exact ha1 | omega) a2 (by first | with_reducible exact ha2 | omega) a3 (by first | with_reducible exact ha3 | omega) ) (by rfl) (fun x3 hr => ?_)
  obtain ⟨hx3, hpx3_0⟩ := hr
  have j21 : zG n (0, 0) d 248 (21, [.inr (.inr (some 97)), .inl a1, .inl a2, .inl a3, .inl a4], []) M (fun v M' => (qMI M' ∧ qFm [101, 102, 103, 104, 105, 106, 107, 108, 109, 110, 1007, 1010, 1012, 1013, 1016, 1018, 1019, 1020, 1021, 1022, 1023] M M') ∧ ∃ x : Int, v = some (.inr (.inl x))) := by
    exact zG_wr (r := some (.inr (.inl ((-2))))) 1 hd0 hz (by rfl) ⟨⟨hC, hW⟩, _, rfl⟩
  refine zG_wf_eq (pc := 7) (n' := 10) (t := 21) (L := [.inr (.inr (some 97)), .inl a1, .inl a2, .inl a3, .inl a4]) (st := []) (x := x3) 0 hd0 hz (by rfl) (fun hb4 => ?_) (fun hb4 => ?_)
  · exact j21
  · refine zG_wp (pc := 18) (L := [.inr (.inr (some 97)), .inl a1, .inl a2, .inl a3, .inl a4]) (st := []) 3 hd0 hz zp_180 (qx_in (by first | exact zdk hd rfl | omega) hC   a4 (by first | with_reducible exact ha4 | omega) 0 (by first | decide | omega) 15 (by first | decide | omega) ) (by rfl) (fun x6 hx6 => ?_)
    refine zG_wf_ne (pc := 18) (n' := 21) (t := 25) (L := [.inr (.inr (some 97)), .inl a1, .inl a2, .inl a3, .inl a4]) (st := []) (x := x6) 0 hd0 hz (by rfl) (fun hb7 => ?_) (fun hb7 => ?_)
    · have hcx6 := hx6.2.2.mp (by omega)
      clear hx6 hb7
      refine zG_wv (pc := 30) (L := [.inr (.inr (some 97)), .inl a1, .inl a2, .inl a3, .inl a4]) (st := []) 2 hd0 hz zp_211 (qm_211_97 (by first | exact zdk hd rfl | omega) hC   a3 (by first | with_reducible exact ha3 | omega) ) (by rfl) (fun M8 hr => ?_)
      obtain ⟨hCM8, hFM8⟩ := hr
      have hWM8 : qFm [101, 102, 103, 104, 105, 106, 107, 108, 109, 110, 1007, 1010, 1012, 1013, 1016, 1018, 1019, 1020, 1021, 1022, 1023] M M8 := hW.tr hFM8 (by decide)
      have e10 : M8 98 1 = M 98 1 := hFM8 98 1 (by decide)
      refine zG_wv (pc := 36) (L := [.inr (.inr (some 97)), .inl a1, .inl a2, .inl a3, .inl a4]) (st := []) 3 hd0 hz zp_240 (qm_240_97 (by first | exact zdk hd rfl | omega) hCM8   a1 (by first | with_reducible exact ha1 | omega) a2 (by first | with_reducible exact ha2 | omega) ) (by rfl) (fun M11 hr => ?_)
      obtain ⟨hCM11, hFM11⟩ := hr
      have hWM11 : qFm [101, 102, 103, 104, 105, 106, 107, 108, 109, 110, 1007, 1010, 1012, 1013, 1016, 1018, 1019, 1020, 1021, 1022, 1023] M M11 := hWM8.tr hFM11 (by decide)
      have e13 : M11 98 1 = M8 98 1 := hFM11 98 1 (by decide)
      refine zG_w (c' := (38, [.inr (.inr (some 97)), .inl a1, .inl a2, .inl a3, .inl a4], [.inl 1, .inr (.inr (some 97))])) 2 hd0 hz (by rfl) ?_
      refine zG_putf (.inr ⟨rfl, by omega⟩) hd0 hz rfl (by decide) rfl rfl ?_
      obtain ⟨M14, hM14⟩ : ∃ X : zM, X = zput M11 97 20 1 := ⟨_, rfl⟩
      rw [← hM14]
      have hCM14 : qMI M14 := by rw [hM14]; exact hCM11.put (by decide) (by decide) (by first | exact qMC_97 (by decide) (fun _ => by omega) | (refine ⟨fun _ => ?_, fun _ => ?_, fun h => ⟨fun _ => ?_, fun _ => ?_, fun _ => ?_, fun _ => ?_, fun _ => ?_⟩, fun h => ?_, fun h => ?_⟩ <;> first | omega | exact absurd rfl (by assumption) | (rename_i h9; exact absurd h9 (by decide))))
      have hWM14 : qFm [101, 102, 103, 104, 105, 106, 107, 108, 109, 110, 1007, 1010, 1012, 1013, 1016, 1018, 1019, 1020, 1021, 1022, 1023] M M14 := by rw [hM14]; exact hWM11.put (by decide)
      have e15 : M14 98 1 = M11 98 1 := by rw [hM14]; exact qput_ne (by decide)
      have e16 : M14 97 20 = 1 := by rw [hM14]; exact qput_eq
      show zG n (0, 0) d 248 (41, [.inr (.inr (some 97)), .inl a1, .inl a2, .inl a3, .inl a4], []) M14 _
      refine zG_w (c' := (43, [.inr (.inr (some 97)), .inl a1, .inl a2, .inl a3, .inl a4], [.inl a4])) 1 hd0 hz (by rfl) ?_
      have j74 : ∀ (v17 : Int) , zG n (0, 0) d 248 (74, [.inr (.inr (some 97)), .inl a1, .inl a2, .inl a3, .inl a4], [.inr (.inl (v17))]) M14 (fun v M' => (qMI M' ∧ qFm [101, 102, 103, 104, 105, 106, 107, 108, 109, 110, 1007, 1010, 1012, 1013, 1016, 1018, 1019, 1020, 1021, 1022, 1023] M M') ∧ ∃ x : Int, v = some (.inr (.inl x))) := by
        intro v17
        exact zG_wr (r := some (.inr (.inl (v17)))) 0 hd0 hz (by rfl) ⟨⟨hCM14, hWM14⟩, _, rfl⟩
      refine zG_wf_ne (pc := 43) (n' := 46) (t := 53) (L := [.inr (.inr (some 97)), .inl a1, .inl a2, .inl a3, .inl a4]) (st := []) (x := a4) 0 hd0 hz (by rfl) (fun hb18 => ?_) (fun hb18 => ?_)
      · refine zG_wi_ne (pc := 57) (n' := 60) (t := 67) (L := [.inr (.inr (some 97)), .inl a1, .inl a2, .inl a3, .inl a4]) (st := []) (x := a4) (y := 15) 2 hd0 hz (by rfl) (fun hb19 => ?_) (fun hb19 => ?_)
        · refine zG_wl (pc := 74) (L := [.inr (.inr (some 97)), .inl a1, .inl a2, .inl a3, .inl a4]) (st := []) 3 hd0 hz zp_233 (qm_233_97 (by first | exact zdk hd rfl | omega) hCM14   a4 ) (by rfl) (fun x21 => ?_)
          exact j74 x21
        · refine zG_w (c' := (74, [.inr (.inr (some 97)), .inl a1, .inl a2, .inl a3, .inl a4], [.inr (.inl (M14 97 22))])) 3 hd0 hz (by rfl) ?_
          exact j74 (M14 97 22)
      · refine zG_w (c' := (74, [.inr (.inr (some 97)), .inl a1, .inl a2, .inl a3, .inl a4], [.inr (.inl (M14 97 23))])) 3 hd0 hz (by rfl) ?_
        exact j74 (M14 97 23)
    · exact j21
theorem qm_249_97 {n d : Nat} {M : zM} (hd : 8 ≤ d) (hC : qMI M)  (a1 : Int) (ha1 : (-2147483648) ≤ a1 ∧ a1 ≤ 2147483647) (a2 : Int) (ha2 : (-2147483648) ≤ a2 ∧ a2 ≤ 2147483647) (a3 : Int) (ha3 : (-2147483648) ≤ a3 ∧ a3 ≤ 2147483647) : qOkN n d 249 [.inr (.inr (some 97)), .inl a1, .inl a2, .inl a3] 7 [101, 102, 103, 104, 105, 106, 107, 108, 109, 110, 1007, 1010, 1012, 1013, 1016, 1018, 1019, 1020, 1021, 1022, 1023] M (fun v M' => ∃ x : Int, v = some (.inl x) ∧ ((-2) ≤ x ∧ x ≤ 2000)) := by
  have hz := zp_249
  have hd0 : 0 < d := by omega
  have hW : qFm [101, 102, 103, 104, 105, 106, 107, 108, 109, 110, 1007, 1010, 1012, 1013, 1016, 1018, 1019, 1020, 1021, 1022, 1023] M M := qFm.rfl
  have r1 := hC.cnt1
  show zG n (0, 0) d 249 (0, [.inr (.inr (some 97)), .inl a1, .inl a2, .inl a3, zN, zN, zN], []) M _
  refine zG_wp (pc := 7) (L := [.inr (.inr (some 97)), .inl a1, .inl a2, .inl a3, zN, zN, zN]) (st := []) 4 hd0 hz zp_245 (qm_245_97 (by first | exact zdk hd rfl | omega) hC   a1 (by first | with_reducible exact ha1 | omega) a2 (by first | with_reducible exact ha2 | omega) a3 (by first | with_reducible exact ha3 | omega) ) (by rfl) (fun x3 hr => ?_)
  obtain ⟨hx3, hpx3_0⟩ := hr
  refine zG_wf_ne (pc := 7) (n' := 10) (t := 13) (L := [.inr (.inr (some 97)), .inl a1, .inl a2, .inl a3, zN, zN, zN]) (st := []) (x := x3) 0 hd0 hz (by rfl) (fun hb4 => ?_) (fun hb4 => ?_)
  · refine zG_wv (pc := 18) (L := [.inr (.inr (some 97)), .inl a1, .inl a2, .inl a3, zN, zN, zN]) (st := []) 2 hd0 hz zp_211 (qm_211_97 (by first | exact zdk hd rfl | omega) hC   a3 (by first | with_reducible exact ha3 | omega) ) (by rfl) (fun M5 hr => ?_)
    obtain ⟨hCM5, hFM5⟩ := hr
    have hWM5 : qFm [101, 102, 103, 104, 105, 106, 107, 108, 109, 110, 1007, 1010, 1012, 1013, 1016, 1018, 1019, 1020, 1021, 1022, 1023] M M5 := hW.tr hFM5 (by decide)
    have e7 : M5 98 1 = M 98 1 := hFM5 98 1 (by decide)
    refine zG_wv (pc := 24) (L := [.inr (.inr (some 97)), .inl a1, .inl a2, .inl a3, zN, zN, zN]) (st := []) 3 hd0 hz zp_240 (qm_240_97 (by first | exact zdk hd rfl | omega) hCM5   a1 (by first | with_reducible exact ha1 | omega) a2 (by first | with_reducible exact ha2 | omega) ) (by rfl) (fun M8 hr => ?_)
    obtain ⟨hCM8, hFM8⟩ := hr
    have hWM8 : qFm [101, 102, 103, 104, 105, 106, 107, 108, 109, 110, 1007, 1010, 1012, 1013, 1016, 1018, 1019, 1020, 1021, 1022, 1023] M M8 := hWM5.tr hFM8 (by decide)
    have e10 : M8 98 1 = M5 98 1 := hFM8 98 1 (by decide)
    refine zG_wn (pc := 30) (L := [.inr (.inr (some 97)), .inl a1, .inl a2, .inl a3, zN, zN, zN]) (st := []) 3 hd0 hz zp_242 (qm_242_97 (by first | exact zdk hd rfl | omega) hCM8   a1 (by first | with_reducible exact ha1 | omega) a2 (by first | with_reducible exact ha2 | omega) ) (by rfl) (fun x12 M11 hr hx12 => ?_)
    obtain ⟨hCM11, hFM11⟩ := hr
    have hWM11 : qFm [101, 102, 103, 104, 105, 106, 107, 108, 109, 110, 1007, 1010, 1012, 1013, 1016, 1018, 1019, 1020, 1021, 1022, 1023] M M11 := hWM8.tr hFM11 (by decide)
    have e13 : M11 98 1 = M8 98 1 := hFM11 98 1 (by decide)
    refine zG_wn (pc := 38) (L := [.inr (.inr (some 97)), .inl a1, .inl a2, .inl a3, .inl x12, zN, zN]) (st := []) 3 hd0 hz zp_241 (qm_241_97 (by first | exact zdk hd rfl | omega) hCM11   x12 (by omega) ) (by rfl) (fun x15 M14 hr hx15 => ?_)
    obtain ⟨hCM14, hFM14⟩ := hr
    have hWM14 : qFm [101, 102, 103, 104, 105, 106, 107, 108, 109, 110, 1007, 1010, 1012, 1013, 1016, 1018, 1019, 1020, 1021, 1022, 1023] M M14 := hWM11.tr hFM14 (by decide)
    have e16 : M14 98 1 = M11 98 1 := hFM14 98 1 (by decide)
    refine zG_w (c' := (43, [.inr (.inr (some 97)), .inl a1, .inl a2, .inl a3, .inl x12, .inl x15, .inl 1], [])) 3 hd0 hz (by rfl) ?_
    have j43 : ∀ (N : Nat) (v17 : Int) (M18 : zM) , (2001 - v17 : Int).toNat < N → 1 ≤ v17 ∧ v17 ≤ 2001 → qMI M18 → qFm [101, 102, 103, 104, 105, 106, 107, 108, 109, 110, 1007, 1010, 1012, 1013, 1016, 1018, 1019, 1020, 1021, 1022, 1023] M M18 → zG n (0, 0) d 249 (43, [.inr (.inr (some 97)), .inl a1, .inl a2, .inl a3, .inl x12, .inl x15, .inl v17], []) M18 (fun v M' => (qMI M' ∧ qFm [101, 102, 103, 104, 105, 106, 107, 108, 109, 110, 1007, 1010, 1012, 1013, 1016, 1018, 1019, 1020, 1021, 1022, 1023] M M') ∧ ∃ x : Int, v = some (.inl x) ∧ ((-2) ≤ x ∧ x ≤ 2000)) := by
      intro N
      induction N with
      | zero => intro v17 M18 hN hv17 hCM18 hWM18; exact absurd hN (Nat.not_lt_zero _)
      | succ N ih43 =>
        intro v17 M18 hN hv17 hCM18 hWM18
        replace hN : 2001 - v17 < (N : Int) + 1 := by omega
        have e19 : M18 98 1 = M 98 1 := hWM18 98 1 (by decide)
        refine zG_wi_gt (pc := 48) (n' := 51) (t := 77) (L := [.inr (.inr (some 97)), .inl a1, .inl a2, .inl a3, .inl x12, .inl x15, .inl v17]) (st := []) (x := v17) (y := 2000) 2 hd0 hz (by rfl) (fun hb20 => ?_) (fun hb20 => ?_)
        · exact zG_wr (r := some (.inl (-1))) 1 hd0 hz (by rfl) ⟨⟨hCM18, hWM18⟩, _, rfl, by omega⟩
        · refine zG_w (c' := (54, [.inr (.inr (some 97)), .inl a1, .inl a2, .inl a3, .inl x12, .inl x15, .inl v17], [.inl v17, .inr (.inr (some 97))])) 2 hd0 hz (by rfl) ?_
          refine zG_putf (.inl rfl) hd0 hz rfl (by decide) rfl rfl ?_
          obtain ⟨M21, hM21⟩ : ∃ X : zM, X = zput M18 97 19 v17 := ⟨_, rfl⟩
          rw [← hM21]
          have hCM21 : qMI M21 := by rw [hM21]; exact hCM18.put (by decide) (by decide) (by first | exact qMC_97 (by decide) (fun _ => by omega) | (refine ⟨fun _ => ?_, fun _ => ?_, fun h => ⟨fun _ => ?_, fun _ => ?_, fun _ => ?_, fun _ => ?_, fun _ => ?_⟩, fun h => ?_, fun h => ?_⟩ <;> first | omega | exact absurd rfl (by assumption) | (rename_i h9; exact absurd h9 (by decide))))
          have hWM21 : qFm [101, 102, 103, 104, 105, 106, 107, 108, 109, 110, 1007, 1010, 1012, 1013, 1016, 1018, 1019, 1020, 1021, 1022, 1023] M M21 := by rw [hM21]; exact hWM18.put (by decide)
          have e22 : M21 98 1 = M18 98 1 := by rw [hM21]; exact qput_ne (by decide)
          have e23 : M21 97 19 = v17 := by rw [hM21]; exact qput_eq
          show zG n (0, 0) d 249 (57, [.inr (.inr (some 97)), .inl a1, .inl a2, .inl a3, .inl x12, .inl x15, .inl v17], []) M21 _
          refine zG_wn (pc := 63) (L := [.inr (.inr (some 97)), .inl a1, .inl a2, .inl a3, .inl x12, .inl x15, .inl v17]) (st := []) 2 hd0 hz zp_241 (qm_241_97 (by first | exact zdk hd rfl | omega) hCM21   x12 (by omega) ) (by rfl) (fun x25 M24 hr hx25 => ?_)
          obtain ⟨hCM24, hFM24⟩ := hr
          have hWM24 : qFm [101, 102, 103, 104, 105, 106, 107, 108, 109, 110, 1007, 1010, 1012, 1013, 1016, 1018, 1019, 1020, 1021, 1022, 1023] M M24 := hWM21.tr hFM24 (by decide)
          have e26 : M24 98 1 = M21 98 1 := hFM24 98 1 (by decide)
          have e27 : M24 97 19 = M21 97 19 := hFM24 97 19 (by decide)
          refine zG_wi_eq (pc := 65) (n' := 68) (t := 71) (L := [.inr (.inr (some 97)), .inl a1, .inl a2, .inl a3, .inl x12, .inl x15, .inl v17]) (st := []) (x := x25) (y := x15) 1 hd0 hz (by rfl) (fun hb28 => ?_) (fun hb28 => ?_)
          · obtain ⟨x29, hx29⟩ : ∃ x : Int, x = w32 (v17 + 1) := ⟨_, rfl⟩
            have hx29e : x29 = v17 + 1 := by rw [hx29]; exact w32_id (by omega)
            refine zG_w (c' := (43, [.inr (.inr (some 97)), .inl a1, .inl a2, .inl a3, .inl x12, .inl x15, .inl x29], [])) 2 hd0 hz (by subst hx29; rfl) ?_
            exact ih43 x29 M24 (by omega) (by omega) hCM24 hWM24
          · exact zG_wr (r := some (.inl v17)) 1 hd0 hz (by rfl) ⟨⟨hCM24, hWM24⟩, _, rfl, by omega⟩
    exact j43 ((2001 - 1 : Int).toNat + 1) 1 M14 (by omega) (by omega) hCM14 hWM14
  · exact zG_wr (r := some (.inl (-2))) 1 hd0 hz (by rfl) ⟨⟨hC, hW⟩, _, rfl, by omega⟩
theorem qm_250_97 {n d : Nat} {M : zM} (hd : 10 ≤ d) (hC : qMI M)  (a1 : Int) (ha1 : (-2147483648) ≤ a1 ∧ a1 ≤ 2147483647) (a2 : Int) (ha2 : (-2147483648) ≤ a2 ∧ a2 ≤ 2147483647) (a3 : Int) (ha3 : (-2147483648) ≤ a3 ∧ a3 ≤ 2147483647) : qOkN n d 250 [.inr (.inr (some 97)), .inl a1, .inl a2, .inl a3] 4 [101, 102, 103, 104, 105, 106, 107, 108, 109, 110, 1007, 1010, 1012, 1013, 1016, 1018, 1019, 1020, 1021, 1022, 1023] M (fun v M' => ∃ x : Int, v = some (.inl x) ∧ ((-2147483648) ≤ x ∧ x ≤ 2147483647)) := by
  have hz := zp_250
  have hd0 : 0 < d := by omega
  have hW : qFm [101, 102, 103, 104, 105, 106, 107, 108, 109, 110, 1007, 1010, 1012, 1013, 1016, 1018, 1019, 1020, 1021, 1022, 1023] M M := qFm.rfl
  have r1 := hC.cnt1
  show zG n (0, 0) d 250 (0, [.inr (.inr (some 97)), .inl a1, .inl a2, .inl a3], []) M _
  refine zG_wp (pc := 7) (L := [.inr (.inr (some 97)), .inl a1, .inl a2, .inl a3]) (st := []) 4 hd0 hz zp_245 (qm_245_97 (by first | exact zdk hd rfl | omega) hC   a1 (by first | with_reducible exact ha1 | omega) a2 (by first | with_reducible exact ha2 | omega) a3 (by first | with_reducible exact ha3 | omega) ) (by rfl) (fun x3 hr => ?_)
  obtain ⟨hx3, hpx3_0⟩ := hr
  refine zG_wf_ne (pc := 7) (n' := 10) (t := 13) (L := [.inr (.inr (some 97)), .inl a1, .inl a2, .inl a3]) (st := []) (x := x3) 0 hd0 hz (by rfl) (fun hb4 => ?_) (fun hb4 => ?_)
  · refine zG_wv (pc := 18) (L := [.inr (.inr (some 97)), .inl a1, .inl a2, .inl a3]) (st := []) 2 hd0 hz zp_211 (qm_211_97 (by first | exact zdk hd rfl | omega) hC   a3 (by first | with_reducible exact ha3 | omega) ) (by rfl) (fun M5 hr => ?_)
    obtain ⟨hCM5, hFM5⟩ := hr
    have hWM5 : qFm [101, 102, 103, 104, 105, 106, 107, 108, 109, 110, 1007, 1010, 1012, 1013, 1016, 1018, 1019, 1020, 1021, 1022, 1023] M M5 := hW.tr hFM5 (by decide)
    have e7 : M5 98 1 = M 98 1 := hFM5 98 1 (by decide)
    refine zG_wn (pc := 24) (L := [.inr (.inr (some 97)), .inl a1, .inl a2, .inl a3]) (st := []) 3 hd0 hz zp_244 (qm_244_97 (by first | exact zdk hd rfl | omega) hCM5   a1 (by first | with_reducible exact ha1 | omega) a2 (by first | with_reducible exact ha2 | omega) ) (by rfl) (fun x9 M8 hr hx9 => ?_)
    obtain ⟨hCM8, hFM8⟩ := hr
    have hWM8 : qFm [101, 102, 103, 104, 105, 106, 107, 108, 109, 110, 1007, 1010, 1012, 1013, 1016, 1018, 1019, 1020, 1021, 1022, 1023] M M8 := hWM5.tr hFM8 (by decide)
    have e10 : M8 98 1 = M5 98 1 := hFM8 98 1 (by decide)
    exact zG_wr (r := some (.inl x9)) 0 hd0 hz (by rfl) ⟨⟨hCM8, hWM8⟩, _, rfl, by omega⟩
  · exact zG_wr (r := some (.inl (-2))) 1 hd0 hz (by rfl) ⟨⟨hC, hW⟩, _, rfl, by omega⟩
