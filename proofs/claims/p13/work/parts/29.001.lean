theorem qm_234_97 {n d : Nat} {M : zM} (hd : 1 ≤ d) (hC : qMI M)  (a1 : Int) (ha1 : (-2147483648) ≤ a1 ∧ a1 ≤ 2147483647) (a2 : Int) (a3 : Int) : qOkP n d 234 [.inr (.inr (some 97)), .inl a1, .inr (.inl (a2)), .inr (.inl (a3))] 6 M (fun v => ∃ x : Int, v = some (.inr (.inl x))) := by
  have hz := zp_234
  have hd0 : 0 < d := by omega
  show zG n (0, 0) d 234 (0, [.inr (.inr (some 97)), .inl a1, .inr (.inl (a2)), zN, .inr (.inl (a3)), zN], []) M _
  refine zG_blk (c' := (1, [.inr (.inr (some 97)), .inl a1, .inr (.inl (a2)), zN, .inr (.inl (a3)), zN], [.inl a1])) 1 hd0 hz (by rfl) ?_
  have j52 : zG n (0, 0) d 234 (52, [.inr (.inr (some 97)), .inl a1, .inr (.inl (a2)), zN, .inr (.inl (a3)), zN], []) M (fun v M' => M' = M ∧ ∃ x : Int, v = some (.inr (.inl x))) := by
    obtain ⟨x1, hx1⟩ : ∃ x : Int, x = w64 (a2 * a3) := ⟨_, rfl⟩
    refine zG_blk (c' := (56, [.inr (.inr (some 97)), .inl a1, .inr (.inl (a2)), zN, .inr (.inl (a3)), zN], [.inr (.inl (x1))])) 3 hd0 hz (by subst hx1; rfl) ?_
    exact zG_ret hd0 hz rfl rfl ⟨rfl, _, rfl⟩
  have j57 : zG n (0, 0) d 234 (57, [.inr (.inr (some 97)), .inl a1, .inr (.inl (a2)), zN, .inr (.inl (a3)), zN], []) M (fun v M' => M' = M ∧ ∃ x : Int, v = some (.inr (.inl x))) := by
    refine zG_blk (c' := (60, [.inr (.inr (some 97)), .inl a1, .inr (.inl (a2)), zN, .inr (.inl (a3)), zN], [.inr (.inl (0)), .inr (.inl (a3))])) 2 hd0 hz (by rfl) ?_
    have j72 : ∀ (v2 : Int) , zG n (0, 0) d 234 (72, [.inr (.inr (some 97)), .inl a1, .inr (.inl (a2)), zN, .inr (.inl (a3)), zN], [.inr (.inl (v2))]) M (fun v M' => M' = M ∧ ∃ x : Int, v = some (.inr (.inl x))) := by
      intro v2
      exact zG_ret hd0 hz rfl rfl ⟨rfl, _, rfl⟩
    refine zG_lc_ne hd0 hz rfl rfl (fun hb60 => ?_) (fun hb60 => ?_)
    · refine zG_blk (c' := (71, [.inr (.inr (some 97)), .inl a1, .inr (.inl (a2)), zN, .inr (.inl (a3)), zN], [.inr (.inl (a3)), .inr (.inl (a2))])) 2 hd0 hz (by rfl) ?_
      refine zG_ldiv hd0 hz rfl (by omega) ?_
      generalize w64 (a2.tdiv a3) = x3
      show zG n (0, 0) d 234 (72, [.inr (.inr (some 97)), .inl a1, .inr (.inl (a2)), zN, .inr (.inl (a3)), zN], [.inr (.inl (x3))]) M _
      exact j72 x3
    · refine zG_blk (c' := (72, [.inr (.inr (some 97)), .inl a1, .inr (.inl (a2)), zN, .inr (.inl (a3)), zN], [.inr (.inl (0))])) 2 hd0 hz (by rfl) ?_
      exact j72 0
  have j73 : zG n (0, 0) d 234 (73, [.inr (.inr (some 97)), .inl a1, .inr (.inl (a2)), zN, .inr (.inl (a3)), zN], []) M (fun v M' => M' = M ∧ ∃ x : Int, v = some (.inr (.inl x))) := by
    obtain ⟨x4, hx4⟩ : ∃ x : Int, x = w64 (a2 + a3) := ⟨_, rfl⟩
    refine zG_blk (c' := (77, [.inr (.inr (some 97)), .inl a1, .inr (.inl (a2)), zN, .inr (.inl (a3)), zN], [.inr (.inl (x4))])) 3 hd0 hz (by subst hx4; rfl) ?_
    exact zG_ret hd0 hz rfl rfl ⟨rfl, _, rfl⟩
  have j78 : zG n (0, 0) d 234 (78, [.inr (.inr (some 97)), .inl a1, .inr (.inl (a2)), zN, .inr (.inl (a3)), zN], []) M (fun v M' => M' = M ∧ ∃ x : Int, v = some (.inr (.inl x))) := by
    obtain ⟨x5, hx5⟩ : ∃ x : Int, x = w64 (a2 - a3) := ⟨_, rfl⟩
    refine zG_blk (c' := (82, [.inr (.inr (some 97)), .inl a1, .inr (.inl (a2)), zN, .inr (.inl (a3)), zN], [.inr (.inl (x5))])) 3 hd0 hz (by subst hx5; rfl) ?_
    exact zG_ret hd0 hz rfl rfl ⟨rfl, _, rfl⟩
  have j83 : zG n (0, 0) d 234 (83, [.inr (.inr (some 97)), .inl a1, .inr (.inl (a2)), zN, .inr (.inl (a3)), zN], []) M (fun v M' => M' = M ∧ ∃ x : Int, v = some (.inr (.inl x))) := by
    refine zG_blk (c' := (86, [.inr (.inr (some 97)), .inl a1, .inr (.inl (a2)), zN, .inr (.inl (a3)), zN], [.inr (.inl (a3)), .inr (.inl (a2))])) 2 hd0 hz (by rfl) ?_
    have j95 : ∀ (v6 : Int) , zG n (0, 0) d 234 (95, [.inr (.inr (some 97)), .inl a1, .inr (.inl (a2)), zN, .inr (.inl (a3)), zN], [.inr (.inl (v6))]) M (fun v M' => M' = M ∧ ∃ x : Int, v = some (.inr (.inl x))) := by
      intro v6
      exact zG_ret hd0 hz rfl rfl ⟨rfl, _, rfl⟩
    refine zG_lc_ge hd0 hz rfl rfl (fun hb86 => ?_) (fun hb86 => ?_)
    · refine zG_blk (c' := (95, [.inr (.inr (some 97)), .inl a1, .inr (.inl (a2)), zN, .inr (.inl (a3)), zN], [.inr (.inl (0))])) 1 hd0 hz (by rfl) ?_
      exact j95 0
    · refine zG_blk (c' := (95, [.inr (.inr (some 97)), .inl a1, .inr (.inl (a2)), zN, .inr (.inl (a3)), zN], [.inr (.inl (1))])) 2 hd0 hz (by rfl) ?_
      exact j95 1
  have j96 : zG n (0, 0) d 234 (96, [.inr (.inr (some 97)), .inl a1, .inr (.inl (a2)), zN, .inr (.inl (a3)), zN], []) M (fun v M' => M' = M ∧ ∃ x : Int, v = some (.inr (.inl x))) := by
    refine zG_blk (c' := (99, [.inr (.inr (some 97)), .inl a1, .inr (.inl (a2)), zN, .inr (.inl (a3)), zN], [.inr (.inl (a3)), .inr (.inl (a2))])) 2 hd0 hz (by rfl) ?_
    have j108 : ∀ (v7 : Int) , zG n (0, 0) d 234 (108, [.inr (.inr (some 97)), .inl a1, .inr (.inl (a2)), zN, .inr (.inl (a3)), zN], [.inr (.inl (v7))]) M (fun v M' => M' = M ∧ ∃ x : Int, v = some (.inr (.inl x))) := by
      intro v7
      exact zG_ret hd0 hz rfl rfl ⟨rfl, _, rfl⟩
    refine zG_lc_le hd0 hz rfl rfl (fun hb99 => ?_) (fun hb99 => ?_)
    · refine zG_blk (c' := (108, [.inr (.inr (some 97)), .inl a1, .inr (.inl (a2)), zN, .inr (.inl (a3)), zN], [.inr (.inl (0))])) 1 hd0 hz (by rfl) ?_
      exact j108 0
    · refine zG_blk (c' := (108, [.inr (.inr (some 97)), .inl a1, .inr (.inl (a2)), zN, .inr (.inl (a3)), zN], [.inr (.inl (1))])) 2 hd0 hz (by rfl) ?_
      exact j108 1
  have j109 : zG n (0, 0) d 234 (109, [.inr (.inr (some 97)), .inl a1, .inr (.inl (a2)), zN, .inr (.inl (a3)), zN], []) M (fun v M' => M' = M ∧ ∃ x : Int, v = some (.inr (.inl x))) := by
    refine zG_blk (c' := (112, [.inr (.inr (some 97)), .inl a1, .inr (.inl (a2)), zN, .inr (.inl (a3)), zN], [.inr (.inl (a3)), .inr (.inl (a2))])) 2 hd0 hz (by rfl) ?_
    have j121 : ∀ (v8 : Int) , zG n (0, 0) d 234 (121, [.inr (.inr (some 97)), .inl a1, .inr (.inl (a2)), zN, .inr (.inl (a3)), zN], [.inr (.inl (v8))]) M (fun v M' => M' = M ∧ ∃ x : Int, v = some (.inr (.inl x))) := by
      intro v8
      exact zG_ret hd0 hz rfl rfl ⟨rfl, _, rfl⟩
    refine zG_lc_ne hd0 hz rfl rfl (fun hb112 => ?_) (fun hb112 => ?_)
    · refine zG_blk (c' := (121, [.inr (.inr (some 97)), .inl a1, .inr (.inl (a2)), zN, .inr (.inl (a3)), zN], [.inr (.inl (0))])) 1 hd0 hz (by rfl) ?_
      exact j121 0
    · refine zG_blk (c' := (121, [.inr (.inr (some 97)), .inl a1, .inr (.inl (a2)), zN, .inr (.inl (a3)), zN], [.inr (.inl (1))])) 2 hd0 hz (by rfl) ?_
      exact j121 1
  have j122 : zG n (0, 0) d 234 (122, [.inr (.inr (some 97)), .inl a1, .inr (.inl (a2)), zN, .inr (.inl (a3)), zN], []) M (fun v M' => M' = M ∧ ∃ x : Int, v = some (.inr (.inl x))) := by
    refine zG_blk (c' := (124, [.inr (.inr (some 97)), .inl a1, .inr (.inl (a2)), zN, .inr (.inl (a3)), zN], [.inr (.inl (0)), .inr (.inl (a2))])) 2 hd0 hz (by rfl) ?_
    have j140 : ∀ (v9 : Int) , zG n (0, 0) d 234 (140, [.inr (.inr (some 97)), .inl a1, .inr (.inl (a2)), zN, .inr (.inl (a3)), zN], [.inr (.inl (v9))]) M (fun v M' => M' = M ∧ ∃ x : Int, v = some (.inr (.inl x))) := by
      intro v9
      exact zG_ret hd0 hz rfl rfl ⟨rfl, _, rfl⟩
    have j139 : zG n (0, 0) d 234 (139, [.inr (.inr (some 97)), .inl a1, .inr (.inl (a2)), zN, .inr (.inl (a3)), zN], []) M (fun v M' => M' = M ∧ ∃ x : Int, v = some (.inr (.inl x))) := by
      refine zG_blk (c' := (140, [.inr (.inr (some 97)), .inl a1, .inr (.inl (a2)), zN, .inr (.inl (a3)), zN], [.inr (.inl (0))])) 1 hd0 hz (by rfl) ?_
      exact j140 0
    refine zG_lc_eq hd0 hz rfl rfl (fun hb124 => ?_) (fun hb124 => ?_)
    · exact j139
    · refine zG_blk (c' := (131, [.inr (.inr (some 97)), .inl a1, .inr (.inl (a2)), zN, .inr (.inl (a3)), zN], [.inr (.inl (0)), .inr (.inl (a3))])) 2 hd0 hz (by rfl) ?_
      refine zG_lc_eq hd0 hz rfl rfl (fun hb131 => ?_) (fun hb131 => ?_)
      · exact j139
      · refine zG_blk (c' := (140, [.inr (.inr (some 97)), .inl a1, .inr (.inl (a2)), zN, .inr (.inl (a3)), zN], [.inr (.inl (1))])) 2 hd0 hz (by rfl) ?_
        exact j140 1
  have j141 : zG n (0, 0) d 234 (141, [.inr (.inr (some 97)), .inl a1, .inr (.inl (a2)), zN, .inr (.inl (a3)), zN], []) M (fun v M' => M' = M ∧ ∃ x : Int, v = some (.inr (.inl x))) := by
    refine zG_blk (c' := (143, [.inr (.inr (some 97)), .inl a1, .inr (.inl (a2)), zN, .inr (.inl (a3)), zN], [.inr (.inl (0)), .inr (.inl (a2))])) 2 hd0 hz (by rfl) ?_
    have j159 : ∀ (v10 : Int) , zG n (0, 0) d 234 (159, [.inr (.inr (some 97)), .inl a1, .inr (.inl (a2)), zN, .inr (.inl (a3)), zN], [.inr (.inl (v10))]) M (fun v M' => M' = M ∧ ∃ x : Int, v = some (.inr (.inl x))) := by
      intro v10
      exact zG_ret hd0 hz rfl rfl ⟨rfl, _, rfl⟩
    have j154 : zG n (0, 0) d 234 (154, [.inr (.inr (some 97)), .inl a1, .inr (.inl (a2)), zN, .inr (.inl (a3)), zN], []) M (fun v M' => M' = M ∧ ∃ x : Int, v = some (.inr (.inl x))) := by
      refine zG_blk (c' := (159, [.inr (.inr (some 97)), .inl a1, .inr (.inl (a2)), zN, .inr (.inl (a3)), zN], [.inr (.inl (1))])) 2 hd0 hz (by rfl) ?_
      exact j159 1
    refine zG_lc_ne hd0 hz rfl rfl (fun hb143 => ?_) (fun hb143 => ?_)
    · exact j154
    · refine zG_blk (c' := (150, [.inr (.inr (some 97)), .inl a1, .inr (.inl (a2)), zN, .inr (.inl (a3)), zN], [.inr (.inl (0)), .inr (.inl (a3))])) 2 hd0 hz (by rfl) ?_
      refine zG_lc_eq hd0 hz rfl rfl (fun hb150 => ?_) (fun hb150 => ?_)
      · refine zG_blk (c' := (159, [.inr (.inr (some 97)), .inl a1, .inr (.inl (a2)), zN, .inr (.inl (a3)), zN], [.inr (.inl (0))])) 1 hd0 hz (by rfl) ?_
        exact j159 0
      · exact j154
  have j160 : zG n (0, 0) d 234 (160, [.inr (.inr (some 97)), .inl a1, .inr (.inl (a2)), zN, .inr (.inl (a3)), zN], []) M (fun v M' => M' = M ∧ ∃ x : Int, v = some (.inr (.inl x))) := by
    refine zG_blk (c' := (163, [.inr (.inr (some 97)), .inl a1, .inr (.inl (a2)), zN, .inr (.inl (a3)), zN], [.inr (.inl (0)), .inr (.inl (a3))])) 2 hd0 hz (by rfl) ?_
    have j172 : ∀ (v11 : Int) , zG n (0, 0) d 234 (172, [.inr (.inr (some 97)), .inl a1, .inr (.inl (a2)), zN, .inr (.inl (a3)), zN], [.inr (.inl (v11))]) M (fun v M' => M' = M ∧ ∃ x : Int, v = some (.inr (.inl x))) := by
      intro v11
      exact zG_ret hd0 hz rfl rfl ⟨rfl, _, rfl⟩
    refine zG_lc_eq hd0 hz rfl rfl (fun hb163 => ?_) (fun hb163 => ?_)
    · refine zG_blk (c' := (172, [.inr (.inr (some 97)), .inl a1, .inr (.inl (a2)), zN, .inr (.inl (a3)), zN], [.inr (.inl (a2))])) 1 hd0 hz (by rfl) ?_
      exact j172 a2
    · refine zG_blk (c' := (172, [.inr (.inr (some 97)), .inl a1, .inr (.inl (a2)), zN, .inr (.inl (a3)), zN], [.inr (.inl (0))])) 2 hd0 hz (by rfl) ?_
      exact j172 0
  refine zG_sw hd0 hz rfl ?_
  refine zts_all (P := fun t => zG n (0, 0) d 234 (t, [.inr (.inr (some 97)), .inl a1, .inr (.inl (a2)), zN, .inr (.inl (a3)), zN], []) M _) ?_ ?_
  · exact j160
  · intro t ht
    simp only [List.mem_cons, List.not_mem_nil, or_false] at ht
    rcases ht with rfl | rfl | rfl | rfl | rfl | rfl | rfl | rfl | rfl
    · exact j52
    · exact j57
    · exact j73
    · exact j78
    · exact j83
    · exact j96
    · exact j109
    · exact j122
    · exact j141
