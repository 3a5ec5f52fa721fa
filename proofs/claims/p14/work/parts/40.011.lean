section LW
variable {n : Nat} {M : zM} {i : Int}
set_option maxRecDepth 100000 in
theorem qL_43_0 (hJ : qJ M) (hn : n ≤ 4096) (hi : 0 ≤ i ∧ i + 8 ≤ n) (K : ∀ M', qJ M' → zG n (114, 4080270) 300 311 (2158, [zR 0, zR 8, zR 97, .inl i], []) M' qLQ) (hA : ∀ x, x = M 0 (i + 1).toNat → x = 0) : zG n (114, 4080270) 300 311 (2099, [zR 0, zR 8, zR 97, .inl i], []) M qLQ := by
  have hz := zp_311
  have hg := sh_43
  refine zG_blk (c' := (2104, [zR 0, zR 8, zR 97, .inl i], [.inl (i + 1), zR 0, zR 8])) 5 (by decide) hz (zsteps_seg hg (by rw [show (.inl (i + 1) : zV) = .inl (w32 (i + 1)) from by rw [w32_id (by omega)]]; rfl)) ?_
  refine zG_iald (by decide) hz (hg _ _ rfl) rfl (.inr rfl) (by omega) ?_
  obtain ⟨x1, hx1⟩ : ∃ x : Int, x = M 0 (i + 1).toNat := ⟨_, rfl⟩
  rw [← hx1]
  have hr1 : qin x1 := by rw [hx1]; exact hJ.1.rng 0 _ (by decide) (by decide)
  obtain rfl : x1 = 0 := hA x1 hx1
  show zG n (114, 4080270) 300 311 (2105, [zR 0, zR 8, zR 97, .inl i], [.inl 0, zR 8]) M _
  refine zG_call (by decide) hz zp_166 (hg _ _ rfl) rfl (Nat.le_of_ble_eq_true rfl) ⟨Nat.le_of_ble_eq_true rfl, Nat.le_of_ble_eq_true rfl⟩ (zG.andH (qe_166_8 (by decide) hJ.1 0 (by omega)) fh_166_8_L0) (fun vr M1 hr => ?_)
  obtain ⟨⟨⟨hC1, hF1⟩, -⟩, rfl, hM1⟩ := hr
  have hi := hF1.hi rfl
  have hI := hJ.2.1.same hi
  have hc0 : ∀ j, M1 0 j = M 0 j := fun j => hF1 0 j (by decide)
  show zG n (114, 4080270) 300 311 (2108, [zR 0, zR 8, zR 97, .inl i], [.inl (hf_166_8_L0 M).1]) M1 _
  refine zG_blk (c' := (2114, [zR 0, zR 8, zR 97, .inl i], [.inl (i + 1), zR 0, zR 97])) 6 (by decide) hz (zsteps_seg hg (by rw [show (.inl (i + 1) : zV) = .inl (w32 (i + 1)) from by rw [w32_id (by omega)]]; rfl)) ?_
  refine zG_iald (by decide) hz (hg _ _ rfl) rfl (.inr rfl) (by omega) ?_
  rw [show M1 0 (i + 1).toNat = 0 from (hc0 _).trans hx1.symm]
  show zG n (114, 4080270) 300 311 (2115, [zR 0, zR 8, zR 97, .inl i], [.inl 0, zR 97]) M1 _
  refine zG_call (by decide) hz zp_291 (hg _ _ rfl) rfl (Nat.le_of_ble_eq_true rfl) ⟨Nat.le_of_ble_eq_true rfl, Nat.le_of_ble_eq_true rfl⟩ (qx_from (by decide) hI 0 (by omega)) (fun vr M2 hr => ?_)
  obtain ⟨⟨hC2, hF2⟩, h2⟩ := hr
  have lo := hF2.lo rfl
  have eL : ∀ r, r < 97 → M2 r = M1 r := fun r hr => funext fun k => lo r k hr
  obtain ⟨g1, g2, g3, g4⟩ := hJ.2.2
  have p0 := hJ.2.1.bl100 0
  have p1 := hJ.2.1.bl100 1
  have t0 : zband (zbshr (M 8 3) 0) 1 = M 100 0 := by rw [g4.2.2]; rcases p0 with h | h <;> rcases p1 with h' | h' <;> rw [h, h'] <;> decide
  have s0 : M1 100 (0 : Int).toNat = M 100 0 := hi 100 0 (by decide)
  have n100 : ∀ j, M2 100 j = M 100 j := fun j => (hF2.ar 100 j (by decide) (by decide)).trans (hi 100 j (by decide))
  have n99 : ∀ j, M2 99 j = M 99 j := fun j => (hF2.ar 99 j (by decide) (by decide)).trans (hi 99 j (by decide))
  have hJ2 : qJ M2 := by
    by_cases hk : M 100 0 = 0
    · have e1 : hf_166_8_L0 M = (-3, M) := by
        unfold hf_166_8_L0
        simp only [hq_169, t0, hk]
        (repeat' split) <;> first | omega | (rename_i hq; exact absurd trivial hq) | rfl
      have e2 : M1 = M := by rw [hM1, e1]
      have e3 : M2 = M1 := by
        rcases h2 with ⟨-, -, h⟩ | ⟨-, -, -, h⟩ | ⟨-, -, h, -⟩
        · exact h
        · exact h
        · exact absurd (s0.trans hk) h
      rw [e3, e2]; exact hJ
    · obtain ⟨k1, k2, k3⟩ := hm_166_0 hJ.1 (g2 hk) (by rw [t0]; exact hk)
      rw [← hM1] at k2 k3
      have v3 : ∀ j : Nat, j < 5664 → M2 98 j = M1 99 ((5664 * 0 : Int).toNat + j) := by
        rcases h2 with ⟨-, h, -⟩ | ⟨-, -, h, -⟩ | ⟨-, -, -, h⟩
        · exact absurd (by decide) h
        · exact absurd (s0.symm.trans h) hk
        · exact h
      have eA : ∀ r, (r < 9 ∨ 26 ≤ r) → r < 97 → M2 r = M r := fun r h1 h3 => (eL r h3).trans (k3 r h1)
      refine ⟨hC1.same lo, hC2, ?_, ?_, ?_, ?_⟩
      · refine k2.fr (fun r hr => eL r (by omega)) (fun j hj _ _ _ => ?_)
        have q := v3 j hj
        rw [show ((5664 * 0 : Int).toNat + j) = j by omega] at q
        exact q.trans (hi 99 _ (by decide))
      · rw [n100]; exact fun hk => (g2 hk).fr (fun r hr => eA r (by omega) (by omega)) (fun j hj _ _ _ => n99 _)
      · rw [n100]; exact fun hk => (g3 hk).fr (fun r hr => eA r (by omega) (by omega)) (fun j hj _ _ _ => n99 _)
      · rw [n100, n100, eA 8 (by decide) (by decide)]; exact g4
  have hv2 : ∃ x : Int, vr = some (.inl x) := by rcases h2 with ⟨h, -⟩ | ⟨h, -⟩ | ⟨h, -⟩ <;> exact ⟨_, h⟩
  obtain ⟨r2, rfl⟩ := hv2
  show zG n (114, 4080270) 300 311 (2118, [zR 0, zR 8, zR 97, .inl i], [.inl r2]) M2 _
  refine zG_blk (c' := (2158, [zR 0, zR 8, zR 97, .inl i], [])) 2 (by decide) hz (zsteps_seg hg rfl) ?_
  exact K M2 hJ2
set_option maxRecDepth 100000 in
theorem qL_43_1 (hJ : qJ M) (hn : n ≤ 4096) (hi : 0 ≤ i ∧ i + 8 ≤ n) (K : ∀ M', qJ M' → zG n (114, 4080270) 300 311 (2158, [zR 0, zR 8, zR 97, .inl i], []) M' qLQ) (hA : ∀ x, x = M 0 (i + 1).toNat → x = 1) : zG n (114, 4080270) 300 311 (2099, [zR 0, zR 8, zR 97, .inl i], []) M qLQ := by
  have hz := zp_311
  have hg := sh_43
  refine zG_blk (c' := (2104, [zR 0, zR 8, zR 97, .inl i], [.inl (i + 1), zR 0, zR 8])) 5 (by decide) hz (zsteps_seg hg (by rw [show (.inl (i + 1) : zV) = .inl (w32 (i + 1)) from by rw [w32_id (by omega)]]; rfl)) ?_
  refine zG_iald (by decide) hz (hg _ _ rfl) rfl (.inr rfl) (by omega) ?_
  obtain ⟨x1, hx1⟩ : ∃ x : Int, x = M 0 (i + 1).toNat := ⟨_, rfl⟩
  rw [← hx1]
  have hr1 : qin x1 := by rw [hx1]; exact hJ.1.rng 0 _ (by decide) (by decide)
  obtain rfl : x1 = 1 := hA x1 hx1
  show zG n (114, 4080270) 300 311 (2105, [zR 0, zR 8, zR 97, .inl i], [.inl 1, zR 8]) M _
  refine zG_call (by decide) hz zp_166 (hg _ _ rfl) rfl (Nat.le_of_ble_eq_true rfl) ⟨Nat.le_of_ble_eq_true rfl, Nat.le_of_ble_eq_true rfl⟩ (zG.andH (qe_166_8 (by decide) hJ.1 1 (by omega)) fh_166_8_L1) (fun vr M1 hr => ?_)
  obtain ⟨⟨⟨hC1, hF1⟩, -⟩, rfl, hM1⟩ := hr
  have hi := hF1.hi rfl
  have hI := hJ.2.1.same hi
  have hc0 : ∀ j, M1 0 j = M 0 j := fun j => hF1 0 j (by decide)
  show zG n (114, 4080270) 300 311 (2108, [zR 0, zR 8, zR 97, .inl i], [.inl (hf_166_8_L1 M).1]) M1 _
  refine zG_blk (c' := (2114, [zR 0, zR 8, zR 97, .inl i], [.inl (i + 1), zR 0, zR 97])) 6 (by decide) hz (zsteps_seg hg (by rw [show (.inl (i + 1) : zV) = .inl (w32 (i + 1)) from by rw [w32_id (by omega)]]; rfl)) ?_
  refine zG_iald (by decide) hz (hg _ _ rfl) rfl (.inr rfl) (by omega) ?_
  rw [show M1 0 (i + 1).toNat = 1 from (hc0 _).trans hx1.symm]
  show zG n (114, 4080270) 300 311 (2115, [zR 0, zR 8, zR 97, .inl i], [.inl 1, zR 97]) M1 _
  refine zG_call (by decide) hz zp_291 (hg _ _ rfl) rfl (Nat.le_of_ble_eq_true rfl) ⟨Nat.le_of_ble_eq_true rfl, Nat.le_of_ble_eq_true rfl⟩ (qx_from (by decide) hI 1 (by omega)) (fun vr M2 hr => ?_)
  obtain ⟨⟨hC2, hF2⟩, h2⟩ := hr
  have lo := hF2.lo rfl
  have eL : ∀ r, r < 97 → M2 r = M1 r := fun r hr => funext fun k => lo r k hr
  obtain ⟨g1, g2, g3, g4⟩ := hJ.2.2
  have p0 := hJ.2.1.bl100 0
  have p1 := hJ.2.1.bl100 1
  have t0 : zband (zbshr (M 8 3) 1) 1 = M 100 1 := by rw [g4.2.2]; rcases p0 with h | h <;> rcases p1 with h' | h' <;> rw [h, h'] <;> decide
  have s0 : M1 100 (1 : Int).toNat = M 100 1 := hi 100 1 (by decide)
  have n100 : ∀ j, M2 100 j = M 100 j := fun j => (hF2.ar 100 j (by decide) (by decide)).trans (hi 100 j (by decide))
  have n99 : ∀ j, M2 99 j = M 99 j := fun j => (hF2.ar 99 j (by decide) (by decide)).trans (hi 99 j (by decide))
  have hJ2 : qJ M2 := by
    by_cases hk : M 100 1 = 0
    · have e1 : hf_166_8_L1 M = (-3, M) := by
        unfold hf_166_8_L1
        simp only [hq_169, t0, hk]
        (repeat' split) <;> first | omega | (rename_i hq; exact absurd trivial hq) | rfl
      have e2 : M1 = M := by rw [hM1, e1]
      have e3 : M2 = M1 := by
        rcases h2 with ⟨-, -, h⟩ | ⟨-, -, -, h⟩ | ⟨-, -, h, -⟩
        · exact h
        · exact h
        · exact absurd (s0.trans hk) h
      rw [e3, e2]; exact hJ
    · obtain ⟨k1, k2, k3⟩ := hm_166_1 hJ.1 (g3 hk) (by rw [t0]; exact hk)
      rw [← hM1] at k2 k3
      have v3 : ∀ j : Nat, j < 5664 → M2 98 j = M1 99 ((5664 * 1 : Int).toNat + j) := by
        rcases h2 with ⟨-, h, -⟩ | ⟨-, -, h, -⟩ | ⟨-, -, -, h⟩
        · exact absurd (by decide) h
        · exact absurd (s0.symm.trans h) hk
        · exact h
      have eA : ∀ r, (r < 9 ∨ 26 ≤ r) → r < 97 → M2 r = M r := fun r h1 h3 => (eL r h3).trans (k3 r h1)
      refine ⟨hC1.same lo, hC2, ?_, ?_, ?_, ?_⟩
      · refine k2.fr (fun r hr => eL r (by omega)) (fun j hj _ _ _ => ?_)
        have q := v3 j hj
        rw [show ((5664 * 1 : Int).toNat + j) = (5664 + j) by omega] at q
        exact q.trans (hi 99 _ (by decide))
      · rw [n100]; exact fun hk => (g2 hk).fr (fun r hr => eA r (by omega) (by omega)) (fun j hj _ _ _ => n99 _)
      · rw [n100]; exact fun hk => (g3 hk).fr (fun r hr => eA r (by omega) (by omega)) (fun j hj _ _ _ => n99 _)
      · rw [n100, n100, eA 8 (by decide) (by decide)]; exact g4
  have hv2 : ∃ x : Int, vr = some (.inl x) := by rcases h2 with ⟨h, -⟩ | ⟨h, -⟩ | ⟨h, -⟩ <;> exact ⟨_, h⟩
  obtain ⟨r2, rfl⟩ := hv2
  show zG n (114, 4080270) 300 311 (2118, [zR 0, zR 8, zR 97, .inl i], [.inl r2]) M2 _
  refine zG_blk (c' := (2158, [zR 0, zR 8, zR 97, .inl i], [])) 2 (by decide) hz (zsteps_seg hg rfl) ?_
  exact K M2 hJ2
set_option maxRecDepth 100000 in
theorem qL_43_n (hJ : qJ M) (hn : n ≤ 4096) (hi : 0 ≤ i ∧ i + 8 ≤ n) (K : ∀ M', qJ M' → zG n (114, 4080270) 300 311 (2158, [zR 0, zR 8, zR 97, .inl i], []) M' qLQ) (hA : ∀ x, x = M 0 (i + 1).toNat → ¬ (0 ≤ x ∧ x ≤ 1)) : zG n (114, 4080270) 300 311 (2099, [zR 0, zR 8, zR 97, .inl i], []) M qLQ := by
  have hz := zp_311
  have hg := sh_43
  refine zG_blk (c' := (2104, [zR 0, zR 8, zR 97, .inl i], [.inl (i + 1), zR 0, zR 8])) 5 (by decide) hz (zsteps_seg hg (by rw [show (.inl (i + 1) : zV) = .inl (w32 (i + 1)) from by rw [w32_id (by omega)]]; rfl)) ?_
  refine zG_iald (by decide) hz (hg _ _ rfl) rfl (.inr rfl) (by omega) ?_
  obtain ⟨x1, hx1⟩ : ∃ x : Int, x = M 0 (i + 1).toNat := ⟨_, rfl⟩
  rw [← hx1]
  have hr1 : qin x1 := by rw [hx1]; exact hJ.1.rng 0 _ (by decide) (by decide)
  have hA9 := hA x1 hx1
  show zG n (114, 4080270) 300 311 (2105, [zR 0, zR 8, zR 97, .inl i], [.inl x1, zR 8]) M _
  refine zG_call (by decide) hz zp_166 (hg _ _ rfl) rfl (Nat.le_of_ble_eq_true rfl) ⟨Nat.le_of_ble_eq_true rfl, Nat.le_of_ble_eq_true rfl⟩ (qe_166_8 (by decide) hJ.1 x1 (by omega)) (fun vr M1 hr => ?_)
  obtain ⟨⟨hC1, hF1⟩, h1⟩ := hr
  have h1' : vr = some (.inl (-2)) ∧ M1 = M := by rcases h1 with ⟨h, -, h'⟩ | ⟨-, h, -⟩ | ⟨-, h, -⟩; exact ⟨h, h'⟩; all_goals exact absurd h hA9
  obtain ⟨rfl, hM1⟩ := h1'
  have hi := hF1.hi rfl
  have hI := hJ.2.1.same hi
  have hc0 : ∀ j, M1 0 j = M 0 j := fun j => hF1 0 j (by decide)
  show zG n (114, 4080270) 300 311 (2108, [zR 0, zR 8, zR 97, .inl i], [.inl (-2)]) M1 _
  refine zG_blk (c' := (2114, [zR 0, zR 8, zR 97, .inl i], [.inl (i + 1), zR 0, zR 97])) 6 (by decide) hz (zsteps_seg hg (by rw [show (.inl (i + 1) : zV) = .inl (w32 (i + 1)) from by rw [w32_id (by omega)]]; rfl)) ?_
  refine zG_iald (by decide) hz (hg _ _ rfl) rfl (.inr rfl) (by omega) ?_
  rw [show M1 0 (i + 1).toNat = x1 from (hc0 _).trans hx1.symm]
  show zG n (114, 4080270) 300 311 (2115, [zR 0, zR 8, zR 97, .inl i], [.inl x1, zR 97]) M1 _
  refine zG_call (by decide) hz zp_291 (hg _ _ rfl) rfl (Nat.le_of_ble_eq_true rfl) ⟨Nat.le_of_ble_eq_true rfl, Nat.le_of_ble_eq_true rfl⟩ (qx_from (by decide) hI x1 (by omega)) (fun vr M2 hr => ?_)
  obtain ⟨⟨hC2, hF2⟩, h2⟩ := hr
  have lo := hF2.lo rfl
  have eL : ∀ r, r < 97 → M2 r = M1 r := fun r hr => funext fun k => lo r k hr
  obtain ⟨g1, g2, g3, g4⟩ := hJ.2.2
  have h2' : vr = some (.inl (-2)) ∧ M2 = M1 := by rcases h2 with ⟨h, -, h'⟩ | ⟨-, h, -⟩ | ⟨-, h, -⟩; exact ⟨h, h'⟩; all_goals exact absurd h hA9
  obtain ⟨rfl, hM2⟩ := h2'
  have hJ2 : qJ M2 := by rw [hM2, hM1]; exact hJ
  show zG n (114, 4080270) 300 311 (2118, [zR 0, zR 8, zR 97, .inl i], [.inl (-2)]) M2 _
  refine zG_blk (c' := (2158, [zR 0, zR 8, zR 97, .inl i], [])) 2 (by decide) hz (zsteps_seg hg rfl) ?_
  exact K M2 hJ2
theorem qL_43 (hJ : qJ M) (hn : n ≤ 4096) (hi : 0 ≤ i ∧ i + 8 ≤ n) (K : ∀ M', qJ M' → zG n (114, 4080270) 300 311 (2158, [zR 0, zR 8, zR 97, .inl i], []) M' qLQ) : zG n (114, 4080270) 300 311 (2099, [zR 0, zR 8, zR 97, .inl i], []) M qLQ := by
  by_cases h0 : M 0 (i + 1).toNat = 0
  · exact qL_43_0 hJ hn hi K (fun x hx => hx.trans h0)
  · by_cases h1 : M 0 (i + 1).toNat = 1
    · exact qL_43_1 hJ hn hi K (fun x hx => hx.trans h1)
    · exact qL_43_n hJ hn hi K (fun x hx => by omega)
noncomputable def sg_44 : List zE := [(2122, .aload_n ⟨1, zfin1⟩, 2123, zx0),
  (2123, .aload_n ⟨0, zfin0⟩, 2124, zx0),
  (2124, .iload_n ⟨3, zfin3⟩, 2125, zx0),
  (2125, .iconst 1, 2126, zx0),
  (2126, .iadd, 2127, zx0),
  (2127, .iaload, 2128, zx0),
  (2128, .invokevirtual 202, 2131, (167, 2, 0, [11])),
  (2131, .pop, 2132, zx0),
  (2132, .aload_n ⟨2, zfin2⟩, 2133, zx0),
  (2133, .aload_n ⟨0, zfin0⟩, 2134, zx0),
  (2134, .iload_n ⟨3, zfin3⟩, 2135, zx0),
  (2135, .iconst 1, 2136, zx0),
  (2136, .iadd, 2137, zx0),
  (2137, .iaload, 2138, zx0),
  (2138, .invokevirtual 205, 2141, (293, 2, 0, [12])),
  (2141, .pop, 2142, zx0),
  (2142, .goto (16), 2145, (2158, 0, 0, []))]
set_option maxRecDepth 100000 in
theorem sh_44 : zSeg zk_L_law sg_44 := zSeg_of 1614 17 2122 (by decide +kernel) rfl (by decide +kernel)
set_option maxRecDepth 100000 in
theorem qL_44 (hJ : qJ M) (hn : n ≤ 4096) (hi : 0 ≤ i ∧ i + 8 ≤ n) (K : ∀ M', qJ M' → zG n (114, 4080270) 300 311 (2158, [zR 0, zR 8, zR 97, .inl i], []) M' qLQ) : zG n (114, 4080270) 300 311 (2122, [zR 0, zR 8, zR 97, .inl i], []) M qLQ := by
  have hz := zp_311
  have hg := sh_44
  refine zG_blk (c' := (2127, [zR 0, zR 8, zR 97, .inl i], [.inl (i + 1), zR 0, zR 8])) 5 (by decide) hz (zsteps_seg hg (by rw [show (.inl (i + 1) : zV) = .inl (w32 (i + 1)) from by rw [w32_id (by omega)]]; rfl)) ?_
  refine zG_iald (by decide) hz (hg _ _ rfl) rfl (.inr rfl) (by omega) ?_
  obtain ⟨x1, hx1⟩ : ∃ x : Int, x = M 0 (i + 1).toNat := ⟨_, rfl⟩
  rw [← hx1]
  have hr1 : qin x1 := by rw [hx1]; exact hJ.1.rng 0 _ (by decide) (by decide)
  show zG n (114, 4080270) 300 311 (2128, [zR 0, zR 8, zR 97, .inl i], [.inl x1, zR 8]) M _
  refine zG_call (by decide) hz zp_167 (hg _ _ rfl) rfl (Nat.le_of_ble_eq_true rfl) ⟨Nat.le_of_ble_eq_true rfl, Nat.le_of_ble_eq_true rfl⟩ (qm_167_8 (by decide) hJ.1 x1 (by omega)) (fun vr M1 hr => ?_)
  obtain ⟨hq, hr⟩ := hr
  replace hq := hq.symm; subst hq
  have hc0 : ∀ j, M 0 j = M 0 j := fun _ => rfl
  obtain ⟨r1, rfl, -⟩ := hr
  show zG n (114, 4080270) 300 311 (2131, [zR 0, zR 8, zR 97, .inl i], [.inl r1]) M _
  refine zG_blk (c' := (2137, [zR 0, zR 8, zR 97, .inl i], [.inl (i + 1), zR 0, zR 97])) 6 (by decide) hz (zsteps_seg hg (by rw [show (.inl (i + 1) : zV) = .inl (w32 (i + 1)) from by rw [w32_id (by omega)]]; rfl)) ?_
  refine zG_iald (by decide) hz (hg _ _ rfl) rfl (.inr rfl) (by omega) ?_
  rw [show M 0 (i + 1).toNat = x1 from hx1.symm]
  show zG n (114, 4080270) 300 311 (2138, [zR 0, zR 8, zR 97, .inl i], [.inl x1, zR 97]) M _
  refine zG_call (by decide) hz zp_293 (hg _ _ rfl) rfl (Nat.le_of_ble_eq_true rfl) ⟨Nat.le_of_ble_eq_true rfl, Nat.le_of_ble_eq_true rfl⟩ (qm_293_97 (by decide) hJ.2.1 x1 (by omega)) (fun vr M2 hr => ?_)
  obtain ⟨hq, hr⟩ := hr
  replace hq := hq.symm; subst hq
  obtain ⟨r2, hv9⟩ := hr
  first | (obtain ⟨rfl, -⟩ := hv9) | (obtain rfl := hv9)
  show zG n (114, 4080270) 300 311 (2141, [zR 0, zR 8, zR 97, .inl i], [.inl r2]) M _
  refine zG_blk (c' := (2158, [zR 0, zR 8, zR 97, .inl i], [])) 2 (by decide) hz (zsteps_seg hg rfl) ?_
  exact K M hJ
noncomputable def sg_45 : List zE := [(2145, .aload_n ⟨1, zfin1⟩, 2146, zx0),
  (2146, .invokevirtual 206, 2149, (168, 1, 0, [11])),
  (2149, .pop2, 2150, zx0),
  (2150, .aload_n ⟨2, zfin2⟩, 2151, zx0),
  (2151, .invokevirtual 210, 2154, (295, 1, 0, [12])),
  (2154, .pop2, 2155, zx0),
  (2155, .goto (3), 2158, (2158, 0, 0, []))]
set_option maxRecDepth 100000 in
theorem sh_45 : zSeg zk_L_law sg_45 := zSeg_of 1631 7 2145 (by decide +kernel) rfl (by decide +kernel)
set_option maxRecDepth 100000 in
theorem qL_45 (hJ : qJ M) (hn : n ≤ 4096) (hi : 0 ≤ i ∧ i + 8 ≤ n) (K : ∀ M', qJ M' → zG n (114, 4080270) 300 311 (2158, [zR 0, zR 8, zR 97, .inl i], []) M' qLQ) : zG n (114, 4080270) 300 311 (2145, [zR 0, zR 8, zR 97, .inl i], []) M qLQ := by
  have hz := zp_311
  have hg := sh_45
  refine zG_blk (c' := (2146, [zR 0, zR 8, zR 97, .inl i], [zR 8])) 1 (by decide) hz (zsteps_seg hg rfl) ?_
  refine zG_call (by decide) hz zp_168 (hg _ _ rfl) rfl (Nat.le_of_ble_eq_true rfl) ⟨Nat.le_of_ble_eq_true rfl, Nat.le_of_ble_eq_true rfl⟩ (qm_168_8 (by decide) hJ.1 ) (fun vr M1 hr => ?_)
  obtain ⟨hq, hr⟩ := hr
  replace hq := hq.symm; subst hq
  have hc0 : ∀ j, M 0 j = M 0 j := fun _ => rfl
  obtain ⟨r1, rfl⟩ := hr
  show zG n (114, 4080270) 300 311 (2149, [zR 0, zR 8, zR 97, .inl i], [(.inr (.inl r1))]) M _
  refine zG_blk (c' := (2151, [zR 0, zR 8, zR 97, .inl i], [zR 97])) 2 (by decide) hz (zsteps_seg hg rfl) ?_
  refine zG_call (by decide) hz zp_295 (hg _ _ rfl) rfl (Nat.le_of_ble_eq_true rfl) ⟨Nat.le_of_ble_eq_true rfl, Nat.le_of_ble_eq_true rfl⟩ (qm_295_97 (by decide) hJ.2.1 ) (fun vr M2 hr => ?_)
  obtain ⟨hq, hr⟩ := hr
  replace hq := hq.symm; subst hq
  obtain ⟨r2, hv9⟩ := hr
  first | (obtain ⟨rfl, -⟩ := hv9) | (obtain rfl := hv9)
  show zG n (114, 4080270) 300 311 (2154, [zR 0, zR 8, zR 97, .inl i], [(.inr (.inl r2))]) M _
  refine zG_blk (c' := (2158, [zR 0, zR 8, zR 97, .inl i], [])) 2 (by decide) hz (zsteps_seg hg rfl) ?_
  exact K M hJ
set_option maxRecDepth 100000 in
theorem qL_all (hn : n ≤ 4096) : ∀ (N : Nat) (i : Int) (M : zM), ((n : Int) + 8 - i).toNat < N → 0 ≤ i ∧ i ≤ n + 8 → qJ M → zG n (114, 4080270) 300 311 (18, [zR 0, zR 8, zR 97, .inl i], []) M qLQ := by
  have hz := zp_311
  intro N
  induction N with
  | zero => intro i M hN; exact absurd hN (Nat.not_lt_zero _)
  | succ N ih =>
    intro i M hN hi hJ
    refine zG_blk (c' := (20, [zR 0, zR 8, zR 97, .inl i], [zR 0, .inl i])) 2 (by decide) hz rfl ?_
    refine zG_alen (by decide) hz rfl rfl ?_
    refine zG_blk (c' := (24, [zR 0, zR 8, zR 97, .inl i], [.inl ((n : Int) - 8), .inl i])) 2 (by decide) hz (by rw [show (.inl ((n : Int) - 8) : zV) = .inl (w32 ((n : Int) - 8)) from by rw [w32_id (by omega)]]; rfl) ?_
    refine zG_icmp_gt (by decide) hz rfl (fun hb => ?_) (fun hb => ?_)
    · refine zG_blk (c' := (2165, [zR 0, zR 8, zR 97, .inl i], [.inl 1])) 1 (by decide) hz rfl ?_
      exact zG_zret (by decide) hz rfl (.inr rfl) rfl
    · have K : ∀ M', qJ M' → zG n (114, 4080270) 300 311 (2158, [zR 0, zR 8, zR 97, .inl i], []) M' qLQ := by
        intro M' hJ'
        refine zG_blk (c' := (18, [zR 0, zR 8, zR 97, .inl (i + 8)], [])) 2 (by decide) hz (by rw [show (.inl (i + 8) : zV) = .inl (w32 (i + 8)) from by rw [w32_id (by omega)]]; rfl) ?_
        exact ih (i + 8) M' (by omega) (by omega) hJ'
      have hi8 : 0 ≤ i ∧ i + 8 ≤ n := by omega
      refine zG_blk (c' := (29, [zR 0, zR 8, zR 97, .inl i], [.inl i, zR 0])) 2 (by decide) hz rfl ?_
      refine zG_iald (by decide) hz rfl rfl (.inr rfl) (by omega) ?_
      refine zG_blk (c' := (33, [zR 0, zR 8, zR 97, .inl i], [.inl (zband (M 0 i.toNat) 63)])) 2 (by decide) hz rfl ?_
      refine zG_sw (by decide) hz rfl ?_
      refine zts_all (P := fun t => zG n (114, 4080270) 300 311 (t, [zR 0, zR 8, zR 97, .inl i], []) M _) (K M hJ) ?_
      intro t ht
      simp only [List.mem_cons, List.not_mem_nil, or_false] at ht
      rcases ht with rfl | rfl | rfl | rfl | rfl | rfl | rfl | rfl | rfl | rfl | rfl | rfl | rfl | rfl | rfl | rfl | rfl | rfl | rfl | rfl | rfl | rfl | rfl | rfl | rfl | rfl | rfl | rfl | rfl | rfl | rfl | rfl | rfl | rfl | rfl | rfl | rfl | rfl | rfl | rfl | rfl | rfl | rfl | rfl | rfl | rfl
      · exact qL_0 hJ hn hi8 K
      · exact qL_1 hJ hn hi8 K
      · exact qL_2 hJ hn hi8 K
      · exact qL_3 hJ hn hi8 K
      · exact qL_4 hJ hn hi8 K
      · exact qL_5 hJ hn hi8 K
      · exact qL_6 hJ hn hi8 K
      · exact qL_7 hJ hn hi8 K
      · exact qL_8 hJ hn hi8 K
      · exact qL_9 hJ hn hi8 K
      · exact qL_10 hJ hn hi8 K
      · exact qL_11 hJ hn hi8 K
      · exact qL_12 hJ hn hi8 K
      · exact qL_13 hJ hn hi8 K
      · exact qL_14 hJ hn hi8 K
      · exact qL_15 hJ hn hi8 K
      · exact qL_16 hJ hn hi8 K
      · exact qL_17 hJ hn hi8 K
      · exact qL_18 hJ hn hi8 K
      · exact qL_19 hJ hn hi8 K
      · exact qL_20 hJ hn hi8 K
      · exact qL_21 hJ hn hi8 K
      · exact qL_22 hJ hn hi8 K
      · exact qL_23 hJ hn hi8 K
      · exact qL_24 hJ hn hi8 K
      · exact qL_25 hJ hn hi8 K
      · exact qL_26 hJ hn hi8 K
      · exact qL_27 hJ hn hi8 K
      · exact qL_28 hJ hn hi8 K
      · exact qL_29 hJ hn hi8 K
      · exact qL_30 hJ hn hi8 K
      · exact qL_31 hJ hn hi8 K
      · exact qL_32 hJ hn hi8 K
      · exact qL_33 hJ hn hi8 K
      · exact qL_34 hJ hn hi8 K
      · exact qL_35 hJ hn hi8 K
      · exact qL_36 hJ hn hi8 K
      · exact qL_37 hJ hn hi8 K
      · exact qL_38 hJ hn hi8 K
      · exact qL_39 hJ hn hi8 K
      · exact qL_40 hJ hn hi8 K
      · exact qL_41 hJ hn hi8 K
      · exact qL_42 hJ hn hi8 K
      · exact qL_43 hJ hn hi8 K
      · exact qL_44 hJ hn hi8 K
      · exact qL_45 hJ hn hi8 K
end LW
