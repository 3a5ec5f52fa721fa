section LW
variable {n : Nat} {M : zM} {i : Int}
set_option maxRecDepth 100000 in
theorem qL_39 (hJ : qJ M) (hn : n ≤ 4096) (hi : 0 ≤ i ∧ i + 8 ≤ n) (K : ∀ M', qJ M' → zG n (114, 4080270) 300 311 (2158, [zR 0, zR 8, zR 97, .inl i], []) M' qLQ) : zG n (114, 4080270) 300 311 (1997, [zR 0, zR 8, zR 97, .inl i], []) M qLQ := by
  have hz := zp_311
  have hg := sh_39
  refine zG_blk (c' := (2002, [zR 0, zR 8, zR 97, .inl i], [.inl (i + 1), zR 0, zR 8])) 5 (by decide) hz (zsteps_seg hg (by rw [show (.inl (i + 1) : zV) = .inl (w32 (i + 1)) from by rw [w32_id (by omega)]]; rfl)) ?_
  refine zG_iald (by decide) hz (hg _ _ rfl) rfl (.inr rfl) (by omega) ?_
  obtain ⟨x1, hx1⟩ : ∃ x : Int, x = M 0 (i + 1).toNat := ⟨_, rfl⟩
  rw [← hx1]
  have hr1 : qin x1 := by rw [hx1]; exact hJ.1.rng 0 _ (by decide) (by decide)
  show zG n (114, 4080270) 300 311 (2003, [zR 0, zR 8, zR 97, .inl i], [.inl x1, zR 8]) M _
  refine zG_blk (c' := (2007, [zR 0, zR 8, zR 97, .inl i], [.inl (i + 2), zR 0, .inl x1, zR 8])) 4 (by decide) hz (zsteps_seg hg (by rw [show (.inl (i + 2) : zV) = .inl (w32 (i + 2)) from by rw [w32_id (by omega)]]; rfl)) ?_
  refine zG_iald (by decide) hz (hg _ _ rfl) rfl (.inr rfl) (by omega) ?_
  obtain ⟨x2, hx2⟩ : ∃ x : Int, x = M 0 (i + 2).toNat := ⟨_, rfl⟩
  rw [← hx2]
  have hr2 : qin x2 := by rw [hx2]; exact hJ.1.rng 0 _ (by decide) (by decide)
  show zG n (114, 4080270) 300 311 (2008, [zR 0, zR 8, zR 97, .inl i], [.inl x2, .inl x1, zR 8]) M _
  refine zG_call (by decide) hz zp_162 (hg _ _ rfl) rfl (Nat.le_of_ble_eq_true rfl) ⟨Nat.le_of_ble_eq_true rfl, Nat.le_of_ble_eq_true rfl⟩ (zG.andH (qm_162_8 (by decide) hJ.1 x1 (by omega) x2 (by omega)) (fh_162_8 x1 x2)) (fun vr M1 hr => ?_)
  obtain ⟨⟨⟨hC1, hF1⟩, -⟩, rfl, hM1⟩ := hr
  have hi := hF1.hi rfl
  have hI := hJ.2.1.same hi
  have hc0 : ∀ j, M1 0 j = M 0 j := fun j => hF1 0 j (by decide)
  show zG n (114, 4080270) 300 311 (2011, [zR 0, zR 8, zR 97, .inl i], [.inl (hf_162_8 M x1 x2).1]) M1 _
  refine zG_blk (c' := (2017, [zR 0, zR 8, zR 97, .inl i], [.inl (i + 1), zR 0, zR 97])) 6 (by decide) hz (zsteps_seg hg (by rw [show (.inl (i + 1) : zV) = .inl (w32 (i + 1)) from by rw [w32_id (by omega)]]; rfl)) ?_
  refine zG_iald (by decide) hz (hg _ _ rfl) rfl (.inr rfl) (by omega) ?_
  rw [show M1 0 (i + 1).toNat = x1 from (hc0 _).trans hx1.symm]
  show zG n (114, 4080270) 300 311 (2018, [zR 0, zR 8, zR 97, .inl i], [.inl x1, zR 97]) M1 _
  refine zG_blk (c' := (2022, [zR 0, zR 8, zR 97, .inl i], [.inl (i + 2), zR 0, .inl x1, zR 97])) 4 (by decide) hz (zsteps_seg hg (by rw [show (.inl (i + 2) : zV) = .inl (w32 (i + 2)) from by rw [w32_id (by omega)]]; rfl)) ?_
  refine zG_iald (by decide) hz (hg _ _ rfl) rfl (.inr rfl) (by omega) ?_
  rw [show M1 0 (i + 2).toNat = x2 from (hc0 _).trans hx2.symm]
  show zG n (114, 4080270) 300 311 (2023, [zR 0, zR 8, zR 97, .inl i], [.inl x2, .inl x1, zR 97]) M1 _
  refine zG_call (by decide) hz zp_286 (hg _ _ rfl) rfl (Nat.le_of_ble_eq_true rfl) ⟨Nat.le_of_ble_eq_true rfl, Nat.le_of_ble_eq_true rfl⟩ (zG.andH (qm_286_97 (by decide) hI x1 (by omega) x2 (by omega)) (fh_286_97 x1 x2)) (fun vr M2 hr => ?_)
  obtain ⟨⟨⟨hC2, hF2⟩, -⟩, rfl, hM2⟩ := hr
  have hm := hm_162 hJ.2.2.1 hJ.1.tb hJ.2.1.bd (a1 := x1) (a2 := x2)
  rw [← hM1] at hm
  rw [← hM2] at hm
  have hJ2 : qJ M2 := hJ.mut hC1 hF1 rfl rfl hC2 hF2 rfl (by decide) hm.2
  show zG n (114, 4080270) 300 311 (2026, [zR 0, zR 8, zR 97, .inl i], [.inl (hf_286_97 M1 x1 x2).1]) M2 _
  refine zG_blk (c' := (2158, [zR 0, zR 8, zR 97, .inl i], [])) 2 (by decide) hz (zsteps_seg hg rfl) ?_
  exact K M2 hJ2
noncomputable def sg_40 : List zE := [(2030, .aload_n ⟨1, zfin1⟩, 2031, zx0),
  (2031, .invokevirtual 185, 2034, (163, 1, 0, [11])),
  (2034, .pop, 2035, zx0),
  (2035, .aload_n ⟨2, zfin2⟩, 2036, zx0),
  (2036, .invokevirtual 189, 2039, (287, 1, 0, [12])),
  (2039, .pop, 2040, zx0),
  (2040, .goto (118), 2043, (2158, 0, 0, []))]
set_option maxRecDepth 100000 in
theorem sh_40 : zSeg zk_L_law sg_40 := zSeg_of 1546 7 2030 (by decide +kernel) rfl (by decide +kernel)
set_option maxRecDepth 100000 in
theorem qL_40 (hJ : qJ M) (hn : n ≤ 4096) (hi : 0 ≤ i ∧ i + 8 ≤ n) (K : ∀ M', qJ M' → zG n (114, 4080270) 300 311 (2158, [zR 0, zR 8, zR 97, .inl i], []) M' qLQ) : zG n (114, 4080270) 300 311 (2030, [zR 0, zR 8, zR 97, .inl i], []) M qLQ := by
  have hz := zp_311
  have hg := sh_40
  refine zG_blk (c' := (2031, [zR 0, zR 8, zR 97, .inl i], [zR 8])) 1 (by decide) hz (zsteps_seg hg rfl) ?_
  refine zG_call (by decide) hz zp_163 (hg _ _ rfl) rfl (Nat.le_of_ble_eq_true rfl) ⟨Nat.le_of_ble_eq_true rfl, Nat.le_of_ble_eq_true rfl⟩ (zG.andH (qm_163_8 (by decide) hJ.1 ) (fh_163_8 )) (fun vr M1 hr => ?_)
  obtain ⟨⟨⟨hC1, hF1⟩, -⟩, rfl, hM1⟩ := hr
  have hi := hF1.hi rfl
  have hI := hJ.2.1.same hi
  have hc0 : ∀ j, M1 0 j = M 0 j := fun j => hF1 0 j (by decide)
  show zG n (114, 4080270) 300 311 (2034, [zR 0, zR 8, zR 97, .inl i], [.inl (hf_163_8 M).1]) M1 _
  refine zG_blk (c' := (2036, [zR 0, zR 8, zR 97, .inl i], [zR 97])) 2 (by decide) hz (zsteps_seg hg rfl) ?_
  refine zG_call (by decide) hz zp_287 (hg _ _ rfl) rfl (Nat.le_of_ble_eq_true rfl) ⟨Nat.le_of_ble_eq_true rfl, Nat.le_of_ble_eq_true rfl⟩ (zG.andH (qm_287_97 (by decide) hI ) (fh_287_97 )) (fun vr M2 hr => ?_)
  obtain ⟨⟨⟨hC2, hF2⟩, -⟩, rfl, hM2⟩ := hr
  have hm := hm_163 hJ.2.2.1
  rw [← hM1] at hm
  rw [← hM2] at hm
  have hJ2 : qJ M2 := hJ.mut hC1 hF1 rfl rfl hC2 hF2 rfl (by decide) hm.2
  show zG n (114, 4080270) 300 311 (2039, [zR 0, zR 8, zR 97, .inl i], [.inl (hf_287_97 M1).1]) M2 _
  refine zG_blk (c' := (2158, [zR 0, zR 8, zR 97, .inl i], [])) 2 (by decide) hz (zsteps_seg hg rfl) ?_
  exact K M2 hJ2
noncomputable def sg_41 : List zE := [(2043, .aload_n ⟨1, zfin1⟩, 2044, zx0),
  (2044, .aload_n ⟨0, zfin0⟩, 2045, zx0),
  (2045, .iload_n ⟨3, zfin3⟩, 2046, zx0),
  (2046, .iconst 1, 2047, zx0),
  (2047, .iadd, 2048, zx0),
  (2048, .iaload, 2049, zx0),
  (2049, .aload_n ⟨0, zfin0⟩, 2050, zx0),
  (2050, .iload_n ⟨3, zfin3⟩, 2051, zx0),
  (2051, .iconst 2, 2052, zx0),
  (2052, .iadd, 2053, zx0),
  (2053, .iaload, 2054, zx0),
  (2054, .invokevirtual 190, 2057, (164, 3, 0, [11])),
  (2057, .pop, 2058, zx0),
  (2058, .aload_n ⟨2, zfin2⟩, 2059, zx0),
  (2059, .aload_n ⟨0, zfin0⟩, 2060, zx0),
  (2060, .iload_n ⟨3, zfin3⟩, 2061, zx0),
  (2061, .iconst 1, 2062, zx0),
  (2062, .iadd, 2063, zx0),
  (2063, .iaload, 2064, zx0),
  (2064, .aload_n ⟨0, zfin0⟩, 2065, zx0),
  (2065, .iload_n ⟨3, zfin3⟩, 2066, zx0),
  (2066, .iconst 2, 2067, zx0),
  (2067, .iadd, 2068, zx0),
  (2068, .iaload, 2069, zx0),
  (2069, .invokevirtual 193, 2072, (289, 3, 0, [12])),
  (2072, .pop, 2073, zx0),
  (2073, .goto (85), 2076, (2158, 0, 0, []))]
set_option maxRecDepth 100000 in
theorem sh_41 : zSeg zk_L_law sg_41 := zSeg_of 1553 27 2043 (by decide +kernel) rfl (by decide +kernel)
set_option maxRecDepth 100000 in
theorem qL_41 (hJ : qJ M) (hn : n ≤ 4096) (hi : 0 ≤ i ∧ i + 8 ≤ n) (K : ∀ M', qJ M' → zG n (114, 4080270) 300 311 (2158, [zR 0, zR 8, zR 97, .inl i], []) M' qLQ) : zG n (114, 4080270) 300 311 (2043, [zR 0, zR 8, zR 97, .inl i], []) M qLQ := by
  have hz := zp_311
  have hg := sh_41
  refine zG_blk (c' := (2048, [zR 0, zR 8, zR 97, .inl i], [.inl (i + 1), zR 0, zR 8])) 5 (by decide) hz (zsteps_seg hg (by rw [show (.inl (i + 1) : zV) = .inl (w32 (i + 1)) from by rw [w32_id (by omega)]]; rfl)) ?_
  refine zG_iald (by decide) hz (hg _ _ rfl) rfl (.inr rfl) (by omega) ?_
  obtain ⟨x1, hx1⟩ : ∃ x : Int, x = M 0 (i + 1).toNat := ⟨_, rfl⟩
  rw [← hx1]
  have hr1 : qin x1 := by rw [hx1]; exact hJ.1.rng 0 _ (by decide) (by decide)
  show zG n (114, 4080270) 300 311 (2049, [zR 0, zR 8, zR 97, .inl i], [.inl x1, zR 8]) M _
  refine zG_blk (c' := (2053, [zR 0, zR 8, zR 97, .inl i], [.inl (i + 2), zR 0, .inl x1, zR 8])) 4 (by decide) hz (zsteps_seg hg (by rw [show (.inl (i + 2) : zV) = .inl (w32 (i + 2)) from by rw [w32_id (by omega)]]; rfl)) ?_
  refine zG_iald (by decide) hz (hg _ _ rfl) rfl (.inr rfl) (by omega) ?_
  obtain ⟨x2, hx2⟩ : ∃ x : Int, x = M 0 (i + 2).toNat := ⟨_, rfl⟩
  rw [← hx2]
  have hr2 : qin x2 := by rw [hx2]; exact hJ.1.rng 0 _ (by decide) (by decide)
  show zG n (114, 4080270) 300 311 (2054, [zR 0, zR 8, zR 97, .inl i], [.inl x2, .inl x1, zR 8]) M _
  refine zG_call (by decide) hz zp_164 (hg _ _ rfl) rfl (Nat.le_of_ble_eq_true rfl) ⟨Nat.le_of_ble_eq_true rfl, Nat.le_of_ble_eq_true rfl⟩ (qm_164_8 (by decide) hJ.1 x1 (by omega) x2 (by omega)) (fun vr M1 hr => ?_)
  obtain ⟨⟨hCM1, hFM1⟩, hr⟩ := hr
  have hJM1 : qJ M1 := hJ.cls hCM1 hFM1 rfl rfl
  have hc0 : ∀ j, M1 0 j = M 0 j := fun j => hFM1 0 j (by decide)
  obtain ⟨r1, rfl, -⟩ := hr
  show zG n (114, 4080270) 300 311 (2057, [zR 0, zR 8, zR 97, .inl i], [.inl r1]) M1 _
  refine zG_blk (c' := (2063, [zR 0, zR 8, zR 97, .inl i], [.inl (i + 1), zR 0, zR 97])) 6 (by decide) hz (zsteps_seg hg (by rw [show (.inl (i + 1) : zV) = .inl (w32 (i + 1)) from by rw [w32_id (by omega)]]; rfl)) ?_
  refine zG_iald (by decide) hz (hg _ _ rfl) rfl (.inr rfl) (by omega) ?_
  rw [show M1 0 (i + 1).toNat = x1 from (hc0 _).trans hx1.symm]
  show zG n (114, 4080270) 300 311 (2064, [zR 0, zR 8, zR 97, .inl i], [.inl x1, zR 97]) M1 _
  refine zG_blk (c' := (2068, [zR 0, zR 8, zR 97, .inl i], [.inl (i + 2), zR 0, .inl x1, zR 97])) 4 (by decide) hz (zsteps_seg hg (by rw [show (.inl (i + 2) : zV) = .inl (w32 (i + 2)) from by rw [w32_id (by omega)]]; rfl)) ?_
  refine zG_iald (by decide) hz (hg _ _ rfl) rfl (.inr rfl) (by omega) ?_
  rw [show M1 0 (i + 2).toNat = x2 from (hc0 _).trans hx2.symm]
  show zG n (114, 4080270) 300 311 (2069, [zR 0, zR 8, zR 97, .inl i], [.inl x2, .inl x1, zR 97]) M1 _
  refine zG_call (by decide) hz zp_289 (hg _ _ rfl) rfl (Nat.le_of_ble_eq_true rfl) ⟨Nat.le_of_ble_eq_true rfl, Nat.le_of_ble_eq_true rfl⟩ (qm_289_97 (by decide) hJM1.2.1 x1 (by omega) x2 (by omega)) (fun vr M2 hr => ?_)
  obtain ⟨hq, hr⟩ := hr
  replace hq := hq.symm; subst hq
  obtain ⟨r2, hv9⟩ := hr
  first | (obtain ⟨rfl, -⟩ := hv9) | (obtain rfl := hv9)
  show zG n (114, 4080270) 300 311 (2072, [zR 0, zR 8, zR 97, .inl i], [.inl r2]) M1 _
  refine zG_blk (c' := (2158, [zR 0, zR 8, zR 97, .inl i], [])) 2 (by decide) hz (zsteps_seg hg rfl) ?_
  exact K M1 hJM1
noncomputable def sg_42 : List zE := [(2076, .aload_n ⟨1, zfin1⟩, 2077, zx0),
  (2077, .aload_n ⟨0, zfin0⟩, 2078, zx0),
  (2078, .iload_n ⟨3, zfin3⟩, 2079, zx0),
  (2079, .iconst 1, 2080, zx0),
  (2080, .iadd, 2081, zx0),
  (2081, .iaload, 2082, zx0),
  (2082, .invokevirtual 194, 2085, (165, 2, 0, [11])),
  (2085, .pop, 2086, zx0),
  (2086, .aload_n ⟨2, zfin2⟩, 2087, zx0),
  (2087, .aload_n ⟨0, zfin0⟩, 2088, zx0),
  (2088, .iload_n ⟨3, zfin3⟩, 2089, zx0),
  (2089, .iconst 1, 2090, zx0),
  (2090, .iadd, 2091, zx0),
  (2091, .iaload, 2092, zx0),
  (2092, .invokevirtual 197, 2095, (290, 2, 0, [12])),
  (2095, .pop, 2096, zx0),
  (2096, .goto (62), 2099, (2158, 0, 0, []))]
set_option maxRecDepth 100000 in
theorem sh_42 : zSeg zk_L_law sg_42 := zSeg_of 1580 17 2076 (by decide +kernel) rfl (by decide +kernel)
set_option maxRecDepth 100000 in
theorem qL_42_0 (hJ : qJ M) (hn : n ≤ 4096) (hi : 0 ≤ i ∧ i + 8 ≤ n) (K : ∀ M', qJ M' → zG n (114, 4080270) 300 311 (2158, [zR 0, zR 8, zR 97, .inl i], []) M' qLQ) (hA : ∀ x, x = M 0 (i + 1).toNat → x = 0) : zG n (114, 4080270) 300 311 (2076, [zR 0, zR 8, zR 97, .inl i], []) M qLQ := by
  have hz := zp_311
  have hg := sh_42
  refine zG_blk (c' := (2081, [zR 0, zR 8, zR 97, .inl i], [.inl (i + 1), zR 0, zR 8])) 5 (by decide) hz (zsteps_seg hg (by rw [show (.inl (i + 1) : zV) = .inl (w32 (i + 1)) from by rw [w32_id (by omega)]]; rfl)) ?_
  refine zG_iald (by decide) hz (hg _ _ rfl) rfl (.inr rfl) (by omega) ?_
  obtain ⟨x1, hx1⟩ : ∃ x : Int, x = M 0 (i + 1).toNat := ⟨_, rfl⟩
  rw [← hx1]
  have hr1 : qin x1 := by rw [hx1]; exact hJ.1.rng 0 _ (by decide) (by decide)
  obtain rfl : x1 = 0 := hA x1 hx1
  show zG n (114, 4080270) 300 311 (2082, [zR 0, zR 8, zR 97, .inl i], [.inl 0, zR 8]) M _
  refine zG_call (by decide) hz zp_165 (hg _ _ rfl) rfl (Nat.le_of_ble_eq_true rfl) ⟨Nat.le_of_ble_eq_true rfl, Nat.le_of_ble_eq_true rfl⟩ (zG.andH (qe_165_8 (by decide) hJ.1 0 (by omega)) fh_165_8_L0) (fun vr M1 hr => ?_)
  obtain ⟨⟨⟨hC1, hF1⟩, -⟩, rfl, hM1⟩ := hr
  have hi := hF1.hi rfl
  have hI := hJ.2.1.same hi
  have hc0 : ∀ j, M1 0 j = M 0 j := fun j => hF1 0 j (by decide)
  show zG n (114, 4080270) 300 311 (2085, [zR 0, zR 8, zR 97, .inl i], [.inl (hf_165_8_L0 M).1]) M1 _
  refine zG_blk (c' := (2091, [zR 0, zR 8, zR 97, .inl i], [.inl (i + 1), zR 0, zR 97])) 6 (by decide) hz (zsteps_seg hg (by rw [show (.inl (i + 1) : zV) = .inl (w32 (i + 1)) from by rw [w32_id (by omega)]]; rfl)) ?_
  refine zG_iald (by decide) hz (hg _ _ rfl) rfl (.inr rfl) (by omega) ?_
  rw [show M1 0 (i + 1).toNat = 0 from (hc0 _).trans hx1.symm]
  show zG n (114, 4080270) 300 311 (2092, [zR 0, zR 8, zR 97, .inl i], [.inl 0, zR 97]) M1 _
  refine zG_call (by decide) hz zp_290 (hg _ _ rfl) rfl (Nat.le_of_ble_eq_true rfl) ⟨Nat.le_of_ble_eq_true rfl, Nat.le_of_ble_eq_true rfl⟩ (qx_image (by decide) hI 0 (by omega)) (fun vr M2 hr => ?_)
  obtain ⟨⟨hC2, hF2⟩, h2⟩ := hr
  have lo := hF2.lo rfl
  have eL : ∀ r, r < 97 → M2 r = M1 r := fun r hr => funext fun k => lo r k hr
  obtain ⟨g1, g2, g3, g4⟩ := hJ.2.2
  obtain ⟨k1, k2, k3, k4⟩ := hm_165_0 hJ.1 g1
  rw [← hM1] at k2 k3 k4
  obtain ⟨rfl, ⟨v1, v2⟩, v3, v4⟩ : vr = some (.inl 1) ∧ (M2 100 (0 : Int).toNat = 1 ∧ ∀ j, j ≠ (0 : Int).toNat → M2 100 j = M1 100 j) ∧ (∀ j : Nat, j < 5664 → M2 99 ((5664 * 0 : Int).toNat + j) = M1 98 j) ∧ (∀ j : Nat, (j < (5664 * 0 : Int).toNat ∨ (5664 * 0 : Int).toNat + 5664 ≤ j) → M2 99 j = M1 99 j) := by rcases h2 with ⟨-, h, -⟩ | ⟨h, -, h3, h4, h5⟩; exact absurd (by decide) h; exact ⟨h, h3, h4, h5⟩
  have n98 : ∀ j, M2 98 j = M 98 j := fun j => (hF2.ar 98 j (by decide) (by decide)).trans (hi 98 j (by decide))
  have v1 : M2 100 0 = 1 := v1
  have v2 : M2 100 1 = M 100 1 := (v2 1 (by decide)).trans (hi 100 1 (by decide))
  have eA : ∀ r, (r < 26 ∨ 43 ≤ r) → r ≠ 8 → r < 97 → M2 r = M r := fun r h1 h2 h3 => (eL r h3).trans (k4 r h1 h2)
  have p0 := hJ.2.1.bl100 0
  have p1 := hJ.2.1.bl100 1
  have hJ2 : qJ M2 := by
    refine ⟨hC1.same lo, hC2, ?_, ?_, ?_, ?_⟩
    · exact g1.fr (fun r hr => eA r (by omega) (by omega) (by omega)) (fun j _ _ _ _ => n98 j)
    · refine fun _ => k2.fr (fun r hr => eL r (by omega)) (fun j hj _ _ _ => ?_)
      have q := v3 j hj
      rw [show ((5664 * 0 : Int).toNat + j) = j by omega] at q
      exact q.trans (hi 98 j (by decide))
    · refine fun hk => (g3 (by rw [← v2]; exact hk)).fr (fun r hr => eA r (by omega) (by omega) (by omega)) (fun j hj _ _ _ => ?_)
      exact (v4 (5664 + j) (.inr (by omega))).trans (hi 99 _ (by decide))
    · have m8 : M2 8 3 = zbor (M 8 3) (zbshl 1 0) := (lo 8 3 (by decide)).trans k3
      have z5 : M2 8 3 = 1 + 2 * M 100 1 := by
        rw [m8, g4.2.2]
        rcases p0 with h | h <;> rcases p1 with h' | h' <;> rw [h, h'] <;> decide
      omega
  show zG n (114, 4080270) 300 311 (2095, [zR 0, zR 8, zR 97, .inl i], [.inl 1]) M2 _
  refine zG_blk (c' := (2158, [zR 0, zR 8, zR 97, .inl i], [])) 2 (by decide) hz (zsteps_seg hg rfl) ?_
  exact K M2 hJ2
set_option maxRecDepth 100000 in
theorem qL_42_1 (hJ : qJ M) (hn : n ≤ 4096) (hi : 0 ≤ i ∧ i + 8 ≤ n) (K : ∀ M', qJ M' → zG n (114, 4080270) 300 311 (2158, [zR 0, zR 8, zR 97, .inl i], []) M' qLQ) (hA : ∀ x, x = M 0 (i + 1).toNat → x = 1) : zG n (114, 4080270) 300 311 (2076, [zR 0, zR 8, zR 97, .inl i], []) M qLQ := by
  have hz := zp_311
  have hg := sh_42
  refine zG_blk (c' := (2081, [zR 0, zR 8, zR 97, .inl i], [.inl (i + 1), zR 0, zR 8])) 5 (by decide) hz (zsteps_seg hg (by rw [show (.inl (i + 1) : zV) = .inl (w32 (i + 1)) from by rw [w32_id (by omega)]]; rfl)) ?_
  refine zG_iald (by decide) hz (hg _ _ rfl) rfl (.inr rfl) (by omega) ?_
  obtain ⟨x1, hx1⟩ : ∃ x : Int, x = M 0 (i + 1).toNat := ⟨_, rfl⟩
  rw [← hx1]
  have hr1 : qin x1 := by rw [hx1]; exact hJ.1.rng 0 _ (by decide) (by decide)
  obtain rfl : x1 = 1 := hA x1 hx1
  show zG n (114, 4080270) 300 311 (2082, [zR 0, zR 8, zR 97, .inl i], [.inl 1, zR 8]) M _
  refine zG_call (by decide) hz zp_165 (hg _ _ rfl) rfl (Nat.le_of_ble_eq_true rfl) ⟨Nat.le_of_ble_eq_true rfl, Nat.le_of_ble_eq_true rfl⟩ (zG.andH (qe_165_8 (by decide) hJ.1 1 (by omega)) fh_165_8_L1) (fun vr M1 hr => ?_)
  obtain ⟨⟨⟨hC1, hF1⟩, -⟩, rfl, hM1⟩ := hr
  have hi := hF1.hi rfl
  have hI := hJ.2.1.same hi
  have hc0 : ∀ j, M1 0 j = M 0 j := fun j => hF1 0 j (by decide)
  show zG n (114, 4080270) 300 311 (2085, [zR 0, zR 8, zR 97, .inl i], [.inl (hf_165_8_L1 M).1]) M1 _
  refine zG_blk (c' := (2091, [zR 0, zR 8, zR 97, .inl i], [.inl (i + 1), zR 0, zR 97])) 6 (by decide) hz (zsteps_seg hg (by rw [show (.inl (i + 1) : zV) = .inl (w32 (i + 1)) from by rw [w32_id (by omega)]]; rfl)) ?_
  refine zG_iald (by decide) hz (hg _ _ rfl) rfl (.inr rfl) (by omega) ?_
  rw [show M1 0 (i + 1).toNat = 1 from (hc0 _).trans hx1.symm]
  show zG n (114, 4080270) 300 311 (2092, [zR 0, zR 8, zR 97, .inl i], [.inl 1, zR 97]) M1 _
  refine zG_call (by decide) hz zp_290 (hg _ _ rfl) rfl (Nat.le_of_ble_eq_true rfl) ⟨Nat.le_of_ble_eq_true rfl, Nat.le_of_ble_eq_true rfl⟩ (qx_image (by decide) hI 1 (by omega)) (fun vr M2 hr => ?_)
  obtain ⟨⟨hC2, hF2⟩, h2⟩ := hr
  have lo := hF2.lo rfl
  have eL : ∀ r, r < 97 → M2 r = M1 r := fun r hr => funext fun k => lo r k hr
  obtain ⟨g1, g2, g3, g4⟩ := hJ.2.2
  obtain ⟨k1, k2, k3, k4⟩ := hm_165_1 hJ.1 g1
  rw [← hM1] at k2 k3 k4
  obtain ⟨rfl, ⟨v1, v2⟩, v3, v4⟩ : vr = some (.inl 1) ∧ (M2 100 (1 : Int).toNat = 1 ∧ ∀ j, j ≠ (1 : Int).toNat → M2 100 j = M1 100 j) ∧ (∀ j : Nat, j < 5664 → M2 99 ((5664 * 1 : Int).toNat + j) = M1 98 j) ∧ (∀ j : Nat, (j < (5664 * 1 : Int).toNat ∨ (5664 * 1 : Int).toNat + 5664 ≤ j) → M2 99 j = M1 99 j) := by rcases h2 with ⟨-, h, -⟩ | ⟨h, -, h3, h4, h5⟩; exact absurd (by decide) h; exact ⟨h, h3, h4, h5⟩
  have n98 : ∀ j, M2 98 j = M 98 j := fun j => (hF2.ar 98 j (by decide) (by decide)).trans (hi 98 j (by decide))
  have v1 : M2 100 1 = 1 := v1
  have v2 : M2 100 0 = M 100 0 := (v2 0 (by decide)).trans (hi 100 0 (by decide))
  have eA : ∀ r, (r < 43 ∨ 60 ≤ r) → r ≠ 8 → r < 97 → M2 r = M r := fun r h1 h2 h3 => (eL r h3).trans (k4 r h1 h2)
  have p0 := hJ.2.1.bl100 0
  have p1 := hJ.2.1.bl100 1
  have hJ2 : qJ M2 := by
    refine ⟨hC1.same lo, hC2, ?_, ?_, ?_, ?_⟩
    · exact g1.fr (fun r hr => eA r (by omega) (by omega) (by omega)) (fun j _ _ _ _ => n98 j)
    · refine fun hk => (g2 (by rw [← v2]; exact hk)).fr (fun r hr => eA r (by omega) (by omega) (by omega)) (fun j hj _ _ _ => ?_)
      exact (v4 j (.inl (by omega))).trans (hi 99 _ (by decide))
    · refine fun _ => k2.fr (fun r hr => eL r (by omega)) (fun j hj _ _ _ => ?_)
      have q := v3 j hj
      rw [show ((5664 * 1 : Int).toNat + j) = 5664 + j by omega] at q
      exact q.trans (hi 98 j (by decide))
    · have m8 : M2 8 3 = zbor (M 8 3) (zbshl 1 1) := (lo 8 3 (by decide)).trans k3
      have z5 : M2 8 3 = M 100 0 + 2 := by
        rw [m8, g4.2.2]
        rcases p0 with h | h <;> rcases p1 with h' | h' <;> rw [h, h'] <;> decide
      omega
  show zG n (114, 4080270) 300 311 (2095, [zR 0, zR 8, zR 97, .inl i], [.inl 1]) M2 _
  refine zG_blk (c' := (2158, [zR 0, zR 8, zR 97, .inl i], [])) 2 (by decide) hz (zsteps_seg hg rfl) ?_
  exact K M2 hJ2
set_option maxRecDepth 100000 in
theorem qL_42_n (hJ : qJ M) (hn : n ≤ 4096) (hi : 0 ≤ i ∧ i + 8 ≤ n) (K : ∀ M', qJ M' → zG n (114, 4080270) 300 311 (2158, [zR 0, zR 8, zR 97, .inl i], []) M' qLQ) (hA : ∀ x, x = M 0 (i + 1).toNat → ¬ (0 ≤ x ∧ x ≤ 1)) : zG n (114, 4080270) 300 311 (2076, [zR 0, zR 8, zR 97, .inl i], []) M qLQ := by
  have hz := zp_311
  have hg := sh_42
  refine zG_blk (c' := (2081, [zR 0, zR 8, zR 97, .inl i], [.inl (i + 1), zR 0, zR 8])) 5 (by decide) hz (zsteps_seg hg (by rw [show (.inl (i + 1) : zV) = .inl (w32 (i + 1)) from by rw [w32_id (by omega)]]; rfl)) ?_
  refine zG_iald (by decide) hz (hg _ _ rfl) rfl (.inr rfl) (by omega) ?_
  obtain ⟨x1, hx1⟩ : ∃ x : Int, x = M 0 (i + 1).toNat := ⟨_, rfl⟩
  rw [← hx1]
  have hr1 : qin x1 := by rw [hx1]; exact hJ.1.rng 0 _ (by decide) (by decide)
  have hA9 := hA x1 hx1
  show zG n (114, 4080270) 300 311 (2082, [zR 0, zR 8, zR 97, .inl i], [.inl x1, zR 8]) M _
  refine zG_call (by decide) hz zp_165 (hg _ _ rfl) rfl (Nat.le_of_ble_eq_true rfl) ⟨Nat.le_of_ble_eq_true rfl, Nat.le_of_ble_eq_true rfl⟩ (qe_165_8 (by decide) hJ.1 x1 (by omega)) (fun vr M1 hr => ?_)
  obtain ⟨⟨hC1, hF1⟩, h1⟩ := hr
  have h1' : vr = some (.inl (-2)) ∧ M1 = M := by rcases h1 with ⟨h, -, h'⟩ | ⟨-, h, -⟩; exact ⟨h, h'⟩; all_goals exact absurd h hA9
  obtain ⟨rfl, hM1⟩ := h1'
  have hi := hF1.hi rfl
  have hI := hJ.2.1.same hi
  have hc0 : ∀ j, M1 0 j = M 0 j := fun j => hF1 0 j (by decide)
  show zG n (114, 4080270) 300 311 (2085, [zR 0, zR 8, zR 97, .inl i], [.inl (-2)]) M1 _
  refine zG_blk (c' := (2091, [zR 0, zR 8, zR 97, .inl i], [.inl (i + 1), zR 0, zR 97])) 6 (by decide) hz (zsteps_seg hg (by rw [show (.inl (i + 1) : zV) = .inl (w32 (i + 1)) from by rw [w32_id (by omega)]]; rfl)) ?_
  refine zG_iald (by decide) hz (hg _ _ rfl) rfl (.inr rfl) (by omega) ?_
  rw [show M1 0 (i + 1).toNat = x1 from (hc0 _).trans hx1.symm]
  show zG n (114, 4080270) 300 311 (2092, [zR 0, zR 8, zR 97, .inl i], [.inl x1, zR 97]) M1 _
  refine zG_call (by decide) hz zp_290 (hg _ _ rfl) rfl (Nat.le_of_ble_eq_true rfl) ⟨Nat.le_of_ble_eq_true rfl, Nat.le_of_ble_eq_true rfl⟩ (qx_image (by decide) hI x1 (by omega)) (fun vr M2 hr => ?_)
  obtain ⟨⟨hC2, hF2⟩, h2⟩ := hr
  have lo := hF2.lo rfl
  have eL : ∀ r, r < 97 → M2 r = M1 r := fun r hr => funext fun k => lo r k hr
  obtain ⟨g1, g2, g3, g4⟩ := hJ.2.2
  have h2' : vr = some (.inl (-2)) ∧ M2 = M1 := by rcases h2 with ⟨h, -, h'⟩ | ⟨-, h, -⟩; exact ⟨h, h'⟩; all_goals exact absurd h hA9
  obtain ⟨rfl, hM2⟩ := h2'
  have hJ2 : qJ M2 := by rw [hM2, hM1]; exact hJ
  show zG n (114, 4080270) 300 311 (2095, [zR 0, zR 8, zR 97, .inl i], [.inl (-2)]) M2 _
  refine zG_blk (c' := (2158, [zR 0, zR 8, zR 97, .inl i], [])) 2 (by decide) hz (zsteps_seg hg rfl) ?_
  exact K M2 hJ2
theorem qL_42 (hJ : qJ M) (hn : n ≤ 4096) (hi : 0 ≤ i ∧ i + 8 ≤ n) (K : ∀ M', qJ M' → zG n (114, 4080270) 300 311 (2158, [zR 0, zR 8, zR 97, .inl i], []) M' qLQ) : zG n (114, 4080270) 300 311 (2076, [zR 0, zR 8, zR 97, .inl i], []) M qLQ := by
  by_cases h0 : M 0 (i + 1).toNat = 0
  · exact qL_42_0 hJ hn hi K (fun x hx => hx.trans h0)
  · by_cases h1 : M 0 (i + 1).toNat = 1
    · exact qL_42_1 hJ hn hi K (fun x hx => hx.trans h1)
    · exact qL_42_n hJ hn hi K (fun x hx => by omega)
noncomputable def sg_43 : List zE := [(2099, .aload_n ⟨1, zfin1⟩, 2100, zx0),
  (2100, .aload_n ⟨0, zfin0⟩, 2101, zx0),
  (2101, .iload_n ⟨3, zfin3⟩, 2102, zx0),
  (2102, .iconst 1, 2103, zx0),
  (2103, .iadd, 2104, zx0),
  (2104, .iaload, 2105, zx0),
  (2105, .invokevirtual 198, 2108, (166, 2, 0, [11])),
  (2108, .pop, 2109, zx0),
  (2109, .aload_n ⟨2, zfin2⟩, 2110, zx0),
  (2110, .aload_n ⟨0, zfin0⟩, 2111, zx0),
  (2111, .iload_n ⟨3, zfin3⟩, 2112, zx0),
  (2112, .iconst 1, 2113, zx0),
  (2113, .iadd, 2114, zx0),
  (2114, .iaload, 2115, zx0),
  (2115, .invokevirtual 201, 2118, (291, 2, 0, [12])),
  (2118, .pop, 2119, zx0),
  (2119, .goto (39), 2122, (2158, 0, 0, []))]
set_option maxRecDepth 100000 in
theorem sh_43 : zSeg zk_L_law sg_43 := zSeg_of 1597 17 2099 (by decide +kernel) rfl (by decide +kernel)
end LW
