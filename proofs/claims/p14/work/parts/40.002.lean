section LW
variable {n : Nat} {M : zM} {i : Int}
abbrev qLQ : Option zV → zM → Prop := fun v _ => v = some (.inl 1)
noncomputable def sg_0 : List zE := [(232, .aload_n ⟨1, zfin1⟩, 233, zx0),
  (233, .aload_n ⟨0, zfin0⟩, 234, zx0),
  (234, .iload_n ⟨3, zfin3⟩, 235, zx0),
  (235, .iconst 1, 236, zx0),
  (236, .iadd, 237, zx0),
  (237, .iaload, 238, zx0),
  (238, .aload_n ⟨0, zfin0⟩, 239, zx0),
  (239, .iload_n ⟨3, zfin3⟩, 240, zx0),
  (240, .iconst 2, 241, zx0),
  (241, .iadd, 242, zx0),
  (242, .iaload, 243, zx0),
  (243, .aload_n ⟨0, zfin0⟩, 244, zx0),
  (244, .iload_n ⟨3, zfin3⟩, 245, zx0),
  (245, .iconst 3, 246, zx0),
  (246, .iadd, 247, zx0),
  (247, .iaload, 248, zx0),
  (248, .aload_n ⟨0, zfin0⟩, 249, zx0),
  (249, .iload_n ⟨3, zfin3⟩, 250, zx0),
  (250, .iconst 4, 251, zx0),
  (251, .iadd, 252, zx0),
  (252, .iaload, 253, zx0),
  (253, .invokevirtual 13, 256, (123, 5, 0, [11])),
  (256, .pop, 257, zx0),
  (257, .aload_n ⟨2, zfin2⟩, 258, zx0),
  (258, .aload_n ⟨0, zfin0⟩, 259, zx0),
  (259, .iload_n ⟨3, zfin3⟩, 260, zx0),
  (260, .iconst 1, 261, zx0),
  (261, .iadd, 262, zx0),
  (262, .iaload, 263, zx0),
  (263, .aload_n ⟨0, zfin0⟩, 264, zx0),
  (264, .iload_n ⟨3, zfin3⟩, 265, zx0),
  (265, .iconst 2, 266, zx0),
  (266, .iadd, 267, zx0),
  (267, .iaload, 268, zx0),
  (268, .aload_n ⟨0, zfin0⟩, 269, zx0),
  (269, .iload_n ⟨3, zfin3⟩, 270, zx0),
  (270, .iconst 3, 271, zx0),
  (271, .iadd, 272, zx0),
  (272, .iaload, 273, zx0),
  (273, .aload_n ⟨0, zfin0⟩, 274, zx0),
  (274, .iload_n ⟨3, zfin3⟩, 275, zx0),
  (275, .iconst 4, 276, zx0),
  (276, .iadd, 277, zx0),
  (277, .iaload, 278, zx0),
  (278, .invokevirtual 17, 281, (187, 5, 0, [12])),
  (281, .pop, 282, zx0),
  (282, .goto (1876), 285, (2158, 0, 0, []))]
set_option maxRecDepth 100000 in
theorem sh_0 : zSeg zk_L_law sg_0 := zSeg_of 22 47 232 (by decide +kernel) rfl (by decide +kernel)
set_option maxRecDepth 100000 in
theorem qL_0 (hJ : qJ M) (hn : n ≤ 4096) (hi : 0 ≤ i ∧ i + 8 ≤ n) (K : ∀ M', qJ M' → zG n (114, 4080270) 300 311 (2158, [zR 0, zR 8, zR 97, .inl i], []) M' qLQ) : zG n (114, 4080270) 300 311 (232, [zR 0, zR 8, zR 97, .inl i], []) M qLQ := by
  have hz := zp_311
  have hg := sh_0
  refine zG_blk (c' := (237, [zR 0, zR 8, zR 97, .inl i], [.inl (i + 1), zR 0, zR 8])) 5 (by decide) hz (zsteps_seg hg (by rw [show (.inl (i + 1) : zV) = .inl (w32 (i + 1)) from by rw [w32_id (by omega)]]; rfl)) ?_
  refine zG_iald (by decide) hz (hg _ _ rfl) rfl (.inr rfl) (by omega) ?_
  obtain ⟨x1, hx1⟩ : ∃ x : Int, x = M 0 (i + 1).toNat := ⟨_, rfl⟩
  rw [← hx1]
  have hr1 : qin x1 := by rw [hx1]; exact hJ.1.rng 0 _ (by decide) (by decide)
  show zG n (114, 4080270) 300 311 (238, [zR 0, zR 8, zR 97, .inl i], [.inl x1, zR 8]) M _
  refine zG_blk (c' := (242, [zR 0, zR 8, zR 97, .inl i], [.inl (i + 2), zR 0, .inl x1, zR 8])) 4 (by decide) hz (zsteps_seg hg (by rw [show (.inl (i + 2) : zV) = .inl (w32 (i + 2)) from by rw [w32_id (by omega)]]; rfl)) ?_
  refine zG_iald (by decide) hz (hg _ _ rfl) rfl (.inr rfl) (by omega) ?_
  obtain ⟨x2, hx2⟩ : ∃ x : Int, x = M 0 (i + 2).toNat := ⟨_, rfl⟩
  rw [← hx2]
  have hr2 : qin x2 := by rw [hx2]; exact hJ.1.rng 0 _ (by decide) (by decide)
  show zG n (114, 4080270) 300 311 (243, [zR 0, zR 8, zR 97, .inl i], [.inl x2, .inl x1, zR 8]) M _
  refine zG_blk (c' := (247, [zR 0, zR 8, zR 97, .inl i], [.inl (i + 3), zR 0, .inl x2, .inl x1, zR 8])) 4 (by decide) hz (zsteps_seg hg (by rw [show (.inl (i + 3) : zV) = .inl (w32 (i + 3)) from by rw [w32_id (by omega)]]; rfl)) ?_
  refine zG_iald (by decide) hz (hg _ _ rfl) rfl (.inr rfl) (by omega) ?_
  obtain ⟨x3, hx3⟩ : ∃ x : Int, x = M 0 (i + 3).toNat := ⟨_, rfl⟩
  rw [← hx3]
  have hr3 : qin x3 := by rw [hx3]; exact hJ.1.rng 0 _ (by decide) (by decide)
  show zG n (114, 4080270) 300 311 (248, [zR 0, zR 8, zR 97, .inl i], [.inl x3, .inl x2, .inl x1, zR 8]) M _
  refine zG_blk (c' := (252, [zR 0, zR 8, zR 97, .inl i], [.inl (i + 4), zR 0, .inl x3, .inl x2, .inl x1, zR 8])) 4 (by decide) hz (zsteps_seg hg (by rw [show (.inl (i + 4) : zV) = .inl (w32 (i + 4)) from by rw [w32_id (by omega)]]; rfl)) ?_
  refine zG_iald (by decide) hz (hg _ _ rfl) rfl (.inr rfl) (by omega) ?_
  obtain ⟨x4, hx4⟩ : ∃ x : Int, x = M 0 (i + 4).toNat := ⟨_, rfl⟩
  rw [← hx4]
  have hr4 : qin x4 := by rw [hx4]; exact hJ.1.rng 0 _ (by decide) (by decide)
  show zG n (114, 4080270) 300 311 (253, [zR 0, zR 8, zR 97, .inl i], [.inl x4, .inl x3, .inl x2, .inl x1, zR 8]) M _
  refine zG_call (by decide) hz zp_123 (hg _ _ rfl) rfl (Nat.le_of_ble_eq_true rfl) ⟨Nat.le_of_ble_eq_true rfl, Nat.le_of_ble_eq_true rfl⟩ (zG.andH (qm_123_8 (by decide) hJ.1 x1 (by omega) x2 (by omega) x3 (by omega) x4 (by omega)) (fh_123_8 x1 x2 x3 x4)) (fun vr M1 hr => ?_)
  obtain ⟨⟨⟨hC1, hF1⟩, -⟩, rfl, hM1⟩ := hr
  have hi := hF1.hi rfl
  have hI := hJ.2.1.same hi
  have hc0 : ∀ j, M1 0 j = M 0 j := fun j => hF1 0 j (by decide)
  show zG n (114, 4080270) 300 311 (256, [zR 0, zR 8, zR 97, .inl i], [.inl (hf_123_8 M x1 x2 x3 x4).1]) M1 _
  refine zG_blk (c' := (262, [zR 0, zR 8, zR 97, .inl i], [.inl (i + 1), zR 0, zR 97])) 6 (by decide) hz (zsteps_seg hg (by rw [show (.inl (i + 1) : zV) = .inl (w32 (i + 1)) from by rw [w32_id (by omega)]]; rfl)) ?_
  refine zG_iald (by decide) hz (hg _ _ rfl) rfl (.inr rfl) (by omega) ?_
  rw [show M1 0 (i + 1).toNat = x1 from (hc0 _).trans hx1.symm]
  show zG n (114, 4080270) 300 311 (263, [zR 0, zR 8, zR 97, .inl i], [.inl x1, zR 97]) M1 _
  refine zG_blk (c' := (267, [zR 0, zR 8, zR 97, .inl i], [.inl (i + 2), zR 0, .inl x1, zR 97])) 4 (by decide) hz (zsteps_seg hg (by rw [show (.inl (i + 2) : zV) = .inl (w32 (i + 2)) from by rw [w32_id (by omega)]]; rfl)) ?_
  refine zG_iald (by decide) hz (hg _ _ rfl) rfl (.inr rfl) (by omega) ?_
  rw [show M1 0 (i + 2).toNat = x2 from (hc0 _).trans hx2.symm]
  show zG n (114, 4080270) 300 311 (268, [zR 0, zR 8, zR 97, .inl i], [.inl x2, .inl x1, zR 97]) M1 _
  refine zG_blk (c' := (272, [zR 0, zR 8, zR 97, .inl i], [.inl (i + 3), zR 0, .inl x2, .inl x1, zR 97])) 4 (by decide) hz (zsteps_seg hg (by rw [show (.inl (i + 3) : zV) = .inl (w32 (i + 3)) from by rw [w32_id (by omega)]]; rfl)) ?_
  refine zG_iald (by decide) hz (hg _ _ rfl) rfl (.inr rfl) (by omega) ?_
  rw [show M1 0 (i + 3).toNat = x3 from (hc0 _).trans hx3.symm]
  show zG n (114, 4080270) 300 311 (273, [zR 0, zR 8, zR 97, .inl i], [.inl x3, .inl x2, .inl x1, zR 97]) M1 _
  refine zG_blk (c' := (277, [zR 0, zR 8, zR 97, .inl i], [.inl (i + 4), zR 0, .inl x3, .inl x2, .inl x1, zR 97])) 4 (by decide) hz (zsteps_seg hg (by rw [show (.inl (i + 4) : zV) = .inl (w32 (i + 4)) from by rw [w32_id (by omega)]]; rfl)) ?_
  refine zG_iald (by decide) hz (hg _ _ rfl) rfl (.inr rfl) (by omega) ?_
  rw [show M1 0 (i + 4).toNat = x4 from (hc0 _).trans hx4.symm]
  show zG n (114, 4080270) 300 311 (278, [zR 0, zR 8, zR 97, .inl i], [.inl x4, .inl x3, .inl x2, .inl x1, zR 97]) M1 _
  refine zG_call (by decide) hz zp_187 (hg _ _ rfl) rfl (Nat.le_of_ble_eq_true rfl) ⟨Nat.le_of_ble_eq_true rfl, Nat.le_of_ble_eq_true rfl⟩ (zG.andH (qm_187_97 (by decide) hI x1 (by omega) x2 (by omega) x3 (by omega) x4 (by omega)) (fh_187_97 x1 x2 x3 x4)) (fun vr M2 hr => ?_)
  obtain ⟨⟨⟨hC2, hF2⟩, -⟩, rfl, hM2⟩ := hr
  have hm := hm_123 hJ.2.2.1 hJ.1.tb hJ.2.1.bd (a1 := x1) (a2 := x2) (a3 := x3) (a4 := x4)
  rw [← hM1] at hm
  rw [← hM2] at hm
  have hJ2 : qJ M2 := hJ.mut hC1 hF1 rfl rfl hC2 hF2 rfl (by decide) hm.2
  show zG n (114, 4080270) 300 311 (281, [zR 0, zR 8, zR 97, .inl i], [.inl (hf_187_97 M1 x1 x2 x3 x4).1]) M2 _
  refine zG_blk (c' := (2158, [zR 0, zR 8, zR 97, .inl i], [])) 2 (by decide) hz (zsteps_seg hg rfl) ?_
  exact K M2 hJ2
noncomputable def sg_1 : List zE := [(285, .aload_n ⟨1, zfin1⟩, 286, zx0),
  (286, .aload_n ⟨0, zfin0⟩, 287, zx0),
  (287, .iload_n ⟨3, zfin3⟩, 288, zx0),
  (288, .iconst 1, 289, zx0),
  (289, .iadd, 290, zx0),
  (290, .iaload, 291, zx0),
  (291, .invokevirtual 18, 294, (124, 2, 0, [11])),
  (294, .pop, 295, zx0),
  (295, .aload_n ⟨2, zfin2⟩, 296, zx0),
  (296, .aload_n ⟨0, zfin0⟩, 297, zx0),
  (297, .iload_n ⟨3, zfin3⟩, 298, zx0),
  (298, .iconst 1, 299, zx0),
  (299, .iadd, 300, zx0),
  (300, .iaload, 301, zx0),
  (301, .invokevirtual 22, 304, (188, 2, 0, [12])),
  (304, .pop, 305, zx0),
  (305, .goto (1853), 308, (2158, 0, 0, []))]
set_option maxRecDepth 100000 in
theorem sh_1 : zSeg zk_L_law sg_1 := zSeg_of 69 17 285 (by decide +kernel) rfl (by decide +kernel)
set_option maxRecDepth 100000 in
theorem qL_1 (hJ : qJ M) (hn : n ≤ 4096) (hi : 0 ≤ i ∧ i + 8 ≤ n) (K : ∀ M', qJ M' → zG n (114, 4080270) 300 311 (2158, [zR 0, zR 8, zR 97, .inl i], []) M' qLQ) : zG n (114, 4080270) 300 311 (285, [zR 0, zR 8, zR 97, .inl i], []) M qLQ := by
  have hz := zp_311
  have hg := sh_1
  refine zG_blk (c' := (290, [zR 0, zR 8, zR 97, .inl i], [.inl (i + 1), zR 0, zR 8])) 5 (by decide) hz (zsteps_seg hg (by rw [show (.inl (i + 1) : zV) = .inl (w32 (i + 1)) from by rw [w32_id (by omega)]]; rfl)) ?_
  refine zG_iald (by decide) hz (hg _ _ rfl) rfl (.inr rfl) (by omega) ?_
  obtain ⟨x1, hx1⟩ : ∃ x : Int, x = M 0 (i + 1).toNat := ⟨_, rfl⟩
  rw [← hx1]
  have hr1 : qin x1 := by rw [hx1]; exact hJ.1.rng 0 _ (by decide) (by decide)
  show zG n (114, 4080270) 300 311 (291, [zR 0, zR 8, zR 97, .inl i], [.inl x1, zR 8]) M _
  refine zG_call (by decide) hz zp_124 (hg _ _ rfl) rfl (Nat.le_of_ble_eq_true rfl) ⟨Nat.le_of_ble_eq_true rfl, Nat.le_of_ble_eq_true rfl⟩ (zG.andH (qm_124_8 (by decide) hJ.1 x1 (by omega)) (fh_124_8 x1)) (fun vr M1 hr => ?_)
  obtain ⟨⟨⟨hC1, hF1⟩, -⟩, rfl, hM1⟩ := hr
  have hi := hF1.hi rfl
  have hI := hJ.2.1.same hi
  have hc0 : ∀ j, M1 0 j = M 0 j := fun j => hF1 0 j (by decide)
  show zG n (114, 4080270) 300 311 (294, [zR 0, zR 8, zR 97, .inl i], [.inl (hf_124_8 M x1).1]) M1 _
  refine zG_blk (c' := (300, [zR 0, zR 8, zR 97, .inl i], [.inl (i + 1), zR 0, zR 97])) 6 (by decide) hz (zsteps_seg hg (by rw [show (.inl (i + 1) : zV) = .inl (w32 (i + 1)) from by rw [w32_id (by omega)]]; rfl)) ?_
  refine zG_iald (by decide) hz (hg _ _ rfl) rfl (.inr rfl) (by omega) ?_
  rw [show M1 0 (i + 1).toNat = x1 from (hc0 _).trans hx1.symm]
  show zG n (114, 4080270) 300 311 (301, [zR 0, zR 8, zR 97, .inl i], [.inl x1, zR 97]) M1 _
  refine zG_call (by decide) hz zp_188 (hg _ _ rfl) rfl (Nat.le_of_ble_eq_true rfl) ⟨Nat.le_of_ble_eq_true rfl, Nat.le_of_ble_eq_true rfl⟩ (zG.andH (qm_188_97 (by decide) hI x1 (by omega)) (fh_188_97 x1)) (fun vr M2 hr => ?_)
  obtain ⟨⟨⟨hC2, hF2⟩, -⟩, rfl, hM2⟩ := hr
  have hm := hm_124 hJ.2.2.1 hJ.1.tb hJ.2.1.bd (a1 := x1)
  rw [← hM1] at hm
  rw [← hM2] at hm
  have hJ2 : qJ M2 := hJ.mut hC1 hF1 rfl rfl hC2 hF2 rfl (by decide) hm.2
  show zG n (114, 4080270) 300 311 (304, [zR 0, zR 8, zR 97, .inl i], [.inl (hf_188_97 M1 x1).1]) M2 _
  refine zG_blk (c' := (2158, [zR 0, zR 8, zR 97, .inl i], [])) 2 (by decide) hz (zsteps_seg hg rfl) ?_
  exact K M2 hJ2
noncomputable def sg_2 : List zE := [(308, .aload_n ⟨1, zfin1⟩, 309, zx0),
  (309, .aload_n ⟨0, zfin0⟩, 310, zx0),
  (310, .iload_n ⟨3, zfin3⟩, 311, zx0),
  (311, .iconst 1, 312, zx0),
  (312, .iadd, 313, zx0),
  (313, .iaload, 314, zx0),
  (314, .aload_n ⟨0, zfin0⟩, 315, zx0),
  (315, .iload_n ⟨3, zfin3⟩, 316, zx0),
  (316, .iconst 2, 317, zx0),
  (317, .iadd, 318, zx0),
  (318, .iaload, 319, zx0),
  (319, .invokevirtual 23, 322, (125, 3, 0, [11])),
  (322, .pop, 323, zx0),
  (323, .aload_n ⟨2, zfin2⟩, 324, zx0),
  (324, .aload_n ⟨0, zfin0⟩, 325, zx0),
  (325, .iload_n ⟨3, zfin3⟩, 326, zx0),
  (326, .iconst 1, 327, zx0),
  (327, .iadd, 328, zx0),
  (328, .iaload, 329, zx0),
  (329, .aload_n ⟨0, zfin0⟩, 330, zx0),
  (330, .iload_n ⟨3, zfin3⟩, 331, zx0),
  (331, .iconst 2, 332, zx0),
  (332, .iadd, 333, zx0),
  (333, .iaload, 334, zx0),
  (334, .invokevirtual 27, 337, (189, 3, 0, [12])),
  (337, .pop, 338, zx0),
  (338, .goto (1820), 341, (2158, 0, 0, []))]
set_option maxRecDepth 100000 in
theorem sh_2 : zSeg zk_L_law sg_2 := zSeg_of 86 27 308 (by decide +kernel) rfl (by decide +kernel)
set_option maxRecDepth 100000 in
theorem qL_2 (hJ : qJ M) (hn : n ≤ 4096) (hi : 0 ≤ i ∧ i + 8 ≤ n) (K : ∀ M', qJ M' → zG n (114, 4080270) 300 311 (2158, [zR 0, zR 8, zR 97, .inl i], []) M' qLQ) : zG n (114, 4080270) 300 311 (308, [zR 0, zR 8, zR 97, .inl i], []) M qLQ := by
  have hz := zp_311
  have hg := sh_2
  refine zG_blk (c' := (313, [zR 0, zR 8, zR 97, .inl i], [.inl (i + 1), zR 0, zR 8])) 5 (by decide) hz (zsteps_seg hg (by rw [show (.inl (i + 1) : zV) = .inl (w32 (i + 1)) from by rw [w32_id (by omega)]]; rfl)) ?_
  refine zG_iald (by decide) hz (hg _ _ rfl) rfl (.inr rfl) (by omega) ?_
  obtain ⟨x1, hx1⟩ : ∃ x : Int, x = M 0 (i + 1).toNat := ⟨_, rfl⟩
  rw [← hx1]
  have hr1 : qin x1 := by rw [hx1]; exact hJ.1.rng 0 _ (by decide) (by decide)
  show zG n (114, 4080270) 300 311 (314, [zR 0, zR 8, zR 97, .inl i], [.inl x1, zR 8]) M _
  refine zG_blk (c' := (318, [zR 0, zR 8, zR 97, .inl i], [.inl (i + 2), zR 0, .inl x1, zR 8])) 4 (by decide) hz (zsteps_seg hg (by rw [show (.inl (i + 2) : zV) = .inl (w32 (i + 2)) from by rw [w32_id (by omega)]]; rfl)) ?_
  refine zG_iald (by decide) hz (hg _ _ rfl) rfl (.inr rfl) (by omega) ?_
  obtain ⟨x2, hx2⟩ : ∃ x : Int, x = M 0 (i + 2).toNat := ⟨_, rfl⟩
  rw [← hx2]
  have hr2 : qin x2 := by rw [hx2]; exact hJ.1.rng 0 _ (by decide) (by decide)
  show zG n (114, 4080270) 300 311 (319, [zR 0, zR 8, zR 97, .inl i], [.inl x2, .inl x1, zR 8]) M _
  refine zG_call (by decide) hz zp_125 (hg _ _ rfl) rfl (Nat.le_of_ble_eq_true rfl) ⟨Nat.le_of_ble_eq_true rfl, Nat.le_of_ble_eq_true rfl⟩ (zG.andH (qm_125_8 (by decide) hJ.1 x1 (by omega) x2 (by omega)) (fh_125_8 x1 x2)) (fun vr M1 hr => ?_)
  obtain ⟨⟨⟨hC1, hF1⟩, -⟩, rfl, hM1⟩ := hr
  have hi := hF1.hi rfl
  have hI := hJ.2.1.same hi
  have hc0 : ∀ j, M1 0 j = M 0 j := fun j => hF1 0 j (by decide)
  show zG n (114, 4080270) 300 311 (322, [zR 0, zR 8, zR 97, .inl i], [.inl (hf_125_8 M x1 x2).1]) M1 _
  refine zG_blk (c' := (328, [zR 0, zR 8, zR 97, .inl i], [.inl (i + 1), zR 0, zR 97])) 6 (by decide) hz (zsteps_seg hg (by rw [show (.inl (i + 1) : zV) = .inl (w32 (i + 1)) from by rw [w32_id (by omega)]]; rfl)) ?_
  refine zG_iald (by decide) hz (hg _ _ rfl) rfl (.inr rfl) (by omega) ?_
  rw [show M1 0 (i + 1).toNat = x1 from (hc0 _).trans hx1.symm]
  show zG n (114, 4080270) 300 311 (329, [zR 0, zR 8, zR 97, .inl i], [.inl x1, zR 97]) M1 _
  refine zG_blk (c' := (333, [zR 0, zR 8, zR 97, .inl i], [.inl (i + 2), zR 0, .inl x1, zR 97])) 4 (by decide) hz (zsteps_seg hg (by rw [show (.inl (i + 2) : zV) = .inl (w32 (i + 2)) from by rw [w32_id (by omega)]]; rfl)) ?_
  refine zG_iald (by decide) hz (hg _ _ rfl) rfl (.inr rfl) (by omega) ?_
  rw [show M1 0 (i + 2).toNat = x2 from (hc0 _).trans hx2.symm]
  show zG n (114, 4080270) 300 311 (334, [zR 0, zR 8, zR 97, .inl i], [.inl x2, .inl x1, zR 97]) M1 _
  refine zG_call (by decide) hz zp_189 (hg _ _ rfl) rfl (Nat.le_of_ble_eq_true rfl) ⟨Nat.le_of_ble_eq_true rfl, Nat.le_of_ble_eq_true rfl⟩ (zG.andH (qm_189_97 (by decide) hI x1 (by omega) x2 (by omega)) (fh_189_97 x1 x2)) (fun vr M2 hr => ?_)
  obtain ⟨⟨⟨hC2, hF2⟩, -⟩, rfl, hM2⟩ := hr
  have hm := hm_125 hJ.2.2.1 hJ.1.tb hJ.2.1.bd (a1 := x1) (a2 := x2)
  rw [← hM1] at hm
  rw [← hM2] at hm
  have hJ2 : qJ M2 := hJ.mut hC1 hF1 rfl rfl hC2 hF2 rfl (by decide) hm.2
  show zG n (114, 4080270) 300 311 (337, [zR 0, zR 8, zR 97, .inl i], [.inl (hf_189_97 M1 x1 x2).1]) M2 _
  refine zG_blk (c' := (2158, [zR 0, zR 8, zR 97, .inl i], [])) 2 (by decide) hz (zsteps_seg hg rfl) ?_
  exact K M2 hJ2
noncomputable def sg_3 : List zE := [(341, .aload_n ⟨1, zfin1⟩, 342, zx0),
  (342, .aload_n ⟨0, zfin0⟩, 343, zx0),
  (343, .iload_n ⟨3, zfin3⟩, 344, zx0),
  (344, .iconst 1, 345, zx0),
  (345, .iadd, 346, zx0),
  (346, .iaload, 347, zx0),
  (347, .aload_n ⟨0, zfin0⟩, 348, zx0),
  (348, .iload_n ⟨3, zfin3⟩, 349, zx0),
  (349, .iconst 2, 350, zx0),
  (350, .iadd, 351, zx0),
  (351, .iaload, 352, zx0),
  (352, .aload_n ⟨0, zfin0⟩, 353, zx0),
  (353, .iload_n ⟨3, zfin3⟩, 354, zx0),
  (354, .iconst 3, 355, zx0),
  (355, .iadd, 356, zx0),
  (356, .iaload, 357, zx0),
  (357, .aload_n ⟨0, zfin0⟩, 358, zx0),
  (358, .iload_n ⟨3, zfin3⟩, 359, zx0),
  (359, .iconst 4, 360, zx0),
  (360, .iadd, 361, zx0),
  (361, .iaload, 362, zx0),
  (362, .invokevirtual 28, 365, (126, 5, 0, [11])),
  (365, .pop, 366, zx0),
  (366, .aload_n ⟨2, zfin2⟩, 367, zx0),
  (367, .aload_n ⟨0, zfin0⟩, 368, zx0),
  (368, .iload_n ⟨3, zfin3⟩, 369, zx0),
  (369, .iconst 1, 370, zx0),
  (370, .iadd, 371, zx0),
  (371, .iaload, 372, zx0),
  (372, .aload_n ⟨0, zfin0⟩, 373, zx0),
  (373, .iload_n ⟨3, zfin3⟩, 374, zx0),
  (374, .iconst 2, 375, zx0),
  (375, .iadd, 376, zx0),
  (376, .iaload, 377, zx0),
  (377, .aload_n ⟨0, zfin0⟩, 378, zx0),
  (378, .iload_n ⟨3, zfin3⟩, 379, zx0),
  (379, .iconst 3, 380, zx0),
  (380, .iadd, 381, zx0),
  (381, .iaload, 382, zx0),
  (382, .aload_n ⟨0, zfin0⟩, 383, zx0),
  (383, .iload_n ⟨3, zfin3⟩, 384, zx0),
  (384, .iconst 4, 385, zx0),
  (385, .iadd, 386, zx0),
  (386, .iaload, 387, zx0),
  (387, .invokevirtual 31, 390, (190, 5, 0, [12])),
  (390, .pop, 391, zx0),
  (391, .goto (1767), 394, (2158, 0, 0, []))]
set_option maxRecDepth 100000 in
theorem sh_3 : zSeg zk_L_law sg_3 := zSeg_of 113 47 341 (by decide +kernel) rfl (by decide +kernel)
set_option maxRecDepth 100000 in
theorem qL_3 (hJ : qJ M) (hn : n ≤ 4096) (hi : 0 ≤ i ∧ i + 8 ≤ n) (K : ∀ M', qJ M' → zG n (114, 4080270) 300 311 (2158, [zR 0, zR 8, zR 97, .inl i], []) M' qLQ) : zG n (114, 4080270) 300 311 (341, [zR 0, zR 8, zR 97, .inl i], []) M qLQ := by
  have hz := zp_311
  have hg := sh_3
  refine zG_blk (c' := (346, [zR 0, zR 8, zR 97, .inl i], [.inl (i + 1), zR 0, zR 8])) 5 (by decide) hz (zsteps_seg hg (by rw [show (.inl (i + 1) : zV) = .inl (w32 (i + 1)) from by rw [w32_id (by omega)]]; rfl)) ?_
  refine zG_iald (by decide) hz (hg _ _ rfl) rfl (.inr rfl) (by omega) ?_
  obtain ⟨x1, hx1⟩ : ∃ x : Int, x = M 0 (i + 1).toNat := ⟨_, rfl⟩
  rw [← hx1]
  have hr1 : qin x1 := by rw [hx1]; exact hJ.1.rng 0 _ (by decide) (by decide)
  show zG n (114, 4080270) 300 311 (347, [zR 0, zR 8, zR 97, .inl i], [.inl x1, zR 8]) M _
  refine zG_blk (c' := (351, [zR 0, zR 8, zR 97, .inl i], [.inl (i + 2), zR 0, .inl x1, zR 8])) 4 (by decide) hz (zsteps_seg hg (by rw [show (.inl (i + 2) : zV) = .inl (w32 (i + 2)) from by rw [w32_id (by omega)]]; rfl)) ?_
  refine zG_iald (by decide) hz (hg _ _ rfl) rfl (.inr rfl) (by omega) ?_
  obtain ⟨x2, hx2⟩ : ∃ x : Int, x = M 0 (i + 2).toNat := ⟨_, rfl⟩
  rw [← hx2]
  have hr2 : qin x2 := by rw [hx2]; exact hJ.1.rng 0 _ (by decide) (by decide)
  show zG n (114, 4080270) 300 311 (352, [zR 0, zR 8, zR 97, .inl i], [.inl x2, .inl x1, zR 8]) M _
  refine zG_blk (c' := (356, [zR 0, zR 8, zR 97, .inl i], [.inl (i + 3), zR 0, .inl x2, .inl x1, zR 8])) 4 (by decide) hz (zsteps_seg hg (by rw [show (.inl (i + 3) : zV) = .inl (w32 (i + 3)) from by rw [w32_id (by omega)]]; rfl)) ?_
  refine zG_iald (by decide) hz (hg _ _ rfl) rfl (.inr rfl) (by omega) ?_
  obtain ⟨x3, hx3⟩ : ∃ x : Int, x = M 0 (i + 3).toNat := ⟨_, rfl⟩
  rw [← hx3]
  have hr3 : qin x3 := by rw [hx3]; exact hJ.1.rng 0 _ (by decide) (by decide)
  show zG n (114, 4080270) 300 311 (357, [zR 0, zR 8, zR 97, .inl i], [.inl x3, .inl x2, .inl x1, zR 8]) M _
  refine zG_blk (c' := (361, [zR 0, zR 8, zR 97, .inl i], [.inl (i + 4), zR 0, .inl x3, .inl x2, .inl x1, zR 8])) 4 (by decide) hz (zsteps_seg hg (by rw [show (.inl (i + 4) : zV) = .inl (w32 (i + 4)) from by rw [w32_id (by omega)]]; rfl)) ?_
  refine zG_iald (by decide) hz (hg _ _ rfl) rfl (.inr rfl) (by omega) ?_
  obtain ⟨x4, hx4⟩ : ∃ x : Int, x = M 0 (i + 4).toNat := ⟨_, rfl⟩
  rw [← hx4]
  have hr4 : qin x4 := by rw [hx4]; exact hJ.1.rng 0 _ (by decide) (by decide)
  show zG n (114, 4080270) 300 311 (362, [zR 0, zR 8, zR 97, .inl i], [.inl x4, .inl x3, .inl x2, .inl x1, zR 8]) M _
  refine zG_call (by decide) hz zp_126 (hg _ _ rfl) rfl (Nat.le_of_ble_eq_true rfl) ⟨Nat.le_of_ble_eq_true rfl, Nat.le_of_ble_eq_true rfl⟩ (zG.andH (qm_126_8 (by decide) hJ.1 x1 (by omega) x2 (by omega) x3 (by omega) x4 (by omega)) (fh_126_8 x1 x2 x3 x4)) (fun vr M1 hr => ?_)
  obtain ⟨⟨⟨hC1, hF1⟩, -⟩, rfl, hM1⟩ := hr
  have hi := hF1.hi rfl
  have hI := hJ.2.1.same hi
  have hc0 : ∀ j, M1 0 j = M 0 j := fun j => hF1 0 j (by decide)
  show zG n (114, 4080270) 300 311 (365, [zR 0, zR 8, zR 97, .inl i], [.inl (hf_126_8 M x1 x2 x3 x4).1]) M1 _
  refine zG_blk (c' := (371, [zR 0, zR 8, zR 97, .inl i], [.inl (i + 1), zR 0, zR 97])) 6 (by decide) hz (zsteps_seg hg (by rw [show (.inl (i + 1) : zV) = .inl (w32 (i + 1)) from by rw [w32_id (by omega)]]; rfl)) ?_
  refine zG_iald (by decide) hz (hg _ _ rfl) rfl (.inr rfl) (by omega) ?_
  rw [show M1 0 (i + 1).toNat = x1 from (hc0 _).trans hx1.symm]
  show zG n (114, 4080270) 300 311 (372, [zR 0, zR 8, zR 97, .inl i], [.inl x1, zR 97]) M1 _
  refine zG_blk (c' := (376, [zR 0, zR 8, zR 97, .inl i], [.inl (i + 2), zR 0, .inl x1, zR 97])) 4 (by decide) hz (zsteps_seg hg (by rw [show (.inl (i + 2) : zV) = .inl (w32 (i + 2)) from by rw [w32_id (by omega)]]; rfl)) ?_
  refine zG_iald (by decide) hz (hg _ _ rfl) rfl (.inr rfl) (by omega) ?_
  rw [show M1 0 (i + 2).toNat = x2 from (hc0 _).trans hx2.symm]
  show zG n (114, 4080270) 300 311 (377, [zR 0, zR 8, zR 97, .inl i], [.inl x2, .inl x1, zR 97]) M1 _
  refine zG_blk (c' := (381, [zR 0, zR 8, zR 97, .inl i], [.inl (i + 3), zR 0, .inl x2, .inl x1, zR 97])) 4 (by decide) hz (zsteps_seg hg (by rw [show (.inl (i + 3) : zV) = .inl (w32 (i + 3)) from by rw [w32_id (by omega)]]; rfl)) ?_
  refine zG_iald (by decide) hz (hg _ _ rfl) rfl (.inr rfl) (by omega) ?_
  rw [show M1 0 (i + 3).toNat = x3 from (hc0 _).trans hx3.symm]
  show zG n (114, 4080270) 300 311 (382, [zR 0, zR 8, zR 97, .inl i], [.inl x3, .inl x2, .inl x1, zR 97]) M1 _
  refine zG_blk (c' := (386, [zR 0, zR 8, zR 97, .inl i], [.inl (i + 4), zR 0, .inl x3, .inl x2, .inl x1, zR 97])) 4 (by decide) hz (zsteps_seg hg (by rw [show (.inl (i + 4) : zV) = .inl (w32 (i + 4)) from by rw [w32_id (by omega)]]; rfl)) ?_
  refine zG_iald (by decide) hz (hg _ _ rfl) rfl (.inr rfl) (by omega) ?_
  rw [show M1 0 (i + 4).toNat = x4 from (hc0 _).trans hx4.symm]
  show zG n (114, 4080270) 300 311 (387, [zR 0, zR 8, zR 97, .inl i], [.inl x4, .inl x3, .inl x2, .inl x1, zR 97]) M1 _
  refine zG_call (by decide) hz zp_190 (hg _ _ rfl) rfl (Nat.le_of_ble_eq_true rfl) ⟨Nat.le_of_ble_eq_true rfl, Nat.le_of_ble_eq_true rfl⟩ (zG.andH (qm_190_97 (by decide) hI x1 (by omega) x2 (by omega) x3 (by omega) x4 (by omega)) (fh_190_97 x1 x2 x3 x4)) (fun vr M2 hr => ?_)
  obtain ⟨⟨⟨hC2, hF2⟩, -⟩, rfl, hM2⟩ := hr
  have hm := hm_126 hJ.2.2.1 hJ.1.tb hJ.2.1.bd (a1 := x1) (a2 := x2) (a3 := x3) (a4 := x4)
  rw [← hM1] at hm
  rw [← hM2] at hm
  have hJ2 : qJ M2 := hJ.mut hC1 hF1 rfl rfl hC2 hF2 rfl (by decide) hm.2
  show zG n (114, 4080270) 300 311 (390, [zR 0, zR 8, zR 97, .inl i], [.inl (hf_190_97 M1 x1 x2 x3 x4).1]) M2 _
  refine zG_blk (c' := (2158, [zR 0, zR 8, zR 97, .inl i], [])) 2 (by decide) hz (zsteps_seg hg rfl) ?_
  exact K M2 hJ2
noncomputable def sg_4 : List zE := [(394, .aload_n ⟨1, zfin1⟩, 395, zx0),
  (395, .aload_n ⟨0, zfin0⟩, 396, zx0),
  (396, .iload_n ⟨3, zfin3⟩, 397, zx0),
  (397, .iconst 1, 398, zx0),
  (398, .iadd, 399, zx0),
  (399, .iaload, 400, zx0),
  (400, .aload_n ⟨0, zfin0⟩, 401, zx0),
  (401, .iload_n ⟨3, zfin3⟩, 402, zx0),
  (402, .iconst 2, 403, zx0),
  (403, .iadd, 404, zx0),
  (404, .iaload, 405, zx0),
  (405, .ifCond .eq (7), 408, (412, 0, 0, [])),
  (408, .iconst 1, 409, zx0),
  (409, .goto (4), 412, (413, 0, 0, [])),
  (412, .iconst 0, 413, zx0),
  (413, .invokevirtual 32, 416, (127, 3, 0, [11])),
  (416, .pop, 417, zx0),
  (417, .aload_n ⟨2, zfin2⟩, 418, zx0),
  (418, .aload_n ⟨0, zfin0⟩, 419, zx0),
  (419, .iload_n ⟨3, zfin3⟩, 420, zx0),
  (420, .iconst 1, 421, zx0),
  (421, .iadd, 422, zx0),
  (422, .iaload, 423, zx0),
  (423, .aload_n ⟨0, zfin0⟩, 424, zx0),
  (424, .iload_n ⟨3, zfin3⟩, 425, zx0),
  (425, .iconst 2, 426, zx0),
  (426, .iadd, 427, zx0),
  (427, .iaload, 428, zx0),
  (428, .ifCond .eq (7), 431, (435, 0, 0, [])),
  (431, .iconst 1, 432, zx0),
  (432, .goto (4), 435, (436, 0, 0, [])),
  (435, .iconst 0, 436, zx0),
  (436, .invokevirtual 36, 439, (191, 3, 0, [12])),
  (439, .pop, 440, zx0),
  (440, .goto (1718), 443, (2158, 0, 0, []))]
set_option maxRecDepth 100000 in
theorem sh_4 : zSeg zk_L_law sg_4 := zSeg_of 160 35 394 (by decide +kernel) rfl (by decide +kernel)
end LW
