section LW
variable {n : Nat} {M : zM} {i : Int}
set_option maxRecDepth 100000 in
theorem qL_4 (hJ : qJ M) (hn : n ≤ 4096) (hi : 0 ≤ i ∧ i + 8 ≤ n) (K : ∀ M', qJ M' → zG n (114, 4080270) 300 311 (2158, [zR 0, zR 8, zR 97, .inl i], []) M' qLQ) : zG n (114, 4080270) 300 311 (394, [zR 0, zR 8, zR 97, .inl i], []) M qLQ := by
  have hz := zp_311
  have hg := sh_4
  refine zG_blk (c' := (399, [zR 0, zR 8, zR 97, .inl i], [.inl (i + 1), zR 0, zR 8])) 5 (by decide) hz (zsteps_seg hg (by rw [show (.inl (i + 1) : zV) = .inl (w32 (i + 1)) from by rw [w32_id (by omega)]]; rfl)) ?_
  refine zG_iald (by decide) hz (hg _ _ rfl) rfl (.inr rfl) (by omega) ?_
  obtain ⟨x1, hx1⟩ : ∃ x : Int, x = M 0 (i + 1).toNat := ⟨_, rfl⟩
  rw [← hx1]
  have hr1 : qin x1 := by rw [hx1]; exact hJ.1.rng 0 _ (by decide) (by decide)
  show zG n (114, 4080270) 300 311 (400, [zR 0, zR 8, zR 97, .inl i], [.inl x1, zR 8]) M _
  refine zG_blk (c' := (404, [zR 0, zR 8, zR 97, .inl i], [.inl (i + 2), zR 0, .inl x1, zR 8])) 4 (by decide) hz (zsteps_seg hg (by rw [show (.inl (i + 2) : zV) = .inl (w32 (i + 2)) from by rw [w32_id (by omega)]]; rfl)) ?_
  refine zG_iald (by decide) hz (hg _ _ rfl) rfl (.inr rfl) (by omega) ?_
  obtain ⟨x2, hx2⟩ : ∃ x : Int, x = M 0 (i + 2).toNat := ⟨_, rfl⟩
  rw [← hx2]
  have hr2 : qin x2 := by rw [hx2]; exact hJ.1.rng 0 _ (by decide) (by decide)
  show zG n (114, 4080270) 300 311 (405, [zR 0, zR 8, zR 97, .inl i], [.inl x2, .inl x1, zR 8]) M _
  have j413 : ∀ b405 : Int, ((x2 = 0 ∧ b405 = 0) ∨ (¬ x2 = 0 ∧ b405 = 1)) → zG n (114, 4080270) 300 311 (413, [zR 0, zR 8, zR 97, .inl i], [.inl b405, .inl x1, zR 8]) M qLQ := by
    intro b405 hb405
    refine zG_call (by decide) hz zp_127 (hg _ _ rfl) rfl (Nat.le_of_ble_eq_true rfl) ⟨Nat.le_of_ble_eq_true rfl, Nat.le_of_ble_eq_true rfl⟩ (zG.andH (qm_127_8 (by decide) hJ.1 x1 (by omega) b405 (by omega)) (fh_127_8 x1 b405)) (fun vr M1 hr => ?_)
    obtain ⟨⟨⟨hC1, hF1⟩, -⟩, rfl, hM1⟩ := hr
    have hi := hF1.hi rfl
    have hI := hJ.2.1.same hi
    have hc0 : ∀ j, M1 0 j = M 0 j := fun j => hF1 0 j (by decide)
    show zG n (114, 4080270) 300 311 (416, [zR 0, zR 8, zR 97, .inl i], [.inl (hf_127_8 M x1 b405).1]) M1 _
    refine zG_blk (c' := (422, [zR 0, zR 8, zR 97, .inl i], [.inl (i + 1), zR 0, zR 97])) 6 (by decide) hz (zsteps_seg hg (by rw [show (.inl (i + 1) : zV) = .inl (w32 (i + 1)) from by rw [w32_id (by omega)]]; rfl)) ?_
    refine zG_iald (by decide) hz (hg _ _ rfl) rfl (.inr rfl) (by omega) ?_
    rw [show M1 0 (i + 1).toNat = x1 from (hc0 _).trans hx1.symm]
    show zG n (114, 4080270) 300 311 (423, [zR 0, zR 8, zR 97, .inl i], [.inl x1, zR 97]) M1 _
    refine zG_blk (c' := (427, [zR 0, zR 8, zR 97, .inl i], [.inl (i + 2), zR 0, .inl x1, zR 97])) 4 (by decide) hz (zsteps_seg hg (by rw [show (.inl (i + 2) : zV) = .inl (w32 (i + 2)) from by rw [w32_id (by omega)]]; rfl)) ?_
    refine zG_iald (by decide) hz (hg _ _ rfl) rfl (.inr rfl) (by omega) ?_
    rw [show M1 0 (i + 2).toNat = x2 from (hc0 _).trans hx2.symm]
    show zG n (114, 4080270) 300 311 (428, [zR 0, zR 8, zR 97, .inl i], [.inl x2, .inl x1, zR 97]) M1 _
    have j436 : zG n (114, 4080270) 300 311 (436, [zR 0, zR 8, zR 97, .inl i], [.inl b405, .inl x1, zR 97]) M1 qLQ := by
      refine zG_call (by decide) hz zp_191 (hg _ _ rfl) rfl (Nat.le_of_ble_eq_true rfl) ⟨Nat.le_of_ble_eq_true rfl, Nat.le_of_ble_eq_true rfl⟩ (zG.andH (qm_191_97 (by decide) hI x1 (by omega) b405 (by omega)) (fh_191_97 x1 b405)) (fun vr M2 hr => ?_)
      obtain ⟨⟨⟨hC2, hF2⟩, -⟩, rfl, hM2⟩ := hr
      have hm := hm_127 hJ.2.2.1 hJ.1.tb hJ.2.1.bd (a1 := x1) (a2 := b405) (by omega)
      rw [← hM1] at hm
      rw [← hM2] at hm
      have hJ2 : qJ M2 := hJ.mut hC1 hF1 rfl rfl hC2 hF2 rfl (by decide) hm.2
      show zG n (114, 4080270) 300 311 (439, [zR 0, zR 8, zR 97, .inl i], [.inl (hf_191_97 M1 x1 b405).1]) M2 _
      refine zG_blk (c' := (2158, [zR 0, zR 8, zR 97, .inl i], [])) 2 (by decide) hz (zsteps_seg hg rfl) ?_
      exact K M2 hJ2
    refine zG_if_eq (by decide) hz (hg _ _ rfl) (fun hb => ?_) (fun hb => ?_)
    · exact zG_blk (c' := (436, [zR 0, zR 8, zR 97, .inl i], [.inl b405, .inl x1, zR 97])) 1 (by decide) hz (zsteps_seg hg (by rw [show b405 = 0 by omega]; rfl)) j436
    · exact zG_blk (c' := (436, [zR 0, zR 8, zR 97, .inl i], [.inl b405, .inl x1, zR 97])) 2 (by decide) hz (zsteps_seg hg (by rw [show b405 = 1 by omega]; rfl)) j436
  refine zG_if_eq (by decide) hz (hg _ _ rfl) (fun hb => ?_) (fun hb => ?_)
  · exact zG_blk (c' := (413, [zR 0, zR 8, zR 97, .inl i], [.inl 0, .inl x1, zR 8])) 1 (by decide) hz (zsteps_seg hg rfl) (j413 0 (.inl ⟨hb, rfl⟩))
  · exact zG_blk (c' := (413, [zR 0, zR 8, zR 97, .inl i], [.inl 1, .inl x1, zR 8])) 2 (by decide) hz (zsteps_seg hg rfl) (j413 1 (.inr ⟨hb, rfl⟩))
noncomputable def sg_5 : List zE := [(443, .aload_n ⟨1, zfin1⟩, 444, zx0),
  (444, .aload_n ⟨0, zfin0⟩, 445, zx0),
  (445, .iload_n ⟨3, zfin3⟩, 446, zx0),
  (446, .iconst 1, 447, zx0),
  (447, .iadd, 448, zx0),
  (448, .iaload, 449, zx0),
  (449, .invokevirtual 37, 452, (128, 2, 0, [11])),
  (452, .pop, 453, zx0),
  (453, .aload_n ⟨2, zfin2⟩, 454, zx0),
  (454, .aload_n ⟨0, zfin0⟩, 455, zx0),
  (455, .iload_n ⟨3, zfin3⟩, 456, zx0),
  (456, .iconst 1, 457, zx0),
  (457, .iadd, 458, zx0),
  (458, .iaload, 459, zx0),
  (459, .invokevirtual 40, 462, (193, 2, 0, [12])),
  (462, .pop, 463, zx0),
  (463, .goto (1695), 466, (2158, 0, 0, []))]
set_option maxRecDepth 100000 in
theorem sh_5 : zSeg zk_L_law sg_5 := zSeg_of 195 17 443 (by decide +kernel) rfl (by decide +kernel)
set_option maxRecDepth 100000 in
theorem qL_5 (hJ : qJ M) (hn : n ≤ 4096) (hi : 0 ≤ i ∧ i + 8 ≤ n) (K : ∀ M', qJ M' → zG n (114, 4080270) 300 311 (2158, [zR 0, zR 8, zR 97, .inl i], []) M' qLQ) : zG n (114, 4080270) 300 311 (443, [zR 0, zR 8, zR 97, .inl i], []) M qLQ := by
  have hz := zp_311
  have hg := sh_5
  refine zG_blk (c' := (448, [zR 0, zR 8, zR 97, .inl i], [.inl (i + 1), zR 0, zR 8])) 5 (by decide) hz (zsteps_seg hg (by rw [show (.inl (i + 1) : zV) = .inl (w32 (i + 1)) from by rw [w32_id (by omega)]]; rfl)) ?_
  refine zG_iald (by decide) hz (hg _ _ rfl) rfl (.inr rfl) (by omega) ?_
  obtain ⟨x1, hx1⟩ : ∃ x : Int, x = M 0 (i + 1).toNat := ⟨_, rfl⟩
  rw [← hx1]
  have hr1 : qin x1 := by rw [hx1]; exact hJ.1.rng 0 _ (by decide) (by decide)
  show zG n (114, 4080270) 300 311 (449, [zR 0, zR 8, zR 97, .inl i], [.inl x1, zR 8]) M _
  refine zG_call (by decide) hz zp_128 (hg _ _ rfl) rfl (Nat.le_of_ble_eq_true rfl) ⟨Nat.le_of_ble_eq_true rfl, Nat.le_of_ble_eq_true rfl⟩ (qm_128_8 (by decide) hJ.1 x1 (by omega)) (fun vr M1 hr => ?_)
  obtain ⟨hq, hr⟩ := hr
  replace hq := hq.symm; subst hq
  have hc0 : ∀ j, M 0 j = M 0 j := fun _ => rfl
  obtain ⟨r1, rfl, -⟩ := hr
  show zG n (114, 4080270) 300 311 (452, [zR 0, zR 8, zR 97, .inl i], [.inl r1]) M _
  refine zG_blk (c' := (458, [zR 0, zR 8, zR 97, .inl i], [.inl (i + 1), zR 0, zR 97])) 6 (by decide) hz (zsteps_seg hg (by rw [show (.inl (i + 1) : zV) = .inl (w32 (i + 1)) from by rw [w32_id (by omega)]]; rfl)) ?_
  refine zG_iald (by decide) hz (hg _ _ rfl) rfl (.inr rfl) (by omega) ?_
  rw [show M 0 (i + 1).toNat = x1 from hx1.symm]
  show zG n (114, 4080270) 300 311 (459, [zR 0, zR 8, zR 97, .inl i], [.inl x1, zR 97]) M _
  refine zG_call (by decide) hz zp_193 (hg _ _ rfl) rfl (Nat.le_of_ble_eq_true rfl) ⟨Nat.le_of_ble_eq_true rfl, Nat.le_of_ble_eq_true rfl⟩ (qm_193_97 (by decide) hJ.2.1 x1 (by omega)) (fun vr M2 hr => ?_)
  obtain ⟨hq, hr⟩ := hr
  replace hq := hq.symm; subst hq
  obtain ⟨r2, hv9⟩ := hr
  first | (obtain ⟨rfl, -⟩ := hv9) | (obtain rfl := hv9)
  show zG n (114, 4080270) 300 311 (462, [zR 0, zR 8, zR 97, .inl i], [.inl r2]) M _
  refine zG_blk (c' := (2158, [zR 0, zR 8, zR 97, .inl i], [])) 2 (by decide) hz (zsteps_seg hg rfl) ?_
  exact K M hJ
noncomputable def sg_6 : List zE := [(466, .aload_n ⟨1, zfin1⟩, 467, zx0),
  (467, .aload_n ⟨0, zfin0⟩, 468, zx0),
  (468, .iload_n ⟨3, zfin3⟩, 469, zx0),
  (469, .iconst 1, 470, zx0),
  (470, .iadd, 471, zx0),
  (471, .iaload, 472, zx0),
  (472, .aload_n ⟨0, zfin0⟩, 473, zx0),
  (473, .iload_n ⟨3, zfin3⟩, 474, zx0),
  (474, .iconst 2, 475, zx0),
  (475, .iadd, 476, zx0),
  (476, .iaload, 477, zx0),
  (477, .aload_n ⟨0, zfin0⟩, 478, zx0),
  (478, .iload_n ⟨3, zfin3⟩, 479, zx0),
  (479, .iconst 3, 480, zx0),
  (480, .iadd, 481, zx0),
  (481, .iaload, 482, zx0),
  (482, .aload_n ⟨0, zfin0⟩, 483, zx0),
  (483, .iload_n ⟨3, zfin3⟩, 484, zx0),
  (484, .iconst 4, 485, zx0),
  (485, .iadd, 486, zx0),
  (486, .iaload, 487, zx0),
  (487, .aload_n ⟨0, zfin0⟩, 488, zx0),
  (488, .iload_n ⟨3, zfin3⟩, 489, zx0),
  (489, .iconst 5, 490, zx0),
  (490, .iadd, 491, zx0),
  (491, .iaload, 492, zx0),
  (492, .aload_n ⟨0, zfin0⟩, 493, zx0),
  (493, .iload_n ⟨3, zfin3⟩, 494, zx0),
  (494, .bipush (6), 496, zx0),
  (496, .iadd, 497, zx0),
  (497, .iaload, 498, zx0),
  (498, .invokevirtual 41, 501, (129, 7, 0, [11])),
  (501, .pop, 502, zx0),
  (502, .aload_n ⟨2, zfin2⟩, 503, zx0),
  (503, .aload_n ⟨0, zfin0⟩, 504, zx0),
  (504, .iload_n ⟨3, zfin3⟩, 505, zx0),
  (505, .iconst 1, 506, zx0),
  (506, .iadd, 507, zx0),
  (507, .iaload, 508, zx0),
  (508, .aload_n ⟨0, zfin0⟩, 509, zx0),
  (509, .iload_n ⟨3, zfin3⟩, 510, zx0),
  (510, .iconst 2, 511, zx0),
  (511, .iadd, 512, zx0),
  (512, .iaload, 513, zx0),
  (513, .aload_n ⟨0, zfin0⟩, 514, zx0),
  (514, .iload_n ⟨3, zfin3⟩, 515, zx0),
  (515, .iconst 3, 516, zx0),
  (516, .iadd, 517, zx0),
  (517, .iaload, 518, zx0),
  (518, .aload_n ⟨0, zfin0⟩, 519, zx0),
  (519, .iload_n ⟨3, zfin3⟩, 520, zx0),
  (520, .iconst 4, 521, zx0),
  (521, .iadd, 522, zx0),
  (522, .iaload, 523, zx0),
  (523, .aload_n ⟨0, zfin0⟩, 524, zx0),
  (524, .iload_n ⟨3, zfin3⟩, 525, zx0),
  (525, .iconst 5, 526, zx0),
  (526, .iadd, 527, zx0),
  (527, .iaload, 528, zx0),
  (528, .aload_n ⟨0, zfin0⟩, 529, zx0),
  (529, .iload_n ⟨3, zfin3⟩, 530, zx0),
  (530, .bipush (6), 532, zx0),
  (532, .iadd, 533, zx0),
  (533, .iaload, 534, zx0),
  (534, .invokevirtual 45, 537, (201, 7, 0, [12])),
  (537, .pop, 538, zx0),
  (538, .goto (1620), 541, (2158, 0, 0, []))]
set_option maxRecDepth 100000 in
theorem sh_6 : zSeg zk_L_law sg_6 := zSeg_of 212 67 466 (by decide +kernel) rfl (by decide +kernel)
set_option maxRecDepth 100000 in
theorem qL_6 (hJ : qJ M) (hn : n ≤ 4096) (hi : 0 ≤ i ∧ i + 8 ≤ n) (K : ∀ M', qJ M' → zG n (114, 4080270) 300 311 (2158, [zR 0, zR 8, zR 97, .inl i], []) M' qLQ) : zG n (114, 4080270) 300 311 (466, [zR 0, zR 8, zR 97, .inl i], []) M qLQ := by
  have hz := zp_311
  have hg := sh_6
  refine zG_blk (c' := (471, [zR 0, zR 8, zR 97, .inl i], [.inl (i + 1), zR 0, zR 8])) 5 (by decide) hz (zsteps_seg hg (by rw [show (.inl (i + 1) : zV) = .inl (w32 (i + 1)) from by rw [w32_id (by omega)]]; rfl)) ?_
  refine zG_iald (by decide) hz (hg _ _ rfl) rfl (.inr rfl) (by omega) ?_
  obtain ⟨x1, hx1⟩ : ∃ x : Int, x = M 0 (i + 1).toNat := ⟨_, rfl⟩
  rw [← hx1]
  have hr1 : qin x1 := by rw [hx1]; exact hJ.1.rng 0 _ (by decide) (by decide)
  show zG n (114, 4080270) 300 311 (472, [zR 0, zR 8, zR 97, .inl i], [.inl x1, zR 8]) M _
  refine zG_blk (c' := (476, [zR 0, zR 8, zR 97, .inl i], [.inl (i + 2), zR 0, .inl x1, zR 8])) 4 (by decide) hz (zsteps_seg hg (by rw [show (.inl (i + 2) : zV) = .inl (w32 (i + 2)) from by rw [w32_id (by omega)]]; rfl)) ?_
  refine zG_iald (by decide) hz (hg _ _ rfl) rfl (.inr rfl) (by omega) ?_
  obtain ⟨x2, hx2⟩ : ∃ x : Int, x = M 0 (i + 2).toNat := ⟨_, rfl⟩
  rw [← hx2]
  have hr2 : qin x2 := by rw [hx2]; exact hJ.1.rng 0 _ (by decide) (by decide)
  show zG n (114, 4080270) 300 311 (477, [zR 0, zR 8, zR 97, .inl i], [.inl x2, .inl x1, zR 8]) M _
  refine zG_blk (c' := (481, [zR 0, zR 8, zR 97, .inl i], [.inl (i + 3), zR 0, .inl x2, .inl x1, zR 8])) 4 (by decide) hz (zsteps_seg hg (by rw [show (.inl (i + 3) : zV) = .inl (w32 (i + 3)) from by rw [w32_id (by omega)]]; rfl)) ?_
  refine zG_iald (by decide) hz (hg _ _ rfl) rfl (.inr rfl) (by omega) ?_
  obtain ⟨x3, hx3⟩ : ∃ x : Int, x = M 0 (i + 3).toNat := ⟨_, rfl⟩
  rw [← hx3]
  have hr3 : qin x3 := by rw [hx3]; exact hJ.1.rng 0 _ (by decide) (by decide)
  show zG n (114, 4080270) 300 311 (482, [zR 0, zR 8, zR 97, .inl i], [.inl x3, .inl x2, .inl x1, zR 8]) M _
  refine zG_blk (c' := (486, [zR 0, zR 8, zR 97, .inl i], [.inl (i + 4), zR 0, .inl x3, .inl x2, .inl x1, zR 8])) 4 (by decide) hz (zsteps_seg hg (by rw [show (.inl (i + 4) : zV) = .inl (w32 (i + 4)) from by rw [w32_id (by omega)]]; rfl)) ?_
  refine zG_iald (by decide) hz (hg _ _ rfl) rfl (.inr rfl) (by omega) ?_
  obtain ⟨x4, hx4⟩ : ∃ x : Int, x = M 0 (i + 4).toNat := ⟨_, rfl⟩
  rw [← hx4]
  have hr4 : qin x4 := by rw [hx4]; exact hJ.1.rng 0 _ (by decide) (by decide)
  show zG n (114, 4080270) 300 311 (487, [zR 0, zR 8, zR 97, .inl i], [.inl x4, .inl x3, .inl x2, .inl x1, zR 8]) M _
  refine zG_blk (c' := (491, [zR 0, zR 8, zR 97, .inl i], [.inl (i + 5), zR 0, .inl x4, .inl x3, .inl x2, .inl x1, zR 8])) 4 (by decide) hz (zsteps_seg hg (by rw [show (.inl (i + 5) : zV) = .inl (w32 (i + 5)) from by rw [w32_id (by omega)]]; rfl)) ?_
  refine zG_iald (by decide) hz (hg _ _ rfl) rfl (.inr rfl) (by omega) ?_
  obtain ⟨x5, hx5⟩ : ∃ x : Int, x = M 0 (i + 5).toNat := ⟨_, rfl⟩
  rw [← hx5]
  have hr5 : qin x5 := by rw [hx5]; exact hJ.1.rng 0 _ (by decide) (by decide)
  show zG n (114, 4080270) 300 311 (492, [zR 0, zR 8, zR 97, .inl i], [.inl x5, .inl x4, .inl x3, .inl x2, .inl x1, zR 8]) M _
  refine zG_blk (c' := (497, [zR 0, zR 8, zR 97, .inl i], [.inl (i + 6), zR 0, .inl x5, .inl x4, .inl x3, .inl x2, .inl x1, zR 8])) 4 (by decide) hz (zsteps_seg hg (by rw [show (.inl (i + 6) : zV) = .inl (w32 (i + 6)) from by rw [w32_id (by omega)]]; rfl)) ?_
  refine zG_iald (by decide) hz (hg _ _ rfl) rfl (.inr rfl) (by omega) ?_
  obtain ⟨x6, hx6⟩ : ∃ x : Int, x = M 0 (i + 6).toNat := ⟨_, rfl⟩
  rw [← hx6]
  have hr6 : qin x6 := by rw [hx6]; exact hJ.1.rng 0 _ (by decide) (by decide)
  show zG n (114, 4080270) 300 311 (498, [zR 0, zR 8, zR 97, .inl i], [.inl x6, .inl x5, .inl x4, .inl x3, .inl x2, .inl x1, zR 8]) M _
  refine zG_call (by decide) hz zp_129 (hg _ _ rfl) rfl (Nat.le_of_ble_eq_true rfl) ⟨Nat.le_of_ble_eq_true rfl, Nat.le_of_ble_eq_true rfl⟩ (zG.andH (qm_129_8 (by decide) hJ.1 x1 (by omega) x2 (by omega) x3 (by omega) x4 (by omega) x5 (by omega) x6 (by omega)) (fh_129_8 x1 x2 x3 x4 x5 x6)) (fun vr M1 hr => ?_)
  obtain ⟨⟨⟨hC1, hF1⟩, -⟩, rfl, hM1⟩ := hr
  have hi := hF1.hi rfl
  have hI := hJ.2.1.same hi
  have hc0 : ∀ j, M1 0 j = M 0 j := fun j => hF1 0 j (by decide)
  show zG n (114, 4080270) 300 311 (501, [zR 0, zR 8, zR 97, .inl i], [.inl (hf_129_8 M x1 x2 x3 x4 x5 x6).1]) M1 _
  refine zG_blk (c' := (507, [zR 0, zR 8, zR 97, .inl i], [.inl (i + 1), zR 0, zR 97])) 6 (by decide) hz (zsteps_seg hg (by rw [show (.inl (i + 1) : zV) = .inl (w32 (i + 1)) from by rw [w32_id (by omega)]]; rfl)) ?_
  refine zG_iald (by decide) hz (hg _ _ rfl) rfl (.inr rfl) (by omega) ?_
  rw [show M1 0 (i + 1).toNat = x1 from (hc0 _).trans hx1.symm]
  show zG n (114, 4080270) 300 311 (508, [zR 0, zR 8, zR 97, .inl i], [.inl x1, zR 97]) M1 _
  refine zG_blk (c' := (512, [zR 0, zR 8, zR 97, .inl i], [.inl (i + 2), zR 0, .inl x1, zR 97])) 4 (by decide) hz (zsteps_seg hg (by rw [show (.inl (i + 2) : zV) = .inl (w32 (i + 2)) from by rw [w32_id (by omega)]]; rfl)) ?_
  refine zG_iald (by decide) hz (hg _ _ rfl) rfl (.inr rfl) (by omega) ?_
  rw [show M1 0 (i + 2).toNat = x2 from (hc0 _).trans hx2.symm]
  show zG n (114, 4080270) 300 311 (513, [zR 0, zR 8, zR 97, .inl i], [.inl x2, .inl x1, zR 97]) M1 _
  refine zG_blk (c' := (517, [zR 0, zR 8, zR 97, .inl i], [.inl (i + 3), zR 0, .inl x2, .inl x1, zR 97])) 4 (by decide) hz (zsteps_seg hg (by rw [show (.inl (i + 3) : zV) = .inl (w32 (i + 3)) from by rw [w32_id (by omega)]]; rfl)) ?_
  refine zG_iald (by decide) hz (hg _ _ rfl) rfl (.inr rfl) (by omega) ?_
  rw [show M1 0 (i + 3).toNat = x3 from (hc0 _).trans hx3.symm]
  show zG n (114, 4080270) 300 311 (518, [zR 0, zR 8, zR 97, .inl i], [.inl x3, .inl x2, .inl x1, zR 97]) M1 _
  refine zG_blk (c' := (522, [zR 0, zR 8, zR 97, .inl i], [.inl (i + 4), zR 0, .inl x3, .inl x2, .inl x1, zR 97])) 4 (by decide) hz (zsteps_seg hg (by rw [show (.inl (i + 4) : zV) = .inl (w32 (i + 4)) from by rw [w32_id (by omega)]]; rfl)) ?_
  refine zG_iald (by decide) hz (hg _ _ rfl) rfl (.inr rfl) (by omega) ?_
  rw [show M1 0 (i + 4).toNat = x4 from (hc0 _).trans hx4.symm]
  show zG n (114, 4080270) 300 311 (523, [zR 0, zR 8, zR 97, .inl i], [.inl x4, .inl x3, .inl x2, .inl x1, zR 97]) M1 _
  refine zG_blk (c' := (527, [zR 0, zR 8, zR 97, .inl i], [.inl (i + 5), zR 0, .inl x4, .inl x3, .inl x2, .inl x1, zR 97])) 4 (by decide) hz (zsteps_seg hg (by rw [show (.inl (i + 5) : zV) = .inl (w32 (i + 5)) from by rw [w32_id (by omega)]]; rfl)) ?_
  refine zG_iald (by decide) hz (hg _ _ rfl) rfl (.inr rfl) (by omega) ?_
  rw [show M1 0 (i + 5).toNat = x5 from (hc0 _).trans hx5.symm]
  show zG n (114, 4080270) 300 311 (528, [zR 0, zR 8, zR 97, .inl i], [.inl x5, .inl x4, .inl x3, .inl x2, .inl x1, zR 97]) M1 _
  refine zG_blk (c' := (533, [zR 0, zR 8, zR 97, .inl i], [.inl (i + 6), zR 0, .inl x5, .inl x4, .inl x3, .inl x2, .inl x1, zR 97])) 4 (by decide) hz (zsteps_seg hg (by rw [show (.inl (i + 6) : zV) = .inl (w32 (i + 6)) from by rw [w32_id (by omega)]]; rfl)) ?_
  refine zG_iald (by decide) hz (hg _ _ rfl) rfl (.inr rfl) (by omega) ?_
  rw [show M1 0 (i + 6).toNat = x6 from (hc0 _).trans hx6.symm]
  show zG n (114, 4080270) 300 311 (534, [zR 0, zR 8, zR 97, .inl i], [.inl x6, .inl x5, .inl x4, .inl x3, .inl x2, .inl x1, zR 97]) M1 _
  refine zG_call (by decide) hz zp_201 (hg _ _ rfl) rfl (Nat.le_of_ble_eq_true rfl) ⟨Nat.le_of_ble_eq_true rfl, Nat.le_of_ble_eq_true rfl⟩ (zG.andH (qm_201_97 (by decide) hI x1 (by omega) x2 (by omega) x3 (by omega) x4 (by omega) x5 (by omega) x6 (by omega)) (fh_201_97 x1 x2 x3 x4 x5 x6)) (fun vr M2 hr => ?_)
  obtain ⟨⟨⟨hC2, hF2⟩, -⟩, rfl, hM2⟩ := hr
  have hm := hm_129 hJ.2.2.1 hJ.1.tb hJ.2.1.bd (a1 := x1) (a2 := x2) (a3 := x3) (a4 := x4) (a5 := x5) (a6 := x6)
  rw [← hM1] at hm
  rw [← hM2] at hm
  have hJ2 : qJ M2 := hJ.mut hC1 hF1 rfl rfl hC2 hF2 rfl (by decide) hm.2
  show zG n (114, 4080270) 300 311 (537, [zR 0, zR 8, zR 97, .inl i], [.inl (hf_201_97 M1 x1 x2 x3 x4 x5 x6).1]) M2 _
  refine zG_blk (c' := (2158, [zR 0, zR 8, zR 97, .inl i], [])) 2 (by decide) hz (zsteps_seg hg rfl) ?_
  exact K M2 hJ2
noncomputable def sg_7 : List zE := [(541, .aload_n ⟨1, zfin1⟩, 542, zx0),
  (542, .aload_n ⟨0, zfin0⟩, 543, zx0),
  (543, .iload_n ⟨3, zfin3⟩, 544, zx0),
  (544, .iconst 1, 545, zx0),
  (545, .iadd, 546, zx0),
  (546, .iaload, 547, zx0),
  (547, .aload_n ⟨0, zfin0⟩, 548, zx0),
  (548, .iload_n ⟨3, zfin3⟩, 549, zx0),
  (549, .iconst 2, 550, zx0),
  (550, .iadd, 551, zx0),
  (551, .iaload, 552, zx0),
  (552, .aload_n ⟨0, zfin0⟩, 553, zx0),
  (553, .iload_n ⟨3, zfin3⟩, 554, zx0),
  (554, .iconst 3, 555, zx0),
  (555, .iadd, 556, zx0),
  (556, .iaload, 557, zx0),
  (557, .aload_n ⟨0, zfin0⟩, 558, zx0),
  (558, .iload_n ⟨3, zfin3⟩, 559, zx0),
  (559, .iconst 4, 560, zx0),
  (560, .iadd, 561, zx0),
  (561, .iaload, 562, zx0),
  (562, .aload_n ⟨0, zfin0⟩, 563, zx0),
  (563, .iload_n ⟨3, zfin3⟩, 564, zx0),
  (564, .iconst 5, 565, zx0),
  (565, .iadd, 566, zx0),
  (566, .iaload, 567, zx0),
  (567, .invokevirtual 46, 570, (130, 6, 0, [11])),
  (570, .pop, 571, zx0),
  (571, .aload_n ⟨2, zfin2⟩, 572, zx0),
  (572, .aload_n ⟨0, zfin0⟩, 573, zx0),
  (573, .iload_n ⟨3, zfin3⟩, 574, zx0),
  (574, .iconst 1, 575, zx0),
  (575, .iadd, 576, zx0),
  (576, .iaload, 577, zx0),
  (577, .aload_n ⟨0, zfin0⟩, 578, zx0),
  (578, .iload_n ⟨3, zfin3⟩, 579, zx0),
  (579, .iconst 2, 580, zx0),
  (580, .iadd, 581, zx0),
  (581, .iaload, 582, zx0),
  (582, .aload_n ⟨0, zfin0⟩, 583, zx0),
  (583, .iload_n ⟨3, zfin3⟩, 584, zx0),
  (584, .iconst 3, 585, zx0),
  (585, .iadd, 586, zx0),
  (586, .iaload, 587, zx0),
  (587, .aload_n ⟨0, zfin0⟩, 588, zx0),
  (588, .iload_n ⟨3, zfin3⟩, 589, zx0),
  (589, .iconst 4, 590, zx0),
  (590, .iadd, 591, zx0),
  (591, .iaload, 592, zx0),
  (592, .aload_n ⟨0, zfin0⟩, 593, zx0),
  (593, .iload_n ⟨3, zfin3⟩, 594, zx0),
  (594, .iconst 5, 595, zx0),
  (595, .iadd, 596, zx0),
  (596, .iaload, 597, zx0),
  (597, .invokevirtual 50, 600, (202, 6, 0, [12])),
  (600, .pop, 601, zx0),
  (601, .goto (1557), 604, (2158, 0, 0, []))]
set_option maxRecDepth 100000 in
theorem sh_7 : zSeg zk_L_law sg_7 := zSeg_of 279 57 541 (by decide +kernel) rfl (by decide +kernel)
set_option maxRecDepth 100000 in
theorem qL_7 (hJ : qJ M) (hn : n ≤ 4096) (hi : 0 ≤ i ∧ i + 8 ≤ n) (K : ∀ M', qJ M' → zG n (114, 4080270) 300 311 (2158, [zR 0, zR 8, zR 97, .inl i], []) M' qLQ) : zG n (114, 4080270) 300 311 (541, [zR 0, zR 8, zR 97, .inl i], []) M qLQ := by
  have hz := zp_311
  have hg := sh_7
  refine zG_blk (c' := (546, [zR 0, zR 8, zR 97, .inl i], [.inl (i + 1), zR 0, zR 8])) 5 (by decide) hz (zsteps_seg hg (by rw [show (.inl (i + 1) : zV) = .inl (w32 (i + 1)) from by rw [w32_id (by omega)]]; rfl)) ?_
  refine zG_iald (by decide) hz (hg _ _ rfl) rfl (.inr rfl) (by omega) ?_
  obtain ⟨x1, hx1⟩ : ∃ x : Int, x = M 0 (i + 1).toNat := ⟨_, rfl⟩
  rw [← hx1]
  have hr1 : qin x1 := by rw [hx1]; exact hJ.1.rng 0 _ (by decide) (by decide)
  show zG n (114, 4080270) 300 311 (547, [zR 0, zR 8, zR 97, .inl i], [.inl x1, zR 8]) M _
  refine zG_blk (c' := (551, [zR 0, zR 8, zR 97, .inl i], [.inl (i + 2), zR 0, .inl x1, zR 8])) 4 (by decide) hz (zsteps_seg hg (by rw [show (.inl (i + 2) : zV) = .inl (w32 (i + 2)) from by rw [w32_id (by omega)]]; rfl)) ?_
  refine zG_iald (by decide) hz (hg _ _ rfl) rfl (.inr rfl) (by omega) ?_
  obtain ⟨x2, hx2⟩ : ∃ x : Int, x = M 0 (i + 2).toNat := ⟨_, rfl⟩
  rw [← hx2]
  have hr2 : qin x2 := by rw [hx2]; exact hJ.1.rng 0 _ (by decide) (by decide)
  show zG n (114, 4080270) 300 311 (552, [zR 0, zR 8, zR 97, .inl i], [.inl x2, .inl x1, zR 8]) M _
  refine zG_blk (c' := (556, [zR 0, zR 8, zR 97, .inl i], [.inl (i + 3), zR 0, .inl x2, .inl x1, zR 8])) 4 (by decide) hz (zsteps_seg hg (by rw [show (.inl (i + 3) : zV) = .inl (w32 (i + 3)) from by rw [w32_id (by omega)]]; rfl)) ?_
  refine zG_iald (by decide) hz (hg _ _ rfl) rfl (.inr rfl) (by omega) ?_
  obtain ⟨x3, hx3⟩ : ∃ x : Int, x = M 0 (i + 3).toNat := ⟨_, rfl⟩
  rw [← hx3]
  have hr3 : qin x3 := by rw [hx3]; exact hJ.1.rng 0 _ (by decide) (by decide)
  show zG n (114, 4080270) 300 311 (557, [zR 0, zR 8, zR 97, .inl i], [.inl x3, .inl x2, .inl x1, zR 8]) M _
  refine zG_blk (c' := (561, [zR 0, zR 8, zR 97, .inl i], [.inl (i + 4), zR 0, .inl x3, .inl x2, .inl x1, zR 8])) 4 (by decide) hz (zsteps_seg hg (by rw [show (.inl (i + 4) : zV) = .inl (w32 (i + 4)) from by rw [w32_id (by omega)]]; rfl)) ?_
  refine zG_iald (by decide) hz (hg _ _ rfl) rfl (.inr rfl) (by omega) ?_
  obtain ⟨x4, hx4⟩ : ∃ x : Int, x = M 0 (i + 4).toNat := ⟨_, rfl⟩
  rw [← hx4]
  have hr4 : qin x4 := by rw [hx4]; exact hJ.1.rng 0 _ (by decide) (by decide)
  show zG n (114, 4080270) 300 311 (562, [zR 0, zR 8, zR 97, .inl i], [.inl x4, .inl x3, .inl x2, .inl x1, zR 8]) M _
  refine zG_blk (c' := (566, [zR 0, zR 8, zR 97, .inl i], [.inl (i + 5), zR 0, .inl x4, .inl x3, .inl x2, .inl x1, zR 8])) 4 (by decide) hz (zsteps_seg hg (by rw [show (.inl (i + 5) : zV) = .inl (w32 (i + 5)) from by rw [w32_id (by omega)]]; rfl)) ?_
  refine zG_iald (by decide) hz (hg _ _ rfl) rfl (.inr rfl) (by omega) ?_
  obtain ⟨x5, hx5⟩ : ∃ x : Int, x = M 0 (i + 5).toNat := ⟨_, rfl⟩
  rw [← hx5]
  have hr5 : qin x5 := by rw [hx5]; exact hJ.1.rng 0 _ (by decide) (by decide)
  show zG n (114, 4080270) 300 311 (567, [zR 0, zR 8, zR 97, .inl i], [.inl x5, .inl x4, .inl x3, .inl x2, .inl x1, zR 8]) M _
  refine zG_call (by decide) hz zp_130 (hg _ _ rfl) rfl (Nat.le_of_ble_eq_true rfl) ⟨Nat.le_of_ble_eq_true rfl, Nat.le_of_ble_eq_true rfl⟩ (zG.andH (qm_130_8 (by decide) hJ.1 x1 (by omega) x2 (by omega) x3 (by omega) x4 (by omega) x5 (by omega)) (fh_130_8 x1 x2 x3 x4 x5)) (fun vr M1 hr => ?_)
  obtain ⟨⟨⟨hC1, hF1⟩, -⟩, rfl, hM1⟩ := hr
  have hi := hF1.hi rfl
  have hI := hJ.2.1.same hi
  have hc0 : ∀ j, M1 0 j = M 0 j := fun j => hF1 0 j (by decide)
  show zG n (114, 4080270) 300 311 (570, [zR 0, zR 8, zR 97, .inl i], [.inl (hf_130_8 M x1 x2 x3 x4 x5).1]) M1 _
  refine zG_blk (c' := (576, [zR 0, zR 8, zR 97, .inl i], [.inl (i + 1), zR 0, zR 97])) 6 (by decide) hz (zsteps_seg hg (by rw [show (.inl (i + 1) : zV) = .inl (w32 (i + 1)) from by rw [w32_id (by omega)]]; rfl)) ?_
  refine zG_iald (by decide) hz (hg _ _ rfl) rfl (.inr rfl) (by omega) ?_
  rw [show M1 0 (i + 1).toNat = x1 from (hc0 _).trans hx1.symm]
  show zG n (114, 4080270) 300 311 (577, [zR 0, zR 8, zR 97, .inl i], [.inl x1, zR 97]) M1 _
  refine zG_blk (c' := (581, [zR 0, zR 8, zR 97, .inl i], [.inl (i + 2), zR 0, .inl x1, zR 97])) 4 (by decide) hz (zsteps_seg hg (by rw [show (.inl (i + 2) : zV) = .inl (w32 (i + 2)) from by rw [w32_id (by omega)]]; rfl)) ?_
  refine zG_iald (by decide) hz (hg _ _ rfl) rfl (.inr rfl) (by omega) ?_
  rw [show M1 0 (i + 2).toNat = x2 from (hc0 _).trans hx2.symm]
  show zG n (114, 4080270) 300 311 (582, [zR 0, zR 8, zR 97, .inl i], [.inl x2, .inl x1, zR 97]) M1 _
  refine zG_blk (c' := (586, [zR 0, zR 8, zR 97, .inl i], [.inl (i + 3), zR 0, .inl x2, .inl x1, zR 97])) 4 (by decide) hz (zsteps_seg hg (by rw [show (.inl (i + 3) : zV) = .inl (w32 (i + 3)) from by rw [w32_id (by omega)]]; rfl)) ?_
  refine zG_iald (by decide) hz (hg _ _ rfl) rfl (.inr rfl) (by omega) ?_
  rw [show M1 0 (i + 3).toNat = x3 from (hc0 _).trans hx3.symm]
  show zG n (114, 4080270) 300 311 (587, [zR 0, zR 8, zR 97, .inl i], [.inl x3, .inl x2, .inl x1, zR 97]) M1 _
  refine zG_blk (c' := (591, [zR 0, zR 8, zR 97, .inl i], [.inl (i + 4), zR 0, .inl x3, .inl x2, .inl x1, zR 97])) 4 (by decide) hz (zsteps_seg hg (by rw [show (.inl (i + 4) : zV) = .inl (w32 (i + 4)) from by rw [w32_id (by omega)]]; rfl)) ?_
  refine zG_iald (by decide) hz (hg _ _ rfl) rfl (.inr rfl) (by omega) ?_
  rw [show M1 0 (i + 4).toNat = x4 from (hc0 _).trans hx4.symm]
  show zG n (114, 4080270) 300 311 (592, [zR 0, zR 8, zR 97, .inl i], [.inl x4, .inl x3, .inl x2, .inl x1, zR 97]) M1 _
  refine zG_blk (c' := (596, [zR 0, zR 8, zR 97, .inl i], [.inl (i + 5), zR 0, .inl x4, .inl x3, .inl x2, .inl x1, zR 97])) 4 (by decide) hz (zsteps_seg hg (by rw [show (.inl (i + 5) : zV) = .inl (w32 (i + 5)) from by rw [w32_id (by omega)]]; rfl)) ?_
  refine zG_iald (by decide) hz (hg _ _ rfl) rfl (.inr rfl) (by omega) ?_
  rw [show M1 0 (i + 5).toNat = x5 from (hc0 _).trans hx5.symm]
  show zG n (114, 4080270) 300 311 (597, [zR 0, zR 8, zR 97, .inl i], [.inl x5, .inl x4, .inl x3, .inl x2, .inl x1, zR 97]) M1 _
  refine zG_call (by decide) hz zp_202 (hg _ _ rfl) rfl (Nat.le_of_ble_eq_true rfl) ⟨Nat.le_of_ble_eq_true rfl, Nat.le_of_ble_eq_true rfl⟩ (zG.andH (qm_202_97 (by decide) hI x1 (by omega) x2 (by omega) x3 (by omega) x4 (by omega) x5 (by omega)) (fh_202_97 x1 x2 x3 x4 x5)) (fun vr M2 hr => ?_)
  obtain ⟨⟨⟨hC2, hF2⟩, -⟩, rfl, hM2⟩ := hr
  have hm := hm_130 hJ.2.2.1 hJ.1.tb hJ.2.1.bd (a1 := x1) (a2 := x2) (a3 := x3) (a4 := x4) (a5 := x5)
  rw [← hM1] at hm
  rw [← hM2] at hm
  have hJ2 : qJ M2 := hJ.mut hC1 hF1 rfl rfl hC2 hF2 rfl (by decide) hm.2
  show zG n (114, 4080270) 300 311 (600, [zR 0, zR 8, zR 97, .inl i], [.inl (hf_202_97 M1 x1 x2 x3 x4 x5).1]) M2 _
  refine zG_blk (c' := (2158, [zR 0, zR 8, zR 97, .inl i], [])) 2 (by decide) hz (zsteps_seg hg rfl) ?_
  exact K M2 hJ2
noncomputable def sg_8 : List zE := [(604, .aload_n ⟨1, zfin1⟩, 605, zx0),
  (605, .aload_n ⟨0, zfin0⟩, 606, zx0),
  (606, .iload_n ⟨3, zfin3⟩, 607, zx0),
  (607, .iconst 1, 608, zx0),
  (608, .iadd, 609, zx0),
  (609, .iaload, 610, zx0),
  (610, .aload_n ⟨0, zfin0⟩, 611, zx0),
  (611, .iload_n ⟨3, zfin3⟩, 612, zx0),
  (612, .iconst 2, 613, zx0),
  (613, .iadd, 614, zx0),
  (614, .iaload, 615, zx0),
  (615, .aload_n ⟨0, zfin0⟩, 616, zx0),
  (616, .iload_n ⟨3, zfin3⟩, 617, zx0),
  (617, .iconst 3, 618, zx0),
  (618, .iadd, 619, zx0),
  (619, .iaload, 620, zx0),
  (620, .aload_n ⟨0, zfin0⟩, 621, zx0),
  (621, .iload_n ⟨3, zfin3⟩, 622, zx0),
  (622, .iconst 4, 623, zx0),
  (623, .iadd, 624, zx0),
  (624, .iaload, 625, zx0),
  (625, .invokevirtual 51, 628, (131, 5, 0, [11])),
  (628, .pop, 629, zx0),
  (629, .aload_n ⟨2, zfin2⟩, 630, zx0),
  (630, .aload_n ⟨0, zfin0⟩, 631, zx0),
  (631, .iload_n ⟨3, zfin3⟩, 632, zx0),
  (632, .iconst 1, 633, zx0),
  (633, .iadd, 634, zx0),
  (634, .iaload, 635, zx0),
  (635, .aload_n ⟨0, zfin0⟩, 636, zx0),
  (636, .iload_n ⟨3, zfin3⟩, 637, zx0),
  (637, .iconst 2, 638, zx0),
  (638, .iadd, 639, zx0),
  (639, .iaload, 640, zx0),
  (640, .aload_n ⟨0, zfin0⟩, 641, zx0),
  (641, .iload_n ⟨3, zfin3⟩, 642, zx0),
  (642, .iconst 3, 643, zx0),
  (643, .iadd, 644, zx0),
  (644, .iaload, 645, zx0),
  (645, .aload_n ⟨0, zfin0⟩, 646, zx0),
  (646, .iload_n ⟨3, zfin3⟩, 647, zx0),
  (647, .iconst 4, 648, zx0),
  (648, .iadd, 649, zx0),
  (649, .iaload, 650, zx0),
  (650, .invokevirtual 54, 653, (203, 5, 0, [12])),
  (653, .pop, 654, zx0),
  (654, .goto (1504), 657, (2158, 0, 0, []))]
set_option maxRecDepth 100000 in
theorem sh_8 : zSeg zk_L_law sg_8 := zSeg_of 336 47 604 (by decide +kernel) rfl (by decide +kernel)
set_option maxRecDepth 100000 in
theorem qL_8 (hJ : qJ M) (hn : n ≤ 4096) (hi : 0 ≤ i ∧ i + 8 ≤ n) (K : ∀ M', qJ M' → zG n (114, 4080270) 300 311 (2158, [zR 0, zR 8, zR 97, .inl i], []) M' qLQ) : zG n (114, 4080270) 300 311 (604, [zR 0, zR 8, zR 97, .inl i], []) M qLQ := by
  have hz := zp_311
  have hg := sh_8
  refine zG_blk (c' := (609, [zR 0, zR 8, zR 97, .inl i], [.inl (i + 1), zR 0, zR 8])) 5 (by decide) hz (zsteps_seg hg (by rw [show (.inl (i + 1) : zV) = .inl (w32 (i + 1)) from by rw [w32_id (by omega)]]; rfl)) ?_
  refine zG_iald (by decide) hz (hg _ _ rfl) rfl (.inr rfl) (by omega) ?_
  obtain ⟨x1, hx1⟩ : ∃ x : Int, x = M 0 (i + 1).toNat := ⟨_, rfl⟩
  rw [← hx1]
  have hr1 : qin x1 := by rw [hx1]; exact hJ.1.rng 0 _ (by decide) (by decide)
  show zG n (114, 4080270) 300 311 (610, [zR 0, zR 8, zR 97, .inl i], [.inl x1, zR 8]) M _
  refine zG_blk (c' := (614, [zR 0, zR 8, zR 97, .inl i], [.inl (i + 2), zR 0, .inl x1, zR 8])) 4 (by decide) hz (zsteps_seg hg (by rw [show (.inl (i + 2) : zV) = .inl (w32 (i + 2)) from by rw [w32_id (by omega)]]; rfl)) ?_
  refine zG_iald (by decide) hz (hg _ _ rfl) rfl (.inr rfl) (by omega) ?_
  obtain ⟨x2, hx2⟩ : ∃ x : Int, x = M 0 (i + 2).toNat := ⟨_, rfl⟩
  rw [← hx2]
  have hr2 : qin x2 := by rw [hx2]; exact hJ.1.rng 0 _ (by decide) (by decide)
  show zG n (114, 4080270) 300 311 (615, [zR 0, zR 8, zR 97, .inl i], [.inl x2, .inl x1, zR 8]) M _
  refine zG_blk (c' := (619, [zR 0, zR 8, zR 97, .inl i], [.inl (i + 3), zR 0, .inl x2, .inl x1, zR 8])) 4 (by decide) hz (zsteps_seg hg (by rw [show (.inl (i + 3) : zV) = .inl (w32 (i + 3)) from by rw [w32_id (by omega)]]; rfl)) ?_
  refine zG_iald (by decide) hz (hg _ _ rfl) rfl (.inr rfl) (by omega) ?_
  obtain ⟨x3, hx3⟩ : ∃ x : Int, x = M 0 (i + 3).toNat := ⟨_, rfl⟩
  rw [← hx3]
  have hr3 : qin x3 := by rw [hx3]; exact hJ.1.rng 0 _ (by decide) (by decide)
  show zG n (114, 4080270) 300 311 (620, [zR 0, zR 8, zR 97, .inl i], [.inl x3, .inl x2, .inl x1, zR 8]) M _
  refine zG_blk (c' := (624, [zR 0, zR 8, zR 97, .inl i], [.inl (i + 4), zR 0, .inl x3, .inl x2, .inl x1, zR 8])) 4 (by decide) hz (zsteps_seg hg (by rw [show (.inl (i + 4) : zV) = .inl (w32 (i + 4)) from by rw [w32_id (by omega)]]; rfl)) ?_
  refine zG_iald (by decide) hz (hg _ _ rfl) rfl (.inr rfl) (by omega) ?_
  obtain ⟨x4, hx4⟩ : ∃ x : Int, x = M 0 (i + 4).toNat := ⟨_, rfl⟩
  rw [← hx4]
  have hr4 : qin x4 := by rw [hx4]; exact hJ.1.rng 0 _ (by decide) (by decide)
  show zG n (114, 4080270) 300 311 (625, [zR 0, zR 8, zR 97, .inl i], [.inl x4, .inl x3, .inl x2, .inl x1, zR 8]) M _
  refine zG_call (by decide) hz zp_131 (hg _ _ rfl) rfl (Nat.le_of_ble_eq_true rfl) ⟨Nat.le_of_ble_eq_true rfl, Nat.le_of_ble_eq_true rfl⟩ (zG.andH (qm_131_8 (by decide) hJ.1 x1 (by omega) x2 (by omega) x3 (by omega) x4 (by omega)) (fh_131_8 x1 x2 x3 x4)) (fun vr M1 hr => ?_)
  obtain ⟨⟨⟨hC1, hF1⟩, -⟩, rfl, hM1⟩ := hr
  have hi := hF1.hi rfl
  have hI := hJ.2.1.same hi
  have hc0 : ∀ j, M1 0 j = M 0 j := fun j => hF1 0 j (by decide)
  show zG n (114, 4080270) 300 311 (628, [zR 0, zR 8, zR 97, .inl i], [.inl (hf_131_8 M x1 x2 x3 x4).1]) M1 _
  refine zG_blk (c' := (634, [zR 0, zR 8, zR 97, .inl i], [.inl (i + 1), zR 0, zR 97])) 6 (by decide) hz (zsteps_seg hg (by rw [show (.inl (i + 1) : zV) = .inl (w32 (i + 1)) from by rw [w32_id (by omega)]]; rfl)) ?_
  refine zG_iald (by decide) hz (hg _ _ rfl) rfl (.inr rfl) (by omega) ?_
  rw [show M1 0 (i + 1).toNat = x1 from (hc0 _).trans hx1.symm]
  show zG n (114, 4080270) 300 311 (635, [zR 0, zR 8, zR 97, .inl i], [.inl x1, zR 97]) M1 _
  refine zG_blk (c' := (639, [zR 0, zR 8, zR 97, .inl i], [.inl (i + 2), zR 0, .inl x1, zR 97])) 4 (by decide) hz (zsteps_seg hg (by rw [show (.inl (i + 2) : zV) = .inl (w32 (i + 2)) from by rw [w32_id (by omega)]]; rfl)) ?_
  refine zG_iald (by decide) hz (hg _ _ rfl) rfl (.inr rfl) (by omega) ?_
  rw [show M1 0 (i + 2).toNat = x2 from (hc0 _).trans hx2.symm]
  show zG n (114, 4080270) 300 311 (640, [zR 0, zR 8, zR 97, .inl i], [.inl x2, .inl x1, zR 97]) M1 _
  refine zG_blk (c' := (644, [zR 0, zR 8, zR 97, .inl i], [.inl (i + 3), zR 0, .inl x2, .inl x1, zR 97])) 4 (by decide) hz (zsteps_seg hg (by rw [show (.inl (i + 3) : zV) = .inl (w32 (i + 3)) from by rw [w32_id (by omega)]]; rfl)) ?_
  refine zG_iald (by decide) hz (hg _ _ rfl) rfl (.inr rfl) (by omega) ?_
  rw [show M1 0 (i + 3).toNat = x3 from (hc0 _).trans hx3.symm]
  show zG n (114, 4080270) 300 311 (645, [zR 0, zR 8, zR 97, .inl i], [.inl x3, .inl x2, .inl x1, zR 97]) M1 _
  refine zG_blk (c' := (649, [zR 0, zR 8, zR 97, .inl i], [.inl (i + 4), zR 0, .inl x3, .inl x2, .inl x1, zR 97])) 4 (by decide) hz (zsteps_seg hg (by rw [show (.inl (i + 4) : zV) = .inl (w32 (i + 4)) from by rw [w32_id (by omega)]]; rfl)) ?_
  refine zG_iald (by decide) hz (hg _ _ rfl) rfl (.inr rfl) (by omega) ?_
  rw [show M1 0 (i + 4).toNat = x4 from (hc0 _).trans hx4.symm]
  show zG n (114, 4080270) 300 311 (650, [zR 0, zR 8, zR 97, .inl i], [.inl x4, .inl x3, .inl x2, .inl x1, zR 97]) M1 _
  refine zG_call (by decide) hz zp_203 (hg _ _ rfl) rfl (Nat.le_of_ble_eq_true rfl) ⟨Nat.le_of_ble_eq_true rfl, Nat.le_of_ble_eq_true rfl⟩ (zG.andH (qm_203_97 (by decide) hI x1 (by omega) x2 (by omega) x3 (by omega) x4 (by omega)) (fh_203_97 x1 x2 x3 x4)) (fun vr M2 hr => ?_)
  obtain ⟨⟨⟨hC2, hF2⟩, -⟩, rfl, hM2⟩ := hr
  have hm := hm_131 hJ.2.2.1 hJ.1.tb hJ.2.1.bd (a1 := x1) (a2 := x2) (a3 := x3) (a4 := x4)
  rw [← hM1] at hm
  rw [← hM2] at hm
  have hJ2 : qJ M2 := hJ.mut hC1 hF1 rfl rfl hC2 hF2 rfl (by decide) hm.2
  show zG n (114, 4080270) 300 311 (653, [zR 0, zR 8, zR 97, .inl i], [.inl (hf_203_97 M1 x1 x2 x3 x4).1]) M2 _
  refine zG_blk (c' := (2158, [zR 0, zR 8, zR 97, .inl i], [])) 2 (by decide) hz (zsteps_seg hg rfl) ?_
  exact K M2 hJ2
noncomputable def sg_9 : List zE := [(657, .aload_n ⟨1, zfin1⟩, 658, zx0),
  (658, .aload_n ⟨0, zfin0⟩, 659, zx0),
  (659, .iload_n ⟨3, zfin3⟩, 660, zx0),
  (660, .iconst 1, 661, zx0),
  (661, .iadd, 662, zx0),
  (662, .iaload, 663, zx0),
  (663, .aload_n ⟨0, zfin0⟩, 664, zx0),
  (664, .iload_n ⟨3, zfin3⟩, 665, zx0),
  (665, .iconst 2, 666, zx0),
  (666, .iadd, 667, zx0),
  (667, .iaload, 668, zx0),
  (668, .aload_n ⟨0, zfin0⟩, 669, zx0),
  (669, .iload_n ⟨3, zfin3⟩, 670, zx0),
  (670, .iconst 3, 671, zx0),
  (671, .iadd, 672, zx0),
  (672, .iaload, 673, zx0),
  (673, .aload_n ⟨0, zfin0⟩, 674, zx0),
  (674, .iload_n ⟨3, zfin3⟩, 675, zx0),
  (675, .iconst 4, 676, zx0),
  (676, .iadd, 677, zx0),
  (677, .iaload, 678, zx0),
  (678, .aload_n ⟨0, zfin0⟩, 679, zx0),
  (679, .iload_n ⟨3, zfin3⟩, 680, zx0),
  (680, .iconst 5, 681, zx0),
  (681, .iadd, 682, zx0),
  (682, .iaload, 683, zx0),
  (683, .aload_n ⟨0, zfin0⟩, 684, zx0),
  (684, .iload_n ⟨3, zfin3⟩, 685, zx0),
  (685, .bipush (6), 687, zx0),
  (687, .iadd, 688, zx0),
  (688, .iaload, 689, zx0),
  (689, .invokevirtual 55, 692, (132, 7, 0, [11])),
  (692, .pop, 693, zx0),
  (693, .aload_n ⟨2, zfin2⟩, 694, zx0),
  (694, .aload_n ⟨0, zfin0⟩, 695, zx0),
  (695, .iload_n ⟨3, zfin3⟩, 696, zx0),
  (696, .iconst 1, 697, zx0),
  (697, .iadd, 698, zx0),
  (698, .iaload, 699, zx0),
  (699, .aload_n ⟨0, zfin0⟩, 700, zx0),
  (700, .iload_n ⟨3, zfin3⟩, 701, zx0),
  (701, .iconst 2, 702, zx0),
  (702, .iadd, 703, zx0),
  (703, .iaload, 704, zx0),
  (704, .aload_n ⟨0, zfin0⟩, 705, zx0),
  (705, .iload_n ⟨3, zfin3⟩, 706, zx0),
  (706, .iconst 3, 707, zx0),
  (707, .iadd, 708, zx0),
  (708, .iaload, 709, zx0),
  (709, .aload_n ⟨0, zfin0⟩, 710, zx0),
  (710, .iload_n ⟨3, zfin3⟩, 711, zx0),
  (711, .iconst 4, 712, zx0),
  (712, .iadd, 713, zx0),
  (713, .iaload, 714, zx0),
  (714, .aload_n ⟨0, zfin0⟩, 715, zx0),
  (715, .iload_n ⟨3, zfin3⟩, 716, zx0),
  (716, .iconst 5, 717, zx0),
  (717, .iadd, 718, zx0),
  (718, .iaload, 719, zx0),
  (719, .aload_n ⟨0, zfin0⟩, 720, zx0),
  (720, .iload_n ⟨3, zfin3⟩, 721, zx0),
  (721, .bipush (6), 723, zx0),
  (723, .iadd, 724, zx0),
  (724, .iaload, 725, zx0),
  (725, .invokevirtual 58, 728, (204, 7, 0, [12])),
  (728, .pop, 729, zx0),
  (729, .goto (1429), 732, (2158, 0, 0, []))]
set_option maxRecDepth 100000 in
theorem sh_9 : zSeg zk_L_law sg_9 := zSeg_of 383 67 657 (by decide +kernel) rfl (by decide +kernel)
end LW
