section LW
variable {n : Nat} {M : zM} {i : Int}
set_option maxRecDepth 100000 in
theorem qL_9 (hJ : qJ M) (hn : n ≤ 4096) (hi : 0 ≤ i ∧ i + 8 ≤ n) (K : ∀ M', qJ M' → zG n (114, 4080270) 300 311 (2158, [zR 0, zR 8, zR 97, .inl i], []) M' qLQ) : zG n (114, 4080270) 300 311 (657, [zR 0, zR 8, zR 97, .inl i], []) M qLQ := by
  have hz := zp_311
  have hg := sh_9
  refine zG_blk (c' := (662, [zR 0, zR 8, zR 97, .inl i], [.inl (i + 1), zR 0, zR 8])) 5 (by decide) hz (zsteps_seg hg (by rw [show (.inl (i + 1) : zV) = .inl (w32 (i + 1)) from by rw [w32_id (by omega)]]; rfl)) ?_
  refine zG_iald (by decide) hz (hg _ _ rfl) rfl (.inr rfl) (by omega) ?_
  obtain ⟨x1, hx1⟩ : ∃ x : Int, x = M 0 (i + 1).toNat := ⟨_, rfl⟩
  rw [← hx1]
  have hr1 : qin x1 := by rw [hx1]; exact hJ.1.rng 0 _ (by decide) (by decide)
  show zG n (114, 4080270) 300 311 (663, [zR 0, zR 8, zR 97, .inl i], [.inl x1, zR 8]) M _
  refine zG_blk (c' := (667, [zR 0, zR 8, zR 97, .inl i], [.inl (i + 2), zR 0, .inl x1, zR 8])) 4 (by decide) hz (zsteps_seg hg (by rw [show (.inl (i + 2) : zV) = .inl (w32 (i + 2)) from by rw [w32_id (by omega)]]; rfl)) ?_
  refine zG_iald (by decide) hz (hg _ _ rfl) rfl (.inr rfl) (by omega) ?_
  obtain ⟨x2, hx2⟩ : ∃ x : Int, x = M 0 (i + 2).toNat := ⟨_, rfl⟩
  rw [← hx2]
  have hr2 : qin x2 := by rw [hx2]; exact hJ.1.rng 0 _ (by decide) (by decide)
  show zG n (114, 4080270) 300 311 (668, [zR 0, zR 8, zR 97, .inl i], [.inl x2, .inl x1, zR 8]) M _
  refine zG_blk (c' := (672, [zR 0, zR 8, zR 97, .inl i], [.inl (i + 3), zR 0, .inl x2, .inl x1, zR 8])) 4 (by decide) hz (zsteps_seg hg (by rw [show (.inl (i + 3) : zV) = .inl (w32 (i + 3)) from by rw [w32_id (by omega)]]; rfl)) ?_
  refine zG_iald (by decide) hz (hg _ _ rfl) rfl (.inr rfl) (by omega) ?_
  obtain ⟨x3, hx3⟩ : ∃ x : Int, x = M 0 (i + 3).toNat := ⟨_, rfl⟩
  rw [← hx3]
  have hr3 : qin x3 := by rw [hx3]; exact hJ.1.rng 0 _ (by decide) (by decide)
  show zG n (114, 4080270) 300 311 (673, [zR 0, zR 8, zR 97, .inl i], [.inl x3, .inl x2, .inl x1, zR 8]) M _
  refine zG_blk (c' := (677, [zR 0, zR 8, zR 97, .inl i], [.inl (i + 4), zR 0, .inl x3, .inl x2, .inl x1, zR 8])) 4 (by decide) hz (zsteps_seg hg (by rw [show (.inl (i + 4) : zV) = .inl (w32 (i + 4)) from by rw [w32_id (by omega)]]; rfl)) ?_
  refine zG_iald (by decide) hz (hg _ _ rfl) rfl (.inr rfl) (by omega) ?_
  obtain ⟨x4, hx4⟩ : ∃ x : Int, x = M 0 (i + 4).toNat := ⟨_, rfl⟩
  rw [← hx4]
  have hr4 : qin x4 := by rw [hx4]; exact hJ.1.rng 0 _ (by decide) (by decide)
  show zG n (114, 4080270) 300 311 (678, [zR 0, zR 8, zR 97, .inl i], [.inl x4, .inl x3, .inl x2, .inl x1, zR 8]) M _
  refine zG_blk (c' := (682, [zR 0, zR 8, zR 97, .inl i], [.inl (i + 5), zR 0, .inl x4, .inl x3, .inl x2, .inl x1, zR 8])) 4 (by decide) hz (zsteps_seg hg (by rw [show (.inl (i + 5) : zV) = .inl (w32 (i + 5)) from by rw [w32_id (by omega)]]; rfl)) ?_
  refine zG_iald (by decide) hz (hg _ _ rfl) rfl (.inr rfl) (by omega) ?_
  obtain ⟨x5, hx5⟩ : ∃ x : Int, x = M 0 (i + 5).toNat := ⟨_, rfl⟩
  rw [← hx5]
  have hr5 : qin x5 := by rw [hx5]; exact hJ.1.rng 0 _ (by decide) (by decide)
  show zG n (114, 4080270) 300 311 (683, [zR 0, zR 8, zR 97, .inl i], [.inl x5, .inl x4, .inl x3, .inl x2, .inl x1, zR 8]) M _
  refine zG_blk (c' := (688, [zR 0, zR 8, zR 97, .inl i], [.inl (i + 6), zR 0, .inl x5, .inl x4, .inl x3, .inl x2, .inl x1, zR 8])) 4 (by decide) hz (zsteps_seg hg (by rw [show (.inl (i + 6) : zV) = .inl (w32 (i + 6)) from by rw [w32_id (by omega)]]; rfl)) ?_
  refine zG_iald (by decide) hz (hg _ _ rfl) rfl (.inr rfl) (by omega) ?_
  obtain ⟨x6, hx6⟩ : ∃ x : Int, x = M 0 (i + 6).toNat := ⟨_, rfl⟩
  rw [← hx6]
  have hr6 : qin x6 := by rw [hx6]; exact hJ.1.rng 0 _ (by decide) (by decide)
  show zG n (114, 4080270) 300 311 (689, [zR 0, zR 8, zR 97, .inl i], [.inl x6, .inl x5, .inl x4, .inl x3, .inl x2, .inl x1, zR 8]) M _
  refine zG_call (by decide) hz zp_132 (hg _ _ rfl) rfl (Nat.le_of_ble_eq_true rfl) ⟨Nat.le_of_ble_eq_true rfl, Nat.le_of_ble_eq_true rfl⟩ (zG.andH (qm_132_8 (by decide) hJ.1 x1 (by omega) x2 (by omega) x3 (by omega) x4 (by omega) x5 (by omega) x6 (by omega)) (fh_132_8 x1 x2 x3 x4 x5 x6)) (fun vr M1 hr => ?_)
  obtain ⟨⟨⟨hC1, hF1⟩, -⟩, rfl, hM1⟩ := hr
  have hi := hF1.hi rfl
  have hI := hJ.2.1.same hi
  have hc0 : ∀ j, M1 0 j = M 0 j := fun j => hF1 0 j (by decide)
  show zG n (114, 4080270) 300 311 (692, [zR 0, zR 8, zR 97, .inl i], [.inl (hf_132_8 M x1 x2 x3 x4 x5 x6).1]) M1 _
  refine zG_blk (c' := (698, [zR 0, zR 8, zR 97, .inl i], [.inl (i + 1), zR 0, zR 97])) 6 (by decide) hz (zsteps_seg hg (by rw [show (.inl (i + 1) : zV) = .inl (w32 (i + 1)) from by rw [w32_id (by omega)]]; rfl)) ?_
  refine zG_iald (by decide) hz (hg _ _ rfl) rfl (.inr rfl) (by omega) ?_
  rw [show M1 0 (i + 1).toNat = x1 from (hc0 _).trans hx1.symm]
  show zG n (114, 4080270) 300 311 (699, [zR 0, zR 8, zR 97, .inl i], [.inl x1, zR 97]) M1 _
  refine zG_blk (c' := (703, [zR 0, zR 8, zR 97, .inl i], [.inl (i + 2), zR 0, .inl x1, zR 97])) 4 (by decide) hz (zsteps_seg hg (by rw [show (.inl (i + 2) : zV) = .inl (w32 (i + 2)) from by rw [w32_id (by omega)]]; rfl)) ?_
  refine zG_iald (by decide) hz (hg _ _ rfl) rfl (.inr rfl) (by omega) ?_
  rw [show M1 0 (i + 2).toNat = x2 from (hc0 _).trans hx2.symm]
  show zG n (114, 4080270) 300 311 (704, [zR 0, zR 8, zR 97, .inl i], [.inl x2, .inl x1, zR 97]) M1 _
  refine zG_blk (c' := (708, [zR 0, zR 8, zR 97, .inl i], [.inl (i + 3), zR 0, .inl x2, .inl x1, zR 97])) 4 (by decide) hz (zsteps_seg hg (by rw [show (.inl (i + 3) : zV) = .inl (w32 (i + 3)) from by rw [w32_id (by omega)]]; rfl)) ?_
  refine zG_iald (by decide) hz (hg _ _ rfl) rfl (.inr rfl) (by omega) ?_
  rw [show M1 0 (i + 3).toNat = x3 from (hc0 _).trans hx3.symm]
  show zG n (114, 4080270) 300 311 (709, [zR 0, zR 8, zR 97, .inl i], [.inl x3, .inl x2, .inl x1, zR 97]) M1 _
  refine zG_blk (c' := (713, [zR 0, zR 8, zR 97, .inl i], [.inl (i + 4), zR 0, .inl x3, .inl x2, .inl x1, zR 97])) 4 (by decide) hz (zsteps_seg hg (by rw [show (.inl (i + 4) : zV) = .inl (w32 (i + 4)) from by rw [w32_id (by omega)]]; rfl)) ?_
  refine zG_iald (by decide) hz (hg _ _ rfl) rfl (.inr rfl) (by omega) ?_
  rw [show M1 0 (i + 4).toNat = x4 from (hc0 _).trans hx4.symm]
  show zG n (114, 4080270) 300 311 (714, [zR 0, zR 8, zR 97, .inl i], [.inl x4, .inl x3, .inl x2, .inl x1, zR 97]) M1 _
  refine zG_blk (c' := (718, [zR 0, zR 8, zR 97, .inl i], [.inl (i + 5), zR 0, .inl x4, .inl x3, .inl x2, .inl x1, zR 97])) 4 (by decide) hz (zsteps_seg hg (by rw [show (.inl (i + 5) : zV) = .inl (w32 (i + 5)) from by rw [w32_id (by omega)]]; rfl)) ?_
  refine zG_iald (by decide) hz (hg _ _ rfl) rfl (.inr rfl) (by omega) ?_
  rw [show M1 0 (i + 5).toNat = x5 from (hc0 _).trans hx5.symm]
  show zG n (114, 4080270) 300 311 (719, [zR 0, zR 8, zR 97, .inl i], [.inl x5, .inl x4, .inl x3, .inl x2, .inl x1, zR 97]) M1 _
  refine zG_blk (c' := (724, [zR 0, zR 8, zR 97, .inl i], [.inl (i + 6), zR 0, .inl x5, .inl x4, .inl x3, .inl x2, .inl x1, zR 97])) 4 (by decide) hz (zsteps_seg hg (by rw [show (.inl (i + 6) : zV) = .inl (w32 (i + 6)) from by rw [w32_id (by omega)]]; rfl)) ?_
  refine zG_iald (by decide) hz (hg _ _ rfl) rfl (.inr rfl) (by omega) ?_
  rw [show M1 0 (i + 6).toNat = x6 from (hc0 _).trans hx6.symm]
  show zG n (114, 4080270) 300 311 (725, [zR 0, zR 8, zR 97, .inl i], [.inl x6, .inl x5, .inl x4, .inl x3, .inl x2, .inl x1, zR 97]) M1 _
  refine zG_call (by decide) hz zp_204 (hg _ _ rfl) rfl (Nat.le_of_ble_eq_true rfl) ⟨Nat.le_of_ble_eq_true rfl, Nat.le_of_ble_eq_true rfl⟩ (zG.andH (qm_204_97 (by decide) hI x1 (by omega) x2 (by omega) x3 (by omega) x4 (by omega) x5 (by omega) x6 (by omega)) (fh_204_97 x1 x2 x3 x4 x5 x6)) (fun vr M2 hr => ?_)
  obtain ⟨⟨⟨hC2, hF2⟩, -⟩, rfl, hM2⟩ := hr
  have hm := hm_132 hJ.2.2.1 hJ.1.tb hJ.2.1.bd (a1 := x1) (a2 := x2) (a3 := x3) (a4 := x4) (a5 := x5) (a6 := x6)
  rw [← hM1] at hm
  rw [← hM2] at hm
  have hJ2 : qJ M2 := hJ.mut hC1 hF1 rfl rfl hC2 hF2 rfl (by decide) hm.2
  show zG n (114, 4080270) 300 311 (728, [zR 0, zR 8, zR 97, .inl i], [.inl (hf_204_97 M1 x1 x2 x3 x4 x5 x6).1]) M2 _
  refine zG_blk (c' := (2158, [zR 0, zR 8, zR 97, .inl i], [])) 2 (by decide) hz (zsteps_seg hg rfl) ?_
  exact K M2 hJ2
noncomputable def sg_10 : List zE := [(732, .aload_n ⟨1, zfin1⟩, 733, zx0),
  (733, .aload_n ⟨0, zfin0⟩, 734, zx0),
  (734, .iload_n ⟨3, zfin3⟩, 735, zx0),
  (735, .iconst 1, 736, zx0),
  (736, .iadd, 737, zx0),
  (737, .iaload, 738, zx0),
  (738, .aload_n ⟨0, zfin0⟩, 739, zx0),
  (739, .iload_n ⟨3, zfin3⟩, 740, zx0),
  (740, .iconst 2, 741, zx0),
  (741, .iadd, 742, zx0),
  (742, .iaload, 743, zx0),
  (743, .aload_n ⟨0, zfin0⟩, 744, zx0),
  (744, .iload_n ⟨3, zfin3⟩, 745, zx0),
  (745, .iconst 3, 746, zx0),
  (746, .iadd, 747, zx0),
  (747, .iaload, 748, zx0),
  (748, .aload_n ⟨0, zfin0⟩, 749, zx0),
  (749, .iload_n ⟨3, zfin3⟩, 750, zx0),
  (750, .iconst 4, 751, zx0),
  (751, .iadd, 752, zx0),
  (752, .iaload, 753, zx0),
  (753, .invokevirtual 59, 756, (133, 5, 0, [11])),
  (756, .pop, 757, zx0),
  (757, .aload_n ⟨2, zfin2⟩, 758, zx0),
  (758, .aload_n ⟨0, zfin0⟩, 759, zx0),
  (759, .iload_n ⟨3, zfin3⟩, 760, zx0),
  (760, .iconst 1, 761, zx0),
  (761, .iadd, 762, zx0),
  (762, .iaload, 763, zx0),
  (763, .aload_n ⟨0, zfin0⟩, 764, zx0),
  (764, .iload_n ⟨3, zfin3⟩, 765, zx0),
  (765, .iconst 2, 766, zx0),
  (766, .iadd, 767, zx0),
  (767, .iaload, 768, zx0),
  (768, .aload_n ⟨0, zfin0⟩, 769, zx0),
  (769, .iload_n ⟨3, zfin3⟩, 770, zx0),
  (770, .iconst 3, 771, zx0),
  (771, .iadd, 772, zx0),
  (772, .iaload, 773, zx0),
  (773, .aload_n ⟨0, zfin0⟩, 774, zx0),
  (774, .iload_n ⟨3, zfin3⟩, 775, zx0),
  (775, .iconst 4, 776, zx0),
  (776, .iadd, 777, zx0),
  (777, .iaload, 778, zx0),
  (778, .invokevirtual 62, 781, (205, 5, 0, [12])),
  (781, .pop, 782, zx0),
  (782, .goto (1376), 785, (2158, 0, 0, []))]
set_option maxRecDepth 100000 in
theorem sh_10 : zSeg zk_L_law sg_10 := zSeg_of 450 47 732 (by decide +kernel) rfl (by decide +kernel)
set_option maxRecDepth 100000 in
theorem qL_10 (hJ : qJ M) (hn : n ≤ 4096) (hi : 0 ≤ i ∧ i + 8 ≤ n) (K : ∀ M', qJ M' → zG n (114, 4080270) 300 311 (2158, [zR 0, zR 8, zR 97, .inl i], []) M' qLQ) : zG n (114, 4080270) 300 311 (732, [zR 0, zR 8, zR 97, .inl i], []) M qLQ := by
  have hz := zp_311
  have hg := sh_10
  refine zG_blk (c' := (737, [zR 0, zR 8, zR 97, .inl i], [.inl (i + 1), zR 0, zR 8])) 5 (by decide) hz (zsteps_seg hg (by rw [show (.inl (i + 1) : zV) = .inl (w32 (i + 1)) from by rw [w32_id (by omega)]]; rfl)) ?_
  refine zG_iald (by decide) hz (hg _ _ rfl) rfl (.inr rfl) (by omega) ?_
  obtain ⟨x1, hx1⟩ : ∃ x : Int, x = M 0 (i + 1).toNat := ⟨_, rfl⟩
  rw [← hx1]
  have hr1 : qin x1 := by rw [hx1]; exact hJ.1.rng 0 _ (by decide) (by decide)
  show zG n (114, 4080270) 300 311 (738, [zR 0, zR 8, zR 97, .inl i], [.inl x1, zR 8]) M _
  refine zG_blk (c' := (742, [zR 0, zR 8, zR 97, .inl i], [.inl (i + 2), zR 0, .inl x1, zR 8])) 4 (by decide) hz (zsteps_seg hg (by rw [show (.inl (i + 2) : zV) = .inl (w32 (i + 2)) from by rw [w32_id (by omega)]]; rfl)) ?_
  refine zG_iald (by decide) hz (hg _ _ rfl) rfl (.inr rfl) (by omega) ?_
  obtain ⟨x2, hx2⟩ : ∃ x : Int, x = M 0 (i + 2).toNat := ⟨_, rfl⟩
  rw [← hx2]
  have hr2 : qin x2 := by rw [hx2]; exact hJ.1.rng 0 _ (by decide) (by decide)
  show zG n (114, 4080270) 300 311 (743, [zR 0, zR 8, zR 97, .inl i], [.inl x2, .inl x1, zR 8]) M _
  refine zG_blk (c' := (747, [zR 0, zR 8, zR 97, .inl i], [.inl (i + 3), zR 0, .inl x2, .inl x1, zR 8])) 4 (by decide) hz (zsteps_seg hg (by rw [show (.inl (i + 3) : zV) = .inl (w32 (i + 3)) from by rw [w32_id (by omega)]]; rfl)) ?_
  refine zG_iald (by decide) hz (hg _ _ rfl) rfl (.inr rfl) (by omega) ?_
  obtain ⟨x3, hx3⟩ : ∃ x : Int, x = M 0 (i + 3).toNat := ⟨_, rfl⟩
  rw [← hx3]
  have hr3 : qin x3 := by rw [hx3]; exact hJ.1.rng 0 _ (by decide) (by decide)
  show zG n (114, 4080270) 300 311 (748, [zR 0, zR 8, zR 97, .inl i], [.inl x3, .inl x2, .inl x1, zR 8]) M _
  refine zG_blk (c' := (752, [zR 0, zR 8, zR 97, .inl i], [.inl (i + 4), zR 0, .inl x3, .inl x2, .inl x1, zR 8])) 4 (by decide) hz (zsteps_seg hg (by rw [show (.inl (i + 4) : zV) = .inl (w32 (i + 4)) from by rw [w32_id (by omega)]]; rfl)) ?_
  refine zG_iald (by decide) hz (hg _ _ rfl) rfl (.inr rfl) (by omega) ?_
  obtain ⟨x4, hx4⟩ : ∃ x : Int, x = M 0 (i + 4).toNat := ⟨_, rfl⟩
  rw [← hx4]
  have hr4 : qin x4 := by rw [hx4]; exact hJ.1.rng 0 _ (by decide) (by decide)
  show zG n (114, 4080270) 300 311 (753, [zR 0, zR 8, zR 97, .inl i], [.inl x4, .inl x3, .inl x2, .inl x1, zR 8]) M _
  refine zG_call (by decide) hz zp_133 (hg _ _ rfl) rfl (Nat.le_of_ble_eq_true rfl) ⟨Nat.le_of_ble_eq_true rfl, Nat.le_of_ble_eq_true rfl⟩ (zG.andH (qm_133_8 (by decide) hJ.1 x1 (by omega) x2 (by omega) x3 (by omega) x4 (by omega)) (fh_133_8 x1 x2 x3 x4)) (fun vr M1 hr => ?_)
  obtain ⟨⟨⟨hC1, hF1⟩, -⟩, rfl, hM1⟩ := hr
  have hi := hF1.hi rfl
  have hI := hJ.2.1.same hi
  have hc0 : ∀ j, M1 0 j = M 0 j := fun j => hF1 0 j (by decide)
  show zG n (114, 4080270) 300 311 (756, [zR 0, zR 8, zR 97, .inl i], [.inl (hf_133_8 M x1 x2 x3 x4).1]) M1 _
  refine zG_blk (c' := (762, [zR 0, zR 8, zR 97, .inl i], [.inl (i + 1), zR 0, zR 97])) 6 (by decide) hz (zsteps_seg hg (by rw [show (.inl (i + 1) : zV) = .inl (w32 (i + 1)) from by rw [w32_id (by omega)]]; rfl)) ?_
  refine zG_iald (by decide) hz (hg _ _ rfl) rfl (.inr rfl) (by omega) ?_
  rw [show M1 0 (i + 1).toNat = x1 from (hc0 _).trans hx1.symm]
  show zG n (114, 4080270) 300 311 (763, [zR 0, zR 8, zR 97, .inl i], [.inl x1, zR 97]) M1 _
  refine zG_blk (c' := (767, [zR 0, zR 8, zR 97, .inl i], [.inl (i + 2), zR 0, .inl x1, zR 97])) 4 (by decide) hz (zsteps_seg hg (by rw [show (.inl (i + 2) : zV) = .inl (w32 (i + 2)) from by rw [w32_id (by omega)]]; rfl)) ?_
  refine zG_iald (by decide) hz (hg _ _ rfl) rfl (.inr rfl) (by omega) ?_
  rw [show M1 0 (i + 2).toNat = x2 from (hc0 _).trans hx2.symm]
  show zG n (114, 4080270) 300 311 (768, [zR 0, zR 8, zR 97, .inl i], [.inl x2, .inl x1, zR 97]) M1 _
  refine zG_blk (c' := (772, [zR 0, zR 8, zR 97, .inl i], [.inl (i + 3), zR 0, .inl x2, .inl x1, zR 97])) 4 (by decide) hz (zsteps_seg hg (by rw [show (.inl (i + 3) : zV) = .inl (w32 (i + 3)) from by rw [w32_id (by omega)]]; rfl)) ?_
  refine zG_iald (by decide) hz (hg _ _ rfl) rfl (.inr rfl) (by omega) ?_
  rw [show M1 0 (i + 3).toNat = x3 from (hc0 _).trans hx3.symm]
  show zG n (114, 4080270) 300 311 (773, [zR 0, zR 8, zR 97, .inl i], [.inl x3, .inl x2, .inl x1, zR 97]) M1 _
  refine zG_blk (c' := (777, [zR 0, zR 8, zR 97, .inl i], [.inl (i + 4), zR 0, .inl x3, .inl x2, .inl x1, zR 97])) 4 (by decide) hz (zsteps_seg hg (by rw [show (.inl (i + 4) : zV) = .inl (w32 (i + 4)) from by rw [w32_id (by omega)]]; rfl)) ?_
  refine zG_iald (by decide) hz (hg _ _ rfl) rfl (.inr rfl) (by omega) ?_
  rw [show M1 0 (i + 4).toNat = x4 from (hc0 _).trans hx4.symm]
  show zG n (114, 4080270) 300 311 (778, [zR 0, zR 8, zR 97, .inl i], [.inl x4, .inl x3, .inl x2, .inl x1, zR 97]) M1 _
  refine zG_call (by decide) hz zp_205 (hg _ _ rfl) rfl (Nat.le_of_ble_eq_true rfl) ⟨Nat.le_of_ble_eq_true rfl, Nat.le_of_ble_eq_true rfl⟩ (zG.andH (qm_205_97 (by decide) hI x1 (by omega) x2 (by omega) x3 (by omega) x4 (by omega)) (fh_205_97 x1 x2 x3 x4)) (fun vr M2 hr => ?_)
  obtain ⟨⟨⟨hC2, hF2⟩, -⟩, rfl, hM2⟩ := hr
  have hm := hm_133 hJ.2.2.1 hJ.1.tb hJ.2.1.bd (a1 := x1) (a2 := x2) (a3 := x3) (a4 := x4)
  rw [← hM1] at hm
  rw [← hM2] at hm
  have hJ2 : qJ M2 := hJ.mut hC1 hF1 rfl rfl hC2 hF2 rfl (by decide) hm.2
  show zG n (114, 4080270) 300 311 (781, [zR 0, zR 8, zR 97, .inl i], [.inl (hf_205_97 M1 x1 x2 x3 x4).1]) M2 _
  refine zG_blk (c' := (2158, [zR 0, zR 8, zR 97, .inl i], [])) 2 (by decide) hz (zsteps_seg hg rfl) ?_
  exact K M2 hJ2
noncomputable def sg_11 : List zE := [(785, .aload_n ⟨1, zfin1⟩, 786, zx0),
  (786, .aload_n ⟨0, zfin0⟩, 787, zx0),
  (787, .iload_n ⟨3, zfin3⟩, 788, zx0),
  (788, .iconst 1, 789, zx0),
  (789, .iadd, 790, zx0),
  (790, .iaload, 791, zx0),
  (791, .aload_n ⟨0, zfin0⟩, 792, zx0),
  (792, .iload_n ⟨3, zfin3⟩, 793, zx0),
  (793, .iconst 2, 794, zx0),
  (794, .iadd, 795, zx0),
  (795, .iaload, 796, zx0),
  (796, .aload_n ⟨0, zfin0⟩, 797, zx0),
  (797, .iload_n ⟨3, zfin3⟩, 798, zx0),
  (798, .iconst 3, 799, zx0),
  (799, .iadd, 800, zx0),
  (800, .iaload, 801, zx0),
  (801, .invokevirtual 63, 804, (134, 4, 0, [11])),
  (804, .pop, 805, zx0),
  (805, .aload_n ⟨2, zfin2⟩, 806, zx0),
  (806, .aload_n ⟨0, zfin0⟩, 807, zx0),
  (807, .iload_n ⟨3, zfin3⟩, 808, zx0),
  (808, .iconst 1, 809, zx0),
  (809, .iadd, 810, zx0),
  (810, .iaload, 811, zx0),
  (811, .aload_n ⟨0, zfin0⟩, 812, zx0),
  (812, .iload_n ⟨3, zfin3⟩, 813, zx0),
  (813, .iconst 2, 814, zx0),
  (814, .iadd, 815, zx0),
  (815, .iaload, 816, zx0),
  (816, .aload_n ⟨0, zfin0⟩, 817, zx0),
  (817, .iload_n ⟨3, zfin3⟩, 818, zx0),
  (818, .iconst 3, 819, zx0),
  (819, .iadd, 820, zx0),
  (820, .iaload, 821, zx0),
  (821, .invokevirtual 67, 824, (206, 4, 0, [12])),
  (824, .pop, 825, zx0),
  (825, .goto (1333), 828, (2158, 0, 0, []))]
set_option maxRecDepth 100000 in
theorem sh_11 : zSeg zk_L_law sg_11 := zSeg_of 497 37 785 (by decide +kernel) rfl (by decide +kernel)
set_option maxRecDepth 100000 in
theorem qL_11 (hJ : qJ M) (hn : n ≤ 4096) (hi : 0 ≤ i ∧ i + 8 ≤ n) (K : ∀ M', qJ M' → zG n (114, 4080270) 300 311 (2158, [zR 0, zR 8, zR 97, .inl i], []) M' qLQ) : zG n (114, 4080270) 300 311 (785, [zR 0, zR 8, zR 97, .inl i], []) M qLQ := by
  have hz := zp_311
  have hg := sh_11
  refine zG_blk (c' := (790, [zR 0, zR 8, zR 97, .inl i], [.inl (i + 1), zR 0, zR 8])) 5 (by decide) hz (zsteps_seg hg (by rw [show (.inl (i + 1) : zV) = .inl (w32 (i + 1)) from by rw [w32_id (by omega)]]; rfl)) ?_
  refine zG_iald (by decide) hz (hg _ _ rfl) rfl (.inr rfl) (by omega) ?_
  obtain ⟨x1, hx1⟩ : ∃ x : Int, x = M 0 (i + 1).toNat := ⟨_, rfl⟩
  rw [← hx1]
  have hr1 : qin x1 := by rw [hx1]; exact hJ.1.rng 0 _ (by decide) (by decide)
  show zG n (114, 4080270) 300 311 (791, [zR 0, zR 8, zR 97, .inl i], [.inl x1, zR 8]) M _
  refine zG_blk (c' := (795, [zR 0, zR 8, zR 97, .inl i], [.inl (i + 2), zR 0, .inl x1, zR 8])) 4 (by decide) hz (zsteps_seg hg (by rw [show (.inl (i + 2) : zV) = .inl (w32 (i + 2)) from by rw [w32_id (by omega)]]; rfl)) ?_
  refine zG_iald (by decide) hz (hg _ _ rfl) rfl (.inr rfl) (by omega) ?_
  obtain ⟨x2, hx2⟩ : ∃ x : Int, x = M 0 (i + 2).toNat := ⟨_, rfl⟩
  rw [← hx2]
  have hr2 : qin x2 := by rw [hx2]; exact hJ.1.rng 0 _ (by decide) (by decide)
  show zG n (114, 4080270) 300 311 (796, [zR 0, zR 8, zR 97, .inl i], [.inl x2, .inl x1, zR 8]) M _
  refine zG_blk (c' := (800, [zR 0, zR 8, zR 97, .inl i], [.inl (i + 3), zR 0, .inl x2, .inl x1, zR 8])) 4 (by decide) hz (zsteps_seg hg (by rw [show (.inl (i + 3) : zV) = .inl (w32 (i + 3)) from by rw [w32_id (by omega)]]; rfl)) ?_
  refine zG_iald (by decide) hz (hg _ _ rfl) rfl (.inr rfl) (by omega) ?_
  obtain ⟨x3, hx3⟩ : ∃ x : Int, x = M 0 (i + 3).toNat := ⟨_, rfl⟩
  rw [← hx3]
  have hr3 : qin x3 := by rw [hx3]; exact hJ.1.rng 0 _ (by decide) (by decide)
  show zG n (114, 4080270) 300 311 (801, [zR 0, zR 8, zR 97, .inl i], [.inl x3, .inl x2, .inl x1, zR 8]) M _
  refine zG_call (by decide) hz zp_134 (hg _ _ rfl) rfl (Nat.le_of_ble_eq_true rfl) ⟨Nat.le_of_ble_eq_true rfl, Nat.le_of_ble_eq_true rfl⟩ (zG.andH (qm_134_8 (by decide) hJ.1 x1 (by omega) x2 (by omega) x3 (by omega)) (fh_134_8 x1 x2 x3)) (fun vr M1 hr => ?_)
  obtain ⟨⟨⟨hC1, hF1⟩, -⟩, rfl, hM1⟩ := hr
  have hi := hF1.hi rfl
  have hI := hJ.2.1.same hi
  have hc0 : ∀ j, M1 0 j = M 0 j := fun j => hF1 0 j (by decide)
  show zG n (114, 4080270) 300 311 (804, [zR 0, zR 8, zR 97, .inl i], [.inl (hf_134_8 M x1 x2 x3).1]) M1 _
  refine zG_blk (c' := (810, [zR 0, zR 8, zR 97, .inl i], [.inl (i + 1), zR 0, zR 97])) 6 (by decide) hz (zsteps_seg hg (by rw [show (.inl (i + 1) : zV) = .inl (w32 (i + 1)) from by rw [w32_id (by omega)]]; rfl)) ?_
  refine zG_iald (by decide) hz (hg _ _ rfl) rfl (.inr rfl) (by omega) ?_
  rw [show M1 0 (i + 1).toNat = x1 from (hc0 _).trans hx1.symm]
  show zG n (114, 4080270) 300 311 (811, [zR 0, zR 8, zR 97, .inl i], [.inl x1, zR 97]) M1 _
  refine zG_blk (c' := (815, [zR 0, zR 8, zR 97, .inl i], [.inl (i + 2), zR 0, .inl x1, zR 97])) 4 (by decide) hz (zsteps_seg hg (by rw [show (.inl (i + 2) : zV) = .inl (w32 (i + 2)) from by rw [w32_id (by omega)]]; rfl)) ?_
  refine zG_iald (by decide) hz (hg _ _ rfl) rfl (.inr rfl) (by omega) ?_
  rw [show M1 0 (i + 2).toNat = x2 from (hc0 _).trans hx2.symm]
  show zG n (114, 4080270) 300 311 (816, [zR 0, zR 8, zR 97, .inl i], [.inl x2, .inl x1, zR 97]) M1 _
  refine zG_blk (c' := (820, [zR 0, zR 8, zR 97, .inl i], [.inl (i + 3), zR 0, .inl x2, .inl x1, zR 97])) 4 (by decide) hz (zsteps_seg hg (by rw [show (.inl (i + 3) : zV) = .inl (w32 (i + 3)) from by rw [w32_id (by omega)]]; rfl)) ?_
  refine zG_iald (by decide) hz (hg _ _ rfl) rfl (.inr rfl) (by omega) ?_
  rw [show M1 0 (i + 3).toNat = x3 from (hc0 _).trans hx3.symm]
  show zG n (114, 4080270) 300 311 (821, [zR 0, zR 8, zR 97, .inl i], [.inl x3, .inl x2, .inl x1, zR 97]) M1 _
  refine zG_call (by decide) hz zp_206 (hg _ _ rfl) rfl (Nat.le_of_ble_eq_true rfl) ⟨Nat.le_of_ble_eq_true rfl, Nat.le_of_ble_eq_true rfl⟩ (zG.andH (qm_206_97 (by decide) hI x1 (by omega) x2 (by omega) x3 (by omega)) (fh_206_97 x1 x2 x3)) (fun vr M2 hr => ?_)
  obtain ⟨⟨⟨hC2, hF2⟩, -⟩, rfl, hM2⟩ := hr
  have hm := hm_134 hJ.2.2.1 hJ.1.tb hJ.2.1.bd (a1 := x1) (a2 := x2) (a3 := x3)
  rw [← hM1] at hm
  rw [← hM2] at hm
  have hJ2 : qJ M2 := hJ.mut hC1 hF1 rfl rfl hC2 hF2 rfl (by decide) hm.2
  show zG n (114, 4080270) 300 311 (824, [zR 0, zR 8, zR 97, .inl i], [.inl (hf_206_97 M1 x1 x2 x3).1]) M2 _
  refine zG_blk (c' := (2158, [zR 0, zR 8, zR 97, .inl i], [])) 2 (by decide) hz (zsteps_seg hg rfl) ?_
  exact K M2 hJ2
noncomputable def sg_12 : List zE := [(828, .aload_n ⟨1, zfin1⟩, 829, zx0),
  (829, .aload_n ⟨0, zfin0⟩, 830, zx0),
  (830, .iload_n ⟨3, zfin3⟩, 831, zx0),
  (831, .iconst 1, 832, zx0),
  (832, .iadd, 833, zx0),
  (833, .iaload, 834, zx0),
  (834, .aload_n ⟨0, zfin0⟩, 835, zx0),
  (835, .iload_n ⟨3, zfin3⟩, 836, zx0),
  (836, .iconst 2, 837, zx0),
  (837, .iadd, 838, zx0),
  (838, .iaload, 839, zx0),
  (839, .aload_n ⟨0, zfin0⟩, 840, zx0),
  (840, .iload_n ⟨3, zfin3⟩, 841, zx0),
  (841, .iconst 3, 842, zx0),
  (842, .iadd, 843, zx0),
  (843, .iaload, 844, zx0),
  (844, .invokevirtual 68, 847, (135, 4, 0, [11])),
  (847, .aload_n ⟨2, zfin2⟩, 848, zx0),
  (848, .aload_n ⟨0, zfin0⟩, 849, zx0),
  (849, .iload_n ⟨3, zfin3⟩, 850, zx0),
  (850, .iconst 1, 851, zx0),
  (851, .iadd, 852, zx0),
  (852, .iaload, 853, zx0),
  (853, .aload_n ⟨0, zfin0⟩, 854, zx0),
  (854, .iload_n ⟨3, zfin3⟩, 855, zx0),
  (855, .iconst 2, 856, zx0),
  (856, .iadd, 857, zx0),
  (857, .iaload, 858, zx0),
  (858, .aload_n ⟨0, zfin0⟩, 859, zx0),
  (859, .iload_n ⟨3, zfin3⟩, 860, zx0),
  (860, .iconst 3, 861, zx0),
  (861, .iadd, 862, zx0),
  (862, .iaload, 863, zx0),
  (863, .invokevirtual 71, 866, (207, 4, 0, [12])),
  (866, .if_icmp .eq (1292), 869, (2158, 0, 0, [])),
  (869, .iconst 0, 870, zx0),
  (870, .ireturn, 871, (2, 0, 0, [])),
  (871, .aload_n ⟨1, zfin1⟩, 872, zx0),
  (872, .aload_n ⟨0, zfin0⟩, 873, zx0),
  (873, .iload_n ⟨3, zfin3⟩, 874, zx0),
  (874, .iconst 1, 875, zx0),
  (875, .iadd, 876, zx0),
  (876, .iaload, 877, zx0),
  (877, .aload_n ⟨0, zfin0⟩, 878, zx0),
  (878, .iload_n ⟨3, zfin3⟩, 879, zx0),
  (879, .iconst 2, 880, zx0),
  (880, .iadd, 881, zx0),
  (881, .iaload, 882, zx0),
  (882, .invokevirtual 72, 885, (136, 3, 0, [11])),
  (885, .pop, 886, zx0),
  (886, .aload_n ⟨2, zfin2⟩, 887, zx0),
  (887, .aload_n ⟨0, zfin0⟩, 888, zx0),
  (888, .iload_n ⟨3, zfin3⟩, 889, zx0),
  (889, .iconst 1, 890, zx0),
  (890, .iadd, 891, zx0),
  (891, .iaload, 892, zx0),
  (892, .aload_n ⟨0, zfin0⟩, 893, zx0),
  (893, .iload_n ⟨3, zfin3⟩, 894, zx0),
  (894, .iconst 2, 895, zx0),
  (895, .iadd, 896, zx0),
  (896, .iaload, 897, zx0),
  (897, .invokevirtual 75, 900, (208, 3, 0, [12])),
  (900, .pop, 901, zx0),
  (901, .goto (1257), 904, (2158, 0, 0, []))]
set_option maxRecDepth 100000 in
theorem sh_12 : zSeg zk_L_law sg_12 := zSeg_of 534 64 828 (by decide +kernel) rfl (by decide +kernel)
set_option maxRecDepth 100000 in
theorem qL_12 (hJ : qJ M) (hn : n ≤ 4096) (hi : 0 ≤ i ∧ i + 8 ≤ n) (K : ∀ M', qJ M' → zG n (114, 4080270) 300 311 (2158, [zR 0, zR 8, zR 97, .inl i], []) M' qLQ) : zG n (114, 4080270) 300 311 (828, [zR 0, zR 8, zR 97, .inl i], []) M qLQ := by
  have hz := zp_311
  have hg := sh_12
  refine zG_blk (c' := (833, [zR 0, zR 8, zR 97, .inl i], [.inl (i + 1), zR 0, zR 8])) 5 (by decide) hz (zsteps_seg hg (by rw [show (.inl (i + 1) : zV) = .inl (w32 (i + 1)) from by rw [w32_id (by omega)]]; rfl)) ?_
  refine zG_iald (by decide) hz (hg _ _ rfl) rfl (.inr rfl) (by omega) ?_
  obtain ⟨x1, hx1⟩ : ∃ x : Int, x = M 0 (i + 1).toNat := ⟨_, rfl⟩
  rw [← hx1]
  have hr1 : qin x1 := by rw [hx1]; exact hJ.1.rng 0 _ (by decide) (by decide)
  show zG n (114, 4080270) 300 311 (834, [zR 0, zR 8, zR 97, .inl i], [.inl x1, zR 8]) M _
  refine zG_blk (c' := (838, [zR 0, zR 8, zR 97, .inl i], [.inl (i + 2), zR 0, .inl x1, zR 8])) 4 (by decide) hz (zsteps_seg hg (by rw [show (.inl (i + 2) : zV) = .inl (w32 (i + 2)) from by rw [w32_id (by omega)]]; rfl)) ?_
  refine zG_iald (by decide) hz (hg _ _ rfl) rfl (.inr rfl) (by omega) ?_
  obtain ⟨x2, hx2⟩ : ∃ x : Int, x = M 0 (i + 2).toNat := ⟨_, rfl⟩
  rw [← hx2]
  have hr2 : qin x2 := by rw [hx2]; exact hJ.1.rng 0 _ (by decide) (by decide)
  show zG n (114, 4080270) 300 311 (839, [zR 0, zR 8, zR 97, .inl i], [.inl x2, .inl x1, zR 8]) M _
  refine zG_blk (c' := (843, [zR 0, zR 8, zR 97, .inl i], [.inl (i + 3), zR 0, .inl x2, .inl x1, zR 8])) 4 (by decide) hz (zsteps_seg hg (by rw [show (.inl (i + 3) : zV) = .inl (w32 (i + 3)) from by rw [w32_id (by omega)]]; rfl)) ?_
  refine zG_iald (by decide) hz (hg _ _ rfl) rfl (.inr rfl) (by omega) ?_
  obtain ⟨x3, hx3⟩ : ∃ x : Int, x = M 0 (i + 3).toNat := ⟨_, rfl⟩
  rw [← hx3]
  have hr3 : qin x3 := by rw [hx3]; exact hJ.1.rng 0 _ (by decide) (by decide)
  show zG n (114, 4080270) 300 311 (844, [zR 0, zR 8, zR 97, .inl i], [.inl x3, .inl x2, .inl x1, zR 8]) M _
  refine zG_call (by decide) hz zp_135 (hg _ _ rfl) rfl (Nat.le_of_ble_eq_true rfl) ⟨Nat.le_of_ble_eq_true rfl, Nat.le_of_ble_eq_true rfl⟩ (zG.andH (qm_135_8 (by decide) hJ.1 x1 (by omega) x2 (by omega) x3 (by omega)) (fh_135_8 x1 x2 x3)) (fun vr M1 hr => ?_)
  obtain ⟨⟨⟨hC1, hF1⟩, -⟩, rfl, hM1⟩ := hr
  have hi := hF1.hi rfl
  have hI := hJ.2.1.same hi
  have hc0 : ∀ j, M1 0 j = M 0 j := fun j => hF1 0 j (by decide)
  show zG n (114, 4080270) 300 311 (847, [zR 0, zR 8, zR 97, .inl i], [.inl (hf_135_8 M x1 x2 x3).1]) M1 _
  refine zG_blk (c' := (852, [zR 0, zR 8, zR 97, .inl i], [.inl (i + 1), zR 0, zR 97, .inl (hf_135_8 M x1 x2 x3).1])) 5 (by decide) hz (zsteps_seg hg (by rw [show (.inl (i + 1) : zV) = .inl (w32 (i + 1)) from by rw [w32_id (by omega)]]; rfl)) ?_
  refine zG_iald (by decide) hz (hg _ _ rfl) rfl (.inr rfl) (by omega) ?_
  rw [show M1 0 (i + 1).toNat = x1 from (hc0 _).trans hx1.symm]
  show zG n (114, 4080270) 300 311 (853, [zR 0, zR 8, zR 97, .inl i], [.inl x1, zR 97, .inl (hf_135_8 M x1 x2 x3).1]) M1 _
  refine zG_blk (c' := (857, [zR 0, zR 8, zR 97, .inl i], [.inl (i + 2), zR 0, .inl x1, zR 97, .inl (hf_135_8 M x1 x2 x3).1])) 4 (by decide) hz (zsteps_seg hg (by rw [show (.inl (i + 2) : zV) = .inl (w32 (i + 2)) from by rw [w32_id (by omega)]]; rfl)) ?_
  refine zG_iald (by decide) hz (hg _ _ rfl) rfl (.inr rfl) (by omega) ?_
  rw [show M1 0 (i + 2).toNat = x2 from (hc0 _).trans hx2.symm]
  show zG n (114, 4080270) 300 311 (858, [zR 0, zR 8, zR 97, .inl i], [.inl x2, .inl x1, zR 97, .inl (hf_135_8 M x1 x2 x3).1]) M1 _
  refine zG_blk (c' := (862, [zR 0, zR 8, zR 97, .inl i], [.inl (i + 3), zR 0, .inl x2, .inl x1, zR 97, .inl (hf_135_8 M x1 x2 x3).1])) 4 (by decide) hz (zsteps_seg hg (by rw [show (.inl (i + 3) : zV) = .inl (w32 (i + 3)) from by rw [w32_id (by omega)]]; rfl)) ?_
  refine zG_iald (by decide) hz (hg _ _ rfl) rfl (.inr rfl) (by omega) ?_
  rw [show M1 0 (i + 3).toNat = x3 from (hc0 _).trans hx3.symm]
  show zG n (114, 4080270) 300 311 (863, [zR 0, zR 8, zR 97, .inl i], [.inl x3, .inl x2, .inl x1, zR 97, .inl (hf_135_8 M x1 x2 x3).1]) M1 _
  refine zG_call (by decide) hz zp_207 (hg _ _ rfl) rfl (Nat.le_of_ble_eq_true rfl) ⟨Nat.le_of_ble_eq_true rfl, Nat.le_of_ble_eq_true rfl⟩ (zG.andH (qm_207_97 (by decide) hI x1 (by omega) x2 (by omega) x3 (by omega)) (fh_207_97 x1 x2 x3)) (fun vr M2 hr => ?_)
  obtain ⟨⟨⟨hC2, hF2⟩, -⟩, rfl, hM2⟩ := hr
  have hm := hm_135 hJ.2.2.1 hJ.1.tb hJ.2.1.bd (a1 := x1) (a2 := x2) (a3 := x3)
  rw [← hM1] at hm
  rw [← hM2] at hm
  have hJ2 : qJ M2 := hJ.mut hC1 hF1 rfl rfl hC2 hF2 rfl (by decide) hm.2
  show zG n (114, 4080270) 300 311 (866, [zR 0, zR 8, zR 97, .inl i], [.inl (hf_207_97 M1 x1 x2 x3).1, .inl (hf_135_8 M x1 x2 x3).1]) M2 _
  refine zG_icmp_eq (by decide) hz (hg _ _ rfl) (fun _ => ?_) (fun hne => absurd hm.1 hne)
  exact K M2 hJ2
noncomputable def sg_13 : List zE := [(871, .aload_n ⟨1, zfin1⟩, 872, zx0),
  (872, .aload_n ⟨0, zfin0⟩, 873, zx0),
  (873, .iload_n ⟨3, zfin3⟩, 874, zx0),
  (874, .iconst 1, 875, zx0),
  (875, .iadd, 876, zx0),
  (876, .iaload, 877, zx0),
  (877, .aload_n ⟨0, zfin0⟩, 878, zx0),
  (878, .iload_n ⟨3, zfin3⟩, 879, zx0),
  (879, .iconst 2, 880, zx0),
  (880, .iadd, 881, zx0),
  (881, .iaload, 882, zx0),
  (882, .invokevirtual 72, 885, (136, 3, 0, [11])),
  (885, .pop, 886, zx0),
  (886, .aload_n ⟨2, zfin2⟩, 887, zx0),
  (887, .aload_n ⟨0, zfin0⟩, 888, zx0),
  (888, .iload_n ⟨3, zfin3⟩, 889, zx0),
  (889, .iconst 1, 890, zx0),
  (890, .iadd, 891, zx0),
  (891, .iaload, 892, zx0),
  (892, .aload_n ⟨0, zfin0⟩, 893, zx0),
  (893, .iload_n ⟨3, zfin3⟩, 894, zx0),
  (894, .iconst 2, 895, zx0),
  (895, .iadd, 896, zx0),
  (896, .iaload, 897, zx0),
  (897, .invokevirtual 75, 900, (208, 3, 0, [12])),
  (900, .pop, 901, zx0),
  (901, .goto (1257), 904, (2158, 0, 0, []))]
set_option maxRecDepth 100000 in
theorem sh_13 : zSeg zk_L_law sg_13 := zSeg_of 571 27 871 (by decide +kernel) rfl (by decide +kernel)
set_option maxRecDepth 100000 in
theorem qL_13 (hJ : qJ M) (hn : n ≤ 4096) (hi : 0 ≤ i ∧ i + 8 ≤ n) (K : ∀ M', qJ M' → zG n (114, 4080270) 300 311 (2158, [zR 0, zR 8, zR 97, .inl i], []) M' qLQ) : zG n (114, 4080270) 300 311 (871, [zR 0, zR 8, zR 97, .inl i], []) M qLQ := by
  have hz := zp_311
  have hg := sh_13
  refine zG_blk (c' := (876, [zR 0, zR 8, zR 97, .inl i], [.inl (i + 1), zR 0, zR 8])) 5 (by decide) hz (zsteps_seg hg (by rw [show (.inl (i + 1) : zV) = .inl (w32 (i + 1)) from by rw [w32_id (by omega)]]; rfl)) ?_
  refine zG_iald (by decide) hz (hg _ _ rfl) rfl (.inr rfl) (by omega) ?_
  obtain ⟨x1, hx1⟩ : ∃ x : Int, x = M 0 (i + 1).toNat := ⟨_, rfl⟩
  rw [← hx1]
  have hr1 : qin x1 := by rw [hx1]; exact hJ.1.rng 0 _ (by decide) (by decide)
  show zG n (114, 4080270) 300 311 (877, [zR 0, zR 8, zR 97, .inl i], [.inl x1, zR 8]) M _
  refine zG_blk (c' := (881, [zR 0, zR 8, zR 97, .inl i], [.inl (i + 2), zR 0, .inl x1, zR 8])) 4 (by decide) hz (zsteps_seg hg (by rw [show (.inl (i + 2) : zV) = .inl (w32 (i + 2)) from by rw [w32_id (by omega)]]; rfl)) ?_
  refine zG_iald (by decide) hz (hg _ _ rfl) rfl (.inr rfl) (by omega) ?_
  obtain ⟨x2, hx2⟩ : ∃ x : Int, x = M 0 (i + 2).toNat := ⟨_, rfl⟩
  rw [← hx2]
  have hr2 : qin x2 := by rw [hx2]; exact hJ.1.rng 0 _ (by decide) (by decide)
  show zG n (114, 4080270) 300 311 (882, [zR 0, zR 8, zR 97, .inl i], [.inl x2, .inl x1, zR 8]) M _
  refine zG_call (by decide) hz zp_136 (hg _ _ rfl) rfl (Nat.le_of_ble_eq_true rfl) ⟨Nat.le_of_ble_eq_true rfl, Nat.le_of_ble_eq_true rfl⟩ (zG.andH (qm_136_8 (by decide) hJ.1 x1 (by omega) x2 (by omega)) (fh_136_8 x1 x2)) (fun vr M1 hr => ?_)
  obtain ⟨⟨⟨hC1, hF1⟩, -⟩, rfl, hM1⟩ := hr
  have hi := hF1.hi rfl
  have hI := hJ.2.1.same hi
  have hc0 : ∀ j, M1 0 j = M 0 j := fun j => hF1 0 j (by decide)
  show zG n (114, 4080270) 300 311 (885, [zR 0, zR 8, zR 97, .inl i], [.inl (hf_136_8 M x1 x2).1]) M1 _
  refine zG_blk (c' := (891, [zR 0, zR 8, zR 97, .inl i], [.inl (i + 1), zR 0, zR 97])) 6 (by decide) hz (zsteps_seg hg (by rw [show (.inl (i + 1) : zV) = .inl (w32 (i + 1)) from by rw [w32_id (by omega)]]; rfl)) ?_
  refine zG_iald (by decide) hz (hg _ _ rfl) rfl (.inr rfl) (by omega) ?_
  rw [show M1 0 (i + 1).toNat = x1 from (hc0 _).trans hx1.symm]
  show zG n (114, 4080270) 300 311 (892, [zR 0, zR 8, zR 97, .inl i], [.inl x1, zR 97]) M1 _
  refine zG_blk (c' := (896, [zR 0, zR 8, zR 97, .inl i], [.inl (i + 2), zR 0, .inl x1, zR 97])) 4 (by decide) hz (zsteps_seg hg (by rw [show (.inl (i + 2) : zV) = .inl (w32 (i + 2)) from by rw [w32_id (by omega)]]; rfl)) ?_
  refine zG_iald (by decide) hz (hg _ _ rfl) rfl (.inr rfl) (by omega) ?_
  rw [show M1 0 (i + 2).toNat = x2 from (hc0 _).trans hx2.symm]
  show zG n (114, 4080270) 300 311 (897, [zR 0, zR 8, zR 97, .inl i], [.inl x2, .inl x1, zR 97]) M1 _
  refine zG_call (by decide) hz zp_208 (hg _ _ rfl) rfl (Nat.le_of_ble_eq_true rfl) ⟨Nat.le_of_ble_eq_true rfl, Nat.le_of_ble_eq_true rfl⟩ (zG.andH (qm_208_97 (by decide) hI x1 (by omega) x2 (by omega)) (fh_208_97 x1 x2)) (fun vr M2 hr => ?_)
  obtain ⟨⟨⟨hC2, hF2⟩, -⟩, rfl, hM2⟩ := hr
  have hm := hm_136 hJ.2.2.1 hJ.1.tb hJ.2.1.bd (a1 := x1) (a2 := x2)
  rw [← hM1] at hm
  rw [← hM2] at hm
  have hJ2 : qJ M2 := hJ.mut hC1 hF1 rfl rfl hC2 hF2 rfl (by decide) hm.2
  show zG n (114, 4080270) 300 311 (900, [zR 0, zR 8, zR 97, .inl i], [.inl (hf_208_97 M1 x1 x2).1]) M2 _
  refine zG_blk (c' := (2158, [zR 0, zR 8, zR 97, .inl i], [])) 2 (by decide) hz (zsteps_seg hg rfl) ?_
  exact K M2 hJ2
noncomputable def sg_14 : List zE := [(904, .aload_n ⟨1, zfin1⟩, 905, zx0),
  (905, .aload_n ⟨0, zfin0⟩, 906, zx0),
  (906, .iload_n ⟨3, zfin3⟩, 907, zx0),
  (907, .iconst 1, 908, zx0),
  (908, .iadd, 909, zx0),
  (909, .iaload, 910, zx0),
  (910, .invokevirtual 76, 913, (137, 2, 0, [11])),
  (913, .pop, 914, zx0),
  (914, .aload_n ⟨2, zfin2⟩, 915, zx0),
  (915, .aload_n ⟨0, zfin0⟩, 916, zx0),
  (916, .iload_n ⟨3, zfin3⟩, 917, zx0),
  (917, .iconst 1, 918, zx0),
  (918, .iadd, 919, zx0),
  (919, .iaload, 920, zx0),
  (920, .invokevirtual 79, 923, (209, 2, 0, [12])),
  (923, .pop, 924, zx0),
  (924, .goto (1234), 927, (2158, 0, 0, []))]
set_option maxRecDepth 100000 in
theorem sh_14 : zSeg zk_L_law sg_14 := zSeg_of 598 17 904 (by decide +kernel) rfl (by decide +kernel)
end LW
