section LW
variable {n : Nat} {M : zM} {i : Int}
set_option maxRecDepth 100000 in
theorem qL_14 (hJ : qJ M) (hn : n ≤ 4096) (hi : 0 ≤ i ∧ i + 8 ≤ n) (K : ∀ M', qJ M' → zG n (114, 4080270) 300 311 (2158, [zR 0, zR 8, zR 97, .inl i], []) M' qLQ) : zG n (114, 4080270) 300 311 (904, [zR 0, zR 8, zR 97, .inl i], []) M qLQ := by
  have hz := zp_311
  have hg := sh_14
  refine zG_blk (c' := (909, [zR 0, zR 8, zR 97, .inl i], [.inl (i + 1), zR 0, zR 8])) 5 (by decide) hz (zsteps_seg hg (by rw [show (.inl (i + 1) : zV) = .inl (w32 (i + 1)) from by rw [w32_id (by omega)]]; rfl)) ?_
  refine zG_iald (by decide) hz (hg _ _ rfl) rfl (.inr rfl) (by omega) ?_
  obtain ⟨x1, hx1⟩ : ∃ x : Int, x = M 0 (i + 1).toNat := ⟨_, rfl⟩
  rw [← hx1]
  have hr1 : qin x1 := by rw [hx1]; exact hJ.1.rng 0 _ (by decide) (by decide)
  show zG n (114, 4080270) 300 311 (910, [zR 0, zR 8, zR 97, .inl i], [.inl x1, zR 8]) M _
  refine zG_call (by decide) hz zp_137 (hg _ _ rfl) rfl (Nat.le_of_ble_eq_true rfl) ⟨Nat.le_of_ble_eq_true rfl, Nat.le_of_ble_eq_true rfl⟩ (zG.andH (qm_137_8 (by decide) hJ.1 x1 (by omega)) (fh_137_8 x1)) (fun vr M1 hr => ?_)
  obtain ⟨⟨⟨hC1, hF1⟩, -⟩, rfl, hM1⟩ := hr
  have hi := hF1.hi rfl
  have hI := hJ.2.1.same hi
  have hc0 : ∀ j, M1 0 j = M 0 j := fun j => hF1 0 j (by decide)
  show zG n (114, 4080270) 300 311 (913, [zR 0, zR 8, zR 97, .inl i], [.inl (hf_137_8 M x1).1]) M1 _
  refine zG_blk (c' := (919, [zR 0, zR 8, zR 97, .inl i], [.inl (i + 1), zR 0, zR 97])) 6 (by decide) hz (zsteps_seg hg (by rw [show (.inl (i + 1) : zV) = .inl (w32 (i + 1)) from by rw [w32_id (by omega)]]; rfl)) ?_
  refine zG_iald (by decide) hz (hg _ _ rfl) rfl (.inr rfl) (by omega) ?_
  rw [show M1 0 (i + 1).toNat = x1 from (hc0 _).trans hx1.symm]
  show zG n (114, 4080270) 300 311 (920, [zR 0, zR 8, zR 97, .inl i], [.inl x1, zR 97]) M1 _
  refine zG_call (by decide) hz zp_209 (hg _ _ rfl) rfl (Nat.le_of_ble_eq_true rfl) ⟨Nat.le_of_ble_eq_true rfl, Nat.le_of_ble_eq_true rfl⟩ (zG.andH (qm_209_97 (by decide) hI x1 (by omega)) (fh_209_97 x1)) (fun vr M2 hr => ?_)
  obtain ⟨⟨⟨hC2, hF2⟩, -⟩, rfl, hM2⟩ := hr
  have hm := hm_137 hJ.2.2.1 hJ.1.tb hJ.2.1.bd (a1 := x1)
  rw [← hM1] at hm
  rw [← hM2] at hm
  have hJ2 : qJ M2 := hJ.mut hC1 hF1 rfl rfl hC2 hF2 rfl (by decide) hm.2
  show zG n (114, 4080270) 300 311 (923, [zR 0, zR 8, zR 97, .inl i], [.inl (hf_209_97 M1 x1).1]) M2 _
  refine zG_blk (c' := (2158, [zR 0, zR 8, zR 97, .inl i], [])) 2 (by decide) hz (zsteps_seg hg rfl) ?_
  exact K M2 hJ2
noncomputable def sg_15 : List zE := [(927, .aload_n ⟨1, zfin1⟩, 928, zx0),
  (928, .aload_n ⟨0, zfin0⟩, 929, zx0),
  (929, .iload_n ⟨3, zfin3⟩, 930, zx0),
  (930, .iconst 1, 931, zx0),
  (931, .iadd, 932, zx0),
  (932, .iaload, 933, zx0),
  (933, .aload_n ⟨0, zfin0⟩, 934, zx0),
  (934, .iload_n ⟨3, zfin3⟩, 935, zx0),
  (935, .iconst 2, 936, zx0),
  (936, .iadd, 937, zx0),
  (937, .iaload, 938, zx0),
  (938, .invokevirtual 80, 941, (138, 3, 0, [11])),
  (941, .pop, 942, zx0),
  (942, .aload_n ⟨2, zfin2⟩, 943, zx0),
  (943, .aload_n ⟨0, zfin0⟩, 944, zx0),
  (944, .iload_n ⟨3, zfin3⟩, 945, zx0),
  (945, .iconst 1, 946, zx0),
  (946, .iadd, 947, zx0),
  (947, .iaload, 948, zx0),
  (948, .aload_n ⟨0, zfin0⟩, 949, zx0),
  (949, .iload_n ⟨3, zfin3⟩, 950, zx0),
  (950, .iconst 2, 951, zx0),
  (951, .iadd, 952, zx0),
  (952, .iaload, 953, zx0),
  (953, .invokevirtual 83, 956, (210, 3, 0, [12])),
  (956, .pop, 957, zx0),
  (957, .goto (1201), 960, (2158, 0, 0, []))]
set_option maxRecDepth 100000 in
theorem sh_15 : zSeg zk_L_law sg_15 := zSeg_of 615 27 927 (by decide +kernel) rfl (by decide +kernel)
set_option maxRecDepth 100000 in
theorem qL_15 (hJ : qJ M) (hn : n ≤ 4096) (hi : 0 ≤ i ∧ i + 8 ≤ n) (K : ∀ M', qJ M' → zG n (114, 4080270) 300 311 (2158, [zR 0, zR 8, zR 97, .inl i], []) M' qLQ) : zG n (114, 4080270) 300 311 (927, [zR 0, zR 8, zR 97, .inl i], []) M qLQ := by
  have hz := zp_311
  have hg := sh_15
  refine zG_blk (c' := (932, [zR 0, zR 8, zR 97, .inl i], [.inl (i + 1), zR 0, zR 8])) 5 (by decide) hz (zsteps_seg hg (by rw [show (.inl (i + 1) : zV) = .inl (w32 (i + 1)) from by rw [w32_id (by omega)]]; rfl)) ?_
  refine zG_iald (by decide) hz (hg _ _ rfl) rfl (.inr rfl) (by omega) ?_
  obtain ⟨x1, hx1⟩ : ∃ x : Int, x = M 0 (i + 1).toNat := ⟨_, rfl⟩
  rw [← hx1]
  have hr1 : qin x1 := by rw [hx1]; exact hJ.1.rng 0 _ (by decide) (by decide)
  show zG n (114, 4080270) 300 311 (933, [zR 0, zR 8, zR 97, .inl i], [.inl x1, zR 8]) M _
  refine zG_blk (c' := (937, [zR 0, zR 8, zR 97, .inl i], [.inl (i + 2), zR 0, .inl x1, zR 8])) 4 (by decide) hz (zsteps_seg hg (by rw [show (.inl (i + 2) : zV) = .inl (w32 (i + 2)) from by rw [w32_id (by omega)]]; rfl)) ?_
  refine zG_iald (by decide) hz (hg _ _ rfl) rfl (.inr rfl) (by omega) ?_
  obtain ⟨x2, hx2⟩ : ∃ x : Int, x = M 0 (i + 2).toNat := ⟨_, rfl⟩
  rw [← hx2]
  have hr2 : qin x2 := by rw [hx2]; exact hJ.1.rng 0 _ (by decide) (by decide)
  show zG n (114, 4080270) 300 311 (938, [zR 0, zR 8, zR 97, .inl i], [.inl x2, .inl x1, zR 8]) M _
  refine zG_call (by decide) hz zp_138 (hg _ _ rfl) rfl (Nat.le_of_ble_eq_true rfl) ⟨Nat.le_of_ble_eq_true rfl, Nat.le_of_ble_eq_true rfl⟩ (zG.andH (qm_138_8 (by decide) hJ.1 x1 (by omega) x2 (by omega)) (fh_138_8 x1 x2)) (fun vr M1 hr => ?_)
  obtain ⟨⟨hq, -⟩, rfl, -⟩ := hr
  replace hq := hq.symm; subst hq
  have hc0 : ∀ j, M 0 j = M 0 j := fun _ => rfl
  show zG n (114, 4080270) 300 311 (941, [zR 0, zR 8, zR 97, .inl i], [.inl (hf_138_8 M x1 x2)]) M _
  refine zG_blk (c' := (947, [zR 0, zR 8, zR 97, .inl i], [.inl (i + 1), zR 0, zR 97])) 6 (by decide) hz (zsteps_seg hg (by rw [show (.inl (i + 1) : zV) = .inl (w32 (i + 1)) from by rw [w32_id (by omega)]]; rfl)) ?_
  refine zG_iald (by decide) hz (hg _ _ rfl) rfl (.inr rfl) (by omega) ?_
  rw [show M 0 (i + 1).toNat = x1 from hx1.symm]
  show zG n (114, 4080270) 300 311 (948, [zR 0, zR 8, zR 97, .inl i], [.inl x1, zR 97]) M _
  refine zG_blk (c' := (952, [zR 0, zR 8, zR 97, .inl i], [.inl (i + 2), zR 0, .inl x1, zR 97])) 4 (by decide) hz (zsteps_seg hg (by rw [show (.inl (i + 2) : zV) = .inl (w32 (i + 2)) from by rw [w32_id (by omega)]]; rfl)) ?_
  refine zG_iald (by decide) hz (hg _ _ rfl) rfl (.inr rfl) (by omega) ?_
  rw [show M 0 (i + 2).toNat = x2 from hx2.symm]
  show zG n (114, 4080270) 300 311 (953, [zR 0, zR 8, zR 97, .inl i], [.inl x2, .inl x1, zR 97]) M _
  refine zG_call (by decide) hz zp_210 (hg _ _ rfl) rfl (Nat.le_of_ble_eq_true rfl) ⟨Nat.le_of_ble_eq_true rfl, Nat.le_of_ble_eq_true rfl⟩ (zG.andH (qm_210_97 (by decide) hJ.2.1 x1 (by omega) x2 (by omega)) (fh_210_97 x1 x2)) (fun vr M2 hr => ?_)
  obtain ⟨⟨hq, -⟩, rfl, -⟩ := hr
  replace hq := hq.symm; subst hq
  show zG n (114, 4080270) 300 311 (956, [zR 0, zR 8, zR 97, .inl i], [.inl (hf_210_97 M x1 x2)]) M _
  refine zG_blk (c' := (2158, [zR 0, zR 8, zR 97, .inl i], [])) 2 (by decide) hz (zsteps_seg hg rfl) ?_
  exact K M hJ
noncomputable def sg_16 : List zE := [(960, .aload_n ⟨1, zfin1⟩, 961, zx0),
  (961, .aload_n ⟨0, zfin0⟩, 962, zx0),
  (962, .iload_n ⟨3, zfin3⟩, 963, zx0),
  (963, .iconst 1, 964, zx0),
  (964, .iadd, 965, zx0),
  (965, .iaload, 966, zx0),
  (966, .aload_n ⟨0, zfin0⟩, 967, zx0),
  (967, .iload_n ⟨3, zfin3⟩, 968, zx0),
  (968, .iconst 2, 969, zx0),
  (969, .iadd, 970, zx0),
  (970, .iaload, 971, zx0),
  (971, .invokevirtual 84, 974, (139, 3, 0, [11])),
  (974, .pop, 975, zx0),
  (975, .aload_n ⟨2, zfin2⟩, 976, zx0),
  (976, .aload_n ⟨0, zfin0⟩, 977, zx0),
  (977, .iload_n ⟨3, zfin3⟩, 978, zx0),
  (978, .iconst 1, 979, zx0),
  (979, .iadd, 980, zx0),
  (980, .iaload, 981, zx0),
  (981, .aload_n ⟨0, zfin0⟩, 982, zx0),
  (982, .iload_n ⟨3, zfin3⟩, 983, zx0),
  (983, .iconst 2, 984, zx0),
  (984, .iadd, 985, zx0),
  (985, .iaload, 986, zx0),
  (986, .invokevirtual 87, 989, (212, 3, 0, [12])),
  (989, .pop, 990, zx0),
  (990, .goto (1168), 993, (2158, 0, 0, []))]
set_option maxRecDepth 100000 in
theorem sh_16 : zSeg zk_L_law sg_16 := zSeg_of 642 27 960 (by decide +kernel) rfl (by decide +kernel)
set_option maxRecDepth 100000 in
theorem qL_16 (hJ : qJ M) (hn : n ≤ 4096) (hi : 0 ≤ i ∧ i + 8 ≤ n) (K : ∀ M', qJ M' → zG n (114, 4080270) 300 311 (2158, [zR 0, zR 8, zR 97, .inl i], []) M' qLQ) : zG n (114, 4080270) 300 311 (960, [zR 0, zR 8, zR 97, .inl i], []) M qLQ := by
  have hz := zp_311
  have hg := sh_16
  refine zG_blk (c' := (965, [zR 0, zR 8, zR 97, .inl i], [.inl (i + 1), zR 0, zR 8])) 5 (by decide) hz (zsteps_seg hg (by rw [show (.inl (i + 1) : zV) = .inl (w32 (i + 1)) from by rw [w32_id (by omega)]]; rfl)) ?_
  refine zG_iald (by decide) hz (hg _ _ rfl) rfl (.inr rfl) (by omega) ?_
  obtain ⟨x1, hx1⟩ : ∃ x : Int, x = M 0 (i + 1).toNat := ⟨_, rfl⟩
  rw [← hx1]
  have hr1 : qin x1 := by rw [hx1]; exact hJ.1.rng 0 _ (by decide) (by decide)
  show zG n (114, 4080270) 300 311 (966, [zR 0, zR 8, zR 97, .inl i], [.inl x1, zR 8]) M _
  refine zG_blk (c' := (970, [zR 0, zR 8, zR 97, .inl i], [.inl (i + 2), zR 0, .inl x1, zR 8])) 4 (by decide) hz (zsteps_seg hg (by rw [show (.inl (i + 2) : zV) = .inl (w32 (i + 2)) from by rw [w32_id (by omega)]]; rfl)) ?_
  refine zG_iald (by decide) hz (hg _ _ rfl) rfl (.inr rfl) (by omega) ?_
  obtain ⟨x2, hx2⟩ : ∃ x : Int, x = M 0 (i + 2).toNat := ⟨_, rfl⟩
  rw [← hx2]
  have hr2 : qin x2 := by rw [hx2]; exact hJ.1.rng 0 _ (by decide) (by decide)
  show zG n (114, 4080270) 300 311 (971, [zR 0, zR 8, zR 97, .inl i], [.inl x2, .inl x1, zR 8]) M _
  refine zG_call (by decide) hz zp_139 (hg _ _ rfl) rfl (Nat.le_of_ble_eq_true rfl) ⟨Nat.le_of_ble_eq_true rfl, Nat.le_of_ble_eq_true rfl⟩ (qm_139_8 (by decide) hJ.1 x1 (by omega) x2 (by omega)) (fun vr M1 hr => ?_)
  obtain ⟨⟨hCM1, hFM1⟩, hr⟩ := hr
  have hJM1 : qJ M1 := hJ.cls hCM1 hFM1 rfl rfl
  have hc0 : ∀ j, M1 0 j = M 0 j := fun j => hFM1 0 j (by decide)
  obtain ⟨r1, rfl, -⟩ := hr
  show zG n (114, 4080270) 300 311 (974, [zR 0, zR 8, zR 97, .inl i], [.inl r1]) M1 _
  refine zG_blk (c' := (980, [zR 0, zR 8, zR 97, .inl i], [.inl (i + 1), zR 0, zR 97])) 6 (by decide) hz (zsteps_seg hg (by rw [show (.inl (i + 1) : zV) = .inl (w32 (i + 1)) from by rw [w32_id (by omega)]]; rfl)) ?_
  refine zG_iald (by decide) hz (hg _ _ rfl) rfl (.inr rfl) (by omega) ?_
  rw [show M1 0 (i + 1).toNat = x1 from (hc0 _).trans hx1.symm]
  show zG n (114, 4080270) 300 311 (981, [zR 0, zR 8, zR 97, .inl i], [.inl x1, zR 97]) M1 _
  refine zG_blk (c' := (985, [zR 0, zR 8, zR 97, .inl i], [.inl (i + 2), zR 0, .inl x1, zR 97])) 4 (by decide) hz (zsteps_seg hg (by rw [show (.inl (i + 2) : zV) = .inl (w32 (i + 2)) from by rw [w32_id (by omega)]]; rfl)) ?_
  refine zG_iald (by decide) hz (hg _ _ rfl) rfl (.inr rfl) (by omega) ?_
  rw [show M1 0 (i + 2).toNat = x2 from (hc0 _).trans hx2.symm]
  show zG n (114, 4080270) 300 311 (986, [zR 0, zR 8, zR 97, .inl i], [.inl x2, .inl x1, zR 97]) M1 _
  refine zG_call (by decide) hz zp_212 (hg _ _ rfl) rfl (Nat.le_of_ble_eq_true rfl) ⟨Nat.le_of_ble_eq_true rfl, Nat.le_of_ble_eq_true rfl⟩ (qm_212_97 (by decide) hJM1.2.1 x1 (by omega) x2 (by omega)) (fun vr M2 hr => ?_)
  obtain ⟨⟨hCM2, hFM2⟩, hr⟩ := hr
  have hJM2 : qJ M2 := hJM1.mdl hCM2 hFM2 rfl (by decide) (fun j _ _ _ _ => hFM2.ar 98 j (by decide) (by decide))
  obtain ⟨r2, hv9⟩ := hr
  first | (obtain ⟨rfl, -⟩ := hv9) | (obtain rfl := hv9)
  show zG n (114, 4080270) 300 311 (989, [zR 0, zR 8, zR 97, .inl i], [.inl r2]) M2 _
  refine zG_blk (c' := (2158, [zR 0, zR 8, zR 97, .inl i], [])) 2 (by decide) hz (zsteps_seg hg rfl) ?_
  exact K M2 hJM2
noncomputable def sg_17 : List zE := [(993, .aload_n ⟨1, zfin1⟩, 994, zx0),
  (994, .aload_n ⟨0, zfin0⟩, 995, zx0),
  (995, .iload_n ⟨3, zfin3⟩, 996, zx0),
  (996, .iconst 1, 997, zx0),
  (997, .iadd, 998, zx0),
  (998, .iaload, 999, zx0),
  (999, .aload_n ⟨0, zfin0⟩, 1000, zx0),
  (1000, .iload_n ⟨3, zfin3⟩, 1001, zx0),
  (1001, .iconst 2, 1002, zx0),
  (1002, .iadd, 1003, zx0),
  (1003, .iaload, 1004, zx0),
  (1004, .aload_n ⟨0, zfin0⟩, 1005, zx0),
  (1005, .iload_n ⟨3, zfin3⟩, 1006, zx0),
  (1006, .iconst 3, 1007, zx0),
  (1007, .iadd, 1008, zx0),
  (1008, .iaload, 1009, zx0),
  (1009, .invokevirtual 88, 1012, (140, 4, 0, [11])),
  (1012, .pop, 1013, zx0),
  (1013, .aload_n ⟨2, zfin2⟩, 1014, zx0),
  (1014, .aload_n ⟨0, zfin0⟩, 1015, zx0),
  (1015, .iload_n ⟨3, zfin3⟩, 1016, zx0),
  (1016, .iconst 1, 1017, zx0),
  (1017, .iadd, 1018, zx0),
  (1018, .iaload, 1019, zx0),
  (1019, .aload_n ⟨0, zfin0⟩, 1020, zx0),
  (1020, .iload_n ⟨3, zfin3⟩, 1021, zx0),
  (1021, .iconst 2, 1022, zx0),
  (1022, .iadd, 1023, zx0),
  (1023, .iaload, 1024, zx0),
  (1024, .aload_n ⟨0, zfin0⟩, 1025, zx0),
  (1025, .iload_n ⟨3, zfin3⟩, 1026, zx0),
  (1026, .iconst 3, 1027, zx0),
  (1027, .iadd, 1028, zx0),
  (1028, .iaload, 1029, zx0),
  (1029, .invokevirtual 91, 1032, (217, 4, 0, [12])),
  (1032, .pop, 1033, zx0),
  (1033, .goto (1125), 1036, (2158, 0, 0, []))]
set_option maxRecDepth 100000 in
theorem sh_17 : zSeg zk_L_law sg_17 := zSeg_of 669 37 993 (by decide +kernel) rfl (by decide +kernel)
set_option maxRecDepth 100000 in
theorem qL_17 (hJ : qJ M) (hn : n ≤ 4096) (hi : 0 ≤ i ∧ i + 8 ≤ n) (K : ∀ M', qJ M' → zG n (114, 4080270) 300 311 (2158, [zR 0, zR 8, zR 97, .inl i], []) M' qLQ) : zG n (114, 4080270) 300 311 (993, [zR 0, zR 8, zR 97, .inl i], []) M qLQ := by
  have hz := zp_311
  have hg := sh_17
  refine zG_blk (c' := (998, [zR 0, zR 8, zR 97, .inl i], [.inl (i + 1), zR 0, zR 8])) 5 (by decide) hz (zsteps_seg hg (by rw [show (.inl (i + 1) : zV) = .inl (w32 (i + 1)) from by rw [w32_id (by omega)]]; rfl)) ?_
  refine zG_iald (by decide) hz (hg _ _ rfl) rfl (.inr rfl) (by omega) ?_
  obtain ⟨x1, hx1⟩ : ∃ x : Int, x = M 0 (i + 1).toNat := ⟨_, rfl⟩
  rw [← hx1]
  have hr1 : qin x1 := by rw [hx1]; exact hJ.1.rng 0 _ (by decide) (by decide)
  show zG n (114, 4080270) 300 311 (999, [zR 0, zR 8, zR 97, .inl i], [.inl x1, zR 8]) M _
  refine zG_blk (c' := (1003, [zR 0, zR 8, zR 97, .inl i], [.inl (i + 2), zR 0, .inl x1, zR 8])) 4 (by decide) hz (zsteps_seg hg (by rw [show (.inl (i + 2) : zV) = .inl (w32 (i + 2)) from by rw [w32_id (by omega)]]; rfl)) ?_
  refine zG_iald (by decide) hz (hg _ _ rfl) rfl (.inr rfl) (by omega) ?_
  obtain ⟨x2, hx2⟩ : ∃ x : Int, x = M 0 (i + 2).toNat := ⟨_, rfl⟩
  rw [← hx2]
  have hr2 : qin x2 := by rw [hx2]; exact hJ.1.rng 0 _ (by decide) (by decide)
  show zG n (114, 4080270) 300 311 (1004, [zR 0, zR 8, zR 97, .inl i], [.inl x2, .inl x1, zR 8]) M _
  refine zG_blk (c' := (1008, [zR 0, zR 8, zR 97, .inl i], [.inl (i + 3), zR 0, .inl x2, .inl x1, zR 8])) 4 (by decide) hz (zsteps_seg hg (by rw [show (.inl (i + 3) : zV) = .inl (w32 (i + 3)) from by rw [w32_id (by omega)]]; rfl)) ?_
  refine zG_iald (by decide) hz (hg _ _ rfl) rfl (.inr rfl) (by omega) ?_
  obtain ⟨x3, hx3⟩ : ∃ x : Int, x = M 0 (i + 3).toNat := ⟨_, rfl⟩
  rw [← hx3]
  have hr3 : qin x3 := by rw [hx3]; exact hJ.1.rng 0 _ (by decide) (by decide)
  show zG n (114, 4080270) 300 311 (1009, [zR 0, zR 8, zR 97, .inl i], [.inl x3, .inl x2, .inl x1, zR 8]) M _
  refine zG_call (by decide) hz zp_140 (hg _ _ rfl) rfl (Nat.le_of_ble_eq_true rfl) ⟨Nat.le_of_ble_eq_true rfl, Nat.le_of_ble_eq_true rfl⟩ (qm_140_8 (by decide) hJ.1 x1 (by omega) x2 (by omega) x3 (by omega)) (fun vr M1 hr => ?_)
  obtain ⟨⟨hCM1, hFM1⟩, hr⟩ := hr
  have hJM1 : qJ M1 := hJ.cls hCM1 hFM1 rfl rfl
  have hc0 : ∀ j, M1 0 j = M 0 j := fun j => hFM1 0 j (by decide)
  obtain ⟨r1, rfl, -⟩ := hr
  show zG n (114, 4080270) 300 311 (1012, [zR 0, zR 8, zR 97, .inl i], [.inl r1]) M1 _
  refine zG_blk (c' := (1018, [zR 0, zR 8, zR 97, .inl i], [.inl (i + 1), zR 0, zR 97])) 6 (by decide) hz (zsteps_seg hg (by rw [show (.inl (i + 1) : zV) = .inl (w32 (i + 1)) from by rw [w32_id (by omega)]]; rfl)) ?_
  refine zG_iald (by decide) hz (hg _ _ rfl) rfl (.inr rfl) (by omega) ?_
  rw [show M1 0 (i + 1).toNat = x1 from (hc0 _).trans hx1.symm]
  show zG n (114, 4080270) 300 311 (1019, [zR 0, zR 8, zR 97, .inl i], [.inl x1, zR 97]) M1 _
  refine zG_blk (c' := (1023, [zR 0, zR 8, zR 97, .inl i], [.inl (i + 2), zR 0, .inl x1, zR 97])) 4 (by decide) hz (zsteps_seg hg (by rw [show (.inl (i + 2) : zV) = .inl (w32 (i + 2)) from by rw [w32_id (by omega)]]; rfl)) ?_
  refine zG_iald (by decide) hz (hg _ _ rfl) rfl (.inr rfl) (by omega) ?_
  rw [show M1 0 (i + 2).toNat = x2 from (hc0 _).trans hx2.symm]
  show zG n (114, 4080270) 300 311 (1024, [zR 0, zR 8, zR 97, .inl i], [.inl x2, .inl x1, zR 97]) M1 _
  refine zG_blk (c' := (1028, [zR 0, zR 8, zR 97, .inl i], [.inl (i + 3), zR 0, .inl x2, .inl x1, zR 97])) 4 (by decide) hz (zsteps_seg hg (by rw [show (.inl (i + 3) : zV) = .inl (w32 (i + 3)) from by rw [w32_id (by omega)]]; rfl)) ?_
  refine zG_iald (by decide) hz (hg _ _ rfl) rfl (.inr rfl) (by omega) ?_
  rw [show M1 0 (i + 3).toNat = x3 from (hc0 _).trans hx3.symm]
  show zG n (114, 4080270) 300 311 (1029, [zR 0, zR 8, zR 97, .inl i], [.inl x3, .inl x2, .inl x1, zR 97]) M1 _
  refine zG_call (by decide) hz zp_217 (hg _ _ rfl) rfl (Nat.le_of_ble_eq_true rfl) ⟨Nat.le_of_ble_eq_true rfl, Nat.le_of_ble_eq_true rfl⟩ (qm_217_97 (by decide) hJM1.2.1 x1 (by omega) x2 (by omega) x3 (by omega)) (fun vr M2 hr => ?_)
  obtain ⟨⟨hCM2, hFM2⟩, hr⟩ := hr
  have hJM2 : qJ M2 := hJM1.mdl hCM2 hFM2 rfl (by decide) (fun j _ _ _ _ => hFM2.ar 98 j (by decide) (by decide))
  obtain ⟨r2, hv9⟩ := hr
  first | (obtain ⟨rfl, -⟩ := hv9) | (obtain rfl := hv9)
  show zG n (114, 4080270) 300 311 (1032, [zR 0, zR 8, zR 97, .inl i], [.inl r2]) M2 _
  refine zG_blk (c' := (2158, [zR 0, zR 8, zR 97, .inl i], [])) 2 (by decide) hz (zsteps_seg hg rfl) ?_
  exact K M2 hJM2
noncomputable def sg_18 : List zE := [(1036, .aload_n ⟨1, zfin1⟩, 1037, zx0),
  (1037, .aload_n ⟨0, zfin0⟩, 1038, zx0),
  (1038, .iload_n ⟨3, zfin3⟩, 1039, zx0),
  (1039, .iconst 1, 1040, zx0),
  (1040, .iadd, 1041, zx0),
  (1041, .iaload, 1042, zx0),
  (1042, .aload_n ⟨0, zfin0⟩, 1043, zx0),
  (1043, .iload_n ⟨3, zfin3⟩, 1044, zx0),
  (1044, .iconst 2, 1045, zx0),
  (1045, .iadd, 1046, zx0),
  (1046, .iaload, 1047, zx0),
  (1047, .aload_n ⟨0, zfin0⟩, 1048, zx0),
  (1048, .iload_n ⟨3, zfin3⟩, 1049, zx0),
  (1049, .iconst 3, 1050, zx0),
  (1050, .iadd, 1051, zx0),
  (1051, .iaload, 1052, zx0),
  (1052, .aload_n ⟨0, zfin0⟩, 1053, zx0),
  (1053, .iload_n ⟨3, zfin3⟩, 1054, zx0),
  (1054, .iconst 4, 1055, zx0),
  (1055, .iadd, 1056, zx0),
  (1056, .iaload, 1057, zx0),
  (1057, .invokevirtual 92, 1060, (141, 5, 0, [11])),
  (1060, .pop, 1061, zx0),
  (1061, .aload_n ⟨2, zfin2⟩, 1062, zx0),
  (1062, .aload_n ⟨0, zfin0⟩, 1063, zx0),
  (1063, .iload_n ⟨3, zfin3⟩, 1064, zx0),
  (1064, .iconst 1, 1065, zx0),
  (1065, .iadd, 1066, zx0),
  (1066, .iaload, 1067, zx0),
  (1067, .aload_n ⟨0, zfin0⟩, 1068, zx0),
  (1068, .iload_n ⟨3, zfin3⟩, 1069, zx0),
  (1069, .iconst 2, 1070, zx0),
  (1070, .iadd, 1071, zx0),
  (1071, .iaload, 1072, zx0),
  (1072, .aload_n ⟨0, zfin0⟩, 1073, zx0),
  (1073, .iload_n ⟨3, zfin3⟩, 1074, zx0),
  (1074, .iconst 3, 1075, zx0),
  (1075, .iadd, 1076, zx0),
  (1076, .iaload, 1077, zx0),
  (1077, .aload_n ⟨0, zfin0⟩, 1078, zx0),
  (1078, .iload_n ⟨3, zfin3⟩, 1079, zx0),
  (1079, .iconst 4, 1080, zx0),
  (1080, .iadd, 1081, zx0),
  (1081, .iaload, 1082, zx0),
  (1082, .invokevirtual 95, 1085, (219, 5, 0, [12])),
  (1085, .pop, 1086, zx0),
  (1086, .goto (1072), 1089, (2158, 0, 0, []))]
set_option maxRecDepth 100000 in
theorem sh_18 : zSeg zk_L_law sg_18 := zSeg_of 706 47 1036 (by decide +kernel) rfl (by decide +kernel)
set_option maxRecDepth 100000 in
theorem qL_18 (hJ : qJ M) (hn : n ≤ 4096) (hi : 0 ≤ i ∧ i + 8 ≤ n) (K : ∀ M', qJ M' → zG n (114, 4080270) 300 311 (2158, [zR 0, zR 8, zR 97, .inl i], []) M' qLQ) : zG n (114, 4080270) 300 311 (1036, [zR 0, zR 8, zR 97, .inl i], []) M qLQ := by
  have hz := zp_311
  have hg := sh_18
  refine zG_blk (c' := (1041, [zR 0, zR 8, zR 97, .inl i], [.inl (i + 1), zR 0, zR 8])) 5 (by decide) hz (zsteps_seg hg (by rw [show (.inl (i + 1) : zV) = .inl (w32 (i + 1)) from by rw [w32_id (by omega)]]; rfl)) ?_
  refine zG_iald (by decide) hz (hg _ _ rfl) rfl (.inr rfl) (by omega) ?_
  obtain ⟨x1, hx1⟩ : ∃ x : Int, x = M 0 (i + 1).toNat := ⟨_, rfl⟩
  rw [← hx1]
  have hr1 : qin x1 := by rw [hx1]; exact hJ.1.rng 0 _ (by decide) (by decide)
  show zG n (114, 4080270) 300 311 (1042, [zR 0, zR 8, zR 97, .inl i], [.inl x1, zR 8]) M _
  refine zG_blk (c' := (1046, [zR 0, zR 8, zR 97, .inl i], [.inl (i + 2), zR 0, .inl x1, zR 8])) 4 (by decide) hz (zsteps_seg hg (by rw [show (.inl (i + 2) : zV) = .inl (w32 (i + 2)) from by rw [w32_id (by omega)]]; rfl)) ?_
  refine zG_iald (by decide) hz (hg _ _ rfl) rfl (.inr rfl) (by omega) ?_
  obtain ⟨x2, hx2⟩ : ∃ x : Int, x = M 0 (i + 2).toNat := ⟨_, rfl⟩
  rw [← hx2]
  have hr2 : qin x2 := by rw [hx2]; exact hJ.1.rng 0 _ (by decide) (by decide)
  show zG n (114, 4080270) 300 311 (1047, [zR 0, zR 8, zR 97, .inl i], [.inl x2, .inl x1, zR 8]) M _
  refine zG_blk (c' := (1051, [zR 0, zR 8, zR 97, .inl i], [.inl (i + 3), zR 0, .inl x2, .inl x1, zR 8])) 4 (by decide) hz (zsteps_seg hg (by rw [show (.inl (i + 3) : zV) = .inl (w32 (i + 3)) from by rw [w32_id (by omega)]]; rfl)) ?_
  refine zG_iald (by decide) hz (hg _ _ rfl) rfl (.inr rfl) (by omega) ?_
  obtain ⟨x3, hx3⟩ : ∃ x : Int, x = M 0 (i + 3).toNat := ⟨_, rfl⟩
  rw [← hx3]
  have hr3 : qin x3 := by rw [hx3]; exact hJ.1.rng 0 _ (by decide) (by decide)
  show zG n (114, 4080270) 300 311 (1052, [zR 0, zR 8, zR 97, .inl i], [.inl x3, .inl x2, .inl x1, zR 8]) M _
  refine zG_blk (c' := (1056, [zR 0, zR 8, zR 97, .inl i], [.inl (i + 4), zR 0, .inl x3, .inl x2, .inl x1, zR 8])) 4 (by decide) hz (zsteps_seg hg (by rw [show (.inl (i + 4) : zV) = .inl (w32 (i + 4)) from by rw [w32_id (by omega)]]; rfl)) ?_
  refine zG_iald (by decide) hz (hg _ _ rfl) rfl (.inr rfl) (by omega) ?_
  obtain ⟨x4, hx4⟩ : ∃ x : Int, x = M 0 (i + 4).toNat := ⟨_, rfl⟩
  rw [← hx4]
  have hr4 : qin x4 := by rw [hx4]; exact hJ.1.rng 0 _ (by decide) (by decide)
  show zG n (114, 4080270) 300 311 (1057, [zR 0, zR 8, zR 97, .inl i], [.inl x4, .inl x3, .inl x2, .inl x1, zR 8]) M _
  refine zG_call (by decide) hz zp_141 (hg _ _ rfl) rfl (Nat.le_of_ble_eq_true rfl) ⟨Nat.le_of_ble_eq_true rfl, Nat.le_of_ble_eq_true rfl⟩ (qm_141_8 (by decide) hJ.1 x1 (by omega) x2 (by omega) x3 (by omega) x4 (by omega)) (fun vr M1 hr => ?_)
  obtain ⟨⟨hCM1, hFM1⟩, hr⟩ := hr
  have hJM1 : qJ M1 := hJ.cls hCM1 hFM1 rfl rfl
  have hc0 : ∀ j, M1 0 j = M 0 j := fun j => hFM1 0 j (by decide)
  obtain ⟨r1, rfl, -⟩ := hr
  show zG n (114, 4080270) 300 311 (1060, [zR 0, zR 8, zR 97, .inl i], [.inl r1]) M1 _
  refine zG_blk (c' := (1066, [zR 0, zR 8, zR 97, .inl i], [.inl (i + 1), zR 0, zR 97])) 6 (by decide) hz (zsteps_seg hg (by rw [show (.inl (i + 1) : zV) = .inl (w32 (i + 1)) from by rw [w32_id (by omega)]]; rfl)) ?_
  refine zG_iald (by decide) hz (hg _ _ rfl) rfl (.inr rfl) (by omega) ?_
  rw [show M1 0 (i + 1).toNat = x1 from (hc0 _).trans hx1.symm]
  show zG n (114, 4080270) 300 311 (1067, [zR 0, zR 8, zR 97, .inl i], [.inl x1, zR 97]) M1 _
  refine zG_blk (c' := (1071, [zR 0, zR 8, zR 97, .inl i], [.inl (i + 2), zR 0, .inl x1, zR 97])) 4 (by decide) hz (zsteps_seg hg (by rw [show (.inl (i + 2) : zV) = .inl (w32 (i + 2)) from by rw [w32_id (by omega)]]; rfl)) ?_
  refine zG_iald (by decide) hz (hg _ _ rfl) rfl (.inr rfl) (by omega) ?_
  rw [show M1 0 (i + 2).toNat = x2 from (hc0 _).trans hx2.symm]
  show zG n (114, 4080270) 300 311 (1072, [zR 0, zR 8, zR 97, .inl i], [.inl x2, .inl x1, zR 97]) M1 _
  refine zG_blk (c' := (1076, [zR 0, zR 8, zR 97, .inl i], [.inl (i + 3), zR 0, .inl x2, .inl x1, zR 97])) 4 (by decide) hz (zsteps_seg hg (by rw [show (.inl (i + 3) : zV) = .inl (w32 (i + 3)) from by rw [w32_id (by omega)]]; rfl)) ?_
  refine zG_iald (by decide) hz (hg _ _ rfl) rfl (.inr rfl) (by omega) ?_
  rw [show M1 0 (i + 3).toNat = x3 from (hc0 _).trans hx3.symm]
  show zG n (114, 4080270) 300 311 (1077, [zR 0, zR 8, zR 97, .inl i], [.inl x3, .inl x2, .inl x1, zR 97]) M1 _
  refine zG_blk (c' := (1081, [zR 0, zR 8, zR 97, .inl i], [.inl (i + 4), zR 0, .inl x3, .inl x2, .inl x1, zR 97])) 4 (by decide) hz (zsteps_seg hg (by rw [show (.inl (i + 4) : zV) = .inl (w32 (i + 4)) from by rw [w32_id (by omega)]]; rfl)) ?_
  refine zG_iald (by decide) hz (hg _ _ rfl) rfl (.inr rfl) (by omega) ?_
  rw [show M1 0 (i + 4).toNat = x4 from (hc0 _).trans hx4.symm]
  show zG n (114, 4080270) 300 311 (1082, [zR 0, zR 8, zR 97, .inl i], [.inl x4, .inl x3, .inl x2, .inl x1, zR 97]) M1 _
  refine zG_call (by decide) hz zp_219 (hg _ _ rfl) rfl (Nat.le_of_ble_eq_true rfl) ⟨Nat.le_of_ble_eq_true rfl, Nat.le_of_ble_eq_true rfl⟩ (qm_219_97 (by decide) hJM1.2.1 x1 (by omega) x2 (by omega) x3 (by omega) x4 (by omega)) (fun vr M2 hr => ?_)
  obtain ⟨⟨hCM2, hFM2⟩, hr⟩ := hr
  have hJM2 : qJ M2 := hJM1.mdl hCM2 hFM2 rfl (by decide) (fun j _ _ _ _ => hFM2.ar 98 j (by decide) (by decide))
  obtain ⟨r2, hv9⟩ := hr
  first | (obtain ⟨rfl, -⟩ := hv9) | (obtain rfl := hv9)
  show zG n (114, 4080270) 300 311 (1085, [zR 0, zR 8, zR 97, .inl i], [.inl r2]) M2 _
  refine zG_blk (c' := (2158, [zR 0, zR 8, zR 97, .inl i], [])) 2 (by decide) hz (zsteps_seg hg rfl) ?_
  exact K M2 hJM2
noncomputable def sg_19 : List zE := [(1089, .aload_n ⟨1, zfin1⟩, 1090, zx0),
  (1090, .aload_n ⟨0, zfin0⟩, 1091, zx0),
  (1091, .iload_n ⟨3, zfin3⟩, 1092, zx0),
  (1092, .iconst 1, 1093, zx0),
  (1093, .iadd, 1094, zx0),
  (1094, .iaload, 1095, zx0),
  (1095, .aload_n ⟨0, zfin0⟩, 1096, zx0),
  (1096, .iload_n ⟨3, zfin3⟩, 1097, zx0),
  (1097, .iconst 2, 1098, zx0),
  (1098, .iadd, 1099, zx0),
  (1099, .iaload, 1100, zx0),
  (1100, .aload_n ⟨0, zfin0⟩, 1101, zx0),
  (1101, .iload_n ⟨3, zfin3⟩, 1102, zx0),
  (1102, .iconst 3, 1103, zx0),
  (1103, .iadd, 1104, zx0),
  (1104, .iaload, 1105, zx0),
  (1105, .invokevirtual 96, 1108, (142, 4, 0, [11])),
  (1108, .pop, 1109, zx0),
  (1109, .aload_n ⟨2, zfin2⟩, 1110, zx0),
  (1110, .aload_n ⟨0, zfin0⟩, 1111, zx0),
  (1111, .iload_n ⟨3, zfin3⟩, 1112, zx0),
  (1112, .iconst 1, 1113, zx0),
  (1113, .iadd, 1114, zx0),
  (1114, .iaload, 1115, zx0),
  (1115, .aload_n ⟨0, zfin0⟩, 1116, zx0),
  (1116, .iload_n ⟨3, zfin3⟩, 1117, zx0),
  (1117, .iconst 2, 1118, zx0),
  (1118, .iadd, 1119, zx0),
  (1119, .iaload, 1120, zx0),
  (1120, .aload_n ⟨0, zfin0⟩, 1121, zx0),
  (1121, .iload_n ⟨3, zfin3⟩, 1122, zx0),
  (1122, .iconst 3, 1123, zx0),
  (1123, .iadd, 1124, zx0),
  (1124, .iaload, 1125, zx0),
  (1125, .invokevirtual 99, 1128, (246, 4, 0, [12])),
  (1128, .pop, 1129, zx0),
  (1129, .goto (1029), 1132, (2158, 0, 0, []))]
set_option maxRecDepth 100000 in
theorem sh_19 : zSeg zk_L_law sg_19 := zSeg_of 753 37 1089 (by decide +kernel) rfl (by decide +kernel)
end LW
