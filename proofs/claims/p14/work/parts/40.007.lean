section LW
variable {n : Nat} {M : zM} {i : Int}
set_option maxRecDepth 100000 in
theorem qL_24 (hJ : qJ M) (hn : n ≤ 4096) (hi : 0 ≤ i ∧ i + 8 ≤ n) (K : ∀ M', qJ M' → zG n (114, 4080270) 300 311 (2158, [zR 0, zR 8, zR 97, .inl i], []) M' qLQ) : zG n (114, 4080270) 300 311 (1314, [zR 0, zR 8, zR 97, .inl i], []) M qLQ := by
  have hz := zp_311
  have hg := sh_24
  refine zG_blk (c' := (1319, [zR 0, zR 8, zR 97, .inl i], [.inl (i + 1), zR 0, zR 8])) 5 (by decide) hz (zsteps_seg hg (by rw [show (.inl (i + 1) : zV) = .inl (w32 (i + 1)) from by rw [w32_id (by omega)]]; rfl)) ?_
  refine zG_iald (by decide) hz (hg _ _ rfl) rfl (.inr rfl) (by omega) ?_
  obtain ⟨x1, hx1⟩ : ∃ x : Int, x = M 0 (i + 1).toNat := ⟨_, rfl⟩
  rw [← hx1]
  have hr1 : qin x1 := by rw [hx1]; exact hJ.1.rng 0 _ (by decide) (by decide)
  show zG n (114, 4080270) 300 311 (1320, [zR 0, zR 8, zR 97, .inl i], [.inl x1, zR 8]) M _
  refine zG_blk (c' := (1324, [zR 0, zR 8, zR 97, .inl i], [.inl (i + 2), zR 0, .inl x1, zR 8])) 4 (by decide) hz (zsteps_seg hg (by rw [show (.inl (i + 2) : zV) = .inl (w32 (i + 2)) from by rw [w32_id (by omega)]]; rfl)) ?_
  refine zG_iald (by decide) hz (hg _ _ rfl) rfl (.inr rfl) (by omega) ?_
  obtain ⟨x2, hx2⟩ : ∃ x : Int, x = M 0 (i + 2).toNat := ⟨_, rfl⟩
  rw [← hx2]
  have hr2 : qin x2 := by rw [hx2]; exact hJ.1.rng 0 _ (by decide) (by decide)
  show zG n (114, 4080270) 300 311 (1325, [zR 0, zR 8, zR 97, .inl i], [.inl x2, .inl x1, zR 8]) M _
  refine zG_blk (c' := (1329, [zR 0, zR 8, zR 97, .inl i], [.inl (i + 3), zR 0, .inl x2, .inl x1, zR 8])) 4 (by decide) hz (zsteps_seg hg (by rw [show (.inl (i + 3) : zV) = .inl (w32 (i + 3)) from by rw [w32_id (by omega)]]; rfl)) ?_
  refine zG_iald (by decide) hz (hg _ _ rfl) rfl (.inr rfl) (by omega) ?_
  obtain ⟨x3, hx3⟩ : ∃ x : Int, x = M 0 (i + 3).toNat := ⟨_, rfl⟩
  rw [← hx3]
  have hr3 : qin x3 := by rw [hx3]; exact hJ.1.rng 0 _ (by decide) (by decide)
  show zG n (114, 4080270) 300 311 (1330, [zR 0, zR 8, zR 97, .inl i], [.inl x3, .inl x2, .inl x1, zR 8]) M _
  refine zG_call (by decide) hz zp_147 (hg _ _ rfl) rfl (Nat.le_of_ble_eq_true rfl) ⟨Nat.le_of_ble_eq_true rfl, Nat.le_of_ble_eq_true rfl⟩ (qm_147_8 (by decide) hJ.1 x1 (by omega) x2 (by omega) x3 (by omega)) (fun vr M1 hr => ?_)
  obtain ⟨⟨hCM1, hFM1⟩, hr⟩ := hr
  have hJM1 : qJ M1 := hJ.cls hCM1 hFM1 rfl rfl
  have hc0 : ∀ j, M1 0 j = M 0 j := fun j => hFM1 0 j (by decide)
  obtain ⟨r1, rfl, -⟩ := hr
  show zG n (114, 4080270) 300 311 (1333, [zR 0, zR 8, zR 97, .inl i], [.inl r1]) M1 _
  refine zG_blk (c' := (1339, [zR 0, zR 8, zR 97, .inl i], [.inl (i + 1), zR 0, zR 97])) 6 (by decide) hz (zsteps_seg hg (by rw [show (.inl (i + 1) : zV) = .inl (w32 (i + 1)) from by rw [w32_id (by omega)]]; rfl)) ?_
  refine zG_iald (by decide) hz (hg _ _ rfl) rfl (.inr rfl) (by omega) ?_
  rw [show M1 0 (i + 1).toNat = x1 from (hc0 _).trans hx1.symm]
  show zG n (114, 4080270) 300 311 (1340, [zR 0, zR 8, zR 97, .inl i], [.inl x1, zR 97]) M1 _
  refine zG_blk (c' := (1344, [zR 0, zR 8, zR 97, .inl i], [.inl (i + 2), zR 0, .inl x1, zR 97])) 4 (by decide) hz (zsteps_seg hg (by rw [show (.inl (i + 2) : zV) = .inl (w32 (i + 2)) from by rw [w32_id (by omega)]]; rfl)) ?_
  refine zG_iald (by decide) hz (hg _ _ rfl) rfl (.inr rfl) (by omega) ?_
  rw [show M1 0 (i + 2).toNat = x2 from (hc0 _).trans hx2.symm]
  show zG n (114, 4080270) 300 311 (1345, [zR 0, zR 8, zR 97, .inl i], [.inl x2, .inl x1, zR 97]) M1 _
  refine zG_blk (c' := (1349, [zR 0, zR 8, zR 97, .inl i], [.inl (i + 3), zR 0, .inl x2, .inl x1, zR 97])) 4 (by decide) hz (zsteps_seg hg (by rw [show (.inl (i + 3) : zV) = .inl (w32 (i + 3)) from by rw [w32_id (by omega)]]; rfl)) ?_
  refine zG_iald (by decide) hz (hg _ _ rfl) rfl (.inr rfl) (by omega) ?_
  rw [show M1 0 (i + 3).toNat = x3 from (hc0 _).trans hx3.symm]
  show zG n (114, 4080270) 300 311 (1350, [zR 0, zR 8, zR 97, .inl i], [.inl x3, .inl x2, .inl x1, zR 97]) M1 _
  refine zG_call (by decide) hz zp_251 (hg _ _ rfl) rfl (Nat.le_of_ble_eq_true rfl) ⟨Nat.le_of_ble_eq_true rfl, Nat.le_of_ble_eq_true rfl⟩ (qn_251_97 (by decide) hJM1.2.1 x1 (by omega) x2 (by omega) x3 (by omega)) (fun vr M2 hr => ?_)
  obtain ⟨⟨hCM2, hFM2⟩, hr⟩ := hr
  have h9 : ∀ j, M2 98 j = M1 98 j := by
    obtain ⟨x9, -, -, h8, h9⟩ := hr
    intro j
    by_cases hj : (j : Int) = 154 + 5 * x1
    · rw [show j = (154 + 5 * x1).toNat by omega]; exact h8
    · exact h9 j hj
  have hJM2 : qJ M2 := hJM1.mdl hCM2 hFM2 rfl (by decide) (fun j _ _ _ _ => h9 j)
  obtain ⟨r2, hv9⟩ := hr
  first | (obtain ⟨rfl, -⟩ := hv9) | (obtain rfl := hv9)
  show zG n (114, 4080270) 300 311 (1353, [zR 0, zR 8, zR 97, .inl i], [.inl r2]) M2 _
  refine zG_blk (c' := (2158, [zR 0, zR 8, zR 97, .inl i], [])) 2 (by decide) hz (zsteps_seg hg rfl) ?_
  exact K M2 hJM2
noncomputable def sg_25 : List zE := [(1357, .aload_n ⟨1, zfin1⟩, 1358, zx0),
  (1358, .aload_n ⟨0, zfin0⟩, 1359, zx0),
  (1359, .iload_n ⟨3, zfin3⟩, 1360, zx0),
  (1360, .iconst 1, 1361, zx0),
  (1361, .iadd, 1362, zx0),
  (1362, .iaload, 1363, zx0),
  (1363, .aload_n ⟨0, zfin0⟩, 1364, zx0),
  (1364, .iload_n ⟨3, zfin3⟩, 1365, zx0),
  (1365, .iconst 2, 1366, zx0),
  (1366, .iadd, 1367, zx0),
  (1367, .iaload, 1368, zx0),
  (1368, .invokevirtual 121, 1371, (148, 3, 0, [11])),
  (1371, .pop, 1372, zx0),
  (1372, .aload_n ⟨2, zfin2⟩, 1373, zx0),
  (1373, .aload_n ⟨0, zfin0⟩, 1374, zx0),
  (1374, .iload_n ⟨3, zfin3⟩, 1375, zx0),
  (1375, .iconst 1, 1376, zx0),
  (1376, .iadd, 1377, zx0),
  (1377, .iaload, 1378, zx0),
  (1378, .aload_n ⟨0, zfin0⟩, 1379, zx0),
  (1379, .iload_n ⟨3, zfin3⟩, 1380, zx0),
  (1380, .iconst 2, 1381, zx0),
  (1381, .iadd, 1382, zx0),
  (1382, .iaload, 1383, zx0),
  (1383, .invokevirtual 124, 1386, (253, 3, 0, [12])),
  (1386, .pop, 1387, zx0),
  (1387, .goto (771), 1390, (2158, 0, 0, []))]
set_option maxRecDepth 100000 in
theorem sh_25 : zSeg zk_L_law sg_25 := zSeg_of 985 27 1357 (by decide +kernel) rfl (by decide +kernel)
set_option maxRecDepth 100000 in
theorem qL_25 (hJ : qJ M) (hn : n ≤ 4096) (hi : 0 ≤ i ∧ i + 8 ≤ n) (K : ∀ M', qJ M' → zG n (114, 4080270) 300 311 (2158, [zR 0, zR 8, zR 97, .inl i], []) M' qLQ) : zG n (114, 4080270) 300 311 (1357, [zR 0, zR 8, zR 97, .inl i], []) M qLQ := by
  have hz := zp_311
  have hg := sh_25
  refine zG_blk (c' := (1362, [zR 0, zR 8, zR 97, .inl i], [.inl (i + 1), zR 0, zR 8])) 5 (by decide) hz (zsteps_seg hg (by rw [show (.inl (i + 1) : zV) = .inl (w32 (i + 1)) from by rw [w32_id (by omega)]]; rfl)) ?_
  refine zG_iald (by decide) hz (hg _ _ rfl) rfl (.inr rfl) (by omega) ?_
  obtain ⟨x1, hx1⟩ : ∃ x : Int, x = M 0 (i + 1).toNat := ⟨_, rfl⟩
  rw [← hx1]
  have hr1 : qin x1 := by rw [hx1]; exact hJ.1.rng 0 _ (by decide) (by decide)
  show zG n (114, 4080270) 300 311 (1363, [zR 0, zR 8, zR 97, .inl i], [.inl x1, zR 8]) M _
  refine zG_blk (c' := (1367, [zR 0, zR 8, zR 97, .inl i], [.inl (i + 2), zR 0, .inl x1, zR 8])) 4 (by decide) hz (zsteps_seg hg (by rw [show (.inl (i + 2) : zV) = .inl (w32 (i + 2)) from by rw [w32_id (by omega)]]; rfl)) ?_
  refine zG_iald (by decide) hz (hg _ _ rfl) rfl (.inr rfl) (by omega) ?_
  obtain ⟨x2, hx2⟩ : ∃ x : Int, x = M 0 (i + 2).toNat := ⟨_, rfl⟩
  rw [← hx2]
  have hr2 : qin x2 := by rw [hx2]; exact hJ.1.rng 0 _ (by decide) (by decide)
  show zG n (114, 4080270) 300 311 (1368, [zR 0, zR 8, zR 97, .inl i], [.inl x2, .inl x1, zR 8]) M _
  refine zG_call (by decide) hz zp_148 (hg _ _ rfl) rfl (Nat.le_of_ble_eq_true rfl) ⟨Nat.le_of_ble_eq_true rfl, Nat.le_of_ble_eq_true rfl⟩ (zG.andH (qm_148_8 (by decide) hJ.1 x1 (by omega) x2 (by omega)) (fh_148_8 x1 x2)) (fun vr M1 hr => ?_)
  obtain ⟨⟨⟨hC1, hF1⟩, -⟩, rfl, hM1⟩ := hr
  have hi := hF1.hi rfl
  have hI := hJ.2.1.same hi
  have hc0 : ∀ j, M1 0 j = M 0 j := fun j => hF1 0 j (by decide)
  show zG n (114, 4080270) 300 311 (1371, [zR 0, zR 8, zR 97, .inl i], [.inl (hf_148_8 M x1 x2).1]) M1 _
  refine zG_blk (c' := (1377, [zR 0, zR 8, zR 97, .inl i], [.inl (i + 1), zR 0, zR 97])) 6 (by decide) hz (zsteps_seg hg (by rw [show (.inl (i + 1) : zV) = .inl (w32 (i + 1)) from by rw [w32_id (by omega)]]; rfl)) ?_
  refine zG_iald (by decide) hz (hg _ _ rfl) rfl (.inr rfl) (by omega) ?_
  rw [show M1 0 (i + 1).toNat = x1 from (hc0 _).trans hx1.symm]
  show zG n (114, 4080270) 300 311 (1378, [zR 0, zR 8, zR 97, .inl i], [.inl x1, zR 97]) M1 _
  refine zG_blk (c' := (1382, [zR 0, zR 8, zR 97, .inl i], [.inl (i + 2), zR 0, .inl x1, zR 97])) 4 (by decide) hz (zsteps_seg hg (by rw [show (.inl (i + 2) : zV) = .inl (w32 (i + 2)) from by rw [w32_id (by omega)]]; rfl)) ?_
  refine zG_iald (by decide) hz (hg _ _ rfl) rfl (.inr rfl) (by omega) ?_
  rw [show M1 0 (i + 2).toNat = x2 from (hc0 _).trans hx2.symm]
  show zG n (114, 4080270) 300 311 (1383, [zR 0, zR 8, zR 97, .inl i], [.inl x2, .inl x1, zR 97]) M1 _
  refine zG_call (by decide) hz zp_253 (hg _ _ rfl) rfl (Nat.le_of_ble_eq_true rfl) ⟨Nat.le_of_ble_eq_true rfl, Nat.le_of_ble_eq_true rfl⟩ (zG.andH (qm_253_97 (by decide) hI x1 (by omega) x2 (by omega)) (fh_253_97 x1 x2)) (fun vr M2 hr => ?_)
  obtain ⟨⟨⟨hC2, hF2⟩, -⟩, rfl, hM2⟩ := hr
  have hm := hm_148 hJ.2.2.1 hJ.1.tb hJ.2.1.bd (a1 := x1) (a2 := x2) hJ.2.1.tl
  rw [← hM1] at hm
  rw [← hM2] at hm
  have hJ2 : qJ M2 := hJ.mut hC1 hF1 rfl rfl hC2 hF2 rfl (by decide) hm.2
  show zG n (114, 4080270) 300 311 (1386, [zR 0, zR 8, zR 97, .inl i], [.inl (hf_253_97 M1 x1 x2).1]) M2 _
  refine zG_blk (c' := (2158, [zR 0, zR 8, zR 97, .inl i], [])) 2 (by decide) hz (zsteps_seg hg rfl) ?_
  exact K M2 hJ2
noncomputable def sg_26 : List zE := [(1390, .aload_n ⟨1, zfin1⟩, 1391, zx0),
  (1391, .aload_n ⟨0, zfin0⟩, 1392, zx0),
  (1392, .iload_n ⟨3, zfin3⟩, 1393, zx0),
  (1393, .iconst 1, 1394, zx0),
  (1394, .iadd, 1395, zx0),
  (1395, .iaload, 1396, zx0),
  (1396, .invokevirtual 125, 1399, (149, 2, 0, [11])),
  (1399, .pop, 1400, zx0),
  (1400, .aload_n ⟨2, zfin2⟩, 1401, zx0),
  (1401, .aload_n ⟨0, zfin0⟩, 1402, zx0),
  (1402, .iload_n ⟨3, zfin3⟩, 1403, zx0),
  (1403, .iconst 1, 1404, zx0),
  (1404, .iadd, 1405, zx0),
  (1405, .iaload, 1406, zx0),
  (1406, .invokevirtual 128, 1409, (254, 2, 0, [12])),
  (1409, .pop, 1410, zx0),
  (1410, .goto (748), 1413, (2158, 0, 0, []))]
set_option maxRecDepth 100000 in
theorem sh_26 : zSeg zk_L_law sg_26 := zSeg_of 1012 17 1390 (by decide +kernel) rfl (by decide +kernel)
set_option maxRecDepth 100000 in
theorem qL_26 (hJ : qJ M) (hn : n ≤ 4096) (hi : 0 ≤ i ∧ i + 8 ≤ n) (K : ∀ M', qJ M' → zG n (114, 4080270) 300 311 (2158, [zR 0, zR 8, zR 97, .inl i], []) M' qLQ) : zG n (114, 4080270) 300 311 (1390, [zR 0, zR 8, zR 97, .inl i], []) M qLQ := by
  have hz := zp_311
  have hg := sh_26
  refine zG_blk (c' := (1395, [zR 0, zR 8, zR 97, .inl i], [.inl (i + 1), zR 0, zR 8])) 5 (by decide) hz (zsteps_seg hg (by rw [show (.inl (i + 1) : zV) = .inl (w32 (i + 1)) from by rw [w32_id (by omega)]]; rfl)) ?_
  refine zG_iald (by decide) hz (hg _ _ rfl) rfl (.inr rfl) (by omega) ?_
  obtain ⟨x1, hx1⟩ : ∃ x : Int, x = M 0 (i + 1).toNat := ⟨_, rfl⟩
  rw [← hx1]
  have hr1 : qin x1 := by rw [hx1]; exact hJ.1.rng 0 _ (by decide) (by decide)
  show zG n (114, 4080270) 300 311 (1396, [zR 0, zR 8, zR 97, .inl i], [.inl x1, zR 8]) M _
  refine zG_call (by decide) hz zp_149 (hg _ _ rfl) rfl (Nat.le_of_ble_eq_true rfl) ⟨Nat.le_of_ble_eq_true rfl, Nat.le_of_ble_eq_true rfl⟩ (zG.andH (qm_149_8 (by decide) hJ.1 x1 (by omega)) (fh_149_8 x1)) (fun vr M1 hr => ?_)
  obtain ⟨⟨⟨hC1, hF1⟩, -⟩, rfl, hM1⟩ := hr
  have hi := hF1.hi rfl
  have hI := hJ.2.1.same hi
  have hc0 : ∀ j, M1 0 j = M 0 j := fun j => hF1 0 j (by decide)
  show zG n (114, 4080270) 300 311 (1399, [zR 0, zR 8, zR 97, .inl i], [.inl (hf_149_8 M x1).1]) M1 _
  refine zG_blk (c' := (1405, [zR 0, zR 8, zR 97, .inl i], [.inl (i + 1), zR 0, zR 97])) 6 (by decide) hz (zsteps_seg hg (by rw [show (.inl (i + 1) : zV) = .inl (w32 (i + 1)) from by rw [w32_id (by omega)]]; rfl)) ?_
  refine zG_iald (by decide) hz (hg _ _ rfl) rfl (.inr rfl) (by omega) ?_
  rw [show M1 0 (i + 1).toNat = x1 from (hc0 _).trans hx1.symm]
  show zG n (114, 4080270) 300 311 (1406, [zR 0, zR 8, zR 97, .inl i], [.inl x1, zR 97]) M1 _
  refine zG_call (by decide) hz zp_254 (hg _ _ rfl) rfl (Nat.le_of_ble_eq_true rfl) ⟨Nat.le_of_ble_eq_true rfl, Nat.le_of_ble_eq_true rfl⟩ (zG.andH (qm_254_97 (by decide) hI x1 (by omega)) (fh_254_97 x1)) (fun vr M2 hr => ?_)
  obtain ⟨⟨⟨hC2, hF2⟩, -⟩, rfl, hM2⟩ := hr
  have hm := hm_149 hJ.2.2.1 hJ.1.tb hJ.2.1.bd (a1 := x1) hJ.2.1.tl
  rw [← hM1] at hm
  rw [← hM2] at hm
  have hJ2 : qJ M2 := hJ.mut hC1 hF1 rfl rfl hC2 hF2 rfl (by decide) hm.2
  show zG n (114, 4080270) 300 311 (1409, [zR 0, zR 8, zR 97, .inl i], [.inl (hf_254_97 M1 x1).1]) M2 _
  refine zG_blk (c' := (2158, [zR 0, zR 8, zR 97, .inl i], [])) 2 (by decide) hz (zsteps_seg hg rfl) ?_
  exact K M2 hJ2
noncomputable def sg_27 : List zE := [(1413, .aload_n ⟨1, zfin1⟩, 1414, zx0),
  (1414, .aload_n ⟨0, zfin0⟩, 1415, zx0),
  (1415, .iload_n ⟨3, zfin3⟩, 1416, zx0),
  (1416, .iconst 1, 1417, zx0),
  (1417, .iadd, 1418, zx0),
  (1418, .iaload, 1419, zx0),
  (1419, .invokevirtual 129, 1422, (150, 2, 0, [11])),
  (1422, .pop, 1423, zx0),
  (1423, .aload_n ⟨2, zfin2⟩, 1424, zx0),
  (1424, .aload_n ⟨0, zfin0⟩, 1425, zx0),
  (1425, .iload_n ⟨3, zfin3⟩, 1426, zx0),
  (1426, .iconst 1, 1427, zx0),
  (1427, .iadd, 1428, zx0),
  (1428, .iaload, 1429, zx0),
  (1429, .invokevirtual 132, 1432, (255, 2, 0, [12])),
  (1432, .pop, 1433, zx0),
  (1433, .goto (725), 1436, (2158, 0, 0, []))]
set_option maxRecDepth 100000 in
theorem sh_27 : zSeg zk_L_law sg_27 := zSeg_of 1029 17 1413 (by decide +kernel) rfl (by decide +kernel)
set_option maxRecDepth 100000 in
theorem qL_27 (hJ : qJ M) (hn : n ≤ 4096) (hi : 0 ≤ i ∧ i + 8 ≤ n) (K : ∀ M', qJ M' → zG n (114, 4080270) 300 311 (2158, [zR 0, zR 8, zR 97, .inl i], []) M' qLQ) : zG n (114, 4080270) 300 311 (1413, [zR 0, zR 8, zR 97, .inl i], []) M qLQ := by
  have hz := zp_311
  have hg := sh_27
  refine zG_blk (c' := (1418, [zR 0, zR 8, zR 97, .inl i], [.inl (i + 1), zR 0, zR 8])) 5 (by decide) hz (zsteps_seg hg (by rw [show (.inl (i + 1) : zV) = .inl (w32 (i + 1)) from by rw [w32_id (by omega)]]; rfl)) ?_
  refine zG_iald (by decide) hz (hg _ _ rfl) rfl (.inr rfl) (by omega) ?_
  obtain ⟨x1, hx1⟩ : ∃ x : Int, x = M 0 (i + 1).toNat := ⟨_, rfl⟩
  rw [← hx1]
  have hr1 : qin x1 := by rw [hx1]; exact hJ.1.rng 0 _ (by decide) (by decide)
  show zG n (114, 4080270) 300 311 (1419, [zR 0, zR 8, zR 97, .inl i], [.inl x1, zR 8]) M _
  refine zG_call (by decide) hz zp_150 (hg _ _ rfl) rfl (Nat.le_of_ble_eq_true rfl) ⟨Nat.le_of_ble_eq_true rfl, Nat.le_of_ble_eq_true rfl⟩ (qm_150_8 (by decide) hJ.1 x1 (by omega)) (fun vr M1 hr => ?_)
  obtain ⟨⟨hCM1, hFM1⟩, hr⟩ := hr
  have hJM1 : qJ M1 := hJ.cls hCM1 hFM1 rfl rfl
  have hc0 : ∀ j, M1 0 j = M 0 j := fun j => hFM1 0 j (by decide)
  obtain ⟨r1, rfl, -⟩ := hr
  show zG n (114, 4080270) 300 311 (1422, [zR 0, zR 8, zR 97, .inl i], [.inl r1]) M1 _
  refine zG_blk (c' := (1428, [zR 0, zR 8, zR 97, .inl i], [.inl (i + 1), zR 0, zR 97])) 6 (by decide) hz (zsteps_seg hg (by rw [show (.inl (i + 1) : zV) = .inl (w32 (i + 1)) from by rw [w32_id (by omega)]]; rfl)) ?_
  refine zG_iald (by decide) hz (hg _ _ rfl) rfl (.inr rfl) (by omega) ?_
  rw [show M1 0 (i + 1).toNat = x1 from (hc0 _).trans hx1.symm]
  show zG n (114, 4080270) 300 311 (1429, [zR 0, zR 8, zR 97, .inl i], [.inl x1, zR 97]) M1 _
  refine zG_call (by decide) hz zp_255 (hg _ _ rfl) rfl (Nat.le_of_ble_eq_true rfl) ⟨Nat.le_of_ble_eq_true rfl, Nat.le_of_ble_eq_true rfl⟩ (qm_255_97 (by decide) hJM1.2.1 x1 (by omega)) (fun vr M2 hr => ?_)
  obtain ⟨⟨hCM2, hFM2⟩, hr⟩ := hr
  have hJM2 : qJ M2 := hJM1.mdl hCM2 hFM2 rfl (by decide) (fun j _ _ _ _ => hFM2.ar 98 j (by decide) (by decide))
  obtain ⟨r2, hv9⟩ := hr
  first | (obtain ⟨rfl, -⟩ := hv9) | (obtain rfl := hv9)
  show zG n (114, 4080270) 300 311 (1432, [zR 0, zR 8, zR 97, .inl i], [.inl r2]) M2 _
  refine zG_blk (c' := (2158, [zR 0, zR 8, zR 97, .inl i], [])) 2 (by decide) hz (zsteps_seg hg rfl) ?_
  exact K M2 hJM2
noncomputable def sg_28 : List zE := [(1436, .aload_n ⟨1, zfin1⟩, 1437, zx0),
  (1437, .aload_n ⟨0, zfin0⟩, 1438, zx0),
  (1438, .iload_n ⟨3, zfin3⟩, 1439, zx0),
  (1439, .iconst 1, 1440, zx0),
  (1440, .iadd, 1441, zx0),
  (1441, .iaload, 1442, zx0),
  (1442, .aload_n ⟨0, zfin0⟩, 1443, zx0),
  (1443, .iload_n ⟨3, zfin3⟩, 1444, zx0),
  (1444, .iconst 2, 1445, zx0),
  (1445, .iadd, 1446, zx0),
  (1446, .iaload, 1447, zx0),
  (1447, .aload_n ⟨0, zfin0⟩, 1448, zx0),
  (1448, .iload_n ⟨3, zfin3⟩, 1449, zx0),
  (1449, .iconst 3, 1450, zx0),
  (1450, .iadd, 1451, zx0),
  (1451, .iaload, 1452, zx0),
  (1452, .aload_n ⟨0, zfin0⟩, 1453, zx0),
  (1453, .iload_n ⟨3, zfin3⟩, 1454, zx0),
  (1454, .iconst 4, 1455, zx0),
  (1455, .iadd, 1456, zx0),
  (1456, .iaload, 1457, zx0),
  (1457, .aload_n ⟨0, zfin0⟩, 1458, zx0),
  (1458, .iload_n ⟨3, zfin3⟩, 1459, zx0),
  (1459, .iconst 5, 1460, zx0),
  (1460, .iadd, 1461, zx0),
  (1461, .iaload, 1462, zx0),
  (1462, .invokevirtual 133, 1465, (151, 6, 0, [11])),
  (1465, .pop2, 1466, zx0),
  (1466, .aload_n ⟨2, zfin2⟩, 1467, zx0),
  (1467, .aload_n ⟨0, zfin0⟩, 1468, zx0),
  (1468, .iload_n ⟨3, zfin3⟩, 1469, zx0),
  (1469, .iconst 1, 1470, zx0),
  (1470, .iadd, 1471, zx0),
  (1471, .iaload, 1472, zx0),
  (1472, .aload_n ⟨0, zfin0⟩, 1473, zx0),
  (1473, .iload_n ⟨3, zfin3⟩, 1474, zx0),
  (1474, .iconst 2, 1475, zx0),
  (1475, .iadd, 1476, zx0),
  (1476, .iaload, 1477, zx0),
  (1477, .aload_n ⟨0, zfin0⟩, 1478, zx0),
  (1478, .iload_n ⟨3, zfin3⟩, 1479, zx0),
  (1479, .iconst 3, 1480, zx0),
  (1480, .iadd, 1481, zx0),
  (1481, .iaload, 1482, zx0),
  (1482, .aload_n ⟨0, zfin0⟩, 1483, zx0),
  (1483, .iload_n ⟨3, zfin3⟩, 1484, zx0),
  (1484, .iconst 4, 1485, zx0),
  (1485, .iadd, 1486, zx0),
  (1486, .iaload, 1487, zx0),
  (1487, .aload_n ⟨0, zfin0⟩, 1488, zx0),
  (1488, .iload_n ⟨3, zfin3⟩, 1489, zx0),
  (1489, .iconst 5, 1490, zx0),
  (1490, .iadd, 1491, zx0),
  (1491, .iaload, 1492, zx0),
  (1492, .invokevirtual 137, 1495, (256, 6, 0, [12])),
  (1495, .pop2, 1496, zx0),
  (1496, .goto (662), 1499, (2158, 0, 0, []))]
set_option maxRecDepth 100000 in
theorem sh_28 : zSeg zk_L_law sg_28 := zSeg_of 1046 57 1436 (by decide +kernel) rfl (by decide +kernel)
set_option maxRecDepth 100000 in
theorem qL_28 (hJ : qJ M) (hn : n ≤ 4096) (hi : 0 ≤ i ∧ i + 8 ≤ n) (K : ∀ M', qJ M' → zG n (114, 4080270) 300 311 (2158, [zR 0, zR 8, zR 97, .inl i], []) M' qLQ) : zG n (114, 4080270) 300 311 (1436, [zR 0, zR 8, zR 97, .inl i], []) M qLQ := by
  have hz := zp_311
  have hg := sh_28
  refine zG_blk (c' := (1441, [zR 0, zR 8, zR 97, .inl i], [.inl (i + 1), zR 0, zR 8])) 5 (by decide) hz (zsteps_seg hg (by rw [show (.inl (i + 1) : zV) = .inl (w32 (i + 1)) from by rw [w32_id (by omega)]]; rfl)) ?_
  refine zG_iald (by decide) hz (hg _ _ rfl) rfl (.inr rfl) (by omega) ?_
  obtain ⟨x1, hx1⟩ : ∃ x : Int, x = M 0 (i + 1).toNat := ⟨_, rfl⟩
  rw [← hx1]
  have hr1 : qin x1 := by rw [hx1]; exact hJ.1.rng 0 _ (by decide) (by decide)
  show zG n (114, 4080270) 300 311 (1442, [zR 0, zR 8, zR 97, .inl i], [.inl x1, zR 8]) M _
  refine zG_blk (c' := (1446, [zR 0, zR 8, zR 97, .inl i], [.inl (i + 2), zR 0, .inl x1, zR 8])) 4 (by decide) hz (zsteps_seg hg (by rw [show (.inl (i + 2) : zV) = .inl (w32 (i + 2)) from by rw [w32_id (by omega)]]; rfl)) ?_
  refine zG_iald (by decide) hz (hg _ _ rfl) rfl (.inr rfl) (by omega) ?_
  obtain ⟨x2, hx2⟩ : ∃ x : Int, x = M 0 (i + 2).toNat := ⟨_, rfl⟩
  rw [← hx2]
  have hr2 : qin x2 := by rw [hx2]; exact hJ.1.rng 0 _ (by decide) (by decide)
  show zG n (114, 4080270) 300 311 (1447, [zR 0, zR 8, zR 97, .inl i], [.inl x2, .inl x1, zR 8]) M _
  refine zG_blk (c' := (1451, [zR 0, zR 8, zR 97, .inl i], [.inl (i + 3), zR 0, .inl x2, .inl x1, zR 8])) 4 (by decide) hz (zsteps_seg hg (by rw [show (.inl (i + 3) : zV) = .inl (w32 (i + 3)) from by rw [w32_id (by omega)]]; rfl)) ?_
  refine zG_iald (by decide) hz (hg _ _ rfl) rfl (.inr rfl) (by omega) ?_
  obtain ⟨x3, hx3⟩ : ∃ x : Int, x = M 0 (i + 3).toNat := ⟨_, rfl⟩
  rw [← hx3]
  have hr3 : qin x3 := by rw [hx3]; exact hJ.1.rng 0 _ (by decide) (by decide)
  show zG n (114, 4080270) 300 311 (1452, [zR 0, zR 8, zR 97, .inl i], [.inl x3, .inl x2, .inl x1, zR 8]) M _
  refine zG_blk (c' := (1456, [zR 0, zR 8, zR 97, .inl i], [.inl (i + 4), zR 0, .inl x3, .inl x2, .inl x1, zR 8])) 4 (by decide) hz (zsteps_seg hg (by rw [show (.inl (i + 4) : zV) = .inl (w32 (i + 4)) from by rw [w32_id (by omega)]]; rfl)) ?_
  refine zG_iald (by decide) hz (hg _ _ rfl) rfl (.inr rfl) (by omega) ?_
  obtain ⟨x4, hx4⟩ : ∃ x : Int, x = M 0 (i + 4).toNat := ⟨_, rfl⟩
  rw [← hx4]
  have hr4 : qin x4 := by rw [hx4]; exact hJ.1.rng 0 _ (by decide) (by decide)
  show zG n (114, 4080270) 300 311 (1457, [zR 0, zR 8, zR 97, .inl i], [.inl x4, .inl x3, .inl x2, .inl x1, zR 8]) M _
  refine zG_blk (c' := (1461, [zR 0, zR 8, zR 97, .inl i], [.inl (i + 5), zR 0, .inl x4, .inl x3, .inl x2, .inl x1, zR 8])) 4 (by decide) hz (zsteps_seg hg (by rw [show (.inl (i + 5) : zV) = .inl (w32 (i + 5)) from by rw [w32_id (by omega)]]; rfl)) ?_
  refine zG_iald (by decide) hz (hg _ _ rfl) rfl (.inr rfl) (by omega) ?_
  obtain ⟨x5, hx5⟩ : ∃ x : Int, x = M 0 (i + 5).toNat := ⟨_, rfl⟩
  rw [← hx5]
  have hr5 : qin x5 := by rw [hx5]; exact hJ.1.rng 0 _ (by decide) (by decide)
  show zG n (114, 4080270) 300 311 (1462, [zR 0, zR 8, zR 97, .inl i], [.inl x5, .inl x4, .inl x3, .inl x2, .inl x1, zR 8]) M _
  refine zG_call (by decide) hz zp_151 (hg _ _ rfl) rfl (Nat.le_of_ble_eq_true rfl) ⟨Nat.le_of_ble_eq_true rfl, Nat.le_of_ble_eq_true rfl⟩ (qm_151_8 (by decide) hJ.1 x1 (by omega) x2 (by omega) x3 (by omega) x4 (by omega) x5 (by omega)) (fun vr M1 hr => ?_)
  obtain ⟨⟨hCM1, hFM1⟩, hr⟩ := hr
  have hJM1 : qJ M1 := hJ.cls hCM1 hFM1 rfl rfl
  have hc0 : ∀ j, M1 0 j = M 0 j := fun j => hFM1 0 j (by decide)
  obtain ⟨r1, rfl⟩ := hr
  show zG n (114, 4080270) 300 311 (1465, [zR 0, zR 8, zR 97, .inl i], [(.inr (.inl r1))]) M1 _
  refine zG_blk (c' := (1471, [zR 0, zR 8, zR 97, .inl i], [.inl (i + 1), zR 0, zR 97])) 6 (by decide) hz (zsteps_seg hg (by rw [show (.inl (i + 1) : zV) = .inl (w32 (i + 1)) from by rw [w32_id (by omega)]]; rfl)) ?_
  refine zG_iald (by decide) hz (hg _ _ rfl) rfl (.inr rfl) (by omega) ?_
  rw [show M1 0 (i + 1).toNat = x1 from (hc0 _).trans hx1.symm]
  show zG n (114, 4080270) 300 311 (1472, [zR 0, zR 8, zR 97, .inl i], [.inl x1, zR 97]) M1 _
  refine zG_blk (c' := (1476, [zR 0, zR 8, zR 97, .inl i], [.inl (i + 2), zR 0, .inl x1, zR 97])) 4 (by decide) hz (zsteps_seg hg (by rw [show (.inl (i + 2) : zV) = .inl (w32 (i + 2)) from by rw [w32_id (by omega)]]; rfl)) ?_
  refine zG_iald (by decide) hz (hg _ _ rfl) rfl (.inr rfl) (by omega) ?_
  rw [show M1 0 (i + 2).toNat = x2 from (hc0 _).trans hx2.symm]
  show zG n (114, 4080270) 300 311 (1477, [zR 0, zR 8, zR 97, .inl i], [.inl x2, .inl x1, zR 97]) M1 _
  refine zG_blk (c' := (1481, [zR 0, zR 8, zR 97, .inl i], [.inl (i + 3), zR 0, .inl x2, .inl x1, zR 97])) 4 (by decide) hz (zsteps_seg hg (by rw [show (.inl (i + 3) : zV) = .inl (w32 (i + 3)) from by rw [w32_id (by omega)]]; rfl)) ?_
  refine zG_iald (by decide) hz (hg _ _ rfl) rfl (.inr rfl) (by omega) ?_
  rw [show M1 0 (i + 3).toNat = x3 from (hc0 _).trans hx3.symm]
  show zG n (114, 4080270) 300 311 (1482, [zR 0, zR 8, zR 97, .inl i], [.inl x3, .inl x2, .inl x1, zR 97]) M1 _
  refine zG_blk (c' := (1486, [zR 0, zR 8, zR 97, .inl i], [.inl (i + 4), zR 0, .inl x3, .inl x2, .inl x1, zR 97])) 4 (by decide) hz (zsteps_seg hg (by rw [show (.inl (i + 4) : zV) = .inl (w32 (i + 4)) from by rw [w32_id (by omega)]]; rfl)) ?_
  refine zG_iald (by decide) hz (hg _ _ rfl) rfl (.inr rfl) (by omega) ?_
  rw [show M1 0 (i + 4).toNat = x4 from (hc0 _).trans hx4.symm]
  show zG n (114, 4080270) 300 311 (1487, [zR 0, zR 8, zR 97, .inl i], [.inl x4, .inl x3, .inl x2, .inl x1, zR 97]) M1 _
  refine zG_blk (c' := (1491, [zR 0, zR 8, zR 97, .inl i], [.inl (i + 5), zR 0, .inl x4, .inl x3, .inl x2, .inl x1, zR 97])) 4 (by decide) hz (zsteps_seg hg (by rw [show (.inl (i + 5) : zV) = .inl (w32 (i + 5)) from by rw [w32_id (by omega)]]; rfl)) ?_
  refine zG_iald (by decide) hz (hg _ _ rfl) rfl (.inr rfl) (by omega) ?_
  rw [show M1 0 (i + 5).toNat = x5 from (hc0 _).trans hx5.symm]
  show zG n (114, 4080270) 300 311 (1492, [zR 0, zR 8, zR 97, .inl i], [.inl x5, .inl x4, .inl x3, .inl x2, .inl x1, zR 97]) M1 _
  refine zG_call (by decide) hz zp_256 (hg _ _ rfl) rfl (Nat.le_of_ble_eq_true rfl) ⟨Nat.le_of_ble_eq_true rfl, Nat.le_of_ble_eq_true rfl⟩ (qm_256_97 (by decide) hJM1.2.1 x1 (by omega) x2 (by omega) x3 (by omega) x4 (by omega) x5 (by omega)) (fun vr M2 hr => ?_)
  obtain ⟨⟨hCM2, hFM2⟩, hr⟩ := hr
  have hJM2 : qJ M2 := hJM1.mdl hCM2 hFM2 rfl (by decide) (fun j _ _ _ _ => hFM2.ar 98 j (by decide) (by decide))
  obtain ⟨r2, hv9⟩ := hr
  first | (obtain ⟨rfl, -⟩ := hv9) | (obtain rfl := hv9)
  show zG n (114, 4080270) 300 311 (1495, [zR 0, zR 8, zR 97, .inl i], [(.inr (.inl r2))]) M2 _
  refine zG_blk (c' := (2158, [zR 0, zR 8, zR 97, .inl i], [])) 2 (by decide) hz (zsteps_seg hg rfl) ?_
  exact K M2 hJM2
noncomputable def sg_29 : List zE := [(1499, .aload_n ⟨1, zfin1⟩, 1500, zx0),
  (1500, .aload_n ⟨0, zfin0⟩, 1501, zx0),
  (1501, .iload_n ⟨3, zfin3⟩, 1502, zx0),
  (1502, .iconst 1, 1503, zx0),
  (1503, .iadd, 1504, zx0),
  (1504, .iaload, 1505, zx0),
  (1505, .aload_n ⟨0, zfin0⟩, 1506, zx0),
  (1506, .iload_n ⟨3, zfin3⟩, 1507, zx0),
  (1507, .iconst 2, 1508, zx0),
  (1508, .iadd, 1509, zx0),
  (1509, .iaload, 1510, zx0),
  (1510, .aload_n ⟨0, zfin0⟩, 1511, zx0),
  (1511, .iload_n ⟨3, zfin3⟩, 1512, zx0),
  (1512, .iconst 3, 1513, zx0),
  (1513, .iadd, 1514, zx0),
  (1514, .iaload, 1515, zx0),
  (1515, .aload_n ⟨0, zfin0⟩, 1516, zx0),
  (1516, .iload_n ⟨3, zfin3⟩, 1517, zx0),
  (1517, .iconst 4, 1518, zx0),
  (1518, .iadd, 1519, zx0),
  (1519, .iaload, 1520, zx0),
  (1520, .ifCond .eq (7), 1523, (1527, 0, 0, [])),
  (1523, .iconst 1, 1524, zx0),
  (1524, .goto (4), 1527, (1528, 0, 0, [])),
  (1527, .iconst 0, 1528, zx0),
  (1528, .invokevirtual 138, 1531, (152, 5, 0, [11])),
  (1531, .pop, 1532, zx0),
  (1532, .aload_n ⟨2, zfin2⟩, 1533, zx0),
  (1533, .aload_n ⟨0, zfin0⟩, 1534, zx0),
  (1534, .iload_n ⟨3, zfin3⟩, 1535, zx0),
  (1535, .iconst 1, 1536, zx0),
  (1536, .iadd, 1537, zx0),
  (1537, .iaload, 1538, zx0),
  (1538, .aload_n ⟨0, zfin0⟩, 1539, zx0),
  (1539, .iload_n ⟨3, zfin3⟩, 1540, zx0),
  (1540, .iconst 2, 1541, zx0),
  (1541, .iadd, 1542, zx0),
  (1542, .iaload, 1543, zx0),
  (1543, .aload_n ⟨0, zfin0⟩, 1544, zx0),
  (1544, .iload_n ⟨3, zfin3⟩, 1545, zx0),
  (1545, .iconst 3, 1546, zx0),
  (1546, .iadd, 1547, zx0),
  (1547, .iaload, 1548, zx0),
  (1548, .aload_n ⟨0, zfin0⟩, 1549, zx0),
  (1549, .iload_n ⟨3, zfin3⟩, 1550, zx0),
  (1550, .iconst 4, 1551, zx0),
  (1551, .iadd, 1552, zx0),
  (1552, .iaload, 1553, zx0),
  (1553, .ifCond .eq (7), 1556, (1560, 0, 0, [])),
  (1556, .iconst 1, 1557, zx0),
  (1557, .goto (4), 1560, (1561, 0, 0, [])),
  (1560, .iconst 0, 1561, zx0),
  (1561, .invokevirtual 142, 1564, (257, 5, 0, [12])),
  (1564, .pop, 1565, zx0),
  (1565, .goto (593), 1568, (2158, 0, 0, []))]
set_option maxRecDepth 100000 in
theorem sh_29 : zSeg zk_L_law sg_29 := zSeg_of 1103 55 1499 (by decide +kernel) rfl (by decide +kernel)
end LW
