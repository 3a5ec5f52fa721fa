section LW
variable {n : Nat} {M : zM} {i : Int}
set_option maxRecDepth 100000 in
theorem qL_29 (hJ : qJ M) (hn : n ≤ 4096) (hi : 0 ≤ i ∧ i + 8 ≤ n) (K : ∀ M', qJ M' → zG n (114, 4080270) 300 311 (2158, [zR 0, zR 8, zR 97, .inl i], []) M' qLQ) : zG n (114, 4080270) 300 311 (1499, [zR 0, zR 8, zR 97, .inl i], []) M qLQ := by
  have hz := zp_311
  have hg := sh_29
  refine zG_blk (c' := (1504, [zR 0, zR 8, zR 97, .inl i], [.inl (i + 1), zR 0, zR 8])) 5 (by decide) hz (zsteps_seg hg (by rw [show (.inl (i + 1) : zV) = .inl (w32 (i + 1)) from by rw [w32_id (by omega)]]; rfl)) ?_
  refine zG_iald (by decide) hz (hg _ _ rfl) rfl (.inr rfl) (by omega) ?_
  obtain ⟨x1, hx1⟩ : ∃ x : Int, x = M 0 (i + 1).toNat := ⟨_, rfl⟩
  rw [← hx1]
  have hr1 : qin x1 := by rw [hx1]; exact hJ.1.rng 0 _ (by decide) (by decide)
  show zG n (114, 4080270) 300 311 (1505, [zR 0, zR 8, zR 97, .inl i], [.inl x1, zR 8]) M _
  refine zG_blk (c' := (1509, [zR 0, zR 8, zR 97, .inl i], [.inl (i + 2), zR 0, .inl x1, zR 8])) 4 (by decide) hz (zsteps_seg hg (by rw [show (.inl (i + 2) : zV) = .inl (w32 (i + 2)) from by rw [w32_id (by omega)]]; rfl)) ?_
  refine zG_iald (by decide) hz (hg _ _ rfl) rfl (.inr rfl) (by omega) ?_
  obtain ⟨x2, hx2⟩ : ∃ x : Int, x = M 0 (i + 2).toNat := ⟨_, rfl⟩
  rw [← hx2]
  have hr2 : qin x2 := by rw [hx2]; exact hJ.1.rng 0 _ (by decide) (by decide)
  show zG n (114, 4080270) 300 311 (1510, [zR 0, zR 8, zR 97, .inl i], [.inl x2, .inl x1, zR 8]) M _
  refine zG_blk (c' := (1514, [zR 0, zR 8, zR 97, .inl i], [.inl (i + 3), zR 0, .inl x2, .inl x1, zR 8])) 4 (by decide) hz (zsteps_seg hg (by rw [show (.inl (i + 3) : zV) = .inl (w32 (i + 3)) from by rw [w32_id (by omega)]]; rfl)) ?_
  refine zG_iald (by decide) hz (hg _ _ rfl) rfl (.inr rfl) (by omega) ?_
  obtain ⟨x3, hx3⟩ : ∃ x : Int, x = M 0 (i + 3).toNat := ⟨_, rfl⟩
  rw [← hx3]
  have hr3 : qin x3 := by rw [hx3]; exact hJ.1.rng 0 _ (by decide) (by decide)
  show zG n (114, 4080270) 300 311 (1515, [zR 0, zR 8, zR 97, .inl i], [.inl x3, .inl x2, .inl x1, zR 8]) M _
  refine zG_blk (c' := (1519, [zR 0, zR 8, zR 97, .inl i], [.inl (i + 4), zR 0, .inl x3, .inl x2, .inl x1, zR 8])) 4 (by decide) hz (zsteps_seg hg (by rw [show (.inl (i + 4) : zV) = .inl (w32 (i + 4)) from by rw [w32_id (by omega)]]; rfl)) ?_
  refine zG_iald (by decide) hz (hg _ _ rfl) rfl (.inr rfl) (by omega) ?_
  obtain ⟨x4, hx4⟩ : ∃ x : Int, x = M 0 (i + 4).toNat := ⟨_, rfl⟩
  rw [← hx4]
  have hr4 : qin x4 := by rw [hx4]; exact hJ.1.rng 0 _ (by decide) (by decide)
  show zG n (114, 4080270) 300 311 (1520, [zR 0, zR 8, zR 97, .inl i], [.inl x4, .inl x3, .inl x2, .inl x1, zR 8]) M _
  have j1528 : ∀ b1520 : Int, ((x4 = 0 ∧ b1520 = 0) ∨ (¬ x4 = 0 ∧ b1520 = 1)) → zG n (114, 4080270) 300 311 (1528, [zR 0, zR 8, zR 97, .inl i], [.inl b1520, .inl x3, .inl x2, .inl x1, zR 8]) M qLQ := by
    intro b1520 hb1520
    refine zG_call (by decide) hz zp_152 (hg _ _ rfl) rfl (Nat.le_of_ble_eq_true rfl) ⟨Nat.le_of_ble_eq_true rfl, Nat.le_of_ble_eq_true rfl⟩ (qm_152_8 (by decide) hJ.1 x1 (by omega) x2 (by omega) x3 (by omega) b1520 (by omega)) (fun vr M1 hr => ?_)
    obtain ⟨⟨hCM1, hFM1⟩, hr⟩ := hr
    have hJM1 : qJ M1 := hJ.cls hCM1 hFM1 rfl rfl
    have hc0 : ∀ j, M1 0 j = M 0 j := fun j => hFM1 0 j (by decide)
    obtain ⟨r1, rfl, -⟩ := hr
    show zG n (114, 4080270) 300 311 (1531, [zR 0, zR 8, zR 97, .inl i], [.inl r1]) M1 _
    refine zG_blk (c' := (1537, [zR 0, zR 8, zR 97, .inl i], [.inl (i + 1), zR 0, zR 97])) 6 (by decide) hz (zsteps_seg hg (by rw [show (.inl (i + 1) : zV) = .inl (w32 (i + 1)) from by rw [w32_id (by omega)]]; rfl)) ?_
    refine zG_iald (by decide) hz (hg _ _ rfl) rfl (.inr rfl) (by omega) ?_
    rw [show M1 0 (i + 1).toNat = x1 from (hc0 _).trans hx1.symm]
    show zG n (114, 4080270) 300 311 (1538, [zR 0, zR 8, zR 97, .inl i], [.inl x1, zR 97]) M1 _
    refine zG_blk (c' := (1542, [zR 0, zR 8, zR 97, .inl i], [.inl (i + 2), zR 0, .inl x1, zR 97])) 4 (by decide) hz (zsteps_seg hg (by rw [show (.inl (i + 2) : zV) = .inl (w32 (i + 2)) from by rw [w32_id (by omega)]]; rfl)) ?_
    refine zG_iald (by decide) hz (hg _ _ rfl) rfl (.inr rfl) (by omega) ?_
    rw [show M1 0 (i + 2).toNat = x2 from (hc0 _).trans hx2.symm]
    show zG n (114, 4080270) 300 311 (1543, [zR 0, zR 8, zR 97, .inl i], [.inl x2, .inl x1, zR 97]) M1 _
    refine zG_blk (c' := (1547, [zR 0, zR 8, zR 97, .inl i], [.inl (i + 3), zR 0, .inl x2, .inl x1, zR 97])) 4 (by decide) hz (zsteps_seg hg (by rw [show (.inl (i + 3) : zV) = .inl (w32 (i + 3)) from by rw [w32_id (by omega)]]; rfl)) ?_
    refine zG_iald (by decide) hz (hg _ _ rfl) rfl (.inr rfl) (by omega) ?_
    rw [show M1 0 (i + 3).toNat = x3 from (hc0 _).trans hx3.symm]
    show zG n (114, 4080270) 300 311 (1548, [zR 0, zR 8, zR 97, .inl i], [.inl x3, .inl x2, .inl x1, zR 97]) M1 _
    refine zG_blk (c' := (1552, [zR 0, zR 8, zR 97, .inl i], [.inl (i + 4), zR 0, .inl x3, .inl x2, .inl x1, zR 97])) 4 (by decide) hz (zsteps_seg hg (by rw [show (.inl (i + 4) : zV) = .inl (w32 (i + 4)) from by rw [w32_id (by omega)]]; rfl)) ?_
    refine zG_iald (by decide) hz (hg _ _ rfl) rfl (.inr rfl) (by omega) ?_
    rw [show M1 0 (i + 4).toNat = x4 from (hc0 _).trans hx4.symm]
    show zG n (114, 4080270) 300 311 (1553, [zR 0, zR 8, zR 97, .inl i], [.inl x4, .inl x3, .inl x2, .inl x1, zR 97]) M1 _
    have j1561 : zG n (114, 4080270) 300 311 (1561, [zR 0, zR 8, zR 97, .inl i], [.inl b1520, .inl x3, .inl x2, .inl x1, zR 97]) M1 qLQ := by
      refine zG_call (by decide) hz zp_257 (hg _ _ rfl) rfl (Nat.le_of_ble_eq_true rfl) ⟨Nat.le_of_ble_eq_true rfl, Nat.le_of_ble_eq_true rfl⟩ (qn_257_97 (by decide) hJM1.2.1 x1 (by omega) x2 (by omega) x3 (by omega) b1520 (by omega)) (fun vr M2 hr => ?_)
      obtain ⟨⟨hCM2, hFM2⟩, hr⟩ := hr
      have h9 : ∀ j : Nat, j ≠ 5 ∧ ((j : Int) < 4000 ∨ 5640 ≤ j) → M2 98 j = M1 98 j := by obtain ⟨x9, -, -, h9⟩ := hr; exact h9
      have hJM2 : qJ M2 := hJM1.mdl hCM2 hFM2 rfl (by decide) (fun j _ h5 h6 _ => h9 j (by omega))
      obtain ⟨r2, hv9⟩ := hr
      first | (obtain ⟨rfl, -⟩ := hv9) | (obtain rfl := hv9)
      show zG n (114, 4080270) 300 311 (1564, [zR 0, zR 8, zR 97, .inl i], [.inl r2]) M2 _
      refine zG_blk (c' := (2158, [zR 0, zR 8, zR 97, .inl i], [])) 2 (by decide) hz (zsteps_seg hg rfl) ?_
      exact K M2 hJM2
    refine zG_if_eq (by decide) hz (hg _ _ rfl) (fun hb => ?_) (fun hb => ?_)
    · exact zG_blk (c' := (1561, [zR 0, zR 8, zR 97, .inl i], [.inl b1520, .inl x3, .inl x2, .inl x1, zR 97])) 1 (by decide) hz (zsteps_seg hg (by rw [show b1520 = 0 by omega]; rfl)) j1561
    · exact zG_blk (c' := (1561, [zR 0, zR 8, zR 97, .inl i], [.inl b1520, .inl x3, .inl x2, .inl x1, zR 97])) 2 (by decide) hz (zsteps_seg hg (by rw [show b1520 = 1 by omega]; rfl)) j1561
  refine zG_if_eq (by decide) hz (hg _ _ rfl) (fun hb => ?_) (fun hb => ?_)
  · exact zG_blk (c' := (1528, [zR 0, zR 8, zR 97, .inl i], [.inl 0, .inl x3, .inl x2, .inl x1, zR 8])) 1 (by decide) hz (zsteps_seg hg rfl) (j1528 0 (.inl ⟨hb, rfl⟩))
  · exact zG_blk (c' := (1528, [zR 0, zR 8, zR 97, .inl i], [.inl 1, .inl x3, .inl x2, .inl x1, zR 8])) 2 (by decide) hz (zsteps_seg hg rfl) (j1528 1 (.inr ⟨hb, rfl⟩))
noncomputable def sg_30 : List zE := [(1568, .aload_n ⟨1, zfin1⟩, 1569, zx0),
  (1569, .aload_n ⟨0, zfin0⟩, 1570, zx0),
  (1570, .iload_n ⟨3, zfin3⟩, 1571, zx0),
  (1571, .iconst 1, 1572, zx0),
  (1572, .iadd, 1573, zx0),
  (1573, .iaload, 1574, zx0),
  (1574, .aload_n ⟨0, zfin0⟩, 1575, zx0),
  (1575, .iload_n ⟨3, zfin3⟩, 1576, zx0),
  (1576, .iconst 2, 1577, zx0),
  (1577, .iadd, 1578, zx0),
  (1578, .iaload, 1579, zx0),
  (1579, .invokevirtual 143, 1582, (153, 3, 0, [11])),
  (1582, .pop, 1583, zx0),
  (1583, .aload_n ⟨2, zfin2⟩, 1584, zx0),
  (1584, .aload_n ⟨0, zfin0⟩, 1585, zx0),
  (1585, .iload_n ⟨3, zfin3⟩, 1586, zx0),
  (1586, .iconst 1, 1587, zx0),
  (1587, .iadd, 1588, zx0),
  (1588, .iaload, 1589, zx0),
  (1589, .aload_n ⟨0, zfin0⟩, 1590, zx0),
  (1590, .iload_n ⟨3, zfin3⟩, 1591, zx0),
  (1591, .iconst 2, 1592, zx0),
  (1592, .iadd, 1593, zx0),
  (1593, .iaload, 1594, zx0),
  (1594, .invokevirtual 146, 1597, (258, 3, 0, [12])),
  (1597, .pop, 1598, zx0),
  (1598, .goto (560), 1601, (2158, 0, 0, []))]
set_option maxRecDepth 100000 in
theorem sh_30 : zSeg zk_L_law sg_30 := zSeg_of 1158 27 1568 (by decide +kernel) rfl (by decide +kernel)
set_option maxRecDepth 100000 in
theorem qL_30 (hJ : qJ M) (hn : n ≤ 4096) (hi : 0 ≤ i ∧ i + 8 ≤ n) (K : ∀ M', qJ M' → zG n (114, 4080270) 300 311 (2158, [zR 0, zR 8, zR 97, .inl i], []) M' qLQ) : zG n (114, 4080270) 300 311 (1568, [zR 0, zR 8, zR 97, .inl i], []) M qLQ := by
  have hz := zp_311
  have hg := sh_30
  refine zG_blk (c' := (1573, [zR 0, zR 8, zR 97, .inl i], [.inl (i + 1), zR 0, zR 8])) 5 (by decide) hz (zsteps_seg hg (by rw [show (.inl (i + 1) : zV) = .inl (w32 (i + 1)) from by rw [w32_id (by omega)]]; rfl)) ?_
  refine zG_iald (by decide) hz (hg _ _ rfl) rfl (.inr rfl) (by omega) ?_
  obtain ⟨x1, hx1⟩ : ∃ x : Int, x = M 0 (i + 1).toNat := ⟨_, rfl⟩
  rw [← hx1]
  have hr1 : qin x1 := by rw [hx1]; exact hJ.1.rng 0 _ (by decide) (by decide)
  show zG n (114, 4080270) 300 311 (1574, [zR 0, zR 8, zR 97, .inl i], [.inl x1, zR 8]) M _
  refine zG_blk (c' := (1578, [zR 0, zR 8, zR 97, .inl i], [.inl (i + 2), zR 0, .inl x1, zR 8])) 4 (by decide) hz (zsteps_seg hg (by rw [show (.inl (i + 2) : zV) = .inl (w32 (i + 2)) from by rw [w32_id (by omega)]]; rfl)) ?_
  refine zG_iald (by decide) hz (hg _ _ rfl) rfl (.inr rfl) (by omega) ?_
  obtain ⟨x2, hx2⟩ : ∃ x : Int, x = M 0 (i + 2).toNat := ⟨_, rfl⟩
  rw [← hx2]
  have hr2 : qin x2 := by rw [hx2]; exact hJ.1.rng 0 _ (by decide) (by decide)
  show zG n (114, 4080270) 300 311 (1579, [zR 0, zR 8, zR 97, .inl i], [.inl x2, .inl x1, zR 8]) M _
  refine zG_call (by decide) hz zp_153 (hg _ _ rfl) rfl (Nat.le_of_ble_eq_true rfl) ⟨Nat.le_of_ble_eq_true rfl, Nat.le_of_ble_eq_true rfl⟩ (zG.andH (qm_153_8 (by decide) hJ.1 x1 (by omega) x2 (by omega)) (fh_153_8 x1 x2)) (fun vr M1 hr => ?_)
  obtain ⟨⟨⟨hC1, hF1⟩, -⟩, rfl, hM1⟩ := hr
  have hi := hF1.hi rfl
  have hI := hJ.2.1.same hi
  have hc0 : ∀ j, M1 0 j = M 0 j := fun j => hF1 0 j (by decide)
  show zG n (114, 4080270) 300 311 (1582, [zR 0, zR 8, zR 97, .inl i], [.inl (hf_153_8 M x1 x2).1]) M1 _
  refine zG_blk (c' := (1588, [zR 0, zR 8, zR 97, .inl i], [.inl (i + 1), zR 0, zR 97])) 6 (by decide) hz (zsteps_seg hg (by rw [show (.inl (i + 1) : zV) = .inl (w32 (i + 1)) from by rw [w32_id (by omega)]]; rfl)) ?_
  refine zG_iald (by decide) hz (hg _ _ rfl) rfl (.inr rfl) (by omega) ?_
  rw [show M1 0 (i + 1).toNat = x1 from (hc0 _).trans hx1.symm]
  show zG n (114, 4080270) 300 311 (1589, [zR 0, zR 8, zR 97, .inl i], [.inl x1, zR 97]) M1 _
  refine zG_blk (c' := (1593, [zR 0, zR 8, zR 97, .inl i], [.inl (i + 2), zR 0, .inl x1, zR 97])) 4 (by decide) hz (zsteps_seg hg (by rw [show (.inl (i + 2) : zV) = .inl (w32 (i + 2)) from by rw [w32_id (by omega)]]; rfl)) ?_
  refine zG_iald (by decide) hz (hg _ _ rfl) rfl (.inr rfl) (by omega) ?_
  rw [show M1 0 (i + 2).toNat = x2 from (hc0 _).trans hx2.symm]
  show zG n (114, 4080270) 300 311 (1594, [zR 0, zR 8, zR 97, .inl i], [.inl x2, .inl x1, zR 97]) M1 _
  refine zG_call (by decide) hz zp_258 (hg _ _ rfl) rfl (Nat.le_of_ble_eq_true rfl) ⟨Nat.le_of_ble_eq_true rfl, Nat.le_of_ble_eq_true rfl⟩ (zG.andH (qm_258_97 (by decide) hI x1 (by omega) x2 (by omega)) (fh_258_97 x1 x2)) (fun vr M2 hr => ?_)
  obtain ⟨⟨⟨hC2, hF2⟩, -⟩, rfl, hM2⟩ := hr
  have hm := hm_153 hJ.2.2.1 hJ.1.tb hJ.2.1.bd (a1 := x1) (a2 := x2)
  rw [← hM1] at hm
  rw [← hM2] at hm
  have hJ2 : qJ M2 := hJ.mut hC1 hF1 rfl rfl hC2 hF2 rfl (by decide) hm
  show zG n (114, 4080270) 300 311 (1597, [zR 0, zR 8, zR 97, .inl i], [.inl (hf_258_97 M1 x1 x2).1]) M2 _
  refine zG_blk (c' := (2158, [zR 0, zR 8, zR 97, .inl i], [])) 2 (by decide) hz (zsteps_seg hg rfl) ?_
  exact K M2 hJ2
noncomputable def sg_31 : List zE := [(1601, .aload_n ⟨1, zfin1⟩, 1602, zx0),
  (1602, .aload_n ⟨0, zfin0⟩, 1603, zx0),
  (1603, .iload_n ⟨3, zfin3⟩, 1604, zx0),
  (1604, .iconst 1, 1605, zx0),
  (1605, .iadd, 1606, zx0),
  (1606, .iaload, 1607, zx0),
  (1607, .aload_n ⟨0, zfin0⟩, 1608, zx0),
  (1608, .iload_n ⟨3, zfin3⟩, 1609, zx0),
  (1609, .iconst 2, 1610, zx0),
  (1610, .iadd, 1611, zx0),
  (1611, .iaload, 1612, zx0),
  (1612, .invokevirtual 147, 1615, (154, 3, 0, [11])),
  (1615, .pop, 1616, zx0),
  (1616, .aload_n ⟨2, zfin2⟩, 1617, zx0),
  (1617, .aload_n ⟨0, zfin0⟩, 1618, zx0),
  (1618, .iload_n ⟨3, zfin3⟩, 1619, zx0),
  (1619, .iconst 1, 1620, zx0),
  (1620, .iadd, 1621, zx0),
  (1621, .iaload, 1622, zx0),
  (1622, .aload_n ⟨0, zfin0⟩, 1623, zx0),
  (1623, .iload_n ⟨3, zfin3⟩, 1624, zx0),
  (1624, .iconst 2, 1625, zx0),
  (1625, .iadd, 1626, zx0),
  (1626, .iaload, 1627, zx0),
  (1627, .invokevirtual 150, 1630, (259, 3, 0, [12])),
  (1630, .pop, 1631, zx0),
  (1631, .goto (527), 1634, (2158, 0, 0, []))]
set_option maxRecDepth 100000 in
theorem sh_31 : zSeg zk_L_law sg_31 := zSeg_of 1185 27 1601 (by decide +kernel) rfl (by decide +kernel)
set_option maxRecDepth 100000 in
theorem qL_31 (hJ : qJ M) (hn : n ≤ 4096) (hi : 0 ≤ i ∧ i + 8 ≤ n) (K : ∀ M', qJ M' → zG n (114, 4080270) 300 311 (2158, [zR 0, zR 8, zR 97, .inl i], []) M' qLQ) : zG n (114, 4080270) 300 311 (1601, [zR 0, zR 8, zR 97, .inl i], []) M qLQ := by
  have hz := zp_311
  have hg := sh_31
  refine zG_blk (c' := (1606, [zR 0, zR 8, zR 97, .inl i], [.inl (i + 1), zR 0, zR 8])) 5 (by decide) hz (zsteps_seg hg (by rw [show (.inl (i + 1) : zV) = .inl (w32 (i + 1)) from by rw [w32_id (by omega)]]; rfl)) ?_
  refine zG_iald (by decide) hz (hg _ _ rfl) rfl (.inr rfl) (by omega) ?_
  obtain ⟨x1, hx1⟩ : ∃ x : Int, x = M 0 (i + 1).toNat := ⟨_, rfl⟩
  rw [← hx1]
  have hr1 : qin x1 := by rw [hx1]; exact hJ.1.rng 0 _ (by decide) (by decide)
  show zG n (114, 4080270) 300 311 (1607, [zR 0, zR 8, zR 97, .inl i], [.inl x1, zR 8]) M _
  refine zG_blk (c' := (1611, [zR 0, zR 8, zR 97, .inl i], [.inl (i + 2), zR 0, .inl x1, zR 8])) 4 (by decide) hz (zsteps_seg hg (by rw [show (.inl (i + 2) : zV) = .inl (w32 (i + 2)) from by rw [w32_id (by omega)]]; rfl)) ?_
  refine zG_iald (by decide) hz (hg _ _ rfl) rfl (.inr rfl) (by omega) ?_
  obtain ⟨x2, hx2⟩ : ∃ x : Int, x = M 0 (i + 2).toNat := ⟨_, rfl⟩
  rw [← hx2]
  have hr2 : qin x2 := by rw [hx2]; exact hJ.1.rng 0 _ (by decide) (by decide)
  show zG n (114, 4080270) 300 311 (1612, [zR 0, zR 8, zR 97, .inl i], [.inl x2, .inl x1, zR 8]) M _
  refine zG_call (by decide) hz zp_154 (hg _ _ rfl) rfl (Nat.le_of_ble_eq_true rfl) ⟨Nat.le_of_ble_eq_true rfl, Nat.le_of_ble_eq_true rfl⟩ (qm_154_8 (by decide) hJ.1 x1 (by omega) x2 (by omega)) (fun vr M1 hr => ?_)
  obtain ⟨hq, hr⟩ := hr
  replace hq := hq.symm; subst hq
  have hc0 : ∀ j, M 0 j = M 0 j := fun _ => rfl
  obtain ⟨r1, rfl, -⟩ := hr
  show zG n (114, 4080270) 300 311 (1615, [zR 0, zR 8, zR 97, .inl i], [.inl r1]) M _
  refine zG_blk (c' := (1621, [zR 0, zR 8, zR 97, .inl i], [.inl (i + 1), zR 0, zR 97])) 6 (by decide) hz (zsteps_seg hg (by rw [show (.inl (i + 1) : zV) = .inl (w32 (i + 1)) from by rw [w32_id (by omega)]]; rfl)) ?_
  refine zG_iald (by decide) hz (hg _ _ rfl) rfl (.inr rfl) (by omega) ?_
  rw [show M 0 (i + 1).toNat = x1 from hx1.symm]
  show zG n (114, 4080270) 300 311 (1622, [zR 0, zR 8, zR 97, .inl i], [.inl x1, zR 97]) M _
  refine zG_blk (c' := (1626, [zR 0, zR 8, zR 97, .inl i], [.inl (i + 2), zR 0, .inl x1, zR 97])) 4 (by decide) hz (zsteps_seg hg (by rw [show (.inl (i + 2) : zV) = .inl (w32 (i + 2)) from by rw [w32_id (by omega)]]; rfl)) ?_
  refine zG_iald (by decide) hz (hg _ _ rfl) rfl (.inr rfl) (by omega) ?_
  rw [show M 0 (i + 2).toNat = x2 from hx2.symm]
  show zG n (114, 4080270) 300 311 (1627, [zR 0, zR 8, zR 97, .inl i], [.inl x2, .inl x1, zR 97]) M _
  refine zG_call (by decide) hz zp_259 (hg _ _ rfl) rfl (Nat.le_of_ble_eq_true rfl) ⟨Nat.le_of_ble_eq_true rfl, Nat.le_of_ble_eq_true rfl⟩ (qm_259_97 (by decide) hJ.2.1 x1 (by omega) x2 (by omega)) (fun vr M2 hr => ?_)
  obtain ⟨hq, hr⟩ := hr
  replace hq := hq.symm; subst hq
  obtain ⟨r2, hv9⟩ := hr
  first | (obtain ⟨rfl, -⟩ := hv9) | (obtain rfl := hv9)
  show zG n (114, 4080270) 300 311 (1630, [zR 0, zR 8, zR 97, .inl i], [.inl r2]) M _
  refine zG_blk (c' := (2158, [zR 0, zR 8, zR 97, .inl i], [])) 2 (by decide) hz (zsteps_seg hg rfl) ?_
  exact K M hJ
noncomputable def sg_32 : List zE := [(1634, .aload_n ⟨1, zfin1⟩, 1635, zx0),
  (1635, .aload_n ⟨0, zfin0⟩, 1636, zx0),
  (1636, .iload_n ⟨3, zfin3⟩, 1637, zx0),
  (1637, .iconst 1, 1638, zx0),
  (1638, .iadd, 1639, zx0),
  (1639, .iaload, 1640, zx0),
  (1640, .aload_n ⟨0, zfin0⟩, 1641, zx0),
  (1641, .iload_n ⟨3, zfin3⟩, 1642, zx0),
  (1642, .iconst 2, 1643, zx0),
  (1643, .iadd, 1644, zx0),
  (1644, .iaload, 1645, zx0),
  (1645, .aload_n ⟨0, zfin0⟩, 1646, zx0),
  (1646, .iload_n ⟨3, zfin3⟩, 1647, zx0),
  (1647, .iconst 3, 1648, zx0),
  (1648, .iadd, 1649, zx0),
  (1649, .iaload, 1650, zx0),
  (1650, .aload_n ⟨0, zfin0⟩, 1651, zx0),
  (1651, .iload_n ⟨3, zfin3⟩, 1652, zx0),
  (1652, .iconst 4, 1653, zx0),
  (1653, .iadd, 1654, zx0),
  (1654, .iaload, 1655, zx0),
  (1655, .aload_n ⟨0, zfin0⟩, 1656, zx0),
  (1656, .iload_n ⟨3, zfin3⟩, 1657, zx0),
  (1657, .iconst 5, 1658, zx0),
  (1658, .iadd, 1659, zx0),
  (1659, .iaload, 1660, zx0),
  (1660, .aload_n ⟨0, zfin0⟩, 1661, zx0),
  (1661, .iload_n ⟨3, zfin3⟩, 1662, zx0),
  (1662, .bipush (6), 1664, zx0),
  (1664, .iadd, 1665, zx0),
  (1665, .iaload, 1666, zx0),
  (1666, .invokevirtual 151, 1669, (155, 7, 0, [11])),
  (1669, .pop, 1670, zx0),
  (1670, .aload_n ⟨2, zfin2⟩, 1671, zx0),
  (1671, .aload_n ⟨0, zfin0⟩, 1672, zx0),
  (1672, .iload_n ⟨3, zfin3⟩, 1673, zx0),
  (1673, .iconst 1, 1674, zx0),
  (1674, .iadd, 1675, zx0),
  (1675, .iaload, 1676, zx0),
  (1676, .aload_n ⟨0, zfin0⟩, 1677, zx0),
  (1677, .iload_n ⟨3, zfin3⟩, 1678, zx0),
  (1678, .iconst 2, 1679, zx0),
  (1679, .iadd, 1680, zx0),
  (1680, .iaload, 1681, zx0),
  (1681, .aload_n ⟨0, zfin0⟩, 1682, zx0),
  (1682, .iload_n ⟨3, zfin3⟩, 1683, zx0),
  (1683, .iconst 3, 1684, zx0),
  (1684, .iadd, 1685, zx0),
  (1685, .iaload, 1686, zx0),
  (1686, .aload_n ⟨0, zfin0⟩, 1687, zx0),
  (1687, .iload_n ⟨3, zfin3⟩, 1688, zx0),
  (1688, .iconst 4, 1689, zx0),
  (1689, .iadd, 1690, zx0),
  (1690, .iaload, 1691, zx0),
  (1691, .aload_n ⟨0, zfin0⟩, 1692, zx0),
  (1692, .iload_n ⟨3, zfin3⟩, 1693, zx0),
  (1693, .iconst 5, 1694, zx0),
  (1694, .iadd, 1695, zx0),
  (1695, .iaload, 1696, zx0),
  (1696, .aload_n ⟨0, zfin0⟩, 1697, zx0),
  (1697, .iload_n ⟨3, zfin3⟩, 1698, zx0),
  (1698, .bipush (6), 1700, zx0),
  (1700, .iadd, 1701, zx0),
  (1701, .iaload, 1702, zx0),
  (1702, .invokevirtual 154, 1705, (268, 7, 0, [12])),
  (1705, .pop, 1706, zx0),
  (1706, .goto (452), 1709, (2158, 0, 0, []))]
set_option maxRecDepth 100000 in
theorem sh_32 : zSeg zk_L_law sg_32 := zSeg_of 1212 67 1634 (by decide +kernel) rfl (by decide +kernel)
set_option maxRecDepth 100000 in
theorem qL_32 (hJ : qJ M) (hn : n ≤ 4096) (hi : 0 ≤ i ∧ i + 8 ≤ n) (K : ∀ M', qJ M' → zG n (114, 4080270) 300 311 (2158, [zR 0, zR 8, zR 97, .inl i], []) M' qLQ) : zG n (114, 4080270) 300 311 (1634, [zR 0, zR 8, zR 97, .inl i], []) M qLQ := by
  have hz := zp_311
  have hg := sh_32
  refine zG_blk (c' := (1639, [zR 0, zR 8, zR 97, .inl i], [.inl (i + 1), zR 0, zR 8])) 5 (by decide) hz (zsteps_seg hg (by rw [show (.inl (i + 1) : zV) = .inl (w32 (i + 1)) from by rw [w32_id (by omega)]]; rfl)) ?_
  refine zG_iald (by decide) hz (hg _ _ rfl) rfl (.inr rfl) (by omega) ?_
  obtain ⟨x1, hx1⟩ : ∃ x : Int, x = M 0 (i + 1).toNat := ⟨_, rfl⟩
  rw [← hx1]
  have hr1 : qin x1 := by rw [hx1]; exact hJ.1.rng 0 _ (by decide) (by decide)
  show zG n (114, 4080270) 300 311 (1640, [zR 0, zR 8, zR 97, .inl i], [.inl x1, zR 8]) M _
  refine zG_blk (c' := (1644, [zR 0, zR 8, zR 97, .inl i], [.inl (i + 2), zR 0, .inl x1, zR 8])) 4 (by decide) hz (zsteps_seg hg (by rw [show (.inl (i + 2) : zV) = .inl (w32 (i + 2)) from by rw [w32_id (by omega)]]; rfl)) ?_
  refine zG_iald (by decide) hz (hg _ _ rfl) rfl (.inr rfl) (by omega) ?_
  obtain ⟨x2, hx2⟩ : ∃ x : Int, x = M 0 (i + 2).toNat := ⟨_, rfl⟩
  rw [← hx2]
  have hr2 : qin x2 := by rw [hx2]; exact hJ.1.rng 0 _ (by decide) (by decide)
  show zG n (114, 4080270) 300 311 (1645, [zR 0, zR 8, zR 97, .inl i], [.inl x2, .inl x1, zR 8]) M _
  refine zG_blk (c' := (1649, [zR 0, zR 8, zR 97, .inl i], [.inl (i + 3), zR 0, .inl x2, .inl x1, zR 8])) 4 (by decide) hz (zsteps_seg hg (by rw [show (.inl (i + 3) : zV) = .inl (w32 (i + 3)) from by rw [w32_id (by omega)]]; rfl)) ?_
  refine zG_iald (by decide) hz (hg _ _ rfl) rfl (.inr rfl) (by omega) ?_
  obtain ⟨x3, hx3⟩ : ∃ x : Int, x = M 0 (i + 3).toNat := ⟨_, rfl⟩
  rw [← hx3]
  have hr3 : qin x3 := by rw [hx3]; exact hJ.1.rng 0 _ (by decide) (by decide)
  show zG n (114, 4080270) 300 311 (1650, [zR 0, zR 8, zR 97, .inl i], [.inl x3, .inl x2, .inl x1, zR 8]) M _
  refine zG_blk (c' := (1654, [zR 0, zR 8, zR 97, .inl i], [.inl (i + 4), zR 0, .inl x3, .inl x2, .inl x1, zR 8])) 4 (by decide) hz (zsteps_seg hg (by rw [show (.inl (i + 4) : zV) = .inl (w32 (i + 4)) from by rw [w32_id (by omega)]]; rfl)) ?_
  refine zG_iald (by decide) hz (hg _ _ rfl) rfl (.inr rfl) (by omega) ?_
  obtain ⟨x4, hx4⟩ : ∃ x : Int, x = M 0 (i + 4).toNat := ⟨_, rfl⟩
  rw [← hx4]
  have hr4 : qin x4 := by rw [hx4]; exact hJ.1.rng 0 _ (by decide) (by decide)
  show zG n (114, 4080270) 300 311 (1655, [zR 0, zR 8, zR 97, .inl i], [.inl x4, .inl x3, .inl x2, .inl x1, zR 8]) M _
  refine zG_blk (c' := (1659, [zR 0, zR 8, zR 97, .inl i], [.inl (i + 5), zR 0, .inl x4, .inl x3, .inl x2, .inl x1, zR 8])) 4 (by decide) hz (zsteps_seg hg (by rw [show (.inl (i + 5) : zV) = .inl (w32 (i + 5)) from by rw [w32_id (by omega)]]; rfl)) ?_
  refine zG_iald (by decide) hz (hg _ _ rfl) rfl (.inr rfl) (by omega) ?_
  obtain ⟨x5, hx5⟩ : ∃ x : Int, x = M 0 (i + 5).toNat := ⟨_, rfl⟩
  rw [← hx5]
  have hr5 : qin x5 := by rw [hx5]; exact hJ.1.rng 0 _ (by decide) (by decide)
  show zG n (114, 4080270) 300 311 (1660, [zR 0, zR 8, zR 97, .inl i], [.inl x5, .inl x4, .inl x3, .inl x2, .inl x1, zR 8]) M _
  refine zG_blk (c' := (1665, [zR 0, zR 8, zR 97, .inl i], [.inl (i + 6), zR 0, .inl x5, .inl x4, .inl x3, .inl x2, .inl x1, zR 8])) 4 (by decide) hz (zsteps_seg hg (by rw [show (.inl (i + 6) : zV) = .inl (w32 (i + 6)) from by rw [w32_id (by omega)]]; rfl)) ?_
  refine zG_iald (by decide) hz (hg _ _ rfl) rfl (.inr rfl) (by omega) ?_
  obtain ⟨x6, hx6⟩ : ∃ x : Int, x = M 0 (i + 6).toNat := ⟨_, rfl⟩
  rw [← hx6]
  have hr6 : qin x6 := by rw [hx6]; exact hJ.1.rng 0 _ (by decide) (by decide)
  show zG n (114, 4080270) 300 311 (1666, [zR 0, zR 8, zR 97, .inl i], [.inl x6, .inl x5, .inl x4, .inl x3, .inl x2, .inl x1, zR 8]) M _
  refine zG_call (by decide) hz zp_155 (hg _ _ rfl) rfl (Nat.le_of_ble_eq_true rfl) ⟨Nat.le_of_ble_eq_true rfl, Nat.le_of_ble_eq_true rfl⟩ (qm_155_8 (by decide) hJ.1 x1 (by omega) x2 (by omega) x3 (by omega) x4 (by omega) x5 (by omega) x6 (by omega)) (fun vr M1 hr => ?_)
  obtain ⟨⟨hCM1, hFM1⟩, hr⟩ := hr
  have hJM1 : qJ M1 := hJ.cls hCM1 hFM1 rfl rfl
  have hc0 : ∀ j, M1 0 j = M 0 j := fun j => hFM1 0 j (by decide)
  obtain ⟨r1, rfl, -⟩ := hr
  show zG n (114, 4080270) 300 311 (1669, [zR 0, zR 8, zR 97, .inl i], [.inl r1]) M1 _
  refine zG_blk (c' := (1675, [zR 0, zR 8, zR 97, .inl i], [.inl (i + 1), zR 0, zR 97])) 6 (by decide) hz (zsteps_seg hg (by rw [show (.inl (i + 1) : zV) = .inl (w32 (i + 1)) from by rw [w32_id (by omega)]]; rfl)) ?_
  refine zG_iald (by decide) hz (hg _ _ rfl) rfl (.inr rfl) (by omega) ?_
  rw [show M1 0 (i + 1).toNat = x1 from (hc0 _).trans hx1.symm]
  show zG n (114, 4080270) 300 311 (1676, [zR 0, zR 8, zR 97, .inl i], [.inl x1, zR 97]) M1 _
  refine zG_blk (c' := (1680, [zR 0, zR 8, zR 97, .inl i], [.inl (i + 2), zR 0, .inl x1, zR 97])) 4 (by decide) hz (zsteps_seg hg (by rw [show (.inl (i + 2) : zV) = .inl (w32 (i + 2)) from by rw [w32_id (by omega)]]; rfl)) ?_
  refine zG_iald (by decide) hz (hg _ _ rfl) rfl (.inr rfl) (by omega) ?_
  rw [show M1 0 (i + 2).toNat = x2 from (hc0 _).trans hx2.symm]
  show zG n (114, 4080270) 300 311 (1681, [zR 0, zR 8, zR 97, .inl i], [.inl x2, .inl x1, zR 97]) M1 _
  refine zG_blk (c' := (1685, [zR 0, zR 8, zR 97, .inl i], [.inl (i + 3), zR 0, .inl x2, .inl x1, zR 97])) 4 (by decide) hz (zsteps_seg hg (by rw [show (.inl (i + 3) : zV) = .inl (w32 (i + 3)) from by rw [w32_id (by omega)]]; rfl)) ?_
  refine zG_iald (by decide) hz (hg _ _ rfl) rfl (.inr rfl) (by omega) ?_
  rw [show M1 0 (i + 3).toNat = x3 from (hc0 _).trans hx3.symm]
  show zG n (114, 4080270) 300 311 (1686, [zR 0, zR 8, zR 97, .inl i], [.inl x3, .inl x2, .inl x1, zR 97]) M1 _
  refine zG_blk (c' := (1690, [zR 0, zR 8, zR 97, .inl i], [.inl (i + 4), zR 0, .inl x3, .inl x2, .inl x1, zR 97])) 4 (by decide) hz (zsteps_seg hg (by rw [show (.inl (i + 4) : zV) = .inl (w32 (i + 4)) from by rw [w32_id (by omega)]]; rfl)) ?_
  refine zG_iald (by decide) hz (hg _ _ rfl) rfl (.inr rfl) (by omega) ?_
  rw [show M1 0 (i + 4).toNat = x4 from (hc0 _).trans hx4.symm]
  show zG n (114, 4080270) 300 311 (1691, [zR 0, zR 8, zR 97, .inl i], [.inl x4, .inl x3, .inl x2, .inl x1, zR 97]) M1 _
  refine zG_blk (c' := (1695, [zR 0, zR 8, zR 97, .inl i], [.inl (i + 5), zR 0, .inl x4, .inl x3, .inl x2, .inl x1, zR 97])) 4 (by decide) hz (zsteps_seg hg (by rw [show (.inl (i + 5) : zV) = .inl (w32 (i + 5)) from by rw [w32_id (by omega)]]; rfl)) ?_
  refine zG_iald (by decide) hz (hg _ _ rfl) rfl (.inr rfl) (by omega) ?_
  rw [show M1 0 (i + 5).toNat = x5 from (hc0 _).trans hx5.symm]
  show zG n (114, 4080270) 300 311 (1696, [zR 0, zR 8, zR 97, .inl i], [.inl x5, .inl x4, .inl x3, .inl x2, .inl x1, zR 97]) M1 _
  refine zG_blk (c' := (1701, [zR 0, zR 8, zR 97, .inl i], [.inl (i + 6), zR 0, .inl x5, .inl x4, .inl x3, .inl x2, .inl x1, zR 97])) 4 (by decide) hz (zsteps_seg hg (by rw [show (.inl (i + 6) : zV) = .inl (w32 (i + 6)) from by rw [w32_id (by omega)]]; rfl)) ?_
  refine zG_iald (by decide) hz (hg _ _ rfl) rfl (.inr rfl) (by omega) ?_
  rw [show M1 0 (i + 6).toNat = x6 from (hc0 _).trans hx6.symm]
  show zG n (114, 4080270) 300 311 (1702, [zR 0, zR 8, zR 97, .inl i], [.inl x6, .inl x5, .inl x4, .inl x3, .inl x2, .inl x1, zR 97]) M1 _
  refine zG_call (by decide) hz zp_268 (hg _ _ rfl) rfl (Nat.le_of_ble_eq_true rfl) ⟨Nat.le_of_ble_eq_true rfl, Nat.le_of_ble_eq_true rfl⟩ (qm_268_97 (by decide) hJM1.2.1 x1 (by omega) x2 (by omega) x3 (by omega) x4 (by omega) x5 (by omega) x6 (by omega)) (fun vr M2 hr => ?_)
  obtain ⟨⟨hCM2, hFM2⟩, hr⟩ := hr
  have hJM2 : qJ M2 := hJM1.mdl hCM2 hFM2 rfl (by decide) (fun j _ _ _ _ => hFM2.ar 98 j (by decide) (by decide))
  obtain ⟨r2, hv9⟩ := hr
  first | (obtain ⟨rfl, -⟩ := hv9) | (obtain rfl := hv9)
  show zG n (114, 4080270) 300 311 (1705, [zR 0, zR 8, zR 97, .inl i], [.inl r2]) M2 _
  refine zG_blk (c' := (2158, [zR 0, zR 8, zR 97, .inl i], [])) 2 (by decide) hz (zsteps_seg hg rfl) ?_
  exact K M2 hJM2
noncomputable def sg_33 : List zE := [(1709, .aload_n ⟨1, zfin1⟩, 1710, zx0),
  (1710, .aload_n ⟨0, zfin0⟩, 1711, zx0),
  (1711, .iload_n ⟨3, zfin3⟩, 1712, zx0),
  (1712, .iconst 1, 1713, zx0),
  (1713, .iadd, 1714, zx0),
  (1714, .iaload, 1715, zx0),
  (1715, .aload_n ⟨0, zfin0⟩, 1716, zx0),
  (1716, .iload_n ⟨3, zfin3⟩, 1717, zx0),
  (1717, .iconst 2, 1718, zx0),
  (1718, .iadd, 1719, zx0),
  (1719, .iaload, 1720, zx0),
  (1720, .aload_n ⟨0, zfin0⟩, 1721, zx0),
  (1721, .iload_n ⟨3, zfin3⟩, 1722, zx0),
  (1722, .iconst 3, 1723, zx0),
  (1723, .iadd, 1724, zx0),
  (1724, .iaload, 1725, zx0),
  (1725, .aload_n ⟨0, zfin0⟩, 1726, zx0),
  (1726, .iload_n ⟨3, zfin3⟩, 1727, zx0),
  (1727, .iconst 4, 1728, zx0),
  (1728, .iadd, 1729, zx0),
  (1729, .iaload, 1730, zx0),
  (1730, .aload_n ⟨0, zfin0⟩, 1731, zx0),
  (1731, .iload_n ⟨3, zfin3⟩, 1732, zx0),
  (1732, .iconst 5, 1733, zx0),
  (1733, .iadd, 1734, zx0),
  (1734, .iaload, 1735, zx0),
  (1735, .aload_n ⟨0, zfin0⟩, 1736, zx0),
  (1736, .iload_n ⟨3, zfin3⟩, 1737, zx0),
  (1737, .bipush (6), 1739, zx0),
  (1739, .iadd, 1740, zx0),
  (1740, .iaload, 1741, zx0),
  (1741, .aload_n ⟨0, zfin0⟩, 1742, zx0),
  (1742, .iload_n ⟨3, zfin3⟩, 1743, zx0),
  (1743, .bipush (7), 1745, zx0),
  (1745, .iadd, 1746, zx0),
  (1746, .iaload, 1747, zx0),
  (1747, .invokevirtual 155, 1750, (156, 8, 0, [11])),
  (1750, .pop, 1751, zx0),
  (1751, .aload_n ⟨2, zfin2⟩, 1752, zx0),
  (1752, .aload_n ⟨0, zfin0⟩, 1753, zx0),
  (1753, .iload_n ⟨3, zfin3⟩, 1754, zx0),
  (1754, .iconst 1, 1755, zx0),
  (1755, .iadd, 1756, zx0),
  (1756, .iaload, 1757, zx0),
  (1757, .aload_n ⟨0, zfin0⟩, 1758, zx0),
  (1758, .iload_n ⟨3, zfin3⟩, 1759, zx0),
  (1759, .iconst 2, 1760, zx0),
  (1760, .iadd, 1761, zx0),
  (1761, .iaload, 1762, zx0),
  (1762, .aload_n ⟨0, zfin0⟩, 1763, zx0),
  (1763, .iload_n ⟨3, zfin3⟩, 1764, zx0),
  (1764, .iconst 3, 1765, zx0),
  (1765, .iadd, 1766, zx0),
  (1766, .iaload, 1767, zx0),
  (1767, .aload_n ⟨0, zfin0⟩, 1768, zx0),
  (1768, .iload_n ⟨3, zfin3⟩, 1769, zx0),
  (1769, .iconst 4, 1770, zx0),
  (1770, .iadd, 1771, zx0),
  (1771, .iaload, 1772, zx0),
  (1772, .aload_n ⟨0, zfin0⟩, 1773, zx0),
  (1773, .iload_n ⟨3, zfin3⟩, 1774, zx0),
  (1774, .iconst 5, 1775, zx0),
  (1775, .iadd, 1776, zx0),
  (1776, .iaload, 1777, zx0),
  (1777, .aload_n ⟨0, zfin0⟩, 1778, zx0),
  (1778, .iload_n ⟨3, zfin3⟩, 1779, zx0),
  (1779, .bipush (6), 1781, zx0),
  (1781, .iadd, 1782, zx0),
  (1782, .iaload, 1783, zx0),
  (1783, .aload_n ⟨0, zfin0⟩, 1784, zx0),
  (1784, .iload_n ⟨3, zfin3⟩, 1785, zx0),
  (1785, .bipush (7), 1787, zx0),
  (1787, .iadd, 1788, zx0),
  (1788, .iaload, 1789, zx0),
  (1789, .invokevirtual 159, 1792, (270, 8, 0, [12])),
  (1792, .pop, 1793, zx0),
  (1793, .goto (365), 1796, (2158, 0, 0, []))]
set_option maxRecDepth 100000 in
theorem sh_33 : zSeg zk_L_law sg_33 := zSeg_of 1279 77 1709 (by decide +kernel) rfl (by decide +kernel)
set_option maxRecDepth 100000 in
theorem qL_33 (hJ : qJ M) (hn : n ≤ 4096) (hi : 0 ≤ i ∧ i + 8 ≤ n) (K : ∀ M', qJ M' → zG n (114, 4080270) 300 311 (2158, [zR 0, zR 8, zR 97, .inl i], []) M' qLQ) : zG n (114, 4080270) 300 311 (1709, [zR 0, zR 8, zR 97, .inl i], []) M qLQ := by
  have hz := zp_311
  have hg := sh_33
  refine zG_blk (c' := (1714, [zR 0, zR 8, zR 97, .inl i], [.inl (i + 1), zR 0, zR 8])) 5 (by decide) hz (zsteps_seg hg (by rw [show (.inl (i + 1) : zV) = .inl (w32 (i + 1)) from by rw [w32_id (by omega)]]; rfl)) ?_
  refine zG_iald (by decide) hz (hg _ _ rfl) rfl (.inr rfl) (by omega) ?_
  obtain ⟨x1, hx1⟩ : ∃ x : Int, x = M 0 (i + 1).toNat := ⟨_, rfl⟩
  rw [← hx1]
  have hr1 : qin x1 := by rw [hx1]; exact hJ.1.rng 0 _ (by decide) (by decide)
  show zG n (114, 4080270) 300 311 (1715, [zR 0, zR 8, zR 97, .inl i], [.inl x1, zR 8]) M _
  refine zG_blk (c' := (1719, [zR 0, zR 8, zR 97, .inl i], [.inl (i + 2), zR 0, .inl x1, zR 8])) 4 (by decide) hz (zsteps_seg hg (by rw [show (.inl (i + 2) : zV) = .inl (w32 (i + 2)) from by rw [w32_id (by omega)]]; rfl)) ?_
  refine zG_iald (by decide) hz (hg _ _ rfl) rfl (.inr rfl) (by omega) ?_
  obtain ⟨x2, hx2⟩ : ∃ x : Int, x = M 0 (i + 2).toNat := ⟨_, rfl⟩
  rw [← hx2]
  have hr2 : qin x2 := by rw [hx2]; exact hJ.1.rng 0 _ (by decide) (by decide)
  show zG n (114, 4080270) 300 311 (1720, [zR 0, zR 8, zR 97, .inl i], [.inl x2, .inl x1, zR 8]) M _
  refine zG_blk (c' := (1724, [zR 0, zR 8, zR 97, .inl i], [.inl (i + 3), zR 0, .inl x2, .inl x1, zR 8])) 4 (by decide) hz (zsteps_seg hg (by rw [show (.inl (i + 3) : zV) = .inl (w32 (i + 3)) from by rw [w32_id (by omega)]]; rfl)) ?_
  refine zG_iald (by decide) hz (hg _ _ rfl) rfl (.inr rfl) (by omega) ?_
  obtain ⟨x3, hx3⟩ : ∃ x : Int, x = M 0 (i + 3).toNat := ⟨_, rfl⟩
  rw [← hx3]
  have hr3 : qin x3 := by rw [hx3]; exact hJ.1.rng 0 _ (by decide) (by decide)
  show zG n (114, 4080270) 300 311 (1725, [zR 0, zR 8, zR 97, .inl i], [.inl x3, .inl x2, .inl x1, zR 8]) M _
  refine zG_blk (c' := (1729, [zR 0, zR 8, zR 97, .inl i], [.inl (i + 4), zR 0, .inl x3, .inl x2, .inl x1, zR 8])) 4 (by decide) hz (zsteps_seg hg (by rw [show (.inl (i + 4) : zV) = .inl (w32 (i + 4)) from by rw [w32_id (by omega)]]; rfl)) ?_
  refine zG_iald (by decide) hz (hg _ _ rfl) rfl (.inr rfl) (by omega) ?_
  obtain ⟨x4, hx4⟩ : ∃ x : Int, x = M 0 (i + 4).toNat := ⟨_, rfl⟩
  rw [← hx4]
  have hr4 : qin x4 := by rw [hx4]; exact hJ.1.rng 0 _ (by decide) (by decide)
  show zG n (114, 4080270) 300 311 (1730, [zR 0, zR 8, zR 97, .inl i], [.inl x4, .inl x3, .inl x2, .inl x1, zR 8]) M _
  refine zG_blk (c' := (1734, [zR 0, zR 8, zR 97, .inl i], [.inl (i + 5), zR 0, .inl x4, .inl x3, .inl x2, .inl x1, zR 8])) 4 (by decide) hz (zsteps_seg hg (by rw [show (.inl (i + 5) : zV) = .inl (w32 (i + 5)) from by rw [w32_id (by omega)]]; rfl)) ?_
  refine zG_iald (by decide) hz (hg _ _ rfl) rfl (.inr rfl) (by omega) ?_
  obtain ⟨x5, hx5⟩ : ∃ x : Int, x = M 0 (i + 5).toNat := ⟨_, rfl⟩
  rw [← hx5]
  have hr5 : qin x5 := by rw [hx5]; exact hJ.1.rng 0 _ (by decide) (by decide)
  show zG n (114, 4080270) 300 311 (1735, [zR 0, zR 8, zR 97, .inl i], [.inl x5, .inl x4, .inl x3, .inl x2, .inl x1, zR 8]) M _
  refine zG_blk (c' := (1740, [zR 0, zR 8, zR 97, .inl i], [.inl (i + 6), zR 0, .inl x5, .inl x4, .inl x3, .inl x2, .inl x1, zR 8])) 4 (by decide) hz (zsteps_seg hg (by rw [show (.inl (i + 6) : zV) = .inl (w32 (i + 6)) from by rw [w32_id (by omega)]]; rfl)) ?_
  refine zG_iald (by decide) hz (hg _ _ rfl) rfl (.inr rfl) (by omega) ?_
  obtain ⟨x6, hx6⟩ : ∃ x : Int, x = M 0 (i + 6).toNat := ⟨_, rfl⟩
  rw [← hx6]
  have hr6 : qin x6 := by rw [hx6]; exact hJ.1.rng 0 _ (by decide) (by decide)
  show zG n (114, 4080270) 300 311 (1741, [zR 0, zR 8, zR 97, .inl i], [.inl x6, .inl x5, .inl x4, .inl x3, .inl x2, .inl x1, zR 8]) M _
  refine zG_blk (c' := (1746, [zR 0, zR 8, zR 97, .inl i], [.inl (i + 7), zR 0, .inl x6, .inl x5, .inl x4, .inl x3, .inl x2, .inl x1, zR 8])) 4 (by decide) hz (zsteps_seg hg (by rw [show (.inl (i + 7) : zV) = .inl (w32 (i + 7)) from by rw [w32_id (by omega)]]; rfl)) ?_
  refine zG_iald (by decide) hz (hg _ _ rfl) rfl (.inr rfl) (by omega) ?_
  obtain ⟨x7, hx7⟩ : ∃ x : Int, x = M 0 (i + 7).toNat := ⟨_, rfl⟩
  rw [← hx7]
  have hr7 : qin x7 := by rw [hx7]; exact hJ.1.rng 0 _ (by decide) (by decide)
  show zG n (114, 4080270) 300 311 (1747, [zR 0, zR 8, zR 97, .inl i], [.inl x7, .inl x6, .inl x5, .inl x4, .inl x3, .inl x2, .inl x1, zR 8]) M _
  refine zG_call (by decide) hz zp_156 (hg _ _ rfl) rfl (Nat.le_of_ble_eq_true rfl) ⟨Nat.le_of_ble_eq_true rfl, Nat.le_of_ble_eq_true rfl⟩ (qm_156_8 (by decide) hJ.1 x1 (by omega) x2 (by omega) x3 (by omega) x4 (by omega) x5 (by omega) x6 (by omega) x7 (by omega)) (fun vr M1 hr => ?_)
  obtain ⟨⟨hCM1, hFM1⟩, hr⟩ := hr
  have hJM1 : qJ M1 := hJ.cls hCM1 hFM1 rfl rfl
  have hc0 : ∀ j, M1 0 j = M 0 j := fun j => hFM1 0 j (by decide)
  obtain ⟨r1, rfl, -⟩ := hr
  show zG n (114, 4080270) 300 311 (1750, [zR 0, zR 8, zR 97, .inl i], [.inl r1]) M1 _
  refine zG_blk (c' := (1756, [zR 0, zR 8, zR 97, .inl i], [.inl (i + 1), zR 0, zR 97])) 6 (by decide) hz (zsteps_seg hg (by rw [show (.inl (i + 1) : zV) = .inl (w32 (i + 1)) from by rw [w32_id (by omega)]]; rfl)) ?_
  refine zG_iald (by decide) hz (hg _ _ rfl) rfl (.inr rfl) (by omega) ?_
  rw [show M1 0 (i + 1).toNat = x1 from (hc0 _).trans hx1.symm]
  show zG n (114, 4080270) 300 311 (1757, [zR 0, zR 8, zR 97, .inl i], [.inl x1, zR 97]) M1 _
  refine zG_blk (c' := (1761, [zR 0, zR 8, zR 97, .inl i], [.inl (i + 2), zR 0, .inl x1, zR 97])) 4 (by decide) hz (zsteps_seg hg (by rw [show (.inl (i + 2) : zV) = .inl (w32 (i + 2)) from by rw [w32_id (by omega)]]; rfl)) ?_
  refine zG_iald (by decide) hz (hg _ _ rfl) rfl (.inr rfl) (by omega) ?_
  rw [show M1 0 (i + 2).toNat = x2 from (hc0 _).trans hx2.symm]
  show zG n (114, 4080270) 300 311 (1762, [zR 0, zR 8, zR 97, .inl i], [.inl x2, .inl x1, zR 97]) M1 _
  refine zG_blk (c' := (1766, [zR 0, zR 8, zR 97, .inl i], [.inl (i + 3), zR 0, .inl x2, .inl x1, zR 97])) 4 (by decide) hz (zsteps_seg hg (by rw [show (.inl (i + 3) : zV) = .inl (w32 (i + 3)) from by rw [w32_id (by omega)]]; rfl)) ?_
  refine zG_iald (by decide) hz (hg _ _ rfl) rfl (.inr rfl) (by omega) ?_
  rw [show M1 0 (i + 3).toNat = x3 from (hc0 _).trans hx3.symm]
  show zG n (114, 4080270) 300 311 (1767, [zR 0, zR 8, zR 97, .inl i], [.inl x3, .inl x2, .inl x1, zR 97]) M1 _
  refine zG_blk (c' := (1771, [zR 0, zR 8, zR 97, .inl i], [.inl (i + 4), zR 0, .inl x3, .inl x2, .inl x1, zR 97])) 4 (by decide) hz (zsteps_seg hg (by rw [show (.inl (i + 4) : zV) = .inl (w32 (i + 4)) from by rw [w32_id (by omega)]]; rfl)) ?_
  refine zG_iald (by decide) hz (hg _ _ rfl) rfl (.inr rfl) (by omega) ?_
  rw [show M1 0 (i + 4).toNat = x4 from (hc0 _).trans hx4.symm]
  show zG n (114, 4080270) 300 311 (1772, [zR 0, zR 8, zR 97, .inl i], [.inl x4, .inl x3, .inl x2, .inl x1, zR 97]) M1 _
  refine zG_blk (c' := (1776, [zR 0, zR 8, zR 97, .inl i], [.inl (i + 5), zR 0, .inl x4, .inl x3, .inl x2, .inl x1, zR 97])) 4 (by decide) hz (zsteps_seg hg (by rw [show (.inl (i + 5) : zV) = .inl (w32 (i + 5)) from by rw [w32_id (by omega)]]; rfl)) ?_
  refine zG_iald (by decide) hz (hg _ _ rfl) rfl (.inr rfl) (by omega) ?_
  rw [show M1 0 (i + 5).toNat = x5 from (hc0 _).trans hx5.symm]
  show zG n (114, 4080270) 300 311 (1777, [zR 0, zR 8, zR 97, .inl i], [.inl x5, .inl x4, .inl x3, .inl x2, .inl x1, zR 97]) M1 _
  refine zG_blk (c' := (1782, [zR 0, zR 8, zR 97, .inl i], [.inl (i + 6), zR 0, .inl x5, .inl x4, .inl x3, .inl x2, .inl x1, zR 97])) 4 (by decide) hz (zsteps_seg hg (by rw [show (.inl (i + 6) : zV) = .inl (w32 (i + 6)) from by rw [w32_id (by omega)]]; rfl)) ?_
  refine zG_iald (by decide) hz (hg _ _ rfl) rfl (.inr rfl) (by omega) ?_
  rw [show M1 0 (i + 6).toNat = x6 from (hc0 _).trans hx6.symm]
  show zG n (114, 4080270) 300 311 (1783, [zR 0, zR 8, zR 97, .inl i], [.inl x6, .inl x5, .inl x4, .inl x3, .inl x2, .inl x1, zR 97]) M1 _
  refine zG_blk (c' := (1788, [zR 0, zR 8, zR 97, .inl i], [.inl (i + 7), zR 0, .inl x6, .inl x5, .inl x4, .inl x3, .inl x2, .inl x1, zR 97])) 4 (by decide) hz (zsteps_seg hg (by rw [show (.inl (i + 7) : zV) = .inl (w32 (i + 7)) from by rw [w32_id (by omega)]]; rfl)) ?_
  refine zG_iald (by decide) hz (hg _ _ rfl) rfl (.inr rfl) (by omega) ?_
  rw [show M1 0 (i + 7).toNat = x7 from (hc0 _).trans hx7.symm]
  show zG n (114, 4080270) 300 311 (1789, [zR 0, zR 8, zR 97, .inl i], [.inl x7, .inl x6, .inl x5, .inl x4, .inl x3, .inl x2, .inl x1, zR 97]) M1 _
  refine zG_call (by decide) hz zp_270 (hg _ _ rfl) rfl (Nat.le_of_ble_eq_true rfl) ⟨Nat.le_of_ble_eq_true rfl, Nat.le_of_ble_eq_true rfl⟩ (qm_270_97 (by decide) hJM1.2.1 x1 (by omega) x2 (by omega) x3 (by omega) x4 (by omega) x5 (by omega) x6 (by omega) x7 (by omega)) (fun vr M2 hr => ?_)
  obtain ⟨⟨hCM2, hFM2⟩, hr⟩ := hr
  have hJM2 : qJ M2 := hJM1.mdl hCM2 hFM2 rfl (by decide) (fun j _ _ _ _ => hFM2.ar 98 j (by decide) (by decide))
  obtain ⟨r2, hv9⟩ := hr
  first | (obtain ⟨rfl, -⟩ := hv9) | (obtain rfl := hv9)
  show zG n (114, 4080270) 300 311 (1792, [zR 0, zR 8, zR 97, .inl i], [.inl r2]) M2 _
  refine zG_blk (c' := (2158, [zR 0, zR 8, zR 97, .inl i], [])) 2 (by decide) hz (zsteps_seg hg rfl) ?_
  exact K M2 hJM2
noncomputable def sg_34 : List zE := [(1796, .aload_n ⟨1, zfin1⟩, 1797, zx0),
  (1797, .aload_n ⟨0, zfin0⟩, 1798, zx0),
  (1798, .iload_n ⟨3, zfin3⟩, 1799, zx0),
  (1799, .iconst 1, 1800, zx0),
  (1800, .iadd, 1801, zx0),
  (1801, .iaload, 1802, zx0),
  (1802, .aload_n ⟨0, zfin0⟩, 1803, zx0),
  (1803, .iload_n ⟨3, zfin3⟩, 1804, zx0),
  (1804, .iconst 2, 1805, zx0),
  (1805, .iadd, 1806, zx0),
  (1806, .iaload, 1807, zx0),
  (1807, .aload_n ⟨0, zfin0⟩, 1808, zx0),
  (1808, .iload_n ⟨3, zfin3⟩, 1809, zx0),
  (1809, .iconst 3, 1810, zx0),
  (1810, .iadd, 1811, zx0),
  (1811, .iaload, 1812, zx0),
  (1812, .ifCond .eq (7), 1815, (1819, 0, 0, [])),
  (1815, .iconst 1, 1816, zx0),
  (1816, .goto (4), 1819, (1820, 0, 0, [])),
  (1819, .iconst 0, 1820, zx0),
  (1820, .invokevirtual 160, 1823, (157, 4, 0, [11])),
  (1823, .pop, 1824, zx0),
  (1824, .aload_n ⟨2, zfin2⟩, 1825, zx0),
  (1825, .aload_n ⟨0, zfin0⟩, 1826, zx0),
  (1826, .iload_n ⟨3, zfin3⟩, 1827, zx0),
  (1827, .iconst 1, 1828, zx0),
  (1828, .iadd, 1829, zx0),
  (1829, .iaload, 1830, zx0),
  (1830, .aload_n ⟨0, zfin0⟩, 1831, zx0),
  (1831, .iload_n ⟨3, zfin3⟩, 1832, zx0),
  (1832, .iconst 2, 1833, zx0),
  (1833, .iadd, 1834, zx0),
  (1834, .iaload, 1835, zx0),
  (1835, .aload_n ⟨0, zfin0⟩, 1836, zx0),
  (1836, .iload_n ⟨3, zfin3⟩, 1837, zx0),
  (1837, .iconst 3, 1838, zx0),
  (1838, .iadd, 1839, zx0),
  (1839, .iaload, 1840, zx0),
  (1840, .ifCond .eq (7), 1843, (1847, 0, 0, [])),
  (1843, .iconst 1, 1844, zx0),
  (1844, .goto (4), 1847, (1848, 0, 0, [])),
  (1847, .iconst 0, 1848, zx0),
  (1848, .invokevirtual 164, 1851, (271, 4, 0, [12])),
  (1851, .pop, 1852, zx0),
  (1852, .goto (306), 1855, (2158, 0, 0, []))]
set_option maxRecDepth 100000 in
theorem sh_34 : zSeg zk_L_law sg_34 := zSeg_of 1356 45 1796 (by decide +kernel) rfl (by decide +kernel)
end LW
