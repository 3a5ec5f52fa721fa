section LW
variable {n : Nat} {M : zM} {i : Int}
set_option maxRecDepth 100000 in
theorem qL_34 (hJ : qJ M) (hn : n ≤ 4096) (hi : 0 ≤ i ∧ i + 8 ≤ n) (K : ∀ M', qJ M' → zG n (114, 4080270) 300 311 (2158, [zR 0, zR 8, zR 97, .inl i], []) M' qLQ) : zG n (114, 4080270) 300 311 (1796, [zR 0, zR 8, zR 97, .inl i], []) M qLQ := by
  have hz := zp_311
  have hg := sh_34
  refine zG_blk (c' := (1801, [zR 0, zR 8, zR 97, .inl i], [.inl (i + 1), zR 0, zR 8])) 5 (by decide) hz (zsteps_seg hg (by rw [show (.inl (i + 1) : zV) = .inl (w32 (i + 1)) from by rw [w32_id (by omega)]]; rfl)) ?_
  refine zG_iald (by decide) hz (hg _ _ rfl) rfl (.inr rfl) (by omega) ?_
  obtain ⟨x1, hx1⟩ : ∃ x : Int, x = M 0 (i + 1).toNat := ⟨_, rfl⟩
  rw [← hx1]
  have hr1 : qin x1 := by rw [hx1]; exact hJ.1.rng 0 _ (by decide) (by decide)
  show zG n (114, 4080270) 300 311 (1802, [zR 0, zR 8, zR 97, .inl i], [.inl x1, zR 8]) M _
  refine zG_blk (c' := (1806, [zR 0, zR 8, zR 97, .inl i], [.inl (i + 2), zR 0, .inl x1, zR 8])) 4 (by decide) hz (zsteps_seg hg (by rw [show (.inl (i + 2) : zV) = .inl (w32 (i + 2)) from by rw [w32_id (by omega)]]; rfl)) ?_
  refine zG_iald (by decide) hz (hg _ _ rfl) rfl (.inr rfl) (by omega) ?_
  obtain ⟨x2, hx2⟩ : ∃ x : Int, x = M 0 (i + 2).toNat := ⟨_, rfl⟩
  rw [← hx2]
  have hr2 : qin x2 := by rw [hx2]; exact hJ.1.rng 0 _ (by decide) (by decide)
  show zG n (114, 4080270) 300 311 (1807, [zR 0, zR 8, zR 97, .inl i], [.inl x2, .inl x1, zR 8]) M _
  refine zG_blk (c' := (1811, [zR 0, zR 8, zR 97, .inl i], [.inl (i + 3), zR 0, .inl x2, .inl x1, zR 8])) 4 (by decide) hz (zsteps_seg hg (by rw [show (.inl (i + 3) : zV) = .inl (w32 (i + 3)) from by rw [w32_id (by omega)]]; rfl)) ?_
  refine zG_iald (by decide) hz (hg _ _ rfl) rfl (.inr rfl) (by omega) ?_
  obtain ⟨x3, hx3⟩ : ∃ x : Int, x = M 0 (i + 3).toNat := ⟨_, rfl⟩
  rw [← hx3]
  have hr3 : qin x3 := by rw [hx3]; exact hJ.1.rng 0 _ (by decide) (by decide)
  show zG n (114, 4080270) 300 311 (1812, [zR 0, zR 8, zR 97, .inl i], [.inl x3, .inl x2, .inl x1, zR 8]) M _
  have j1820 : ∀ b1812 : Int, ((x3 = 0 ∧ b1812 = 0) ∨ (¬ x3 = 0 ∧ b1812 = 1)) → zG n (114, 4080270) 300 311 (1820, [zR 0, zR 8, zR 97, .inl i], [.inl b1812, .inl x2, .inl x1, zR 8]) M qLQ := by
    intro b1812 hb1812
    refine zG_call (by decide) hz zp_157 (hg _ _ rfl) rfl (Nat.le_of_ble_eq_true rfl) ⟨Nat.le_of_ble_eq_true rfl, Nat.le_of_ble_eq_true rfl⟩ (zG.andH (qm_157_8 (by decide) hJ.1 x1 (by omega) x2 (by omega) b1812 (by omega)) (fh_157_8 x1 x2 b1812)) (fun vr M1 hr => ?_)
    obtain ⟨⟨⟨hC1, hF1⟩, -⟩, rfl, hM1⟩ := hr
    have hi := hF1.hi rfl
    have hI := hJ.2.1.same hi
    have hc0 : ∀ j, M1 0 j = M 0 j := fun j => hF1 0 j (by decide)
    show zG n (114, 4080270) 300 311 (1823, [zR 0, zR 8, zR 97, .inl i], [.inl (hf_157_8 M x1 x2 b1812).1]) M1 _
    refine zG_blk (c' := (1829, [zR 0, zR 8, zR 97, .inl i], [.inl (i + 1), zR 0, zR 97])) 6 (by decide) hz (zsteps_seg hg (by rw [show (.inl (i + 1) : zV) = .inl (w32 (i + 1)) from by rw [w32_id (by omega)]]; rfl)) ?_
    refine zG_iald (by decide) hz (hg _ _ rfl) rfl (.inr rfl) (by omega) ?_
    rw [show M1 0 (i + 1).toNat = x1 from (hc0 _).trans hx1.symm]
    show zG n (114, 4080270) 300 311 (1830, [zR 0, zR 8, zR 97, .inl i], [.inl x1, zR 97]) M1 _
    refine zG_blk (c' := (1834, [zR 0, zR 8, zR 97, .inl i], [.inl (i + 2), zR 0, .inl x1, zR 97])) 4 (by decide) hz (zsteps_seg hg (by rw [show (.inl (i + 2) : zV) = .inl (w32 (i + 2)) from by rw [w32_id (by omega)]]; rfl)) ?_
    refine zG_iald (by decide) hz (hg _ _ rfl) rfl (.inr rfl) (by omega) ?_
    rw [show M1 0 (i + 2).toNat = x2 from (hc0 _).trans hx2.symm]
    show zG n (114, 4080270) 300 311 (1835, [zR 0, zR 8, zR 97, .inl i], [.inl x2, .inl x1, zR 97]) M1 _
    refine zG_blk (c' := (1839, [zR 0, zR 8, zR 97, .inl i], [.inl (i + 3), zR 0, .inl x2, .inl x1, zR 97])) 4 (by decide) hz (zsteps_seg hg (by rw [show (.inl (i + 3) : zV) = .inl (w32 (i + 3)) from by rw [w32_id (by omega)]]; rfl)) ?_
    refine zG_iald (by decide) hz (hg _ _ rfl) rfl (.inr rfl) (by omega) ?_
    rw [show M1 0 (i + 3).toNat = x3 from (hc0 _).trans hx3.symm]
    show zG n (114, 4080270) 300 311 (1840, [zR 0, zR 8, zR 97, .inl i], [.inl x3, .inl x2, .inl x1, zR 97]) M1 _
    have j1848 : zG n (114, 4080270) 300 311 (1848, [zR 0, zR 8, zR 97, .inl i], [.inl b1812, .inl x2, .inl x1, zR 97]) M1 qLQ := by
      refine zG_call (by decide) hz zp_271 (hg _ _ rfl) rfl (Nat.le_of_ble_eq_true rfl) ⟨Nat.le_of_ble_eq_true rfl, Nat.le_of_ble_eq_true rfl⟩ (zG.andH (qm_271_97 (by decide) hI x1 (by omega) x2 (by omega) b1812 (by omega)) (fh_271_97 x1 x2 b1812)) (fun vr M2 hr => ?_)
      obtain ⟨⟨⟨hC2, hF2⟩, -⟩, rfl, hM2⟩ := hr
      have hm := hm_157 hJ.2.2.1 hJ.1.tb hJ.2.1.bd (a1 := x1) (a2 := x2) (a3 := b1812) (by omega)
      rw [← hM1] at hm
      rw [← hM2] at hm
      have hJ2 : qJ M2 := hJ.mut hC1 hF1 rfl rfl hC2 hF2 rfl (by decide) hm.2
      show zG n (114, 4080270) 300 311 (1851, [zR 0, zR 8, zR 97, .inl i], [.inl (hf_271_97 M1 x1 x2 b1812).1]) M2 _
      refine zG_blk (c' := (2158, [zR 0, zR 8, zR 97, .inl i], [])) 2 (by decide) hz (zsteps_seg hg rfl) ?_
      exact K M2 hJ2
    refine zG_if_eq (by decide) hz (hg _ _ rfl) (fun hb => ?_) (fun hb => ?_)
    · exact zG_blk (c' := (1848, [zR 0, zR 8, zR 97, .inl i], [.inl b1812, .inl x2, .inl x1, zR 97])) 1 (by decide) hz (zsteps_seg hg (by rw [show b1812 = 0 by omega]; rfl)) j1848
    · exact zG_blk (c' := (1848, [zR 0, zR 8, zR 97, .inl i], [.inl b1812, .inl x2, .inl x1, zR 97])) 2 (by decide) hz (zsteps_seg hg (by rw [show b1812 = 1 by omega]; rfl)) j1848
  refine zG_if_eq (by decide) hz (hg _ _ rfl) (fun hb => ?_) (fun hb => ?_)
  · exact zG_blk (c' := (1820, [zR 0, zR 8, zR 97, .inl i], [.inl 0, .inl x2, .inl x1, zR 8])) 1 (by decide) hz (zsteps_seg hg rfl) (j1820 0 (.inl ⟨hb, rfl⟩))
  · exact zG_blk (c' := (1820, [zR 0, zR 8, zR 97, .inl i], [.inl 1, .inl x2, .inl x1, zR 8])) 2 (by decide) hz (zsteps_seg hg rfl) (j1820 1 (.inr ⟨hb, rfl⟩))
noncomputable def sg_35 : List zE := [(1855, .aload_n ⟨1, zfin1⟩, 1856, zx0),
  (1856, .aload_n ⟨0, zfin0⟩, 1857, zx0),
  (1857, .iload_n ⟨3, zfin3⟩, 1858, zx0),
  (1858, .iconst 1, 1859, zx0),
  (1859, .iadd, 1860, zx0),
  (1860, .iaload, 1861, zx0),
  (1861, .aload_n ⟨0, zfin0⟩, 1862, zx0),
  (1862, .iload_n ⟨3, zfin3⟩, 1863, zx0),
  (1863, .iconst 2, 1864, zx0),
  (1864, .iadd, 1865, zx0),
  (1865, .iaload, 1866, zx0),
  (1866, .invokevirtual 165, 1869, (158, 3, 0, [11])),
  (1869, .pop, 1870, zx0),
  (1870, .aload_n ⟨2, zfin2⟩, 1871, zx0),
  (1871, .aload_n ⟨0, zfin0⟩, 1872, zx0),
  (1872, .iload_n ⟨3, zfin3⟩, 1873, zx0),
  (1873, .iconst 1, 1874, zx0),
  (1874, .iadd, 1875, zx0),
  (1875, .iaload, 1876, zx0),
  (1876, .aload_n ⟨0, zfin0⟩, 1877, zx0),
  (1877, .iload_n ⟨3, zfin3⟩, 1878, zx0),
  (1878, .iconst 2, 1879, zx0),
  (1879, .iadd, 1880, zx0),
  (1880, .iaload, 1881, zx0),
  (1881, .invokevirtual 168, 1884, (278, 3, 0, [12])),
  (1884, .pop, 1885, zx0),
  (1885, .goto (273), 1888, (2158, 0, 0, []))]
set_option maxRecDepth 100000 in
theorem sh_35 : zSeg zk_L_law sg_35 := zSeg_of 1401 27 1855 (by decide +kernel) rfl (by decide +kernel)
set_option maxRecDepth 100000 in
theorem qL_35 (hJ : qJ M) (hn : n ≤ 4096) (hi : 0 ≤ i ∧ i + 8 ≤ n) (K : ∀ M', qJ M' → zG n (114, 4080270) 300 311 (2158, [zR 0, zR 8, zR 97, .inl i], []) M' qLQ) : zG n (114, 4080270) 300 311 (1855, [zR 0, zR 8, zR 97, .inl i], []) M qLQ := by
  have hz := zp_311
  have hg := sh_35
  refine zG_blk (c' := (1860, [zR 0, zR 8, zR 97, .inl i], [.inl (i + 1), zR 0, zR 8])) 5 (by decide) hz (zsteps_seg hg (by rw [show (.inl (i + 1) : zV) = .inl (w32 (i + 1)) from by rw [w32_id (by omega)]]; rfl)) ?_
  refine zG_iald (by decide) hz (hg _ _ rfl) rfl (.inr rfl) (by omega) ?_
  obtain ⟨x1, hx1⟩ : ∃ x : Int, x = M 0 (i + 1).toNat := ⟨_, rfl⟩
  rw [← hx1]
  have hr1 : qin x1 := by rw [hx1]; exact hJ.1.rng 0 _ (by decide) (by decide)
  show zG n (114, 4080270) 300 311 (1861, [zR 0, zR 8, zR 97, .inl i], [.inl x1, zR 8]) M _
  refine zG_blk (c' := (1865, [zR 0, zR 8, zR 97, .inl i], [.inl (i + 2), zR 0, .inl x1, zR 8])) 4 (by decide) hz (zsteps_seg hg (by rw [show (.inl (i + 2) : zV) = .inl (w32 (i + 2)) from by rw [w32_id (by omega)]]; rfl)) ?_
  refine zG_iald (by decide) hz (hg _ _ rfl) rfl (.inr rfl) (by omega) ?_
  obtain ⟨x2, hx2⟩ : ∃ x : Int, x = M 0 (i + 2).toNat := ⟨_, rfl⟩
  rw [← hx2]
  have hr2 : qin x2 := by rw [hx2]; exact hJ.1.rng 0 _ (by decide) (by decide)
  show zG n (114, 4080270) 300 311 (1866, [zR 0, zR 8, zR 97, .inl i], [.inl x2, .inl x1, zR 8]) M _
  refine zG_call (by decide) hz zp_158 (hg _ _ rfl) rfl (Nat.le_of_ble_eq_true rfl) ⟨Nat.le_of_ble_eq_true rfl, Nat.le_of_ble_eq_true rfl⟩ (qm_158_8 (by decide) hJ.1 x1 (by omega) x2 (by omega)) (fun vr M1 hr => ?_)
  obtain ⟨⟨hCM1, hFM1⟩, hr⟩ := hr
  have hJM1 : qJ M1 := hJ.cls hCM1 hFM1 rfl rfl
  have hc0 : ∀ j, M1 0 j = M 0 j := fun j => hFM1 0 j (by decide)
  obtain ⟨r1, rfl, -⟩ := hr
  show zG n (114, 4080270) 300 311 (1869, [zR 0, zR 8, zR 97, .inl i], [.inl r1]) M1 _
  refine zG_blk (c' := (1875, [zR 0, zR 8, zR 97, .inl i], [.inl (i + 1), zR 0, zR 97])) 6 (by decide) hz (zsteps_seg hg (by rw [show (.inl (i + 1) : zV) = .inl (w32 (i + 1)) from by rw [w32_id (by omega)]]; rfl)) ?_
  refine zG_iald (by decide) hz (hg _ _ rfl) rfl (.inr rfl) (by omega) ?_
  rw [show M1 0 (i + 1).toNat = x1 from (hc0 _).trans hx1.symm]
  show zG n (114, 4080270) 300 311 (1876, [zR 0, zR 8, zR 97, .inl i], [.inl x1, zR 97]) M1 _
  refine zG_blk (c' := (1880, [zR 0, zR 8, zR 97, .inl i], [.inl (i + 2), zR 0, .inl x1, zR 97])) 4 (by decide) hz (zsteps_seg hg (by rw [show (.inl (i + 2) : zV) = .inl (w32 (i + 2)) from by rw [w32_id (by omega)]]; rfl)) ?_
  refine zG_iald (by decide) hz (hg _ _ rfl) rfl (.inr rfl) (by omega) ?_
  rw [show M1 0 (i + 2).toNat = x2 from (hc0 _).trans hx2.symm]
  show zG n (114, 4080270) 300 311 (1881, [zR 0, zR 8, zR 97, .inl i], [.inl x2, .inl x1, zR 97]) M1 _
  refine zG_call (by decide) hz zp_278 (hg _ _ rfl) rfl (Nat.le_of_ble_eq_true rfl) ⟨Nat.le_of_ble_eq_true rfl, Nat.le_of_ble_eq_true rfl⟩ (qm_278_97 (by decide) hJM1.2.1 x1 (by omega) x2 (by omega)) (fun vr M2 hr => ?_)
  obtain ⟨⟨hCM2, hFM2⟩, hr⟩ := hr
  have hJM2 : qJ M2 := hJM1.mdl hCM2 hFM2 rfl (by decide) (fun j _ _ _ _ => hFM2.ar 98 j (by decide) (by decide))
  obtain ⟨r2, hv9⟩ := hr
  first | (obtain ⟨rfl, -⟩ := hv9) | (obtain rfl := hv9)
  show zG n (114, 4080270) 300 311 (1884, [zR 0, zR 8, zR 97, .inl i], [.inl r2]) M2 _
  refine zG_blk (c' := (2158, [zR 0, zR 8, zR 97, .inl i], [])) 2 (by decide) hz (zsteps_seg hg rfl) ?_
  exact K M2 hJM2
noncomputable def sg_36 : List zE := [(1888, .aload_n ⟨1, zfin1⟩, 1889, zx0),
  (1889, .aload_n ⟨0, zfin0⟩, 1890, zx0),
  (1890, .iload_n ⟨3, zfin3⟩, 1891, zx0),
  (1891, .iconst 1, 1892, zx0),
  (1892, .iadd, 1893, zx0),
  (1893, .iaload, 1894, zx0),
  (1894, .aload_n ⟨0, zfin0⟩, 1895, zx0),
  (1895, .iload_n ⟨3, zfin3⟩, 1896, zx0),
  (1896, .iconst 2, 1897, zx0),
  (1897, .iadd, 1898, zx0),
  (1898, .iaload, 1899, zx0),
  (1899, .aload_n ⟨0, zfin0⟩, 1900, zx0),
  (1900, .iload_n ⟨3, zfin3⟩, 1901, zx0),
  (1901, .iconst 3, 1902, zx0),
  (1902, .iadd, 1903, zx0),
  (1903, .iaload, 1904, zx0),
  (1904, .invokevirtual 169, 1907, (159, 4, 0, [11])),
  (1907, .pop, 1908, zx0),
  (1908, .aload_n ⟨2, zfin2⟩, 1909, zx0),
  (1909, .aload_n ⟨0, zfin0⟩, 1910, zx0),
  (1910, .iload_n ⟨3, zfin3⟩, 1911, zx0),
  (1911, .iconst 1, 1912, zx0),
  (1912, .iadd, 1913, zx0),
  (1913, .iaload, 1914, zx0),
  (1914, .aload_n ⟨0, zfin0⟩, 1915, zx0),
  (1915, .iload_n ⟨3, zfin3⟩, 1916, zx0),
  (1916, .iconst 2, 1917, zx0),
  (1917, .iadd, 1918, zx0),
  (1918, .iaload, 1919, zx0),
  (1919, .aload_n ⟨0, zfin0⟩, 1920, zx0),
  (1920, .iload_n ⟨3, zfin3⟩, 1921, zx0),
  (1921, .iconst 3, 1922, zx0),
  (1922, .iadd, 1923, zx0),
  (1923, .iaload, 1924, zx0),
  (1924, .invokevirtual 172, 1927, (279, 4, 0, [12])),
  (1927, .pop, 1928, zx0),
  (1928, .goto (230), 1931, (2158, 0, 0, []))]
set_option maxRecDepth 100000 in
theorem sh_36 : zSeg zk_L_law sg_36 := zSeg_of 1428 37 1888 (by decide +kernel) rfl (by decide +kernel)
set_option maxRecDepth 100000 in
theorem qL_36 (hJ : qJ M) (hn : n ≤ 4096) (hi : 0 ≤ i ∧ i + 8 ≤ n) (K : ∀ M', qJ M' → zG n (114, 4080270) 300 311 (2158, [zR 0, zR 8, zR 97, .inl i], []) M' qLQ) : zG n (114, 4080270) 300 311 (1888, [zR 0, zR 8, zR 97, .inl i], []) M qLQ := by
  have hz := zp_311
  have hg := sh_36
  refine zG_blk (c' := (1893, [zR 0, zR 8, zR 97, .inl i], [.inl (i + 1), zR 0, zR 8])) 5 (by decide) hz (zsteps_seg hg (by rw [show (.inl (i + 1) : zV) = .inl (w32 (i + 1)) from by rw [w32_id (by omega)]]; rfl)) ?_
  refine zG_iald (by decide) hz (hg _ _ rfl) rfl (.inr rfl) (by omega) ?_
  obtain ⟨x1, hx1⟩ : ∃ x : Int, x = M 0 (i + 1).toNat := ⟨_, rfl⟩
  rw [← hx1]
  have hr1 : qin x1 := by rw [hx1]; exact hJ.1.rng 0 _ (by decide) (by decide)
  show zG n (114, 4080270) 300 311 (1894, [zR 0, zR 8, zR 97, .inl i], [.inl x1, zR 8]) M _
  refine zG_blk (c' := (1898, [zR 0, zR 8, zR 97, .inl i], [.inl (i + 2), zR 0, .inl x1, zR 8])) 4 (by decide) hz (zsteps_seg hg (by rw [show (.inl (i + 2) : zV) = .inl (w32 (i + 2)) from by rw [w32_id (by omega)]]; rfl)) ?_
  refine zG_iald (by decide) hz (hg _ _ rfl) rfl (.inr rfl) (by omega) ?_
  obtain ⟨x2, hx2⟩ : ∃ x : Int, x = M 0 (i + 2).toNat := ⟨_, rfl⟩
  rw [← hx2]
  have hr2 : qin x2 := by rw [hx2]; exact hJ.1.rng 0 _ (by decide) (by decide)
  show zG n (114, 4080270) 300 311 (1899, [zR 0, zR 8, zR 97, .inl i], [.inl x2, .inl x1, zR 8]) M _
  refine zG_blk (c' := (1903, [zR 0, zR 8, zR 97, .inl i], [.inl (i + 3), zR 0, .inl x2, .inl x1, zR 8])) 4 (by decide) hz (zsteps_seg hg (by rw [show (.inl (i + 3) : zV) = .inl (w32 (i + 3)) from by rw [w32_id (by omega)]]; rfl)) ?_
  refine zG_iald (by decide) hz (hg _ _ rfl) rfl (.inr rfl) (by omega) ?_
  obtain ⟨x3, hx3⟩ : ∃ x : Int, x = M 0 (i + 3).toNat := ⟨_, rfl⟩
  rw [← hx3]
  have hr3 : qin x3 := by rw [hx3]; exact hJ.1.rng 0 _ (by decide) (by decide)
  show zG n (114, 4080270) 300 311 (1904, [zR 0, zR 8, zR 97, .inl i], [.inl x3, .inl x2, .inl x1, zR 8]) M _
  refine zG_call (by decide) hz zp_159 (hg _ _ rfl) rfl (Nat.le_of_ble_eq_true rfl) ⟨Nat.le_of_ble_eq_true rfl, Nat.le_of_ble_eq_true rfl⟩ (qm_159_8 (by decide) hJ.1 x1 (by omega) x2 (by omega) x3 (by omega)) (fun vr M1 hr => ?_)
  obtain ⟨⟨hCM1, hFM1⟩, hr⟩ := hr
  have hJM1 : qJ M1 := hJ.cls hCM1 hFM1 rfl rfl
  have hc0 : ∀ j, M1 0 j = M 0 j := fun j => hFM1 0 j (by decide)
  obtain ⟨r1, rfl, -⟩ := hr
  show zG n (114, 4080270) 300 311 (1907, [zR 0, zR 8, zR 97, .inl i], [.inl r1]) M1 _
  refine zG_blk (c' := (1913, [zR 0, zR 8, zR 97, .inl i], [.inl (i + 1), zR 0, zR 97])) 6 (by decide) hz (zsteps_seg hg (by rw [show (.inl (i + 1) : zV) = .inl (w32 (i + 1)) from by rw [w32_id (by omega)]]; rfl)) ?_
  refine zG_iald (by decide) hz (hg _ _ rfl) rfl (.inr rfl) (by omega) ?_
  rw [show M1 0 (i + 1).toNat = x1 from (hc0 _).trans hx1.symm]
  show zG n (114, 4080270) 300 311 (1914, [zR 0, zR 8, zR 97, .inl i], [.inl x1, zR 97]) M1 _
  refine zG_blk (c' := (1918, [zR 0, zR 8, zR 97, .inl i], [.inl (i + 2), zR 0, .inl x1, zR 97])) 4 (by decide) hz (zsteps_seg hg (by rw [show (.inl (i + 2) : zV) = .inl (w32 (i + 2)) from by rw [w32_id (by omega)]]; rfl)) ?_
  refine zG_iald (by decide) hz (hg _ _ rfl) rfl (.inr rfl) (by omega) ?_
  rw [show M1 0 (i + 2).toNat = x2 from (hc0 _).trans hx2.symm]
  show zG n (114, 4080270) 300 311 (1919, [zR 0, zR 8, zR 97, .inl i], [.inl x2, .inl x1, zR 97]) M1 _
  refine zG_blk (c' := (1923, [zR 0, zR 8, zR 97, .inl i], [.inl (i + 3), zR 0, .inl x2, .inl x1, zR 97])) 4 (by decide) hz (zsteps_seg hg (by rw [show (.inl (i + 3) : zV) = .inl (w32 (i + 3)) from by rw [w32_id (by omega)]]; rfl)) ?_
  refine zG_iald (by decide) hz (hg _ _ rfl) rfl (.inr rfl) (by omega) ?_
  rw [show M1 0 (i + 3).toNat = x3 from (hc0 _).trans hx3.symm]
  show zG n (114, 4080270) 300 311 (1924, [zR 0, zR 8, zR 97, .inl i], [.inl x3, .inl x2, .inl x1, zR 97]) M1 _
  refine zG_call (by decide) hz zp_279 (hg _ _ rfl) rfl (Nat.le_of_ble_eq_true rfl) ⟨Nat.le_of_ble_eq_true rfl, Nat.le_of_ble_eq_true rfl⟩ (qm_279_97 (by decide) hJM1.2.1 x1 (by omega) x2 (by omega) x3 (by omega)) (fun vr M2 hr => ?_)
  obtain ⟨⟨hCM2, hFM2⟩, hr⟩ := hr
  have hJM2 : qJ M2 := hJM1.mdl hCM2 hFM2 rfl (by decide) (fun j _ _ _ _ => hFM2.ar 98 j (by decide) (by decide))
  obtain ⟨r2, hv9⟩ := hr
  first | (obtain ⟨rfl, -⟩ := hv9) | (obtain rfl := hv9)
  show zG n (114, 4080270) 300 311 (1927, [zR 0, zR 8, zR 97, .inl i], [.inl r2]) M2 _
  refine zG_blk (c' := (2158, [zR 0, zR 8, zR 97, .inl i], [])) 2 (by decide) hz (zsteps_seg hg rfl) ?_
  exact K M2 hJM2
noncomputable def sg_37 : List zE := [(1931, .aload_n ⟨1, zfin1⟩, 1932, zx0),
  (1932, .aload_n ⟨0, zfin0⟩, 1933, zx0),
  (1933, .iload_n ⟨3, zfin3⟩, 1934, zx0),
  (1934, .iconst 1, 1935, zx0),
  (1935, .iadd, 1936, zx0),
  (1936, .iaload, 1937, zx0),
  (1937, .aload_n ⟨0, zfin0⟩, 1938, zx0),
  (1938, .iload_n ⟨3, zfin3⟩, 1939, zx0),
  (1939, .iconst 2, 1940, zx0),
  (1940, .iadd, 1941, zx0),
  (1941, .iaload, 1942, zx0),
  (1942, .aload_n ⟨0, zfin0⟩, 1943, zx0),
  (1943, .iload_n ⟨3, zfin3⟩, 1944, zx0),
  (1944, .iconst 3, 1945, zx0),
  (1945, .iadd, 1946, zx0),
  (1946, .iaload, 1947, zx0),
  (1947, .invokevirtual 173, 1950, (160, 4, 0, [11])),
  (1950, .pop, 1951, zx0),
  (1951, .aload_n ⟨2, zfin2⟩, 1952, zx0),
  (1952, .aload_n ⟨0, zfin0⟩, 1953, zx0),
  (1953, .iload_n ⟨3, zfin3⟩, 1954, zx0),
  (1954, .iconst 1, 1955, zx0),
  (1955, .iadd, 1956, zx0),
  (1956, .iaload, 1957, zx0),
  (1957, .aload_n ⟨0, zfin0⟩, 1958, zx0),
  (1958, .iload_n ⟨3, zfin3⟩, 1959, zx0),
  (1959, .iconst 2, 1960, zx0),
  (1960, .iadd, 1961, zx0),
  (1961, .iaload, 1962, zx0),
  (1962, .aload_n ⟨0, zfin0⟩, 1963, zx0),
  (1963, .iload_n ⟨3, zfin3⟩, 1964, zx0),
  (1964, .iconst 3, 1965, zx0),
  (1965, .iadd, 1966, zx0),
  (1966, .iaload, 1967, zx0),
  (1967, .invokevirtual 176, 1970, (284, 4, 0, [12])),
  (1970, .pop, 1971, zx0),
  (1971, .goto (187), 1974, (2158, 0, 0, []))]
set_option maxRecDepth 100000 in
theorem sh_37 : zSeg zk_L_law sg_37 := zSeg_of 1465 37 1931 (by decide +kernel) rfl (by decide +kernel)
set_option maxRecDepth 100000 in
theorem qL_37 (hJ : qJ M) (hn : n ≤ 4096) (hi : 0 ≤ i ∧ i + 8 ≤ n) (K : ∀ M', qJ M' → zG n (114, 4080270) 300 311 (2158, [zR 0, zR 8, zR 97, .inl i], []) M' qLQ) : zG n (114, 4080270) 300 311 (1931, [zR 0, zR 8, zR 97, .inl i], []) M qLQ := by
  have hz := zp_311
  have hg := sh_37
  refine zG_blk (c' := (1936, [zR 0, zR 8, zR 97, .inl i], [.inl (i + 1), zR 0, zR 8])) 5 (by decide) hz (zsteps_seg hg (by rw [show (.inl (i + 1) : zV) = .inl (w32 (i + 1)) from by rw [w32_id (by omega)]]; rfl)) ?_
  refine zG_iald (by decide) hz (hg _ _ rfl) rfl (.inr rfl) (by omega) ?_
  obtain ⟨x1, hx1⟩ : ∃ x : Int, x = M 0 (i + 1).toNat := ⟨_, rfl⟩
  rw [← hx1]
  have hr1 : qin x1 := by rw [hx1]; exact hJ.1.rng 0 _ (by decide) (by decide)
  show zG n (114, 4080270) 300 311 (1937, [zR 0, zR 8, zR 97, .inl i], [.inl x1, zR 8]) M _
  refine zG_blk (c' := (1941, [zR 0, zR 8, zR 97, .inl i], [.inl (i + 2), zR 0, .inl x1, zR 8])) 4 (by decide) hz (zsteps_seg hg (by rw [show (.inl (i + 2) : zV) = .inl (w32 (i + 2)) from by rw [w32_id (by omega)]]; rfl)) ?_
  refine zG_iald (by decide) hz (hg _ _ rfl) rfl (.inr rfl) (by omega) ?_
  obtain ⟨x2, hx2⟩ : ∃ x : Int, x = M 0 (i + 2).toNat := ⟨_, rfl⟩
  rw [← hx2]
  have hr2 : qin x2 := by rw [hx2]; exact hJ.1.rng 0 _ (by decide) (by decide)
  show zG n (114, 4080270) 300 311 (1942, [zR 0, zR 8, zR 97, .inl i], [.inl x2, .inl x1, zR 8]) M _
  refine zG_blk (c' := (1946, [zR 0, zR 8, zR 97, .inl i], [.inl (i + 3), zR 0, .inl x2, .inl x1, zR 8])) 4 (by decide) hz (zsteps_seg hg (by rw [show (.inl (i + 3) : zV) = .inl (w32 (i + 3)) from by rw [w32_id (by omega)]]; rfl)) ?_
  refine zG_iald (by decide) hz (hg _ _ rfl) rfl (.inr rfl) (by omega) ?_
  obtain ⟨x3, hx3⟩ : ∃ x : Int, x = M 0 (i + 3).toNat := ⟨_, rfl⟩
  rw [← hx3]
  have hr3 : qin x3 := by rw [hx3]; exact hJ.1.rng 0 _ (by decide) (by decide)
  show zG n (114, 4080270) 300 311 (1947, [zR 0, zR 8, zR 97, .inl i], [.inl x3, .inl x2, .inl x1, zR 8]) M _
  refine zG_call (by decide) hz zp_160 (hg _ _ rfl) rfl (Nat.le_of_ble_eq_true rfl) ⟨Nat.le_of_ble_eq_true rfl, Nat.le_of_ble_eq_true rfl⟩ (qm_160_8 (by decide) hJ.1 x1 (by omega) x2 (by omega) x3 (by omega)) (fun vr M1 hr => ?_)
  obtain ⟨⟨hCM1, hFM1⟩, hr⟩ := hr
  have hJM1 : qJ M1 := hJ.cls hCM1 hFM1 rfl rfl
  have hc0 : ∀ j, M1 0 j = M 0 j := fun j => hFM1 0 j (by decide)
  obtain ⟨r1, rfl, -⟩ := hr
  show zG n (114, 4080270) 300 311 (1950, [zR 0, zR 8, zR 97, .inl i], [.inl r1]) M1 _
  refine zG_blk (c' := (1956, [zR 0, zR 8, zR 97, .inl i], [.inl (i + 1), zR 0, zR 97])) 6 (by decide) hz (zsteps_seg hg (by rw [show (.inl (i + 1) : zV) = .inl (w32 (i + 1)) from by rw [w32_id (by omega)]]; rfl)) ?_
  refine zG_iald (by decide) hz (hg _ _ rfl) rfl (.inr rfl) (by omega) ?_
  rw [show M1 0 (i + 1).toNat = x1 from (hc0 _).trans hx1.symm]
  show zG n (114, 4080270) 300 311 (1957, [zR 0, zR 8, zR 97, .inl i], [.inl x1, zR 97]) M1 _
  refine zG_blk (c' := (1961, [zR 0, zR 8, zR 97, .inl i], [.inl (i + 2), zR 0, .inl x1, zR 97])) 4 (by decide) hz (zsteps_seg hg (by rw [show (.inl (i + 2) : zV) = .inl (w32 (i + 2)) from by rw [w32_id (by omega)]]; rfl)) ?_
  refine zG_iald (by decide) hz (hg _ _ rfl) rfl (.inr rfl) (by omega) ?_
  rw [show M1 0 (i + 2).toNat = x2 from (hc0 _).trans hx2.symm]
  show zG n (114, 4080270) 300 311 (1962, [zR 0, zR 8, zR 97, .inl i], [.inl x2, .inl x1, zR 97]) M1 _
  refine zG_blk (c' := (1966, [zR 0, zR 8, zR 97, .inl i], [.inl (i + 3), zR 0, .inl x2, .inl x1, zR 97])) 4 (by decide) hz (zsteps_seg hg (by rw [show (.inl (i + 3) : zV) = .inl (w32 (i + 3)) from by rw [w32_id (by omega)]]; rfl)) ?_
  refine zG_iald (by decide) hz (hg _ _ rfl) rfl (.inr rfl) (by omega) ?_
  rw [show M1 0 (i + 3).toNat = x3 from (hc0 _).trans hx3.symm]
  show zG n (114, 4080270) 300 311 (1967, [zR 0, zR 8, zR 97, .inl i], [.inl x3, .inl x2, .inl x1, zR 97]) M1 _
  refine zG_call (by decide) hz zp_284 (hg _ _ rfl) rfl (Nat.le_of_ble_eq_true rfl) ⟨Nat.le_of_ble_eq_true rfl, Nat.le_of_ble_eq_true rfl⟩ (qm_284_97 (by decide) hJM1.2.1 x1 (by omega) x2 (by omega) x3 (by omega)) (fun vr M2 hr => ?_)
  obtain ⟨⟨hCM2, hFM2⟩, hr⟩ := hr
  have hJM2 : qJ M2 := hJM1.mdl hCM2 hFM2 rfl (by decide) (fun j _ _ _ _ => hFM2.ar 98 j (by decide) (by decide))
  obtain ⟨r2, hv9⟩ := hr
  first | (obtain ⟨rfl, -⟩ := hv9) | (obtain rfl := hv9)
  show zG n (114, 4080270) 300 311 (1970, [zR 0, zR 8, zR 97, .inl i], [.inl r2]) M2 _
  refine zG_blk (c' := (2158, [zR 0, zR 8, zR 97, .inl i], [])) 2 (by decide) hz (zsteps_seg hg rfl) ?_
  exact K M2 hJM2
noncomputable def sg_38 : List zE := [(1974, .aload_n ⟨1, zfin1⟩, 1975, zx0),
  (1975, .aload_n ⟨0, zfin0⟩, 1976, zx0),
  (1976, .iload_n ⟨3, zfin3⟩, 1977, zx0),
  (1977, .iconst 1, 1978, zx0),
  (1978, .iadd, 1979, zx0),
  (1979, .iaload, 1980, zx0),
  (1980, .invokevirtual 177, 1983, (161, 2, 0, [11])),
  (1983, .pop, 1984, zx0),
  (1984, .aload_n ⟨2, zfin2⟩, 1985, zx0),
  (1985, .aload_n ⟨0, zfin0⟩, 1986, zx0),
  (1986, .iload_n ⟨3, zfin3⟩, 1987, zx0),
  (1987, .iconst 1, 1988, zx0),
  (1988, .iadd, 1989, zx0),
  (1989, .iaload, 1990, zx0),
  (1990, .invokevirtual 180, 1993, (285, 2, 0, [12])),
  (1993, .pop, 1994, zx0),
  (1994, .goto (164), 1997, (2158, 0, 0, []))]
set_option maxRecDepth 100000 in
theorem sh_38 : zSeg zk_L_law sg_38 := zSeg_of 1502 17 1974 (by decide +kernel) rfl (by decide +kernel)
set_option maxRecDepth 100000 in
theorem qL_38 (hJ : qJ M) (hn : n ≤ 4096) (hi : 0 ≤ i ∧ i + 8 ≤ n) (K : ∀ M', qJ M' → zG n (114, 4080270) 300 311 (2158, [zR 0, zR 8, zR 97, .inl i], []) M' qLQ) : zG n (114, 4080270) 300 311 (1974, [zR 0, zR 8, zR 97, .inl i], []) M qLQ := by
  have hz := zp_311
  have hg := sh_38
  refine zG_blk (c' := (1979, [zR 0, zR 8, zR 97, .inl i], [.inl (i + 1), zR 0, zR 8])) 5 (by decide) hz (zsteps_seg hg (by rw [show (.inl (i + 1) : zV) = .inl (w32 (i + 1)) from by rw [w32_id (by omega)]]; rfl)) ?_
  refine zG_iald (by decide) hz (hg _ _ rfl) rfl (.inr rfl) (by omega) ?_
  obtain ⟨x1, hx1⟩ : ∃ x : Int, x = M 0 (i + 1).toNat := ⟨_, rfl⟩
  rw [← hx1]
  have hr1 : qin x1 := by rw [hx1]; exact hJ.1.rng 0 _ (by decide) (by decide)
  show zG n (114, 4080270) 300 311 (1980, [zR 0, zR 8, zR 97, .inl i], [.inl x1, zR 8]) M _
  refine zG_call (by decide) hz zp_161 (hg _ _ rfl) rfl (Nat.le_of_ble_eq_true rfl) ⟨Nat.le_of_ble_eq_true rfl, Nat.le_of_ble_eq_true rfl⟩ (zG.andH (qm_161_8 (by decide) hJ.1 x1 (by omega)) (fh_161_8 x1)) (fun vr M1 hr => ?_)
  obtain ⟨⟨⟨hC1, hF1⟩, -⟩, rfl, hM1⟩ := hr
  have hi := hF1.hi rfl
  have hI := hJ.2.1.same hi
  have hc0 : ∀ j, M1 0 j = M 0 j := fun j => hF1 0 j (by decide)
  show zG n (114, 4080270) 300 311 (1983, [zR 0, zR 8, zR 97, .inl i], [.inl (hf_161_8 M x1).1]) M1 _
  refine zG_blk (c' := (1989, [zR 0, zR 8, zR 97, .inl i], [.inl (i + 1), zR 0, zR 97])) 6 (by decide) hz (zsteps_seg hg (by rw [show (.inl (i + 1) : zV) = .inl (w32 (i + 1)) from by rw [w32_id (by omega)]]; rfl)) ?_
  refine zG_iald (by decide) hz (hg _ _ rfl) rfl (.inr rfl) (by omega) ?_
  rw [show M1 0 (i + 1).toNat = x1 from (hc0 _).trans hx1.symm]
  show zG n (114, 4080270) 300 311 (1990, [zR 0, zR 8, zR 97, .inl i], [.inl x1, zR 97]) M1 _
  refine zG_call (by decide) hz zp_285 (hg _ _ rfl) rfl (Nat.le_of_ble_eq_true rfl) ⟨Nat.le_of_ble_eq_true rfl, Nat.le_of_ble_eq_true rfl⟩ (zG.andH (qm_285_97 (by decide) hI x1 (by omega)) (fh_285_97 x1)) (fun vr M2 hr => ?_)
  obtain ⟨⟨⟨hC2, hF2⟩, -⟩, rfl, hM2⟩ := hr
  have hm := hm_161 hJ.2.2.1 hJ.1.tb hJ.2.1.bd (a1 := x1)
  rw [← hM1] at hm
  rw [← hM2] at hm
  have hJ2 : qJ M2 := hJ.mut hC1 hF1 rfl rfl hC2 hF2 rfl (by decide) hm.2
  show zG n (114, 4080270) 300 311 (1993, [zR 0, zR 8, zR 97, .inl i], [.inl (hf_285_97 M1 x1).1]) M2 _
  refine zG_blk (c' := (2158, [zR 0, zR 8, zR 97, .inl i], [])) 2 (by decide) hz (zsteps_seg hg rfl) ?_
  exact K M2 hJ2
noncomputable def sg_39 : List zE := [(1997, .aload_n ⟨1, zfin1⟩, 1998, zx0),
  (1998, .aload_n ⟨0, zfin0⟩, 1999, zx0),
  (1999, .iload_n ⟨3, zfin3⟩, 2000, zx0),
  (2000, .iconst 1, 2001, zx0),
  (2001, .iadd, 2002, zx0),
  (2002, .iaload, 2003, zx0),
  (2003, .aload_n ⟨0, zfin0⟩, 2004, zx0),
  (2004, .iload_n ⟨3, zfin3⟩, 2005, zx0),
  (2005, .iconst 2, 2006, zx0),
  (2006, .iadd, 2007, zx0),
  (2007, .iaload, 2008, zx0),
  (2008, .invokevirtual 181, 2011, (162, 3, 0, [11])),
  (2011, .pop, 2012, zx0),
  (2012, .aload_n ⟨2, zfin2⟩, 2013, zx0),
  (2013, .aload_n ⟨0, zfin0⟩, 2014, zx0),
  (2014, .iload_n ⟨3, zfin3⟩, 2015, zx0),
  (2015, .iconst 1, 2016, zx0),
  (2016, .iadd, 2017, zx0),
  (2017, .iaload, 2018, zx0),
  (2018, .aload_n ⟨0, zfin0⟩, 2019, zx0),
  (2019, .iload_n ⟨3, zfin3⟩, 2020, zx0),
  (2020, .iconst 2, 2021, zx0),
  (2021, .iadd, 2022, zx0),
  (2022, .iaload, 2023, zx0),
  (2023, .invokevirtual 184, 2026, (286, 3, 0, [12])),
  (2026, .pop, 2027, zx0),
  (2027, .goto (131), 2030, (2158, 0, 0, []))]
set_option maxRecDepth 100000 in
theorem sh_39 : zSeg zk_L_law sg_39 := zSeg_of 1519 27 1997 (by decide +kernel) rfl (by decide +kernel)
end LW
