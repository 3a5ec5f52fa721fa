noncomputable def hf_153_8 (M : zM) (a1 : Int) (a2 : Int) : Int × zM :=
  (if (hf_174_8 M a1) = 0 then ((-10), M) else (if ¬ (hf_169 M a2 (-1) (w32 ((hR_size M 22) - 1))) = 0 then ((hR_get M 12 a1 1), (hR_set M 12 a1 1 a2)) else ((-10), M)))
set_option maxRecDepth 100000 in
theorem fh_153_8 {n : Nat} {M : zM} (a1 : Int) (a2 : Int) : zH n (0, 0) 153 (0, zini [zR 8, .inl a1, .inl a2] 4, []) M (fun r M' => r = some (.inl (hf_153_8 M a1 a2).1) ∧ M' = (hf_153_8 M a1 a2).2) := by
  have hz := zp_153
  have hE : hf_153_8 M a1 a2 = hf_153_8 M a1 a2 := rfl
  show zH n (0, 0) 153 (0, [zR 8, .inl a1, .inl a2, zN], []) M _
  refine zH_blk (c' := (2, [zR 8, .inl a1, .inl a2, zN], [.inl a1, zR 8])) 2 hz rfl ?_
  refine zH_callE hz zp_174 rfl rfl (fh_174_8 a1) ?_
  show zH n (0, 0) 153 (5, [zR 8, .inl a1, .inl a2, zN], [.inl (hf_174_8 M a1)]) M _
  refine zH_if_eq hz rfl (fun hb => ?_) (fun hb => ?_)
  · have hE := hE.trans (if_pos hb)
    refine zH_blk (c' := (30, [zR 8, .inl a1, .inl a2, zN], [.inl (-10)])) 1 hz rfl ?_
    exact zH_ret hz rfl rfl (hfinB hE)
  · have hE := hE.trans (if_neg hb)
    refine zH_blk (c' := (17, [zR 8, .inl a1, .inl a2, zN], [zR 22, .inl (-1), .inl a2])) 5 hz rfl ?_
    refine zH_callE hz zp_101 rfl rfl (fh_101_22) ?_
    show zH n (0, 0) 153 (20, [zR 8, .inl a1, .inl a2, zN], [.inl (hR_size M 22), .inl (-1), .inl a2]) M _
    refine zH_blk (c' := (22, [zR 8, .inl a1, .inl a2, zN], [.inl (w32 ((hR_size M 22) - 1)), .inl (-1), .inl a2])) 2 hz rfl ?_
    refine zH_callE hz zp_169 rfl rfl (fh_169 a2 (-1) (w32 ((hR_size M 22) - 1))) ?_
    show zH n (0, 0) 153 (25, [zR 8, .inl a1, .inl a2, zN], [.inl (hf_169 M a2 (-1) (w32 ((hR_size M 22) - 1)))]) M _
    refine zH_if_ne hz rfl (fun hb => ?_) (fun hb => ?_)
    · have hE := hE.trans (if_pos hb)
      refine zH_blk (c' := (40, [zR 8, .inl a1, .inl a2, zN], [.inl 1, .inl a1, zR 12])) 5 hz rfl ?_
      refine zH_callE hz zp_106 rfl rfl (fh_106_12 a1 1) ?_
      show zH n (0, 0) 153 (43, [zR 8, .inl a1, .inl a2, zN], [.inl (hR_get M 12 a1 1)]) M _
      refine zH_blk (c' := (54, [zR 8, .inl a1, .inl a2, .inl (hR_get M 12 a1 1)], [.inl a2, .inl 1, .inl a1, zR 12])) 7 hz rfl ?_
      refine zH_callW hz zp_107 rfl rfl (fh_107_12 a1 1 a2) ?_
      intro N1 hN1
      show zH n (0, 0) 153 (57, [zR 8, .inl a1, .inl a2, .inl (hR_get M 12 a1 1)], []) N1 _
      refine zH_blk (c' := (58, [zR 8, .inl a1, .inl a2, .inl (hR_get M 12 a1 1)], [.inl (hR_get M 12 a1 1)])) 1 hz rfl ?_
      subst hN1
      exact zH_ret hz rfl rfl (hfinB hE)
    · have hE := hE.trans (if_neg hb)
      refine zH_blk (c' := (30, [zR 8, .inl a1, .inl a2, zN], [.inl (-10)])) 1 hz rfl ?_
      exact zH_ret hz rfl rfl (hfinB hE)
noncomputable def hf_157_8 (M : zM) (a1 : Int) (a2 : Int) (a3 : Int) : Int × zM :=
  (if (hf_174_8 M a1) = 0 then ((-2), M) else (if ¬ (hf_175_8 M a2) = 0 then (if ¬ (zband (zbshr (hR_get M 12 a1 2) a2) 1) = 1 then (if ¬ 0 = a3 then (1, (hR_set M 12 a1 2 (zbxor (hR_get M 12 a1 2) (zbshl 1 a2)))) else ((-3), M)) else (if ¬ 1 = a3 then (1, (hR_set M 12 a1 2 (zbxor (hR_get M 12 a1 2) (zbshl 1 a2)))) else ((-3), M))) else ((-2), M)))
set_option maxRecDepth 100000 in
theorem fh_157_8 {n : Nat} {M : zM} (a1 : Int) (a2 : Int) (a3 : Int) : zH n (0, 0) 157 (0, zini [zR 8, .inl a1, .inl a2, .inl a3] 6, []) M (fun r M' => r = some (.inl (hf_157_8 M a1 a2 a3).1) ∧ M' = (hf_157_8 M a1 a2 a3).2) := by
  have hz := zp_157
  have hE : hf_157_8 M a1 a2 a3 = hf_157_8 M a1 a2 a3 := rfl
  show zH n (0, 0) 157 (0, [zR 8, .inl a1, .inl a2, .inl a3, zN, zN], []) M _
  refine zH_blk (c' := (2, [zR 8, .inl a1, .inl a2, .inl a3, zN, zN], [.inl a1, zR 8])) 2 hz rfl ?_
  refine zH_callE hz zp_174 rfl rfl (fh_174_8 a1) ?_
  show zH n (0, 0) 157 (5, [zR 8, .inl a1, .inl a2, .inl a3, zN, zN], [.inl (hf_174_8 M a1)]) M _
  refine zH_if_eq hz rfl (fun hb => ?_) (fun hb => ?_)
  · have hE := hE.trans (if_pos hb)
    refine zH_blk (c' := (18, [zR 8, .inl a1, .inl a2, .inl a3, zN, zN], [.inl (-2)])) 1 hz rfl ?_
    exact zH_ret hz rfl rfl (hfinB hE)
  · have hE := hE.trans (if_neg hb)
    refine zH_blk (c' := (10, [zR 8, .inl a1, .inl a2, .inl a3, zN, zN], [.inl a2, zR 8])) 2 hz rfl ?_
    refine zH_callE hz zp_175 rfl rfl (fh_175_8 a2) ?_
    show zH n (0, 0) 157 (13, [zR 8, .inl a1, .inl a2, .inl a3, zN, zN], [.inl (hf_175_8 M a2)]) M _
    refine zH_if_ne hz rfl (fun hb => ?_) (fun hb => ?_)
    · have hE := hE.trans (if_pos hb)
      refine zH_blk (c' := (28, [zR 8, .inl a1, .inl a2, .inl a3, zN, zN], [.inl 2, .inl a1, zR 12])) 5 hz rfl ?_
      refine zH_callE hz zp_106 rfl rfl (fh_106_12 a1 2) ?_
      show zH n (0, 0) 157 (31, [zR 8, .inl a1, .inl a2, .inl a3, zN, zN], [.inl (hR_get M 12 a1 2)]) M _
      refine zH_blk (c' := (40, [zR 8, .inl a1, .inl a2, .inl a3, .inl (hR_get M 12 a1 2), zN], [.inl 1, .inl (zband (zbshr (hR_get M 12 a1 2) a2) 1)])) 7 hz rfl ?_
      refine zH_icmp_ne hz rfl (fun hb => ?_) (fun hb => ?_)
      · have hE := hE.trans (if_pos hb)
        refine zH_blk (c' := (53, [zR 8, .inl a1, .inl a2, .inl a3, .inl (hR_get M 12 a1 2), .inl 0], [.inl a3, .inl 0])) 4 hz rfl ?_
        refine zH_icmp_ne hz rfl (fun hb => ?_) (fun hb => ?_)
        · have hE := hE.trans (if_pos hb)
          refine zH_blk (c' := (74, [zR 8, .inl a1, .inl a2, .inl a3, .inl (hR_get M 12 a1 2), .inl 0], [.inl (zbxor (hR_get M 12 a1 2) (zbshl 1 a2)), .inl 2, .inl a1, zR 12])) 10 hz rfl ?_
          refine zH_callW hz zp_107 rfl rfl (fh_107_12 a1 2 (zbxor (hR_get M 12 a1 2) (zbshl 1 a2))) ?_
          intro N1 hN1
          show zH n (0, 0) 157 (77, [zR 8, .inl a1, .inl a2, .inl a3, .inl (hR_get M 12 a1 2), .inl 0], []) N1 _
          refine zH_blk (c' := (78, [zR 8, .inl a1, .inl a2, .inl a3, .inl (hR_get M 12 a1 2), .inl 0], [.inl 1])) 1 hz rfl ?_
          subst hN1
          exact zH_ret hz rfl rfl (hfinB hE)
        · have hE := hE.trans (if_neg hb)
          refine zH_blk (c' := (58, [zR 8, .inl a1, .inl a2, .inl a3, .inl (hR_get M 12 a1 2), .inl 0], [.inl (-3)])) 1 hz rfl ?_
          exact zH_ret hz rfl rfl (hfinB hE)
      · have hE := hE.trans (if_neg hb)
        refine zH_blk (c' := (53, [zR 8, .inl a1, .inl a2, .inl a3, .inl (hR_get M 12 a1 2), .inl 1], [.inl a3, .inl 1])) 5 hz rfl ?_
        refine zH_icmp_ne hz rfl (fun hb => ?_) (fun hb => ?_)
        · have hE := hE.trans (if_pos hb)
          refine zH_blk (c' := (74, [zR 8, .inl a1, .inl a2, .inl a3, .inl (hR_get M 12 a1 2), .inl 1], [.inl (zbxor (hR_get M 12 a1 2) (zbshl 1 a2)), .inl 2, .inl a1, zR 12])) 10 hz rfl ?_
          refine zH_callW hz zp_107 rfl rfl (fh_107_12 a1 2 (zbxor (hR_get M 12 a1 2) (zbshl 1 a2))) ?_
          intro N2 hN2
          show zH n (0, 0) 157 (77, [zR 8, .inl a1, .inl a2, .inl a3, .inl (hR_get M 12 a1 2), .inl 1], []) N2 _
          refine zH_blk (c' := (78, [zR 8, .inl a1, .inl a2, .inl a3, .inl (hR_get M 12 a1 2), .inl 1], [.inl 1])) 1 hz rfl ?_
          subst hN2
          exact zH_ret hz rfl rfl (hfinB hE)
        · have hE := hE.trans (if_neg hb)
          refine zH_blk (c' := (58, [zR 8, .inl a1, .inl a2, .inl a3, .inl (hR_get M 12 a1 2), .inl 1], [.inl (-3)])) 1 hz rfl ?_
          exact zH_ret hz rfl rfl (hfinB hE)
    · have hE := hE.trans (if_neg hb)
      refine zH_blk (c' := (18, [zR 8, .inl a1, .inl a2, .inl a3, zN, zN], [.inl (-2)])) 1 hz rfl ?_
      exact zH_ret hz rfl rfl (hfinB hE)
noncomputable def hf_161_8 (M : zM) (a1 : Int) : Int × zM :=
  (if ¬ (hf_169 M a1 1 10000) = 0 then (M 9 9, zput M 9 9 a1) else ((-2), M))
set_option maxRecDepth 100000 in
theorem fh_161_8 {n : Nat} {M : zM} (a1 : Int) : zH n (0, 0) 161 (0, zini [zR 8, .inl a1] 3, []) M (fun r M' => r = some (.inl (hf_161_8 M a1).1) ∧ M' = (hf_161_8 M a1).2) := by
  have hz := zp_161
  have hE : hf_161_8 M a1 = hf_161_8 M a1 := rfl
  show zH n (0, 0) 161 (0, [zR 8, .inl a1, zN], []) M _
  refine zH_blk (c' := (5, [zR 8, .inl a1, zN], [.inl 10000, .inl 1, .inl a1])) 3 hz rfl ?_
  refine zH_callE hz zp_169 rfl rfl (fh_169 a1 1 10000) ?_
  show zH n (0, 0) 161 (8, [zR 8, .inl a1, zN], [.inl (hf_169 M a1 1 10000)]) M _
  refine zH_if_ne hz rfl (fun hb => ?_) (fun hb => ?_)
  · have hE := hE.trans (if_pos hb)
    refine zH_blk (c' := (31, [zR 8, .inl a1, .inl (M 9 9)], [.inl (M 9 9)])) 9 hz rfl ?_
    exact zH_ret hz rfl rfl (hfinB hE)
  · have hE := hE.trans (if_neg hb)
    refine zH_blk (c' := (13, [zR 8, .inl a1, zN], [.inl (-2)])) 1 hz rfl ?_
    exact zH_ret hz rfl rfl (hfinB hE)
noncomputable def hf_162_8 (M : zM) (a1 : Int) (a2 : Int) : Int × zM :=
  (if (hf_169 M a1 0 1000) = 0 then ((-2), M) else (if ¬ (hf_169 M a2 0 1000) = 0 then (if ¬ ((hR_open M 24).1) = (-4) then (w32 (((hR_open M 24).1) + 1), (hR_set (hR_set ((hR_open M 24).2) 24 ((hR_open M 24).1) 0 a1) 24 ((hR_open M 24).1) 1 a2)) else ((-4), ((hR_open M 24).2))) else ((-2), M)))
set_option maxRecDepth 100000 in
theorem fh_162_8 {n : Nat} {M : zM} (a1 : Int) (a2 : Int) : zH n (0, 0) 162 (0, zini [zR 8, .inl a1, .inl a2] 4, []) M (fun r M' => r = some (.inl (hf_162_8 M a1 a2).1) ∧ M' = (hf_162_8 M a1 a2).2) := by
  have hz := zp_162
  have hE : hf_162_8 M a1 a2 = hf_162_8 M a1 a2 := rfl
  show zH n (0, 0) 162 (0, [zR 8, .inl a1, .inl a2, zN], []) M _
  refine zH_blk (c' := (5, [zR 8, .inl a1, .inl a2, zN], [.inl 1000, .inl 0, .inl a1])) 3 hz rfl ?_
  refine zH_callE hz zp_169 rfl rfl (fh_169 a1 0 1000) ?_
  show zH n (0, 0) 162 (8, [zR 8, .inl a1, .inl a2, zN], [.inl (hf_169 M a1 0 1000)]) M _
  refine zH_if_eq hz rfl (fun hb => ?_) (fun hb => ?_)
  · have hE := hE.trans (if_pos hb)
    refine zH_blk (c' := (24, [zR 8, .inl a1, .inl a2, zN], [.inl (-2)])) 1 hz rfl ?_
    exact zH_ret hz rfl rfl (hfinB hE)
  · have hE := hE.trans (if_neg hb)
    refine zH_blk (c' := (16, [zR 8, .inl a1, .inl a2, zN], [.inl 1000, .inl 0, .inl a2])) 3 hz rfl ?_
    refine zH_callE hz zp_169 rfl rfl (fh_169 a2 0 1000) ?_
    show zH n (0, 0) 162 (19, [zR 8, .inl a1, .inl a2, zN], [.inl (hf_169 M a2 0 1000)]) M _
    refine zH_if_ne hz rfl (fun hb => ?_) (fun hb => ?_)
    · have hE := hE.trans (if_pos hb)
      refine zH_blk (c' := (32, [zR 8, .inl a1, .inl a2, zN], [zR 24])) 3 hz rfl ?_
      refine zH_callB hz zp_103 rfl rfl (fh_103_24) ?_
      intro u1 N2 hu1 hN2
      show zH n (0, 0) 162 (35, [zR 8, .inl a1, .inl a2, zN], [.inl u1]) N2 _
      refine zH_blk (c' := (39, [zR 8, .inl a1, .inl a2, .inl u1], [.inl (-4), .inl u1])) 3 hz rfl ?_
      subst hN2
      subst hu1
      refine zH_icmp_ne hz rfl (fun hb => ?_) (fun hb => ?_)
      · have hE := hE.trans (if_pos hb)
        refine zH_blk (c' := (55, [zR 8, .inl a1, .inl a2, .inl ((hR_open M 24).1)], [.inl a1, .inl 0, .inl ((hR_open M 24).1), zR 24])) 6 hz rfl ?_
        refine zH_callW hz zp_107 rfl rfl (fh_107_24 ((hR_open M 24).1) 0 a1) ?_
        intro N3 hN3
        show zH n (0, 0) 162 (58, [zR 8, .inl a1, .inl a2, .inl ((hR_open M 24).1)], []) N3 _
        refine zH_blk (c' := (68, [zR 8, .inl a1, .inl a2, .inl ((hR_open M 24).1)], [.inl a2, .inl 1, .inl ((hR_open M 24).1), zR 24])) 6 hz rfl ?_
        refine zH_callW hz zp_107 rfl rfl (fh_107_24 ((hR_open M 24).1) 1 a2) ?_
        intro N4 hN4
        show zH n (0, 0) 162 (71, [zR 8, .inl a1, .inl a2, .inl ((hR_open M 24).1)], []) N4 _
        refine zH_blk (c' := (74, [zR 8, .inl a1, .inl a2, .inl ((hR_open M 24).1)], [.inl (w32 (((hR_open M 24).1) + 1))])) 3 hz rfl ?_
        subst hN4
        subst hN3
        exact zH_ret hz rfl rfl (hfinB hE)
      · have hE := hE.trans (if_neg hb)
        refine zH_blk (c' := (44, [zR 8, .inl a1, .inl a2, .inl ((hR_open M 24).1)], [.inl (-4)])) 1 hz rfl ?_
        exact zH_ret hz rfl rfl (hfinB hE)
    · have hE := hE.trans (if_neg hb)
      refine zH_blk (c' := (24, [zR 8, .inl a1, .inl a2, zN], [.inl (-2)])) 1 hz rfl ?_
      exact zH_ret hz rfl rfl (hfinB hE)
noncomputable def hf_163_8 (M : zM) : Int × zM :=
  ((hR_size M 24), (hR_drop M 24))
set_option maxRecDepth 100000 in
theorem fh_163_8 {n : Nat} {M : zM} : zH n (0, 0) 163 (0, zini [zR 8] 2, []) M (fun r M' => r = some (.inl (hf_163_8 M).1) ∧ M' = (hf_163_8 M).2) := by
  have hz := zp_163
  have hE : hf_163_8 M = hf_163_8 M := rfl
  show zH n (0, 0) 163 (0, [zR 8, zN], []) M _
  refine zH_blk (c' := (7, [zR 8, zN], [zR 24])) 3 hz rfl ?_
  refine zH_callE hz zp_101 rfl rfl (fh_101_24) ?_
  show zH n (0, 0) 163 (10, [zR 8, zN], [.inl (hR_size M 24)]) M _
  refine zH_blk (c' := (18, [zR 8, .inl (hR_size M 24)], [zR 24])) 4 hz rfl ?_
  refine zH_callW hz zp_104 rfl rfl (fh_104_24) ?_
  intro N1 hN1
  show zH n (0, 0) 163 (21, [zR 8, .inl (hR_size M 24)], []) N1 _
  refine zH_blk (c' := (22, [zR 8, .inl (hR_size M 24)], [.inl (hR_size M 24)])) 1 hz rfl ?_
  subst hN1
  exact zH_ret hz rfl rfl (hfinB hE)
noncomputable def hf_180 (M : zM) (a0 : Int) (a1 : Int) (a2 : Int) : Int :=
  (if a0 < a1 then 0 else (if a2 < a0 then 0 else 1))
set_option maxRecDepth 100000 in
theorem fh_180 {n : Nat} {M : zM} (a0 : Int) (a1 : Int) (a2 : Int) : zH n (0, 0) 180 (0, zini [.inl a0, .inl a1, .inl a2] 3, []) M (fun r M' => r = some (.inl (hf_180 M a0 a1 a2)) ∧ M' = M) := by
  have hz := zp_180
  have hE : hf_180 M a0 a1 a2 = hf_180 M a0 a1 a2 := rfl
  show zH n (0, 0) 180 (0, [.inl a0, .inl a1, .inl a2], []) M _
  refine zH_blk (c' := (2, [.inl a0, .inl a1, .inl a2], [.inl a1, .inl a0])) 2 hz rfl ?_
  refine zH_icmp_lt hz rfl (fun hb => ?_) (fun hb => ?_)
  · have hE := hE.trans (if_pos hb)
    refine zH_blk (c' := (15, [.inl a0, .inl a1, .inl a2], [.inl 0])) 1 hz rfl ?_
    exact zH_zret hz rfl (hfinP hE)
  · have hE := hE.trans (if_neg hb)
    refine zH_blk (c' := (7, [.inl a0, .inl a1, .inl a2], [.inl a2, .inl a0])) 2 hz rfl ?_
    refine zH_icmp_gt hz rfl (fun hb => ?_) (fun hb => ?_)
    · have hE := hE.trans (if_pos hb)
      refine zH_blk (c' := (15, [.inl a0, .inl a1, .inl a2], [.inl 0])) 1 hz rfl ?_
      exact zH_zret hz rfl (hfinP hE)
    · have hE := hE.trans (if_neg hb)
      refine zH_blk (c' := (15, [.inl a0, .inl a1, .inl a2], [.inl 1])) 2 hz rfl ?_
      exact zH_zret hz rfl (hfinP hE)
noncomputable def hf_183_97 (M : zM) (a1 : Int) : Int × zM :=
  (w32 (((zput M 98 (a1 : Int).toNat (w32 ((M 98 (a1 : Int).toNat) + 1))) 98 (a1 : Int).toNat) - 1), zput M 98 (a1 : Int).toNat (w32 ((M 98 (a1 : Int).toNat) + 1)))
set_option maxRecDepth 100000 in
theorem fh_183_97 {n : Nat} {M : zM} (a1 : Int) : zH n (0, 0) 183 (0, zini [zR 97, .inl a1] 2, []) M (fun r M' => r = some (.inl (hf_183_97 M a1).1) ∧ M' = (hf_183_97 M a1).2) := by
  have hz := zp_183
  have hE : hf_183_97 M a1 = hf_183_97 M a1 := rfl
  show zH n (0, 0) 183 (0, [zR 97, .inl a1], []) M _
  refine zH_blk (c' := (6, [zR 97, .inl a1], [.inl a1, zR 98, .inl a1, zR 98])) 4 hz rfl ?_
  refine zH_iald hz rfl rfl (.inl rfl) (fun _ => ?_)
  show zH n (0, 0) 183 (7, [zR 97, .inl a1], [.inl (M 98 (a1 : Int).toNat), .inl a1, zR 98]) M _
  refine zH_blk (c' := (9, [zR 97, .inl a1], [.inl (w32 ((M 98 (a1 : Int).toNat) + 1)), .inl a1, zR 98])) 2 hz rfl ?_
  refine zH_iast hz rfl rfl (fun _ => ?_)
  show zH n (0, 0) 183 (10, [zR 97, .inl a1], []) (zput M 98 (a1 : Int).toNat (w32 ((M 98 (a1 : Int).toNat) + 1))) _
  refine zH_blk (c' := (15, [zR 97, .inl a1], [.inl a1, zR 98])) 3 hz rfl ?_
  refine zH_iald hz rfl rfl (.inl rfl) (fun _ => ?_)
  show zH n (0, 0) 183 (16, [zR 97, .inl a1], [.inl ((zput M 98 (a1 : Int).toNat (w32 ((M 98 (a1 : Int).toNat) + 1))) 98 (a1 : Int).toNat)]) (zput M 98 (a1 : Int).toNat (w32 ((M 98 (a1 : Int).toNat) + 1))) _
  refine zH_blk (c' := (18, [zR 97, .inl a1], [.inl (w32 (((zput M 98 (a1 : Int).toNat (w32 ((M 98 (a1 : Int).toNat) + 1))) 98 (a1 : Int).toNat) - 1))])) 2 hz rfl ?_
  exact zH_ret hz rfl rfl (hfinB hE)
noncomputable def hf_187_97 (M : zM) (a1 : Int) (a2 : Int) (a3 : Int) (a4 : Int) : Int × zM :=
  (if (hf_180 M a1 1 60) = 0 then ((-2), M) else (if (hf_180 M a2 0 (w32 ((zbshl 1 (M 98 (0 : Int).toNat)) - 1))) = 0 then ((-2), M) else (if (hf_180 M a3 1 7) = 0 then ((-2), M) else (if ¬ (hf_180 M a4 0 100) = 0 then (if ¬ (M 98 (0 : Int).toNat) = 14 then (((hf_183_97 (zput (zput (zput (zput (zput M 98 (w32 (20 + (w32 (4 * (M 98 (0 : Int).toNat)))) : Int).toNat a1) 98 (w32 ((w32 (20 + (w32 (4 * (M 98 (0 : Int).toNat))))) + 1) : Int).toNat a2) 98 (w32 ((w32 (20 + (w32 (4 * (M 98 (0 : Int).toNat))))) + 2) : Int).toNat a3) 98 (w32 ((w32 (20 + (w32 (4 * (M 98 (0 : Int).toNat))))) + 3) : Int).toNat a4) 97 31 (-1)) 0).1), ((hf_183_97 (zput (zput (zput (zput (zput M 98 (w32 (20 + (w32 (4 * (M 98 (0 : Int).toNat)))) : Int).toNat a1) 98 (w32 ((w32 (20 + (w32 (4 * (M 98 (0 : Int).toNat))))) + 1) : Int).toNat a2) 98 (w32 ((w32 (20 + (w32 (4 * (M 98 (0 : Int).toNat))))) + 2) : Int).toNat a3) 98 (w32 ((w32 (20 + (w32 (4 * (M 98 (0 : Int).toNat))))) + 3) : Int).toNat a4) 97 31 (-1)) 0).2)) else ((-4), M)) else ((-2), M)))))
