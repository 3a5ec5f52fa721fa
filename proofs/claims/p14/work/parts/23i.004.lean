set_option maxRecDepth 100000 in
theorem fh_126_8 {n : Nat} {M : zM} (a1 : Int) (a2 : Int) (a3 : Int) (a4 : Int) : zH n (0, 0) 126 (0, zini [zR 8, .inl a1, .inl a2, .inl a3, .inl a4] 6, []) M (fun r M' => r = some (.inl (hf_126_8 M a1 a2 a3 a4).1) ∧ M' = (hf_126_8 M a1 a2 a3 a4).2) := by
  have hz := zp_126
  have hE : hf_126_8 M a1 a2 a3 a4 = hf_126_8 M a1 a2 a3 a4 := rfl
  show zH n (0, 0) 126 (0, [zR 8, .inl a1, .inl a2, .inl a3, .inl a4, zN], []) M _
  refine zH_blk (c' := (8, [zR 8, .inl a1, .inl a2, .inl a3, .inl a4, zN], [.inl a1, zR 14])) 4 hz rfl ?_
  refine zH_callE hz zp_102 rfl rfl (fh_102_14 a1) ?_
  show zH n (0, 0) 126 (11, [zR 8, .inl a1, .inl a2, .inl a3, .inl a4, zN], [.inl (hR_has M 14 a1)]) M _
  refine zH_if_eq hz rfl (fun hb => ?_) (fun hb => ?_)
  · have hE := hE.trans (if_pos hb)
    refine zH_blk (c' := (23, [zR 8, .inl a1, .inl a2, .inl a3, .inl a4, zN], [.inl (-2)])) 1 hz rfl ?_
    exact zH_ret hz rfl rfl (hfinB hE)
  · have hE := hE.trans (if_neg hb)
    refine zH_blk (c' := (15, [zR 8, .inl a1, .inl a2, .inl a3, .inl a4, zN], [.inl a2])) 1 hz rfl ?_
    refine zH_callE hz zp_170 rfl rfl (fh_170 a2) ?_
    show zH n (0, 0) 126 (18, [zR 8, .inl a1, .inl a2, .inl a3, .inl a4, zN], [.inl (hf_170 M a2)]) M _
    refine zH_if_ne hz rfl (fun hb => ?_) (fun hb => ?_)
    · have hE := hE.trans (if_pos hb)
      refine zH_blk (c' := (29, [zR 8, .inl a1, .inl a2, .inl a3, .inl a4, zN], [.inl 1023, .inl 0, .inl a3])) 3 hz rfl ?_
      refine zH_callE hz zp_169 rfl rfl (fh_169 a3 0 1023) ?_
      show zH n (0, 0) 126 (32, [zR 8, .inl a1, .inl a2, .inl a3, .inl a4, zN], [.inl (hf_169 M a3 0 1023)]) M _
      refine zH_if_eq hz rfl (fun hb => ?_) (fun hb => ?_)
      · have hE := hE.trans (if_pos hb)
        refine zH_blk (c' := (49, [zR 8, .inl a1, .inl a2, .inl a3, .inl a4, zN], [.inl (-2)])) 1 hz rfl ?_
        exact zH_ret hz rfl rfl (hfinB hE)
      · have hE := hE.trans (if_neg hb)
        refine zH_blk (c' := (41, [zR 8, .inl a1, .inl a2, .inl a3, .inl a4, zN], [.inl 1023, .inl 0, .inl a4])) 3 hz rfl ?_
        refine zH_callE hz zp_169 rfl rfl (fh_169 a4 0 1023) ?_
        show zH n (0, 0) 126 (44, [zR 8, .inl a1, .inl a2, .inl a3, .inl a4, zN], [.inl (hf_169 M a4 0 1023)]) M _
        refine zH_if_ne hz rfl (fun hb => ?_) (fun hb => ?_)
        · have hE := hE.trans (if_pos hb)
          refine zH_blk (c' := (57, [zR 8, .inl a1, .inl a2, .inl a3, .inl a4, zN], [zR 16])) 3 hz rfl ?_
          refine zH_callB hz zp_103 rfl rfl (fh_103_16) ?_
          intro u1 N2 hu1 hN2
          show zH n (0, 0) 126 (60, [zR 8, .inl a1, .inl a2, .inl a3, .inl a4, zN], [.inl u1]) N2 _
          refine zH_blk (c' := (73, [zR 8, .inl a1, .inl a2, .inl a3, .inl a4, .inl u1], [.inl a1, .inl 0, .inl u1, zR 16])) 7 hz rfl ?_
          refine zH_callW hz zp_107 rfl rfl (fh_107_16 u1 0 a1) ?_
          intro N3 hN3
          show zH n (0, 0) 126 (76, [zR 8, .inl a1, .inl a2, .inl a3, .inl a4, .inl u1], []) N3 _
          refine zH_blk (c' := (87, [zR 8, .inl a1, .inl a2, .inl a3, .inl a4, .inl u1], [.inl a2, .inl 1, .inl u1, zR 16])) 6 hz rfl ?_
          refine zH_callW hz zp_107 rfl rfl (fh_107_16 u1 1 a2) ?_
          intro N4 hN4
          show zH n (0, 0) 126 (90, [zR 8, .inl a1, .inl a2, .inl a3, .inl a4, .inl u1], []) N4 _
          refine zH_blk (c' := (101, [zR 8, .inl a1, .inl a2, .inl a3, .inl a4, .inl u1], [.inl a3, .inl 2, .inl u1, zR 16])) 6 hz rfl ?_
          refine zH_callW hz zp_107 rfl rfl (fh_107_16 u1 2 a3) ?_
          intro N5 hN5
          show zH n (0, 0) 126 (104, [zR 8, .inl a1, .inl a2, .inl a3, .inl a4, .inl u1], []) N5 _
          refine zH_blk (c' := (116, [zR 8, .inl a1, .inl a2, .inl a3, .inl a4, .inl u1], [.inl a4, .inl 3, .inl u1, zR 16])) 6 hz rfl ?_
          refine zH_callW hz zp_107 rfl rfl (fh_107_16 u1 3 a4) ?_
          intro N6 hN6
          show zH n (0, 0) 126 (119, [zR 8, .inl a1, .inl a2, .inl a3, .inl a4, .inl u1], []) N6 _
          refine zH_blk (c' := (130, [zR 8, .inl a1, .inl a2, .inl a3, .inl a4, .inl u1], [.inl 0, .inl 4, .inl u1, zR 16])) 6 hz rfl ?_
          refine zH_callW hz zp_107 rfl rfl (fh_107_16 u1 4 0) ?_
          intro N7 hN7
          show zH n (0, 0) 126 (133, [zR 8, .inl a1, .inl a2, .inl a3, .inl a4, .inl u1], []) N7 _
          refine zH_blk (c' := (135, [zR 8, .inl a1, .inl a2, .inl a3, .inl a4, .inl u1], [.inl u1])) 1 hz rfl ?_
          subst hN7
          subst hN6
          subst hN5
          subst hN4
          subst hN3
          subst hN2
          subst hu1
          exact zH_ret hz rfl rfl (hfinB hE)
        · have hE := hE.trans (if_neg hb)
          refine zH_blk (c' := (49, [zR 8, .inl a1, .inl a2, .inl a3, .inl a4, zN], [.inl (-2)])) 1 hz rfl ?_
          exact zH_ret hz rfl rfl (hfinB hE)
    · have hE := hE.trans (if_neg hb)
      refine zH_blk (c' := (23, [zR 8, .inl a1, .inl a2, .inl a3, .inl a4, zN], [.inl (-2)])) 1 hz rfl ?_
      exact zH_ret hz rfl rfl (hfinB hE)
noncomputable def hf_127_8 (M : zM) (a1 : Int) (a2 : Int) : Int × zM :=
  (if ¬ (hR_has M 16 a1) = 0 then (if a2 = 0 then (if ¬ (hR_get M 16 a1 4) = 0 then (1, (hR_set M 16 a1 4 0)) else ((-3), M)) else (if ¬ (hR_get M 16 a1 4) = 1 then (1, (hR_set M 16 a1 4 1)) else ((-3), M))) else ((-2), M))
set_option maxRecDepth 100000 in
theorem fh_127_8 {n : Nat} {M : zM} (a1 : Int) (a2 : Int) : zH n (0, 0) 127 (0, zini [zR 8, .inl a1, .inl a2] 4, []) M (fun r M' => r = some (.inl (hf_127_8 M a1 a2).1) ∧ M' = (hf_127_8 M a1 a2).2) := by
  have hz := zp_127
  have hE : hf_127_8 M a1 a2 = hf_127_8 M a1 a2 := rfl
  show zH n (0, 0) 127 (0, [zR 8, .inl a1, .inl a2, zN], []) M _
  refine zH_blk (c' := (8, [zR 8, .inl a1, .inl a2, zN], [.inl a1, zR 16])) 4 hz rfl ?_
  refine zH_callE hz zp_102 rfl rfl (fh_102_16 a1) ?_
  show zH n (0, 0) 127 (11, [zR 8, .inl a1, .inl a2, zN], [.inl (hR_has M 16 a1)]) M _
  refine zH_if_ne hz rfl (fun hb => ?_) (fun hb => ?_)
  · have hE := hE.trans (if_pos hb)
    refine zH_blk (c' := (18, [zR 8, .inl a1, .inl a2, zN], [.inl a2])) 1 hz rfl ?_
    refine zH_if_eq hz rfl (fun hb => ?_) (fun hb => ?_)
    · have hE := hE.trans (if_pos hb)
      refine zH_blk (c' := (36, [zR 8, .inl a1, .inl a2, .inl 0], [.inl 4, .inl a1, zR 16])) 7 hz rfl ?_
      refine zH_callE hz zp_106 rfl rfl (fh_106_16 a1 4) ?_
      show zH n (0, 0) 127 (39, [zR 8, .inl a1, .inl a2, .inl 0], [.inl (hR_get M 16 a1 4)]) M _
      refine zH_blk (c' := (40, [zR 8, .inl a1, .inl a2, .inl 0], [.inl 0, .inl (hR_get M 16 a1 4)])) 1 hz rfl ?_
      refine zH_icmp_ne hz rfl (fun hb => ?_) (fun hb => ?_)
      · have hE := hE.trans (if_pos hb)
        refine zH_blk (c' := (56, [zR 8, .inl a1, .inl a2, .inl 0], [.inl 0, .inl 4, .inl a1, zR 16])) 6 hz rfl ?_
        refine zH_callW hz zp_107 rfl rfl (fh_107_16 a1 4 0) ?_
        intro N1 hN1
        show zH n (0, 0) 127 (59, [zR 8, .inl a1, .inl a2, .inl 0], []) N1 _
        refine zH_blk (c' := (60, [zR 8, .inl a1, .inl a2, .inl 0], [.inl 1])) 1 hz rfl ?_
        subst hN1
        exact zH_ret hz rfl rfl (hfinB hE)
      · have hE := hE.trans (if_neg hb)
        refine zH_blk (c' := (45, [zR 8, .inl a1, .inl a2, .inl 0], [.inl (-3)])) 1 hz rfl ?_
        exact zH_ret hz rfl rfl (hfinB hE)
    · have hE := hE.trans (if_neg hb)
      refine zH_blk (c' := (36, [zR 8, .inl a1, .inl a2, .inl 1], [.inl 4, .inl a1, zR 16])) 8 hz rfl ?_
      refine zH_callE hz zp_106 rfl rfl (fh_106_16 a1 4) ?_
      show zH n (0, 0) 127 (39, [zR 8, .inl a1, .inl a2, .inl 1], [.inl (hR_get M 16 a1 4)]) M _
      refine zH_blk (c' := (40, [zR 8, .inl a1, .inl a2, .inl 1], [.inl 1, .inl (hR_get M 16 a1 4)])) 1 hz rfl ?_
      refine zH_icmp_ne hz rfl (fun hb => ?_) (fun hb => ?_)
      · have hE := hE.trans (if_pos hb)
        refine zH_blk (c' := (56, [zR 8, .inl a1, .inl a2, .inl 1], [.inl 1, .inl 4, .inl a1, zR 16])) 6 hz rfl ?_
        refine zH_callW hz zp_107 rfl rfl (fh_107_16 a1 4 1) ?_
        intro N2 hN2
        show zH n (0, 0) 127 (59, [zR 8, .inl a1, .inl a2, .inl 1], []) N2 _
        refine zH_blk (c' := (60, [zR 8, .inl a1, .inl a2, .inl 1], [.inl 1])) 1 hz rfl ?_
        subst hN2
        exact zH_ret hz rfl rfl (hfinB hE)
      · have hE := hE.trans (if_neg hb)
        refine zH_blk (c' := (45, [zR 8, .inl a1, .inl a2, .inl 1], [.inl (-3)])) 1 hz rfl ?_
        exact zH_ret hz rfl rfl (hfinB hE)
  · have hE := hE.trans (if_neg hb)
    refine zH_blk (c' := (16, [zR 8, .inl a1, .inl a2, zN], [.inl (-2)])) 1 hz rfl ?_
    exact zH_ret hz rfl rfl (hfinB hE)
noncomputable def hf_174_8 (M : zM) (a1 : Int) : Int :=
  (hR_has M 12 a1)
set_option maxRecDepth 100000 in
theorem fh_174_8 {n : Nat} {M : zM} (a1 : Int) : zH n (0, 0) 174 (0, zini [zR 8, .inl a1] 2, []) M (fun r M' => r = some (.inl (hf_174_8 M a1)) ∧ M' = M) := by
  have hz := zp_174
  have hE : hf_174_8 M a1 = hf_174_8 M a1 := rfl
  show zH n (0, 0) 174 (0, [zR 8, .inl a1], []) M _
  refine zH_blk (c' := (8, [zR 8, .inl a1], [.inl a1, zR 12])) 4 hz rfl ?_
  refine zH_callE hz zp_102 rfl rfl (fh_102_12 a1) ?_
  show zH n (0, 0) 174 (11, [zR 8, .inl a1], [.inl (hR_has M 12 a1)]) M _
  exact zH_zret hz rfl (hfinP hE)
noncomputable def hf_175_8 (M : zM) (a1 : Int) : Int :=
  (hR_has M 10 a1)
set_option maxRecDepth 100000 in
theorem fh_175_8 {n : Nat} {M : zM} (a1 : Int) : zH n (0, 0) 175 (0, zini [zR 8, .inl a1] 2, []) M (fun r M' => r = some (.inl (hf_175_8 M a1)) ∧ M' = M) := by
  have hz := zp_175
  have hE : hf_175_8 M a1 = hf_175_8 M a1 := rfl
  show zH n (0, 0) 175 (0, [zR 8, .inl a1], []) M _
  refine zH_blk (c' := (8, [zR 8, .inl a1], [.inl a1, zR 10])) 4 hz rfl ?_
  refine zH_callE hz zp_102 rfl rfl (fh_102_10 a1) ?_
  show zH n (0, 0) 175 (11, [zR 8, .inl a1], [.inl (hR_has M 10 a1)]) M _
  exact zH_zret hz rfl (hfinP hE)
noncomputable def hf_171 (M : zM) (a0 : Int) : Int :=
  (hf_169 M a0 0 100)
set_option maxRecDepth 100000 in
theorem fh_171 {n : Nat} {M : zM} (a0 : Int) : zH n (0, 0) 171 (0, zini [.inl a0] 1, []) M (fun r M' => r = some (.inl (hf_171 M a0)) ∧ M' = M) := by
  have hz := zp_171
  have hE : hf_171 M a0 = hf_171 M a0 := rfl
  show zH n (0, 0) 171 (0, [.inl a0], []) M _
  refine zH_blk (c' := (4, [.inl a0], [.inl 100, .inl 0, .inl a0])) 3 hz rfl ?_
  refine zH_callE hz zp_169 rfl rfl (fh_169 a0 0 100) ?_
  show zH n (0, 0) 171 (7, [.inl a0], [.inl (hf_169 M a0 0 100)]) M _
  exact zH_zret hz rfl (hfinP hE)
noncomputable def hf_172 (M : zM) (a0 : Int) : Int :=
  (hf_169 M a0 0 4)
set_option maxRecDepth 100000 in
theorem fh_172 {n : Nat} {M : zM} (a0 : Int) : zH n (0, 0) 172 (0, zini [.inl a0] 1, []) M (fun r M' => r = some (.inl (hf_172 M a0)) ∧ M' = M) := by
  have hz := zp_172
  have hE : hf_172 M a0 = hf_172 M a0 := rfl
  show zH n (0, 0) 172 (0, [.inl a0], []) M _
  refine zH_blk (c' := (3, [.inl a0], [.inl 4, .inl 0, .inl a0])) 3 hz rfl ?_
  refine zH_callE hz zp_169 rfl rfl (fh_169 a0 0 4) ?_
  show zH n (0, 0) 172 (6, [.inl a0], [.inl (hf_169 M a0 0 4)]) M _
  exact zH_zret hz rfl (hfinP hE)
noncomputable def hf_18_9 (M : zM) (a1 : Int) (a2 : Int) (a3 : Int) (a4 : Int) : Int × zM :=
  (((hR_open M 18).1), (hR_set (hR_set (hR_set (hR_set (hR_set (hR_set (hR_set (hR_set (hR_set (hR_set (hR_set (hR_set (hR_set (hR_set (hR_set ((hR_open M 18).2) 18 ((hR_open M 18).1) 0 (-1)) 18 ((hR_open M 18).1) 1 (-1)) 18 ((hR_open M 18).1) 2 (-1)) 18 ((hR_open M 18).1) 3 (-1)) 18 ((hR_open M 18).1) 4 (-1)) 18 ((hR_open M 18).1) 5 (-1)) 18 ((hR_open M 18).1) 6 (-1)) 18 ((hR_open M 18).1) 7 (-1)) 18 ((hR_open M 18).1) 8 (-1)) 18 ((hR_open M 18).1) 9 (-1)) 18 ((hR_open M 18).1) 10 (-1)) 18 ((hR_open M 18).1) 0 a1) 18 ((hR_open M 18).1) 1 a2) 18 ((hR_open M 18).1) 2 a3) 18 ((hR_open M 18).1) 3 a4))
set_option maxRecDepth 100000 in
theorem fh_18_9 {n : Nat} {M : zM} (a1 : Int) (a2 : Int) (a3 : Int) (a4 : Int) : zH n (0, 0) 18 (0, zini [zR 9, .inl a1, .inl a2, .inl a3, .inl a4] 7, []) M (fun r M' => r = some (.inl (hf_18_9 M a1 a2 a3 a4).1) ∧ M' = (hf_18_9 M a1 a2 a3 a4).2) := by
  have hz := zp_18
  have hE : hf_18_9 M a1 a2 a3 a4 = hf_18_9 M a1 a2 a3 a4 := rfl
  show zH n (0, 0) 18 (0, [zR 9, .inl a1, .inl a2, .inl a3, .inl a4, zN, zN], []) M _
  refine zH_blk (c' := (4, [zR 9, .inl a1, .inl a2, .inl a3, .inl a4, zN, zN], [zR 18])) 2 hz rfl ?_
  refine zH_callB hz zp_103 rfl rfl (fh_103_18) ?_
  intro u1 N2 hu1 hN2
  show zH n (0, 0) 18 (7, [zR 9, .inl a1, .inl a2, .inl a3, .inl a4, zN, zN], [.inl u1]) N2 _
  refine zH_blk (c' := (28, [zR 9, .inl a1, .inl a2, .inl a3, .inl a4, .inl u1, .inl 0], [.inl (-1), .inl 0, .inl u1, zR 18])) 11 hz rfl ?_
  refine zH_callW hz zp_107 rfl rfl (fh_107_18 u1 0 (-1)) ?_
  intro N3 hN3
  show zH n (0, 0) 18 (31, [zR 9, .inl a1, .inl a2, .inl a3, .inl a4, .inl u1, .inl 0], []) N3 _
  refine zH_blk (c' := (28, [zR 9, .inl a1, .inl a2, .inl a3, .inl a4, .inl u1, .inl 1], [.inl (-1), .inl 1, .inl u1, zR 18])) 10 hz rfl ?_
  refine zH_callW hz zp_107 rfl rfl (fh_107_18 u1 1 (-1)) ?_
  intro N4 hN4
  show zH n (0, 0) 18 (31, [zR 9, .inl a1, .inl a2, .inl a3, .inl a4, .inl u1, .inl 1], []) N4 _
  refine zH_blk (c' := (28, [zR 9, .inl a1, .inl a2, .inl a3, .inl a4, .inl u1, .inl 2], [.inl (-1), .inl 2, .inl u1, zR 18])) 10 hz rfl ?_
  refine zH_callW hz zp_107 rfl rfl (fh_107_18 u1 2 (-1)) ?_
  intro N5 hN5
  show zH n (0, 0) 18 (31, [zR 9, .inl a1, .inl a2, .inl a3, .inl a4, .inl u1, .inl 2], []) N5 _
  refine zH_blk (c' := (28, [zR 9, .inl a1, .inl a2, .inl a3, .inl a4, .inl u1, .inl 3], [.inl (-1), .inl 3, .inl u1, zR 18])) 10 hz rfl ?_
  refine zH_callW hz zp_107 rfl rfl (fh_107_18 u1 3 (-1)) ?_
  intro N6 hN6
  show zH n (0, 0) 18 (31, [zR 9, .inl a1, .inl a2, .inl a3, .inl a4, .inl u1, .inl 3], []) N6 _
  refine zH_blk (c' := (28, [zR 9, .inl a1, .inl a2, .inl a3, .inl a4, .inl u1, .inl 4], [.inl (-1), .inl 4, .inl u1, zR 18])) 10 hz rfl ?_
  refine zH_callW hz zp_107 rfl rfl (fh_107_18 u1 4 (-1)) ?_
  intro N7 hN7
  show zH n (0, 0) 18 (31, [zR 9, .inl a1, .inl a2, .inl a3, .inl a4, .inl u1, .inl 4], []) N7 _
  refine zH_blk (c' := (28, [zR 9, .inl a1, .inl a2, .inl a3, .inl a4, .inl u1, .inl 5], [.inl (-1), .inl 5, .inl u1, zR 18])) 10 hz rfl ?_
  refine zH_callW hz zp_107 rfl rfl (fh_107_18 u1 5 (-1)) ?_
  intro N8 hN8
  show zH n (0, 0) 18 (31, [zR 9, .inl a1, .inl a2, .inl a3, .inl a4, .inl u1, .inl 5], []) N8 _
  refine zH_blk (c' := (28, [zR 9, .inl a1, .inl a2, .inl a3, .inl a4, .inl u1, .inl 6], [.inl (-1), .inl 6, .inl u1, zR 18])) 10 hz rfl ?_
  refine zH_callW hz zp_107 rfl rfl (fh_107_18 u1 6 (-1)) ?_
  intro N9 hN9
  show zH n (0, 0) 18 (31, [zR 9, .inl a1, .inl a2, .inl a3, .inl a4, .inl u1, .inl 6], []) N9 _
  refine zH_blk (c' := (28, [zR 9, .inl a1, .inl a2, .inl a3, .inl a4, .inl u1, .inl 7], [.inl (-1), .inl 7, .inl u1, zR 18])) 10 hz rfl ?_
  refine zH_callW hz zp_107 rfl rfl (fh_107_18 u1 7 (-1)) ?_
  intro N10 hN10
  show zH n (0, 0) 18 (31, [zR 9, .inl a1, .inl a2, .inl a3, .inl a4, .inl u1, .inl 7], []) N10 _
  refine zH_blk (c' := (28, [zR 9, .inl a1, .inl a2, .inl a3, .inl a4, .inl u1, .inl 8], [.inl (-1), .inl 8, .inl u1, zR 18])) 10 hz rfl ?_
  refine zH_callW hz zp_107 rfl rfl (fh_107_18 u1 8 (-1)) ?_
  intro N11 hN11
  show zH n (0, 0) 18 (31, [zR 9, .inl a1, .inl a2, .inl a3, .inl a4, .inl u1, .inl 8], []) N11 _
  refine zH_blk (c' := (28, [zR 9, .inl a1, .inl a2, .inl a3, .inl a4, .inl u1, .inl 9], [.inl (-1), .inl 9, .inl u1, zR 18])) 10 hz rfl ?_
  refine zH_callW hz zp_107 rfl rfl (fh_107_18 u1 9 (-1)) ?_
  intro N12 hN12
  show zH n (0, 0) 18 (31, [zR 9, .inl a1, .inl a2, .inl a3, .inl a4, .inl u1, .inl 9], []) N12 _
  refine zH_blk (c' := (28, [zR 9, .inl a1, .inl a2, .inl a3, .inl a4, .inl u1, .inl 10], [.inl (-1), .inl 10, .inl u1, zR 18])) 10 hz rfl ?_
  refine zH_callW hz zp_107 rfl rfl (fh_107_18 u1 10 (-1)) ?_
  intro N13 hN13
  show zH n (0, 0) 18 (31, [zR 9, .inl a1, .inl a2, .inl a3, .inl a4, .inl u1, .inl 10], []) N13 _
  refine zH_blk (c' := (45, [zR 9, .inl a1, .inl a2, .inl a3, .inl a4, .inl u1, .inl 11], [.inl a1, .inl 0, .inl u1, zR 18])) 10 hz rfl ?_
  refine zH_callW hz zp_107 rfl rfl (fh_107_18 u1 0 a1) ?_
  intro N14 hN14
  show zH n (0, 0) 18 (48, [zR 9, .inl a1, .inl a2, .inl a3, .inl a4, .inl u1, .inl 11], []) N14 _
  refine zH_blk (c' := (56, [zR 9, .inl a1, .inl a2, .inl a3, .inl a4, .inl u1, .inl 11], [.inl a2, .inl 1, .inl u1, zR 18])) 5 hz rfl ?_
  refine zH_callW hz zp_107 rfl rfl (fh_107_18 u1 1 a2) ?_
  intro N15 hN15
  show zH n (0, 0) 18 (59, [zR 9, .inl a1, .inl a2, .inl a3, .inl a4, .inl u1, .inl 11], []) N15 _
  refine zH_blk (c' := (67, [zR 9, .inl a1, .inl a2, .inl a3, .inl a4, .inl u1, .inl 11], [.inl a3, .inl 2, .inl u1, zR 18])) 5 hz rfl ?_
  refine zH_callW hz zp_107 rfl rfl (fh_107_18 u1 2 a3) ?_
  intro N16 hN16
  show zH n (0, 0) 18 (70, [zR 9, .inl a1, .inl a2, .inl a3, .inl a4, .inl u1, .inl 11], []) N16 _
  refine zH_blk (c' := (79, [zR 9, .inl a1, .inl a2, .inl a3, .inl a4, .inl u1, .inl 11], [.inl a4, .inl 3, .inl u1, zR 18])) 5 hz rfl ?_
  refine zH_callW hz zp_107 rfl rfl (fh_107_18 u1 3 a4) ?_
  intro N17 hN17
  show zH n (0, 0) 18 (82, [zR 9, .inl a1, .inl a2, .inl a3, .inl a4, .inl u1, .inl 11], []) N17 _
  refine zH_blk (c' := (84, [zR 9, .inl a1, .inl a2, .inl a3, .inl a4, .inl u1, .inl 11], [.inl u1])) 1 hz rfl ?_
  subst hN17
  subst hN16
  subst hN15
  subst hN14
  subst hN13
  subst hN12
  subst hN11
  subst hN10
  subst hN9
  subst hN8
  subst hN7
  subst hN6
  subst hN5
  subst hN4
  subst hN3
  subst hN2
  subst hu1
  exact zH_ret hz rfl rfl (hfinB hE)
noncomputable def hf_129_8 (M : zM) (a1 : Int) (a2 : Int) (a3 : Int) (a4 : Int) (a5 : Int) (a6 : Int) : Int × zM :=
  (if (hf_174_8 M a1) = 0 then ((-2), M) else (if (hf_175_8 M a2) = 0 then ((-2), M) else (if (hf_171 M a3) = 0 then ((-2), M) else (if ¬ (hf_172 M a4) = 0 then (if (hf_170 M a5) = 0 then ((-2), M) else (if ¬ (hf_169 M a6 a5 9999) = 0 then (((hf_18_9 M 0 a5 a6 (-1)).1), (hR_set (hR_set (hR_set (hR_set ((hf_18_9 M 0 a5 a6 (-1)).2) 18 ((hf_18_9 M 0 a5 a6 (-1)).1) 4 a1) 18 ((hf_18_9 M 0 a5 a6 (-1)).1) 5 a2) 18 ((hf_18_9 M 0 a5 a6 (-1)).1) 7 a3) 18 ((hf_18_9 M 0 a5 a6 (-1)).1) 8 a4)) else ((-2), M))) else ((-2), M)))))
set_option maxRecDepth 100000 in
theorem fh_129_8 {n : Nat} {M : zM} (a1 : Int) (a2 : Int) (a3 : Int) (a4 : Int) (a5 : Int) (a6 : Int) : zH n (0, 0) 129 (0, zini [zR 8, .inl a1, .inl a2, .inl a3, .inl a4, .inl a5, .inl a6] 8, []) M (fun r M' => r = some (.inl (hf_129_8 M a1 a2 a3 a4 a5 a6).1) ∧ M' = (hf_129_8 M a1 a2 a3 a4 a5 a6).2) := by
  have hz := zp_129
  have hE : hf_129_8 M a1 a2 a3 a4 a5 a6 = hf_129_8 M a1 a2 a3 a4 a5 a6 := rfl
  show zH n (0, 0) 129 (0, [zR 8, .inl a1, .inl a2, .inl a3, .inl a4, .inl a5, .inl a6, zN], []) M _
  refine zH_blk (c' := (2, [zR 8, .inl a1, .inl a2, .inl a3, .inl a4, .inl a5, .inl a6, zN], [.inl a1, zR 8])) 2 hz rfl ?_
  refine zH_callE hz zp_174 rfl rfl (fh_174_8 a1) ?_
  show zH n (0, 0) 129 (5, [zR 8, .inl a1, .inl a2, .inl a3, .inl a4, .inl a5, .inl a6, zN], [.inl (hf_174_8 M a1)]) M _
  refine zH_if_eq hz rfl (fun hb => ?_) (fun hb => ?_)
  · have hE := hE.trans (if_pos hb)
    refine zH_blk (c' := (33, [zR 8, .inl a1, .inl a2, .inl a3, .inl a4, .inl a5, .inl a6, zN], [.inl (-2)])) 1 hz rfl ?_
    exact zH_ret hz rfl rfl (hfinB hE)
  · have hE := hE.trans (if_neg hb)
    refine zH_blk (c' := (10, [zR 8, .inl a1, .inl a2, .inl a3, .inl a4, .inl a5, .inl a6, zN], [.inl a2, zR 8])) 2 hz rfl ?_
    refine zH_callE hz zp_175 rfl rfl (fh_175_8 a2) ?_
    show zH n (0, 0) 129 (13, [zR 8, .inl a1, .inl a2, .inl a3, .inl a4, .inl a5, .inl a6, zN], [.inl (hf_175_8 M a2)]) M _
    refine zH_if_eq hz rfl (fun hb => ?_) (fun hb => ?_)
    · have hE := hE.trans (if_pos hb)
      refine zH_blk (c' := (33, [zR 8, .inl a1, .inl a2, .inl a3, .inl a4, .inl a5, .inl a6, zN], [.inl (-2)])) 1 hz rfl ?_
      exact zH_ret hz rfl rfl (hfinB hE)
    · have hE := hE.trans (if_neg hb)
      refine zH_blk (c' := (17, [zR 8, .inl a1, .inl a2, .inl a3, .inl a4, .inl a5, .inl a6, zN], [.inl a3])) 1 hz rfl ?_
      refine zH_callE hz zp_171 rfl rfl (fh_171 a3) ?_
      show zH n (0, 0) 129 (20, [zR 8, .inl a1, .inl a2, .inl a3, .inl a4, .inl a5, .inl a6, zN], [.inl (hf_171 M a3)]) M _
      refine zH_if_eq hz rfl (fun hb => ?_) (fun hb => ?_)
      · have hE := hE.trans (if_pos hb)
        refine zH_blk (c' := (33, [zR 8, .inl a1, .inl a2, .inl a3, .inl a4, .inl a5, .inl a6, zN], [.inl (-2)])) 1 hz rfl ?_
        exact zH_ret hz rfl rfl (hfinB hE)
      · have hE := hE.trans (if_neg hb)
        refine zH_blk (c' := (25, [zR 8, .inl a1, .inl a2, .inl a3, .inl a4, .inl a5, .inl a6, zN], [.inl a4])) 1 hz rfl ?_
        refine zH_callE hz zp_172 rfl rfl (fh_172 a4) ?_
        show zH n (0, 0) 129 (28, [zR 8, .inl a1, .inl a2, .inl a3, .inl a4, .inl a5, .inl a6, zN], [.inl (hf_172 M a4)]) M _
        refine zH_if_ne hz rfl (fun hb => ?_) (fun hb => ?_)
        · have hE := hE.trans (if_pos hb)
          refine zH_blk (c' := (36, [zR 8, .inl a1, .inl a2, .inl a3, .inl a4, .inl a5, .inl a6, zN], [.inl a5])) 1 hz rfl ?_
          refine zH_callE hz zp_170 rfl rfl (fh_170 a5) ?_
          show zH n (0, 0) 129 (39, [zR 8, .inl a1, .inl a2, .inl a3, .inl a4, .inl a5, .inl a6, zN], [.inl (hf_170 M a5)]) M _
          refine zH_if_eq hz rfl (fun hb => ?_) (fun hb => ?_)
          · have hE := hE.trans (if_pos hb)
            refine zH_blk (c' := (57, [zR 8, .inl a1, .inl a2, .inl a3, .inl a4, .inl a5, .inl a6, zN], [.inl (-2)])) 1 hz rfl ?_
            exact zH_ret hz rfl rfl (hfinB hE)
          · have hE := hE.trans (if_neg hb)
            refine zH_blk (c' := (49, [zR 8, .inl a1, .inl a2, .inl a3, .inl a4, .inl a5, .inl a6, zN], [.inl 9999, .inl a5, .inl a6])) 3 hz rfl ?_
            refine zH_callE hz zp_169 rfl rfl (fh_169 a6 a5 9999) ?_
            show zH n (0, 0) 129 (52, [zR 8, .inl a1, .inl a2, .inl a3, .inl a4, .inl a5, .inl a6, zN], [.inl (hf_169 M a6 a5 9999)]) M _
            refine zH_if_ne hz rfl (fun hb => ?_) (fun hb => ?_)
            · have hE := hE.trans (if_pos hb)
              refine zH_blk (c' := (68, [zR 8, .inl a1, .inl a2, .inl a3, .inl a4, .inl a5, .inl a6, zN], [.inl (-1), .inl a6, .inl a5, .inl 0, zR 9])) 6 hz rfl ?_
              refine zH_callB hz zp_18 rfl rfl (fh_18_9 0 a5 a6 (-1)) ?_
              intro u1 N2 hu1 hN2
              show zH n (0, 0) 129 (71, [zR 8, .inl a1, .inl a2, .inl a3, .inl a4, .inl a5, .inl a6, zN], [.inl u1]) N2 _
              refine zH_blk (c' := (84, [zR 8, .inl a1, .inl a2, .inl a3, .inl a4, .inl a5, .inl a6, .inl u1], [.inl a1, .inl 4, .inl u1, zR 18])) 7 hz rfl ?_
              refine zH_callW hz zp_107 rfl rfl (fh_107_18 u1 4 a1) ?_
              intro N3 hN3
              show zH n (0, 0) 129 (87, [zR 8, .inl a1, .inl a2, .inl a3, .inl a4, .inl a5, .inl a6, .inl u1], []) N3 _
              refine zH_blk (c' := (98, [zR 8, .inl a1, .inl a2, .inl a3, .inl a4, .inl a5, .inl a6, .inl u1], [.inl a2, .inl 5, .inl u1, zR 18])) 6 hz rfl ?_
              refine zH_callW hz zp_107 rfl rfl (fh_107_18 u1 5 a2) ?_
              intro N4 hN4
              show zH n (0, 0) 129 (101, [zR 8, .inl a1, .inl a2, .inl a3, .inl a4, .inl a5, .inl a6, .inl u1], []) N4 _
              refine zH_blk (c' := (113, [zR 8, .inl a1, .inl a2, .inl a3, .inl a4, .inl a5, .inl a6, .inl u1], [.inl a3, .inl 7, .inl u1, zR 18])) 6 hz rfl ?_
              refine zH_callW hz zp_107 rfl rfl (fh_107_18 u1 7 a3) ?_
              intro N5 hN5
              show zH n (0, 0) 129 (116, [zR 8, .inl a1, .inl a2, .inl a3, .inl a4, .inl a5, .inl a6, .inl u1], []) N5 _
              refine zH_blk (c' := (129, [zR 8, .inl a1, .inl a2, .inl a3, .inl a4, .inl a5, .inl a6, .inl u1], [.inl a4, .inl 8, .inl u1, zR 18])) 6 hz rfl ?_
              refine zH_callW hz zp_107 rfl rfl (fh_107_18 u1 8 a4) ?_
              intro N6 hN6
              show zH n (0, 0) 129 (132, [zR 8, .inl a1, .inl a2, .inl a3, .inl a4, .inl a5, .inl a6, .inl u1], []) N6 _
              refine zH_blk (c' := (134, [zR 8, .inl a1, .inl a2, .inl a3, .inl a4, .inl a5, .inl a6, .inl u1], [.inl u1])) 1 hz rfl ?_
              subst hN6
              subst hN5
              subst hN4
              subst hN3
              subst hN2
              subst hu1
              exact zH_ret hz rfl rfl (hfinB hE)
            · have hE := hE.trans (if_neg hb)
              refine zH_blk (c' := (57, [zR 8, .inl a1, .inl a2, .inl a3, .inl a4, .inl a5, .inl a6, zN], [.inl (-2)])) 1 hz rfl ?_
              exact zH_ret hz rfl rfl (hfinB hE)
        · have hE := hE.trans (if_neg hb)
          refine zH_blk (c' := (33, [zR 8, .inl a1, .inl a2, .inl a3, .inl a4, .inl a5, .inl a6, zN], [.inl (-2)])) 1 hz rfl ?_
          exact zH_ret hz rfl rfl (hfinB hE)
