noncomputable def hR_drop (M : zM) (r : Nat) : zM :=
  zput M r 3 0
set_option maxRecDepth 100000 in
theorem fh_104_24 {n : Nat} {M : zM} : zH n (0, 0) 104 (0, zini [zR 24] 1, []) M (fun r M' => r = none ∧ M' = hR_drop M 24) := by
  have hz := zp_104
  have hE : hR_drop M 24 = hR_drop M 24 := rfl
  show zH n (0, 0) 104 (0, [zR 24], []) M _
  refine zH_blk (c' := (5, [zR 24], [])) 3 hz rfl ?_
  exact zH_ret hz rfl rfl ⟨rfl, hE.symm⟩
noncomputable def hf_169 (M : zM) (a0 : Int) (a1 : Int) (a2 : Int) : Int :=
  (if a0 < a1 then 0 else (if a2 < a0 then 0 else 1))
set_option maxRecDepth 100000 in
theorem fh_169 {n : Nat} {M : zM} (a0 : Int) (a1 : Int) (a2 : Int) : zH n (0, 0) 169 (0, zini [.inl a0, .inl a1, .inl a2] 3, []) M (fun r M' => r = some (.inl (hf_169 M a0 a1 a2)) ∧ M' = M) := by
  have hz := zp_169
  have hE : hf_169 M a0 a1 a2 = hf_169 M a0 a1 a2 := rfl
  show zH n (0, 0) 169 (0, [.inl a0, .inl a1, .inl a2], []) M _
  refine zH_blk (c' := (2, [.inl a0, .inl a1, .inl a2], [.inl a1, .inl a0])) 2 hz rfl ?_
  refine zH_icmp_lt hz rfl (fun hb => ?_) (fun hb => ?_)
  · have hE := hE.trans (if_pos hb)
    refine zH_blk (c' := (15, [.inl a0, .inl a1, .inl a2], [.inl 0])) 1 hz rfl ?_
    exact zH_zret hz rfl (hfinP hE)
  · have hE := hE.trans (if_neg hb)
    refine zH_blk (c' := (7, [.inl a0, .inl a1, .inl a2], [.inl a2, .inl a0])) 2 hz rfl ?_
    refine zH_icmp_gt hz rfl (fun hb => ?_) (fun hb => ?_)
    · have hE := hE.trans (if_pos hb)
      refine zH_blk (c' := (15, [.inl a0, .inl a1, .inl a2], [.inl 0])) 1 hz rfl ?_
      exact zH_zret hz rfl (hfinP hE)
    · have hE := hE.trans (if_neg hb)
      refine zH_blk (c' := (15, [.inl a0, .inl a1, .inl a2], [.inl 1])) 2 hz rfl ?_
      exact zH_zret hz rfl (hfinP hE)
noncomputable def hf_177_8 (M : zM) : Int :=
  w32 ((zbshl 1 (hR_size M 10)) - 1)
set_option maxRecDepth 100000 in
theorem fh_177_8 {n : Nat} {M : zM} : zH n (0, 0) 177 (0, zini [zR 8] 1, []) M (fun r M' => r = some (.inl (hf_177_8 M)) ∧ M' = M) := by
  have hz := zp_177
  have hE : hf_177_8 M = hf_177_8 M := rfl
  show zH n (0, 0) 177 (0, [zR 8], []) M _
  refine zH_blk (c' := (8, [zR 8], [zR 10, .inl 1])) 4 hz rfl ?_
  refine zH_callE hz zp_101 rfl rfl (fh_101_10) ?_
  show zH n (0, 0) 177 (11, [zR 8], [.inl (hR_size M 10), .inl 1]) M _
  refine zH_blk (c' := (14, [zR 8], [.inl (w32 ((zbshl 1 (hR_size M 10)) - 1))])) 3 hz rfl ?_
  exact zH_ret hz rfl rfl (hfinP hE)
noncomputable def hf_123_8 (M : zM) (a1 : Int) (a2 : Int) (a3 : Int) (a4 : Int) : Int × zM :=
  (if (hf_169 M a1 1 60) = 0 then ((-2), M) else (if ¬ (hf_169 M a2 0 (hf_177_8 M)) = 0 then (if (hf_169 M a3 1 7) = 0 then ((-2), M) else (if ¬ (hf_169 M a4 0 100) = 0 then (((hR_open M 10).1), (hR_set (hR_set (hR_set (hR_set ((hR_open M 10).2) 10 ((hR_open M 10).1) 0 a1) 10 ((hR_open M 10).1) 1 a2) 10 ((hR_open M 10).1) 2 a3) 10 ((hR_open M 10).1) 3 a4)) else ((-2), M))) else ((-2), M)))
set_option maxRecDepth 100000 in
theorem fh_123_8 {n : Nat} {M : zM} (a1 : Int) (a2 : Int) (a3 : Int) (a4 : Int) : zH n (0, 0) 123 (0, zini [zR 8, .inl a1, .inl a2, .inl a3, .inl a4] 6, []) M (fun r M' => r = some (.inl (hf_123_8 M a1 a2 a3 a4).1) ∧ M' = (hf_123_8 M a1 a2 a3 a4).2) := by
  have hz := zp_123
  have hE : hf_123_8 M a1 a2 a3 a4 = hf_123_8 M a1 a2 a3 a4 := rfl
  show zH n (0, 0) 123 (0, [zR 8, .inl a1, .inl a2, .inl a3, .inl a4, zN], []) M _
  refine zH_blk (c' := (4, [zR 8, .inl a1, .inl a2, .inl a3, .inl a4, zN], [.inl 60, .inl 1, .inl a1])) 3 hz rfl ?_
  refine zH_callE hz zp_169 rfl rfl (fh_169 a1 1 60) ?_
  show zH n (0, 0) 123 (7, [zR 8, .inl a1, .inl a2, .inl a3, .inl a4, zN], [.inl (hf_169 M a1 1 60)]) M _
  refine zH_if_eq hz rfl (fun hb => ?_) (fun hb => ?_)
  · have hE := hE.trans (if_pos hb)
    refine zH_blk (c' := (24, [zR 8, .inl a1, .inl a2, .inl a3, .inl a4, zN], [.inl (-2)])) 1 hz rfl ?_
    exact zH_ret hz rfl rfl (hfinB hE)
  · have hE := hE.trans (if_neg hb)
    refine zH_blk (c' := (13, [zR 8, .inl a1, .inl a2, .inl a3, .inl a4, zN], [zR 8, .inl 0, .inl a2])) 3 hz rfl ?_
    refine zH_callE hz zp_177 rfl rfl (fh_177_8) ?_
    show zH n (0, 0) 123 (16, [zR 8, .inl a1, .inl a2, .inl a3, .inl a4, zN], [.inl (hf_177_8 M), .inl 0, .inl a2]) M _
    refine zH_callE hz zp_169 rfl rfl (fh_169 a2 0 (hf_177_8 M)) ?_
    show zH n (0, 0) 123 (19, [zR 8, .inl a1, .inl a2, .inl a3, .inl a4, zN], [.inl (hf_169 M a2 0 (hf_177_8 M))]) M _
    refine zH_if_ne hz rfl (fun hb => ?_) (fun hb => ?_)
    · have hE := hE.trans (if_pos hb)
      refine zH_blk (c' := (29, [zR 8, .inl a1, .inl a2, .inl a3, .inl a4, zN], [.inl 7, .inl 1, .inl a3])) 3 hz rfl ?_
      refine zH_callE hz zp_169 rfl rfl (fh_169 a3 1 7) ?_
      show zH n (0, 0) 123 (32, [zR 8, .inl a1, .inl a2, .inl a3, .inl a4, zN], [.inl (hf_169 M a3 1 7)]) M _
      refine zH_if_eq hz rfl (fun hb => ?_) (fun hb => ?_)
      · have hE := hE.trans (if_pos hb)
        refine zH_blk (c' := (48, [zR 8, .inl a1, .inl a2, .inl a3, .inl a4, zN], [.inl (-2)])) 1 hz rfl ?_
        exact zH_ret hz rfl rfl (hfinB hE)
      · have hE := hE.trans (if_neg hb)
        refine zH_blk (c' := (40, [zR 8, .inl a1, .inl a2, .inl a3, .inl a4, zN], [.inl 100, .inl 0, .inl a4])) 3 hz rfl ?_
        refine zH_callE hz zp_169 rfl rfl (fh_169 a4 0 100) ?_
        show zH n (0, 0) 123 (43, [zR 8, .inl a1, .inl a2, .inl a3, .inl a4, zN], [.inl (hf_169 M a4 0 100)]) M _
        refine zH_if_ne hz rfl (fun hb => ?_) (fun hb => ?_)
        · have hE := hE.trans (if_pos hb)
          refine zH_blk (c' := (56, [zR 8, .inl a1, .inl a2, .inl a3, .inl a4, zN], [zR 10])) 3 hz rfl ?_
          refine zH_callB hz zp_103 rfl rfl (fh_103_10) ?_
          intro u1 N2 hu1 hN2
          show zH n (0, 0) 123 (59, [zR 8, .inl a1, .inl a2, .inl a3, .inl a4, zN], [.inl u1]) N2 _
          refine zH_blk (c' := (72, [zR 8, .inl a1, .inl a2, .inl a3, .inl a4, .inl u1], [.inl a1, .inl 0, .inl u1, zR 10])) 7 hz rfl ?_
          refine zH_callW hz zp_107 rfl rfl (fh_107_10 u1 0 a1) ?_
          intro N3 hN3
          show zH n (0, 0) 123 (75, [zR 8, .inl a1, .inl a2, .inl a3, .inl a4, .inl u1], []) N3 _
          refine zH_blk (c' := (86, [zR 8, .inl a1, .inl a2, .inl a3, .inl a4, .inl u1], [.inl a2, .inl 1, .inl u1, zR 10])) 6 hz rfl ?_
          refine zH_callW hz zp_107 rfl rfl (fh_107_10 u1 1 a2) ?_
          intro N4 hN4
          show zH n (0, 0) 123 (89, [zR 8, .inl a1, .inl a2, .inl a3, .inl a4, .inl u1], []) N4 _
          refine zH_blk (c' := (100, [zR 8, .inl a1, .inl a2, .inl a3, .inl a4, .inl u1], [.inl a3, .inl 2, .inl u1, zR 10])) 6 hz rfl ?_
          refine zH_callW hz zp_107 rfl rfl (fh_107_10 u1 2 a3) ?_
          intro N5 hN5
          show zH n (0, 0) 123 (103, [zR 8, .inl a1, .inl a2, .inl a3, .inl a4, .inl u1], []) N5 _
          refine zH_blk (c' := (115, [zR 8, .inl a1, .inl a2, .inl a3, .inl a4, .inl u1], [.inl a4, .inl 3, .inl u1, zR 10])) 6 hz rfl ?_
          refine zH_callW hz zp_107 rfl rfl (fh_107_10 u1 3 a4) ?_
          intro N6 hN6
          show zH n (0, 0) 123 (118, [zR 8, .inl a1, .inl a2, .inl a3, .inl a4, .inl u1], []) N6 _
          refine zH_blk (c' := (120, [zR 8, .inl a1, .inl a2, .inl a3, .inl a4, .inl u1], [.inl u1])) 1 hz rfl ?_
          subst hN6
          subst hN5
          subst hN4
          subst hN3
          subst hN2
          subst hu1
          exact zH_ret hz rfl rfl (hfinB hE)
        · have hE := hE.trans (if_neg hb)
          refine zH_blk (c' := (48, [zR 8, .inl a1, .inl a2, .inl a3, .inl a4, zN], [.inl (-2)])) 1 hz rfl ?_
          exact zH_ret hz rfl rfl (hfinB hE)
    · have hE := hE.trans (if_neg hb)
      refine zH_blk (c' := (24, [zR 8, .inl a1, .inl a2, .inl a3, .inl a4, zN], [.inl (-2)])) 1 hz rfl ?_
      exact zH_ret hz rfl rfl (hfinB hE)
noncomputable def hf_170 (M : zM) (a0 : Int) : Int :=
  (hf_169 M a0 0 9999)
set_option maxRecDepth 100000 in
theorem fh_170 {n : Nat} {M : zM} (a0 : Int) : zH n (0, 0) 170 (0, zini [.inl a0] 1, []) M (fun r M' => r = some (.inl (hf_170 M a0)) ∧ M' = M) := by
  have hz := zp_170
  have hE : hf_170 M a0 = hf_170 M a0 := rfl
  show zH n (0, 0) 170 (0, [.inl a0], []) M _
  refine zH_blk (c' := (5, [.inl a0], [.inl 9999, .inl 0, .inl a0])) 3 hz rfl ?_
  refine zH_callE hz zp_169 rfl rfl (fh_169 a0 0 9999) ?_
  show zH n (0, 0) 170 (8, [.inl a0], [.inl (hf_169 M a0 0 9999)]) M _
  exact zH_zret hz rfl (hfinP hE)
noncomputable def hf_124_8 (M : zM) (a1 : Int) : Int × zM :=
  (if ¬ (hf_170 M a1) = 0 then (((hR_open M 12).1), (hR_set (hR_set (hR_set ((hR_open M 12).2) 12 ((hR_open M 12).1) 0 a1) 12 ((hR_open M 12).1) 1 (-1)) 12 ((hR_open M 12).1) 2 0)) else ((-2), M))
set_option maxRecDepth 100000 in
theorem fh_124_8 {n : Nat} {M : zM} (a1 : Int) : zH n (0, 0) 124 (0, zini [zR 8, .inl a1] 3, []) M (fun r M' => r = some (.inl (hf_124_8 M a1).1) ∧ M' = (hf_124_8 M a1).2) := by
  have hz := zp_124
  have hE : hf_124_8 M a1 = hf_124_8 M a1 := rfl
  show zH n (0, 0) 124 (0, [zR 8, .inl a1, zN], []) M _
  refine zH_blk (c' := (1, [zR 8, .inl a1, zN], [.inl a1])) 1 hz rfl ?_
  refine zH_callE hz zp_170 rfl rfl (fh_170 a1) ?_
  show zH n (0, 0) 124 (4, [zR 8, .inl a1, zN], [.inl (hf_170 M a1)]) M _
  refine zH_if_ne hz rfl (fun hb => ?_) (fun hb => ?_)
  · have hE := hE.trans (if_pos hb)
    refine zH_blk (c' := (17, [zR 8, .inl a1, zN], [zR 12])) 3 hz rfl ?_
    refine zH_callB hz zp_103 rfl rfl (fh_103_12) ?_
    intro u1 N2 hu1 hN2
    show zH n (0, 0) 124 (20, [zR 8, .inl a1, zN], [.inl u1]) N2 _
    refine zH_blk (c' := (31, [zR 8, .inl a1, .inl u1], [.inl a1, .inl 0, .inl u1, zR 12])) 7 hz rfl ?_
    refine zH_callW hz zp_107 rfl rfl (fh_107_12 u1 0 a1) ?_
    intro N3 hN3
    show zH n (0, 0) 124 (34, [zR 8, .inl a1, .inl u1], []) N3 _
    refine zH_blk (c' := (44, [zR 8, .inl a1, .inl u1], [.inl (-1), .inl 1, .inl u1, zR 12])) 6 hz rfl ?_
    refine zH_callW hz zp_107 rfl rfl (fh_107_12 u1 1 (-1)) ?_
    intro N4 hN4
    show zH n (0, 0) 124 (47, [zR 8, .inl a1, .inl u1], []) N4 _
    refine zH_blk (c' := (57, [zR 8, .inl a1, .inl u1], [.inl 0, .inl 2, .inl u1, zR 12])) 6 hz rfl ?_
    refine zH_callW hz zp_107 rfl rfl (fh_107_12 u1 2 0) ?_
    intro N5 hN5
    show zH n (0, 0) 124 (60, [zR 8, .inl a1, .inl u1], []) N5 _
    refine zH_blk (c' := (61, [zR 8, .inl a1, .inl u1], [.inl u1])) 1 hz rfl ?_
    subst hN5
    subst hN4
    subst hN3
    subst hN2
    subst hu1
    exact zH_ret hz rfl rfl (hfinB hE)
  · have hE := hE.trans (if_neg hb)
    refine zH_blk (c' := (9, [zR 8, .inl a1, zN], [.inl (-2)])) 1 hz rfl ?_
    exact zH_ret hz rfl rfl (hfinB hE)
noncomputable def hf_125_8 (M : zM) (a1 : Int) (a2 : Int) : Int × zM :=
  (if (hf_169 M a1 1 1023) = 0 then ((-2), M) else (if ¬ (hf_169 M a2 1 10) = 0 then (((hR_open M 14).1), (hR_set (hR_set ((hR_open M 14).2) 14 ((hR_open M 14).1) 0 a1) 14 ((hR_open M 14).1) 1 a2)) else ((-2), M)))
set_option maxRecDepth 100000 in
theorem fh_125_8 {n : Nat} {M : zM} (a1 : Int) (a2 : Int) : zH n (0, 0) 125 (0, zini [zR 8, .inl a1, .inl a2] 4, []) M (fun r M' => r = some (.inl (hf_125_8 M a1 a2).1) ∧ M' = (hf_125_8 M a1 a2).2) := by
  have hz := zp_125
  have hE : hf_125_8 M a1 a2 = hf_125_8 M a1 a2 := rfl
  show zH n (0, 0) 125 (0, [zR 8, .inl a1, .inl a2, zN], []) M _
  refine zH_blk (c' := (5, [zR 8, .inl a1, .inl a2, zN], [.inl 1023, .inl 1, .inl a1])) 3 hz rfl ?_
  refine zH_callE hz zp_169 rfl rfl (fh_169 a1 1 1023) ?_
  show zH n (0, 0) 125 (8, [zR 8, .inl a1, .inl a2, zN], [.inl (hf_169 M a1 1 1023)]) M _
  refine zH_if_eq hz rfl (fun hb => ?_) (fun hb => ?_)
  · have hE := hE.trans (if_pos hb)
    refine zH_blk (c' := (23, [zR 8, .inl a1, .inl a2, zN], [.inl (-2)])) 1 hz rfl ?_
    exact zH_ret hz rfl rfl (hfinB hE)
  · have hE := hE.trans (if_neg hb)
    refine zH_blk (c' := (15, [zR 8, .inl a1, .inl a2, zN], [.inl 10, .inl 1, .inl a2])) 3 hz rfl ?_
    refine zH_callE hz zp_169 rfl rfl (fh_169 a2 1 10) ?_
    show zH n (0, 0) 125 (18, [zR 8, .inl a1, .inl a2, zN], [.inl (hf_169 M a2 1 10)]) M _
    refine zH_if_ne hz rfl (fun hb => ?_) (fun hb => ?_)
    · have hE := hE.trans (if_pos hb)
      refine zH_blk (c' := (31, [zR 8, .inl a1, .inl a2, zN], [zR 14])) 3 hz rfl ?_
      refine zH_callB hz zp_103 rfl rfl (fh_103_14) ?_
      intro u1 N2 hu1 hN2
      show zH n (0, 0) 125 (34, [zR 8, .inl a1, .inl a2, zN], [.inl u1]) N2 _
      refine zH_blk (c' := (45, [zR 8, .inl a1, .inl a2, .inl u1], [.inl a1, .inl 0, .inl u1, zR 14])) 7 hz rfl ?_
      refine zH_callW hz zp_107 rfl rfl (fh_107_14 u1 0 a1) ?_
      intro N3 hN3
      show zH n (0, 0) 125 (48, [zR 8, .inl a1, .inl a2, .inl u1], []) N3 _
      refine zH_blk (c' := (58, [zR 8, .inl a1, .inl a2, .inl u1], [.inl a2, .inl 1, .inl u1, zR 14])) 6 hz rfl ?_
      refine zH_callW hz zp_107 rfl rfl (fh_107_14 u1 1 a2) ?_
      intro N4 hN4
      show zH n (0, 0) 125 (61, [zR 8, .inl a1, .inl a2, .inl u1], []) N4 _
      refine zH_blk (c' := (62, [zR 8, .inl a1, .inl a2, .inl u1], [.inl u1])) 1 hz rfl ?_
      subst hN4
      subst hN3
      subst hN2
      subst hu1
      exact zH_ret hz rfl rfl (hfinB hE)
    · have hE := hE.trans (if_neg hb)
      refine zH_blk (c' := (23, [zR 8, .inl a1, .inl a2, zN], [.inl (-2)])) 1 hz rfl ?_
      exact zH_ret hz rfl rfl (hfinB hE)
noncomputable def hf_126_8 (M : zM) (a1 : Int) (a2 : Int) (a3 : Int) (a4 : Int) : Int × zM :=
  (if (hR_has M 14 a1) = 0 then ((-2), M) else (if ¬ (hf_170 M a2) = 0 then (if (hf_169 M a3 0 1023) = 0 then ((-2), M) else (if ¬ (hf_169 M a4 0 1023) = 0 then (((hR_open M 16).1), (hR_set (hR_set (hR_set (hR_set (hR_set ((hR_open M 16).2) 16 ((hR_open M 16).1) 0 a1) 16 ((hR_open M 16).1) 1 a2) 16 ((hR_open M 16).1) 2 a3) 16 ((hR_open M 16).1) 3 a4) 16 ((hR_open M 16).1) 4 0)) else ((-2), M))) else ((-2), M)))
