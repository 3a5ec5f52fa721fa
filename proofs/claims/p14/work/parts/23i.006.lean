set_option maxRecDepth 100000 in
theorem fh_134_8 {n : Nat} {M : zM} (a1 : Int) (a2 : Int) (a3 : Int) : zH n (0, 0) 134 (0, zini [zR 8, .inl a1, .inl a2, .inl a3] 5, []) M (fun r M' => r = some (.inl (hf_134_8 M a1 a2 a3).1) ∧ M' = (hf_134_8 M a1 a2 a3).2) := by
  have hz := zp_134
  have hE : hf_134_8 M a1 a2 a3 = hf_134_8 M a1 a2 a3 := rfl
  show zH n (0, 0) 134 (0, [zR 8, .inl a1, .inl a2, .inl a3, zN], []) M _
  refine zH_blk (c' := (8, [zR 8, .inl a1, .inl a2, .inl a3, zN], [.inl a1, zR 18])) 4 hz rfl ?_
  refine zH_callE hz zp_102 rfl rfl (fh_102_18 a1) ?_
  show zH n (0, 0) 134 (11, [zR 8, .inl a1, .inl a2, .inl a3, zN], [.inl (hR_has M 18 a1)]) M _
  refine zH_if_eq hz rfl (fun hb => ?_) (fun hb => ?_)
  · have hE := hE.trans (if_pos hb)
    refine zH_blk (c' := (25, [zR 8, .inl a1, .inl a2, .inl a3, zN], [.inl (-2)])) 1 hz rfl ?_
    exact zH_ret hz rfl rfl (hfinB hE)
  · have hE := hE.trans (if_neg hb)
    refine zH_blk (c' := (17, [zR 8, .inl a1, .inl a2, .inl a3, zN], [.inl a3, .inl a2, zR 8])) 3 hz rfl ?_
    refine zH_callE hz zp_178 rfl rfl (fh_178_8 a2 a3) ?_
    show zH n (0, 0) 134 (20, [zR 8, .inl a1, .inl a2, .inl a3, zN], [.inl (hf_178_8 M a2 a3)]) M _
    refine zH_if_ne hz rfl (fun hb => ?_) (fun hb => ?_)
    · have hE := hE.trans (if_pos hb)
      refine zH_blk (c' := (30, [zR 8, .inl a1, .inl a2, .inl a3, zN], [.inl a3, .inl a2, .inl 5, zR 8])) 4 hz rfl ?_
      refine zH_callB hz zp_179 rfl rfl (fh_179_8 5 a2 a3) ?_
      intro u1 N2 hu1 hN2
      show zH n (0, 0) 134 (33, [zR 8, .inl a1, .inl a2, .inl a3, zN], [.inl u1]) N2 _
      refine zH_blk (c' := (47, [zR 8, .inl a1, .inl a2, .inl a3, .inl u1], [.inl a1, .inl 6, .inl u1, zR 18])) 7 hz rfl ?_
      refine zH_callW hz zp_107 rfl rfl (fh_107_18 u1 6 a1) ?_
      intro N3 hN3
      show zH n (0, 0) 134 (50, [zR 8, .inl a1, .inl a2, .inl a3, .inl u1], []) N3 _
      refine zH_blk (c' := (52, [zR 8, .inl a1, .inl a2, .inl a3, .inl u1], [.inl u1])) 1 hz rfl ?_
      subst hN3
      subst hN2
      subst hu1
      exact zH_ret hz rfl rfl (hfinB hE)
    · have hE := hE.trans (if_neg hb)
      refine zH_blk (c' := (25, [zR 8, .inl a1, .inl a2, .inl a3, zN], [.inl (-2)])) 1 hz rfl ?_
      exact zH_ret hz rfl rfl (hfinB hE)
noncomputable def hf_135_8 (M : zM) (a1 : Int) (a2 : Int) (a3 : Int) : Int × zM :=
  (if (hf_174_8 M a1) = 0 then ((-2), M) else (if ¬ (hf_178_8 M a2 a3) = 0 then (((hf_179_8 M 6 a2 a3).1), (hR_set ((hf_179_8 M 6 a2 a3).2) 18 ((hf_179_8 M 6 a2 a3).1) 4 a1)) else ((-2), M)))
set_option maxRecDepth 100000 in
theorem fh_135_8 {n : Nat} {M : zM} (a1 : Int) (a2 : Int) (a3 : Int) : zH n (0, 0) 135 (0, zini [zR 8, .inl a1, .inl a2, .inl a3] 5, []) M (fun r M' => r = some (.inl (hf_135_8 M a1 a2 a3).1) ∧ M' = (hf_135_8 M a1 a2 a3).2) := by
  have hz := zp_135
  have hE : hf_135_8 M a1 a2 a3 = hf_135_8 M a1 a2 a3 := rfl
  show zH n (0, 0) 135 (0, [zR 8, .inl a1, .inl a2, .inl a3, zN], []) M _
  refine zH_blk (c' := (2, [zR 8, .inl a1, .inl a2, .inl a3, zN], [.inl a1, zR 8])) 2 hz rfl ?_
  refine zH_callE hz zp_174 rfl rfl (fh_174_8 a1) ?_
  show zH n (0, 0) 135 (5, [zR 8, .inl a1, .inl a2, .inl a3, zN], [.inl (hf_174_8 M a1)]) M _
  refine zH_if_eq hz rfl (fun hb => ?_) (fun hb => ?_)
  · have hE := hE.trans (if_pos hb)
    refine zH_blk (c' := (19, [zR 8, .inl a1, .inl a2, .inl a3, zN], [.inl (-2)])) 1 hz rfl ?_
    exact zH_ret hz rfl rfl (hfinB hE)
  · have hE := hE.trans (if_neg hb)
    refine zH_blk (c' := (11, [zR 8, .inl a1, .inl a2, .inl a3, zN], [.inl a3, .inl a2, zR 8])) 3 hz rfl ?_
    refine zH_callE hz zp_178 rfl rfl (fh_178_8 a2 a3) ?_
    show zH n (0, 0) 135 (14, [zR 8, .inl a1, .inl a2, .inl a3, zN], [.inl (hf_178_8 M a2 a3)]) M _
    refine zH_if_ne hz rfl (fun hb => ?_) (fun hb => ?_)
    · have hE := hE.trans (if_pos hb)
      refine zH_blk (c' := (25, [zR 8, .inl a1, .inl a2, .inl a3, zN], [.inl a3, .inl a2, .inl 6, zR 8])) 4 hz rfl ?_
      refine zH_callB hz zp_179 rfl rfl (fh_179_8 6 a2 a3) ?_
      intro u1 N2 hu1 hN2
      show zH n (0, 0) 135 (28, [zR 8, .inl a1, .inl a2, .inl a3, zN], [.inl u1]) N2 _
      refine zH_blk (c' := (41, [zR 8, .inl a1, .inl a2, .inl a3, .inl u1], [.inl a1, .inl 4, .inl u1, zR 18])) 7 hz rfl ?_
      refine zH_callW hz zp_107 rfl rfl (fh_107_18 u1 4 a1) ?_
      intro N3 hN3
      show zH n (0, 0) 135 (44, [zR 8, .inl a1, .inl a2, .inl a3, .inl u1], []) N3 _
      refine zH_blk (c' := (46, [zR 8, .inl a1, .inl a2, .inl a3, .inl u1], [.inl u1])) 1 hz rfl ?_
      subst hN3
      subst hN2
      subst hu1
      exact zH_ret hz rfl rfl (hfinB hE)
    · have hE := hE.trans (if_neg hb)
      refine zH_blk (c' := (19, [zR 8, .inl a1, .inl a2, .inl a3, zN], [.inl (-2)])) 1 hz rfl ?_
      exact zH_ret hz rfl rfl (hfinB hE)
noncomputable def hf_136_8 (M : zM) (a1 : Int) (a2 : Int) : Int × zM :=
  (if (hR_has M 18 a1) = 0 then ((-2), M) else (if ¬ (hf_170 M a2) = 0 then (if (hR_get M 18 a1 3) = (-1) then ((-3), M) else (if ¬ (hf_169 M a2 (hR_get M 18 a1 1) (w32 ((hR_get M 18 a1 1) + (M 9 8)))) = 0 then (((hf_18_9 M 5 a2 a2 (-1)).1), (hR_set ((hf_18_9 M 5 a2 a2 (-1)).2) 18 ((hf_18_9 M 5 a2 a2 (-1)).1) 6 a1)) else ((-3), M))) else ((-2), M)))
set_option maxRecDepth 100000 in
theorem fh_136_8 {n : Nat} {M : zM} (a1 : Int) (a2 : Int) : zH n (0, 0) 136 (0, zini [zR 8, .inl a1, .inl a2] 5, []) M (fun r M' => r = some (.inl (hf_136_8 M a1 a2).1) ∧ M' = (hf_136_8 M a1 a2).2) := by
  have hz := zp_136
  have hE : hf_136_8 M a1 a2 = hf_136_8 M a1 a2 := rfl
  show zH n (0, 0) 136 (0, [zR 8, .inl a1, .inl a2, zN, zN], []) M _
  refine zH_blk (c' := (8, [zR 8, .inl a1, .inl a2, zN, zN], [.inl a1, zR 18])) 4 hz rfl ?_
  refine zH_callE hz zp_102 rfl rfl (fh_102_18 a1) ?_
  show zH n (0, 0) 136 (11, [zR 8, .inl a1, .inl a2, zN, zN], [.inl (hR_has M 18 a1)]) M _
  refine zH_if_eq hz rfl (fun hb => ?_) (fun hb => ?_)
  · have hE := hE.trans (if_pos hb)
    refine zH_blk (c' := (23, [zR 8, .inl a1, .inl a2, zN, zN], [.inl (-2)])) 1 hz rfl ?_
    exact zH_ret hz rfl rfl (hfinB hE)
  · have hE := hE.trans (if_neg hb)
    refine zH_blk (c' := (15, [zR 8, .inl a1, .inl a2, zN, zN], [.inl a2])) 1 hz rfl ?_
    refine zH_callE hz zp_170 rfl rfl (fh_170 a2) ?_
    show zH n (0, 0) 136 (18, [zR 8, .inl a1, .inl a2, zN, zN], [.inl (hf_170 M a2)]) M _
    refine zH_if_ne hz rfl (fun hb => ?_) (fun hb => ?_)
    · have hE := hE.trans (if_pos hb)
      refine zH_blk (c' := (33, [zR 8, .inl a1, .inl a2, zN, zN], [.inl 1, .inl a1, zR 18])) 5 hz rfl ?_
      refine zH_callE hz zp_106 rfl rfl (fh_106_18 a1 1) ?_
      show zH n (0, 0) 136 (36, [zR 8, .inl a1, .inl a2, zN, zN], [.inl (hR_get M 18 a1 1)]) M _
      refine zH_blk (c' := (46, [zR 8, .inl a1, .inl a2, .inl (hR_get M 18 a1 1), zN], [.inl 3, .inl a1, zR 18])) 6 hz rfl ?_
      refine zH_callE hz zp_106 rfl rfl (fh_106_18 a1 3) ?_
      show zH n (0, 0) 136 (49, [zR 8, .inl a1, .inl a2, .inl (hR_get M 18 a1 1), zN], [.inl (hR_get M 18 a1 3)]) M _
      refine zH_blk (c' := (50, [zR 8, .inl a1, .inl a2, .inl (hR_get M 18 a1 1), zN], [.inl (-1), .inl (hR_get M 18 a1 3)])) 1 hz rfl ?_
      refine zH_icmp_eq hz rfl (fun hb => ?_) (fun hb => ?_)
      · have hE := hE.trans (if_pos hb)
        refine zH_blk (c' := (72, [zR 8, .inl a1, .inl a2, .inl (hR_get M 18 a1 1), zN], [.inl (-3)])) 1 hz rfl ?_
        exact zH_ret hz rfl rfl (hfinB hE)
      · have hE := hE.trans (if_neg hb)
        refine zH_blk (c' := (64, [zR 8, .inl a1, .inl a2, .inl (hR_get M 18 a1 1), zN], [.inl (w32 ((hR_get M 18 a1 1) + (M 9 8))), .inl (hR_get M 18 a1 1), .inl a2])) 7 hz rfl ?_
        refine zH_callE hz zp_169 rfl rfl (fh_169 a2 (hR_get M 18 a1 1) (w32 ((hR_get M 18 a1 1) + (M 9 8)))) ?_
        show zH n (0, 0) 136 (67, [zR 8, .inl a1, .inl a2, .inl (hR_get M 18 a1 1), zN], [.inl (hf_169 M a2 (hR_get M 18 a1 1) (w32 ((hR_get M 18 a1 1) + (M 9 8))))]) M _
        refine zH_if_ne hz rfl (fun hb => ?_) (fun hb => ?_)
        · have hE := hE.trans (if_pos hb)
          refine zH_blk (c' := (81, [zR 8, .inl a1, .inl a2, .inl (hR_get M 18 a1 1), zN], [.inl (-1), .inl a2, .inl a2, .inl 5, zR 9])) 6 hz rfl ?_
          refine zH_callB hz zp_18 rfl rfl (fh_18_9 5 a2 a2 (-1)) ?_
          intro u1 N2 hu1 hN2
          show zH n (0, 0) 136 (84, [zR 8, .inl a1, .inl a2, .inl (hR_get M 18 a1 1), zN], [.inl u1]) N2 _
          refine zH_blk (c' := (98, [zR 8, .inl a1, .inl a2, .inl (hR_get M 18 a1 1), .inl u1], [.inl a1, .inl 6, .inl u1, zR 18])) 7 hz rfl ?_
          refine zH_callW hz zp_107 rfl rfl (fh_107_18 u1 6 a1) ?_
          intro N3 hN3
          show zH n (0, 0) 136 (101, [zR 8, .inl a1, .inl a2, .inl (hR_get M 18 a1 1), .inl u1], []) N3 _
          refine zH_blk (c' := (103, [zR 8, .inl a1, .inl a2, .inl (hR_get M 18 a1 1), .inl u1], [.inl u1])) 1 hz rfl ?_
          subst hN3
          subst hN2
          subst hu1
          exact zH_ret hz rfl rfl (hfinB hE)
        · have hE := hE.trans (if_neg hb)
          refine zH_blk (c' := (72, [zR 8, .inl a1, .inl a2, .inl (hR_get M 18 a1 1), zN], [.inl (-3)])) 1 hz rfl ?_
          exact zH_ret hz rfl rfl (hfinB hE)
    · have hE := hE.trans (if_neg hb)
      refine zH_blk (c' := (23, [zR 8, .inl a1, .inl a2, zN, zN], [.inl (-2)])) 1 hz rfl ?_
      exact zH_ret hz rfl rfl (hfinB hE)
noncomputable def hf_137_8 (M : zM) (a1 : Int) : Int × zM :=
  (if ¬ (hf_169 M a1 0 1000) = 0 then (M 9 8, zput M 9 8 a1) else ((-2), M))
set_option maxRecDepth 100000 in
theorem fh_137_8 {n : Nat} {M : zM} (a1 : Int) : zH n (0, 0) 137 (0, zini [zR 8, .inl a1] 3, []) M (fun r M' => r = some (.inl (hf_137_8 M a1).1) ∧ M' = (hf_137_8 M a1).2) := by
  have hz := zp_137
  have hE : hf_137_8 M a1 = hf_137_8 M a1 := rfl
  show zH n (0, 0) 137 (0, [zR 8, .inl a1, zN], []) M _
  refine zH_blk (c' := (5, [zR 8, .inl a1, zN], [.inl 1000, .inl 0, .inl a1])) 3 hz rfl ?_
  refine zH_callE hz zp_169 rfl rfl (fh_169 a1 0 1000) ?_
  show zH n (0, 0) 137 (8, [zR 8, .inl a1, zN], [.inl (hf_169 M a1 0 1000)]) M _
  refine zH_if_ne hz rfl (fun hb => ?_) (fun hb => ?_)
  · have hE := hE.trans (if_pos hb)
    refine zH_blk (c' := (31, [zR 8, .inl a1, .inl (M 9 8)], [.inl (M 9 8)])) 9 hz rfl ?_
    exact zH_ret hz rfl rfl (hfinB hE)
  · have hE := hE.trans (if_neg hb)
    refine zH_blk (c' := (13, [zR 8, .inl a1, zN], [.inl (-2)])) 1 hz rfl ?_
    exact zH_ret hz rfl rfl (hfinB hE)
noncomputable def hf_138_8 (M : zM) (a1 : Int) (a2 : Int) : Int :=
  (if (hR_has M 18 a1) = 0 then (-2) else (if (hf_169 M a2 0 7) = 0 then (-2) else (hR_get M 18 a1 a2)))
set_option maxRecDepth 100000 in
theorem fh_138_8 {n : Nat} {M : zM} (a1 : Int) (a2 : Int) : zH n (0, 0) 138 (0, zini [zR 8, .inl a1, .inl a2] 3, []) M (fun r M' => r = some (.inl (hf_138_8 M a1 a2)) ∧ M' = M) := by
  have hz := zp_138
  have hE : hf_138_8 M a1 a2 = hf_138_8 M a1 a2 := rfl
  show zH n (0, 0) 138 (0, [zR 8, .inl a1, .inl a2], []) M _
  refine zH_blk (c' := (8, [zR 8, .inl a1, .inl a2], [.inl a1, zR 18])) 4 hz rfl ?_
  refine zH_callE hz zp_102 rfl rfl (fh_102_18 a1) ?_
  show zH n (0, 0) 138 (11, [zR 8, .inl a1, .inl a2], [.inl (hR_has M 18 a1)]) M _
  refine zH_if_eq hz rfl (fun hb => ?_) (fun hb => ?_)
  · have hE := hE.trans (if_pos hb)
    refine zH_blk (c' := (41, [zR 8, .inl a1, .inl a2], [.inl (-2)])) 1 hz rfl ?_
    exact zH_ret hz rfl rfl (hfinP hE)
  · have hE := hE.trans (if_neg hb)
    refine zH_blk (c' := (18, [zR 8, .inl a1, .inl a2], [.inl 7, .inl 0, .inl a2])) 3 hz rfl ?_
    refine zH_callE hz zp_169 rfl rfl (fh_169 a2 0 7) ?_
    show zH n (0, 0) 138 (21, [zR 8, .inl a1, .inl a2], [.inl (hf_169 M a2 0 7)]) M _
    refine zH_if_eq hz rfl (fun hb => ?_) (fun hb => ?_)
    · have hE := hE.trans (if_pos hb)
      refine zH_blk (c' := (41, [zR 8, .inl a1, .inl a2], [.inl (-2)])) 1 hz rfl ?_
      exact zH_ret hz rfl rfl (hfinP hE)
    · have hE := hE.trans (if_neg hb)
      refine zH_blk (c' := (33, [zR 8, .inl a1, .inl a2], [.inl a2, .inl a1, zR 18])) 5 hz rfl ?_
      refine zH_callE hz zp_106 rfl rfl (fh_106_18 a1 a2) ?_
      show zH n (0, 0) 138 (36, [zR 8, .inl a1, .inl a2], [.inl (hR_get M 18 a1 a2)]) M _
      refine zH_blk (c' := (41, [zR 8, .inl a1, .inl a2], [.inl (hR_get M 18 a1 a2)])) 1 hz rfl ?_
      exact zH_ret hz rfl rfl (hfinP hE)
noncomputable def hf_173 (M : zM) (a0 : Int) : Int :=
  (hf_169 M a0 0 7)
set_option maxRecDepth 100000 in
theorem fh_173 {n : Nat} {M : zM} (a0 : Int) : zH n (0, 0) 173 (0, zini [.inl a0] 1, []) M (fun r M' => r = some (.inl (hf_173 M a0)) ∧ M' = M) := by
  have hz := zp_173
  have hE : hf_173 M a0 = hf_173 M a0 := rfl
  show zH n (0, 0) 173 (0, [.inl a0], []) M _
  refine zH_blk (c' := (4, [.inl a0], [.inl 7, .inl 0, .inl a0])) 3 hz rfl ?_
  refine zH_callE hz zp_169 rfl rfl (fh_169 a0 0 7) ?_
  show zH n (0, 0) 173 (7, [.inl a0], [.inl (hf_169 M a0 0 7)]) M _
  exact zH_zret hz rfl (hfinP hE)
noncomputable def hf_148_8 (M : zM) (a1 : Int) (a2 : Int) : Int × zM :=
  (if (hf_173 M a1) = 0 then ((-2), M) else (if ¬ (hf_169 M a2 0 127) = 0 then (if (hR_get M 20 a1 0) < 80 then (w32 ((hR_get M 20 a1 0) + 1), (hR_set (hR_set M 20 a1 (w32 (1 + (hR_get M 20 a1 0))) a2) 20 a1 0 (w32 ((hR_get M 20 a1 0) + 1)))) else ((-4), M)) else ((-2), M)))
set_option maxRecDepth 100000 in
theorem fh_148_8 {n : Nat} {M : zM} (a1 : Int) (a2 : Int) : zH n (0, 0) 148 (0, zini [zR 8, .inl a1, .inl a2] 4, []) M (fun r M' => r = some (.inl (hf_148_8 M a1 a2).1) ∧ M' = (hf_148_8 M a1 a2).2) := by
  have hz := zp_148
  have hE : hf_148_8 M a1 a2 = hf_148_8 M a1 a2 := rfl
  show zH n (0, 0) 148 (0, [zR 8, .inl a1, .inl a2, zN], []) M _
  refine zH_blk (c' := (1, [zR 8, .inl a1, .inl a2, zN], [.inl a1])) 1 hz rfl ?_
  refine zH_callE hz zp_173 rfl rfl (fh_173 a1) ?_
  show zH n (0, 0) 148 (4, [zR 8, .inl a1, .inl a2, zN], [.inl (hf_173 M a1)]) M _
  refine zH_if_eq hz rfl (fun hb => ?_) (fun hb => ?_)
  · have hE := hE.trans (if_pos hb)
    refine zH_blk (c' := (19, [zR 8, .inl a1, .inl a2, zN], [.inl (-2)])) 1 hz rfl ?_
    exact zH_ret hz rfl rfl (hfinB hE)
  · have hE := hE.trans (if_neg hb)
    refine zH_blk (c' := (11, [zR 8, .inl a1, .inl a2, zN], [.inl 127, .inl 0, .inl a2])) 3 hz rfl ?_
    refine zH_callE hz zp_169 rfl rfl (fh_169 a2 0 127) ?_
    show zH n (0, 0) 148 (14, [zR 8, .inl a1, .inl a2, zN], [.inl (hf_169 M a2 0 127)]) M _
    refine zH_if_ne hz rfl (fun hb => ?_) (fun hb => ?_)
    · have hE := hE.trans (if_pos hb)
      refine zH_blk (c' := (29, [zR 8, .inl a1, .inl a2, zN], [.inl 0, .inl a1, zR 20])) 5 hz rfl ?_
      refine zH_callE hz zp_106 rfl rfl (fh_106_20 a1 0) ?_
      show zH n (0, 0) 148 (32, [zR 8, .inl a1, .inl a2, zN], [.inl (hR_get M 20 a1 0)]) M _
      refine zH_blk (c' := (36, [zR 8, .inl a1, .inl a2, .inl (hR_get M 20 a1 0)], [.inl 80, .inl (hR_get M 20 a1 0)])) 3 hz rfl ?_
      refine zH_icmp_lt hz rfl (fun hb => ?_) (fun hb => ?_)
      · have hE := hE.trans (if_pos hb)
        refine zH_blk (c' := (54, [zR 8, .inl a1, .inl a2, .inl (hR_get M 20 a1 0)], [.inl a2, .inl (w32 (1 + (hR_get M 20 a1 0))), .inl a1, zR 20])) 8 hz rfl ?_
        refine zH_callW hz zp_107 rfl rfl (fh_107_20 a1 (w32 (1 + (hR_get M 20 a1 0))) a2) ?_
        intro N1 hN1
        show zH n (0, 0) 148 (57, [zR 8, .inl a1, .inl a2, .inl (hR_get M 20 a1 0)], []) N1 _
        refine zH_blk (c' := (69, [zR 8, .inl a1, .inl a2, .inl (hR_get M 20 a1 0)], [.inl (w32 ((hR_get M 20 a1 0) + 1)), .inl 0, .inl a1, zR 20])) 8 hz rfl ?_
        refine zH_callW hz zp_107 rfl rfl (fh_107_20 a1 0 (w32 ((hR_get M 20 a1 0) + 1))) ?_
        intro N2 hN2
        show zH n (0, 0) 148 (72, [zR 8, .inl a1, .inl a2, .inl (hR_get M 20 a1 0)], []) N2 _
        refine zH_blk (c' := (75, [zR 8, .inl a1, .inl a2, .inl (hR_get M 20 a1 0)], [.inl (w32 ((hR_get M 20 a1 0) + 1))])) 3 hz rfl ?_
        subst hN2
        subst hN1
        exact zH_ret hz rfl rfl (hfinB hE)
      · have hE := hE.trans (if_neg hb)
        refine zH_blk (c' := (41, [zR 8, .inl a1, .inl a2, .inl (hR_get M 20 a1 0)], [.inl (-4)])) 1 hz rfl ?_
        exact zH_ret hz rfl rfl (hfinB hE)
    · have hE := hE.trans (if_neg hb)
      refine zH_blk (c' := (19, [zR 8, .inl a1, .inl a2, zN], [.inl (-2)])) 1 hz rfl ?_
      exact zH_ret hz rfl rfl (hfinB hE)
noncomputable def hf_149_8 (M : zM) (a1 : Int) : Int × zM :=
  (if ¬ (hf_173 M a1) = 0 then ((hR_get M 20 a1 0), (hR_set M 20 a1 0 0)) else ((-2), M))
set_option maxRecDepth 100000 in
theorem fh_149_8 {n : Nat} {M : zM} (a1 : Int) : zH n (0, 0) 149 (0, zini [zR 8, .inl a1] 3, []) M (fun r M' => r = some (.inl (hf_149_8 M a1).1) ∧ M' = (hf_149_8 M a1).2) := by
  have hz := zp_149
  have hE : hf_149_8 M a1 = hf_149_8 M a1 := rfl
  show zH n (0, 0) 149 (0, [zR 8, .inl a1, zN], []) M _
  refine zH_blk (c' := (1, [zR 8, .inl a1, zN], [.inl a1])) 1 hz rfl ?_
  refine zH_callE hz zp_173 rfl rfl (fh_173 a1) ?_
  show zH n (0, 0) 149 (4, [zR 8, .inl a1, zN], [.inl (hf_173 M a1)]) M _
  refine zH_if_ne hz rfl (fun hb => ?_) (fun hb => ?_)
  · have hE := hE.trans (if_pos hb)
    refine zH_blk (c' := (19, [zR 8, .inl a1, zN], [.inl 0, .inl a1, zR 20])) 5 hz rfl ?_
    refine zH_callE hz zp_106 rfl rfl (fh_106_20 a1 0) ?_
    show zH n (0, 0) 149 (22, [zR 8, .inl a1, zN], [.inl (hR_get M 20 a1 0)]) M _
    refine zH_blk (c' := (33, [zR 8, .inl a1, .inl (hR_get M 20 a1 0)], [.inl 0, .inl 0, .inl a1, zR 20])) 7 hz rfl ?_
    refine zH_callW hz zp_107 rfl rfl (fh_107_20 a1 0 0) ?_
    intro N1 hN1
    show zH n (0, 0) 149 (36, [zR 8, .inl a1, .inl (hR_get M 20 a1 0)], []) N1 _
    refine zH_blk (c' := (37, [zR 8, .inl a1, .inl (hR_get M 20 a1 0)], [.inl (hR_get M 20 a1 0)])) 1 hz rfl ?_
    subst hN1
    exact zH_ret hz rfl rfl (hfinB hE)
  · have hE := hE.trans (if_neg hb)
    refine zH_blk (c' := (9, [zR 8, .inl a1, zN], [.inl (-2)])) 1 hz rfl ?_
    exact zH_ret hz rfl rfl (hfinB hE)
