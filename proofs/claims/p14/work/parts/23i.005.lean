noncomputable def hf_19_9 (M : zM) (a1 : Int) (a2 : Int) : Int :=
  (if (hR_has M 18 a2) = 0 then 0 else (if ¬ (hR_get M 18 a2 0) = a1 then 0 else 1))
set_option maxRecDepth 100000 in
theorem fh_19_9 {n : Nat} {M : zM} (a1 : Int) (a2 : Int) : zH n (0, 0) 19 (0, zini [zR 9, .inl a1, .inl a2] 3, []) M (fun r M' => r = some (.inl (hf_19_9 M a1 a2)) ∧ M' = M) := by
  have hz := zp_19
  have hE : hf_19_9 M a1 a2 = hf_19_9 M a1 a2 := rfl
  show zH n (0, 0) 19 (0, [zR 9, .inl a1, .inl a2], []) M _
  refine zH_blk (c' := (5, [zR 9, .inl a1, .inl a2], [.inl a2, zR 18])) 3 hz rfl ?_
  refine zH_callE hz zp_102 rfl rfl (fh_102_18 a2) ?_
  show zH n (0, 0) 19 (8, [zR 9, .inl a1, .inl a2], [.inl (hR_has M 18 a2)]) M _
  refine zH_if_eq hz rfl (fun hb => ?_) (fun hb => ?_)
  · have hE := hE.trans (if_pos hb)
    refine zH_blk (c' := (29, [zR 9, .inl a1, .inl a2], [.inl 0])) 1 hz rfl ?_
    exact zH_zret hz rfl (hfinP hE)
  · have hE := hE.trans (if_neg hb)
    refine zH_blk (c' := (17, [zR 9, .inl a1, .inl a2], [.inl 0, .inl a2, zR 18])) 4 hz rfl ?_
    refine zH_callE hz zp_106 rfl rfl (fh_106_18 a2 0) ?_
    show zH n (0, 0) 19 (20, [zR 9, .inl a1, .inl a2], [.inl (hR_get M 18 a2 0)]) M _
    refine zH_blk (c' := (21, [zR 9, .inl a1, .inl a2], [.inl a1, .inl (hR_get M 18 a2 0)])) 1 hz rfl ?_
    refine zH_icmp_ne hz rfl (fun hb => ?_) (fun hb => ?_)
    · have hE := hE.trans (if_pos hb)
      refine zH_blk (c' := (29, [zR 9, .inl a1, .inl a2], [.inl 0])) 1 hz rfl ?_
      exact zH_zret hz rfl (hfinP hE)
    · have hE := hE.trans (if_neg hb)
      refine zH_blk (c' := (29, [zR 9, .inl a1, .inl a2], [.inl 1])) 2 hz rfl ?_
      exact zH_zret hz rfl (hfinP hE)
noncomputable def hf_130_8 (M : zM) (a1 : Int) (a2 : Int) (a3 : Int) (a4 : Int) (a5 : Int) : Int × zM :=
  (if (hf_19_9 M 0 a1) = 0 then ((-2), M) else (if (hf_171 M a2) = 0 then ((-2), M) else (if ¬ (hf_172 M a3) = 0 then (if ¬ a3 = (hR_get M 18 a1 8) then (if (hf_169 M a4 (hR_get M 18 a1 1) 9999) = 0 then ((-2), M) else (if ¬ (hf_169 M a5 a4 9999) = 0 then (((hf_18_9 M 1 a4 a5 (-1)).1), (hR_set (hR_set (hR_set ((hf_18_9 M 1 a4 a5 (-1)).2) 18 ((hf_18_9 M 1 a4 a5 (-1)).1) 6 a1) 18 ((hf_18_9 M 1 a4 a5 (-1)).1) 7 a2) 18 ((hf_18_9 M 1 a4 a5 (-1)).1) 8 a3)) else ((-2), M))) else ((-2), M)) else ((-2), M))))
set_option maxRecDepth 100000 in
theorem fh_130_8 {n : Nat} {M : zM} (a1 : Int) (a2 : Int) (a3 : Int) (a4 : Int) (a5 : Int) : zH n (0, 0) 130 (0, zini [zR 8, .inl a1, .inl a2, .inl a3, .inl a4, .inl a5] 7, []) M (fun r M' => r = some (.inl (hf_130_8 M a1 a2 a3 a4 a5).1) ∧ M' = (hf_130_8 M a1 a2 a3 a4 a5).2) := by
  have hz := zp_130
  have hE : hf_130_8 M a1 a2 a3 a4 a5 = hf_130_8 M a1 a2 a3 a4 a5 := rfl
  show zH n (0, 0) 130 (0, [zR 8, .inl a1, .inl a2, .inl a3, .inl a4, .inl a5, zN], []) M _
  refine zH_blk (c' := (6, [zR 8, .inl a1, .inl a2, .inl a3, .inl a4, .inl a5, zN], [.inl a1, .inl 0, zR 9])) 4 hz rfl ?_
  refine zH_callE hz zp_19 rfl rfl (fh_19_9 0 a1) ?_
  show zH n (0, 0) 130 (9, [zR 8, .inl a1, .inl a2, .inl a3, .inl a4, .inl a5, zN], [.inl (hf_19_9 M 0 a1)]) M _
  refine zH_if_eq hz rfl (fun hb => ?_) (fun hb => ?_)
  · have hE := hE.trans (if_pos hb)
    refine zH_blk (c' := (28, [zR 8, .inl a1, .inl a2, .inl a3, .inl a4, .inl a5, zN], [.inl (-2)])) 1 hz rfl ?_
    exact zH_ret hz rfl rfl (hfinB hE)
  · have hE := hE.trans (if_neg hb)
    refine zH_blk (c' := (13, [zR 8, .inl a1, .inl a2, .inl a3, .inl a4, .inl a5, zN], [.inl a2])) 1 hz rfl ?_
    refine zH_callE hz zp_171 rfl rfl (fh_171 a2) ?_
    show zH n (0, 0) 130 (16, [zR 8, .inl a1, .inl a2, .inl a3, .inl a4, .inl a5, zN], [.inl (hf_171 M a2)]) M _
    refine zH_if_eq hz rfl (fun hb => ?_) (fun hb => ?_)
    · have hE := hE.trans (if_pos hb)
      refine zH_blk (c' := (28, [zR 8, .inl a1, .inl a2, .inl a3, .inl a4, .inl a5, zN], [.inl (-2)])) 1 hz rfl ?_
      exact zH_ret hz rfl rfl (hfinB hE)
    · have hE := hE.trans (if_neg hb)
      refine zH_blk (c' := (20, [zR 8, .inl a1, .inl a2, .inl a3, .inl a4, .inl a5, zN], [.inl a3])) 1 hz rfl ?_
      refine zH_callE hz zp_172 rfl rfl (fh_172 a3) ?_
      show zH n (0, 0) 130 (23, [zR 8, .inl a1, .inl a2, .inl a3, .inl a4, .inl a5, zN], [.inl (hf_172 M a3)]) M _
      refine zH_if_ne hz rfl (fun hb => ?_) (fun hb => ?_)
      · have hE := hE.trans (if_pos hb)
        refine zH_blk (c' := (40, [zR 8, .inl a1, .inl a2, .inl a3, .inl a4, .inl a5, zN], [.inl 8, .inl a1, zR 18, .inl a3])) 6 hz rfl ?_
        refine zH_callE hz zp_106 rfl rfl (fh_106_18 a1 8) ?_
        show zH n (0, 0) 130 (43, [zR 8, .inl a1, .inl a2, .inl a3, .inl a4, .inl a5, zN], [.inl (hR_get M 18 a1 8), .inl a3]) M _
        refine zH_icmp_ne hz rfl (fun hb => ?_) (fun hb => ?_)
        · have hE := hE.trans (if_pos hb)
          refine zH_blk (c' := (60, [zR 8, .inl a1, .inl a2, .inl a3, .inl a4, .inl a5, zN], [.inl 1, .inl a1, zR 18, .inl a4])) 6 hz rfl ?_
          refine zH_callE hz zp_106 rfl rfl (fh_106_18 a1 1) ?_
          show zH n (0, 0) 130 (63, [zR 8, .inl a1, .inl a2, .inl a3, .inl a4, .inl a5, zN], [.inl (hR_get M 18 a1 1), .inl a4]) M _
          refine zH_blk (c' := (66, [zR 8, .inl a1, .inl a2, .inl a3, .inl a4, .inl a5, zN], [.inl 9999, .inl (hR_get M 18 a1 1), .inl a4])) 1 hz rfl ?_
          refine zH_callE hz zp_169 rfl rfl (fh_169 a4 (hR_get M 18 a1 1) 9999) ?_
          show zH n (0, 0) 130 (69, [zR 8, .inl a1, .inl a2, .inl a3, .inl a4, .inl a5, zN], [.inl (hf_169 M a4 (hR_get M 18 a1 1) 9999)]) M _
          refine zH_if_eq hz rfl (fun hb => ?_) (fun hb => ?_)
          · have hE := hE.trans (if_pos hb)
            refine zH_blk (c' := (87, [zR 8, .inl a1, .inl a2, .inl a3, .inl a4, .inl a5, zN], [.inl (-2)])) 1 hz rfl ?_
            exact zH_ret hz rfl rfl (hfinB hE)
          · have hE := hE.trans (if_neg hb)
            refine zH_blk (c' := (79, [zR 8, .inl a1, .inl a2, .inl a3, .inl a4, .inl a5, zN], [.inl 9999, .inl a4, .inl a5])) 3 hz rfl ?_
            refine zH_callE hz zp_169 rfl rfl (fh_169 a5 a4 9999) ?_
            show zH n (0, 0) 130 (82, [zR 8, .inl a1, .inl a2, .inl a3, .inl a4, .inl a5, zN], [.inl (hf_169 M a5 a4 9999)]) M _
            refine zH_if_ne hz rfl (fun hb => ?_) (fun hb => ?_)
            · have hE := hE.trans (if_pos hb)
              refine zH_blk (c' := (98, [zR 8, .inl a1, .inl a2, .inl a3, .inl a4, .inl a5, zN], [.inl (-1), .inl a5, .inl a4, .inl 1, zR 9])) 6 hz rfl ?_
              refine zH_callB hz zp_18 rfl rfl (fh_18_9 1 a4 a5 (-1)) ?_
              intro u1 N2 hu1 hN2
              show zH n (0, 0) 130 (101, [zR 8, .inl a1, .inl a2, .inl a3, .inl a4, .inl a5, zN], [.inl u1]) N2 _
              refine zH_blk (c' := (115, [zR 8, .inl a1, .inl a2, .inl a3, .inl a4, .inl a5, .inl u1], [.inl a1, .inl 6, .inl u1, zR 18])) 7 hz rfl ?_
              refine zH_callW hz zp_107 rfl rfl (fh_107_18 u1 6 a1) ?_
              intro N3 hN3
              show zH n (0, 0) 130 (118, [zR 8, .inl a1, .inl a2, .inl a3, .inl a4, .inl a5, .inl u1], []) N3 _
              refine zH_blk (c' := (130, [zR 8, .inl a1, .inl a2, .inl a3, .inl a4, .inl a5, .inl u1], [.inl a2, .inl 7, .inl u1, zR 18])) 6 hz rfl ?_
              refine zH_callW hz zp_107 rfl rfl (fh_107_18 u1 7 a2) ?_
              intro N4 hN4
              show zH n (0, 0) 130 (133, [zR 8, .inl a1, .inl a2, .inl a3, .inl a4, .inl a5, .inl u1], []) N4 _
              refine zH_blk (c' := (145, [zR 8, .inl a1, .inl a2, .inl a3, .inl a4, .inl a5, .inl u1], [.inl a3, .inl 8, .inl u1, zR 18])) 6 hz rfl ?_
              refine zH_callW hz zp_107 rfl rfl (fh_107_18 u1 8 a3) ?_
              intro N5 hN5
              show zH n (0, 0) 130 (148, [zR 8, .inl a1, .inl a2, .inl a3, .inl a4, .inl a5, .inl u1], []) N5 _
              refine zH_blk (c' := (150, [zR 8, .inl a1, .inl a2, .inl a3, .inl a4, .inl a5, .inl u1], [.inl u1])) 1 hz rfl ?_
              subst hN5
              subst hN4
              subst hN3
              subst hN2
              subst hu1
              exact zH_ret hz rfl rfl (hfinB hE)
            · have hE := hE.trans (if_neg hb)
              refine zH_blk (c' := (87, [zR 8, .inl a1, .inl a2, .inl a3, .inl a4, .inl a5, zN], [.inl (-2)])) 1 hz rfl ?_
              exact zH_ret hz rfl rfl (hfinB hE)
        · have hE := hE.trans (if_neg hb)
          refine zH_blk (c' := (48, [zR 8, .inl a1, .inl a2, .inl a3, .inl a4, .inl a5, zN], [.inl (-2)])) 1 hz rfl ?_
          exact zH_ret hz rfl rfl (hfinB hE)
      · have hE := hE.trans (if_neg hb)
        refine zH_blk (c' := (28, [zR 8, .inl a1, .inl a2, .inl a3, .inl a4, .inl a5, zN], [.inl (-2)])) 1 hz rfl ?_
        exact zH_ret hz rfl rfl (hfinB hE)
noncomputable def hf_178_8 (M : zM) (a1 : Int) (a2 : Int) : Int :=
  (if (hR_has M 16 a1) = 0 then 0 else (if (hf_169 M a2 (hR_get M 16 a1 1) 9999) = 0 then 0 else 1))
set_option maxRecDepth 100000 in
theorem fh_178_8 {n : Nat} {M : zM} (a1 : Int) (a2 : Int) : zH n (0, 0) 178 (0, zini [zR 8, .inl a1, .inl a2] 3, []) M (fun r M' => r = some (.inl (hf_178_8 M a1 a2)) ∧ M' = M) := by
  have hz := zp_178
  have hE : hf_178_8 M a1 a2 = hf_178_8 M a1 a2 := rfl
  show zH n (0, 0) 178 (0, [zR 8, .inl a1, .inl a2], []) M _
  refine zH_blk (c' := (8, [zR 8, .inl a1, .inl a2], [.inl a1, zR 16])) 4 hz rfl ?_
  refine zH_callE hz zp_102 rfl rfl (fh_102_16 a1) ?_
  show zH n (0, 0) 178 (11, [zR 8, .inl a1, .inl a2], [.inl (hR_has M 16 a1)]) M _
  refine zH_if_eq hz rfl (fun hb => ?_) (fun hb => ?_)
  · have hE := hE.trans (if_pos hb)
    refine zH_blk (c' := (41, [zR 8, .inl a1, .inl a2], [.inl 0])) 1 hz rfl ?_
    exact zH_zret hz rfl (hfinP hE)
  · have hE := hE.trans (if_neg hb)
    refine zH_blk (c' := (24, [zR 8, .inl a1, .inl a2], [.inl 1, .inl a1, zR 16, .inl a2])) 6 hz rfl ?_
    refine zH_callE hz zp_106 rfl rfl (fh_106_16 a1 1) ?_
    show zH n (0, 0) 178 (27, [zR 8, .inl a1, .inl a2], [.inl (hR_get M 16 a1 1), .inl a2]) M _
    refine zH_blk (c' := (30, [zR 8, .inl a1, .inl a2], [.inl 9999, .inl (hR_get M 16 a1 1), .inl a2])) 1 hz rfl ?_
    refine zH_callE hz zp_169 rfl rfl (fh_169 a2 (hR_get M 16 a1 1) 9999) ?_
    show zH n (0, 0) 178 (33, [zR 8, .inl a1, .inl a2], [.inl (hf_169 M a2 (hR_get M 16 a1 1) 9999)]) M _
    refine zH_if_eq hz rfl (fun hb => ?_) (fun hb => ?_)
    · have hE := hE.trans (if_pos hb)
      refine zH_blk (c' := (41, [zR 8, .inl a1, .inl a2], [.inl 0])) 1 hz rfl ?_
      exact zH_zret hz rfl (hfinP hE)
    · have hE := hE.trans (if_neg hb)
      refine zH_blk (c' := (41, [zR 8, .inl a1, .inl a2], [.inl 1])) 2 hz rfl ?_
      exact zH_zret hz rfl (hfinP hE)
noncomputable def hf_179_8 (M : zM) (a1 : Int) (a2 : Int) (a3 : Int) : Int × zM :=
  (((hf_18_9 M a1 (hR_get M 16 a2 1) a3 a2).1), ((hf_18_9 M a1 (hR_get M 16 a2 1) a3 a2).2))
set_option maxRecDepth 100000 in
theorem fh_179_8 {n : Nat} {M : zM} (a1 : Int) (a2 : Int) (a3 : Int) : zH n (0, 0) 179 (0, zini [zR 8, .inl a1, .inl a2, .inl a3] 4, []) M (fun r M' => r = some (.inl (hf_179_8 M a1 a2 a3).1) ∧ M' = (hf_179_8 M a1 a2 a3).2) := by
  have hz := zp_179
  have hE : hf_179_8 M a1 a2 a3 = hf_179_8 M a1 a2 a3 := rfl
  show zH n (0, 0) 179 (0, [zR 8, .inl a1, .inl a2, .inl a3], []) M _
  refine zH_blk (c' := (14, [zR 8, .inl a1, .inl a2, .inl a3], [.inl 1, .inl a2, zR 16, .inl a1, zR 9])) 8 hz rfl ?_
  refine zH_callE hz zp_106 rfl rfl (fh_106_16 a2 1) ?_
  show zH n (0, 0) 179 (17, [zR 8, .inl a1, .inl a2, .inl a3], [.inl (hR_get M 16 a2 1), .inl a1, zR 9]) M _
  refine zH_blk (c' := (19, [zR 8, .inl a1, .inl a2, .inl a3], [.inl a2, .inl a3, .inl (hR_get M 16 a2 1), .inl a1, zR 9])) 2 hz rfl ?_
  refine zH_callB hz zp_18 rfl rfl (fh_18_9 a1 (hR_get M 16 a2 1) a3 a2) ?_
  intro u1 N2 hu1 hN2
  show zH n (0, 0) 179 (22, [zR 8, .inl a1, .inl a2, .inl a3], [.inl u1]) N2 _
  subst hN2
  subst hu1
  exact zH_ret hz rfl rfl (hfinB hE)
noncomputable def hf_131_8 (M : zM) (a1 : Int) (a2 : Int) (a3 : Int) (a4 : Int) : Int × zM :=
  (if (hf_19_9 M 0 a1) = 0 then ((-2), M) else (if (hf_171 M a2) = 0 then ((-2), M) else (if ¬ (hf_178_8 M a3 a4) = 0 then (((hf_179_8 M 2 a3 a4).1), (hR_set (hR_set ((hf_179_8 M 2 a3 a4).2) 18 ((hf_179_8 M 2 a3 a4).1) 6 a1) 18 ((hf_179_8 M 2 a3 a4).1) 7 a2)) else ((-2), M))))
set_option maxRecDepth 100000 in
theorem fh_131_8 {n : Nat} {M : zM} (a1 : Int) (a2 : Int) (a3 : Int) (a4 : Int) : zH n (0, 0) 131 (0, zini [zR 8, .inl a1, .inl a2, .inl a3, .inl a4] 6, []) M (fun r M' => r = some (.inl (hf_131_8 M a1 a2 a3 a4).1) ∧ M' = (hf_131_8 M a1 a2 a3 a4).2) := by
  have hz := zp_131
  have hE : hf_131_8 M a1 a2 a3 a4 = hf_131_8 M a1 a2 a3 a4 := rfl
  show zH n (0, 0) 131 (0, [zR 8, .inl a1, .inl a2, .inl a3, .inl a4, zN], []) M _
  refine zH_blk (c' := (6, [zR 8, .inl a1, .inl a2, .inl a3, .inl a4, zN], [.inl a1, .inl 0, zR 9])) 4 hz rfl ?_
  refine zH_callE hz zp_19 rfl rfl (fh_19_9 0 a1) ?_
  show zH n (0, 0) 131 (9, [zR 8, .inl a1, .inl a2, .inl a3, .inl a4, zN], [.inl (hf_19_9 M 0 a1)]) M _
  refine zH_if_eq hz rfl (fun hb => ?_) (fun hb => ?_)
  · have hE := hE.trans (if_pos hb)
    refine zH_blk (c' := (31, [zR 8, .inl a1, .inl a2, .inl a3, .inl a4, zN], [.inl (-2)])) 1 hz rfl ?_
    exact zH_ret hz rfl rfl (hfinB hE)
  · have hE := hE.trans (if_neg hb)
    refine zH_blk (c' := (13, [zR 8, .inl a1, .inl a2, .inl a3, .inl a4, zN], [.inl a2])) 1 hz rfl ?_
    refine zH_callE hz zp_171 rfl rfl (fh_171 a2) ?_
    show zH n (0, 0) 131 (16, [zR 8, .inl a1, .inl a2, .inl a3, .inl a4, zN], [.inl (hf_171 M a2)]) M _
    refine zH_if_eq hz rfl (fun hb => ?_) (fun hb => ?_)
    · have hE := hE.trans (if_pos hb)
      refine zH_blk (c' := (31, [zR 8, .inl a1, .inl a2, .inl a3, .inl a4, zN], [.inl (-2)])) 1 hz rfl ?_
      exact zH_ret hz rfl rfl (hfinB hE)
    · have hE := hE.trans (if_neg hb)
      refine zH_blk (c' := (23, [zR 8, .inl a1, .inl a2, .inl a3, .inl a4, zN], [.inl a4, .inl a3, zR 8])) 3 hz rfl ?_
      refine zH_callE hz zp_178 rfl rfl (fh_178_8 a3 a4) ?_
      show zH n (0, 0) 131 (26, [zR 8, .inl a1, .inl a2, .inl a3, .inl a4, zN], [.inl (hf_178_8 M a3 a4)]) M _
      refine zH_if_ne hz rfl (fun hb => ?_) (fun hb => ?_)
      · have hE := hE.trans (if_pos hb)
        refine zH_blk (c' := (37, [zR 8, .inl a1, .inl a2, .inl a3, .inl a4, zN], [.inl a4, .inl a3, .inl 2, zR 8])) 4 hz rfl ?_
        refine zH_callB hz zp_179 rfl rfl (fh_179_8 2 a3 a4) ?_
        intro u1 N2 hu1 hN2
        show zH n (0, 0) 131 (40, [zR 8, .inl a1, .inl a2, .inl a3, .inl a4, zN], [.inl u1]) N2 _
        refine zH_blk (c' := (54, [zR 8, .inl a1, .inl a2, .inl a3, .inl a4, .inl u1], [.inl a1, .inl 6, .inl u1, zR 18])) 7 hz rfl ?_
        refine zH_callW hz zp_107 rfl rfl (fh_107_18 u1 6 a1) ?_
        intro N3 hN3
        show zH n (0, 0) 131 (57, [zR 8, .inl a1, .inl a2, .inl a3, .inl a4, .inl u1], []) N3 _
        refine zH_blk (c' := (69, [zR 8, .inl a1, .inl a2, .inl a3, .inl a4, .inl u1], [.inl a2, .inl 7, .inl u1, zR 18])) 6 hz rfl ?_
        refine zH_callW hz zp_107 rfl rfl (fh_107_18 u1 7 a2) ?_
        intro N4 hN4
        show zH n (0, 0) 131 (72, [zR 8, .inl a1, .inl a2, .inl a3, .inl a4, .inl u1], []) N4 _
        refine zH_blk (c' := (74, [zR 8, .inl a1, .inl a2, .inl a3, .inl a4, .inl u1], [.inl u1])) 1 hz rfl ?_
        subst hN4
        subst hN3
        subst hN2
        subst hu1
        exact zH_ret hz rfl rfl (hfinB hE)
      · have hE := hE.trans (if_neg hb)
        refine zH_blk (c' := (31, [zR 8, .inl a1, .inl a2, .inl a3, .inl a4, zN], [.inl (-2)])) 1 hz rfl ?_
        exact zH_ret hz rfl rfl (hfinB hE)
noncomputable def hf_132_8 (M : zM) (a1 : Int) (a2 : Int) (a3 : Int) (a4 : Int) (a5 : Int) (a6 : Int) : Int × zM :=
  (if (hf_175_8 M a1) = 0 then ((-2), M) else (if (hf_169 M a2 1 200) = 0 then ((-2), M) else (if ¬ (hf_169 M a3 1 200) = 0 then (if (hf_169 M a4 (-50) 50) = 0 then ((-2), M) else (if ¬ (hf_178_8 M a5 a6) = 0 then (((hf_179_8 M 3 a5 a6).1), (hR_set (hR_set (hR_set (hR_set ((hf_179_8 M 3 a5 a6).2) 18 ((hf_179_8 M 3 a5 a6).1) 5 a1) 18 ((hf_179_8 M 3 a5 a6).1) 8 a2) 18 ((hf_179_8 M 3 a5 a6).1) 9 a3) 18 ((hf_179_8 M 3 a5 a6).1) 10 a4)) else ((-2), M))) else ((-2), M))))
set_option maxRecDepth 100000 in
theorem fh_132_8 {n : Nat} {M : zM} (a1 : Int) (a2 : Int) (a3 : Int) (a4 : Int) (a5 : Int) (a6 : Int) : zH n (0, 0) 132 (0, zini [zR 8, .inl a1, .inl a2, .inl a3, .inl a4, .inl a5, .inl a6] 8, []) M (fun r M' => r = some (.inl (hf_132_8 M a1 a2 a3 a4 a5 a6).1) ∧ M' = (hf_132_8 M a1 a2 a3 a4 a5 a6).2) := by
  have hz := zp_132
  have hE : hf_132_8 M a1 a2 a3 a4 a5 a6 = hf_132_8 M a1 a2 a3 a4 a5 a6 := rfl
  show zH n (0, 0) 132 (0, [zR 8, .inl a1, .inl a2, .inl a3, .inl a4, .inl a5, .inl a6, zN], []) M _
  refine zH_blk (c' := (2, [zR 8, .inl a1, .inl a2, .inl a3, .inl a4, .inl a5, .inl a6, zN], [.inl a1, zR 8])) 2 hz rfl ?_
  refine zH_callE hz zp_175 rfl rfl (fh_175_8 a1) ?_
  show zH n (0, 0) 132 (5, [zR 8, .inl a1, .inl a2, .inl a3, .inl a4, .inl a5, .inl a6, zN], [.inl (hf_175_8 M a1)]) M _
  refine zH_if_eq hz rfl (fun hb => ?_) (fun hb => ?_)
  · have hE := hE.trans (if_pos hb)
    refine zH_blk (c' := (32, [zR 8, .inl a1, .inl a2, .inl a3, .inl a4, .inl a5, .inl a6, zN], [.inl (-2)])) 1 hz rfl ?_
    exact zH_ret hz rfl rfl (hfinB hE)
  · have hE := hE.trans (if_neg hb)
    refine zH_blk (c' := (13, [zR 8, .inl a1, .inl a2, .inl a3, .inl a4, .inl a5, .inl a6, zN], [.inl 200, .inl 1, .inl a2])) 3 hz rfl ?_
    refine zH_callE hz zp_169 rfl rfl (fh_169 a2 1 200) ?_
    show zH n (0, 0) 132 (16, [zR 8, .inl a1, .inl a2, .inl a3, .inl a4, .inl a5, .inl a6, zN], [.inl (hf_169 M a2 1 200)]) M _
    refine zH_if_eq hz rfl (fun hb => ?_) (fun hb => ?_)
    · have hE := hE.trans (if_pos hb)
      refine zH_blk (c' := (32, [zR 8, .inl a1, .inl a2, .inl a3, .inl a4, .inl a5, .inl a6, zN], [.inl (-2)])) 1 hz rfl ?_
      exact zH_ret hz rfl rfl (hfinB hE)
    · have hE := hE.trans (if_neg hb)
      refine zH_blk (c' := (24, [zR 8, .inl a1, .inl a2, .inl a3, .inl a4, .inl a5, .inl a6, zN], [.inl 200, .inl 1, .inl a3])) 3 hz rfl ?_
      refine zH_callE hz zp_169 rfl rfl (fh_169 a3 1 200) ?_
      show zH n (0, 0) 132 (27, [zR 8, .inl a1, .inl a2, .inl a3, .inl a4, .inl a5, .inl a6, zN], [.inl (hf_169 M a3 1 200)]) M _
      refine zH_if_ne hz rfl (fun hb => ?_) (fun hb => ?_)
      · have hE := hE.trans (if_pos hb)
        refine zH_blk (c' := (39, [zR 8, .inl a1, .inl a2, .inl a3, .inl a4, .inl a5, .inl a6, zN], [.inl 50, .inl (-50), .inl a4])) 3 hz rfl ?_
        refine zH_callE hz zp_169 rfl rfl (fh_169 a4 (-50) 50) ?_
        show zH n (0, 0) 132 (42, [zR 8, .inl a1, .inl a2, .inl a3, .inl a4, .inl a5, .inl a6, zN], [.inl (hf_169 M a4 (-50) 50)]) M _
        refine zH_if_eq hz rfl (fun hb => ?_) (fun hb => ?_)
        · have hE := hE.trans (if_pos hb)
          refine zH_blk (c' := (58, [zR 8, .inl a1, .inl a2, .inl a3, .inl a4, .inl a5, .inl a6, zN], [.inl (-2)])) 1 hz rfl ?_
          exact zH_ret hz rfl rfl (hfinB hE)
        · have hE := hE.trans (if_neg hb)
          refine zH_blk (c' := (50, [zR 8, .inl a1, .inl a2, .inl a3, .inl a4, .inl a5, .inl a6, zN], [.inl a6, .inl a5, zR 8])) 3 hz rfl ?_
          refine zH_callE hz zp_178 rfl rfl (fh_178_8 a5 a6) ?_
          show zH n (0, 0) 132 (53, [zR 8, .inl a1, .inl a2, .inl a3, .inl a4, .inl a5, .inl a6, zN], [.inl (hf_178_8 M a5 a6)]) M _
          refine zH_if_ne hz rfl (fun hb => ?_) (fun hb => ?_)
          · have hE := hE.trans (if_pos hb)
            refine zH_blk (c' := (65, [zR 8, .inl a1, .inl a2, .inl a3, .inl a4, .inl a5, .inl a6, zN], [.inl a6, .inl a5, .inl 3, zR 8])) 4 hz rfl ?_
            refine zH_callB hz zp_179 rfl rfl (fh_179_8 3 a5 a6) ?_
            intro u1 N2 hu1 hN2
            show zH n (0, 0) 132 (68, [zR 8, .inl a1, .inl a2, .inl a3, .inl a4, .inl a5, .inl a6, zN], [.inl u1]) N2 _
            refine zH_blk (c' := (81, [zR 8, .inl a1, .inl a2, .inl a3, .inl a4, .inl a5, .inl a6, .inl u1], [.inl a1, .inl 5, .inl u1, zR 18])) 7 hz rfl ?_
            refine zH_callW hz zp_107 rfl rfl (fh_107_18 u1 5 a1) ?_
            intro N3 hN3
            show zH n (0, 0) 132 (84, [zR 8, .inl a1, .inl a2, .inl a3, .inl a4, .inl a5, .inl a6, .inl u1], []) N3 _
            refine zH_blk (c' := (96, [zR 8, .inl a1, .inl a2, .inl a3, .inl a4, .inl a5, .inl a6, .inl u1], [.inl a2, .inl 8, .inl u1, zR 18])) 6 hz rfl ?_
            refine zH_callW hz zp_107 rfl rfl (fh_107_18 u1 8 a2) ?_
            intro N4 hN4
            show zH n (0, 0) 132 (99, [zR 8, .inl a1, .inl a2, .inl a3, .inl a4, .inl a5, .inl a6, .inl u1], []) N4 _
            refine zH_blk (c' := (111, [zR 8, .inl a1, .inl a2, .inl a3, .inl a4, .inl a5, .inl a6, .inl u1], [.inl a3, .inl 9, .inl u1, zR 18])) 6 hz rfl ?_
            refine zH_callW hz zp_107 rfl rfl (fh_107_18 u1 9 a3) ?_
            intro N5 hN5
            show zH n (0, 0) 132 (114, [zR 8, .inl a1, .inl a2, .inl a3, .inl a4, .inl a5, .inl a6, .inl u1], []) N5 _
            refine zH_blk (c' := (127, [zR 8, .inl a1, .inl a2, .inl a3, .inl a4, .inl a5, .inl a6, .inl u1], [.inl a4, .inl 10, .inl u1, zR 18])) 6 hz rfl ?_
            refine zH_callW hz zp_107 rfl rfl (fh_107_18 u1 10 a4) ?_
            intro N6 hN6
            show zH n (0, 0) 132 (130, [zR 8, .inl a1, .inl a2, .inl a3, .inl a4, .inl a5, .inl a6, .inl u1], []) N6 _
            refine zH_blk (c' := (132, [zR 8, .inl a1, .inl a2, .inl a3, .inl a4, .inl a5, .inl a6, .inl u1], [.inl u1])) 1 hz rfl ?_
            subst hN6
            subst hN5
            subst hN4
            subst hN3
            subst hN2
            subst hu1
            exact zH_ret hz rfl rfl (hfinB hE)
          · have hE := hE.trans (if_neg hb)
            refine zH_blk (c' := (58, [zR 8, .inl a1, .inl a2, .inl a3, .inl a4, .inl a5, .inl a6, zN], [.inl (-2)])) 1 hz rfl ?_
            exact zH_ret hz rfl rfl (hfinB hE)
      · have hE := hE.trans (if_neg hb)
        refine zH_blk (c' := (32, [zR 8, .inl a1, .inl a2, .inl a3, .inl a4, .inl a5, .inl a6, zN], [.inl (-2)])) 1 hz rfl ?_
        exact zH_ret hz rfl rfl (hfinB hE)
noncomputable def hf_133_8 (M : zM) (a1 : Int) (a2 : Int) (a3 : Int) (a4 : Int) : Int × zM :=
  (if (hf_174_8 M a1) = 0 then ((-2), M) else (if (hf_175_8 M a2) = 0 then ((-2), M) else (if ¬ (hf_178_8 M a3 a4) = 0 then (((hf_179_8 M 4 a3 a4).1), (hR_set (hR_set ((hf_179_8 M 4 a3 a4).2) 18 ((hf_179_8 M 4 a3 a4).1) 4 a1) 18 ((hf_179_8 M 4 a3 a4).1) 5 a2)) else ((-2), M))))
set_option maxRecDepth 100000 in
theorem fh_133_8 {n : Nat} {M : zM} (a1 : Int) (a2 : Int) (a3 : Int) (a4 : Int) : zH n (0, 0) 133 (0, zini [zR 8, .inl a1, .inl a2, .inl a3, .inl a4] 6, []) M (fun r M' => r = some (.inl (hf_133_8 M a1 a2 a3 a4).1) ∧ M' = (hf_133_8 M a1 a2 a3 a4).2) := by
  have hz := zp_133
  have hE : hf_133_8 M a1 a2 a3 a4 = hf_133_8 M a1 a2 a3 a4 := rfl
  show zH n (0, 0) 133 (0, [zR 8, .inl a1, .inl a2, .inl a3, .inl a4, zN], []) M _
  refine zH_blk (c' := (2, [zR 8, .inl a1, .inl a2, .inl a3, .inl a4, zN], [.inl a1, zR 8])) 2 hz rfl ?_
  refine zH_callE hz zp_174 rfl rfl (fh_174_8 a1) ?_
  show zH n (0, 0) 133 (5, [zR 8, .inl a1, .inl a2, .inl a3, .inl a4, zN], [.inl (hf_174_8 M a1)]) M _
  refine zH_if_eq hz rfl (fun hb => ?_) (fun hb => ?_)
  · have hE := hE.trans (if_pos hb)
    refine zH_blk (c' := (28, [zR 8, .inl a1, .inl a2, .inl a3, .inl a4, zN], [.inl (-2)])) 1 hz rfl ?_
    exact zH_ret hz rfl rfl (hfinB hE)
  · have hE := hE.trans (if_neg hb)
    refine zH_blk (c' := (10, [zR 8, .inl a1, .inl a2, .inl a3, .inl a4, zN], [.inl a2, zR 8])) 2 hz rfl ?_
    refine zH_callE hz zp_175 rfl rfl (fh_175_8 a2) ?_
    show zH n (0, 0) 133 (13, [zR 8, .inl a1, .inl a2, .inl a3, .inl a4, zN], [.inl (hf_175_8 M a2)]) M _
    refine zH_if_eq hz rfl (fun hb => ?_) (fun hb => ?_)
    · have hE := hE.trans (if_pos hb)
      refine zH_blk (c' := (28, [zR 8, .inl a1, .inl a2, .inl a3, .inl a4, zN], [.inl (-2)])) 1 hz rfl ?_
      exact zH_ret hz rfl rfl (hfinB hE)
    · have hE := hE.trans (if_neg hb)
      refine zH_blk (c' := (20, [zR 8, .inl a1, .inl a2, .inl a3, .inl a4, zN], [.inl a4, .inl a3, zR 8])) 3 hz rfl ?_
      refine zH_callE hz zp_178 rfl rfl (fh_178_8 a3 a4) ?_
      show zH n (0, 0) 133 (23, [zR 8, .inl a1, .inl a2, .inl a3, .inl a4, zN], [.inl (hf_178_8 M a3 a4)]) M _
      refine zH_if_ne hz rfl (fun hb => ?_) (fun hb => ?_)
      · have hE := hE.trans (if_pos hb)
        refine zH_blk (c' := (34, [zR 8, .inl a1, .inl a2, .inl a3, .inl a4, zN], [.inl a4, .inl a3, .inl 4, zR 8])) 4 hz rfl ?_
        refine zH_callB hz zp_179 rfl rfl (fh_179_8 4 a3 a4) ?_
        intro u1 N2 hu1 hN2
        show zH n (0, 0) 133 (37, [zR 8, .inl a1, .inl a2, .inl a3, .inl a4, zN], [.inl u1]) N2 _
        refine zH_blk (c' := (50, [zR 8, .inl a1, .inl a2, .inl a3, .inl a4, .inl u1], [.inl a1, .inl 4, .inl u1, zR 18])) 7 hz rfl ?_
        refine zH_callW hz zp_107 rfl rfl (fh_107_18 u1 4 a1) ?_
        intro N3 hN3
        show zH n (0, 0) 133 (53, [zR 8, .inl a1, .inl a2, .inl a3, .inl a4, .inl u1], []) N3 _
        refine zH_blk (c' := (64, [zR 8, .inl a1, .inl a2, .inl a3, .inl a4, .inl u1], [.inl a2, .inl 5, .inl u1, zR 18])) 6 hz rfl ?_
        refine zH_callW hz zp_107 rfl rfl (fh_107_18 u1 5 a2) ?_
        intro N4 hN4
        show zH n (0, 0) 133 (67, [zR 8, .inl a1, .inl a2, .inl a3, .inl a4, .inl u1], []) N4 _
        refine zH_blk (c' := (69, [zR 8, .inl a1, .inl a2, .inl a3, .inl a4, .inl u1], [.inl u1])) 1 hz rfl ?_
        subst hN4
        subst hN3
        subst hN2
        subst hu1
        exact zH_ret hz rfl rfl (hfinB hE)
      · have hE := hE.trans (if_neg hb)
        refine zH_blk (c' := (28, [zR 8, .inl a1, .inl a2, .inl a3, .inl a4, zN], [.inl (-2)])) 1 hz rfl ?_
        exact zH_ret hz rfl rfl (hfinB hE)
noncomputable def hf_134_8 (M : zM) (a1 : Int) (a2 : Int) (a3 : Int) : Int × zM :=
  (if (hR_has M 18 a1) = 0 then ((-2), M) else (if ¬ (hf_178_8 M a2 a3) = 0 then (((hf_179_8 M 5 a2 a3).1), (hR_set ((hf_179_8 M 5 a2 a3).2) 18 ((hf_179_8 M 5 a2 a3).1) 6 a1)) else ((-2), M)))
