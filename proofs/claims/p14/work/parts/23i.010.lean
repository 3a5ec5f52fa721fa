set_option maxRecDepth 100000 in
theorem fh_199_97 {n : Nat} {M : zM} (a1 : Int) : zH n (0, 0) 199 (0, zini [zR 97, .inl a1] 2, []) M (fun r M' => r = some (.inl (hf_199_97 M a1)) ∧ M' = M) := by
  have hz := zp_199
  have hE : hf_199_97 M a1 = hf_199_97 M a1 := rfl
  show zH n (0, 0) 199 (0, [zR 97, .inl a1], []) M _
  refine zH_blk (c' := (13, [zR 97, .inl a1], [.inl (w32 ((w32 (150 + (w32 (5 * a1)))) + 1)), zR 98])) 9 hz rfl ?_
  refine zH_iald hz rfl rfl (.inl rfl) (fun _ => ?_)
  show zH n (0, 0) 199 (14, [zR 97, .inl a1], [.inl (M 98 (w32 ((w32 (150 + (w32 (5 * a1)))) + 1) : Int).toNat)]) M _
  exact zH_ret hz rfl rfl (hfinP hE)
noncomputable def hf_200_97 (M : zM) (a1 : Int) (a2 : Int) : Int :=
  (if (hf_182_97 M 3 a1) = 0 then 0 else (if (hf_180 M a2 (hf_199_97 M a1) 9999) = 0 then 0 else 1))
set_option maxRecDepth 100000 in
theorem fh_200_97 {n : Nat} {M : zM} (a1 : Int) (a2 : Int) : zH n (0, 0) 200 (0, zini [zR 97, .inl a1, .inl a2] 3, []) M (fun r M' => r = some (.inl (hf_200_97 M a1 a2)) ∧ M' = M) := by
  have hz := zp_200
  have hE : hf_200_97 M a1 a2 = hf_200_97 M a1 a2 := rfl
  show zH n (0, 0) 200 (0, [zR 97, .inl a1, .inl a2], []) M _
  refine zH_blk (c' := (3, [zR 97, .inl a1, .inl a2], [.inl a1, .inl 3, zR 97])) 3 hz rfl ?_
  refine zH_callE hz zp_182 rfl rfl (fh_182_97 3 a1) ?_
  show zH n (0, 0) 200 (6, [zR 97, .inl a1, .inl a2], [.inl (hf_182_97 M 3 a1)]) M _
  refine zH_if_eq hz rfl (fun hb => ?_) (fun hb => ?_)
  · have hE := hE.trans (if_pos hb)
    refine zH_blk (c' := (29, [zR 97, .inl a1, .inl a2], [.inl 0])) 1 hz rfl ?_
    exact zH_zret hz rfl (hfinP hE)
  · have hE := hE.trans (if_neg hb)
    refine zH_blk (c' := (12, [zR 97, .inl a1, .inl a2], [.inl a1, zR 97, .inl a2])) 3 hz rfl ?_
    refine zH_callE hz zp_199 rfl rfl (fh_199_97 a1) ?_
    show zH n (0, 0) 200 (15, [zR 97, .inl a1, .inl a2], [.inl (hf_199_97 M a1), .inl a2]) M _
    refine zH_blk (c' := (18, [zR 97, .inl a1, .inl a2], [.inl 9999, .inl (hf_199_97 M a1), .inl a2])) 1 hz rfl ?_
    refine zH_callE hz zp_180 rfl rfl (fh_180 a2 (hf_199_97 M a1) 9999) ?_
    show zH n (0, 0) 200 (21, [zR 97, .inl a1, .inl a2], [.inl (hf_180 M a2 (hf_199_97 M a1) 9999)]) M _
    refine zH_if_eq hz rfl (fun hb => ?_) (fun hb => ?_)
    · have hE := hE.trans (if_pos hb)
      refine zH_blk (c' := (29, [zR 97, .inl a1, .inl a2], [.inl 0])) 1 hz rfl ?_
      exact zH_zret hz rfl (hfinP hE)
    · have hE := hE.trans (if_neg hb)
      refine zH_blk (c' := (29, [zR 97, .inl a1, .inl a2], [.inl 1])) 2 hz rfl ?_
      exact zH_zret hz rfl (hfinP hE)
noncomputable def hf_203_97 (M : zM) (a1 : Int) (a2 : Int) (a3 : Int) (a4 : Int) : Int × zM :=
  (if (hf_198_97 M a1) = 0 then ((-2), M) else (if (hf_185 M a2) = 0 then ((-2), M) else (if ¬ (hf_200_97 M a3 a4) = 0 then (if (hf_197_97 M) = 0 then (((hf_183_97 (hf_195_97 (hf_195_97 (hf_196_97 M 2 (hf_199_97 M a3) a4 a3) 6 a1) 7 a2) 4).1), ((hf_183_97 (hf_195_97 (hf_195_97 (hf_196_97 M 2 (hf_199_97 M a3) a4 a3) 6 a1) 7 a2) 4).2)) else ((-4), M)) else ((-2), M))))
set_option maxRecDepth 100000 in
theorem fh_203_97 {n : Nat} {M : zM} (a1 : Int) (a2 : Int) (a3 : Int) (a4 : Int) : zH n (0, 0) 203 (0, zini [zR 97, .inl a1, .inl a2, .inl a3, .inl a4] 5, []) M (fun r M' => r = some (.inl (hf_203_97 M a1 a2 a3 a4).1) ∧ M' = (hf_203_97 M a1 a2 a3 a4).2) := by
  have hz := zp_203
  have hE : hf_203_97 M a1 a2 a3 a4 = hf_203_97 M a1 a2 a3 a4 := rfl
  show zH n (0, 0) 203 (0, [zR 97, .inl a1, .inl a2, .inl a3, .inl a4], []) M _
  refine zH_blk (c' := (2, [zR 97, .inl a1, .inl a2, .inl a3, .inl a4], [.inl a1, zR 97])) 2 hz rfl ?_
  refine zH_callE hz zp_198 rfl rfl (fh_198_97 a1) ?_
  show zH n (0, 0) 203 (5, [zR 97, .inl a1, .inl a2, .inl a3, .inl a4], [.inl (hf_198_97 M a1)]) M _
  refine zH_if_eq hz rfl (fun hb => ?_) (fun hb => ?_)
  · have hE := hE.trans (if_pos hb)
    refine zH_blk (c' := (27, [zR 97, .inl a1, .inl a2, .inl a3, .inl a4], [.inl (-2)])) 1 hz rfl ?_
    exact zH_ret hz rfl rfl (hfinB hE)
  · have hE := hE.trans (if_neg hb)
    refine zH_blk (c' := (9, [zR 97, .inl a1, .inl a2, .inl a3, .inl a4], [.inl a2])) 1 hz rfl ?_
    refine zH_callE hz zp_185 rfl rfl (fh_185 a2) ?_
    show zH n (0, 0) 203 (12, [zR 97, .inl a1, .inl a2, .inl a3, .inl a4], [.inl (hf_185 M a2)]) M _
    refine zH_if_eq hz rfl (fun hb => ?_) (fun hb => ?_)
    · have hE := hE.trans (if_pos hb)
      refine zH_blk (c' := (27, [zR 97, .inl a1, .inl a2, .inl a3, .inl a4], [.inl (-2)])) 1 hz rfl ?_
      exact zH_ret hz rfl rfl (hfinB hE)
    · have hE := hE.trans (if_neg hb)
      refine zH_blk (c' := (19, [zR 97, .inl a1, .inl a2, .inl a3, .inl a4], [.inl a4, .inl a3, zR 97])) 3 hz rfl ?_
      refine zH_callE hz zp_200 rfl rfl (fh_200_97 a3 a4) ?_
      show zH n (0, 0) 203 (22, [zR 97, .inl a1, .inl a2, .inl a3, .inl a4], [.inl (hf_200_97 M a3 a4)]) M _
      refine zH_if_ne hz rfl (fun hb => ?_) (fun hb => ?_)
      · have hE := hE.trans (if_pos hb)
        refine zH_blk (c' := (29, [zR 97, .inl a1, .inl a2, .inl a3, .inl a4], [zR 97])) 1 hz rfl ?_
        refine zH_callE hz zp_197 rfl rfl (fh_197_97) ?_
        show zH n (0, 0) 203 (32, [zR 97, .inl a1, .inl a2, .inl a3, .inl a4], [.inl (hf_197_97 M)]) M _
        refine zH_if_eq hz rfl (fun hb => ?_) (fun hb => ?_)
        · have hE := hE.trans (if_pos hb)
          refine zH_blk (c' := (42, [zR 97, .inl a1, .inl a2, .inl a3, .inl a4], [.inl a3, zR 97, .inl 2, zR 97])) 4 hz rfl ?_
          refine zH_callE hz zp_199 rfl rfl (fh_199_97 a3) ?_
          show zH n (0, 0) 203 (45, [zR 97, .inl a1, .inl a2, .inl a3, .inl a4], [.inl (hf_199_97 M a3), .inl 2, zR 97]) M _
          refine zH_blk (c' := (48, [zR 97, .inl a1, .inl a2, .inl a3, .inl a4], [.inl a3, .inl a4, .inl (hf_199_97 M a3), .inl 2, zR 97])) 2 hz rfl ?_
          refine zH_callW hz zp_196 rfl rfl (fh_196_97 2 (hf_199_97 M a3) a4 a3) ?_
          intro N1 hN1
          show zH n (0, 0) 203 (51, [zR 97, .inl a1, .inl a2, .inl a3, .inl a4], []) N1 _
          refine zH_blk (c' := (55, [zR 97, .inl a1, .inl a2, .inl a3, .inl a4], [.inl a1, .inl 6, zR 97])) 3 hz rfl ?_
          refine zH_callW hz zp_195 rfl rfl (fh_195_97 6 a1) ?_
          intro N2 hN2
          show zH n (0, 0) 203 (58, [zR 97, .inl a1, .inl a2, .inl a3, .inl a4], []) N2 _
          refine zH_blk (c' := (62, [zR 97, .inl a1, .inl a2, .inl a3, .inl a4], [.inl a2, .inl 7, zR 97])) 3 hz rfl ?_
          refine zH_callW hz zp_195 rfl rfl (fh_195_97 7 a2) ?_
          intro N3 hN3
          show zH n (0, 0) 203 (65, [zR 97, .inl a1, .inl a2, .inl a3, .inl a4], []) N3 _
          refine zH_blk (c' := (67, [zR 97, .inl a1, .inl a2, .inl a3, .inl a4], [.inl 4, zR 97])) 2 hz rfl ?_
          refine zH_callB hz zp_183 rfl rfl (fh_183_97 4) ?_
          intro u4 N5 hu4 hN5
          show zH n (0, 0) 203 (70, [zR 97, .inl a1, .inl a2, .inl a3, .inl a4], [.inl u4]) N5 _
          subst hN5
          subst hu4
          subst hN3
          subst hN2
          subst hN1
          exact zH_ret hz rfl rfl (hfinB hE)
        · have hE := hE.trans (if_neg hb)
          refine zH_blk (c' := (37, [zR 97, .inl a1, .inl a2, .inl a3, .inl a4], [.inl (-4)])) 1 hz rfl ?_
          exact zH_ret hz rfl rfl (hfinB hE)
      · have hE := hE.trans (if_neg hb)
        refine zH_blk (c' := (27, [zR 97, .inl a1, .inl a2, .inl a3, .inl a4], [.inl (-2)])) 1 hz rfl ?_
        exact zH_ret hz rfl rfl (hfinB hE)
noncomputable def hf_204_97 (M : zM) (a1 : Int) (a2 : Int) (a3 : Int) (a4 : Int) (a5 : Int) (a6 : Int) : Int × zM :=
  (if (hf_182_97 M 0 a1) = 0 then ((-2), M) else (if (hf_180 M a2 1 200) = 0 then ((-2), M) else (if (hf_180 M a3 1 200) = 0 then ((-2), M) else (if (hf_180 M a4 (-50) 50) = 0 then ((-2), M) else (if ¬ (hf_200_97 M a5 a6) = 0 then (if (hf_197_97 M) = 0 then (((hf_183_97 (hf_195_97 (hf_195_97 (hf_195_97 (hf_195_97 (hf_196_97 M 3 (hf_199_97 M a5) a6 a5) 5 a1) 9 a2) 10 a3) 11 a4) 4).1), ((hf_183_97 (hf_195_97 (hf_195_97 (hf_195_97 (hf_195_97 (hf_196_97 M 3 (hf_199_97 M a5) a6 a5) 5 a1) 9 a2) 10 a3) 11 a4) 4).2)) else ((-4), M)) else ((-2), M))))))
set_option maxRecDepth 100000 in
theorem fh_204_97 {n : Nat} {M : zM} (a1 : Int) (a2 : Int) (a3 : Int) (a4 : Int) (a5 : Int) (a6 : Int) : zH n (0, 0) 204 (0, zini [zR 97, .inl a1, .inl a2, .inl a3, .inl a4, .inl a5, .inl a6] 7, []) M (fun r M' => r = some (.inl (hf_204_97 M a1 a2 a3 a4 a5 a6).1) ∧ M' = (hf_204_97 M a1 a2 a3 a4 a5 a6).2) := by
  have hz := zp_204
  have hE : hf_204_97 M a1 a2 a3 a4 a5 a6 = hf_204_97 M a1 a2 a3 a4 a5 a6 := rfl
  show zH n (0, 0) 204 (0, [zR 97, .inl a1, .inl a2, .inl a3, .inl a4, .inl a5, .inl a6], []) M _
  refine zH_blk (c' := (3, [zR 97, .inl a1, .inl a2, .inl a3, .inl a4, .inl a5, .inl a6], [.inl a1, .inl 0, zR 97])) 3 hz rfl ?_
  refine zH_callE hz zp_182 rfl rfl (fh_182_97 0 a1) ?_
  show zH n (0, 0) 204 (6, [zR 97, .inl a1, .inl a2, .inl a3, .inl a4, .inl a5, .inl a6], [.inl (hf_182_97 M 0 a1)]) M _
  refine zH_if_eq hz rfl (fun hb => ?_) (fun hb => ?_)
  · have hE := hE.trans (if_pos hb)
    refine zH_blk (c' := (56, [zR 97, .inl a1, .inl a2, .inl a3, .inl a4, .inl a5, .inl a6], [.inl (-2)])) 1 hz rfl ?_
    exact zH_ret hz rfl rfl (hfinB hE)
  · have hE := hE.trans (if_neg hb)
    refine zH_blk (c' := (14, [zR 97, .inl a1, .inl a2, .inl a3, .inl a4, .inl a5, .inl a6], [.inl 200, .inl 1, .inl a2])) 3 hz rfl ?_
    refine zH_callE hz zp_180 rfl rfl (fh_180 a2 1 200) ?_
    show zH n (0, 0) 204 (17, [zR 97, .inl a1, .inl a2, .inl a3, .inl a4, .inl a5, .inl a6], [.inl (hf_180 M a2 1 200)]) M _
    refine zH_if_eq hz rfl (fun hb => ?_) (fun hb => ?_)
    · have hE := hE.trans (if_pos hb)
      refine zH_blk (c' := (56, [zR 97, .inl a1, .inl a2, .inl a3, .inl a4, .inl a5, .inl a6], [.inl (-2)])) 1 hz rfl ?_
      exact zH_ret hz rfl rfl (hfinB hE)
    · have hE := hE.trans (if_neg hb)
      refine zH_blk (c' := (25, [zR 97, .inl a1, .inl a2, .inl a3, .inl a4, .inl a5, .inl a6], [.inl 200, .inl 1, .inl a3])) 3 hz rfl ?_
      refine zH_callE hz zp_180 rfl rfl (fh_180 a3 1 200) ?_
      show zH n (0, 0) 204 (28, [zR 97, .inl a1, .inl a2, .inl a3, .inl a4, .inl a5, .inl a6], [.inl (hf_180 M a3 1 200)]) M _
      refine zH_if_eq hz rfl (fun hb => ?_) (fun hb => ?_)
      · have hE := hE.trans (if_pos hb)
        refine zH_blk (c' := (56, [zR 97, .inl a1, .inl a2, .inl a3, .inl a4, .inl a5, .inl a6], [.inl (-2)])) 1 hz rfl ?_
        exact zH_ret hz rfl rfl (hfinB hE)
      · have hE := hE.trans (if_neg hb)
        refine zH_blk (c' := (37, [zR 97, .inl a1, .inl a2, .inl a3, .inl a4, .inl a5, .inl a6], [.inl 50, .inl (-50), .inl a4])) 3 hz rfl ?_
        refine zH_callE hz zp_180 rfl rfl (fh_180 a4 (-50) 50) ?_
        show zH n (0, 0) 204 (40, [zR 97, .inl a1, .inl a2, .inl a3, .inl a4, .inl a5, .inl a6], [.inl (hf_180 M a4 (-50) 50)]) M _
        refine zH_if_eq hz rfl (fun hb => ?_) (fun hb => ?_)
        · have hE := hE.trans (if_pos hb)
          refine zH_blk (c' := (56, [zR 97, .inl a1, .inl a2, .inl a3, .inl a4, .inl a5, .inl a6], [.inl (-2)])) 1 hz rfl ?_
          exact zH_ret hz rfl rfl (hfinB hE)
        · have hE := hE.trans (if_neg hb)
          refine zH_blk (c' := (48, [zR 97, .inl a1, .inl a2, .inl a3, .inl a4, .inl a5, .inl a6], [.inl a6, .inl a5, zR 97])) 3 hz rfl ?_
          refine zH_callE hz zp_200 rfl rfl (fh_200_97 a5 a6) ?_
          show zH n (0, 0) 204 (51, [zR 97, .inl a1, .inl a2, .inl a3, .inl a4, .inl a5, .inl a6], [.inl (hf_200_97 M a5 a6)]) M _
          refine zH_if_ne hz rfl (fun hb => ?_) (fun hb => ?_)
          · have hE := hE.trans (if_pos hb)
            refine zH_blk (c' := (58, [zR 97, .inl a1, .inl a2, .inl a3, .inl a4, .inl a5, .inl a6], [zR 97])) 1 hz rfl ?_
            refine zH_callE hz zp_197 rfl rfl (fh_197_97) ?_
            show zH n (0, 0) 204 (61, [zR 97, .inl a1, .inl a2, .inl a3, .inl a4, .inl a5, .inl a6], [.inl (hf_197_97 M)]) M _
            refine zH_if_eq hz rfl (fun hb => ?_) (fun hb => ?_)
            · have hE := hE.trans (if_pos hb)
              refine zH_blk (c' := (72, [zR 97, .inl a1, .inl a2, .inl a3, .inl a4, .inl a5, .inl a6], [.inl a5, zR 97, .inl 3, zR 97])) 4 hz rfl ?_
              refine zH_callE hz zp_199 rfl rfl (fh_199_97 a5) ?_
              show zH n (0, 0) 204 (75, [zR 97, .inl a1, .inl a2, .inl a3, .inl a4, .inl a5, .inl a6], [.inl (hf_199_97 M a5), .inl 3, zR 97]) M _
              refine zH_blk (c' := (79, [zR 97, .inl a1, .inl a2, .inl a3, .inl a4, .inl a5, .inl a6], [.inl a5, .inl a6, .inl (hf_199_97 M a5), .inl 3, zR 97])) 2 hz rfl ?_
              refine zH_callW hz zp_196 rfl rfl (fh_196_97 3 (hf_199_97 M a5) a6 a5) ?_
              intro N1 hN1
              show zH n (0, 0) 204 (82, [zR 97, .inl a1, .inl a2, .inl a3, .inl a4, .inl a5, .inl a6], []) N1 _
              refine zH_blk (c' := (85, [zR 97, .inl a1, .inl a2, .inl a3, .inl a4, .inl a5, .inl a6], [.inl a1, .inl 5, zR 97])) 3 hz rfl ?_
              refine zH_callW hz zp_195 rfl rfl (fh_195_97 5 a1) ?_
              intro N2 hN2
              show zH n (0, 0) 204 (88, [zR 97, .inl a1, .inl a2, .inl a3, .inl a4, .inl a5, .inl a6], []) N2 _
              refine zH_blk (c' := (92, [zR 97, .inl a1, .inl a2, .inl a3, .inl a4, .inl a5, .inl a6], [.inl a2, .inl 9, zR 97])) 3 hz rfl ?_
              refine zH_callW hz zp_195 rfl rfl (fh_195_97 9 a2) ?_
              intro N3 hN3
              show zH n (0, 0) 204 (95, [zR 97, .inl a1, .inl a2, .inl a3, .inl a4, .inl a5, .inl a6], []) N3 _
              refine zH_blk (c' := (99, [zR 97, .inl a1, .inl a2, .inl a3, .inl a4, .inl a5, .inl a6], [.inl a3, .inl 10, zR 97])) 3 hz rfl ?_
              refine zH_callW hz zp_195 rfl rfl (fh_195_97 10 a3) ?_
              intro N4 hN4
              show zH n (0, 0) 204 (102, [zR 97, .inl a1, .inl a2, .inl a3, .inl a4, .inl a5, .inl a6], []) N4 _
              refine zH_blk (c' := (107, [zR 97, .inl a1, .inl a2, .inl a3, .inl a4, .inl a5, .inl a6], [.inl a4, .inl 11, zR 97])) 3 hz rfl ?_
              refine zH_callW hz zp_195 rfl rfl (fh_195_97 11 a4) ?_
              intro N5 hN5
              show zH n (0, 0) 204 (110, [zR 97, .inl a1, .inl a2, .inl a3, .inl a4, .inl a5, .inl a6], []) N5 _
              refine zH_blk (c' := (112, [zR 97, .inl a1, .inl a2, .inl a3, .inl a4, .inl a5, .inl a6], [.inl 4, zR 97])) 2 hz rfl ?_
              refine zH_callB hz zp_183 rfl rfl (fh_183_97 4) ?_
              intro u6 N7 hu6 hN7
              show zH n (0, 0) 204 (115, [zR 97, .inl a1, .inl a2, .inl a3, .inl a4, .inl a5, .inl a6], [.inl u6]) N7 _
              subst hN7
              subst hu6
              subst hN5
              subst hN4
              subst hN3
              subst hN2
              subst hN1
              exact zH_ret hz rfl rfl (hfinB hE)
            · have hE := hE.trans (if_neg hb)
              refine zH_blk (c' := (66, [zR 97, .inl a1, .inl a2, .inl a3, .inl a4, .inl a5, .inl a6], [.inl (-4)])) 1 hz rfl ?_
              exact zH_ret hz rfl rfl (hfinB hE)
          · have hE := hE.trans (if_neg hb)
            refine zH_blk (c' := (56, [zR 97, .inl a1, .inl a2, .inl a3, .inl a4, .inl a5, .inl a6], [.inl (-2)])) 1 hz rfl ?_
            exact zH_ret hz rfl rfl (hfinB hE)
noncomputable def hf_205_97 (M : zM) (a1 : Int) (a2 : Int) (a3 : Int) (a4 : Int) : Int × zM :=
  (if (hf_182_97 M 1 a1) = 0 then ((-2), M) else (if (hf_182_97 M 0 a2) = 0 then ((-2), M) else (if ¬ (hf_200_97 M a3 a4) = 0 then (if (hf_197_97 M) = 0 then (((hf_183_97 (hf_195_97 (hf_195_97 (hf_196_97 M 4 (hf_199_97 M a3) a4 a3) 4 a1) 5 a2) 4).1), ((hf_183_97 (hf_195_97 (hf_195_97 (hf_196_97 M 4 (hf_199_97 M a3) a4 a3) 4 a1) 5 a2) 4).2)) else ((-4), M)) else ((-2), M))))
set_option maxRecDepth 100000 in
theorem fh_205_97 {n : Nat} {M : zM} (a1 : Int) (a2 : Int) (a3 : Int) (a4 : Int) : zH n (0, 0) 205 (0, zini [zR 97, .inl a1, .inl a2, .inl a3, .inl a4] 5, []) M (fun r M' => r = some (.inl (hf_205_97 M a1 a2 a3 a4).1) ∧ M' = (hf_205_97 M a1 a2 a3 a4).2) := by
  have hz := zp_205
  have hE : hf_205_97 M a1 a2 a3 a4 = hf_205_97 M a1 a2 a3 a4 := rfl
  show zH n (0, 0) 205 (0, [zR 97, .inl a1, .inl a2, .inl a3, .inl a4], []) M _
  refine zH_blk (c' := (3, [zR 97, .inl a1, .inl a2, .inl a3, .inl a4], [.inl a1, .inl 1, zR 97])) 3 hz rfl ?_
  refine zH_callE hz zp_182 rfl rfl (fh_182_97 1 a1) ?_
  show zH n (0, 0) 205 (6, [zR 97, .inl a1, .inl a2, .inl a3, .inl a4], [.inl (hf_182_97 M 1 a1)]) M _
  refine zH_if_eq hz rfl (fun hb => ?_) (fun hb => ?_)
  · have hE := hE.trans (if_pos hb)
    refine zH_blk (c' := (30, [zR 97, .inl a1, .inl a2, .inl a3, .inl a4], [.inl (-2)])) 1 hz rfl ?_
    exact zH_ret hz rfl rfl (hfinB hE)
  · have hE := hE.trans (if_neg hb)
    refine zH_blk (c' := (12, [zR 97, .inl a1, .inl a2, .inl a3, .inl a4], [.inl a2, .inl 0, zR 97])) 3 hz rfl ?_
    refine zH_callE hz zp_182 rfl rfl (fh_182_97 0 a2) ?_
    show zH n (0, 0) 205 (15, [zR 97, .inl a1, .inl a2, .inl a3, .inl a4], [.inl (hf_182_97 M 0 a2)]) M _
    refine zH_if_eq hz rfl (fun hb => ?_) (fun hb => ?_)
    · have hE := hE.trans (if_pos hb)
      refine zH_blk (c' := (30, [zR 97, .inl a1, .inl a2, .inl a3, .inl a4], [.inl (-2)])) 1 hz rfl ?_
      exact zH_ret hz rfl rfl (hfinB hE)
    · have hE := hE.trans (if_neg hb)
      refine zH_blk (c' := (22, [zR 97, .inl a1, .inl a2, .inl a3, .inl a4], [.inl a4, .inl a3, zR 97])) 3 hz rfl ?_
      refine zH_callE hz zp_200 rfl rfl (fh_200_97 a3 a4) ?_
      show zH n (0, 0) 205 (25, [zR 97, .inl a1, .inl a2, .inl a3, .inl a4], [.inl (hf_200_97 M a3 a4)]) M _
      refine zH_if_ne hz rfl (fun hb => ?_) (fun hb => ?_)
      · have hE := hE.trans (if_pos hb)
        refine zH_blk (c' := (32, [zR 97, .inl a1, .inl a2, .inl a3, .inl a4], [zR 97])) 1 hz rfl ?_
        refine zH_callE hz zp_197 rfl rfl (fh_197_97) ?_
        show zH n (0, 0) 205 (35, [zR 97, .inl a1, .inl a2, .inl a3, .inl a4], [.inl (hf_197_97 M)]) M _
        refine zH_if_eq hz rfl (fun hb => ?_) (fun hb => ?_)
        · have hE := hE.trans (if_pos hb)
          refine zH_blk (c' := (45, [zR 97, .inl a1, .inl a2, .inl a3, .inl a4], [.inl a3, zR 97, .inl 4, zR 97])) 4 hz rfl ?_
          refine zH_callE hz zp_199 rfl rfl (fh_199_97 a3) ?_
          show zH n (0, 0) 205 (48, [zR 97, .inl a1, .inl a2, .inl a3, .inl a4], [.inl (hf_199_97 M a3), .inl 4, zR 97]) M _
          refine zH_blk (c' := (51, [zR 97, .inl a1, .inl a2, .inl a3, .inl a4], [.inl a3, .inl a4, .inl (hf_199_97 M a3), .inl 4, zR 97])) 2 hz rfl ?_
          refine zH_callW hz zp_196 rfl rfl (fh_196_97 4 (hf_199_97 M a3) a4 a3) ?_
          intro N1 hN1
          show zH n (0, 0) 205 (54, [zR 97, .inl a1, .inl a2, .inl a3, .inl a4], []) N1 _
          refine zH_blk (c' := (57, [zR 97, .inl a1, .inl a2, .inl a3, .inl a4], [.inl a1, .inl 4, zR 97])) 3 hz rfl ?_
          refine zH_callW hz zp_195 rfl rfl (fh_195_97 4 a1) ?_
          intro N2 hN2
          show zH n (0, 0) 205 (60, [zR 97, .inl a1, .inl a2, .inl a3, .inl a4], []) N2 _
          refine zH_blk (c' := (63, [zR 97, .inl a1, .inl a2, .inl a3, .inl a4], [.inl a2, .inl 5, zR 97])) 3 hz rfl ?_
          refine zH_callW hz zp_195 rfl rfl (fh_195_97 5 a2) ?_
          intro N3 hN3
          show zH n (0, 0) 205 (66, [zR 97, .inl a1, .inl a2, .inl a3, .inl a4], []) N3 _
          refine zH_blk (c' := (68, [zR 97, .inl a1, .inl a2, .inl a3, .inl a4], [.inl 4, zR 97])) 2 hz rfl ?_
          refine zH_callB hz zp_183 rfl rfl (fh_183_97 4) ?_
          intro u4 N5 hu4 hN5
          show zH n (0, 0) 205 (71, [zR 97, .inl a1, .inl a2, .inl a3, .inl a4], [.inl u4]) N5 _
          subst hN5
          subst hu4
          subst hN3
          subst hN2
          subst hN1
          exact zH_ret hz rfl rfl (hfinB hE)
        · have hE := hE.trans (if_neg hb)
          refine zH_blk (c' := (40, [zR 97, .inl a1, .inl a2, .inl a3, .inl a4], [.inl (-4)])) 1 hz rfl ?_
          exact zH_ret hz rfl rfl (hfinB hE)
      · have hE := hE.trans (if_neg hb)
        refine zH_blk (c' := (30, [zR 97, .inl a1, .inl a2, .inl a3, .inl a4], [.inl (-2)])) 1 hz rfl ?_
        exact zH_ret hz rfl rfl (hfinB hE)
noncomputable def hf_206_97 (M : zM) (a1 : Int) (a2 : Int) (a3 : Int) : Int × zM :=
  (if (hf_182_97 M 4 a1) = 0 then ((-2), M) else (if ¬ (hf_200_97 M a2 a3) = 0 then (if (hf_197_97 M) = 0 then (((hf_183_97 (hf_195_97 (hf_196_97 M 5 (hf_199_97 M a2) a3 a2) 6 a1) 4).1), ((hf_183_97 (hf_195_97 (hf_196_97 M 5 (hf_199_97 M a2) a3 a2) 6 a1) 4).2)) else ((-4), M)) else ((-2), M)))
set_option maxRecDepth 100000 in
theorem fh_206_97 {n : Nat} {M : zM} (a1 : Int) (a2 : Int) (a3 : Int) : zH n (0, 0) 206 (0, zini [zR 97, .inl a1, .inl a2, .inl a3] 4, []) M (fun r M' => r = some (.inl (hf_206_97 M a1 a2 a3).1) ∧ M' = (hf_206_97 M a1 a2 a3).2) := by
  have hz := zp_206
  have hE : hf_206_97 M a1 a2 a3 = hf_206_97 M a1 a2 a3 := rfl
  show zH n (0, 0) 206 (0, [zR 97, .inl a1, .inl a2, .inl a3], []) M _
  refine zH_blk (c' := (3, [zR 97, .inl a1, .inl a2, .inl a3], [.inl a1, .inl 4, zR 97])) 3 hz rfl ?_
  refine zH_callE hz zp_182 rfl rfl (fh_182_97 4 a1) ?_
  show zH n (0, 0) 206 (6, [zR 97, .inl a1, .inl a2, .inl a3], [.inl (hf_182_97 M 4 a1)]) M _
  refine zH_if_eq hz rfl (fun hb => ?_) (fun hb => ?_)
  · have hE := hE.trans (if_pos hb)
    refine zH_blk (c' := (20, [zR 97, .inl a1, .inl a2, .inl a3], [.inl (-2)])) 1 hz rfl ?_
    exact zH_ret hz rfl rfl (hfinB hE)
  · have hE := hE.trans (if_neg hb)
    refine zH_blk (c' := (12, [zR 97, .inl a1, .inl a2, .inl a3], [.inl a3, .inl a2, zR 97])) 3 hz rfl ?_
    refine zH_callE hz zp_200 rfl rfl (fh_200_97 a2 a3) ?_
    show zH n (0, 0) 206 (15, [zR 97, .inl a1, .inl a2, .inl a3], [.inl (hf_200_97 M a2 a3)]) M _
    refine zH_if_ne hz rfl (fun hb => ?_) (fun hb => ?_)
    · have hE := hE.trans (if_pos hb)
      refine zH_blk (c' := (22, [zR 97, .inl a1, .inl a2, .inl a3], [zR 97])) 1 hz rfl ?_
      refine zH_callE hz zp_197 rfl rfl (fh_197_97) ?_
      show zH n (0, 0) 206 (25, [zR 97, .inl a1, .inl a2, .inl a3], [.inl (hf_197_97 M)]) M _
      refine zH_if_eq hz rfl (fun hb => ?_) (fun hb => ?_)
      · have hE := hE.trans (if_pos hb)
        refine zH_blk (c' := (35, [zR 97, .inl a1, .inl a2, .inl a3], [.inl a2, zR 97, .inl 5, zR 97])) 4 hz rfl ?_
        refine zH_callE hz zp_199 rfl rfl (fh_199_97 a2) ?_
        show zH n (0, 0) 206 (38, [zR 97, .inl a1, .inl a2, .inl a3], [.inl (hf_199_97 M a2), .inl 5, zR 97]) M _
        refine zH_blk (c' := (40, [zR 97, .inl a1, .inl a2, .inl a3], [.inl a2, .inl a3, .inl (hf_199_97 M a2), .inl 5, zR 97])) 2 hz rfl ?_
        refine zH_callW hz zp_196 rfl rfl (fh_196_97 5 (hf_199_97 M a2) a3 a2) ?_
        intro N1 hN1
        show zH n (0, 0) 206 (43, [zR 97, .inl a1, .inl a2, .inl a3], []) N1 _
        refine zH_blk (c' := (47, [zR 97, .inl a1, .inl a2, .inl a3], [.inl a1, .inl 6, zR 97])) 3 hz rfl ?_
        refine zH_callW hz zp_195 rfl rfl (fh_195_97 6 a1) ?_
        intro N2 hN2
        show zH n (0, 0) 206 (50, [zR 97, .inl a1, .inl a2, .inl a3], []) N2 _
        refine zH_blk (c' := (52, [zR 97, .inl a1, .inl a2, .inl a3], [.inl 4, zR 97])) 2 hz rfl ?_
        refine zH_callB hz zp_183 rfl rfl (fh_183_97 4) ?_
        intro u3 N4 hu3 hN4
        show zH n (0, 0) 206 (55, [zR 97, .inl a1, .inl a2, .inl a3], [.inl u3]) N4 _
        subst hN4
        subst hu3
        subst hN2
        subst hN1
        exact zH_ret hz rfl rfl (hfinB hE)
      · have hE := hE.trans (if_neg hb)
        refine zH_blk (c' := (30, [zR 97, .inl a1, .inl a2, .inl a3], [.inl (-4)])) 1 hz rfl ?_
        exact zH_ret hz rfl rfl (hfinB hE)
    · have hE := hE.trans (if_neg hb)
      refine zH_blk (c' := (20, [zR 97, .inl a1, .inl a2, .inl a3], [.inl (-2)])) 1 hz rfl ?_
      exact zH_ret hz rfl rfl (hfinB hE)
noncomputable def hf_207_97 (M : zM) (a1 : Int) (a2 : Int) (a3 : Int) : Int × zM :=
  (if (hf_182_97 M 1 a1) = 0 then ((-2), M) else (if ¬ (hf_200_97 M a2 a3) = 0 then (if (hf_197_97 M) = 0 then (((hf_183_97 (hf_195_97 (hf_196_97 M 6 (hf_199_97 M a2) a3 a2) 4 a1) 4).1), ((hf_183_97 (hf_195_97 (hf_196_97 M 6 (hf_199_97 M a2) a3 a2) 4 a1) 4).2)) else ((-4), M)) else ((-2), M)))
set_option maxRecDepth 100000 in
theorem fh_207_97 {n : Nat} {M : zM} (a1 : Int) (a2 : Int) (a3 : Int) : zH n (0, 0) 207 (0, zini [zR 97, .inl a1, .inl a2, .inl a3] 4, []) M (fun r M' => r = some (.inl (hf_207_97 M a1 a2 a3).1) ∧ M' = (hf_207_97 M a1 a2 a3).2) := by
  have hz := zp_207
  have hE : hf_207_97 M a1 a2 a3 = hf_207_97 M a1 a2 a3 := rfl
  show zH n (0, 0) 207 (0, [zR 97, .inl a1, .inl a2, .inl a3], []) M _
  refine zH_blk (c' := (3, [zR 97, .inl a1, .inl a2, .inl a3], [.inl a1, .inl 1, zR 97])) 3 hz rfl ?_
  refine zH_callE hz zp_182 rfl rfl (fh_182_97 1 a1) ?_
  show zH n (0, 0) 207 (6, [zR 97, .inl a1, .inl a2, .inl a3], [.inl (hf_182_97 M 1 a1)]) M _
  refine zH_if_eq hz rfl (fun hb => ?_) (fun hb => ?_)
  · have hE := hE.trans (if_pos hb)
    refine zH_blk (c' := (20, [zR 97, .inl a1, .inl a2, .inl a3], [.inl (-2)])) 1 hz rfl ?_
    exact zH_ret hz rfl rfl (hfinB hE)
  · have hE := hE.trans (if_neg hb)
    refine zH_blk (c' := (12, [zR 97, .inl a1, .inl a2, .inl a3], [.inl a3, .inl a2, zR 97])) 3 hz rfl ?_
    refine zH_callE hz zp_200 rfl rfl (fh_200_97 a2 a3) ?_
    show zH n (0, 0) 207 (15, [zR 97, .inl a1, .inl a2, .inl a3], [.inl (hf_200_97 M a2 a3)]) M _
    refine zH_if_ne hz rfl (fun hb => ?_) (fun hb => ?_)
    · have hE := hE.trans (if_pos hb)
      refine zH_blk (c' := (22, [zR 97, .inl a1, .inl a2, .inl a3], [zR 97])) 1 hz rfl ?_
      refine zH_callE hz zp_197 rfl rfl (fh_197_97) ?_
      show zH n (0, 0) 207 (25, [zR 97, .inl a1, .inl a2, .inl a3], [.inl (hf_197_97 M)]) M _
      refine zH_if_eq hz rfl (fun hb => ?_) (fun hb => ?_)
      · have hE := hE.trans (if_pos hb)
        refine zH_blk (c' := (36, [zR 97, .inl a1, .inl a2, .inl a3], [.inl a2, zR 97, .inl 6, zR 97])) 4 hz rfl ?_
        refine zH_callE hz zp_199 rfl rfl (fh_199_97 a2) ?_
        show zH n (0, 0) 207 (39, [zR 97, .inl a1, .inl a2, .inl a3], [.inl (hf_199_97 M a2), .inl 6, zR 97]) M _
        refine zH_blk (c' := (41, [zR 97, .inl a1, .inl a2, .inl a3], [.inl a2, .inl a3, .inl (hf_199_97 M a2), .inl 6, zR 97])) 2 hz rfl ?_
        refine zH_callW hz zp_196 rfl rfl (fh_196_97 6 (hf_199_97 M a2) a3 a2) ?_
        intro N1 hN1
        show zH n (0, 0) 207 (44, [zR 97, .inl a1, .inl a2, .inl a3], []) N1 _
        refine zH_blk (c' := (47, [zR 97, .inl a1, .inl a2, .inl a3], [.inl a1, .inl 4, zR 97])) 3 hz rfl ?_
        refine zH_callW hz zp_195 rfl rfl (fh_195_97 4 a1) ?_
        intro N2 hN2
        show zH n (0, 0) 207 (50, [zR 97, .inl a1, .inl a2, .inl a3], []) N2 _
        refine zH_blk (c' := (52, [zR 97, .inl a1, .inl a2, .inl a3], [.inl 4, zR 97])) 2 hz rfl ?_
        refine zH_callB hz zp_183 rfl rfl (fh_183_97 4) ?_
        intro u3 N4 hu3 hN4
        show zH n (0, 0) 207 (55, [zR 97, .inl a1, .inl a2, .inl a3], [.inl u3]) N4 _
        subst hN4
        subst hu3
        subst hN2
        subst hN1
        exact zH_ret hz rfl rfl (hfinB hE)
      · have hE := hE.trans (if_neg hb)
        refine zH_blk (c' := (30, [zR 97, .inl a1, .inl a2, .inl a3], [.inl (-4)])) 1 hz rfl ?_
        exact zH_ret hz rfl rfl (hfinB hE)
    · have hE := hE.trans (if_neg hb)
      refine zH_blk (c' := (20, [zR 97, .inl a1, .inl a2, .inl a3], [.inl (-2)])) 1 hz rfl ?_
      exact zH_ret hz rfl rfl (hfinB hE)
noncomputable def hf_208_97 (M : zM) (a1 : Int) (a2 : Int) : Int × zM :=
  (if (hf_182_97 M 4 a1) = 0 then ((-2), M) else (if ¬ (hf_184 M a2) = 0 then (if (hf_194_97 M a1 3) = (-1) then ((-3), M) else (if ¬ (hf_180 M (w32 (a2 - (hf_194_97 M a1 1))) 0 (M 98 (7 : Int).toNat)) = 0 then (if (hf_197_97 M) = 0 then (((hf_183_97 (hf_195_97 (hf_196_97 M 5 a2 a2 (-1)) 6 a1) 4).1), ((hf_183_97 (hf_195_97 (hf_196_97 M 5 a2 a2 (-1)) 6 a1) 4).2)) else ((-4), M)) else ((-3), M))) else ((-2), M)))
set_option maxRecDepth 100000 in
theorem fh_208_97 {n : Nat} {M : zM} (a1 : Int) (a2 : Int) : zH n (0, 0) 208 (0, zini [zR 97, .inl a1, .inl a2] 3, []) M (fun r M' => r = some (.inl (hf_208_97 M a1 a2).1) ∧ M' = (hf_208_97 M a1 a2).2) := by
  have hz := zp_208
  have hE : hf_208_97 M a1 a2 = hf_208_97 M a1 a2 := rfl
  show zH n (0, 0) 208 (0, [zR 97, .inl a1, .inl a2], []) M _
  refine zH_blk (c' := (3, [zR 97, .inl a1, .inl a2], [.inl a1, .inl 4, zR 97])) 3 hz rfl ?_
  refine zH_callE hz zp_182 rfl rfl (fh_182_97 4 a1) ?_
  show zH n (0, 0) 208 (6, [zR 97, .inl a1, .inl a2], [.inl (hf_182_97 M 4 a1)]) M _
  refine zH_if_eq hz rfl (fun hb => ?_) (fun hb => ?_)
  · have hE := hE.trans (if_pos hb)
    refine zH_blk (c' := (18, [zR 97, .inl a1, .inl a2], [.inl (-2)])) 1 hz rfl ?_
    exact zH_ret hz rfl rfl (hfinB hE)
  · have hE := hE.trans (if_neg hb)
    refine zH_blk (c' := (10, [zR 97, .inl a1, .inl a2], [.inl a2])) 1 hz rfl ?_
    refine zH_callE hz zp_184 rfl rfl (fh_184 a2) ?_
    show zH n (0, 0) 208 (13, [zR 97, .inl a1, .inl a2], [.inl (hf_184 M a2)]) M _
    refine zH_if_ne hz rfl (fun hb => ?_) (fun hb => ?_)
    · have hE := hE.trans (if_pos hb)
      refine zH_blk (c' := (22, [zR 97, .inl a1, .inl a2], [.inl 3, .inl a1, zR 97])) 3 hz rfl ?_
      refine zH_callE hz zp_194 rfl rfl (fh_194_97 a1 3) ?_
      show zH n (0, 0) 208 (25, [zR 97, .inl a1, .inl a2], [.inl (hf_194_97 M a1 3)]) M _
      refine zH_blk (c' := (26, [zR 97, .inl a1, .inl a2], [.inl (-1), .inl (hf_194_97 M a1 3)])) 1 hz rfl ?_
      refine zH_icmp_eq hz rfl (fun hb => ?_) (fun hb => ?_)
      · have hE := hE.trans (if_pos hb)
        refine zH_blk (c' := (53, [zR 97, .inl a1, .inl a2], [.inl (-3)])) 1 hz rfl ?_
        exact zH_ret hz rfl rfl (hfinB hE)
      · have hE := hE.trans (if_neg hb)
        refine zH_blk (c' := (33, [zR 97, .inl a1, .inl a2], [.inl 1, .inl a1, zR 97, .inl a2])) 4 hz rfl ?_
        refine zH_callE hz zp_194 rfl rfl (fh_194_97 a1 1) ?_
        show zH n (0, 0) 208 (36, [zR 97, .inl a1, .inl a2], [.inl (hf_194_97 M a1 1), .inl a2]) M _
        refine zH_blk (c' := (44, [zR 97, .inl a1, .inl a2], [.inl 7, zR 98, .inl 0, .inl (w32 (a2 - (hf_194_97 M a1 1)))])) 5 hz rfl ?_
        refine zH_iald hz rfl rfl (.inl rfl) (fun _ => ?_)
        show zH n (0, 0) 208 (45, [zR 97, .inl a1, .inl a2], [.inl (M 98 (7 : Int).toNat), .inl 0, .inl (w32 (a2 - (hf_194_97 M a1 1)))]) M _
        refine zH_callE hz zp_180 rfl rfl (fh_180 (w32 (a2 - (hf_194_97 M a1 1))) 0 (M 98 (7 : Int).toNat)) ?_
        show zH n (0, 0) 208 (48, [zR 97, .inl a1, .inl a2], [.inl (hf_180 M (w32 (a2 - (hf_194_97 M a1 1))) 0 (M 98 (7 : Int).toNat))]) M _
        refine zH_if_ne hz rfl (fun hb => ?_) (fun hb => ?_)
        · have hE := hE.trans (if_pos hb)
          refine zH_blk (c' := (55, [zR 97, .inl a1, .inl a2], [zR 97])) 1 hz rfl ?_
          refine zH_callE hz zp_197 rfl rfl (fh_197_97) ?_
          show zH n (0, 0) 208 (58, [zR 97, .inl a1, .inl a2], [.inl (hf_197_97 M)]) M _
          refine zH_if_eq hz rfl (fun hb => ?_) (fun hb => ?_)
          · have hE := hE.trans (if_pos hb)
            refine zH_blk (c' := (69, [zR 97, .inl a1, .inl a2], [.inl (-1), .inl a2, .inl a2, .inl 5, zR 97])) 5 hz rfl ?_
            refine zH_callW hz zp_196 rfl rfl (fh_196_97 5 a2 a2 (-1)) ?_
            intro N1 hN1
            show zH n (0, 0) 208 (72, [zR 97, .inl a1, .inl a2], []) N1 _
            refine zH_blk (c' := (76, [zR 97, .inl a1, .inl a2], [.inl a1, .inl 6, zR 97])) 3 hz rfl ?_
            refine zH_callW hz zp_195 rfl rfl (fh_195_97 6 a1) ?_
            intro N2 hN2
            show zH n (0, 0) 208 (79, [zR 97, .inl a1, .inl a2], []) N2 _
            refine zH_blk (c' := (81, [zR 97, .inl a1, .inl a2], [.inl 4, zR 97])) 2 hz rfl ?_
            refine zH_callB hz zp_183 rfl rfl (fh_183_97 4) ?_
            intro u3 N4 hu3 hN4
            show zH n (0, 0) 208 (84, [zR 97, .inl a1, .inl a2], [.inl u3]) N4 _
            subst hN4
            subst hu3
            subst hN2
            subst hN1
            exact zH_ret hz rfl rfl (hfinB hE)
          · have hE := hE.trans (if_neg hb)
            refine zH_blk (c' := (63, [zR 97, .inl a1, .inl a2], [.inl (-4)])) 1 hz rfl ?_
            exact zH_ret hz rfl rfl (hfinB hE)
        · have hE := hE.trans (if_neg hb)
          refine zH_blk (c' := (53, [zR 97, .inl a1, .inl a2], [.inl (-3)])) 1 hz rfl ?_
          exact zH_ret hz rfl rfl (hfinB hE)
    · have hE := hE.trans (if_neg hb)
      refine zH_blk (c' := (18, [zR 97, .inl a1, .inl a2], [.inl (-2)])) 1 hz rfl ?_
      exact zH_ret hz rfl rfl (hfinB hE)
