noncomputable def hf_197_97 (M : zM) : Int :=
  (if ¬ (M 98 (4 : Int).toNat) = 250 then 0 else 1)
set_option maxRecDepth 100000 in
theorem fh_197_97 {n : Nat} {M : zM} : zH n (0, 0) 197 (0, zini [zR 97] 1, []) M (fun r M' => r = some (.inl (hf_197_97 M)) ∧ M' = M) := by
  have hz := zp_197
  have hE : hf_197_97 M = hf_197_97 M := rfl
  show zH n (0, 0) 197 (0, [zR 97], []) M _
  refine zH_blk (c' := (5, [zR 97], [.inl 4, zR 98])) 3 hz rfl ?_
  refine zH_iald hz rfl rfl (.inl rfl) (fun _ => ?_)
  show zH n (0, 0) 197 (6, [zR 97], [.inl (M 98 (4 : Int).toNat)]) M _
  refine zH_blk (c' := (9, [zR 97], [.inl 250, .inl (M 98 (4 : Int).toNat)])) 1 hz rfl ?_
  refine zH_icmp_ne hz rfl (fun hb => ?_) (fun hb => ?_)
  · have hE := hE.trans (if_pos hb)
    refine zH_blk (c' := (17, [zR 97], [.inl 0])) 1 hz rfl ?_
    exact zH_zret hz rfl (hfinP hE)
  · have hE := hE.trans (if_neg hb)
    refine zH_blk (c' := (17, [zR 97], [.inl 1])) 2 hz rfl ?_
    exact zH_zret hz rfl (hfinP hE)
noncomputable def hf_195_97 (M : zM) (a1 : Int) (a2 : Int) : zM :=
  zput M 98 (w32 ((w32 (350 + (w32 (12 * (M 98 (4 : Int).toNat))))) + a1) : Int).toNat a2
set_option maxRecDepth 100000 in
theorem fh_195_97 {n : Nat} {M : zM} (a1 : Int) (a2 : Int) : zH n (0, 0) 195 (0, zini [zR 97, .inl a1, .inl a2] 3, []) M (fun r M' => r = none ∧ M' = hf_195_97 M a1 a2) := by
  have hz := zp_195
  have hE : hf_195_97 M a1 a2 = hf_195_97 M a1 a2 := rfl
  show zH n (0, 0) 195 (0, [zR 97, .inl a1, .inl a2], []) M _
  refine zH_blk (c' := (14, [zR 97, .inl a1, .inl a2], [.inl 4, zR 98, .inl 12, .inl 350, zR 98])) 7 hz rfl ?_
  refine zH_iald hz rfl rfl (.inl rfl) (fun _ => ?_)
  show zH n (0, 0) 195 (15, [zR 97, .inl a1, .inl a2], [.inl (M 98 (4 : Int).toNat), .inl 12, .inl 350, zR 98]) M _
  refine zH_blk (c' := (20, [zR 97, .inl a1, .inl a2], [.inl a2, .inl (w32 ((w32 (350 + (w32 (12 * (M 98 (4 : Int).toNat))))) + a1)), zR 98])) 5 hz rfl ?_
  refine zH_iast hz rfl rfl (fun _ => ?_)
  show zH n (0, 0) 195 (21, [zR 97, .inl a1, .inl a2], []) (zput M 98 (w32 ((w32 (350 + (w32 (12 * (M 98 (4 : Int).toNat))))) + a1) : Int).toNat a2) _
  exact zH_ret hz rfl rfl ⟨rfl, hE.symm⟩
noncomputable def hf_196_97 (M : zM) (a1 : Int) (a2 : Int) (a3 : Int) (a4 : Int) : zM :=
  (hf_195_97 (hf_195_97 (hf_195_97 (hf_195_97 (hf_195_97 (hf_195_97 (hf_195_97 (hf_195_97 (hf_195_97 (hf_195_97 (hf_195_97 (hf_195_97 M 0 a1) 1 a2) 2 a3) 3 a4) 4 (-1)) 5 (-1)) 6 (-1)) 7 (-1)) 8 (-1)) 9 (-1)) 10 (-1)) 11 (-1))
set_option maxRecDepth 100000 in
theorem fh_196_97 {n : Nat} {M : zM} (a1 : Int) (a2 : Int) (a3 : Int) (a4 : Int) : zH n (0, 0) 196 (0, zini [zR 97, .inl a1, .inl a2, .inl a3, .inl a4] 6, []) M (fun r M' => r = none ∧ M' = hf_196_97 M a1 a2 a3 a4) := by
  have hz := zp_196
  have hE : hf_196_97 M a1 a2 a3 a4 = hf_196_97 M a1 a2 a3 a4 := rfl
  show zH n (0, 0) 196 (0, [zR 97, .inl a1, .inl a2, .inl a3, .inl a4, zN], []) M _
  refine zH_blk (c' := (3, [zR 97, .inl a1, .inl a2, .inl a3, .inl a4, zN], [.inl a1, .inl 0, zR 97])) 3 hz rfl ?_
  refine zH_callW hz zp_195 rfl rfl (fh_195_97 0 a1) ?_
  intro N1 hN1
  show zH n (0, 0) 196 (6, [zR 97, .inl a1, .inl a2, .inl a3, .inl a4, zN], []) N1 _
  refine zH_blk (c' := (9, [zR 97, .inl a1, .inl a2, .inl a3, .inl a4, zN], [.inl a2, .inl 1, zR 97])) 3 hz rfl ?_
  refine zH_callW hz zp_195 rfl rfl (fh_195_97 1 a2) ?_
  intro N2 hN2
  show zH n (0, 0) 196 (12, [zR 97, .inl a1, .inl a2, .inl a3, .inl a4, zN], []) N2 _
  refine zH_blk (c' := (15, [zR 97, .inl a1, .inl a2, .inl a3, .inl a4, zN], [.inl a3, .inl 2, zR 97])) 3 hz rfl ?_
  refine zH_callW hz zp_195 rfl rfl (fh_195_97 2 a3) ?_
  intro N3 hN3
  show zH n (0, 0) 196 (18, [zR 97, .inl a1, .inl a2, .inl a3, .inl a4, zN], []) N3 _
  refine zH_blk (c' := (22, [zR 97, .inl a1, .inl a2, .inl a3, .inl a4, zN], [.inl a4, .inl 3, zR 97])) 3 hz rfl ?_
  refine zH_callW hz zp_195 rfl rfl (fh_195_97 3 a4) ?_
  intro N4 hN4
  show zH n (0, 0) 196 (25, [zR 97, .inl a1, .inl a2, .inl a3, .inl a4, zN], []) N4 _
  refine zH_blk (c' := (39, [zR 97, .inl a1, .inl a2, .inl a3, .inl a4, .inl 4], [.inl (-1), .inl 4, zR 97])) 8 hz rfl ?_
  refine zH_callW hz zp_195 rfl rfl (fh_195_97 4 (-1)) ?_
  intro N5 hN5
  show zH n (0, 0) 196 (42, [zR 97, .inl a1, .inl a2, .inl a3, .inl a4, .inl 4], []) N5 _
  refine zH_blk (c' := (39, [zR 97, .inl a1, .inl a2, .inl a3, .inl a4, .inl 5], [.inl (-1), .inl 5, zR 97])) 8 hz rfl ?_
  refine zH_callW hz zp_195 rfl rfl (fh_195_97 5 (-1)) ?_
  intro N6 hN6
  show zH n (0, 0) 196 (42, [zR 97, .inl a1, .inl a2, .inl a3, .inl a4, .inl 5], []) N6 _
  refine zH_blk (c' := (39, [zR 97, .inl a1, .inl a2, .inl a3, .inl a4, .inl 6], [.inl (-1), .inl 6, zR 97])) 8 hz rfl ?_
  refine zH_callW hz zp_195 rfl rfl (fh_195_97 6 (-1)) ?_
  intro N7 hN7
  show zH n (0, 0) 196 (42, [zR 97, .inl a1, .inl a2, .inl a3, .inl a4, .inl 6], []) N7 _
  refine zH_blk (c' := (39, [zR 97, .inl a1, .inl a2, .inl a3, .inl a4, .inl 7], [.inl (-1), .inl 7, zR 97])) 8 hz rfl ?_
  refine zH_callW hz zp_195 rfl rfl (fh_195_97 7 (-1)) ?_
  intro N8 hN8
  show zH n (0, 0) 196 (42, [zR 97, .inl a1, .inl a2, .inl a3, .inl a4, .inl 7], []) N8 _
  refine zH_blk (c' := (39, [zR 97, .inl a1, .inl a2, .inl a3, .inl a4, .inl 8], [.inl (-1), .inl 8, zR 97])) 8 hz rfl ?_
  refine zH_callW hz zp_195 rfl rfl (fh_195_97 8 (-1)) ?_
  intro N9 hN9
  show zH n (0, 0) 196 (42, [zR 97, .inl a1, .inl a2, .inl a3, .inl a4, .inl 8], []) N9 _
  refine zH_blk (c' := (39, [zR 97, .inl a1, .inl a2, .inl a3, .inl a4, .inl 9], [.inl (-1), .inl 9, zR 97])) 8 hz rfl ?_
  refine zH_callW hz zp_195 rfl rfl (fh_195_97 9 (-1)) ?_
  intro N10 hN10
  show zH n (0, 0) 196 (42, [zR 97, .inl a1, .inl a2, .inl a3, .inl a4, .inl 9], []) N10 _
  refine zH_blk (c' := (39, [zR 97, .inl a1, .inl a2, .inl a3, .inl a4, .inl 10], [.inl (-1), .inl 10, zR 97])) 8 hz rfl ?_
  refine zH_callW hz zp_195 rfl rfl (fh_195_97 10 (-1)) ?_
  intro N11 hN11
  show zH n (0, 0) 196 (42, [zR 97, .inl a1, .inl a2, .inl a3, .inl a4, .inl 10], []) N11 _
  refine zH_blk (c' := (39, [zR 97, .inl a1, .inl a2, .inl a3, .inl a4, .inl 11], [.inl (-1), .inl 11, zR 97])) 8 hz rfl ?_
  refine zH_callW hz zp_195 rfl rfl (fh_195_97 11 (-1)) ?_
  intro N12 hN12
  show zH n (0, 0) 196 (42, [zR 97, .inl a1, .inl a2, .inl a3, .inl a4, .inl 11], []) N12 _
  refine zH_blk (c' := (48, [zR 97, .inl a1, .inl a2, .inl a3, .inl a4, .inl 12], [])) 5 hz rfl ?_
  subst hN12
  subst hN11
  subst hN10
  subst hN9
  subst hN8
  subst hN7
  subst hN6
  subst hN5
  subst hN4
  subst hN3
  subst hN2
  subst hN1
  exact zH_ret hz rfl rfl ⟨rfl, hE.symm⟩
noncomputable def hf_201_97 (M : zM) (a1 : Int) (a2 : Int) (a3 : Int) (a4 : Int) (a5 : Int) (a6 : Int) : Int × zM :=
  (if (hf_182_97 M 1 a1) = 0 then ((-2), M) else (if (hf_182_97 M 0 a2) = 0 then ((-2), M) else (if (hf_185 M a3) = 0 then ((-2), M) else (if (hf_180 M a4 0 4) = 0 then ((-2), M) else (if (hf_184 M a5) = 0 then ((-2), M) else (if ¬ (hf_180 M a6 a5 9999) = 0 then (if (hf_197_97 M) = 0 then (((hf_183_97 (hf_195_97 (hf_195_97 (hf_195_97 (hf_195_97 (hf_196_97 M 0 a5 a6 (-1)) 4 a1) 5 a2) 7 a3) 8 a4) 4).1), ((hf_183_97 (hf_195_97 (hf_195_97 (hf_195_97 (hf_195_97 (hf_196_97 M 0 a5 a6 (-1)) 4 a1) 5 a2) 7 a3) 8 a4) 4).2)) else ((-4), M)) else ((-2), M)))))))
set_option maxRecDepth 100000 in
theorem fh_201_97 {n : Nat} {M : zM} (a1 : Int) (a2 : Int) (a3 : Int) (a4 : Int) (a5 : Int) (a6 : Int) : zH n (0, 0) 201 (0, zini [zR 97, .inl a1, .inl a2, .inl a3, .inl a4, .inl a5, .inl a6] 7, []) M (fun r M' => r = some (.inl (hf_201_97 M a1 a2 a3 a4 a5 a6).1) ∧ M' = (hf_201_97 M a1 a2 a3 a4 a5 a6).2) := by
  have hz := zp_201
  have hE : hf_201_97 M a1 a2 a3 a4 a5 a6 = hf_201_97 M a1 a2 a3 a4 a5 a6 := rfl
  show zH n (0, 0) 201 (0, [zR 97, .inl a1, .inl a2, .inl a3, .inl a4, .inl a5, .inl a6], []) M _
  refine zH_blk (c' := (3, [zR 97, .inl a1, .inl a2, .inl a3, .inl a4, .inl a5, .inl a6], [.inl a1, .inl 1, zR 97])) 3 hz rfl ?_
  refine zH_callE hz zp_182 rfl rfl (fh_182_97 1 a1) ?_
  show zH n (0, 0) 201 (6, [zR 97, .inl a1, .inl a2, .inl a3, .inl a4, .inl a5, .inl a6], [.inl (hf_182_97 M 1 a1)]) M _
  refine zH_if_eq hz rfl (fun hb => ?_) (fun hb => ?_)
  · have hE := hE.trans (if_pos hb)
    refine zH_blk (c' := (58, [zR 97, .inl a1, .inl a2, .inl a3, .inl a4, .inl a5, .inl a6], [.inl (-2)])) 1 hz rfl ?_
    exact zH_ret hz rfl rfl (hfinB hE)
  · have hE := hE.trans (if_neg hb)
    refine zH_blk (c' := (12, [zR 97, .inl a1, .inl a2, .inl a3, .inl a4, .inl a5, .inl a6], [.inl a2, .inl 0, zR 97])) 3 hz rfl ?_
    refine zH_callE hz zp_182 rfl rfl (fh_182_97 0 a2) ?_
    show zH n (0, 0) 201 (15, [zR 97, .inl a1, .inl a2, .inl a3, .inl a4, .inl a5, .inl a6], [.inl (hf_182_97 M 0 a2)]) M _
    refine zH_if_eq hz rfl (fun hb => ?_) (fun hb => ?_)
    · have hE := hE.trans (if_pos hb)
      refine zH_blk (c' := (58, [zR 97, .inl a1, .inl a2, .inl a3, .inl a4, .inl a5, .inl a6], [.inl (-2)])) 1 hz rfl ?_
      exact zH_ret hz rfl rfl (hfinB hE)
    · have hE := hE.trans (if_neg hb)
      refine zH_blk (c' := (19, [zR 97, .inl a1, .inl a2, .inl a3, .inl a4, .inl a5, .inl a6], [.inl a3])) 1 hz rfl ?_
      refine zH_callE hz zp_185 rfl rfl (fh_185 a3) ?_
      show zH n (0, 0) 201 (22, [zR 97, .inl a1, .inl a2, .inl a3, .inl a4, .inl a5, .inl a6], [.inl (hf_185 M a3)]) M _
      refine zH_if_eq hz rfl (fun hb => ?_) (fun hb => ?_)
      · have hE := hE.trans (if_pos hb)
        refine zH_blk (c' := (58, [zR 97, .inl a1, .inl a2, .inl a3, .inl a4, .inl a5, .inl a6], [.inl (-2)])) 1 hz rfl ?_
        exact zH_ret hz rfl rfl (hfinB hE)
      · have hE := hE.trans (if_neg hb)
        refine zH_blk (c' := (29, [zR 97, .inl a1, .inl a2, .inl a3, .inl a4, .inl a5, .inl a6], [.inl 4, .inl 0, .inl a4])) 3 hz rfl ?_
        refine zH_callE hz zp_180 rfl rfl (fh_180 a4 0 4) ?_
        show zH n (0, 0) 201 (32, [zR 97, .inl a1, .inl a2, .inl a3, .inl a4, .inl a5, .inl a6], [.inl (hf_180 M a4 0 4)]) M _
        refine zH_if_eq hz rfl (fun hb => ?_) (fun hb => ?_)
        · have hE := hE.trans (if_pos hb)
          refine zH_blk (c' := (58, [zR 97, .inl a1, .inl a2, .inl a3, .inl a4, .inl a5, .inl a6], [.inl (-2)])) 1 hz rfl ?_
          exact zH_ret hz rfl rfl (hfinB hE)
        · have hE := hE.trans (if_neg hb)
          refine zH_blk (c' := (37, [zR 97, .inl a1, .inl a2, .inl a3, .inl a4, .inl a5, .inl a6], [.inl a5])) 1 hz rfl ?_
          refine zH_callE hz zp_184 rfl rfl (fh_184 a5) ?_
          show zH n (0, 0) 201 (40, [zR 97, .inl a1, .inl a2, .inl a3, .inl a4, .inl a5, .inl a6], [.inl (hf_184 M a5)]) M _
          refine zH_if_eq hz rfl (fun hb => ?_) (fun hb => ?_)
          · have hE := hE.trans (if_pos hb)
            refine zH_blk (c' := (58, [zR 97, .inl a1, .inl a2, .inl a3, .inl a4, .inl a5, .inl a6], [.inl (-2)])) 1 hz rfl ?_
            exact zH_ret hz rfl rfl (hfinB hE)
          · have hE := hE.trans (if_neg hb)
            refine zH_blk (c' := (50, [zR 97, .inl a1, .inl a2, .inl a3, .inl a4, .inl a5, .inl a6], [.inl 9999, .inl a5, .inl a6])) 3 hz rfl ?_
            refine zH_callE hz zp_180 rfl rfl (fh_180 a6 a5 9999) ?_
            show zH n (0, 0) 201 (53, [zR 97, .inl a1, .inl a2, .inl a3, .inl a4, .inl a5, .inl a6], [.inl (hf_180 M a6 a5 9999)]) M _
            refine zH_if_ne hz rfl (fun hb => ?_) (fun hb => ?_)
            · have hE := hE.trans (if_pos hb)
              refine zH_blk (c' := (60, [zR 97, .inl a1, .inl a2, .inl a3, .inl a4, .inl a5, .inl a6], [zR 97])) 1 hz rfl ?_
              refine zH_callE hz zp_197 rfl rfl (fh_197_97) ?_
              show zH n (0, 0) 201 (63, [zR 97, .inl a1, .inl a2, .inl a3, .inl a4, .inl a5, .inl a6], [.inl (hf_197_97 M)]) M _
              refine zH_if_eq hz rfl (fun hb => ?_) (fun hb => ?_)
              · have hE := hE.trans (if_pos hb)
                refine zH_blk (c' := (76, [zR 97, .inl a1, .inl a2, .inl a3, .inl a4, .inl a5, .inl a6], [.inl (-1), .inl a6, .inl a5, .inl 0, zR 97])) 5 hz rfl ?_
                refine zH_callW hz zp_196 rfl rfl (fh_196_97 0 a5 a6 (-1)) ?_
                intro N1 hN1
                show zH n (0, 0) 201 (79, [zR 97, .inl a1, .inl a2, .inl a3, .inl a4, .inl a5, .inl a6], []) N1 _
                refine zH_blk (c' := (82, [zR 97, .inl a1, .inl a2, .inl a3, .inl a4, .inl a5, .inl a6], [.inl a1, .inl 4, zR 97])) 3 hz rfl ?_
                refine zH_callW hz zp_195 rfl rfl (fh_195_97 4 a1) ?_
                intro N2 hN2
                show zH n (0, 0) 201 (85, [zR 97, .inl a1, .inl a2, .inl a3, .inl a4, .inl a5, .inl a6], []) N2 _
                refine zH_blk (c' := (88, [zR 97, .inl a1, .inl a2, .inl a3, .inl a4, .inl a5, .inl a6], [.inl a2, .inl 5, zR 97])) 3 hz rfl ?_
                refine zH_callW hz zp_195 rfl rfl (fh_195_97 5 a2) ?_
                intro N3 hN3
                show zH n (0, 0) 201 (91, [zR 97, .inl a1, .inl a2, .inl a3, .inl a4, .inl a5, .inl a6], []) N3 _
                refine zH_blk (c' := (95, [zR 97, .inl a1, .inl a2, .inl a3, .inl a4, .inl a5, .inl a6], [.inl a3, .inl 7, zR 97])) 3 hz rfl ?_
                refine zH_callW hz zp_195 rfl rfl (fh_195_97 7 a3) ?_
                intro N4 hN4
                show zH n (0, 0) 201 (98, [zR 97, .inl a1, .inl a2, .inl a3, .inl a4, .inl a5, .inl a6], []) N4 _
                refine zH_blk (c' := (103, [zR 97, .inl a1, .inl a2, .inl a3, .inl a4, .inl a5, .inl a6], [.inl a4, .inl 8, zR 97])) 3 hz rfl ?_
                refine zH_callW hz zp_195 rfl rfl (fh_195_97 8 a4) ?_
                intro N5 hN5
                show zH n (0, 0) 201 (106, [zR 97, .inl a1, .inl a2, .inl a3, .inl a4, .inl a5, .inl a6], []) N5 _
                refine zH_blk (c' := (108, [zR 97, .inl a1, .inl a2, .inl a3, .inl a4, .inl a5, .inl a6], [.inl 4, zR 97])) 2 hz rfl ?_
                refine zH_callB hz zp_183 rfl rfl (fh_183_97 4) ?_
                intro u6 N7 hu6 hN7
                show zH n (0, 0) 201 (111, [zR 97, .inl a1, .inl a2, .inl a3, .inl a4, .inl a5, .inl a6], [.inl u6]) N7 _
                subst hN7
                subst hu6
                subst hN5
                subst hN4
                subst hN3
                subst hN2
                subst hN1
                exact zH_ret hz rfl rfl (hfinB hE)
              · have hE := hE.trans (if_neg hb)
                refine zH_blk (c' := (68, [zR 97, .inl a1, .inl a2, .inl a3, .inl a4, .inl a5, .inl a6], [.inl (-4)])) 1 hz rfl ?_
                exact zH_ret hz rfl rfl (hfinB hE)
            · have hE := hE.trans (if_neg hb)
              refine zH_blk (c' := (58, [zR 97, .inl a1, .inl a2, .inl a3, .inl a4, .inl a5, .inl a6], [.inl (-2)])) 1 hz rfl ?_
              exact zH_ret hz rfl rfl (hfinB hE)
noncomputable def hf_194_97 (M : zM) (a1 : Int) (a2 : Int) : Int :=
  M 98 (w32 ((w32 (350 + (w32 (12 * a1)))) + a2) : Int).toNat
set_option maxRecDepth 100000 in
theorem fh_194_97 {n : Nat} {M : zM} (a1 : Int) (a2 : Int) : zH n (0, 0) 194 (0, zini [zR 97, .inl a1, .inl a2] 3, []) M (fun r M' => r = some (.inl (hf_194_97 M a1 a2)) ∧ M' = M) := by
  have hz := zp_194
  have hE : hf_194_97 M a1 a2 = hf_194_97 M a1 a2 := rfl
  show zH n (0, 0) 194 (0, [zR 97, .inl a1, .inl a2], []) M _
  refine zH_blk (c' := (14, [zR 97, .inl a1, .inl a2], [.inl (w32 ((w32 (350 + (w32 (12 * a1)))) + a2)), zR 98])) 9 hz rfl ?_
  refine zH_iald hz rfl rfl (.inl rfl) (fun _ => ?_)
  show zH n (0, 0) 194 (15, [zR 97, .inl a1, .inl a2], [.inl (M 98 (w32 ((w32 (350 + (w32 (12 * a1)))) + a2) : Int).toNat)]) M _
  exact zH_ret hz rfl rfl (hfinP hE)
noncomputable def hf_198_97 (M : zM) (a1 : Int) : Int :=
  (if (hf_182_97 M 4 a1) = 0 then 0 else (if ¬ (hf_194_97 M a1 0) = 0 then 0 else 1))
set_option maxRecDepth 100000 in
theorem fh_198_97 {n : Nat} {M : zM} (a1 : Int) : zH n (0, 0) 198 (0, zini [zR 97, .inl a1] 2, []) M (fun r M' => r = some (.inl (hf_198_97 M a1)) ∧ M' = M) := by
  have hz := zp_198
  have hE : hf_198_97 M a1 = hf_198_97 M a1 := rfl
  show zH n (0, 0) 198 (0, [zR 97, .inl a1], []) M _
  refine zH_blk (c' := (3, [zR 97, .inl a1], [.inl a1, .inl 4, zR 97])) 3 hz rfl ?_
  refine zH_callE hz zp_182 rfl rfl (fh_182_97 4 a1) ?_
  show zH n (0, 0) 198 (6, [zR 97, .inl a1], [.inl (hf_182_97 M 4 a1)]) M _
  refine zH_if_eq hz rfl (fun hb => ?_) (fun hb => ?_)
  · have hE := hE.trans (if_pos hb)
    refine zH_blk (c' := (23, [zR 97, .inl a1], [.inl 0])) 1 hz rfl ?_
    exact zH_zret hz rfl (hfinP hE)
  · have hE := hE.trans (if_neg hb)
    refine zH_blk (c' := (12, [zR 97, .inl a1], [.inl 0, .inl a1, zR 97])) 3 hz rfl ?_
    refine zH_callE hz zp_194 rfl rfl (fh_194_97 a1 0) ?_
    show zH n (0, 0) 198 (15, [zR 97, .inl a1], [.inl (hf_194_97 M a1 0)]) M _
    refine zH_if_ne hz rfl (fun hb => ?_) (fun hb => ?_)
    · have hE := hE.trans (if_pos hb)
      refine zH_blk (c' := (23, [zR 97, .inl a1], [.inl 0])) 1 hz rfl ?_
      exact zH_zret hz rfl (hfinP hE)
    · have hE := hE.trans (if_neg hb)
      refine zH_blk (c' := (23, [zR 97, .inl a1], [.inl 1])) 2 hz rfl ?_
      exact zH_zret hz rfl (hfinP hE)
noncomputable def hf_202_97 (M : zM) (a1 : Int) (a2 : Int) (a3 : Int) (a4 : Int) (a5 : Int) : Int × zM :=
  (if (hf_198_97 M a1) = 0 then ((-2), M) else (if (hf_185 M a2) = 0 then ((-2), M) else (if (hf_180 M a3 0 4) = 0 then ((-2), M) else (if a3 = (hf_194_97 M a1 8) then ((-2), M) else (if (hf_180 M a4 (hf_194_97 M a1 1) 9999) = 0 then ((-2), M) else (if ¬ (hf_180 M a5 a4 9999) = 0 then (if (hf_197_97 M) = 0 then (((hf_183_97 (hf_195_97 (hf_195_97 (hf_195_97 (hf_196_97 M 1 a4 a5 (-1)) 6 a1) 7 a2) 8 a3) 4).1), ((hf_183_97 (hf_195_97 (hf_195_97 (hf_195_97 (hf_196_97 M 1 a4 a5 (-1)) 6 a1) 7 a2) 8 a3) 4).2)) else ((-4), M)) else ((-2), M)))))))
set_option maxRecDepth 100000 in
theorem fh_202_97 {n : Nat} {M : zM} (a1 : Int) (a2 : Int) (a3 : Int) (a4 : Int) (a5 : Int) : zH n (0, 0) 202 (0, zini [zR 97, .inl a1, .inl a2, .inl a3, .inl a4, .inl a5] 6, []) M (fun r M' => r = some (.inl (hf_202_97 M a1 a2 a3 a4 a5).1) ∧ M' = (hf_202_97 M a1 a2 a3 a4 a5).2) := by
  have hz := zp_202
  have hE : hf_202_97 M a1 a2 a3 a4 a5 = hf_202_97 M a1 a2 a3 a4 a5 := rfl
  show zH n (0, 0) 202 (0, [zR 97, .inl a1, .inl a2, .inl a3, .inl a4, .inl a5], []) M _
  refine zH_blk (c' := (2, [zR 97, .inl a1, .inl a2, .inl a3, .inl a4, .inl a5], [.inl a1, zR 97])) 2 hz rfl ?_
  refine zH_callE hz zp_198 rfl rfl (fh_198_97 a1) ?_
  show zH n (0, 0) 202 (5, [zR 97, .inl a1, .inl a2, .inl a3, .inl a4, .inl a5], [.inl (hf_198_97 M a1)]) M _
  refine zH_if_eq hz rfl (fun hb => ?_) (fun hb => ?_)
  · have hE := hE.trans (if_pos hb)
    refine zH_blk (c' := (67, [zR 97, .inl a1, .inl a2, .inl a3, .inl a4, .inl a5], [.inl (-2)])) 1 hz rfl ?_
    exact zH_ret hz rfl rfl (hfinB hE)
  · have hE := hE.trans (if_neg hb)
    refine zH_blk (c' := (9, [zR 97, .inl a1, .inl a2, .inl a3, .inl a4, .inl a5], [.inl a2])) 1 hz rfl ?_
    refine zH_callE hz zp_185 rfl rfl (fh_185 a2) ?_
    show zH n (0, 0) 202 (12, [zR 97, .inl a1, .inl a2, .inl a3, .inl a4, .inl a5], [.inl (hf_185 M a2)]) M _
    refine zH_if_eq hz rfl (fun hb => ?_) (fun hb => ?_)
    · have hE := hE.trans (if_pos hb)
      refine zH_blk (c' := (67, [zR 97, .inl a1, .inl a2, .inl a3, .inl a4, .inl a5], [.inl (-2)])) 1 hz rfl ?_
      exact zH_ret hz rfl rfl (hfinB hE)
    · have hE := hE.trans (if_neg hb)
      refine zH_blk (c' := (18, [zR 97, .inl a1, .inl a2, .inl a3, .inl a4, .inl a5], [.inl 4, .inl 0, .inl a3])) 3 hz rfl ?_
      refine zH_callE hz zp_180 rfl rfl (fh_180 a3 0 4) ?_
      show zH n (0, 0) 202 (21, [zR 97, .inl a1, .inl a2, .inl a3, .inl a4, .inl a5], [.inl (hf_180 M a3 0 4)]) M _
      refine zH_if_eq hz rfl (fun hb => ?_) (fun hb => ?_)
      · have hE := hE.trans (if_pos hb)
        refine zH_blk (c' := (67, [zR 97, .inl a1, .inl a2, .inl a3, .inl a4, .inl a5], [.inl (-2)])) 1 hz rfl ?_
        exact zH_ret hz rfl rfl (hfinB hE)
      · have hE := hE.trans (if_neg hb)
        refine zH_blk (c' := (29, [zR 97, .inl a1, .inl a2, .inl a3, .inl a4, .inl a5], [.inl 8, .inl a1, zR 97, .inl a3])) 4 hz rfl ?_
        refine zH_callE hz zp_194 rfl rfl (fh_194_97 a1 8) ?_
        show zH n (0, 0) 202 (32, [zR 97, .inl a1, .inl a2, .inl a3, .inl a4, .inl a5], [.inl (hf_194_97 M a1 8), .inl a3]) M _
        refine zH_icmp_eq hz rfl (fun hb => ?_) (fun hb => ?_)
        · have hE := hE.trans (if_pos hb)
          refine zH_blk (c' := (67, [zR 97, .inl a1, .inl a2, .inl a3, .inl a4, .inl a5], [.inl (-2)])) 1 hz rfl ?_
          exact zH_ret hz rfl rfl (hfinB hE)
        · have hE := hE.trans (if_neg hb)
          refine zH_blk (c' := (40, [zR 97, .inl a1, .inl a2, .inl a3, .inl a4, .inl a5], [.inl 1, .inl a1, zR 97, .inl a4])) 4 hz rfl ?_
          refine zH_callE hz zp_194 rfl rfl (fh_194_97 a1 1) ?_
          show zH n (0, 0) 202 (43, [zR 97, .inl a1, .inl a2, .inl a3, .inl a4, .inl a5], [.inl (hf_194_97 M a1 1), .inl a4]) M _
          refine zH_blk (c' := (46, [zR 97, .inl a1, .inl a2, .inl a3, .inl a4, .inl a5], [.inl 9999, .inl (hf_194_97 M a1 1), .inl a4])) 1 hz rfl ?_
          refine zH_callE hz zp_180 rfl rfl (fh_180 a4 (hf_194_97 M a1 1) 9999) ?_
          show zH n (0, 0) 202 (49, [zR 97, .inl a1, .inl a2, .inl a3, .inl a4, .inl a5], [.inl (hf_180 M a4 (hf_194_97 M a1 1) 9999)]) M _
          refine zH_if_eq hz rfl (fun hb => ?_) (fun hb => ?_)
          · have hE := hE.trans (if_pos hb)
            refine zH_blk (c' := (67, [zR 97, .inl a1, .inl a2, .inl a3, .inl a4, .inl a5], [.inl (-2)])) 1 hz rfl ?_
            exact zH_ret hz rfl rfl (hfinB hE)
          · have hE := hE.trans (if_neg hb)
            refine zH_blk (c' := (59, [zR 97, .inl a1, .inl a2, .inl a3, .inl a4, .inl a5], [.inl 9999, .inl a4, .inl a5])) 3 hz rfl ?_
            refine zH_callE hz zp_180 rfl rfl (fh_180 a5 a4 9999) ?_
            show zH n (0, 0) 202 (62, [zR 97, .inl a1, .inl a2, .inl a3, .inl a4, .inl a5], [.inl (hf_180 M a5 a4 9999)]) M _
            refine zH_if_ne hz rfl (fun hb => ?_) (fun hb => ?_)
            · have hE := hE.trans (if_pos hb)
              refine zH_blk (c' := (69, [zR 97, .inl a1, .inl a2, .inl a3, .inl a4, .inl a5], [zR 97])) 1 hz rfl ?_
              refine zH_callE hz zp_197 rfl rfl (fh_197_97) ?_
              show zH n (0, 0) 202 (72, [zR 97, .inl a1, .inl a2, .inl a3, .inl a4, .inl a5], [.inl (hf_197_97 M)]) M _
              refine zH_if_eq hz rfl (fun hb => ?_) (fun hb => ?_)
              · have hE := hE.trans (if_pos hb)
                refine zH_blk (c' := (85, [zR 97, .inl a1, .inl a2, .inl a3, .inl a4, .inl a5], [.inl (-1), .inl a5, .inl a4, .inl 1, zR 97])) 5 hz rfl ?_
                refine zH_callW hz zp_196 rfl rfl (fh_196_97 1 a4 a5 (-1)) ?_
                intro N1 hN1
                show zH n (0, 0) 202 (88, [zR 97, .inl a1, .inl a2, .inl a3, .inl a4, .inl a5], []) N1 _
                refine zH_blk (c' := (92, [zR 97, .inl a1, .inl a2, .inl a3, .inl a4, .inl a5], [.inl a1, .inl 6, zR 97])) 3 hz rfl ?_
                refine zH_callW hz zp_195 rfl rfl (fh_195_97 6 a1) ?_
                intro N2 hN2
                show zH n (0, 0) 202 (95, [zR 97, .inl a1, .inl a2, .inl a3, .inl a4, .inl a5], []) N2 _
                refine zH_blk (c' := (99, [zR 97, .inl a1, .inl a2, .inl a3, .inl a4, .inl a5], [.inl a2, .inl 7, zR 97])) 3 hz rfl ?_
                refine zH_callW hz zp_195 rfl rfl (fh_195_97 7 a2) ?_
                intro N3 hN3
                show zH n (0, 0) 202 (102, [zR 97, .inl a1, .inl a2, .inl a3, .inl a4, .inl a5], []) N3 _
                refine zH_blk (c' := (106, [zR 97, .inl a1, .inl a2, .inl a3, .inl a4, .inl a5], [.inl a3, .inl 8, zR 97])) 3 hz rfl ?_
                refine zH_callW hz zp_195 rfl rfl (fh_195_97 8 a3) ?_
                intro N4 hN4
                show zH n (0, 0) 202 (109, [zR 97, .inl a1, .inl a2, .inl a3, .inl a4, .inl a5], []) N4 _
                refine zH_blk (c' := (111, [zR 97, .inl a1, .inl a2, .inl a3, .inl a4, .inl a5], [.inl 4, zR 97])) 2 hz rfl ?_
                refine zH_callB hz zp_183 rfl rfl (fh_183_97 4) ?_
                intro u5 N6 hu5 hN6
                show zH n (0, 0) 202 (114, [zR 97, .inl a1, .inl a2, .inl a3, .inl a4, .inl a5], [.inl u5]) N6 _
                subst hN6
                subst hu5
                subst hN4
                subst hN3
                subst hN2
                subst hN1
                exact zH_ret hz rfl rfl (hfinB hE)
              · have hE := hE.trans (if_neg hb)
                refine zH_blk (c' := (77, [zR 97, .inl a1, .inl a2, .inl a3, .inl a4, .inl a5], [.inl (-4)])) 1 hz rfl ?_
                exact zH_ret hz rfl rfl (hfinB hE)
            · have hE := hE.trans (if_neg hb)
              refine zH_blk (c' := (67, [zR 97, .inl a1, .inl a2, .inl a3, .inl a4, .inl a5], [.inl (-2)])) 1 hz rfl ?_
              exact zH_ret hz rfl rfl (hfinB hE)
noncomputable def hf_199_97 (M : zM) (a1 : Int) : Int :=
  M 98 (w32 ((w32 (150 + (w32 (5 * a1)))) + 1) : Int).toNat
