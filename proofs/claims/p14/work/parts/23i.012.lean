set_option maxRecDepth 100000 in
theorem fh_285_97 {n : Nat} {M : zM} (a1 : Int) : zH n (0, 0) 285 (0, zini [zR 97, .inl a1] 3, []) M (fun r M' => r = some (.inl (hf_285_97 M a1).1) ∧ M' = (hf_285_97 M a1).2) := by
  have hz := zp_285
  have hE : hf_285_97 M a1 = hf_285_97 M a1 := rfl
  show zH n (0, 0) 285 (0, [zR 97, .inl a1, zN], []) M _
  refine zH_blk (c' := (5, [zR 97, .inl a1, zN], [.inl 10000, .inl 1, .inl a1])) 3 hz rfl ?_
  refine zH_callE hz zp_180 rfl rfl (fh_180 a1 1 10000) ?_
  show zH n (0, 0) 285 (8, [zR 97, .inl a1, zN], [.inl (hf_180 M a1 1 10000)]) M _
  refine zH_if_ne hz rfl (fun hb => ?_) (fun hb => ?_)
  · have hE := hE.trans (if_pos hb)
    refine zH_blk (c' := (20, [zR 97, .inl a1, zN], [.inl 8, zR 98])) 3 hz rfl ?_
    refine zH_iald hz rfl rfl (.inl rfl) (fun _ => ?_)
    show zH n (0, 0) 285 (21, [zR 97, .inl a1, zN], [.inl (M 98 (8 : Int).toNat)]) M _
    refine zH_blk (c' := (29, [zR 97, .inl a1, .inl (M 98 (8 : Int).toNat)], [.inl a1, .inl 8, zR 98])) 5 hz rfl ?_
    refine zH_iast hz rfl rfl (fun _ => ?_)
    show zH n (0, 0) 285 (30, [zR 97, .inl a1, .inl (M 98 (8 : Int).toNat)], []) (zput M 98 (8 : Int).toNat a1) _
    refine zH_blk (c' := (31, [zR 97, .inl a1, .inl (M 98 (8 : Int).toNat)], [.inl (M 98 (8 : Int).toNat)])) 1 hz rfl ?_
    exact zH_ret hz rfl rfl (hfinB hE)
  · have hE := hE.trans (if_neg hb)
    refine zH_blk (c' := (13, [zR 97, .inl a1, zN], [.inl (-2)])) 1 hz rfl ?_
    exact zH_ret hz rfl rfl (hfinB hE)
noncomputable def hf_286_97 (M : zM) (a1 : Int) (a2 : Int) : Int × zM :=
  (if (hf_180 M a1 0 1000) = 0 then ((-2), M) else (if ¬ (hf_180 M a2 0 1000) = 0 then (if ¬ (M 98 (6 : Int).toNat) = 12 then (w32 (((hf_183_97 (zput (zput M 98 (w32 (5640 + (w32 (2 * (M 98 (6 : Int).toNat)))) : Int).toNat a1) 98 (w32 ((w32 (5640 + (w32 (2 * ((zput M 98 (w32 (5640 + (w32 (2 * (M 98 (6 : Int).toNat)))) : Int).toNat a1) 98 (6 : Int).toNat))))) + 1) : Int).toNat a2) 6).1) + 1), ((hf_183_97 (zput (zput M 98 (w32 (5640 + (w32 (2 * (M 98 (6 : Int).toNat)))) : Int).toNat a1) 98 (w32 ((w32 (5640 + (w32 (2 * ((zput M 98 (w32 (5640 + (w32 (2 * (M 98 (6 : Int).toNat)))) : Int).toNat a1) 98 (6 : Int).toNat))))) + 1) : Int).toNat a2) 6).2)) else ((-4), M)) else ((-2), M)))
set_option maxRecDepth 100000 in
theorem fh_286_97 {n : Nat} {M : zM} (a1 : Int) (a2 : Int) : zH n (0, 0) 286 (0, zini [zR 97, .inl a1, .inl a2] 3, []) M (fun r M' => r = some (.inl (hf_286_97 M a1 a2).1) ∧ M' = (hf_286_97 M a1 a2).2) := by
  have hz := zp_286
  have hE : hf_286_97 M a1 a2 = hf_286_97 M a1 a2 := rfl
  show zH n (0, 0) 286 (0, [zR 97, .inl a1, .inl a2], []) M _
  refine zH_blk (c' := (5, [zR 97, .inl a1, .inl a2], [.inl 1000, .inl 0, .inl a1])) 3 hz rfl ?_
  refine zH_callE hz zp_180 rfl rfl (fh_180 a1 0 1000) ?_
  show zH n (0, 0) 286 (8, [zR 97, .inl a1, .inl a2], [.inl (hf_180 M a1 0 1000)]) M _
  refine zH_if_eq hz rfl (fun hb => ?_) (fun hb => ?_)
  · have hE := hE.trans (if_pos hb)
    refine zH_blk (c' := (24, [zR 97, .inl a1, .inl a2], [.inl (-2)])) 1 hz rfl ?_
    exact zH_ret hz rfl rfl (hfinB hE)
  · have hE := hE.trans (if_neg hb)
    refine zH_blk (c' := (16, [zR 97, .inl a1, .inl a2], [.inl 1000, .inl 0, .inl a2])) 3 hz rfl ?_
    refine zH_callE hz zp_180 rfl rfl (fh_180 a2 0 1000) ?_
    show zH n (0, 0) 286 (19, [zR 97, .inl a1, .inl a2], [.inl (hf_180 M a2 0 1000)]) M _
    refine zH_if_ne hz rfl (fun hb => ?_) (fun hb => ?_)
    · have hE := hE.trans (if_pos hb)
      refine zH_blk (c' := (31, [zR 97, .inl a1, .inl a2], [.inl 6, zR 98])) 3 hz rfl ?_
      refine zH_iald hz rfl rfl (.inl rfl) (fun _ => ?_)
      show zH n (0, 0) 286 (32, [zR 97, .inl a1, .inl a2], [.inl (M 98 (6 : Int).toNat)]) M _
      refine zH_blk (c' := (34, [zR 97, .inl a1, .inl a2], [.inl 12, .inl (M 98 (6 : Int).toNat)])) 1 hz rfl ?_
      refine zH_icmp_ne hz rfl (fun hb => ?_) (fun hb => ?_)
      · have hE := hE.trans (if_pos hb)
        refine zH_blk (c' := (54, [zR 97, .inl a1, .inl a2], [.inl 6, zR 98, .inl 2, .inl 5640, zR 98])) 7 hz rfl ?_
        refine zH_iald hz rfl rfl (.inl rfl) (fun _ => ?_)
        show zH n (0, 0) 286 (55, [zR 97, .inl a1, .inl a2], [.inl (M 98 (6 : Int).toNat), .inl 2, .inl 5640, zR 98]) M _
        refine zH_blk (c' := (58, [zR 97, .inl a1, .inl a2], [.inl a1, .inl (w32 (5640 + (w32 (2 * (M 98 (6 : Int).toNat))))), zR 98])) 3 hz rfl ?_
        refine zH_iast hz rfl rfl (fun _ => ?_)
        show zH n (0, 0) 286 (59, [zR 97, .inl a1, .inl a2], []) (zput M 98 (w32 (5640 + (w32 (2 * (M 98 (6 : Int).toNat)))) : Int).toNat a1) _
        refine zH_blk (c' := (73, [zR 97, .inl a1, .inl a2], [.inl 6, zR 98, .inl 2, .inl 5640, zR 98])) 7 hz rfl ?_
        refine zH_iald hz rfl rfl (.inl rfl) (fun _ => ?_)
        show zH n (0, 0) 286 (74, [zR 97, .inl a1, .inl a2], [.inl ((zput M 98 (w32 (5640 + (w32 (2 * (M 98 (6 : Int).toNat)))) : Int).toNat a1) 98 (6 : Int).toNat), .inl 2, .inl 5640, zR 98]) (zput M 98 (w32 (5640 + (w32 (2 * (M 98 (6 : Int).toNat)))) : Int).toNat a1) _
        refine zH_blk (c' := (79, [zR 97, .inl a1, .inl a2], [.inl a2, .inl (w32 ((w32 (5640 + (w32 (2 * ((zput M 98 (w32 (5640 + (w32 (2 * (M 98 (6 : Int).toNat)))) : Int).toNat a1) 98 (6 : Int).toNat))))) + 1)), zR 98])) 5 hz rfl ?_
        refine zH_iast hz rfl rfl (fun _ => ?_)
        show zH n (0, 0) 286 (80, [zR 97, .inl a1, .inl a2], []) (zput (zput M 98 (w32 (5640 + (w32 (2 * (M 98 (6 : Int).toNat)))) : Int).toNat a1) 98 (w32 ((w32 (5640 + (w32 (2 * ((zput M 98 (w32 (5640 + (w32 (2 * (M 98 (6 : Int).toNat)))) : Int).toNat a1) 98 (6 : Int).toNat))))) + 1) : Int).toNat a2) _
        refine zH_blk (c' := (83, [zR 97, .inl a1, .inl a2], [.inl 6, zR 97])) 2 hz rfl ?_
        refine zH_callB hz zp_183 rfl rfl (fh_183_97 6) ?_
        intro u1 N2 hu1 hN2
        show zH n (0, 0) 286 (86, [zR 97, .inl a1, .inl a2], [.inl u1]) N2 _
        refine zH_blk (c' := (88, [zR 97, .inl a1, .inl a2], [.inl (w32 (u1 + 1))])) 2 hz rfl ?_
        subst hN2
        subst hu1
        exact zH_ret hz rfl rfl (hfinB hE)
      · have hE := hE.trans (if_neg hb)
        refine zH_blk (c' := (39, [zR 97, .inl a1, .inl a2], [.inl (-4)])) 1 hz rfl ?_
        exact zH_ret hz rfl rfl (hfinB hE)
    · have hE := hE.trans (if_neg hb)
      refine zH_blk (c' := (24, [zR 97, .inl a1, .inl a2], [.inl (-2)])) 1 hz rfl ?_
      exact zH_ret hz rfl rfl (hfinB hE)
noncomputable def hf_287_97 (M : zM) : Int × zM :=
  (M 98 (6 : Int).toNat, zput M 98 (6 : Int).toNat 0)
set_option maxRecDepth 100000 in
theorem fh_287_97 {n : Nat} {M : zM} : zH n (0, 0) 287 (0, zini [zR 97] 2, []) M (fun r M' => r = some (.inl (hf_287_97 M).1) ∧ M' = (hf_287_97 M).2) := by
  have hz := zp_287
  have hE : hf_287_97 M = hf_287_97 M := rfl
  show zH n (0, 0) 287 (0, [zR 97, zN], []) M _
  refine zH_blk (c' := (6, [zR 97, zN], [.inl 6, zR 98])) 3 hz rfl ?_
  refine zH_iald hz rfl rfl (.inl rfl) (fun _ => ?_)
  show zH n (0, 0) 287 (7, [zR 97, zN], [.inl (M 98 (6 : Int).toNat)]) M _
  refine zH_blk (c' := (15, [zR 97, .inl (M 98 (6 : Int).toNat)], [.inl 0, .inl 6, zR 98])) 5 hz rfl ?_
  refine zH_iast hz rfl rfl (fun _ => ?_)
  show zH n (0, 0) 287 (16, [zR 97, .inl (M 98 (6 : Int).toNat)], []) (zput M 98 (6 : Int).toNat 0) _
  refine zH_blk (c' := (17, [zR 97, .inl (M 98 (6 : Int).toNat)], [.inl (M 98 (6 : Int).toNat)])) 1 hz rfl ?_
  exact zH_ret hz rfl rfl (hfinB hE)
