noncomputable def hf_209_97 (M : zM) (a1 : Int) : Int × zM :=
  (if ¬ (hf_180 M a1 0 1000) = 0 then (M 98 (7 : Int).toNat, zput M 98 (7 : Int).toNat a1) else ((-2), M))
set_option maxRecDepth 100000 in
theorem fh_209_97 {n : Nat} {M : zM} (a1 : Int) : zH n (0, 0) 209 (0, zini [zR 97, .inl a1] 3, []) M (fun r M' => r = some (.inl (hf_209_97 M a1).1) ∧ M' = (hf_209_97 M a1).2) := by
  have hz := zp_209
  have hE : hf_209_97 M a1 = hf_209_97 M a1 := rfl
  show zH n (0, 0) 209 (0, [zR 97, .inl a1, zN], []) M _
  refine zH_blk (c' := (5, [zR 97, .inl a1, zN], [.inl 1000, .inl 0, .inl a1])) 3 hz rfl ?_
  refine zH_callE hz zp_180 rfl rfl (fh_180 a1 0 1000) ?_
  show zH n (0, 0) 209 (8, [zR 97, .inl a1, zN], [.inl (hf_180 M a1 0 1000)]) M _
  refine zH_if_ne hz rfl (fun hb => ?_) (fun hb => ?_)
  · have hE := hE.trans (if_pos hb)
    refine zH_blk (c' := (20, [zR 97, .inl a1, zN], [.inl 7, zR 98])) 3 hz rfl ?_
    refine zH_iald hz rfl rfl (.inl rfl) (fun _ => ?_)
    show zH n (0, 0) 209 (21, [zR 97, .inl a1, zN], [.inl (M 98 (7 : Int).toNat)]) M _
    refine zH_blk (c' := (29, [zR 97, .inl a1, .inl (M 98 (7 : Int).toNat)], [.inl a1, .inl 7, zR 98])) 5 hz rfl ?_
    refine zH_iast hz rfl rfl (fun _ => ?_)
    show zH n (0, 0) 209 (30, [zR 97, .inl a1, .inl (M 98 (7 : Int).toNat)], []) (zput M 98 (7 : Int).toNat a1) _
    refine zH_blk (c' := (31, [zR 97, .inl a1, .inl (M 98 (7 : Int).toNat)], [.inl (M 98 (7 : Int).toNat)])) 1 hz rfl ?_
    exact zH_ret hz rfl rfl (hfinB hE)
  · have hE := hE.trans (if_neg hb)
    refine zH_blk (c' := (13, [zR 97, .inl a1, zN], [.inl (-2)])) 1 hz rfl ?_
    exact zH_ret hz rfl rfl (hfinB hE)
noncomputable def hf_210_97 (M : zM) (a1 : Int) (a2 : Int) : Int :=
  (if (hf_182_97 M 4 a1) = 0 then (-2) else (if (hf_180 M a2 0 7) = 0 then (-2) else (hf_194_97 M a1 a2)))
set_option maxRecDepth 100000 in
theorem fh_210_97 {n : Nat} {M : zM} (a1 : Int) (a2 : Int) : zH n (0, 0) 210 (0, zini [zR 97, .inl a1, .inl a2] 3, []) M (fun r M' => r = some (.inl (hf_210_97 M a1 a2)) ∧ M' = M) := by
  have hz := zp_210
  have hE : hf_210_97 M a1 a2 = hf_210_97 M a1 a2 := rfl
  show zH n (0, 0) 210 (0, [zR 97, .inl a1, .inl a2], []) M _
  refine zH_blk (c' := (3, [zR 97, .inl a1, .inl a2], [.inl a1, .inl 4, zR 97])) 3 hz rfl ?_
  refine zH_callE hz zp_182 rfl rfl (fh_182_97 4 a1) ?_
  show zH n (0, 0) 210 (6, [zR 97, .inl a1, .inl a2], [.inl (hf_182_97 M 4 a1)]) M _
  refine zH_if_eq hz rfl (fun hb => ?_) (fun hb => ?_)
  · have hE := hE.trans (if_pos hb)
    refine zH_blk (c' := (30, [zR 97, .inl a1, .inl a2], [.inl (-2)])) 1 hz rfl ?_
    exact zH_ret hz rfl rfl (hfinP hE)
  · have hE := hE.trans (if_neg hb)
    refine zH_blk (c' := (13, [zR 97, .inl a1, .inl a2], [.inl 7, .inl 0, .inl a2])) 3 hz rfl ?_
    refine zH_callE hz zp_180 rfl rfl (fh_180 a2 0 7) ?_
    show zH n (0, 0) 210 (16, [zR 97, .inl a1, .inl a2], [.inl (hf_180 M a2 0 7)]) M _
    refine zH_if_eq hz rfl (fun hb => ?_) (fun hb => ?_)
    · have hE := hE.trans (if_pos hb)
      refine zH_blk (c' := (30, [zR 97, .inl a1, .inl a2], [.inl (-2)])) 1 hz rfl ?_
      exact zH_ret hz rfl rfl (hfinP hE)
    · have hE := hE.trans (if_neg hb)
      refine zH_blk (c' := (22, [zR 97, .inl a1, .inl a2], [.inl a2, .inl a1, zR 97])) 3 hz rfl ?_
      refine zH_callE hz zp_194 rfl rfl (fh_194_97 a1 a2) ?_
      show zH n (0, 0) 210 (25, [zR 97, .inl a1, .inl a2], [.inl (hf_194_97 M a1 a2)]) M _
      refine zH_blk (c' := (30, [zR 97, .inl a1, .inl a2], [.inl (hf_194_97 M a1 a2)])) 1 hz rfl ?_
      exact zH_ret hz rfl rfl (hfinP hE)
noncomputable def hf_252 (M : zM) (a0 : Int) : Int :=
  (hf_180 M a0 0 7)
set_option maxRecDepth 100000 in
theorem fh_252 {n : Nat} {M : zM} (a0 : Int) : zH n (0, 0) 252 (0, zini [.inl a0] 1, []) M (fun r M' => r = some (.inl (hf_252 M a0)) ∧ M' = M) := by
  have hz := zp_252
  have hE : hf_252 M a0 = hf_252 M a0 := rfl
  show zH n (0, 0) 252 (0, [.inl a0], []) M _
  refine zH_blk (c' := (4, [.inl a0], [.inl 7, .inl 0, .inl a0])) 3 hz rfl ?_
  refine zH_callE hz zp_180 rfl rfl (fh_180 a0 0 7) ?_
  show zH n (0, 0) 252 (7, [.inl a0], [.inl (hf_180 M a0 0 7)]) M _
  exact zH_zret hz rfl (hfinP hE)
noncomputable def hf_253_97 (M : zM) (a1 : Int) (a2 : Int) : Int × zM :=
  (if (hf_252 M a1) = 0 then ((-2), M) else (if ¬ (hf_180 M a2 0 127) = 0 then (if ¬ (M 98 (w32 (3350 + (w32 (81 * a1))) : Int).toNat) = 80 then ((zput (zput M 98 (w32 (3350 + (w32 (81 * a1))) : Int).toNat (w32 ((M 98 (w32 (3350 + (w32 (81 * a1))) : Int).toNat) + 1))) 98 (w32 ((w32 (3350 + (w32 (81 * a1)))) + ((zput M 98 (w32 (3350 + (w32 (81 * a1))) : Int).toNat (w32 ((M 98 (w32 (3350 + (w32 (81 * a1))) : Int).toNat) + 1))) 98 (w32 (3350 + (w32 (81 * a1))) : Int).toNat)) : Int).toNat a2) 98 (w32 (3350 + (w32 (81 * a1))) : Int).toNat, zput (zput M 98 (w32 (3350 + (w32 (81 * a1))) : Int).toNat (w32 ((M 98 (w32 (3350 + (w32 (81 * a1))) : Int).toNat) + 1))) 98 (w32 ((w32 (3350 + (w32 (81 * a1)))) + ((zput M 98 (w32 (3350 + (w32 (81 * a1))) : Int).toNat (w32 ((M 98 (w32 (3350 + (w32 (81 * a1))) : Int).toNat) + 1))) 98 (w32 (3350 + (w32 (81 * a1))) : Int).toNat)) : Int).toNat a2) else ((-4), M)) else ((-2), M)))
set_option maxRecDepth 100000 in
theorem fh_253_97 {n : Nat} {M : zM} (a1 : Int) (a2 : Int) : zH n (0, 0) 253 (0, zini [zR 97, .inl a1, .inl a2] 4, []) M (fun r M' => r = some (.inl (hf_253_97 M a1 a2).1) ∧ M' = (hf_253_97 M a1 a2).2) := by
  have hz := zp_253
  have hE : hf_253_97 M a1 a2 = hf_253_97 M a1 a2 := rfl
  show zH n (0, 0) 253 (0, [zR 97, .inl a1, .inl a2, zN], []) M _
  refine zH_blk (c' := (1, [zR 97, .inl a1, .inl a2, zN], [.inl a1])) 1 hz rfl ?_
  refine zH_callE hz zp_252 rfl rfl (fh_252 a1) ?_
  show zH n (0, 0) 253 (4, [zR 97, .inl a1, .inl a2, zN], [.inl (hf_252 M a1)]) M _
  refine zH_if_eq hz rfl (fun hb => ?_) (fun hb => ?_)
  · have hE := hE.trans (if_pos hb)
    refine zH_blk (c' := (19, [zR 97, .inl a1, .inl a2, zN], [.inl (-2)])) 1 hz rfl ?_
    exact zH_ret hz rfl rfl (hfinB hE)
  · have hE := hE.trans (if_neg hb)
    refine zH_blk (c' := (11, [zR 97, .inl a1, .inl a2, zN], [.inl 127, .inl 0, .inl a2])) 3 hz rfl ?_
    refine zH_callE hz zp_180 rfl rfl (fh_180 a2 0 127) ?_
    show zH n (0, 0) 253 (14, [zR 97, .inl a1, .inl a2, zN], [.inl (hf_180 M a2 0 127)]) M _
    refine zH_if_ne hz rfl (fun hb => ?_) (fun hb => ?_)
    · have hE := hE.trans (if_pos hb)
      refine zH_blk (c' := (34, [zR 97, .inl a1, .inl a2, .inl (w32 (3350 + (w32 (81 * a1))))], [.inl (w32 (3350 + (w32 (81 * a1)))), zR 98])) 9 hz rfl ?_
      refine zH_iald hz rfl rfl (.inl rfl) (fun _ => ?_)
      show zH n (0, 0) 253 (35, [zR 97, .inl a1, .inl a2, .inl (w32 (3350 + (w32 (81 * a1))))], [.inl (M 98 (w32 (3350 + (w32 (81 * a1))) : Int).toNat)]) M _
      refine zH_blk (c' := (37, [zR 97, .inl a1, .inl a2, .inl (w32 (3350 + (w32 (81 * a1))))], [.inl 80, .inl (M 98 (w32 (3350 + (w32 (81 * a1))) : Int).toNat)])) 1 hz rfl ?_
      refine zH_icmp_ne hz rfl (fun hb => ?_) (fun hb => ?_)
      · have hE := hE.trans (if_pos hb)
        refine zH_blk (c' := (49, [zR 97, .inl a1, .inl a2, .inl (w32 (3350 + (w32 (81 * a1))))], [.inl (w32 (3350 + (w32 (81 * a1)))), zR 98, .inl (w32 (3350 + (w32 (81 * a1)))), zR 98])) 4 hz rfl ?_
        refine zH_iald hz rfl rfl (.inl rfl) (fun _ => ?_)
        show zH n (0, 0) 253 (50, [zR 97, .inl a1, .inl a2, .inl (w32 (3350 + (w32 (81 * a1))))], [.inl (M 98 (w32 (3350 + (w32 (81 * a1))) : Int).toNat), .inl (w32 (3350 + (w32 (81 * a1)))), zR 98]) M _
        refine zH_blk (c' := (52, [zR 97, .inl a1, .inl a2, .inl (w32 (3350 + (w32 (81 * a1))))], [.inl (w32 ((M 98 (w32 (3350 + (w32 (81 * a1))) : Int).toNat) + 1)), .inl (w32 (3350 + (w32 (81 * a1)))), zR 98])) 2 hz rfl ?_
        refine zH_iast hz rfl rfl (fun _ => ?_)
        show zH n (0, 0) 253 (53, [zR 97, .inl a1, .inl a2, .inl (w32 (3350 + (w32 (81 * a1))))], []) (zput M 98 (w32 (3350 + (w32 (81 * a1))) : Int).toNat (w32 ((M 98 (w32 (3350 + (w32 (81 * a1))) : Int).toNat) + 1))) _
        refine zH_blk (c' := (63, [zR 97, .inl a1, .inl a2, .inl (w32 (3350 + (w32 (81 * a1))))], [.inl (w32 (3350 + (w32 (81 * a1)))), zR 98, .inl (w32 (3350 + (w32 (81 * a1)))), zR 98])) 6 hz rfl ?_
        refine zH_iald hz rfl rfl (.inl rfl) (fun _ => ?_)
        show zH n (0, 0) 253 (64, [zR 97, .inl a1, .inl a2, .inl (w32 (3350 + (w32 (81 * a1))))], [.inl ((zput M 98 (w32 (3350 + (w32 (81 * a1))) : Int).toNat (w32 ((M 98 (w32 (3350 + (w32 (81 * a1))) : Int).toNat) + 1))) 98 (w32 (3350 + (w32 (81 * a1))) : Int).toNat), .inl (w32 (3350 + (w32 (81 * a1)))), zR 98]) (zput M 98 (w32 (3350 + (w32 (81 * a1))) : Int).toNat (w32 ((M 98 (w32 (3350 + (w32 (81 * a1))) : Int).toNat) + 1))) _
        refine zH_blk (c' := (66, [zR 97, .inl a1, .inl a2, .inl (w32 (3350 + (w32 (81 * a1))))], [.inl a2, .inl (w32 ((w32 (3350 + (w32 (81 * a1)))) + ((zput M 98 (w32 (3350 + (w32 (81 * a1))) : Int).toNat (w32 ((M 98 (w32 (3350 + (w32 (81 * a1))) : Int).toNat) + 1))) 98 (w32 (3350 + (w32 (81 * a1))) : Int).toNat))), zR 98])) 2 hz rfl ?_
        refine zH_iast hz rfl rfl (fun _ => ?_)
        show zH n (0, 0) 253 (67, [zR 97, .inl a1, .inl a2, .inl (w32 (3350 + (w32 (81 * a1))))], []) (zput (zput M 98 (w32 (3350 + (w32 (81 * a1))) : Int).toNat (w32 ((M 98 (w32 (3350 + (w32 (81 * a1))) : Int).toNat) + 1))) 98 (w32 ((w32 (3350 + (w32 (81 * a1)))) + ((zput M 98 (w32 (3350 + (w32 (81 * a1))) : Int).toNat (w32 ((M 98 (w32 (3350 + (w32 (81 * a1))) : Int).toNat) + 1))) 98 (w32 (3350 + (w32 (81 * a1))) : Int).toNat)) : Int).toNat a2) _
        refine zH_blk (c' := (72, [zR 97, .inl a1, .inl a2, .inl (w32 (3350 + (w32 (81 * a1))))], [.inl (w32 (3350 + (w32 (81 * a1)))), zR 98])) 3 hz rfl ?_
        refine zH_iald hz rfl rfl (.inl rfl) (fun _ => ?_)
        show zH n (0, 0) 253 (73, [zR 97, .inl a1, .inl a2, .inl (w32 (3350 + (w32 (81 * a1))))], [.inl ((zput (zput M 98 (w32 (3350 + (w32 (81 * a1))) : Int).toNat (w32 ((M 98 (w32 (3350 + (w32 (81 * a1))) : Int).toNat) + 1))) 98 (w32 ((w32 (3350 + (w32 (81 * a1)))) + ((zput M 98 (w32 (3350 + (w32 (81 * a1))) : Int).toNat (w32 ((M 98 (w32 (3350 + (w32 (81 * a1))) : Int).toNat) + 1))) 98 (w32 (3350 + (w32 (81 * a1))) : Int).toNat)) : Int).toNat a2) 98 (w32 (3350 + (w32 (81 * a1))) : Int).toNat)]) (zput (zput M 98 (w32 (3350 + (w32 (81 * a1))) : Int).toNat (w32 ((M 98 (w32 (3350 + (w32 (81 * a1))) : Int).toNat) + 1))) 98 (w32 ((w32 (3350 + (w32 (81 * a1)))) + ((zput M 98 (w32 (3350 + (w32 (81 * a1))) : Int).toNat (w32 ((M 98 (w32 (3350 + (w32 (81 * a1))) : Int).toNat) + 1))) 98 (w32 (3350 + (w32 (81 * a1))) : Int).toNat)) : Int).toNat a2) _
        exact zH_ret hz rfl rfl (hfinB hE)
      · have hE := hE.trans (if_neg hb)
        refine zH_blk (c' := (42, [zR 97, .inl a1, .inl a2, .inl (w32 (3350 + (w32 (81 * a1))))], [.inl (-4)])) 1 hz rfl ?_
        exact zH_ret hz rfl rfl (hfinB hE)
    · have hE := hE.trans (if_neg hb)
      refine zH_blk (c' := (19, [zR 97, .inl a1, .inl a2, zN], [.inl (-2)])) 1 hz rfl ?_
      exact zH_ret hz rfl rfl (hfinB hE)
noncomputable def hf_254_97 (M : zM) (a1 : Int) : Int × zM :=
  (if ¬ (hf_252 M a1) = 0 then (M 98 (w32 (3350 + (w32 (81 * a1))) : Int).toNat, zput M 98 (w32 (3350 + (w32 (81 * a1))) : Int).toNat 0) else ((-2), M))
set_option maxRecDepth 100000 in
theorem fh_254_97 {n : Nat} {M : zM} (a1 : Int) : zH n (0, 0) 254 (0, zini [zR 97, .inl a1] 3, []) M (fun r M' => r = some (.inl (hf_254_97 M a1).1) ∧ M' = (hf_254_97 M a1).2) := by
  have hz := zp_254
  have hE : hf_254_97 M a1 = hf_254_97 M a1 := rfl
  show zH n (0, 0) 254 (0, [zR 97, .inl a1, zN], []) M _
  refine zH_blk (c' := (1, [zR 97, .inl a1, zN], [.inl a1])) 1 hz rfl ?_
  refine zH_callE hz zp_252 rfl rfl (fh_252 a1) ?_
  show zH n (0, 0) 254 (4, [zR 97, .inl a1, zN], [.inl (hf_252 M a1)]) M _
  refine zH_if_ne hz rfl (fun hb => ?_) (fun hb => ?_)
  · have hE := hE.trans (if_pos hb)
    refine zH_blk (c' := (22, [zR 97, .inl a1, zN], [.inl (w32 (3350 + (w32 (81 * a1)))), zR 98])) 7 hz rfl ?_
    refine zH_iald hz rfl rfl (.inl rfl) (fun _ => ?_)
    show zH n (0, 0) 254 (23, [zR 97, .inl a1, zN], [.inl (M 98 (w32 (3350 + (w32 (81 * a1))) : Int).toNat)]) M _
    refine zH_blk (c' := (37, [zR 97, .inl a1, .inl (M 98 (w32 (3350 + (w32 (81 * a1))) : Int).toNat)], [.inl 0, .inl (w32 (3350 + (w32 (81 * a1)))), zR 98])) 9 hz rfl ?_
    refine zH_iast hz rfl rfl (fun _ => ?_)
    show zH n (0, 0) 254 (38, [zR 97, .inl a1, .inl (M 98 (w32 (3350 + (w32 (81 * a1))) : Int).toNat)], []) (zput M 98 (w32 (3350 + (w32 (81 * a1))) : Int).toNat 0) _
    refine zH_blk (c' := (39, [zR 97, .inl a1, .inl (M 98 (w32 (3350 + (w32 (81 * a1))) : Int).toNat)], [.inl (M 98 (w32 (3350 + (w32 (81 * a1))) : Int).toNat)])) 1 hz rfl ?_
    exact zH_ret hz rfl rfl (hfinB hE)
  · have hE := hE.trans (if_neg hb)
    refine zH_blk (c' := (9, [zR 97, .inl a1, zN], [.inl (-2)])) 1 hz rfl ?_
    exact zH_ret hz rfl rfl (hfinB hE)
noncomputable def hf_258_97 (M : zM) (a1 : Int) (a2 : Int) : Int × zM :=
  (if (hf_182_97 M 1 a1) = 0 then ((-10), M) else (if a2 = (-1) then (M 98 (w32 ((w32 (80 + (w32 (3 * a1)))) + 1) : Int).toNat, zput M 98 (w32 ((w32 (80 + (w32 (3 * a1)))) + 1) : Int).toNat a2) else (if ¬ (hf_182_97 M 5 a2) = 0 then (M 98 (w32 ((w32 (80 + (w32 (3 * a1)))) + 1) : Int).toNat, zput M 98 (w32 ((w32 (80 + (w32 (3 * a1)))) + 1) : Int).toNat a2) else ((-10), M))))
set_option maxRecDepth 100000 in
theorem fh_258_97 {n : Nat} {M : zM} (a1 : Int) (a2 : Int) : zH n (0, 0) 258 (0, zini [zR 97, .inl a1, .inl a2] 4, []) M (fun r M' => r = some (.inl (hf_258_97 M a1 a2).1) ∧ M' = (hf_258_97 M a1 a2).2) := by
  have hz := zp_258
  have hE : hf_258_97 M a1 a2 = hf_258_97 M a1 a2 := rfl
  show zH n (0, 0) 258 (0, [zR 97, .inl a1, .inl a2, zN], []) M _
  refine zH_blk (c' := (3, [zR 97, .inl a1, .inl a2, zN], [.inl a1, .inl 1, zR 97])) 3 hz rfl ?_
  refine zH_callE hz zp_182 rfl rfl (fh_182_97 1 a1) ?_
  show zH n (0, 0) 258 (6, [zR 97, .inl a1, .inl a2, zN], [.inl (hf_182_97 M 1 a1)]) M _
  refine zH_if_eq hz rfl (fun hb => ?_) (fun hb => ?_)
  · have hE := hE.trans (if_pos hb)
    refine zH_blk (c' := (25, [zR 97, .inl a1, .inl a2, zN], [.inl (-10)])) 1 hz rfl ?_
    exact zH_ret hz rfl rfl (hfinB hE)
  · have hE := hE.trans (if_neg hb)
    refine zH_blk (c' := (11, [zR 97, .inl a1, .inl a2, zN], [.inl (-1), .inl a2])) 2 hz rfl ?_
    refine zH_icmp_eq hz rfl (fun hb => ?_) (fun hb => ?_)
    · have hE := hE.trans (if_pos hb)
      refine zH_blk (c' := (38, [zR 97, .inl a1, .inl a2, zN], [.inl (w32 ((w32 (80 + (w32 (3 * a1)))) + 1)), zR 98])) 9 hz rfl ?_
      refine zH_iald hz rfl rfl (.inl rfl) (fun _ => ?_)
      show zH n (0, 0) 258 (39, [zR 97, .inl a1, .inl a2, zN], [.inl (M 98 (w32 ((w32 (80 + (w32 (3 * a1)))) + 1) : Int).toNat)]) M _
      refine zH_blk (c' := (53, [zR 97, .inl a1, .inl a2, .inl (M 98 (w32 ((w32 (80 + (w32 (3 * a1)))) + 1) : Int).toNat)], [.inl a2, .inl (w32 ((w32 (80 + (w32 (3 * a1)))) + 1)), zR 98])) 11 hz rfl ?_
      refine zH_iast hz rfl rfl (fun _ => ?_)
      show zH n (0, 0) 258 (54, [zR 97, .inl a1, .inl a2, .inl (M 98 (w32 ((w32 (80 + (w32 (3 * a1)))) + 1) : Int).toNat)], []) (zput M 98 (w32 ((w32 (80 + (w32 (3 * a1)))) + 1) : Int).toNat a2) _
      refine zH_blk (c' := (55, [zR 97, .inl a1, .inl a2, .inl (M 98 (w32 ((w32 (80 + (w32 (3 * a1)))) + 1) : Int).toNat)], [.inl (M 98 (w32 ((w32 (80 + (w32 (3 * a1)))) + 1) : Int).toNat)])) 1 hz rfl ?_
      exact zH_ret hz rfl rfl (hfinB hE)
    · have hE := hE.trans (if_neg hb)
      refine zH_blk (c' := (17, [zR 97, .inl a1, .inl a2, zN], [.inl a2, .inl 5, zR 97])) 3 hz rfl ?_
      refine zH_callE hz zp_182 rfl rfl (fh_182_97 5 a2) ?_
      show zH n (0, 0) 258 (20, [zR 97, .inl a1, .inl a2, zN], [.inl (hf_182_97 M 5 a2)]) M _
      refine zH_if_ne hz rfl (fun hb => ?_) (fun hb => ?_)
      · have hE := hE.trans (if_pos hb)
        refine zH_blk (c' := (38, [zR 97, .inl a1, .inl a2, zN], [.inl (w32 ((w32 (80 + (w32 (3 * a1)))) + 1)), zR 98])) 9 hz rfl ?_
        refine zH_iald hz rfl rfl (.inl rfl) (fun _ => ?_)
        show zH n (0, 0) 258 (39, [zR 97, .inl a1, .inl a2, zN], [.inl (M 98 (w32 ((w32 (80 + (w32 (3 * a1)))) + 1) : Int).toNat)]) M _
        refine zH_blk (c' := (53, [zR 97, .inl a1, .inl a2, .inl (M 98 (w32 ((w32 (80 + (w32 (3 * a1)))) + 1) : Int).toNat)], [.inl a2, .inl (w32 ((w32 (80 + (w32 (3 * a1)))) + 1)), zR 98])) 11 hz rfl ?_
        refine zH_iast hz rfl rfl (fun _ => ?_)
        show zH n (0, 0) 258 (54, [zR 97, .inl a1, .inl a2, .inl (M 98 (w32 ((w32 (80 + (w32 (3 * a1)))) + 1) : Int).toNat)], []) (zput M 98 (w32 ((w32 (80 + (w32 (3 * a1)))) + 1) : Int).toNat a2) _
        refine zH_blk (c' := (55, [zR 97, .inl a1, .inl a2, .inl (M 98 (w32 ((w32 (80 + (w32 (3 * a1)))) + 1) : Int).toNat)], [.inl (M 98 (w32 ((w32 (80 + (w32 (3 * a1)))) + 1) : Int).toNat)])) 1 hz rfl ?_
        exact zH_ret hz rfl rfl (hfinB hE)
      · have hE := hE.trans (if_neg hb)
        refine zH_blk (c' := (25, [zR 97, .inl a1, .inl a2, zN], [.inl (-10)])) 1 hz rfl ?_
        exact zH_ret hz rfl rfl (hfinB hE)
noncomputable def hf_271_97 (M : zM) (a1 : Int) (a2 : Int) (a3 : Int) : Int × zM :=
  (if (hf_182_97 M 1 a1) = 0 then ((-2), M) else (if ¬ (hf_182_97 M 0 a2) = 0 then (if ¬ (zband (zbshr (M 98 (w32 ((w32 (80 + (w32 (3 * a1)))) + 2) : Int).toNat) a2) 1) = 1 then (if ¬ 0 = a3 then (if a3 = 0 then (1, zput M 98 (w32 ((w32 (80 + (w32 (3 * a1)))) + 2) : Int).toNat (zband (M 98 (w32 ((w32 (80 + (w32 (3 * a1)))) + 2) : Int).toNat) (zbxor (zbshl 1 a2) (-1)))) else (1, zput M 98 (w32 ((w32 (80 + (w32 (3 * a1)))) + 2) : Int).toNat (zbor (M 98 (w32 ((w32 (80 + (w32 (3 * a1)))) + 2) : Int).toNat) (zbshl 1 a2)))) else ((-3), M)) else (if ¬ 1 = a3 then (if a3 = 0 then (1, zput M 98 (w32 ((w32 (80 + (w32 (3 * a1)))) + 2) : Int).toNat (zband (M 98 (w32 ((w32 (80 + (w32 (3 * a1)))) + 2) : Int).toNat) (zbxor (zbshl 1 a2) (-1)))) else (1, zput M 98 (w32 ((w32 (80 + (w32 (3 * a1)))) + 2) : Int).toNat (zbor (M 98 (w32 ((w32 (80 + (w32 (3 * a1)))) + 2) : Int).toNat) (zbshl 1 a2)))) else ((-3), M))) else ((-2), M)))
set_option maxRecDepth 100000 in
theorem fh_271_97 {n : Nat} {M : zM} (a1 : Int) (a2 : Int) (a3 : Int) : zH n (0, 0) 271 (0, zini [zR 97, .inl a1, .inl a2, .inl a3] 5, []) M (fun r M' => r = some (.inl (hf_271_97 M a1 a2 a3).1) ∧ M' = (hf_271_97 M a1 a2 a3).2) := by
  have hz := zp_271
  have hE : hf_271_97 M a1 a2 a3 = hf_271_97 M a1 a2 a3 := rfl
  show zH n (0, 0) 271 (0, [zR 97, .inl a1, .inl a2, .inl a3, zN], []) M _
  refine zH_blk (c' := (3, [zR 97, .inl a1, .inl a2, .inl a3, zN], [.inl a1, .inl 1, zR 97])) 3 hz rfl ?_
  refine zH_callE hz zp_182 rfl rfl (fh_182_97 1 a1) ?_
  show zH n (0, 0) 271 (6, [zR 97, .inl a1, .inl a2, .inl a3, zN], [.inl (hf_182_97 M 1 a1)]) M _
  refine zH_if_eq hz rfl (fun hb => ?_) (fun hb => ?_)
  · have hE := hE.trans (if_pos hb)
    refine zH_blk (c' := (20, [zR 97, .inl a1, .inl a2, .inl a3, zN], [.inl (-2)])) 1 hz rfl ?_
    exact zH_ret hz rfl rfl (hfinB hE)
  · have hE := hE.trans (if_neg hb)
    refine zH_blk (c' := (12, [zR 97, .inl a1, .inl a2, .inl a3, zN], [.inl a2, .inl 0, zR 97])) 3 hz rfl ?_
    refine zH_callE hz zp_182 rfl rfl (fh_182_97 0 a2) ?_
    show zH n (0, 0) 271 (15, [zR 97, .inl a1, .inl a2, .inl a3, zN], [.inl (hf_182_97 M 0 a2)]) M _
    refine zH_if_ne hz rfl (fun hb => ?_) (fun hb => ?_)
    · have hE := hE.trans (if_pos hb)
      refine zH_blk (c' := (37, [zR 97, .inl a1, .inl a2, .inl a3, .inl (w32 ((w32 (80 + (w32 (3 * a1)))) + 2))], [.inl (w32 ((w32 (80 + (w32 (3 * a1)))) + 2)), zR 98])) 11 hz rfl ?_
      refine zH_iald hz rfl rfl (.inl rfl) (fun _ => ?_)
      show zH n (0, 0) 271 (38, [zR 97, .inl a1, .inl a2, .inl a3, .inl (w32 ((w32 (80 + (w32 (3 * a1)))) + 2))], [.inl (M 98 (w32 ((w32 (80 + (w32 (3 * a1)))) + 2) : Int).toNat)]) M _
      refine zH_blk (c' := (43, [zR 97, .inl a1, .inl a2, .inl a3, .inl (w32 ((w32 (80 + (w32 (3 * a1)))) + 2))], [.inl 1, .inl (zband (zbshr (M 98 (w32 ((w32 (80 + (w32 (3 * a1)))) + 2) : Int).toNat) a2) 1)])) 5 hz rfl ?_
      refine zH_icmp_ne hz rfl (fun hb => ?_) (fun hb => ?_)
      · have hE := hE.trans (if_pos hb)
        refine zH_blk (c' := (52, [zR 97, .inl a1, .inl a2, .inl a3, .inl (w32 ((w32 (80 + (w32 (3 * a1)))) + 2))], [.inl a3, .inl 0])) 2 hz rfl ?_
        refine zH_icmp_ne hz rfl (fun hb => ?_) (fun hb => ?_)
        · have hE := hE.trans (if_pos hb)
          refine zH_blk (c' := (65, [zR 97, .inl a1, .inl a2, .inl a3, .inl (w32 ((w32 (80 + (w32 (3 * a1)))) + 2))], [.inl a3, .inl (w32 ((w32 (80 + (w32 (3 * a1)))) + 2)), zR 98])) 4 hz rfl ?_
          refine zH_if_eq hz rfl (fun hb => ?_) (fun hb => ?_)
          · have hE := hE.trans (if_pos hb)
            refine zH_blk (c' := (88, [zR 97, .inl a1, .inl a2, .inl a3, .inl (w32 ((w32 (80 + (w32 (3 * a1)))) + 2))], [.inl (w32 ((w32 (80 + (w32 (3 * a1)))) + 2)), zR 98, .inl (w32 ((w32 (80 + (w32 (3 * a1)))) + 2)), zR 98])) 3 hz rfl ?_
            refine zH_iald hz rfl rfl (.inl rfl) (fun _ => ?_)
            show zH n (0, 0) 271 (89, [zR 97, .inl a1, .inl a2, .inl a3, .inl (w32 ((w32 (80 + (w32 (3 * a1)))) + 2))], [.inl (M 98 (w32 ((w32 (80 + (w32 (3 * a1)))) + 2) : Int).toNat), .inl (w32 ((w32 (80 + (w32 (3 * a1)))) + 2)), zR 98]) M _
            refine zH_blk (c' := (95, [zR 97, .inl a1, .inl a2, .inl a3, .inl (w32 ((w32 (80 + (w32 (3 * a1)))) + 2))], [.inl (zband (M 98 (w32 ((w32 (80 + (w32 (3 * a1)))) + 2) : Int).toNat) (zbxor (zbshl 1 a2) (-1))), .inl (w32 ((w32 (80 + (w32 (3 * a1)))) + 2)), zR 98])) 6 hz rfl ?_
            refine zH_iast hz rfl rfl (fun _ => ?_)
            show zH n (0, 0) 271 (96, [zR 97, .inl a1, .inl a2, .inl a3, .inl (w32 ((w32 (80 + (w32 (3 * a1)))) + 2))], []) (zput M 98 (w32 ((w32 (80 + (w32 (3 * a1)))) + 2) : Int).toNat (zband (M 98 (w32 ((w32 (80 + (w32 (3 * a1)))) + 2) : Int).toNat) (zbxor (zbshl 1 a2) (-1)))) _
            refine zH_blk (c' := (97, [zR 97, .inl a1, .inl a2, .inl a3, .inl (w32 ((w32 (80 + (w32 (3 * a1)))) + 2))], [.inl 1])) 1 hz rfl ?_
            exact zH_ret hz rfl rfl (hfinB hE)
          · have hE := hE.trans (if_neg hb)
            refine zH_blk (c' := (74, [zR 97, .inl a1, .inl a2, .inl a3, .inl (w32 ((w32 (80 + (w32 (3 * a1)))) + 2))], [.inl (w32 ((w32 (80 + (w32 (3 * a1)))) + 2)), zR 98, .inl (w32 ((w32 (80 + (w32 (3 * a1)))) + 2)), zR 98])) 3 hz rfl ?_
            refine zH_iald hz rfl rfl (.inl rfl) (fun _ => ?_)
            show zH n (0, 0) 271 (75, [zR 97, .inl a1, .inl a2, .inl a3, .inl (w32 ((w32 (80 + (w32 (3 * a1)))) + 2))], [.inl (M 98 (w32 ((w32 (80 + (w32 (3 * a1)))) + 2) : Int).toNat), .inl (w32 ((w32 (80 + (w32 (3 * a1)))) + 2)), zR 98]) M _
            refine zH_blk (c' := (95, [zR 97, .inl a1, .inl a2, .inl a3, .inl (w32 ((w32 (80 + (w32 (3 * a1)))) + 2))], [.inl (zbor (M 98 (w32 ((w32 (80 + (w32 (3 * a1)))) + 2) : Int).toNat) (zbshl 1 a2)), .inl (w32 ((w32 (80 + (w32 (3 * a1)))) + 2)), zR 98])) 5 hz rfl ?_
            refine zH_iast hz rfl rfl (fun _ => ?_)
            show zH n (0, 0) 271 (96, [zR 97, .inl a1, .inl a2, .inl a3, .inl (w32 ((w32 (80 + (w32 (3 * a1)))) + 2))], []) (zput M 98 (w32 ((w32 (80 + (w32 (3 * a1)))) + 2) : Int).toNat (zbor (M 98 (w32 ((w32 (80 + (w32 (3 * a1)))) + 2) : Int).toNat) (zbshl 1 a2))) _
            refine zH_blk (c' := (97, [zR 97, .inl a1, .inl a2, .inl a3, .inl (w32 ((w32 (80 + (w32 (3 * a1)))) + 2))], [.inl 1])) 1 hz rfl ?_
            exact zH_ret hz rfl rfl (hfinB hE)
        · have hE := hE.trans (if_neg hb)
          refine zH_blk (c' := (57, [zR 97, .inl a1, .inl a2, .inl a3, .inl (w32 ((w32 (80 + (w32 (3 * a1)))) + 2))], [.inl (-3)])) 1 hz rfl ?_
          exact zH_ret hz rfl rfl (hfinB hE)
      · have hE := hE.trans (if_neg hb)
        refine zH_blk (c' := (52, [zR 97, .inl a1, .inl a2, .inl a3, .inl (w32 ((w32 (80 + (w32 (3 * a1)))) + 2))], [.inl a3, .inl 1])) 3 hz rfl ?_
        refine zH_icmp_ne hz rfl (fun hb => ?_) (fun hb => ?_)
        · have hE := hE.trans (if_pos hb)
          refine zH_blk (c' := (65, [zR 97, .inl a1, .inl a2, .inl a3, .inl (w32 ((w32 (80 + (w32 (3 * a1)))) + 2))], [.inl a3, .inl (w32 ((w32 (80 + (w32 (3 * a1)))) + 2)), zR 98])) 4 hz rfl ?_
          refine zH_if_eq hz rfl (fun hb => ?_) (fun hb => ?_)
          · have hE := hE.trans (if_pos hb)
            refine zH_blk (c' := (88, [zR 97, .inl a1, .inl a2, .inl a3, .inl (w32 ((w32 (80 + (w32 (3 * a1)))) + 2))], [.inl (w32 ((w32 (80 + (w32 (3 * a1)))) + 2)), zR 98, .inl (w32 ((w32 (80 + (w32 (3 * a1)))) + 2)), zR 98])) 3 hz rfl ?_
            refine zH_iald hz rfl rfl (.inl rfl) (fun _ => ?_)
            show zH n (0, 0) 271 (89, [zR 97, .inl a1, .inl a2, .inl a3, .inl (w32 ((w32 (80 + (w32 (3 * a1)))) + 2))], [.inl (M 98 (w32 ((w32 (80 + (w32 (3 * a1)))) + 2) : Int).toNat), .inl (w32 ((w32 (80 + (w32 (3 * a1)))) + 2)), zR 98]) M _
            refine zH_blk (c' := (95, [zR 97, .inl a1, .inl a2, .inl a3, .inl (w32 ((w32 (80 + (w32 (3 * a1)))) + 2))], [.inl (zband (M 98 (w32 ((w32 (80 + (w32 (3 * a1)))) + 2) : Int).toNat) (zbxor (zbshl 1 a2) (-1))), .inl (w32 ((w32 (80 + (w32 (3 * a1)))) + 2)), zR 98])) 6 hz rfl ?_
            refine zH_iast hz rfl rfl (fun _ => ?_)
            show zH n (0, 0) 271 (96, [zR 97, .inl a1, .inl a2, .inl a3, .inl (w32 ((w32 (80 + (w32 (3 * a1)))) + 2))], []) (zput M 98 (w32 ((w32 (80 + (w32 (3 * a1)))) + 2) : Int).toNat (zband (M 98 (w32 ((w32 (80 + (w32 (3 * a1)))) + 2) : Int).toNat) (zbxor (zbshl 1 a2) (-1)))) _
            refine zH_blk (c' := (97, [zR 97, .inl a1, .inl a2, .inl a3, .inl (w32 ((w32 (80 + (w32 (3 * a1)))) + 2))], [.inl 1])) 1 hz rfl ?_
            exact zH_ret hz rfl rfl (hfinB hE)
          · have hE := hE.trans (if_neg hb)
            refine zH_blk (c' := (74, [zR 97, .inl a1, .inl a2, .inl a3, .inl (w32 ((w32 (80 + (w32 (3 * a1)))) + 2))], [.inl (w32 ((w32 (80 + (w32 (3 * a1)))) + 2)), zR 98, .inl (w32 ((w32 (80 + (w32 (3 * a1)))) + 2)), zR 98])) 3 hz rfl ?_
            refine zH_iald hz rfl rfl (.inl rfl) (fun _ => ?_)
            show zH n (0, 0) 271 (75, [zR 97, .inl a1, .inl a2, .inl a3, .inl (w32 ((w32 (80 + (w32 (3 * a1)))) + 2))], [.inl (M 98 (w32 ((w32 (80 + (w32 (3 * a1)))) + 2) : Int).toNat), .inl (w32 ((w32 (80 + (w32 (3 * a1)))) + 2)), zR 98]) M _
            refine zH_blk (c' := (95, [zR 97, .inl a1, .inl a2, .inl a3, .inl (w32 ((w32 (80 + (w32 (3 * a1)))) + 2))], [.inl (zbor (M 98 (w32 ((w32 (80 + (w32 (3 * a1)))) + 2) : Int).toNat) (zbshl 1 a2)), .inl (w32 ((w32 (80 + (w32 (3 * a1)))) + 2)), zR 98])) 5 hz rfl ?_
            refine zH_iast hz rfl rfl (fun _ => ?_)
            show zH n (0, 0) 271 (96, [zR 97, .inl a1, .inl a2, .inl a3, .inl (w32 ((w32 (80 + (w32 (3 * a1)))) + 2))], []) (zput M 98 (w32 ((w32 (80 + (w32 (3 * a1)))) + 2) : Int).toNat (zbor (M 98 (w32 ((w32 (80 + (w32 (3 * a1)))) + 2) : Int).toNat) (zbshl 1 a2))) _
            refine zH_blk (c' := (97, [zR 97, .inl a1, .inl a2, .inl a3, .inl (w32 ((w32 (80 + (w32 (3 * a1)))) + 2))], [.inl 1])) 1 hz rfl ?_
            exact zH_ret hz rfl rfl (hfinB hE)
        · have hE := hE.trans (if_neg hb)
          refine zH_blk (c' := (57, [zR 97, .inl a1, .inl a2, .inl a3, .inl (w32 ((w32 (80 + (w32 (3 * a1)))) + 2))], [.inl (-3)])) 1 hz rfl ?_
          exact zH_ret hz rfl rfl (hfinB hE)
    · have hE := hE.trans (if_neg hb)
      refine zH_blk (c' := (20, [zR 97, .inl a1, .inl a2, .inl a3, zN], [.inl (-2)])) 1 hz rfl ?_
      exact zH_ret hz rfl rfl (hfinB hE)
noncomputable def hf_285_97 (M : zM) (a1 : Int) : Int × zM :=
  (if ¬ (hf_180 M a1 1 10000) = 0 then (M 98 (8 : Int).toNat, zput M 98 (8 : Int).toNat a1) else ((-2), M))
