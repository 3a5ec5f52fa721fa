set_option maxRecDepth 100000 in
theorem fh_187_97 {n : Nat} {M : zM} (a1 : Int) (a2 : Int) (a3 : Int) (a4 : Int) : zH n (0, 0) 187 (0, zini [zR 97, .inl a1, .inl a2, .inl a3, .inl a4] 6, []) M (fun r M' => r = some (.inl (hf_187_97 M a1 a2 a3 a4).1) ∧ M' = (hf_187_97 M a1 a2 a3 a4).2) := by
  have hz := zp_187
  have hE : hf_187_97 M a1 a2 a3 a4 = hf_187_97 M a1 a2 a3 a4 := rfl
  show zH n (0, 0) 187 (0, [zR 97, .inl a1, .inl a2, .inl a3, .inl a4, zN], []) M _
  refine zH_blk (c' := (4, [zR 97, .inl a1, .inl a2, .inl a3, .inl a4, zN], [.inl 60, .inl 1, .inl a1])) 3 hz rfl ?_
  refine zH_callE hz zp_180 rfl rfl (fh_180 a1 1 60) ?_
  show zH n (0, 0) 187 (7, [zR 97, .inl a1, .inl a2, .inl a3, .inl a4, zN], [.inl (hf_180 M a1 1 60)]) M _
  refine zH_if_eq hz rfl (fun hb => ?_) (fun hb => ?_)
  · have hE := hE.trans (if_pos hb)
    refine zH_blk (c' := (51, [zR 97, .inl a1, .inl a2, .inl a3, .inl a4, zN], [.inl (-2)])) 1 hz rfl ?_
    exact zH_ret hz rfl rfl (hfinB hE)
  · have hE := hE.trans (if_neg hb)
    refine zH_blk (c' := (18, [zR 97, .inl a1, .inl a2, .inl a3, .inl a4, zN], [.inl 0, zR 98, .inl 1, .inl 0, .inl a2])) 6 hz rfl ?_
    refine zH_iald hz rfl rfl (.inl rfl) (fun _ => ?_)
    show zH n (0, 0) 187 (19, [zR 97, .inl a1, .inl a2, .inl a3, .inl a4, zN], [.inl (M 98 (0 : Int).toNat), .inl 1, .inl 0, .inl a2]) M _
    refine zH_blk (c' := (22, [zR 97, .inl a1, .inl a2, .inl a3, .inl a4, zN], [.inl (w32 ((zbshl 1 (M 98 (0 : Int).toNat)) - 1)), .inl 0, .inl a2])) 3 hz rfl ?_
    refine zH_callE hz zp_180 rfl rfl (fh_180 a2 0 (w32 ((zbshl 1 (M 98 (0 : Int).toNat)) - 1))) ?_
    show zH n (0, 0) 187 (25, [zR 97, .inl a1, .inl a2, .inl a3, .inl a4, zN], [.inl (hf_180 M a2 0 (w32 ((zbshl 1 (M 98 (0 : Int).toNat)) - 1)))]) M _
    refine zH_if_eq hz rfl (fun hb => ?_) (fun hb => ?_)
    · have hE := hE.trans (if_pos hb)
      refine zH_blk (c' := (51, [zR 97, .inl a1, .inl a2, .inl a3, .inl a4, zN], [.inl (-2)])) 1 hz rfl ?_
      exact zH_ret hz rfl rfl (hfinB hE)
    · have hE := hE.trans (if_neg hb)
      refine zH_blk (c' := (32, [zR 97, .inl a1, .inl a2, .inl a3, .inl a4, zN], [.inl 7, .inl 1, .inl a3])) 3 hz rfl ?_
      refine zH_callE hz zp_180 rfl rfl (fh_180 a3 1 7) ?_
      show zH n (0, 0) 187 (35, [zR 97, .inl a1, .inl a2, .inl a3, .inl a4, zN], [.inl (hf_180 M a3 1 7)]) M _
      refine zH_if_eq hz rfl (fun hb => ?_) (fun hb => ?_)
      · have hE := hE.trans (if_pos hb)
        refine zH_blk (c' := (51, [zR 97, .inl a1, .inl a2, .inl a3, .inl a4, zN], [.inl (-2)])) 1 hz rfl ?_
        exact zH_ret hz rfl rfl (hfinB hE)
      · have hE := hE.trans (if_neg hb)
        refine zH_blk (c' := (43, [zR 97, .inl a1, .inl a2, .inl a3, .inl a4, zN], [.inl 100, .inl 0, .inl a4])) 3 hz rfl ?_
        refine zH_callE hz zp_180 rfl rfl (fh_180 a4 0 100) ?_
        show zH n (0, 0) 187 (46, [zR 97, .inl a1, .inl a2, .inl a3, .inl a4, zN], [.inl (hf_180 M a4 0 100)]) M _
        refine zH_if_ne hz rfl (fun hb => ?_) (fun hb => ?_)
        · have hE := hE.trans (if_pos hb)
          refine zH_blk (c' := (57, [zR 97, .inl a1, .inl a2, .inl a3, .inl a4, zN], [.inl 0, zR 98])) 3 hz rfl ?_
          refine zH_iald hz rfl rfl (.inl rfl) (fun _ => ?_)
          show zH n (0, 0) 187 (58, [zR 97, .inl a1, .inl a2, .inl a3, .inl a4, zN], [.inl (M 98 (0 : Int).toNat)]) M _
          refine zH_blk (c' := (60, [zR 97, .inl a1, .inl a2, .inl a3, .inl a4, zN], [.inl 14, .inl (M 98 (0 : Int).toNat)])) 1 hz rfl ?_
          refine zH_icmp_ne hz rfl (fun hb => ?_) (fun hb => ?_)
          · have hE := hE.trans (if_pos hb)
            refine zH_blk (c' := (74, [zR 97, .inl a1, .inl a2, .inl a3, .inl a4, zN], [.inl 0, zR 98, .inl 4, .inl 20])) 5 hz rfl ?_
            refine zH_iald hz rfl rfl (.inl rfl) (fun _ => ?_)
            show zH n (0, 0) 187 (75, [zR 97, .inl a1, .inl a2, .inl a3, .inl a4, zN], [.inl (M 98 (0 : Int).toNat), .inl 4, .inl 20]) M _
            refine zH_blk (c' := (86, [zR 97, .inl a1, .inl a2, .inl a3, .inl a4, .inl (w32 (20 + (w32 (4 * (M 98 (0 : Int).toNat)))))], [.inl a1, .inl (w32 (20 + (w32 (4 * (M 98 (0 : Int).toNat))))), zR 98])) 7 hz rfl ?_
            refine zH_iast hz rfl rfl (fun _ => ?_)
            show zH n (0, 0) 187 (87, [zR 97, .inl a1, .inl a2, .inl a3, .inl a4, .inl (w32 (20 + (w32 (4 * (M 98 (0 : Int).toNat)))))], []) (zput M 98 (w32 (20 + (w32 (4 * (M 98 (0 : Int).toNat)))) : Int).toNat a1) _
            refine zH_blk (c' := (96, [zR 97, .inl a1, .inl a2, .inl a3, .inl a4, .inl (w32 (20 + (w32 (4 * (M 98 (0 : Int).toNat)))))], [.inl a2, .inl (w32 ((w32 (20 + (w32 (4 * (M 98 (0 : Int).toNat))))) + 1)), zR 98])) 6 hz rfl ?_
            refine zH_iast hz rfl rfl (fun _ => ?_)
            show zH n (0, 0) 187 (97, [zR 97, .inl a1, .inl a2, .inl a3, .inl a4, .inl (w32 (20 + (w32 (4 * (M 98 (0 : Int).toNat)))))], []) (zput (zput M 98 (w32 (20 + (w32 (4 * (M 98 (0 : Int).toNat)))) : Int).toNat a1) 98 (w32 ((w32 (20 + (w32 (4 * (M 98 (0 : Int).toNat))))) + 1) : Int).toNat a2) _
            refine zH_blk (c' := (106, [zR 97, .inl a1, .inl a2, .inl a3, .inl a4, .inl (w32 (20 + (w32 (4 * (M 98 (0 : Int).toNat)))))], [.inl a3, .inl (w32 ((w32 (20 + (w32 (4 * (M 98 (0 : Int).toNat))))) + 2)), zR 98])) 6 hz rfl ?_
            refine zH_iast hz rfl rfl (fun _ => ?_)
            show zH n (0, 0) 187 (107, [zR 97, .inl a1, .inl a2, .inl a3, .inl a4, .inl (w32 (20 + (w32 (4 * (M 98 (0 : Int).toNat)))))], []) (zput (zput (zput M 98 (w32 (20 + (w32 (4 * (M 98 (0 : Int).toNat)))) : Int).toNat a1) 98 (w32 ((w32 (20 + (w32 (4 * (M 98 (0 : Int).toNat))))) + 1) : Int).toNat a2) 98 (w32 ((w32 (20 + (w32 (4 * (M 98 (0 : Int).toNat))))) + 2) : Int).toNat a3) _
            refine zH_blk (c' := (117, [zR 97, .inl a1, .inl a2, .inl a3, .inl a4, .inl (w32 (20 + (w32 (4 * (M 98 (0 : Int).toNat)))))], [.inl a4, .inl (w32 ((w32 (20 + (w32 (4 * (M 98 (0 : Int).toNat))))) + 3)), zR 98])) 6 hz rfl ?_
            refine zH_iast hz rfl rfl (fun _ => ?_)
            show zH n (0, 0) 187 (118, [zR 97, .inl a1, .inl a2, .inl a3, .inl a4, .inl (w32 (20 + (w32 (4 * (M 98 (0 : Int).toNat)))))], []) (zput (zput (zput (zput M 98 (w32 (20 + (w32 (4 * (M 98 (0 : Int).toNat)))) : Int).toNat a1) 98 (w32 ((w32 (20 + (w32 (4 * (M 98 (0 : Int).toNat))))) + 1) : Int).toNat a2) 98 (w32 ((w32 (20 + (w32 (4 * (M 98 (0 : Int).toNat))))) + 2) : Int).toNat a3) 98 (w32 ((w32 (20 + (w32 (4 * (M 98 (0 : Int).toNat))))) + 3) : Int).toNat a4) _
            refine zH_blk (c' := (125, [zR 97, .inl a1, .inl a2, .inl a3, .inl a4, .inl (w32 (20 + (w32 (4 * (M 98 (0 : Int).toNat)))))], [.inl 0, zR 97])) 5 hz rfl ?_
            refine zH_callB hz zp_183 rfl rfl (fh_183_97 0) ?_
            intro u1 N2 hu1 hN2
            show zH n (0, 0) 187 (128, [zR 97, .inl a1, .inl a2, .inl a3, .inl a4, .inl (w32 (20 + (w32 (4 * (M 98 (0 : Int).toNat)))))], [.inl u1]) N2 _
            subst hN2
            subst hu1
            exact zH_ret hz rfl rfl (hfinB hE)
          · have hE := hE.trans (if_neg hb)
            refine zH_blk (c' := (65, [zR 97, .inl a1, .inl a2, .inl a3, .inl a4, zN], [.inl (-4)])) 1 hz rfl ?_
            exact zH_ret hz rfl rfl (hfinB hE)
        · have hE := hE.trans (if_neg hb)
          refine zH_blk (c' := (51, [zR 97, .inl a1, .inl a2, .inl a3, .inl a4, zN], [.inl (-2)])) 1 hz rfl ?_
          exact zH_ret hz rfl rfl (hfinB hE)
noncomputable def hf_184 (M : zM) (a0 : Int) : Int :=
  (hf_180 M a0 0 9999)
set_option maxRecDepth 100000 in
theorem fh_184 {n : Nat} {M : zM} (a0 : Int) : zH n (0, 0) 184 (0, zini [.inl a0] 1, []) M (fun r M' => r = some (.inl (hf_184 M a0)) ∧ M' = M) := by
  have hz := zp_184
  have hE : hf_184 M a0 = hf_184 M a0 := rfl
  show zH n (0, 0) 184 (0, [.inl a0], []) M _
  refine zH_blk (c' := (5, [.inl a0], [.inl 9999, .inl 0, .inl a0])) 3 hz rfl ?_
  refine zH_callE hz zp_180 rfl rfl (fh_180 a0 0 9999) ?_
  show zH n (0, 0) 184 (8, [.inl a0], [.inl (hf_180 M a0 0 9999)]) M _
  exact zH_zret hz rfl (hfinP hE)
noncomputable def hf_188_97 (M : zM) (a1 : Int) : Int × zM :=
  (if ¬ (hf_184 M a1) = 0 then (if ¬ (M 98 (1 : Int).toNat) = 20 then (((hf_183_97 (zput (zput (zput M 98 (w32 (80 + (w32 (3 * (M 98 (1 : Int).toNat)))) : Int).toNat a1) 98 (w32 ((w32 (80 + (w32 (3 * (M 98 (1 : Int).toNat))))) + 1) : Int).toNat (-1)) 98 (w32 ((w32 (80 + (w32 (3 * (M 98 (1 : Int).toNat))))) + 2) : Int).toNat 0) 1).1), ((hf_183_97 (zput (zput (zput M 98 (w32 (80 + (w32 (3 * (M 98 (1 : Int).toNat)))) : Int).toNat a1) 98 (w32 ((w32 (80 + (w32 (3 * (M 98 (1 : Int).toNat))))) + 1) : Int).toNat (-1)) 98 (w32 ((w32 (80 + (w32 (3 * (M 98 (1 : Int).toNat))))) + 2) : Int).toNat 0) 1).2)) else ((-4), M)) else ((-2), M))
set_option maxRecDepth 100000 in
theorem fh_188_97 {n : Nat} {M : zM} (a1 : Int) : zH n (0, 0) 188 (0, zini [zR 97, .inl a1] 3, []) M (fun r M' => r = some (.inl (hf_188_97 M a1).1) ∧ M' = (hf_188_97 M a1).2) := by
  have hz := zp_188
  have hE : hf_188_97 M a1 = hf_188_97 M a1 := rfl
  show zH n (0, 0) 188 (0, [zR 97, .inl a1, zN], []) M _
  refine zH_blk (c' := (1, [zR 97, .inl a1, zN], [.inl a1])) 1 hz rfl ?_
  refine zH_callE hz zp_184 rfl rfl (fh_184 a1) ?_
  show zH n (0, 0) 188 (4, [zR 97, .inl a1, zN], [.inl (hf_184 M a1)]) M _
  refine zH_if_ne hz rfl (fun hb => ?_) (fun hb => ?_)
  · have hE := hE.trans (if_pos hb)
    refine zH_blk (c' := (15, [zR 97, .inl a1, zN], [.inl 1, zR 98])) 3 hz rfl ?_
    refine zH_iald hz rfl rfl (.inl rfl) (fun _ => ?_)
    show zH n (0, 0) 188 (16, [zR 97, .inl a1, zN], [.inl (M 98 (1 : Int).toNat)]) M _
    refine zH_blk (c' := (18, [zR 97, .inl a1, zN], [.inl 20, .inl (M 98 (1 : Int).toNat)])) 1 hz rfl ?_
    refine zH_icmp_ne hz rfl (fun hb => ?_) (fun hb => ?_)
    · have hE := hE.trans (if_pos hb)
      refine zH_blk (c' := (32, [zR 97, .inl a1, zN], [.inl 1, zR 98, .inl 3, .inl 80])) 5 hz rfl ?_
      refine zH_iald hz rfl rfl (.inl rfl) (fun _ => ?_)
      show zH n (0, 0) 188 (33, [zR 97, .inl a1, zN], [.inl (M 98 (1 : Int).toNat), .inl 3, .inl 80]) M _
      refine zH_blk (c' := (42, [zR 97, .inl a1, .inl (w32 (80 + (w32 (3 * (M 98 (1 : Int).toNat)))))], [.inl a1, .inl (w32 (80 + (w32 (3 * (M 98 (1 : Int).toNat))))), zR 98])) 7 hz rfl ?_
      refine zH_iast hz rfl rfl (fun _ => ?_)
      show zH n (0, 0) 188 (43, [zR 97, .inl a1, .inl (w32 (80 + (w32 (3 * (M 98 (1 : Int).toNat)))))], []) (zput M 98 (w32 (80 + (w32 (3 * (M 98 (1 : Int).toNat)))) : Int).toNat a1) _
      refine zH_blk (c' := (51, [zR 97, .inl a1, .inl (w32 (80 + (w32 (3 * (M 98 (1 : Int).toNat)))))], [.inl (-1), .inl (w32 ((w32 (80 + (w32 (3 * (M 98 (1 : Int).toNat))))) + 1)), zR 98])) 6 hz rfl ?_
      refine zH_iast hz rfl rfl (fun _ => ?_)
      show zH n (0, 0) 188 (52, [zR 97, .inl a1, .inl (w32 (80 + (w32 (3 * (M 98 (1 : Int).toNat)))))], []) (zput (zput M 98 (w32 (80 + (w32 (3 * (M 98 (1 : Int).toNat)))) : Int).toNat a1) 98 (w32 ((w32 (80 + (w32 (3 * (M 98 (1 : Int).toNat))))) + 1) : Int).toNat (-1)) _
      refine zH_blk (c' := (60, [zR 97, .inl a1, .inl (w32 (80 + (w32 (3 * (M 98 (1 : Int).toNat)))))], [.inl 0, .inl (w32 ((w32 (80 + (w32 (3 * (M 98 (1 : Int).toNat))))) + 2)), zR 98])) 6 hz rfl ?_
      refine zH_iast hz rfl rfl (fun _ => ?_)
      show zH n (0, 0) 188 (61, [zR 97, .inl a1, .inl (w32 (80 + (w32 (3 * (M 98 (1 : Int).toNat)))))], []) (zput (zput (zput M 98 (w32 (80 + (w32 (3 * (M 98 (1 : Int).toNat)))) : Int).toNat a1) 98 (w32 ((w32 (80 + (w32 (3 * (M 98 (1 : Int).toNat))))) + 1) : Int).toNat (-1)) 98 (w32 ((w32 (80 + (w32 (3 * (M 98 (1 : Int).toNat))))) + 2) : Int).toNat 0) _
      refine zH_blk (c' := (63, [zR 97, .inl a1, .inl (w32 (80 + (w32 (3 * (M 98 (1 : Int).toNat)))))], [.inl 1, zR 97])) 2 hz rfl ?_
      refine zH_callB hz zp_183 rfl rfl (fh_183_97 1) ?_
      intro u1 N2 hu1 hN2
      show zH n (0, 0) 188 (66, [zR 97, .inl a1, .inl (w32 (80 + (w32 (3 * (M 98 (1 : Int).toNat)))))], [.inl u1]) N2 _
      subst hN2
      subst hu1
      exact zH_ret hz rfl rfl (hfinB hE)
    · have hE := hE.trans (if_neg hb)
      refine zH_blk (c' := (23, [zR 97, .inl a1, zN], [.inl (-4)])) 1 hz rfl ?_
      exact zH_ret hz rfl rfl (hfinB hE)
  · have hE := hE.trans (if_neg hb)
    refine zH_blk (c' := (9, [zR 97, .inl a1, zN], [.inl (-2)])) 1 hz rfl ?_
    exact zH_ret hz rfl rfl (hfinB hE)
noncomputable def hf_189_97 (M : zM) (a1 : Int) (a2 : Int) : Int × zM :=
  (if (hf_180 M a1 1 1023) = 0 then ((-2), M) else (if ¬ (hf_180 M a2 1 10) = 0 then (if ¬ (M 98 (2 : Int).toNat) = 4 then (((hf_183_97 (zput (zput M 98 (w32 (140 + (w32 (2 * (M 98 (2 : Int).toNat)))) : Int).toNat a1) 98 (w32 ((w32 (140 + (w32 (2 * ((zput M 98 (w32 (140 + (w32 (2 * (M 98 (2 : Int).toNat)))) : Int).toNat a1) 98 (2 : Int).toNat))))) + 1) : Int).toNat a2) 2).1), ((hf_183_97 (zput (zput M 98 (w32 (140 + (w32 (2 * (M 98 (2 : Int).toNat)))) : Int).toNat a1) 98 (w32 ((w32 (140 + (w32 (2 * ((zput M 98 (w32 (140 + (w32 (2 * (M 98 (2 : Int).toNat)))) : Int).toNat a1) 98 (2 : Int).toNat))))) + 1) : Int).toNat a2) 2).2)) else ((-4), M)) else ((-2), M)))
set_option maxRecDepth 100000 in
theorem fh_189_97 {n : Nat} {M : zM} (a1 : Int) (a2 : Int) : zH n (0, 0) 189 (0, zini [zR 97, .inl a1, .inl a2] 3, []) M (fun r M' => r = some (.inl (hf_189_97 M a1 a2).1) ∧ M' = (hf_189_97 M a1 a2).2) := by
  have hz := zp_189
  have hE : hf_189_97 M a1 a2 = hf_189_97 M a1 a2 := rfl
  show zH n (0, 0) 189 (0, [zR 97, .inl a1, .inl a2], []) M _
  refine zH_blk (c' := (5, [zR 97, .inl a1, .inl a2], [.inl 1023, .inl 1, .inl a1])) 3 hz rfl ?_
  refine zH_callE hz zp_180 rfl rfl (fh_180 a1 1 1023) ?_
  show zH n (0, 0) 189 (8, [zR 97, .inl a1, .inl a2], [.inl (hf_180 M a1 1 1023)]) M _
  refine zH_if_eq hz rfl (fun hb => ?_) (fun hb => ?_)
  · have hE := hE.trans (if_pos hb)
    refine zH_blk (c' := (23, [zR 97, .inl a1, .inl a2], [.inl (-2)])) 1 hz rfl ?_
    exact zH_ret hz rfl rfl (hfinB hE)
  · have hE := hE.trans (if_neg hb)
    refine zH_blk (c' := (15, [zR 97, .inl a1, .inl a2], [.inl 10, .inl 1, .inl a2])) 3 hz rfl ?_
    refine zH_callE hz zp_180 rfl rfl (fh_180 a2 1 10) ?_
    show zH n (0, 0) 189 (18, [zR 97, .inl a1, .inl a2], [.inl (hf_180 M a2 1 10)]) M _
    refine zH_if_ne hz rfl (fun hb => ?_) (fun hb => ?_)
    · have hE := hE.trans (if_pos hb)
      refine zH_blk (c' := (29, [zR 97, .inl a1, .inl a2], [.inl 2, zR 98])) 3 hz rfl ?_
      refine zH_iald hz rfl rfl (.inl rfl) (fun _ => ?_)
      show zH n (0, 0) 189 (30, [zR 97, .inl a1, .inl a2], [.inl (M 98 (2 : Int).toNat)]) M _
      refine zH_blk (c' := (31, [zR 97, .inl a1, .inl a2], [.inl 4, .inl (M 98 (2 : Int).toNat)])) 1 hz rfl ?_
      refine zH_icmp_ne hz rfl (fun hb => ?_) (fun hb => ?_)
      · have hE := hE.trans (if_pos hb)
        refine zH_blk (c' := (50, [zR 97, .inl a1, .inl a2], [.inl 2, zR 98, .inl 2, .inl 140, zR 98])) 7 hz rfl ?_
        refine zH_iald hz rfl rfl (.inl rfl) (fun _ => ?_)
        show zH n (0, 0) 189 (51, [zR 97, .inl a1, .inl a2], [.inl (M 98 (2 : Int).toNat), .inl 2, .inl 140, zR 98]) M _
        refine zH_blk (c' := (54, [zR 97, .inl a1, .inl a2], [.inl a1, .inl (w32 (140 + (w32 (2 * (M 98 (2 : Int).toNat))))), zR 98])) 3 hz rfl ?_
        refine zH_iast hz rfl rfl (fun _ => ?_)
        show zH n (0, 0) 189 (55, [zR 97, .inl a1, .inl a2], []) (zput M 98 (w32 (140 + (w32 (2 * (M 98 (2 : Int).toNat)))) : Int).toNat a1) _
        refine zH_blk (c' := (68, [zR 97, .inl a1, .inl a2], [.inl 2, zR 98, .inl 2, .inl 140, zR 98])) 7 hz rfl ?_
        refine zH_iald hz rfl rfl (.inl rfl) (fun _ => ?_)
        show zH n (0, 0) 189 (69, [zR 97, .inl a1, .inl a2], [.inl ((zput M 98 (w32 (140 + (w32 (2 * (M 98 (2 : Int).toNat)))) : Int).toNat a1) 98 (2 : Int).toNat), .inl 2, .inl 140, zR 98]) (zput M 98 (w32 (140 + (w32 (2 * (M 98 (2 : Int).toNat)))) : Int).toNat a1) _
        refine zH_blk (c' := (74, [zR 97, .inl a1, .inl a2], [.inl a2, .inl (w32 ((w32 (140 + (w32 (2 * ((zput M 98 (w32 (140 + (w32 (2 * (M 98 (2 : Int).toNat)))) : Int).toNat a1) 98 (2 : Int).toNat))))) + 1)), zR 98])) 5 hz rfl ?_
        refine zH_iast hz rfl rfl (fun _ => ?_)
        show zH n (0, 0) 189 (75, [zR 97, .inl a1, .inl a2], []) (zput (zput M 98 (w32 (140 + (w32 (2 * (M 98 (2 : Int).toNat)))) : Int).toNat a1) 98 (w32 ((w32 (140 + (w32 (2 * ((zput M 98 (w32 (140 + (w32 (2 * (M 98 (2 : Int).toNat)))) : Int).toNat a1) 98 (2 : Int).toNat))))) + 1) : Int).toNat a2) _
        refine zH_blk (c' := (77, [zR 97, .inl a1, .inl a2], [.inl 2, zR 97])) 2 hz rfl ?_
        refine zH_callB hz zp_183 rfl rfl (fh_183_97 2) ?_
        intro u1 N2 hu1 hN2
        show zH n (0, 0) 189 (80, [zR 97, .inl a1, .inl a2], [.inl u1]) N2 _
        subst hN2
        subst hu1
        exact zH_ret hz rfl rfl (hfinB hE)
      · have hE := hE.trans (if_neg hb)
        refine zH_blk (c' := (36, [zR 97, .inl a1, .inl a2], [.inl (-4)])) 1 hz rfl ?_
        exact zH_ret hz rfl rfl (hfinB hE)
    · have hE := hE.trans (if_neg hb)
      refine zH_blk (c' := (23, [zR 97, .inl a1, .inl a2], [.inl (-2)])) 1 hz rfl ?_
      exact zH_ret hz rfl rfl (hfinB hE)
noncomputable def hf_182_97 (M : zM) (a1 : Int) (a2 : Int) : Int :=
  (hf_180 M a2 0 (w32 ((M 98 (a1 : Int).toNat) - 1)))
set_option maxRecDepth 100000 in
theorem fh_182_97 {n : Nat} {M : zM} (a1 : Int) (a2 : Int) : zH n (0, 0) 182 (0, zini [zR 97, .inl a1, .inl a2] 3, []) M (fun r M' => r = some (.inl (hf_182_97 M a1 a2)) ∧ M' = M) := by
  have hz := zp_182
  have hE : hf_182_97 M a1 a2 = hf_182_97 M a1 a2 := rfl
  show zH n (0, 0) 182 (0, [zR 97, .inl a1, .inl a2], []) M _
  refine zH_blk (c' := (7, [zR 97, .inl a1, .inl a2], [.inl a1, zR 98, .inl 0, .inl a2])) 5 hz rfl ?_
  refine zH_iald hz rfl rfl (.inl rfl) (fun _ => ?_)
  show zH n (0, 0) 182 (8, [zR 97, .inl a1, .inl a2], [.inl (M 98 (a1 : Int).toNat), .inl 0, .inl a2]) M _
  refine zH_blk (c' := (10, [zR 97, .inl a1, .inl a2], [.inl (w32 ((M 98 (a1 : Int).toNat) - 1)), .inl 0, .inl a2])) 2 hz rfl ?_
  refine zH_callE hz zp_180 rfl rfl (fh_180 a2 0 (w32 ((M 98 (a1 : Int).toNat) - 1))) ?_
  show zH n (0, 0) 182 (13, [zR 97, .inl a1, .inl a2], [.inl (hf_180 M a2 0 (w32 ((M 98 (a1 : Int).toNat) - 1)))]) M _
  exact zH_zret hz rfl (hfinP hE)
noncomputable def hf_190_97 (M : zM) (a1 : Int) (a2 : Int) (a3 : Int) (a4 : Int) : Int × zM :=
  (if (hf_182_97 M 2 a1) = 0 then ((-2), M) else (if (hf_184 M a2) = 0 then ((-2), M) else (if (hf_180 M a3 0 1023) = 0 then ((-2), M) else (if ¬ (hf_180 M a4 0 1023) = 0 then (if ¬ (M 98 (3 : Int).toNat) = 40 then (((hf_183_97 (zput (zput (zput (zput (zput M 98 (w32 (150 + (w32 (5 * (M 98 (3 : Int).toNat)))) : Int).toNat a1) 98 (w32 ((w32 (150 + (w32 (5 * (M 98 (3 : Int).toNat))))) + 1) : Int).toNat a2) 98 (w32 ((w32 (150 + (w32 (5 * (M 98 (3 : Int).toNat))))) + 2) : Int).toNat a3) 98 (w32 ((w32 (150 + (w32 (5 * (M 98 (3 : Int).toNat))))) + 3) : Int).toNat a4) 98 (w32 ((w32 (150 + (w32 (5 * (M 98 (3 : Int).toNat))))) + 4) : Int).toNat 0) 3).1), ((hf_183_97 (zput (zput (zput (zput (zput M 98 (w32 (150 + (w32 (5 * (M 98 (3 : Int).toNat)))) : Int).toNat a1) 98 (w32 ((w32 (150 + (w32 (5 * (M 98 (3 : Int).toNat))))) + 1) : Int).toNat a2) 98 (w32 ((w32 (150 + (w32 (5 * (M 98 (3 : Int).toNat))))) + 2) : Int).toNat a3) 98 (w32 ((w32 (150 + (w32 (5 * (M 98 (3 : Int).toNat))))) + 3) : Int).toNat a4) 98 (w32 ((w32 (150 + (w32 (5 * (M 98 (3 : Int).toNat))))) + 4) : Int).toNat 0) 3).2)) else ((-4), M)) else ((-2), M)))))
set_option maxRecDepth 100000 in
theorem fh_190_97 {n : Nat} {M : zM} (a1 : Int) (a2 : Int) (a3 : Int) (a4 : Int) : zH n (0, 0) 190 (0, zini [zR 97, .inl a1, .inl a2, .inl a3, .inl a4] 6, []) M (fun r M' => r = some (.inl (hf_190_97 M a1 a2 a3 a4).1) ∧ M' = (hf_190_97 M a1 a2 a3 a4).2) := by
  have hz := zp_190
  have hE : hf_190_97 M a1 a2 a3 a4 = hf_190_97 M a1 a2 a3 a4 := rfl
  show zH n (0, 0) 190 (0, [zR 97, .inl a1, .inl a2, .inl a3, .inl a4, zN], []) M _
  refine zH_blk (c' := (3, [zR 97, .inl a1, .inl a2, .inl a3, .inl a4, zN], [.inl a1, .inl 2, zR 97])) 3 hz rfl ?_
  refine zH_callE hz zp_182 rfl rfl (fh_182_97 2 a1) ?_
  show zH n (0, 0) 190 (6, [zR 97, .inl a1, .inl a2, .inl a3, .inl a4, zN], [.inl (hf_182_97 M 2 a1)]) M _
  refine zH_if_eq hz rfl (fun hb => ?_) (fun hb => ?_)
  · have hE := hE.trans (if_pos hb)
    refine zH_blk (c' := (41, [zR 97, .inl a1, .inl a2, .inl a3, .inl a4, zN], [.inl (-2)])) 1 hz rfl ?_
    exact zH_ret hz rfl rfl (hfinB hE)
  · have hE := hE.trans (if_neg hb)
    refine zH_blk (c' := (10, [zR 97, .inl a1, .inl a2, .inl a3, .inl a4, zN], [.inl a2])) 1 hz rfl ?_
    refine zH_callE hz zp_184 rfl rfl (fh_184 a2) ?_
    show zH n (0, 0) 190 (13, [zR 97, .inl a1, .inl a2, .inl a3, .inl a4, zN], [.inl (hf_184 M a2)]) M _
    refine zH_if_eq hz rfl (fun hb => ?_) (fun hb => ?_)
    · have hE := hE.trans (if_pos hb)
      refine zH_blk (c' := (41, [zR 97, .inl a1, .inl a2, .inl a3, .inl a4, zN], [.inl (-2)])) 1 hz rfl ?_
      exact zH_ret hz rfl rfl (hfinB hE)
    · have hE := hE.trans (if_neg hb)
      refine zH_blk (c' := (21, [zR 97, .inl a1, .inl a2, .inl a3, .inl a4, zN], [.inl 1023, .inl 0, .inl a3])) 3 hz rfl ?_
      refine zH_callE hz zp_180 rfl rfl (fh_180 a3 0 1023) ?_
      show zH n (0, 0) 190 (24, [zR 97, .inl a1, .inl a2, .inl a3, .inl a4, zN], [.inl (hf_180 M a3 0 1023)]) M _
      refine zH_if_eq hz rfl (fun hb => ?_) (fun hb => ?_)
      · have hE := hE.trans (if_pos hb)
        refine zH_blk (c' := (41, [zR 97, .inl a1, .inl a2, .inl a3, .inl a4, zN], [.inl (-2)])) 1 hz rfl ?_
        exact zH_ret hz rfl rfl (hfinB hE)
      · have hE := hE.trans (if_neg hb)
        refine zH_blk (c' := (33, [zR 97, .inl a1, .inl a2, .inl a3, .inl a4, zN], [.inl 1023, .inl 0, .inl a4])) 3 hz rfl ?_
        refine zH_callE hz zp_180 rfl rfl (fh_180 a4 0 1023) ?_
        show zH n (0, 0) 190 (36, [zR 97, .inl a1, .inl a2, .inl a3, .inl a4, zN], [.inl (hf_180 M a4 0 1023)]) M _
        refine zH_if_ne hz rfl (fun hb => ?_) (fun hb => ?_)
        · have hE := hE.trans (if_pos hb)
          refine zH_blk (c' := (47, [zR 97, .inl a1, .inl a2, .inl a3, .inl a4, zN], [.inl 3, zR 98])) 3 hz rfl ?_
          refine zH_iald hz rfl rfl (.inl rfl) (fun _ => ?_)
          show zH n (0, 0) 190 (48, [zR 97, .inl a1, .inl a2, .inl a3, .inl a4, zN], [.inl (M 98 (3 : Int).toNat)]) M _
          refine zH_blk (c' := (50, [zR 97, .inl a1, .inl a2, .inl a3, .inl a4, zN], [.inl 40, .inl (M 98 (3 : Int).toNat)])) 1 hz rfl ?_
          refine zH_icmp_ne hz rfl (fun hb => ?_) (fun hb => ?_)
          · have hE := hE.trans (if_pos hb)
            refine zH_blk (c' := (65, [zR 97, .inl a1, .inl a2, .inl a3, .inl a4, zN], [.inl 3, zR 98, .inl 5, .inl 150])) 5 hz rfl ?_
            refine zH_iald hz rfl rfl (.inl rfl) (fun _ => ?_)
            show zH n (0, 0) 190 (66, [zR 97, .inl a1, .inl a2, .inl a3, .inl a4, zN], [.inl (M 98 (3 : Int).toNat), .inl 5, .inl 150]) M _
            refine zH_blk (c' := (77, [zR 97, .inl a1, .inl a2, .inl a3, .inl a4, .inl (w32 (150 + (w32 (5 * (M 98 (3 : Int).toNat)))))], [.inl a1, .inl (w32 (150 + (w32 (5 * (M 98 (3 : Int).toNat))))), zR 98])) 7 hz rfl ?_
            refine zH_iast hz rfl rfl (fun _ => ?_)
            show zH n (0, 0) 190 (78, [zR 97, .inl a1, .inl a2, .inl a3, .inl a4, .inl (w32 (150 + (w32 (5 * (M 98 (3 : Int).toNat)))))], []) (zput M 98 (w32 (150 + (w32 (5 * (M 98 (3 : Int).toNat)))) : Int).toNat a1) _
            refine zH_blk (c' := (87, [zR 97, .inl a1, .inl a2, .inl a3, .inl a4, .inl (w32 (150 + (w32 (5 * (M 98 (3 : Int).toNat)))))], [.inl a2, .inl (w32 ((w32 (150 + (w32 (5 * (M 98 (3 : Int).toNat))))) + 1)), zR 98])) 6 hz rfl ?_
            refine zH_iast hz rfl rfl (fun _ => ?_)
            show zH n (0, 0) 190 (88, [zR 97, .inl a1, .inl a2, .inl a3, .inl a4, .inl (w32 (150 + (w32 (5 * (M 98 (3 : Int).toNat)))))], []) (zput (zput M 98 (w32 (150 + (w32 (5 * (M 98 (3 : Int).toNat)))) : Int).toNat a1) 98 (w32 ((w32 (150 + (w32 (5 * (M 98 (3 : Int).toNat))))) + 1) : Int).toNat a2) _
            refine zH_blk (c' := (97, [zR 97, .inl a1, .inl a2, .inl a3, .inl a4, .inl (w32 (150 + (w32 (5 * (M 98 (3 : Int).toNat)))))], [.inl a3, .inl (w32 ((w32 (150 + (w32 (5 * (M 98 (3 : Int).toNat))))) + 2)), zR 98])) 6 hz rfl ?_
            refine zH_iast hz rfl rfl (fun _ => ?_)
            show zH n (0, 0) 190 (98, [zR 97, .inl a1, .inl a2, .inl a3, .inl a4, .inl (w32 (150 + (w32 (5 * (M 98 (3 : Int).toNat)))))], []) (zput (zput (zput M 98 (w32 (150 + (w32 (5 * (M 98 (3 : Int).toNat)))) : Int).toNat a1) 98 (w32 ((w32 (150 + (w32 (5 * (M 98 (3 : Int).toNat))))) + 1) : Int).toNat a2) 98 (w32 ((w32 (150 + (w32 (5 * (M 98 (3 : Int).toNat))))) + 2) : Int).toNat a3) _
            refine zH_blk (c' := (108, [zR 97, .inl a1, .inl a2, .inl a3, .inl a4, .inl (w32 (150 + (w32 (5 * (M 98 (3 : Int).toNat)))))], [.inl a4, .inl (w32 ((w32 (150 + (w32 (5 * (M 98 (3 : Int).toNat))))) + 3)), zR 98])) 6 hz rfl ?_
            refine zH_iast hz rfl rfl (fun _ => ?_)
            show zH n (0, 0) 190 (109, [zR 97, .inl a1, .inl a2, .inl a3, .inl a4, .inl (w32 (150 + (w32 (5 * (M 98 (3 : Int).toNat)))))], []) (zput (zput (zput (zput M 98 (w32 (150 + (w32 (5 * (M 98 (3 : Int).toNat)))) : Int).toNat a1) 98 (w32 ((w32 (150 + (w32 (5 * (M 98 (3 : Int).toNat))))) + 1) : Int).toNat a2) 98 (w32 ((w32 (150 + (w32 (5 * (M 98 (3 : Int).toNat))))) + 2) : Int).toNat a3) 98 (w32 ((w32 (150 + (w32 (5 * (M 98 (3 : Int).toNat))))) + 3) : Int).toNat a4) _
            refine zH_blk (c' := (118, [zR 97, .inl a1, .inl a2, .inl a3, .inl a4, .inl (w32 (150 + (w32 (5 * (M 98 (3 : Int).toNat)))))], [.inl 0, .inl (w32 ((w32 (150 + (w32 (5 * (M 98 (3 : Int).toNat))))) + 4)), zR 98])) 6 hz rfl ?_
            refine zH_iast hz rfl rfl (fun _ => ?_)
            show zH n (0, 0) 190 (119, [zR 97, .inl a1, .inl a2, .inl a3, .inl a4, .inl (w32 (150 + (w32 (5 * (M 98 (3 : Int).toNat)))))], []) (zput (zput (zput (zput (zput M 98 (w32 (150 + (w32 (5 * (M 98 (3 : Int).toNat)))) : Int).toNat a1) 98 (w32 ((w32 (150 + (w32 (5 * (M 98 (3 : Int).toNat))))) + 1) : Int).toNat a2) 98 (w32 ((w32 (150 + (w32 (5 * (M 98 (3 : Int).toNat))))) + 2) : Int).toNat a3) 98 (w32 ((w32 (150 + (w32 (5 * (M 98 (3 : Int).toNat))))) + 3) : Int).toNat a4) 98 (w32 ((w32 (150 + (w32 (5 * (M 98 (3 : Int).toNat))))) + 4) : Int).toNat 0) _
            refine zH_blk (c' := (121, [zR 97, .inl a1, .inl a2, .inl a3, .inl a4, .inl (w32 (150 + (w32 (5 * (M 98 (3 : Int).toNat)))))], [.inl 3, zR 97])) 2 hz rfl ?_
            refine zH_callB hz zp_183 rfl rfl (fh_183_97 3) ?_
            intro u1 N2 hu1 hN2
            show zH n (0, 0) 190 (124, [zR 97, .inl a1, .inl a2, .inl a3, .inl a4, .inl (w32 (150 + (w32 (5 * (M 98 (3 : Int).toNat)))))], [.inl u1]) N2 _
            subst hN2
            subst hu1
            exact zH_ret hz rfl rfl (hfinB hE)
          · have hE := hE.trans (if_neg hb)
            refine zH_blk (c' := (55, [zR 97, .inl a1, .inl a2, .inl a3, .inl a4, zN], [.inl (-4)])) 1 hz rfl ?_
            exact zH_ret hz rfl rfl (hfinB hE)
        · have hE := hE.trans (if_neg hb)
          refine zH_blk (c' := (41, [zR 97, .inl a1, .inl a2, .inl a3, .inl a4, zN], [.inl (-2)])) 1 hz rfl ?_
          exact zH_ret hz rfl rfl (hfinB hE)
noncomputable def hf_191_97 (M : zM) (a1 : Int) (a2 : Int) : Int × zM :=
  (if ¬ (hf_182_97 M 3 a1) = 0 then (if ¬ (M 98 (w32 ((w32 (150 + (w32 (5 * a1)))) + 4) : Int).toNat) = 1 then (if ¬ 0 = a2 then (if a2 = 0 then (1, zput M 98 (w32 ((w32 (150 + (w32 (5 * a1)))) + 4) : Int).toNat 0) else (1, zput M 98 (w32 ((w32 (150 + (w32 (5 * a1)))) + 4) : Int).toNat 1)) else ((-3), M)) else (if ¬ 1 = a2 then (if a2 = 0 then (1, zput M 98 (w32 ((w32 (150 + (w32 (5 * a1)))) + 4) : Int).toNat 0) else (1, zput M 98 (w32 ((w32 (150 + (w32 (5 * a1)))) + 4) : Int).toNat 1)) else ((-3), M))) else ((-2), M))
set_option maxRecDepth 100000 in
theorem fh_191_97 {n : Nat} {M : zM} (a1 : Int) (a2 : Int) : zH n (0, 0) 191 (0, zini [zR 97, .inl a1, .inl a2] 4, []) M (fun r M' => r = some (.inl (hf_191_97 M a1 a2).1) ∧ M' = (hf_191_97 M a1 a2).2) := by
  have hz := zp_191
  have hE : hf_191_97 M a1 a2 = hf_191_97 M a1 a2 := rfl
  show zH n (0, 0) 191 (0, [zR 97, .inl a1, .inl a2, zN], []) M _
  refine zH_blk (c' := (3, [zR 97, .inl a1, .inl a2, zN], [.inl a1, .inl 3, zR 97])) 3 hz rfl ?_
  refine zH_callE hz zp_182 rfl rfl (fh_182_97 3 a1) ?_
  show zH n (0, 0) 191 (6, [zR 97, .inl a1, .inl a2, zN], [.inl (hf_182_97 M 3 a1)]) M _
  refine zH_if_ne hz rfl (fun hb => ?_) (fun hb => ?_)
  · have hE := hE.trans (if_pos hb)
    refine zH_blk (c' := (27, [zR 97, .inl a1, .inl a2, .inl (w32 ((w32 (150 + (w32 (5 * a1)))) + 4))], [.inl (w32 ((w32 (150 + (w32 (5 * a1)))) + 4)), zR 98])) 11 hz rfl ?_
    refine zH_iald hz rfl rfl (.inl rfl) (fun _ => ?_)
    show zH n (0, 0) 191 (28, [zR 97, .inl a1, .inl a2, .inl (w32 ((w32 (150 + (w32 (5 * a1)))) + 4))], [.inl (M 98 (w32 ((w32 (150 + (w32 (5 * a1)))) + 4) : Int).toNat)]) M _
    refine zH_blk (c' := (29, [zR 97, .inl a1, .inl a2, .inl (w32 ((w32 (150 + (w32 (5 * a1)))) + 4))], [.inl 1, .inl (M 98 (w32 ((w32 (150 + (w32 (5 * a1)))) + 4) : Int).toNat)])) 1 hz rfl ?_
    refine zH_icmp_ne hz rfl (fun hb => ?_) (fun hb => ?_)
    · have hE := hE.trans (if_pos hb)
      refine zH_blk (c' := (38, [zR 97, .inl a1, .inl a2, .inl (w32 ((w32 (150 + (w32 (5 * a1)))) + 4))], [.inl a2, .inl 0])) 2 hz rfl ?_
      refine zH_icmp_ne hz rfl (fun hb => ?_) (fun hb => ?_)
      · have hE := hE.trans (if_pos hb)
        refine zH_blk (c' := (50, [zR 97, .inl a1, .inl a2, .inl (w32 ((w32 (150 + (w32 (5 * a1)))) + 4))], [.inl a2, .inl (w32 ((w32 (150 + (w32 (5 * a1)))) + 4)), zR 98])) 4 hz rfl ?_
        refine zH_if_eq hz rfl (fun hb => ?_) (fun hb => ?_)
        · have hE := hE.trans (if_pos hb)
          refine zH_blk (c' := (58, [zR 97, .inl a1, .inl a2, .inl (w32 ((w32 (150 + (w32 (5 * a1)))) + 4))], [.inl 0, .inl (w32 ((w32 (150 + (w32 (5 * a1)))) + 4)), zR 98])) 1 hz rfl ?_
          refine zH_iast hz rfl rfl (fun _ => ?_)
          show zH n (0, 0) 191 (59, [zR 97, .inl a1, .inl a2, .inl (w32 ((w32 (150 + (w32 (5 * a1)))) + 4))], []) (zput M 98 (w32 ((w32 (150 + (w32 (5 * a1)))) + 4) : Int).toNat 0) _
          refine zH_blk (c' := (60, [zR 97, .inl a1, .inl a2, .inl (w32 ((w32 (150 + (w32 (5 * a1)))) + 4))], [.inl 1])) 1 hz rfl ?_
          exact zH_ret hz rfl rfl (hfinB hE)
        · have hE := hE.trans (if_neg hb)
          refine zH_blk (c' := (58, [zR 97, .inl a1, .inl a2, .inl (w32 ((w32 (150 + (w32 (5 * a1)))) + 4))], [.inl 1, .inl (w32 ((w32 (150 + (w32 (5 * a1)))) + 4)), zR 98])) 2 hz rfl ?_
          refine zH_iast hz rfl rfl (fun _ => ?_)
          show zH n (0, 0) 191 (59, [zR 97, .inl a1, .inl a2, .inl (w32 ((w32 (150 + (w32 (5 * a1)))) + 4))], []) (zput M 98 (w32 ((w32 (150 + (w32 (5 * a1)))) + 4) : Int).toNat 1) _
          refine zH_blk (c' := (60, [zR 97, .inl a1, .inl a2, .inl (w32 ((w32 (150 + (w32 (5 * a1)))) + 4))], [.inl 1])) 1 hz rfl ?_
          exact zH_ret hz rfl rfl (hfinB hE)
      · have hE := hE.trans (if_neg hb)
        refine zH_blk (c' := (43, [zR 97, .inl a1, .inl a2, .inl (w32 ((w32 (150 + (w32 (5 * a1)))) + 4))], [.inl (-3)])) 1 hz rfl ?_
        exact zH_ret hz rfl rfl (hfinB hE)
    · have hE := hE.trans (if_neg hb)
      refine zH_blk (c' := (38, [zR 97, .inl a1, .inl a2, .inl (w32 ((w32 (150 + (w32 (5 * a1)))) + 4))], [.inl a2, .inl 1])) 3 hz rfl ?_
      refine zH_icmp_ne hz rfl (fun hb => ?_) (fun hb => ?_)
      · have hE := hE.trans (if_pos hb)
        refine zH_blk (c' := (50, [zR 97, .inl a1, .inl a2, .inl (w32 ((w32 (150 + (w32 (5 * a1)))) + 4))], [.inl a2, .inl (w32 ((w32 (150 + (w32 (5 * a1)))) + 4)), zR 98])) 4 hz rfl ?_
        refine zH_if_eq hz rfl (fun hb => ?_) (fun hb => ?_)
        · have hE := hE.trans (if_pos hb)
          refine zH_blk (c' := (58, [zR 97, .inl a1, .inl a2, .inl (w32 ((w32 (150 + (w32 (5 * a1)))) + 4))], [.inl 0, .inl (w32 ((w32 (150 + (w32 (5 * a1)))) + 4)), zR 98])) 1 hz rfl ?_
          refine zH_iast hz rfl rfl (fun _ => ?_)
          show zH n (0, 0) 191 (59, [zR 97, .inl a1, .inl a2, .inl (w32 ((w32 (150 + (w32 (5 * a1)))) + 4))], []) (zput M 98 (w32 ((w32 (150 + (w32 (5 * a1)))) + 4) : Int).toNat 0) _
          refine zH_blk (c' := (60, [zR 97, .inl a1, .inl a2, .inl (w32 ((w32 (150 + (w32 (5 * a1)))) + 4))], [.inl 1])) 1 hz rfl ?_
          exact zH_ret hz rfl rfl (hfinB hE)
        · have hE := hE.trans (if_neg hb)
          refine zH_blk (c' := (58, [zR 97, .inl a1, .inl a2, .inl (w32 ((w32 (150 + (w32 (5 * a1)))) + 4))], [.inl 1, .inl (w32 ((w32 (150 + (w32 (5 * a1)))) + 4)), zR 98])) 2 hz rfl ?_
          refine zH_iast hz rfl rfl (fun _ => ?_)
          show zH n (0, 0) 191 (59, [zR 97, .inl a1, .inl a2, .inl (w32 ((w32 (150 + (w32 (5 * a1)))) + 4))], []) (zput M 98 (w32 ((w32 (150 + (w32 (5 * a1)))) + 4) : Int).toNat 1) _
          refine zH_blk (c' := (60, [zR 97, .inl a1, .inl a2, .inl (w32 ((w32 (150 + (w32 (5 * a1)))) + 4))], [.inl 1])) 1 hz rfl ?_
          exact zH_ret hz rfl rfl (hfinB hE)
      · have hE := hE.trans (if_neg hb)
        refine zH_blk (c' := (43, [zR 97, .inl a1, .inl a2, .inl (w32 ((w32 (150 + (w32 (5 * a1)))) + 4))], [.inl (-3)])) 1 hz rfl ?_
        exact zH_ret hz rfl rfl (hfinB hE)
  · have hE := hE.trans (if_neg hb)
    refine zH_blk (c' := (11, [zR 97, .inl a1, .inl a2, zN], [.inl (-2)])) 1 hz rfl ?_
    exact zH_ret hz rfl rfl (hfinB hE)
noncomputable def hf_185 (M : zM) (a0 : Int) : Int :=
  (hf_180 M a0 0 100)
set_option maxRecDepth 100000 in
theorem fh_185 {n : Nat} {M : zM} (a0 : Int) : zH n (0, 0) 185 (0, zini [.inl a0] 1, []) M (fun r M' => r = some (.inl (hf_185 M a0)) ∧ M' = M) := by
  have hz := zp_185
  have hE : hf_185 M a0 = hf_185 M a0 := rfl
  show zH n (0, 0) 185 (0, [.inl a0], []) M _
  refine zH_blk (c' := (4, [.inl a0], [.inl 100, .inl 0, .inl a0])) 3 hz rfl ?_
  refine zH_callE hz zp_180 rfl rfl (fh_180 a0 0 100) ?_
  show zH n (0, 0) 185 (7, [.inl a0], [.inl (hf_180 M a0 0 100)]) M _
  exact zH_zret hz rfl (hfinP hE)
