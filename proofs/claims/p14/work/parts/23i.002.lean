set_option maxRecDepth 100000 in
theorem fh_101_20 {n : Nat} {M : zM} : zH n (0, 0) 101 (0, zini [zR 20] 1, []) M (fun r M' => r = some (.inl (hR_size M 20)) ∧ M' = M) := by
  have hz := zp_101
  have hE : hR_size M 20 = hR_size M 20 := rfl
  show zH n (0, 0) 101 (0, [zR 20], []) M _
  refine zH_blk (c' := (4, [zR 20], [.inl (M 20 3)])) 2 hz rfl ?_
  exact zH_ret hz rfl rfl (hfinP hE)
set_option maxRecDepth 100000 in
theorem fh_102_20 {n : Nat} {M : zM} (a1 : Int) : zH n (0, 0) 102 (0, zini [zR 20, .inl a1] 2, []) M (fun r M' => r = some (.inl (hR_has M 20 a1)) ∧ M' = M) := by
  have hz := zp_102
  have hE : hR_has M 20 a1 = hR_has M 20 a1 := rfl
  show zH n (0, 0) 102 (0, [zR 20, .inl a1], []) M _
  refine zH_blk (c' := (1, [zR 20, .inl a1], [.inl a1])) 1 hz rfl ?_
  refine zH_if_lt hz rfl (fun hb => ?_) (fun hb => ?_)
  · have hE := hE.trans (if_pos hb)
    refine zH_blk (c' := (17, [zR 20, .inl a1], [.inl 0])) 1 hz rfl ?_
    exact zH_zret hz rfl (hfinP hE)
  · have hE := hE.trans (if_neg hb)
    refine zH_blk (c' := (9, [zR 20, .inl a1], [.inl (M 20 3), .inl a1])) 3 hz rfl ?_
    refine zH_icmp_ge hz rfl (fun hb => ?_) (fun hb => ?_)
    · have hE := hE.trans (if_pos hb)
      refine zH_blk (c' := (17, [zR 20, .inl a1], [.inl 0])) 1 hz rfl ?_
      exact zH_zret hz rfl (hfinP hE)
    · have hE := hE.trans (if_neg hb)
      refine zH_blk (c' := (17, [zR 20, .inl a1], [.inl 1])) 2 hz rfl ?_
      exact zH_zret hz rfl (hfinP hE)
set_option maxRecDepth 100000 in
theorem fh_103_20 {n : Nat} {M : zM} : zH n (0, 0) 103 (0, zini [zR 20] 1, []) M (fun r M' => r = some (.inl (hR_open M 20).1) ∧ M' = (hR_open M 20).2) := by
  have hz := zp_103
  have hE : hR_open M 20 = hR_open M 20 := rfl
  show zH n (0, 0) 103 (0, [zR 20], []) M _
  refine zH_blk (c' := (8, [zR 20], [.inl (M 20 0), .inl (M 20 3)])) 4 hz rfl ?_
  refine zH_icmp_lt hz rfl (fun hb => ?_) (fun hb => ?_)
  · have hE := hE.trans (if_pos hb)
    refine zH_blk (c' := (30, [zR 20], [.inl (w32 (((zput M 20 3 (w32 ((M 20 3) + 1))) 20 3) - 1))])) 10 hz rfl ?_
    exact zH_ret hz rfl rfl (hfinB hE)
  · have hE := hE.trans (if_neg hb)
    refine zH_blk (c' := (13, [zR 20], [.inl (-4)])) 1 hz rfl ?_
    exact zH_ret hz rfl rfl (hfinB hE)
set_option maxRecDepth 100000 in
theorem fh_106_20 {n : Nat} {M : zM} (a1 : Int) (a2 : Int) : zH n (0, 0) 106 (0, zini [zR 20, .inl a1, .inl a2] 3, []) M (fun r M' => r = some (.inl (hR_get M 20 a1 a2)) ∧ M' = M) := by
  have hz := zp_106
  have hE : hR_get M 20 a1 a2 = hR_get M 20 a1 a2 := rfl
  show zH n (0, 0) 106 (0, [zR 20, .inl a1, .inl a2], []) M _
  refine zH_blk (c' := (1, [zR 20, .inl a1, .inl a2], [.inl a1])) 1 hz rfl ?_
  refine zH_if_lt hz rfl (fun hb => ?_) (fun hb => ?_)
  · have hE := hE.trans (if_pos hb)
    refine zH_blk (c' := (25, [zR 20, .inl a1, .inl a2], [.inl (-1)])) 1 hz rfl ?_
    exact zH_ret hz rfl rfl (hfinP hE)
  · have hE := hE.trans (if_neg hb)
    refine zH_blk (c' := (9, [zR 20, .inl a1, .inl a2], [.inl (M 20 0), .inl a1])) 3 hz rfl ?_
    refine zH_icmp_ge hz rfl (fun hb => ?_) (fun hb => ?_)
    · have hE := hE.trans (if_pos hb)
      refine zH_blk (c' := (25, [zR 20, .inl a1, .inl a2], [.inl (-1)])) 1 hz rfl ?_
      exact zH_ret hz rfl rfl (hfinP hE)
    · have hE := hE.trans (if_neg hb)
      refine zH_blk (c' := (13, [zR 20, .inl a1, .inl a2], [.inl a2])) 1 hz rfl ?_
      refine zH_if_lt hz rfl (fun hb => ?_) (fun hb => ?_)
      · have hE := hE.trans (if_pos hb)
        refine zH_blk (c' := (25, [zR 20, .inl a1, .inl a2], [.inl (-1)])) 1 hz rfl ?_
        exact zH_ret hz rfl rfl (hfinP hE)
      · have hE := hE.trans (if_neg hb)
        refine zH_blk (c' := (21, [zR 20, .inl a1, .inl a2], [.inl (M 20 1), .inl a2])) 3 hz rfl ?_
        refine zH_icmp_lt hz rfl (fun hb => ?_) (fun hb => ?_)
        · have hE := hE.trans (if_pos hb)
          refine zH_blk (c' := (38, [zR 20, .inl a1, .inl a2], [.inl (w32 ((w32 (a1 * (M 20 1))) + a2)), zR 21])) 8 hz rfl ?_
          refine zH_iald hz rfl rfl (.inl rfl) (fun _ => ?_)
          show zH n (0, 0) 106 (39, [zR 20, .inl a1, .inl a2], [.inl (M 21 (w32 ((w32 (a1 * (M 20 1))) + a2) : Int).toNat)]) M _
          exact zH_ret hz rfl rfl (hfinP hE)
        · have hE := hE.trans (if_neg hb)
          refine zH_blk (c' := (25, [zR 20, .inl a1, .inl a2], [.inl (-1)])) 1 hz rfl ?_
          exact zH_ret hz rfl rfl (hfinP hE)
set_option maxRecDepth 100000 in
theorem fh_107_20 {n : Nat} {M : zM} (a1 : Int) (a2 : Int) (a3 : Int) : zH n (0, 0) 107 (0, zini [zR 20, .inl a1, .inl a2, .inl a3] 4, []) M (fun r M' => r = none ∧ M' = hR_set M 20 a1 a2 a3) := by
  have hz := zp_107
  have hE : hR_set M 20 a1 a2 a3 = hR_set M 20 a1 a2 a3 := rfl
  show zH n (0, 0) 107 (0, [zR 20, .inl a1, .inl a2, .inl a3], []) M _
  refine zH_blk (c' := (1, [zR 20, .inl a1, .inl a2, .inl a3], [.inl a1])) 1 hz rfl ?_
  refine zH_if_lt hz rfl (fun hb => ?_) (fun hb => ?_)
  · have hE := hE.trans (if_pos hb)
    exact zH_ret hz rfl rfl ⟨rfl, hE.symm⟩
  · have hE := hE.trans (if_neg hb)
    refine zH_blk (c' := (9, [zR 20, .inl a1, .inl a2, .inl a3], [.inl (M 20 0), .inl a1])) 3 hz rfl ?_
    refine zH_icmp_ge hz rfl (fun hb => ?_) (fun hb => ?_)
    · have hE := hE.trans (if_pos hb)
      exact zH_ret hz rfl rfl ⟨rfl, hE.symm⟩
    · have hE := hE.trans (if_neg hb)
      refine zH_blk (c' := (13, [zR 20, .inl a1, .inl a2, .inl a3], [.inl a2])) 1 hz rfl ?_
      refine zH_if_lt hz rfl (fun hb => ?_) (fun hb => ?_)
      · have hE := hE.trans (if_pos hb)
        exact zH_ret hz rfl rfl ⟨rfl, hE.symm⟩
      · have hE := hE.trans (if_neg hb)
        refine zH_blk (c' := (21, [zR 20, .inl a1, .inl a2, .inl a3], [.inl (M 20 1), .inl a2])) 3 hz rfl ?_
        refine zH_icmp_lt hz rfl (fun hb => ?_) (fun hb => ?_)
        · have hE := hE.trans (if_pos hb)
          refine zH_blk (c' := (38, [zR 20, .inl a1, .inl a2, .inl a3], [.inl a3, .inl (w32 ((w32 (a1 * (M 20 1))) + a2)), zR 21])) 9 hz rfl ?_
          refine zH_iast hz rfl rfl (fun _ => ?_)
          show zH n (0, 0) 107 (39, [zR 20, .inl a1, .inl a2, .inl a3], []) (zput M 21 (w32 ((w32 (a1 * (M 20 1))) + a2) : Int).toNat a3) _
          exact zH_ret hz rfl rfl ⟨rfl, hE.symm⟩
        · have hE := hE.trans (if_neg hb)
          exact zH_ret hz rfl rfl ⟨rfl, hE.symm⟩
set_option maxRecDepth 100000 in
theorem fh_101_22 {n : Nat} {M : zM} : zH n (0, 0) 101 (0, zini [zR 22] 1, []) M (fun r M' => r = some (.inl (hR_size M 22)) ∧ M' = M) := by
  have hz := zp_101
  have hE : hR_size M 22 = hR_size M 22 := rfl
  show zH n (0, 0) 101 (0, [zR 22], []) M _
  refine zH_blk (c' := (4, [zR 22], [.inl (M 22 3)])) 2 hz rfl ?_
  exact zH_ret hz rfl rfl (hfinP hE)
set_option maxRecDepth 100000 in
theorem fh_102_22 {n : Nat} {M : zM} (a1 : Int) : zH n (0, 0) 102 (0, zini [zR 22, .inl a1] 2, []) M (fun r M' => r = some (.inl (hR_has M 22 a1)) ∧ M' = M) := by
  have hz := zp_102
  have hE : hR_has M 22 a1 = hR_has M 22 a1 := rfl
  show zH n (0, 0) 102 (0, [zR 22, .inl a1], []) M _
  refine zH_blk (c' := (1, [zR 22, .inl a1], [.inl a1])) 1 hz rfl ?_
  refine zH_if_lt hz rfl (fun hb => ?_) (fun hb => ?_)
  · have hE := hE.trans (if_pos hb)
    refine zH_blk (c' := (17, [zR 22, .inl a1], [.inl 0])) 1 hz rfl ?_
    exact zH_zret hz rfl (hfinP hE)
  · have hE := hE.trans (if_neg hb)
    refine zH_blk (c' := (9, [zR 22, .inl a1], [.inl (M 22 3), .inl a1])) 3 hz rfl ?_
    refine zH_icmp_ge hz rfl (fun hb => ?_) (fun hb => ?_)
    · have hE := hE.trans (if_pos hb)
      refine zH_blk (c' := (17, [zR 22, .inl a1], [.inl 0])) 1 hz rfl ?_
      exact zH_zret hz rfl (hfinP hE)
    · have hE := hE.trans (if_neg hb)
      refine zH_blk (c' := (17, [zR 22, .inl a1], [.inl 1])) 2 hz rfl ?_
      exact zH_zret hz rfl (hfinP hE)
set_option maxRecDepth 100000 in
theorem fh_103_22 {n : Nat} {M : zM} : zH n (0, 0) 103 (0, zini [zR 22] 1, []) M (fun r M' => r = some (.inl (hR_open M 22).1) ∧ M' = (hR_open M 22).2) := by
  have hz := zp_103
  have hE : hR_open M 22 = hR_open M 22 := rfl
  show zH n (0, 0) 103 (0, [zR 22], []) M _
  refine zH_blk (c' := (8, [zR 22], [.inl (M 22 0), .inl (M 22 3)])) 4 hz rfl ?_
  refine zH_icmp_lt hz rfl (fun hb => ?_) (fun hb => ?_)
  · have hE := hE.trans (if_pos hb)
    refine zH_blk (c' := (30, [zR 22], [.inl (w32 (((zput M 22 3 (w32 ((M 22 3) + 1))) 22 3) - 1))])) 10 hz rfl ?_
    exact zH_ret hz rfl rfl (hfinB hE)
  · have hE := hE.trans (if_neg hb)
    refine zH_blk (c' := (13, [zR 22], [.inl (-4)])) 1 hz rfl ?_
    exact zH_ret hz rfl rfl (hfinB hE)
set_option maxRecDepth 100000 in
theorem fh_106_22 {n : Nat} {M : zM} (a1 : Int) (a2 : Int) : zH n (0, 0) 106 (0, zini [zR 22, .inl a1, .inl a2] 3, []) M (fun r M' => r = some (.inl (hR_get M 22 a1 a2)) ∧ M' = M) := by
  have hz := zp_106
  have hE : hR_get M 22 a1 a2 = hR_get M 22 a1 a2 := rfl
  show zH n (0, 0) 106 (0, [zR 22, .inl a1, .inl a2], []) M _
  refine zH_blk (c' := (1, [zR 22, .inl a1, .inl a2], [.inl a1])) 1 hz rfl ?_
  refine zH_if_lt hz rfl (fun hb => ?_) (fun hb => ?_)
  · have hE := hE.trans (if_pos hb)
    refine zH_blk (c' := (25, [zR 22, .inl a1, .inl a2], [.inl (-1)])) 1 hz rfl ?_
    exact zH_ret hz rfl rfl (hfinP hE)
  · have hE := hE.trans (if_neg hb)
    refine zH_blk (c' := (9, [zR 22, .inl a1, .inl a2], [.inl (M 22 0), .inl a1])) 3 hz rfl ?_
    refine zH_icmp_ge hz rfl (fun hb => ?_) (fun hb => ?_)
    · have hE := hE.trans (if_pos hb)
      refine zH_blk (c' := (25, [zR 22, .inl a1, .inl a2], [.inl (-1)])) 1 hz rfl ?_
      exact zH_ret hz rfl rfl (hfinP hE)
    · have hE := hE.trans (if_neg hb)
      refine zH_blk (c' := (13, [zR 22, .inl a1, .inl a2], [.inl a2])) 1 hz rfl ?_
      refine zH_if_lt hz rfl (fun hb => ?_) (fun hb => ?_)
      · have hE := hE.trans (if_pos hb)
        refine zH_blk (c' := (25, [zR 22, .inl a1, .inl a2], [.inl (-1)])) 1 hz rfl ?_
        exact zH_ret hz rfl rfl (hfinP hE)
      · have hE := hE.trans (if_neg hb)
        refine zH_blk (c' := (21, [zR 22, .inl a1, .inl a2], [.inl (M 22 1), .inl a2])) 3 hz rfl ?_
        refine zH_icmp_lt hz rfl (fun hb => ?_) (fun hb => ?_)
        · have hE := hE.trans (if_pos hb)
          refine zH_blk (c' := (38, [zR 22, .inl a1, .inl a2], [.inl (w32 ((w32 (a1 * (M 22 1))) + a2)), zR 23])) 8 hz rfl ?_
          refine zH_iald hz rfl rfl (.inl rfl) (fun _ => ?_)
          show zH n (0, 0) 106 (39, [zR 22, .inl a1, .inl a2], [.inl (M 23 (w32 ((w32 (a1 * (M 22 1))) + a2) : Int).toNat)]) M _
          exact zH_ret hz rfl rfl (hfinP hE)
        · have hE := hE.trans (if_neg hb)
          refine zH_blk (c' := (25, [zR 22, .inl a1, .inl a2], [.inl (-1)])) 1 hz rfl ?_
          exact zH_ret hz rfl rfl (hfinP hE)
set_option maxRecDepth 100000 in
theorem fh_107_22 {n : Nat} {M : zM} (a1 : Int) (a2 : Int) (a3 : Int) : zH n (0, 0) 107 (0, zini [zR 22, .inl a1, .inl a2, .inl a3] 4, []) M (fun r M' => r = none ∧ M' = hR_set M 22 a1 a2 a3) := by
  have hz := zp_107
  have hE : hR_set M 22 a1 a2 a3 = hR_set M 22 a1 a2 a3 := rfl
  show zH n (0, 0) 107 (0, [zR 22, .inl a1, .inl a2, .inl a3], []) M _
  refine zH_blk (c' := (1, [zR 22, .inl a1, .inl a2, .inl a3], [.inl a1])) 1 hz rfl ?_
  refine zH_if_lt hz rfl (fun hb => ?_) (fun hb => ?_)
  · have hE := hE.trans (if_pos hb)
    exact zH_ret hz rfl rfl ⟨rfl, hE.symm⟩
  · have hE := hE.trans (if_neg hb)
    refine zH_blk (c' := (9, [zR 22, .inl a1, .inl a2, .inl a3], [.inl (M 22 0), .inl a1])) 3 hz rfl ?_
    refine zH_icmp_ge hz rfl (fun hb => ?_) (fun hb => ?_)
    · have hE := hE.trans (if_pos hb)
      exact zH_ret hz rfl rfl ⟨rfl, hE.symm⟩
    · have hE := hE.trans (if_neg hb)
      refine zH_blk (c' := (13, [zR 22, .inl a1, .inl a2, .inl a3], [.inl a2])) 1 hz rfl ?_
      refine zH_if_lt hz rfl (fun hb => ?_) (fun hb => ?_)
      · have hE := hE.trans (if_pos hb)
        exact zH_ret hz rfl rfl ⟨rfl, hE.symm⟩
      · have hE := hE.trans (if_neg hb)
        refine zH_blk (c' := (21, [zR 22, .inl a1, .inl a2, .inl a3], [.inl (M 22 1), .inl a2])) 3 hz rfl ?_
        refine zH_icmp_lt hz rfl (fun hb => ?_) (fun hb => ?_)
        · have hE := hE.trans (if_pos hb)
          refine zH_blk (c' := (38, [zR 22, .inl a1, .inl a2, .inl a3], [.inl a3, .inl (w32 ((w32 (a1 * (M 22 1))) + a2)), zR 23])) 9 hz rfl ?_
          refine zH_iast hz rfl rfl (fun _ => ?_)
          show zH n (0, 0) 107 (39, [zR 22, .inl a1, .inl a2, .inl a3], []) (zput M 23 (w32 ((w32 (a1 * (M 22 1))) + a2) : Int).toNat a3) _
          exact zH_ret hz rfl rfl ⟨rfl, hE.symm⟩
        · have hE := hE.trans (if_neg hb)
          exact zH_ret hz rfl rfl ⟨rfl, hE.symm⟩
set_option maxRecDepth 100000 in
theorem fh_101_24 {n : Nat} {M : zM} : zH n (0, 0) 101 (0, zini [zR 24] 1, []) M (fun r M' => r = some (.inl (hR_size M 24)) ∧ M' = M) := by
  have hz := zp_101
  have hE : hR_size M 24 = hR_size M 24 := rfl
  show zH n (0, 0) 101 (0, [zR 24], []) M _
  refine zH_blk (c' := (4, [zR 24], [.inl (M 24 3)])) 2 hz rfl ?_
  exact zH_ret hz rfl rfl (hfinP hE)
set_option maxRecDepth 100000 in
theorem fh_102_24 {n : Nat} {M : zM} (a1 : Int) : zH n (0, 0) 102 (0, zini [zR 24, .inl a1] 2, []) M (fun r M' => r = some (.inl (hR_has M 24 a1)) ∧ M' = M) := by
  have hz := zp_102
  have hE : hR_has M 24 a1 = hR_has M 24 a1 := rfl
  show zH n (0, 0) 102 (0, [zR 24, .inl a1], []) M _
  refine zH_blk (c' := (1, [zR 24, .inl a1], [.inl a1])) 1 hz rfl ?_
  refine zH_if_lt hz rfl (fun hb => ?_) (fun hb => ?_)
  · have hE := hE.trans (if_pos hb)
    refine zH_blk (c' := (17, [zR 24, .inl a1], [.inl 0])) 1 hz rfl ?_
    exact zH_zret hz rfl (hfinP hE)
  · have hE := hE.trans (if_neg hb)
    refine zH_blk (c' := (9, [zR 24, .inl a1], [.inl (M 24 3), .inl a1])) 3 hz rfl ?_
    refine zH_icmp_ge hz rfl (fun hb => ?_) (fun hb => ?_)
    · have hE := hE.trans (if_pos hb)
      refine zH_blk (c' := (17, [zR 24, .inl a1], [.inl 0])) 1 hz rfl ?_
      exact zH_zret hz rfl (hfinP hE)
    · have hE := hE.trans (if_neg hb)
      refine zH_blk (c' := (17, [zR 24, .inl a1], [.inl 1])) 2 hz rfl ?_
      exact zH_zret hz rfl (hfinP hE)
set_option maxRecDepth 100000 in
theorem fh_103_24 {n : Nat} {M : zM} : zH n (0, 0) 103 (0, zini [zR 24] 1, []) M (fun r M' => r = some (.inl (hR_open M 24).1) ∧ M' = (hR_open M 24).2) := by
  have hz := zp_103
  have hE : hR_open M 24 = hR_open M 24 := rfl
  show zH n (0, 0) 103 (0, [zR 24], []) M _
  refine zH_blk (c' := (8, [zR 24], [.inl (M 24 0), .inl (M 24 3)])) 4 hz rfl ?_
  refine zH_icmp_lt hz rfl (fun hb => ?_) (fun hb => ?_)
  · have hE := hE.trans (if_pos hb)
    refine zH_blk (c' := (30, [zR 24], [.inl (w32 (((zput M 24 3 (w32 ((M 24 3) + 1))) 24 3) - 1))])) 10 hz rfl ?_
    exact zH_ret hz rfl rfl (hfinB hE)
  · have hE := hE.trans (if_neg hb)
    refine zH_blk (c' := (13, [zR 24], [.inl (-4)])) 1 hz rfl ?_
    exact zH_ret hz rfl rfl (hfinB hE)
set_option maxRecDepth 100000 in
theorem fh_106_24 {n : Nat} {M : zM} (a1 : Int) (a2 : Int) : zH n (0, 0) 106 (0, zini [zR 24, .inl a1, .inl a2] 3, []) M (fun r M' => r = some (.inl (hR_get M 24 a1 a2)) ∧ M' = M) := by
  have hz := zp_106
  have hE : hR_get M 24 a1 a2 = hR_get M 24 a1 a2 := rfl
  show zH n (0, 0) 106 (0, [zR 24, .inl a1, .inl a2], []) M _
  refine zH_blk (c' := (1, [zR 24, .inl a1, .inl a2], [.inl a1])) 1 hz rfl ?_
  refine zH_if_lt hz rfl (fun hb => ?_) (fun hb => ?_)
  · have hE := hE.trans (if_pos hb)
    refine zH_blk (c' := (25, [zR 24, .inl a1, .inl a2], [.inl (-1)])) 1 hz rfl ?_
    exact zH_ret hz rfl rfl (hfinP hE)
  · have hE := hE.trans (if_neg hb)
    refine zH_blk (c' := (9, [zR 24, .inl a1, .inl a2], [.inl (M 24 0), .inl a1])) 3 hz rfl ?_
    refine zH_icmp_ge hz rfl (fun hb => ?_) (fun hb => ?_)
    · have hE := hE.trans (if_pos hb)
      refine zH_blk (c' := (25, [zR 24, .inl a1, .inl a2], [.inl (-1)])) 1 hz rfl ?_
      exact zH_ret hz rfl rfl (hfinP hE)
    · have hE := hE.trans (if_neg hb)
      refine zH_blk (c' := (13, [zR 24, .inl a1, .inl a2], [.inl a2])) 1 hz rfl ?_
      refine zH_if_lt hz rfl (fun hb => ?_) (fun hb => ?_)
      · have hE := hE.trans (if_pos hb)
        refine zH_blk (c' := (25, [zR 24, .inl a1, .inl a2], [.inl (-1)])) 1 hz rfl ?_
        exact zH_ret hz rfl rfl (hfinP hE)
      · have hE := hE.trans (if_neg hb)
        refine zH_blk (c' := (21, [zR 24, .inl a1, .inl a2], [.inl (M 24 1), .inl a2])) 3 hz rfl ?_
        refine zH_icmp_lt hz rfl (fun hb => ?_) (fun hb => ?_)
        · have hE := hE.trans (if_pos hb)
          refine zH_blk (c' := (38, [zR 24, .inl a1, .inl a2], [.inl (w32 ((w32 (a1 * (M 24 1))) + a2)), zR 25])) 8 hz rfl ?_
          refine zH_iald hz rfl rfl (.inl rfl) (fun _ => ?_)
          show zH n (0, 0) 106 (39, [zR 24, .inl a1, .inl a2], [.inl (M 25 (w32 ((w32 (a1 * (M 24 1))) + a2) : Int).toNat)]) M _
          exact zH_ret hz rfl rfl (hfinP hE)
        · have hE := hE.trans (if_neg hb)
          refine zH_blk (c' := (25, [zR 24, .inl a1, .inl a2], [.inl (-1)])) 1 hz rfl ?_
          exact zH_ret hz rfl rfl (hfinP hE)
set_option maxRecDepth 100000 in
theorem fh_107_24 {n : Nat} {M : zM} (a1 : Int) (a2 : Int) (a3 : Int) : zH n (0, 0) 107 (0, zini [zR 24, .inl a1, .inl a2, .inl a3] 4, []) M (fun r M' => r = none ∧ M' = hR_set M 24 a1 a2 a3) := by
  have hz := zp_107
  have hE : hR_set M 24 a1 a2 a3 = hR_set M 24 a1 a2 a3 := rfl
  show zH n (0, 0) 107 (0, [zR 24, .inl a1, .inl a2, .inl a3], []) M _
  refine zH_blk (c' := (1, [zR 24, .inl a1, .inl a2, .inl a3], [.inl a1])) 1 hz rfl ?_
  refine zH_if_lt hz rfl (fun hb => ?_) (fun hb => ?_)
  · have hE := hE.trans (if_pos hb)
    exact zH_ret hz rfl rfl ⟨rfl, hE.symm⟩
  · have hE := hE.trans (if_neg hb)
    refine zH_blk (c' := (9, [zR 24, .inl a1, .inl a2, .inl a3], [.inl (M 24 0), .inl a1])) 3 hz rfl ?_
    refine zH_icmp_ge hz rfl (fun hb => ?_) (fun hb => ?_)
    · have hE := hE.trans (if_pos hb)
      exact zH_ret hz rfl rfl ⟨rfl, hE.symm⟩
    · have hE := hE.trans (if_neg hb)
      refine zH_blk (c' := (13, [zR 24, .inl a1, .inl a2, .inl a3], [.inl a2])) 1 hz rfl ?_
      refine zH_if_lt hz rfl (fun hb => ?_) (fun hb => ?_)
      · have hE := hE.trans (if_pos hb)
        exact zH_ret hz rfl rfl ⟨rfl, hE.symm⟩
      · have hE := hE.trans (if_neg hb)
        refine zH_blk (c' := (21, [zR 24, .inl a1, .inl a2, .inl a3], [.inl (M 24 1), .inl a2])) 3 hz rfl ?_
        refine zH_icmp_lt hz rfl (fun hb => ?_) (fun hb => ?_)
        · have hE := hE.trans (if_pos hb)
          refine zH_blk (c' := (38, [zR 24, .inl a1, .inl a2, .inl a3], [.inl a3, .inl (w32 ((w32 (a1 * (M 24 1))) + a2)), zR 25])) 9 hz rfl ?_
          refine zH_iast hz rfl rfl (fun _ => ?_)
          show zH n (0, 0) 107 (39, [zR 24, .inl a1, .inl a2, .inl a3], []) (zput M 25 (w32 ((w32 (a1 * (M 24 1))) + a2) : Int).toNat a3) _
          exact zH_ret hz rfl rfl ⟨rfl, hE.symm⟩
        · have hE := hE.trans (if_neg hb)
          exact zH_ret hz rfl rfl ⟨rfl, hE.symm⟩
