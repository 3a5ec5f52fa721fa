set_option maxRecDepth 100000 in
theorem fh_101_14 {n : Nat} {M : zM} : zH n (0, 0) 101 (0, zini [zR 14] 1, []) M (fun r M' => r = some (.inl (hR_size M 14)) ∧ M' = M) := by
  have hz := zp_101
  have hE : hR_size M 14 = hR_size M 14 := rfl
  show zH n (0, 0) 101 (0, [zR 14], []) M _
  refine zH_blk (c' := (4, [zR 14], [.inl (M 14 3)])) 2 hz rfl ?_
  exact zH_ret hz rfl rfl (hfinP hE)
set_option maxRecDepth 100000 in
theorem fh_102_14 {n : Nat} {M : zM} (a1 : Int) : zH n (0, 0) 102 (0, zini [zR 14, .inl a1] 2, []) M (fun r M' => r = some (.inl (hR_has M 14 a1)) ∧ M' = M) := by
  have hz := zp_102
  have hE : hR_has M 14 a1 = hR_has M 14 a1 := rfl
  show zH n (0, 0) 102 (0, [zR 14, .inl a1], []) M _
  refine zH_blk (c' := (1, [zR 14, .inl a1], [.inl a1])) 1 hz rfl ?_
  refine zH_if_lt hz rfl (fun hb => ?_) (fun hb => ?_)
  · have hE := hE.trans (if_pos hb)
    refine zH_blk (c' := (17, [zR 14, .inl a1], [.inl 0])) 1 hz rfl ?_
    exact zH_zret hz rfl (hfinP hE)
  · have hE := hE.trans (if_neg hb)
    refine zH_blk (c' := (9, [zR 14, .inl a1], [.inl (M 14 3), .inl a1])) 3 hz rfl ?_
    refine zH_icmp_ge hz rfl (fun hb => ?_) (fun hb => ?_)
    · have hE := hE.trans (if_pos hb)
      refine zH_blk (c' := (17, [zR 14, .inl a1], [.inl 0])) 1 hz rfl ?_
      exact zH_zret hz rfl (hfinP hE)
    · have hE := hE.trans (if_neg hb)
      refine zH_blk (c' := (17, [zR 14, .inl a1], [.inl 1])) 2 hz rfl ?_
      exact zH_zret hz rfl (hfinP hE)
set_option maxRecDepth 100000 in
theorem fh_103_14 {n : Nat} {M : zM} : zH n (0, 0) 103 (0, zini [zR 14] 1, []) M (fun r M' => r = some (.inl (hR_open M 14).1) ∧ M' = (hR_open M 14).2) := by
  have hz := zp_103
  have hE : hR_open M 14 = hR_open M 14 := rfl
  show zH n (0, 0) 103 (0, [zR 14], []) M _
  refine zH_blk (c' := (8, [zR 14], [.inl (M 14 0), .inl (M 14 3)])) 4 hz rfl ?_
  refine zH_icmp_lt hz rfl (fun hb => ?_) (fun hb => ?_)
  · have hE := hE.trans (if_pos hb)
    refine zH_blk (c' := (30, [zR 14], [.inl (w32 (((zput M 14 3 (w32 ((M 14 3) + 1))) 14 3) - 1))])) 10 hz rfl ?_
    exact zH_ret hz rfl rfl (hfinB hE)
  · have hE := hE.trans (if_neg hb)
    refine zH_blk (c' := (13, [zR 14], [.inl (-4)])) 1 hz rfl ?_
    exact zH_ret hz rfl rfl (hfinB hE)
set_option maxRecDepth 100000 in
theorem fh_106_14 {n : Nat} {M : zM} (a1 : Int) (a2 : Int) : zH n (0, 0) 106 (0, zini [zR 14, .inl a1, .inl a2] 3, []) M (fun r M' => r = some (.inl (hR_get M 14 a1 a2)) ∧ M' = M) := by
  have hz := zp_106
  have hE : hR_get M 14 a1 a2 = hR_get M 14 a1 a2 := rfl
  show zH n (0, 0) 106 (0, [zR 14, .inl a1, .inl a2], []) M _
  refine zH_blk (c' := (1, [zR 14, .inl a1, .inl a2], [.inl a1])) 1 hz rfl ?_
  refine zH_if_lt hz rfl (fun hb => ?_) (fun hb => ?_)
  · have hE := hE.trans (if_pos hb)
    refine zH_blk (c' := (25, [zR 14, .inl a1, .inl a2], [.inl (-1)])) 1 hz rfl ?_
    exact zH_ret hz rfl rfl (hfinP hE)
  · have hE := hE.trans (if_neg hb)
    refine zH_blk (c' := (9, [zR 14, .inl a1, .inl a2], [.inl (M 14 0), .inl a1])) 3 hz rfl ?_
    refine zH_icmp_ge hz rfl (fun hb => ?_) (fun hb => ?_)
    · have hE := hE.trans (if_pos hb)
      refine zH_blk (c' := (25, [zR 14, .inl a1, .inl a2], [.inl (-1)])) 1 hz rfl ?_
      exact zH_ret hz rfl rfl (hfinP hE)
    · have hE := hE.trans (if_neg hb)
      refine zH_blk (c' := (13, [zR 14, .inl a1, .inl a2], [.inl a2])) 1 hz rfl ?_
      refine zH_if_lt hz rfl (fun hb => ?_) (fun hb => ?_)
      · have hE := hE.trans (if_pos hb)
        refine zH_blk (c' := (25, [zR 14, .inl a1, .inl a2], [.inl (-1)])) 1 hz rfl ?_
        exact zH_ret hz rfl rfl (hfinP hE)
      · have hE := hE.trans (if_neg hb)
        refine zH_blk (c' := (21, [zR 14, .inl a1, .inl a2], [.inl (M 14 1), .inl a2])) 3 hz rfl ?_
        refine zH_icmp_lt hz rfl (fun hb => ?_) (fun hb => ?_)
        · have hE := hE.trans (if_pos hb)
          refine zH_blk (c' := (38, [zR 14, .inl a1, .inl a2], [.inl (w32 ((w32 (a1 * (M 14 1))) + a2)), zR 15])) 8 hz rfl ?_
          refine zH_iald hz rfl rfl (.inl rfl) (fun _ => ?_)
          show zH n (0, 0) 106 (39, [zR 14, .inl a1, .inl a2], [.inl (M 15 (w32 ((w32 (a1 * (M 14 1))) + a2) : Int).toNat)]) M _
          exact zH_ret hz rfl rfl (hfinP hE)
        · have hE := hE.trans (if_neg hb)
          refine zH_blk (c' := (25, [zR 14, .inl a1, .inl a2], [.inl (-1)])) 1 hz rfl ?_
          exact zH_ret hz rfl rfl (hfinP hE)
set_option maxRecDepth 100000 in
theorem fh_107_14 {n : Nat} {M : zM} (a1 : Int) (a2 : Int) (a3 : Int) : zH n (0, 0) 107 (0, zini [zR 14, .inl a1, .inl a2, .inl a3] 4, []) M (fun r M' => r = none ∧ M' = hR_set M 14 a1 a2 a3) := by
  have hz := zp_107
  have hE : hR_set M 14 a1 a2 a3 = hR_set M 14 a1 a2 a3 := rfl
  show zH n (0, 0) 107 (0, [zR 14, .inl a1, .inl a2, .inl a3], []) M _
  refine zH_blk (c' := (1, [zR 14, .inl a1, .inl a2, .inl a3], [.inl a1])) 1 hz rfl ?_
  refine zH_if_lt hz rfl (fun hb => ?_) (fun hb => ?_)
  · have hE := hE.trans (if_pos hb)
    exact zH_ret hz rfl rfl ⟨rfl, hE.symm⟩
  · have hE := hE.trans (if_neg hb)
    refine zH_blk (c' := (9, [zR 14, .inl a1, .inl a2, .inl a3], [.inl (M 14 0), .inl a1])) 3 hz rfl ?_
    refine zH_icmp_ge hz rfl (fun hb => ?_) (fun hb => ?_)
    · have hE := hE.trans (if_pos hb)
      exact zH_ret hz rfl rfl ⟨rfl, hE.symm⟩
    · have hE := hE.trans (if_neg hb)
      refine zH_blk (c' := (13, [zR 14, .inl a1, .inl a2, .inl a3], [.inl a2])) 1 hz rfl ?_
      refine zH_if_lt hz rfl (fun hb => ?_) (fun hb => ?_)
      · have hE := hE.trans (if_pos hb)
        exact zH_ret hz rfl rfl ⟨rfl, hE.symm⟩
      · have hE := hE.trans (if_neg hb)
        refine zH_blk (c' := (21, [zR 14, .inl a1, .inl a2, .inl a3], [.inl (M 14 1), .inl a2])) 3 hz rfl ?_
        refine zH_icmp_lt hz rfl (fun hb => ?_) (fun hb => ?_)
        · have hE := hE.trans (if_pos hb)
          refine zH_blk (c' := (38, [zR 14, .inl a1, .inl a2, .inl a3], [.inl a3, .inl (w32 ((w32 (a1 * (M 14 1))) + a2)), zR 15])) 9 hz rfl ?_
          refine zH_iast hz rfl rfl (fun _ => ?_)
          show zH n (0, 0) 107 (39, [zR 14, .inl a1, .inl a2, .inl a3], []) (zput M 15 (w32 ((w32 (a1 * (M 14 1))) + a2) : Int).toNat a3) _
          exact zH_ret hz rfl rfl ⟨rfl, hE.symm⟩
        · have hE := hE.trans (if_neg hb)
          exact zH_ret hz rfl rfl ⟨rfl, hE.symm⟩
set_option maxRecDepth 100000 in
theorem fh_101_16 {n : Nat} {M : zM} : zH n (0, 0) 101 (0, zini [zR 16] 1, []) M (fun r M' => r = some (.inl (hR_size M 16)) ∧ M' = M) := by
  have hz := zp_101
  have hE : hR_size M 16 = hR_size M 16 := rfl
  show zH n (0, 0) 101 (0, [zR 16], []) M _
  refine zH_blk (c' := (4, [zR 16], [.inl (M 16 3)])) 2 hz rfl ?_
  exact zH_ret hz rfl rfl (hfinP hE)
set_option maxRecDepth 100000 in
theorem fh_102_16 {n : Nat} {M : zM} (a1 : Int) : zH n (0, 0) 102 (0, zini [zR 16, .inl a1] 2, []) M (fun r M' => r = some (.inl (hR_has M 16 a1)) ∧ M' = M) := by
  have hz := zp_102
  have hE : hR_has M 16 a1 = hR_has M 16 a1 := rfl
  show zH n (0, 0) 102 (0, [zR 16, .inl a1], []) M _
  refine zH_blk (c' := (1, [zR 16, .inl a1], [.inl a1])) 1 hz rfl ?_
  refine zH_if_lt hz rfl (fun hb => ?_) (fun hb => ?_)
  · have hE := hE.trans (if_pos hb)
    refine zH_blk (c' := (17, [zR 16, .inl a1], [.inl 0])) 1 hz rfl ?_
    exact zH_zret hz rfl (hfinP hE)
  · have hE := hE.trans (if_neg hb)
    refine zH_blk (c' := (9, [zR 16, .inl a1], [.inl (M 16 3), .inl a1])) 3 hz rfl ?_
    refine zH_icmp_ge hz rfl (fun hb => ?_) (fun hb => ?_)
    · have hE := hE.trans (if_pos hb)
      refine zH_blk (c' := (17, [zR 16, .inl a1], [.inl 0])) 1 hz rfl ?_
      exact zH_zret hz rfl (hfinP hE)
    · have hE := hE.trans (if_neg hb)
      refine zH_blk (c' := (17, [zR 16, .inl a1], [.inl 1])) 2 hz rfl ?_
      exact zH_zret hz rfl (hfinP hE)
set_option maxRecDepth 100000 in
theorem fh_103_16 {n : Nat} {M : zM} : zH n (0, 0) 103 (0, zini [zR 16] 1, []) M (fun r M' => r = some (.inl (hR_open M 16).1) ∧ M' = (hR_open M 16).2) := by
  have hz := zp_103
  have hE : hR_open M 16 = hR_open M 16 := rfl
  show zH n (0, 0) 103 (0, [zR 16], []) M _
  refine zH_blk (c' := (8, [zR 16], [.inl (M 16 0), .inl (M 16 3)])) 4 hz rfl ?_
  refine zH_icmp_lt hz rfl (fun hb => ?_) (fun hb => ?_)
  · have hE := hE.trans (if_pos hb)
    refine zH_blk (c' := (30, [zR 16], [.inl (w32 (((zput M 16 3 (w32 ((M 16 3) + 1))) 16 3) - 1))])) 10 hz rfl ?_
    exact zH_ret hz rfl rfl (hfinB hE)
  · have hE := hE.trans (if_neg hb)
    refine zH_blk (c' := (13, [zR 16], [.inl (-4)])) 1 hz rfl ?_
    exact zH_ret hz rfl rfl (hfinB hE)
set_option maxRecDepth 100000 in
theorem fh_106_16 {n : Nat} {M : zM} (a1 : Int) (a2 : Int) : zH n (0, 0) 106 (0, zini [zR 16, .inl a1, .inl a2] 3, []) M (fun r M' => r = some (.inl (hR_get M 16 a1 a2)) ∧ M' = M) := by
  have hz := zp_106
  have hE : hR_get M 16 a1 a2 = hR_get M 16 a1 a2 := rfl
  show zH n (0, 0) 106 (0, [zR 16, .inl a1, .inl a2], []) M _
  refine zH_blk (c' := (1, [zR 16, .inl a1, .inl a2], [.inl a1])) 1 hz rfl ?_
  refine zH_if_lt hz rfl (fun hb => ?_) (fun hb => ?_)
  · have hE := hE.trans (if_pos hb)
    refine zH_blk (c' := (25, [zR 16, .inl a1, .inl a2], [.inl (-1)])) 1 hz rfl ?_
    exact zH_ret hz rfl rfl (hfinP hE)
  · have hE := hE.trans (if_neg hb)
    refine zH_blk (c' := (9, [zR 16, .inl a1, .inl a2], [.inl (M 16 0), .inl a1])) 3 hz rfl ?_
    refine zH_icmp_ge hz rfl (fun hb => ?_) (fun hb => ?_)
    · have hE := hE.trans (if_pos hb)
      refine zH_blk (c' := (25, [zR 16, .inl a1, .inl a2], [.inl (-1)])) 1 hz rfl ?_
      exact zH_ret hz rfl rfl (hfinP hE)
    · have hE := hE.trans (if_neg hb)
      refine zH_blk (c' := (13, [zR 16, .inl a1, .inl a2], [.inl a2])) 1 hz rfl ?_
      refine zH_if_lt hz rfl (fun hb => ?_) (fun hb => ?_)
      · have hE := hE.trans (if_pos hb)
        refine zH_blk (c' := (25, [zR 16, .inl a1, .inl a2], [.inl (-1)])) 1 hz rfl ?_
        exact zH_ret hz rfl rfl (hfinP hE)
      · have hE := hE.trans (if_neg hb)
        refine zH_blk (c' := (21, [zR 16, .inl a1, .inl a2], [.inl (M 16 1), .inl a2])) 3 hz rfl ?_
        refine zH_icmp_lt hz rfl (fun hb => ?_) (fun hb => ?_)
        · have hE := hE.trans (if_pos hb)
          refine zH_blk (c' := (38, [zR 16, .inl a1, .inl a2], [.inl (w32 ((w32 (a1 * (M 16 1))) + a2)), zR 17])) 8 hz rfl ?_
          refine zH_iald hz rfl rfl (.inl rfl) (fun _ => ?_)
          show zH n (0, 0) 106 (39, [zR 16, .inl a1, .inl a2], [.inl (M 17 (w32 ((w32 (a1 * (M 16 1))) + a2) : Int).toNat)]) M _
          exact zH_ret hz rfl rfl (hfinP hE)
        · have hE := hE.trans (if_neg hb)
          refine zH_blk (c' := (25, [zR 16, .inl a1, .inl a2], [.inl (-1)])) 1 hz rfl ?_
          exact zH_ret hz rfl rfl (hfinP hE)
set_option maxRecDepth 100000 in
theorem fh_107_16 {n : Nat} {M : zM} (a1 : Int) (a2 : Int) (a3 : Int) : zH n (0, 0) 107 (0, zini [zR 16, .inl a1, .inl a2, .inl a3] 4, []) M (fun r M' => r = none ∧ M' = hR_set M 16 a1 a2 a3) := by
  have hz := zp_107
  have hE : hR_set M 16 a1 a2 a3 = hR_set M 16 a1 a2 a3 := rfl
  show zH n (0, 0) 107 (0, [zR 16, .inl a1, .inl a2, .inl a3], []) M _
  refine zH_blk (c' := (1, [zR 16, .inl a1, .inl a2, .inl a3], [.inl a1])) 1 hz rfl ?_
  refine zH_if_lt hz rfl (fun hb => ?_) (fun hb => ?_)
  · have hE := hE.trans (if_pos hb)
    exact zH_ret hz rfl rfl ⟨rfl, hE.symm⟩
  · have hE := hE.trans (if_neg hb)
    refine zH_blk (c' := (9, [zR 16, .inl a1, .inl a2, .inl a3], [.inl (M 16 0), .inl a1])) 3 hz rfl ?_
    refine zH_icmp_ge hz rfl (fun hb => ?_) (fun hb => ?_)
    · have hE := hE.trans (if_pos hb)
      exact zH_ret hz rfl rfl ⟨rfl, hE.symm⟩
    · have hE := hE.trans (if_neg hb)
      refine zH_blk (c' := (13, [zR 16, .inl a1, .inl a2, .inl a3], [.inl a2])) 1 hz rfl ?_
      refine zH_if_lt hz rfl (fun hb => ?_) (fun hb => ?_)
      · have hE := hE.trans (if_pos hb)
        exact zH_ret hz rfl rfl ⟨rfl, hE.symm⟩
      · have hE := hE.trans (if_neg hb)
        refine zH_blk (c' := (21, [zR 16, .inl a1, .inl a2, .inl a3], [.inl (M 16 1), .inl a2])) 3 hz rfl ?_
        refine zH_icmp_lt hz rfl (fun hb => ?_) (fun hb => ?_)
        · have hE := hE.trans (if_pos hb)
          refine zH_blk (c' := (38, [zR 16, .inl a1, .inl a2, .inl a3], [.inl a3, .inl (w32 ((w32 (a1 * (M 16 1))) + a2)), zR 17])) 9 hz rfl ?_
          refine zH_iast hz rfl rfl (fun _ => ?_)
          show zH n (0, 0) 107 (39, [zR 16, .inl a1, .inl a2, .inl a3], []) (zput M 17 (w32 ((w32 (a1 * (M 16 1))) + a2) : Int).toNat a3) _
          exact zH_ret hz rfl rfl ⟨rfl, hE.symm⟩
        · have hE := hE.trans (if_neg hb)
          exact zH_ret hz rfl rfl ⟨rfl, hE.symm⟩
set_option maxRecDepth 100000 in
theorem fh_101_18 {n : Nat} {M : zM} : zH n (0, 0) 101 (0, zini [zR 18] 1, []) M (fun r M' => r = some (.inl (hR_size M 18)) ∧ M' = M) := by
  have hz := zp_101
  have hE : hR_size M 18 = hR_size M 18 := rfl
  show zH n (0, 0) 101 (0, [zR 18], []) M _
  refine zH_blk (c' := (4, [zR 18], [.inl (M 18 3)])) 2 hz rfl ?_
  exact zH_ret hz rfl rfl (hfinP hE)
set_option maxRecDepth 100000 in
theorem fh_102_18 {n : Nat} {M : zM} (a1 : Int) : zH n (0, 0) 102 (0, zini [zR 18, .inl a1] 2, []) M (fun r M' => r = some (.inl (hR_has M 18 a1)) ∧ M' = M) := by
  have hz := zp_102
  have hE : hR_has M 18 a1 = hR_has M 18 a1 := rfl
  show zH n (0, 0) 102 (0, [zR 18, .inl a1], []) M _
  refine zH_blk (c' := (1, [zR 18, .inl a1], [.inl a1])) 1 hz rfl ?_
  refine zH_if_lt hz rfl (fun hb => ?_) (fun hb => ?_)
  · have hE := hE.trans (if_pos hb)
    refine zH_blk (c' := (17, [zR 18, .inl a1], [.inl 0])) 1 hz rfl ?_
    exact zH_zret hz rfl (hfinP hE)
  · have hE := hE.trans (if_neg hb)
    refine zH_blk (c' := (9, [zR 18, .inl a1], [.inl (M 18 3), .inl a1])) 3 hz rfl ?_
    refine zH_icmp_ge hz rfl (fun hb => ?_) (fun hb => ?_)
    · have hE := hE.trans (if_pos hb)
      refine zH_blk (c' := (17, [zR 18, .inl a1], [.inl 0])) 1 hz rfl ?_
      exact zH_zret hz rfl (hfinP hE)
    · have hE := hE.trans (if_neg hb)
      refine zH_blk (c' := (17, [zR 18, .inl a1], [.inl 1])) 2 hz rfl ?_
      exact zH_zret hz rfl (hfinP hE)
set_option maxRecDepth 100000 in
theorem fh_103_18 {n : Nat} {M : zM} : zH n (0, 0) 103 (0, zini [zR 18] 1, []) M (fun r M' => r = some (.inl (hR_open M 18).1) ∧ M' = (hR_open M 18).2) := by
  have hz := zp_103
  have hE : hR_open M 18 = hR_open M 18 := rfl
  show zH n (0, 0) 103 (0, [zR 18], []) M _
  refine zH_blk (c' := (8, [zR 18], [.inl (M 18 0), .inl (M 18 3)])) 4 hz rfl ?_
  refine zH_icmp_lt hz rfl (fun hb => ?_) (fun hb => ?_)
  · have hE := hE.trans (if_pos hb)
    refine zH_blk (c' := (30, [zR 18], [.inl (w32 (((zput M 18 3 (w32 ((M 18 3) + 1))) 18 3) - 1))])) 10 hz rfl ?_
    exact zH_ret hz rfl rfl (hfinB hE)
  · have hE := hE.trans (if_neg hb)
    refine zH_blk (c' := (13, [zR 18], [.inl (-4)])) 1 hz rfl ?_
    exact zH_ret hz rfl rfl (hfinB hE)
set_option maxRecDepth 100000 in
theorem fh_106_18 {n : Nat} {M : zM} (a1 : Int) (a2 : Int) : zH n (0, 0) 106 (0, zini [zR 18, .inl a1, .inl a2] 3, []) M (fun r M' => r = some (.inl (hR_get M 18 a1 a2)) ∧ M' = M) := by
  have hz := zp_106
  have hE : hR_get M 18 a1 a2 = hR_get M 18 a1 a2 := rfl
  show zH n (0, 0) 106 (0, [zR 18, .inl a1, .inl a2], []) M _
  refine zH_blk (c' := (1, [zR 18, .inl a1, .inl a2], [.inl a1])) 1 hz rfl ?_
  refine zH_if_lt hz rfl (fun hb => ?_) (fun hb => ?_)
  · have hE := hE.trans (if_pos hb)
    refine zH_blk (c' := (25, [zR 18, .inl a1, .inl a2], [.inl (-1)])) 1 hz rfl ?_
    exact zH_ret hz rfl rfl (hfinP hE)
  · have hE := hE.trans (if_neg hb)
    refine zH_blk (c' := (9, [zR 18, .inl a1, .inl a2], [.inl (M 18 0), .inl a1])) 3 hz rfl ?_
    refine zH_icmp_ge hz rfl (fun hb => ?_) (fun hb => ?_)
    · have hE := hE.trans (if_pos hb)
      refine zH_blk (c' := (25, [zR 18, .inl a1, .inl a2], [.inl (-1)])) 1 hz rfl ?_
      exact zH_ret hz rfl rfl (hfinP hE)
    · have hE := hE.trans (if_neg hb)
      refine zH_blk (c' := (13, [zR 18, .inl a1, .inl a2], [.inl a2])) 1 hz rfl ?_
      refine zH_if_lt hz rfl (fun hb => ?_) (fun hb => ?_)
      · have hE := hE.trans (if_pos hb)
        refine zH_blk (c' := (25, [zR 18, .inl a1, .inl a2], [.inl (-1)])) 1 hz rfl ?_
        exact zH_ret hz rfl rfl (hfinP hE)
      · have hE := hE.trans (if_neg hb)
        refine zH_blk (c' := (21, [zR 18, .inl a1, .inl a2], [.inl (M 18 1), .inl a2])) 3 hz rfl ?_
        refine zH_icmp_lt hz rfl (fun hb => ?_) (fun hb => ?_)
        · have hE := hE.trans (if_pos hb)
          refine zH_blk (c' := (38, [zR 18, .inl a1, .inl a2], [.inl (w32 ((w32 (a1 * (M 18 1))) + a2)), zR 19])) 8 hz rfl ?_
          refine zH_iald hz rfl rfl (.inl rfl) (fun _ => ?_)
          show zH n (0, 0) 106 (39, [zR 18, .inl a1, .inl a2], [.inl (M 19 (w32 ((w32 (a1 * (M 18 1))) + a2) : Int).toNat)]) M _
          exact zH_ret hz rfl rfl (hfinP hE)
        · have hE := hE.trans (if_neg hb)
          refine zH_blk (c' := (25, [zR 18, .inl a1, .inl a2], [.inl (-1)])) 1 hz rfl ?_
          exact zH_ret hz rfl rfl (hfinP hE)
set_option maxRecDepth 100000 in
theorem fh_107_18 {n : Nat} {M : zM} (a1 : Int) (a2 : Int) (a3 : Int) : zH n (0, 0) 107 (0, zini [zR 18, .inl a1, .inl a2, .inl a3] 4, []) M (fun r M' => r = none ∧ M' = hR_set M 18 a1 a2 a3) := by
  have hz := zp_107
  have hE : hR_set M 18 a1 a2 a3 = hR_set M 18 a1 a2 a3 := rfl
  show zH n (0, 0) 107 (0, [zR 18, .inl a1, .inl a2, .inl a3], []) M _
  refine zH_blk (c' := (1, [zR 18, .inl a1, .inl a2, .inl a3], [.inl a1])) 1 hz rfl ?_
  refine zH_if_lt hz rfl (fun hb => ?_) (fun hb => ?_)
  · have hE := hE.trans (if_pos hb)
    exact zH_ret hz rfl rfl ⟨rfl, hE.symm⟩
  · have hE := hE.trans (if_neg hb)
    refine zH_blk (c' := (9, [zR 18, .inl a1, .inl a2, .inl a3], [.inl (M 18 0), .inl a1])) 3 hz rfl ?_
    refine zH_icmp_ge hz rfl (fun hb => ?_) (fun hb => ?_)
    · have hE := hE.trans (if_pos hb)
      exact zH_ret hz rfl rfl ⟨rfl, hE.symm⟩
    · have hE := hE.trans (if_neg hb)
      refine zH_blk (c' := (13, [zR 18, .inl a1, .inl a2, .inl a3], [.inl a2])) 1 hz rfl ?_
      refine zH_if_lt hz rfl (fun hb => ?_) (fun hb => ?_)
      · have hE := hE.trans (if_pos hb)
        exact zH_ret hz rfl rfl ⟨rfl, hE.symm⟩
      · have hE := hE.trans (if_neg hb)
        refine zH_blk (c' := (21, [zR 18, .inl a1, .inl a2, .inl a3], [.inl (M 18 1), .inl a2])) 3 hz rfl ?_
        refine zH_icmp_lt hz rfl (fun hb => ?_) (fun hb => ?_)
        · have hE := hE.trans (if_pos hb)
          refine zH_blk (c' := (38, [zR 18, .inl a1, .inl a2, .inl a3], [.inl a3, .inl (w32 ((w32 (a1 * (M 18 1))) + a2)), zR 19])) 9 hz rfl ?_
          refine zH_iast hz rfl rfl (fun _ => ?_)
          show zH n (0, 0) 107 (39, [zR 18, .inl a1, .inl a2, .inl a3], []) (zput M 19 (w32 ((w32 (a1 * (M 18 1))) + a2) : Int).toNat a3) _
          exact zH_ret hz rfl rfl ⟨rfl, hE.symm⟩
        · have hE := hE.trans (if_neg hb)
          exact zH_ret hz rfl rfl ⟨rfl, hE.symm⟩
