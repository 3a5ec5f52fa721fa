/-! METHODS WITHOUT LOOPS, AS FUNCTIONS -/
noncomputable def hR_size (M : zM) (r : Nat) : Int :=
  M r 3
set_option maxRecDepth 100000 in
theorem fh_101_10 {n : Nat} {M : zM} : zH n (0, 0) 101 (0, zini [zR 10] 1, []) M (fun r M' => r = some (.inl (hR_size M 10)) ∧ M' = M) := by
  have hz := zp_101
  have hE : hR_size M 10 = hR_size M 10 := rfl
  show zH n (0, 0) 101 (0, [zR 10], []) M _
  refine zH_blk (c' := (4, [zR 10], [.inl (M 10 3)])) 2 hz rfl ?_
  exact zH_ret hz rfl rfl (hfinP hE)
noncomputable def hR_has (M : zM) (r : Nat) (a1 : Int) : Int :=
  (if a1 < 0 then 0 else (if (M r 3) ≤ a1 then 0 else 1))
set_option maxRecDepth 100000 in
theorem fh_102_10 {n : Nat} {M : zM} (a1 : Int) : zH n (0, 0) 102 (0, zini [zR 10, .inl a1] 2, []) M (fun r M' => r = some (.inl (hR_has M 10 a1)) ∧ M' = M) := by
  have hz := zp_102
  have hE : hR_has M 10 a1 = hR_has M 10 a1 := rfl
  show zH n (0, 0) 102 (0, [zR 10, .inl a1], []) M _
  refine zH_blk (c' := (1, [zR 10, .inl a1], [.inl a1])) 1 hz rfl ?_
  refine zH_if_lt hz rfl (fun hb => ?_) (fun hb => ?_)
  · have hE := hE.trans (if_pos hb)
    refine zH_blk (c' := (17, [zR 10, .inl a1], [.inl 0])) 1 hz rfl ?_
    exact zH_zret hz rfl (hfinP hE)
  · have hE := hE.trans (if_neg hb)
    refine zH_blk (c' := (9, [zR 10, .inl a1], [.inl (M 10 3), .inl a1])) 3 hz rfl ?_
    refine zH_icmp_ge hz rfl (fun hb => ?_) (fun hb => ?_)
    · have hE := hE.trans (if_pos hb)
      refine zH_blk (c' := (17, [zR 10, .inl a1], [.inl 0])) 1 hz rfl ?_
      exact zH_zret hz rfl (hfinP hE)
    · have hE := hE.trans (if_neg hb)
      refine zH_blk (c' := (17, [zR 10, .inl a1], [.inl 1])) 2 hz rfl ?_
      exact zH_zret hz rfl (hfinP hE)
noncomputable def hR_open (M : zM) (r : Nat) : Int × zM :=
  (if (M r 3) < (M r 0) then (w32 (((zput M r 3 (w32 ((M r 3) + 1))) r 3) - 1), zput M r 3 (w32 ((M r 3) + 1))) else ((-4), M))
set_option maxRecDepth 100000 in
theorem fh_103_10 {n : Nat} {M : zM} : zH n (0, 0) 103 (0, zini [zR 10] 1, []) M (fun r M' => r = some (.inl (hR_open M 10).1) ∧ M' = (hR_open M 10).2) := by
  have hz := zp_103
  have hE : hR_open M 10 = hR_open M 10 := rfl
  show zH n (0, 0) 103 (0, [zR 10], []) M _
  refine zH_blk (c' := (8, [zR 10], [.inl (M 10 0), .inl (M 10 3)])) 4 hz rfl ?_
  refine zH_icmp_lt hz rfl (fun hb => ?_) (fun hb => ?_)
  · have hE := hE.trans (if_pos hb)
    refine zH_blk (c' := (30, [zR 10], [.inl (w32 (((zput M 10 3 (w32 ((M 10 3) + 1))) 10 3) - 1))])) 10 hz rfl ?_
    exact zH_ret hz rfl rfl (hfinB hE)
  · have hE := hE.trans (if_neg hb)
    refine zH_blk (c' := (13, [zR 10], [.inl (-4)])) 1 hz rfl ?_
    exact zH_ret hz rfl rfl (hfinB hE)
noncomputable def hR_get (M : zM) (r : Nat) (a1 : Int) (a2 : Int) : Int :=
  (if a1 < 0 then (-1) else (if (M r 0) ≤ a1 then (-1) else (if a2 < 0 then (-1) else (if a2 < (M r 1) then M (r + 1) (w32 ((w32 (a1 * (M r 1))) + a2) : Int).toNat else (-1)))))
set_option maxRecDepth 100000 in
theorem fh_106_10 {n : Nat} {M : zM} (a1 : Int) (a2 : Int) : zH n (0, 0) 106 (0, zini [zR 10, .inl a1, .inl a2] 3, []) M (fun r M' => r = some (.inl (hR_get M 10 a1 a2)) ∧ M' = M) := by
  have hz := zp_106
  have hE : hR_get M 10 a1 a2 = hR_get M 10 a1 a2 := rfl
  show zH n (0, 0) 106 (0, [zR 10, .inl a1, .inl a2], []) M _
  refine zH_blk (c' := (1, [zR 10, .inl a1, .inl a2], [.inl a1])) 1 hz rfl ?_
  refine zH_if_lt hz rfl (fun hb => ?_) (fun hb => ?_)
  · have hE := hE.trans (if_pos hb)
    refine zH_blk (c' := (25, [zR 10, .inl a1, .inl a2], [.inl (-1)])) 1 hz rfl ?_
    exact zH_ret hz rfl rfl (hfinP hE)
  · have hE := hE.trans (if_neg hb)
    refine zH_blk (c' := (9, [zR 10, .inl a1, .inl a2], [.inl (M 10 0), .inl a1])) 3 hz rfl ?_
    refine zH_icmp_ge hz rfl (fun hb => ?_) (fun hb => ?_)
    · have hE := hE.trans (if_pos hb)
      refine zH_blk (c' := (25, [zR 10, .inl a1, .inl a2], [.inl (-1)])) 1 hz rfl ?_
      exact zH_ret hz rfl rfl (hfinP hE)
    · have hE := hE.trans (if_neg hb)
      refine zH_blk (c' := (13, [zR 10, .inl a1, .inl a2], [.inl a2])) 1 hz rfl ?_
      refine zH_if_lt hz rfl (fun hb => ?_) (fun hb => ?_)
      · have hE := hE.trans (if_pos hb)
        refine zH_blk (c' := (25, [zR 10, .inl a1, .inl a2], [.inl (-1)])) 1 hz rfl ?_
        exact zH_ret hz rfl rfl (hfinP hE)
      · have hE := hE.trans (if_neg hb)
        refine zH_blk (c' := (21, [zR 10, .inl a1, .inl a2], [.inl (M 10 1), .inl a2])) 3 hz rfl ?_
        refine zH_icmp_lt hz rfl (fun hb => ?_) (fun hb => ?_)
        · have hE := hE.trans (if_pos hb)
          refine zH_blk (c' := (38, [zR 10, .inl a1, .inl a2], [.inl (w32 ((w32 (a1 * (M 10 1))) + a2)), zR 11])) 8 hz rfl ?_
          refine zH_iald hz rfl rfl (.inl rfl) (fun _ => ?_)
          show zH n (0, 0) 106 (39, [zR 10, .inl a1, .inl a2], [.inl (M 11 (w32 ((w32 (a1 * (M 10 1))) + a2) : Int).toNat)]) M _
          exact zH_ret hz rfl rfl (hfinP hE)
        · have hE := hE.trans (if_neg hb)
          refine zH_blk (c' := (25, [zR 10, .inl a1, .inl a2], [.inl (-1)])) 1 hz rfl ?_
          exact zH_ret hz rfl rfl (hfinP hE)
noncomputable def hR_set (M : zM) (r : Nat) (a1 : Int) (a2 : Int) (a3 : Int) : zM :=
  (if a1 < 0 then M else (if (M r 0) ≤ a1 then M else (if a2 < 0 then M else (if a2 < (M r 1) then zput M (r + 1) (w32 ((w32 (a1 * (M r 1))) + a2) : Int).toNat a3 else M))))
set_option maxRecDepth 100000 in
theorem fh_107_10 {n : Nat} {M : zM} (a1 : Int) (a2 : Int) (a3 : Int) : zH n (0, 0) 107 (0, zini [zR 10, .inl a1, .inl a2, .inl a3] 4, []) M (fun r M' => r = none ∧ M' = hR_set M 10 a1 a2 a3) := by
  have hz := zp_107
  have hE : hR_set M 10 a1 a2 a3 = hR_set M 10 a1 a2 a3 := rfl
  show zH n (0, 0) 107 (0, [zR 10, .inl a1, .inl a2, .inl a3], []) M _
  refine zH_blk (c' := (1, [zR 10, .inl a1, .inl a2, .inl a3], [.inl a1])) 1 hz rfl ?_
  refine zH_if_lt hz rfl (fun hb => ?_) (fun hb => ?_)
  · have hE := hE.trans (if_pos hb)
    exact zH_ret hz rfl rfl ⟨rfl, hE.symm⟩
  · have hE := hE.trans (if_neg hb)
    refine zH_blk (c' := (9, [zR 10, .inl a1, .inl a2, .inl a3], [.inl (M 10 0), .inl a1])) 3 hz rfl ?_
    refine zH_icmp_ge hz rfl (fun hb => ?_) (fun hb => ?_)
    · have hE := hE.trans (if_pos hb)
      exact zH_ret hz rfl rfl ⟨rfl, hE.symm⟩
    · have hE := hE.trans (if_neg hb)
      refine zH_blk (c' := (13, [zR 10, .inl a1, .inl a2, .inl a3], [.inl a2])) 1 hz rfl ?_
      refine zH_if_lt hz rfl (fun hb => ?_) (fun hb => ?_)
      · have hE := hE.trans (if_pos hb)
        exact zH_ret hz rfl rfl ⟨rfl, hE.symm⟩
      · have hE := hE.trans (if_neg hb)
        refine zH_blk (c' := (21, [zR 10, .inl a1, .inl a2, .inl a3], [.inl (M 10 1), .inl a2])) 3 hz rfl ?_
        refine zH_icmp_lt hz rfl (fun hb => ?_) (fun hb => ?_)
        · have hE := hE.trans (if_pos hb)
          refine zH_blk (c' := (38, [zR 10, .inl a1, .inl a2, .inl a3], [.inl a3, .inl (w32 ((w32 (a1 * (M 10 1))) + a2)), zR 11])) 9 hz rfl ?_
          refine zH_iast hz rfl rfl (fun _ => ?_)
          show zH n (0, 0) 107 (39, [zR 10, .inl a1, .inl a2, .inl a3], []) (zput M 11 (w32 ((w32 (a1 * (M 10 1))) + a2) : Int).toNat a3) _
          exact zH_ret hz rfl rfl ⟨rfl, hE.symm⟩
        · have hE := hE.trans (if_neg hb)
          exact zH_ret hz rfl rfl ⟨rfl, hE.symm⟩
set_option maxRecDepth 100000 in
theorem fh_101_12 {n : Nat} {M : zM} : zH n (0, 0) 101 (0, zini [zR 12] 1, []) M (fun r M' => r = some (.inl (hR_size M 12)) ∧ M' = M) := by
  have hz := zp_101
  have hE : hR_size M 12 = hR_size M 12 := rfl
  show zH n (0, 0) 101 (0, [zR 12], []) M _
  refine zH_blk (c' := (4, [zR 12], [.inl (M 12 3)])) 2 hz rfl ?_
  exact zH_ret hz rfl rfl (hfinP hE)
set_option maxRecDepth 100000 in
theorem fh_102_12 {n : Nat} {M : zM} (a1 : Int) : zH n (0, 0) 102 (0, zini [zR 12, .inl a1] 2, []) M (fun r M' => r = some (.inl (hR_has M 12 a1)) ∧ M' = M) := by
  have hz := zp_102
  have hE : hR_has M 12 a1 = hR_has M 12 a1 := rfl
  show zH n (0, 0) 102 (0, [zR 12, .inl a1], []) M _
  refine zH_blk (c' := (1, [zR 12, .inl a1], [.inl a1])) 1 hz rfl ?_
  refine zH_if_lt hz rfl (fun hb => ?_) (fun hb => ?_)
  · have hE := hE.trans (if_pos hb)
    refine zH_blk (c' := (17, [zR 12, .inl a1], [.inl 0])) 1 hz rfl ?_
    exact zH_zret hz rfl (hfinP hE)
  · have hE := hE.trans (if_neg hb)
    refine zH_blk (c' := (9, [zR 12, .inl a1], [.inl (M 12 3), .inl a1])) 3 hz rfl ?_
    refine zH_icmp_ge hz rfl (fun hb => ?_) (fun hb => ?_)
    · have hE := hE.trans (if_pos hb)
      refine zH_blk (c' := (17, [zR 12, .inl a1], [.inl 0])) 1 hz rfl ?_
      exact zH_zret hz rfl (hfinP hE)
    · have hE := hE.trans (if_neg hb)
      refine zH_blk (c' := (17, [zR 12, .inl a1], [.inl 1])) 2 hz rfl ?_
      exact zH_zret hz rfl (hfinP hE)
set_option maxRecDepth 100000 in
theorem fh_103_12 {n : Nat} {M : zM} : zH n (0, 0) 103 (0, zini [zR 12] 1, []) M (fun r M' => r = some (.inl (hR_open M 12).1) ∧ M' = (hR_open M 12).2) := by
  have hz := zp_103
  have hE : hR_open M 12 = hR_open M 12 := rfl
  show zH n (0, 0) 103 (0, [zR 12], []) M _
  refine zH_blk (c' := (8, [zR 12], [.inl (M 12 0), .inl (M 12 3)])) 4 hz rfl ?_
  refine zH_icmp_lt hz rfl (fun hb => ?_) (fun hb => ?_)
  · have hE := hE.trans (if_pos hb)
    refine zH_blk (c' := (30, [zR 12], [.inl (w32 (((zput M 12 3 (w32 ((M 12 3) + 1))) 12 3) - 1))])) 10 hz rfl ?_
    exact zH_ret hz rfl rfl (hfinB hE)
  · have hE := hE.trans (if_neg hb)
    refine zH_blk (c' := (13, [zR 12], [.inl (-4)])) 1 hz rfl ?_
    exact zH_ret hz rfl rfl (hfinB hE)
set_option maxRecDepth 100000 in
theorem fh_106_12 {n : Nat} {M : zM} (a1 : Int) (a2 : Int) : zH n (0, 0) 106 (0, zini [zR 12, .inl a1, .inl a2] 3, []) M (fun r M' => r = some (.inl (hR_get M 12 a1 a2)) ∧ M' = M) := by
  have hz := zp_106
  have hE : hR_get M 12 a1 a2 = hR_get M 12 a1 a2 := rfl
  show zH n (0, 0) 106 (0, [zR 12, .inl a1, .inl a2], []) M _
  refine zH_blk (c' := (1, [zR 12, .inl a1, .inl a2], [.inl a1])) 1 hz rfl ?_
  refine zH_if_lt hz rfl (fun hb => ?_) (fun hb => ?_)
  · have hE := hE.trans (if_pos hb)
    refine zH_blk (c' := (25, [zR 12, .inl a1, .inl a2], [.inl (-1)])) 1 hz rfl ?_
    exact zH_ret hz rfl rfl (hfinP hE)
  · have hE := hE.trans (if_neg hb)
    refine zH_blk (c' := (9, [zR 12, .inl a1, .inl a2], [.inl (M 12 0), .inl a1])) 3 hz rfl ?_
    refine zH_icmp_ge hz rfl (fun hb => ?_) (fun hb => ?_)
    · have hE := hE.trans (if_pos hb)
      refine zH_blk (c' := (25, [zR 12, .inl a1, .inl a2], [.inl (-1)])) 1 hz rfl ?_
      exact zH_ret hz rfl rfl (hfinP hE)
    · have hE := hE.trans (if_neg hb)
      refine zH_blk (c' := (13, [zR 12, .inl a1, .inl a2], [.inl a2])) 1 hz rfl ?_
      refine zH_if_lt hz rfl (fun hb => ?_) (fun hb => ?_)
      · have hE := hE.trans (if_pos hb)
        refine zH_blk (c' := (25, [zR 12, .inl a1, .inl a2], [.inl (-1)])) 1 hz rfl ?_
        exact zH_ret hz rfl rfl (hfinP hE)
      · have hE := hE.trans (if_neg hb)
        refine zH_blk (c' := (21, [zR 12, .inl a1, .inl a2], [.inl (M 12 1), .inl a2])) 3 hz rfl ?_
        refine zH_icmp_lt hz rfl (fun hb => ?_) (fun hb => ?_)
        · have hE := hE.trans (if_pos hb)
          refine zH_blk (c' := (38, [zR 12, .inl a1, .inl a2], [.inl (w32 ((w32 (a1 * (M 12 1))) + a2)), zR 13])) 8 hz rfl ?_
          refine zH_iald hz rfl rfl (.inl rfl) (fun _ => ?_)
          show zH n (0, 0) 106 (39, [zR 12, .inl a1, .inl a2], [.inl (M 13 (w32 ((w32 (a1 * (M 12 1))) + a2) : Int).toNat)]) M _
          exact zH_ret hz rfl rfl (hfinP hE)
        · have hE := hE.trans (if_neg hb)
          refine zH_blk (c' := (25, [zR 12, .inl a1, .inl a2], [.inl (-1)])) 1 hz rfl ?_
          exact zH_ret hz rfl rfl (hfinP hE)
set_option maxRecDepth 100000 in
theorem fh_107_12 {n : Nat} {M : zM} (a1 : Int) (a2 : Int) (a3 : Int) : zH n (0, 0) 107 (0, zini [zR 12, .inl a1, .inl a2, .inl a3] 4, []) M (fun r M' => r = none ∧ M' = hR_set M 12 a1 a2 a3) := by
  have hz := zp_107
  have hE : hR_set M 12 a1 a2 a3 = hR_set M 12 a1 a2 a3 := rfl
  show zH n (0, 0) 107 (0, [zR 12, .inl a1, .inl a2, .inl a3], []) M _
  refine zH_blk (c' := (1, [zR 12, .inl a1, .inl a2, .inl a3], [.inl a1])) 1 hz rfl ?_
  refine zH_if_lt hz rfl (fun hb => ?_) (fun hb => ?_)
  · have hE := hE.trans (if_pos hb)
    exact zH_ret hz rfl rfl ⟨rfl, hE.symm⟩
  · have hE := hE.trans (if_neg hb)
    refine zH_blk (c' := (9, [zR 12, .inl a1, .inl a2, .inl a3], [.inl (M 12 0), .inl a1])) 3 hz rfl ?_
    refine zH_icmp_ge hz rfl (fun hb => ?_) (fun hb => ?_)
    · have hE := hE.trans (if_pos hb)
      exact zH_ret hz rfl rfl ⟨rfl, hE.symm⟩
    · have hE := hE.trans (if_neg hb)
      refine zH_blk (c' := (13, [zR 12, .inl a1, .inl a2, .inl a3], [.inl a2])) 1 hz rfl ?_
      refine zH_if_lt hz rfl (fun hb => ?_) (fun hb => ?_)
      · have hE := hE.trans (if_pos hb)
        exact zH_ret hz rfl rfl ⟨rfl, hE.symm⟩
      · have hE := hE.trans (if_neg hb)
        refine zH_blk (c' := (21, [zR 12, .inl a1, .inl a2, .inl a3], [.inl (M 12 1), .inl a2])) 3 hz rfl ?_
        refine zH_icmp_lt hz rfl (fun hb => ?_) (fun hb => ?_)
        · have hE := hE.trans (if_pos hb)
          refine zH_blk (c' := (38, [zR 12, .inl a1, .inl a2, .inl a3], [.inl a3, .inl (w32 ((w32 (a1 * (M 12 1))) + a2)), zR 13])) 9 hz rfl ?_
          refine zH_iast hz rfl rfl (fun _ => ?_)
          show zH n (0, 0) 107 (39, [zR 12, .inl a1, .inl a2, .inl a3], []) (zput M 13 (w32 ((w32 (a1 * (M 12 1))) + a2) : Int).toNat a3) _
          exact zH_ret hz rfl rfl ⟨rfl, hE.symm⟩
        · have hE := hE.trans (if_neg hb)
          exact zH_ret hz rfl rfl ⟨rfl, hE.symm⟩
