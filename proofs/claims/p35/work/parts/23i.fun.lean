/-! METHODS WITHOUT LOOPS, AS FUNCTIONS -/
noncomputable def hR_size (M : zM) (r : Nat) : Int :=
  M r 3
set_option maxRecDepth 100000 in
theorem fh_101_10 {n : Nat} {M : zM} : zH n (0, 0) 101 (0, zini [zR 10] 1, []) M (fun r M' => r = some (.inl (hR_size M 10)) ∧ M' = M) := by
  have hz := zp_101
  have hE : hR_size M 10 = hR_size M 10 := rfl
  show zH n (0, 0) 101 (0, [zR 10], []) M _
  exact zH_wr (r := some (.inl (M 10 3))) 2 hz (by rfl) (hfinP hE)
noncomputable def hR_has (M : zM) (r : Nat) (a1 : Int) : Int :=
  (if a1 < 0 then 0 else (if (M r 3) ≤ a1 then 0 else 1))
set_option maxRecDepth 100000 in
theorem fh_102_10 {n : Nat} {M : zM} (a1 : Int) : zH n (0, 0) 102 (0, zini [zR 10, .inl a1] 2, []) M (fun r M' => r = some (.inl (hR_has M 10 a1)) ∧ M' = M) := by
  have hz := zp_102
  have hE : hR_has M 10 a1 = hR_has M 10 a1 := rfl
  show zH n (0, 0) 102 (0, [zR 10, .inl a1], []) M _
  refine zH_wf_lt (pc := 1) (n' := 4) (t := 16) (L := [zR 10, .inl a1]) (st := []) (x := a1) 1 hz (by rfl) (fun hb => ?_) (fun hb => ?_)
  · have hE := hE.trans (if_pos hb)
    refine zH_w (c' := (17, [zR 10, .inl a1], [.inl 0])) 1 hz rfl ?_
    exact zH_zret hz rfl (hfinP hE)
  · have hE := hE.trans (if_neg hb)
    refine zH_wi_ge (pc := 9) (n' := 12) (t := 16) (L := [zR 10, .inl a1]) (st := []) (x := a1) (y := (M 10 3)) 3 hz (by rfl) (fun hb => ?_) (fun hb => ?_)
    · have hE := hE.trans (if_pos hb)
      refine zH_w (c' := (17, [zR 10, .inl a1], [.inl 0])) 1 hz rfl ?_
      exact zH_zret hz rfl (hfinP hE)
    · have hE := hE.trans (if_neg hb)
      refine zH_w (c' := (17, [zR 10, .inl a1], [.inl 1])) 2 hz rfl ?_
      exact zH_zret hz rfl (hfinP hE)
noncomputable def hR_open (M : zM) (r : Nat) : Int × zM :=
  (if (M r 3) < (M r 0) then (w32 (((zput M r 3 (w32 ((M r 3) + 1))) r 3) - 1), zput M r 3 (w32 ((M r 3) + 1))) else ((-4), M))
set_option maxRecDepth 100000 in
theorem fh_103_10 {n : Nat} {M : zM} : zH n (0, 0) 103 (0, zini [zR 10] 1, []) M (fun r M' => r = some (.inl (hR_open M 10).1) ∧ M' = (hR_open M 10).2) := by
  have hz := zp_103
  have hE : hR_open M 10 = hR_open M 10 := rfl
  show zH n (0, 0) 103 (0, [zR 10], []) M _
  refine zH_wi_lt (pc := 8) (n' := 11) (t := 14) (L := [zR 10]) (st := []) (x := (M 10 3)) (y := (M 10 0)) 4 hz (by rfl) (fun hb => ?_) (fun hb => ?_)
  · have hE := hE.trans (if_pos hb)
    refine zH_w (c' := (30, [zR 10], [.inl (w32 (((zput M 10 3 (w32 ((M 10 3) + 1))) 10 3) - 1))])) 10 hz rfl ?_
    exact zH_wr (r := some (.inl (w32 (((zput M 10 3 (w32 ((M 10 3) + 1))) 10 3) - 1)))) 0 hz (by rfl) (hfinB hE)
  · have hE := hE.trans (if_neg hb)
    exact zH_wr (r := some (.inl (-4))) 1 hz (by rfl) (hfinB hE)
noncomputable def hR_get (M : zM) (r : Nat) (a1 : Int) (a2 : Int) : Int :=
  (if a1 < 0 then (-1) else (if (M r 0) ≤ a1 then (-1) else (if a2 < 0 then (-1) else (if a2 < (M r 1) then M (r + 1) (w32 ((w32 (a1 * (M r 1))) + a2) : Int).toNat else (-1)))))
set_option maxRecDepth 100000 in
theorem fh_106_10 {n : Nat} {M : zM} (a1 : Int) (a2 : Int) : zH n (0, 0) 106 (0, zini [zR 10, .inl a1, .inl a2] 3, []) M (fun r M' => r = some (.inl (hR_get M 10 a1 a2)) ∧ M' = M) := by
  have hz := zp_106
  have hE : hR_get M 10 a1 a2 = hR_get M 10 a1 a2 := rfl
  show zH n (0, 0) 106 (0, [zR 10, .inl a1, .inl a2], []) M _
  refine zH_wf_lt (pc := 1) (n' := 4) (t := 24) (L := [zR 10, .inl a1, .inl a2]) (st := []) (x := a1) 1 hz (by rfl) (fun hb => ?_) (fun hb => ?_)
  · have hE := hE.trans (if_pos hb)
    exact zH_wr (r := some (.inl (-1))) 1 hz (by rfl) (hfinP hE)
  · have hE := hE.trans (if_neg hb)
    refine zH_wi_ge (pc := 9) (n' := 12) (t := 24) (L := [zR 10, .inl a1, .inl a2]) (st := []) (x := a1) (y := (M 10 0)) 3 hz (by rfl) (fun hb => ?_) (fun hb => ?_)
    · have hE := hE.trans (if_pos hb)
      exact zH_wr (r := some (.inl (-1))) 1 hz (by rfl) (hfinP hE)
    · have hE := hE.trans (if_neg hb)
      refine zH_wf_lt (pc := 13) (n' := 16) (t := 24) (L := [zR 10, .inl a1, .inl a2]) (st := []) (x := a2) 1 hz (by rfl) (fun hb => ?_) (fun hb => ?_)
      · have hE := hE.trans (if_pos hb)
        exact zH_wr (r := some (.inl (-1))) 1 hz (by rfl) (hfinP hE)
      · have hE := hE.trans (if_neg hb)
        refine zH_wi_lt (pc := 21) (n' := 24) (t := 26) (L := [zR 10, .inl a1, .inl a2]) (st := []) (x := a2) (y := (M 10 1)) 3 hz (by rfl) (fun hb => ?_) (fun hb => ?_)
        · have hE := hE.trans (if_pos hb)
          refine zH_w (c' := (38, [zR 10, .inl a1, .inl a2], [.inl (w32 ((w32 (a1 * (M 10 1))) + a2)), zR 11])) 8 hz rfl ?_
          refine zH_iald hz rfl rfl (.inl rfl) (fun _ => ?_)
          show zH n (0, 0) 106 (39, [zR 10, .inl a1, .inl a2], [.inl (M 11 (w32 ((w32 (a1 * (M 10 1))) + a2) : Int).toNat)]) M _
          exact zH_wr (r := some (.inl (M 11 (w32 ((w32 (a1 * (M 10 1))) + a2) : Int).toNat))) 0 hz (by rfl) (hfinP hE)
        · have hE := hE.trans (if_neg hb)
          exact zH_wr (r := some (.inl (-1))) 1 hz (by rfl) (hfinP hE)
noncomputable def hR_set (M : zM) (r : Nat) (a1 : Int) (a2 : Int) (a3 : Int) : zM :=
  (if a1 < 0 then M else (if (M r 0) ≤ a1 then M else (if a2 < 0 then M else (if a2 < (M r 1) then zput M (r + 1) (w32 ((w32 (a1 * (M r 1))) + a2) : Int).toNat a3 else M))))
set_option maxRecDepth 100000 in
theorem fh_107_10 {n : Nat} {M : zM} (a1 : Int) (a2 : Int) (a3 : Int) : zH n (0, 0) 107 (0, zini [zR 10, .inl a1, .inl a2, .inl a3] 4, []) M (fun r M' => r = none ∧ M' = hR_set M 10 a1 a2 a3) := by
  have hz := zp_107
  have hE : hR_set M 10 a1 a2 a3 = hR_set M 10 a1 a2 a3 := rfl
  show zH n (0, 0) 107 (0, [zR 10, .inl a1, .inl a2, .inl a3], []) M _
  refine zH_wf_lt (pc := 1) (n' := 4) (t := 24) (L := [zR 10, .inl a1, .inl a2, .inl a3]) (st := []) (x := a1) 1 hz (by rfl) (fun hb => ?_) (fun hb => ?_)
  · have hE := hE.trans (if_pos hb)
    exact zH_wr (r := none) 0 hz (by rfl) ⟨rfl, hE.symm⟩
  · have hE := hE.trans (if_neg hb)
    refine zH_wi_ge (pc := 9) (n' := 12) (t := 24) (L := [zR 10, .inl a1, .inl a2, .inl a3]) (st := []) (x := a1) (y := (M 10 0)) 3 hz (by rfl) (fun hb => ?_) (fun hb => ?_)
    · have hE := hE.trans (if_pos hb)
      exact zH_wr (r := none) 0 hz (by rfl) ⟨rfl, hE.symm⟩
    · have hE := hE.trans (if_neg hb)
      refine zH_wf_lt (pc := 13) (n' := 16) (t := 24) (L := [zR 10, .inl a1, .inl a2, .inl a3]) (st := []) (x := a2) 1 hz (by rfl) (fun hb => ?_) (fun hb => ?_)
      · have hE := hE.trans (if_pos hb)
        exact zH_wr (r := none) 0 hz (by rfl) ⟨rfl, hE.symm⟩
      · have hE := hE.trans (if_neg hb)
        refine zH_wi_lt (pc := 21) (n' := 24) (t := 25) (L := [zR 10, .inl a1, .inl a2, .inl a3]) (st := []) (x := a2) (y := (M 10 1)) 3 hz (by rfl) (fun hb => ?_) (fun hb => ?_)
        · have hE := hE.trans (if_pos hb)
          refine zH_w (c' := (38, [zR 10, .inl a1, .inl a2, .inl a3], [.inl a3, .inl (w32 ((w32 (a1 * (M 10 1))) + a2)), zR 11])) 9 hz rfl ?_
          refine zH_iast hz rfl rfl (fun _ => ?_)
          show zH n (0, 0) 107 (39, [zR 10, .inl a1, .inl a2, .inl a3], []) (zput M 11 (w32 ((w32 (a1 * (M 10 1))) + a2) : Int).toNat a3) _
          exact zH_wr (r := none) 0 hz (by rfl) ⟨rfl, hE.symm⟩
        · have hE := hE.trans (if_neg hb)
          exact zH_wr (r := none) 0 hz (by rfl) ⟨rfl, hE.symm⟩
set_option maxRecDepth 100000 in
theorem fh_101_12 {n : Nat} {M : zM} : zH n (0, 0) 101 (0, zini [zR 12] 1, []) M (fun r M' => r = some (.inl (hR_size M 12)) ∧ M' = M) := by
  have hz := zp_101
  have hE : hR_size M 12 = hR_size M 12 := rfl
  show zH n (0, 0) 101 (0, [zR 12], []) M _
  exact zH_wr (r := some (.inl (M 12 3))) 2 hz (by rfl) (hfinP hE)
set_option maxRecDepth 100000 in
theorem fh_102_12 {n : Nat} {M : zM} (a1 : Int) : zH n (0, 0) 102 (0, zini [zR 12, .inl a1] 2, []) M (fun r M' => r = some (.inl (hR_has M 12 a1)) ∧ M' = M) := by
  have hz := zp_102
  have hE : hR_has M 12 a1 = hR_has M 12 a1 := rfl
  show zH n (0, 0) 102 (0, [zR 12, .inl a1], []) M _
  refine zH_wf_lt (pc := 1) (n' := 4) (t := 16) (L := [zR 12, .inl a1]) (st := []) (x := a1) 1 hz (by rfl) (fun hb => ?_) (fun hb => ?_)
  · have hE := hE.trans (if_pos hb)
    refine zH_w (c' := (17, [zR 12, .inl a1], [.inl 0])) 1 hz rfl ?_
    exact zH_zret hz rfl (hfinP hE)
  · have hE := hE.trans (if_neg hb)
    refine zH_wi_ge (pc := 9) (n' := 12) (t := 16) (L := [zR 12, .inl a1]) (st := []) (x := a1) (y := (M 12 3)) 3 hz (by rfl) (fun hb => ?_) (fun hb => ?_)
    · have hE := hE.trans (if_pos hb)
      refine zH_w (c' := (17, [zR 12, .inl a1], [.inl 0])) 1 hz rfl ?_
      exact zH_zret hz rfl (hfinP hE)
    · have hE := hE.trans (if_neg hb)
      refine zH_w (c' := (17, [zR 12, .inl a1], [.inl 1])) 2 hz rfl ?_
      exact zH_zret hz rfl (hfinP hE)
set_option maxRecDepth 100000 in
theorem fh_103_12 {n : Nat} {M : zM} : zH n (0, 0) 103 (0, zini [zR 12] 1, []) M (fun r M' => r = some (.inl (hR_open M 12).1) ∧ M' = (hR_open M 12).2) := by
  have hz := zp_103
  have hE : hR_open M 12 = hR_open M 12 := rfl
  show zH n (0, 0) 103 (0, [zR 12], []) M _
  refine zH_wi_lt (pc := 8) (n' := 11) (t := 14) (L := [zR 12]) (st := []) (x := (M 12 3)) (y := (M 12 0)) 4 hz (by rfl) (fun hb => ?_) (fun hb => ?_)
  · have hE := hE.trans (if_pos hb)
    refine zH_w (c' := (30, [zR 12], [.inl (w32 (((zput M 12 3 (w32 ((M 12 3) + 1))) 12 3) - 1))])) 10 hz rfl ?_
    exact zH_wr (r := some (.inl (w32 (((zput M 12 3 (w32 ((M 12 3) + 1))) 12 3) - 1)))) 0 hz (by rfl) (hfinB hE)
  · have hE := hE.trans (if_neg hb)
    exact zH_wr (r := some (.inl (-4))) 1 hz (by rfl) (hfinB hE)
set_option maxRecDepth 100000 in
theorem fh_106_12 {n : Nat} {M : zM} (a1 : Int) (a2 : Int) : zH n (0, 0) 106 (0, zini [zR 12, .inl a1, .inl a2] 3, []) M (fun r M' => r = some (.inl (hR_get M 12 a1 a2)) ∧ M' = M) := by
  have hz := zp_106
  have hE : hR_get M 12 a1 a2 = hR_get M 12 a1 a2 := rfl
  show zH n (0, 0) 106 (0, [zR 12, .inl a1, .inl a2], []) M _
  refine zH_wf_lt (pc := 1) (n' := 4) (t := 24) (L := [zR 12, .inl a1, .inl a2]) (st := []) (x := a1) 1 hz (by rfl) (fun hb => ?_) (fun hb => ?_)
  · have hE := hE.trans (if_pos hb)
    exact zH_wr (r := some (.inl (-1))) 1 hz (by rfl) (hfinP hE)
  · have hE := hE.trans (if_neg hb)
    refine zH_wi_ge (pc := 9) (n' := 12) (t := 24) (L := [zR 12, .inl a1, .inl a2]) (st := []) (x := a1) (y := (M 12 0)) 3 hz (by rfl) (fun hb => ?_) (fun hb => ?_)
    · have hE := hE.trans (if_pos hb)
      exact zH_wr (r := some (.inl (-1))) 1 hz (by rfl) (hfinP hE)
    · have hE := hE.trans (if_neg hb)
      refine zH_wf_lt (pc := 13) (n' := 16) (t := 24) (L := [zR 12, .inl a1, .inl a2]) (st := []) (x := a2) 1 hz (by rfl) (fun hb => ?_) (fun hb => ?_)
      · have hE := hE.trans (if_pos hb)
        exact zH_wr (r := some (.inl (-1))) 1 hz (by rfl) (hfinP hE)
      · have hE := hE.trans (if_neg hb)
        refine zH_wi_lt (pc := 21) (n' := 24) (t := 26) (L := [zR 12, .inl a1, .inl a2]) (st := []) (x := a2) (y := (M 12 1)) 3 hz (by rfl) (fun hb => ?_) (fun hb => ?_)
        · have hE := hE.trans (if_pos hb)
          refine zH_w (c' := (38, [zR 12, .inl a1, .inl a2], [.inl (w32 ((w32 (a1 * (M 12 1))) + a2)), zR 13])) 8 hz rfl ?_
          refine zH_iald hz rfl rfl (.inl rfl) (fun _ => ?_)
          show zH n (0, 0) 106 (39, [zR 12, .inl a1, .inl a2], [.inl (M 13 (w32 ((w32 (a1 * (M 12 1))) + a2) : Int).toNat)]) M _
          exact zH_wr (r := some (.inl (M 13 (w32 ((w32 (a1 * (M 12 1))) + a2) : Int).toNat))) 0 hz (by rfl) (hfinP hE)
        · have hE := hE.trans (if_neg hb)
          exact zH_wr (r := some (.inl (-1))) 1 hz (by rfl) (hfinP hE)
set_option maxRecDepth 100000 in
theorem fh_107_12 {n : Nat} {M : zM} (a1 : Int) (a2 : Int) (a3 : Int) : zH n (0, 0) 107 (0, zini [zR 12, .inl a1, .inl a2, .inl a3] 4, []) M (fun r M' => r = none ∧ M' = hR_set M 12 a1 a2 a3) := by
  have hz := zp_107
  have hE : hR_set M 12 a1 a2 a3 = hR_set M 12 a1 a2 a3 := rfl
  show zH n (0, 0) 107 (0, [zR 12, .inl a1, .inl a2, .inl a3], []) M _
  refine zH_wf_lt (pc := 1) (n' := 4) (t := 24) (L := [zR 12, .inl a1, .inl a2, .inl a3]) (st := []) (x := a1) 1 hz (by rfl) (fun hb => ?_) (fun hb => ?_)
  · have hE := hE.trans (if_pos hb)
    exact zH_wr (r := none) 0 hz (by rfl) ⟨rfl, hE.symm⟩
  · have hE := hE.trans (if_neg hb)
    refine zH_wi_ge (pc := 9) (n' := 12) (t := 24) (L := [zR 12, .inl a1, .inl a2, .inl a3]) (st := []) (x := a1) (y := (M 12 0)) 3 hz (by rfl) (fun hb => ?_) (fun hb => ?_)
    · have hE := hE.trans (if_pos hb)
      exact zH_wr (r := none) 0 hz (by rfl) ⟨rfl, hE.symm⟩
    · have hE := hE.trans (if_neg hb)
      refine zH_wf_lt (pc := 13) (n' := 16) (t := 24) (L := [zR 12, .inl a1, .inl a2, .inl a3]) (st := []) (x := a2) 1 hz (by rfl) (fun hb => ?_) (fun hb => ?_)
      · have hE := hE.trans (if_pos hb)
        exact zH_wr (r := none) 0 hz (by rfl) ⟨rfl, hE.symm⟩
      · have hE := hE.trans (if_neg hb)
        refine zH_wi_lt (pc := 21) (n' := 24) (t := 25) (L := [zR 12, .inl a1, .inl a2, .inl a3]) (st := []) (x := a2) (y := (M 12 1)) 3 hz (by rfl) (fun hb => ?_) (fun hb => ?_)
        · have hE := hE.trans (if_pos hb)
          refine zH_w (c' := (38, [zR 12, .inl a1, .inl a2, .inl a3], [.inl a3, .inl (w32 ((w32 (a1 * (M 12 1))) + a2)), zR 13])) 9 hz rfl ?_
          refine zH_iast hz rfl rfl (fun _ => ?_)
          show zH n (0, 0) 107 (39, [zR 12, .inl a1, .inl a2, .inl a3], []) (zput M 13 (w32 ((w32 (a1 * (M 12 1))) + a2) : Int).toNat a3) _
          exact zH_wr (r := none) 0 hz (by rfl) ⟨rfl, hE.symm⟩
        · have hE := hE.trans (if_neg hb)
          exact zH_wr (r := none) 0 hz (by rfl) ⟨rfl, hE.symm⟩
set_option maxRecDepth 100000 in
theorem fh_101_14 {n : Nat} {M : zM} : zH n (0, 0) 101 (0, zini [zR 14] 1, []) M (fun r M' => r = some (.inl (hR_size M 14)) ∧ M' = M) := by
  have hz := zp_101
  have hE : hR_size M 14 = hR_size M 14 := rfl
  show zH n (0, 0) 101 (0, [zR 14], []) M _
  exact zH_wr (r := some (.inl (M 14 3))) 2 hz (by rfl) (hfinP hE)
set_option maxRecDepth 100000 in
theorem fh_102_14 {n : Nat} {M : zM} (a1 : Int) : zH n (0, 0) 102 (0, zini [zR 14, .inl a1] 2, []) M (fun r M' => r = some (.inl (hR_has M 14 a1)) ∧ M' = M) := by
  have hz := zp_102
  have hE : hR_has M 14 a1 = hR_has M 14 a1 := rfl
  show zH n (0, 0) 102 (0, [zR 14, .inl a1], []) M _
  refine zH_wf_lt (pc := 1) (n' := 4) (t := 16) (L := [zR 14, .inl a1]) (st := []) (x := a1) 1 hz (by rfl) (fun hb => ?_) (fun hb => ?_)
  · have hE := hE.trans (if_pos hb)
    refine zH_w (c' := (17, [zR 14, .inl a1], [.inl 0])) 1 hz rfl ?_
    exact zH_zret hz rfl (hfinP hE)
  · have hE := hE.trans (if_neg hb)
    refine zH_wi_ge (pc := 9) (n' := 12) (t := 16) (L := [zR 14, .inl a1]) (st := []) (x := a1) (y := (M 14 3)) 3 hz (by rfl) (fun hb => ?_) (fun hb => ?_)
    · have hE := hE.trans (if_pos hb)
      refine zH_w (c' := (17, [zR 14, .inl a1], [.inl 0])) 1 hz rfl ?_
      exact zH_zret hz rfl (hfinP hE)
    · have hE := hE.trans (if_neg hb)
      refine zH_w (c' := (17, [zR 14, .inl a1], [.inl 1])) 2 hz rfl ?_
      exact zH_zret hz rfl (hfinP hE)
set_option maxRecDepth 100000 in
theorem fh_103_14 {n : Nat} {M : zM} : zH n (0, 0) 103 (0, zini [zR 14] 1, []) M (fun r M' => r = some (.inl (hR_open M 14).1) ∧ M' = (hR_open M 14).2) := by
  have hz := zp_103
  have hE : hR_open M 14 = hR_open M 14 := rfl
  show zH n (0, 0) 103 (0, [zR 14], []) M _
  refine zH_wi_lt (pc := 8) (n' := 11) (t := 14) (L := [zR 14]) (st := []) (x := (M 14 3)) (y := (M 14 0)) 4 hz (by rfl) (fun hb => ?_) (fun hb => ?_)
  · have hE := hE.trans (if_pos hb)
    refine zH_w (c' := (30, [zR 14], [.inl (w32 (((zput M 14 3 (w32 ((M 14 3) + 1))) 14 3) - 1))])) 10 hz rfl ?_
    exact zH_wr (r := some (.inl (w32 (((zput M 14 3 (w32 ((M 14 3) + 1))) 14 3) - 1)))) 0 hz (by rfl) (hfinB hE)
  · have hE := hE.trans (if_neg hb)
    exact zH_wr (r := some (.inl (-4))) 1 hz (by rfl) (hfinB hE)
set_option maxRecDepth 100000 in
theorem fh_106_14 {n : Nat} {M : zM} (a1 : Int) (a2 : Int) : zH n (0, 0) 106 (0, zini [zR 14, .inl a1, .inl a2] 3, []) M (fun r M' => r = some (.inl (hR_get M 14 a1 a2)) ∧ M' = M) := by
  have hz := zp_106
  have hE : hR_get M 14 a1 a2 = hR_get M 14 a1 a2 := rfl
  show zH n (0, 0) 106 (0, [zR 14, .inl a1, .inl a2], []) M _
  refine zH_wf_lt (pc := 1) (n' := 4) (t := 24) (L := [zR 14, .inl a1, .inl a2]) (st := []) (x := a1) 1 hz (by rfl) (fun hb => ?_) (fun hb => ?_)
  · have hE := hE.trans (if_pos hb)
    exact zH_wr (r := some (.inl (-1))) 1 hz (by rfl) (hfinP hE)
  · have hE := hE.trans (if_neg hb)
    refine zH_wi_ge (pc := 9) (n' := 12) (t := 24) (L := [zR 14, .inl a1, .inl a2]) (st := []) (x := a1) (y := (M 14 0)) 3 hz (by rfl) (fun hb => ?_) (fun hb => ?_)
    · have hE := hE.trans (if_pos hb)
      exact zH_wr (r := some (.inl (-1))) 1 hz (by rfl) (hfinP hE)
    · have hE := hE.trans (if_neg hb)
      refine zH_wf_lt (pc := 13) (n' := 16) (t := 24) (L := [zR 14, .inl a1, .inl a2]) (st := []) (x := a2) 1 hz (by rfl) (fun hb => ?_) (fun hb => ?_)
      · have hE := hE.trans (if_pos hb)
        exact zH_wr (r := some (.inl (-1))) 1 hz (by rfl) (hfinP hE)
      · have hE := hE.trans (if_neg hb)
        refine zH_wi_lt (pc := 21) (n' := 24) (t := 26) (L := [zR 14, .inl a1, .inl a2]) (st := []) (x := a2) (y := (M 14 1)) 3 hz (by rfl) (fun hb => ?_) (fun hb => ?_)
        · have hE := hE.trans (if_pos hb)
          refine zH_w (c' := (38, [zR 14, .inl a1, .inl a2], [.inl (w32 ((w32 (a1 * (M 14 1))) + a2)), zR 15])) 8 hz rfl ?_
          refine zH_iald hz rfl rfl (.inl rfl) (fun _ => ?_)
          show zH n (0, 0) 106 (39, [zR 14, .inl a1, .inl a2], [.inl (M 15 (w32 ((w32 (a1 * (M 14 1))) + a2) : Int).toNat)]) M _
          exact zH_wr (r := some (.inl (M 15 (w32 ((w32 (a1 * (M 14 1))) + a2) : Int).toNat))) 0 hz (by rfl) (hfinP hE)
        · have hE := hE.trans (if_neg hb)
          exact zH_wr (r := some (.inl (-1))) 1 hz (by rfl) (hfinP hE)
set_option maxRecDepth 100000 in
theorem fh_107_14 {n : Nat} {M : zM} (a1 : Int) (a2 : Int) (a3 : Int) : zH n (0, 0) 107 (0, zini [zR 14, .inl a1, .inl a2, .inl a3] 4, []) M (fun r M' => r = none ∧ M' = hR_set M 14 a1 a2 a3) := by
  have hz := zp_107
  have hE : hR_set M 14 a1 a2 a3 = hR_set M 14 a1 a2 a3 := rfl
  show zH n (0, 0) 107 (0, [zR 14, .inl a1, .inl a2, .inl a3], []) M _
  refine zH_wf_lt (pc := 1) (n' := 4) (t := 24) (L := [zR 14, .inl a1, .inl a2, .inl a3]) (st := []) (x := a1) 1 hz (by rfl) (fun hb => ?_) (fun hb => ?_)
  · have hE := hE.trans (if_pos hb)
    exact zH_wr (r := none) 0 hz (by rfl) ⟨rfl, hE.symm⟩
  · have hE := hE.trans (if_neg hb)
    refine zH_wi_ge (pc := 9) (n' := 12) (t := 24) (L := [zR 14, .inl a1, .inl a2, .inl a3]) (st := []) (x := a1) (y := (M 14 0)) 3 hz (by rfl) (fun hb => ?_) (fun hb => ?_)
    · have hE := hE.trans (if_pos hb)
      exact zH_wr (r := none) 0 hz (by rfl) ⟨rfl, hE.symm⟩
    · have hE := hE.trans (if_neg hb)
      refine zH_wf_lt (pc := 13) (n' := 16) (t := 24) (L := [zR 14, .inl a1, .inl a2, .inl a3]) (st := []) (x := a2) 1 hz (by rfl) (fun hb => ?_) (fun hb => ?_)
      · have hE := hE.trans (if_pos hb)
        exact zH_wr (r := none) 0 hz (by rfl) ⟨rfl, hE.symm⟩
      · have hE := hE.trans (if_neg hb)
        refine zH_wi_lt (pc := 21) (n' := 24) (t := 25) (L := [zR 14, .inl a1, .inl a2, .inl a3]) (st := []) (x := a2) (y := (M 14 1)) 3 hz (by rfl) (fun hb => ?_) (fun hb => ?_)
        · have hE := hE.trans (if_pos hb)
          refine zH_w (c' := (38, [zR 14, .inl a1, .inl a2, .inl a3], [.inl a3, .inl (w32 ((w32 (a1 * (M 14 1))) + a2)), zR 15])) 9 hz rfl ?_
          refine zH_iast hz rfl rfl (fun _ => ?_)
          show zH n (0, 0) 107 (39, [zR 14, .inl a1, .inl a2, .inl a3], []) (zput M 15 (w32 ((w32 (a1 * (M 14 1))) + a2) : Int).toNat a3) _
          exact zH_wr (r := none) 0 hz (by rfl) ⟨rfl, hE.symm⟩
        · have hE := hE.trans (if_neg hb)
          exact zH_wr (r := none) 0 hz (by rfl) ⟨rfl, hE.symm⟩
set_option maxRecDepth 100000 in
theorem fh_101_16 {n : Nat} {M : zM} : zH n (0, 0) 101 (0, zini [zR 16] 1, []) M (fun r M' => r = some (.inl (hR_size M 16)) ∧ M' = M) := by
  have hz := zp_101
  have hE : hR_size M 16 = hR_size M 16 := rfl
  show zH n (0, 0) 101 (0, [zR 16], []) M _
  exact zH_wr (r := some (.inl (M 16 3))) 2 hz (by rfl) (hfinP hE)
set_option maxRecDepth 100000 in
theorem fh_102_16 {n : Nat} {M : zM} (a1 : Int) : zH n (0, 0) 102 (0, zini [zR 16, .inl a1] 2, []) M (fun r M' => r = some (.inl (hR_has M 16 a1)) ∧ M' = M) := by
  have hz := zp_102
  have hE : hR_has M 16 a1 = hR_has M 16 a1 := rfl
  show zH n (0, 0) 102 (0, [zR 16, .inl a1], []) M _
  refine zH_wf_lt (pc := 1) (n' := 4) (t := 16) (L := [zR 16, .inl a1]) (st := []) (x := a1) 1 hz (by rfl) (fun hb => ?_) (fun hb => ?_)
  · have hE := hE.trans (if_pos hb)
    refine zH_w (c' := (17, [zR 16, .inl a1], [.inl 0])) 1 hz rfl ?_
    exact zH_zret hz rfl (hfinP hE)
  · have hE := hE.trans (if_neg hb)
    refine zH_wi_ge (pc := 9) (n' := 12) (t := 16) (L := [zR 16, .inl a1]) (st := []) (x := a1) (y := (M 16 3)) 3 hz (by rfl) (fun hb => ?_) (fun hb => ?_)
    · have hE := hE.trans (if_pos hb)
      refine zH_w (c' := (17, [zR 16, .inl a1], [.inl 0])) 1 hz rfl ?_
      exact zH_zret hz rfl (hfinP hE)
    · have hE := hE.trans (if_neg hb)
      refine zH_w (c' := (17, [zR 16, .inl a1], [.inl 1])) 2 hz rfl ?_
      exact zH_zret hz rfl (hfinP hE)
set_option maxRecDepth 100000 in
theorem fh_103_16 {n : Nat} {M : zM} : zH n (0, 0) 103 (0, zini [zR 16] 1, []) M (fun r M' => r = some (.inl (hR_open M 16).1) ∧ M' = (hR_open M 16).2) := by
  have hz := zp_103
  have hE : hR_open M 16 = hR_open M 16 := rfl
  show zH n (0, 0) 103 (0, [zR 16], []) M _
  refine zH_wi_lt (pc := 8) (n' := 11) (t := 14) (L := [zR 16]) (st := []) (x := (M 16 3)) (y := (M 16 0)) 4 hz (by rfl) (fun hb => ?_) (fun hb => ?_)
  · have hE := hE.trans (if_pos hb)
    refine zH_w (c' := (30, [zR 16], [.inl (w32 (((zput M 16 3 (w32 ((M 16 3) + 1))) 16 3) - 1))])) 10 hz rfl ?_
    exact zH_wr (r := some (.inl (w32 (((zput M 16 3 (w32 ((M 16 3) + 1))) 16 3) - 1)))) 0 hz (by rfl) (hfinB hE)
  · have hE := hE.trans (if_neg hb)
    exact zH_wr (r := some (.inl (-4))) 1 hz (by rfl) (hfinB hE)
set_option maxRecDepth 100000 in
theorem fh_106_16 {n : Nat} {M : zM} (a1 : Int) (a2 : Int) : zH n (0, 0) 106 (0, zini [zR 16, .inl a1, .inl a2] 3, []) M (fun r M' => r = some (.inl (hR_get M 16 a1 a2)) ∧ M' = M) := by
  have hz := zp_106
  have hE : hR_get M 16 a1 a2 = hR_get M 16 a1 a2 := rfl
  show zH n (0, 0) 106 (0, [zR 16, .inl a1, .inl a2], []) M _
  refine zH_wf_lt (pc := 1) (n' := 4) (t := 24) (L := [zR 16, .inl a1, .inl a2]) (st := []) (x := a1) 1 hz (by rfl) (fun hb => ?_) (fun hb => ?_)
  · have hE := hE.trans (if_pos hb)
    exact zH_wr (r := some (.inl (-1))) 1 hz (by rfl) (hfinP hE)
  · have hE := hE.trans (if_neg hb)
    refine zH_wi_ge (pc := 9) (n' := 12) (t := 24) (L := [zR 16, .inl a1, .inl a2]) (st := []) (x := a1) (y := (M 16 0)) 3 hz (by rfl) (fun hb => ?_) (fun hb => ?_)
    · have hE := hE.trans (if_pos hb)
      exact zH_wr (r := some (.inl (-1))) 1 hz (by rfl) (hfinP hE)
    · have hE := hE.trans (if_neg hb)
      refine zH_wf_lt (pc := 13) (n' := 16) (t := 24) (L := [zR 16, .inl a1, .inl a2]) (st := []) (x := a2) 1 hz (by rfl) (fun hb => ?_) (fun hb => ?_)
      · have hE := hE.trans (if_pos hb)
        exact zH_wr (r := some (.inl (-1))) 1 hz (by rfl) (hfinP hE)
      · have hE := hE.trans (if_neg hb)
        refine zH_wi_lt (pc := 21) (n' := 24) (t := 26) (L := [zR 16, .inl a1, .inl a2]) (st := []) (x := a2) (y := (M 16 1)) 3 hz (by rfl) (fun hb => ?_) (fun hb => ?_)
        · have hE := hE.trans (if_pos hb)
          refine zH_w (c' := (38, [zR 16, .inl a1, .inl a2], [.inl (w32 ((w32 (a1 * (M 16 1))) + a2)), zR 17])) 8 hz rfl ?_
          refine zH_iald hz rfl rfl (.inl rfl) (fun _ => ?_)
          show zH n (0, 0) 106 (39, [zR 16, .inl a1, .inl a2], [.inl (M 17 (w32 ((w32 (a1 * (M 16 1))) + a2) : Int).toNat)]) M _
          exact zH_wr (r := some (.inl (M 17 (w32 ((w32 (a1 * (M 16 1))) + a2) : Int).toNat))) 0 hz (by rfl) (hfinP hE)
        · have hE := hE.trans (if_neg hb)
          exact zH_wr (r := some (.inl (-1))) 1 hz (by rfl) (hfinP hE)
set_option maxRecDepth 100000 in
theorem fh_107_16 {n : Nat} {M : zM} (a1 : Int) (a2 : Int) (a3 : Int) : zH n (0, 0) 107 (0, zini [zR 16, .inl a1, .inl a2, .inl a3] 4, []) M (fun r M' => r = none ∧ M' = hR_set M 16 a1 a2 a3) := by
  have hz := zp_107
  have hE : hR_set M 16 a1 a2 a3 = hR_set M 16 a1 a2 a3 := rfl
  show zH n (0, 0) 107 (0, [zR 16, .inl a1, .inl a2, .inl a3], []) M _
  refine zH_wf_lt (pc := 1) (n' := 4) (t := 24) (L := [zR 16, .inl a1, .inl a2, .inl a3]) (st := []) (x := a1) 1 hz (by rfl) (fun hb => ?_) (fun hb => ?_)
  · have hE := hE.trans (if_pos hb)
    exact zH_wr (r := none) 0 hz (by rfl) ⟨rfl, hE.symm⟩
  · have hE := hE.trans (if_neg hb)
    refine zH_wi_ge (pc := 9) (n' := 12) (t := 24) (L := [zR 16, .inl a1, .inl a2, .inl a3]) (st := []) (x := a1) (y := (M 16 0)) 3 hz (by rfl) (fun hb => ?_) (fun hb => ?_)
    · have hE := hE.trans (if_pos hb)
      exact zH_wr (r := none) 0 hz (by rfl) ⟨rfl, hE.symm⟩
    · have hE := hE.trans (if_neg hb)
      refine zH_wf_lt (pc := 13) (n' := 16) (t := 24) (L := [zR 16, .inl a1, .inl a2, .inl a3]) (st := []) (x := a2) 1 hz (by rfl) (fun hb => ?_) (fun hb => ?_)
      · have hE := hE.trans (if_pos hb)
        exact zH_wr (r := none) 0 hz (by rfl) ⟨rfl, hE.symm⟩
      · have hE := hE.trans (if_neg hb)
        refine zH_wi_lt (pc := 21) (n' := 24) (t := 25) (L := [zR 16, .inl a1, .inl a2, .inl a3]) (st := []) (x := a2) (y := (M 16 1)) 3 hz (by rfl) (fun hb => ?_) (fun hb => ?_)
        · have hE := hE.trans (if_pos hb)
          refine zH_w (c' := (38, [zR 16, .inl a1, .inl a2, .inl a3], [.inl a3, .inl (w32 ((w32 (a1 * (M 16 1))) + a2)), zR 17])) 9 hz rfl ?_
          refine zH_iast hz rfl rfl (fun _ => ?_)
          show zH n (0, 0) 107 (39, [zR 16, .inl a1, .inl a2, .inl a3], []) (zput M 17 (w32 ((w32 (a1 * (M 16 1))) + a2) : Int).toNat a3) _
          exact zH_wr (r := none) 0 hz (by rfl) ⟨rfl, hE.symm⟩
        · have hE := hE.trans (if_neg hb)
          exact zH_wr (r := none) 0 hz (by rfl) ⟨rfl, hE.symm⟩
set_option maxRecDepth 100000 in
theorem fh_101_18 {n : Nat} {M : zM} : zH n (0, 0) 101 (0, zini [zR 18] 1, []) M (fun r M' => r = some (.inl (hR_size M 18)) ∧ M' = M) := by
  have hz := zp_101
  have hE : hR_size M 18 = hR_size M 18 := rfl
  show zH n (0, 0) 101 (0, [zR 18], []) M _
  exact zH_wr (r := some (.inl (M 18 3))) 2 hz (by rfl) (hfinP hE)
set_option maxRecDepth 100000 in
theorem fh_102_18 {n : Nat} {M : zM} (a1 : Int) : zH n (0, 0) 102 (0, zini [zR 18, .inl a1] 2, []) M (fun r M' => r = some (.inl (hR_has M 18 a1)) ∧ M' = M) := by
  have hz := zp_102
  have hE : hR_has M 18 a1 = hR_has M 18 a1 := rfl
  show zH n (0, 0) 102 (0, [zR 18, .inl a1], []) M _
  refine zH_wf_lt (pc := 1) (n' := 4) (t := 16) (L := [zR 18, .inl a1]) (st := []) (x := a1) 1 hz (by rfl) (fun hb => ?_) (fun hb => ?_)
  · have hE := hE.trans (if_pos hb)
    refine zH_w (c' := (17, [zR 18, .inl a1], [.inl 0])) 1 hz rfl ?_
    exact zH_zret hz rfl (hfinP hE)
  · have hE := hE.trans (if_neg hb)
    refine zH_wi_ge (pc := 9) (n' := 12) (t := 16) (L := [zR 18, .inl a1]) (st := []) (x := a1) (y := (M 18 3)) 3 hz (by rfl) (fun hb => ?_) (fun hb => ?_)
    · have hE := hE.trans (if_pos hb)
      refine zH_w (c' := (17, [zR 18, .inl a1], [.inl 0])) 1 hz rfl ?_
      exact zH_zret hz rfl (hfinP hE)
    · have hE := hE.trans (if_neg hb)
      refine zH_w (c' := (17, [zR 18, .inl a1], [.inl 1])) 2 hz rfl ?_
      exact zH_zret hz rfl (hfinP hE)
set_option maxRecDepth 100000 in
theorem fh_103_18 {n : Nat} {M : zM} : zH n (0, 0) 103 (0, zini [zR 18] 1, []) M (fun r M' => r = some (.inl (hR_open M 18).1) ∧ M' = (hR_open M 18).2) := by
  have hz := zp_103
  have hE : hR_open M 18 = hR_open M 18 := rfl
  show zH n (0, 0) 103 (0, [zR 18], []) M _
  refine zH_wi_lt (pc := 8) (n' := 11) (t := 14) (L := [zR 18]) (st := []) (x := (M 18 3)) (y := (M 18 0)) 4 hz (by rfl) (fun hb => ?_) (fun hb => ?_)
  · have hE := hE.trans (if_pos hb)
    refine zH_w (c' := (30, [zR 18], [.inl (w32 (((zput M 18 3 (w32 ((M 18 3) + 1))) 18 3) - 1))])) 10 hz rfl ?_
    exact zH_wr (r := some (.inl (w32 (((zput M 18 3 (w32 ((M 18 3) + 1))) 18 3) - 1)))) 0 hz (by rfl) (hfinB hE)
  · have hE := hE.trans (if_neg hb)
    exact zH_wr (r := some (.inl (-4))) 1 hz (by rfl) (hfinB hE)
set_option maxRecDepth 100000 in
theorem fh_106_18 {n : Nat} {M : zM} (a1 : Int) (a2 : Int) : zH n (0, 0) 106 (0, zini [zR 18, .inl a1, .inl a2] 3, []) M (fun r M' => r = some (.inl (hR_get M 18 a1 a2)) ∧ M' = M) := by
  have hz := zp_106
  have hE : hR_get M 18 a1 a2 = hR_get M 18 a1 a2 := rfl
  show zH n (0, 0) 106 (0, [zR 18, .inl a1, .inl a2], []) M _
  refine zH_wf_lt (pc := 1) (n' := 4) (t := 24) (L := [zR 18, .inl a1, .inl a2]) (st := []) (x := a1) 1 hz (by rfl) (fun hb => ?_) (fun hb => ?_)
  · have hE := hE.trans (if_pos hb)
    exact zH_wr (r := some (.inl (-1))) 1 hz (by rfl) (hfinP hE)
  · have hE := hE.trans (if_neg hb)
    refine zH_wi_ge (pc := 9) (n' := 12) (t := 24) (L := [zR 18, .inl a1, .inl a2]) (st := []) (x := a1) (y := (M 18 0)) 3 hz (by rfl) (fun hb => ?_) (fun hb => ?_)
    · have hE := hE.trans (if_pos hb)
      exact zH_wr (r := some (.inl (-1))) 1 hz (by rfl) (hfinP hE)
    · have hE := hE.trans (if_neg hb)
      refine zH_wf_lt (pc := 13) (n' := 16) (t := 24) (L := [zR 18, .inl a1, .inl a2]) (st := []) (x := a2) 1 hz (by rfl) (fun hb => ?_) (fun hb => ?_)
      · have hE := hE.trans (if_pos hb)
        exact zH_wr (r := some (.inl (-1))) 1 hz (by rfl) (hfinP hE)
      · have hE := hE.trans (if_neg hb)
        refine zH_wi_lt (pc := 21) (n' := 24) (t := 26) (L := [zR 18, .inl a1, .inl a2]) (st := []) (x := a2) (y := (M 18 1)) 3 hz (by rfl) (fun hb => ?_) (fun hb => ?_)
        · have hE := hE.trans (if_pos hb)
          refine zH_w (c' := (38, [zR 18, .inl a1, .inl a2], [.inl (w32 ((w32 (a1 * (M 18 1))) + a2)), zR 19])) 8 hz rfl ?_
          refine zH_iald hz rfl rfl (.inl rfl) (fun _ => ?_)
          show zH n (0, 0) 106 (39, [zR 18, .inl a1, .inl a2], [.inl (M 19 (w32 ((w32 (a1 * (M 18 1))) + a2) : Int).toNat)]) M _
          exact zH_wr (r := some (.inl (M 19 (w32 ((w32 (a1 * (M 18 1))) + a2) : Int).toNat))) 0 hz (by rfl) (hfinP hE)
        · have hE := hE.trans (if_neg hb)
          exact zH_wr (r := some (.inl (-1))) 1 hz (by rfl) (hfinP hE)
set_option maxRecDepth 100000 in
theorem fh_107_18 {n : Nat} {M : zM} (a1 : Int) (a2 : Int) (a3 : Int) : zH n (0, 0) 107 (0, zini [zR 18, .inl a1, .inl a2, .inl a3] 4, []) M (fun r M' => r = none ∧ M' = hR_set M 18 a1 a2 a3) := by
  have hz := zp_107
  have hE : hR_set M 18 a1 a2 a3 = hR_set M 18 a1 a2 a3 := rfl
  show zH n (0, 0) 107 (0, [zR 18, .inl a1, .inl a2, .inl a3], []) M _
  refine zH_wf_lt (pc := 1) (n' := 4) (t := 24) (L := [zR 18, .inl a1, .inl a2, .inl a3]) (st := []) (x := a1) 1 hz (by rfl) (fun hb => ?_) (fun hb => ?_)
  · have hE := hE.trans (if_pos hb)
    exact zH_wr (r := none) 0 hz (by rfl) ⟨rfl, hE.symm⟩
  · have hE := hE.trans (if_neg hb)
    refine zH_wi_ge (pc := 9) (n' := 12) (t := 24) (L := [zR 18, .inl a1, .inl a2, .inl a3]) (st := []) (x := a1) (y := (M 18 0)) 3 hz (by rfl) (fun hb => ?_) (fun hb => ?_)
    · have hE := hE.trans (if_pos hb)
      exact zH_wr (r := none) 0 hz (by rfl) ⟨rfl, hE.symm⟩
    · have hE := hE.trans (if_neg hb)
      refine zH_wf_lt (pc := 13) (n' := 16) (t := 24) (L := [zR 18, .inl a1, .inl a2, .inl a3]) (st := []) (x := a2) 1 hz (by rfl) (fun hb => ?_) (fun hb => ?_)
      · have hE := hE.trans (if_pos hb)
        exact zH_wr (r := none) 0 hz (by rfl) ⟨rfl, hE.symm⟩
      · have hE := hE.trans (if_neg hb)
        refine zH_wi_lt (pc := 21) (n' := 24) (t := 25) (L := [zR 18, .inl a1, .inl a2, .inl a3]) (st := []) (x := a2) (y := (M 18 1)) 3 hz (by rfl) (fun hb => ?_) (fun hb => ?_)
        · have hE := hE.trans (if_pos hb)
          refine zH_w (c' := (38, [zR 18, .inl a1, .inl a2, .inl a3], [.inl a3, .inl (w32 ((w32 (a1 * (M 18 1))) + a2)), zR 19])) 9 hz rfl ?_
          refine zH_iast hz rfl rfl (fun _ => ?_)
          show zH n (0, 0) 107 (39, [zR 18, .inl a1, .inl a2, .inl a3], []) (zput M 19 (w32 ((w32 (a1 * (M 18 1))) + a2) : Int).toNat a3) _
          exact zH_wr (r := none) 0 hz (by rfl) ⟨rfl, hE.symm⟩
        · have hE := hE.trans (if_neg hb)
          exact zH_wr (r := none) 0 hz (by rfl) ⟨rfl, hE.symm⟩
set_option maxRecDepth 100000 in
theorem fh_101_20 {n : Nat} {M : zM} : zH n (0, 0) 101 (0, zini [zR 20] 1, []) M (fun r M' => r = some (.inl (hR_size M 20)) ∧ M' = M) := by
  have hz := zp_101
  have hE : hR_size M 20 = hR_size M 20 := rfl
  show zH n (0, 0) 101 (0, [zR 20], []) M _
  exact zH_wr (r := some (.inl (M 20 3))) 2 hz (by rfl) (hfinP hE)
set_option maxRecDepth 100000 in
theorem fh_102_20 {n : Nat} {M : zM} (a1 : Int) : zH n (0, 0) 102 (0, zini [zR 20, .inl a1] 2, []) M (fun r M' => r = some (.inl (hR_has M 20 a1)) ∧ M' = M) := by
  have hz := zp_102
  have hE : hR_has M 20 a1 = hR_has M 20 a1 := rfl
  show zH n (0, 0) 102 (0, [zR 20, .inl a1], []) M _
  refine zH_wf_lt (pc := 1) (n' := 4) (t := 16) (L := [zR 20, .inl a1]) (st := []) (x := a1) 1 hz (by rfl) (fun hb => ?_) (fun hb => ?_)
  · have hE := hE.trans (if_pos hb)
    refine zH_w (c' := (17, [zR 20, .inl a1], [.inl 0])) 1 hz rfl ?_
    exact zH_zret hz rfl (hfinP hE)
  · have hE := hE.trans (if_neg hb)
    refine zH_wi_ge (pc := 9) (n' := 12) (t := 16) (L := [zR 20, .inl a1]) (st := []) (x := a1) (y := (M 20 3)) 3 hz (by rfl) (fun hb => ?_) (fun hb => ?_)
    · have hE := hE.trans (if_pos hb)
      refine zH_w (c' := (17, [zR 20, .inl a1], [.inl 0])) 1 hz rfl ?_
      exact zH_zret hz rfl (hfinP hE)
    · have hE := hE.trans (if_neg hb)
      refine zH_w (c' := (17, [zR 20, .inl a1], [.inl 1])) 2 hz rfl ?_
      exact zH_zret hz rfl (hfinP hE)
set_option maxRecDepth 100000 in
theorem fh_103_20 {n : Nat} {M : zM} : zH n (0, 0) 103 (0, zini [zR 20] 1, []) M (fun r M' => r = some (.inl (hR_open M 20).1) ∧ M' = (hR_open M 20).2) := by
  have hz := zp_103
  have hE : hR_open M 20 = hR_open M 20 := rfl
  show zH n (0, 0) 103 (0, [zR 20], []) M _
  refine zH_wi_lt (pc := 8) (n' := 11) (t := 14) (L := [zR 20]) (st := []) (x := (M 20 3)) (y := (M 20 0)) 4 hz (by rfl) (fun hb => ?_) (fun hb => ?_)
  · have hE := hE.trans (if_pos hb)
    refine zH_w (c' := (30, [zR 20], [.inl (w32 (((zput M 20 3 (w32 ((M 20 3) + 1))) 20 3) - 1))])) 10 hz rfl ?_
    exact zH_wr (r := some (.inl (w32 (((zput M 20 3 (w32 ((M 20 3) + 1))) 20 3) - 1)))) 0 hz (by rfl) (hfinB hE)
  · have hE := hE.trans (if_neg hb)
    exact zH_wr (r := some (.inl (-4))) 1 hz (by rfl) (hfinB hE)
set_option maxRecDepth 100000 in
theorem fh_106_20 {n : Nat} {M : zM} (a1 : Int) (a2 : Int) : zH n (0, 0) 106 (0, zini [zR 20, .inl a1, .inl a2] 3, []) M (fun r M' => r = some (.inl (hR_get M 20 a1 a2)) ∧ M' = M) := by
  have hz := zp_106
  have hE : hR_get M 20 a1 a2 = hR_get M 20 a1 a2 := rfl
  show zH n (0, 0) 106 (0, [zR 20, .inl a1, .inl a2], []) M _
  refine zH_wf_lt (pc := 1) (n' := 4) (t := 24) (L := [zR 20, .inl a1, .inl a2]) (st := []) (x := a1) 1 hz (by rfl) (fun hb => ?_) (fun hb => ?_)
  · have hE := hE.trans (if_pos hb)
    exact zH_wr (r := some (.inl (-1))) 1 hz (by rfl) (hfinP hE)
  · have hE := hE.trans (if_neg hb)
    refine zH_wi_ge (pc := 9) (n' := 12) (t := 24) (L := [zR 20, .inl a1, .inl a2]) (st := []) (x := a1) (y := (M 20 0)) 3 hz (by rfl) (fun hb => ?_) (fun hb => ?_)
    · have hE := hE.trans (if_pos hb)
      exact zH_wr (r := some (.inl (-1))) 1 hz (by rfl) (hfinP hE)
    · have hE := hE.trans (if_neg hb)
      refine zH_wf_lt (pc := 13) (n' := 16) (t := 24) (L := [zR 20, .inl a1, .inl a2]) (st := []) (x := a2) 1 hz (by rfl) (fun hb => ?_) (fun hb => ?_)
      · have hE := hE.trans (if_pos hb)
        exact zH_wr (r := some (.inl (-1))) 1 hz (by rfl) (hfinP hE)
      · have hE := hE.trans (if_neg hb)
        refine zH_wi_lt (pc := 21) (n' := 24) (t := 26) (L := [zR 20, .inl a1, .inl a2]) (st := []) (x := a2) (y := (M 20 1)) 3 hz (by rfl) (fun hb => ?_) (fun hb => ?_)
        · have hE := hE.trans (if_pos hb)
          refine zH_w (c' := (38, [zR 20, .inl a1, .inl a2], [.inl (w32 ((w32 (a1 * (M 20 1))) + a2)), zR 21])) 8 hz rfl ?_
          refine zH_iald hz rfl rfl (.inl rfl) (fun _ => ?_)
          show zH n (0, 0) 106 (39, [zR 20, .inl a1, .inl a2], [.inl (M 21 (w32 ((w32 (a1 * (M 20 1))) + a2) : Int).toNat)]) M _
          exact zH_wr (r := some (.inl (M 21 (w32 ((w32 (a1 * (M 20 1))) + a2) : Int).toNat))) 0 hz (by rfl) (hfinP hE)
        · have hE := hE.trans (if_neg hb)
          exact zH_wr (r := some (.inl (-1))) 1 hz (by rfl) (hfinP hE)
set_option maxRecDepth 100000 in
theorem fh_107_20 {n : Nat} {M : zM} (a1 : Int) (a2 : Int) (a3 : Int) : zH n (0, 0) 107 (0, zini [zR 20, .inl a1, .inl a2, .inl a3] 4, []) M (fun r M' => r = none ∧ M' = hR_set M 20 a1 a2 a3) := by
  have hz := zp_107
  have hE : hR_set M 20 a1 a2 a3 = hR_set M 20 a1 a2 a3 := rfl
  show zH n (0, 0) 107 (0, [zR 20, .inl a1, .inl a2, .inl a3], []) M _
  refine zH_wf_lt (pc := 1) (n' := 4) (t := 24) (L := [zR 20, .inl a1, .inl a2, .inl a3]) (st := []) (x := a1) 1 hz (by rfl) (fun hb => ?_) (fun hb => ?_)
  · have hE := hE.trans (if_pos hb)
    exact zH_wr (r := none) 0 hz (by rfl) ⟨rfl, hE.symm⟩
  · have hE := hE.trans (if_neg hb)
    refine zH_wi_ge (pc := 9) (n' := 12) (t := 24) (L := [zR 20, .inl a1, .inl a2, .inl a3]) (st := []) (x := a1) (y := (M 20 0)) 3 hz (by rfl) (fun hb => ?_) (fun hb => ?_)
    · have hE := hE.trans (if_pos hb)
      exact zH_wr (r := none) 0 hz (by rfl) ⟨rfl, hE.symm⟩
    · have hE := hE.trans (if_neg hb)
      refine zH_wf_lt (pc := 13) (n' := 16) (t := 24) (L := [zR 20, .inl a1, .inl a2, .inl a3]) (st := []) (x := a2) 1 hz (by rfl) (fun hb => ?_) (fun hb => ?_)
      · have hE := hE.trans (if_pos hb)
        exact zH_wr (r := none) 0 hz (by rfl) ⟨rfl, hE.symm⟩
      · have hE := hE.trans (if_neg hb)
        refine zH_wi_lt (pc := 21) (n' := 24) (t := 25) (L := [zR 20, .inl a1, .inl a2, .inl a3]) (st := []) (x := a2) (y := (M 20 1)) 3 hz (by rfl) (fun hb => ?_) (fun hb => ?_)
        · have hE := hE.trans (if_pos hb)
          refine zH_w (c' := (38, [zR 20, .inl a1, .inl a2, .inl a3], [.inl a3, .inl (w32 ((w32 (a1 * (M 20 1))) + a2)), zR 21])) 9 hz rfl ?_
          refine zH_iast hz rfl rfl (fun _ => ?_)
          show zH n (0, 0) 107 (39, [zR 20, .inl a1, .inl a2, .inl a3], []) (zput M 21 (w32 ((w32 (a1 * (M 20 1))) + a2) : Int).toNat a3) _
          exact zH_wr (r := none) 0 hz (by rfl) ⟨rfl, hE.symm⟩
        · have hE := hE.trans (if_neg hb)
          exact zH_wr (r := none) 0 hz (by rfl) ⟨rfl, hE.symm⟩
set_option maxRecDepth 100000 in
theorem fh_101_22 {n : Nat} {M : zM} : zH n (0, 0) 101 (0, zini [zR 22] 1, []) M (fun r M' => r = some (.inl (hR_size M 22)) ∧ M' = M) := by
  have hz := zp_101
  have hE : hR_size M 22 = hR_size M 22 := rfl
  show zH n (0, 0) 101 (0, [zR 22], []) M _
  exact zH_wr (r := some (.inl (M 22 3))) 2 hz (by rfl) (hfinP hE)
set_option maxRecDepth 100000 in
theorem fh_102_22 {n : Nat} {M : zM} (a1 : Int) : zH n (0, 0) 102 (0, zini [zR 22, .inl a1] 2, []) M (fun r M' => r = some (.inl (hR_has M 22 a1)) ∧ M' = M) := by
  have hz := zp_102
  have hE : hR_has M 22 a1 = hR_has M 22 a1 := rfl
  show zH n (0, 0) 102 (0, [zR 22, .inl a1], []) M _
  refine zH_wf_lt (pc := 1) (n' := 4) (t := 16) (L := [zR 22, .inl a1]) (st := []) (x := a1) 1 hz (by rfl) (fun hb => ?_) (fun hb => ?_)
  · have hE := hE.trans (if_pos hb)
    refine zH_w (c' := (17, [zR 22, .inl a1], [.inl 0])) 1 hz rfl ?_
    exact zH_zret hz rfl (hfinP hE)
  · have hE := hE.trans (if_neg hb)
    refine zH_wi_ge (pc := 9) (n' := 12) (t := 16) (L := [zR 22, .inl a1]) (st := []) (x := a1) (y := (M 22 3)) 3 hz (by rfl) (fun hb => ?_) (fun hb => ?_)
    · have hE := hE.trans (if_pos hb)
      refine zH_w (c' := (17, [zR 22, .inl a1], [.inl 0])) 1 hz rfl ?_
      exact zH_zret hz rfl (hfinP hE)
    · have hE := hE.trans (if_neg hb)
      refine zH_w (c' := (17, [zR 22, .inl a1], [.inl 1])) 2 hz rfl ?_
      exact zH_zret hz rfl (hfinP hE)
set_option maxRecDepth 100000 in
theorem fh_103_22 {n : Nat} {M : zM} : zH n (0, 0) 103 (0, zini [zR 22] 1, []) M (fun r M' => r = some (.inl (hR_open M 22).1) ∧ M' = (hR_open M 22).2) := by
  have hz := zp_103
  have hE : hR_open M 22 = hR_open M 22 := rfl
  show zH n (0, 0) 103 (0, [zR 22], []) M _
  refine zH_wi_lt (pc := 8) (n' := 11) (t := 14) (L := [zR 22]) (st := []) (x := (M 22 3)) (y := (M 22 0)) 4 hz (by rfl) (fun hb => ?_) (fun hb => ?_)
  · have hE := hE.trans (if_pos hb)
    refine zH_w (c' := (30, [zR 22], [.inl (w32 (((zput M 22 3 (w32 ((M 22 3) + 1))) 22 3) - 1))])) 10 hz rfl ?_
    exact zH_wr (r := some (.inl (w32 (((zput M 22 3 (w32 ((M 22 3) + 1))) 22 3) - 1)))) 0 hz (by rfl) (hfinB hE)
  · have hE := hE.trans (if_neg hb)
    exact zH_wr (r := some (.inl (-4))) 1 hz (by rfl) (hfinB hE)
set_option maxRecDepth 100000 in
theorem fh_106_22 {n : Nat} {M : zM} (a1 : Int) (a2 : Int) : zH n (0, 0) 106 (0, zini [zR 22, .inl a1, .inl a2] 3, []) M (fun r M' => r = some (.inl (hR_get M 22 a1 a2)) ∧ M' = M) := by
  have hz := zp_106
  have hE : hR_get M 22 a1 a2 = hR_get M 22 a1 a2 := rfl
  show zH n (0, 0) 106 (0, [zR 22, .inl a1, .inl a2], []) M _
  refine zH_wf_lt (pc := 1) (n' := 4) (t := 24) (L := [zR 22, .inl a1, .inl a2]) (st := []) (x := a1) 1 hz (by rfl) (fun hb => ?_) (fun hb => ?_)
  · have hE := hE.trans (if_pos hb)
    exact zH_wr (r := some (.inl (-1))) 1 hz (by rfl) (hfinP hE)
  · have hE := hE.trans (if_neg hb)
    refine zH_wi_ge (pc := 9) (n' := 12) (t := 24) (L := [zR 22, .inl a1, .inl a2]) (st := []) (x := a1) (y := (M 22 0)) 3 hz (by rfl) (fun hb => ?_) (fun hb => ?_)
    · have hE := hE.trans (if_pos hb)
      exact zH_wr (r := some (.inl (-1))) 1 hz (by rfl) (hfinP hE)
    · have hE := hE.trans (if_neg hb)
      refine zH_wf_lt (pc := 13) (n' := 16) (t := 24) (L := [zR 22, .inl a1, .inl a2]) (st := []) (x := a2) 1 hz (by rfl) (fun hb => ?_) (fun hb => ?_)
      · have hE := hE.trans (if_pos hb)
        exact zH_wr (r := some (.inl (-1))) 1 hz (by rfl) (hfinP hE)
      · have hE := hE.trans (if_neg hb)
        refine zH_wi_lt (pc := 21) (n' := 24) (t := 26) (L := [zR 22, .inl a1, .inl a2]) (st := []) (x := a2) (y := (M 22 1)) 3 hz (by rfl) (fun hb => ?_) (fun hb => ?_)
        · have hE := hE.trans (if_pos hb)
          refine zH_w (c' := (38, [zR 22, .inl a1, .inl a2], [.inl (w32 ((w32 (a1 * (M 22 1))) + a2)), zR 23])) 8 hz rfl ?_
          refine zH_iald hz rfl rfl (.inl rfl) (fun _ => ?_)
          show zH n (0, 0) 106 (39, [zR 22, .inl a1, .inl a2], [.inl (M 23 (w32 ((w32 (a1 * (M 22 1))) + a2) : Int).toNat)]) M _
          exact zH_wr (r := some (.inl (M 23 (w32 ((w32 (a1 * (M 22 1))) + a2) : Int).toNat))) 0 hz (by rfl) (hfinP hE)
        · have hE := hE.trans (if_neg hb)
          exact zH_wr (r := some (.inl (-1))) 1 hz (by rfl) (hfinP hE)
set_option maxRecDepth 100000 in
theorem fh_107_22 {n : Nat} {M : zM} (a1 : Int) (a2 : Int) (a3 : Int) : zH n (0, 0) 107 (0, zini [zR 22, .inl a1, .inl a2, .inl a3] 4, []) M (fun r M' => r = none ∧ M' = hR_set M 22 a1 a2 a3) := by
  have hz := zp_107
  have hE : hR_set M 22 a1 a2 a3 = hR_set M 22 a1 a2 a3 := rfl
  show zH n (0, 0) 107 (0, [zR 22, .inl a1, .inl a2, .inl a3], []) M _
  refine zH_wf_lt (pc := 1) (n' := 4) (t := 24) (L := [zR 22, .inl a1, .inl a2, .inl a3]) (st := []) (x := a1) 1 hz (by rfl) (fun hb => ?_) (fun hb => ?_)
  · have hE := hE.trans (if_pos hb)
    exact zH_wr (r := none) 0 hz (by rfl) ⟨rfl, hE.symm⟩
  · have hE := hE.trans (if_neg hb)
    refine zH_wi_ge (pc := 9) (n' := 12) (t := 24) (L := [zR 22, .inl a1, .inl a2, .inl a3]) (st := []) (x := a1) (y := (M 22 0)) 3 hz (by rfl) (fun hb => ?_) (fun hb => ?_)
    · have hE := hE.trans (if_pos hb)
      exact zH_wr (r := none) 0 hz (by rfl) ⟨rfl, hE.symm⟩
    · have hE := hE.trans (if_neg hb)
      refine zH_wf_lt (pc := 13) (n' := 16) (t := 24) (L := [zR 22, .inl a1, .inl a2, .inl a3]) (st := []) (x := a2) 1 hz (by rfl) (fun hb => ?_) (fun hb => ?_)
      · have hE := hE.trans (if_pos hb)
        exact zH_wr (r := none) 0 hz (by rfl) ⟨rfl, hE.symm⟩
      · have hE := hE.trans (if_neg hb)
        refine zH_wi_lt (pc := 21) (n' := 24) (t := 25) (L := [zR 22, .inl a1, .inl a2, .inl a3]) (st := []) (x := a2) (y := (M 22 1)) 3 hz (by rfl) (fun hb => ?_) (fun hb => ?_)
        · have hE := hE.trans (if_pos hb)
          refine zH_w (c' := (38, [zR 22, .inl a1, .inl a2, .inl a3], [.inl a3, .inl (w32 ((w32 (a1 * (M 22 1))) + a2)), zR 23])) 9 hz rfl ?_
          refine zH_iast hz rfl rfl (fun _ => ?_)
          show zH n (0, 0) 107 (39, [zR 22, .inl a1, .inl a2, .inl a3], []) (zput M 23 (w32 ((w32 (a1 * (M 22 1))) + a2) : Int).toNat a3) _
          exact zH_wr (r := none) 0 hz (by rfl) ⟨rfl, hE.symm⟩
        · have hE := hE.trans (if_neg hb)
          exact zH_wr (r := none) 0 hz (by rfl) ⟨rfl, hE.symm⟩
set_option maxRecDepth 100000 in
theorem fh_101_24 {n : Nat} {M : zM} : zH n (0, 0) 101 (0, zini [zR 24] 1, []) M (fun r M' => r = some (.inl (hR_size M 24)) ∧ M' = M) := by
  have hz := zp_101
  have hE : hR_size M 24 = hR_size M 24 := rfl
  show zH n (0, 0) 101 (0, [zR 24], []) M _
  exact zH_wr (r := some (.inl (M 24 3))) 2 hz (by rfl) (hfinP hE)
set_option maxRecDepth 100000 in
theorem fh_102_24 {n : Nat} {M : zM} (a1 : Int) : zH n (0, 0) 102 (0, zini [zR 24, .inl a1] 2, []) M (fun r M' => r = some (.inl (hR_has M 24 a1)) ∧ M' = M) := by
  have hz := zp_102
  have hE : hR_has M 24 a1 = hR_has M 24 a1 := rfl
  show zH n (0, 0) 102 (0, [zR 24, .inl a1], []) M _
  refine zH_wf_lt (pc := 1) (n' := 4) (t := 16) (L := [zR 24, .inl a1]) (st := []) (x := a1) 1 hz (by rfl) (fun hb => ?_) (fun hb => ?_)
  · have hE := hE.trans (if_pos hb)
    refine zH_w (c' := (17, [zR 24, .inl a1], [.inl 0])) 1 hz rfl ?_
    exact zH_zret hz rfl (hfinP hE)
  · have hE := hE.trans (if_neg hb)
    refine zH_wi_ge (pc := 9) (n' := 12) (t := 16) (L := [zR 24, .inl a1]) (st := []) (x := a1) (y := (M 24 3)) 3 hz (by rfl) (fun hb => ?_) (fun hb => ?_)
    · have hE := hE.trans (if_pos hb)
      refine zH_w (c' := (17, [zR 24, .inl a1], [.inl 0])) 1 hz rfl ?_
      exact zH_zret hz rfl (hfinP hE)
    · have hE := hE.trans (if_neg hb)
      refine zH_w (c' := (17, [zR 24, .inl a1], [.inl 1])) 2 hz rfl ?_
      exact zH_zret hz rfl (hfinP hE)
set_option maxRecDepth 100000 in
theorem fh_103_24 {n : Nat} {M : zM} : zH n (0, 0) 103 (0, zini [zR 24] 1, []) M (fun r M' => r = some (.inl (hR_open M 24).1) ∧ M' = (hR_open M 24).2) := by
  have hz := zp_103
  have hE : hR_open M 24 = hR_open M 24 := rfl
  show zH n (0, 0) 103 (0, [zR 24], []) M _
  refine zH_wi_lt (pc := 8) (n' := 11) (t := 14) (L := [zR 24]) (st := []) (x := (M 24 3)) (y := (M 24 0)) 4 hz (by rfl) (fun hb => ?_) (fun hb => ?_)
  · have hE := hE.trans (if_pos hb)
    refine zH_w (c' := (30, [zR 24], [.inl (w32 (((zput M 24 3 (w32 ((M 24 3) + 1))) 24 3) - 1))])) 10 hz rfl ?_
    exact zH_wr (r := some (.inl (w32 (((zput M 24 3 (w32 ((M 24 3) + 1))) 24 3) - 1)))) 0 hz (by rfl) (hfinB hE)
  · have hE := hE.trans (if_neg hb)
    exact zH_wr (r := some (.inl (-4))) 1 hz (by rfl) (hfinB hE)
set_option maxRecDepth 100000 in
theorem fh_106_24 {n : Nat} {M : zM} (a1 : Int) (a2 : Int) : zH n (0, 0) 106 (0, zini [zR 24, .inl a1, .inl a2] 3, []) M (fun r M' => r = some (.inl (hR_get M 24 a1 a2)) ∧ M' = M) := by
  have hz := zp_106
  have hE : hR_get M 24 a1 a2 = hR_get M 24 a1 a2 := rfl
  show zH n (0, 0) 106 (0, [zR 24, .inl a1, .inl a2], []) M _
  refine zH_wf_lt (pc := 1) (n' := 4) (t := 24) (L := [zR 24, .inl a1, .inl a2]) (st := []) (x := a1) 1 hz (by rfl) (fun hb => ?_) (fun hb => ?_)
  · have hE := hE.trans (if_pos hb)
    exact zH_wr (r := some (.inl (-1))) 1 hz (by rfl) (hfinP hE)
  · have hE := hE.trans (if_neg hb)
    refine zH_wi_ge (pc := 9) (n' := 12) (t := 24) (L := [zR 24, .inl a1, .inl a2]) (st := []) (x := a1) (y := (M 24 0)) 3 hz (by rfl) (fun hb => ?_) (fun hb => ?_)
    · have hE := hE.trans (if_pos hb)
      exact zH_wr (r := some (.inl (-1))) 1 hz (by rfl) (hfinP hE)
    · have hE := hE.trans (if_neg hb)
      refine zH_wf_lt (pc := 13) (n' := 16) (t := 24) (L := [zR 24, .inl a1, .inl a2]) (st := []) (x := a2) 1 hz (by rfl) (fun hb => ?_) (fun hb => ?_)
      · have hE := hE.trans (if_pos hb)
        exact zH_wr (r := some (.inl (-1))) 1 hz (by rfl) (hfinP hE)
      · have hE := hE.trans (if_neg hb)
        refine zH_wi_lt (pc := 21) (n' := 24) (t := 26) (L := [zR 24, .inl a1, .inl a2]) (st := []) (x := a2) (y := (M 24 1)) 3 hz (by rfl) (fun hb => ?_) (fun hb => ?_)
        · have hE := hE.trans (if_pos hb)
          refine zH_w (c' := (38, [zR 24, .inl a1, .inl a2], [.inl (w32 ((w32 (a1 * (M 24 1))) + a2)), zR 25])) 8 hz rfl ?_
          refine zH_iald hz rfl rfl (.inl rfl) (fun _ => ?_)
          show zH n (0, 0) 106 (39, [zR 24, .inl a1, .inl a2], [.inl (M 25 (w32 ((w32 (a1 * (M 24 1))) + a2) : Int).toNat)]) M _
          exact zH_wr (r := some (.inl (M 25 (w32 ((w32 (a1 * (M 24 1))) + a2) : Int).toNat))) 0 hz (by rfl) (hfinP hE)
        · have hE := hE.trans (if_neg hb)
          exact zH_wr (r := some (.inl (-1))) 1 hz (by rfl) (hfinP hE)
set_option maxRecDepth 100000 in
theorem fh_107_24 {n : Nat} {M : zM} (a1 : Int) (a2 : Int) (a3 : Int) : zH n (0, 0) 107 (0, zini [zR 24, .inl a1, .inl a2, .inl a3] 4, []) M (fun r M' => r = none ∧ M' = hR_set M 24 a1 a2 a3) := by
  have hz := zp_107
  have hE : hR_set M 24 a1 a2 a3 = hR_set M 24 a1 a2 a3 := rfl
  show zH n (0, 0) 107 (0, [zR 24, .inl a1, .inl a2, .inl a3], []) M _
  refine zH_wf_lt (pc := 1) (n' := 4) (t := 24) (L := [zR 24, .inl a1, .inl a2, .inl a3]) (st := []) (x := a1) 1 hz (by rfl) (fun hb => ?_) (fun hb => ?_)
  · have hE := hE.trans (if_pos hb)
    exact zH_wr (r := none) 0 hz (by rfl) ⟨rfl, hE.symm⟩
  · have hE := hE.trans (if_neg hb)
    refine zH_wi_ge (pc := 9) (n' := 12) (t := 24) (L := [zR 24, .inl a1, .inl a2, .inl a3]) (st := []) (x := a1) (y := (M 24 0)) 3 hz (by rfl) (fun hb => ?_) (fun hb => ?_)
    · have hE := hE.trans (if_pos hb)
      exact zH_wr (r := none) 0 hz (by rfl) ⟨rfl, hE.symm⟩
    · have hE := hE.trans (if_neg hb)
      refine zH_wf_lt (pc := 13) (n' := 16) (t := 24) (L := [zR 24, .inl a1, .inl a2, .inl a3]) (st := []) (x := a2) 1 hz (by rfl) (fun hb => ?_) (fun hb => ?_)
      · have hE := hE.trans (if_pos hb)
        exact zH_wr (r := none) 0 hz (by rfl) ⟨rfl, hE.symm⟩
      · have hE := hE.trans (if_neg hb)
        refine zH_wi_lt (pc := 21) (n' := 24) (t := 25) (L := [zR 24, .inl a1, .inl a2, .inl a3]) (st := []) (x := a2) (y := (M 24 1)) 3 hz (by rfl) (fun hb => ?_) (fun hb => ?_)
        · have hE := hE.trans (if_pos hb)
          refine zH_w (c' := (38, [zR 24, .inl a1, .inl a2, .inl a3], [.inl a3, .inl (w32 ((w32 (a1 * (M 24 1))) + a2)), zR 25])) 9 hz rfl ?_
          refine zH_iast hz rfl rfl (fun _ => ?_)
          show zH n (0, 0) 107 (39, [zR 24, .inl a1, .inl a2, .inl a3], []) (zput M 25 (w32 ((w32 (a1 * (M 24 1))) + a2) : Int).toNat a3) _
          exact zH_wr (r := none) 0 hz (by rfl) ⟨rfl, hE.symm⟩
        · have hE := hE.trans (if_neg hb)
          exact zH_wr (r := none) 0 hz (by rfl) ⟨rfl, hE.symm⟩
noncomputable def hR_drop (M : zM) (r : Nat) : zM :=
  zput M r 3 0
set_option maxRecDepth 100000 in
theorem fh_104_24 {n : Nat} {M : zM} : zH n (0, 0) 104 (0, zini [zR 24] 1, []) M (fun r M' => r = none ∧ M' = hR_drop M 24) := by
  have hz := zp_104
  have hE : hR_drop M 24 = hR_drop M 24 := rfl
  show zH n (0, 0) 104 (0, [zR 24], []) M _
  refine zH_w (c' := (5, [zR 24], [])) 3 hz rfl ?_
  exact zH_wr (r := none) 0 hz (by rfl) ⟨rfl, hE.symm⟩
noncomputable def hf_169 (M : zM) (a0 : Int) (a1 : Int) (a2 : Int) : Int :=
  (if a0 < a1 then 0 else (if a2 < a0 then 0 else 1))
set_option maxRecDepth 100000 in
theorem fh_169 {n : Nat} {M : zM} (a0 : Int) (a1 : Int) (a2 : Int) : zH n (0, 0) 169 (0, zini [.inl a0, .inl a1, .inl a2] 3, []) M (fun r M' => r = some (.inl (hf_169 M a0 a1 a2)) ∧ M' = M) := by
  have hz := zp_169
  have hE : hf_169 M a0 a1 a2 = hf_169 M a0 a1 a2 := rfl
  show zH n (0, 0) 169 (0, [.inl a0, .inl a1, .inl a2], []) M _
  refine zH_wi_lt (pc := 2) (n' := 5) (t := 14) (L := [.inl a0, .inl a1, .inl a2]) (st := []) (x := a0) (y := a1) 2 hz (by rfl) (fun hb => ?_) (fun hb => ?_)
  · have hE := hE.trans (if_pos hb)
    refine zH_w (c' := (15, [.inl a0, .inl a1, .inl a2], [.inl 0])) 1 hz rfl ?_
    exact zH_zret hz rfl (hfinP hE)
  · have hE := hE.trans (if_neg hb)
    refine zH_wi_gt (pc := 7) (n' := 10) (t := 14) (L := [.inl a0, .inl a1, .inl a2]) (st := []) (x := a0) (y := a2) 2 hz (by rfl) (fun hb => ?_) (fun hb => ?_)
    · have hE := hE.trans (if_pos hb)
      refine zH_w (c' := (15, [.inl a0, .inl a1, .inl a2], [.inl 0])) 1 hz rfl ?_
      exact zH_zret hz rfl (hfinP hE)
    · have hE := hE.trans (if_neg hb)
      refine zH_w (c' := (15, [.inl a0, .inl a1, .inl a2], [.inl 1])) 2 hz rfl ?_
      exact zH_zret hz rfl (hfinP hE)
noncomputable def hf_177_8 (M : zM) : Int :=
  w32 ((zbshl 1 (hR_size M 10)) - 1)
set_option maxRecDepth 100000 in
theorem fh_177_8 {n : Nat} {M : zM} : zH n (0, 0) 177 (0, zini [zR 8] 1, []) M (fun r M' => r = some (.inl (hf_177_8 M)) ∧ M' = M) := by
  have hz := zp_177
  have hE : hf_177_8 M = hf_177_8 M := rfl
  show zH n (0, 0) 177 (0, [zR 8], []) M _
  refine zH_wE (c1 := (11, [zR 8], [.inl 1])) 4 hz zp_101 (fh_101_10) (by rfl) ?_
  show zH n (0, 0) 177 (11, [zR 8], [.inl (hR_size M 10), .inl 1]) M _
  exact zH_wr (r := some (.inl (w32 ((zbshl 1 (hR_size M 10)) - 1)))) 3 hz (by rfl) (hfinP hE)
noncomputable def hf_123_8 (M : zM) (a1 : Int) (a2 : Int) (a3 : Int) (a4 : Int) : Int × zM :=
  (if (hf_169 M a1 1 60) = 0 then ((-2), M) else (if ¬ (hf_169 M a2 0 (hf_177_8 M)) = 0 then (if (hf_169 M a3 1 7) = 0 then ((-2), M) else (if ¬ (hf_169 M a4 0 100) = 0 then (((hR_open M 10).1), (hR_set (hR_set (hR_set (hR_set ((hR_open M 10).2) 10 ((hR_open M 10).1) 0 a1) 10 ((hR_open M 10).1) 1 a2) 10 ((hR_open M 10).1) 2 a3) 10 ((hR_open M 10).1) 3 a4)) else ((-2), M))) else ((-2), M)))
set_option maxRecDepth 100000 in
theorem fh_123_8 {n : Nat} {M : zM} (a1 : Int) (a2 : Int) (a3 : Int) (a4 : Int) : zH n (0, 0) 123 (0, zini [zR 8, .inl a1, .inl a2, .inl a3, .inl a4] 6, []) M (fun r M' => r = some (.inl (hf_123_8 M a1 a2 a3 a4).1) ∧ M' = (hf_123_8 M a1 a2 a3 a4).2) := by
  have hz := zp_123
  have hE : hf_123_8 M a1 a2 a3 a4 = hf_123_8 M a1 a2 a3 a4 := rfl
  show zH n (0, 0) 123 (0, [zR 8, .inl a1, .inl a2, .inl a3, .inl a4, zN], []) M _
  refine zH_wE (c1 := (7, [zR 8, .inl a1, .inl a2, .inl a3, .inl a4, zN], [])) 3 hz zp_169 (fh_169 a1 1 60) (by rfl) ?_
  show zH n (0, 0) 123 (7, [zR 8, .inl a1, .inl a2, .inl a3, .inl a4, zN], [.inl (hf_169 M a1 1 60)]) M _
  refine zH_wf_eq (pc := 7) (n' := 10) (t := 22) (L := [zR 8, .inl a1, .inl a2, .inl a3, .inl a4, zN]) (st := []) (x := (hf_169 M a1 1 60)) 0 hz (by rfl) (fun hb => ?_) (fun hb => ?_)
  · have hE := hE.trans (if_pos hb)
    exact zH_wr (r := some (.inl (-2))) 1 hz (by rfl) (hfinB hE)
  · have hE := hE.trans (if_neg hb)
    refine zH_wE (c1 := (16, [zR 8, .inl a1, .inl a2, .inl a3, .inl a4, zN], [.inl 0, .inl a2])) 3 hz zp_177 (fh_177_8) (by rfl) ?_
    show zH n (0, 0) 123 (16, [zR 8, .inl a1, .inl a2, .inl a3, .inl a4, zN], [.inl (hf_177_8 M), .inl 0, .inl a2]) M _
    refine zH_wE (c1 := (19, [zR 8, .inl a1, .inl a2, .inl a3, .inl a4, zN], [])) 0 hz zp_169 (fh_169 a2 0 (hf_177_8 M)) (by rfl) ?_
    show zH n (0, 0) 123 (19, [zR 8, .inl a1, .inl a2, .inl a3, .inl a4, zN], [.inl (hf_169 M a2 0 (hf_177_8 M))]) M _
    refine zH_wf_ne (pc := 19) (n' := 22) (t := 25) (L := [zR 8, .inl a1, .inl a2, .inl a3, .inl a4, zN]) (st := []) (x := (hf_169 M a2 0 (hf_177_8 M))) 0 hz (by rfl) (fun hb => ?_) (fun hb => ?_)
    · have hE := hE.trans (if_pos hb)
      refine zH_wE (c1 := (32, [zR 8, .inl a1, .inl a2, .inl a3, .inl a4, zN], [])) 3 hz zp_169 (fh_169 a3 1 7) (by rfl) ?_
      show zH n (0, 0) 123 (32, [zR 8, .inl a1, .inl a2, .inl a3, .inl a4, zN], [.inl (hf_169 M a3 1 7)]) M _
      refine zH_wf_eq (pc := 32) (n' := 35) (t := 46) (L := [zR 8, .inl a1, .inl a2, .inl a3, .inl a4, zN]) (st := []) (x := (hf_169 M a3 1 7)) 0 hz (by rfl) (fun hb => ?_) (fun hb => ?_)
      · have hE := hE.trans (if_pos hb)
        exact zH_wr (r := some (.inl (-2))) 1 hz (by rfl) (hfinB hE)
      · have hE := hE.trans (if_neg hb)
        refine zH_wE (c1 := (43, [zR 8, .inl a1, .inl a2, .inl a3, .inl a4, zN], [])) 3 hz zp_169 (fh_169 a4 0 100) (by rfl) ?_
        show zH n (0, 0) 123 (43, [zR 8, .inl a1, .inl a2, .inl a3, .inl a4, zN], [.inl (hf_169 M a4 0 100)]) M _
        refine zH_wf_ne (pc := 43) (n' := 46) (t := 49) (L := [zR 8, .inl a1, .inl a2, .inl a3, .inl a4, zN]) (st := []) (x := (hf_169 M a4 0 100)) 0 hz (by rfl) (fun hb => ?_) (fun hb => ?_)
        · have hE := hE.trans (if_pos hb)
          refine zH_wB (c1 := (59, [zR 8, .inl a1, .inl a2, .inl a3, .inl a4, zN], [])) 3 hz zp_103 (fh_103_10) (by rfl) ?_
          intro u1 N2 hu1 hN2
          show zH n (0, 0) 123 (59, [zR 8, .inl a1, .inl a2, .inl a3, .inl a4, zN], [.inl u1]) N2 _
          refine zH_wW (c1 := (75, [zR 8, .inl a1, .inl a2, .inl a3, .inl a4, .inl u1], [])) 7 hz zp_107 (fh_107_10 u1 0 a1) (by rfl) ?_
          intro N3 hN3
          show zH n (0, 0) 123 (75, [zR 8, .inl a1, .inl a2, .inl a3, .inl a4, .inl u1], []) N3 _
          refine zH_wW (c1 := (89, [zR 8, .inl a1, .inl a2, .inl a3, .inl a4, .inl u1], [])) 6 hz zp_107 (fh_107_10 u1 1 a2) (by rfl) ?_
          intro N4 hN4
          show zH n (0, 0) 123 (89, [zR 8, .inl a1, .inl a2, .inl a3, .inl a4, .inl u1], []) N4 _
          refine zH_wW (c1 := (103, [zR 8, .inl a1, .inl a2, .inl a3, .inl a4, .inl u1], [])) 6 hz zp_107 (fh_107_10 u1 2 a3) (by rfl) ?_
          intro N5 hN5
          show zH n (0, 0) 123 (103, [zR 8, .inl a1, .inl a2, .inl a3, .inl a4, .inl u1], []) N5 _
          refine zH_wW (c1 := (118, [zR 8, .inl a1, .inl a2, .inl a3, .inl a4, .inl u1], [])) 6 hz zp_107 (fh_107_10 u1 3 a4) (by rfl) ?_
          intro N6 hN6
          show zH n (0, 0) 123 (118, [zR 8, .inl a1, .inl a2, .inl a3, .inl a4, .inl u1], []) N6 _
          refine zH_w (c' := (120, [zR 8, .inl a1, .inl a2, .inl a3, .inl a4, .inl u1], [.inl u1])) 1 hz rfl ?_
          subst hN6
          subst hN5
          subst hN4
          subst hN3
          subst hN2
          subst hu1
          exact zH_ret hz rfl rfl (hfinB hE)
        · have hE := hE.trans (if_neg hb)
          exact zH_wr (r := some (.inl (-2))) 1 hz (by rfl) (hfinB hE)
    · have hE := hE.trans (if_neg hb)
      exact zH_wr (r := some (.inl (-2))) 1 hz (by rfl) (hfinB hE)
noncomputable def hf_170 (M : zM) (a0 : Int) : Int :=
  (hf_169 M a0 0 9999)
set_option maxRecDepth 100000 in
theorem fh_170 {n : Nat} {M : zM} (a0 : Int) : zH n (0, 0) 170 (0, zini [.inl a0] 1, []) M (fun r M' => r = some (.inl (hf_170 M a0)) ∧ M' = M) := by
  have hz := zp_170
  have hE : hf_170 M a0 = hf_170 M a0 := rfl
  show zH n (0, 0) 170 (0, [.inl a0], []) M _
  refine zH_wE (c1 := (8, [.inl a0], [])) 3 hz zp_169 (fh_169 a0 0 9999) (by rfl) ?_
  show zH n (0, 0) 170 (8, [.inl a0], [.inl (hf_169 M a0 0 9999)]) M _
  exact zH_zret hz rfl (hfinP hE)
noncomputable def hf_124_8 (M : zM) (a1 : Int) : Int × zM :=
  (if ¬ (hf_170 M a1) = 0 then (((hR_open M 12).1), (hR_set (hR_set (hR_set ((hR_open M 12).2) 12 ((hR_open M 12).1) 0 a1) 12 ((hR_open M 12).1) 1 (-1)) 12 ((hR_open M 12).1) 2 0)) else ((-2), M))
set_option maxRecDepth 100000 in
theorem fh_124_8 {n : Nat} {M : zM} (a1 : Int) : zH n (0, 0) 124 (0, zini [zR 8, .inl a1] 3, []) M (fun r M' => r = some (.inl (hf_124_8 M a1).1) ∧ M' = (hf_124_8 M a1).2) := by
  have hz := zp_124
  have hE : hf_124_8 M a1 = hf_124_8 M a1 := rfl
  show zH n (0, 0) 124 (0, [zR 8, .inl a1, zN], []) M _
  refine zH_wE (c1 := (4, [zR 8, .inl a1, zN], [])) 1 hz zp_170 (fh_170 a1) (by rfl) ?_
  show zH n (0, 0) 124 (4, [zR 8, .inl a1, zN], [.inl (hf_170 M a1)]) M _
  refine zH_wf_ne (pc := 4) (n' := 7) (t := 10) (L := [zR 8, .inl a1, zN]) (st := []) (x := (hf_170 M a1)) 0 hz (by rfl) (fun hb => ?_) (fun hb => ?_)
  · have hE := hE.trans (if_pos hb)
    refine zH_wB (c1 := (20, [zR 8, .inl a1, zN], [])) 3 hz zp_103 (fh_103_12) (by rfl) ?_
    intro u1 N2 hu1 hN2
    show zH n (0, 0) 124 (20, [zR 8, .inl a1, zN], [.inl u1]) N2 _
    refine zH_wW (c1 := (34, [zR 8, .inl a1, .inl u1], [])) 7 hz zp_107 (fh_107_12 u1 0 a1) (by rfl) ?_
    intro N3 hN3
    show zH n (0, 0) 124 (34, [zR 8, .inl a1, .inl u1], []) N3 _
    refine zH_wW (c1 := (47, [zR 8, .inl a1, .inl u1], [])) 6 hz zp_107 (fh_107_12 u1 1 (-1)) (by rfl) ?_
    intro N4 hN4
    show zH n (0, 0) 124 (47, [zR 8, .inl a1, .inl u1], []) N4 _
    refine zH_wW (c1 := (60, [zR 8, .inl a1, .inl u1], [])) 6 hz zp_107 (fh_107_12 u1 2 0) (by rfl) ?_
    intro N5 hN5
    show zH n (0, 0) 124 (60, [zR 8, .inl a1, .inl u1], []) N5 _
    refine zH_w (c' := (61, [zR 8, .inl a1, .inl u1], [.inl u1])) 1 hz rfl ?_
    subst hN5
    subst hN4
    subst hN3
    subst hN2
    subst hu1
    exact zH_ret hz rfl rfl (hfinB hE)
  · have hE := hE.trans (if_neg hb)
    exact zH_wr (r := some (.inl (-2))) 1 hz (by rfl) (hfinB hE)
noncomputable def hf_125_8 (M : zM) (a1 : Int) (a2 : Int) : Int × zM :=
  (if (hf_169 M a1 1 1023) = 0 then ((-2), M) else (if ¬ (hf_169 M a2 1 10) = 0 then (((hR_open M 14).1), (hR_set (hR_set ((hR_open M 14).2) 14 ((hR_open M 14).1) 0 a1) 14 ((hR_open M 14).1) 1 a2)) else ((-2), M)))
set_option maxRecDepth 100000 in
theorem fh_125_8 {n : Nat} {M : zM} (a1 : Int) (a2 : Int) : zH n (0, 0) 125 (0, zini [zR 8, .inl a1, .inl a2] 4, []) M (fun r M' => r = some (.inl (hf_125_8 M a1 a2).1) ∧ M' = (hf_125_8 M a1 a2).2) := by
  have hz := zp_125
  have hE : hf_125_8 M a1 a2 = hf_125_8 M a1 a2 := rfl
  show zH n (0, 0) 125 (0, [zR 8, .inl a1, .inl a2, zN], []) M _
  refine zH_wE (c1 := (8, [zR 8, .inl a1, .inl a2, zN], [])) 3 hz zp_169 (fh_169 a1 1 1023) (by rfl) ?_
  show zH n (0, 0) 125 (8, [zR 8, .inl a1, .inl a2, zN], [.inl (hf_169 M a1 1 1023)]) M _
  refine zH_wf_eq (pc := 8) (n' := 11) (t := 21) (L := [zR 8, .inl a1, .inl a2, zN]) (st := []) (x := (hf_169 M a1 1 1023)) 0 hz (by rfl) (fun hb => ?_) (fun hb => ?_)
  · have hE := hE.trans (if_pos hb)
    exact zH_wr (r := some (.inl (-2))) 1 hz (by rfl) (hfinB hE)
  · have hE := hE.trans (if_neg hb)
    refine zH_wE (c1 := (18, [zR 8, .inl a1, .inl a2, zN], [])) 3 hz zp_169 (fh_169 a2 1 10) (by rfl) ?_
    show zH n (0, 0) 125 (18, [zR 8, .inl a1, .inl a2, zN], [.inl (hf_169 M a2 1 10)]) M _
    refine zH_wf_ne (pc := 18) (n' := 21) (t := 24) (L := [zR 8, .inl a1, .inl a2, zN]) (st := []) (x := (hf_169 M a2 1 10)) 0 hz (by rfl) (fun hb => ?_) (fun hb => ?_)
    · have hE := hE.trans (if_pos hb)
      refine zH_wB (c1 := (34, [zR 8, .inl a1, .inl a2, zN], [])) 3 hz zp_103 (fh_103_14) (by rfl) ?_
      intro u1 N2 hu1 hN2
      show zH n (0, 0) 125 (34, [zR 8, .inl a1, .inl a2, zN], [.inl u1]) N2 _
      refine zH_wW (c1 := (48, [zR 8, .inl a1, .inl a2, .inl u1], [])) 7 hz zp_107 (fh_107_14 u1 0 a1) (by rfl) ?_
      intro N3 hN3
      show zH n (0, 0) 125 (48, [zR 8, .inl a1, .inl a2, .inl u1], []) N3 _
      refine zH_wW (c1 := (61, [zR 8, .inl a1, .inl a2, .inl u1], [])) 6 hz zp_107 (fh_107_14 u1 1 a2) (by rfl) ?_
      intro N4 hN4
      show zH n (0, 0) 125 (61, [zR 8, .inl a1, .inl a2, .inl u1], []) N4 _
      refine zH_w (c' := (62, [zR 8, .inl a1, .inl a2, .inl u1], [.inl u1])) 1 hz rfl ?_
      subst hN4
      subst hN3
      subst hN2
      subst hu1
      exact zH_ret hz rfl rfl (hfinB hE)
    · have hE := hE.trans (if_neg hb)
      exact zH_wr (r := some (.inl (-2))) 1 hz (by rfl) (hfinB hE)
noncomputable def hf_126_8 (M : zM) (a1 : Int) (a2 : Int) (a3 : Int) (a4 : Int) : Int × zM :=
  (if (hR_has M 14 a1) = 0 then ((-2), M) else (if ¬ (hf_170 M a2) = 0 then (if (hf_169 M a3 0 1023) = 0 then ((-2), M) else (if ¬ (hf_169 M a4 0 1023) = 0 then (((hR_open M 16).1), (hR_set (hR_set (hR_set (hR_set (hR_set ((hR_open M 16).2) 16 ((hR_open M 16).1) 0 a1) 16 ((hR_open M 16).1) 1 a2) 16 ((hR_open M 16).1) 2 a3) 16 ((hR_open M 16).1) 3 a4) 16 ((hR_open M 16).1) 4 0)) else ((-2), M))) else ((-2), M)))
set_option maxRecDepth 100000 in
theorem fh_126_8 {n : Nat} {M : zM} (a1 : Int) (a2 : Int) (a3 : Int) (a4 : Int) : zH n (0, 0) 126 (0, zini [zR 8, .inl a1, .inl a2, .inl a3, .inl a4] 6, []) M (fun r M' => r = some (.inl (hf_126_8 M a1 a2 a3 a4).1) ∧ M' = (hf_126_8 M a1 a2 a3 a4).2) := by
  have hz := zp_126
  have hE : hf_126_8 M a1 a2 a3 a4 = hf_126_8 M a1 a2 a3 a4 := rfl
  show zH n (0, 0) 126 (0, [zR 8, .inl a1, .inl a2, .inl a3, .inl a4, zN], []) M _
  refine zH_wE (c1 := (11, [zR 8, .inl a1, .inl a2, .inl a3, .inl a4, zN], [])) 4 hz zp_102 (fh_102_14 a1) (by rfl) ?_
  show zH n (0, 0) 126 (11, [zR 8, .inl a1, .inl a2, .inl a3, .inl a4, zN], [.inl (hR_has M 14 a1)]) M _
  refine zH_wf_eq (pc := 11) (n' := 14) (t := 21) (L := [zR 8, .inl a1, .inl a2, .inl a3, .inl a4, zN]) (st := []) (x := (hR_has M 14 a1)) 0 hz (by rfl) (fun hb => ?_) (fun hb => ?_)
  · have hE := hE.trans (if_pos hb)
    exact zH_wr (r := some (.inl (-2))) 1 hz (by rfl) (hfinB hE)
  · have hE := hE.trans (if_neg hb)
    refine zH_wE (c1 := (18, [zR 8, .inl a1, .inl a2, .inl a3, .inl a4, zN], [])) 1 hz zp_170 (fh_170 a2) (by rfl) ?_
    show zH n (0, 0) 126 (18, [zR 8, .inl a1, .inl a2, .inl a3, .inl a4, zN], [.inl (hf_170 M a2)]) M _
    refine zH_wf_ne (pc := 18) (n' := 21) (t := 24) (L := [zR 8, .inl a1, .inl a2, .inl a3, .inl a4, zN]) (st := []) (x := (hf_170 M a2)) 0 hz (by rfl) (fun hb => ?_) (fun hb => ?_)
    · have hE := hE.trans (if_pos hb)
      refine zH_wE (c1 := (32, [zR 8, .inl a1, .inl a2, .inl a3, .inl a4, zN], [])) 3 hz zp_169 (fh_169 a3 0 1023) (by rfl) ?_
      show zH n (0, 0) 126 (32, [zR 8, .inl a1, .inl a2, .inl a3, .inl a4, zN], [.inl (hf_169 M a3 0 1023)]) M _
      refine zH_wf_eq (pc := 32) (n' := 35) (t := 47) (L := [zR 8, .inl a1, .inl a2, .inl a3, .inl a4, zN]) (st := []) (x := (hf_169 M a3 0 1023)) 0 hz (by rfl) (fun hb => ?_) (fun hb => ?_)
      · have hE := hE.trans (if_pos hb)
        exact zH_wr (r := some (.inl (-2))) 1 hz (by rfl) (hfinB hE)
      · have hE := hE.trans (if_neg hb)
        refine zH_wE (c1 := (44, [zR 8, .inl a1, .inl a2, .inl a3, .inl a4, zN], [])) 3 hz zp_169 (fh_169 a4 0 1023) (by rfl) ?_
        show zH n (0, 0) 126 (44, [zR 8, .inl a1, .inl a2, .inl a3, .inl a4, zN], [.inl (hf_169 M a4 0 1023)]) M _
        refine zH_wf_ne (pc := 44) (n' := 47) (t := 50) (L := [zR 8, .inl a1, .inl a2, .inl a3, .inl a4, zN]) (st := []) (x := (hf_169 M a4 0 1023)) 0 hz (by rfl) (fun hb => ?_) (fun hb => ?_)
        · have hE := hE.trans (if_pos hb)
          refine zH_wB (c1 := (60, [zR 8, .inl a1, .inl a2, .inl a3, .inl a4, zN], [])) 3 hz zp_103 (fh_103_16) (by rfl) ?_
          intro u1 N2 hu1 hN2
          show zH n (0, 0) 126 (60, [zR 8, .inl a1, .inl a2, .inl a3, .inl a4, zN], [.inl u1]) N2 _
          refine zH_wW (c1 := (76, [zR 8, .inl a1, .inl a2, .inl a3, .inl a4, .inl u1], [])) 7 hz zp_107 (fh_107_16 u1 0 a1) (by rfl) ?_
          intro N3 hN3
          show zH n (0, 0) 126 (76, [zR 8, .inl a1, .inl a2, .inl a3, .inl a4, .inl u1], []) N3 _
          refine zH_wW (c1 := (90, [zR 8, .inl a1, .inl a2, .inl a3, .inl a4, .inl u1], [])) 6 hz zp_107 (fh_107_16 u1 1 a2) (by rfl) ?_
          intro N4 hN4
          show zH n (0, 0) 126 (90, [zR 8, .inl a1, .inl a2, .inl a3, .inl a4, .inl u1], []) N4 _
          refine zH_wW (c1 := (104, [zR 8, .inl a1, .inl a2, .inl a3, .inl a4, .inl u1], [])) 6 hz zp_107 (fh_107_16 u1 2 a3) (by rfl) ?_
          intro N5 hN5
          show zH n (0, 0) 126 (104, [zR 8, .inl a1, .inl a2, .inl a3, .inl a4, .inl u1], []) N5 _
          refine zH_wW (c1 := (119, [zR 8, .inl a1, .inl a2, .inl a3, .inl a4, .inl u1], [])) 6 hz zp_107 (fh_107_16 u1 3 a4) (by rfl) ?_
          intro N6 hN6
          show zH n (0, 0) 126 (119, [zR 8, .inl a1, .inl a2, .inl a3, .inl a4, .inl u1], []) N6 _
          refine zH_wW (c1 := (133, [zR 8, .inl a1, .inl a2, .inl a3, .inl a4, .inl u1], [])) 6 hz zp_107 (fh_107_16 u1 4 0) (by rfl) ?_
          intro N7 hN7
          show zH n (0, 0) 126 (133, [zR 8, .inl a1, .inl a2, .inl a3, .inl a4, .inl u1], []) N7 _
          refine zH_w (c' := (135, [zR 8, .inl a1, .inl a2, .inl a3, .inl a4, .inl u1], [.inl u1])) 1 hz rfl ?_
          subst hN7
          subst hN6
          subst hN5
          subst hN4
          subst hN3
          subst hN2
          subst hu1
          exact zH_ret hz rfl rfl (hfinB hE)
        · have hE := hE.trans (if_neg hb)
          exact zH_wr (r := some (.inl (-2))) 1 hz (by rfl) (hfinB hE)
    · have hE := hE.trans (if_neg hb)
      exact zH_wr (r := some (.inl (-2))) 1 hz (by rfl) (hfinB hE)
noncomputable def hf_127_8 (M : zM) (a1 : Int) (a2 : Int) : Int × zM :=
  (if ¬ (hR_has M 16 a1) = 0 then (if a2 = 0 then (if ¬ (hR_get M 16 a1 4) = 0 then (1, (hR_set M 16 a1 4 0)) else ((-3), M)) else (if ¬ (hR_get M 16 a1 4) = 1 then (1, (hR_set M 16 a1 4 1)) else ((-3), M))) else ((-2), M))
set_option maxRecDepth 100000 in
theorem fh_127_8 {n : Nat} {M : zM} (a1 : Int) (a2 : Int) : zH n (0, 0) 127 (0, zini [zR 8, .inl a1, .inl a2] 4, []) M (fun r M' => r = some (.inl (hf_127_8 M a1 a2).1) ∧ M' = (hf_127_8 M a1 a2).2) := by
  have hz := zp_127
  have hE : hf_127_8 M a1 a2 = hf_127_8 M a1 a2 := rfl
  show zH n (0, 0) 127 (0, [zR 8, .inl a1, .inl a2, zN], []) M _
  refine zH_wE (c1 := (11, [zR 8, .inl a1, .inl a2, zN], [])) 4 hz zp_102 (fh_102_16 a1) (by rfl) ?_
  show zH n (0, 0) 127 (11, [zR 8, .inl a1, .inl a2, zN], [.inl (hR_has M 16 a1)]) M _
  refine zH_wf_ne (pc := 11) (n' := 14) (t := 17) (L := [zR 8, .inl a1, .inl a2, zN]) (st := []) (x := (hR_has M 16 a1)) 0 hz (by rfl) (fun hb => ?_) (fun hb => ?_)
  · have hE := hE.trans (if_pos hb)
    refine zH_wf_eq (pc := 18) (n' := 21) (t := 25) (L := [zR 8, .inl a1, .inl a2, zN]) (st := []) (x := a2) 1 hz (by rfl) (fun hb => ?_) (fun hb => ?_)
    · have hE := hE.trans (if_pos hb)
      refine zH_wE (c1 := (39, [zR 8, .inl a1, .inl a2, .inl 0], [])) 7 hz zp_106 (fh_106_16 a1 4) (by rfl) ?_
      show zH n (0, 0) 127 (39, [zR 8, .inl a1, .inl a2, .inl 0], [.inl (hR_get M 16 a1 4)]) M _
      refine zH_wi_ne (pc := 40) (n' := 43) (t := 46) (L := [zR 8, .inl a1, .inl a2, .inl 0]) (st := []) (x := (hR_get M 16 a1 4)) (y := 0) 1 hz (by rfl) (fun hb => ?_) (fun hb => ?_)
      · have hE := hE.trans (if_pos hb)
        refine zH_wW (c1 := (59, [zR 8, .inl a1, .inl a2, .inl 0], [])) 6 hz zp_107 (fh_107_16 a1 4 0) (by rfl) ?_
        intro N1 hN1
        show zH n (0, 0) 127 (59, [zR 8, .inl a1, .inl a2, .inl 0], []) N1 _
        refine zH_w (c' := (60, [zR 8, .inl a1, .inl a2, .inl 0], [.inl 1])) 1 hz rfl ?_
        subst hN1
        exact zH_ret hz rfl rfl (hfinB hE)
      · have hE := hE.trans (if_neg hb)
        exact zH_wr (r := some (.inl (-3))) 1 hz (by rfl) (hfinB hE)
    · have hE := hE.trans (if_neg hb)
      refine zH_wE (c1 := (39, [zR 8, .inl a1, .inl a2, .inl 1], [])) 8 hz zp_106 (fh_106_16 a1 4) (by rfl) ?_
      show zH n (0, 0) 127 (39, [zR 8, .inl a1, .inl a2, .inl 1], [.inl (hR_get M 16 a1 4)]) M _
      refine zH_wi_ne (pc := 40) (n' := 43) (t := 46) (L := [zR 8, .inl a1, .inl a2, .inl 1]) (st := []) (x := (hR_get M 16 a1 4)) (y := 1) 1 hz (by rfl) (fun hb => ?_) (fun hb => ?_)
      · have hE := hE.trans (if_pos hb)
        refine zH_wW (c1 := (59, [zR 8, .inl a1, .inl a2, .inl 1], [])) 6 hz zp_107 (fh_107_16 a1 4 1) (by rfl) ?_
        intro N2 hN2
        show zH n (0, 0) 127 (59, [zR 8, .inl a1, .inl a2, .inl 1], []) N2 _
        refine zH_w (c' := (60, [zR 8, .inl a1, .inl a2, .inl 1], [.inl 1])) 1 hz rfl ?_
        subst hN2
        exact zH_ret hz rfl rfl (hfinB hE)
      · have hE := hE.trans (if_neg hb)
        exact zH_wr (r := some (.inl (-3))) 1 hz (by rfl) (hfinB hE)
  · have hE := hE.trans (if_neg hb)
    exact zH_wr (r := some (.inl (-2))) 1 hz (by rfl) (hfinB hE)
noncomputable def hf_174_8 (M : zM) (a1 : Int) : Int :=
  (hR_has M 12 a1)
set_option maxRecDepth 100000 in
theorem fh_174_8 {n : Nat} {M : zM} (a1 : Int) : zH n (0, 0) 174 (0, zini [zR 8, .inl a1] 2, []) M (fun r M' => r = some (.inl (hf_174_8 M a1)) ∧ M' = M) := by
  have hz := zp_174
  have hE : hf_174_8 M a1 = hf_174_8 M a1 := rfl
  show zH n (0, 0) 174 (0, [zR 8, .inl a1], []) M _
  refine zH_wE (c1 := (11, [zR 8, .inl a1], [])) 4 hz zp_102 (fh_102_12 a1) (by rfl) ?_
  show zH n (0, 0) 174 (11, [zR 8, .inl a1], [.inl (hR_has M 12 a1)]) M _
  exact zH_zret hz rfl (hfinP hE)
noncomputable def hf_175_8 (M : zM) (a1 : Int) : Int :=
  (hR_has M 10 a1)
set_option maxRecDepth 100000 in
theorem fh_175_8 {n : Nat} {M : zM} (a1 : Int) : zH n (0, 0) 175 (0, zini [zR 8, .inl a1] 2, []) M (fun r M' => r = some (.inl (hf_175_8 M a1)) ∧ M' = M) := by
  have hz := zp_175
  have hE : hf_175_8 M a1 = hf_175_8 M a1 := rfl
  show zH n (0, 0) 175 (0, [zR 8, .inl a1], []) M _
  refine zH_wE (c1 := (11, [zR 8, .inl a1], [])) 4 hz zp_102 (fh_102_10 a1) (by rfl) ?_
  show zH n (0, 0) 175 (11, [zR 8, .inl a1], [.inl (hR_has M 10 a1)]) M _
  exact zH_zret hz rfl (hfinP hE)
noncomputable def hf_171 (M : zM) (a0 : Int) : Int :=
  (hf_169 M a0 0 100)
set_option maxRecDepth 100000 in
theorem fh_171 {n : Nat} {M : zM} (a0 : Int) : zH n (0, 0) 171 (0, zini [.inl a0] 1, []) M (fun r M' => r = some (.inl (hf_171 M a0)) ∧ M' = M) := by
  have hz := zp_171
  have hE : hf_171 M a0 = hf_171 M a0 := rfl
  show zH n (0, 0) 171 (0, [.inl a0], []) M _
  refine zH_wE (c1 := (7, [.inl a0], [])) 3 hz zp_169 (fh_169 a0 0 100) (by rfl) ?_
  show zH n (0, 0) 171 (7, [.inl a0], [.inl (hf_169 M a0 0 100)]) M _
  exact zH_zret hz rfl (hfinP hE)
noncomputable def hf_172 (M : zM) (a0 : Int) : Int :=
  (hf_169 M a0 0 4)
set_option maxRecDepth 100000 in
theorem fh_172 {n : Nat} {M : zM} (a0 : Int) : zH n (0, 0) 172 (0, zini [.inl a0] 1, []) M (fun r M' => r = some (.inl (hf_172 M a0)) ∧ M' = M) := by
  have hz := zp_172
  have hE : hf_172 M a0 = hf_172 M a0 := rfl
  show zH n (0, 0) 172 (0, [.inl a0], []) M _
  refine zH_wE (c1 := (6, [.inl a0], [])) 3 hz zp_169 (fh_169 a0 0 4) (by rfl) ?_
  show zH n (0, 0) 172 (6, [.inl a0], [.inl (hf_169 M a0 0 4)]) M _
  exact zH_zret hz rfl (hfinP hE)
noncomputable def hf_18_9 (M : zM) (a1 : Int) (a2 : Int) (a3 : Int) (a4 : Int) : Int × zM :=
  (((hR_open M 18).1), (hR_set (hR_set (hR_set (hR_set (hR_set (hR_set (hR_set (hR_set (hR_set (hR_set (hR_set (hR_set (hR_set (hR_set (hR_set ((hR_open M 18).2) 18 ((hR_open M 18).1) 0 (-1)) 18 ((hR_open M 18).1) 1 (-1)) 18 ((hR_open M 18).1) 2 (-1)) 18 ((hR_open M 18).1) 3 (-1)) 18 ((hR_open M 18).1) 4 (-1)) 18 ((hR_open M 18).1) 5 (-1)) 18 ((hR_open M 18).1) 6 (-1)) 18 ((hR_open M 18).1) 7 (-1)) 18 ((hR_open M 18).1) 8 (-1)) 18 ((hR_open M 18).1) 9 (-1)) 18 ((hR_open M 18).1) 10 (-1)) 18 ((hR_open M 18).1) 0 a1) 18 ((hR_open M 18).1) 1 a2) 18 ((hR_open M 18).1) 2 a3) 18 ((hR_open M 18).1) 3 a4))
set_option maxRecDepth 100000 in
theorem fh_18_9 {n : Nat} {M : zM} (a1 : Int) (a2 : Int) (a3 : Int) (a4 : Int) : zH n (0, 0) 18 (0, zini [zR 9, .inl a1, .inl a2, .inl a3, .inl a4] 7, []) M (fun r M' => r = some (.inl (hf_18_9 M a1 a2 a3 a4).1) ∧ M' = (hf_18_9 M a1 a2 a3 a4).2) := by
  have hz := zp_18
  have hE : hf_18_9 M a1 a2 a3 a4 = hf_18_9 M a1 a2 a3 a4 := rfl
  show zH n (0, 0) 18 (0, [zR 9, .inl a1, .inl a2, .inl a3, .inl a4, zN, zN], []) M _
  refine zH_wB (c1 := (7, [zR 9, .inl a1, .inl a2, .inl a3, .inl a4, zN, zN], [])) 2 hz zp_103 (fh_103_18) (by rfl) ?_
  intro u1 N2 hu1 hN2
  show zH n (0, 0) 18 (7, [zR 9, .inl a1, .inl a2, .inl a3, .inl a4, zN, zN], [.inl u1]) N2 _
  refine zH_w (c' := (28, [zR 9, .inl a1, .inl a2, .inl a3, .inl a4, .inl u1, .inl 0], [.inl (-1), .inl 0, .inl u1, zR 18])) 11 hz rfl ?_
  refine zH_wW (c1 := (31, [zR 9, .inl a1, .inl a2, .inl a3, .inl a4, .inl u1, .inl 0], [])) 0 hz zp_107 (fh_107_18 u1 0 (-1)) (by rfl) ?_
  intro N3 hN3
  show zH n (0, 0) 18 (31, [zR 9, .inl a1, .inl a2, .inl a3, .inl a4, .inl u1, .inl 0], []) N3 _
  refine zH_w (c' := (28, [zR 9, .inl a1, .inl a2, .inl a3, .inl a4, .inl u1, .inl 1], [.inl (-1), .inl 1, .inl u1, zR 18])) 10 hz rfl ?_
  refine zH_wW (c1 := (31, [zR 9, .inl a1, .inl a2, .inl a3, .inl a4, .inl u1, .inl 1], [])) 0 hz zp_107 (fh_107_18 u1 1 (-1)) (by rfl) ?_
  intro N4 hN4
  show zH n (0, 0) 18 (31, [zR 9, .inl a1, .inl a2, .inl a3, .inl a4, .inl u1, .inl 1], []) N4 _
  refine zH_w (c' := (28, [zR 9, .inl a1, .inl a2, .inl a3, .inl a4, .inl u1, .inl 2], [.inl (-1), .inl 2, .inl u1, zR 18])) 10 hz rfl ?_
  refine zH_wW (c1 := (31, [zR 9, .inl a1, .inl a2, .inl a3, .inl a4, .inl u1, .inl 2], [])) 0 hz zp_107 (fh_107_18 u1 2 (-1)) (by rfl) ?_
  intro N5 hN5
  show zH n (0, 0) 18 (31, [zR 9, .inl a1, .inl a2, .inl a3, .inl a4, .inl u1, .inl 2], []) N5 _
  refine zH_w (c' := (28, [zR 9, .inl a1, .inl a2, .inl a3, .inl a4, .inl u1, .inl 3], [.inl (-1), .inl 3, .inl u1, zR 18])) 10 hz rfl ?_
  refine zH_wW (c1 := (31, [zR 9, .inl a1, .inl a2, .inl a3, .inl a4, .inl u1, .inl 3], [])) 0 hz zp_107 (fh_107_18 u1 3 (-1)) (by rfl) ?_
  intro N6 hN6
  show zH n (0, 0) 18 (31, [zR 9, .inl a1, .inl a2, .inl a3, .inl a4, .inl u1, .inl 3], []) N6 _
  refine zH_w (c' := (28, [zR 9, .inl a1, .inl a2, .inl a3, .inl a4, .inl u1, .inl 4], [.inl (-1), .inl 4, .inl u1, zR 18])) 10 hz rfl ?_
  refine zH_wW (c1 := (31, [zR 9, .inl a1, .inl a2, .inl a3, .inl a4, .inl u1, .inl 4], [])) 0 hz zp_107 (fh_107_18 u1 4 (-1)) (by rfl) ?_
  intro N7 hN7
  show zH n (0, 0) 18 (31, [zR 9, .inl a1, .inl a2, .inl a3, .inl a4, .inl u1, .inl 4], []) N7 _
  refine zH_w (c' := (28, [zR 9, .inl a1, .inl a2, .inl a3, .inl a4, .inl u1, .inl 5], [.inl (-1), .inl 5, .inl u1, zR 18])) 10 hz rfl ?_
  refine zH_wW (c1 := (31, [zR 9, .inl a1, .inl a2, .inl a3, .inl a4, .inl u1, .inl 5], [])) 0 hz zp_107 (fh_107_18 u1 5 (-1)) (by rfl) ?_
  intro N8 hN8
  show zH n (0, 0) 18 (31, [zR 9, .inl a1, .inl a2, .inl a3, .inl a4, .inl u1, .inl 5], []) N8 _
  refine zH_w (c' := (28, [zR 9, .inl a1, .inl a2, .inl a3, .inl a4, .inl u1, .inl 6], [.inl (-1), .inl 6, .inl u1, zR 18])) 10 hz rfl ?_
  refine zH_wW (c1 := (31, [zR 9, .inl a1, .inl a2, .inl a3, .inl a4, .inl u1, .inl 6], [])) 0 hz zp_107 (fh_107_18 u1 6 (-1)) (by rfl) ?_
  intro N9 hN9
  show zH n (0, 0) 18 (31, [zR 9, .inl a1, .inl a2, .inl a3, .inl a4, .inl u1, .inl 6], []) N9 _
  refine zH_w (c' := (28, [zR 9, .inl a1, .inl a2, .inl a3, .inl a4, .inl u1, .inl 7], [.inl (-1), .inl 7, .inl u1, zR 18])) 10 hz rfl ?_
  refine zH_wW (c1 := (31, [zR 9, .inl a1, .inl a2, .inl a3, .inl a4, .inl u1, .inl 7], [])) 0 hz zp_107 (fh_107_18 u1 7 (-1)) (by rfl) ?_
  intro N10 hN10
  show zH n (0, 0) 18 (31, [zR 9, .inl a1, .inl a2, .inl a3, .inl a4, .inl u1, .inl 7], []) N10 _
  refine zH_w (c' := (28, [zR 9, .inl a1, .inl a2, .inl a3, .inl a4, .inl u1, .inl 8], [.inl (-1), .inl 8, .inl u1, zR 18])) 10 hz rfl ?_
  refine zH_wW (c1 := (31, [zR 9, .inl a1, .inl a2, .inl a3, .inl a4, .inl u1, .inl 8], [])) 0 hz zp_107 (fh_107_18 u1 8 (-1)) (by rfl) ?_
  intro N11 hN11
  show zH n (0, 0) 18 (31, [zR 9, .inl a1, .inl a2, .inl a3, .inl a4, .inl u1, .inl 8], []) N11 _
  refine zH_w (c' := (28, [zR 9, .inl a1, .inl a2, .inl a3, .inl a4, .inl u1, .inl 9], [.inl (-1), .inl 9, .inl u1, zR 18])) 10 hz rfl ?_
  refine zH_wW (c1 := (31, [zR 9, .inl a1, .inl a2, .inl a3, .inl a4, .inl u1, .inl 9], [])) 0 hz zp_107 (fh_107_18 u1 9 (-1)) (by rfl) ?_
  intro N12 hN12
  show zH n (0, 0) 18 (31, [zR 9, .inl a1, .inl a2, .inl a3, .inl a4, .inl u1, .inl 9], []) N12 _
  refine zH_w (c' := (28, [zR 9, .inl a1, .inl a2, .inl a3, .inl a4, .inl u1, .inl 10], [.inl (-1), .inl 10, .inl u1, zR 18])) 10 hz rfl ?_
  refine zH_wW (c1 := (31, [zR 9, .inl a1, .inl a2, .inl a3, .inl a4, .inl u1, .inl 10], [])) 0 hz zp_107 (fh_107_18 u1 10 (-1)) (by rfl) ?_
  intro N13 hN13
  show zH n (0, 0) 18 (31, [zR 9, .inl a1, .inl a2, .inl a3, .inl a4, .inl u1, .inl 10], []) N13 _
  refine zH_w (c' := (45, [zR 9, .inl a1, .inl a2, .inl a3, .inl a4, .inl u1, .inl 11], [.inl a1, .inl 0, .inl u1, zR 18])) 10 hz rfl ?_
  refine zH_wW (c1 := (48, [zR 9, .inl a1, .inl a2, .inl a3, .inl a4, .inl u1, .inl 11], [])) 0 hz zp_107 (fh_107_18 u1 0 a1) (by rfl) ?_
  intro N14 hN14
  show zH n (0, 0) 18 (48, [zR 9, .inl a1, .inl a2, .inl a3, .inl a4, .inl u1, .inl 11], []) N14 _
  refine zH_wW (c1 := (59, [zR 9, .inl a1, .inl a2, .inl a3, .inl a4, .inl u1, .inl 11], [])) 5 hz zp_107 (fh_107_18 u1 1 a2) (by rfl) ?_
  intro N15 hN15
  show zH n (0, 0) 18 (59, [zR 9, .inl a1, .inl a2, .inl a3, .inl a4, .inl u1, .inl 11], []) N15 _
  refine zH_wW (c1 := (70, [zR 9, .inl a1, .inl a2, .inl a3, .inl a4, .inl u1, .inl 11], [])) 5 hz zp_107 (fh_107_18 u1 2 a3) (by rfl) ?_
  intro N16 hN16
  show zH n (0, 0) 18 (70, [zR 9, .inl a1, .inl a2, .inl a3, .inl a4, .inl u1, .inl 11], []) N16 _
  refine zH_wW (c1 := (82, [zR 9, .inl a1, .inl a2, .inl a3, .inl a4, .inl u1, .inl 11], [])) 5 hz zp_107 (fh_107_18 u1 3 a4) (by rfl) ?_
  intro N17 hN17
  show zH n (0, 0) 18 (82, [zR 9, .inl a1, .inl a2, .inl a3, .inl a4, .inl u1, .inl 11], []) N17 _
  refine zH_w (c' := (84, [zR 9, .inl a1, .inl a2, .inl a3, .inl a4, .inl u1, .inl 11], [.inl u1])) 1 hz rfl ?_
  subst hN17
  subst hN16
  subst hN15
  subst hN14
  subst hN13
  subst hN12
  subst hN11
  subst hN10
  subst hN9
  subst hN8
  subst hN7
  subst hN6
  subst hN5
  subst hN4
  subst hN3
  subst hN2
  subst hu1
  exact zH_ret hz rfl rfl (hfinB hE)
noncomputable def hf_129_8 (M : zM) (a1 : Int) (a2 : Int) (a3 : Int) (a4 : Int) (a5 : Int) (a6 : Int) : Int × zM :=
  (if (hf_174_8 M a1) = 0 then ((-2), M) else (if (hf_175_8 M a2) = 0 then ((-2), M) else (if (hf_171 M a3) = 0 then ((-2), M) else (if ¬ (hf_172 M a4) = 0 then (if (hf_170 M a5) = 0 then ((-2), M) else (if ¬ (hf_169 M a6 a5 9999) = 0 then (((hf_18_9 M 0 a5 a6 (-1)).1), (hR_set (hR_set (hR_set (hR_set ((hf_18_9 M 0 a5 a6 (-1)).2) 18 ((hf_18_9 M 0 a5 a6 (-1)).1) 4 a1) 18 ((hf_18_9 M 0 a5 a6 (-1)).1) 5 a2) 18 ((hf_18_9 M 0 a5 a6 (-1)).1) 7 a3) 18 ((hf_18_9 M 0 a5 a6 (-1)).1) 8 a4)) else ((-2), M))) else ((-2), M)))))
set_option maxRecDepth 100000 in
theorem fh_129_8 {n : Nat} {M : zM} (a1 : Int) (a2 : Int) (a3 : Int) (a4 : Int) (a5 : Int) (a6 : Int) : zH n (0, 0) 129 (0, zini [zR 8, .inl a1, .inl a2, .inl a3, .inl a4, .inl a5, .inl a6] 8, []) M (fun r M' => r = some (.inl (hf_129_8 M a1 a2 a3 a4 a5 a6).1) ∧ M' = (hf_129_8 M a1 a2 a3 a4 a5 a6).2) := by
  have hz := zp_129
  have hE : hf_129_8 M a1 a2 a3 a4 a5 a6 = hf_129_8 M a1 a2 a3 a4 a5 a6 := rfl
  show zH n (0, 0) 129 (0, [zR 8, .inl a1, .inl a2, .inl a3, .inl a4, .inl a5, .inl a6, zN], []) M _
  refine zH_wE (c1 := (5, [zR 8, .inl a1, .inl a2, .inl a3, .inl a4, .inl a5, .inl a6, zN], [])) 2 hz zp_174 (fh_174_8 a1) (by rfl) ?_
  show zH n (0, 0) 129 (5, [zR 8, .inl a1, .inl a2, .inl a3, .inl a4, .inl a5, .inl a6, zN], [.inl (hf_174_8 M a1)]) M _
  refine zH_wf_eq (pc := 5) (n' := 8) (t := 31) (L := [zR 8, .inl a1, .inl a2, .inl a3, .inl a4, .inl a5, .inl a6, zN]) (st := []) (x := (hf_174_8 M a1)) 0 hz (by rfl) (fun hb => ?_) (fun hb => ?_)
  · have hE := hE.trans (if_pos hb)
    exact zH_wr (r := some (.inl (-2))) 1 hz (by rfl) (hfinB hE)
  · have hE := hE.trans (if_neg hb)
    refine zH_wE (c1 := (13, [zR 8, .inl a1, .inl a2, .inl a3, .inl a4, .inl a5, .inl a6, zN], [])) 2 hz zp_175 (fh_175_8 a2) (by rfl) ?_
    show zH n (0, 0) 129 (13, [zR 8, .inl a1, .inl a2, .inl a3, .inl a4, .inl a5, .inl a6, zN], [.inl (hf_175_8 M a2)]) M _
    refine zH_wf_eq (pc := 13) (n' := 16) (t := 31) (L := [zR 8, .inl a1, .inl a2, .inl a3, .inl a4, .inl a5, .inl a6, zN]) (st := []) (x := (hf_175_8 M a2)) 0 hz (by rfl) (fun hb => ?_) (fun hb => ?_)
    · have hE := hE.trans (if_pos hb)
      exact zH_wr (r := some (.inl (-2))) 1 hz (by rfl) (hfinB hE)
    · have hE := hE.trans (if_neg hb)
      refine zH_wE (c1 := (20, [zR 8, .inl a1, .inl a2, .inl a3, .inl a4, .inl a5, .inl a6, zN], [])) 1 hz zp_171 (fh_171 a3) (by rfl) ?_
      show zH n (0, 0) 129 (20, [zR 8, .inl a1, .inl a2, .inl a3, .inl a4, .inl a5, .inl a6, zN], [.inl (hf_171 M a3)]) M _
      refine zH_wf_eq (pc := 20) (n' := 23) (t := 31) (L := [zR 8, .inl a1, .inl a2, .inl a3, .inl a4, .inl a5, .inl a6, zN]) (st := []) (x := (hf_171 M a3)) 0 hz (by rfl) (fun hb => ?_) (fun hb => ?_)
      · have hE := hE.trans (if_pos hb)
        exact zH_wr (r := some (.inl (-2))) 1 hz (by rfl) (hfinB hE)
      · have hE := hE.trans (if_neg hb)
        refine zH_wE (c1 := (28, [zR 8, .inl a1, .inl a2, .inl a3, .inl a4, .inl a5, .inl a6, zN], [])) 1 hz zp_172 (fh_172 a4) (by rfl) ?_
        show zH n (0, 0) 129 (28, [zR 8, .inl a1, .inl a2, .inl a3, .inl a4, .inl a5, .inl a6, zN], [.inl (hf_172 M a4)]) M _
        refine zH_wf_ne (pc := 28) (n' := 31) (t := 34) (L := [zR 8, .inl a1, .inl a2, .inl a3, .inl a4, .inl a5, .inl a6, zN]) (st := []) (x := (hf_172 M a4)) 0 hz (by rfl) (fun hb => ?_) (fun hb => ?_)
        · have hE := hE.trans (if_pos hb)
          refine zH_wE (c1 := (39, [zR 8, .inl a1, .inl a2, .inl a3, .inl a4, .inl a5, .inl a6, zN], [])) 1 hz zp_170 (fh_170 a5) (by rfl) ?_
          show zH n (0, 0) 129 (39, [zR 8, .inl a1, .inl a2, .inl a3, .inl a4, .inl a5, .inl a6, zN], [.inl (hf_170 M a5)]) M _
          refine zH_wf_eq (pc := 39) (n' := 42) (t := 55) (L := [zR 8, .inl a1, .inl a2, .inl a3, .inl a4, .inl a5, .inl a6, zN]) (st := []) (x := (hf_170 M a5)) 0 hz (by rfl) (fun hb => ?_) (fun hb => ?_)
          · have hE := hE.trans (if_pos hb)
            exact zH_wr (r := some (.inl (-2))) 1 hz (by rfl) (hfinB hE)
          · have hE := hE.trans (if_neg hb)
            refine zH_wE (c1 := (52, [zR 8, .inl a1, .inl a2, .inl a3, .inl a4, .inl a5, .inl a6, zN], [])) 3 hz zp_169 (fh_169 a6 a5 9999) (by rfl) ?_
            show zH n (0, 0) 129 (52, [zR 8, .inl a1, .inl a2, .inl a3, .inl a4, .inl a5, .inl a6, zN], [.inl (hf_169 M a6 a5 9999)]) M _
            refine zH_wf_ne (pc := 52) (n' := 55) (t := 58) (L := [zR 8, .inl a1, .inl a2, .inl a3, .inl a4, .inl a5, .inl a6, zN]) (st := []) (x := (hf_169 M a6 a5 9999)) 0 hz (by rfl) (fun hb => ?_) (fun hb => ?_)
            · have hE := hE.trans (if_pos hb)
              refine zH_wB (c1 := (71, [zR 8, .inl a1, .inl a2, .inl a3, .inl a4, .inl a5, .inl a6, zN], [])) 6 hz zp_18 (fh_18_9 0 a5 a6 (-1)) (by rfl) ?_
              intro u1 N2 hu1 hN2
              show zH n (0, 0) 129 (71, [zR 8, .inl a1, .inl a2, .inl a3, .inl a4, .inl a5, .inl a6, zN], [.inl u1]) N2 _
              refine zH_wW (c1 := (87, [zR 8, .inl a1, .inl a2, .inl a3, .inl a4, .inl a5, .inl a6, .inl u1], [])) 7 hz zp_107 (fh_107_18 u1 4 a1) (by rfl) ?_
              intro N3 hN3
              show zH n (0, 0) 129 (87, [zR 8, .inl a1, .inl a2, .inl a3, .inl a4, .inl a5, .inl a6, .inl u1], []) N3 _
              refine zH_wW (c1 := (101, [zR 8, .inl a1, .inl a2, .inl a3, .inl a4, .inl a5, .inl a6, .inl u1], [])) 6 hz zp_107 (fh_107_18 u1 5 a2) (by rfl) ?_
              intro N4 hN4
              show zH n (0, 0) 129 (101, [zR 8, .inl a1, .inl a2, .inl a3, .inl a4, .inl a5, .inl a6, .inl u1], []) N4 _
              refine zH_wW (c1 := (116, [zR 8, .inl a1, .inl a2, .inl a3, .inl a4, .inl a5, .inl a6, .inl u1], [])) 6 hz zp_107 (fh_107_18 u1 7 a3) (by rfl) ?_
              intro N5 hN5
              show zH n (0, 0) 129 (116, [zR 8, .inl a1, .inl a2, .inl a3, .inl a4, .inl a5, .inl a6, .inl u1], []) N5 _
              refine zH_wW (c1 := (132, [zR 8, .inl a1, .inl a2, .inl a3, .inl a4, .inl a5, .inl a6, .inl u1], [])) 6 hz zp_107 (fh_107_18 u1 8 a4) (by rfl) ?_
              intro N6 hN6
              show zH n (0, 0) 129 (132, [zR 8, .inl a1, .inl a2, .inl a3, .inl a4, .inl a5, .inl a6, .inl u1], []) N6 _
              refine zH_w (c' := (134, [zR 8, .inl a1, .inl a2, .inl a3, .inl a4, .inl a5, .inl a6, .inl u1], [.inl u1])) 1 hz rfl ?_
              subst hN6
              subst hN5
              subst hN4
              subst hN3
              subst hN2
              subst hu1
              exact zH_ret hz rfl rfl (hfinB hE)
            · have hE := hE.trans (if_neg hb)
              exact zH_wr (r := some (.inl (-2))) 1 hz (by rfl) (hfinB hE)
        · have hE := hE.trans (if_neg hb)
          exact zH_wr (r := some (.inl (-2))) 1 hz (by rfl) (hfinB hE)
noncomputable def hf_19_9 (M : zM) (a1 : Int) (a2 : Int) : Int :=
  (if (hR_has M 18 a2) = 0 then 0 else (if ¬ (hR_get M 18 a2 0) = a1 then 0 else 1))
set_option maxRecDepth 100000 in
theorem fh_19_9 {n : Nat} {M : zM} (a1 : Int) (a2 : Int) : zH n (0, 0) 19 (0, zini [zR 9, .inl a1, .inl a2] 3, []) M (fun r M' => r = some (.inl (hf_19_9 M a1 a2)) ∧ M' = M) := by
  have hz := zp_19
  have hE : hf_19_9 M a1 a2 = hf_19_9 M a1 a2 := rfl
  show zH n (0, 0) 19 (0, [zR 9, .inl a1, .inl a2], []) M _
  refine zH_wE (c1 := (8, [zR 9, .inl a1, .inl a2], [])) 3 hz zp_102 (fh_102_18 a2) (by rfl) ?_
  show zH n (0, 0) 19 (8, [zR 9, .inl a1, .inl a2], [.inl (hR_has M 18 a2)]) M _
  refine zH_wf_eq (pc := 8) (n' := 11) (t := 28) (L := [zR 9, .inl a1, .inl a2]) (st := []) (x := (hR_has M 18 a2)) 0 hz (by rfl) (fun hb => ?_) (fun hb => ?_)
  · have hE := hE.trans (if_pos hb)
    refine zH_w (c' := (29, [zR 9, .inl a1, .inl a2], [.inl 0])) 1 hz rfl ?_
    exact zH_zret hz rfl (hfinP hE)
  · have hE := hE.trans (if_neg hb)
    refine zH_wE (c1 := (20, [zR 9, .inl a1, .inl a2], [])) 4 hz zp_106 (fh_106_18 a2 0) (by rfl) ?_
    show zH n (0, 0) 19 (20, [zR 9, .inl a1, .inl a2], [.inl (hR_get M 18 a2 0)]) M _
    refine zH_wi_ne (pc := 21) (n' := 24) (t := 28) (L := [zR 9, .inl a1, .inl a2]) (st := []) (x := (hR_get M 18 a2 0)) (y := a1) 1 hz (by rfl) (fun hb => ?_) (fun hb => ?_)
    · have hE := hE.trans (if_pos hb)
      refine zH_w (c' := (29, [zR 9, .inl a1, .inl a2], [.inl 0])) 1 hz rfl ?_
      exact zH_zret hz rfl (hfinP hE)
    · have hE := hE.trans (if_neg hb)
      refine zH_w (c' := (29, [zR 9, .inl a1, .inl a2], [.inl 1])) 2 hz rfl ?_
      exact zH_zret hz rfl (hfinP hE)
noncomputable def hf_130_8 (M : zM) (a1 : Int) (a2 : Int) (a3 : Int) (a4 : Int) (a5 : Int) : Int × zM :=
  (if (hf_19_9 M 0 a1) = 0 then ((-2), M) else (if (hf_171 M a2) = 0 then ((-2), M) else (if ¬ (hf_172 M a3) = 0 then (if ¬ a3 = (hR_get M 18 a1 8) then (if (hf_169 M a4 (hR_get M 18 a1 1) 9999) = 0 then ((-2), M) else (if ¬ (hf_169 M a5 a4 9999) = 0 then (((hf_18_9 M 1 a4 a5 (-1)).1), (hR_set (hR_set (hR_set ((hf_18_9 M 1 a4 a5 (-1)).2) 18 ((hf_18_9 M 1 a4 a5 (-1)).1) 6 a1) 18 ((hf_18_9 M 1 a4 a5 (-1)).1) 7 a2) 18 ((hf_18_9 M 1 a4 a5 (-1)).1) 8 a3)) else ((-2), M))) else ((-2), M)) else ((-2), M))))
set_option maxRecDepth 100000 in
theorem fh_130_8 {n : Nat} {M : zM} (a1 : Int) (a2 : Int) (a3 : Int) (a4 : Int) (a5 : Int) : zH n (0, 0) 130 (0, zini [zR 8, .inl a1, .inl a2, .inl a3, .inl a4, .inl a5] 7, []) M (fun r M' => r = some (.inl (hf_130_8 M a1 a2 a3 a4 a5).1) ∧ M' = (hf_130_8 M a1 a2 a3 a4 a5).2) := by
  have hz := zp_130
  have hE : hf_130_8 M a1 a2 a3 a4 a5 = hf_130_8 M a1 a2 a3 a4 a5 := rfl
  show zH n (0, 0) 130 (0, [zR 8, .inl a1, .inl a2, .inl a3, .inl a4, .inl a5, zN], []) M _
  refine zH_wE (c1 := (9, [zR 8, .inl a1, .inl a2, .inl a3, .inl a4, .inl a5, zN], [])) 4 hz zp_19 (fh_19_9 0 a1) (by rfl) ?_
  show zH n (0, 0) 130 (9, [zR 8, .inl a1, .inl a2, .inl a3, .inl a4, .inl a5, zN], [.inl (hf_19_9 M 0 a1)]) M _
  refine zH_wf_eq (pc := 9) (n' := 12) (t := 26) (L := [zR 8, .inl a1, .inl a2, .inl a3, .inl a4, .inl a5, zN]) (st := []) (x := (hf_19_9 M 0 a1)) 0 hz (by rfl) (fun hb => ?_) (fun hb => ?_)
  · have hE := hE.trans (if_pos hb)
    exact zH_wr (r := some (.inl (-2))) 1 hz (by rfl) (hfinB hE)
  · have hE := hE.trans (if_neg hb)
    refine zH_wE (c1 := (16, [zR 8, .inl a1, .inl a2, .inl a3, .inl a4, .inl a5, zN], [])) 1 hz zp_171 (fh_171 a2) (by rfl) ?_
    show zH n (0, 0) 130 (16, [zR 8, .inl a1, .inl a2, .inl a3, .inl a4, .inl a5, zN], [.inl (hf_171 M a2)]) M _
    refine zH_wf_eq (pc := 16) (n' := 19) (t := 26) (L := [zR 8, .inl a1, .inl a2, .inl a3, .inl a4, .inl a5, zN]) (st := []) (x := (hf_171 M a2)) 0 hz (by rfl) (fun hb => ?_) (fun hb => ?_)
    · have hE := hE.trans (if_pos hb)
      exact zH_wr (r := some (.inl (-2))) 1 hz (by rfl) (hfinB hE)
    · have hE := hE.trans (if_neg hb)
      refine zH_wE (c1 := (23, [zR 8, .inl a1, .inl a2, .inl a3, .inl a4, .inl a5, zN], [])) 1 hz zp_172 (fh_172 a3) (by rfl) ?_
      show zH n (0, 0) 130 (23, [zR 8, .inl a1, .inl a2, .inl a3, .inl a4, .inl a5, zN], [.inl (hf_172 M a3)]) M _
      refine zH_wf_ne (pc := 23) (n' := 26) (t := 29) (L := [zR 8, .inl a1, .inl a2, .inl a3, .inl a4, .inl a5, zN]) (st := []) (x := (hf_172 M a3)) 0 hz (by rfl) (fun hb => ?_) (fun hb => ?_)
      · have hE := hE.trans (if_pos hb)
        refine zH_wE (c1 := (43, [zR 8, .inl a1, .inl a2, .inl a3, .inl a4, .inl a5, zN], [.inl a3])) 6 hz zp_106 (fh_106_18 a1 8) (by rfl) ?_
        show zH n (0, 0) 130 (43, [zR 8, .inl a1, .inl a2, .inl a3, .inl a4, .inl a5, zN], [.inl (hR_get M 18 a1 8), .inl a3]) M _
        refine zH_wi_ne (pc := 43) (n' := 46) (t := 49) (L := [zR 8, .inl a1, .inl a2, .inl a3, .inl a4, .inl a5, zN]) (st := []) (x := a3) (y := (hR_get M 18 a1 8)) 0 hz (by rfl) (fun hb => ?_) (fun hb => ?_)
        · have hE := hE.trans (if_pos hb)
          refine zH_wE (c1 := (63, [zR 8, .inl a1, .inl a2, .inl a3, .inl a4, .inl a5, zN], [.inl a4])) 6 hz zp_106 (fh_106_18 a1 1) (by rfl) ?_
          show zH n (0, 0) 130 (63, [zR 8, .inl a1, .inl a2, .inl a3, .inl a4, .inl a5, zN], [.inl (hR_get M 18 a1 1), .inl a4]) M _
          refine zH_wE (c1 := (69, [zR 8, .inl a1, .inl a2, .inl a3, .inl a4, .inl a5, zN], [])) 1 hz zp_169 (fh_169 a4 (hR_get M 18 a1 1) 9999) (by rfl) ?_
          show zH n (0, 0) 130 (69, [zR 8, .inl a1, .inl a2, .inl a3, .inl a4, .inl a5, zN], [.inl (hf_169 M a4 (hR_get M 18 a1 1) 9999)]) M _
          refine zH_wf_eq (pc := 69) (n' := 72) (t := 85) (L := [zR 8, .inl a1, .inl a2, .inl a3, .inl a4, .inl a5, zN]) (st := []) (x := (hf_169 M a4 (hR_get M 18 a1 1) 9999)) 0 hz (by rfl) (fun hb => ?_) (fun hb => ?_)
          · have hE := hE.trans (if_pos hb)
            exact zH_wr (r := some (.inl (-2))) 1 hz (by rfl) (hfinB hE)
          · have hE := hE.trans (if_neg hb)
            refine zH_wE (c1 := (82, [zR 8, .inl a1, .inl a2, .inl a3, .inl a4, .inl a5, zN], [])) 3 hz zp_169 (fh_169 a5 a4 9999) (by rfl) ?_
            show zH n (0, 0) 130 (82, [zR 8, .inl a1, .inl a2, .inl a3, .inl a4, .inl a5, zN], [.inl (hf_169 M a5 a4 9999)]) M _
            refine zH_wf_ne (pc := 82) (n' := 85) (t := 88) (L := [zR 8, .inl a1, .inl a2, .inl a3, .inl a4, .inl a5, zN]) (st := []) (x := (hf_169 M a5 a4 9999)) 0 hz (by rfl) (fun hb => ?_) (fun hb => ?_)
            · have hE := hE.trans (if_pos hb)
              refine zH_wB (c1 := (101, [zR 8, .inl a1, .inl a2, .inl a3, .inl a4, .inl a5, zN], [])) 6 hz zp_18 (fh_18_9 1 a4 a5 (-1)) (by rfl) ?_
              intro u1 N2 hu1 hN2
              show zH n (0, 0) 130 (101, [zR 8, .inl a1, .inl a2, .inl a3, .inl a4, .inl a5, zN], [.inl u1]) N2 _
              refine zH_wW (c1 := (118, [zR 8, .inl a1, .inl a2, .inl a3, .inl a4, .inl a5, .inl u1], [])) 7 hz zp_107 (fh_107_18 u1 6 a1) (by rfl) ?_
              intro N3 hN3
              show zH n (0, 0) 130 (118, [zR 8, .inl a1, .inl a2, .inl a3, .inl a4, .inl a5, .inl u1], []) N3 _
              refine zH_wW (c1 := (133, [zR 8, .inl a1, .inl a2, .inl a3, .inl a4, .inl a5, .inl u1], [])) 6 hz zp_107 (fh_107_18 u1 7 a2) (by rfl) ?_
              intro N4 hN4
              show zH n (0, 0) 130 (133, [zR 8, .inl a1, .inl a2, .inl a3, .inl a4, .inl a5, .inl u1], []) N4 _
              refine zH_wW (c1 := (148, [zR 8, .inl a1, .inl a2, .inl a3, .inl a4, .inl a5, .inl u1], [])) 6 hz zp_107 (fh_107_18 u1 8 a3) (by rfl) ?_
              intro N5 hN5
              show zH n (0, 0) 130 (148, [zR 8, .inl a1, .inl a2, .inl a3, .inl a4, .inl a5, .inl u1], []) N5 _
              refine zH_w (c' := (150, [zR 8, .inl a1, .inl a2, .inl a3, .inl a4, .inl a5, .inl u1], [.inl u1])) 1 hz rfl ?_
              subst hN5
              subst hN4
              subst hN3
              subst hN2
              subst hu1
              exact zH_ret hz rfl rfl (hfinB hE)
            · have hE := hE.trans (if_neg hb)
              exact zH_wr (r := some (.inl (-2))) 1 hz (by rfl) (hfinB hE)
        · have hE := hE.trans (if_neg hb)
          exact zH_wr (r := some (.inl (-2))) 1 hz (by rfl) (hfinB hE)
      · have hE := hE.trans (if_neg hb)
        exact zH_wr (r := some (.inl (-2))) 1 hz (by rfl) (hfinB hE)
noncomputable def hf_178_8 (M : zM) (a1 : Int) (a2 : Int) : Int :=
  (if (hR_has M 16 a1) = 0 then 0 else (if (hf_169 M a2 (hR_get M 16 a1 1) 9999) = 0 then 0 else 1))
set_option maxRecDepth 100000 in
theorem fh_178_8 {n : Nat} {M : zM} (a1 : Int) (a2 : Int) : zH n (0, 0) 178 (0, zini [zR 8, .inl a1, .inl a2] 3, []) M (fun r M' => r = some (.inl (hf_178_8 M a1 a2)) ∧ M' = M) := by
  have hz := zp_178
  have hE : hf_178_8 M a1 a2 = hf_178_8 M a1 a2 := rfl
  show zH n (0, 0) 178 (0, [zR 8, .inl a1, .inl a2], []) M _
  refine zH_wE (c1 := (11, [zR 8, .inl a1, .inl a2], [])) 4 hz zp_102 (fh_102_16 a1) (by rfl) ?_
  show zH n (0, 0) 178 (11, [zR 8, .inl a1, .inl a2], [.inl (hR_has M 16 a1)]) M _
  refine zH_wf_eq (pc := 11) (n' := 14) (t := 40) (L := [zR 8, .inl a1, .inl a2]) (st := []) (x := (hR_has M 16 a1)) 0 hz (by rfl) (fun hb => ?_) (fun hb => ?_)
  · have hE := hE.trans (if_pos hb)
    refine zH_w (c' := (41, [zR 8, .inl a1, .inl a2], [.inl 0])) 1 hz rfl ?_
    exact zH_zret hz rfl (hfinP hE)
  · have hE := hE.trans (if_neg hb)
    refine zH_wE (c1 := (27, [zR 8, .inl a1, .inl a2], [.inl a2])) 6 hz zp_106 (fh_106_16 a1 1) (by rfl) ?_
    show zH n (0, 0) 178 (27, [zR 8, .inl a1, .inl a2], [.inl (hR_get M 16 a1 1), .inl a2]) M _
    refine zH_wE (c1 := (33, [zR 8, .inl a1, .inl a2], [])) 1 hz zp_169 (fh_169 a2 (hR_get M 16 a1 1) 9999) (by rfl) ?_
    show zH n (0, 0) 178 (33, [zR 8, .inl a1, .inl a2], [.inl (hf_169 M a2 (hR_get M 16 a1 1) 9999)]) M _
    refine zH_wf_eq (pc := 33) (n' := 36) (t := 40) (L := [zR 8, .inl a1, .inl a2]) (st := []) (x := (hf_169 M a2 (hR_get M 16 a1 1) 9999)) 0 hz (by rfl) (fun hb => ?_) (fun hb => ?_)
    · have hE := hE.trans (if_pos hb)
      refine zH_w (c' := (41, [zR 8, .inl a1, .inl a2], [.inl 0])) 1 hz rfl ?_
      exact zH_zret hz rfl (hfinP hE)
    · have hE := hE.trans (if_neg hb)
      refine zH_w (c' := (41, [zR 8, .inl a1, .inl a2], [.inl 1])) 2 hz rfl ?_
      exact zH_zret hz rfl (hfinP hE)
noncomputable def hf_179_8 (M : zM) (a1 : Int) (a2 : Int) (a3 : Int) : Int × zM :=
  (((hf_18_9 M a1 (hR_get M 16 a2 1) a3 a2).1), ((hf_18_9 M a1 (hR_get M 16 a2 1) a3 a2).2))
set_option maxRecDepth 100000 in
theorem fh_179_8 {n : Nat} {M : zM} (a1 : Int) (a2 : Int) (a3 : Int) : zH n (0, 0) 179 (0, zini [zR 8, .inl a1, .inl a2, .inl a3] 4, []) M (fun r M' => r = some (.inl (hf_179_8 M a1 a2 a3).1) ∧ M' = (hf_179_8 M a1 a2 a3).2) := by
  have hz := zp_179
  have hE : hf_179_8 M a1 a2 a3 = hf_179_8 M a1 a2 a3 := rfl
  show zH n (0, 0) 179 (0, [zR 8, .inl a1, .inl a2, .inl a3], []) M _
  refine zH_wE (c1 := (17, [zR 8, .inl a1, .inl a2, .inl a3], [.inl a1, zR 9])) 8 hz zp_106 (fh_106_16 a2 1) (by rfl) ?_
  show zH n (0, 0) 179 (17, [zR 8, .inl a1, .inl a2, .inl a3], [.inl (hR_get M 16 a2 1), .inl a1, zR 9]) M _
  refine zH_wB (c1 := (22, [zR 8, .inl a1, .inl a2, .inl a3], [])) 2 hz zp_18 (fh_18_9 a1 (hR_get M 16 a2 1) a3 a2) (by rfl) ?_
  intro u1 N2 hu1 hN2
  show zH n (0, 0) 179 (22, [zR 8, .inl a1, .inl a2, .inl a3], [.inl u1]) N2 _
  subst hN2
  subst hu1
  exact zH_ret hz rfl rfl (hfinB hE)
noncomputable def hf_131_8 (M : zM) (a1 : Int) (a2 : Int) (a3 : Int) (a4 : Int) : Int × zM :=
  (if (hf_19_9 M 0 a1) = 0 then ((-2), M) else (if (hf_171 M a2) = 0 then ((-2), M) else (if ¬ (hf_178_8 M a3 a4) = 0 then (((hf_179_8 M 2 a3 a4).1), (hR_set (hR_set ((hf_179_8 M 2 a3 a4).2) 18 ((hf_179_8 M 2 a3 a4).1) 6 a1) 18 ((hf_179_8 M 2 a3 a4).1) 7 a2)) else ((-2), M))))
set_option maxRecDepth 100000 in
theorem fh_131_8 {n : Nat} {M : zM} (a1 : Int) (a2 : Int) (a3 : Int) (a4 : Int) : zH n (0, 0) 131 (0, zini [zR 8, .inl a1, .inl a2, .inl a3, .inl a4] 6, []) M (fun r M' => r = some (.inl (hf_131_8 M a1 a2 a3 a4).1) ∧ M' = (hf_131_8 M a1 a2 a3 a4).2) := by
  have hz := zp_131
  have hE : hf_131_8 M a1 a2 a3 a4 = hf_131_8 M a1 a2 a3 a4 := rfl
  show zH n (0, 0) 131 (0, [zR 8, .inl a1, .inl a2, .inl a3, .inl a4, zN], []) M _
  refine zH_wE (c1 := (9, [zR 8, .inl a1, .inl a2, .inl a3, .inl a4, zN], [])) 4 hz zp_19 (fh_19_9 0 a1) (by rfl) ?_
  show zH n (0, 0) 131 (9, [zR 8, .inl a1, .inl a2, .inl a3, .inl a4, zN], [.inl (hf_19_9 M 0 a1)]) M _
  refine zH_wf_eq (pc := 9) (n' := 12) (t := 29) (L := [zR 8, .inl a1, .inl a2, .inl a3, .inl a4, zN]) (st := []) (x := (hf_19_9 M 0 a1)) 0 hz (by rfl) (fun hb => ?_) (fun hb => ?_)
  · have hE := hE.trans (if_pos hb)
    exact zH_wr (r := some (.inl (-2))) 1 hz (by rfl) (hfinB hE)
  · have hE := hE.trans (if_neg hb)
    refine zH_wE (c1 := (16, [zR 8, .inl a1, .inl a2, .inl a3, .inl a4, zN], [])) 1 hz zp_171 (fh_171 a2) (by rfl) ?_
    show zH n (0, 0) 131 (16, [zR 8, .inl a1, .inl a2, .inl a3, .inl a4, zN], [.inl (hf_171 M a2)]) M _
    refine zH_wf_eq (pc := 16) (n' := 19) (t := 29) (L := [zR 8, .inl a1, .inl a2, .inl a3, .inl a4, zN]) (st := []) (x := (hf_171 M a2)) 0 hz (by rfl) (fun hb => ?_) (fun hb => ?_)
    · have hE := hE.trans (if_pos hb)
      exact zH_wr (r := some (.inl (-2))) 1 hz (by rfl) (hfinB hE)
    · have hE := hE.trans (if_neg hb)
      refine zH_wE (c1 := (26, [zR 8, .inl a1, .inl a2, .inl a3, .inl a4, zN], [])) 3 hz zp_178 (fh_178_8 a3 a4) (by rfl) ?_
      show zH n (0, 0) 131 (26, [zR 8, .inl a1, .inl a2, .inl a3, .inl a4, zN], [.inl (hf_178_8 M a3 a4)]) M _
      refine zH_wf_ne (pc := 26) (n' := 29) (t := 32) (L := [zR 8, .inl a1, .inl a2, .inl a3, .inl a4, zN]) (st := []) (x := (hf_178_8 M a3 a4)) 0 hz (by rfl) (fun hb => ?_) (fun hb => ?_)
      · have hE := hE.trans (if_pos hb)
        refine zH_wB (c1 := (40, [zR 8, .inl a1, .inl a2, .inl a3, .inl a4, zN], [])) 4 hz zp_179 (fh_179_8 2 a3 a4) (by rfl) ?_
        intro u1 N2 hu1 hN2
        show zH n (0, 0) 131 (40, [zR 8, .inl a1, .inl a2, .inl a3, .inl a4, zN], [.inl u1]) N2 _
        refine zH_wW (c1 := (57, [zR 8, .inl a1, .inl a2, .inl a3, .inl a4, .inl u1], [])) 7 hz zp_107 (fh_107_18 u1 6 a1) (by rfl) ?_
        intro N3 hN3
        show zH n (0, 0) 131 (57, [zR 8, .inl a1, .inl a2, .inl a3, .inl a4, .inl u1], []) N3 _
        refine zH_wW (c1 := (72, [zR 8, .inl a1, .inl a2, .inl a3, .inl a4, .inl u1], [])) 6 hz zp_107 (fh_107_18 u1 7 a2) (by rfl) ?_
        intro N4 hN4
        show zH n (0, 0) 131 (72, [zR 8, .inl a1, .inl a2, .inl a3, .inl a4, .inl u1], []) N4 _
        refine zH_w (c' := (74, [zR 8, .inl a1, .inl a2, .inl a3, .inl a4, .inl u1], [.inl u1])) 1 hz rfl ?_
        subst hN4
        subst hN3
        subst hN2
        subst hu1
        exact zH_ret hz rfl rfl (hfinB hE)
      · have hE := hE.trans (if_neg hb)
        exact zH_wr (r := some (.inl (-2))) 1 hz (by rfl) (hfinB hE)
noncomputable def hf_132_8 (M : zM) (a1 : Int) (a2 : Int) (a3 : Int) (a4 : Int) (a5 : Int) (a6 : Int) : Int × zM :=
  (if (hf_175_8 M a1) = 0 then ((-2), M) else (if (hf_169 M a2 1 200) = 0 then ((-2), M) else (if ¬ (hf_169 M a3 1 200) = 0 then (if (hf_169 M a4 (-50) 50) = 0 then ((-2), M) else (if ¬ (hf_178_8 M a5 a6) = 0 then (((hf_179_8 M 3 a5 a6).1), (hR_set (hR_set (hR_set (hR_set ((hf_179_8 M 3 a5 a6).2) 18 ((hf_179_8 M 3 a5 a6).1) 5 a1) 18 ((hf_179_8 M 3 a5 a6).1) 8 a2) 18 ((hf_179_8 M 3 a5 a6).1) 9 a3) 18 ((hf_179_8 M 3 a5 a6).1) 10 a4)) else ((-2), M))) else ((-2), M))))
set_option maxRecDepth 100000 in
theorem fh_132_8 {n : Nat} {M : zM} (a1 : Int) (a2 : Int) (a3 : Int) (a4 : Int) (a5 : Int) (a6 : Int) : zH n (0, 0) 132 (0, zini [zR 8, .inl a1, .inl a2, .inl a3, .inl a4, .inl a5, .inl a6] 8, []) M (fun r M' => r = some (.inl (hf_132_8 M a1 a2 a3 a4 a5 a6).1) ∧ M' = (hf_132_8 M a1 a2 a3 a4 a5 a6).2) := by
  have hz := zp_132
  have hE : hf_132_8 M a1 a2 a3 a4 a5 a6 = hf_132_8 M a1 a2 a3 a4 a5 a6 := rfl
  show zH n (0, 0) 132 (0, [zR 8, .inl a1, .inl a2, .inl a3, .inl a4, .inl a5, .inl a6, zN], []) M _
  refine zH_wE (c1 := (5, [zR 8, .inl a1, .inl a2, .inl a3, .inl a4, .inl a5, .inl a6, zN], [])) 2 hz zp_175 (fh_175_8 a1) (by rfl) ?_
  show zH n (0, 0) 132 (5, [zR 8, .inl a1, .inl a2, .inl a3, .inl a4, .inl a5, .inl a6, zN], [.inl (hf_175_8 M a1)]) M _
  refine zH_wf_eq (pc := 5) (n' := 8) (t := 30) (L := [zR 8, .inl a1, .inl a2, .inl a3, .inl a4, .inl a5, .inl a6, zN]) (st := []) (x := (hf_175_8 M a1)) 0 hz (by rfl) (fun hb => ?_) (fun hb => ?_)
  · have hE := hE.trans (if_pos hb)
    exact zH_wr (r := some (.inl (-2))) 1 hz (by rfl) (hfinB hE)
  · have hE := hE.trans (if_neg hb)
    refine zH_wE (c1 := (16, [zR 8, .inl a1, .inl a2, .inl a3, .inl a4, .inl a5, .inl a6, zN], [])) 3 hz zp_169 (fh_169 a2 1 200) (by rfl) ?_
    show zH n (0, 0) 132 (16, [zR 8, .inl a1, .inl a2, .inl a3, .inl a4, .inl a5, .inl a6, zN], [.inl (hf_169 M a2 1 200)]) M _
    refine zH_wf_eq (pc := 16) (n' := 19) (t := 30) (L := [zR 8, .inl a1, .inl a2, .inl a3, .inl a4, .inl a5, .inl a6, zN]) (st := []) (x := (hf_169 M a2 1 200)) 0 hz (by rfl) (fun hb => ?_) (fun hb => ?_)
    · have hE := hE.trans (if_pos hb)
      exact zH_wr (r := some (.inl (-2))) 1 hz (by rfl) (hfinB hE)
    · have hE := hE.trans (if_neg hb)
      refine zH_wE (c1 := (27, [zR 8, .inl a1, .inl a2, .inl a3, .inl a4, .inl a5, .inl a6, zN], [])) 3 hz zp_169 (fh_169 a3 1 200) (by rfl) ?_
      show zH n (0, 0) 132 (27, [zR 8, .inl a1, .inl a2, .inl a3, .inl a4, .inl a5, .inl a6, zN], [.inl (hf_169 M a3 1 200)]) M _
      refine zH_wf_ne (pc := 27) (n' := 30) (t := 33) (L := [zR 8, .inl a1, .inl a2, .inl a3, .inl a4, .inl a5, .inl a6, zN]) (st := []) (x := (hf_169 M a3 1 200)) 0 hz (by rfl) (fun hb => ?_) (fun hb => ?_)
      · have hE := hE.trans (if_pos hb)
        refine zH_wE (c1 := (42, [zR 8, .inl a1, .inl a2, .inl a3, .inl a4, .inl a5, .inl a6, zN], [])) 3 hz zp_169 (fh_169 a4 (-50) 50) (by rfl) ?_
        show zH n (0, 0) 132 (42, [zR 8, .inl a1, .inl a2, .inl a3, .inl a4, .inl a5, .inl a6, zN], [.inl (hf_169 M a4 (-50) 50)]) M _
        refine zH_wf_eq (pc := 42) (n' := 45) (t := 56) (L := [zR 8, .inl a1, .inl a2, .inl a3, .inl a4, .inl a5, .inl a6, zN]) (st := []) (x := (hf_169 M a4 (-50) 50)) 0 hz (by rfl) (fun hb => ?_) (fun hb => ?_)
        · have hE := hE.trans (if_pos hb)
          exact zH_wr (r := some (.inl (-2))) 1 hz (by rfl) (hfinB hE)
        · have hE := hE.trans (if_neg hb)
          refine zH_wE (c1 := (53, [zR 8, .inl a1, .inl a2, .inl a3, .inl a4, .inl a5, .inl a6, zN], [])) 3 hz zp_178 (fh_178_8 a5 a6) (by rfl) ?_
          show zH n (0, 0) 132 (53, [zR 8, .inl a1, .inl a2, .inl a3, .inl a4, .inl a5, .inl a6, zN], [.inl (hf_178_8 M a5 a6)]) M _
          refine zH_wf_ne (pc := 53) (n' := 56) (t := 59) (L := [zR 8, .inl a1, .inl a2, .inl a3, .inl a4, .inl a5, .inl a6, zN]) (st := []) (x := (hf_178_8 M a5 a6)) 0 hz (by rfl) (fun hb => ?_) (fun hb => ?_)
          · have hE := hE.trans (if_pos hb)
            refine zH_wB (c1 := (68, [zR 8, .inl a1, .inl a2, .inl a3, .inl a4, .inl a5, .inl a6, zN], [])) 4 hz zp_179 (fh_179_8 3 a5 a6) (by rfl) ?_
            intro u1 N2 hu1 hN2
            show zH n (0, 0) 132 (68, [zR 8, .inl a1, .inl a2, .inl a3, .inl a4, .inl a5, .inl a6, zN], [.inl u1]) N2 _
            refine zH_wW (c1 := (84, [zR 8, .inl a1, .inl a2, .inl a3, .inl a4, .inl a5, .inl a6, .inl u1], [])) 7 hz zp_107 (fh_107_18 u1 5 a1) (by rfl) ?_
            intro N3 hN3
            show zH n (0, 0) 132 (84, [zR 8, .inl a1, .inl a2, .inl a3, .inl a4, .inl a5, .inl a6, .inl u1], []) N3 _
            refine zH_wW (c1 := (99, [zR 8, .inl a1, .inl a2, .inl a3, .inl a4, .inl a5, .inl a6, .inl u1], [])) 6 hz zp_107 (fh_107_18 u1 8 a2) (by rfl) ?_
            intro N4 hN4
            show zH n (0, 0) 132 (99, [zR 8, .inl a1, .inl a2, .inl a3, .inl a4, .inl a5, .inl a6, .inl u1], []) N4 _
            refine zH_wW (c1 := (114, [zR 8, .inl a1, .inl a2, .inl a3, .inl a4, .inl a5, .inl a6, .inl u1], [])) 6 hz zp_107 (fh_107_18 u1 9 a3) (by rfl) ?_
            intro N5 hN5
            show zH n (0, 0) 132 (114, [zR 8, .inl a1, .inl a2, .inl a3, .inl a4, .inl a5, .inl a6, .inl u1], []) N5 _
            refine zH_wW (c1 := (130, [zR 8, .inl a1, .inl a2, .inl a3, .inl a4, .inl a5, .inl a6, .inl u1], [])) 6 hz zp_107 (fh_107_18 u1 10 a4) (by rfl) ?_
            intro N6 hN6
            show zH n (0, 0) 132 (130, [zR 8, .inl a1, .inl a2, .inl a3, .inl a4, .inl a5, .inl a6, .inl u1], []) N6 _
            refine zH_w (c' := (132, [zR 8, .inl a1, .inl a2, .inl a3, .inl a4, .inl a5, .inl a6, .inl u1], [.inl u1])) 1 hz rfl ?_
            subst hN6
            subst hN5
            subst hN4
            subst hN3
            subst hN2
            subst hu1
            exact zH_ret hz rfl rfl (hfinB hE)
          · have hE := hE.trans (if_neg hb)
            exact zH_wr (r := some (.inl (-2))) 1 hz (by rfl) (hfinB hE)
      · have hE := hE.trans (if_neg hb)
        exact zH_wr (r := some (.inl (-2))) 1 hz (by rfl) (hfinB hE)
noncomputable def hf_133_8 (M : zM) (a1 : Int) (a2 : Int) (a3 : Int) (a4 : Int) : Int × zM :=
  (if (hf_174_8 M a1) = 0 then ((-2), M) else (if (hf_175_8 M a2) = 0 then ((-2), M) else (if ¬ (hf_178_8 M a3 a4) = 0 then (((hf_179_8 M 4 a3 a4).1), (hR_set (hR_set ((hf_179_8 M 4 a3 a4).2) 18 ((hf_179_8 M 4 a3 a4).1) 4 a1) 18 ((hf_179_8 M 4 a3 a4).1) 5 a2)) else ((-2), M))))
set_option maxRecDepth 100000 in
theorem fh_133_8 {n : Nat} {M : zM} (a1 : Int) (a2 : Int) (a3 : Int) (a4 : Int) : zH n (0, 0) 133 (0, zini [zR 8, .inl a1, .inl a2, .inl a3, .inl a4] 6, []) M (fun r M' => r = some (.inl (hf_133_8 M a1 a2 a3 a4).1) ∧ M' = (hf_133_8 M a1 a2 a3 a4).2) := by
  have hz := zp_133
  have hE : hf_133_8 M a1 a2 a3 a4 = hf_133_8 M a1 a2 a3 a4 := rfl
  show zH n (0, 0) 133 (0, [zR 8, .inl a1, .inl a2, .inl a3, .inl a4, zN], []) M _
  refine zH_wE (c1 := (5, [zR 8, .inl a1, .inl a2, .inl a3, .inl a4, zN], [])) 2 hz zp_174 (fh_174_8 a1) (by rfl) ?_
  show zH n (0, 0) 133 (5, [zR 8, .inl a1, .inl a2, .inl a3, .inl a4, zN], [.inl (hf_174_8 M a1)]) M _
  refine zH_wf_eq (pc := 5) (n' := 8) (t := 26) (L := [zR 8, .inl a1, .inl a2, .inl a3, .inl a4, zN]) (st := []) (x := (hf_174_8 M a1)) 0 hz (by rfl) (fun hb => ?_) (fun hb => ?_)
  · have hE := hE.trans (if_pos hb)
    exact zH_wr (r := some (.inl (-2))) 1 hz (by rfl) (hfinB hE)
  · have hE := hE.trans (if_neg hb)
    refine zH_wE (c1 := (13, [zR 8, .inl a1, .inl a2, .inl a3, .inl a4, zN], [])) 2 hz zp_175 (fh_175_8 a2) (by rfl) ?_
    show zH n (0, 0) 133 (13, [zR 8, .inl a1, .inl a2, .inl a3, .inl a4, zN], [.inl (hf_175_8 M a2)]) M _
    refine zH_wf_eq (pc := 13) (n' := 16) (t := 26) (L := [zR 8, .inl a1, .inl a2, .inl a3, .inl a4, zN]) (st := []) (x := (hf_175_8 M a2)) 0 hz (by rfl) (fun hb => ?_) (fun hb => ?_)
    · have hE := hE.trans (if_pos hb)
      exact zH_wr (r := some (.inl (-2))) 1 hz (by rfl) (hfinB hE)
    · have hE := hE.trans (if_neg hb)
      refine zH_wE (c1 := (23, [zR 8, .inl a1, .inl a2, .inl a3, .inl a4, zN], [])) 3 hz zp_178 (fh_178_8 a3 a4) (by rfl) ?_
      show zH n (0, 0) 133 (23, [zR 8, .inl a1, .inl a2, .inl a3, .inl a4, zN], [.inl (hf_178_8 M a3 a4)]) M _
      refine zH_wf_ne (pc := 23) (n' := 26) (t := 29) (L := [zR 8, .inl a1, .inl a2, .inl a3, .inl a4, zN]) (st := []) (x := (hf_178_8 M a3 a4)) 0 hz (by rfl) (fun hb => ?_) (fun hb => ?_)
      · have hE := hE.trans (if_pos hb)
        refine zH_wB (c1 := (37, [zR 8, .inl a1, .inl a2, .inl a3, .inl a4, zN], [])) 4 hz zp_179 (fh_179_8 4 a3 a4) (by rfl) ?_
        intro u1 N2 hu1 hN2
        show zH n (0, 0) 133 (37, [zR 8, .inl a1, .inl a2, .inl a3, .inl a4, zN], [.inl u1]) N2 _
        refine zH_wW (c1 := (53, [zR 8, .inl a1, .inl a2, .inl a3, .inl a4, .inl u1], [])) 7 hz zp_107 (fh_107_18 u1 4 a1) (by rfl) ?_
        intro N3 hN3
        show zH n (0, 0) 133 (53, [zR 8, .inl a1, .inl a2, .inl a3, .inl a4, .inl u1], []) N3 _
        refine zH_wW (c1 := (67, [zR 8, .inl a1, .inl a2, .inl a3, .inl a4, .inl u1], [])) 6 hz zp_107 (fh_107_18 u1 5 a2) (by rfl) ?_
        intro N4 hN4
        show zH n (0, 0) 133 (67, [zR 8, .inl a1, .inl a2, .inl a3, .inl a4, .inl u1], []) N4 _
        refine zH_w (c' := (69, [zR 8, .inl a1, .inl a2, .inl a3, .inl a4, .inl u1], [.inl u1])) 1 hz rfl ?_
        subst hN4
        subst hN3
        subst hN2
        subst hu1
        exact zH_ret hz rfl rfl (hfinB hE)
      · have hE := hE.trans (if_neg hb)
        exact zH_wr (r := some (.inl (-2))) 1 hz (by rfl) (hfinB hE)
noncomputable def hf_134_8 (M : zM) (a1 : Int) (a2 : Int) (a3 : Int) : Int × zM :=
  (if (hR_has M 18 a1) = 0 then ((-2), M) else (if ¬ (hf_178_8 M a2 a3) = 0 then (((hf_179_8 M 5 a2 a3).1), (hR_set ((hf_179_8 M 5 a2 a3).2) 18 ((hf_179_8 M 5 a2 a3).1) 6 a1)) else ((-2), M)))
set_option maxRecDepth 100000 in
theorem fh_134_8 {n : Nat} {M : zM} (a1 : Int) (a2 : Int) (a3 : Int) : zH n (0, 0) 134 (0, zini [zR 8, .inl a1, .inl a2, .inl a3] 5, []) M (fun r M' => r = some (.inl (hf_134_8 M a1 a2 a3).1) ∧ M' = (hf_134_8 M a1 a2 a3).2) := by
  have hz := zp_134
  have hE : hf_134_8 M a1 a2 a3 = hf_134_8 M a1 a2 a3 := rfl
  show zH n (0, 0) 134 (0, [zR 8, .inl a1, .inl a2, .inl a3, zN], []) M _
  refine zH_wE (c1 := (11, [zR 8, .inl a1, .inl a2, .inl a3, zN], [])) 4 hz zp_102 (fh_102_18 a1) (by rfl) ?_
  show zH n (0, 0) 134 (11, [zR 8, .inl a1, .inl a2, .inl a3, zN], [.inl (hR_has M 18 a1)]) M _
  refine zH_wf_eq (pc := 11) (n' := 14) (t := 23) (L := [zR 8, .inl a1, .inl a2, .inl a3, zN]) (st := []) (x := (hR_has M 18 a1)) 0 hz (by rfl) (fun hb => ?_) (fun hb => ?_)
  · have hE := hE.trans (if_pos hb)
    exact zH_wr (r := some (.inl (-2))) 1 hz (by rfl) (hfinB hE)
  · have hE := hE.trans (if_neg hb)
    refine zH_wE (c1 := (20, [zR 8, .inl a1, .inl a2, .inl a3, zN], [])) 3 hz zp_178 (fh_178_8 a2 a3) (by rfl) ?_
    show zH n (0, 0) 134 (20, [zR 8, .inl a1, .inl a2, .inl a3, zN], [.inl (hf_178_8 M a2 a3)]) M _
    refine zH_wf_ne (pc := 20) (n' := 23) (t := 26) (L := [zR 8, .inl a1, .inl a2, .inl a3, zN]) (st := []) (x := (hf_178_8 M a2 a3)) 0 hz (by rfl) (fun hb => ?_) (fun hb => ?_)
    · have hE := hE.trans (if_pos hb)
      refine zH_wB (c1 := (33, [zR 8, .inl a1, .inl a2, .inl a3, zN], [])) 4 hz zp_179 (fh_179_8 5 a2 a3) (by rfl) ?_
      intro u1 N2 hu1 hN2
      show zH n (0, 0) 134 (33, [zR 8, .inl a1, .inl a2, .inl a3, zN], [.inl u1]) N2 _
      refine zH_wW (c1 := (50, [zR 8, .inl a1, .inl a2, .inl a3, .inl u1], [])) 7 hz zp_107 (fh_107_18 u1 6 a1) (by rfl) ?_
      intro N3 hN3
      show zH n (0, 0) 134 (50, [zR 8, .inl a1, .inl a2, .inl a3, .inl u1], []) N3 _
      refine zH_w (c' := (52, [zR 8, .inl a1, .inl a2, .inl a3, .inl u1], [.inl u1])) 1 hz rfl ?_
      subst hN3
      subst hN2
      subst hu1
      exact zH_ret hz rfl rfl (hfinB hE)
    · have hE := hE.trans (if_neg hb)
      exact zH_wr (r := some (.inl (-2))) 1 hz (by rfl) (hfinB hE)
noncomputable def hf_135_8 (M : zM) (a1 : Int) (a2 : Int) (a3 : Int) : Int × zM :=
  (if (hf_174_8 M a1) = 0 then ((-2), M) else (if ¬ (hf_178_8 M a2 a3) = 0 then (((hf_179_8 M 6 a2 a3).1), (hR_set ((hf_179_8 M 6 a2 a3).2) 18 ((hf_179_8 M 6 a2 a3).1) 4 a1)) else ((-2), M)))
set_option maxRecDepth 100000 in
theorem fh_135_8 {n : Nat} {M : zM} (a1 : Int) (a2 : Int) (a3 : Int) : zH n (0, 0) 135 (0, zini [zR 8, .inl a1, .inl a2, .inl a3] 5, []) M (fun r M' => r = some (.inl (hf_135_8 M a1 a2 a3).1) ∧ M' = (hf_135_8 M a1 a2 a3).2) := by
  have hz := zp_135
  have hE : hf_135_8 M a1 a2 a3 = hf_135_8 M a1 a2 a3 := rfl
  show zH n (0, 0) 135 (0, [zR 8, .inl a1, .inl a2, .inl a3, zN], []) M _
  refine zH_wE (c1 := (5, [zR 8, .inl a1, .inl a2, .inl a3, zN], [])) 2 hz zp_174 (fh_174_8 a1) (by rfl) ?_
  show zH n (0, 0) 135 (5, [zR 8, .inl a1, .inl a2, .inl a3, zN], [.inl (hf_174_8 M a1)]) M _
  refine zH_wf_eq (pc := 5) (n' := 8) (t := 17) (L := [zR 8, .inl a1, .inl a2, .inl a3, zN]) (st := []) (x := (hf_174_8 M a1)) 0 hz (by rfl) (fun hb => ?_) (fun hb => ?_)
  · have hE := hE.trans (if_pos hb)
    exact zH_wr (r := some (.inl (-2))) 1 hz (by rfl) (hfinB hE)
  · have hE := hE.trans (if_neg hb)
    refine zH_wE (c1 := (14, [zR 8, .inl a1, .inl a2, .inl a3, zN], [])) 3 hz zp_178 (fh_178_8 a2 a3) (by rfl) ?_
    show zH n (0, 0) 135 (14, [zR 8, .inl a1, .inl a2, .inl a3, zN], [.inl (hf_178_8 M a2 a3)]) M _
    refine zH_wf_ne (pc := 14) (n' := 17) (t := 20) (L := [zR 8, .inl a1, .inl a2, .inl a3, zN]) (st := []) (x := (hf_178_8 M a2 a3)) 0 hz (by rfl) (fun hb => ?_) (fun hb => ?_)
    · have hE := hE.trans (if_pos hb)
      refine zH_wB (c1 := (28, [zR 8, .inl a1, .inl a2, .inl a3, zN], [])) 4 hz zp_179 (fh_179_8 6 a2 a3) (by rfl) ?_
      intro u1 N2 hu1 hN2
      show zH n (0, 0) 135 (28, [zR 8, .inl a1, .inl a2, .inl a3, zN], [.inl u1]) N2 _
      refine zH_wW (c1 := (44, [zR 8, .inl a1, .inl a2, .inl a3, .inl u1], [])) 7 hz zp_107 (fh_107_18 u1 4 a1) (by rfl) ?_
      intro N3 hN3
      show zH n (0, 0) 135 (44, [zR 8, .inl a1, .inl a2, .inl a3, .inl u1], []) N3 _
      refine zH_w (c' := (46, [zR 8, .inl a1, .inl a2, .inl a3, .inl u1], [.inl u1])) 1 hz rfl ?_
      subst hN3
      subst hN2
      subst hu1
      exact zH_ret hz rfl rfl (hfinB hE)
    · have hE := hE.trans (if_neg hb)
      exact zH_wr (r := some (.inl (-2))) 1 hz (by rfl) (hfinB hE)
noncomputable def hf_136_8 (M : zM) (a1 : Int) (a2 : Int) : Int × zM :=
  (if (hR_has M 18 a1) = 0 then ((-2), M) else (if ¬ (hf_170 M a2) = 0 then (if (hR_get M 18 a1 3) = (-1) then ((-3), M) else (if ¬ (hf_169 M a2 (hR_get M 18 a1 1) (w32 ((hR_get M 18 a1 1) + (M 9 8)))) = 0 then (((hf_18_9 M 5 a2 a2 (-1)).1), (hR_set ((hf_18_9 M 5 a2 a2 (-1)).2) 18 ((hf_18_9 M 5 a2 a2 (-1)).1) 6 a1)) else ((-3), M))) else ((-2), M)))
set_option maxRecDepth 100000 in
theorem fh_136_8 {n : Nat} {M : zM} (a1 : Int) (a2 : Int) : zH n (0, 0) 136 (0, zini [zR 8, .inl a1, .inl a2] 5, []) M (fun r M' => r = some (.inl (hf_136_8 M a1 a2).1) ∧ M' = (hf_136_8 M a1 a2).2) := by
  have hz := zp_136
  have hE : hf_136_8 M a1 a2 = hf_136_8 M a1 a2 := rfl
  show zH n (0, 0) 136 (0, [zR 8, .inl a1, .inl a2, zN, zN], []) M _
  refine zH_wE (c1 := (11, [zR 8, .inl a1, .inl a2, zN, zN], [])) 4 hz zp_102 (fh_102_18 a1) (by rfl) ?_
  show zH n (0, 0) 136 (11, [zR 8, .inl a1, .inl a2, zN, zN], [.inl (hR_has M 18 a1)]) M _
  refine zH_wf_eq (pc := 11) (n' := 14) (t := 21) (L := [zR 8, .inl a1, .inl a2, zN, zN]) (st := []) (x := (hR_has M 18 a1)) 0 hz (by rfl) (fun hb => ?_) (fun hb => ?_)
  · have hE := hE.trans (if_pos hb)
    exact zH_wr (r := some (.inl (-2))) 1 hz (by rfl) (hfinB hE)
  · have hE := hE.trans (if_neg hb)
    refine zH_wE (c1 := (18, [zR 8, .inl a1, .inl a2, zN, zN], [])) 1 hz zp_170 (fh_170 a2) (by rfl) ?_
    show zH n (0, 0) 136 (18, [zR 8, .inl a1, .inl a2, zN, zN], [.inl (hf_170 M a2)]) M _
    refine zH_wf_ne (pc := 18) (n' := 21) (t := 24) (L := [zR 8, .inl a1, .inl a2, zN, zN]) (st := []) (x := (hf_170 M a2)) 0 hz (by rfl) (fun hb => ?_) (fun hb => ?_)
    · have hE := hE.trans (if_pos hb)
      refine zH_wE (c1 := (36, [zR 8, .inl a1, .inl a2, zN, zN], [])) 5 hz zp_106 (fh_106_18 a1 1) (by rfl) ?_
      show zH n (0, 0) 136 (36, [zR 8, .inl a1, .inl a2, zN, zN], [.inl (hR_get M 18 a1 1)]) M _
      refine zH_wE (c1 := (49, [zR 8, .inl a1, .inl a2, .inl (hR_get M 18 a1 1), zN], [])) 6 hz zp_106 (fh_106_18 a1 3) (by rfl) ?_
      show zH n (0, 0) 136 (49, [zR 8, .inl a1, .inl a2, .inl (hR_get M 18 a1 1), zN], [.inl (hR_get M 18 a1 3)]) M _
      refine zH_wi_eq (pc := 50) (n' := 53) (t := 70) (L := [zR 8, .inl a1, .inl a2, .inl (hR_get M 18 a1 1), zN]) (st := []) (x := (hR_get M 18 a1 3)) (y := (-1)) 1 hz (by rfl) (fun hb => ?_) (fun hb => ?_)
      · have hE := hE.trans (if_pos hb)
        exact zH_wr (r := some (.inl (-3))) 1 hz (by rfl) (hfinB hE)
      · have hE := hE.trans (if_neg hb)
        refine zH_wE (c1 := (67, [zR 8, .inl a1, .inl a2, .inl (hR_get M 18 a1 1), zN], [])) 7 hz zp_169 (fh_169 a2 (hR_get M 18 a1 1) (w32 ((hR_get M 18 a1 1) + (M 9 8)))) (by rfl) ?_
        show zH n (0, 0) 136 (67, [zR 8, .inl a1, .inl a2, .inl (hR_get M 18 a1 1), zN], [.inl (hf_169 M a2 (hR_get M 18 a1 1) (w32 ((hR_get M 18 a1 1) + (M 9 8))))]) M _
        refine zH_wf_ne (pc := 67) (n' := 70) (t := 73) (L := [zR 8, .inl a1, .inl a2, .inl (hR_get M 18 a1 1), zN]) (st := []) (x := (hf_169 M a2 (hR_get M 18 a1 1) (w32 ((hR_get M 18 a1 1) + (M 9 8))))) 0 hz (by rfl) (fun hb => ?_) (fun hb => ?_)
        · have hE := hE.trans (if_pos hb)
          refine zH_wB (c1 := (84, [zR 8, .inl a1, .inl a2, .inl (hR_get M 18 a1 1), zN], [])) 6 hz zp_18 (fh_18_9 5 a2 a2 (-1)) (by rfl) ?_
          intro u1 N2 hu1 hN2
          show zH n (0, 0) 136 (84, [zR 8, .inl a1, .inl a2, .inl (hR_get M 18 a1 1), zN], [.inl u1]) N2 _
          refine zH_wW (c1 := (101, [zR 8, .inl a1, .inl a2, .inl (hR_get M 18 a1 1), .inl u1], [])) 7 hz zp_107 (fh_107_18 u1 6 a1) (by rfl) ?_
          intro N3 hN3
          show zH n (0, 0) 136 (101, [zR 8, .inl a1, .inl a2, .inl (hR_get M 18 a1 1), .inl u1], []) N3 _
          refine zH_w (c' := (103, [zR 8, .inl a1, .inl a2, .inl (hR_get M 18 a1 1), .inl u1], [.inl u1])) 1 hz rfl ?_
          subst hN3
          subst hN2
          subst hu1
          exact zH_ret hz rfl rfl (hfinB hE)
        · have hE := hE.trans (if_neg hb)
          exact zH_wr (r := some (.inl (-3))) 1 hz (by rfl) (hfinB hE)
    · have hE := hE.trans (if_neg hb)
      exact zH_wr (r := some (.inl (-2))) 1 hz (by rfl) (hfinB hE)
noncomputable def hf_137_8 (M : zM) (a1 : Int) : Int × zM :=
  (if ¬ (hf_169 M a1 0 1000) = 0 then (M 9 8, zput M 9 8 a1) else ((-2), M))
set_option maxRecDepth 100000 in
theorem fh_137_8 {n : Nat} {M : zM} (a1 : Int) : zH n (0, 0) 137 (0, zini [zR 8, .inl a1] 3, []) M (fun r M' => r = some (.inl (hf_137_8 M a1).1) ∧ M' = (hf_137_8 M a1).2) := by
  have hz := zp_137
  have hE : hf_137_8 M a1 = hf_137_8 M a1 := rfl
  show zH n (0, 0) 137 (0, [zR 8, .inl a1, zN], []) M _
  refine zH_wE (c1 := (8, [zR 8, .inl a1, zN], [])) 3 hz zp_169 (fh_169 a1 0 1000) (by rfl) ?_
  show zH n (0, 0) 137 (8, [zR 8, .inl a1, zN], [.inl (hf_169 M a1 0 1000)]) M _
  refine zH_wf_ne (pc := 8) (n' := 11) (t := 14) (L := [zR 8, .inl a1, zN]) (st := []) (x := (hf_169 M a1 0 1000)) 0 hz (by rfl) (fun hb => ?_) (fun hb => ?_)
  · have hE := hE.trans (if_pos hb)
    refine zH_w (c' := (31, [zR 8, .inl a1, .inl (M 9 8)], [.inl (M 9 8)])) 9 hz rfl ?_
    exact zH_wr (r := some (.inl (M 9 8))) 0 hz (by rfl) (hfinB hE)
  · have hE := hE.trans (if_neg hb)
    exact zH_wr (r := some (.inl (-2))) 1 hz (by rfl) (hfinB hE)
noncomputable def hf_138_8 (M : zM) (a1 : Int) (a2 : Int) : Int :=
  (if (hR_has M 18 a1) = 0 then (-2) else (if (hf_169 M a2 0 7) = 0 then (-2) else (hR_get M 18 a1 a2)))
set_option maxRecDepth 100000 in
theorem fh_138_8 {n : Nat} {M : zM} (a1 : Int) (a2 : Int) : zH n (0, 0) 138 (0, zini [zR 8, .inl a1, .inl a2] 3, []) M (fun r M' => r = some (.inl (hf_138_8 M a1 a2)) ∧ M' = M) := by
  have hz := zp_138
  have hE : hf_138_8 M a1 a2 = hf_138_8 M a1 a2 := rfl
  show zH n (0, 0) 138 (0, [zR 8, .inl a1, .inl a2], []) M _
  refine zH_wE (c1 := (11, [zR 8, .inl a1, .inl a2], [])) 4 hz zp_102 (fh_102_18 a1) (by rfl) ?_
  show zH n (0, 0) 138 (11, [zR 8, .inl a1, .inl a2], [.inl (hR_has M 18 a1)]) M _
  refine zH_wf_eq (pc := 11) (n' := 14) (t := 39) (L := [zR 8, .inl a1, .inl a2]) (st := []) (x := (hR_has M 18 a1)) 0 hz (by rfl) (fun hb => ?_) (fun hb => ?_)
  · have hE := hE.trans (if_pos hb)
    exact zH_wr (r := some (.inl (-2))) 1 hz (by rfl) (hfinP hE)
  · have hE := hE.trans (if_neg hb)
    refine zH_wE (c1 := (21, [zR 8, .inl a1, .inl a2], [])) 3 hz zp_169 (fh_169 a2 0 7) (by rfl) ?_
    show zH n (0, 0) 138 (21, [zR 8, .inl a1, .inl a2], [.inl (hf_169 M a2 0 7)]) M _
    refine zH_wf_eq (pc := 21) (n' := 24) (t := 39) (L := [zR 8, .inl a1, .inl a2]) (st := []) (x := (hf_169 M a2 0 7)) 0 hz (by rfl) (fun hb => ?_) (fun hb => ?_)
    · have hE := hE.trans (if_pos hb)
      exact zH_wr (r := some (.inl (-2))) 1 hz (by rfl) (hfinP hE)
    · have hE := hE.trans (if_neg hb)
      refine zH_wE (c1 := (36, [zR 8, .inl a1, .inl a2], [])) 5 hz zp_106 (fh_106_18 a1 a2) (by rfl) ?_
      show zH n (0, 0) 138 (36, [zR 8, .inl a1, .inl a2], [.inl (hR_get M 18 a1 a2)]) M _
      exact zH_wr (r := some (.inl (hR_get M 18 a1 a2))) 1 hz (by rfl) (hfinP hE)
noncomputable def hf_173 (M : zM) (a0 : Int) : Int :=
  (hf_169 M a0 0 7)
set_option maxRecDepth 100000 in
theorem fh_173 {n : Nat} {M : zM} (a0 : Int) : zH n (0, 0) 173 (0, zini [.inl a0] 1, []) M (fun r M' => r = some (.inl (hf_173 M a0)) ∧ M' = M) := by
  have hz := zp_173
  have hE : hf_173 M a0 = hf_173 M a0 := rfl
  show zH n (0, 0) 173 (0, [.inl a0], []) M _
  refine zH_wE (c1 := (7, [.inl a0], [])) 3 hz zp_169 (fh_169 a0 0 7) (by rfl) ?_
  show zH n (0, 0) 173 (7, [.inl a0], [.inl (hf_169 M a0 0 7)]) M _
  exact zH_zret hz rfl (hfinP hE)
noncomputable def hf_148_8 (M : zM) (a1 : Int) (a2 : Int) : Int × zM :=
  (if (hf_173 M a1) = 0 then ((-2), M) else (if ¬ (hf_169 M a2 0 127) = 0 then (if (hR_get M 20 a1 0) < 80 then (w32 ((hR_get M 20 a1 0) + 1), (hR_set (hR_set M 20 a1 (w32 (1 + (hR_get M 20 a1 0))) a2) 20 a1 0 (w32 ((hR_get M 20 a1 0) + 1)))) else ((-4), M)) else ((-2), M)))
set_option maxRecDepth 100000 in
theorem fh_148_8 {n : Nat} {M : zM} (a1 : Int) (a2 : Int) : zH n (0, 0) 148 (0, zini [zR 8, .inl a1, .inl a2] 4, []) M (fun r M' => r = some (.inl (hf_148_8 M a1 a2).1) ∧ M' = (hf_148_8 M a1 a2).2) := by
  have hz := zp_148
  have hE : hf_148_8 M a1 a2 = hf_148_8 M a1 a2 := rfl
  show zH n (0, 0) 148 (0, [zR 8, .inl a1, .inl a2, zN], []) M _
  refine zH_wE (c1 := (4, [zR 8, .inl a1, .inl a2, zN], [])) 1 hz zp_173 (fh_173 a1) (by rfl) ?_
  show zH n (0, 0) 148 (4, [zR 8, .inl a1, .inl a2, zN], [.inl (hf_173 M a1)]) M _
  refine zH_wf_eq (pc := 4) (n' := 7) (t := 17) (L := [zR 8, .inl a1, .inl a2, zN]) (st := []) (x := (hf_173 M a1)) 0 hz (by rfl) (fun hb => ?_) (fun hb => ?_)
  · have hE := hE.trans (if_pos hb)
    exact zH_wr (r := some (.inl (-2))) 1 hz (by rfl) (hfinB hE)
  · have hE := hE.trans (if_neg hb)
    refine zH_wE (c1 := (14, [zR 8, .inl a1, .inl a2, zN], [])) 3 hz zp_169 (fh_169 a2 0 127) (by rfl) ?_
    show zH n (0, 0) 148 (14, [zR 8, .inl a1, .inl a2, zN], [.inl (hf_169 M a2 0 127)]) M _
    refine zH_wf_ne (pc := 14) (n' := 17) (t := 20) (L := [zR 8, .inl a1, .inl a2, zN]) (st := []) (x := (hf_169 M a2 0 127)) 0 hz (by rfl) (fun hb => ?_) (fun hb => ?_)
    · have hE := hE.trans (if_pos hb)
      refine zH_wE (c1 := (32, [zR 8, .inl a1, .inl a2, zN], [])) 5 hz zp_106 (fh_106_20 a1 0) (by rfl) ?_
      show zH n (0, 0) 148 (32, [zR 8, .inl a1, .inl a2, zN], [.inl (hR_get M 20 a1 0)]) M _
      refine zH_wi_lt (pc := 36) (n' := 39) (t := 42) (L := [zR 8, .inl a1, .inl a2, .inl (hR_get M 20 a1 0)]) (st := []) (x := (hR_get M 20 a1 0)) (y := 80) 3 hz (by rfl) (fun hb => ?_) (fun hb => ?_)
      · have hE := hE.trans (if_pos hb)
        refine zH_wW (c1 := (57, [zR 8, .inl a1, .inl a2, .inl (hR_get M 20 a1 0)], [])) 8 hz zp_107 (fh_107_20 a1 (w32 (1 + (hR_get M 20 a1 0))) a2) (by rfl) ?_
        intro N1 hN1
        show zH n (0, 0) 148 (57, [zR 8, .inl a1, .inl a2, .inl (hR_get M 20 a1 0)], []) N1 _
        refine zH_wW (c1 := (72, [zR 8, .inl a1, .inl a2, .inl (hR_get M 20 a1 0)], [])) 8 hz zp_107 (fh_107_20 a1 0 (w32 ((hR_get M 20 a1 0) + 1))) (by rfl) ?_
        intro N2 hN2
        show zH n (0, 0) 148 (72, [zR 8, .inl a1, .inl a2, .inl (hR_get M 20 a1 0)], []) N2 _
        refine zH_w (c' := (75, [zR 8, .inl a1, .inl a2, .inl (hR_get M 20 a1 0)], [.inl (w32 ((hR_get M 20 a1 0) + 1))])) 3 hz rfl ?_
        subst hN2
        subst hN1
        exact zH_ret hz rfl rfl (hfinB hE)
      · have hE := hE.trans (if_neg hb)
        exact zH_wr (r := some (.inl (-4))) 1 hz (by rfl) (hfinB hE)
    · have hE := hE.trans (if_neg hb)
      exact zH_wr (r := some (.inl (-2))) 1 hz (by rfl) (hfinB hE)
noncomputable def hf_149_8 (M : zM) (a1 : Int) : Int × zM :=
  (if ¬ (hf_173 M a1) = 0 then ((hR_get M 20 a1 0), (hR_set M 20 a1 0 0)) else ((-2), M))
set_option maxRecDepth 100000 in
theorem fh_149_8 {n : Nat} {M : zM} (a1 : Int) : zH n (0, 0) 149 (0, zini [zR 8, .inl a1] 3, []) M (fun r M' => r = some (.inl (hf_149_8 M a1).1) ∧ M' = (hf_149_8 M a1).2) := by
  have hz := zp_149
  have hE : hf_149_8 M a1 = hf_149_8 M a1 := rfl
  show zH n (0, 0) 149 (0, [zR 8, .inl a1, zN], []) M _
  refine zH_wE (c1 := (4, [zR 8, .inl a1, zN], [])) 1 hz zp_173 (fh_173 a1) (by rfl) ?_
  show zH n (0, 0) 149 (4, [zR 8, .inl a1, zN], [.inl (hf_173 M a1)]) M _
  refine zH_wf_ne (pc := 4) (n' := 7) (t := 10) (L := [zR 8, .inl a1, zN]) (st := []) (x := (hf_173 M a1)) 0 hz (by rfl) (fun hb => ?_) (fun hb => ?_)
  · have hE := hE.trans (if_pos hb)
    refine zH_wE (c1 := (22, [zR 8, .inl a1, zN], [])) 5 hz zp_106 (fh_106_20 a1 0) (by rfl) ?_
    show zH n (0, 0) 149 (22, [zR 8, .inl a1, zN], [.inl (hR_get M 20 a1 0)]) M _
    refine zH_wW (c1 := (36, [zR 8, .inl a1, .inl (hR_get M 20 a1 0)], [])) 7 hz zp_107 (fh_107_20 a1 0 0) (by rfl) ?_
    intro N1 hN1
    show zH n (0, 0) 149 (36, [zR 8, .inl a1, .inl (hR_get M 20 a1 0)], []) N1 _
    refine zH_w (c' := (37, [zR 8, .inl a1, .inl (hR_get M 20 a1 0)], [.inl (hR_get M 20 a1 0)])) 1 hz rfl ?_
    subst hN1
    exact zH_ret hz rfl rfl (hfinB hE)
  · have hE := hE.trans (if_neg hb)
    exact zH_wr (r := some (.inl (-2))) 1 hz (by rfl) (hfinB hE)
noncomputable def hf_153_8 (M : zM) (a1 : Int) (a2 : Int) : Int × zM :=
  (if (hf_174_8 M a1) = 0 then ((-10), M) else (if ¬ (hf_169 M a2 (-1) (w32 ((hR_size M 22) - 1))) = 0 then ((hR_get M 12 a1 1), (hR_set M 12 a1 1 a2)) else ((-10), M)))
set_option maxRecDepth 100000 in
theorem fh_153_8 {n : Nat} {M : zM} (a1 : Int) (a2 : Int) : zH n (0, 0) 153 (0, zini [zR 8, .inl a1, .inl a2] 4, []) M (fun r M' => r = some (.inl (hf_153_8 M a1 a2).1) ∧ M' = (hf_153_8 M a1 a2).2) := by
  have hz := zp_153
  have hE : hf_153_8 M a1 a2 = hf_153_8 M a1 a2 := rfl
  show zH n (0, 0) 153 (0, [zR 8, .inl a1, .inl a2, zN], []) M _
  refine zH_wE (c1 := (5, [zR 8, .inl a1, .inl a2, zN], [])) 2 hz zp_174 (fh_174_8 a1) (by rfl) ?_
  show zH n (0, 0) 153 (5, [zR 8, .inl a1, .inl a2, zN], [.inl (hf_174_8 M a1)]) M _
  refine zH_wf_eq (pc := 5) (n' := 8) (t := 28) (L := [zR 8, .inl a1, .inl a2, zN]) (st := []) (x := (hf_174_8 M a1)) 0 hz (by rfl) (fun hb => ?_) (fun hb => ?_)
  · have hE := hE.trans (if_pos hb)
    exact zH_wr (r := some (.inl (-10))) 1 hz (by rfl) (hfinB hE)
  · have hE := hE.trans (if_neg hb)
    refine zH_wE (c1 := (20, [zR 8, .inl a1, .inl a2, zN], [.inl (-1), .inl a2])) 5 hz zp_101 (fh_101_22) (by rfl) ?_
    show zH n (0, 0) 153 (20, [zR 8, .inl a1, .inl a2, zN], [.inl (hR_size M 22), .inl (-1), .inl a2]) M _
    refine zH_wE (c1 := (25, [zR 8, .inl a1, .inl a2, zN], [])) 2 hz zp_169 (fh_169 a2 (-1) (w32 ((hR_size M 22) - 1))) (by rfl) ?_
    show zH n (0, 0) 153 (25, [zR 8, .inl a1, .inl a2, zN], [.inl (hf_169 M a2 (-1) (w32 ((hR_size M 22) - 1)))]) M _
    refine zH_wf_ne (pc := 25) (n' := 28) (t := 31) (L := [zR 8, .inl a1, .inl a2, zN]) (st := []) (x := (hf_169 M a2 (-1) (w32 ((hR_size M 22) - 1)))) 0 hz (by rfl) (fun hb => ?_) (fun hb => ?_)
    · have hE := hE.trans (if_pos hb)
      refine zH_wE (c1 := (43, [zR 8, .inl a1, .inl a2, zN], [])) 5 hz zp_106 (fh_106_12 a1 1) (by rfl) ?_
      show zH n (0, 0) 153 (43, [zR 8, .inl a1, .inl a2, zN], [.inl (hR_get M 12 a1 1)]) M _
      refine zH_wW (c1 := (57, [zR 8, .inl a1, .inl a2, .inl (hR_get M 12 a1 1)], [])) 7 hz zp_107 (fh_107_12 a1 1 a2) (by rfl) ?_
      intro N1 hN1
      show zH n (0, 0) 153 (57, [zR 8, .inl a1, .inl a2, .inl (hR_get M 12 a1 1)], []) N1 _
      refine zH_w (c' := (58, [zR 8, .inl a1, .inl a2, .inl (hR_get M 12 a1 1)], [.inl (hR_get M 12 a1 1)])) 1 hz rfl ?_
      subst hN1
      exact zH_ret hz rfl rfl (hfinB hE)
    · have hE := hE.trans (if_neg hb)
      exact zH_wr (r := some (.inl (-10))) 1 hz (by rfl) (hfinB hE)
noncomputable def hf_157_8 (M : zM) (a1 : Int) (a2 : Int) (a3 : Int) : Int × zM :=
  (if (hf_174_8 M a1) = 0 then ((-2), M) else (if ¬ (hf_175_8 M a2) = 0 then (if ¬ (zband (zbshr (hR_get M 12 a1 2) a2) 1) = 1 then (if ¬ 0 = a3 then (1, (hR_set M 12 a1 2 (zbxor (hR_get M 12 a1 2) (zbshl 1 a2)))) else ((-3), M)) else (if ¬ 1 = a3 then (1, (hR_set M 12 a1 2 (zbxor (hR_get M 12 a1 2) (zbshl 1 a2)))) else ((-3), M))) else ((-2), M)))
set_option maxRecDepth 100000 in
theorem fh_157_8 {n : Nat} {M : zM} (a1 : Int) (a2 : Int) (a3 : Int) : zH n (0, 0) 157 (0, zini [zR 8, .inl a1, .inl a2, .inl a3] 6, []) M (fun r M' => r = some (.inl (hf_157_8 M a1 a2 a3).1) ∧ M' = (hf_157_8 M a1 a2 a3).2) := by
  have hz := zp_157
  have hE : hf_157_8 M a1 a2 a3 = hf_157_8 M a1 a2 a3 := rfl
  show zH n (0, 0) 157 (0, [zR 8, .inl a1, .inl a2, .inl a3, zN, zN], []) M _
  refine zH_wE (c1 := (5, [zR 8, .inl a1, .inl a2, .inl a3, zN, zN], [])) 2 hz zp_174 (fh_174_8 a1) (by rfl) ?_
  show zH n (0, 0) 157 (5, [zR 8, .inl a1, .inl a2, .inl a3, zN, zN], [.inl (hf_174_8 M a1)]) M _
  refine zH_wf_eq (pc := 5) (n' := 8) (t := 16) (L := [zR 8, .inl a1, .inl a2, .inl a3, zN, zN]) (st := []) (x := (hf_174_8 M a1)) 0 hz (by rfl) (fun hb => ?_) (fun hb => ?_)
  · have hE := hE.trans (if_pos hb)
    exact zH_wr (r := some (.inl (-2))) 1 hz (by rfl) (hfinB hE)
  · have hE := hE.trans (if_neg hb)
    refine zH_wE (c1 := (13, [zR 8, .inl a1, .inl a2, .inl a3, zN, zN], [])) 2 hz zp_175 (fh_175_8 a2) (by rfl) ?_
    show zH n (0, 0) 157 (13, [zR 8, .inl a1, .inl a2, .inl a3, zN, zN], [.inl (hf_175_8 M a2)]) M _
    refine zH_wf_ne (pc := 13) (n' := 16) (t := 19) (L := [zR 8, .inl a1, .inl a2, .inl a3, zN, zN]) (st := []) (x := (hf_175_8 M a2)) 0 hz (by rfl) (fun hb => ?_) (fun hb => ?_)
    · have hE := hE.trans (if_pos hb)
      refine zH_wE (c1 := (31, [zR 8, .inl a1, .inl a2, .inl a3, zN, zN], [])) 5 hz zp_106 (fh_106_12 a1 2) (by rfl) ?_
      show zH n (0, 0) 157 (31, [zR 8, .inl a1, .inl a2, .inl a3, zN, zN], [.inl (hR_get M 12 a1 2)]) M _
      refine zH_wi_ne (pc := 40) (n' := 43) (t := 47) (L := [zR 8, .inl a1, .inl a2, .inl a3, .inl (hR_get M 12 a1 2), zN]) (st := []) (x := (zband (zbshr (hR_get M 12 a1 2) a2) 1)) (y := 1) 7 hz (by rfl) (fun hb => ?_) (fun hb => ?_)
      · have hE := hE.trans (if_pos hb)
        refine zH_wi_ne (pc := 53) (n' := 56) (t := 59) (L := [zR 8, .inl a1, .inl a2, .inl a3, .inl (hR_get M 12 a1 2), .inl 0]) (st := []) (x := 0) (y := a3) 4 hz (by rfl) (fun hb => ?_) (fun hb => ?_)
        · have hE := hE.trans (if_pos hb)
          refine zH_wW (c1 := (77, [zR 8, .inl a1, .inl a2, .inl a3, .inl (hR_get M 12 a1 2), .inl 0], [])) 10 hz zp_107 (fh_107_12 a1 2 (zbxor (hR_get M 12 a1 2) (zbshl 1 a2))) (by rfl) ?_
          intro N1 hN1
          show zH n (0, 0) 157 (77, [zR 8, .inl a1, .inl a2, .inl a3, .inl (hR_get M 12 a1 2), .inl 0], []) N1 _
          refine zH_w (c' := (78, [zR 8, .inl a1, .inl a2, .inl a3, .inl (hR_get M 12 a1 2), .inl 0], [.inl 1])) 1 hz rfl ?_
          subst hN1
          exact zH_ret hz rfl rfl (hfinB hE)
        · have hE := hE.trans (if_neg hb)
          exact zH_wr (r := some (.inl (-3))) 1 hz (by rfl) (hfinB hE)
      · have hE := hE.trans (if_neg hb)
        refine zH_wi_ne (pc := 53) (n' := 56) (t := 59) (L := [zR 8, .inl a1, .inl a2, .inl a3, .inl (hR_get M 12 a1 2), .inl 1]) (st := []) (x := 1) (y := a3) 5 hz (by rfl) (fun hb => ?_) (fun hb => ?_)
        · have hE := hE.trans (if_pos hb)
          refine zH_wW (c1 := (77, [zR 8, .inl a1, .inl a2, .inl a3, .inl (hR_get M 12 a1 2), .inl 1], [])) 10 hz zp_107 (fh_107_12 a1 2 (zbxor (hR_get M 12 a1 2) (zbshl 1 a2))) (by rfl) ?_
          intro N2 hN2
          show zH n (0, 0) 157 (77, [zR 8, .inl a1, .inl a2, .inl a3, .inl (hR_get M 12 a1 2), .inl 1], []) N2 _
          refine zH_w (c' := (78, [zR 8, .inl a1, .inl a2, .inl a3, .inl (hR_get M 12 a1 2), .inl 1], [.inl 1])) 1 hz rfl ?_
          subst hN2
          exact zH_ret hz rfl rfl (hfinB hE)
        · have hE := hE.trans (if_neg hb)
          exact zH_wr (r := some (.inl (-3))) 1 hz (by rfl) (hfinB hE)
    · have hE := hE.trans (if_neg hb)
      exact zH_wr (r := some (.inl (-2))) 1 hz (by rfl) (hfinB hE)
noncomputable def hf_161_8 (M : zM) (a1 : Int) : Int × zM :=
  (if ¬ (hf_169 M a1 1 10000) = 0 then (M 9 9, zput M 9 9 a1) else ((-2), M))
set_option maxRecDepth 100000 in
theorem fh_161_8 {n : Nat} {M : zM} (a1 : Int) : zH n (0, 0) 161 (0, zini [zR 8, .inl a1] 3, []) M (fun r M' => r = some (.inl (hf_161_8 M a1).1) ∧ M' = (hf_161_8 M a1).2) := by
  have hz := zp_161
  have hE : hf_161_8 M a1 = hf_161_8 M a1 := rfl
  show zH n (0, 0) 161 (0, [zR 8, .inl a1, zN], []) M _
  refine zH_wE (c1 := (8, [zR 8, .inl a1, zN], [])) 3 hz zp_169 (fh_169 a1 1 10000) (by rfl) ?_
  show zH n (0, 0) 161 (8, [zR 8, .inl a1, zN], [.inl (hf_169 M a1 1 10000)]) M _
  refine zH_wf_ne (pc := 8) (n' := 11) (t := 14) (L := [zR 8, .inl a1, zN]) (st := []) (x := (hf_169 M a1 1 10000)) 0 hz (by rfl) (fun hb => ?_) (fun hb => ?_)
  · have hE := hE.trans (if_pos hb)
    refine zH_w (c' := (31, [zR 8, .inl a1, .inl (M 9 9)], [.inl (M 9 9)])) 9 hz rfl ?_
    exact zH_wr (r := some (.inl (M 9 9))) 0 hz (by rfl) (hfinB hE)
  · have hE := hE.trans (if_neg hb)
    exact zH_wr (r := some (.inl (-2))) 1 hz (by rfl) (hfinB hE)
noncomputable def hf_162_8 (M : zM) (a1 : Int) (a2 : Int) : Int × zM :=
  (if (hf_169 M a1 0 1000) = 0 then ((-2), M) else (if ¬ (hf_169 M a2 0 1000) = 0 then (if ¬ ((hR_open M 24).1) = (-4) then (w32 (((hR_open M 24).1) + 1), (hR_set (hR_set ((hR_open M 24).2) 24 ((hR_open M 24).1) 0 a1) 24 ((hR_open M 24).1) 1 a2)) else ((-4), ((hR_open M 24).2))) else ((-2), M)))
set_option maxRecDepth 100000 in
theorem fh_162_8 {n : Nat} {M : zM} (a1 : Int) (a2 : Int) : zH n (0, 0) 162 (0, zini [zR 8, .inl a1, .inl a2] 4, []) M (fun r M' => r = some (.inl (hf_162_8 M a1 a2).1) ∧ M' = (hf_162_8 M a1 a2).2) := by
  have hz := zp_162
  have hE : hf_162_8 M a1 a2 = hf_162_8 M a1 a2 := rfl
  show zH n (0, 0) 162 (0, [zR 8, .inl a1, .inl a2, zN], []) M _
  refine zH_wE (c1 := (8, [zR 8, .inl a1, .inl a2, zN], [])) 3 hz zp_169 (fh_169 a1 0 1000) (by rfl) ?_
  show zH n (0, 0) 162 (8, [zR 8, .inl a1, .inl a2, zN], [.inl (hf_169 M a1 0 1000)]) M _
  refine zH_wf_eq (pc := 8) (n' := 11) (t := 22) (L := [zR 8, .inl a1, .inl a2, zN]) (st := []) (x := (hf_169 M a1 0 1000)) 0 hz (by rfl) (fun hb => ?_) (fun hb => ?_)
  · have hE := hE.trans (if_pos hb)
    exact zH_wr (r := some (.inl (-2))) 1 hz (by rfl) (hfinB hE)
  · have hE := hE.trans (if_neg hb)
    refine zH_wE (c1 := (19, [zR 8, .inl a1, .inl a2, zN], [])) 3 hz zp_169 (fh_169 a2 0 1000) (by rfl) ?_
    show zH n (0, 0) 162 (19, [zR 8, .inl a1, .inl a2, zN], [.inl (hf_169 M a2 0 1000)]) M _
    refine zH_wf_ne (pc := 19) (n' := 22) (t := 25) (L := [zR 8, .inl a1, .inl a2, zN]) (st := []) (x := (hf_169 M a2 0 1000)) 0 hz (by rfl) (fun hb => ?_) (fun hb => ?_)
    · have hE := hE.trans (if_pos hb)
      refine zH_wB (c1 := (35, [zR 8, .inl a1, .inl a2, zN], [])) 3 hz zp_103 (fh_103_24) (by rfl) ?_
      intro u1 N2 hu1 hN2
      show zH n (0, 0) 162 (35, [zR 8, .inl a1, .inl a2, zN], [.inl u1]) N2 _
      refine zH_w (c' := (39, [zR 8, .inl a1, .inl a2, .inl u1], [.inl (-4), .inl u1])) 3 hz rfl ?_
      subst hN2
      subst hu1
      refine zH_icmp_ne hz rfl (fun hb => ?_) (fun hb => ?_)
      · have hE := hE.trans (if_pos hb)
        refine zH_w (c' := (55, [zR 8, .inl a1, .inl a2, .inl ((hR_open M 24).1)], [.inl a1, .inl 0, .inl ((hR_open M 24).1), zR 24])) 6 hz rfl ?_
        refine zH_wW (c1 := (58, [zR 8, .inl a1, .inl a2, .inl ((hR_open M 24).1)], [])) 0 hz zp_107 (fh_107_24 ((hR_open M 24).1) 0 a1) (by rfl) ?_
        intro N3 hN3
        show zH n (0, 0) 162 (58, [zR 8, .inl a1, .inl a2, .inl ((hR_open M 24).1)], []) N3 _
        refine zH_wW (c1 := (71, [zR 8, .inl a1, .inl a2, .inl ((hR_open M 24).1)], [])) 6 hz zp_107 (fh_107_24 ((hR_open M 24).1) 1 a2) (by rfl) ?_
        intro N4 hN4
        show zH n (0, 0) 162 (71, [zR 8, .inl a1, .inl a2, .inl ((hR_open M 24).1)], []) N4 _
        refine zH_w (c' := (74, [zR 8, .inl a1, .inl a2, .inl ((hR_open M 24).1)], [.inl (w32 (((hR_open M 24).1) + 1))])) 3 hz rfl ?_
        subst hN4
        subst hN3
        exact zH_ret hz rfl rfl (hfinB hE)
      · have hE := hE.trans (if_neg hb)
        refine zH_w (c' := (44, [zR 8, .inl a1, .inl a2, .inl ((hR_open M 24).1)], [.inl (-4)])) 1 hz rfl ?_
        exact zH_wr (r := some (.inl (-4))) 0 hz (by rfl) (hfinB hE)
    · have hE := hE.trans (if_neg hb)
      exact zH_wr (r := some (.inl (-2))) 1 hz (by rfl) (hfinB hE)
noncomputable def hf_163_8 (M : zM) : Int × zM :=
  ((hR_size M 24), (hR_drop M 24))
set_option maxRecDepth 100000 in
theorem fh_163_8 {n : Nat} {M : zM} : zH n (0, 0) 163 (0, zini [zR 8] 2, []) M (fun r M' => r = some (.inl (hf_163_8 M).1) ∧ M' = (hf_163_8 M).2) := by
  have hz := zp_163
  have hE : hf_163_8 M = hf_163_8 M := rfl
  show zH n (0, 0) 163 (0, [zR 8, zN], []) M _
  refine zH_wE (c1 := (10, [zR 8, zN], [])) 3 hz zp_101 (fh_101_24) (by rfl) ?_
  show zH n (0, 0) 163 (10, [zR 8, zN], [.inl (hR_size M 24)]) M _
  refine zH_wW (c1 := (21, [zR 8, .inl (hR_size M 24)], [])) 4 hz zp_104 (fh_104_24) (by rfl) ?_
  intro N1 hN1
  show zH n (0, 0) 163 (21, [zR 8, .inl (hR_size M 24)], []) N1 _
  refine zH_w (c' := (22, [zR 8, .inl (hR_size M 24)], [.inl (hR_size M 24)])) 1 hz rfl ?_
  subst hN1
  exact zH_ret hz rfl rfl (hfinB hE)
noncomputable def hf_180 (M : zM) (a0 : Int) (a1 : Int) (a2 : Int) : Int :=
  (if a0 < a1 then 0 else (if a2 < a0 then 0 else 1))
set_option maxRecDepth 100000 in
theorem fh_180 {n : Nat} {M : zM} (a0 : Int) (a1 : Int) (a2 : Int) : zH n (0, 0) 180 (0, zini [.inl a0, .inl a1, .inl a2] 3, []) M (fun r M' => r = some (.inl (hf_180 M a0 a1 a2)) ∧ M' = M) := by
  have hz := zp_180
  have hE : hf_180 M a0 a1 a2 = hf_180 M a0 a1 a2 := rfl
  show zH n (0, 0) 180 (0, [.inl a0, .inl a1, .inl a2], []) M _
  refine zH_wi_lt (pc := 2) (n' := 5) (t := 14) (L := [.inl a0, .inl a1, .inl a2]) (st := []) (x := a0) (y := a1) 2 hz (by rfl) (fun hb => ?_) (fun hb => ?_)
  · have hE := hE.trans (if_pos hb)
    refine zH_w (c' := (15, [.inl a0, .inl a1, .inl a2], [.inl 0])) 1 hz rfl ?_
    exact zH_zret hz rfl (hfinP hE)
  · have hE := hE.trans (if_neg hb)
    refine zH_wi_gt (pc := 7) (n' := 10) (t := 14) (L := [.inl a0, .inl a1, .inl a2]) (st := []) (x := a0) (y := a2) 2 hz (by rfl) (fun hb => ?_) (fun hb => ?_)
    · have hE := hE.trans (if_pos hb)
      refine zH_w (c' := (15, [.inl a0, .inl a1, .inl a2], [.inl 0])) 1 hz rfl ?_
      exact zH_zret hz rfl (hfinP hE)
    · have hE := hE.trans (if_neg hb)
      refine zH_w (c' := (15, [.inl a0, .inl a1, .inl a2], [.inl 1])) 2 hz rfl ?_
      exact zH_zret hz rfl (hfinP hE)
noncomputable def hf_183_97 (M : zM) (a1 : Int) : Int × zM :=
  (w32 (((zput M 98 (a1 : Int).toNat (w32 ((M 98 (a1 : Int).toNat) + 1))) 98 (a1 : Int).toNat) - 1), zput M 98 (a1 : Int).toNat (w32 ((M 98 (a1 : Int).toNat) + 1)))
set_option maxRecDepth 100000 in
theorem fh_183_97 {n : Nat} {M : zM} (a1 : Int) : zH n (0, 0) 183 (0, zini [zR 97, .inl a1] 2, []) M (fun r M' => r = some (.inl (hf_183_97 M a1).1) ∧ M' = (hf_183_97 M a1).2) := by
  have hz := zp_183
  have hE : hf_183_97 M a1 = hf_183_97 M a1 := rfl
  show zH n (0, 0) 183 (0, [zR 97, .inl a1], []) M _
  refine zH_w (c' := (6, [zR 97, .inl a1], [.inl a1, zR 98, .inl a1, zR 98])) 4 hz rfl ?_
  refine zH_iald hz rfl rfl (.inl rfl) (fun _ => ?_)
  show zH n (0, 0) 183 (7, [zR 97, .inl a1], [.inl (M 98 (a1 : Int).toNat), .inl a1, zR 98]) M _
  refine zH_w (c' := (9, [zR 97, .inl a1], [.inl (w32 ((M 98 (a1 : Int).toNat) + 1)), .inl a1, zR 98])) 2 hz rfl ?_
  refine zH_iast hz rfl rfl (fun _ => ?_)
  show zH n (0, 0) 183 (10, [zR 97, .inl a1], []) (zput M 98 (a1 : Int).toNat (w32 ((M 98 (a1 : Int).toNat) + 1))) _
  refine zH_w (c' := (15, [zR 97, .inl a1], [.inl a1, zR 98])) 3 hz rfl ?_
  refine zH_iald hz rfl rfl (.inl rfl) (fun _ => ?_)
  show zH n (0, 0) 183 (16, [zR 97, .inl a1], [.inl ((zput M 98 (a1 : Int).toNat (w32 ((M 98 (a1 : Int).toNat) + 1))) 98 (a1 : Int).toNat)]) (zput M 98 (a1 : Int).toNat (w32 ((M 98 (a1 : Int).toNat) + 1))) _
  exact zH_wr (r := some (.inl (w32 (((zput M 98 (a1 : Int).toNat (w32 ((M 98 (a1 : Int).toNat) + 1))) 98 (a1 : Int).toNat) - 1)))) 2 hz (by rfl) (hfinB hE)
noncomputable def hf_187_97 (M : zM) (a1 : Int) (a2 : Int) (a3 : Int) (a4 : Int) : Int × zM :=
  (if (hf_180 M a1 1 60) = 0 then ((-2), M) else (if (hf_180 M a2 0 (w32 ((zbshl 1 (M 98 (0 : Int).toNat)) - 1))) = 0 then ((-2), M) else (if (hf_180 M a3 1 7) = 0 then ((-2), M) else (if ¬ (hf_180 M a4 0 100) = 0 then (if ¬ (M 98 (0 : Int).toNat) = 14 then (((hf_183_97 (zput (zput (zput (zput (zput M 98 (w32 (20 + (w32 (4 * (M 98 (0 : Int).toNat)))) : Int).toNat a1) 98 (w32 ((w32 (20 + (w32 (4 * (M 98 (0 : Int).toNat))))) + 1) : Int).toNat a2) 98 (w32 ((w32 (20 + (w32 (4 * (M 98 (0 : Int).toNat))))) + 2) : Int).toNat a3) 98 (w32 ((w32 (20 + (w32 (4 * (M 98 (0 : Int).toNat))))) + 3) : Int).toNat a4) 97 31 (-1)) 0).1), ((hf_183_97 (zput (zput (zput (zput (zput M 98 (w32 (20 + (w32 (4 * (M 98 (0 : Int).toNat)))) : Int).toNat a1) 98 (w32 ((w32 (20 + (w32 (4 * (M 98 (0 : Int).toNat))))) + 1) : Int).toNat a2) 98 (w32 ((w32 (20 + (w32 (4 * (M 98 (0 : Int).toNat))))) + 2) : Int).toNat a3) 98 (w32 ((w32 (20 + (w32 (4 * (M 98 (0 : Int).toNat))))) + 3) : Int).toNat a4) 97 31 (-1)) 0).2)) else ((-4), M)) else ((-2), M)))))
set_option maxRecDepth 100000 in
theorem fh_187_97 {n : Nat} {M : zM} (a1 : Int) (a2 : Int) (a3 : Int) (a4 : Int) : zH n (0, 0) 187 (0, zini [zR 97, .inl a1, .inl a2, .inl a3, .inl a4] 6, []) M (fun r M' => r = some (.inl (hf_187_97 M a1 a2 a3 a4).1) ∧ M' = (hf_187_97 M a1 a2 a3 a4).2) := by
  have hz := zp_187
  have hE : hf_187_97 M a1 a2 a3 a4 = hf_187_97 M a1 a2 a3 a4 := rfl
  show zH n (0, 0) 187 (0, [zR 97, .inl a1, .inl a2, .inl a3, .inl a4, zN], []) M _
  refine zH_wE (c1 := (7, [zR 97, .inl a1, .inl a2, .inl a3, .inl a4, zN], [])) 3 hz zp_180 (fh_180 a1 1 60) (by rfl) ?_
  show zH n (0, 0) 187 (7, [zR 97, .inl a1, .inl a2, .inl a3, .inl a4, zN], [.inl (hf_180 M a1 1 60)]) M _
  refine zH_wf_eq (pc := 7) (n' := 10) (t := 49) (L := [zR 97, .inl a1, .inl a2, .inl a3, .inl a4, zN]) (st := []) (x := (hf_180 M a1 1 60)) 0 hz (by rfl) (fun hb => ?_) (fun hb => ?_)
  · have hE := hE.trans (if_pos hb)
    exact zH_wr (r := some (.inl (-2))) 1 hz (by rfl) (hfinB hE)
  · have hE := hE.trans (if_neg hb)
    refine zH_w (c' := (18, [zR 97, .inl a1, .inl a2, .inl a3, .inl a4, zN], [.inl 0, zR 98, .inl 1, .inl 0, .inl a2])) 6 hz rfl ?_
    refine zH_iald hz rfl rfl (.inl rfl) (fun _ => ?_)
    show zH n (0, 0) 187 (19, [zR 97, .inl a1, .inl a2, .inl a3, .inl a4, zN], [.inl (M 98 (0 : Int).toNat), .inl 1, .inl 0, .inl a2]) M _
    refine zH_wE (c1 := (25, [zR 97, .inl a1, .inl a2, .inl a3, .inl a4, zN], [])) 3 hz zp_180 (fh_180 a2 0 (w32 ((zbshl 1 (M 98 (0 : Int).toNat)) - 1))) (by rfl) ?_
    show zH n (0, 0) 187 (25, [zR 97, .inl a1, .inl a2, .inl a3, .inl a4, zN], [.inl (hf_180 M a2 0 (w32 ((zbshl 1 (M 98 (0 : Int).toNat)) - 1)))]) M _
    refine zH_wf_eq (pc := 25) (n' := 28) (t := 49) (L := [zR 97, .inl a1, .inl a2, .inl a3, .inl a4, zN]) (st := []) (x := (hf_180 M a2 0 (w32 ((zbshl 1 (M 98 (0 : Int).toNat)) - 1)))) 0 hz (by rfl) (fun hb => ?_) (fun hb => ?_)
    · have hE := hE.trans (if_pos hb)
      exact zH_wr (r := some (.inl (-2))) 1 hz (by rfl) (hfinB hE)
    · have hE := hE.trans (if_neg hb)
      refine zH_wE (c1 := (35, [zR 97, .inl a1, .inl a2, .inl a3, .inl a4, zN], [])) 3 hz zp_180 (fh_180 a3 1 7) (by rfl) ?_
      show zH n (0, 0) 187 (35, [zR 97, .inl a1, .inl a2, .inl a3, .inl a4, zN], [.inl (hf_180 M a3 1 7)]) M _
      refine zH_wf_eq (pc := 35) (n' := 38) (t := 49) (L := [zR 97, .inl a1, .inl a2, .inl a3, .inl a4, zN]) (st := []) (x := (hf_180 M a3 1 7)) 0 hz (by rfl) (fun hb => ?_) (fun hb => ?_)
      · have hE := hE.trans (if_pos hb)
        exact zH_wr (r := some (.inl (-2))) 1 hz (by rfl) (hfinB hE)
      · have hE := hE.trans (if_neg hb)
        refine zH_wE (c1 := (46, [zR 97, .inl a1, .inl a2, .inl a3, .inl a4, zN], [])) 3 hz zp_180 (fh_180 a4 0 100) (by rfl) ?_
        show zH n (0, 0) 187 (46, [zR 97, .inl a1, .inl a2, .inl a3, .inl a4, zN], [.inl (hf_180 M a4 0 100)]) M _
        refine zH_wf_ne (pc := 46) (n' := 49) (t := 52) (L := [zR 97, .inl a1, .inl a2, .inl a3, .inl a4, zN]) (st := []) (x := (hf_180 M a4 0 100)) 0 hz (by rfl) (fun hb => ?_) (fun hb => ?_)
        · have hE := hE.trans (if_pos hb)
          refine zH_w (c' := (57, [zR 97, .inl a1, .inl a2, .inl a3, .inl a4, zN], [.inl 0, zR 98])) 3 hz rfl ?_
          refine zH_iald hz rfl rfl (.inl rfl) (fun _ => ?_)
          show zH n (0, 0) 187 (58, [zR 97, .inl a1, .inl a2, .inl a3, .inl a4, zN], [.inl (M 98 (0 : Int).toNat)]) M _
          refine zH_wi_ne (pc := 60) (n' := 63) (t := 66) (L := [zR 97, .inl a1, .inl a2, .inl a3, .inl a4, zN]) (st := []) (x := (M 98 (0 : Int).toNat)) (y := 14) 1 hz (by rfl) (fun hb => ?_) (fun hb => ?_)
          · have hE := hE.trans (if_pos hb)
            refine zH_w (c' := (74, [zR 97, .inl a1, .inl a2, .inl a3, .inl a4, zN], [.inl 0, zR 98, .inl 4, .inl 20])) 5 hz rfl ?_
            refine zH_iald hz rfl rfl (.inl rfl) (fun _ => ?_)
            show zH n (0, 0) 187 (75, [zR 97, .inl a1, .inl a2, .inl a3, .inl a4, zN], [.inl (M 98 (0 : Int).toNat), .inl 4, .inl 20]) M _
            refine zH_w (c' := (86, [zR 97, .inl a1, .inl a2, .inl a3, .inl a4, .inl (w32 (20 + (w32 (4 * (M 98 (0 : Int).toNat)))))], [.inl a1, .inl (w32 (20 + (w32 (4 * (M 98 (0 : Int).toNat))))), zR 98])) 7 hz rfl ?_
            refine zH_iast hz rfl rfl (fun _ => ?_)
            show zH n (0, 0) 187 (87, [zR 97, .inl a1, .inl a2, .inl a3, .inl a4, .inl (w32 (20 + (w32 (4 * (M 98 (0 : Int).toNat)))))], []) (zput M 98 (w32 (20 + (w32 (4 * (M 98 (0 : Int).toNat)))) : Int).toNat a1) _
            refine zH_w (c' := (96, [zR 97, .inl a1, .inl a2, .inl a3, .inl a4, .inl (w32 (20 + (w32 (4 * (M 98 (0 : Int).toNat)))))], [.inl a2, .inl (w32 ((w32 (20 + (w32 (4 * (M 98 (0 : Int).toNat))))) + 1)), zR 98])) 6 hz rfl ?_
            refine zH_iast hz rfl rfl (fun _ => ?_)
            show zH n (0, 0) 187 (97, [zR 97, .inl a1, .inl a2, .inl a3, .inl a4, .inl (w32 (20 + (w32 (4 * (M 98 (0 : Int).toNat)))))], []) (zput (zput M 98 (w32 (20 + (w32 (4 * (M 98 (0 : Int).toNat)))) : Int).toNat a1) 98 (w32 ((w32 (20 + (w32 (4 * (M 98 (0 : Int).toNat))))) + 1) : Int).toNat a2) _
            refine zH_w (c' := (106, [zR 97, .inl a1, .inl a2, .inl a3, .inl a4, .inl (w32 (20 + (w32 (4 * (M 98 (0 : Int).toNat)))))], [.inl a3, .inl (w32 ((w32 (20 + (w32 (4 * (M 98 (0 : Int).toNat))))) + 2)), zR 98])) 6 hz rfl ?_
            refine zH_iast hz rfl rfl (fun _ => ?_)
            show zH n (0, 0) 187 (107, [zR 97, .inl a1, .inl a2, .inl a3, .inl a4, .inl (w32 (20 + (w32 (4 * (M 98 (0 : Int).toNat)))))], []) (zput (zput (zput M 98 (w32 (20 + (w32 (4 * (M 98 (0 : Int).toNat)))) : Int).toNat a1) 98 (w32 ((w32 (20 + (w32 (4 * (M 98 (0 : Int).toNat))))) + 1) : Int).toNat a2) 98 (w32 ((w32 (20 + (w32 (4 * (M 98 (0 : Int).toNat))))) + 2) : Int).toNat a3) _
            refine zH_w (c' := (117, [zR 97, .inl a1, .inl a2, .inl a3, .inl a4, .inl (w32 (20 + (w32 (4 * (M 98 (0 : Int).toNat)))))], [.inl a4, .inl (w32 ((w32 (20 + (w32 (4 * (M 98 (0 : Int).toNat))))) + 3)), zR 98])) 6 hz rfl ?_
            refine zH_iast hz rfl rfl (fun _ => ?_)
            show zH n (0, 0) 187 (118, [zR 97, .inl a1, .inl a2, .inl a3, .inl a4, .inl (w32 (20 + (w32 (4 * (M 98 (0 : Int).toNat)))))], []) (zput (zput (zput (zput M 98 (w32 (20 + (w32 (4 * (M 98 (0 : Int).toNat)))) : Int).toNat a1) 98 (w32 ((w32 (20 + (w32 (4 * (M 98 (0 : Int).toNat))))) + 1) : Int).toNat a2) 98 (w32 ((w32 (20 + (w32 (4 * (M 98 (0 : Int).toNat))))) + 2) : Int).toNat a3) 98 (w32 ((w32 (20 + (w32 (4 * (M 98 (0 : Int).toNat))))) + 3) : Int).toNat a4) _
            refine zH_w (c' := (125, [zR 97, .inl a1, .inl a2, .inl a3, .inl a4, .inl (w32 (20 + (w32 (4 * (M 98 (0 : Int).toNat)))))], [.inl 0, zR 97])) 5 hz rfl ?_
            refine zH_wB (c1 := (128, [zR 97, .inl a1, .inl a2, .inl a3, .inl a4, .inl (w32 (20 + (w32 (4 * (M 98 (0 : Int).toNat)))))], [])) 0 hz zp_183 (fh_183_97 0) (by rfl) ?_
            intro u1 N2 hu1 hN2
            show zH n (0, 0) 187 (128, [zR 97, .inl a1, .inl a2, .inl a3, .inl a4, .inl (w32 (20 + (w32 (4 * (M 98 (0 : Int).toNat)))))], [.inl u1]) N2 _
            subst hN2
            subst hu1
            exact zH_ret hz rfl rfl (hfinB hE)
          · have hE := hE.trans (if_neg hb)
            exact zH_wr (r := some (.inl (-4))) 1 hz (by rfl) (hfinB hE)
        · have hE := hE.trans (if_neg hb)
          exact zH_wr (r := some (.inl (-2))) 1 hz (by rfl) (hfinB hE)
noncomputable def hf_184 (M : zM) (a0 : Int) : Int :=
  (hf_180 M a0 0 9999)
set_option maxRecDepth 100000 in
theorem fh_184 {n : Nat} {M : zM} (a0 : Int) : zH n (0, 0) 184 (0, zini [.inl a0] 1, []) M (fun r M' => r = some (.inl (hf_184 M a0)) ∧ M' = M) := by
  have hz := zp_184
  have hE : hf_184 M a0 = hf_184 M a0 := rfl
  show zH n (0, 0) 184 (0, [.inl a0], []) M _
  refine zH_wE (c1 := (8, [.inl a0], [])) 3 hz zp_180 (fh_180 a0 0 9999) (by rfl) ?_
  show zH n (0, 0) 184 (8, [.inl a0], [.inl (hf_180 M a0 0 9999)]) M _
  exact zH_zret hz rfl (hfinP hE)
noncomputable def hf_188_97 (M : zM) (a1 : Int) : Int × zM :=
  (if ¬ (hf_184 M a1) = 0 then (if ¬ (M 98 (1 : Int).toNat) = 20 then (((hf_183_97 (zput (zput (zput M 98 (w32 (80 + (w32 (3 * (M 98 (1 : Int).toNat)))) : Int).toNat a1) 98 (w32 ((w32 (80 + (w32 (3 * (M 98 (1 : Int).toNat))))) + 1) : Int).toNat (-1)) 98 (w32 ((w32 (80 + (w32 (3 * (M 98 (1 : Int).toNat))))) + 2) : Int).toNat 0) 1).1), ((hf_183_97 (zput (zput (zput M 98 (w32 (80 + (w32 (3 * (M 98 (1 : Int).toNat)))) : Int).toNat a1) 98 (w32 ((w32 (80 + (w32 (3 * (M 98 (1 : Int).toNat))))) + 1) : Int).toNat (-1)) 98 (w32 ((w32 (80 + (w32 (3 * (M 98 (1 : Int).toNat))))) + 2) : Int).toNat 0) 1).2)) else ((-4), M)) else ((-2), M))
set_option maxRecDepth 100000 in
theorem fh_188_97 {n : Nat} {M : zM} (a1 : Int) : zH n (0, 0) 188 (0, zini [zR 97, .inl a1] 3, []) M (fun r M' => r = some (.inl (hf_188_97 M a1).1) ∧ M' = (hf_188_97 M a1).2) := by
  have hz := zp_188
  have hE : hf_188_97 M a1 = hf_188_97 M a1 := rfl
  show zH n (0, 0) 188 (0, [zR 97, .inl a1, zN], []) M _
  refine zH_wE (c1 := (4, [zR 97, .inl a1, zN], [])) 1 hz zp_184 (fh_184 a1) (by rfl) ?_
  show zH n (0, 0) 188 (4, [zR 97, .inl a1, zN], [.inl (hf_184 M a1)]) M _
  refine zH_wf_ne (pc := 4) (n' := 7) (t := 10) (L := [zR 97, .inl a1, zN]) (st := []) (x := (hf_184 M a1)) 0 hz (by rfl) (fun hb => ?_) (fun hb => ?_)
  · have hE := hE.trans (if_pos hb)
    refine zH_w (c' := (15, [zR 97, .inl a1, zN], [.inl 1, zR 98])) 3 hz rfl ?_
    refine zH_iald hz rfl rfl (.inl rfl) (fun _ => ?_)
    show zH n (0, 0) 188 (16, [zR 97, .inl a1, zN], [.inl (M 98 (1 : Int).toNat)]) M _
    refine zH_wi_ne (pc := 18) (n' := 21) (t := 24) (L := [zR 97, .inl a1, zN]) (st := []) (x := (M 98 (1 : Int).toNat)) (y := 20) 1 hz (by rfl) (fun hb => ?_) (fun hb => ?_)
    · have hE := hE.trans (if_pos hb)
      refine zH_w (c' := (32, [zR 97, .inl a1, zN], [.inl 1, zR 98, .inl 3, .inl 80])) 5 hz rfl ?_
      refine zH_iald hz rfl rfl (.inl rfl) (fun _ => ?_)
      show zH n (0, 0) 188 (33, [zR 97, .inl a1, zN], [.inl (M 98 (1 : Int).toNat), .inl 3, .inl 80]) M _
      refine zH_w (c' := (42, [zR 97, .inl a1, .inl (w32 (80 + (w32 (3 * (M 98 (1 : Int).toNat)))))], [.inl a1, .inl (w32 (80 + (w32 (3 * (M 98 (1 : Int).toNat))))), zR 98])) 7 hz rfl ?_
      refine zH_iast hz rfl rfl (fun _ => ?_)
      show zH n (0, 0) 188 (43, [zR 97, .inl a1, .inl (w32 (80 + (w32 (3 * (M 98 (1 : Int).toNat)))))], []) (zput M 98 (w32 (80 + (w32 (3 * (M 98 (1 : Int).toNat)))) : Int).toNat a1) _
      refine zH_w (c' := (51, [zR 97, .inl a1, .inl (w32 (80 + (w32 (3 * (M 98 (1 : Int).toNat)))))], [.inl (-1), .inl (w32 ((w32 (80 + (w32 (3 * (M 98 (1 : Int).toNat))))) + 1)), zR 98])) 6 hz rfl ?_
      refine zH_iast hz rfl rfl (fun _ => ?_)
      show zH n (0, 0) 188 (52, [zR 97, .inl a1, .inl (w32 (80 + (w32 (3 * (M 98 (1 : Int).toNat)))))], []) (zput (zput M 98 (w32 (80 + (w32 (3 * (M 98 (1 : Int).toNat)))) : Int).toNat a1) 98 (w32 ((w32 (80 + (w32 (3 * (M 98 (1 : Int).toNat))))) + 1) : Int).toNat (-1)) _
      refine zH_w (c' := (60, [zR 97, .inl a1, .inl (w32 (80 + (w32 (3 * (M 98 (1 : Int).toNat)))))], [.inl 0, .inl (w32 ((w32 (80 + (w32 (3 * (M 98 (1 : Int).toNat))))) + 2)), zR 98])) 6 hz rfl ?_
      refine zH_iast hz rfl rfl (fun _ => ?_)
      show zH n (0, 0) 188 (61, [zR 97, .inl a1, .inl (w32 (80 + (w32 (3 * (M 98 (1 : Int).toNat)))))], []) (zput (zput (zput M 98 (w32 (80 + (w32 (3 * (M 98 (1 : Int).toNat)))) : Int).toNat a1) 98 (w32 ((w32 (80 + (w32 (3 * (M 98 (1 : Int).toNat))))) + 1) : Int).toNat (-1)) 98 (w32 ((w32 (80 + (w32 (3 * (M 98 (1 : Int).toNat))))) + 2) : Int).toNat 0) _
      refine zH_wB (c1 := (66, [zR 97, .inl a1, .inl (w32 (80 + (w32 (3 * (M 98 (1 : Int).toNat)))))], [])) 2 hz zp_183 (fh_183_97 1) (by rfl) ?_
      intro u1 N2 hu1 hN2
      show zH n (0, 0) 188 (66, [zR 97, .inl a1, .inl (w32 (80 + (w32 (3 * (M 98 (1 : Int).toNat)))))], [.inl u1]) N2 _
      subst hN2
      subst hu1
      exact zH_ret hz rfl rfl (hfinB hE)
    · have hE := hE.trans (if_neg hb)
      exact zH_wr (r := some (.inl (-4))) 1 hz (by rfl) (hfinB hE)
  · have hE := hE.trans (if_neg hb)
    exact zH_wr (r := some (.inl (-2))) 1 hz (by rfl) (hfinB hE)
noncomputable def hf_189_97 (M : zM) (a1 : Int) (a2 : Int) : Int × zM :=
  (if (hf_180 M a1 1 1023) = 0 then ((-2), M) else (if ¬ (hf_180 M a2 1 10) = 0 then (if ¬ (M 98 (2 : Int).toNat) = 4 then (((hf_183_97 (zput (zput M 98 (w32 (140 + (w32 (2 * (M 98 (2 : Int).toNat)))) : Int).toNat a1) 98 (w32 ((w32 (140 + (w32 (2 * ((zput M 98 (w32 (140 + (w32 (2 * (M 98 (2 : Int).toNat)))) : Int).toNat a1) 98 (2 : Int).toNat))))) + 1) : Int).toNat a2) 2).1), ((hf_183_97 (zput (zput M 98 (w32 (140 + (w32 (2 * (M 98 (2 : Int).toNat)))) : Int).toNat a1) 98 (w32 ((w32 (140 + (w32 (2 * ((zput M 98 (w32 (140 + (w32 (2 * (M 98 (2 : Int).toNat)))) : Int).toNat a1) 98 (2 : Int).toNat))))) + 1) : Int).toNat a2) 2).2)) else ((-4), M)) else ((-2), M)))
set_option maxRecDepth 100000 in
theorem fh_189_97 {n : Nat} {M : zM} (a1 : Int) (a2 : Int) : zH n (0, 0) 189 (0, zini [zR 97, .inl a1, .inl a2] 3, []) M (fun r M' => r = some (.inl (hf_189_97 M a1 a2).1) ∧ M' = (hf_189_97 M a1 a2).2) := by
  have hz := zp_189
  have hE : hf_189_97 M a1 a2 = hf_189_97 M a1 a2 := rfl
  show zH n (0, 0) 189 (0, [zR 97, .inl a1, .inl a2], []) M _
  refine zH_wE (c1 := (8, [zR 97, .inl a1, .inl a2], [])) 3 hz zp_180 (fh_180 a1 1 1023) (by rfl) ?_
  show zH n (0, 0) 189 (8, [zR 97, .inl a1, .inl a2], [.inl (hf_180 M a1 1 1023)]) M _
  refine zH_wf_eq (pc := 8) (n' := 11) (t := 21) (L := [zR 97, .inl a1, .inl a2]) (st := []) (x := (hf_180 M a1 1 1023)) 0 hz (by rfl) (fun hb => ?_) (fun hb => ?_)
  · have hE := hE.trans (if_pos hb)
    exact zH_wr (r := some (.inl (-2))) 1 hz (by rfl) (hfinB hE)
  · have hE := hE.trans (if_neg hb)
    refine zH_wE (c1 := (18, [zR 97, .inl a1, .inl a2], [])) 3 hz zp_180 (fh_180 a2 1 10) (by rfl) ?_
    show zH n (0, 0) 189 (18, [zR 97, .inl a1, .inl a2], [.inl (hf_180 M a2 1 10)]) M _
    refine zH_wf_ne (pc := 18) (n' := 21) (t := 24) (L := [zR 97, .inl a1, .inl a2]) (st := []) (x := (hf_180 M a2 1 10)) 0 hz (by rfl) (fun hb => ?_) (fun hb => ?_)
    · have hE := hE.trans (if_pos hb)
      refine zH_w (c' := (29, [zR 97, .inl a1, .inl a2], [.inl 2, zR 98])) 3 hz rfl ?_
      refine zH_iald hz rfl rfl (.inl rfl) (fun _ => ?_)
      show zH n (0, 0) 189 (30, [zR 97, .inl a1, .inl a2], [.inl (M 98 (2 : Int).toNat)]) M _
      refine zH_wi_ne (pc := 31) (n' := 34) (t := 37) (L := [zR 97, .inl a1, .inl a2]) (st := []) (x := (M 98 (2 : Int).toNat)) (y := 4) 1 hz (by rfl) (fun hb => ?_) (fun hb => ?_)
      · have hE := hE.trans (if_pos hb)
        refine zH_w (c' := (50, [zR 97, .inl a1, .inl a2], [.inl 2, zR 98, .inl 2, .inl 140, zR 98])) 7 hz rfl ?_
        refine zH_iald hz rfl rfl (.inl rfl) (fun _ => ?_)
        show zH n (0, 0) 189 (51, [zR 97, .inl a1, .inl a2], [.inl (M 98 (2 : Int).toNat), .inl 2, .inl 140, zR 98]) M _
        refine zH_w (c' := (54, [zR 97, .inl a1, .inl a2], [.inl a1, .inl (w32 (140 + (w32 (2 * (M 98 (2 : Int).toNat))))), zR 98])) 3 hz rfl ?_
        refine zH_iast hz rfl rfl (fun _ => ?_)
        show zH n (0, 0) 189 (55, [zR 97, .inl a1, .inl a2], []) (zput M 98 (w32 (140 + (w32 (2 * (M 98 (2 : Int).toNat)))) : Int).toNat a1) _
        refine zH_w (c' := (68, [zR 97, .inl a1, .inl a2], [.inl 2, zR 98, .inl 2, .inl 140, zR 98])) 7 hz rfl ?_
        refine zH_iald hz rfl rfl (.inl rfl) (fun _ => ?_)
        show zH n (0, 0) 189 (69, [zR 97, .inl a1, .inl a2], [.inl ((zput M 98 (w32 (140 + (w32 (2 * (M 98 (2 : Int).toNat)))) : Int).toNat a1) 98 (2 : Int).toNat), .inl 2, .inl 140, zR 98]) (zput M 98 (w32 (140 + (w32 (2 * (M 98 (2 : Int).toNat)))) : Int).toNat a1) _
        refine zH_w (c' := (74, [zR 97, .inl a1, .inl a2], [.inl a2, .inl (w32 ((w32 (140 + (w32 (2 * ((zput M 98 (w32 (140 + (w32 (2 * (M 98 (2 : Int).toNat)))) : Int).toNat a1) 98 (2 : Int).toNat))))) + 1)), zR 98])) 5 hz rfl ?_
        refine zH_iast hz rfl rfl (fun _ => ?_)
        show zH n (0, 0) 189 (75, [zR 97, .inl a1, .inl a2], []) (zput (zput M 98 (w32 (140 + (w32 (2 * (M 98 (2 : Int).toNat)))) : Int).toNat a1) 98 (w32 ((w32 (140 + (w32 (2 * ((zput M 98 (w32 (140 + (w32 (2 * (M 98 (2 : Int).toNat)))) : Int).toNat a1) 98 (2 : Int).toNat))))) + 1) : Int).toNat a2) _
        refine zH_wB (c1 := (80, [zR 97, .inl a1, .inl a2], [])) 2 hz zp_183 (fh_183_97 2) (by rfl) ?_
        intro u1 N2 hu1 hN2
        show zH n (0, 0) 189 (80, [zR 97, .inl a1, .inl a2], [.inl u1]) N2 _
        subst hN2
        subst hu1
        exact zH_ret hz rfl rfl (hfinB hE)
      · have hE := hE.trans (if_neg hb)
        exact zH_wr (r := some (.inl (-4))) 1 hz (by rfl) (hfinB hE)
    · have hE := hE.trans (if_neg hb)
      exact zH_wr (r := some (.inl (-2))) 1 hz (by rfl) (hfinB hE)
noncomputable def hf_182_97 (M : zM) (a1 : Int) (a2 : Int) : Int :=
  (hf_180 M a2 0 (w32 ((M 98 (a1 : Int).toNat) - 1)))
set_option maxRecDepth 100000 in
theorem fh_182_97 {n : Nat} {M : zM} (a1 : Int) (a2 : Int) : zH n (0, 0) 182 (0, zini [zR 97, .inl a1, .inl a2] 3, []) M (fun r M' => r = some (.inl (hf_182_97 M a1 a2)) ∧ M' = M) := by
  have hz := zp_182
  have hE : hf_182_97 M a1 a2 = hf_182_97 M a1 a2 := rfl
  show zH n (0, 0) 182 (0, [zR 97, .inl a1, .inl a2], []) M _
  refine zH_w (c' := (7, [zR 97, .inl a1, .inl a2], [.inl a1, zR 98, .inl 0, .inl a2])) 5 hz rfl ?_
  refine zH_iald hz rfl rfl (.inl rfl) (fun _ => ?_)
  show zH n (0, 0) 182 (8, [zR 97, .inl a1, .inl a2], [.inl (M 98 (a1 : Int).toNat), .inl 0, .inl a2]) M _
  refine zH_wE (c1 := (13, [zR 97, .inl a1, .inl a2], [])) 2 hz zp_180 (fh_180 a2 0 (w32 ((M 98 (a1 : Int).toNat) - 1))) (by rfl) ?_
  show zH n (0, 0) 182 (13, [zR 97, .inl a1, .inl a2], [.inl (hf_180 M a2 0 (w32 ((M 98 (a1 : Int).toNat) - 1)))]) M _
  exact zH_zret hz rfl (hfinP hE)
noncomputable def hf_190_97 (M : zM) (a1 : Int) (a2 : Int) (a3 : Int) (a4 : Int) : Int × zM :=
  (if (hf_182_97 M 2 a1) = 0 then ((-2), M) else (if (hf_184 M a2) = 0 then ((-2), M) else (if (hf_180 M a3 0 1023) = 0 then ((-2), M) else (if ¬ (hf_180 M a4 0 1023) = 0 then (if ¬ (M 98 (3 : Int).toNat) = 40 then (((hf_183_97 (zput (zput (zput (zput (zput M 98 (w32 (150 + (w32 (5 * (M 98 (3 : Int).toNat)))) : Int).toNat a1) 98 (w32 ((w32 (150 + (w32 (5 * (M 98 (3 : Int).toNat))))) + 1) : Int).toNat a2) 98 (w32 ((w32 (150 + (w32 (5 * (M 98 (3 : Int).toNat))))) + 2) : Int).toNat a3) 98 (w32 ((w32 (150 + (w32 (5 * (M 98 (3 : Int).toNat))))) + 3) : Int).toNat a4) 98 (w32 ((w32 (150 + (w32 (5 * (M 98 (3 : Int).toNat))))) + 4) : Int).toNat 0) 3).1), ((hf_183_97 (zput (zput (zput (zput (zput M 98 (w32 (150 + (w32 (5 * (M 98 (3 : Int).toNat)))) : Int).toNat a1) 98 (w32 ((w32 (150 + (w32 (5 * (M 98 (3 : Int).toNat))))) + 1) : Int).toNat a2) 98 (w32 ((w32 (150 + (w32 (5 * (M 98 (3 : Int).toNat))))) + 2) : Int).toNat a3) 98 (w32 ((w32 (150 + (w32 (5 * (M 98 (3 : Int).toNat))))) + 3) : Int).toNat a4) 98 (w32 ((w32 (150 + (w32 (5 * (M 98 (3 : Int).toNat))))) + 4) : Int).toNat 0) 3).2)) else ((-4), M)) else ((-2), M)))))
set_option maxRecDepth 100000 in
theorem fh_190_97 {n : Nat} {M : zM} (a1 : Int) (a2 : Int) (a3 : Int) (a4 : Int) : zH n (0, 0) 190 (0, zini [zR 97, .inl a1, .inl a2, .inl a3, .inl a4] 6, []) M (fun r M' => r = some (.inl (hf_190_97 M a1 a2 a3 a4).1) ∧ M' = (hf_190_97 M a1 a2 a3 a4).2) := by
  have hz := zp_190
  have hE : hf_190_97 M a1 a2 a3 a4 = hf_190_97 M a1 a2 a3 a4 := rfl
  show zH n (0, 0) 190 (0, [zR 97, .inl a1, .inl a2, .inl a3, .inl a4, zN], []) M _
  refine zH_wE (c1 := (6, [zR 97, .inl a1, .inl a2, .inl a3, .inl a4, zN], [])) 3 hz zp_182 (fh_182_97 2 a1) (by rfl) ?_
  show zH n (0, 0) 190 (6, [zR 97, .inl a1, .inl a2, .inl a3, .inl a4, zN], [.inl (hf_182_97 M 2 a1)]) M _
  refine zH_wf_eq (pc := 6) (n' := 9) (t := 39) (L := [zR 97, .inl a1, .inl a2, .inl a3, .inl a4, zN]) (st := []) (x := (hf_182_97 M 2 a1)) 0 hz (by rfl) (fun hb => ?_) (fun hb => ?_)
  · have hE := hE.trans (if_pos hb)
    exact zH_wr (r := some (.inl (-2))) 1 hz (by rfl) (hfinB hE)
  · have hE := hE.trans (if_neg hb)
    refine zH_wE (c1 := (13, [zR 97, .inl a1, .inl a2, .inl a3, .inl a4, zN], [])) 1 hz zp_184 (fh_184 a2) (by rfl) ?_
    show zH n (0, 0) 190 (13, [zR 97, .inl a1, .inl a2, .inl a3, .inl a4, zN], [.inl (hf_184 M a2)]) M _
    refine zH_wf_eq (pc := 13) (n' := 16) (t := 39) (L := [zR 97, .inl a1, .inl a2, .inl a3, .inl a4, zN]) (st := []) (x := (hf_184 M a2)) 0 hz (by rfl) (fun hb => ?_) (fun hb => ?_)
    · have hE := hE.trans (if_pos hb)
      exact zH_wr (r := some (.inl (-2))) 1 hz (by rfl) (hfinB hE)
    · have hE := hE.trans (if_neg hb)
      refine zH_wE (c1 := (24, [zR 97, .inl a1, .inl a2, .inl a3, .inl a4, zN], [])) 3 hz zp_180 (fh_180 a3 0 1023) (by rfl) ?_
      show zH n (0, 0) 190 (24, [zR 97, .inl a1, .inl a2, .inl a3, .inl a4, zN], [.inl (hf_180 M a3 0 1023)]) M _
      refine zH_wf_eq (pc := 24) (n' := 27) (t := 39) (L := [zR 97, .inl a1, .inl a2, .inl a3, .inl a4, zN]) (st := []) (x := (hf_180 M a3 0 1023)) 0 hz (by rfl) (fun hb => ?_) (fun hb => ?_)
      · have hE := hE.trans (if_pos hb)
        exact zH_wr (r := some (.inl (-2))) 1 hz (by rfl) (hfinB hE)
      · have hE := hE.trans (if_neg hb)
        refine zH_wE (c1 := (36, [zR 97, .inl a1, .inl a2, .inl a3, .inl a4, zN], [])) 3 hz zp_180 (fh_180 a4 0 1023) (by rfl) ?_
        show zH n (0, 0) 190 (36, [zR 97, .inl a1, .inl a2, .inl a3, .inl a4, zN], [.inl (hf_180 M a4 0 1023)]) M _
        refine zH_wf_ne (pc := 36) (n' := 39) (t := 42) (L := [zR 97, .inl a1, .inl a2, .inl a3, .inl a4, zN]) (st := []) (x := (hf_180 M a4 0 1023)) 0 hz (by rfl) (fun hb => ?_) (fun hb => ?_)
        · have hE := hE.trans (if_pos hb)
          refine zH_w (c' := (47, [zR 97, .inl a1, .inl a2, .inl a3, .inl a4, zN], [.inl 3, zR 98])) 3 hz rfl ?_
          refine zH_iald hz rfl rfl (.inl rfl) (fun _ => ?_)
          show zH n (0, 0) 190 (48, [zR 97, .inl a1, .inl a2, .inl a3, .inl a4, zN], [.inl (M 98 (3 : Int).toNat)]) M _
          refine zH_wi_ne (pc := 50) (n' := 53) (t := 56) (L := [zR 97, .inl a1, .inl a2, .inl a3, .inl a4, zN]) (st := []) (x := (M 98 (3 : Int).toNat)) (y := 40) 1 hz (by rfl) (fun hb => ?_) (fun hb => ?_)
          · have hE := hE.trans (if_pos hb)
            refine zH_w (c' := (65, [zR 97, .inl a1, .inl a2, .inl a3, .inl a4, zN], [.inl 3, zR 98, .inl 5, .inl 150])) 5 hz rfl ?_
            refine zH_iald hz rfl rfl (.inl rfl) (fun _ => ?_)
            show zH n (0, 0) 190 (66, [zR 97, .inl a1, .inl a2, .inl a3, .inl a4, zN], [.inl (M 98 (3 : Int).toNat), .inl 5, .inl 150]) M _
            refine zH_w (c' := (77, [zR 97, .inl a1, .inl a2, .inl a3, .inl a4, .inl (w32 (150 + (w32 (5 * (M 98 (3 : Int).toNat)))))], [.inl a1, .inl (w32 (150 + (w32 (5 * (M 98 (3 : Int).toNat))))), zR 98])) 7 hz rfl ?_
            refine zH_iast hz rfl rfl (fun _ => ?_)
            show zH n (0, 0) 190 (78, [zR 97, .inl a1, .inl a2, .inl a3, .inl a4, .inl (w32 (150 + (w32 (5 * (M 98 (3 : Int).toNat)))))], []) (zput M 98 (w32 (150 + (w32 (5 * (M 98 (3 : Int).toNat)))) : Int).toNat a1) _
            refine zH_w (c' := (87, [zR 97, .inl a1, .inl a2, .inl a3, .inl a4, .inl (w32 (150 + (w32 (5 * (M 98 (3 : Int).toNat)))))], [.inl a2, .inl (w32 ((w32 (150 + (w32 (5 * (M 98 (3 : Int).toNat))))) + 1)), zR 98])) 6 hz rfl ?_
            refine zH_iast hz rfl rfl (fun _ => ?_)
            show zH n (0, 0) 190 (88, [zR 97, .inl a1, .inl a2, .inl a3, .inl a4, .inl (w32 (150 + (w32 (5 * (M 98 (3 : Int).toNat)))))], []) (zput (zput M 98 (w32 (150 + (w32 (5 * (M 98 (3 : Int).toNat)))) : Int).toNat a1) 98 (w32 ((w32 (150 + (w32 (5 * (M 98 (3 : Int).toNat))))) + 1) : Int).toNat a2) _
            refine zH_w (c' := (97, [zR 97, .inl a1, .inl a2, .inl a3, .inl a4, .inl (w32 (150 + (w32 (5 * (M 98 (3 : Int).toNat)))))], [.inl a3, .inl (w32 ((w32 (150 + (w32 (5 * (M 98 (3 : Int).toNat))))) + 2)), zR 98])) 6 hz rfl ?_
            refine zH_iast hz rfl rfl (fun _ => ?_)
            show zH n (0, 0) 190 (98, [zR 97, .inl a1, .inl a2, .inl a3, .inl a4, .inl (w32 (150 + (w32 (5 * (M 98 (3 : Int).toNat)))))], []) (zput (zput (zput M 98 (w32 (150 + (w32 (5 * (M 98 (3 : Int).toNat)))) : Int).toNat a1) 98 (w32 ((w32 (150 + (w32 (5 * (M 98 (3 : Int).toNat))))) + 1) : Int).toNat a2) 98 (w32 ((w32 (150 + (w32 (5 * (M 98 (3 : Int).toNat))))) + 2) : Int).toNat a3) _
            refine zH_w (c' := (108, [zR 97, .inl a1, .inl a2, .inl a3, .inl a4, .inl (w32 (150 + (w32 (5 * (M 98 (3 : Int).toNat)))))], [.inl a4, .inl (w32 ((w32 (150 + (w32 (5 * (M 98 (3 : Int).toNat))))) + 3)), zR 98])) 6 hz rfl ?_
            refine zH_iast hz rfl rfl (fun _ => ?_)
            show zH n (0, 0) 190 (109, [zR 97, .inl a1, .inl a2, .inl a3, .inl a4, .inl (w32 (150 + (w32 (5 * (M 98 (3 : Int).toNat)))))], []) (zput (zput (zput (zput M 98 (w32 (150 + (w32 (5 * (M 98 (3 : Int).toNat)))) : Int).toNat a1) 98 (w32 ((w32 (150 + (w32 (5 * (M 98 (3 : Int).toNat))))) + 1) : Int).toNat a2) 98 (w32 ((w32 (150 + (w32 (5 * (M 98 (3 : Int).toNat))))) + 2) : Int).toNat a3) 98 (w32 ((w32 (150 + (w32 (5 * (M 98 (3 : Int).toNat))))) + 3) : Int).toNat a4) _
            refine zH_w (c' := (118, [zR 97, .inl a1, .inl a2, .inl a3, .inl a4, .inl (w32 (150 + (w32 (5 * (M 98 (3 : Int).toNat)))))], [.inl 0, .inl (w32 ((w32 (150 + (w32 (5 * (M 98 (3 : Int).toNat))))) + 4)), zR 98])) 6 hz rfl ?_
            refine zH_iast hz rfl rfl (fun _ => ?_)
            show zH n (0, 0) 190 (119, [zR 97, .inl a1, .inl a2, .inl a3, .inl a4, .inl (w32 (150 + (w32 (5 * (M 98 (3 : Int).toNat)))))], []) (zput (zput (zput (zput (zput M 98 (w32 (150 + (w32 (5 * (M 98 (3 : Int).toNat)))) : Int).toNat a1) 98 (w32 ((w32 (150 + (w32 (5 * (M 98 (3 : Int).toNat))))) + 1) : Int).toNat a2) 98 (w32 ((w32 (150 + (w32 (5 * (M 98 (3 : Int).toNat))))) + 2) : Int).toNat a3) 98 (w32 ((w32 (150 + (w32 (5 * (M 98 (3 : Int).toNat))))) + 3) : Int).toNat a4) 98 (w32 ((w32 (150 + (w32 (5 * (M 98 (3 : Int).toNat))))) + 4) : Int).toNat 0) _
            refine zH_wB (c1 := (124, [zR 97, .inl a1, .inl a2, .inl a3, .inl a4, .inl (w32 (150 + (w32 (5 * (M 98 (3 : Int).toNat)))))], [])) 2 hz zp_183 (fh_183_97 3) (by rfl) ?_
            intro u1 N2 hu1 hN2
            show zH n (0, 0) 190 (124, [zR 97, .inl a1, .inl a2, .inl a3, .inl a4, .inl (w32 (150 + (w32 (5 * (M 98 (3 : Int).toNat)))))], [.inl u1]) N2 _
            subst hN2
            subst hu1
            exact zH_ret hz rfl rfl (hfinB hE)
          · have hE := hE.trans (if_neg hb)
            exact zH_wr (r := some (.inl (-4))) 1 hz (by rfl) (hfinB hE)
        · have hE := hE.trans (if_neg hb)
          exact zH_wr (r := some (.inl (-2))) 1 hz (by rfl) (hfinB hE)
noncomputable def hf_191_97 (M : zM) (a1 : Int) (a2 : Int) : Int × zM :=
  (if ¬ (hf_182_97 M 3 a1) = 0 then (if ¬ (M 98 (w32 ((w32 (150 + (w32 (5 * a1)))) + 4) : Int).toNat) = 1 then (if ¬ 0 = a2 then (if a2 = 0 then (1, zput M 98 (w32 ((w32 (150 + (w32 (5 * a1)))) + 4) : Int).toNat 0) else (1, zput M 98 (w32 ((w32 (150 + (w32 (5 * a1)))) + 4) : Int).toNat 1)) else ((-3), M)) else (if ¬ 1 = a2 then (if a2 = 0 then (1, zput M 98 (w32 ((w32 (150 + (w32 (5 * a1)))) + 4) : Int).toNat 0) else (1, zput M 98 (w32 ((w32 (150 + (w32 (5 * a1)))) + 4) : Int).toNat 1)) else ((-3), M))) else ((-2), M))
set_option maxRecDepth 100000 in
theorem fh_191_97 {n : Nat} {M : zM} (a1 : Int) (a2 : Int) : zH n (0, 0) 191 (0, zini [zR 97, .inl a1, .inl a2] 4, []) M (fun r M' => r = some (.inl (hf_191_97 M a1 a2).1) ∧ M' = (hf_191_97 M a1 a2).2) := by
  have hz := zp_191
  have hE : hf_191_97 M a1 a2 = hf_191_97 M a1 a2 := rfl
  show zH n (0, 0) 191 (0, [zR 97, .inl a1, .inl a2, zN], []) M _
  refine zH_wE (c1 := (6, [zR 97, .inl a1, .inl a2, zN], [])) 3 hz zp_182 (fh_182_97 3 a1) (by rfl) ?_
  show zH n (0, 0) 191 (6, [zR 97, .inl a1, .inl a2, zN], [.inl (hf_182_97 M 3 a1)]) M _
  refine zH_wf_ne (pc := 6) (n' := 9) (t := 12) (L := [zR 97, .inl a1, .inl a2, zN]) (st := []) (x := (hf_182_97 M 3 a1)) 0 hz (by rfl) (fun hb => ?_) (fun hb => ?_)
  · have hE := hE.trans (if_pos hb)
    refine zH_w (c' := (27, [zR 97, .inl a1, .inl a2, .inl (w32 ((w32 (150 + (w32 (5 * a1)))) + 4))], [.inl (w32 ((w32 (150 + (w32 (5 * a1)))) + 4)), zR 98])) 11 hz rfl ?_
    refine zH_iald hz rfl rfl (.inl rfl) (fun _ => ?_)
    show zH n (0, 0) 191 (28, [zR 97, .inl a1, .inl a2, .inl (w32 ((w32 (150 + (w32 (5 * a1)))) + 4))], [.inl (M 98 (w32 ((w32 (150 + (w32 (5 * a1)))) + 4) : Int).toNat)]) M _
    refine zH_wi_ne (pc := 29) (n' := 32) (t := 36) (L := [zR 97, .inl a1, .inl a2, .inl (w32 ((w32 (150 + (w32 (5 * a1)))) + 4))]) (st := []) (x := (M 98 (w32 ((w32 (150 + (w32 (5 * a1)))) + 4) : Int).toNat)) (y := 1) 1 hz (by rfl) (fun hb => ?_) (fun hb => ?_)
    · have hE := hE.trans (if_pos hb)
      refine zH_wi_ne (pc := 38) (n' := 41) (t := 44) (L := [zR 97, .inl a1, .inl a2, .inl (w32 ((w32 (150 + (w32 (5 * a1)))) + 4))]) (st := []) (x := 0) (y := a2) 2 hz (by rfl) (fun hb => ?_) (fun hb => ?_)
      · have hE := hE.trans (if_pos hb)
        refine zH_wf_eq (pc := 50) (n' := 53) (t := 57) (L := [zR 97, .inl a1, .inl a2, .inl (w32 ((w32 (150 + (w32 (5 * a1)))) + 4))]) (st := [.inl (w32 ((w32 (150 + (w32 (5 * a1)))) + 4)), zR 98]) (x := a2) 4 hz (by rfl) (fun hb => ?_) (fun hb => ?_)
        · have hE := hE.trans (if_pos hb)
          refine zH_w (c' := (58, [zR 97, .inl a1, .inl a2, .inl (w32 ((w32 (150 + (w32 (5 * a1)))) + 4))], [.inl 0, .inl (w32 ((w32 (150 + (w32 (5 * a1)))) + 4)), zR 98])) 1 hz rfl ?_
          refine zH_iast hz rfl rfl (fun _ => ?_)
          show zH n (0, 0) 191 (59, [zR 97, .inl a1, .inl a2, .inl (w32 ((w32 (150 + (w32 (5 * a1)))) + 4))], []) (zput M 98 (w32 ((w32 (150 + (w32 (5 * a1)))) + 4) : Int).toNat 0) _
          exact zH_wr (r := some (.inl 1)) 1 hz (by rfl) (hfinB hE)
        · have hE := hE.trans (if_neg hb)
          refine zH_w (c' := (58, [zR 97, .inl a1, .inl a2, .inl (w32 ((w32 (150 + (w32 (5 * a1)))) + 4))], [.inl 1, .inl (w32 ((w32 (150 + (w32 (5 * a1)))) + 4)), zR 98])) 2 hz rfl ?_
          refine zH_iast hz rfl rfl (fun _ => ?_)
          show zH n (0, 0) 191 (59, [zR 97, .inl a1, .inl a2, .inl (w32 ((w32 (150 + (w32 (5 * a1)))) + 4))], []) (zput M 98 (w32 ((w32 (150 + (w32 (5 * a1)))) + 4) : Int).toNat 1) _
          exact zH_wr (r := some (.inl 1)) 1 hz (by rfl) (hfinB hE)
      · have hE := hE.trans (if_neg hb)
        exact zH_wr (r := some (.inl (-3))) 1 hz (by rfl) (hfinB hE)
    · have hE := hE.trans (if_neg hb)
      refine zH_wi_ne (pc := 38) (n' := 41) (t := 44) (L := [zR 97, .inl a1, .inl a2, .inl (w32 ((w32 (150 + (w32 (5 * a1)))) + 4))]) (st := []) (x := 1) (y := a2) 3 hz (by rfl) (fun hb => ?_) (fun hb => ?_)
      · have hE := hE.trans (if_pos hb)
        refine zH_wf_eq (pc := 50) (n' := 53) (t := 57) (L := [zR 97, .inl a1, .inl a2, .inl (w32 ((w32 (150 + (w32 (5 * a1)))) + 4))]) (st := [.inl (w32 ((w32 (150 + (w32 (5 * a1)))) + 4)), zR 98]) (x := a2) 4 hz (by rfl) (fun hb => ?_) (fun hb => ?_)
        · have hE := hE.trans (if_pos hb)
          refine zH_w (c' := (58, [zR 97, .inl a1, .inl a2, .inl (w32 ((w32 (150 + (w32 (5 * a1)))) + 4))], [.inl 0, .inl (w32 ((w32 (150 + (w32 (5 * a1)))) + 4)), zR 98])) 1 hz rfl ?_
          refine zH_iast hz rfl rfl (fun _ => ?_)
          show zH n (0, 0) 191 (59, [zR 97, .inl a1, .inl a2, .inl (w32 ((w32 (150 + (w32 (5 * a1)))) + 4))], []) (zput M 98 (w32 ((w32 (150 + (w32 (5 * a1)))) + 4) : Int).toNat 0) _
          exact zH_wr (r := some (.inl 1)) 1 hz (by rfl) (hfinB hE)
        · have hE := hE.trans (if_neg hb)
          refine zH_w (c' := (58, [zR 97, .inl a1, .inl a2, .inl (w32 ((w32 (150 + (w32 (5 * a1)))) + 4))], [.inl 1, .inl (w32 ((w32 (150 + (w32 (5 * a1)))) + 4)), zR 98])) 2 hz rfl ?_
          refine zH_iast hz rfl rfl (fun _ => ?_)
          show zH n (0, 0) 191 (59, [zR 97, .inl a1, .inl a2, .inl (w32 ((w32 (150 + (w32 (5 * a1)))) + 4))], []) (zput M 98 (w32 ((w32 (150 + (w32 (5 * a1)))) + 4) : Int).toNat 1) _
          exact zH_wr (r := some (.inl 1)) 1 hz (by rfl) (hfinB hE)
      · have hE := hE.trans (if_neg hb)
        exact zH_wr (r := some (.inl (-3))) 1 hz (by rfl) (hfinB hE)
  · have hE := hE.trans (if_neg hb)
    exact zH_wr (r := some (.inl (-2))) 1 hz (by rfl) (hfinB hE)
noncomputable def hf_185 (M : zM) (a0 : Int) : Int :=
  (hf_180 M a0 0 100)
set_option maxRecDepth 100000 in
theorem fh_185 {n : Nat} {M : zM} (a0 : Int) : zH n (0, 0) 185 (0, zini [.inl a0] 1, []) M (fun r M' => r = some (.inl (hf_185 M a0)) ∧ M' = M) := by
  have hz := zp_185
  have hE : hf_185 M a0 = hf_185 M a0 := rfl
  show zH n (0, 0) 185 (0, [.inl a0], []) M _
  refine zH_wE (c1 := (7, [.inl a0], [])) 3 hz zp_180 (fh_180 a0 0 100) (by rfl) ?_
  show zH n (0, 0) 185 (7, [.inl a0], [.inl (hf_180 M a0 0 100)]) M _
  exact zH_zret hz rfl (hfinP hE)
noncomputable def hf_197_97 (M : zM) : Int :=
  (if ¬ (M 98 (4 : Int).toNat) = 250 then 0 else 1)
set_option maxRecDepth 100000 in
theorem fh_197_97 {n : Nat} {M : zM} : zH n (0, 0) 197 (0, zini [zR 97] 1, []) M (fun r M' => r = some (.inl (hf_197_97 M)) ∧ M' = M) := by
  have hz := zp_197
  have hE : hf_197_97 M = hf_197_97 M := rfl
  show zH n (0, 0) 197 (0, [zR 97], []) M _
  refine zH_w (c' := (5, [zR 97], [.inl 4, zR 98])) 3 hz rfl ?_
  refine zH_iald hz rfl rfl (.inl rfl) (fun _ => ?_)
  show zH n (0, 0) 197 (6, [zR 97], [.inl (M 98 (4 : Int).toNat)]) M _
  refine zH_wi_ne (pc := 9) (n' := 12) (t := 16) (L := [zR 97]) (st := []) (x := (M 98 (4 : Int).toNat)) (y := 250) 1 hz (by rfl) (fun hb => ?_) (fun hb => ?_)
  · have hE := hE.trans (if_pos hb)
    refine zH_w (c' := (17, [zR 97], [.inl 0])) 1 hz rfl ?_
    exact zH_zret hz rfl (hfinP hE)
  · have hE := hE.trans (if_neg hb)
    refine zH_w (c' := (17, [zR 97], [.inl 1])) 2 hz rfl ?_
    exact zH_zret hz rfl (hfinP hE)
noncomputable def hf_195_97 (M : zM) (a1 : Int) (a2 : Int) : zM :=
  zput M 98 (w32 ((w32 (350 + (w32 (12 * (M 98 (4 : Int).toNat))))) + a1) : Int).toNat a2
set_option maxRecDepth 100000 in
theorem fh_195_97 {n : Nat} {M : zM} (a1 : Int) (a2 : Int) : zH n (0, 0) 195 (0, zini [zR 97, .inl a1, .inl a2] 3, []) M (fun r M' => r = none ∧ M' = hf_195_97 M a1 a2) := by
  have hz := zp_195
  have hE : hf_195_97 M a1 a2 = hf_195_97 M a1 a2 := rfl
  show zH n (0, 0) 195 (0, [zR 97, .inl a1, .inl a2], []) M _
  refine zH_w (c' := (14, [zR 97, .inl a1, .inl a2], [.inl 4, zR 98, .inl 12, .inl 350, zR 98])) 7 hz rfl ?_
  refine zH_iald hz rfl rfl (.inl rfl) (fun _ => ?_)
  show zH n (0, 0) 195 (15, [zR 97, .inl a1, .inl a2], [.inl (M 98 (4 : Int).toNat), .inl 12, .inl 350, zR 98]) M _
  refine zH_w (c' := (20, [zR 97, .inl a1, .inl a2], [.inl a2, .inl (w32 ((w32 (350 + (w32 (12 * (M 98 (4 : Int).toNat))))) + a1)), zR 98])) 5 hz rfl ?_
  refine zH_iast hz rfl rfl (fun _ => ?_)
  show zH n (0, 0) 195 (21, [zR 97, .inl a1, .inl a2], []) (zput M 98 (w32 ((w32 (350 + (w32 (12 * (M 98 (4 : Int).toNat))))) + a1) : Int).toNat a2) _
  exact zH_wr (r := none) 0 hz (by rfl) ⟨rfl, hE.symm⟩
noncomputable def hf_196_97 (M : zM) (a1 : Int) (a2 : Int) (a3 : Int) (a4 : Int) : zM :=
  (hf_195_97 (hf_195_97 (hf_195_97 (hf_195_97 (hf_195_97 (hf_195_97 (hf_195_97 (hf_195_97 (hf_195_97 (hf_195_97 (hf_195_97 (hf_195_97 M 0 a1) 1 a2) 2 a3) 3 a4) 4 (-1)) 5 (-1)) 6 (-1)) 7 (-1)) 8 (-1)) 9 (-1)) 10 (-1)) 11 (-1))
set_option maxRecDepth 100000 in
theorem fh_196_97 {n : Nat} {M : zM} (a1 : Int) (a2 : Int) (a3 : Int) (a4 : Int) : zH n (0, 0) 196 (0, zini [zR 97, .inl a1, .inl a2, .inl a3, .inl a4] 6, []) M (fun r M' => r = none ∧ M' = hf_196_97 M a1 a2 a3 a4) := by
  have hz := zp_196
  have hE : hf_196_97 M a1 a2 a3 a4 = hf_196_97 M a1 a2 a3 a4 := rfl
  show zH n (0, 0) 196 (0, [zR 97, .inl a1, .inl a2, .inl a3, .inl a4, zN], []) M _
  refine zH_wW (c1 := (6, [zR 97, .inl a1, .inl a2, .inl a3, .inl a4, zN], [])) 3 hz zp_195 (fh_195_97 0 a1) (by rfl) ?_
  intro N1 hN1
  show zH n (0, 0) 196 (6, [zR 97, .inl a1, .inl a2, .inl a3, .inl a4, zN], []) N1 _
  refine zH_wW (c1 := (12, [zR 97, .inl a1, .inl a2, .inl a3, .inl a4, zN], [])) 3 hz zp_195 (fh_195_97 1 a2) (by rfl) ?_
  intro N2 hN2
  show zH n (0, 0) 196 (12, [zR 97, .inl a1, .inl a2, .inl a3, .inl a4, zN], []) N2 _
  refine zH_wW (c1 := (18, [zR 97, .inl a1, .inl a2, .inl a3, .inl a4, zN], [])) 3 hz zp_195 (fh_195_97 2 a3) (by rfl) ?_
  intro N3 hN3
  show zH n (0, 0) 196 (18, [zR 97, .inl a1, .inl a2, .inl a3, .inl a4, zN], []) N3 _
  refine zH_wW (c1 := (25, [zR 97, .inl a1, .inl a2, .inl a3, .inl a4, zN], [])) 3 hz zp_195 (fh_195_97 3 a4) (by rfl) ?_
  intro N4 hN4
  show zH n (0, 0) 196 (25, [zR 97, .inl a1, .inl a2, .inl a3, .inl a4, zN], []) N4 _
  refine zH_w (c' := (39, [zR 97, .inl a1, .inl a2, .inl a3, .inl a4, .inl 4], [.inl (-1), .inl 4, zR 97])) 8 hz rfl ?_
  refine zH_wW (c1 := (42, [zR 97, .inl a1, .inl a2, .inl a3, .inl a4, .inl 4], [])) 0 hz zp_195 (fh_195_97 4 (-1)) (by rfl) ?_
  intro N5 hN5
  show zH n (0, 0) 196 (42, [zR 97, .inl a1, .inl a2, .inl a3, .inl a4, .inl 4], []) N5 _
  refine zH_w (c' := (39, [zR 97, .inl a1, .inl a2, .inl a3, .inl a4, .inl 5], [.inl (-1), .inl 5, zR 97])) 8 hz rfl ?_
  refine zH_wW (c1 := (42, [zR 97, .inl a1, .inl a2, .inl a3, .inl a4, .inl 5], [])) 0 hz zp_195 (fh_195_97 5 (-1)) (by rfl) ?_
  intro N6 hN6
  show zH n (0, 0) 196 (42, [zR 97, .inl a1, .inl a2, .inl a3, .inl a4, .inl 5], []) N6 _
  refine zH_w (c' := (39, [zR 97, .inl a1, .inl a2, .inl a3, .inl a4, .inl 6], [.inl (-1), .inl 6, zR 97])) 8 hz rfl ?_
  refine zH_wW (c1 := (42, [zR 97, .inl a1, .inl a2, .inl a3, .inl a4, .inl 6], [])) 0 hz zp_195 (fh_195_97 6 (-1)) (by rfl) ?_
  intro N7 hN7
  show zH n (0, 0) 196 (42, [zR 97, .inl a1, .inl a2, .inl a3, .inl a4, .inl 6], []) N7 _
  refine zH_w (c' := (39, [zR 97, .inl a1, .inl a2, .inl a3, .inl a4, .inl 7], [.inl (-1), .inl 7, zR 97])) 8 hz rfl ?_
  refine zH_wW (c1 := (42, [zR 97, .inl a1, .inl a2, .inl a3, .inl a4, .inl 7], [])) 0 hz zp_195 (fh_195_97 7 (-1)) (by rfl) ?_
  intro N8 hN8
  show zH n (0, 0) 196 (42, [zR 97, .inl a1, .inl a2, .inl a3, .inl a4, .inl 7], []) N8 _
  refine zH_w (c' := (39, [zR 97, .inl a1, .inl a2, .inl a3, .inl a4, .inl 8], [.inl (-1), .inl 8, zR 97])) 8 hz rfl ?_
  refine zH_wW (c1 := (42, [zR 97, .inl a1, .inl a2, .inl a3, .inl a4, .inl 8], [])) 0 hz zp_195 (fh_195_97 8 (-1)) (by rfl) ?_
  intro N9 hN9
  show zH n (0, 0) 196 (42, [zR 97, .inl a1, .inl a2, .inl a3, .inl a4, .inl 8], []) N9 _
  refine zH_w (c' := (39, [zR 97, .inl a1, .inl a2, .inl a3, .inl a4, .inl 9], [.inl (-1), .inl 9, zR 97])) 8 hz rfl ?_
  refine zH_wW (c1 := (42, [zR 97, .inl a1, .inl a2, .inl a3, .inl a4, .inl 9], [])) 0 hz zp_195 (fh_195_97 9 (-1)) (by rfl) ?_
  intro N10 hN10
  show zH n (0, 0) 196 (42, [zR 97, .inl a1, .inl a2, .inl a3, .inl a4, .inl 9], []) N10 _
  refine zH_w (c' := (39, [zR 97, .inl a1, .inl a2, .inl a3, .inl a4, .inl 10], [.inl (-1), .inl 10, zR 97])) 8 hz rfl ?_
  refine zH_wW (c1 := (42, [zR 97, .inl a1, .inl a2, .inl a3, .inl a4, .inl 10], [])) 0 hz zp_195 (fh_195_97 10 (-1)) (by rfl) ?_
  intro N11 hN11
  show zH n (0, 0) 196 (42, [zR 97, .inl a1, .inl a2, .inl a3, .inl a4, .inl 10], []) N11 _
  refine zH_w (c' := (39, [zR 97, .inl a1, .inl a2, .inl a3, .inl a4, .inl 11], [.inl (-1), .inl 11, zR 97])) 8 hz rfl ?_
  refine zH_wW (c1 := (42, [zR 97, .inl a1, .inl a2, .inl a3, .inl a4, .inl 11], [])) 0 hz zp_195 (fh_195_97 11 (-1)) (by rfl) ?_
  intro N12 hN12
  show zH n (0, 0) 196 (42, [zR 97, .inl a1, .inl a2, .inl a3, .inl a4, .inl 11], []) N12 _
  refine zH_w (c' := (48, [zR 97, .inl a1, .inl a2, .inl a3, .inl a4, .inl 12], [])) 5 hz rfl ?_
  subst hN12
  subst hN11
  subst hN10
  subst hN9
  subst hN8
  subst hN7
  subst hN6
  subst hN5
  subst hN4
  subst hN3
  subst hN2
  subst hN1
  exact zH_ret hz rfl rfl ⟨rfl, hE.symm⟩
noncomputable def hf_201_97 (M : zM) (a1 : Int) (a2 : Int) (a3 : Int) (a4 : Int) (a5 : Int) (a6 : Int) : Int × zM :=
  (if (hf_182_97 M 1 a1) = 0 then ((-2), M) else (if (hf_182_97 M 0 a2) = 0 then ((-2), M) else (if (hf_185 M a3) = 0 then ((-2), M) else (if (hf_180 M a4 0 4) = 0 then ((-2), M) else (if (hf_184 M a5) = 0 then ((-2), M) else (if ¬ (hf_180 M a6 a5 9999) = 0 then (if (hf_197_97 M) = 0 then (((hf_183_97 (hf_195_97 (hf_195_97 (hf_195_97 (hf_195_97 (hf_196_97 M 0 a5 a6 (-1)) 4 a1) 5 a2) 7 a3) 8 a4) 4).1), ((hf_183_97 (hf_195_97 (hf_195_97 (hf_195_97 (hf_195_97 (hf_196_97 M 0 a5 a6 (-1)) 4 a1) 5 a2) 7 a3) 8 a4) 4).2)) else ((-4), M)) else ((-2), M)))))))
set_option maxRecDepth 100000 in
theorem fh_201_97 {n : Nat} {M : zM} (a1 : Int) (a2 : Int) (a3 : Int) (a4 : Int) (a5 : Int) (a6 : Int) : zH n (0, 0) 201 (0, zini [zR 97, .inl a1, .inl a2, .inl a3, .inl a4, .inl a5, .inl a6] 7, []) M (fun r M' => r = some (.inl (hf_201_97 M a1 a2 a3 a4 a5 a6).1) ∧ M' = (hf_201_97 M a1 a2 a3 a4 a5 a6).2) := by
  have hz := zp_201
  have hE : hf_201_97 M a1 a2 a3 a4 a5 a6 = hf_201_97 M a1 a2 a3 a4 a5 a6 := rfl
  show zH n (0, 0) 201 (0, [zR 97, .inl a1, .inl a2, .inl a3, .inl a4, .inl a5, .inl a6], []) M _
  refine zH_wE (c1 := (6, [zR 97, .inl a1, .inl a2, .inl a3, .inl a4, .inl a5, .inl a6], [])) 3 hz zp_182 (fh_182_97 1 a1) (by rfl) ?_
  show zH n (0, 0) 201 (6, [zR 97, .inl a1, .inl a2, .inl a3, .inl a4, .inl a5, .inl a6], [.inl (hf_182_97 M 1 a1)]) M _
  refine zH_wf_eq (pc := 6) (n' := 9) (t := 56) (L := [zR 97, .inl a1, .inl a2, .inl a3, .inl a4, .inl a5, .inl a6]) (st := []) (x := (hf_182_97 M 1 a1)) 0 hz (by rfl) (fun hb => ?_) (fun hb => ?_)
  · have hE := hE.trans (if_pos hb)
    exact zH_wr (r := some (.inl (-2))) 1 hz (by rfl) (hfinB hE)
  · have hE := hE.trans (if_neg hb)
    refine zH_wE (c1 := (15, [zR 97, .inl a1, .inl a2, .inl a3, .inl a4, .inl a5, .inl a6], [])) 3 hz zp_182 (fh_182_97 0 a2) (by rfl) ?_
    show zH n (0, 0) 201 (15, [zR 97, .inl a1, .inl a2, .inl a3, .inl a4, .inl a5, .inl a6], [.inl (hf_182_97 M 0 a2)]) M _
    refine zH_wf_eq (pc := 15) (n' := 18) (t := 56) (L := [zR 97, .inl a1, .inl a2, .inl a3, .inl a4, .inl a5, .inl a6]) (st := []) (x := (hf_182_97 M 0 a2)) 0 hz (by rfl) (fun hb => ?_) (fun hb => ?_)
    · have hE := hE.trans (if_pos hb)
      exact zH_wr (r := some (.inl (-2))) 1 hz (by rfl) (hfinB hE)
    · have hE := hE.trans (if_neg hb)
      refine zH_wE (c1 := (22, [zR 97, .inl a1, .inl a2, .inl a3, .inl a4, .inl a5, .inl a6], [])) 1 hz zp_185 (fh_185 a3) (by rfl) ?_
      show zH n (0, 0) 201 (22, [zR 97, .inl a1, .inl a2, .inl a3, .inl a4, .inl a5, .inl a6], [.inl (hf_185 M a3)]) M _
      refine zH_wf_eq (pc := 22) (n' := 25) (t := 56) (L := [zR 97, .inl a1, .inl a2, .inl a3, .inl a4, .inl a5, .inl a6]) (st := []) (x := (hf_185 M a3)) 0 hz (by rfl) (fun hb => ?_) (fun hb => ?_)
      · have hE := hE.trans (if_pos hb)
        exact zH_wr (r := some (.inl (-2))) 1 hz (by rfl) (hfinB hE)
      · have hE := hE.trans (if_neg hb)
        refine zH_wE (c1 := (32, [zR 97, .inl a1, .inl a2, .inl a3, .inl a4, .inl a5, .inl a6], [])) 3 hz zp_180 (fh_180 a4 0 4) (by rfl) ?_
        show zH n (0, 0) 201 (32, [zR 97, .inl a1, .inl a2, .inl a3, .inl a4, .inl a5, .inl a6], [.inl (hf_180 M a4 0 4)]) M _
        refine zH_wf_eq (pc := 32) (n' := 35) (t := 56) (L := [zR 97, .inl a1, .inl a2, .inl a3, .inl a4, .inl a5, .inl a6]) (st := []) (x := (hf_180 M a4 0 4)) 0 hz (by rfl) (fun hb => ?_) (fun hb => ?_)
        · have hE := hE.trans (if_pos hb)
          exact zH_wr (r := some (.inl (-2))) 1 hz (by rfl) (hfinB hE)
        · have hE := hE.trans (if_neg hb)
          refine zH_wE (c1 := (40, [zR 97, .inl a1, .inl a2, .inl a3, .inl a4, .inl a5, .inl a6], [])) 1 hz zp_184 (fh_184 a5) (by rfl) ?_
          show zH n (0, 0) 201 (40, [zR 97, .inl a1, .inl a2, .inl a3, .inl a4, .inl a5, .inl a6], [.inl (hf_184 M a5)]) M _
          refine zH_wf_eq (pc := 40) (n' := 43) (t := 56) (L := [zR 97, .inl a1, .inl a2, .inl a3, .inl a4, .inl a5, .inl a6]) (st := []) (x := (hf_184 M a5)) 0 hz (by rfl) (fun hb => ?_) (fun hb => ?_)
          · have hE := hE.trans (if_pos hb)
            exact zH_wr (r := some (.inl (-2))) 1 hz (by rfl) (hfinB hE)
          · have hE := hE.trans (if_neg hb)
            refine zH_wE (c1 := (53, [zR 97, .inl a1, .inl a2, .inl a3, .inl a4, .inl a5, .inl a6], [])) 3 hz zp_180 (fh_180 a6 a5 9999) (by rfl) ?_
            show zH n (0, 0) 201 (53, [zR 97, .inl a1, .inl a2, .inl a3, .inl a4, .inl a5, .inl a6], [.inl (hf_180 M a6 a5 9999)]) M _
            refine zH_wf_ne (pc := 53) (n' := 56) (t := 59) (L := [zR 97, .inl a1, .inl a2, .inl a3, .inl a4, .inl a5, .inl a6]) (st := []) (x := (hf_180 M a6 a5 9999)) 0 hz (by rfl) (fun hb => ?_) (fun hb => ?_)
            · have hE := hE.trans (if_pos hb)
              refine zH_wE (c1 := (63, [zR 97, .inl a1, .inl a2, .inl a3, .inl a4, .inl a5, .inl a6], [])) 1 hz zp_197 (fh_197_97) (by rfl) ?_
              show zH n (0, 0) 201 (63, [zR 97, .inl a1, .inl a2, .inl a3, .inl a4, .inl a5, .inl a6], [.inl (hf_197_97 M)]) M _
              refine zH_wf_eq (pc := 63) (n' := 66) (t := 69) (L := [zR 97, .inl a1, .inl a2, .inl a3, .inl a4, .inl a5, .inl a6]) (st := []) (x := (hf_197_97 M)) 0 hz (by rfl) (fun hb => ?_) (fun hb => ?_)
              · have hE := hE.trans (if_pos hb)
                refine zH_wW (c1 := (79, [zR 97, .inl a1, .inl a2, .inl a3, .inl a4, .inl a5, .inl a6], [])) 5 hz zp_196 (fh_196_97 0 a5 a6 (-1)) (by rfl) ?_
                intro N1 hN1
                show zH n (0, 0) 201 (79, [zR 97, .inl a1, .inl a2, .inl a3, .inl a4, .inl a5, .inl a6], []) N1 _
                refine zH_wW (c1 := (85, [zR 97, .inl a1, .inl a2, .inl a3, .inl a4, .inl a5, .inl a6], [])) 3 hz zp_195 (fh_195_97 4 a1) (by rfl) ?_
                intro N2 hN2
                show zH n (0, 0) 201 (85, [zR 97, .inl a1, .inl a2, .inl a3, .inl a4, .inl a5, .inl a6], []) N2 _
                refine zH_wW (c1 := (91, [zR 97, .inl a1, .inl a2, .inl a3, .inl a4, .inl a5, .inl a6], [])) 3 hz zp_195 (fh_195_97 5 a2) (by rfl) ?_
                intro N3 hN3
                show zH n (0, 0) 201 (91, [zR 97, .inl a1, .inl a2, .inl a3, .inl a4, .inl a5, .inl a6], []) N3 _
                refine zH_wW (c1 := (98, [zR 97, .inl a1, .inl a2, .inl a3, .inl a4, .inl a5, .inl a6], [])) 3 hz zp_195 (fh_195_97 7 a3) (by rfl) ?_
                intro N4 hN4
                show zH n (0, 0) 201 (98, [zR 97, .inl a1, .inl a2, .inl a3, .inl a4, .inl a5, .inl a6], []) N4 _
                refine zH_wW (c1 := (106, [zR 97, .inl a1, .inl a2, .inl a3, .inl a4, .inl a5, .inl a6], [])) 3 hz zp_195 (fh_195_97 8 a4) (by rfl) ?_
                intro N5 hN5
                show zH n (0, 0) 201 (106, [zR 97, .inl a1, .inl a2, .inl a3, .inl a4, .inl a5, .inl a6], []) N5 _
                refine zH_wB (c1 := (111, [zR 97, .inl a1, .inl a2, .inl a3, .inl a4, .inl a5, .inl a6], [])) 2 hz zp_183 (fh_183_97 4) (by rfl) ?_
                intro u6 N7 hu6 hN7
                show zH n (0, 0) 201 (111, [zR 97, .inl a1, .inl a2, .inl a3, .inl a4, .inl a5, .inl a6], [.inl u6]) N7 _
                subst hN7
                subst hu6
                subst hN5
                subst hN4
                subst hN3
                subst hN2
                subst hN1
                exact zH_ret hz rfl rfl (hfinB hE)
              · have hE := hE.trans (if_neg hb)
                exact zH_wr (r := some (.inl (-4))) 1 hz (by rfl) (hfinB hE)
            · have hE := hE.trans (if_neg hb)
              exact zH_wr (r := some (.inl (-2))) 1 hz (by rfl) (hfinB hE)
noncomputable def hf_194_97 (M : zM) (a1 : Int) (a2 : Int) : Int :=
  M 98 (w32 ((w32 (350 + (w32 (12 * a1)))) + a2) : Int).toNat
set_option maxRecDepth 100000 in
theorem fh_194_97 {n : Nat} {M : zM} (a1 : Int) (a2 : Int) : zH n (0, 0) 194 (0, zini [zR 97, .inl a1, .inl a2] 3, []) M (fun r M' => r = some (.inl (hf_194_97 M a1 a2)) ∧ M' = M) := by
  have hz := zp_194
  have hE : hf_194_97 M a1 a2 = hf_194_97 M a1 a2 := rfl
  show zH n (0, 0) 194 (0, [zR 97, .inl a1, .inl a2], []) M _
  refine zH_w (c' := (14, [zR 97, .inl a1, .inl a2], [.inl (w32 ((w32 (350 + (w32 (12 * a1)))) + a2)), zR 98])) 9 hz rfl ?_
  refine zH_iald hz rfl rfl (.inl rfl) (fun _ => ?_)
  show zH n (0, 0) 194 (15, [zR 97, .inl a1, .inl a2], [.inl (M 98 (w32 ((w32 (350 + (w32 (12 * a1)))) + a2) : Int).toNat)]) M _
  exact zH_wr (r := some (.inl (M 98 (w32 ((w32 (350 + (w32 (12 * a1)))) + a2) : Int).toNat))) 0 hz (by rfl) (hfinP hE)
noncomputable def hf_198_97 (M : zM) (a1 : Int) : Int :=
  (if (hf_182_97 M 4 a1) = 0 then 0 else (if ¬ (hf_194_97 M a1 0) = 0 then 0 else 1))
set_option maxRecDepth 100000 in
theorem fh_198_97 {n : Nat} {M : zM} (a1 : Int) : zH n (0, 0) 198 (0, zini [zR 97, .inl a1] 2, []) M (fun r M' => r = some (.inl (hf_198_97 M a1)) ∧ M' = M) := by
  have hz := zp_198
  have hE : hf_198_97 M a1 = hf_198_97 M a1 := rfl
  show zH n (0, 0) 198 (0, [zR 97, .inl a1], []) M _
  refine zH_wE (c1 := (6, [zR 97, .inl a1], [])) 3 hz zp_182 (fh_182_97 4 a1) (by rfl) ?_
  show zH n (0, 0) 198 (6, [zR 97, .inl a1], [.inl (hf_182_97 M 4 a1)]) M _
  refine zH_wf_eq (pc := 6) (n' := 9) (t := 22) (L := [zR 97, .inl a1]) (st := []) (x := (hf_182_97 M 4 a1)) 0 hz (by rfl) (fun hb => ?_) (fun hb => ?_)
  · have hE := hE.trans (if_pos hb)
    refine zH_w (c' := (23, [zR 97, .inl a1], [.inl 0])) 1 hz rfl ?_
    exact zH_zret hz rfl (hfinP hE)
  · have hE := hE.trans (if_neg hb)
    refine zH_wE (c1 := (15, [zR 97, .inl a1], [])) 3 hz zp_194 (fh_194_97 a1 0) (by rfl) ?_
    show zH n (0, 0) 198 (15, [zR 97, .inl a1], [.inl (hf_194_97 M a1 0)]) M _
    refine zH_wf_ne (pc := 15) (n' := 18) (t := 22) (L := [zR 97, .inl a1]) (st := []) (x := (hf_194_97 M a1 0)) 0 hz (by rfl) (fun hb => ?_) (fun hb => ?_)
    · have hE := hE.trans (if_pos hb)
      refine zH_w (c' := (23, [zR 97, .inl a1], [.inl 0])) 1 hz rfl ?_
      exact zH_zret hz rfl (hfinP hE)
    · have hE := hE.trans (if_neg hb)
      refine zH_w (c' := (23, [zR 97, .inl a1], [.inl 1])) 2 hz rfl ?_
      exact zH_zret hz rfl (hfinP hE)
noncomputable def hf_202_97 (M : zM) (a1 : Int) (a2 : Int) (a3 : Int) (a4 : Int) (a5 : Int) : Int × zM :=
  (if (hf_198_97 M a1) = 0 then ((-2), M) else (if (hf_185 M a2) = 0 then ((-2), M) else (if (hf_180 M a3 0 4) = 0 then ((-2), M) else (if a3 = (hf_194_97 M a1 8) then ((-2), M) else (if (hf_180 M a4 (hf_194_97 M a1 1) 9999) = 0 then ((-2), M) else (if ¬ (hf_180 M a5 a4 9999) = 0 then (if (hf_197_97 M) = 0 then (((hf_183_97 (hf_195_97 (hf_195_97 (hf_195_97 (hf_196_97 M 1 a4 a5 (-1)) 6 a1) 7 a2) 8 a3) 4).1), ((hf_183_97 (hf_195_97 (hf_195_97 (hf_195_97 (hf_196_97 M 1 a4 a5 (-1)) 6 a1) 7 a2) 8 a3) 4).2)) else ((-4), M)) else ((-2), M)))))))
set_option maxRecDepth 100000 in
theorem fh_202_97 {n : Nat} {M : zM} (a1 : Int) (a2 : Int) (a3 : Int) (a4 : Int) (a5 : Int) : zH n (0, 0) 202 (0, zini [zR 97, .inl a1, .inl a2, .inl a3, .inl a4, .inl a5] 6, []) M (fun r M' => r = some (.inl (hf_202_97 M a1 a2 a3 a4 a5).1) ∧ M' = (hf_202_97 M a1 a2 a3 a4 a5).2) := by
  have hz := zp_202
  have hE : hf_202_97 M a1 a2 a3 a4 a5 = hf_202_97 M a1 a2 a3 a4 a5 := rfl
  show zH n (0, 0) 202 (0, [zR 97, .inl a1, .inl a2, .inl a3, .inl a4, .inl a5], []) M _
  refine zH_wE (c1 := (5, [zR 97, .inl a1, .inl a2, .inl a3, .inl a4, .inl a5], [])) 2 hz zp_198 (fh_198_97 a1) (by rfl) ?_
  show zH n (0, 0) 202 (5, [zR 97, .inl a1, .inl a2, .inl a3, .inl a4, .inl a5], [.inl (hf_198_97 M a1)]) M _
  refine zH_wf_eq (pc := 5) (n' := 8) (t := 65) (L := [zR 97, .inl a1, .inl a2, .inl a3, .inl a4, .inl a5]) (st := []) (x := (hf_198_97 M a1)) 0 hz (by rfl) (fun hb => ?_) (fun hb => ?_)
  · have hE := hE.trans (if_pos hb)
    exact zH_wr (r := some (.inl (-2))) 1 hz (by rfl) (hfinB hE)
  · have hE := hE.trans (if_neg hb)
    refine zH_wE (c1 := (12, [zR 97, .inl a1, .inl a2, .inl a3, .inl a4, .inl a5], [])) 1 hz zp_185 (fh_185 a2) (by rfl) ?_
    show zH n (0, 0) 202 (12, [zR 97, .inl a1, .inl a2, .inl a3, .inl a4, .inl a5], [.inl (hf_185 M a2)]) M _
    refine zH_wf_eq (pc := 12) (n' := 15) (t := 65) (L := [zR 97, .inl a1, .inl a2, .inl a3, .inl a4, .inl a5]) (st := []) (x := (hf_185 M a2)) 0 hz (by rfl) (fun hb => ?_) (fun hb => ?_)
    · have hE := hE.trans (if_pos hb)
      exact zH_wr (r := some (.inl (-2))) 1 hz (by rfl) (hfinB hE)
    · have hE := hE.trans (if_neg hb)
      refine zH_wE (c1 := (21, [zR 97, .inl a1, .inl a2, .inl a3, .inl a4, .inl a5], [])) 3 hz zp_180 (fh_180 a3 0 4) (by rfl) ?_
      show zH n (0, 0) 202 (21, [zR 97, .inl a1, .inl a2, .inl a3, .inl a4, .inl a5], [.inl (hf_180 M a3 0 4)]) M _
      refine zH_wf_eq (pc := 21) (n' := 24) (t := 65) (L := [zR 97, .inl a1, .inl a2, .inl a3, .inl a4, .inl a5]) (st := []) (x := (hf_180 M a3 0 4)) 0 hz (by rfl) (fun hb => ?_) (fun hb => ?_)
      · have hE := hE.trans (if_pos hb)
        exact zH_wr (r := some (.inl (-2))) 1 hz (by rfl) (hfinB hE)
      · have hE := hE.trans (if_neg hb)
        refine zH_wE (c1 := (32, [zR 97, .inl a1, .inl a2, .inl a3, .inl a4, .inl a5], [.inl a3])) 4 hz zp_194 (fh_194_97 a1 8) (by rfl) ?_
        show zH n (0, 0) 202 (32, [zR 97, .inl a1, .inl a2, .inl a3, .inl a4, .inl a5], [.inl (hf_194_97 M a1 8), .inl a3]) M _
        refine zH_wi_eq (pc := 32) (n' := 35) (t := 65) (L := [zR 97, .inl a1, .inl a2, .inl a3, .inl a4, .inl a5]) (st := []) (x := a3) (y := (hf_194_97 M a1 8)) 0 hz (by rfl) (fun hb => ?_) (fun hb => ?_)
        · have hE := hE.trans (if_pos hb)
          exact zH_wr (r := some (.inl (-2))) 1 hz (by rfl) (hfinB hE)
        · have hE := hE.trans (if_neg hb)
          refine zH_wE (c1 := (43, [zR 97, .inl a1, .inl a2, .inl a3, .inl a4, .inl a5], [.inl a4])) 4 hz zp_194 (fh_194_97 a1 1) (by rfl) ?_
          show zH n (0, 0) 202 (43, [zR 97, .inl a1, .inl a2, .inl a3, .inl a4, .inl a5], [.inl (hf_194_97 M a1 1), .inl a4]) M _
          refine zH_wE (c1 := (49, [zR 97, .inl a1, .inl a2, .inl a3, .inl a4, .inl a5], [])) 1 hz zp_180 (fh_180 a4 (hf_194_97 M a1 1) 9999) (by rfl) ?_
          show zH n (0, 0) 202 (49, [zR 97, .inl a1, .inl a2, .inl a3, .inl a4, .inl a5], [.inl (hf_180 M a4 (hf_194_97 M a1 1) 9999)]) M _
          refine zH_wf_eq (pc := 49) (n' := 52) (t := 65) (L := [zR 97, .inl a1, .inl a2, .inl a3, .inl a4, .inl a5]) (st := []) (x := (hf_180 M a4 (hf_194_97 M a1 1) 9999)) 0 hz (by rfl) (fun hb => ?_) (fun hb => ?_)
          · have hE := hE.trans (if_pos hb)
            exact zH_wr (r := some (.inl (-2))) 1 hz (by rfl) (hfinB hE)
          · have hE := hE.trans (if_neg hb)
            refine zH_wE (c1 := (62, [zR 97, .inl a1, .inl a2, .inl a3, .inl a4, .inl a5], [])) 3 hz zp_180 (fh_180 a5 a4 9999) (by rfl) ?_
            show zH n (0, 0) 202 (62, [zR 97, .inl a1, .inl a2, .inl a3, .inl a4, .inl a5], [.inl (hf_180 M a5 a4 9999)]) M _
            refine zH_wf_ne (pc := 62) (n' := 65) (t := 68) (L := [zR 97, .inl a1, .inl a2, .inl a3, .inl a4, .inl a5]) (st := []) (x := (hf_180 M a5 a4 9999)) 0 hz (by rfl) (fun hb => ?_) (fun hb => ?_)
            · have hE := hE.trans (if_pos hb)
              refine zH_wE (c1 := (72, [zR 97, .inl a1, .inl a2, .inl a3, .inl a4, .inl a5], [])) 1 hz zp_197 (fh_197_97) (by rfl) ?_
              show zH n (0, 0) 202 (72, [zR 97, .inl a1, .inl a2, .inl a3, .inl a4, .inl a5], [.inl (hf_197_97 M)]) M _
              refine zH_wf_eq (pc := 72) (n' := 75) (t := 78) (L := [zR 97, .inl a1, .inl a2, .inl a3, .inl a4, .inl a5]) (st := []) (x := (hf_197_97 M)) 0 hz (by rfl) (fun hb => ?_) (fun hb => ?_)
              · have hE := hE.trans (if_pos hb)
                refine zH_wW (c1 := (88, [zR 97, .inl a1, .inl a2, .inl a3, .inl a4, .inl a5], [])) 5 hz zp_196 (fh_196_97 1 a4 a5 (-1)) (by rfl) ?_
                intro N1 hN1
                show zH n (0, 0) 202 (88, [zR 97, .inl a1, .inl a2, .inl a3, .inl a4, .inl a5], []) N1 _
                refine zH_wW (c1 := (95, [zR 97, .inl a1, .inl a2, .inl a3, .inl a4, .inl a5], [])) 3 hz zp_195 (fh_195_97 6 a1) (by rfl) ?_
                intro N2 hN2
                show zH n (0, 0) 202 (95, [zR 97, .inl a1, .inl a2, .inl a3, .inl a4, .inl a5], []) N2 _
                refine zH_wW (c1 := (102, [zR 97, .inl a1, .inl a2, .inl a3, .inl a4, .inl a5], [])) 3 hz zp_195 (fh_195_97 7 a2) (by rfl) ?_
                intro N3 hN3
                show zH n (0, 0) 202 (102, [zR 97, .inl a1, .inl a2, .inl a3, .inl a4, .inl a5], []) N3 _
                refine zH_wW (c1 := (109, [zR 97, .inl a1, .inl a2, .inl a3, .inl a4, .inl a5], [])) 3 hz zp_195 (fh_195_97 8 a3) (by rfl) ?_
                intro N4 hN4
                show zH n (0, 0) 202 (109, [zR 97, .inl a1, .inl a2, .inl a3, .inl a4, .inl a5], []) N4 _
                refine zH_wB (c1 := (114, [zR 97, .inl a1, .inl a2, .inl a3, .inl a4, .inl a5], [])) 2 hz zp_183 (fh_183_97 4) (by rfl) ?_
                intro u5 N6 hu5 hN6
                show zH n (0, 0) 202 (114, [zR 97, .inl a1, .inl a2, .inl a3, .inl a4, .inl a5], [.inl u5]) N6 _
                subst hN6
                subst hu5
                subst hN4
                subst hN3
                subst hN2
                subst hN1
                exact zH_ret hz rfl rfl (hfinB hE)
              · have hE := hE.trans (if_neg hb)
                exact zH_wr (r := some (.inl (-4))) 1 hz (by rfl) (hfinB hE)
            · have hE := hE.trans (if_neg hb)
              exact zH_wr (r := some (.inl (-2))) 1 hz (by rfl) (hfinB hE)
noncomputable def hf_199_97 (M : zM) (a1 : Int) : Int :=
  M 98 (w32 ((w32 (150 + (w32 (5 * a1)))) + 1) : Int).toNat
set_option maxRecDepth 100000 in
theorem fh_199_97 {n : Nat} {M : zM} (a1 : Int) : zH n (0, 0) 199 (0, zini [zR 97, .inl a1] 2, []) M (fun r M' => r = some (.inl (hf_199_97 M a1)) ∧ M' = M) := by
  have hz := zp_199
  have hE : hf_199_97 M a1 = hf_199_97 M a1 := rfl
  show zH n (0, 0) 199 (0, [zR 97, .inl a1], []) M _
  refine zH_w (c' := (13, [zR 97, .inl a1], [.inl (w32 ((w32 (150 + (w32 (5 * a1)))) + 1)), zR 98])) 9 hz rfl ?_
  refine zH_iald hz rfl rfl (.inl rfl) (fun _ => ?_)
  show zH n (0, 0) 199 (14, [zR 97, .inl a1], [.inl (M 98 (w32 ((w32 (150 + (w32 (5 * a1)))) + 1) : Int).toNat)]) M _
  exact zH_wr (r := some (.inl (M 98 (w32 ((w32 (150 + (w32 (5 * a1)))) + 1) : Int).toNat))) 0 hz (by rfl) (hfinP hE)
noncomputable def hf_200_97 (M : zM) (a1 : Int) (a2 : Int) : Int :=
  (if (hf_182_97 M 3 a1) = 0 then 0 else (if (hf_180 M a2 (hf_199_97 M a1) 9999) = 0 then 0 else 1))
set_option maxRecDepth 100000 in
theorem fh_200_97 {n : Nat} {M : zM} (a1 : Int) (a2 : Int) : zH n (0, 0) 200 (0, zini [zR 97, .inl a1, .inl a2] 3, []) M (fun r M' => r = some (.inl (hf_200_97 M a1 a2)) ∧ M' = M) := by
  have hz := zp_200
  have hE : hf_200_97 M a1 a2 = hf_200_97 M a1 a2 := rfl
  show zH n (0, 0) 200 (0, [zR 97, .inl a1, .inl a2], []) M _
  refine zH_wE (c1 := (6, [zR 97, .inl a1, .inl a2], [])) 3 hz zp_182 (fh_182_97 3 a1) (by rfl) ?_
  show zH n (0, 0) 200 (6, [zR 97, .inl a1, .inl a2], [.inl (hf_182_97 M 3 a1)]) M _
  refine zH_wf_eq (pc := 6) (n' := 9) (t := 28) (L := [zR 97, .inl a1, .inl a2]) (st := []) (x := (hf_182_97 M 3 a1)) 0 hz (by rfl) (fun hb => ?_) (fun hb => ?_)
  · have hE := hE.trans (if_pos hb)
    refine zH_w (c' := (29, [zR 97, .inl a1, .inl a2], [.inl 0])) 1 hz rfl ?_
    exact zH_zret hz rfl (hfinP hE)
  · have hE := hE.trans (if_neg hb)
    refine zH_wE (c1 := (15, [zR 97, .inl a1, .inl a2], [.inl a2])) 3 hz zp_199 (fh_199_97 a1) (by rfl) ?_
    show zH n (0, 0) 200 (15, [zR 97, .inl a1, .inl a2], [.inl (hf_199_97 M a1), .inl a2]) M _
    refine zH_wE (c1 := (21, [zR 97, .inl a1, .inl a2], [])) 1 hz zp_180 (fh_180 a2 (hf_199_97 M a1) 9999) (by rfl) ?_
    show zH n (0, 0) 200 (21, [zR 97, .inl a1, .inl a2], [.inl (hf_180 M a2 (hf_199_97 M a1) 9999)]) M _
    refine zH_wf_eq (pc := 21) (n' := 24) (t := 28) (L := [zR 97, .inl a1, .inl a2]) (st := []) (x := (hf_180 M a2 (hf_199_97 M a1) 9999)) 0 hz (by rfl) (fun hb => ?_) (fun hb => ?_)
    · have hE := hE.trans (if_pos hb)
      refine zH_w (c' := (29, [zR 97, .inl a1, .inl a2], [.inl 0])) 1 hz rfl ?_
      exact zH_zret hz rfl (hfinP hE)
    · have hE := hE.trans (if_neg hb)
      refine zH_w (c' := (29, [zR 97, .inl a1, .inl a2], [.inl 1])) 2 hz rfl ?_
      exact zH_zret hz rfl (hfinP hE)
noncomputable def hf_203_97 (M : zM) (a1 : Int) (a2 : Int) (a3 : Int) (a4 : Int) : Int × zM :=
  (if (hf_198_97 M a1) = 0 then ((-2), M) else (if (hf_185 M a2) = 0 then ((-2), M) else (if ¬ (hf_200_97 M a3 a4) = 0 then (if (hf_197_97 M) = 0 then (((hf_183_97 (hf_195_97 (hf_195_97 (hf_196_97 M 2 (hf_199_97 M a3) a4 a3) 6 a1) 7 a2) 4).1), ((hf_183_97 (hf_195_97 (hf_195_97 (hf_196_97 M 2 (hf_199_97 M a3) a4 a3) 6 a1) 7 a2) 4).2)) else ((-4), M)) else ((-2), M))))
set_option maxRecDepth 100000 in
theorem fh_203_97 {n : Nat} {M : zM} (a1 : Int) (a2 : Int) (a3 : Int) (a4 : Int) : zH n (0, 0) 203 (0, zini [zR 97, .inl a1, .inl a2, .inl a3, .inl a4] 5, []) M (fun r M' => r = some (.inl (hf_203_97 M a1 a2 a3 a4).1) ∧ M' = (hf_203_97 M a1 a2 a3 a4).2) := by
  have hz := zp_203
  have hE : hf_203_97 M a1 a2 a3 a4 = hf_203_97 M a1 a2 a3 a4 := rfl
  show zH n (0, 0) 203 (0, [zR 97, .inl a1, .inl a2, .inl a3, .inl a4], []) M _
  refine zH_wE (c1 := (5, [zR 97, .inl a1, .inl a2, .inl a3, .inl a4], [])) 2 hz zp_198 (fh_198_97 a1) (by rfl) ?_
  show zH n (0, 0) 203 (5, [zR 97, .inl a1, .inl a2, .inl a3, .inl a4], [.inl (hf_198_97 M a1)]) M _
  refine zH_wf_eq (pc := 5) (n' := 8) (t := 25) (L := [zR 97, .inl a1, .inl a2, .inl a3, .inl a4]) (st := []) (x := (hf_198_97 M a1)) 0 hz (by rfl) (fun hb => ?_) (fun hb => ?_)
  · have hE := hE.trans (if_pos hb)
    exact zH_wr (r := some (.inl (-2))) 1 hz (by rfl) (hfinB hE)
  · have hE := hE.trans (if_neg hb)
    refine zH_wE (c1 := (12, [zR 97, .inl a1, .inl a2, .inl a3, .inl a4], [])) 1 hz zp_185 (fh_185 a2) (by rfl) ?_
    show zH n (0, 0) 203 (12, [zR 97, .inl a1, .inl a2, .inl a3, .inl a4], [.inl (hf_185 M a2)]) M _
    refine zH_wf_eq (pc := 12) (n' := 15) (t := 25) (L := [zR 97, .inl a1, .inl a2, .inl a3, .inl a4]) (st := []) (x := (hf_185 M a2)) 0 hz (by rfl) (fun hb => ?_) (fun hb => ?_)
    · have hE := hE.trans (if_pos hb)
      exact zH_wr (r := some (.inl (-2))) 1 hz (by rfl) (hfinB hE)
    · have hE := hE.trans (if_neg hb)
      refine zH_wE (c1 := (22, [zR 97, .inl a1, .inl a2, .inl a3, .inl a4], [])) 3 hz zp_200 (fh_200_97 a3 a4) (by rfl) ?_
      show zH n (0, 0) 203 (22, [zR 97, .inl a1, .inl a2, .inl a3, .inl a4], [.inl (hf_200_97 M a3 a4)]) M _
      refine zH_wf_ne (pc := 22) (n' := 25) (t := 28) (L := [zR 97, .inl a1, .inl a2, .inl a3, .inl a4]) (st := []) (x := (hf_200_97 M a3 a4)) 0 hz (by rfl) (fun hb => ?_) (fun hb => ?_)
      · have hE := hE.trans (if_pos hb)
        refine zH_wE (c1 := (32, [zR 97, .inl a1, .inl a2, .inl a3, .inl a4], [])) 1 hz zp_197 (fh_197_97) (by rfl) ?_
        show zH n (0, 0) 203 (32, [zR 97, .inl a1, .inl a2, .inl a3, .inl a4], [.inl (hf_197_97 M)]) M _
        refine zH_wf_eq (pc := 32) (n' := 35) (t := 38) (L := [zR 97, .inl a1, .inl a2, .inl a3, .inl a4]) (st := []) (x := (hf_197_97 M)) 0 hz (by rfl) (fun hb => ?_) (fun hb => ?_)
        · have hE := hE.trans (if_pos hb)
          refine zH_wE (c1 := (45, [zR 97, .inl a1, .inl a2, .inl a3, .inl a4], [.inl 2, zR 97])) 4 hz zp_199 (fh_199_97 a3) (by rfl) ?_
          show zH n (0, 0) 203 (45, [zR 97, .inl a1, .inl a2, .inl a3, .inl a4], [.inl (hf_199_97 M a3), .inl 2, zR 97]) M _
          refine zH_wW (c1 := (51, [zR 97, .inl a1, .inl a2, .inl a3, .inl a4], [])) 2 hz zp_196 (fh_196_97 2 (hf_199_97 M a3) a4 a3) (by rfl) ?_
          intro N1 hN1
          show zH n (0, 0) 203 (51, [zR 97, .inl a1, .inl a2, .inl a3, .inl a4], []) N1 _
          refine zH_wW (c1 := (58, [zR 97, .inl a1, .inl a2, .inl a3, .inl a4], [])) 3 hz zp_195 (fh_195_97 6 a1) (by rfl) ?_
          intro N2 hN2
          show zH n (0, 0) 203 (58, [zR 97, .inl a1, .inl a2, .inl a3, .inl a4], []) N2 _
          refine zH_wW (c1 := (65, [zR 97, .inl a1, .inl a2, .inl a3, .inl a4], [])) 3 hz zp_195 (fh_195_97 7 a2) (by rfl) ?_
          intro N3 hN3
          show zH n (0, 0) 203 (65, [zR 97, .inl a1, .inl a2, .inl a3, .inl a4], []) N3 _
          refine zH_wB (c1 := (70, [zR 97, .inl a1, .inl a2, .inl a3, .inl a4], [])) 2 hz zp_183 (fh_183_97 4) (by rfl) ?_
          intro u4 N5 hu4 hN5
          show zH n (0, 0) 203 (70, [zR 97, .inl a1, .inl a2, .inl a3, .inl a4], [.inl u4]) N5 _
          subst hN5
          subst hu4
          subst hN3
          subst hN2
          subst hN1
          exact zH_ret hz rfl rfl (hfinB hE)
        · have hE := hE.trans (if_neg hb)
          exact zH_wr (r := some (.inl (-4))) 1 hz (by rfl) (hfinB hE)
      · have hE := hE.trans (if_neg hb)
        exact zH_wr (r := some (.inl (-2))) 1 hz (by rfl) (hfinB hE)
noncomputable def hf_204_97 (M : zM) (a1 : Int) (a2 : Int) (a3 : Int) (a4 : Int) (a5 : Int) (a6 : Int) : Int × zM :=
  (if (hf_182_97 M 0 a1) = 0 then ((-2), M) else (if (hf_180 M a2 1 200) = 0 then ((-2), M) else (if (hf_180 M a3 1 200) = 0 then ((-2), M) else (if (hf_180 M a4 (-50) 50) = 0 then ((-2), M) else (if ¬ (hf_200_97 M a5 a6) = 0 then (if (hf_197_97 M) = 0 then (((hf_183_97 (hf_195_97 (hf_195_97 (hf_195_97 (hf_195_97 (hf_196_97 M 3 (hf_199_97 M a5) a6 a5) 5 a1) 9 a2) 10 a3) 11 a4) 4).1), ((hf_183_97 (hf_195_97 (hf_195_97 (hf_195_97 (hf_195_97 (hf_196_97 M 3 (hf_199_97 M a5) a6 a5) 5 a1) 9 a2) 10 a3) 11 a4) 4).2)) else ((-4), M)) else ((-2), M))))))
set_option maxRecDepth 100000 in
theorem fh_204_97 {n : Nat} {M : zM} (a1 : Int) (a2 : Int) (a3 : Int) (a4 : Int) (a5 : Int) (a6 : Int) : zH n (0, 0) 204 (0, zini [zR 97, .inl a1, .inl a2, .inl a3, .inl a4, .inl a5, .inl a6] 7, []) M (fun r M' => r = some (.inl (hf_204_97 M a1 a2 a3 a4 a5 a6).1) ∧ M' = (hf_204_97 M a1 a2 a3 a4 a5 a6).2) := by
  have hz := zp_204
  have hE : hf_204_97 M a1 a2 a3 a4 a5 a6 = hf_204_97 M a1 a2 a3 a4 a5 a6 := rfl
  show zH n (0, 0) 204 (0, [zR 97, .inl a1, .inl a2, .inl a3, .inl a4, .inl a5, .inl a6], []) M _
  refine zH_wE (c1 := (6, [zR 97, .inl a1, .inl a2, .inl a3, .inl a4, .inl a5, .inl a6], [])) 3 hz zp_182 (fh_182_97 0 a1) (by rfl) ?_
  show zH n (0, 0) 204 (6, [zR 97, .inl a1, .inl a2, .inl a3, .inl a4, .inl a5, .inl a6], [.inl (hf_182_97 M 0 a1)]) M _
  refine zH_wf_eq (pc := 6) (n' := 9) (t := 54) (L := [zR 97, .inl a1, .inl a2, .inl a3, .inl a4, .inl a5, .inl a6]) (st := []) (x := (hf_182_97 M 0 a1)) 0 hz (by rfl) (fun hb => ?_) (fun hb => ?_)
  · have hE := hE.trans (if_pos hb)
    exact zH_wr (r := some (.inl (-2))) 1 hz (by rfl) (hfinB hE)
  · have hE := hE.trans (if_neg hb)
    refine zH_wE (c1 := (17, [zR 97, .inl a1, .inl a2, .inl a3, .inl a4, .inl a5, .inl a6], [])) 3 hz zp_180 (fh_180 a2 1 200) (by rfl) ?_
    show zH n (0, 0) 204 (17, [zR 97, .inl a1, .inl a2, .inl a3, .inl a4, .inl a5, .inl a6], [.inl (hf_180 M a2 1 200)]) M _
    refine zH_wf_eq (pc := 17) (n' := 20) (t := 54) (L := [zR 97, .inl a1, .inl a2, .inl a3, .inl a4, .inl a5, .inl a6]) (st := []) (x := (hf_180 M a2 1 200)) 0 hz (by rfl) (fun hb => ?_) (fun hb => ?_)
    · have hE := hE.trans (if_pos hb)
      exact zH_wr (r := some (.inl (-2))) 1 hz (by rfl) (hfinB hE)
    · have hE := hE.trans (if_neg hb)
      refine zH_wE (c1 := (28, [zR 97, .inl a1, .inl a2, .inl a3, .inl a4, .inl a5, .inl a6], [])) 3 hz zp_180 (fh_180 a3 1 200) (by rfl) ?_
      show zH n (0, 0) 204 (28, [zR 97, .inl a1, .inl a2, .inl a3, .inl a4, .inl a5, .inl a6], [.inl (hf_180 M a3 1 200)]) M _
      refine zH_wf_eq (pc := 28) (n' := 31) (t := 54) (L := [zR 97, .inl a1, .inl a2, .inl a3, .inl a4, .inl a5, .inl a6]) (st := []) (x := (hf_180 M a3 1 200)) 0 hz (by rfl) (fun hb => ?_) (fun hb => ?_)
      · have hE := hE.trans (if_pos hb)
        exact zH_wr (r := some (.inl (-2))) 1 hz (by rfl) (hfinB hE)
      · have hE := hE.trans (if_neg hb)
        refine zH_wE (c1 := (40, [zR 97, .inl a1, .inl a2, .inl a3, .inl a4, .inl a5, .inl a6], [])) 3 hz zp_180 (fh_180 a4 (-50) 50) (by rfl) ?_
        show zH n (0, 0) 204 (40, [zR 97, .inl a1, .inl a2, .inl a3, .inl a4, .inl a5, .inl a6], [.inl (hf_180 M a4 (-50) 50)]) M _
        refine zH_wf_eq (pc := 40) (n' := 43) (t := 54) (L := [zR 97, .inl a1, .inl a2, .inl a3, .inl a4, .inl a5, .inl a6]) (st := []) (x := (hf_180 M a4 (-50) 50)) 0 hz (by rfl) (fun hb => ?_) (fun hb => ?_)
        · have hE := hE.trans (if_pos hb)
          exact zH_wr (r := some (.inl (-2))) 1 hz (by rfl) (hfinB hE)
        · have hE := hE.trans (if_neg hb)
          refine zH_wE (c1 := (51, [zR 97, .inl a1, .inl a2, .inl a3, .inl a4, .inl a5, .inl a6], [])) 3 hz zp_200 (fh_200_97 a5 a6) (by rfl) ?_
          show zH n (0, 0) 204 (51, [zR 97, .inl a1, .inl a2, .inl a3, .inl a4, .inl a5, .inl a6], [.inl (hf_200_97 M a5 a6)]) M _
          refine zH_wf_ne (pc := 51) (n' := 54) (t := 57) (L := [zR 97, .inl a1, .inl a2, .inl a3, .inl a4, .inl a5, .inl a6]) (st := []) (x := (hf_200_97 M a5 a6)) 0 hz (by rfl) (fun hb => ?_) (fun hb => ?_)
          · have hE := hE.trans (if_pos hb)
            refine zH_wE (c1 := (61, [zR 97, .inl a1, .inl a2, .inl a3, .inl a4, .inl a5, .inl a6], [])) 1 hz zp_197 (fh_197_97) (by rfl) ?_
            show zH n (0, 0) 204 (61, [zR 97, .inl a1, .inl a2, .inl a3, .inl a4, .inl a5, .inl a6], [.inl (hf_197_97 M)]) M _
            refine zH_wf_eq (pc := 61) (n' := 64) (t := 67) (L := [zR 97, .inl a1, .inl a2, .inl a3, .inl a4, .inl a5, .inl a6]) (st := []) (x := (hf_197_97 M)) 0 hz (by rfl) (fun hb => ?_) (fun hb => ?_)
            · have hE := hE.trans (if_pos hb)
              refine zH_wE (c1 := (75, [zR 97, .inl a1, .inl a2, .inl a3, .inl a4, .inl a5, .inl a6], [.inl 3, zR 97])) 4 hz zp_199 (fh_199_97 a5) (by rfl) ?_
              show zH n (0, 0) 204 (75, [zR 97, .inl a1, .inl a2, .inl a3, .inl a4, .inl a5, .inl a6], [.inl (hf_199_97 M a5), .inl 3, zR 97]) M _
              refine zH_wW (c1 := (82, [zR 97, .inl a1, .inl a2, .inl a3, .inl a4, .inl a5, .inl a6], [])) 2 hz zp_196 (fh_196_97 3 (hf_199_97 M a5) a6 a5) (by rfl) ?_
              intro N1 hN1
              show zH n (0, 0) 204 (82, [zR 97, .inl a1, .inl a2, .inl a3, .inl a4, .inl a5, .inl a6], []) N1 _
              refine zH_wW (c1 := (88, [zR 97, .inl a1, .inl a2, .inl a3, .inl a4, .inl a5, .inl a6], [])) 3 hz zp_195 (fh_195_97 5 a1) (by rfl) ?_
              intro N2 hN2
              show zH n (0, 0) 204 (88, [zR 97, .inl a1, .inl a2, .inl a3, .inl a4, .inl a5, .inl a6], []) N2 _
              refine zH_wW (c1 := (95, [zR 97, .inl a1, .inl a2, .inl a3, .inl a4, .inl a5, .inl a6], [])) 3 hz zp_195 (fh_195_97 9 a2) (by rfl) ?_
              intro N3 hN3
              show zH n (0, 0) 204 (95, [zR 97, .inl a1, .inl a2, .inl a3, .inl a4, .inl a5, .inl a6], []) N3 _
              refine zH_wW (c1 := (102, [zR 97, .inl a1, .inl a2, .inl a3, .inl a4, .inl a5, .inl a6], [])) 3 hz zp_195 (fh_195_97 10 a3) (by rfl) ?_
              intro N4 hN4
              show zH n (0, 0) 204 (102, [zR 97, .inl a1, .inl a2, .inl a3, .inl a4, .inl a5, .inl a6], []) N4 _
              refine zH_wW (c1 := (110, [zR 97, .inl a1, .inl a2, .inl a3, .inl a4, .inl a5, .inl a6], [])) 3 hz zp_195 (fh_195_97 11 a4) (by rfl) ?_
              intro N5 hN5
              show zH n (0, 0) 204 (110, [zR 97, .inl a1, .inl a2, .inl a3, .inl a4, .inl a5, .inl a6], []) N5 _
              refine zH_wB (c1 := (115, [zR 97, .inl a1, .inl a2, .inl a3, .inl a4, .inl a5, .inl a6], [])) 2 hz zp_183 (fh_183_97 4) (by rfl) ?_
              intro u6 N7 hu6 hN7
              show zH n (0, 0) 204 (115, [zR 97, .inl a1, .inl a2, .inl a3, .inl a4, .inl a5, .inl a6], [.inl u6]) N7 _
              subst hN7
              subst hu6
              subst hN5
              subst hN4
              subst hN3
              subst hN2
              subst hN1
              exact zH_ret hz rfl rfl (hfinB hE)
            · have hE := hE.trans (if_neg hb)
              exact zH_wr (r := some (.inl (-4))) 1 hz (by rfl) (hfinB hE)
          · have hE := hE.trans (if_neg hb)
            exact zH_wr (r := some (.inl (-2))) 1 hz (by rfl) (hfinB hE)
noncomputable def hf_205_97 (M : zM) (a1 : Int) (a2 : Int) (a3 : Int) (a4 : Int) : Int × zM :=
  (if (hf_182_97 M 1 a1) = 0 then ((-2), M) else (if (hf_182_97 M 0 a2) = 0 then ((-2), M) else (if ¬ (hf_200_97 M a3 a4) = 0 then (if (hf_197_97 M) = 0 then (((hf_183_97 (hf_195_97 (hf_195_97 (hf_196_97 M 4 (hf_199_97 M a3) a4 a3) 4 a1) 5 a2) 4).1), ((hf_183_97 (hf_195_97 (hf_195_97 (hf_196_97 M 4 (hf_199_97 M a3) a4 a3) 4 a1) 5 a2) 4).2)) else ((-4), M)) else ((-2), M))))
set_option maxRecDepth 100000 in
theorem fh_205_97 {n : Nat} {M : zM} (a1 : Int) (a2 : Int) (a3 : Int) (a4 : Int) : zH n (0, 0) 205 (0, zini [zR 97, .inl a1, .inl a2, .inl a3, .inl a4] 5, []) M (fun r M' => r = some (.inl (hf_205_97 M a1 a2 a3 a4).1) ∧ M' = (hf_205_97 M a1 a2 a3 a4).2) := by
  have hz := zp_205
  have hE : hf_205_97 M a1 a2 a3 a4 = hf_205_97 M a1 a2 a3 a4 := rfl
  show zH n (0, 0) 205 (0, [zR 97, .inl a1, .inl a2, .inl a3, .inl a4], []) M _
  refine zH_wE (c1 := (6, [zR 97, .inl a1, .inl a2, .inl a3, .inl a4], [])) 3 hz zp_182 (fh_182_97 1 a1) (by rfl) ?_
  show zH n (0, 0) 205 (6, [zR 97, .inl a1, .inl a2, .inl a3, .inl a4], [.inl (hf_182_97 M 1 a1)]) M _
  refine zH_wf_eq (pc := 6) (n' := 9) (t := 28) (L := [zR 97, .inl a1, .inl a2, .inl a3, .inl a4]) (st := []) (x := (hf_182_97 M 1 a1)) 0 hz (by rfl) (fun hb => ?_) (fun hb => ?_)
  · have hE := hE.trans (if_pos hb)
    exact zH_wr (r := some (.inl (-2))) 1 hz (by rfl) (hfinB hE)
  · have hE := hE.trans (if_neg hb)
    refine zH_wE (c1 := (15, [zR 97, .inl a1, .inl a2, .inl a3, .inl a4], [])) 3 hz zp_182 (fh_182_97 0 a2) (by rfl) ?_
    show zH n (0, 0) 205 (15, [zR 97, .inl a1, .inl a2, .inl a3, .inl a4], [.inl (hf_182_97 M 0 a2)]) M _
    refine zH_wf_eq (pc := 15) (n' := 18) (t := 28) (L := [zR 97, .inl a1, .inl a2, .inl a3, .inl a4]) (st := []) (x := (hf_182_97 M 0 a2)) 0 hz (by rfl) (fun hb => ?_) (fun hb => ?_)
    · have hE := hE.trans (if_pos hb)
      exact zH_wr (r := some (.inl (-2))) 1 hz (by rfl) (hfinB hE)
    · have hE := hE.trans (if_neg hb)
      refine zH_wE (c1 := (25, [zR 97, .inl a1, .inl a2, .inl a3, .inl a4], [])) 3 hz zp_200 (fh_200_97 a3 a4) (by rfl) ?_
      show zH n (0, 0) 205 (25, [zR 97, .inl a1, .inl a2, .inl a3, .inl a4], [.inl (hf_200_97 M a3 a4)]) M _
      refine zH_wf_ne (pc := 25) (n' := 28) (t := 31) (L := [zR 97, .inl a1, .inl a2, .inl a3, .inl a4]) (st := []) (x := (hf_200_97 M a3 a4)) 0 hz (by rfl) (fun hb => ?_) (fun hb => ?_)
      · have hE := hE.trans (if_pos hb)
        refine zH_wE (c1 := (35, [zR 97, .inl a1, .inl a2, .inl a3, .inl a4], [])) 1 hz zp_197 (fh_197_97) (by rfl) ?_
        show zH n (0, 0) 205 (35, [zR 97, .inl a1, .inl a2, .inl a3, .inl a4], [.inl (hf_197_97 M)]) M _
        refine zH_wf_eq (pc := 35) (n' := 38) (t := 41) (L := [zR 97, .inl a1, .inl a2, .inl a3, .inl a4]) (st := []) (x := (hf_197_97 M)) 0 hz (by rfl) (fun hb => ?_) (fun hb => ?_)
        · have hE := hE.trans (if_pos hb)
          refine zH_wE (c1 := (48, [zR 97, .inl a1, .inl a2, .inl a3, .inl a4], [.inl 4, zR 97])) 4 hz zp_199 (fh_199_97 a3) (by rfl) ?_
          show zH n (0, 0) 205 (48, [zR 97, .inl a1, .inl a2, .inl a3, .inl a4], [.inl (hf_199_97 M a3), .inl 4, zR 97]) M _
          refine zH_wW (c1 := (54, [zR 97, .inl a1, .inl a2, .inl a3, .inl a4], [])) 2 hz zp_196 (fh_196_97 4 (hf_199_97 M a3) a4 a3) (by rfl) ?_
          intro N1 hN1
          show zH n (0, 0) 205 (54, [zR 97, .inl a1, .inl a2, .inl a3, .inl a4], []) N1 _
          refine zH_wW (c1 := (60, [zR 97, .inl a1, .inl a2, .inl a3, .inl a4], [])) 3 hz zp_195 (fh_195_97 4 a1) (by rfl) ?_
          intro N2 hN2
          show zH n (0, 0) 205 (60, [zR 97, .inl a1, .inl a2, .inl a3, .inl a4], []) N2 _
          refine zH_wW (c1 := (66, [zR 97, .inl a1, .inl a2, .inl a3, .inl a4], [])) 3 hz zp_195 (fh_195_97 5 a2) (by rfl) ?_
          intro N3 hN3
          show zH n (0, 0) 205 (66, [zR 97, .inl a1, .inl a2, .inl a3, .inl a4], []) N3 _
          refine zH_wB (c1 := (71, [zR 97, .inl a1, .inl a2, .inl a3, .inl a4], [])) 2 hz zp_183 (fh_183_97 4) (by rfl) ?_
          intro u4 N5 hu4 hN5
          show zH n (0, 0) 205 (71, [zR 97, .inl a1, .inl a2, .inl a3, .inl a4], [.inl u4]) N5 _
          subst hN5
          subst hu4
          subst hN3
          subst hN2
          subst hN1
          exact zH_ret hz rfl rfl (hfinB hE)
        · have hE := hE.trans (if_neg hb)
          exact zH_wr (r := some (.inl (-4))) 1 hz (by rfl) (hfinB hE)
      · have hE := hE.trans (if_neg hb)
        exact zH_wr (r := some (.inl (-2))) 1 hz (by rfl) (hfinB hE)
noncomputable def hf_206_97 (M : zM) (a1 : Int) (a2 : Int) (a3 : Int) : Int × zM :=
  (if (hf_182_97 M 4 a1) = 0 then ((-2), M) else (if ¬ (hf_200_97 M a2 a3) = 0 then (if (hf_197_97 M) = 0 then (((hf_183_97 (hf_195_97 (hf_196_97 M 5 (hf_199_97 M a2) a3 a2) 6 a1) 4).1), ((hf_183_97 (hf_195_97 (hf_196_97 M 5 (hf_199_97 M a2) a3 a2) 6 a1) 4).2)) else ((-4), M)) else ((-2), M)))
set_option maxRecDepth 100000 in
theorem fh_206_97 {n : Nat} {M : zM} (a1 : Int) (a2 : Int) (a3 : Int) : zH n (0, 0) 206 (0, zini [zR 97, .inl a1, .inl a2, .inl a3] 4, []) M (fun r M' => r = some (.inl (hf_206_97 M a1 a2 a3).1) ∧ M' = (hf_206_97 M a1 a2 a3).2) := by
  have hz := zp_206
  have hE : hf_206_97 M a1 a2 a3 = hf_206_97 M a1 a2 a3 := rfl
  show zH n (0, 0) 206 (0, [zR 97, .inl a1, .inl a2, .inl a3], []) M _
  refine zH_wE (c1 := (6, [zR 97, .inl a1, .inl a2, .inl a3], [])) 3 hz zp_182 (fh_182_97 4 a1) (by rfl) ?_
  show zH n (0, 0) 206 (6, [zR 97, .inl a1, .inl a2, .inl a3], [.inl (hf_182_97 M 4 a1)]) M _
  refine zH_wf_eq (pc := 6) (n' := 9) (t := 18) (L := [zR 97, .inl a1, .inl a2, .inl a3]) (st := []) (x := (hf_182_97 M 4 a1)) 0 hz (by rfl) (fun hb => ?_) (fun hb => ?_)
  · have hE := hE.trans (if_pos hb)
    exact zH_wr (r := some (.inl (-2))) 1 hz (by rfl) (hfinB hE)
  · have hE := hE.trans (if_neg hb)
    refine zH_wE (c1 := (15, [zR 97, .inl a1, .inl a2, .inl a3], [])) 3 hz zp_200 (fh_200_97 a2 a3) (by rfl) ?_
    show zH n (0, 0) 206 (15, [zR 97, .inl a1, .inl a2, .inl a3], [.inl (hf_200_97 M a2 a3)]) M _
    refine zH_wf_ne (pc := 15) (n' := 18) (t := 21) (L := [zR 97, .inl a1, .inl a2, .inl a3]) (st := []) (x := (hf_200_97 M a2 a3)) 0 hz (by rfl) (fun hb => ?_) (fun hb => ?_)
    · have hE := hE.trans (if_pos hb)
      refine zH_wE (c1 := (25, [zR 97, .inl a1, .inl a2, .inl a3], [])) 1 hz zp_197 (fh_197_97) (by rfl) ?_
      show zH n (0, 0) 206 (25, [zR 97, .inl a1, .inl a2, .inl a3], [.inl (hf_197_97 M)]) M _
      refine zH_wf_eq (pc := 25) (n' := 28) (t := 31) (L := [zR 97, .inl a1, .inl a2, .inl a3]) (st := []) (x := (hf_197_97 M)) 0 hz (by rfl) (fun hb => ?_) (fun hb => ?_)
      · have hE := hE.trans (if_pos hb)
        refine zH_wE (c1 := (38, [zR 97, .inl a1, .inl a2, .inl a3], [.inl 5, zR 97])) 4 hz zp_199 (fh_199_97 a2) (by rfl) ?_
        show zH n (0, 0) 206 (38, [zR 97, .inl a1, .inl a2, .inl a3], [.inl (hf_199_97 M a2), .inl 5, zR 97]) M _
        refine zH_wW (c1 := (43, [zR 97, .inl a1, .inl a2, .inl a3], [])) 2 hz zp_196 (fh_196_97 5 (hf_199_97 M a2) a3 a2) (by rfl) ?_
        intro N1 hN1
        show zH n (0, 0) 206 (43, [zR 97, .inl a1, .inl a2, .inl a3], []) N1 _
        refine zH_wW (c1 := (50, [zR 97, .inl a1, .inl a2, .inl a3], [])) 3 hz zp_195 (fh_195_97 6 a1) (by rfl) ?_
        intro N2 hN2
        show zH n (0, 0) 206 (50, [zR 97, .inl a1, .inl a2, .inl a3], []) N2 _
        refine zH_wB (c1 := (55, [zR 97, .inl a1, .inl a2, .inl a3], [])) 2 hz zp_183 (fh_183_97 4) (by rfl) ?_
        intro u3 N4 hu3 hN4
        show zH n (0, 0) 206 (55, [zR 97, .inl a1, .inl a2, .inl a3], [.inl u3]) N4 _
        subst hN4
        subst hu3
        subst hN2
        subst hN1
        exact zH_ret hz rfl rfl (hfinB hE)
      · have hE := hE.trans (if_neg hb)
        exact zH_wr (r := some (.inl (-4))) 1 hz (by rfl) (hfinB hE)
    · have hE := hE.trans (if_neg hb)
      exact zH_wr (r := some (.inl (-2))) 1 hz (by rfl) (hfinB hE)
noncomputable def hf_207_97 (M : zM) (a1 : Int) (a2 : Int) (a3 : Int) : Int × zM :=
  (if (hf_182_97 M 1 a1) = 0 then ((-2), M) else (if ¬ (hf_200_97 M a2 a3) = 0 then (if (hf_197_97 M) = 0 then (((hf_183_97 (hf_195_97 (hf_196_97 M 6 (hf_199_97 M a2) a3 a2) 4 a1) 4).1), ((hf_183_97 (hf_195_97 (hf_196_97 M 6 (hf_199_97 M a2) a3 a2) 4 a1) 4).2)) else ((-4), M)) else ((-2), M)))
set_option maxRecDepth 100000 in
theorem fh_207_97 {n : Nat} {M : zM} (a1 : Int) (a2 : Int) (a3 : Int) : zH n (0, 0) 207 (0, zini [zR 97, .inl a1, .inl a2, .inl a3] 4, []) M (fun r M' => r = some (.inl (hf_207_97 M a1 a2 a3).1) ∧ M' = (hf_207_97 M a1 a2 a3).2) := by
  have hz := zp_207
  have hE : hf_207_97 M a1 a2 a3 = hf_207_97 M a1 a2 a3 := rfl
  show zH n (0, 0) 207 (0, [zR 97, .inl a1, .inl a2, .inl a3], []) M _
  refine zH_wE (c1 := (6, [zR 97, .inl a1, .inl a2, .inl a3], [])) 3 hz zp_182 (fh_182_97 1 a1) (by rfl) ?_
  show zH n (0, 0) 207 (6, [zR 97, .inl a1, .inl a2, .inl a3], [.inl (hf_182_97 M 1 a1)]) M _
  refine zH_wf_eq (pc := 6) (n' := 9) (t := 18) (L := [zR 97, .inl a1, .inl a2, .inl a3]) (st := []) (x := (hf_182_97 M 1 a1)) 0 hz (by rfl) (fun hb => ?_) (fun hb => ?_)
  · have hE := hE.trans (if_pos hb)
    exact zH_wr (r := some (.inl (-2))) 1 hz (by rfl) (hfinB hE)
  · have hE := hE.trans (if_neg hb)
    refine zH_wE (c1 := (15, [zR 97, .inl a1, .inl a2, .inl a3], [])) 3 hz zp_200 (fh_200_97 a2 a3) (by rfl) ?_
    show zH n (0, 0) 207 (15, [zR 97, .inl a1, .inl a2, .inl a3], [.inl (hf_200_97 M a2 a3)]) M _
    refine zH_wf_ne (pc := 15) (n' := 18) (t := 21) (L := [zR 97, .inl a1, .inl a2, .inl a3]) (st := []) (x := (hf_200_97 M a2 a3)) 0 hz (by rfl) (fun hb => ?_) (fun hb => ?_)
    · have hE := hE.trans (if_pos hb)
      refine zH_wE (c1 := (25, [zR 97, .inl a1, .inl a2, .inl a3], [])) 1 hz zp_197 (fh_197_97) (by rfl) ?_
      show zH n (0, 0) 207 (25, [zR 97, .inl a1, .inl a2, .inl a3], [.inl (hf_197_97 M)]) M _
      refine zH_wf_eq (pc := 25) (n' := 28) (t := 31) (L := [zR 97, .inl a1, .inl a2, .inl a3]) (st := []) (x := (hf_197_97 M)) 0 hz (by rfl) (fun hb => ?_) (fun hb => ?_)
      · have hE := hE.trans (if_pos hb)
        refine zH_wE (c1 := (39, [zR 97, .inl a1, .inl a2, .inl a3], [.inl 6, zR 97])) 4 hz zp_199 (fh_199_97 a2) (by rfl) ?_
        show zH n (0, 0) 207 (39, [zR 97, .inl a1, .inl a2, .inl a3], [.inl (hf_199_97 M a2), .inl 6, zR 97]) M _
        refine zH_wW (c1 := (44, [zR 97, .inl a1, .inl a2, .inl a3], [])) 2 hz zp_196 (fh_196_97 6 (hf_199_97 M a2) a3 a2) (by rfl) ?_
        intro N1 hN1
        show zH n (0, 0) 207 (44, [zR 97, .inl a1, .inl a2, .inl a3], []) N1 _
        refine zH_wW (c1 := (50, [zR 97, .inl a1, .inl a2, .inl a3], [])) 3 hz zp_195 (fh_195_97 4 a1) (by rfl) ?_
        intro N2 hN2
        show zH n (0, 0) 207 (50, [zR 97, .inl a1, .inl a2, .inl a3], []) N2 _
        refine zH_wB (c1 := (55, [zR 97, .inl a1, .inl a2, .inl a3], [])) 2 hz zp_183 (fh_183_97 4) (by rfl) ?_
        intro u3 N4 hu3 hN4
        show zH n (0, 0) 207 (55, [zR 97, .inl a1, .inl a2, .inl a3], [.inl u3]) N4 _
        subst hN4
        subst hu3
        subst hN2
        subst hN1
        exact zH_ret hz rfl rfl (hfinB hE)
      · have hE := hE.trans (if_neg hb)
        exact zH_wr (r := some (.inl (-4))) 1 hz (by rfl) (hfinB hE)
    · have hE := hE.trans (if_neg hb)
      exact zH_wr (r := some (.inl (-2))) 1 hz (by rfl) (hfinB hE)
noncomputable def hf_208_97 (M : zM) (a1 : Int) (a2 : Int) : Int × zM :=
  (if (hf_182_97 M 4 a1) = 0 then ((-2), M) else (if ¬ (hf_184 M a2) = 0 then (if (hf_194_97 M a1 3) = (-1) then ((-3), M) else (if ¬ (hf_180 M (w32 (a2 - (hf_194_97 M a1 1))) 0 (M 98 (7 : Int).toNat)) = 0 then (if (hf_197_97 M) = 0 then (((hf_183_97 (hf_195_97 (hf_196_97 M 5 a2 a2 (-1)) 6 a1) 4).1), ((hf_183_97 (hf_195_97 (hf_196_97 M 5 a2 a2 (-1)) 6 a1) 4).2)) else ((-4), M)) else ((-3), M))) else ((-2), M)))
set_option maxRecDepth 100000 in
theorem fh_208_97 {n : Nat} {M : zM} (a1 : Int) (a2 : Int) : zH n (0, 0) 208 (0, zini [zR 97, .inl a1, .inl a2] 3, []) M (fun r M' => r = some (.inl (hf_208_97 M a1 a2).1) ∧ M' = (hf_208_97 M a1 a2).2) := by
  have hz := zp_208
  have hE : hf_208_97 M a1 a2 = hf_208_97 M a1 a2 := rfl
  show zH n (0, 0) 208 (0, [zR 97, .inl a1, .inl a2], []) M _
  refine zH_wE (c1 := (6, [zR 97, .inl a1, .inl a2], [])) 3 hz zp_182 (fh_182_97 4 a1) (by rfl) ?_
  show zH n (0, 0) 208 (6, [zR 97, .inl a1, .inl a2], [.inl (hf_182_97 M 4 a1)]) M _
  refine zH_wf_eq (pc := 6) (n' := 9) (t := 16) (L := [zR 97, .inl a1, .inl a2]) (st := []) (x := (hf_182_97 M 4 a1)) 0 hz (by rfl) (fun hb => ?_) (fun hb => ?_)
  · have hE := hE.trans (if_pos hb)
    exact zH_wr (r := some (.inl (-2))) 1 hz (by rfl) (hfinB hE)
  · have hE := hE.trans (if_neg hb)
    refine zH_wE (c1 := (13, [zR 97, .inl a1, .inl a2], [])) 1 hz zp_184 (fh_184 a2) (by rfl) ?_
    show zH n (0, 0) 208 (13, [zR 97, .inl a1, .inl a2], [.inl (hf_184 M a2)]) M _
    refine zH_wf_ne (pc := 13) (n' := 16) (t := 19) (L := [zR 97, .inl a1, .inl a2]) (st := []) (x := (hf_184 M a2)) 0 hz (by rfl) (fun hb => ?_) (fun hb => ?_)
    · have hE := hE.trans (if_pos hb)
      refine zH_wE (c1 := (25, [zR 97, .inl a1, .inl a2], [])) 3 hz zp_194 (fh_194_97 a1 3) (by rfl) ?_
      show zH n (0, 0) 208 (25, [zR 97, .inl a1, .inl a2], [.inl (hf_194_97 M a1 3)]) M _
      refine zH_wi_eq (pc := 26) (n' := 29) (t := 51) (L := [zR 97, .inl a1, .inl a2]) (st := []) (x := (hf_194_97 M a1 3)) (y := (-1)) 1 hz (by rfl) (fun hb => ?_) (fun hb => ?_)
      · have hE := hE.trans (if_pos hb)
        exact zH_wr (r := some (.inl (-3))) 1 hz (by rfl) (hfinB hE)
      · have hE := hE.trans (if_neg hb)
        refine zH_wE (c1 := (36, [zR 97, .inl a1, .inl a2], [.inl a2])) 4 hz zp_194 (fh_194_97 a1 1) (by rfl) ?_
        show zH n (0, 0) 208 (36, [zR 97, .inl a1, .inl a2], [.inl (hf_194_97 M a1 1), .inl a2]) M _
        refine zH_w (c' := (44, [zR 97, .inl a1, .inl a2], [.inl 7, zR 98, .inl 0, .inl (w32 (a2 - (hf_194_97 M a1 1)))])) 5 hz rfl ?_
        refine zH_iald hz rfl rfl (.inl rfl) (fun _ => ?_)
        show zH n (0, 0) 208 (45, [zR 97, .inl a1, .inl a2], [.inl (M 98 (7 : Int).toNat), .inl 0, .inl (w32 (a2 - (hf_194_97 M a1 1)))]) M _
        refine zH_wE (c1 := (48, [zR 97, .inl a1, .inl a2], [])) 0 hz zp_180 (fh_180 (w32 (a2 - (hf_194_97 M a1 1))) 0 (M 98 (7 : Int).toNat)) (by rfl) ?_
        show zH n (0, 0) 208 (48, [zR 97, .inl a1, .inl a2], [.inl (hf_180 M (w32 (a2 - (hf_194_97 M a1 1))) 0 (M 98 (7 : Int).toNat))]) M _
        refine zH_wf_ne (pc := 48) (n' := 51) (t := 54) (L := [zR 97, .inl a1, .inl a2]) (st := []) (x := (hf_180 M (w32 (a2 - (hf_194_97 M a1 1))) 0 (M 98 (7 : Int).toNat))) 0 hz (by rfl) (fun hb => ?_) (fun hb => ?_)
        · have hE := hE.trans (if_pos hb)
          refine zH_wE (c1 := (58, [zR 97, .inl a1, .inl a2], [])) 1 hz zp_197 (fh_197_97) (by rfl) ?_
          show zH n (0, 0) 208 (58, [zR 97, .inl a1, .inl a2], [.inl (hf_197_97 M)]) M _
          refine zH_wf_eq (pc := 58) (n' := 61) (t := 64) (L := [zR 97, .inl a1, .inl a2]) (st := []) (x := (hf_197_97 M)) 0 hz (by rfl) (fun hb => ?_) (fun hb => ?_)
          · have hE := hE.trans (if_pos hb)
            refine zH_wW (c1 := (72, [zR 97, .inl a1, .inl a2], [])) 5 hz zp_196 (fh_196_97 5 a2 a2 (-1)) (by rfl) ?_
            intro N1 hN1
            show zH n (0, 0) 208 (72, [zR 97, .inl a1, .inl a2], []) N1 _
            refine zH_wW (c1 := (79, [zR 97, .inl a1, .inl a2], [])) 3 hz zp_195 (fh_195_97 6 a1) (by rfl) ?_
            intro N2 hN2
            show zH n (0, 0) 208 (79, [zR 97, .inl a1, .inl a2], []) N2 _
            refine zH_wB (c1 := (84, [zR 97, .inl a1, .inl a2], [])) 2 hz zp_183 (fh_183_97 4) (by rfl) ?_
            intro u3 N4 hu3 hN4
            show zH n (0, 0) 208 (84, [zR 97, .inl a1, .inl a2], [.inl u3]) N4 _
            subst hN4
            subst hu3
            subst hN2
            subst hN1
            exact zH_ret hz rfl rfl (hfinB hE)
          · have hE := hE.trans (if_neg hb)
            exact zH_wr (r := some (.inl (-4))) 1 hz (by rfl) (hfinB hE)
        · have hE := hE.trans (if_neg hb)
          exact zH_wr (r := some (.inl (-3))) 1 hz (by rfl) (hfinB hE)
    · have hE := hE.trans (if_neg hb)
      exact zH_wr (r := some (.inl (-2))) 1 hz (by rfl) (hfinB hE)
noncomputable def hf_209_97 (M : zM) (a1 : Int) : Int × zM :=
  (if ¬ (hf_180 M a1 0 1000) = 0 then (M 98 (7 : Int).toNat, zput M 98 (7 : Int).toNat a1) else ((-2), M))
set_option maxRecDepth 100000 in
theorem fh_209_97 {n : Nat} {M : zM} (a1 : Int) : zH n (0, 0) 209 (0, zini [zR 97, .inl a1] 3, []) M (fun r M' => r = some (.inl (hf_209_97 M a1).1) ∧ M' = (hf_209_97 M a1).2) := by
  have hz := zp_209
  have hE : hf_209_97 M a1 = hf_209_97 M a1 := rfl
  show zH n (0, 0) 209 (0, [zR 97, .inl a1, zN], []) M _
  refine zH_wE (c1 := (8, [zR 97, .inl a1, zN], [])) 3 hz zp_180 (fh_180 a1 0 1000) (by rfl) ?_
  show zH n (0, 0) 209 (8, [zR 97, .inl a1, zN], [.inl (hf_180 M a1 0 1000)]) M _
  refine zH_wf_ne (pc := 8) (n' := 11) (t := 14) (L := [zR 97, .inl a1, zN]) (st := []) (x := (hf_180 M a1 0 1000)) 0 hz (by rfl) (fun hb => ?_) (fun hb => ?_)
  · have hE := hE.trans (if_pos hb)
    refine zH_w (c' := (20, [zR 97, .inl a1, zN], [.inl 7, zR 98])) 3 hz rfl ?_
    refine zH_iald hz rfl rfl (.inl rfl) (fun _ => ?_)
    show zH n (0, 0) 209 (21, [zR 97, .inl a1, zN], [.inl (M 98 (7 : Int).toNat)]) M _
    refine zH_w (c' := (29, [zR 97, .inl a1, .inl (M 98 (7 : Int).toNat)], [.inl a1, .inl 7, zR 98])) 5 hz rfl ?_
    refine zH_iast hz rfl rfl (fun _ => ?_)
    show zH n (0, 0) 209 (30, [zR 97, .inl a1, .inl (M 98 (7 : Int).toNat)], []) (zput M 98 (7 : Int).toNat a1) _
    exact zH_wr (r := some (.inl (M 98 (7 : Int).toNat))) 1 hz (by rfl) (hfinB hE)
  · have hE := hE.trans (if_neg hb)
    exact zH_wr (r := some (.inl (-2))) 1 hz (by rfl) (hfinB hE)
noncomputable def hf_210_97 (M : zM) (a1 : Int) (a2 : Int) : Int :=
  (if (hf_182_97 M 4 a1) = 0 then (-2) else (if (hf_180 M a2 0 7) = 0 then (-2) else (hf_194_97 M a1 a2)))
set_option maxRecDepth 100000 in
theorem fh_210_97 {n : Nat} {M : zM} (a1 : Int) (a2 : Int) : zH n (0, 0) 210 (0, zini [zR 97, .inl a1, .inl a2] 3, []) M (fun r M' => r = some (.inl (hf_210_97 M a1 a2)) ∧ M' = M) := by
  have hz := zp_210
  have hE : hf_210_97 M a1 a2 = hf_210_97 M a1 a2 := rfl
  show zH n (0, 0) 210 (0, [zR 97, .inl a1, .inl a2], []) M _
  refine zH_wE (c1 := (6, [zR 97, .inl a1, .inl a2], [])) 3 hz zp_182 (fh_182_97 4 a1) (by rfl) ?_
  show zH n (0, 0) 210 (6, [zR 97, .inl a1, .inl a2], [.inl (hf_182_97 M 4 a1)]) M _
  refine zH_wf_eq (pc := 6) (n' := 9) (t := 28) (L := [zR 97, .inl a1, .inl a2]) (st := []) (x := (hf_182_97 M 4 a1)) 0 hz (by rfl) (fun hb => ?_) (fun hb => ?_)
  · have hE := hE.trans (if_pos hb)
    exact zH_wr (r := some (.inl (-2))) 1 hz (by rfl) (hfinP hE)
  · have hE := hE.trans (if_neg hb)
    refine zH_wE (c1 := (16, [zR 97, .inl a1, .inl a2], [])) 3 hz zp_180 (fh_180 a2 0 7) (by rfl) ?_
    show zH n (0, 0) 210 (16, [zR 97, .inl a1, .inl a2], [.inl (hf_180 M a2 0 7)]) M _
    refine zH_wf_eq (pc := 16) (n' := 19) (t := 28) (L := [zR 97, .inl a1, .inl a2]) (st := []) (x := (hf_180 M a2 0 7)) 0 hz (by rfl) (fun hb => ?_) (fun hb => ?_)
    · have hE := hE.trans (if_pos hb)
      exact zH_wr (r := some (.inl (-2))) 1 hz (by rfl) (hfinP hE)
    · have hE := hE.trans (if_neg hb)
      refine zH_wE (c1 := (25, [zR 97, .inl a1, .inl a2], [])) 3 hz zp_194 (fh_194_97 a1 a2) (by rfl) ?_
      show zH n (0, 0) 210 (25, [zR 97, .inl a1, .inl a2], [.inl (hf_194_97 M a1 a2)]) M _
      exact zH_wr (r := some (.inl (hf_194_97 M a1 a2))) 1 hz (by rfl) (hfinP hE)
noncomputable def hf_252 (M : zM) (a0 : Int) : Int :=
  (hf_180 M a0 0 7)
set_option maxRecDepth 100000 in
theorem fh_252 {n : Nat} {M : zM} (a0 : Int) : zH n (0, 0) 252 (0, zini [.inl a0] 1, []) M (fun r M' => r = some (.inl (hf_252 M a0)) ∧ M' = M) := by
  have hz := zp_252
  have hE : hf_252 M a0 = hf_252 M a0 := rfl
  show zH n (0, 0) 252 (0, [.inl a0], []) M _
  refine zH_wE (c1 := (7, [.inl a0], [])) 3 hz zp_180 (fh_180 a0 0 7) (by rfl) ?_
  show zH n (0, 0) 252 (7, [.inl a0], [.inl (hf_180 M a0 0 7)]) M _
  exact zH_zret hz rfl (hfinP hE)
noncomputable def hf_253_97 (M : zM) (a1 : Int) (a2 : Int) : Int × zM :=
  (if (hf_252 M a1) = 0 then ((-2), M) else (if ¬ (hf_180 M a2 0 127) = 0 then (if ¬ (M 98 (w32 (3350 + (w32 (81 * a1))) : Int).toNat) = 80 then ((zput (zput M 98 (w32 (3350 + (w32 (81 * a1))) : Int).toNat (w32 ((M 98 (w32 (3350 + (w32 (81 * a1))) : Int).toNat) + 1))) 98 (w32 ((w32 (3350 + (w32 (81 * a1)))) + ((zput M 98 (w32 (3350 + (w32 (81 * a1))) : Int).toNat (w32 ((M 98 (w32 (3350 + (w32 (81 * a1))) : Int).toNat) + 1))) 98 (w32 (3350 + (w32 (81 * a1))) : Int).toNat)) : Int).toNat a2) 98 (w32 (3350 + (w32 (81 * a1))) : Int).toNat, zput (zput M 98 (w32 (3350 + (w32 (81 * a1))) : Int).toNat (w32 ((M 98 (w32 (3350 + (w32 (81 * a1))) : Int).toNat) + 1))) 98 (w32 ((w32 (3350 + (w32 (81 * a1)))) + ((zput M 98 (w32 (3350 + (w32 (81 * a1))) : Int).toNat (w32 ((M 98 (w32 (3350 + (w32 (81 * a1))) : Int).toNat) + 1))) 98 (w32 (3350 + (w32 (81 * a1))) : Int).toNat)) : Int).toNat a2) else ((-4), M)) else ((-2), M)))
set_option maxRecDepth 100000 in
theorem fh_253_97 {n : Nat} {M : zM} (a1 : Int) (a2 : Int) : zH n (0, 0) 253 (0, zini [zR 97, .inl a1, .inl a2] 4, []) M (fun r M' => r = some (.inl (hf_253_97 M a1 a2).1) ∧ M' = (hf_253_97 M a1 a2).2) := by
  have hz := zp_253
  have hE : hf_253_97 M a1 a2 = hf_253_97 M a1 a2 := rfl
  show zH n (0, 0) 253 (0, [zR 97, .inl a1, .inl a2, zN], []) M _
  refine zH_wE (c1 := (4, [zR 97, .inl a1, .inl a2, zN], [])) 1 hz zp_252 (fh_252 a1) (by rfl) ?_
  show zH n (0, 0) 253 (4, [zR 97, .inl a1, .inl a2, zN], [.inl (hf_252 M a1)]) M _
  refine zH_wf_eq (pc := 4) (n' := 7) (t := 17) (L := [zR 97, .inl a1, .inl a2, zN]) (st := []) (x := (hf_252 M a1)) 0 hz (by rfl) (fun hb => ?_) (fun hb => ?_)
  · have hE := hE.trans (if_pos hb)
    exact zH_wr (r := some (.inl (-2))) 1 hz (by rfl) (hfinB hE)
  · have hE := hE.trans (if_neg hb)
    refine zH_wE (c1 := (14, [zR 97, .inl a1, .inl a2, zN], [])) 3 hz zp_180 (fh_180 a2 0 127) (by rfl) ?_
    show zH n (0, 0) 253 (14, [zR 97, .inl a1, .inl a2, zN], [.inl (hf_180 M a2 0 127)]) M _
    refine zH_wf_ne (pc := 14) (n' := 17) (t := 20) (L := [zR 97, .inl a1, .inl a2, zN]) (st := []) (x := (hf_180 M a2 0 127)) 0 hz (by rfl) (fun hb => ?_) (fun hb => ?_)
    · have hE := hE.trans (if_pos hb)
      refine zH_w (c' := (34, [zR 97, .inl a1, .inl a2, .inl (w32 (3350 + (w32 (81 * a1))))], [.inl (w32 (3350 + (w32 (81 * a1)))), zR 98])) 9 hz rfl ?_
      refine zH_iald hz rfl rfl (.inl rfl) (fun _ => ?_)
      show zH n (0, 0) 253 (35, [zR 97, .inl a1, .inl a2, .inl (w32 (3350 + (w32 (81 * a1))))], [.inl (M 98 (w32 (3350 + (w32 (81 * a1))) : Int).toNat)]) M _
      refine zH_wi_ne (pc := 37) (n' := 40) (t := 43) (L := [zR 97, .inl a1, .inl a2, .inl (w32 (3350 + (w32 (81 * a1))))]) (st := []) (x := (M 98 (w32 (3350 + (w32 (81 * a1))) : Int).toNat)) (y := 80) 1 hz (by rfl) (fun hb => ?_) (fun hb => ?_)
      · have hE := hE.trans (if_pos hb)
        refine zH_w (c' := (49, [zR 97, .inl a1, .inl a2, .inl (w32 (3350 + (w32 (81 * a1))))], [.inl (w32 (3350 + (w32 (81 * a1)))), zR 98, .inl (w32 (3350 + (w32 (81 * a1)))), zR 98])) 4 hz rfl ?_
        refine zH_iald hz rfl rfl (.inl rfl) (fun _ => ?_)
        show zH n (0, 0) 253 (50, [zR 97, .inl a1, .inl a2, .inl (w32 (3350 + (w32 (81 * a1))))], [.inl (M 98 (w32 (3350 + (w32 (81 * a1))) : Int).toNat), .inl (w32 (3350 + (w32 (81 * a1)))), zR 98]) M _
        refine zH_w (c' := (52, [zR 97, .inl a1, .inl a2, .inl (w32 (3350 + (w32 (81 * a1))))], [.inl (w32 ((M 98 (w32 (3350 + (w32 (81 * a1))) : Int).toNat) + 1)), .inl (w32 (3350 + (w32 (81 * a1)))), zR 98])) 2 hz rfl ?_
        refine zH_iast hz rfl rfl (fun _ => ?_)
        show zH n (0, 0) 253 (53, [zR 97, .inl a1, .inl a2, .inl (w32 (3350 + (w32 (81 * a1))))], []) (zput M 98 (w32 (3350 + (w32 (81 * a1))) : Int).toNat (w32 ((M 98 (w32 (3350 + (w32 (81 * a1))) : Int).toNat) + 1))) _
        refine zH_w (c' := (63, [zR 97, .inl a1, .inl a2, .inl (w32 (3350 + (w32 (81 * a1))))], [.inl (w32 (3350 + (w32 (81 * a1)))), zR 98, .inl (w32 (3350 + (w32 (81 * a1)))), zR 98])) 6 hz rfl ?_
        refine zH_iald hz rfl rfl (.inl rfl) (fun _ => ?_)
        show zH n (0, 0) 253 (64, [zR 97, .inl a1, .inl a2, .inl (w32 (3350 + (w32 (81 * a1))))], [.inl ((zput M 98 (w32 (3350 + (w32 (81 * a1))) : Int).toNat (w32 ((M 98 (w32 (3350 + (w32 (81 * a1))) : Int).toNat) + 1))) 98 (w32 (3350 + (w32 (81 * a1))) : Int).toNat), .inl (w32 (3350 + (w32 (81 * a1)))), zR 98]) (zput M 98 (w32 (3350 + (w32 (81 * a1))) : Int).toNat (w32 ((M 98 (w32 (3350 + (w32 (81 * a1))) : Int).toNat) + 1))) _
        refine zH_w (c' := (66, [zR 97, .inl a1, .inl a2, .inl (w32 (3350 + (w32 (81 * a1))))], [.inl a2, .inl (w32 ((w32 (3350 + (w32 (81 * a1)))) + ((zput M 98 (w32 (3350 + (w32 (81 * a1))) : Int).toNat (w32 ((M 98 (w32 (3350 + (w32 (81 * a1))) : Int).toNat) + 1))) 98 (w32 (3350 + (w32 (81 * a1))) : Int).toNat))), zR 98])) 2 hz rfl ?_
        refine zH_iast hz rfl rfl (fun _ => ?_)
        show zH n (0, 0) 253 (67, [zR 97, .inl a1, .inl a2, .inl (w32 (3350 + (w32 (81 * a1))))], []) (zput (zput M 98 (w32 (3350 + (w32 (81 * a1))) : Int).toNat (w32 ((M 98 (w32 (3350 + (w32 (81 * a1))) : Int).toNat) + 1))) 98 (w32 ((w32 (3350 + (w32 (81 * a1)))) + ((zput M 98 (w32 (3350 + (w32 (81 * a1))) : Int).toNat (w32 ((M 98 (w32 (3350 + (w32 (81 * a1))) : Int).toNat) + 1))) 98 (w32 (3350 + (w32 (81 * a1))) : Int).toNat)) : Int).toNat a2) _
        refine zH_w (c' := (72, [zR 97, .inl a1, .inl a2, .inl (w32 (3350 + (w32 (81 * a1))))], [.inl (w32 (3350 + (w32 (81 * a1)))), zR 98])) 3 hz rfl ?_
        refine zH_iald hz rfl rfl (.inl rfl) (fun _ => ?_)
        show zH n (0, 0) 253 (73, [zR 97, .inl a1, .inl a2, .inl (w32 (3350 + (w32 (81 * a1))))], [.inl ((zput (zput M 98 (w32 (3350 + (w32 (81 * a1))) : Int).toNat (w32 ((M 98 (w32 (3350 + (w32 (81 * a1))) : Int).toNat) + 1))) 98 (w32 ((w32 (3350 + (w32 (81 * a1)))) + ((zput M 98 (w32 (3350 + (w32 (81 * a1))) : Int).toNat (w32 ((M 98 (w32 (3350 + (w32 (81 * a1))) : Int).toNat) + 1))) 98 (w32 (3350 + (w32 (81 * a1))) : Int).toNat)) : Int).toNat a2) 98 (w32 (3350 + (w32 (81 * a1))) : Int).toNat)]) (zput (zput M 98 (w32 (3350 + (w32 (81 * a1))) : Int).toNat (w32 ((M 98 (w32 (3350 + (w32 (81 * a1))) : Int).toNat) + 1))) 98 (w32 ((w32 (3350 + (w32 (81 * a1)))) + ((zput M 98 (w32 (3350 + (w32 (81 * a1))) : Int).toNat (w32 ((M 98 (w32 (3350 + (w32 (81 * a1))) : Int).toNat) + 1))) 98 (w32 (3350 + (w32 (81 * a1))) : Int).toNat)) : Int).toNat a2) _
        exact zH_wr (r := some (.inl ((zput (zput M 98 (w32 (3350 + (w32 (81 * a1))) : Int).toNat (w32 ((M 98 (w32 (3350 + (w32 (81 * a1))) : Int).toNat) + 1))) 98 (w32 ((w32 (3350 + (w32 (81 * a1)))) + ((zput M 98 (w32 (3350 + (w32 (81 * a1))) : Int).toNat (w32 ((M 98 (w32 (3350 + (w32 (81 * a1))) : Int).toNat) + 1))) 98 (w32 (3350 + (w32 (81 * a1))) : Int).toNat)) : Int).toNat a2) 98 (w32 (3350 + (w32 (81 * a1))) : Int).toNat))) 0 hz (by rfl) (hfinB hE)
      · have hE := hE.trans (if_neg hb)
        exact zH_wr (r := some (.inl (-4))) 1 hz (by rfl) (hfinB hE)
    · have hE := hE.trans (if_neg hb)
      exact zH_wr (r := some (.inl (-2))) 1 hz (by rfl) (hfinB hE)
noncomputable def hf_254_97 (M : zM) (a1 : Int) : Int × zM :=
  (if ¬ (hf_252 M a1) = 0 then (M 98 (w32 (3350 + (w32 (81 * a1))) : Int).toNat, zput M 98 (w32 (3350 + (w32 (81 * a1))) : Int).toNat 0) else ((-2), M))
set_option maxRecDepth 100000 in
theorem fh_254_97 {n : Nat} {M : zM} (a1 : Int) : zH n (0, 0) 254 (0, zini [zR 97, .inl a1] 3, []) M (fun r M' => r = some (.inl (hf_254_97 M a1).1) ∧ M' = (hf_254_97 M a1).2) := by
  have hz := zp_254
  have hE : hf_254_97 M a1 = hf_254_97 M a1 := rfl
  show zH n (0, 0) 254 (0, [zR 97, .inl a1, zN], []) M _
  refine zH_wE (c1 := (4, [zR 97, .inl a1, zN], [])) 1 hz zp_252 (fh_252 a1) (by rfl) ?_
  show zH n (0, 0) 254 (4, [zR 97, .inl a1, zN], [.inl (hf_252 M a1)]) M _
  refine zH_wf_ne (pc := 4) (n' := 7) (t := 10) (L := [zR 97, .inl a1, zN]) (st := []) (x := (hf_252 M a1)) 0 hz (by rfl) (fun hb => ?_) (fun hb => ?_)
  · have hE := hE.trans (if_pos hb)
    refine zH_w (c' := (22, [zR 97, .inl a1, zN], [.inl (w32 (3350 + (w32 (81 * a1)))), zR 98])) 7 hz rfl ?_
    refine zH_iald hz rfl rfl (.inl rfl) (fun _ => ?_)
    show zH n (0, 0) 254 (23, [zR 97, .inl a1, zN], [.inl (M 98 (w32 (3350 + (w32 (81 * a1))) : Int).toNat)]) M _
    refine zH_w (c' := (37, [zR 97, .inl a1, .inl (M 98 (w32 (3350 + (w32 (81 * a1))) : Int).toNat)], [.inl 0, .inl (w32 (3350 + (w32 (81 * a1)))), zR 98])) 9 hz rfl ?_
    refine zH_iast hz rfl rfl (fun _ => ?_)
    show zH n (0, 0) 254 (38, [zR 97, .inl a1, .inl (M 98 (w32 (3350 + (w32 (81 * a1))) : Int).toNat)], []) (zput M 98 (w32 (3350 + (w32 (81 * a1))) : Int).toNat 0) _
    exact zH_wr (r := some (.inl (M 98 (w32 (3350 + (w32 (81 * a1))) : Int).toNat))) 1 hz (by rfl) (hfinB hE)
  · have hE := hE.trans (if_neg hb)
    exact zH_wr (r := some (.inl (-2))) 1 hz (by rfl) (hfinB hE)
noncomputable def hf_258_97 (M : zM) (a1 : Int) (a2 : Int) : Int × zM :=
  (if (hf_182_97 M 1 a1) = 0 then ((-10), M) else (if a2 = (-1) then (M 98 (w32 ((w32 (80 + (w32 (3 * a1)))) + 1) : Int).toNat, zput M 98 (w32 ((w32 (80 + (w32 (3 * a1)))) + 1) : Int).toNat a2) else (if ¬ (hf_182_97 M 5 a2) = 0 then (M 98 (w32 ((w32 (80 + (w32 (3 * a1)))) + 1) : Int).toNat, zput M 98 (w32 ((w32 (80 + (w32 (3 * a1)))) + 1) : Int).toNat a2) else ((-10), M))))
set_option maxRecDepth 100000 in
theorem fh_258_97 {n : Nat} {M : zM} (a1 : Int) (a2 : Int) : zH n (0, 0) 258 (0, zini [zR 97, .inl a1, .inl a2] 4, []) M (fun r M' => r = some (.inl (hf_258_97 M a1 a2).1) ∧ M' = (hf_258_97 M a1 a2).2) := by
  have hz := zp_258
  have hE : hf_258_97 M a1 a2 = hf_258_97 M a1 a2 := rfl
  show zH n (0, 0) 258 (0, [zR 97, .inl a1, .inl a2, zN], []) M _
  refine zH_wE (c1 := (6, [zR 97, .inl a1, .inl a2, zN], [])) 3 hz zp_182 (fh_182_97 1 a1) (by rfl) ?_
  show zH n (0, 0) 258 (6, [zR 97, .inl a1, .inl a2, zN], [.inl (hf_182_97 M 1 a1)]) M _
  refine zH_wf_eq (pc := 6) (n' := 9) (t := 23) (L := [zR 97, .inl a1, .inl a2, zN]) (st := []) (x := (hf_182_97 M 1 a1)) 0 hz (by rfl) (fun hb => ?_) (fun hb => ?_)
  · have hE := hE.trans (if_pos hb)
    exact zH_wr (r := some (.inl (-10))) 1 hz (by rfl) (hfinB hE)
  · have hE := hE.trans (if_neg hb)
    refine zH_wi_eq (pc := 11) (n' := 14) (t := 26) (L := [zR 97, .inl a1, .inl a2, zN]) (st := []) (x := a2) (y := (-1)) 2 hz (by rfl) (fun hb => ?_) (fun hb => ?_)
    · have hE := hE.trans (if_pos hb)
      refine zH_w (c' := (38, [zR 97, .inl a1, .inl a2, zN], [.inl (w32 ((w32 (80 + (w32 (3 * a1)))) + 1)), zR 98])) 9 hz rfl ?_
      refine zH_iald hz rfl rfl (.inl rfl) (fun _ => ?_)
      show zH n (0, 0) 258 (39, [zR 97, .inl a1, .inl a2, zN], [.inl (M 98 (w32 ((w32 (80 + (w32 (3 * a1)))) + 1) : Int).toNat)]) M _
      refine zH_w (c' := (53, [zR 97, .inl a1, .inl a2, .inl (M 98 (w32 ((w32 (80 + (w32 (3 * a1)))) + 1) : Int).toNat)], [.inl a2, .inl (w32 ((w32 (80 + (w32 (3 * a1)))) + 1)), zR 98])) 11 hz rfl ?_
      refine zH_iast hz rfl rfl (fun _ => ?_)
      show zH n (0, 0) 258 (54, [zR 97, .inl a1, .inl a2, .inl (M 98 (w32 ((w32 (80 + (w32 (3 * a1)))) + 1) : Int).toNat)], []) (zput M 98 (w32 ((w32 (80 + (w32 (3 * a1)))) + 1) : Int).toNat a2) _
      exact zH_wr (r := some (.inl (M 98 (w32 ((w32 (80 + (w32 (3 * a1)))) + 1) : Int).toNat))) 1 hz (by rfl) (hfinB hE)
    · have hE := hE.trans (if_neg hb)
      refine zH_wE (c1 := (20, [zR 97, .inl a1, .inl a2, zN], [])) 3 hz zp_182 (fh_182_97 5 a2) (by rfl) ?_
      show zH n (0, 0) 258 (20, [zR 97, .inl a1, .inl a2, zN], [.inl (hf_182_97 M 5 a2)]) M _
      refine zH_wf_ne (pc := 20) (n' := 23) (t := 26) (L := [zR 97, .inl a1, .inl a2, zN]) (st := []) (x := (hf_182_97 M 5 a2)) 0 hz (by rfl) (fun hb => ?_) (fun hb => ?_)
      · have hE := hE.trans (if_pos hb)
        refine zH_w (c' := (38, [zR 97, .inl a1, .inl a2, zN], [.inl (w32 ((w32 (80 + (w32 (3 * a1)))) + 1)), zR 98])) 9 hz rfl ?_
        refine zH_iald hz rfl rfl (.inl rfl) (fun _ => ?_)
        show zH n (0, 0) 258 (39, [zR 97, .inl a1, .inl a2, zN], [.inl (M 98 (w32 ((w32 (80 + (w32 (3 * a1)))) + 1) : Int).toNat)]) M _
        refine zH_w (c' := (53, [zR 97, .inl a1, .inl a2, .inl (M 98 (w32 ((w32 (80 + (w32 (3 * a1)))) + 1) : Int).toNat)], [.inl a2, .inl (w32 ((w32 (80 + (w32 (3 * a1)))) + 1)), zR 98])) 11 hz rfl ?_
        refine zH_iast hz rfl rfl (fun _ => ?_)
        show zH n (0, 0) 258 (54, [zR 97, .inl a1, .inl a2, .inl (M 98 (w32 ((w32 (80 + (w32 (3 * a1)))) + 1) : Int).toNat)], []) (zput M 98 (w32 ((w32 (80 + (w32 (3 * a1)))) + 1) : Int).toNat a2) _
        exact zH_wr (r := some (.inl (M 98 (w32 ((w32 (80 + (w32 (3 * a1)))) + 1) : Int).toNat))) 1 hz (by rfl) (hfinB hE)
      · have hE := hE.trans (if_neg hb)
        exact zH_wr (r := some (.inl (-10))) 1 hz (by rfl) (hfinB hE)
noncomputable def hf_271_97 (M : zM) (a1 : Int) (a2 : Int) (a3 : Int) : Int × zM :=
  (if (hf_182_97 M 1 a1) = 0 then ((-2), M) else (if ¬ (hf_182_97 M 0 a2) = 0 then (if ¬ (zband (zbshr (M 98 (w32 ((w32 (80 + (w32 (3 * a1)))) + 2) : Int).toNat) a2) 1) = 1 then (if ¬ 0 = a3 then (if a3 = 0 then (1, zput M 98 (w32 ((w32 (80 + (w32 (3 * a1)))) + 2) : Int).toNat (zband (M 98 (w32 ((w32 (80 + (w32 (3 * a1)))) + 2) : Int).toNat) (zbxor (zbshl 1 a2) (-1)))) else (1, zput M 98 (w32 ((w32 (80 + (w32 (3 * a1)))) + 2) : Int).toNat (zbor (M 98 (w32 ((w32 (80 + (w32 (3 * a1)))) + 2) : Int).toNat) (zbshl 1 a2)))) else ((-3), M)) else (if ¬ 1 = a3 then (if a3 = 0 then (1, zput M 98 (w32 ((w32 (80 + (w32 (3 * a1)))) + 2) : Int).toNat (zband (M 98 (w32 ((w32 (80 + (w32 (3 * a1)))) + 2) : Int).toNat) (zbxor (zbshl 1 a2) (-1)))) else (1, zput M 98 (w32 ((w32 (80 + (w32 (3 * a1)))) + 2) : Int).toNat (zbor (M 98 (w32 ((w32 (80 + (w32 (3 * a1)))) + 2) : Int).toNat) (zbshl 1 a2)))) else ((-3), M))) else ((-2), M)))
set_option maxRecDepth 100000 in
theorem fh_271_97 {n : Nat} {M : zM} (a1 : Int) (a2 : Int) (a3 : Int) : zH n (0, 0) 271 (0, zini [zR 97, .inl a1, .inl a2, .inl a3] 5, []) M (fun r M' => r = some (.inl (hf_271_97 M a1 a2 a3).1) ∧ M' = (hf_271_97 M a1 a2 a3).2) := by
  have hz := zp_271
  have hE : hf_271_97 M a1 a2 a3 = hf_271_97 M a1 a2 a3 := rfl
  show zH n (0, 0) 271 (0, [zR 97, .inl a1, .inl a2, .inl a3, zN], []) M _
  refine zH_wE (c1 := (6, [zR 97, .inl a1, .inl a2, .inl a3, zN], [])) 3 hz zp_182 (fh_182_97 1 a1) (by rfl) ?_
  show zH n (0, 0) 271 (6, [zR 97, .inl a1, .inl a2, .inl a3, zN], [.inl (hf_182_97 M 1 a1)]) M _
  refine zH_wf_eq (pc := 6) (n' := 9) (t := 18) (L := [zR 97, .inl a1, .inl a2, .inl a3, zN]) (st := []) (x := (hf_182_97 M 1 a1)) 0 hz (by rfl) (fun hb => ?_) (fun hb => ?_)
  · have hE := hE.trans (if_pos hb)
    exact zH_wr (r := some (.inl (-2))) 1 hz (by rfl) (hfinB hE)
  · have hE := hE.trans (if_neg hb)
    refine zH_wE (c1 := (15, [zR 97, .inl a1, .inl a2, .inl a3, zN], [])) 3 hz zp_182 (fh_182_97 0 a2) (by rfl) ?_
    show zH n (0, 0) 271 (15, [zR 97, .inl a1, .inl a2, .inl a3, zN], [.inl (hf_182_97 M 0 a2)]) M _
    refine zH_wf_ne (pc := 15) (n' := 18) (t := 21) (L := [zR 97, .inl a1, .inl a2, .inl a3, zN]) (st := []) (x := (hf_182_97 M 0 a2)) 0 hz (by rfl) (fun hb => ?_) (fun hb => ?_)
    · have hE := hE.trans (if_pos hb)
      refine zH_w (c' := (37, [zR 97, .inl a1, .inl a2, .inl a3, .inl (w32 ((w32 (80 + (w32 (3 * a1)))) + 2))], [.inl (w32 ((w32 (80 + (w32 (3 * a1)))) + 2)), zR 98])) 11 hz rfl ?_
      refine zH_iald hz rfl rfl (.inl rfl) (fun _ => ?_)
      show zH n (0, 0) 271 (38, [zR 97, .inl a1, .inl a2, .inl a3, .inl (w32 ((w32 (80 + (w32 (3 * a1)))) + 2))], [.inl (M 98 (w32 ((w32 (80 + (w32 (3 * a1)))) + 2) : Int).toNat)]) M _
      refine zH_wi_ne (pc := 43) (n' := 46) (t := 50) (L := [zR 97, .inl a1, .inl a2, .inl a3, .inl (w32 ((w32 (80 + (w32 (3 * a1)))) + 2))]) (st := []) (x := (zband (zbshr (M 98 (w32 ((w32 (80 + (w32 (3 * a1)))) + 2) : Int).toNat) a2) 1)) (y := 1) 5 hz (by rfl) (fun hb => ?_) (fun hb => ?_)
      · have hE := hE.trans (if_pos hb)
        refine zH_wi_ne (pc := 52) (n' := 55) (t := 58) (L := [zR 97, .inl a1, .inl a2, .inl a3, .inl (w32 ((w32 (80 + (w32 (3 * a1)))) + 2))]) (st := []) (x := 0) (y := a3) 2 hz (by rfl) (fun hb => ?_) (fun hb => ?_)
        · have hE := hE.trans (if_pos hb)
          refine zH_wf_eq (pc := 65) (n' := 68) (t := 82) (L := [zR 97, .inl a1, .inl a2, .inl a3, .inl (w32 ((w32 (80 + (w32 (3 * a1)))) + 2))]) (st := [.inl (w32 ((w32 (80 + (w32 (3 * a1)))) + 2)), zR 98]) (x := a3) 4 hz (by rfl) (fun hb => ?_) (fun hb => ?_)
          · have hE := hE.trans (if_pos hb)
            refine zH_w (c' := (88, [zR 97, .inl a1, .inl a2, .inl a3, .inl (w32 ((w32 (80 + (w32 (3 * a1)))) + 2))], [.inl (w32 ((w32 (80 + (w32 (3 * a1)))) + 2)), zR 98, .inl (w32 ((w32 (80 + (w32 (3 * a1)))) + 2)), zR 98])) 3 hz rfl ?_
            refine zH_iald hz rfl rfl (.inl rfl) (fun _ => ?_)
            show zH n (0, 0) 271 (89, [zR 97, .inl a1, .inl a2, .inl a3, .inl (w32 ((w32 (80 + (w32 (3 * a1)))) + 2))], [.inl (M 98 (w32 ((w32 (80 + (w32 (3 * a1)))) + 2) : Int).toNat), .inl (w32 ((w32 (80 + (w32 (3 * a1)))) + 2)), zR 98]) M _
            refine zH_w (c' := (95, [zR 97, .inl a1, .inl a2, .inl a3, .inl (w32 ((w32 (80 + (w32 (3 * a1)))) + 2))], [.inl (zband (M 98 (w32 ((w32 (80 + (w32 (3 * a1)))) + 2) : Int).toNat) (zbxor (zbshl 1 a2) (-1))), .inl (w32 ((w32 (80 + (w32 (3 * a1)))) + 2)), zR 98])) 6 hz rfl ?_
            refine zH_iast hz rfl rfl (fun _ => ?_)
            show zH n (0, 0) 271 (96, [zR 97, .inl a1, .inl a2, .inl a3, .inl (w32 ((w32 (80 + (w32 (3 * a1)))) + 2))], []) (zput M 98 (w32 ((w32 (80 + (w32 (3 * a1)))) + 2) : Int).toNat (zband (M 98 (w32 ((w32 (80 + (w32 (3 * a1)))) + 2) : Int).toNat) (zbxor (zbshl 1 a2) (-1)))) _
            exact zH_wr (r := some (.inl 1)) 1 hz (by rfl) (hfinB hE)
          · have hE := hE.trans (if_neg hb)
            refine zH_w (c' := (74, [zR 97, .inl a1, .inl a2, .inl a3, .inl (w32 ((w32 (80 + (w32 (3 * a1)))) + 2))], [.inl (w32 ((w32 (80 + (w32 (3 * a1)))) + 2)), zR 98, .inl (w32 ((w32 (80 + (w32 (3 * a1)))) + 2)), zR 98])) 3 hz rfl ?_
            refine zH_iald hz rfl rfl (.inl rfl) (fun _ => ?_)
            show zH n (0, 0) 271 (75, [zR 97, .inl a1, .inl a2, .inl a3, .inl (w32 ((w32 (80 + (w32 (3 * a1)))) + 2))], [.inl (M 98 (w32 ((w32 (80 + (w32 (3 * a1)))) + 2) : Int).toNat), .inl (w32 ((w32 (80 + (w32 (3 * a1)))) + 2)), zR 98]) M _
            refine zH_w (c' := (95, [zR 97, .inl a1, .inl a2, .inl a3, .inl (w32 ((w32 (80 + (w32 (3 * a1)))) + 2))], [.inl (zbor (M 98 (w32 ((w32 (80 + (w32 (3 * a1)))) + 2) : Int).toNat) (zbshl 1 a2)), .inl (w32 ((w32 (80 + (w32 (3 * a1)))) + 2)), zR 98])) 5 hz rfl ?_
            refine zH_iast hz rfl rfl (fun _ => ?_)
            show zH n (0, 0) 271 (96, [zR 97, .inl a1, .inl a2, .inl a3, .inl (w32 ((w32 (80 + (w32 (3 * a1)))) + 2))], []) (zput M 98 (w32 ((w32 (80 + (w32 (3 * a1)))) + 2) : Int).toNat (zbor (M 98 (w32 ((w32 (80 + (w32 (3 * a1)))) + 2) : Int).toNat) (zbshl 1 a2))) _
            exact zH_wr (r := some (.inl 1)) 1 hz (by rfl) (hfinB hE)
        · have hE := hE.trans (if_neg hb)
          exact zH_wr (r := some (.inl (-3))) 1 hz (by rfl) (hfinB hE)
      · have hE := hE.trans (if_neg hb)
        refine zH_wi_ne (pc := 52) (n' := 55) (t := 58) (L := [zR 97, .inl a1, .inl a2, .inl a3, .inl (w32 ((w32 (80 + (w32 (3 * a1)))) + 2))]) (st := []) (x := 1) (y := a3) 3 hz (by rfl) (fun hb => ?_) (fun hb => ?_)
        · have hE := hE.trans (if_pos hb)
          refine zH_wf_eq (pc := 65) (n' := 68) (t := 82) (L := [zR 97, .inl a1, .inl a2, .inl a3, .inl (w32 ((w32 (80 + (w32 (3 * a1)))) + 2))]) (st := [.inl (w32 ((w32 (80 + (w32 (3 * a1)))) + 2)), zR 98]) (x := a3) 4 hz (by rfl) (fun hb => ?_) (fun hb => ?_)
          · have hE := hE.trans (if_pos hb)
            refine zH_w (c' := (88, [zR 97, .inl a1, .inl a2, .inl a3, .inl (w32 ((w32 (80 + (w32 (3 * a1)))) + 2))], [.inl (w32 ((w32 (80 + (w32 (3 * a1)))) + 2)), zR 98, .inl (w32 ((w32 (80 + (w32 (3 * a1)))) + 2)), zR 98])) 3 hz rfl ?_
            refine zH_iald hz rfl rfl (.inl rfl) (fun _ => ?_)
            show zH n (0, 0) 271 (89, [zR 97, .inl a1, .inl a2, .inl a3, .inl (w32 ((w32 (80 + (w32 (3 * a1)))) + 2))], [.inl (M 98 (w32 ((w32 (80 + (w32 (3 * a1)))) + 2) : Int).toNat), .inl (w32 ((w32 (80 + (w32 (3 * a1)))) + 2)), zR 98]) M _
            refine zH_w (c' := (95, [zR 97, .inl a1, .inl a2, .inl a3, .inl (w32 ((w32 (80 + (w32 (3 * a1)))) + 2))], [.inl (zband (M 98 (w32 ((w32 (80 + (w32 (3 * a1)))) + 2) : Int).toNat) (zbxor (zbshl 1 a2) (-1))), .inl (w32 ((w32 (80 + (w32 (3 * a1)))) + 2)), zR 98])) 6 hz rfl ?_
            refine zH_iast hz rfl rfl (fun _ => ?_)
            show zH n (0, 0) 271 (96, [zR 97, .inl a1, .inl a2, .inl a3, .inl (w32 ((w32 (80 + (w32 (3 * a1)))) + 2))], []) (zput M 98 (w32 ((w32 (80 + (w32 (3 * a1)))) + 2) : Int).toNat (zband (M 98 (w32 ((w32 (80 + (w32 (3 * a1)))) + 2) : Int).toNat) (zbxor (zbshl 1 a2) (-1)))) _
            exact zH_wr (r := some (.inl 1)) 1 hz (by rfl) (hfinB hE)
          · have hE := hE.trans (if_neg hb)
            refine zH_w (c' := (74, [zR 97, .inl a1, .inl a2, .inl a3, .inl (w32 ((w32 (80 + (w32 (3 * a1)))) + 2))], [.inl (w32 ((w32 (80 + (w32 (3 * a1)))) + 2)), zR 98, .inl (w32 ((w32 (80 + (w32 (3 * a1)))) + 2)), zR 98])) 3 hz rfl ?_
            refine zH_iald hz rfl rfl (.inl rfl) (fun _ => ?_)
            show zH n (0, 0) 271 (75, [zR 97, .inl a1, .inl a2, .inl a3, .inl (w32 ((w32 (80 + (w32 (3 * a1)))) + 2))], [.inl (M 98 (w32 ((w32 (80 + (w32 (3 * a1)))) + 2) : Int).toNat), .inl (w32 ((w32 (80 + (w32 (3 * a1)))) + 2)), zR 98]) M _
            refine zH_w (c' := (95, [zR 97, .inl a1, .inl a2, .inl a3, .inl (w32 ((w32 (80 + (w32 (3 * a1)))) + 2))], [.inl (zbor (M 98 (w32 ((w32 (80 + (w32 (3 * a1)))) + 2) : Int).toNat) (zbshl 1 a2)), .inl (w32 ((w32 (80 + (w32 (3 * a1)))) + 2)), zR 98])) 5 hz rfl ?_
            refine zH_iast hz rfl rfl (fun _ => ?_)
            show zH n (0, 0) 271 (96, [zR 97, .inl a1, .inl a2, .inl a3, .inl (w32 ((w32 (80 + (w32 (3 * a1)))) + 2))], []) (zput M 98 (w32 ((w32 (80 + (w32 (3 * a1)))) + 2) : Int).toNat (zbor (M 98 (w32 ((w32 (80 + (w32 (3 * a1)))) + 2) : Int).toNat) (zbshl 1 a2))) _
            exact zH_wr (r := some (.inl 1)) 1 hz (by rfl) (hfinB hE)
        · have hE := hE.trans (if_neg hb)
          exact zH_wr (r := some (.inl (-3))) 1 hz (by rfl) (hfinB hE)
    · have hE := hE.trans (if_neg hb)
      exact zH_wr (r := some (.inl (-2))) 1 hz (by rfl) (hfinB hE)
noncomputable def hf_285_97 (M : zM) (a1 : Int) : Int × zM :=
  (if ¬ (hf_180 M a1 1 10000) = 0 then (M 98 (8 : Int).toNat, zput M 98 (8 : Int).toNat a1) else ((-2), M))
set_option maxRecDepth 100000 in
theorem fh_285_97 {n : Nat} {M : zM} (a1 : Int) : zH n (0, 0) 285 (0, zini [zR 97, .inl a1] 3, []) M (fun r M' => r = some (.inl (hf_285_97 M a1).1) ∧ M' = (hf_285_97 M a1).2) := by
  have hz := zp_285
  have hE : hf_285_97 M a1 = hf_285_97 M a1 := rfl
  show zH n (0, 0) 285 (0, [zR 97, .inl a1, zN], []) M _
  refine zH_wE (c1 := (8, [zR 97, .inl a1, zN], [])) 3 hz zp_180 (fh_180 a1 1 10000) (by rfl) ?_
  show zH n (0, 0) 285 (8, [zR 97, .inl a1, zN], [.inl (hf_180 M a1 1 10000)]) M _
  refine zH_wf_ne (pc := 8) (n' := 11) (t := 14) (L := [zR 97, .inl a1, zN]) (st := []) (x := (hf_180 M a1 1 10000)) 0 hz (by rfl) (fun hb => ?_) (fun hb => ?_)
  · have hE := hE.trans (if_pos hb)
    refine zH_w (c' := (20, [zR 97, .inl a1, zN], [.inl 8, zR 98])) 3 hz rfl ?_
    refine zH_iald hz rfl rfl (.inl rfl) (fun _ => ?_)
    show zH n (0, 0) 285 (21, [zR 97, .inl a1, zN], [.inl (M 98 (8 : Int).toNat)]) M _
    refine zH_w (c' := (29, [zR 97, .inl a1, .inl (M 98 (8 : Int).toNat)], [.inl a1, .inl 8, zR 98])) 5 hz rfl ?_
    refine zH_iast hz rfl rfl (fun _ => ?_)
    show zH n (0, 0) 285 (30, [zR 97, .inl a1, .inl (M 98 (8 : Int).toNat)], []) (zput M 98 (8 : Int).toNat a1) _
    exact zH_wr (r := some (.inl (M 98 (8 : Int).toNat))) 1 hz (by rfl) (hfinB hE)
  · have hE := hE.trans (if_neg hb)
    exact zH_wr (r := some (.inl (-2))) 1 hz (by rfl) (hfinB hE)
noncomputable def hf_286_97 (M : zM) (a1 : Int) (a2 : Int) : Int × zM :=
  (if (hf_180 M a1 0 1000) = 0 then ((-2), M) else (if ¬ (hf_180 M a2 0 1000) = 0 then (if ¬ (M 98 (6 : Int).toNat) = 12 then (w32 (((hf_183_97 (zput (zput M 98 (w32 (5640 + (w32 (2 * (M 98 (6 : Int).toNat)))) : Int).toNat a1) 98 (w32 ((w32 (5640 + (w32 (2 * ((zput M 98 (w32 (5640 + (w32 (2 * (M 98 (6 : Int).toNat)))) : Int).toNat a1) 98 (6 : Int).toNat))))) + 1) : Int).toNat a2) 6).1) + 1), ((hf_183_97 (zput (zput M 98 (w32 (5640 + (w32 (2 * (M 98 (6 : Int).toNat)))) : Int).toNat a1) 98 (w32 ((w32 (5640 + (w32 (2 * ((zput M 98 (w32 (5640 + (w32 (2 * (M 98 (6 : Int).toNat)))) : Int).toNat a1) 98 (6 : Int).toNat))))) + 1) : Int).toNat a2) 6).2)) else ((-4), M)) else ((-2), M)))
set_option maxRecDepth 100000 in
theorem fh_286_97 {n : Nat} {M : zM} (a1 : Int) (a2 : Int) : zH n (0, 0) 286 (0, zini [zR 97, .inl a1, .inl a2] 3, []) M (fun r M' => r = some (.inl (hf_286_97 M a1 a2).1) ∧ M' = (hf_286_97 M a1 a2).2) := by
  have hz := zp_286
  have hE : hf_286_97 M a1 a2 = hf_286_97 M a1 a2 := rfl
  show zH n (0, 0) 286 (0, [zR 97, .inl a1, .inl a2], []) M _
  refine zH_wE (c1 := (8, [zR 97, .inl a1, .inl a2], [])) 3 hz zp_180 (fh_180 a1 0 1000) (by rfl) ?_
  show zH n (0, 0) 286 (8, [zR 97, .inl a1, .inl a2], [.inl (hf_180 M a1 0 1000)]) M _
  refine zH_wf_eq (pc := 8) (n' := 11) (t := 22) (L := [zR 97, .inl a1, .inl a2]) (st := []) (x := (hf_180 M a1 0 1000)) 0 hz (by rfl) (fun hb => ?_) (fun hb => ?_)
  · have hE := hE.trans (if_pos hb)
    exact zH_wr (r := some (.inl (-2))) 1 hz (by rfl) (hfinB hE)
  · have hE := hE.trans (if_neg hb)
    refine zH_wE (c1 := (19, [zR 97, .inl a1, .inl a2], [])) 3 hz zp_180 (fh_180 a2 0 1000) (by rfl) ?_
    show zH n (0, 0) 286 (19, [zR 97, .inl a1, .inl a2], [.inl (hf_180 M a2 0 1000)]) M _
    refine zH_wf_ne (pc := 19) (n' := 22) (t := 25) (L := [zR 97, .inl a1, .inl a2]) (st := []) (x := (hf_180 M a2 0 1000)) 0 hz (by rfl) (fun hb => ?_) (fun hb => ?_)
    · have hE := hE.trans (if_pos hb)
      refine zH_w (c' := (31, [zR 97, .inl a1, .inl a2], [.inl 6, zR 98])) 3 hz rfl ?_
      refine zH_iald hz rfl rfl (.inl rfl) (fun _ => ?_)
      show zH n (0, 0) 286 (32, [zR 97, .inl a1, .inl a2], [.inl (M 98 (6 : Int).toNat)]) M _
      refine zH_wi_ne (pc := 34) (n' := 37) (t := 40) (L := [zR 97, .inl a1, .inl a2]) (st := []) (x := (M 98 (6 : Int).toNat)) (y := 12) 1 hz (by rfl) (fun hb => ?_) (fun hb => ?_)
      · have hE := hE.trans (if_pos hb)
        refine zH_w (c' := (54, [zR 97, .inl a1, .inl a2], [.inl 6, zR 98, .inl 2, .inl 5640, zR 98])) 7 hz rfl ?_
        refine zH_iald hz rfl rfl (.inl rfl) (fun _ => ?_)
        show zH n (0, 0) 286 (55, [zR 97, .inl a1, .inl a2], [.inl (M 98 (6 : Int).toNat), .inl 2, .inl 5640, zR 98]) M _
        refine zH_w (c' := (58, [zR 97, .inl a1, .inl a2], [.inl a1, .inl (w32 (5640 + (w32 (2 * (M 98 (6 : Int).toNat))))), zR 98])) 3 hz rfl ?_
        refine zH_iast hz rfl rfl (fun _ => ?_)
        show zH n (0, 0) 286 (59, [zR 97, .inl a1, .inl a2], []) (zput M 98 (w32 (5640 + (w32 (2 * (M 98 (6 : Int).toNat)))) : Int).toNat a1) _
        refine zH_w (c' := (73, [zR 97, .inl a1, .inl a2], [.inl 6, zR 98, .inl 2, .inl 5640, zR 98])) 7 hz rfl ?_
        refine zH_iald hz rfl rfl (.inl rfl) (fun _ => ?_)
        show zH n (0, 0) 286 (74, [zR 97, .inl a1, .inl a2], [.inl ((zput M 98 (w32 (5640 + (w32 (2 * (M 98 (6 : Int).toNat)))) : Int).toNat a1) 98 (6 : Int).toNat), .inl 2, .inl 5640, zR 98]) (zput M 98 (w32 (5640 + (w32 (2 * (M 98 (6 : Int).toNat)))) : Int).toNat a1) _
        refine zH_w (c' := (79, [zR 97, .inl a1, .inl a2], [.inl a2, .inl (w32 ((w32 (5640 + (w32 (2 * ((zput M 98 (w32 (5640 + (w32 (2 * (M 98 (6 : Int).toNat)))) : Int).toNat a1) 98 (6 : Int).toNat))))) + 1)), zR 98])) 5 hz rfl ?_
        refine zH_iast hz rfl rfl (fun _ => ?_)
        show zH n (0, 0) 286 (80, [zR 97, .inl a1, .inl a2], []) (zput (zput M 98 (w32 (5640 + (w32 (2 * (M 98 (6 : Int).toNat)))) : Int).toNat a1) 98 (w32 ((w32 (5640 + (w32 (2 * ((zput M 98 (w32 (5640 + (w32 (2 * (M 98 (6 : Int).toNat)))) : Int).toNat a1) 98 (6 : Int).toNat))))) + 1) : Int).toNat a2) _
        refine zH_wB (c1 := (86, [zR 97, .inl a1, .inl a2], [])) 2 hz zp_183 (fh_183_97 6) (by rfl) ?_
        intro u1 N2 hu1 hN2
        show zH n (0, 0) 286 (86, [zR 97, .inl a1, .inl a2], [.inl u1]) N2 _
        refine zH_w (c' := (88, [zR 97, .inl a1, .inl a2], [.inl (w32 (u1 + 1))])) 2 hz rfl ?_
        subst hN2
        subst hu1
        exact zH_ret hz rfl rfl (hfinB hE)
      · have hE := hE.trans (if_neg hb)
        exact zH_wr (r := some (.inl (-4))) 1 hz (by rfl) (hfinB hE)
    · have hE := hE.trans (if_neg hb)
      exact zH_wr (r := some (.inl (-2))) 1 hz (by rfl) (hfinB hE)
noncomputable def hf_287_97 (M : zM) : Int × zM :=
  (M 98 (6 : Int).toNat, zput M 98 (6 : Int).toNat 0)
set_option maxRecDepth 100000 in
theorem fh_287_97 {n : Nat} {M : zM} : zH n (0, 0) 287 (0, zini [zR 97] 2, []) M (fun r M' => r = some (.inl (hf_287_97 M).1) ∧ M' = (hf_287_97 M).2) := by
  have hz := zp_287
  have hE : hf_287_97 M = hf_287_97 M := rfl
  show zH n (0, 0) 287 (0, [zR 97, zN], []) M _
  refine zH_w (c' := (6, [zR 97, zN], [.inl 6, zR 98])) 3 hz rfl ?_
  refine zH_iald hz rfl rfl (.inl rfl) (fun _ => ?_)
  show zH n (0, 0) 287 (7, [zR 97, zN], [.inl (M 98 (6 : Int).toNat)]) M _
  refine zH_w (c' := (15, [zR 97, .inl (M 98 (6 : Int).toNat)], [.inl 0, .inl 6, zR 98])) 5 hz rfl ?_
  refine zH_iast hz rfl rfl (fun _ => ?_)
  show zH n (0, 0) 287 (16, [zR 97, .inl (M 98 (6 : Int).toNat)], []) (zput M 98 (6 : Int).toNat 0) _
  exact zH_wr (r := some (.inl (M 98 (6 : Int).toNat))) 1 hz (by rfl) (hfinB hE)
