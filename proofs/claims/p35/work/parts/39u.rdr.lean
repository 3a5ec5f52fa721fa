/-! A TEXT READ: WHAT IT COMES TO; THE CLASS -/
section ZQ
variable {n : Nat} {ct : Nat × Nat} {μ : Nat} {Q : Option zV → zM → Prop} {M : zM} {code : List zE} {mL : Nat} {B : Nat × Nat} {pc : Nat} {L st : List zV}
theorem zH_cret {n' b : Nat} {z y : Int} {ts : List Nat} (hm : zP μ = (code, mL, B)) (he : zat code pc = some (pc, .ireturn, n', (5, b, z, ts))) (hq : Q (some (.inl y)) M) : zH n ct μ (pc, L, [.inl y]) M Q := by
  by_cases hy : 0 ≤ y ∧ y < 65536
  · refine zH_ret hm he ?_ hq
    show (if 0 ≤ y ∧ y < 65536 then some (.inr (.inl (some (.inl y)))) else none : zO) = _
    rw [if_pos hy]
  · intro f d r' w h
    cases f with
    | zero => cases h
    | succ f =>
      rw [zrun_succ, hm] at h
      simp only [he] at h
      cases hs : zst (d != 0) B (pc, .ireturn, n', (5, b, z, ts)) L [.inl y] (zSH n, M, ct.1, ct.2) with
      | none => rw [hs] at h; cases h
      | some o =>
        have h5 : (if 0 ≤ y ∧ y < 65536 then some (.inr (.inl (some (.inl y)))) else none : zO) = some o := zst_true hs
        rw [if_neg hy] at h5
        cases h5
theorem zH_bret {n' b : Nat} {z y : Int} {ts : List Nat} (hm : zP μ = (code, mL, B)) (he : zat code pc = some (pc, .ireturn, n', (6, b, z, ts))) (hq : Q (some (.inl y)) M) : zH n ct μ (pc, L, [.inl y]) M Q := by
  by_cases hy : -128 ≤ y ∧ y < 128
  · refine zH_ret hm he ?_ hq
    show (if -128 ≤ y ∧ y < 128 then some (.inr (.inl (some (.inl y)))) else none : zO) = _
    rw [if_pos hy]
  · intro f d r' w h
    cases f with
    | zero => cases h
    | succ f =>
      rw [zrun_succ, hm] at h
      simp only [he] at h
      cases hs : zst (d != 0) B (pc, .ireturn, n', (6, b, z, ts)) L [.inl y] (zSH n, M, ct.1, ct.2) with
      | none => rw [hs] at h; cases h
      | some o =>
        have h5 : (if -128 ≤ y ∧ y < 128 then some (.inr (.inl (some (.inl y)))) else none : zO) = some o := zst_true hs
        rw [if_neg hy] at h5
        cases h5
end ZQ
noncomputable def hf_303_4 (M : zM) : Int :=
  M 4 1
set_option maxRecDepth 100000 in
theorem fh_303_4 {n : Nat} {M : zM} : zH n (0, 0) 303 (0, zini [zR 4] 1, []) M (fun r M' => r = some (.inl (hf_303_4 M)) ∧ M' = M) := by
  have hz := zp_303
  have hE : hf_303_4 M = hf_303_4 M := rfl
  show zH n (0, 0) 303 (0, [zR 4], []) M _
  refine zH_w (c' := (14, [zR 4], [.inl (M 4 1)])) 5 hz rfl ?_
  exact zH_bret hz rfl (hfinP hE)
noncomputable def hf_302_4 (M : zM) : Int :=
  zbshr 82 (hf_303_4 M)
set_option maxRecDepth 100000 in
theorem fh_302_4 {n : Nat} {M : zM} : zH n (0, 0) 302 (0, zini [zR 4] 1, []) M (fun r M' => r = some (.inl (hf_302_4 M)) ∧ M' = M) := by
  have hz := zp_302
  have hE : hf_302_4 M = hf_302_4 M := rfl
  show zH n (0, 0) 302 (0, [zR 4], []) M _
  refine zH_wE (c1 := (9, [zR 4], [.inl 82])) 4 hz zp_303 (fh_303_4) (by rfl) ?_
  show zH n (0, 0) 302 (9, [zR 4], [.inl (hf_303_4 M), .inl 82]) M _
  exact zH_wr (r := some (.inl (zbshr 82 (hf_303_4 M)))) 1 hz (by rfl) (hfinP hE)
noncomputable def hf_303_6 (M : zM) : Int :=
  M 6 1
set_option maxRecDepth 100000 in
theorem fh_303_6 {n : Nat} {M : zM} : zH n (0, 0) 303 (0, zini [zR 6] 1, []) M (fun r M' => r = some (.inl (hf_303_6 M)) ∧ M' = M) := by
  have hz := zp_303
  have hE : hf_303_6 M = hf_303_6 M := rfl
  show zH n (0, 0) 303 (0, [zR 6], []) M _
  refine zH_w (c' := (14, [zR 6], [.inl (M 6 1)])) 5 hz rfl ?_
  exact zH_bret hz rfl (hfinP hE)
noncomputable def hf_302_6 (M : zM) : Int :=
  zbshr 9 (hf_303_6 M)
set_option maxRecDepth 100000 in
theorem fh_302_6 {n : Nat} {M : zM} : zH n (0, 0) 302 (0, zini [zR 6] 1, []) M (fun r M' => r = some (.inl (hf_302_6 M)) ∧ M' = M) := by
  have hz := zp_302
  have hE : hf_302_6 M = hf_302_6 M := rfl
  show zH n (0, 0) 302 (0, [zR 6], []) M _
  refine zH_wE (c1 := (9, [zR 6], [.inl 9])) 4 hz zp_303 (fh_303_6) (by rfl) ?_
  show zH n (0, 0) 302 (9, [zR 6], [.inl (hf_303_6 M), .inl 9]) M _
  exact zH_wr (r := some (.inl (zbshr 9 (hf_303_6 M)))) 1 hz (by rfl) (hfinP hE)
noncomputable def hf_309_7_L0_L9 (M : zM) (a1 : Int) : Int :=
  (if ¬ (M 7 (0 : Int).toNat) = ((a1 + 128) % 256 - 128) then (if ¬ (M 7 (1 : Int).toNat) = ((a1 + 128) % 256 - 128) then (if ¬ (M 7 (2 : Int).toNat) = ((a1 + 128) % 256 - 128) then (if ¬ (M 7 (3 : Int).toNat) = ((a1 + 128) % 256 - 128) then (if ¬ (M 7 (4 : Int).toNat) = ((a1 + 128) % 256 - 128) then (if ¬ (M 7 (5 : Int).toNat) = ((a1 + 128) % 256 - 128) then (if ¬ (M 7 (6 : Int).toNat) = ((a1 + 128) % 256 - 128) then (if ¬ (M 7 (7 : Int).toNat) = ((a1 + 128) % 256 - 128) then (if ¬ (M 7 (8 : Int).toNat) = ((a1 + 128) % 256 - 128) then (-1) else 8) else 7) else 6) else 5) else 4) else 3) else 2) else 1) else 0)
set_option maxRecDepth 100000 in
theorem fh_309_7_L0_L9 {n : Nat} {M : zM} (a1 : Int) : zH n (0, 0) 309 (0, zini [zR 7, .inl a1, .inl 0, .inl 9] 6, []) M (fun r M' => r = some (.inl (hf_309_7_L0_L9 M a1)) ∧ M' = M) := by
  have hz := zp_309
  have hE : hf_309_7_L0_L9 M a1 = hf_309_7_L0_L9 M a1 := rfl
  show zH n (0, 0) 309 (0, [zR 7, .inl a1, .inl 0, .inl 9, zN, zN], []) M _
  refine zH_w (c' := (16, [zR 7, .inl a1, .inl 0, .inl 9, .inl ((a1 + 128) % 256 - 128), .inl 0], [.inl 0, zR 7])) 10 hz rfl ?_
  refine zH_bald hz rfl rfl (.inr rfl) (fun _ => ?_)
  show zH n (0, 0) 309 (17, [zR 7, .inl a1, .inl 0, .inl 9, .inl ((a1 + 128) % 256 - 128), .inl 0], [.inl (M 7 (0 : Int).toNat)]) M _
  refine zH_wi_ne (pc := 19) (n' := 22) (t := 25) (L := [zR 7, .inl a1, .inl 0, .inl 9, .inl ((a1 + 128) % 256 - 128), .inl 0]) (st := []) (x := (M 7 (0 : Int).toNat)) (y := ((a1 + 128) % 256 - 128)) 1 hz (by rfl) (fun hb => ?_) (fun hb => ?_)
  · have hE := hE.trans (if_pos hb)
    refine zH_w (c' := (16, [zR 7, .inl a1, .inl 0, .inl 9, .inl ((a1 + 128) % 256 - 128), .inl 1], [.inl 1, zR 7])) 7 hz rfl ?_
    refine zH_bald hz rfl rfl (.inr rfl) (fun _ => ?_)
    show zH n (0, 0) 309 (17, [zR 7, .inl a1, .inl 0, .inl 9, .inl ((a1 + 128) % 256 - 128), .inl 1], [.inl (M 7 (1 : Int).toNat)]) M _
    refine zH_wi_ne (pc := 19) (n' := 22) (t := 25) (L := [zR 7, .inl a1, .inl 0, .inl 9, .inl ((a1 + 128) % 256 - 128), .inl 1]) (st := []) (x := (M 7 (1 : Int).toNat)) (y := ((a1 + 128) % 256 - 128)) 1 hz (by rfl) (fun hb => ?_) (fun hb => ?_)
    · have hE := hE.trans (if_pos hb)
      refine zH_w (c' := (16, [zR 7, .inl a1, .inl 0, .inl 9, .inl ((a1 + 128) % 256 - 128), .inl 2], [.inl 2, zR 7])) 7 hz rfl ?_
      refine zH_bald hz rfl rfl (.inr rfl) (fun _ => ?_)
      show zH n (0, 0) 309 (17, [zR 7, .inl a1, .inl 0, .inl 9, .inl ((a1 + 128) % 256 - 128), .inl 2], [.inl (M 7 (2 : Int).toNat)]) M _
      refine zH_wi_ne (pc := 19) (n' := 22) (t := 25) (L := [zR 7, .inl a1, .inl 0, .inl 9, .inl ((a1 + 128) % 256 - 128), .inl 2]) (st := []) (x := (M 7 (2 : Int).toNat)) (y := ((a1 + 128) % 256 - 128)) 1 hz (by rfl) (fun hb => ?_) (fun hb => ?_)
      · have hE := hE.trans (if_pos hb)
        refine zH_w (c' := (16, [zR 7, .inl a1, .inl 0, .inl 9, .inl ((a1 + 128) % 256 - 128), .inl 3], [.inl 3, zR 7])) 7 hz rfl ?_
        refine zH_bald hz rfl rfl (.inr rfl) (fun _ => ?_)
        show zH n (0, 0) 309 (17, [zR 7, .inl a1, .inl 0, .inl 9, .inl ((a1 + 128) % 256 - 128), .inl 3], [.inl (M 7 (3 : Int).toNat)]) M _
        refine zH_wi_ne (pc := 19) (n' := 22) (t := 25) (L := [zR 7, .inl a1, .inl 0, .inl 9, .inl ((a1 + 128) % 256 - 128), .inl 3]) (st := []) (x := (M 7 (3 : Int).toNat)) (y := ((a1 + 128) % 256 - 128)) 1 hz (by rfl) (fun hb => ?_) (fun hb => ?_)
        · have hE := hE.trans (if_pos hb)
          refine zH_w (c' := (16, [zR 7, .inl a1, .inl 0, .inl 9, .inl ((a1 + 128) % 256 - 128), .inl 4], [.inl 4, zR 7])) 7 hz rfl ?_
          refine zH_bald hz rfl rfl (.inr rfl) (fun _ => ?_)
          show zH n (0, 0) 309 (17, [zR 7, .inl a1, .inl 0, .inl 9, .inl ((a1 + 128) % 256 - 128), .inl 4], [.inl (M 7 (4 : Int).toNat)]) M _
          refine zH_wi_ne (pc := 19) (n' := 22) (t := 25) (L := [zR 7, .inl a1, .inl 0, .inl 9, .inl ((a1 + 128) % 256 - 128), .inl 4]) (st := []) (x := (M 7 (4 : Int).toNat)) (y := ((a1 + 128) % 256 - 128)) 1 hz (by rfl) (fun hb => ?_) (fun hb => ?_)
          · have hE := hE.trans (if_pos hb)
            refine zH_w (c' := (16, [zR 7, .inl a1, .inl 0, .inl 9, .inl ((a1 + 128) % 256 - 128), .inl 5], [.inl 5, zR 7])) 7 hz rfl ?_
            refine zH_bald hz rfl rfl (.inr rfl) (fun _ => ?_)
            show zH n (0, 0) 309 (17, [zR 7, .inl a1, .inl 0, .inl 9, .inl ((a1 + 128) % 256 - 128), .inl 5], [.inl (M 7 (5 : Int).toNat)]) M _
            refine zH_wi_ne (pc := 19) (n' := 22) (t := 25) (L := [zR 7, .inl a1, .inl 0, .inl 9, .inl ((a1 + 128) % 256 - 128), .inl 5]) (st := []) (x := (M 7 (5 : Int).toNat)) (y := ((a1 + 128) % 256 - 128)) 1 hz (by rfl) (fun hb => ?_) (fun hb => ?_)
            · have hE := hE.trans (if_pos hb)
              refine zH_w (c' := (16, [zR 7, .inl a1, .inl 0, .inl 9, .inl ((a1 + 128) % 256 - 128), .inl 6], [.inl 6, zR 7])) 7 hz rfl ?_
              refine zH_bald hz rfl rfl (.inr rfl) (fun _ => ?_)
              show zH n (0, 0) 309 (17, [zR 7, .inl a1, .inl 0, .inl 9, .inl ((a1 + 128) % 256 - 128), .inl 6], [.inl (M 7 (6 : Int).toNat)]) M _
              refine zH_wi_ne (pc := 19) (n' := 22) (t := 25) (L := [zR 7, .inl a1, .inl 0, .inl 9, .inl ((a1 + 128) % 256 - 128), .inl 6]) (st := []) (x := (M 7 (6 : Int).toNat)) (y := ((a1 + 128) % 256 - 128)) 1 hz (by rfl) (fun hb => ?_) (fun hb => ?_)
              · have hE := hE.trans (if_pos hb)
                refine zH_w (c' := (16, [zR 7, .inl a1, .inl 0, .inl 9, .inl ((a1 + 128) % 256 - 128), .inl 7], [.inl 7, zR 7])) 7 hz rfl ?_
                refine zH_bald hz rfl rfl (.inr rfl) (fun _ => ?_)
                show zH n (0, 0) 309 (17, [zR 7, .inl a1, .inl 0, .inl 9, .inl ((a1 + 128) % 256 - 128), .inl 7], [.inl (M 7 (7 : Int).toNat)]) M _
                refine zH_wi_ne (pc := 19) (n' := 22) (t := 25) (L := [zR 7, .inl a1, .inl 0, .inl 9, .inl ((a1 + 128) % 256 - 128), .inl 7]) (st := []) (x := (M 7 (7 : Int).toNat)) (y := ((a1 + 128) % 256 - 128)) 1 hz (by rfl) (fun hb => ?_) (fun hb => ?_)
                · have hE := hE.trans (if_pos hb)
                  refine zH_w (c' := (16, [zR 7, .inl a1, .inl 0, .inl 9, .inl ((a1 + 128) % 256 - 128), .inl 8], [.inl 8, zR 7])) 7 hz rfl ?_
                  refine zH_bald hz rfl rfl (.inr rfl) (fun _ => ?_)
                  show zH n (0, 0) 309 (17, [zR 7, .inl a1, .inl 0, .inl 9, .inl ((a1 + 128) % 256 - 128), .inl 8], [.inl (M 7 (8 : Int).toNat)]) M _
                  refine zH_wi_ne (pc := 19) (n' := 22) (t := 25) (L := [zR 7, .inl a1, .inl 0, .inl 9, .inl ((a1 + 128) % 256 - 128), .inl 8]) (st := []) (x := (M 7 (8 : Int).toNat)) (y := ((a1 + 128) % 256 - 128)) 1 hz (by rfl) (fun hb => ?_) (fun hb => ?_)
                  · have hE := hE.trans (if_pos hb)
                    refine zH_w (c' := (32, [zR 7, .inl a1, .inl 0, .inl 9, .inl ((a1 + 128) % 256 - 128), .inl 9], [.inl (-1)])) 6 hz rfl ?_
                    exact zH_wr (r := some (.inl (-1))) 0 hz (by rfl) (hfinP hE)
                  · have hE := hE.trans (if_neg hb)
                    exact zH_wr (r := some (.inl 8)) 1 hz (by rfl) (hfinP hE)
                · have hE := hE.trans (if_neg hb)
                  exact zH_wr (r := some (.inl 7)) 1 hz (by rfl) (hfinP hE)
              · have hE := hE.trans (if_neg hb)
                exact zH_wr (r := some (.inl 6)) 1 hz (by rfl) (hfinP hE)
            · have hE := hE.trans (if_neg hb)
              exact zH_wr (r := some (.inl 5)) 1 hz (by rfl) (hfinP hE)
          · have hE := hE.trans (if_neg hb)
            exact zH_wr (r := some (.inl 4)) 1 hz (by rfl) (hfinP hE)
        · have hE := hE.trans (if_neg hb)
          exact zH_wr (r := some (.inl 3)) 1 hz (by rfl) (hfinP hE)
      · have hE := hE.trans (if_neg hb)
        exact zH_wr (r := some (.inl 2)) 1 hz (by rfl) (hfinP hE)
    · have hE := hE.trans (if_neg hb)
      exact zH_wr (r := some (.inl 1)) 1 hz (by rfl) (hfinP hE)
  · have hE := hE.trans (if_neg hb)
    exact zH_wr (r := some (.inl 0)) 1 hz (by rfl) (hfinP hE)
noncomputable def hf_97_67 (M : zM) (a1 : Int) : Int :=
  (hR_get M 20 (M 67 3) (w32 (1 + a1)))
set_option maxRecDepth 100000 in
theorem fh_97_67 {n : Nat} {M : zM} (a1 : Int) : zH n (0, 0) 97 (0, zini [zR 67, .inl a1] 2, []) M (fun r M' => r = some (.inl (hf_97_67 M a1)) ∧ M' = M) := by
  have hz := zp_97
  have hE : hf_97_67 M a1 = hf_97_67 M a1 := rfl
  show zH n (0, 0) 97 (0, [zR 67, .inl a1], []) M _
  refine zH_wE (c1 := (14, [zR 67, .inl a1], [])) 7 hz zp_106 (fh_106_20 (M 67 3) (w32 (1 + a1))) (by rfl) ?_
  show zH n (0, 0) 97 (14, [zR 67, .inl a1], [.inl (hR_get M 20 (M 67 3) (w32 (1 + a1)))]) M _
  exact zH_wr (r := some (.inl (hR_get M 20 (M 67 3) (w32 (1 + a1))))) 0 hz (by rfl) (hfinP hE)
noncomputable def hf_98 (M : zM) (a0 : Int) : Int :=
  (if a0 < 48 then 0 else (if 57 < a0 then 0 else 1))
set_option maxRecDepth 100000 in
theorem fh_98 {n : Nat} {M : zM} (a0 : Int) : zH n (0, 0) 98 (0, zini [.inl a0] 1, []) M (fun r M' => r = some (.inl (hf_98 M a0)) ∧ M' = M) := by
  have hz := zp_98
  have hE : hf_98 M a0 = hf_98 M a0 := rfl
  show zH n (0, 0) 98 (0, [.inl a0], []) M _
  refine zH_wi_lt (pc := 3) (n' := 6) (t := 16) (L := [.inl a0]) (st := []) (x := a0) (y := 48) 2 hz (by rfl) (fun hb => ?_) (fun hb => ?_)
  · have hE := hE.trans (if_pos hb)
    refine zH_w (c' := (17, [.inl a0], [.inl 0])) 1 hz rfl ?_
    exact zH_zret hz rfl (hfinP hE)
  · have hE := hE.trans (if_neg hb)
    refine zH_wi_gt (pc := 9) (n' := 12) (t := 16) (L := [.inl a0]) (st := []) (x := a0) (y := 57) 2 hz (by rfl) (fun hb => ?_) (fun hb => ?_)
    · have hE := hE.trans (if_pos hb)
      refine zH_w (c' := (17, [.inl a0], [.inl 0])) 1 hz rfl ?_
      exact zH_zret hz rfl (hfinP hE)
    · have hE := hE.trans (if_neg hb)
      refine zH_w (c' := (17, [.inl a0], [.inl 1])) 2 hz rfl ?_
      exact zH_zret hz rfl (hfinP hE)
noncomputable def hf_99 (M : zM) (a0 : Int) : Int :=
  (if a0 < 97 then 0 else (if 122 < a0 then 0 else 1))
set_option maxRecDepth 100000 in
theorem fh_99 {n : Nat} {M : zM} (a0 : Int) : zH n (0, 0) 99 (0, zini [.inl a0] 1, []) M (fun r M' => r = some (.inl (hf_99 M a0)) ∧ M' = M) := by
  have hz := zp_99
  have hE : hf_99 M a0 = hf_99 M a0 := rfl
  show zH n (0, 0) 99 (0, [.inl a0], []) M _
  refine zH_wi_lt (pc := 3) (n' := 6) (t := 16) (L := [.inl a0]) (st := []) (x := a0) (y := 97) 2 hz (by rfl) (fun hb => ?_) (fun hb => ?_)
  · have hE := hE.trans (if_pos hb)
    refine zH_w (c' := (17, [.inl a0], [.inl 0])) 1 hz rfl ?_
    exact zH_zret hz rfl (hfinP hE)
  · have hE := hE.trans (if_neg hb)
    refine zH_wi_gt (pc := 9) (n' := 12) (t := 16) (L := [.inl a0]) (st := []) (x := a0) (y := 122) 2 hz (by rfl) (fun hb => ?_) (fun hb => ?_)
    · have hE := hE.trans (if_pos hb)
      refine zH_w (c' := (17, [.inl a0], [.inl 0])) 1 hz rfl ?_
      exact zH_zret hz rfl (hfinP hE)
    · have hE := hE.trans (if_neg hb)
      refine zH_w (c' := (17, [.inl a0], [.inl 1])) 2 hz rfl ?_
      exact zH_zret hz rfl (hfinP hE)
noncomputable def hf_90 (M : zM) (a0 : Int) : Int :=
  (if a0 < 0 then 0 else (if 27 ≤ a0 then 0 else M 1 (a0 : Int).toNat))
set_option maxRecDepth 100000 in
theorem fh_90 {n : Nat} {M : zM} (a0 : Int) : zH n (0, 0) 90 (0, zini [.inl a0] 1, []) M (fun r M' => r = some (.inl (hf_90 M a0)) ∧ M' = M) := by
  have hz := zp_90
  have hE : hf_90 M a0 = hf_90 M a0 := rfl
  show zH n (0, 0) 90 (0, [.inl a0], []) M _
  refine zH_wf_lt (pc := 1) (n' := 4) (t := 20) (L := [.inl a0]) (st := []) (x := a0) 1 hz (by rfl) (fun hb => ?_) (fun hb => ?_)
  · have hE := hE.trans (if_pos hb)
    exact zH_wr (r := some (.inl 0)) 1 hz (by rfl) (hfinP hE)
  · have hE := hE.trans (if_neg hb)
    refine zH_wi_ge (pc := 9) (n' := 12) (t := 20) (L := [.inl a0]) (st := []) (x := a0) (y := 27) 3 hz (by rfl) (fun hb => ?_) (fun hb => ?_)
    · have hE := hE.trans (if_pos hb)
      exact zH_wr (r := some (.inl 0)) 1 hz (by rfl) (hfinP hE)
    · have hE := hE.trans (if_neg hb)
      refine zH_w (c' := (16, [.inl a0], [.inl a0, zR 1])) 2 hz rfl ?_
      refine zH_iald hz rfl rfl (.inr rfl) (fun _ => ?_)
      show zH n (0, 0) 90 (17, [.inl a0], [.inl (M 1 (a0 : Int).toNat)]) M _
      exact zH_wr (r := some (.inl (M 1 (a0 : Int).toNat))) 1 hz (by rfl) (hfinP hE)
set_option maxRecDepth 100000 in
theorem fh_101_70 {n : Nat} {M : zM} : zH n (0, 0) 101 (0, zini [zR 70] 1, []) M (fun r M' => r = some (.inl (hR_size M 70)) ∧ M' = M) := by
  have hz := zp_101
  have hE : hR_size M 70 = hR_size M 70 := rfl
  show zH n (0, 0) 101 (0, [zR 70], []) M _
  exact zH_wr (r := some (.inl (M 70 3))) 2 hz (by rfl) (hfinP hE)
set_option maxRecDepth 100000 in
theorem fh_106_70 {n : Nat} {M : zM} (a1 : Int) (a2 : Int) : zH n (0, 0) 106 (0, zini [zR 70, .inl a1, .inl a2] 3, []) M (fun r M' => r = some (.inl (hR_get M 70 a1 a2)) ∧ M' = M) := by
  have hz := zp_106
  have hE : hR_get M 70 a1 a2 = hR_get M 70 a1 a2 := rfl
  show zH n (0, 0) 106 (0, [zR 70, .inl a1, .inl a2], []) M _
  refine zH_wf_lt (pc := 1) (n' := 4) (t := 24) (L := [zR 70, .inl a1, .inl a2]) (st := []) (x := a1) 1 hz (by rfl) (fun hb => ?_) (fun hb => ?_)
  · have hE := hE.trans (if_pos hb)
    exact zH_wr (r := some (.inl (-1))) 1 hz (by rfl) (hfinP hE)
  · have hE := hE.trans (if_neg hb)
    refine zH_wi_ge (pc := 9) (n' := 12) (t := 24) (L := [zR 70, .inl a1, .inl a2]) (st := []) (x := a1) (y := (M 70 0)) 3 hz (by rfl) (fun hb => ?_) (fun hb => ?_)
    · have hE := hE.trans (if_pos hb)
      exact zH_wr (r := some (.inl (-1))) 1 hz (by rfl) (hfinP hE)
    · have hE := hE.trans (if_neg hb)
      refine zH_wf_lt (pc := 13) (n' := 16) (t := 24) (L := [zR 70, .inl a1, .inl a2]) (st := []) (x := a2) 1 hz (by rfl) (fun hb => ?_) (fun hb => ?_)
      · have hE := hE.trans (if_pos hb)
        exact zH_wr (r := some (.inl (-1))) 1 hz (by rfl) (hfinP hE)
      · have hE := hE.trans (if_neg hb)
        refine zH_wi_lt (pc := 21) (n' := 24) (t := 26) (L := [zR 70, .inl a1, .inl a2]) (st := []) (x := a2) (y := (M 70 1)) 3 hz (by rfl) (fun hb => ?_) (fun hb => ?_)
        · have hE := hE.trans (if_pos hb)
          refine zH_w (c' := (38, [zR 70, .inl a1, .inl a2], [.inl (w32 ((w32 (a1 * (M 70 1))) + a2)), zR 71])) 8 hz rfl ?_
          refine zH_iald hz rfl rfl (.inl rfl) (fun _ => ?_)
          show zH n (0, 0) 106 (39, [zR 70, .inl a1, .inl a2], [.inl (M 71 (w32 ((w32 (a1 * (M 70 1))) + a2) : Int).toNat)]) M _
          exact zH_wr (r := some (.inl (M 71 (w32 ((w32 (a1 * (M 70 1))) + a2) : Int).toNat))) 0 hz (by rfl) (hfinP hE)
        · have hE := hE.trans (if_neg hb)
          exact zH_wr (r := some (.inl (-1))) 1 hz (by rfl) (hfinP hE)
noncomputable def hf_88_67 (M : zM) : Int :=
  (hR_get M 70 (w32 ((hR_size M 70) - 1)) 0)
set_option maxRecDepth 100000 in
theorem fh_88_67 {n : Nat} {M : zM} : zH n (0, 0) 88 (0, zini [zR 67] 1, []) M (fun r M' => r = some (.inl (hf_88_67 M)) ∧ M' = M) := by
  have hz := zp_88
  have hE : hf_88_67 M = hf_88_67 M := rfl
  show zH n (0, 0) 88 (0, [zR 67], []) M _
  refine zH_wE (c1 := (11, [zR 67], [zR 70])) 4 hz zp_101 (fh_101_70) (by rfl) ?_
  show zH n (0, 0) 88 (11, [zR 67], [.inl (hR_size M 70), zR 70]) M _
  refine zH_wE (c1 := (17, [zR 67], [])) 3 hz zp_106 (fh_106_70 (w32 ((hR_size M 70) - 1)) 0) (by rfl) ?_
  show zH n (0, 0) 88 (17, [zR 67], [.inl (hR_get M 70 (w32 ((hR_size M 70) - 1)) 0)]) M _
  exact zH_wr (r := some (.inl (hR_get M 70 (w32 ((hR_size M 70) - 1)) 0))) 0 hz (by rfl) (hfinP hE)
set_option maxRecDepth 100000 in
theorem fh_103_70 {n : Nat} {M : zM} : zH n (0, 0) 103 (0, zini [zR 70] 1, []) M (fun r M' => r = some (.inl (hR_open M 70).1) ∧ M' = (hR_open M 70).2) := by
  have hz := zp_103
  have hE : hR_open M 70 = hR_open M 70 := rfl
  show zH n (0, 0) 103 (0, [zR 70], []) M _
  refine zH_wi_lt (pc := 8) (n' := 11) (t := 14) (L := [zR 70]) (st := []) (x := (M 70 3)) (y := (M 70 0)) 4 hz (by rfl) (fun hb => ?_) (fun hb => ?_)
  · have hE := hE.trans (if_pos hb)
    refine zH_w (c' := (30, [zR 70], [.inl (w32 (((zput M 70 3 (w32 ((M 70 3) + 1))) 70 3) - 1))])) 10 hz rfl ?_
    exact zH_wr (r := some (.inl (w32 (((zput M 70 3 (w32 ((M 70 3) + 1))) 70 3) - 1)))) 0 hz (by rfl) (hfinB hE)
  · have hE := hE.trans (if_neg hb)
    exact zH_wr (r := some (.inl (-4))) 1 hz (by rfl) (hfinB hE)
set_option maxRecDepth 100000 in
theorem fh_107_70 {n : Nat} {M : zM} (a1 : Int) (a2 : Int) (a3 : Int) : zH n (0, 0) 107 (0, zini [zR 70, .inl a1, .inl a2, .inl a3] 4, []) M (fun r M' => r = none ∧ M' = hR_set M 70 a1 a2 a3) := by
  have hz := zp_107
  have hE : hR_set M 70 a1 a2 a3 = hR_set M 70 a1 a2 a3 := rfl
  show zH n (0, 0) 107 (0, [zR 70, .inl a1, .inl a2, .inl a3], []) M _
  refine zH_wf_lt (pc := 1) (n' := 4) (t := 24) (L := [zR 70, .inl a1, .inl a2, .inl a3]) (st := []) (x := a1) 1 hz (by rfl) (fun hb => ?_) (fun hb => ?_)
  · have hE := hE.trans (if_pos hb)
    exact zH_wr (r := none) 0 hz (by rfl) ⟨rfl, hE.symm⟩
  · have hE := hE.trans (if_neg hb)
    refine zH_wi_ge (pc := 9) (n' := 12) (t := 24) (L := [zR 70, .inl a1, .inl a2, .inl a3]) (st := []) (x := a1) (y := (M 70 0)) 3 hz (by rfl) (fun hb => ?_) (fun hb => ?_)
    · have hE := hE.trans (if_pos hb)
      exact zH_wr (r := none) 0 hz (by rfl) ⟨rfl, hE.symm⟩
    · have hE := hE.trans (if_neg hb)
      refine zH_wf_lt (pc := 13) (n' := 16) (t := 24) (L := [zR 70, .inl a1, .inl a2, .inl a3]) (st := []) (x := a2) 1 hz (by rfl) (fun hb => ?_) (fun hb => ?_)
      · have hE := hE.trans (if_pos hb)
        exact zH_wr (r := none) 0 hz (by rfl) ⟨rfl, hE.symm⟩
      · have hE := hE.trans (if_neg hb)
        refine zH_wi_lt (pc := 21) (n' := 24) (t := 25) (L := [zR 70, .inl a1, .inl a2, .inl a3]) (st := []) (x := a2) (y := (M 70 1)) 3 hz (by rfl) (fun hb => ?_) (fun hb => ?_)
        · have hE := hE.trans (if_pos hb)
          refine zH_w (c' := (38, [zR 70, .inl a1, .inl a2, .inl a3], [.inl a3, .inl (w32 ((w32 (a1 * (M 70 1))) + a2)), zR 71])) 9 hz rfl ?_
          refine zH_iast hz rfl rfl (fun _ => ?_)
          show zH n (0, 0) 107 (39, [zR 70, .inl a1, .inl a2, .inl a3], []) (zput M 71 (w32 ((w32 (a1 * (M 70 1))) + a2) : Int).toNat a3) _
          exact zH_wr (r := none) 0 hz (by rfl) ⟨rfl, hE.symm⟩
        · have hE := hE.trans (if_neg hb)
          exact zH_wr (r := none) 0 hz (by rfl) ⟨rfl, hE.symm⟩
noncomputable def hf_87_67 (M : zM) (a1 : Int) : zM :=
  (hR_set ((hR_open M 70).2) 70 ((hR_open M 70).1) 0 a1)
set_option maxRecDepth 100000 in
theorem fh_87_67 {n : Nat} {M : zM} (a1 : Int) : zH n (0, 0) 87 (0, zini [zR 67, .inl a1] 2, []) M (fun r M' => r = none ∧ M' = hf_87_67 M a1) := by
  have hz := zp_87
  have hE : hf_87_67 M a1 = hf_87_67 M a1 := rfl
  show zH n (0, 0) 87 (0, [zR 67, .inl a1], []) M _
  refine zH_wB (c1 := (11, [zR 67, .inl a1], [zR 70])) 4 hz zp_103 (fh_103_70) (by rfl) ?_
  intro u1 N2 hu1 hN2
  show zH n (0, 0) 87 (11, [zR 67, .inl a1], [.inl u1, zR 70]) N2 _
  refine zH_wW (c1 := (16, [zR 67, .inl a1], [])) 2 hz zp_107 (fh_107_70 u1 0 a1) (by rfl) ?_
  intro N3 hN3
  show zH n (0, 0) 87 (16, [zR 67, .inl a1], []) N3 _
  subst hN3
  subst hN2
  subst hu1
  exact zH_ret hz rfl rfl ⟨rfl, hE.symm⟩
set_option maxRecDepth 100000 in
theorem fh_106_68 {n : Nat} {M : zM} (a1 : Int) (a2 : Int) : zH n (0, 0) 106 (0, zini [zR 68, .inl a1, .inl a2] 3, []) M (fun r M' => r = some (.inl (hR_get M 68 a1 a2)) ∧ M' = M) := by
  have hz := zp_106
  have hE : hR_get M 68 a1 a2 = hR_get M 68 a1 a2 := rfl
  show zH n (0, 0) 106 (0, [zR 68, .inl a1, .inl a2], []) M _
  refine zH_wf_lt (pc := 1) (n' := 4) (t := 24) (L := [zR 68, .inl a1, .inl a2]) (st := []) (x := a1) 1 hz (by rfl) (fun hb => ?_) (fun hb => ?_)
  · have hE := hE.trans (if_pos hb)
    exact zH_wr (r := some (.inl (-1))) 1 hz (by rfl) (hfinP hE)
  · have hE := hE.trans (if_neg hb)
    refine zH_wi_ge (pc := 9) (n' := 12) (t := 24) (L := [zR 68, .inl a1, .inl a2]) (st := []) (x := a1) (y := (M 68 0)) 3 hz (by rfl) (fun hb => ?_) (fun hb => ?_)
    · have hE := hE.trans (if_pos hb)
      exact zH_wr (r := some (.inl (-1))) 1 hz (by rfl) (hfinP hE)
    · have hE := hE.trans (if_neg hb)
      refine zH_wf_lt (pc := 13) (n' := 16) (t := 24) (L := [zR 68, .inl a1, .inl a2]) (st := []) (x := a2) 1 hz (by rfl) (fun hb => ?_) (fun hb => ?_)
      · have hE := hE.trans (if_pos hb)
        exact zH_wr (r := some (.inl (-1))) 1 hz (by rfl) (hfinP hE)
      · have hE := hE.trans (if_neg hb)
        refine zH_wi_lt (pc := 21) (n' := 24) (t := 26) (L := [zR 68, .inl a1, .inl a2]) (st := []) (x := a2) (y := (M 68 1)) 3 hz (by rfl) (fun hb => ?_) (fun hb => ?_)
        · have hE := hE.trans (if_pos hb)
          refine zH_w (c' := (38, [zR 68, .inl a1, .inl a2], [.inl (w32 ((w32 (a1 * (M 68 1))) + a2)), zR 69])) 8 hz rfl ?_
          refine zH_iald hz rfl rfl (.inl rfl) (fun _ => ?_)
          show zH n (0, 0) 106 (39, [zR 68, .inl a1, .inl a2], [.inl (M 69 (w32 ((w32 (a1 * (M 68 1))) + a2) : Int).toNat)]) M _
          exact zH_wr (r := some (.inl (M 69 (w32 ((w32 (a1 * (M 68 1))) + a2) : Int).toNat))) 0 hz (by rfl) (hfinP hE)
        · have hE := hE.trans (if_neg hb)
          exact zH_wr (r := some (.inl (-1))) 1 hz (by rfl) (hfinP hE)
set_option maxRecDepth 100000 in
theorem fh_107_68 {n : Nat} {M : zM} (a1 : Int) (a2 : Int) (a3 : Int) : zH n (0, 0) 107 (0, zini [zR 68, .inl a1, .inl a2, .inl a3] 4, []) M (fun r M' => r = none ∧ M' = hR_set M 68 a1 a2 a3) := by
  have hz := zp_107
  have hE : hR_set M 68 a1 a2 a3 = hR_set M 68 a1 a2 a3 := rfl
  show zH n (0, 0) 107 (0, [zR 68, .inl a1, .inl a2, .inl a3], []) M _
  refine zH_wf_lt (pc := 1) (n' := 4) (t := 24) (L := [zR 68, .inl a1, .inl a2, .inl a3]) (st := []) (x := a1) 1 hz (by rfl) (fun hb => ?_) (fun hb => ?_)
  · have hE := hE.trans (if_pos hb)
    exact zH_wr (r := none) 0 hz (by rfl) ⟨rfl, hE.symm⟩
  · have hE := hE.trans (if_neg hb)
    refine zH_wi_ge (pc := 9) (n' := 12) (t := 24) (L := [zR 68, .inl a1, .inl a2, .inl a3]) (st := []) (x := a1) (y := (M 68 0)) 3 hz (by rfl) (fun hb => ?_) (fun hb => ?_)
    · have hE := hE.trans (if_pos hb)
      exact zH_wr (r := none) 0 hz (by rfl) ⟨rfl, hE.symm⟩
    · have hE := hE.trans (if_neg hb)
      refine zH_wf_lt (pc := 13) (n' := 16) (t := 24) (L := [zR 68, .inl a1, .inl a2, .inl a3]) (st := []) (x := a2) 1 hz (by rfl) (fun hb => ?_) (fun hb => ?_)
      · have hE := hE.trans (if_pos hb)
        exact zH_wr (r := none) 0 hz (by rfl) ⟨rfl, hE.symm⟩
      · have hE := hE.trans (if_neg hb)
        refine zH_wi_lt (pc := 21) (n' := 24) (t := 25) (L := [zR 68, .inl a1, .inl a2, .inl a3]) (st := []) (x := a2) (y := (M 68 1)) 3 hz (by rfl) (fun hb => ?_) (fun hb => ?_)
        · have hE := hE.trans (if_pos hb)
          refine zH_w (c' := (38, [zR 68, .inl a1, .inl a2, .inl a3], [.inl a3, .inl (w32 ((w32 (a1 * (M 68 1))) + a2)), zR 69])) 9 hz rfl ?_
          refine zH_iast hz rfl rfl (fun _ => ?_)
          show zH n (0, 0) 107 (39, [zR 68, .inl a1, .inl a2, .inl a3], []) (zput M 69 (w32 ((w32 (a1 * (M 68 1))) + a2) : Int).toNat a3) _
          exact zH_wr (r := none) 0 hz (by rfl) ⟨rfl, hE.symm⟩
        · have hE := hE.trans (if_neg hb)
          exact zH_wr (r := none) 0 hz (by rfl) ⟨rfl, hE.symm⟩
noncomputable def hf_89_67 (M : zM) (a1 : Int) : zM :=
  (hR_set (hR_set M 68 0 (w32 (1 + (hR_get M 68 0 0))) a1) 68 0 0 (w32 ((hR_get M 68 0 0) + 1)))
set_option maxRecDepth 100000 in
theorem fh_89_67 {n : Nat} {M : zM} (a1 : Int) : zH n (0, 0) 89 (0, zini [zR 67, .inl a1] 3, []) M (fun r M' => r = none ∧ M' = hf_89_67 M a1) := by
  have hz := zp_89
  have hE : hf_89_67 M a1 = hf_89_67 M a1 := rfl
  show zH n (0, 0) 89 (0, [zR 67, .inl a1, zN], []) M _
  refine zH_wE (c1 := (9, [zR 67, .inl a1, zN], [])) 4 hz zp_106 (fh_106_68 0 0) (by rfl) ?_
  show zH n (0, 0) 89 (9, [zR 67, .inl a1, zN], [.inl (hR_get M 68 0 0)]) M _
  refine zH_wW (c1 := (22, [zR 67, .inl a1, .inl (hR_get M 68 0 0)], [])) 8 hz zp_107 (fh_107_68 0 (w32 (1 + (hR_get M 68 0 0))) a1) (by rfl) ?_
  intro N1 hN1
  show zH n (0, 0) 89 (22, [zR 67, .inl a1, .inl (hR_get M 68 0 0)], []) N1 _
  refine zH_wW (c1 := (34, [zR 67, .inl a1, .inl (hR_get M 68 0 0)], [])) 7 hz zp_107 (fh_107_68 0 0 (w32 ((hR_get M 68 0 0) + 1))) (by rfl) ?_
  intro N2 hN2
  show zH n (0, 0) 89 (34, [zR 67, .inl a1, .inl (hR_get M 68 0 0)], []) N2 _
  subst hN2
  subst hN1
  exact zH_ret hz rfl rfl ⟨rfl, hE.symm⟩
noncomputable def hf_92_67 (M : zM) (a1 : Int) : zM :=
  (if ¬ (M 67 10) = (-1) then M else zput M 67 10 (w32 ((w32 (10 * (M 67 5))) + a1)))
set_option maxRecDepth 100000 in
theorem fh_92_67 {n : Nat} {M : zM} (a1 : Int) : zH n (0, 0) 92 (0, zini [zR 67, .inl a1] 2, []) M (fun r M' => r = none ∧ M' = hf_92_67 M a1) := by
  have hz := zp_92
  have hE : hf_92_67 M a1 = hf_92_67 M a1 := rfl
  show zH n (0, 0) 92 (0, [zR 67, .inl a1], []) M _
  refine zH_wi_ne (pc := 5) (n' := 8) (t := 21) (L := [zR 67, .inl a1]) (st := []) (x := (M 67 10)) (y := (-1)) 3 hz (by rfl) (fun hb => ?_) (fun hb => ?_)
  · have hE := hE.trans (if_pos hb)
    exact zH_wr (r := none) 0 hz (by rfl) ⟨rfl, hE.symm⟩
  · have hE := hE.trans (if_neg hb)
    refine zH_w (c' := (21, [zR 67, .inl a1], [])) 8 hz rfl ?_
    exact zH_wr (r := none) 0 hz (by rfl) ⟨rfl, hE.symm⟩
noncomputable def hf_91_67 (M : zM) (a1 : Int) : zM :=
  (if ¬ a1 = 0 then M else (hf_92_67 M 1))
set_option maxRecDepth 100000 in
theorem fh_91_67 {n : Nat} {M : zM} (a1 : Int) : zH n (0, 0) 91 (0, zini [zR 67, .inl a1] 2, []) M (fun r M' => r = none ∧ M' = hf_91_67 M a1) := by
  have hz := zp_91
  have hE : hf_91_67 M a1 = hf_91_67 M a1 := rfl
  show zH n (0, 0) 91 (0, [zR 67, .inl a1], []) M _
  refine zH_wf_ne (pc := 1) (n' := 4) (t := 9) (L := [zR 67, .inl a1]) (st := []) (x := a1) 1 hz (by rfl) (fun hb => ?_) (fun hb => ?_)
  · have hE := hE.trans (if_pos hb)
    exact zH_wr (r := none) 0 hz (by rfl) ⟨rfl, hE.symm⟩
  · have hE := hE.trans (if_neg hb)
    refine zH_wW (c1 := (9, [zR 67, .inl a1], [])) 2 hz zp_92 (fh_92_67 1) (by rfl) ?_
    intro N1 hN1
    show zH n (0, 0) 91 (9, [zR 67, .inl a1], []) N1 _
    subst hN1
    exact zH_ret hz rfl rfl ⟨rfl, hE.symm⟩
noncomputable def hf_86_67 (M : zM) : zM :=
  zput (hf_87_67 M (M 67 7)) 67 11 1
set_option maxRecDepth 100000 in
theorem fh_86_67 {n : Nat} {M : zM} : zH n (0, 0) 86 (0, zini [zR 67] 1, []) M (fun r M' => r = none ∧ M' = hf_86_67 M) := by
  have hz := zp_86
  have hE : hf_86_67 M = hf_86_67 M := rfl
  show zH n (0, 0) 86 (0, [zR 67], []) M _
  refine zH_wW (c1 := (8, [zR 67], [])) 3 hz zp_87 (fh_87_67 (M 67 7)) (by rfl) ?_
  intro N1 hN1
  show zH n (0, 0) 86 (8, [zR 67], []) N1 _
  refine zH_w (c' := (10, [zR 67], [.inl 1, zR 67])) 2 hz rfl ?_
  refine zH_putz hz rfl (by decide) rfl rfl ?_
  show zH n (0, 0) 86 (13, [zR 67], []) (zput N1 67 11 1) _
  subst hN1
  exact zH_ret hz rfl rfl ⟨rfl, hE.symm⟩
noncomputable def hf_85_67 (M : zM) (a1 : Int) : zM :=
  (if ¬ a1 = 0 then (hf_86_67 (hf_91_67 M 0)) else (hf_86_67 (hf_91_67 M 1)))
set_option maxRecDepth 100000 in
theorem fh_85_67 {n : Nat} {M : zM} (a1 : Int) : zH n (0, 0) 85 (0, zini [zR 67, .inl a1] 2, []) M (fun r M' => r = none ∧ M' = hf_85_67 M a1) := by
  have hz := zp_85
  have hE : hf_85_67 M a1 = hf_85_67 M a1 := rfl
  show zH n (0, 0) 85 (0, [zR 67, .inl a1], []) M _
  refine zH_wf_ne (pc := 2) (n' := 5) (t := 9) (L := [zR 67, .inl a1]) (st := [zR 67]) (x := a1) 2 hz (by rfl) (fun hb => ?_) (fun hb => ?_)
  · have hE := hE.trans (if_pos hb)
    refine zH_wW (c1 := (13, [zR 67, .inl a1], [])) 1 hz zp_91 (fh_91_67 0) (by rfl) ?_
    intro N1 hN1
    show zH n (0, 0) 85 (13, [zR 67, .inl a1], []) N1 _
    refine zH_wW (c1 := (17, [zR 67, .inl a1], [])) 1 hz zp_86 (fh_86_67) (by rfl) ?_
    intro N2 hN2
    show zH n (0, 0) 85 (17, [zR 67, .inl a1], []) N2 _
    subst hN2
    subst hN1
    exact zH_ret hz rfl rfl ⟨rfl, hE.symm⟩
  · have hE := hE.trans (if_neg hb)
    refine zH_wW (c1 := (13, [zR 67, .inl a1], [])) 2 hz zp_91 (fh_91_67 1) (by rfl) ?_
    intro N3 hN3
    show zH n (0, 0) 85 (13, [zR 67, .inl a1], []) N3 _
    refine zH_wW (c1 := (17, [zR 67, .inl a1], [])) 1 hz zp_86 (fh_86_67) (by rfl) ?_
    intro N4 hN4
    show zH n (0, 0) 85 (17, [zR 67, .inl a1], []) N4 _
    subst hN4
    subst hN3
    exact zH_ret hz rfl rfl ⟨rfl, hE.symm⟩
noncomputable def hf_82_67 (M : zM) : zM :=
  (if ¬ (hf_88_67 M) = 1 then zput (hR_set (hf_91_67 M 0) 70 (w32 ((hR_size (hf_91_67 M 0) 70) - 1)) 0 2) 67 11 1 else zput (hR_set (hf_91_67 M 1) 70 (w32 ((hR_size (hf_91_67 M 1) 70) - 1)) 0 2) 67 11 1)
set_option maxRecDepth 100000 in
theorem fh_82_67 {n : Nat} {M : zM} : zH n (0, 0) 82 (0, zini [zR 67] 1, []) M (fun r M' => r = none ∧ M' = hf_82_67 M) := by
  have hz := zp_82
  have hE : hf_82_67 M = hf_82_67 M := rfl
  show zH n (0, 0) 82 (0, [zR 67], []) M _
  refine zH_wE (c1 := (5, [zR 67], [zR 67])) 2 hz zp_88 (fh_88_67) (by rfl) ?_
  show zH n (0, 0) 82 (5, [zR 67], [.inl (hf_88_67 M), zR 67]) M _
  refine zH_wi_ne (pc := 6) (n' := 9) (t := 13) (L := [zR 67]) (st := [zR 67]) (x := (hf_88_67 M)) (y := 1) 1 hz (by rfl) (fun hb => ?_) (fun hb => ?_)
  · have hE := hE.trans (if_pos hb)
    refine zH_wW (c1 := (17, [zR 67], [])) 1 hz zp_91 (fh_91_67 0) (by rfl) ?_
    intro N1 hN1
    show zH n (0, 0) 82 (17, [zR 67], []) N1 _
    refine zH_wE (c1 := (28, [zR 67], [zR 70])) 4 hz zp_101 (fh_101_70) (by rfl) ?_
    show zH n (0, 0) 82 (28, [zR 67], [.inl (hR_size N1 70), zR 70]) N1 _
    refine zH_wW (c1 := (35, [zR 67], [])) 4 hz zp_107 (fh_107_70 (w32 ((hR_size N1 70) - 1)) 0 2) (by rfl) ?_
    intro N2 hN2
    show zH n (0, 0) 82 (35, [zR 67], []) N2 _
    refine zH_w (c' := (37, [zR 67], [.inl 1, zR 67])) 2 hz rfl ?_
    refine zH_putz hz rfl (by decide) rfl rfl ?_
    show zH n (0, 0) 82 (40, [zR 67], []) (zput N2 67 11 1) _
    subst hN2
    subst hN1
    exact zH_ret hz rfl rfl ⟨rfl, hE.symm⟩
  · have hE := hE.trans (if_neg hb)
    refine zH_wW (c1 := (17, [zR 67], [])) 2 hz zp_91 (fh_91_67 1) (by rfl) ?_
    intro N3 hN3
    show zH n (0, 0) 82 (17, [zR 67], []) N3 _
    refine zH_wE (c1 := (28, [zR 67], [zR 70])) 4 hz zp_101 (fh_101_70) (by rfl) ?_
    show zH n (0, 0) 82 (28, [zR 67], [.inl (hR_size N3 70), zR 70]) N3 _
    refine zH_wW (c1 := (35, [zR 67], [])) 4 hz zp_107 (fh_107_70 (w32 ((hR_size N3 70) - 1)) 0 2) (by rfl) ?_
    intro N4 hN4
    show zH n (0, 0) 82 (35, [zR 67], []) N4 _
    refine zH_w (c' := (37, [zR 67], [.inl 1, zR 67])) 2 hz rfl ?_
    refine zH_putz hz rfl (by decide) rfl rfl ?_
    show zH n (0, 0) 82 (40, [zR 67], []) (zput N4 67 11 1) _
    subst hN4
    subst hN3
    exact zH_ret hz rfl rfl ⟨rfl, hE.symm⟩
noncomputable def hR_dropLast (M : zM) (r : Nat) : zM :=
  zput M r 3 (if 0 < (w32 ((M r 3) - 1)) then (w32 ((M r 3) - 1)) else 0)
set_option maxRecDepth 100000 in
theorem fh_105_70 {n : Nat} {M : zM} : zH n (0, 0) 105 (0, zini [zR 70] 1, []) M (fun r M' => r = none ∧ M' = hR_dropLast M 70) := by
  have hz := zp_105
  have hE : hR_dropLast M 70 = hR_dropLast M 70 := rfl
  show zH n (0, 0) 105 (0, [zR 70], []) M _
  refine zH_w (c' := (14, [zR 70], [])) 8 hz rfl ?_
  exact zH_wr (r := none) 0 hz (by rfl) ⟨rfl, hE.symm⟩
noncomputable def hf_81_67 (M : zM) : zM :=
  (if ¬ (hf_88_67 M) = 22 then (if ¬ ((hf_91_67 M 0) 67 10) = (-1) then (hf_91_67 M 0) else (hR_dropLast (zput (hf_91_67 M 0) 67 9 (w32 ((((hf_91_67 M 0)) 67 9) - 1))) 70)) else (if ¬ ((hf_91_67 M 1) 67 10) = (-1) then (hf_91_67 M 1) else (hR_dropLast (zput (hf_91_67 M 1) 67 9 (w32 ((((hf_91_67 M 1)) 67 9) - 1))) 70)))
set_option maxRecDepth 100000 in
theorem fh_81_67 {n : Nat} {M : zM} : zH n (0, 0) 81 (0, zini [zR 67] 1, []) M (fun r M' => r = none ∧ M' = hf_81_67 M) := by
  have hz := zp_81
  have hE : hf_81_67 M = hf_81_67 M := rfl
  show zH n (0, 0) 81 (0, [zR 67], []) M _
  refine zH_wE (c1 := (5, [zR 67], [zR 67])) 2 hz zp_88 (fh_88_67) (by rfl) ?_
  show zH n (0, 0) 81 (5, [zR 67], [.inl (hf_88_67 M), zR 67]) M _
  refine zH_wi_ne (pc := 7) (n' := 10) (t := 14) (L := [zR 67]) (st := [zR 67]) (x := (hf_88_67 M)) (y := 22) 1 hz (by rfl) (fun hb => ?_) (fun hb => ?_)
  · have hE := hE.trans (if_pos hb)
    refine zH_wW (c1 := (18, [zR 67], [])) 1 hz zp_91 (fh_91_67 0) (by rfl) ?_
    intro N1 hN1
    show zH n (0, 0) 81 (18, [zR 67], []) N1 _
    refine zH_w (c' := (23, [zR 67], [.inl (-1), .inl (N1 67 10)])) 3 hz rfl ?_
    subst hN1
    refine zH_icmp_ne hz rfl (fun hb => ?_) (fun hb => ?_)
    · have hE := hE.trans (if_pos hb)
      exact zH_ret hz rfl rfl ⟨rfl, hE.symm⟩
    · have hE := hE.trans (if_neg hb)
      refine zH_w (c' := (40, [zR 67], [zR 70])) 8 hz rfl ?_
      refine zH_wW (c1 := (43, [zR 67], [])) 0 hz zp_105 (fh_105_70) (by rfl) ?_
      intro N2 hN2
      show zH n (0, 0) 81 (43, [zR 67], []) N2 _
      subst hN2
      exact zH_ret hz rfl rfl ⟨rfl, hE.symm⟩
  · have hE := hE.trans (if_neg hb)
    refine zH_wW (c1 := (18, [zR 67], [])) 2 hz zp_91 (fh_91_67 1) (by rfl) ?_
    intro N3 hN3
    show zH n (0, 0) 81 (18, [zR 67], []) N3 _
    refine zH_w (c' := (23, [zR 67], [.inl (-1), .inl (N3 67 10)])) 3 hz rfl ?_
    subst hN3
    refine zH_icmp_ne hz rfl (fun hb => ?_) (fun hb => ?_)
    · have hE := hE.trans (if_pos hb)
      exact zH_ret hz rfl rfl ⟨rfl, hE.symm⟩
    · have hE := hE.trans (if_neg hb)
      refine zH_w (c' := (40, [zR 67], [zR 70])) 8 hz rfl ?_
      refine zH_wW (c1 := (43, [zR 67], [])) 0 hz zp_105 (fh_105_70) (by rfl) ?_
      intro N4 hN4
      show zH n (0, 0) 81 (43, [zR 67], []) N4 _
      subst hN4
      exact zH_ret hz rfl rfl ⟨rfl, hE.symm⟩
noncomputable def hf_80_67 (M : zM) : zM :=
  (if (M 67 9) < 8 then (hf_87_67 (zput M 67 9 (w32 ((M 67 9) + 1))) 22) else (hf_92_67 M 3))
set_option maxRecDepth 100000 in
theorem fh_80_67 {n : Nat} {M : zM} : zH n (0, 0) 80 (0, zini [zR 67] 1, []) M (fun r M' => r = none ∧ M' = hf_80_67 M) := by
  have hz := zp_80
  have hE : hf_80_67 M = hf_80_67 M := rfl
  show zH n (0, 0) 80 (0, [zR 67], []) M _
  refine zH_wi_lt (pc := 6) (n' := 9) (t := 15) (L := [zR 67]) (st := []) (x := (M 67 9)) (y := 8) 3 hz (by rfl) (fun hb => ?_) (fun hb => ?_)
  · have hE := hE.trans (if_pos hb)
    refine zH_w (c' := (28, [zR 67], [.inl 22, zR 67])) 8 hz rfl ?_
    refine zH_wW (c1 := (31, [zR 67], [])) 0 hz zp_87 (fh_87_67 22) (by rfl) ?_
    intro N1 hN1
    show zH n (0, 0) 80 (31, [zR 67], []) N1 _
    subst hN1
    exact zH_ret hz rfl rfl ⟨rfl, hE.symm⟩
  · have hE := hE.trans (if_neg hb)
    refine zH_wW (c1 := (14, [zR 67], [])) 2 hz zp_92 (fh_92_67 3) (by rfl) ?_
    intro N2 hN2
    show zH n (0, 0) 80 (14, [zR 67], []) N2 _
    subst hN2
    exact zH_ret hz rfl rfl ⟨rfl, hE.symm⟩
noncomputable def hf_79_67 (M : zM) : zM :=
  (if (w32 ((M 67 6) - (M 67 5))) ≤ 6 then zput (hf_89_67 M (M 67 8)) 67 11 0 else (hf_92_67 M 2))
set_option maxRecDepth 100000 in
theorem fh_79_67 {n : Nat} {M : zM} : zH n (0, 0) 79 (0, zini [zR 67] 1, []) M (fun r M' => r = none ∧ M' = hf_79_67 M) := by
  have hz := zp_79
  have hE : hf_79_67 M = hf_79_67 M := rfl
  show zH n (0, 0) 79 (0, [zR 67], []) M _
  refine zH_wi_le (pc := 11) (n' := 14) (t := 20) (L := [zR 67]) (st := []) (x := (w32 ((M 67 6) - (M 67 5)))) (y := 6) 6 hz (by rfl) (fun hb => ?_) (fun hb => ?_)
  · have hE := hE.trans (if_pos hb)
    refine zH_wW (c1 := (28, [zR 67], [])) 3 hz zp_89 (fh_89_67 (M 67 8)) (by rfl) ?_
    intro N1 hN1
    show zH n (0, 0) 79 (28, [zR 67], []) N1 _
    refine zH_w (c' := (30, [zR 67], [.inl 0, zR 67])) 2 hz rfl ?_
    refine zH_putz hz rfl (by decide) rfl rfl ?_
    show zH n (0, 0) 79 (33, [zR 67], []) (zput N1 67 11 0) _
    subst hN1
    exact zH_ret hz rfl rfl ⟨rfl, hE.symm⟩
  · have hE := hE.trans (if_neg hb)
    refine zH_wW (c1 := (19, [zR 67], [])) 2 hz zp_92 (fh_92_67 2) (by rfl) ?_
    intro N2 hN2
    show zH n (0, 0) 79 (19, [zR 67], []) N2 _
    subst hN2
    exact zH_ret hz rfl rfl ⟨rfl, hE.symm⟩
noncomputable def hf_77_67 (M : zM) : zM :=
  (if (M 67 7) = 5 then (hf_87_67 M (M 67 7)) else (if (M 67 7) = 6 then (hf_87_67 M (M 67 7)) else (if (M 67 7) = 7 then zput (hf_89_67 M (zbxor (M 67 7) (-1))) 67 11 0 else (if (M 67 7) = 8 then zput (hf_89_67 M (zbxor (M 67 7) (-1))) 67 11 0 else (if (M 67 7) = 9 then zput (hf_89_67 M (zbxor (M 67 7) (-1))) 67 11 0 else (if (M 67 7) = 10 then zput (hf_89_67 M (zbxor (M 67 7) (-1))) 67 11 0 else (if (M 67 7) = 11 then zput (hf_89_67 M (zbxor (M 67 7) (-1))) 67 11 0 else (if (M 67 7) = 12 then zput (hf_89_67 M (zbxor (M 67 7) (-1))) 67 11 0 else (if (M 67 7) = 13 then zput (hf_89_67 M (zbxor (M 67 7) (-1))) 67 11 0 else (if (M 67 7) = 14 then zput (hf_89_67 M (zbxor (M 67 7) (-1))) 67 11 0 else (if (M 67 7) = 15 then (hf_92_67 M 1) else (if (M 67 7) = 16 then (hf_92_67 M 1) else (if (M 67 7) = 17 then (hf_92_67 M 1) else (if (M 67 7) = 18 then (hf_92_67 M 1) else (if (M 67 7) = 19 then (hf_87_67 M 26) else (if (M 67 7) = 20 then (hf_92_67 M 1) else (if (M 67 7) = 21 then (hf_92_67 M 1) else (if (M 67 7) = 22 then (hf_80_67 M) else (if (M 67 7) = 23 then (hf_92_67 M 1) else (if (M 67 7) = 24 then (hf_79_67 M) else (hf_92_67 M 1)))))))))))))))))))))
set_option maxRecDepth 100000 in
theorem fh_77_67 {n : Nat} {M : zM} : zH n (0, 0) 77 (0, zini [zR 67] 1, []) M (fun r M' => r = none ∧ M' = hf_77_67 M) := by
  have hz := zp_77
  have hE : hf_77_67 M = hf_77_67 M := rfl
  show zH n (0, 0) 77 (0, [zR 67], []) M _
  refine zH_w (c' := (4, [zR 67], [.inl (M 67 7)])) 2 hz rfl ?_
  refine zH_sw hz rfl ?_
  by_cases hw0 : (M 67 7) = 5
  · have hE := hE.trans (if_pos hw0)
    rw [show zts 5 (M 67 7) 152 [125, 125, 107, 107, 107, 107, 107, 107, 107, 107, 152, 152, 152, 152, 136, 152, 152, 145, 152, 100] = 125 from by rw [hw0]; rfl]
    refine zH_w (c' := (130, [zR 67], [.inl (M 67 7), zR 67])) 3 hz rfl ?_
    refine zH_wW (c1 := (133, [zR 67], [])) 0 hz zp_87 (fh_87_67 (M 67 7)) (by rfl) ?_
    intro N1 hN1
    show zH n (0, 0) 77 (133, [zR 67], []) N1 _
    refine zH_w (c' := (157, [zR 67], [])) 1 hz rfl ?_
    subst hN1
    exact zH_ret hz rfl rfl ⟨rfl, hE.symm⟩
  have hE := hE.trans (if_neg hw0)
  by_cases hw1 : (M 67 7) = 6
  · have hE := hE.trans (if_pos hw1)
    rw [show zts 5 (M 67 7) 152 [125, 125, 107, 107, 107, 107, 107, 107, 107, 107, 152, 152, 152, 152, 136, 152, 152, 145, 152, 100] = 125 from by rw [hw1]; rfl]
    refine zH_w (c' := (130, [zR 67], [.inl (M 67 7), zR 67])) 3 hz rfl ?_
    refine zH_wW (c1 := (133, [zR 67], [])) 0 hz zp_87 (fh_87_67 (M 67 7)) (by rfl) ?_
    intro N2 hN2
    show zH n (0, 0) 77 (133, [zR 67], []) N2 _
    refine zH_w (c' := (157, [zR 67], [])) 1 hz rfl ?_
    subst hN2
    exact zH_ret hz rfl rfl ⟨rfl, hE.symm⟩
  have hE := hE.trans (if_neg hw1)
  by_cases hw2 : (M 67 7) = 7
  · have hE := hE.trans (if_pos hw2)
    rw [show zts 5 (M 67 7) 152 [125, 125, 107, 107, 107, 107, 107, 107, 107, 107, 152, 152, 152, 152, 136, 152, 152, 145, 152, 100] = 107 from by rw [hw2]; rfl]
    refine zH_w (c' := (114, [zR 67], [.inl (zbxor (M 67 7) (-1)), zR 67])) 5 hz rfl ?_
    refine zH_wW (c1 := (117, [zR 67], [])) 0 hz zp_89 (fh_89_67 (zbxor (M 67 7) (-1))) (by rfl) ?_
    intro N3 hN3
    show zH n (0, 0) 77 (117, [zR 67], []) N3 _
    refine zH_w (c' := (119, [zR 67], [.inl 0, zR 67])) 2 hz rfl ?_
    refine zH_putz hz rfl (by decide) rfl rfl ?_
    show zH n (0, 0) 77 (122, [zR 67], []) (zput N3 67 11 0) _
    refine zH_w (c' := (157, [zR 67], [])) 1 hz rfl ?_
    subst hN3
    exact zH_ret hz rfl rfl ⟨rfl, hE.symm⟩
  have hE := hE.trans (if_neg hw2)
  by_cases hw3 : (M 67 7) = 8
  · have hE := hE.trans (if_pos hw3)
    rw [show zts 5 (M 67 7) 152 [125, 125, 107, 107, 107, 107, 107, 107, 107, 107, 152, 152, 152, 152, 136, 152, 152, 145, 152, 100] = 107 from by rw [hw3]; rfl]
    refine zH_w (c' := (114, [zR 67], [.inl (zbxor (M 67 7) (-1)), zR 67])) 5 hz rfl ?_
    refine zH_wW (c1 := (117, [zR 67], [])) 0 hz zp_89 (fh_89_67 (zbxor (M 67 7) (-1))) (by rfl) ?_
    intro N4 hN4
    show zH n (0, 0) 77 (117, [zR 67], []) N4 _
    refine zH_w (c' := (119, [zR 67], [.inl 0, zR 67])) 2 hz rfl ?_
    refine zH_putz hz rfl (by decide) rfl rfl ?_
    show zH n (0, 0) 77 (122, [zR 67], []) (zput N4 67 11 0) _
    refine zH_w (c' := (157, [zR 67], [])) 1 hz rfl ?_
    subst hN4
    exact zH_ret hz rfl rfl ⟨rfl, hE.symm⟩
  have hE := hE.trans (if_neg hw3)
  by_cases hw4 : (M 67 7) = 9
  · have hE := hE.trans (if_pos hw4)
    rw [show zts 5 (M 67 7) 152 [125, 125, 107, 107, 107, 107, 107, 107, 107, 107, 152, 152, 152, 152, 136, 152, 152, 145, 152, 100] = 107 from by rw [hw4]; rfl]
    refine zH_w (c' := (114, [zR 67], [.inl (zbxor (M 67 7) (-1)), zR 67])) 5 hz rfl ?_
    refine zH_wW (c1 := (117, [zR 67], [])) 0 hz zp_89 (fh_89_67 (zbxor (M 67 7) (-1))) (by rfl) ?_
    intro N5 hN5
    show zH n (0, 0) 77 (117, [zR 67], []) N5 _
    refine zH_w (c' := (119, [zR 67], [.inl 0, zR 67])) 2 hz rfl ?_
    refine zH_putz hz rfl (by decide) rfl rfl ?_
    show zH n (0, 0) 77 (122, [zR 67], []) (zput N5 67 11 0) _
    refine zH_w (c' := (157, [zR 67], [])) 1 hz rfl ?_
    subst hN5
    exact zH_ret hz rfl rfl ⟨rfl, hE.symm⟩
  have hE := hE.trans (if_neg hw4)
  by_cases hw5 : (M 67 7) = 10
  · have hE := hE.trans (if_pos hw5)
    rw [show zts 5 (M 67 7) 152 [125, 125, 107, 107, 107, 107, 107, 107, 107, 107, 152, 152, 152, 152, 136, 152, 152, 145, 152, 100] = 107 from by rw [hw5]; rfl]
    refine zH_w (c' := (114, [zR 67], [.inl (zbxor (M 67 7) (-1)), zR 67])) 5 hz rfl ?_
    refine zH_wW (c1 := (117, [zR 67], [])) 0 hz zp_89 (fh_89_67 (zbxor (M 67 7) (-1))) (by rfl) ?_
    intro N6 hN6
    show zH n (0, 0) 77 (117, [zR 67], []) N6 _
    refine zH_w (c' := (119, [zR 67], [.inl 0, zR 67])) 2 hz rfl ?_
    refine zH_putz hz rfl (by decide) rfl rfl ?_
    show zH n (0, 0) 77 (122, [zR 67], []) (zput N6 67 11 0) _
    refine zH_w (c' := (157, [zR 67], [])) 1 hz rfl ?_
    subst hN6
    exact zH_ret hz rfl rfl ⟨rfl, hE.symm⟩
  have hE := hE.trans (if_neg hw5)
  by_cases hw6 : (M 67 7) = 11
  · have hE := hE.trans (if_pos hw6)
    rw [show zts 5 (M 67 7) 152 [125, 125, 107, 107, 107, 107, 107, 107, 107, 107, 152, 152, 152, 152, 136, 152, 152, 145, 152, 100] = 107 from by rw [hw6]; rfl]
    refine zH_w (c' := (114, [zR 67], [.inl (zbxor (M 67 7) (-1)), zR 67])) 5 hz rfl ?_
    refine zH_wW (c1 := (117, [zR 67], [])) 0 hz zp_89 (fh_89_67 (zbxor (M 67 7) (-1))) (by rfl) ?_
    intro N7 hN7
    show zH n (0, 0) 77 (117, [zR 67], []) N7 _
    refine zH_w (c' := (119, [zR 67], [.inl 0, zR 67])) 2 hz rfl ?_
    refine zH_putz hz rfl (by decide) rfl rfl ?_
    show zH n (0, 0) 77 (122, [zR 67], []) (zput N7 67 11 0) _
    refine zH_w (c' := (157, [zR 67], [])) 1 hz rfl ?_
    subst hN7
    exact zH_ret hz rfl rfl ⟨rfl, hE.symm⟩
  have hE := hE.trans (if_neg hw6)
  by_cases hw7 : (M 67 7) = 12
  · have hE := hE.trans (if_pos hw7)
    rw [show zts 5 (M 67 7) 152 [125, 125, 107, 107, 107, 107, 107, 107, 107, 107, 152, 152, 152, 152, 136, 152, 152, 145, 152, 100] = 107 from by rw [hw7]; rfl]
    refine zH_w (c' := (114, [zR 67], [.inl (zbxor (M 67 7) (-1)), zR 67])) 5 hz rfl ?_
    refine zH_wW (c1 := (117, [zR 67], [])) 0 hz zp_89 (fh_89_67 (zbxor (M 67 7) (-1))) (by rfl) ?_
    intro N8 hN8
    show zH n (0, 0) 77 (117, [zR 67], []) N8 _
    refine zH_w (c' := (119, [zR 67], [.inl 0, zR 67])) 2 hz rfl ?_
    refine zH_putz hz rfl (by decide) rfl rfl ?_
    show zH n (0, 0) 77 (122, [zR 67], []) (zput N8 67 11 0) _
    refine zH_w (c' := (157, [zR 67], [])) 1 hz rfl ?_
    subst hN8
    exact zH_ret hz rfl rfl ⟨rfl, hE.symm⟩
  have hE := hE.trans (if_neg hw7)
  by_cases hw8 : (M 67 7) = 13
  · have hE := hE.trans (if_pos hw8)
    rw [show zts 5 (M 67 7) 152 [125, 125, 107, 107, 107, 107, 107, 107, 107, 107, 152, 152, 152, 152, 136, 152, 152, 145, 152, 100] = 107 from by rw [hw8]; rfl]
    refine zH_w (c' := (114, [zR 67], [.inl (zbxor (M 67 7) (-1)), zR 67])) 5 hz rfl ?_
    refine zH_wW (c1 := (117, [zR 67], [])) 0 hz zp_89 (fh_89_67 (zbxor (M 67 7) (-1))) (by rfl) ?_
    intro N9 hN9
    show zH n (0, 0) 77 (117, [zR 67], []) N9 _
    refine zH_w (c' := (119, [zR 67], [.inl 0, zR 67])) 2 hz rfl ?_
    refine zH_putz hz rfl (by decide) rfl rfl ?_
    show zH n (0, 0) 77 (122, [zR 67], []) (zput N9 67 11 0) _
    refine zH_w (c' := (157, [zR 67], [])) 1 hz rfl ?_
    subst hN9
    exact zH_ret hz rfl rfl ⟨rfl, hE.symm⟩
  have hE := hE.trans (if_neg hw8)
  by_cases hw9 : (M 67 7) = 14
  · have hE := hE.trans (if_pos hw9)
    rw [show zts 5 (M 67 7) 152 [125, 125, 107, 107, 107, 107, 107, 107, 107, 107, 152, 152, 152, 152, 136, 152, 152, 145, 152, 100] = 107 from by rw [hw9]; rfl]
    refine zH_w (c' := (114, [zR 67], [.inl (zbxor (M 67 7) (-1)), zR 67])) 5 hz rfl ?_
    refine zH_wW (c1 := (117, [zR 67], [])) 0 hz zp_89 (fh_89_67 (zbxor (M 67 7) (-1))) (by rfl) ?_
    intro N10 hN10
    show zH n (0, 0) 77 (117, [zR 67], []) N10 _
    refine zH_w (c' := (119, [zR 67], [.inl 0, zR 67])) 2 hz rfl ?_
    refine zH_putz hz rfl (by decide) rfl rfl ?_
    show zH n (0, 0) 77 (122, [zR 67], []) (zput N10 67 11 0) _
    refine zH_w (c' := (157, [zR 67], [])) 1 hz rfl ?_
    subst hN10
    exact zH_ret hz rfl rfl ⟨rfl, hE.symm⟩
  have hE := hE.trans (if_neg hw9)
  by_cases hw10 : (M 67 7) = 15
  · have hE := hE.trans (if_pos hw10)
    rw [show zts 5 (M 67 7) 152 [125, 125, 107, 107, 107, 107, 107, 107, 107, 107, 152, 152, 152, 152, 136, 152, 152, 145, 152, 100] = 152 from by rw [hw10]; rfl]
    refine zH_w (c' := (154, [zR 67], [.inl 1, zR 67])) 2 hz rfl ?_
    refine zH_wW (c1 := (157, [zR 67], [])) 0 hz zp_92 (fh_92_67 1) (by rfl) ?_
    intro N11 hN11
    show zH n (0, 0) 77 (157, [zR 67], []) N11 _
    subst hN11
    exact zH_ret hz rfl rfl ⟨rfl, hE.symm⟩
  have hE := hE.trans (if_neg hw10)
  by_cases hw11 : (M 67 7) = 16
  · have hE := hE.trans (if_pos hw11)
    rw [show zts 5 (M 67 7) 152 [125, 125, 107, 107, 107, 107, 107, 107, 107, 107, 152, 152, 152, 152, 136, 152, 152, 145, 152, 100] = 152 from by rw [hw11]; rfl]
    refine zH_w (c' := (154, [zR 67], [.inl 1, zR 67])) 2 hz rfl ?_
    refine zH_wW (c1 := (157, [zR 67], [])) 0 hz zp_92 (fh_92_67 1) (by rfl) ?_
    intro N12 hN12
    show zH n (0, 0) 77 (157, [zR 67], []) N12 _
    subst hN12
    exact zH_ret hz rfl rfl ⟨rfl, hE.symm⟩
  have hE := hE.trans (if_neg hw11)
  by_cases hw12 : (M 67 7) = 17
  · have hE := hE.trans (if_pos hw12)
    rw [show zts 5 (M 67 7) 152 [125, 125, 107, 107, 107, 107, 107, 107, 107, 107, 152, 152, 152, 152, 136, 152, 152, 145, 152, 100] = 152 from by rw [hw12]; rfl]
    refine zH_w (c' := (154, [zR 67], [.inl 1, zR 67])) 2 hz rfl ?_
    refine zH_wW (c1 := (157, [zR 67], [])) 0 hz zp_92 (fh_92_67 1) (by rfl) ?_
    intro N13 hN13
    show zH n (0, 0) 77 (157, [zR 67], []) N13 _
    subst hN13
    exact zH_ret hz rfl rfl ⟨rfl, hE.symm⟩
  have hE := hE.trans (if_neg hw12)
  by_cases hw13 : (M 67 7) = 18
  · have hE := hE.trans (if_pos hw13)
    rw [show zts 5 (M 67 7) 152 [125, 125, 107, 107, 107, 107, 107, 107, 107, 107, 152, 152, 152, 152, 136, 152, 152, 145, 152, 100] = 152 from by rw [hw13]; rfl]
    refine zH_w (c' := (154, [zR 67], [.inl 1, zR 67])) 2 hz rfl ?_
    refine zH_wW (c1 := (157, [zR 67], [])) 0 hz zp_92 (fh_92_67 1) (by rfl) ?_
    intro N14 hN14
    show zH n (0, 0) 77 (157, [zR 67], []) N14 _
    subst hN14
    exact zH_ret hz rfl rfl ⟨rfl, hE.symm⟩
  have hE := hE.trans (if_neg hw13)
  by_cases hw14 : (M 67 7) = 19
  · have hE := hE.trans (if_pos hw14)
    rw [show zts 5 (M 67 7) 152 [125, 125, 107, 107, 107, 107, 107, 107, 107, 107, 152, 152, 152, 152, 136, 152, 152, 145, 152, 100] = 136 from by rw [hw14]; rfl]
    refine zH_w (c' := (139, [zR 67], [.inl 26, zR 67])) 2 hz rfl ?_
    refine zH_wW (c1 := (142, [zR 67], [])) 0 hz zp_87 (fh_87_67 26) (by rfl) ?_
    intro N15 hN15
    show zH n (0, 0) 77 (142, [zR 67], []) N15 _
    refine zH_w (c' := (157, [zR 67], [])) 1 hz rfl ?_
    subst hN15
    exact zH_ret hz rfl rfl ⟨rfl, hE.symm⟩
  have hE := hE.trans (if_neg hw14)
  by_cases hw15 : (M 67 7) = 20
  · have hE := hE.trans (if_pos hw15)
    rw [show zts 5 (M 67 7) 152 [125, 125, 107, 107, 107, 107, 107, 107, 107, 107, 152, 152, 152, 152, 136, 152, 152, 145, 152, 100] = 152 from by rw [hw15]; rfl]
    refine zH_w (c' := (154, [zR 67], [.inl 1, zR 67])) 2 hz rfl ?_
    refine zH_wW (c1 := (157, [zR 67], [])) 0 hz zp_92 (fh_92_67 1) (by rfl) ?_
    intro N16 hN16
    show zH n (0, 0) 77 (157, [zR 67], []) N16 _
    subst hN16
    exact zH_ret hz rfl rfl ⟨rfl, hE.symm⟩
  have hE := hE.trans (if_neg hw15)
  by_cases hw16 : (M 67 7) = 21
  · have hE := hE.trans (if_pos hw16)
    rw [show zts 5 (M 67 7) 152 [125, 125, 107, 107, 107, 107, 107, 107, 107, 107, 152, 152, 152, 152, 136, 152, 152, 145, 152, 100] = 152 from by rw [hw16]; rfl]
    refine zH_w (c' := (154, [zR 67], [.inl 1, zR 67])) 2 hz rfl ?_
    refine zH_wW (c1 := (157, [zR 67], [])) 0 hz zp_92 (fh_92_67 1) (by rfl) ?_
    intro N17 hN17
    show zH n (0, 0) 77 (157, [zR 67], []) N17 _
    subst hN17
    exact zH_ret hz rfl rfl ⟨rfl, hE.symm⟩
  have hE := hE.trans (if_neg hw16)
  by_cases hw17 : (M 67 7) = 22
  · have hE := hE.trans (if_pos hw17)
    rw [show zts 5 (M 67 7) 152 [125, 125, 107, 107, 107, 107, 107, 107, 107, 107, 152, 152, 152, 152, 136, 152, 152, 145, 152, 100] = 145 from by rw [hw17]; rfl]
    refine zH_w (c' := (146, [zR 67], [zR 67])) 1 hz rfl ?_
    refine zH_wW (c1 := (149, [zR 67], [])) 0 hz zp_80 (fh_80_67) (by rfl) ?_
    intro N18 hN18
    show zH n (0, 0) 77 (149, [zR 67], []) N18 _
    refine zH_w (c' := (157, [zR 67], [])) 1 hz rfl ?_
    subst hN18
    exact zH_ret hz rfl rfl ⟨rfl, hE.symm⟩
  have hE := hE.trans (if_neg hw17)
  by_cases hw18 : (M 67 7) = 23
  · have hE := hE.trans (if_pos hw18)
    rw [show zts 5 (M 67 7) 152 [125, 125, 107, 107, 107, 107, 107, 107, 107, 107, 152, 152, 152, 152, 136, 152, 152, 145, 152, 100] = 152 from by rw [hw18]; rfl]
    refine zH_w (c' := (154, [zR 67], [.inl 1, zR 67])) 2 hz rfl ?_
    refine zH_wW (c1 := (157, [zR 67], [])) 0 hz zp_92 (fh_92_67 1) (by rfl) ?_
    intro N19 hN19
    show zH n (0, 0) 77 (157, [zR 67], []) N19 _
    subst hN19
    exact zH_ret hz rfl rfl ⟨rfl, hE.symm⟩
  have hE := hE.trans (if_neg hw18)
  by_cases hw19 : (M 67 7) = 24
  · have hE := hE.trans (if_pos hw19)
    rw [show zts 5 (M 67 7) 152 [125, 125, 107, 107, 107, 107, 107, 107, 107, 107, 152, 152, 152, 152, 136, 152, 152, 145, 152, 100] = 100 from by rw [hw19]; rfl]
    refine zH_w (c' := (101, [zR 67], [zR 67])) 1 hz rfl ?_
    refine zH_wW (c1 := (104, [zR 67], [])) 0 hz zp_79 (fh_79_67) (by rfl) ?_
    intro N20 hN20
    show zH n (0, 0) 77 (104, [zR 67], []) N20 _
    refine zH_w (c' := (157, [zR 67], [])) 1 hz rfl ?_
    subst hN20
    exact zH_ret hz rfl rfl ⟨rfl, hE.symm⟩
  have hE := hE.trans (if_neg hw19)
  rw [show zts 5 (M 67 7) 152 [125, 125, 107, 107, 107, 107, 107, 107, 107, 107, 152, 152, 152, 152, 136, 152, 152, 145, 152, 100] = 152 from zts_none (by show ∀ q : Nat, q < 20 → _; intro q hq; rcases (by omega : q = 0 ∨ q = 1 ∨ q = 2 ∨ q = 3 ∨ q = 4 ∨ q = 5 ∨ q = 6 ∨ q = 7 ∨ q = 8 ∨ q = 9 ∨ q = 10 ∨ q = 11 ∨ q = 12 ∨ q = 13 ∨ q = 14 ∨ q = 15 ∨ q = 16 ∨ q = 17 ∨ q = 18 ∨ q = 19) with rfl | rfl | rfl | rfl | rfl | rfl | rfl | rfl | rfl | rfl | rfl | rfl | rfl | rfl | rfl | rfl | rfl | rfl | rfl | rfl <;> (intro hx; first | exact absurd hx (by omega)))]
  refine zH_w (c' := (154, [zR 67], [.inl 1, zR 67])) 2 hz rfl ?_
  refine zH_wW (c1 := (157, [zR 67], [])) 0 hz zp_92 (fh_92_67 1) (by rfl) ?_
  intro N21 hN21
  show zH n (0, 0) 77 (157, [zR 67], []) N21 _
  subst hN21
  exact zH_ret hz rfl rfl ⟨rfl, hE.symm⟩
set_option maxRecDepth 100000 in
theorem fh_104_70 {n : Nat} {M : zM} : zH n (0, 0) 104 (0, zini [zR 70] 1, []) M (fun r M' => r = none ∧ M' = hR_drop M 70) := by
  have hz := zp_104
  have hE : hR_drop M 70 = hR_drop M 70 := rfl
  show zH n (0, 0) 104 (0, [zR 70], []) M _
  refine zH_w (c' := (5, [zR 70], [])) 3 hz rfl ?_
  exact zH_wr (r := none) 0 hz (by rfl) ⟨rfl, hE.symm⟩
noncomputable def hf_304_4 (M : zM) : Int :=
  (if ¬ (M 4 1) = 0 then 0 else 1)
set_option maxRecDepth 100000 in
theorem fh_304_4 {n : Nat} {M : zM} : zH n (0, 0) 304 (0, zini [zR 4] 1, []) M (fun r M' => r = some (.inl (hf_304_4 M)) ∧ M' = M) := by
  have hz := zp_304
  have hE : hf_304_4 M = hf_304_4 M := rfl
  show zH n (0, 0) 304 (0, [zR 4], []) M _
  refine zH_w (c' := (10, [zR 4], [.inl (M 4 1)])) 4 hz rfl ?_
  refine zH_wf_ne (pc := 10) (n' := 13) (t := 17) (L := [zR 4]) (st := []) (x := (M 4 1)) 0 hz (by rfl) (fun hb => ?_) (fun hb => ?_)
  · have hE := hE.trans (if_pos hb)
    refine zH_w (c' := (18, [zR 4], [.inl 0])) 1 hz rfl ?_
    exact zH_zret hz rfl (hfinP hE)
  · have hE := hE.trans (if_neg hb)
    refine zH_w (c' := (18, [zR 4], [.inl 1])) 2 hz rfl ?_
    exact zH_zret hz rfl (hfinP hE)
noncomputable def hf_304_6 (M : zM) : Int :=
  (if ¬ (M 6 1) = 0 then 0 else 1)
set_option maxRecDepth 100000 in
theorem fh_304_6 {n : Nat} {M : zM} : zH n (0, 0) 304 (0, zini [zR 6] 1, []) M (fun r M' => r = some (.inl (hf_304_6 M)) ∧ M' = M) := by
  have hz := zp_304
  have hE : hf_304_6 M = hf_304_6 M := rfl
  show zH n (0, 0) 304 (0, [zR 6], []) M _
  refine zH_w (c' := (10, [zR 6], [.inl (M 6 1)])) 4 hz rfl ?_
  refine zH_wf_ne (pc := 10) (n' := 13) (t := 17) (L := [zR 6]) (st := []) (x := (M 6 1)) 0 hz (by rfl) (fun hb => ?_) (fun hb => ?_)
  · have hE := hE.trans (if_pos hb)
    refine zH_w (c' := (18, [zR 6], [.inl 0])) 1 hz rfl ?_
    exact zH_zret hz rfl (hfinP hE)
  · have hE := hE.trans (if_neg hb)
    refine zH_w (c' := (18, [zR 6], [.inl 1])) 2 hz rfl ?_
    exact zH_zret hz rfl (hfinP hE)
noncomputable def hf_307 (M : zM) (a0 : Int) : Int :=
  (if a0 < 0 then 0 else (if 255 < a0 then 0 else 1))
set_option maxRecDepth 100000 in
theorem fh_307 {n : Nat} {M : zM} (a0 : Int) : zH n (0, 0) 307 (0, zini [.inl a0] 1, []) M (fun r M' => r = some (.inl (hf_307 M a0)) ∧ M' = M) := by
  have hz := zp_307
  have hE : hf_307 M a0 = hf_307 M a0 := rfl
  show zH n (0, 0) 307 (0, [.inl a0], []) M _
  refine zH_wf_lt (pc := 1) (n' := 4) (t := 15) (L := [.inl a0]) (st := []) (x := a0) 1 hz (by rfl) (fun hb => ?_) (fun hb => ?_)
  · have hE := hE.trans (if_pos hb)
    refine zH_w (c' := (16, [.inl a0], [.inl 0])) 1 hz rfl ?_
    exact zH_zret hz rfl (hfinP hE)
  · have hE := hE.trans (if_neg hb)
    refine zH_wi_gt (pc := 8) (n' := 11) (t := 15) (L := [.inl a0]) (st := []) (x := a0) (y := 255) 2 hz (by rfl) (fun hb => ?_) (fun hb => ?_)
    · have hE := hE.trans (if_pos hb)
      refine zH_w (c' := (16, [.inl a0], [.inl 0])) 1 hz rfl ?_
      exact zH_zret hz rfl (hfinP hE)
    · have hE := hE.trans (if_neg hb)
      refine zH_w (c' := (16, [.inl a0], [.inl 1])) 2 hz rfl ?_
      exact zH_zret hz rfl (hfinP hE)
theorem xK.up {f : Nat → Int} {j : Nat} {x : Int} : ∀ {W : List Int}, xK f W → W.length ≤ j → xK (hup f j x) W
  | [], _, _ => trivial
  | _ :: W, h, hj => ⟨by rw [hup_ne (by rw [List.length_cons] at hj; omega)]; exact h.1, xK.up h.2 (by rw [List.length_cons] at hj; omega)⟩
theorem xC.up {f : Nat → Int} {j : Nat} {x : Int} : ∀ {O : List Int}, xC f O → (j = 0 ∨ O.length < j) → xC (hup f j x) O
  | [], _, _ => trivial
  | _ :: O, h, hj => ⟨by rw [hup_ne (by rw [List.length_cons] at hj; omega)]; exact h.1, xC.up h.2 (by rw [List.length_cons] at hj; omega)⟩
/-- what never changes: words, signs, ranks -/
noncomputable def xCon (M : zM) : Prop := (M 4 1 = 0 ∧ M 6 1 = 0) ∧ (∀ p : Nat, p < 82 → M 5 p = xrWl.getD p 0) ∧ (M 7 0 = 60 ∧ M 7 1 = 62 ∧ M 7 2 = 61 ∧ M 7 3 = 43 ∧ M 7 4 = 45 ∧ M 7 5 = 42 ∧ M 7 6 = 47 ∧ M 7 7 = 40 ∧ M 7 8 = 41) ∧ (∀ p : Nat, p < 27 → M 1 p = xrK p)
noncomputable def xP (Mo : zM) (a : Int) : Prop := qMI Mo ∧ hc5 (Mo 21) (Mo 98) ∧ hTb Mo ∧ xCon Mo ∧ (Mo 68 0 = 1 ∧ Mo 68 1 = 81) ∧ (0 ≤ a ∧ a ≤ 7) ∧ (∀ j : Nat, j < 648 → 0 ≤ Mo 98 (3350 + j) ∧ Mo 98 (3350 + j) ≤ 127)
noncomputable def xc (Mo : zM) (a : Int) (j : Nat) : Int := Mo 98 (3351 + 81 * a.toNat + j)
noncomputable def xL (Mo : zM) (a : Int) : Nat := (Mo 98 (3350 + 81 * a.toNat)).toNat
noncomputable def xS (Mo : zM) (W O : List Int) (M : zM) : Prop := (∀ r, r ≠ 67 → r ≠ 69 → r ≠ 70 → r ≠ 71 → M r = Mo r) ∧ (M 70 0 = 80 ∧ M 70 1 = 1 ∧ M 70 3 = (W.length : Int)) ∧ xK (M 71) W ∧ M 69 0 = (O.length : Int) ∧ xC (M 69) O
noncomputable def xW (W : List Int) : Prop := ∀ k ∈ W, 0 ≤ k ∧ k ≤ 26
theorem xnot {k : Int} (h : 0 ≤ k ∧ k ≤ 26) : zbxor k (-1) = -k - 1 := by
  have q : ∀ v : Fin 27, zbxor (v.val : Int) (-1) = -(v.val : Int) - 1 := by decide
  have := q ⟨k.toNat, by omega⟩
  rw [show ((⟨k.toNat, by omega⟩ : Fin 27).val : Int) = k by show (k.toNat : Int) = k; omega] at this
  exact this
section XS
variable {Mo M : zM} {a k v : Int} {W O : List Int}
theorem xP.len (hp : xP Mo a) : xL Mo a ≤ 80 ∧ Mo 98 (3350 + 81 * a.toNat) = (xL Mo a : Int) := by
  have q := hp.1.txt a (3350 + 81 * a) (by have := hp.2.2.2.2.2.1; omega) rfl
  have := hp.2.2.2.2.2.1
  rw [show (3350 + 81 * a).toNat = 3350 + 81 * a.toNat by omega] at q
  unfold xL
  omega
theorem xS.rank (hp : xP Mo a) (e1 : M 1 = Mo 1) : hf_90 M k = xrK k := by
  unfold hf_90
  by_cases h1 : k < 0
  · rw [if_pos h1]; unfold xrK; (repeat' split) <;> omega
  · rw [if_neg h1]
    by_cases h2 : 27 ≤ k
    · rw [if_pos h2]; unfold xrK; (repeat' split) <;> omega
    · rw [if_neg h2, e1, hp.2.2.2.1.2.2.2 k.toNat (by omega), show ((k.toNat : Nat) : Int) = k by omega]
theorem xS.letter (hp : xP Mo a) (e20 : M 20 = Mo 20) (e21 : M 21 = Mo 21) (ea : M 67 3 = a) {j : Nat} (hj : j < 80) : hf_97_67 M (j : Int) = xc Mo a j := by
  have h7 := hp.2.2.2.2.2.1
  unfold hf_97_67
  rw [ea, w32_id (by omega), show hR_get M 20 a (1 + (j : Int)) = hR_get Mo 20 a (1 + (j : Int)) from by unfold hR_get; rw [e20, show M (20 + 1) = Mo (20 + 1) from e21]]
  rw [hG_20 hp.2.2.1 (by omega) (by omega), hp.2.1 _ (by omega)]
  unfold xc
  rw [show 3350 + (81 * a.toNat + (1 + (j : Int)).toNat) = 3351 + 81 * a.toNat + j by omega]
theorem xc_r (hp : xP Mo a) {j : Nat} (hj : j < 80) : 0 ≤ xc Mo a j ∧ xc Mo a j ≤ 127 := by
  have h7 := hp.2.2.2.2.2.1
  have q := hp.2.2.2.2.2.2 (1 + 81 * a.toNat + j) (by omega)
  unfold xc
  rw [show 3351 + 81 * a.toNat + j = 3350 + (1 + 81 * a.toNat + j) by omega]
  exact q
theorem xS.f67 (h : xS Mo W O M) {j : Nat} {x : Int} : xS Mo W O (zput M 67 j x) := by
  obtain ⟨h1, h2, h3, h4, h5⟩ := h
  refine ⟨fun r q1 q2 q3 q4 => (zput_oth q1).trans (h1 r q1 q2 q3 q4), ?_, ?_, ?_, ?_⟩
  · rw [zput_oth (by decide)]; exact h2
  · rw [zput_oth (by decide)]; exact h3
  · rw [zput_oth (by decide)]; exact h4
  · rw [zput_oth (by decide)]; exact h5
theorem xS.last (h : xS Mo W O M) (hw : W.length ≤ 80) : hf_88_67 M = xrT W := by
  obtain ⟨h1, h2, h3, h4, h5⟩ := h
  unfold hf_88_67 hR_size
  rw [h2.2.2]
  cases W with
  | nil =>
    unfold hR_get
    rw [if_pos (by rw [List.length_nil, w32_id (by omega)]; omega)]
    rfl
  | cons k W =>
    rw [List.length_cons] at hw h2 ⊢
    rw [w32_id (by omega), show ((W.length + 1 : Nat) : Int) - 1 = (W.length : Int) by omega]
    unfold hR_get
    rw [if_neg (by omega), if_neg (by omega), if_neg (by omega), if_pos (by omega), h2.2.1, w32_id (x := (W.length : Int) * 1) (by omega), w32_id (by omega), show ((W.length : Int) * 1 + 0).toNat = W.length by omega]
    exact h3.1
theorem xS.push (h : xS Mo W O M) (hw : W.length < 80) : xS Mo (k :: W) O (hf_87_67 M k) ∧ hf_87_67 M k 67 = M 67 := by
  obtain ⟨h1, h2, h3, h4, h5⟩ := h
  have e : hf_87_67 M k = zput (zput M 70 3 ((W.length : Int) + 1)) 71 W.length k := by
    unfold hf_87_67
    have eo : hR_open M 70 = ((W.length : Int), zput M 70 3 ((W.length : Int) + 1)) := by
      unfold hR_open
      rw [if_pos (by omega), qput_eq, h2.2.2, w32_id (x := (W.length : Int) + 1) (by omega), w32_id (by omega), show (W.length : Int) + 1 - 1 = W.length by omega]
    rw [eo]
    unfold hR_set
    dsimp only
    have z0 : zput M 70 3 ((W.length : Int) + 1) 70 0 = 80 := (qput_nk (by decide)).trans h2.1
    have z1 : zput M 70 3 ((W.length : Int) + 1) 70 1 = 1 := (qput_nk (by decide)).trans h2.2.1
    rw [if_neg (by omega), if_neg (by omega), if_neg (by omega), if_pos (by omega), z1, w32_id (x := (W.length : Int) * 1) (by omega), w32_id (by omega), show ((W.length : Int) * 1 + 0).toNat = W.length by omega]
  rw [e]
  refine ⟨⟨fun r q1 q2 q3 q4 => (zput_oth q4).trans ((zput_oth q3).trans (h1 r q1 q2 q3 q4)), ?_, ?_, ?_, ?_⟩, (zput_oth (by decide)).trans (zput_oth (by decide))⟩
  · rw [zput_oth (by decide), qput_nk (by decide), qput_nk (by decide), qput_eq, List.length_cons]
    exact ⟨h2.1, h2.2.1, by omega⟩
  · rw [zput_same, zput_oth (by decide)]
    exact ⟨hup_eq, h3.up (Nat.le_refl _)⟩
  · rw [zput_oth (by decide), zput_oth (by decide)]; exact h4
  · rw [zput_oth (by decide), zput_oth (by decide)]; exact h5
theorem xS.emit (hp : xP Mo a) (h : xS Mo W O M) (ho : O.length < 80) : xS Mo W (v :: O) (hf_89_67 M v) ∧ hf_89_67 M v 67 = M 67 := by
  obtain ⟨h1, h2, h3, h4, h5⟩ := h
  have t68 : M 68 0 = 1 ∧ M 68 1 = 81 := by rw [h1 68 (by decide) (by decide) (by decide) (by decide)]; exact hp.2.2.2.2.1
  have g0 : hR_get M 68 0 0 = (O.length : Int) := by
    unfold hR_get
    rw [if_neg (by omega), if_neg (by omega), if_neg (by omega), if_pos (by omega), t68.2, w32_id (x := 0 * 81) (by omega), w32_id (by omega)]
    exact h4
  have e : hf_89_67 M v = zput (zput M 69 (1 + O.length) v) 69 0 ((O.length : Int) + 1) := by
    unfold hf_89_67
    rw [g0, w32_id (x := 1 + (O.length : Int)) (by omega), w32_id (x := (O.length : Int) + 1) (by omega)]
    have s1 : hR_set M 68 0 (1 + (O.length : Int)) v = zput M 69 (1 + O.length) v := by
      unfold hR_set
      rw [if_neg (by omega), if_neg (by omega), if_neg (by omega), if_pos (by omega), t68.2, w32_id (x := 0 * 81) (by omega), w32_id (by omega), show (0 * 81 + (1 + (O.length : Int))).toNat = 1 + O.length by omega]
    rw [s1]
    unfold hR_set
    rw [zput_oth (show (68 : Nat) ≠ 69 by decide), if_neg (by omega), if_neg (by omega), if_neg (by omega), if_pos (by omega), t68.2, w32_id (x := 0 * 81) (by omega), w32_id (by omega)]
    rfl
  rw [e]
  refine ⟨⟨fun r q1 q2 q3 q4 => (zput_oth q2).trans ((zput_oth q2).trans (h1 r q1 q2 q3 q4)), ?_, ?_, ?_, ?_⟩, (zput_oth (by decide)).trans (zput_oth (by decide))⟩
  · rw [zput_oth (by decide), zput_oth (by decide)]; exact h2
  · rw [zput_oth (by decide), zput_oth (by decide)]; exact h3
  · rw [qput_eq, List.length_cons]; omega
  · rw [zput_same, zput_same]
    refine ⟨?_, ?_⟩
    · rw [hup_ne (by omega), hup_eq]
    · exact (h5.up (.inr (by omega))).up (.inl rfl)
theorem xS.drop (h : xS Mo (k :: W) O M) (hw : W.length < 80) : xS Mo W O (hR_dropLast M 70) ∧ hR_dropLast M 70 67 = M 67 := by
  obtain ⟨h1, h2, h3, h4, h5⟩ := h
  rw [List.length_cons] at h2
  have e : hR_dropLast M 70 = zput M 70 3 (W.length : Int) := by
    unfold hR_dropLast
    rw [h2.2.2, w32_id (by omega), show ((W.length + 1 : Nat) : Int) - 1 = (W.length : Int) by omega]
    split
    · rfl
    · rw [show (W.length : Int) = 0 by omega]
  rw [e]
  refine ⟨⟨fun r q1 q2 q3 q4 => (zput_oth q3).trans (h1 r q1 q2 q3 q4), ?_, ?_, ?_, ?_⟩, zput_oth (by decide)⟩
  · rw [qput_nk (by decide), qput_nk (by decide), qput_eq]
    exact ⟨h2.1, h2.2.1, rfl⟩
  · rw [zput_oth (by decide)]; exact h3.2
  · rw [zput_oth (by decide)]; exact h4
  · rw [zput_oth (by decide)]; exact h5
/-- the last that waits becomes another -/
theorem xS.top2 (h : xS Mo (k :: W) O M) (hw : W.length < 80) : hR_set M 70 (w32 (hR_size M 70 - 1)) 0 v = zput M 71 W.length v ∧ xS Mo (v :: W) O (zput M 71 W.length v) := by
  obtain ⟨h1, h2, h3, h4, h5⟩ := h
  rw [List.length_cons] at h2
  refine ⟨?_, ⟨fun r q1 q2 q3 q4 => (zput_oth q4).trans (h1 r q1 q2 q3 q4), ?_, ?_, ?_, ?_⟩⟩
  · unfold hR_size
    rw [h2.2.2, w32_id (by omega), show ((W.length + 1 : Nat) : Int) - 1 = (W.length : Int) by omega]
    unfold hR_set
    rw [if_neg (by omega), if_neg (by omega), if_neg (by omega), if_pos (by omega), h2.2.1, w32_id (x := (W.length : Int) * 1) (by omega), w32_id (by omega), show ((W.length : Int) * 1 + 0).toNat = W.length by omega]
  · rw [zput_oth (by decide), List.length_cons]; exact h2
  · rw [zput_same]
    exact ⟨hup_eq, h3.2.up (Nat.le_refl _)⟩
  · rw [zput_oth (by decide)]; exact h4
  · rw [zput_oth (by decide)]; exact h5
theorem xrE_r (r : Int) : ∀ (W O : List Int), xW W → xW (xrE r W O).1 ∧ (xrE r W O).1.length ≤ W.length ∧ (xrE r W O).1.length + (xrE r W O).2.length = W.length + O.length
  | [], O, h => ⟨h, Nat.le_refl _, rfl⟩
  | k :: W, O, h => by
    unfold xrE
    split
    · have q := xrE_r r W ((-k - 1) :: O) (fun x hx => h x (List.mem_cons_of_mem _ hx))
      rw [List.length_cons] at q ⊢
      refine ⟨q.1, by omega, by omega⟩
    · exact ⟨h, Nat.le_refl _, rfl⟩
end XS
set_option maxRecDepth 100000 in
theorem fh_84_67 {n : Nat} {M : zM} {Mo : zM} {a : Int} (hp : xP Mo a) {W O : List Int} (h : xS Mo W O M) (hw : xW W) (hl : W.length + O.length ≤ 80) (a1 : Int) : zH n (0, 0) 84 (0, zini [zR 67, .inl a1] 3, []) M (fun r M' => r = none ∧ xS Mo (xrE a1 W O).1 (xrE a1 W O).2 M' ∧ M' 67 = M 67) := by
  have hz := zp_84
  show zH n (0, 0) 84 (0, [zR 67, .inl a1, zN], []) M _
  refine zH_wE (c1 := (7, [zR 67, .inl a1, zN], [])) 2 hz zp_101 (fh_101_70) (by rfl) ?_
  show zH n (0, 0) 84 (7, [zR 67, .inl a1, zN], [.inl (hR_size M 70)]) M _
  rw [show hR_size M 70 = (W.length : Int) from h.2.1.2.2]
  refine zH_w (c' := (8, [zR 67, .inl a1, .inl ((W.length : Nat) : Int)], [])) 1 hz rfl ?_
  have lp8 : ∀ (N : Nat) (i : Int) (M5 : zM), (i.toNat) < N → (∃ W1 O1 : List Int, xS Mo W1 O1 M5 ∧ i = (W1.length : Int) ∧ xrE a1 W1 O1 = xrE a1 W O ∧ xW W1 ∧ W1.length + O1.length ≤ 80) → (M5 67 = M 67) → zH n (0, 0) 84 (8, [zR 67, .inl a1, .inl i], []) M5 (fun r M' => r = none ∧ xS Mo (xrE a1 W O).1 (xrE a1 W O).2 M' ∧ M' 67 = M 67) := by
    intro N
    induction N with
    | zero => intro i M5 hN; exact absurd hN (Nat.not_lt_zero _)
    | succ N ih8 =>
      intro i M5 hN hx h67
      refine zH_w (c' := (9, [zR 67, .inl a1, .inl i], [.inl i])) 1 hz rfl ?_
      refine zH_wf_le (pc := 9) (n' := 12) (t := 46) (L := [zR 67, .inl a1, .inl i]) (st := []) (x := i) 0 hz (by rfl) (fun hb9 => ?_) (fun hb9 => ?_)
      · skip
        obtain ⟨W1, O1, g1, g2, g3, g4, g5⟩ := hx
        have g6 : W1 = [] := List.eq_nil_of_length_eq_zero (by omega)
        subst g6
        have g7 : xrE a1 W O = ([], O1) := g3.symm
        exact zH_ret hz rfl rfl (⟨rfl, by rw [g7]; exact g1, h67⟩)
      · skip
        obtain ⟨W1, O1, g1, g2, g3, g4, g5⟩ := hx
        obtain ⟨k2, W2, rfl⟩ : ∃ k2 W2, W1 = k2 :: W2 := by cases W1 with | nil => exact absurd (show i ≤ 0 by rw [g2]; exact Int.le_refl _) hb9 | cons k2 W2 => exact ⟨k2, W2, rfl⟩
        have gk := g4 k2 (List.mem_cons_self ..)
        have gl : hf_88_67 M5 = k2 := g1.last (by omega)
        have e1 : M5 1 = Mo 1 := g1.1 1 (by decide) (by decide) (by decide) (by decide)
        refine zH_w (c' := (13, [zR 67, .inl a1, .inl i], [zR 67])) 1 hz rfl ?_
        refine zH_wE (c1 := (16, [zR 67, .inl a1, .inl i], [])) 0 hz zp_88 (fh_88_67) (by rfl) ?_
        show zH n (0, 0) 84 (16, [zR 67, .inl a1, .inl i], [.inl (hf_88_67 M5)]) M5 _
        rw [gl]
        refine zH_wE (c1 := (19, [zR 67, .inl a1, .inl i], [])) 0 hz zp_90 (fh_90 k2) (by rfl) ?_
        show zH n (0, 0) 84 (19, [zR 67, .inl a1, .inl i], [.inl (hf_90 M5 k2)]) M5 _
        rw [xS.rank hp e1]
        refine zH_w (c' := (20, [zR 67, .inl a1, .inl i], [.inl a1, .inl (xrK k2)])) 1 hz rfl ?_
        refine zH_wi_lt (pc := 20) (n' := 23) (t := 46) (L := [zR 67, .inl a1, .inl i]) (st := []) (x := (xrK k2)) (y := a1) 0 hz (by rfl) (fun hb20 => ?_) (fun hb20 => ?_)
        · skip
          have g7 : xrE a1 W O = (k2 :: W2, O1) := g3.symm.trans (if_neg (by omega))
          exact zH_wr (r := none) 0 hz (by rfl) (⟨rfl, by rw [g7]; exact g1, h67⟩)
        · skip
          refine zH_wE (c1 := (28, [zR 67, .inl a1, .inl i], [zR 67])) 2 hz zp_88 (fh_88_67) (by rfl) ?_
          show zH n (0, 0) 84 (28, [zR 67, .inl a1, .inl i], [.inl (hf_88_67 M5), zR 67]) M5 _
          rw [gl]
          refine zH_w (c' := (30, [zR 67, .inl a1, .inl i], [.inl (zbxor k2 (-1)), zR 67])) 2 hz rfl ?_
          rw [xnot gk]
          refine zH_wE (c1 := (33, [zR 67, .inl a1, .inl i], [])) 0 hz zp_89 (fh_89_67 (-k2 - 1)) (by rfl) ?_
          show zH n (0, 0) 84 (33, [zR 67, .inl a1, .inl i], []) (hf_89_67 M5 (-k2 - 1)) _
          have he := g1.emit hp (v := (-k2 - 1)) (by rw [List.length_cons] at g5; omega)
          refine zH_wE (c1 := (40, [zR 67, .inl a1, .inl i], [])) 2 hz zp_105 (fh_105_70) (by rfl) ?_
          show zH n (0, 0) 84 (40, [zR 67, .inl a1, .inl i], []) (hR_dropLast (hf_89_67 M5 (-k2 - 1)) 70) _
          have hd := he.1.drop (by rw [List.length_cons] at g5; omega)
          refine zH_w (c' := (8, [zR 67, .inl a1, .inl (i - 1)], [])) 2 hz (by rw [show (.inl (i - 1) : zV) = .inl (w32 (i + (-1))) from by rw [w32_id (by omega)]; rfl]; rfl) ?_
          refine ih8 (i - 1) (hR_dropLast (hf_89_67 M5 (-k2 - 1)) 70) (by omega) ?_ ?_
          · exact ⟨W2, (-k2 - 1) :: O1, hd.1, by rw [List.length_cons] at g2; omega, by rw [← g3]; exact (if_pos (by omega)).symm, fun x hx => g4 x (List.mem_cons_of_mem _ hx), by rw [List.length_cons] at g5 ⊢; omega⟩
          · exact hd.2.trans (he.2.trans h67)
  refine lp8 (200) ((W.length : Nat) : Int) M (by omega) ?_ ?_
  · exact ⟨W, O, h, rfl, rfl, hw, hl⟩
  · rfl
