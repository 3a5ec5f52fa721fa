/-! LINES TO DOUBT, ON BOTH SIDES -/
noncomputable def hf_297 (M : zM) (a0 : Int) : Int :=
  (if 0 < (zband (zbxor a0 (-1)) (w32 (a0 - 1))) then (if (zband (zbxor a0 (-1)) (w32 (a0 - 1))) ≤ 65536 then (if (zband (zbxor a0 (-1)) (w32 (a0 - 1))) ≤ 256 then (if (zband (zbxor a0 (-1)) (w32 (a0 - 1))) ≤ 16 then (if (zband (zbxor a0 (-1)) (w32 (a0 - 1))) ≤ 4 then w32 (1 + (zbushr (zband (zbxor a0 (-1)) (w32 (a0 - 1))) 1)) else w32 (3 + (zbushr (zbushr (zband (zbxor a0 (-1)) (w32 (a0 - 1))) 2) 1))) else (if (zbushr (zband (zbxor a0 (-1)) (w32 (a0 - 1))) 4) ≤ 4 then w32 (5 + (zbushr (zbushr (zband (zbxor a0 (-1)) (w32 (a0 - 1))) 4) 1)) else w32 (7 + (zbushr (zbushr (zbushr (zband (zbxor a0 (-1)) (w32 (a0 - 1))) 4) 2) 1)))) else (if (zbushr (zband (zbxor a0 (-1)) (w32 (a0 - 1))) 8) ≤ 16 then (if (zbushr (zband (zbxor a0 (-1)) (w32 (a0 - 1))) 8) ≤ 4 then w32 (9 + (zbushr (zbushr (zband (zbxor a0 (-1)) (w32 (a0 - 1))) 8) 1)) else w32 (11 + (zbushr (zbushr (zbushr (zband (zbxor a0 (-1)) (w32 (a0 - 1))) 8) 2) 1))) else (if (zbushr (zbushr (zband (zbxor a0 (-1)) (w32 (a0 - 1))) 8) 4) ≤ 4 then w32 (13 + (zbushr (zbushr (zbushr (zband (zbxor a0 (-1)) (w32 (a0 - 1))) 8) 4) 1)) else w32 (15 + (zbushr (zbushr (zbushr (zbushr (zband (zbxor a0 (-1)) (w32 (a0 - 1))) 8) 4) 2) 1))))) else (if (zbushr (zband (zbxor a0 (-1)) (w32 (a0 - 1))) 16) ≤ 256 then (if (zbushr (zband (zbxor a0 (-1)) (w32 (a0 - 1))) 16) ≤ 16 then (if (zbushr (zband (zbxor a0 (-1)) (w32 (a0 - 1))) 16) ≤ 4 then w32 (17 + (zbushr (zbushr (zband (zbxor a0 (-1)) (w32 (a0 - 1))) 16) 1)) else w32 (19 + (zbushr (zbushr (zbushr (zband (zbxor a0 (-1)) (w32 (a0 - 1))) 16) 2) 1))) else (if (zbushr (zbushr (zband (zbxor a0 (-1)) (w32 (a0 - 1))) 16) 4) ≤ 4 then w32 (21 + (zbushr (zbushr (zbushr (zband (zbxor a0 (-1)) (w32 (a0 - 1))) 16) 4) 1)) else w32 (23 + (zbushr (zbushr (zbushr (zbushr (zband (zbxor a0 (-1)) (w32 (a0 - 1))) 16) 4) 2) 1)))) else (if (zbushr (zbushr (zband (zbxor a0 (-1)) (w32 (a0 - 1))) 16) 8) ≤ 16 then (if (zbushr (zbushr (zband (zbxor a0 (-1)) (w32 (a0 - 1))) 16) 8) ≤ 4 then w32 (25 + (zbushr (zbushr (zbushr (zband (zbxor a0 (-1)) (w32 (a0 - 1))) 16) 8) 1)) else w32 (27 + (zbushr (zbushr (zbushr (zbushr (zband (zbxor a0 (-1)) (w32 (a0 - 1))) 16) 8) 2) 1))) else (if (zbushr (zbushr (zbushr (zband (zbxor a0 (-1)) (w32 (a0 - 1))) 16) 8) 4) ≤ 4 then w32 (29 + (zbushr (zbushr (zbushr (zbushr (zband (zbxor a0 (-1)) (w32 (a0 - 1))) 16) 8) 4) 1)) else w32 (31 + (zbushr (zbushr (zbushr (zbushr (zbushr (zband (zbxor a0 (-1)) (w32 (a0 - 1))) 16) 8) 4) 2) 1)))))) else zband (zband (zbxor a0 (-1)) (w32 (a0 - 1))) 32)
set_option maxRecDepth 100000 in
theorem fh_297 {n : Nat} {M : zM} (a0 : Int) : zH n (0, 0) 297 (0, zini [.inl a0] 2, []) M (fun r M' => r = some (.inl (hf_297 M a0)) ∧ M' = M) := by
  have hz := zp_297
  have hE : hf_297 M a0 = hf_297 M a0 := rfl
  show zH n (0, 0) 297 (0, [.inl a0, zN], []) M _
  refine zH_wf_gt (pc := 9) (n' := 12) (t := 17) (L := [.inl (zband (zbxor a0 (-1)) (w32 (a0 - 1))), zN]) (st := []) (x := (zband (zbxor a0 (-1)) (w32 (a0 - 1)))) 9 hz (by rfl) (fun hb => ?_) (fun hb => ?_)
  · have hE := hE.trans (if_pos hb)
    refine zH_wi_le (pc := 23) (n' := 26) (t := 34) (L := [.inl (zband (zbxor a0 (-1)) (w32 (a0 - 1))), .inl 1]) (st := []) (x := (zband (zbxor a0 (-1)) (w32 (a0 - 1)))) (y := 65536) 4 hz (by rfl) (fun hb => ?_) (fun hb => ?_)
    · have hE := hE.trans (if_pos hb)
      refine zH_wi_le (pc := 38) (n' := 41) (t := 49) (L := [.inl (zband (zbxor a0 (-1)) (w32 (a0 - 1))), .inl 1]) (st := []) (x := (zband (zbxor a0 (-1)) (w32 (a0 - 1)))) (y := 256) 2 hz (by rfl) (fun hb => ?_) (fun hb => ?_)
      · have hE := hE.trans (if_pos hb)
        refine zH_wi_le (pc := 52) (n' := 55) (t := 62) (L := [.inl (zband (zbxor a0 (-1)) (w32 (a0 - 1))), .inl 1]) (st := []) (x := (zband (zbxor a0 (-1)) (w32 (a0 - 1)))) (y := 16) 2 hz (by rfl) (fun hb => ?_) (fun hb => ?_)
        · have hE := hE.trans (if_pos hb)
          refine zH_wi_le (pc := 64) (n' := 67) (t := 74) (L := [.inl (zband (zbxor a0 (-1)) (w32 (a0 - 1))), .inl 1]) (st := []) (x := (zband (zbxor a0 (-1)) (w32 (a0 - 1)))) (y := 4) 2 hz (by rfl) (fun hb => ?_) (fun hb => ?_)
          · have hE := hE.trans (if_pos hb)
            exact zH_wr (r := some (.inl (w32 (1 + (zbushr (zband (zbxor a0 (-1)) (w32 (a0 - 1))) 1))))) 5 hz (by rfl) (hfinP hE)
          · have hE := hE.trans (if_neg hb)
            exact zH_wr (r := some (.inl (w32 (3 + (zbushr (zbushr (zband (zbxor a0 (-1)) (w32 (a0 - 1))) 2) 1))))) 10 hz (by rfl) (hfinP hE)
        · have hE := hE.trans (if_neg hb)
          refine zH_wi_le (pc := 64) (n' := 67) (t := 74) (L := [.inl (zbushr (zband (zbxor a0 (-1)) (w32 (a0 - 1))) 4), .inl 5]) (st := []) (x := (zbushr (zband (zbxor a0 (-1)) (w32 (a0 - 1))) 4)) (y := 4) 7 hz (by rfl) (fun hb => ?_) (fun hb => ?_)
          · have hE := hE.trans (if_pos hb)
            exact zH_wr (r := some (.inl (w32 (5 + (zbushr (zbushr (zband (zbxor a0 (-1)) (w32 (a0 - 1))) 4) 1))))) 5 hz (by rfl) (hfinP hE)
          · have hE := hE.trans (if_neg hb)
            exact zH_wr (r := some (.inl (w32 (7 + (zbushr (zbushr (zbushr (zband (zbxor a0 (-1)) (w32 (a0 - 1))) 4) 2) 1))))) 10 hz (by rfl) (hfinP hE)
      · have hE := hE.trans (if_neg hb)
        refine zH_wi_le (pc := 52) (n' := 55) (t := 62) (L := [.inl (zbushr (zband (zbxor a0 (-1)) (w32 (a0 - 1))) 8), .inl 9]) (st := []) (x := (zbushr (zband (zbxor a0 (-1)) (w32 (a0 - 1))) 8)) (y := 16) 7 hz (by rfl) (fun hb => ?_) (fun hb => ?_)
        · have hE := hE.trans (if_pos hb)
          refine zH_wi_le (pc := 64) (n' := 67) (t := 74) (L := [.inl (zbushr (zband (zbxor a0 (-1)) (w32 (a0 - 1))) 8), .inl 9]) (st := []) (x := (zbushr (zband (zbxor a0 (-1)) (w32 (a0 - 1))) 8)) (y := 4) 2 hz (by rfl) (fun hb => ?_) (fun hb => ?_)
          · have hE := hE.trans (if_pos hb)
            exact zH_wr (r := some (.inl (w32 (9 + (zbushr (zbushr (zband (zbxor a0 (-1)) (w32 (a0 - 1))) 8) 1))))) 5 hz (by rfl) (hfinP hE)
          · have hE := hE.trans (if_neg hb)
            exact zH_wr (r := some (.inl (w32 (11 + (zbushr (zbushr (zbushr (zband (zbxor a0 (-1)) (w32 (a0 - 1))) 8) 2) 1))))) 10 hz (by rfl) (hfinP hE)
        · have hE := hE.trans (if_neg hb)
          refine zH_wi_le (pc := 64) (n' := 67) (t := 74) (L := [.inl (zbushr (zbushr (zband (zbxor a0 (-1)) (w32 (a0 - 1))) 8) 4), .inl 13]) (st := []) (x := (zbushr (zbushr (zband (zbxor a0 (-1)) (w32 (a0 - 1))) 8) 4)) (y := 4) 7 hz (by rfl) (fun hb => ?_) (fun hb => ?_)
          · have hE := hE.trans (if_pos hb)
            exact zH_wr (r := some (.inl (w32 (13 + (zbushr (zbushr (zbushr (zband (zbxor a0 (-1)) (w32 (a0 - 1))) 8) 4) 1))))) 5 hz (by rfl) (hfinP hE)
          · have hE := hE.trans (if_neg hb)
            exact zH_wr (r := some (.inl (w32 (15 + (zbushr (zbushr (zbushr (zbushr (zband (zbxor a0 (-1)) (w32 (a0 - 1))) 8) 4) 2) 1))))) 10 hz (by rfl) (hfinP hE)
    · have hE := hE.trans (if_neg hb)
      refine zH_wi_le (pc := 38) (n' := 41) (t := 49) (L := [.inl (zbushr (zband (zbxor a0 (-1)) (w32 (a0 - 1))) 16), .inl 17]) (st := []) (x := (zbushr (zband (zbxor a0 (-1)) (w32 (a0 - 1))) 16)) (y := 256) 7 hz (by rfl) (fun hb => ?_) (fun hb => ?_)
      · have hE := hE.trans (if_pos hb)
        refine zH_wi_le (pc := 52) (n' := 55) (t := 62) (L := [.inl (zbushr (zband (zbxor a0 (-1)) (w32 (a0 - 1))) 16), .inl 17]) (st := []) (x := (zbushr (zband (zbxor a0 (-1)) (w32 (a0 - 1))) 16)) (y := 16) 2 hz (by rfl) (fun hb => ?_) (fun hb => ?_)
        · have hE := hE.trans (if_pos hb)
          refine zH_wi_le (pc := 64) (n' := 67) (t := 74) (L := [.inl (zbushr (zband (zbxor a0 (-1)) (w32 (a0 - 1))) 16), .inl 17]) (st := []) (x := (zbushr (zband (zbxor a0 (-1)) (w32 (a0 - 1))) 16)) (y := 4) 2 hz (by rfl) (fun hb => ?_) (fun hb => ?_)
          · have hE := hE.trans (if_pos hb)
            exact zH_wr (r := some (.inl (w32 (17 + (zbushr (zbushr (zband (zbxor a0 (-1)) (w32 (a0 - 1))) 16) 1))))) 5 hz (by rfl) (hfinP hE)
          · have hE := hE.trans (if_neg hb)
            exact zH_wr (r := some (.inl (w32 (19 + (zbushr (zbushr (zbushr (zband (zbxor a0 (-1)) (w32 (a0 - 1))) 16) 2) 1))))) 10 hz (by rfl) (hfinP hE)
        · have hE := hE.trans (if_neg hb)
          refine zH_wi_le (pc := 64) (n' := 67) (t := 74) (L := [.inl (zbushr (zbushr (zband (zbxor a0 (-1)) (w32 (a0 - 1))) 16) 4), .inl 21]) (st := []) (x := (zbushr (zbushr (zband (zbxor a0 (-1)) (w32 (a0 - 1))) 16) 4)) (y := 4) 7 hz (by rfl) (fun hb => ?_) (fun hb => ?_)
          · have hE := hE.trans (if_pos hb)
            exact zH_wr (r := some (.inl (w32 (21 + (zbushr (zbushr (zbushr (zband (zbxor a0 (-1)) (w32 (a0 - 1))) 16) 4) 1))))) 5 hz (by rfl) (hfinP hE)
          · have hE := hE.trans (if_neg hb)
            exact zH_wr (r := some (.inl (w32 (23 + (zbushr (zbushr (zbushr (zbushr (zband (zbxor a0 (-1)) (w32 (a0 - 1))) 16) 4) 2) 1))))) 10 hz (by rfl) (hfinP hE)
      · have hE := hE.trans (if_neg hb)
        refine zH_wi_le (pc := 52) (n' := 55) (t := 62) (L := [.inl (zbushr (zbushr (zband (zbxor a0 (-1)) (w32 (a0 - 1))) 16) 8), .inl 25]) (st := []) (x := (zbushr (zbushr (zband (zbxor a0 (-1)) (w32 (a0 - 1))) 16) 8)) (y := 16) 7 hz (by rfl) (fun hb => ?_) (fun hb => ?_)
        · have hE := hE.trans (if_pos hb)
          refine zH_wi_le (pc := 64) (n' := 67) (t := 74) (L := [.inl (zbushr (zbushr (zband (zbxor a0 (-1)) (w32 (a0 - 1))) 16) 8), .inl 25]) (st := []) (x := (zbushr (zbushr (zband (zbxor a0 (-1)) (w32 (a0 - 1))) 16) 8)) (y := 4) 2 hz (by rfl) (fun hb => ?_) (fun hb => ?_)
          · have hE := hE.trans (if_pos hb)
            exact zH_wr (r := some (.inl (w32 (25 + (zbushr (zbushr (zbushr (zband (zbxor a0 (-1)) (w32 (a0 - 1))) 16) 8) 1))))) 5 hz (by rfl) (hfinP hE)
          · have hE := hE.trans (if_neg hb)
            exact zH_wr (r := some (.inl (w32 (27 + (zbushr (zbushr (zbushr (zbushr (zband (zbxor a0 (-1)) (w32 (a0 - 1))) 16) 8) 2) 1))))) 10 hz (by rfl) (hfinP hE)
        · have hE := hE.trans (if_neg hb)
          refine zH_wi_le (pc := 64) (n' := 67) (t := 74) (L := [.inl (zbushr (zbushr (zbushr (zband (zbxor a0 (-1)) (w32 (a0 - 1))) 16) 8) 4), .inl 29]) (st := []) (x := (zbushr (zbushr (zbushr (zband (zbxor a0 (-1)) (w32 (a0 - 1))) 16) 8) 4)) (y := 4) 7 hz (by rfl) (fun hb => ?_) (fun hb => ?_)
          · have hE := hE.trans (if_pos hb)
            exact zH_wr (r := some (.inl (w32 (29 + (zbushr (zbushr (zbushr (zbushr (zband (zbxor a0 (-1)) (w32 (a0 - 1))) 16) 8) 4) 1))))) 5 hz (by rfl) (hfinP hE)
          · have hE := hE.trans (if_neg hb)
            exact zH_wr (r := some (.inl (w32 (31 + (zbushr (zbushr (zbushr (zbushr (zbushr (zband (zbxor a0 (-1)) (w32 (a0 - 1))) 16) 8) 4) 2) 1))))) 10 hz (by rfl) (hfinP hE)
  · have hE := hE.trans (if_neg hb)
    exact zH_wr (r := some (.inl (zband (zband (zbxor a0 (-1)) (w32 (a0 - 1))) 32))) 3 hz (by rfl) (hfinP hE)
noncomputable def hf_1_95 (M : zM) : Int :=
  M 95 1
set_option maxRecDepth 100000 in
theorem fh_1_95 {n : Nat} {M : zM} : zH n (0, 0) 1 (0, zini [zR 95] 1, []) M (fun r M' => r = some (.inl (hf_1_95 M)) ∧ M' = M) := by
  have hz := zp_1
  have hE : hf_1_95 M = hf_1_95 M := rfl
  show zH n (0, 0) 1 (0, [zR 95], []) M _
  exact zH_wr (r := some (.inl (M 95 1))) 2 hz (by rfl) (hfinP hE)
noncomputable def hf_2_95 (M : zM) : Int :=
  M 95 2
set_option maxRecDepth 100000 in
theorem fh_2_95 {n : Nat} {M : zM} : zH n (0, 0) 2 (0, zini [zR 95] 1, []) M (fun r M' => r = some (.inl (hf_2_95 M)) ∧ M' = M) := by
  have hz := zp_2
  have hE : hf_2_95 M = hf_2_95 M := rfl
  show zH n (0, 0) 2 (0, [zR 95], []) M _
  exact zH_wr (r := some (.inl (M 95 2))) 2 hz (by rfl) (hfinP hE)
noncomputable def hSum : Nat → (Nat → Int) → (Nat → Int) → Nat → Int
  | 0, _, _, _ => 0
  | n + 1, f, s, v => (if v % 2 = 1 then s 0 else f 0) + hSum n (fun i => f (i + 1)) (fun i => s (i + 1)) (v / 2)
noncomputable def hLes (f s : Nat → Int) : Nat → Int
  | 0 => 0
  | k + 1 => hLes f s k + (s k - f k)
noncomputable def hNz : Nat → Nat → Nat
  | 0, _ => 0
  | n + 1, v => if v % 2 = 1 then 0 else hNz n (v / 2) + 1
noncomputable def hPar (f s : Nat → Int) (v : Nat) : Nat → Int
  | 0 => 0
  | k + 1 => hPar f s v k + (if v / 2 ^ k % 2 = 1 then s k else f k)
theorem hLes_sh (f s : Nat → Int) : ∀ k, hLes f s (k + 1) = (s 0 - f 0) + hLes (fun i => f (i + 1)) (fun i => s (i + 1)) k
  | 0 => by
    show (0 : Int) + (s 0 - f 0) = (s 0 - f 0) + 0
    omega
  | k + 1 => by
    show hLes f s (k + 1) + (s (k + 1) - f (k + 1)) = (s 0 - f 0) + (hLes (fun i => f (i + 1)) (fun i => s (i + 1)) k + (s (k + 1) - f (k + 1)))
    rw [hLes_sh f s k]; omega
theorem hSum_step : ∀ (n : Nat) (f s : Nat → Int) (v : Nat), 0 < v → v < 2 ^ n → hNz n v < n ∧ hSum n f s v = hSum n f s (v - 1) + (s (hNz n v) - f (hNz n v) - hLes f s (hNz n v))
  | 0, _, _, v, h0, h1 => by rw [Nat.pow_zero] at h1; omega
  | n + 1, f, s, v, h0, h1 => by
    rw [Nat.pow_succ] at h1
    by_cases hv : v % 2 = 1
    · have e : hNz (n + 1) v = 0 := if_pos hv
      rw [e]
      refine ⟨by omega, ?_⟩
      show (if v % 2 = 1 then s 0 else f 0) + hSum n (fun i => f (i + 1)) (fun i => s (i + 1)) (v / 2) = ((if (v - 1) % 2 = 1 then s 0 else f 0) + hSum n (fun i => f (i + 1)) (fun i => s (i + 1)) ((v - 1) / 2)) + (s 0 - f 0 - 0)
      rw [if_pos hv, if_neg (by omega), show (v - 1) / 2 = v / 2 by omega]
      omega
    · have e : hNz (n + 1) v = hNz n (v / 2) + 1 := if_neg hv
      obtain ⟨q1, q2⟩ := hSum_step n (fun i => f (i + 1)) (fun i => s (i + 1)) (v / 2) (by omega) (by omega)
      rw [e]
      refine ⟨by omega, ?_⟩
      show (if v % 2 = 1 then s 0 else f 0) + hSum n (fun i => f (i + 1)) (fun i => s (i + 1)) (v / 2) = ((if (v - 1) % 2 = 1 then s 0 else f 0) + hSum n (fun i => f (i + 1)) (fun i => s (i + 1)) ((v - 1) / 2)) + _
      rw [if_neg hv, if_pos (by omega), show (v - 1) / 2 = v / 2 - 1 by omega, q2, hLes_sh]
      try dsimp only
      omega
theorem hNz_fuel : ∀ (n m v : Nat), 0 < v → v < 2 ^ n → n ≤ m → hNz m v = hNz n v
  | 0, _, v, h0, h1, _ => by rw [Nat.pow_zero] at h1; omega
  | n + 1, 0, v, h0, h1, h2 => by omega
  | n + 1, m + 1, v, h0, h1, h2 => by
    rw [Nat.pow_succ] at h1
    show (if v % 2 = 1 then 0 else hNz m (v / 2) + 1) = (if v % 2 = 1 then 0 else hNz n (v / 2) + 1)
    by_cases hv : v % 2 = 1
    · rw [if_pos hv, if_pos hv]
    · rw [if_neg hv, if_neg hv, hNz_fuel n m (v / 2) (by omega) (by omega) (by omega)]
theorem hPar_sh (f s : Nat → Int) (v : Nat) : ∀ k, hPar f s v (k + 1) = (if v % 2 = 1 then s 0 else f 0) + hPar (fun i => f (i + 1)) (fun i => s (i + 1)) (v / 2) k
  | 0 => by
    show (0 : Int) + (if v / 2 ^ 0 % 2 = 1 then s 0 else f 0) = (if v % 2 = 1 then s 0 else f 0) + 0
    rw [Nat.pow_zero, Nat.div_one, Int.zero_add, Int.add_zero]
  | k + 1 => by
    show hPar f s v (k + 1) + (if v / 2 ^ (k + 1) % 2 = 1 then s (k + 1) else f (k + 1)) = (if v % 2 = 1 then s 0 else f 0) + (hPar (fun i => f (i + 1)) (fun i => s (i + 1)) (v / 2) k + (if v / 2 / 2 ^ k % 2 = 1 then s (k + 1) else f (k + 1)))
    rw [hPar_sh f s v k, show v / 2 / 2 ^ k = v / 2 ^ (k + 1) by rw [Nat.div_div_eq_div_mul, Nat.pow_succ, Nat.mul_comm 2], Int.add_assoc]
theorem hPar_sum : ∀ (n : Nat) (f s : Nat → Int) (v : Nat), hPar f s v n = hSum n f s v
  | 0, _, _, _ => rfl
  | n + 1, f, s, v => by rw [hPar_sh, hPar_sum n]; rfl
theorem hw_l {a b : Int} : w32 (w32 a + b) = w32 (a + b) := by unfold w32; omega
theorem hw_2 {a b : Int} : w32 (w32 a + w32 b) = w32 (a + b) := by unfold w32; omega
theorem hw_s {a b : Int} : w32 (w32 a - w32 b) = w32 (a - b) := by unfold w32; omega
noncomputable def hFd (due : Int) (S : Nat → Int) : Nat → Int × Int
  | 0 => (-1, 0)
  | v + 1 => if S v = due then (if (hFd due S v).1 = -1 then ((v : Int), 0) else if (qpc 31 v : Int) < (qpc 31 (hFd due S v).1.toNat : Nat) then ((v : Int), 0) else if (qpc 31 v : Int) = (qpc 31 (hFd due S v).1.toNat : Nat) then ((hFd due S v).1, (hFd due S v).2 + 1) else hFd due S v) else hFd due S v
theorem hFd_b (due : Int) (S : Nat → Int) : ∀ v, ((hFd due S v).1 = -1 ∨ (0 ≤ (hFd due S v).1 ∧ (hFd due S v).1 < v)) ∧ 0 ≤ (hFd due S v).2 ∧ (hFd due S v).2 ≤ v
  | 0 => ⟨.inl rfl, Int.le_refl _, Int.le_refl _⟩
  | v + 1 => by
    have ih := hFd_b due S v
    unfold hFd
    (repeat' split) <;> (try dsimp only) <;> omega
noncomputable def hfF (M : zM) : Nat → Int := fun l => M 98 (5640 + 2 * l)
noncomputable def hfS (M : zM) : Nat → Int := fun l => M 98 (5641 + 2 * l)
set_option maxRecDepth 100000 in
theorem fh_288 {n : Nat} {M : zM} (hn : 0 ≤ M 98 6 ∧ M 98 6 ≤ 12) (a : Int) (ha : 0 ≤ a ∧ a ≤ 4095) : zH n (0, 0) 288 (0, zini [zR 97, .inl a] 4, []) M (fun r M' => r = some (.inl (w32 (hPar (hfF M) (hfS M) a.toNat (M 98 6).toNat))) ∧ M' = M) := by
  have hz := zp_288
  have lp : ∀ (N : Nat) (v i : Int), (12 - i).toNat < N → 0 ≤ i ∧ i ≤ M 98 6 → v = w32 (hPar (hfF M) (hfS M) a.toNat i.toNat) → zH n (0, 0) 288 (4, [zR 97, .inl a, .inl v, .inl i], []) M (fun r M' => r = some (.inl (w32 (hPar (hfF M) (hfS M) a.toNat (M 98 6).toNat))) ∧ M' = M) := by
    intro N
    induction N with
    | zero => intro v i hN; exact absurd hN (Nat.not_lt_zero _)
    | succ N ih =>
      intro v i hN hi hv
      refine zH_w (c' := (11, [zR 97, .inl a, .inl v, .inl i], [.inl 6, zR 98, .inl i])) 4 hz rfl ?_
      refine zH_iald hz rfl rfl (.inl rfl) (fun _ => ?_)
      show zH n (0, 0) 288 (12, [zR 97, .inl a, .inl v, .inl i], [.inl (M 98 6), .inl i]) M _
      refine zH_wi_ge (pc := 12) (n' := 15) (t := 42) (L := [zR 97, .inl a, .inl v, .inl i]) (st := []) (x := i) (y := (M 98 6)) 0 hz (by rfl) (fun hb => ?_) (fun hb => ?_)
      · exact zH_wr (r := some (.inl v)) 1 hz (by rfl) ⟨by rw [hv, show i = M 98 6 by omega], rfl⟩
      · refine zH_w (c' := (33, [zR 97, .inl a, .inl v, .inl i], [.inl (w32 (w32 (5640 + w32 (2 * i)) + zband (zbshr a i) 1)), zR 98, .inl v])) 14 hz rfl ?_
        refine zH_iald hz rfl rfl (.inl rfl) (fun _ => ?_)
        have hbi := qbit a i (by omega) (by omega)
        have hlt : a.toNat / 2 ^ i.toNat % 2 < 2 := Nat.mod_lt _ (by decide)
        have ei : M 98 (w32 (w32 (5640 + w32 (2 * i)) + zband (zbshr a i) 1)).toNat = (if a.toNat / 2 ^ i.toNat % 2 = 1 then hfS M i.toNat else hfF M i.toNat) := by
          rw [w32_id (x := 2 * i) (by omega), w32_id (x := 5640 + 2 * i) (by omega), hbi, w32_id (by omega)]
          by_cases h1 : a.toNat / 2 ^ i.toNat % 2 = 1
          · rw [if_pos h1, h1]; unfold hfS; rw [show (5640 + 2 * i + ((1 : Nat) : Int)).toNat = 5641 + 2 * i.toNat by omega]
          · rw [if_neg h1, show a.toNat / 2 ^ i.toNat % 2 = 0 by omega]; unfold hfF; rw [show (5640 + 2 * i + ((0 : Nat) : Int)).toNat = 5640 + 2 * i.toNat by omega]
        rw [ei]
        obtain ⟨x, hx⟩ : ∃ x : Int, x = (if a.toNat / 2 ^ i.toNat % 2 = 1 then hfS M i.toNat else hfF M i.toNat) := ⟨_, rfl⟩
        rw [← hx]
        refine zH_w (c' := (4, [zR 97, .inl a, .inl (w32 (v + x)), .inl (i + 1)], [])) 4 hz (by rw [show (.inl (i + 1) : zV) = .inl (w32 (i + 1)) from by rw [w32_id (by omega)]]; rfl) ?_
        refine ih _ _ (by omega) (by omega) ?_
        rw [hv, hw_l, show (i + 1).toNat = i.toNat + 1 by omega, hx]; rfl
  show zH n (0, 0) 288 (0, [zR 97, .inl a, zN, zN], []) M _
  refine zH_w (c' := (4, [zR 97, .inl a, .inl 0, .inl 0], [])) 4 hz rfl ?_
  exact lp 13 0 0 (by omega) (by omega) rfl
theorem hsz {n : Nat} {M : zM} (hC : qMI M) (v : Int) (hv : qin v) : zH n (0, 0) 186 (0, zini [.inl v] 3, []) M (fun r M' => r = some (.inl (qpc 31 v.toNat : Nat)) ∧ M' = M) :=
  ((qx_sizeOf (d := 5) (by decide) hC v hv).toH).mono (fun r M' h => by obtain ⟨h1, x, h2, h3⟩ := h; exact ⟨by rw [h2, h3.2.2], h1⟩)
noncomputable def hAns (due what : Int) (S : Nat → Int) (N : Nat) : Int := if what = 0 then (hFd due S N).1 else if ¬ (hFd due S N).1 = -1 then (hFd due S N).2 else (hFd due S N).1
theorem h2n {k : Int} (hk : 0 ≤ k ∧ k ≤ 12) : zbshl 1 k = (2 ^ k.toNat : Nat) ∧ 1 ≤ 2 ^ k.toNat ∧ 2 ^ k.toNat ≤ 4096 := by
  have h1 : 2 ^ k.toNat ≤ 2 ^ 12 := Nat.pow_le_pow_right (by decide) (by omega)
  refine ⟨?_, Nat.two_pow_pos _, h1⟩
  rw [qbshl_N 1 k (by omega) (by omega) (by show 1 * 2 ^ k.toNat < _; omega)]
  show ((1 * 2 ^ k.toNat : Nat) : Int) = _
  rw [Nat.one_mul]
set_option maxRecDepth 100000 in
theorem fh_289 {n : Nat} {M : zM} (hC : qMI M) (due what : Int) : zH n (0, 0) 289 (0, zini [zR 97, .inl due, .inl what] 7, []) M (fun r M' => r = some (.inl (if (0 ≤ due ∧ due ≤ 12000) ∧ (0 ≤ what ∧ what ≤ 1) then hAns due what (fun v => w32 (hPar (hfF M) (hfS M) v (M 98 6).toNat)) (2 ^ (M 98 6).toNat) else -2)) ∧ M' = M) := by
  have hz := zp_289
  have hn := hC.cnt6
  obtain ⟨p1, p2, p3⟩ := h2n hn
  obtain ⟨S, hS⟩ : ∃ S : Nat → Int, S = (fun v => w32 (hPar (hfF M) (hfS M) v (M 98 6).toNat)) := ⟨_, rfl⟩
  rw [← hS]
  have lp : ∀ (N : Nat) (v : Nat) (u : zV), 4096 - v < N → v ≤ 2 ^ (M 98 6).toNat → zH n (0, 0) 289 (31, [zR 97, .inl due, .inl what, .inl (hFd due S v).1, .inl (hFd due S v).2, .inl (v : Int), u], []) M (fun r M' => r = some (.inl (hAns due what S (2 ^ (M 98 6).toNat))) ∧ M' = M) := by
    intro N
    induction N with
    | zero => intro v u hN; exact absurd hN (Nat.not_lt_zero _)
    | succ N ih =>
      intro v u hN hv
      have hfb := hFd_b due S v
      obtain ⟨b, hb⟩ : ∃ b : Int, b = (hFd due S v).1 := ⟨_, rfl⟩
      obtain ⟨c, hc⟩ : ∃ c : Int, c = (hFd due S v).2 := ⟨_, rfl⟩
      rw [← hb, ← hc] at hfb ⊢
      refine zH_w (c' := (40, [zR 97, .inl due, .inl what, .inl b, .inl c, .inl (v : Int), u], [.inl 6, zR 98, .inl 1, .inl (v : Int)])) 5 hz rfl ?_
      refine zH_iald hz rfl rfl (.inl rfl) (fun _ => ?_)
      show zH n (0, 0) 289 (41, [zR 97, .inl due, .inl what, .inl b, .inl c, .inl (v : Int), u], [.inl (M 98 6), .inl 1, .inl (v : Int)]) M _
      refine zH_wi_ge (pc := 42) (n' := 45) (t := 119) (L := [zR 97, .inl due, .inl what, .inl b, .inl c, .inl (v : Int), u]) (st := []) (x := (v : Int)) (y := (zbshl 1 (M 98 6))) 1 hz (by rfl) (fun hq => ?_) (fun hq => ?_)
      · have hve : v = 2 ^ (M 98 6).toNat := by omega
        refine zH_wf_eq (pc := 120) (n' := 123) (t := 128) (L := [zR 97, .inl due, .inl what, .inl b, .inl c, .inl (v : Int), u]) (st := []) (x := what) 1 hz (by rfl) (fun hw => ?_) (fun hw => ?_)
        · exact zH_wr (r := some (.inl b)) 2 hz (by rfl) ⟨by unfold hAns; rw [← hve, if_pos hw, hb], rfl⟩
        · refine zH_wi_ne (pc := 125) (n' := 128) (t := 132) (L := [zR 97, .inl due, .inl what, .inl b, .inl c, .inl (v : Int), u]) (st := []) (x := b) (y := (-1)) 2 hz (by rfl) (fun hw2 => ?_) (fun hw2 => ?_)
          · exact zH_wr (r := some (.inl c)) 1 hz (by rfl) ⟨by unfold hAns; rw [← hve, if_neg hw, ← hb, if_pos hw2, hc], rfl⟩
          · exact zH_wr (r := some (.inl b)) 2 hz (by rfl) ⟨by unfold hAns; rw [← hve, if_neg hw, ← hb, if_neg hw2], rfl⟩
      · have nx : ∀ (b' c' : Int) (u' : zV), b' = (hFd due S (v + 1)).1 → c' = (hFd due S (v + 1)).2 → zH n (0, 0) 289 (113, [zR 97, .inl due, .inl what, .inl b', .inl c', .inl (v : Int), u'], []) M (fun r M' => r = some (.inl (hAns due what S (2 ^ (M 98 6).toNat))) ∧ M' = M) := by
          intro b' c' u' h1 h2
          have q := ih (v + 1) u' (by omega) (by omega)
          rw [← h1, ← h2] at q
          refine zH_w (c' := (31, [zR 97, .inl due, .inl what, .inl b', .inl c', .inl ((v + 1 : Nat) : Int), u'], [])) 2 hz (by rw [show (.inl ((v + 1 : Nat) : Int) : zV) = .inl (w32 ((v : Int) + 1)) from by rw [w32_id (by omega)]; rfl]; rfl) q
        have es : hFd due S (v + 1) = (if S v = due then (if b = -1 then ((v : Int), 0) else if (qpc 31 v : Int) < (qpc 31 b.toNat : Nat) then ((v : Int), 0) else if (qpc 31 v : Int) = (qpc 31 b.toNat : Nat) then (b, c + 1) else (b, c)) else (b, c)) := by
          rw [hb, hc]; rfl
        refine zH_wE (c1 := (51, [zR 97, .inl due, .inl what, .inl b, .inl c, .inl (v : Int), u], [])) 2 hz zp_288 (fh_288 hn (v : Int) (by omega)) (by rfl) ?_
        show zH n (0, 0) 289 (51, [zR 97, .inl due, .inl what, .inl b, .inl c, .inl (v : Int), u], [.inl (w32 (hPar (hfF M) (hfS M) v (M 98 6).toNat))]) M _
        rw [show w32 (hPar (hfF M) (hfS M) v (M 98 6).toNat) = S v by rw [hS]]
        refine zH_w (c' := (52, [zR 97, .inl due, .inl what, .inl b, .inl c, .inl (v : Int), u], [.inl due, .inl (S v)])) 1 hz rfl ?_
        refine zH_wi_ne (pc := 52) (n' := 55) (t := 113) (L := [zR 97, .inl due, .inl what, .inl b, .inl c, .inl (v : Int), u]) (st := []) (x := (S v)) (y := due) 0 hz (by rfl) (fun h1 => ?_) (fun h1 => ?_)
        · rw [if_neg h1] at es
          exact nx b c u (by rw [es]) (by rw [es])
        · rw [if_pos (by omega)] at es
          refine zH_w (c' := (57, [zR 97, .inl due, .inl what, .inl b, .inl c, .inl (v : Int), u], [.inl (-1), .inl b])) 2 hz rfl ?_
          refine zH_wi_ne (pc := 57) (n' := 60) (t := 64) (L := [zR 97, .inl due, .inl what, .inl b, .inl c, .inl (v : Int), u]) (st := []) (x := b) (y := (-1)) 0 hz (by rfl) (fun h2 => ?_) (fun h2 => ?_)
          · rw [if_neg h2] at es
            refine zH_w (c' := (66, [zR 97, .inl due, .inl what, .inl b, .inl c, .inl (v : Int), u], [.inl (v : Int)])) 1 hz rfl ?_
            refine zH_wE (c1 := (69, [zR 97, .inl due, .inl what, .inl b, .inl c, .inl (v : Int), u], [])) 0 hz zp_186 (hsz hC (v : Int) (by omega)) (by rfl) ?_
            show zH n (0, 0) 289 (69, [zR 97, .inl due, .inl what, .inl b, .inl c, .inl (v : Int), u], [.inl (qpc 31 v : Nat)]) M _
            refine zH_wE (c1 := (73, [zR 97, .inl due, .inl what, .inl b, .inl c, .inl (v : Int), u], [.inl (qpc 31 v : Nat)])) 1 hz zp_186 (hsz hC b (by omega)) (by rfl) ?_
            show zH n (0, 0) 289 (73, [zR 97, .inl due, .inl what, .inl b, .inl c, .inl (v : Int), u], [.inl (qpc 31 b.toNat : Nat), .inl (qpc 31 v : Nat)]) M _
            have l1 := qpc_le 31 v
            have l2 := qpc_le 31 b.toNat
            obtain ⟨d, hd⟩ : ∃ d : Int, d = w32 ((qpc 31 v : Nat) - (qpc 31 b.toNat : Nat)) := ⟨_, rfl⟩
            have hd2 : d = (qpc 31 v : Nat) - (qpc 31 b.toNat : Nat) := by rw [hd]; exact w32_id (by omega)
            refine zH_w (c' := (78, [zR 97, .inl due, .inl what, .inl b, .inl c, .inl (v : Int), .inl d], [.inl d])) 3 hz (by rw [hd]; rfl) ?_
            refine zH_wf_ge (pc := 78) (n' := 81) (t := 85) (L := [zR 97, .inl due, .inl what, .inl b, .inl c, .inl (v : Int), .inl d]) (st := []) (x := d) 0 hz (by rfl) (fun h3 => ?_) (fun h3 => ?_)
            · rw [if_neg (by omega)] at es
              refine zH_w (c' := (87, [zR 97, .inl due, .inl what, .inl b, .inl c, .inl (v : Int), .inl d], [.inl d])) 1 hz rfl ?_
              refine zH_wf_ne (pc := 87) (n' := 90) (t := 97) (L := [zR 97, .inl due, .inl what, .inl b, .inl c, .inl (v : Int), .inl d]) (st := []) (x := d) 0 hz (by rfl) (fun h4 => ?_) (fun h4 => ?_)
              · rw [if_neg (by omega)] at es
                refine zH_w (c' := (103, [zR 97, .inl due, .inl what, .inl b, .inl c, .inl (v : Int), .inl d], [.inl d])) 3 hz rfl ?_
                refine zH_wf_ge (pc := 103) (n' := 106) (t := 111) (L := [zR 97, .inl due, .inl what, .inl b, .inl c, .inl (v : Int), .inl d]) (st := []) (x := d) 0 hz (by rfl) (fun h5 => ?_) (fun h5 => absurd h3 h5)
                refine zH_w (c' := (113, [zR 97, .inl due, .inl what, .inl b, .inl c, .inl (v : Int), .inl d], [])) 2 hz rfl ?_
                exact nx b c (.inl d) (by rw [es]) (by rw [es])
              · rw [if_pos (by omega)] at es
                refine zH_w (c' := (103, [zR 97, .inl due, .inl what, .inl b, .inl (c + 1), .inl (v : Int), .inl d], [.inl d])) 6 hz (by rw [show (.inl (c + 1) : zV) = .inl (w32 (c + 1)) from by rw [w32_id (by omega)]]; rfl) ?_
                refine zH_wf_ge (pc := 103) (n' := 106) (t := 111) (L := [zR 97, .inl due, .inl what, .inl b, .inl (c + 1), .inl (v : Int), .inl d]) (st := []) (x := d) 0 hz (by rfl) (fun h5 => ?_) (fun h5 => absurd h3 h5)
                refine zH_w (c' := (113, [zR 97, .inl due, .inl what, .inl b, .inl (c + 1), .inl (v : Int), .inl d], [])) 2 hz rfl ?_
                exact nx b (c + 1) (.inl d) (by rw [es]) (by rw [es])
            · rw [if_pos (by omega)] at es
              refine zH_w (c' := (103, [zR 97, .inl due, .inl what, .inl b, .inl 0, .inl (v : Int), .inl d], [.inl d])) 4 hz rfl ?_
              refine zH_wf_ge (pc := 103) (n' := 106) (t := 111) (L := [zR 97, .inl due, .inl what, .inl b, .inl 0, .inl (v : Int), .inl d]) (st := []) (x := d) 0 hz (by rfl) (fun h5 => absurd h5 h3) (fun h5 => ?_)
              refine zH_w (c' := (113, [zR 97, .inl due, .inl what, .inl (v : Int), .inl 0, .inl (v : Int), .inl d], [])) 3 hz rfl ?_
              exact nx (v : Int) 0 (.inl d) (by rw [es]) (by rw [es])
          · rw [if_pos (by omega)] at es
            refine zH_w (c' := (113, [zR 97, .inl due, .inl what, .inl (v : Int), .inl 0, .inl (v : Int), .inl (-1)], [])) 13 hz rfl ?_
            exact nx (v : Int) 0 (.inl (-1)) (by rw [es]) (by rw [es])
  show zH n (0, 0) 289 (0, [zR 97, .inl due, .inl what, zN, zN, zN, zN], []) M _
  refine zH_wE (c1 := (8, [zR 97, .inl due, .inl what, zN, zN, zN, zN], [])) 3 hz zp_180 (fh_180 due 0 12000) (by rfl) ?_
  show zH n (0, 0) 289 (8, [zR 97, .inl due, .inl what, zN, zN, zN, zN], [.inl (hf_180 M due 0 12000)]) M _
  have c1 := hq_180 (M := M) (a := due) (b := 0) (c := 12000)
  have c2 := hq_180 (M := M) (a := what) (b := 0) (c := 1)
  refine zH_wf_eq (pc := 8) (n' := 11) (t := 20) (L := [zR 97, .inl due, .inl what, zN, zN, zN, zN]) (st := []) (x := (hf_180 M due 0 12000)) 0 hz (by rfl) (fun h1 => ?_) (fun h1 => ?_)
  · exact zH_wr (r := some (.inl (-2))) 1 hz (by rfl) ⟨by rw [if_neg (by omega)], rfl⟩
  · refine zH_wE (c1 := (17, [zR 97, .inl due, .inl what, zN, zN, zN, zN], [])) 3 hz zp_180 (fh_180 what 0 1) (by rfl) ?_
    show zH n (0, 0) 289 (17, [zR 97, .inl due, .inl what, zN, zN, zN, zN], [.inl (hf_180 M what 0 1)]) M _
    refine zH_wf_ne (pc := 17) (n' := 20) (t := 23) (L := [zR 97, .inl due, .inl what, zN, zN, zN, zN]) (st := []) (x := (hf_180 M what 0 1)) 0 hz (by rfl) (fun h2 => ?_) (fun h2 => ?_)
    · refine zH_w (c' := (31, [zR 97, .inl due, .inl what, .inl (-1), .inl 0, .inl 0, zN], [])) 6 hz rfl ?_
      rw [if_pos (show (0 ≤ due ∧ due ≤ 12000) ∧ (0 ≤ what ∧ what ≤ 1) by omega)]
      exact lp 4097 0 zN (by omega) (by omega)
    · exact zH_wr (r := some (.inl (-2))) 1 hz (by rfl) ⟨by rw [if_neg (by omega)], rfl⟩
/-- the table of lines as the model's row has it -/
noncomputable def hLr (M : zM) (f s : Nat → Int) (n : Nat) : Prop := M 24 3 = (n : Int) ∧ n ≤ 12 ∧ ∀ l, l < n → M 25 (2 * l) = f l ∧ M 25 (2 * l + 1) = s l
theorem hLr.get {M : zM} {f s : Nat → Int} {n : Nat} (h : hLr M f s n) (hT : hTb M) {l : Nat} (hl : l < n) : hR_get M 24 (l : Int) 0 = f l ∧ hR_get M 24 (l : Int) 1 = s l := by
  have h1 := h.2.1
  rw [hG_24 hT (by omega) (by decide), hG_24 hT (by omega) (by decide)]
  simp only [Int.reduceToNat, Int.toNat_natCast, Nat.add_zero]
  exact h.2.2 l hl
set_option maxRecDepth 100000 in
theorem fh_4 {n : Nat} {M : zM} {f s : Nat → Int} {m : Nat} (hr : hLr M f s m) (hT : hTb M) : zH n (0, 0) 4 (0, zini [zR 95, zR 24] 7, []) M (fun r M' => r = some (.inl (w32 (hPar f s 0 m))) ∧ (∀ i, i ≠ 96 → M' i = M i) ∧ ∀ l, l < m → M' 96 l = w32 (s l - f l - hLes f s l)) := by
  have hz := zp_4
  have hm := hr.2.1
  have lp : ∀ (N k : Nat) (t ls : Int) (u u2 : zV) (M5 : zM), 12 - k < N → k ≤ m → t = w32 (hPar f s 0 k) → ls = w32 (hLes f s k) → (∀ i, i ≠ 96 → M5 i = M i) → (∀ l, l < k → M5 96 l = w32 (s l - f l - hLes f s l)) → zH n (0, 0) 4 (7, [zR 95, zR 24, .inl t, .inl ls, .inl (k : Int), u, u2], []) M5 (fun r M' => r = some (.inl (w32 (hPar f s 0 m))) ∧ (∀ i, i ≠ 96 → M' i = M i) ∧ ∀ l, l < m → M' 96 l = w32 (s l - f l - hLes f s l)) := by
    intro N
    induction N with
    | zero => intro k t ls u u2 M5 hN; exact absurd hN (Nat.not_lt_zero _)
    | succ N ih =>
      intro k t ls u u2 M5 hN hk ht hls hO hT5
      have e24 : M5 24 = M 24 := hO 24 (by decide)
      have e25 : M5 25 = M 25 := hO 25 (by decide)
      have hr5 : hLr M5 f s m := by unfold hLr; rw [e24, e25]; exact hr
      have hTb5 : hTb M5 := by
        unfold hTb
        rw [hO 10 (by decide), hO 12 (by decide), hO 14 (by decide), hO 16 (by decide), hO 18 (by decide), hO 20 (by decide), hO 22 (by decide), e24]
        exact hT
      refine zH_w (c' := (10, [zR 95, zR 24, .inl t, .inl ls, .inl (k : Int), u, u2], [zR 24, .inl (k : Int)])) 2 hz rfl ?_
      refine zH_callE hz zp_101 rfl rfl fh_101_24 ?_
      show zH n (0, 0) 4 (13, [zR 95, zR 24, .inl t, .inl ls, .inl (k : Int), u, u2], [.inl (hR_size M5 24), .inl (k : Int)]) M5 _
      have hsz5 : hR_size M5 24 = (m : Int) := hr5.1
      refine zH_wi_ge (pc := 13) (n' := 16) (t := 74) (L := [zR 95, zR 24, .inl t, .inl ls, .inl (k : Int), u, u2]) (st := []) (x := (k : Int)) (y := (hR_size M5 24)) 0 hz (by rfl) (fun hb => ?_) (fun hb => ?_)
      · have hkm : k = m := by omega
        exact zH_wr (r := some (.inl t)) 1 hz (by rfl) ⟨by rw [ht, hkm], hO, by rw [← hkm]; exact hT5⟩
      · have hkm : k < m := by omega
        refine zH_wi_ge (pc := 23) (n' := 26) (t := 74) (L := [zR 95, zR 24, .inl t, .inl ls, .inl (k : Int), u, u2]) (st := []) (x := (k : Int)) (y := 12) 4 hz (by rfl) (fun hb2 => absurd hb2 (by omega)) (fun hb2 => ?_)
        obtain ⟨g0, g1⟩ := hr5.get hTb5 hkm
        refine zH_w (c' := (30, [zR 95, zR 24, .inl t, .inl ls, .inl (k : Int), u, u2], [.inl 0, .inl (k : Int), zR 24])) 3 hz rfl ?_
        refine zH_wE (c1 := (33, [zR 95, zR 24, .inl t, .inl ls, .inl (k : Int), u, u2], [])) 0 hz zp_106 (fh_106_24 (k : Int) 0) (by rfl) ?_
        rw [g0]
        show zH n (0, 0) 4 (33, [zR 95, zR 24, .inl t, .inl ls, .inl (k : Int), u, u2], [.inl (f k)]) M5 _
        refine zH_wE (c1 := (42, [zR 95, zR 24, .inl t, .inl ls, .inl (k : Int), .inl (f k), u2], [])) 4 hz zp_106 (fh_106_24 (k : Int) 1) (by rfl) ?_
        rw [g1]
        show zH n (0, 0) 4 (42, [zR 95, zR 24, .inl t, .inl ls, .inl (k : Int), .inl (f k), u2], [.inl (s k)]) M5 _
        refine zH_w (c' := (62, [zR 95, zR 24, .inl (w32 (t + f k)), .inl ls, .inl (k : Int), .inl (f k), .inl (w32 (s k - f k))], [.inl (w32 (w32 (s k - f k) - ls)), .inl (k : Int), zR 96])) 13 hz rfl ?_
        refine zH_iast hz rfl rfl (fun _ => ?_)
        show zH n (0, 0) 4 (63, [zR 95, zR 24, .inl (w32 (t + f k)), .inl ls, .inl (k : Int), .inl (f k), .inl (w32 (s k - f k))], []) (zput M5 96 (k : Int).toNat (w32 (w32 (s k - f k) - ls))) _
        refine zH_w (c' := (7, [zR 95, zR 24, .inl (w32 (t + f k)), .inl (w32 (ls + w32 (s k - f k))), .inl ((k + 1 : Nat) : Int), .inl (f k), .inl (w32 (s k - f k))], [])) 6 hz (by rw [show (.inl ((k + 1 : Nat) : Int) : zV) = .inl (w32 ((k : Int) + 1)) from by rw [w32_id (by omega)]; rfl]; rfl) ?_
        refine ih (k + 1) _ _ _ _ _ (by omega) (by omega) ?_ ?_ (fun i hi => (zput_oth hi).trans (hO i hi)) (fun l hl => ?_)
        · rw [ht, hw_l]; show _ = w32 (hPar f s 0 k + (if 0 / 2 ^ k % 2 = 1 then s k else f k)); rw [Nat.zero_div, if_neg (by decide)]
        · rw [hls, hw_2]; rfl
        · rw [Int.toNat_natCast]
          by_cases e : l = k
          · subst e; rw [qput_eq, hls, hw_s]
          · rw [qput_nk e]; exact hT5 l (by omega)
  show zH n (0, 0) 4 (0, [zR 95, zR 24, zN, zN, zN, zN, zN], []) M _
  refine zH_w (c' := (7, [zR 95, zR 24, .inl 0, .inl 0, .inl 0, zN, zN], [])) 6 hz rfl ?_
  exact lp 13 0 0 0 zN zN M (by omega) (by omega) rfl rfl (fun _ _ => rfl) (fun l hl => absurd hl (Nat.not_lt_zero l))
set_option maxRecDepth 100000 in
theorem hbc_12 : ∀ v : Fin 4096, zband (hb5 (hb4 (hb3 (hb2 (hb1 (v.val : Int)))))) 63 = (qpc 31 v.val : Nat) := by decide +kernel
set_option maxRecDepth 100000 in
theorem hnz_12 : ∀ v : Fin 4096, v.val = 0 ∨ hf_297 (fun _ _ => 0) (v.val : Int) = (hNz 12 v.val : Nat) := by decide +kernel
set_option maxRecDepth 100000 in
theorem hpc_12 : ∀ v : Fin 4096, qpc 31 v.val ≤ 12 := by decide +kernel
set_option maxRecDepth 100000 in
theorem fh_3 {n : Nat} {M : zM} {f s : Nat → Int} {m : Nat} (hr : hLr M f s m) (hT : hTb M) (sm : Int) : zH n (0, 0) 3 (0, zini [zR 95, zR 24, .inl sm] 8, []) M (fun r M' => r = none ∧ (∀ i, i ≠ 95 → i ≠ 96 → M' i = M i) ∧ M' 95 1 = (hFd sm (fun v => w32 (hPar f s v m)) (2 ^ m)).1 ∧ M' 95 2 = (hFd sm (fun v => w32 (hPar f s v m)) (2 ^ m)).2) := by
  have hz := zp_3
  have hm := hr.2.1
  have p3 : 2 ^ m ≤ 4096 := Nat.pow_le_pow_right (n := 2) (by decide) hm
  have p1 : 1 ≤ 2 ^ m := Nat.two_pow_pos _
  have psh : zbshl 1 (m : Int) = (2 ^ m : Nat) := by
    rw [qbshl_N 1 (m : Int) (by omega) (by omega) (by rw [Int.toNat_natCast]; show 1 * 2 ^ m < _; omega), Int.toNat_natCast]
    show ((1 * 2 ^ m : Nat) : Int) = _
    rw [Nat.one_mul]
  obtain ⟨S, hS⟩ : ∃ S : Nat → Int, S = (fun v => w32 (hPar f s v m)) := ⟨_, rfl⟩
  rw [← hS]
  have lp : ∀ (N v : Nat) (t few : Int) (u u2 : zV) (M5 : zM), 4096 - v < N → v ≤ 2 ^ m → t = S (v - 1) → few = (if (hFd sm S v).1 = -1 then 13 else (qpc 31 (hFd sm S v).1.toNat : Nat)) → (∀ i, i ≠ 95 → i ≠ 96 → M5 i = M i) → (∀ l, l < m → M5 96 l = w32 (s l - f l - hLes f s l)) → M5 95 1 = (hFd sm S v).1 → M5 95 2 = (hFd sm S v).2 → zH n (0, 0) 3 (23, [zR 95, zR 24, .inl sm, .inl t, .inl few, .inl (v : Int), u, u2], []) M5 (fun r M' => r = none ∧ (∀ i, i ≠ 95 → i ≠ 96 → M' i = M i) ∧ M' 95 1 = (hFd sm S (2 ^ m)).1 ∧ M' 95 2 = (hFd sm S (2 ^ m)).2) := by
    intro N
    induction N with
    | zero => intro v t few u u2 M5 hN; exact absurd hN (Nat.not_lt_zero _)
    | succ N ih =>
      intro v t few u u2 M5 hN hv ht hfew hO h96 hb1 hb2
      have e24 : M5 24 = M 24 := hO 24 (by decide) (by decide)
      have hfb := hFd_b sm S v
      obtain ⟨b, hb⟩ : ∃ b : Int, b = (hFd sm S v).1 := ⟨_, rfl⟩
      obtain ⟨c, hc⟩ : ∃ c : Int, c = (hFd sm S v).2 := ⟨_, rfl⟩
      rw [← hb] at hfb hfew hb1
      rw [← hc] at hfb hb2
      refine zH_w (c' := (27, [zR 95, zR 24, .inl sm, .inl t, .inl few, .inl (v : Int), u, u2], [zR 24, .inl 1, .inl (v : Int)])) 3 hz rfl ?_
      refine zH_callE hz zp_101 rfl rfl fh_101_24 ?_
      rw [show hR_size M5 24 = (m : Int) by unfold hR_size; rw [e24]; exact hr.1]
      show zH n (0, 0) 3 (30, [zR 95, zR 24, .inl sm, .inl t, .inl few, .inl (v : Int), u, u2], [.inl (m : Int), .inl 1, .inl (v : Int)]) M5 _
      refine zH_w (c' := (36, [zR 95, zR 24, .inl sm, .inl t, .inl few, .inl (v : Int), u, u2], [.inl (zbshl 1 (if (12 : Int) < (m : Int) then 12 else (m : Int))), .inl (v : Int)])) 3 hz rfl ?_
      rw [if_neg (show ¬ (12 : Int) < (m : Int) by omega), psh]
      refine zH_icmp_ge hz rfl (fun hq => ?_) (fun hq => ?_)
      · have hve : v = 2 ^ m := by omega
        refine zH_ret hz rfl rfl ⟨rfl, hO, ?_, ?_⟩
        · rw [← hve, ← hb]; exact hb1
        · rw [← hve, ← hc]; exact hb2
      · have hv2 : v < 2 ^ m := by omega
        have hvf := hpc_12 ⟨v, by omega⟩
        have hbcv := hbc_12 ⟨v, by omega⟩
        dsimp only at hvf hbcv
        refine zH_w (c' := (41, [zR 95, zR 24, .inl sm, .inl t, .inl few, .inl (v : Int), u, u2], [.inl (v : Int)])) 1 hz rfl ?_
        refine zH_wE (c1 := (44, [zR 95, zR 24, .inl sm, .inl t, .inl few, .inl (v : Int), u, u2], [])) 0 hz zp_297 (fh_297 (v : Int)) (by rfl) ?_
        show zH n (0, 0) 3 (44, [zR 95, zR 24, .inl sm, .inl t, .inl few, .inl (v : Int), u, u2], [.inl (hf_297 M5 (v : Int))]) M5 _
        obtain ⟨k, hk⟩ : ∃ k : Int, k = hf_297 M5 (v : Int) := ⟨_, rfl⟩
        rw [← hk]
        have nx : ∀ (few' : Int) (u' : zV) (M6 : zM), few' = (if (hFd sm S (v + 1)).1 = -1 then 13 else (qpc 31 (hFd sm S (v + 1)).1.toNat : Nat)) → (∀ i, i ≠ 95 → M6 i = M5 i) → M6 95 1 = (hFd sm S (v + 1)).1 → M6 95 2 = (hFd sm S (v + 1)).2 → zH n (0, 0) 3 (134, [zR 95, zR 24, .inl sm, .inl (S v), .inl few', .inl (v : Int), .inl k, u'], []) M6 (fun r M' => r = none ∧ (∀ i, i ≠ 95 → i ≠ 96 → M' i = M i) ∧ M' 95 1 = (hFd sm S (2 ^ m)).1 ∧ M' 95 2 = (hFd sm S (2 ^ m)).2) := by
          intro few' u' M6 h1 h2 h3 h4
          refine zH_w (c' := (23, [zR 95, zR 24, .inl sm, .inl (S v), .inl few', .inl ((v + 1 : Nat) : Int), .inl k, u'], [])) 2 hz (by rw [show (.inl ((v + 1 : Nat) : Int) : zV) = .inl (w32 ((v : Int) + 1)) from by rw [w32_id (by omega)]; rfl]; rfl) ?_
          exact ih (v + 1) (S v) few' (.inl k) u' M6 (by omega) (by omega) rfl h1 (fun i h5 h6 => (h2 i h5).trans (hO i h5 h6)) (fun l hl => (congrFun (h2 96 (by decide)) l).trans (h96 l hl)) h3 h4
        have es : hFd sm S (v + 1) = (if S v = sm then (if b = -1 then ((v : Int), 0) else if (qpc 31 v : Int) < (qpc 31 b.toNat : Nat) then ((v : Int), 0) else if (qpc 31 v : Int) = (qpc 31 b.toNat : Nat) then (b, c + 1) else (b, c)) else (b, c)) := by
          rw [hb, hc]; rfl
        -- behind the sum
        have tl : zH n (0, 0) 3 (75, [zR 95, zR 24, .inl sm, .inl (S v), .inl few, .inl (v : Int), .inl k, u2], []) M5 (fun r M' => r = none ∧ (∀ i, i ≠ 95 → i ≠ 96 → M' i = M i) ∧ M' 95 1 = (hFd sm S (2 ^ m)).1 ∧ M' 95 2 = (hFd sm S (2 ^ m)).2) := by
          refine zH_wE (c1 := (80, [zR 95, zR 24, .inl sm, .inl (S v), .inl few, .inl (v : Int), .inl k, u2], [])) 1 hz zp_296 (fh_296 (v : Int)) (by rfl) ?_
          rw [show hf_296 M5 (v : Int) = (qpc 31 v : Nat) from hbcv]
          show zH n (0, 0) 3 (80, [zR 95, zR 24, .inl sm, .inl (S v), .inl few, .inl (v : Int), .inl k, u2], [.inl (qpc 31 v : Nat)]) M5 _
          obtain ⟨y, hy⟩ : ∃ y : Int, y = (qpc 31 v : Nat) := ⟨_, rfl⟩
          rw [← hy] at es ⊢
          refine zH_w (c' := (84, [zR 95, zR 24, .inl sm, .inl (S v), .inl few, .inl (v : Int), .inl k, .inl y], [.inl sm, .inl (S v)])) 3 hz rfl ?_
          refine zH_wi_ne (pc := 84) (n' := 87) (t := 112) (L := [zR 95, zR 24, .inl sm, .inl (S v), .inl few, .inl (v : Int), .inl k, .inl y]) (st := []) (x := (S v)) (y := sm) 0 hz (by rfl) (fun h1 => ?_) (fun h1 => ?_)
          · rw [if_neg h1] at es
            refine zH_w (c' := (114, [zR 95, zR 24, .inl sm, .inl (S v), .inl few, .inl (v : Int), .inl k, .inl y], [.inl sm, .inl (S v)])) 2 hz rfl ?_
            refine zH_wi_ne (pc := 114) (n' := 117) (t := 134) (L := [zR 95, zR 24, .inl sm, .inl (S v), .inl few, .inl (v : Int), .inl k, .inl y]) (st := []) (x := (S v)) (y := sm) 0 hz (by rfl) (fun h2 => ?_) (fun h2 => absurd h1 h2)
            exact nx few (.inl y) M5 (by rw [es]; exact hfew) (fun _ _ => rfl) (by rw [es]; exact hb1) (by rw [es]; exact hb2)
          · have h1' : S v = sm := by omega
            rw [if_pos h1'] at es
            refine zH_w (c' := (91, [zR 95, zR 24, .inl sm, .inl (S v), .inl few, .inl (v : Int), .inl k, .inl y], [.inl few, .inl y])) 2 hz rfl ?_
            refine zH_wi_ge (pc := 91) (n' := 94) (t := 112) (L := [zR 95, zR 24, .inl sm, .inl (S v), .inl few, .inl (v : Int), .inl k, .inl y]) (st := []) (x := y) (y := few) 0 hz (by rfl) (fun h2 => ?_) (fun h2 => ?_)
            · have hbn : ¬ b = -1 := fun h => by rw [if_pos h] at hfew; omega
              rw [if_neg hbn] at hfew es
              rw [if_neg (by omega)] at es
              refine zH_w (c' := (114, [zR 95, zR 24, .inl sm, .inl (S v), .inl few, .inl (v : Int), .inl k, .inl y], [.inl sm, .inl (S v)])) 2 hz rfl ?_
              refine zH_wi_ne (pc := 114) (n' := 117) (t := 134) (L := [zR 95, zR 24, .inl sm, .inl (S v), .inl few, .inl (v : Int), .inl k, .inl y]) (st := []) (x := (S v)) (y := sm) 0 hz (by rfl) (fun h3 => absurd h3 h1) (fun h3 => ?_)
              refine zH_w (c' := (121, [zR 95, zR 24, .inl sm, .inl (S v), .inl few, .inl (v : Int), .inl k, .inl y], [.inl few, .inl y])) 2 hz rfl ?_
              refine zH_wi_ne (pc := 121) (n' := 124) (t := 134) (L := [zR 95, zR 24, .inl sm, .inl (S v), .inl few, .inl (v : Int), .inl k, .inl y]) (st := []) (x := y) (y := few) 0 hz (by rfl) (fun h4 => ?_) (fun h4 => ?_)
              · rw [if_neg (by omega)] at es
                exact nx few (.inl y) M5 (by rw [es, if_neg hbn]; exact hfew) (fun _ _ => rfl) (by rw [es]; exact hb1) (by rw [es]; exact hb2)
              · rw [if_pos (by omega)] at es
                refine zH_w (c' := (134, [zR 95, zR 24, .inl sm, .inl (S v), .inl few, .inl (v : Int), .inl k, .inl y], [])) (M' := zput M5 95 2 (w32 (M5 95 2 + 1))) 6 hz rfl ?_
                refine nx few (.inl y) _ (by rw [es, if_neg hbn]; exact hfew) (fun i hi => zput_oth hi) (by rw [es, qput_nk (by decide)]; exact hb1) ?_
                rw [es, qput_eq, hb2]
                exact w32_id (by omega)
            · have e2 : hFd sm S (v + 1) = ((v : Int), 0) := by
                rw [es]
                by_cases hbn : b = -1
                · rw [if_pos hbn]
                · rw [if_neg hbn] at hfew ⊢
                  rw [if_pos (by omega)]
              refine zH_w (c' := (134, [zR 95, zR 24, .inl sm, .inl (S v), .inl y, .inl (v : Int), .inl k, .inl y], [])) (M' := zput (zput M5 95 1 (v : Int)) 95 2 0) 9 hz rfl ?_
              refine nx y (.inl y) _ ?_ (fun i hi => (zput_oth hi).trans (zput_oth hi)) ?_ ?_
              · rw [e2, if_neg (show ¬ ((v : Int), (0 : Int)).1 = -1 by show ¬ (v : Int) = -1; omega), hy]; rfl
              · rw [e2, qput_nk (by decide), qput_eq]
              · rw [e2, qput_eq]
        refine zH_w (c' := (49, [zR 95, zR 24, .inl sm, .inl t, .inl few, .inl (v : Int), .inl k, u2], [.inl (v : Int), .inl t])) 3 hz rfl ?_
        refine zH_wf_le (pc := 49) (n' := 52) (t := 72) (L := [zR 95, zR 24, .inl sm, .inl t, .inl few, .inl (v : Int), .inl k, u2]) (st := [.inl t]) (x := (v : Int)) 0 hz (by rfl) (fun h1 => ?_) (fun h1 => ?_)
        · have hv0 : v = 0 := by omega
          refine zH_w (c' := (75, [zR 95, zR 24, .inl sm, .inl (w32 (t + 0)), .inl few, .inl (v : Int), .inl k, u2], [])) 3 hz rfl ?_
          rw [show w32 (t + 0) = S v by rw [ht, hv0, hS, hw_l, Int.add_zero]]
          exact tl
        · have hk2 : k = (hNz 12 v : Nat) := by
            rcases hnz_12 ⟨v, by omega⟩ with h | h
            · exact absurd h (by show ¬ v = 0; omega)
            · rw [hk]; exact h
          obtain ⟨q1, q2⟩ := hSum_step m f s v (by omega) hv2
          rw [hNz_fuel m 12 v (by omega) hv2 hm] at hk2
          refine zH_w (c' := (59, [zR 95, zR 24, .inl sm, .inl t, .inl few, .inl (v : Int), .inl k, u2], [.inl 12, .inl k, .inl t])) 4 hz rfl ?_
          refine zH_wi_ge (pc := 59) (n' := 62) (t := 72) (L := [zR 95, zR 24, .inl sm, .inl t, .inl few, .inl (v : Int), .inl k, u2]) (st := [.inl t]) (x := k) (y := 12) 0 hz (by rfl) (fun h2 => absurd h2 (by omega)) (fun h2 => ?_)
          refine zH_w (c' := (68, [zR 95, zR 24, .inl sm, .inl t, .inl few, .inl (v : Int), .inl k, u2], [.inl k, zR 96, .inl t])) 3 hz rfl ?_
          refine zH_iald hz rfl rfl (.inl rfl) (fun _ => ?_)
          rw [show M5 96 k.toNat = w32 (s (hNz m v) - f (hNz m v) - hLes f s (hNz m v)) by rw [hk2, Int.toNat_natCast]; exact h96 _ q1]
          refine zH_w (c' := (75, [zR 95, zR 24, .inl sm, .inl (w32 (t + w32 (s (hNz m v) - f (hNz m v) - hLes f s (hNz m v)))), .inl few, .inl (v : Int), .inl k, u2], [])) 3 hz rfl ?_
          rw [show w32 (t + w32 (s (hNz m v) - f (hNz m v) - hLes f s (hNz m v))) = S v by rw [ht, hS]; dsimp only; rw [hw_2, hPar_sum, hPar_sum, q2]]
          exact tl
  show zH n (0, 0) 3 (0, [zR 95, zR 24, .inl sm, zN, zN, zN, zN, zN], []) M _
  refine zH_wC (c1 := (5, [zR 95, zR 24, .inl sm, zN, zN, zN, zN, zN], [])) 2 hz zp_4 (fh_4 hr hT) (by rfl) ?_
  rintro _ M1 ⟨rfl, hO1, hT1⟩
  show zH n (0, 0) 3 (5, [zR 95, zR 24, .inl sm, zN, zN, zN, zN, zN], [.inl (w32 (hPar f s 0 m))]) M1 _
  refine zH_w (c' := (23, [zR 95, zR 24, .inl sm, .inl (w32 (hPar f s 0 m)), .inl 13, .inl 0, zN, zN], [])) (M' := zput (zput M1 95 1 (-1)) 95 2 0) 11 hz rfl ?_
  refine lp 4097 0 _ 13 zN zN _ (by omega) (by omega) (by rw [hS]) rfl (fun i h1 h2 => (zput_oth h1).trans ((zput_oth h1).trans (hO1 i h2))) (fun l hl => ?_) ?_ ?_
  · rw [qput_ne (by decide), qput_ne (by decide)]; exact hT1 l hl
  · rw [qput_nk (by decide), qput_eq]; rfl
  · rw [qput_eq]; rfl
set_option maxRecDepth 100000 in
theorem fh_164 {n : Nat} {M : zM} {f s : Nat → Int} {m : Nat} (hr : hLr M f s m) (hT : hTb M) (due what : Int) : zH n (0, 0) 164 (0, zini [zR 8, .inl due, .inl what] 3, []) M (fun r _ => r = some (.inl (if (0 ≤ due ∧ due ≤ 12000) ∧ (0 ≤ what ∧ what ≤ 1) then hAns due what (fun v => w32 (hPar f s v m)) (2 ^ m) else -2))) := by
  have hz := zp_164
  have c1 := hq_169 (M := M) (a := due) (b := 0) (c := 12000)
  have c2 := hq_169 (M := M) (a := what) (b := 0) (c := 1)
  show zH n (0, 0) 164 (0, [zR 8, .inl due, .inl what], []) M _
  refine zH_wE (c1 := (8, [zR 8, .inl due, .inl what], [])) 3 hz zp_169 (fh_169 due 0 12000) (by rfl) ?_
  show zH n (0, 0) 164 (8, [zR 8, .inl due, .inl what], [.inl (hf_169 M due 0 12000)]) M _
  refine zH_wf_eq (pc := 8) (n' := 11) (t := 20) (L := [zR 8, .inl due, .inl what]) (st := []) (x := (hf_169 M due 0 12000)) 0 hz (by rfl) (fun h1 => ?_) (fun h1 => ?_)
  · exact zH_wr (r := some (.inl (-2))) 1 hz (by rfl) (by rw [if_neg (by omega)])
  · refine zH_wE (c1 := (17, [zR 8, .inl due, .inl what], [])) 3 hz zp_169 (fh_169 what 0 1) (by rfl) ?_
    show zH n (0, 0) 164 (17, [zR 8, .inl due, .inl what], [.inl (hf_169 M what 0 1)]) M _
    refine zH_wf_ne (pc := 17) (n' := 20) (t := 23) (L := [zR 8, .inl due, .inl what]) (st := []) (x := (hf_169 M what 0 1)) 0 hz (by rfl) (fun h2 => ?_) (fun h2 => ?_)
    · rw [if_pos (show (0 ≤ due ∧ due ≤ 12000) ∧ (0 ≤ what ∧ what ≤ 1) by omega)]
      refine zH_w (c' := (35, [zR 8, .inl due, .inl what], [.inl due, zR 24, zR 95])) 6 hz rfl ?_
      refine zH_call hz zp_3 rfl rfl (fh_3 hr hT due) ?_
      rintro _ M1 ⟨rfl, -, h3, h4⟩
      obtain ⟨b, hb⟩ : ∃ b : Int, b = (hFd due (fun v => w32 (hPar f s v m)) (2 ^ m)).1 := ⟨_, rfl⟩
      obtain ⟨c, hc⟩ : ∃ c : Int, c = (hFd due (fun v => w32 (hPar f s v m)) (2 ^ m)).2 := ⟨_, rfl⟩
      have ha : hAns due what (fun v => w32 (hPar f s v m)) (2 ^ m) = (if what = 0 then b else if ¬ b = -1 then c else b) := by unfold hAns; rw [hb, hc]
      rw [← hb] at h3
      rw [← hc] at h4
      rw [ha]
      show zH n (0, 0) 164 (38, [zR 8, .inl due, .inl what], []) M1 _
      refine zH_wE (c1 := (45, [zR 8, .inl due, .inl what], [])) 2 hz zp_1 fh_1_95 (by rfl) ?_
      rw [show hf_1_95 M1 = b from h3]
      show zH n (0, 0) 164 (45, [zR 8, .inl due, .inl what], [.inl b]) M1 _
      refine zH_wi_ne (pc := 46) (n' := 49) (t := 51) (L := [zR 8, .inl due, .inl what]) (st := []) (x := b) (y := (-1)) 1 hz (by rfl) (fun h5 => ?_) (fun h5 => ?_)
      · refine zH_wf_ne (pc := 52) (n' := 55) (t := 65) (L := [zR 8, .inl due, .inl what]) (st := []) (x := what) 1 hz (by rfl) (fun h6 => ?_) (fun h6 => ?_)
        · refine zH_wE (c1 := (72, [zR 8, .inl due, .inl what], [])) 2 hz zp_2 fh_2_95 (by rfl) ?_
          rw [show hf_2_95 M1 = c from h4]
          show zH n (0, 0) 164 (72, [zR 8, .inl due, .inl what], [.inl c]) M1 _
          exact zH_wr (r := some (.inl c)) 0 hz (by rfl) (by rw [if_neg h6, if_pos h5])
        · refine zH_wE (c1 := (62, [zR 8, .inl due, .inl what], [])) 2 hz zp_1 fh_1_95 (by rfl) ?_
          rw [show hf_1_95 M1 = b from h3]
          show zH n (0, 0) 164 (62, [zR 8, .inl due, .inl what], [.inl b]) M1 _
          exact zH_wr (r := some (.inl b)) 1 hz (by rfl) (by rw [if_pos (by omega)])
      · refine zH_w (c' := (50, [zR 8, .inl due, .inl what], [.inl (-1)])) 1 hz rfl ?_
        have hb1 : b = -1 := by omega
        exact zH_wr (r := some (.inl (-1))) 0 hz (by rfl) (by rw [if_neg (by omega : ¬ ¬ b = -1), hb1]; split <;> rfl)
    · exact zH_wr (r := some (.inl (-2))) 1 hz (by rfl) (by rw [if_neg (by omega)])
theorem hLr_of {M : zM} (h : hHs M 9 (M 98)) (hn : 0 ≤ M 98 6 ∧ M 98 6 ≤ 12) : hLr M (hfF M) (hfS M) (M 98 6).toNat := by
  have q := h.2.2.2.2.2.2.1
  refine ⟨q.1.trans (by omega), by omega, fun l hl => ⟨?_, ?_⟩⟩
  · exact q.2 (2 * l) (by omega)
  · have := q.2 (2 * l + 1) (by omega)
    rw [show 5640 + (2 * l + 1) = 5641 + 2 * l by omega] at this
    exact this
