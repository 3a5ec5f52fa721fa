/-! IMAGES: WHAT THE CLASS DOES, AS FUNCTIONS -/
set_option maxRecDepth 100000 in
theorem fh_176_8_L0 {n : Nat} {M : zM} : zH n (0, 0) 176 (0, zini [zR 8, .inl 0] 2, []) M (fun r M' => r = some (zR 26) ∧ M' = M) := by
  have hz := zp_176
  show zH n (0, 0) 176 (0, [zR 8, .inl 0], []) M _
  refine zH_w (c' := (15, [zR 8, .inl 0], [zR 26])) 5 hz rfl ?_
  exact zH_wr (r := some (zR 26)) 0 hz (by rfl) ⟨rfl, rfl⟩
noncomputable def hf_110_27_10 (M : zM) : zM :=
  zput (zcopy M 11 28 (0 : Int).toNat (0 : Int).toNat ((if 56 < 56 then 56 else 56) : Int).toNat) 27 3 (if ((zcopy M 11 28 (0 : Int).toNat (0 : Int).toNat ((if 56 < 56 then 56 else 56) : Int).toNat) 27 0) < ((zcopy M 11 28 (0 : Int).toNat (0 : Int).toNat ((if 56 < 56 then 56 else 56) : Int).toNat) 10 3) then ((zcopy M 11 28 (0 : Int).toNat (0 : Int).toNat ((if 56 < 56 then 56 else 56) : Int).toNat) 27 0) else ((zcopy M 11 28 (0 : Int).toNat (0 : Int).toNat ((if 56 < 56 then 56 else 56) : Int).toNat) 10 3))
set_option maxRecDepth 100000 in
theorem fh_110_27_10 {n : Nat} {M : zM} : zH n (0, 0) 110 (0, zini [zR 27, zR 10] 2, []) M (fun r M' => r = none ∧ M' = hf_110_27_10 M) := by
  have hz := zp_110
  have hE : hf_110_27_10 M = hf_110_27_10 M := rfl
  show zH n (0, 0) 110 (0, [zR 27, zR 10], []) M _
  refine zH_w (c' := (23, [zR 27, zR 10], [.inl (if 56 < 56 then 56 else 56), .inl 0, zR 28, .inl 0, zR 11])) 13 hz rfl ?_
  refine zH_copy hz rfl rfl rfl (fun _ => ?_)
  show zH n (0, 0) 110 (26, [zR 27, zR 10], []) (zcopy M 11 28 (0 : Int).toNat (0 : Int).toNat ((if 56 < 56 then 56 else 56) : Int).toNat) _
  refine zH_w (c' := (41, [zR 27, zR 10], [])) 7 hz rfl ?_
  exact zH_wr (r := none) 0 hz (by rfl) ⟨rfl, hE.symm⟩
noncomputable def hf_110_29_12 (M : zM) : zM :=
  zput (zcopy M 13 30 (0 : Int).toNat (0 : Int).toNat ((if 60 < 60 then 60 else 60) : Int).toNat) 29 3 (if ((zcopy M 13 30 (0 : Int).toNat (0 : Int).toNat ((if 60 < 60 then 60 else 60) : Int).toNat) 29 0) < ((zcopy M 13 30 (0 : Int).toNat (0 : Int).toNat ((if 60 < 60 then 60 else 60) : Int).toNat) 12 3) then ((zcopy M 13 30 (0 : Int).toNat (0 : Int).toNat ((if 60 < 60 then 60 else 60) : Int).toNat) 29 0) else ((zcopy M 13 30 (0 : Int).toNat (0 : Int).toNat ((if 60 < 60 then 60 else 60) : Int).toNat) 12 3))
set_option maxRecDepth 100000 in
theorem fh_110_29_12 {n : Nat} {M : zM} : zH n (0, 0) 110 (0, zini [zR 29, zR 12] 2, []) M (fun r M' => r = none ∧ M' = hf_110_29_12 M) := by
  have hz := zp_110
  have hE : hf_110_29_12 M = hf_110_29_12 M := rfl
  show zH n (0, 0) 110 (0, [zR 29, zR 12], []) M _
  refine zH_w (c' := (23, [zR 29, zR 12], [.inl (if 60 < 60 then 60 else 60), .inl 0, zR 30, .inl 0, zR 13])) 13 hz rfl ?_
  refine zH_copy hz rfl rfl rfl (fun _ => ?_)
  show zH n (0, 0) 110 (26, [zR 29, zR 12], []) (zcopy M 13 30 (0 : Int).toNat (0 : Int).toNat ((if 60 < 60 then 60 else 60) : Int).toNat) _
  refine zH_w (c' := (41, [zR 29, zR 12], [])) 7 hz rfl ?_
  exact zH_wr (r := none) 0 hz (by rfl) ⟨rfl, hE.symm⟩
noncomputable def hf_110_31_14 (M : zM) : zM :=
  zput (zcopy M 15 32 (0 : Int).toNat (0 : Int).toNat ((if 8 < 8 then 8 else 8) : Int).toNat) 31 3 (if ((zcopy M 15 32 (0 : Int).toNat (0 : Int).toNat ((if 8 < 8 then 8 else 8) : Int).toNat) 31 0) < ((zcopy M 15 32 (0 : Int).toNat (0 : Int).toNat ((if 8 < 8 then 8 else 8) : Int).toNat) 14 3) then ((zcopy M 15 32 (0 : Int).toNat (0 : Int).toNat ((if 8 < 8 then 8 else 8) : Int).toNat) 31 0) else ((zcopy M 15 32 (0 : Int).toNat (0 : Int).toNat ((if 8 < 8 then 8 else 8) : Int).toNat) 14 3))
set_option maxRecDepth 100000 in
theorem fh_110_31_14 {n : Nat} {M : zM} : zH n (0, 0) 110 (0, zini [zR 31, zR 14] 2, []) M (fun r M' => r = none ∧ M' = hf_110_31_14 M) := by
  have hz := zp_110
  have hE : hf_110_31_14 M = hf_110_31_14 M := rfl
  show zH n (0, 0) 110 (0, [zR 31, zR 14], []) M _
  refine zH_w (c' := (23, [zR 31, zR 14], [.inl (if 8 < 8 then 8 else 8), .inl 0, zR 32, .inl 0, zR 15])) 13 hz rfl ?_
  refine zH_copy hz rfl rfl rfl (fun _ => ?_)
  show zH n (0, 0) 110 (26, [zR 31, zR 14], []) (zcopy M 15 32 (0 : Int).toNat (0 : Int).toNat ((if 8 < 8 then 8 else 8) : Int).toNat) _
  refine zH_w (c' := (41, [zR 31, zR 14], [])) 7 hz rfl ?_
  exact zH_wr (r := none) 0 hz (by rfl) ⟨rfl, hE.symm⟩
noncomputable def hf_110_33_16 (M : zM) : zM :=
  zput (zcopy M 17 34 (0 : Int).toNat (0 : Int).toNat ((if 200 < 200 then 200 else 200) : Int).toNat) 33 3 (if ((zcopy M 17 34 (0 : Int).toNat (0 : Int).toNat ((if 200 < 200 then 200 else 200) : Int).toNat) 33 0) < ((zcopy M 17 34 (0 : Int).toNat (0 : Int).toNat ((if 200 < 200 then 200 else 200) : Int).toNat) 16 3) then ((zcopy M 17 34 (0 : Int).toNat (0 : Int).toNat ((if 200 < 200 then 200 else 200) : Int).toNat) 33 0) else ((zcopy M 17 34 (0 : Int).toNat (0 : Int).toNat ((if 200 < 200 then 200 else 200) : Int).toNat) 16 3))
set_option maxRecDepth 100000 in
theorem fh_110_33_16 {n : Nat} {M : zM} : zH n (0, 0) 110 (0, zini [zR 33, zR 16] 2, []) M (fun r M' => r = none ∧ M' = hf_110_33_16 M) := by
  have hz := zp_110
  have hE : hf_110_33_16 M = hf_110_33_16 M := rfl
  show zH n (0, 0) 110 (0, [zR 33, zR 16], []) M _
  refine zH_w (c' := (23, [zR 33, zR 16], [.inl (if 200 < 200 then 200 else 200), .inl 0, zR 34, .inl 0, zR 17])) 13 hz rfl ?_
  refine zH_copy hz rfl rfl rfl (fun _ => ?_)
  show zH n (0, 0) 110 (26, [zR 33, zR 16], []) (zcopy M 17 34 (0 : Int).toNat (0 : Int).toNat ((if 200 < 200 then 200 else 200) : Int).toNat) _
  refine zH_w (c' := (41, [zR 33, zR 16], [])) 7 hz rfl ?_
  exact zH_wr (r := none) 0 hz (by rfl) ⟨rfl, hE.symm⟩
noncomputable def hf_110_35_18 (M : zM) : zM :=
  zput (zcopy M 19 36 (0 : Int).toNat (0 : Int).toNat ((if 2750 < 2750 then 2750 else 2750) : Int).toNat) 35 3 (if ((zcopy M 19 36 (0 : Int).toNat (0 : Int).toNat ((if 2750 < 2750 then 2750 else 2750) : Int).toNat) 35 0) < ((zcopy M 19 36 (0 : Int).toNat (0 : Int).toNat ((if 2750 < 2750 then 2750 else 2750) : Int).toNat) 18 3) then ((zcopy M 19 36 (0 : Int).toNat (0 : Int).toNat ((if 2750 < 2750 then 2750 else 2750) : Int).toNat) 35 0) else ((zcopy M 19 36 (0 : Int).toNat (0 : Int).toNat ((if 2750 < 2750 then 2750 else 2750) : Int).toNat) 18 3))
set_option maxRecDepth 100000 in
theorem fh_110_35_18 {n : Nat} {M : zM} : zH n (0, 0) 110 (0, zini [zR 35, zR 18] 2, []) M (fun r M' => r = none ∧ M' = hf_110_35_18 M) := by
  have hz := zp_110
  have hE : hf_110_35_18 M = hf_110_35_18 M := rfl
  show zH n (0, 0) 110 (0, [zR 35, zR 18], []) M _
  refine zH_w (c' := (23, [zR 35, zR 18], [.inl (if 2750 < 2750 then 2750 else 2750), .inl 0, zR 36, .inl 0, zR 19])) 13 hz rfl ?_
  refine zH_copy hz rfl rfl rfl (fun _ => ?_)
  show zH n (0, 0) 110 (26, [zR 35, zR 18], []) (zcopy M 19 36 (0 : Int).toNat (0 : Int).toNat ((if 2750 < 2750 then 2750 else 2750) : Int).toNat) _
  refine zH_w (c' := (41, [zR 35, zR 18], [])) 7 hz rfl ?_
  exact zH_wr (r := none) 0 hz (by rfl) ⟨rfl, hE.symm⟩
noncomputable def hf_110_37_20 (M : zM) : zM :=
  zput (zcopy M 21 38 (0 : Int).toNat (0 : Int).toNat ((if 648 < 648 then 648 else 648) : Int).toNat) 37 3 (if ((zcopy M 21 38 (0 : Int).toNat (0 : Int).toNat ((if 648 < 648 then 648 else 648) : Int).toNat) 37 0) < ((zcopy M 21 38 (0 : Int).toNat (0 : Int).toNat ((if 648 < 648 then 648 else 648) : Int).toNat) 20 3) then ((zcopy M 21 38 (0 : Int).toNat (0 : Int).toNat ((if 648 < 648 then 648 else 648) : Int).toNat) 37 0) else ((zcopy M 21 38 (0 : Int).toNat (0 : Int).toNat ((if 648 < 648 then 648 else 648) : Int).toNat) 20 3))
set_option maxRecDepth 100000 in
theorem fh_110_37_20 {n : Nat} {M : zM} : zH n (0, 0) 110 (0, zini [zR 37, zR 20] 2, []) M (fun r M' => r = none ∧ M' = hf_110_37_20 M) := by
  have hz := zp_110
  have hE : hf_110_37_20 M = hf_110_37_20 M := rfl
  show zH n (0, 0) 110 (0, [zR 37, zR 20], []) M _
  refine zH_w (c' := (23, [zR 37, zR 20], [.inl (if 648 < 648 then 648 else 648), .inl 0, zR 38, .inl 0, zR 21])) 13 hz rfl ?_
  refine zH_copy hz rfl rfl rfl (fun _ => ?_)
  show zH n (0, 0) 110 (26, [zR 37, zR 20], []) (zcopy M 21 38 (0 : Int).toNat (0 : Int).toNat ((if 648 < 648 then 648 else 648) : Int).toNat) _
  refine zH_w (c' := (41, [zR 37, zR 20], [])) 7 hz rfl ?_
  exact zH_wr (r := none) 0 hz (by rfl) ⟨rfl, hE.symm⟩
noncomputable def hf_110_39_22 (M : zM) : zM :=
  zput (zcopy M 23 40 (0 : Int).toNat (0 : Int).toNat ((if 1640 < 1640 then 1640 else 1640) : Int).toNat) 39 3 (if ((zcopy M 23 40 (0 : Int).toNat (0 : Int).toNat ((if 1640 < 1640 then 1640 else 1640) : Int).toNat) 39 0) < ((zcopy M 23 40 (0 : Int).toNat (0 : Int).toNat ((if 1640 < 1640 then 1640 else 1640) : Int).toNat) 22 3) then ((zcopy M 23 40 (0 : Int).toNat (0 : Int).toNat ((if 1640 < 1640 then 1640 else 1640) : Int).toNat) 39 0) else ((zcopy M 23 40 (0 : Int).toNat (0 : Int).toNat ((if 1640 < 1640 then 1640 else 1640) : Int).toNat) 22 3))
set_option maxRecDepth 100000 in
theorem fh_110_39_22 {n : Nat} {M : zM} : zH n (0, 0) 110 (0, zini [zR 39, zR 22] 2, []) M (fun r M' => r = none ∧ M' = hf_110_39_22 M) := by
  have hz := zp_110
  have hE : hf_110_39_22 M = hf_110_39_22 M := rfl
  show zH n (0, 0) 110 (0, [zR 39, zR 22], []) M _
  refine zH_w (c' := (23, [zR 39, zR 22], [.inl (if 1640 < 1640 then 1640 else 1640), .inl 0, zR 40, .inl 0, zR 23])) 13 hz rfl ?_
  refine zH_copy hz rfl rfl rfl (fun _ => ?_)
  show zH n (0, 0) 110 (26, [zR 39, zR 22], []) (zcopy M 23 40 (0 : Int).toNat (0 : Int).toNat ((if 1640 < 1640 then 1640 else 1640) : Int).toNat) _
  refine zH_w (c' := (41, [zR 39, zR 22], [])) 7 hz rfl ?_
  exact zH_wr (r := none) 0 hz (by rfl) ⟨rfl, hE.symm⟩
noncomputable def hf_110_41_24 (M : zM) : zM :=
  zput (zcopy M 25 42 (0 : Int).toNat (0 : Int).toNat ((if 24 < 24 then 24 else 24) : Int).toNat) 41 3 (if ((zcopy M 25 42 (0 : Int).toNat (0 : Int).toNat ((if 24 < 24 then 24 else 24) : Int).toNat) 41 0) < ((zcopy M 25 42 (0 : Int).toNat (0 : Int).toNat ((if 24 < 24 then 24 else 24) : Int).toNat) 24 3) then ((zcopy M 25 42 (0 : Int).toNat (0 : Int).toNat ((if 24 < 24 then 24 else 24) : Int).toNat) 41 0) else ((zcopy M 25 42 (0 : Int).toNat (0 : Int).toNat ((if 24 < 24 then 24 else 24) : Int).toNat) 24 3))
set_option maxRecDepth 100000 in
theorem fh_110_41_24 {n : Nat} {M : zM} : zH n (0, 0) 110 (0, zini [zR 41, zR 24] 2, []) M (fun r M' => r = none ∧ M' = hf_110_41_24 M) := by
  have hz := zp_110
  have hE : hf_110_41_24 M = hf_110_41_24 M := rfl
  show zH n (0, 0) 110 (0, [zR 41, zR 24], []) M _
  refine zH_w (c' := (23, [zR 41, zR 24], [.inl (if 24 < 24 then 24 else 24), .inl 0, zR 42, .inl 0, zR 25])) 13 hz rfl ?_
  refine zH_copy hz rfl rfl rfl (fun _ => ?_)
  show zH n (0, 0) 110 (26, [zR 41, zR 24], []) (zcopy M 25 42 (0 : Int).toNat (0 : Int).toNat ((if 24 < 24 then 24 else 24) : Int).toNat) _
  refine zH_w (c' := (41, [zR 41, zR 24], [])) 7 hz rfl ?_
  exact zH_wr (r := none) 0 hz (by rfl) ⟨rfl, hE.symm⟩
noncomputable def hf_26_26_9 (M : zM) : zM :=
  zput (zput (hf_110_41_24 (hf_110_39_22 (hf_110_37_20 (hf_110_35_18 (hf_110_33_16 (hf_110_31_14 (hf_110_29_12 (hf_110_27_10 M)))))))) 26 8 ((hf_110_41_24 (hf_110_39_22 (hf_110_37_20 (hf_110_35_18 (hf_110_33_16 (hf_110_31_14 (hf_110_29_12 (hf_110_27_10 M)))))))) 9 8)) 26 9 ((zput (hf_110_41_24 (hf_110_39_22 (hf_110_37_20 (hf_110_35_18 (hf_110_33_16 (hf_110_31_14 (hf_110_29_12 (hf_110_27_10 M)))))))) 26 8 ((hf_110_41_24 (hf_110_39_22 (hf_110_37_20 (hf_110_35_18 (hf_110_33_16 (hf_110_31_14 (hf_110_29_12 (hf_110_27_10 M)))))))) 9 8)) 9 9)
set_option maxRecDepth 100000 in
theorem fh_26_26_9 {n : Nat} {M : zM} : zH n (0, 0) 26 (0, zini [zR 26, zR 9] 2, []) M (fun r M' => r = none ∧ M' = hf_26_26_9 M) := by
  have hz := zp_26
  have hE : hf_26_26_9 M = hf_26_26_9 M := rfl
  show zH n (0, 0) 26 (0, [zR 26, zR 9], []) M _
  refine zH_wW (c1 := (11, [zR 26, zR 9], [])) 4 hz zp_110 (fh_110_27_10) (by rfl) ?_
  intro N1 hN1
  show zH n (0, 0) 26 (11, [zR 26, zR 9], []) N1 _
  refine zH_wW (c1 := (22, [zR 26, zR 9], [])) 4 hz zp_110 (fh_110_29_12) (by rfl) ?_
  intro N2 hN2
  show zH n (0, 0) 26 (22, [zR 26, zR 9], []) N2 _
  refine zH_wW (c1 := (33, [zR 26, zR 9], [])) 4 hz zp_110 (fh_110_31_14) (by rfl) ?_
  intro N3 hN3
  show zH n (0, 0) 26 (33, [zR 26, zR 9], []) N3 _
  refine zH_wW (c1 := (44, [zR 26, zR 9], [])) 4 hz zp_110 (fh_110_33_16) (by rfl) ?_
  intro N4 hN4
  show zH n (0, 0) 26 (44, [zR 26, zR 9], []) N4 _
  refine zH_wW (c1 := (55, [zR 26, zR 9], [])) 4 hz zp_110 (fh_110_35_18) (by rfl) ?_
  intro N5 hN5
  show zH n (0, 0) 26 (55, [zR 26, zR 9], []) N5 _
  refine zH_wW (c1 := (66, [zR 26, zR 9], [])) 4 hz zp_110 (fh_110_37_20) (by rfl) ?_
  intro N6 hN6
  show zH n (0, 0) 26 (66, [zR 26, zR 9], []) N6 _
  refine zH_wW (c1 := (77, [zR 26, zR 9], [])) 4 hz zp_110 (fh_110_39_22) (by rfl) ?_
  intro N7 hN7
  show zH n (0, 0) 26 (77, [zR 26, zR 9], []) N7 _
  refine zH_wW (c1 := (88, [zR 26, zR 9], [])) 4 hz zp_110 (fh_110_41_24) (by rfl) ?_
  intro N8 hN8
  show zH n (0, 0) 26 (88, [zR 26, zR 9], []) N8 _
  refine zH_w (c' := (104, [zR 26, zR 9], [])) 8 hz rfl ?_
  subst hN8
  subst hN7
  subst hN6
  subst hN5
  subst hN4
  subst hN3
  subst hN2
  subst hN1
  exact zH_ret hz rfl rfl ⟨rfl, hE.symm⟩
noncomputable def hf_165_8_L0 (M : zM) : Int × zM :=
  (if ¬ (hf_169 M 0 0 1) = 0 then (1, zput (hf_26_26_9 M) 8 3 (zbor ((hf_26_26_9 M) 8 3) (zbshl 1 0))) else ((-2), M))
set_option maxRecDepth 100000 in
theorem fh_165_8_L0 {n : Nat} {M : zM} : zH n (0, 0) 165 (0, zini [zR 8, .inl 0] 2, []) M (fun r M' => r = some (.inl (hf_165_8_L0 M).1) ∧ M' = (hf_165_8_L0 M).2) := by
  have hz := zp_165
  have hE : hf_165_8_L0 M = hf_165_8_L0 M := rfl
  show zH n (0, 0) 165 (0, [zR 8, .inl 0], []) M _
  refine zH_wE (c1 := (6, [zR 8, .inl 0], [])) 3 hz zp_169 (fh_169 0 0 1) (by rfl) ?_
  show zH n (0, 0) 165 (6, [zR 8, .inl 0], [.inl (hf_169 M 0 0 1)]) M _
  refine zH_wf_ne (pc := 6) (n' := 9) (t := 12) (L := [zR 8, .inl 0]) (st := []) (x := (hf_169 M 0 0 1)) 0 hz (by rfl) (fun hb => ?_) (fun hb => ?_)
  · have hE := hE.trans (if_pos hb)
    refine zH_wE (c1 := (17, [zR 8, .inl 0], [])) 2 hz zp_176 (fh_176_8_L0) (by rfl) ?_
    show zH n (0, 0) 165 (17, [zR 8, .inl 0], [zR 26]) M _
    refine zH_wW (c1 := (24, [zR 8, .inl 0], [])) 2 hz zp_26 (fh_26_26_9) (by rfl) ?_
    intro N1 hN1
    show zH n (0, 0) 165 (24, [zR 8, .inl 0], []) N1 _
    refine zH_w (c' := (37, [zR 8, .inl 0], [.inl 1])) 9 hz rfl ?_
    subst hN1
    exact zH_ret hz rfl rfl (hfinB hE)
  · have hE := hE.trans (if_neg hb)
    exact zH_wr (r := some (.inl (-2))) 1 hz (by rfl) (hfinB hE)
set_option maxRecDepth 100000 in
theorem fh_176_8_L1 {n : Nat} {M : zM} : zH n (0, 0) 176 (0, zini [zR 8, .inl 1] 2, []) M (fun r M' => r = some (zR 43) ∧ M' = M) := by
  have hz := zp_176
  show zH n (0, 0) 176 (0, [zR 8, .inl 1], []) M _
  refine zH_w (c' := (15, [zR 8, .inl 1], [zR 43])) 4 hz rfl ?_
  exact zH_wr (r := some (zR 43)) 0 hz (by rfl) ⟨rfl, rfl⟩
noncomputable def hf_110_44_10 (M : zM) : zM :=
  zput (zcopy M 11 45 (0 : Int).toNat (0 : Int).toNat ((if 56 < 56 then 56 else 56) : Int).toNat) 44 3 (if ((zcopy M 11 45 (0 : Int).toNat (0 : Int).toNat ((if 56 < 56 then 56 else 56) : Int).toNat) 44 0) < ((zcopy M 11 45 (0 : Int).toNat (0 : Int).toNat ((if 56 < 56 then 56 else 56) : Int).toNat) 10 3) then ((zcopy M 11 45 (0 : Int).toNat (0 : Int).toNat ((if 56 < 56 then 56 else 56) : Int).toNat) 44 0) else ((zcopy M 11 45 (0 : Int).toNat (0 : Int).toNat ((if 56 < 56 then 56 else 56) : Int).toNat) 10 3))
set_option maxRecDepth 100000 in
theorem fh_110_44_10 {n : Nat} {M : zM} : zH n (0, 0) 110 (0, zini [zR 44, zR 10] 2, []) M (fun r M' => r = none ∧ M' = hf_110_44_10 M) := by
  have hz := zp_110
  have hE : hf_110_44_10 M = hf_110_44_10 M := rfl
  show zH n (0, 0) 110 (0, [zR 44, zR 10], []) M _
  refine zH_w (c' := (23, [zR 44, zR 10], [.inl (if 56 < 56 then 56 else 56), .inl 0, zR 45, .inl 0, zR 11])) 13 hz rfl ?_
  refine zH_copy hz rfl rfl rfl (fun _ => ?_)
  show zH n (0, 0) 110 (26, [zR 44, zR 10], []) (zcopy M 11 45 (0 : Int).toNat (0 : Int).toNat ((if 56 < 56 then 56 else 56) : Int).toNat) _
  refine zH_w (c' := (41, [zR 44, zR 10], [])) 7 hz rfl ?_
  exact zH_wr (r := none) 0 hz (by rfl) ⟨rfl, hE.symm⟩
noncomputable def hf_110_46_12 (M : zM) : zM :=
  zput (zcopy M 13 47 (0 : Int).toNat (0 : Int).toNat ((if 60 < 60 then 60 else 60) : Int).toNat) 46 3 (if ((zcopy M 13 47 (0 : Int).toNat (0 : Int).toNat ((if 60 < 60 then 60 else 60) : Int).toNat) 46 0) < ((zcopy M 13 47 (0 : Int).toNat (0 : Int).toNat ((if 60 < 60 then 60 else 60) : Int).toNat) 12 3) then ((zcopy M 13 47 (0 : Int).toNat (0 : Int).toNat ((if 60 < 60 then 60 else 60) : Int).toNat) 46 0) else ((zcopy M 13 47 (0 : Int).toNat (0 : Int).toNat ((if 60 < 60 then 60 else 60) : Int).toNat) 12 3))
set_option maxRecDepth 100000 in
theorem fh_110_46_12 {n : Nat} {M : zM} : zH n (0, 0) 110 (0, zini [zR 46, zR 12] 2, []) M (fun r M' => r = none ∧ M' = hf_110_46_12 M) := by
  have hz := zp_110
  have hE : hf_110_46_12 M = hf_110_46_12 M := rfl
  show zH n (0, 0) 110 (0, [zR 46, zR 12], []) M _
  refine zH_w (c' := (23, [zR 46, zR 12], [.inl (if 60 < 60 then 60 else 60), .inl 0, zR 47, .inl 0, zR 13])) 13 hz rfl ?_
  refine zH_copy hz rfl rfl rfl (fun _ => ?_)
  show zH n (0, 0) 110 (26, [zR 46, zR 12], []) (zcopy M 13 47 (0 : Int).toNat (0 : Int).toNat ((if 60 < 60 then 60 else 60) : Int).toNat) _
  refine zH_w (c' := (41, [zR 46, zR 12], [])) 7 hz rfl ?_
  exact zH_wr (r := none) 0 hz (by rfl) ⟨rfl, hE.symm⟩
noncomputable def hf_110_48_14 (M : zM) : zM :=
  zput (zcopy M 15 49 (0 : Int).toNat (0 : Int).toNat ((if 8 < 8 then 8 else 8) : Int).toNat) 48 3 (if ((zcopy M 15 49 (0 : Int).toNat (0 : Int).toNat ((if 8 < 8 then 8 else 8) : Int).toNat) 48 0) < ((zcopy M 15 49 (0 : Int).toNat (0 : Int).toNat ((if 8 < 8 then 8 else 8) : Int).toNat) 14 3) then ((zcopy M 15 49 (0 : Int).toNat (0 : Int).toNat ((if 8 < 8 then 8 else 8) : Int).toNat) 48 0) else ((zcopy M 15 49 (0 : Int).toNat (0 : Int).toNat ((if 8 < 8 then 8 else 8) : Int).toNat) 14 3))
set_option maxRecDepth 100000 in
theorem fh_110_48_14 {n : Nat} {M : zM} : zH n (0, 0) 110 (0, zini [zR 48, zR 14] 2, []) M (fun r M' => r = none ∧ M' = hf_110_48_14 M) := by
  have hz := zp_110
  have hE : hf_110_48_14 M = hf_110_48_14 M := rfl
  show zH n (0, 0) 110 (0, [zR 48, zR 14], []) M _
  refine zH_w (c' := (23, [zR 48, zR 14], [.inl (if 8 < 8 then 8 else 8), .inl 0, zR 49, .inl 0, zR 15])) 13 hz rfl ?_
  refine zH_copy hz rfl rfl rfl (fun _ => ?_)
  show zH n (0, 0) 110 (26, [zR 48, zR 14], []) (zcopy M 15 49 (0 : Int).toNat (0 : Int).toNat ((if 8 < 8 then 8 else 8) : Int).toNat) _
  refine zH_w (c' := (41, [zR 48, zR 14], [])) 7 hz rfl ?_
  exact zH_wr (r := none) 0 hz (by rfl) ⟨rfl, hE.symm⟩
noncomputable def hf_110_50_16 (M : zM) : zM :=
  zput (zcopy M 17 51 (0 : Int).toNat (0 : Int).toNat ((if 200 < 200 then 200 else 200) : Int).toNat) 50 3 (if ((zcopy M 17 51 (0 : Int).toNat (0 : Int).toNat ((if 200 < 200 then 200 else 200) : Int).toNat) 50 0) < ((zcopy M 17 51 (0 : Int).toNat (0 : Int).toNat ((if 200 < 200 then 200 else 200) : Int).toNat) 16 3) then ((zcopy M 17 51 (0 : Int).toNat (0 : Int).toNat ((if 200 < 200 then 200 else 200) : Int).toNat) 50 0) else ((zcopy M 17 51 (0 : Int).toNat (0 : Int).toNat ((if 200 < 200 then 200 else 200) : Int).toNat) 16 3))
set_option maxRecDepth 100000 in
theorem fh_110_50_16 {n : Nat} {M : zM} : zH n (0, 0) 110 (0, zini [zR 50, zR 16] 2, []) M (fun r M' => r = none ∧ M' = hf_110_50_16 M) := by
  have hz := zp_110
  have hE : hf_110_50_16 M = hf_110_50_16 M := rfl
  show zH n (0, 0) 110 (0, [zR 50, zR 16], []) M _
  refine zH_w (c' := (23, [zR 50, zR 16], [.inl (if 200 < 200 then 200 else 200), .inl 0, zR 51, .inl 0, zR 17])) 13 hz rfl ?_
  refine zH_copy hz rfl rfl rfl (fun _ => ?_)
  show zH n (0, 0) 110 (26, [zR 50, zR 16], []) (zcopy M 17 51 (0 : Int).toNat (0 : Int).toNat ((if 200 < 200 then 200 else 200) : Int).toNat) _
  refine zH_w (c' := (41, [zR 50, zR 16], [])) 7 hz rfl ?_
  exact zH_wr (r := none) 0 hz (by rfl) ⟨rfl, hE.symm⟩
noncomputable def hf_110_52_18 (M : zM) : zM :=
  zput (zcopy M 19 53 (0 : Int).toNat (0 : Int).toNat ((if 2750 < 2750 then 2750 else 2750) : Int).toNat) 52 3 (if ((zcopy M 19 53 (0 : Int).toNat (0 : Int).toNat ((if 2750 < 2750 then 2750 else 2750) : Int).toNat) 52 0) < ((zcopy M 19 53 (0 : Int).toNat (0 : Int).toNat ((if 2750 < 2750 then 2750 else 2750) : Int).toNat) 18 3) then ((zcopy M 19 53 (0 : Int).toNat (0 : Int).toNat ((if 2750 < 2750 then 2750 else 2750) : Int).toNat) 52 0) else ((zcopy M 19 53 (0 : Int).toNat (0 : Int).toNat ((if 2750 < 2750 then 2750 else 2750) : Int).toNat) 18 3))
set_option maxRecDepth 100000 in
theorem fh_110_52_18 {n : Nat} {M : zM} : zH n (0, 0) 110 (0, zini [zR 52, zR 18] 2, []) M (fun r M' => r = none ∧ M' = hf_110_52_18 M) := by
  have hz := zp_110
  have hE : hf_110_52_18 M = hf_110_52_18 M := rfl
  show zH n (0, 0) 110 (0, [zR 52, zR 18], []) M _
  refine zH_w (c' := (23, [zR 52, zR 18], [.inl (if 2750 < 2750 then 2750 else 2750), .inl 0, zR 53, .inl 0, zR 19])) 13 hz rfl ?_
  refine zH_copy hz rfl rfl rfl (fun _ => ?_)
  show zH n (0, 0) 110 (26, [zR 52, zR 18], []) (zcopy M 19 53 (0 : Int).toNat (0 : Int).toNat ((if 2750 < 2750 then 2750 else 2750) : Int).toNat) _
  refine zH_w (c' := (41, [zR 52, zR 18], [])) 7 hz rfl ?_
  exact zH_wr (r := none) 0 hz (by rfl) ⟨rfl, hE.symm⟩
noncomputable def hf_110_54_20 (M : zM) : zM :=
  zput (zcopy M 21 55 (0 : Int).toNat (0 : Int).toNat ((if 648 < 648 then 648 else 648) : Int).toNat) 54 3 (if ((zcopy M 21 55 (0 : Int).toNat (0 : Int).toNat ((if 648 < 648 then 648 else 648) : Int).toNat) 54 0) < ((zcopy M 21 55 (0 : Int).toNat (0 : Int).toNat ((if 648 < 648 then 648 else 648) : Int).toNat) 20 3) then ((zcopy M 21 55 (0 : Int).toNat (0 : Int).toNat ((if 648 < 648 then 648 else 648) : Int).toNat) 54 0) else ((zcopy M 21 55 (0 : Int).toNat (0 : Int).toNat ((if 648 < 648 then 648 else 648) : Int).toNat) 20 3))
set_option maxRecDepth 100000 in
theorem fh_110_54_20 {n : Nat} {M : zM} : zH n (0, 0) 110 (0, zini [zR 54, zR 20] 2, []) M (fun r M' => r = none ∧ M' = hf_110_54_20 M) := by
  have hz := zp_110
  have hE : hf_110_54_20 M = hf_110_54_20 M := rfl
  show zH n (0, 0) 110 (0, [zR 54, zR 20], []) M _
  refine zH_w (c' := (23, [zR 54, zR 20], [.inl (if 648 < 648 then 648 else 648), .inl 0, zR 55, .inl 0, zR 21])) 13 hz rfl ?_
  refine zH_copy hz rfl rfl rfl (fun _ => ?_)
  show zH n (0, 0) 110 (26, [zR 54, zR 20], []) (zcopy M 21 55 (0 : Int).toNat (0 : Int).toNat ((if 648 < 648 then 648 else 648) : Int).toNat) _
  refine zH_w (c' := (41, [zR 54, zR 20], [])) 7 hz rfl ?_
  exact zH_wr (r := none) 0 hz (by rfl) ⟨rfl, hE.symm⟩
noncomputable def hf_110_56_22 (M : zM) : zM :=
  zput (zcopy M 23 57 (0 : Int).toNat (0 : Int).toNat ((if 1640 < 1640 then 1640 else 1640) : Int).toNat) 56 3 (if ((zcopy M 23 57 (0 : Int).toNat (0 : Int).toNat ((if 1640 < 1640 then 1640 else 1640) : Int).toNat) 56 0) < ((zcopy M 23 57 (0 : Int).toNat (0 : Int).toNat ((if 1640 < 1640 then 1640 else 1640) : Int).toNat) 22 3) then ((zcopy M 23 57 (0 : Int).toNat (0 : Int).toNat ((if 1640 < 1640 then 1640 else 1640) : Int).toNat) 56 0) else ((zcopy M 23 57 (0 : Int).toNat (0 : Int).toNat ((if 1640 < 1640 then 1640 else 1640) : Int).toNat) 22 3))
set_option maxRecDepth 100000 in
theorem fh_110_56_22 {n : Nat} {M : zM} : zH n (0, 0) 110 (0, zini [zR 56, zR 22] 2, []) M (fun r M' => r = none ∧ M' = hf_110_56_22 M) := by
  have hz := zp_110
  have hE : hf_110_56_22 M = hf_110_56_22 M := rfl
  show zH n (0, 0) 110 (0, [zR 56, zR 22], []) M _
  refine zH_w (c' := (23, [zR 56, zR 22], [.inl (if 1640 < 1640 then 1640 else 1640), .inl 0, zR 57, .inl 0, zR 23])) 13 hz rfl ?_
  refine zH_copy hz rfl rfl rfl (fun _ => ?_)
  show zH n (0, 0) 110 (26, [zR 56, zR 22], []) (zcopy M 23 57 (0 : Int).toNat (0 : Int).toNat ((if 1640 < 1640 then 1640 else 1640) : Int).toNat) _
  refine zH_w (c' := (41, [zR 56, zR 22], [])) 7 hz rfl ?_
  exact zH_wr (r := none) 0 hz (by rfl) ⟨rfl, hE.symm⟩
noncomputable def hf_110_58_24 (M : zM) : zM :=
  zput (zcopy M 25 59 (0 : Int).toNat (0 : Int).toNat ((if 24 < 24 then 24 else 24) : Int).toNat) 58 3 (if ((zcopy M 25 59 (0 : Int).toNat (0 : Int).toNat ((if 24 < 24 then 24 else 24) : Int).toNat) 58 0) < ((zcopy M 25 59 (0 : Int).toNat (0 : Int).toNat ((if 24 < 24 then 24 else 24) : Int).toNat) 24 3) then ((zcopy M 25 59 (0 : Int).toNat (0 : Int).toNat ((if 24 < 24 then 24 else 24) : Int).toNat) 58 0) else ((zcopy M 25 59 (0 : Int).toNat (0 : Int).toNat ((if 24 < 24 then 24 else 24) : Int).toNat) 24 3))
set_option maxRecDepth 100000 in
theorem fh_110_58_24 {n : Nat} {M : zM} : zH n (0, 0) 110 (0, zini [zR 58, zR 24] 2, []) M (fun r M' => r = none ∧ M' = hf_110_58_24 M) := by
  have hz := zp_110
  have hE : hf_110_58_24 M = hf_110_58_24 M := rfl
  show zH n (0, 0) 110 (0, [zR 58, zR 24], []) M _
  refine zH_w (c' := (23, [zR 58, zR 24], [.inl (if 24 < 24 then 24 else 24), .inl 0, zR 59, .inl 0, zR 25])) 13 hz rfl ?_
  refine zH_copy hz rfl rfl rfl (fun _ => ?_)
  show zH n (0, 0) 110 (26, [zR 58, zR 24], []) (zcopy M 25 59 (0 : Int).toNat (0 : Int).toNat ((if 24 < 24 then 24 else 24) : Int).toNat) _
  refine zH_w (c' := (41, [zR 58, zR 24], [])) 7 hz rfl ?_
  exact zH_wr (r := none) 0 hz (by rfl) ⟨rfl, hE.symm⟩
noncomputable def hf_26_43_9 (M : zM) : zM :=
  zput (zput (hf_110_58_24 (hf_110_56_22 (hf_110_54_20 (hf_110_52_18 (hf_110_50_16 (hf_110_48_14 (hf_110_46_12 (hf_110_44_10 M)))))))) 43 8 ((hf_110_58_24 (hf_110_56_22 (hf_110_54_20 (hf_110_52_18 (hf_110_50_16 (hf_110_48_14 (hf_110_46_12 (hf_110_44_10 M)))))))) 9 8)) 43 9 ((zput (hf_110_58_24 (hf_110_56_22 (hf_110_54_20 (hf_110_52_18 (hf_110_50_16 (hf_110_48_14 (hf_110_46_12 (hf_110_44_10 M)))))))) 43 8 ((hf_110_58_24 (hf_110_56_22 (hf_110_54_20 (hf_110_52_18 (hf_110_50_16 (hf_110_48_14 (hf_110_46_12 (hf_110_44_10 M)))))))) 9 8)) 9 9)
set_option maxRecDepth 100000 in
theorem fh_26_43_9 {n : Nat} {M : zM} : zH n (0, 0) 26 (0, zini [zR 43, zR 9] 2, []) M (fun r M' => r = none ∧ M' = hf_26_43_9 M) := by
  have hz := zp_26
  have hE : hf_26_43_9 M = hf_26_43_9 M := rfl
  show zH n (0, 0) 26 (0, [zR 43, zR 9], []) M _
  refine zH_wW (c1 := (11, [zR 43, zR 9], [])) 4 hz zp_110 (fh_110_44_10) (by rfl) ?_
  intro N1 hN1
  show zH n (0, 0) 26 (11, [zR 43, zR 9], []) N1 _
  refine zH_wW (c1 := (22, [zR 43, zR 9], [])) 4 hz zp_110 (fh_110_46_12) (by rfl) ?_
  intro N2 hN2
  show zH n (0, 0) 26 (22, [zR 43, zR 9], []) N2 _
  refine zH_wW (c1 := (33, [zR 43, zR 9], [])) 4 hz zp_110 (fh_110_48_14) (by rfl) ?_
  intro N3 hN3
  show zH n (0, 0) 26 (33, [zR 43, zR 9], []) N3 _
  refine zH_wW (c1 := (44, [zR 43, zR 9], [])) 4 hz zp_110 (fh_110_50_16) (by rfl) ?_
  intro N4 hN4
  show zH n (0, 0) 26 (44, [zR 43, zR 9], []) N4 _
  refine zH_wW (c1 := (55, [zR 43, zR 9], [])) 4 hz zp_110 (fh_110_52_18) (by rfl) ?_
  intro N5 hN5
  show zH n (0, 0) 26 (55, [zR 43, zR 9], []) N5 _
  refine zH_wW (c1 := (66, [zR 43, zR 9], [])) 4 hz zp_110 (fh_110_54_20) (by rfl) ?_
  intro N6 hN6
  show zH n (0, 0) 26 (66, [zR 43, zR 9], []) N6 _
  refine zH_wW (c1 := (77, [zR 43, zR 9], [])) 4 hz zp_110 (fh_110_56_22) (by rfl) ?_
  intro N7 hN7
  show zH n (0, 0) 26 (77, [zR 43, zR 9], []) N7 _
  refine zH_wW (c1 := (88, [zR 43, zR 9], [])) 4 hz zp_110 (fh_110_58_24) (by rfl) ?_
  intro N8 hN8
  show zH n (0, 0) 26 (88, [zR 43, zR 9], []) N8 _
  refine zH_w (c' := (104, [zR 43, zR 9], [])) 8 hz rfl ?_
  subst hN8
  subst hN7
  subst hN6
  subst hN5
  subst hN4
  subst hN3
  subst hN2
  subst hN1
  exact zH_ret hz rfl rfl ⟨rfl, hE.symm⟩
noncomputable def hf_165_8_L1 (M : zM) : Int × zM :=
  (if ¬ (hf_169 M 1 0 1) = 0 then (1, zput (hf_26_43_9 M) 8 3 (zbor ((hf_26_43_9 M) 8 3) (zbshl 1 1))) else ((-2), M))
set_option maxRecDepth 100000 in
theorem fh_165_8_L1 {n : Nat} {M : zM} : zH n (0, 0) 165 (0, zini [zR 8, .inl 1] 2, []) M (fun r M' => r = some (.inl (hf_165_8_L1 M).1) ∧ M' = (hf_165_8_L1 M).2) := by
  have hz := zp_165
  have hE : hf_165_8_L1 M = hf_165_8_L1 M := rfl
  show zH n (0, 0) 165 (0, [zR 8, .inl 1], []) M _
  refine zH_wE (c1 := (6, [zR 8, .inl 1], [])) 3 hz zp_169 (fh_169 1 0 1) (by rfl) ?_
  show zH n (0, 0) 165 (6, [zR 8, .inl 1], [.inl (hf_169 M 1 0 1)]) M _
  refine zH_wf_ne (pc := 6) (n' := 9) (t := 12) (L := [zR 8, .inl 1]) (st := []) (x := (hf_169 M 1 0 1)) 0 hz (by rfl) (fun hb => ?_) (fun hb => ?_)
  · have hE := hE.trans (if_pos hb)
    refine zH_wE (c1 := (17, [zR 8, .inl 1], [])) 2 hz zp_176 (fh_176_8_L1) (by rfl) ?_
    show zH n (0, 0) 165 (17, [zR 8, .inl 1], [zR 43]) M _
    refine zH_wW (c1 := (24, [zR 8, .inl 1], [])) 2 hz zp_26 (fh_26_43_9) (by rfl) ?_
    intro N1 hN1
    show zH n (0, 0) 165 (24, [zR 8, .inl 1], []) N1 _
    refine zH_w (c' := (37, [zR 8, .inl 1], [.inl 1])) 9 hz rfl ?_
    subst hN1
    exact zH_ret hz rfl rfl (hfinB hE)
  · have hE := hE.trans (if_neg hb)
    exact zH_wr (r := some (.inl (-2))) 1 hz (by rfl) (hfinB hE)
noncomputable def hf_110_10_27 (M : zM) : zM :=
  zput (zcopy M 28 11 (0 : Int).toNat (0 : Int).toNat ((if 56 < 56 then 56 else 56) : Int).toNat) 10 3 (if ((zcopy M 28 11 (0 : Int).toNat (0 : Int).toNat ((if 56 < 56 then 56 else 56) : Int).toNat) 10 0) < ((zcopy M 28 11 (0 : Int).toNat (0 : Int).toNat ((if 56 < 56 then 56 else 56) : Int).toNat) 27 3) then ((zcopy M 28 11 (0 : Int).toNat (0 : Int).toNat ((if 56 < 56 then 56 else 56) : Int).toNat) 10 0) else ((zcopy M 28 11 (0 : Int).toNat (0 : Int).toNat ((if 56 < 56 then 56 else 56) : Int).toNat) 27 3))
set_option maxRecDepth 100000 in
theorem fh_110_10_27 {n : Nat} {M : zM} : zH n (0, 0) 110 (0, zini [zR 10, zR 27] 2, []) M (fun r M' => r = none ∧ M' = hf_110_10_27 M) := by
  have hz := zp_110
  have hE : hf_110_10_27 M = hf_110_10_27 M := rfl
  show zH n (0, 0) 110 (0, [zR 10, zR 27], []) M _
  refine zH_w (c' := (23, [zR 10, zR 27], [.inl (if 56 < 56 then 56 else 56), .inl 0, zR 11, .inl 0, zR 28])) 13 hz rfl ?_
  refine zH_copy hz rfl rfl rfl (fun _ => ?_)
  show zH n (0, 0) 110 (26, [zR 10, zR 27], []) (zcopy M 28 11 (0 : Int).toNat (0 : Int).toNat ((if 56 < 56 then 56 else 56) : Int).toNat) _
  refine zH_w (c' := (41, [zR 10, zR 27], [])) 7 hz rfl ?_
  exact zH_wr (r := none) 0 hz (by rfl) ⟨rfl, hE.symm⟩
noncomputable def hf_110_12_29 (M : zM) : zM :=
  zput (zcopy M 30 13 (0 : Int).toNat (0 : Int).toNat ((if 60 < 60 then 60 else 60) : Int).toNat) 12 3 (if ((zcopy M 30 13 (0 : Int).toNat (0 : Int).toNat ((if 60 < 60 then 60 else 60) : Int).toNat) 12 0) < ((zcopy M 30 13 (0 : Int).toNat (0 : Int).toNat ((if 60 < 60 then 60 else 60) : Int).toNat) 29 3) then ((zcopy M 30 13 (0 : Int).toNat (0 : Int).toNat ((if 60 < 60 then 60 else 60) : Int).toNat) 12 0) else ((zcopy M 30 13 (0 : Int).toNat (0 : Int).toNat ((if 60 < 60 then 60 else 60) : Int).toNat) 29 3))
set_option maxRecDepth 100000 in
theorem fh_110_12_29 {n : Nat} {M : zM} : zH n (0, 0) 110 (0, zini [zR 12, zR 29] 2, []) M (fun r M' => r = none ∧ M' = hf_110_12_29 M) := by
  have hz := zp_110
  have hE : hf_110_12_29 M = hf_110_12_29 M := rfl
  show zH n (0, 0) 110 (0, [zR 12, zR 29], []) M _
  refine zH_w (c' := (23, [zR 12, zR 29], [.inl (if 60 < 60 then 60 else 60), .inl 0, zR 13, .inl 0, zR 30])) 13 hz rfl ?_
  refine zH_copy hz rfl rfl rfl (fun _ => ?_)
  show zH n (0, 0) 110 (26, [zR 12, zR 29], []) (zcopy M 30 13 (0 : Int).toNat (0 : Int).toNat ((if 60 < 60 then 60 else 60) : Int).toNat) _
  refine zH_w (c' := (41, [zR 12, zR 29], [])) 7 hz rfl ?_
  exact zH_wr (r := none) 0 hz (by rfl) ⟨rfl, hE.symm⟩
noncomputable def hf_110_14_31 (M : zM) : zM :=
  zput (zcopy M 32 15 (0 : Int).toNat (0 : Int).toNat ((if 8 < 8 then 8 else 8) : Int).toNat) 14 3 (if ((zcopy M 32 15 (0 : Int).toNat (0 : Int).toNat ((if 8 < 8 then 8 else 8) : Int).toNat) 14 0) < ((zcopy M 32 15 (0 : Int).toNat (0 : Int).toNat ((if 8 < 8 then 8 else 8) : Int).toNat) 31 3) then ((zcopy M 32 15 (0 : Int).toNat (0 : Int).toNat ((if 8 < 8 then 8 else 8) : Int).toNat) 14 0) else ((zcopy M 32 15 (0 : Int).toNat (0 : Int).toNat ((if 8 < 8 then 8 else 8) : Int).toNat) 31 3))
set_option maxRecDepth 100000 in
theorem fh_110_14_31 {n : Nat} {M : zM} : zH n (0, 0) 110 (0, zini [zR 14, zR 31] 2, []) M (fun r M' => r = none ∧ M' = hf_110_14_31 M) := by
  have hz := zp_110
  have hE : hf_110_14_31 M = hf_110_14_31 M := rfl
  show zH n (0, 0) 110 (0, [zR 14, zR 31], []) M _
  refine zH_w (c' := (23, [zR 14, zR 31], [.inl (if 8 < 8 then 8 else 8), .inl 0, zR 15, .inl 0, zR 32])) 13 hz rfl ?_
  refine zH_copy hz rfl rfl rfl (fun _ => ?_)
  show zH n (0, 0) 110 (26, [zR 14, zR 31], []) (zcopy M 32 15 (0 : Int).toNat (0 : Int).toNat ((if 8 < 8 then 8 else 8) : Int).toNat) _
  refine zH_w (c' := (41, [zR 14, zR 31], [])) 7 hz rfl ?_
  exact zH_wr (r := none) 0 hz (by rfl) ⟨rfl, hE.symm⟩
noncomputable def hf_110_16_33 (M : zM) : zM :=
  zput (zcopy M 34 17 (0 : Int).toNat (0 : Int).toNat ((if 200 < 200 then 200 else 200) : Int).toNat) 16 3 (if ((zcopy M 34 17 (0 : Int).toNat (0 : Int).toNat ((if 200 < 200 then 200 else 200) : Int).toNat) 16 0) < ((zcopy M 34 17 (0 : Int).toNat (0 : Int).toNat ((if 200 < 200 then 200 else 200) : Int).toNat) 33 3) then ((zcopy M 34 17 (0 : Int).toNat (0 : Int).toNat ((if 200 < 200 then 200 else 200) : Int).toNat) 16 0) else ((zcopy M 34 17 (0 : Int).toNat (0 : Int).toNat ((if 200 < 200 then 200 else 200) : Int).toNat) 33 3))
set_option maxRecDepth 100000 in
theorem fh_110_16_33 {n : Nat} {M : zM} : zH n (0, 0) 110 (0, zini [zR 16, zR 33] 2, []) M (fun r M' => r = none ∧ M' = hf_110_16_33 M) := by
  have hz := zp_110
  have hE : hf_110_16_33 M = hf_110_16_33 M := rfl
  show zH n (0, 0) 110 (0, [zR 16, zR 33], []) M _
  refine zH_w (c' := (23, [zR 16, zR 33], [.inl (if 200 < 200 then 200 else 200), .inl 0, zR 17, .inl 0, zR 34])) 13 hz rfl ?_
  refine zH_copy hz rfl rfl rfl (fun _ => ?_)
  show zH n (0, 0) 110 (26, [zR 16, zR 33], []) (zcopy M 34 17 (0 : Int).toNat (0 : Int).toNat ((if 200 < 200 then 200 else 200) : Int).toNat) _
  refine zH_w (c' := (41, [zR 16, zR 33], [])) 7 hz rfl ?_
  exact zH_wr (r := none) 0 hz (by rfl) ⟨rfl, hE.symm⟩
noncomputable def hf_110_18_35 (M : zM) : zM :=
  zput (zcopy M 36 19 (0 : Int).toNat (0 : Int).toNat ((if 2750 < 2750 then 2750 else 2750) : Int).toNat) 18 3 (if ((zcopy M 36 19 (0 : Int).toNat (0 : Int).toNat ((if 2750 < 2750 then 2750 else 2750) : Int).toNat) 18 0) < ((zcopy M 36 19 (0 : Int).toNat (0 : Int).toNat ((if 2750 < 2750 then 2750 else 2750) : Int).toNat) 35 3) then ((zcopy M 36 19 (0 : Int).toNat (0 : Int).toNat ((if 2750 < 2750 then 2750 else 2750) : Int).toNat) 18 0) else ((zcopy M 36 19 (0 : Int).toNat (0 : Int).toNat ((if 2750 < 2750 then 2750 else 2750) : Int).toNat) 35 3))
set_option maxRecDepth 100000 in
theorem fh_110_18_35 {n : Nat} {M : zM} : zH n (0, 0) 110 (0, zini [zR 18, zR 35] 2, []) M (fun r M' => r = none ∧ M' = hf_110_18_35 M) := by
  have hz := zp_110
  have hE : hf_110_18_35 M = hf_110_18_35 M := rfl
  show zH n (0, 0) 110 (0, [zR 18, zR 35], []) M _
  refine zH_w (c' := (23, [zR 18, zR 35], [.inl (if 2750 < 2750 then 2750 else 2750), .inl 0, zR 19, .inl 0, zR 36])) 13 hz rfl ?_
  refine zH_copy hz rfl rfl rfl (fun _ => ?_)
  show zH n (0, 0) 110 (26, [zR 18, zR 35], []) (zcopy M 36 19 (0 : Int).toNat (0 : Int).toNat ((if 2750 < 2750 then 2750 else 2750) : Int).toNat) _
  refine zH_w (c' := (41, [zR 18, zR 35], [])) 7 hz rfl ?_
  exact zH_wr (r := none) 0 hz (by rfl) ⟨rfl, hE.symm⟩
noncomputable def hf_110_20_37 (M : zM) : zM :=
  zput (zcopy M 38 21 (0 : Int).toNat (0 : Int).toNat ((if 648 < 648 then 648 else 648) : Int).toNat) 20 3 (if ((zcopy M 38 21 (0 : Int).toNat (0 : Int).toNat ((if 648 < 648 then 648 else 648) : Int).toNat) 20 0) < ((zcopy M 38 21 (0 : Int).toNat (0 : Int).toNat ((if 648 < 648 then 648 else 648) : Int).toNat) 37 3) then ((zcopy M 38 21 (0 : Int).toNat (0 : Int).toNat ((if 648 < 648 then 648 else 648) : Int).toNat) 20 0) else ((zcopy M 38 21 (0 : Int).toNat (0 : Int).toNat ((if 648 < 648 then 648 else 648) : Int).toNat) 37 3))
set_option maxRecDepth 100000 in
theorem fh_110_20_37 {n : Nat} {M : zM} : zH n (0, 0) 110 (0, zini [zR 20, zR 37] 2, []) M (fun r M' => r = none ∧ M' = hf_110_20_37 M) := by
  have hz := zp_110
  have hE : hf_110_20_37 M = hf_110_20_37 M := rfl
  show zH n (0, 0) 110 (0, [zR 20, zR 37], []) M _
  refine zH_w (c' := (23, [zR 20, zR 37], [.inl (if 648 < 648 then 648 else 648), .inl 0, zR 21, .inl 0, zR 38])) 13 hz rfl ?_
  refine zH_copy hz rfl rfl rfl (fun _ => ?_)
  show zH n (0, 0) 110 (26, [zR 20, zR 37], []) (zcopy M 38 21 (0 : Int).toNat (0 : Int).toNat ((if 648 < 648 then 648 else 648) : Int).toNat) _
  refine zH_w (c' := (41, [zR 20, zR 37], [])) 7 hz rfl ?_
  exact zH_wr (r := none) 0 hz (by rfl) ⟨rfl, hE.symm⟩
noncomputable def hf_110_22_39 (M : zM) : zM :=
  zput (zcopy M 40 23 (0 : Int).toNat (0 : Int).toNat ((if 1640 < 1640 then 1640 else 1640) : Int).toNat) 22 3 (if ((zcopy M 40 23 (0 : Int).toNat (0 : Int).toNat ((if 1640 < 1640 then 1640 else 1640) : Int).toNat) 22 0) < ((zcopy M 40 23 (0 : Int).toNat (0 : Int).toNat ((if 1640 < 1640 then 1640 else 1640) : Int).toNat) 39 3) then ((zcopy M 40 23 (0 : Int).toNat (0 : Int).toNat ((if 1640 < 1640 then 1640 else 1640) : Int).toNat) 22 0) else ((zcopy M 40 23 (0 : Int).toNat (0 : Int).toNat ((if 1640 < 1640 then 1640 else 1640) : Int).toNat) 39 3))
set_option maxRecDepth 100000 in
theorem fh_110_22_39 {n : Nat} {M : zM} : zH n (0, 0) 110 (0, zini [zR 22, zR 39] 2, []) M (fun r M' => r = none ∧ M' = hf_110_22_39 M) := by
  have hz := zp_110
  have hE : hf_110_22_39 M = hf_110_22_39 M := rfl
  show zH n (0, 0) 110 (0, [zR 22, zR 39], []) M _
  refine zH_w (c' := (23, [zR 22, zR 39], [.inl (if 1640 < 1640 then 1640 else 1640), .inl 0, zR 23, .inl 0, zR 40])) 13 hz rfl ?_
  refine zH_copy hz rfl rfl rfl (fun _ => ?_)
  show zH n (0, 0) 110 (26, [zR 22, zR 39], []) (zcopy M 40 23 (0 : Int).toNat (0 : Int).toNat ((if 1640 < 1640 then 1640 else 1640) : Int).toNat) _
  refine zH_w (c' := (41, [zR 22, zR 39], [])) 7 hz rfl ?_
  exact zH_wr (r := none) 0 hz (by rfl) ⟨rfl, hE.symm⟩
noncomputable def hf_110_24_41 (M : zM) : zM :=
  zput (zcopy M 42 25 (0 : Int).toNat (0 : Int).toNat ((if 24 < 24 then 24 else 24) : Int).toNat) 24 3 (if ((zcopy M 42 25 (0 : Int).toNat (0 : Int).toNat ((if 24 < 24 then 24 else 24) : Int).toNat) 24 0) < ((zcopy M 42 25 (0 : Int).toNat (0 : Int).toNat ((if 24 < 24 then 24 else 24) : Int).toNat) 41 3) then ((zcopy M 42 25 (0 : Int).toNat (0 : Int).toNat ((if 24 < 24 then 24 else 24) : Int).toNat) 24 0) else ((zcopy M 42 25 (0 : Int).toNat (0 : Int).toNat ((if 24 < 24 then 24 else 24) : Int).toNat) 41 3))
set_option maxRecDepth 100000 in
theorem fh_110_24_41 {n : Nat} {M : zM} : zH n (0, 0) 110 (0, zini [zR 24, zR 41] 2, []) M (fun r M' => r = none ∧ M' = hf_110_24_41 M) := by
  have hz := zp_110
  have hE : hf_110_24_41 M = hf_110_24_41 M := rfl
  show zH n (0, 0) 110 (0, [zR 24, zR 41], []) M _
  refine zH_w (c' := (23, [zR 24, zR 41], [.inl (if 24 < 24 then 24 else 24), .inl 0, zR 25, .inl 0, zR 42])) 13 hz rfl ?_
  refine zH_copy hz rfl rfl rfl (fun _ => ?_)
  show zH n (0, 0) 110 (26, [zR 24, zR 41], []) (zcopy M 42 25 (0 : Int).toNat (0 : Int).toNat ((if 24 < 24 then 24 else 24) : Int).toNat) _
  refine zH_w (c' := (41, [zR 24, zR 41], [])) 7 hz rfl ?_
  exact zH_wr (r := none) 0 hz (by rfl) ⟨rfl, hE.symm⟩
noncomputable def hf_26_9_26 (M : zM) : zM :=
  zput (zput (hf_110_24_41 (hf_110_22_39 (hf_110_20_37 (hf_110_18_35 (hf_110_16_33 (hf_110_14_31 (hf_110_12_29 (hf_110_10_27 M)))))))) 9 8 ((hf_110_24_41 (hf_110_22_39 (hf_110_20_37 (hf_110_18_35 (hf_110_16_33 (hf_110_14_31 (hf_110_12_29 (hf_110_10_27 M)))))))) 26 8)) 9 9 ((zput (hf_110_24_41 (hf_110_22_39 (hf_110_20_37 (hf_110_18_35 (hf_110_16_33 (hf_110_14_31 (hf_110_12_29 (hf_110_10_27 M)))))))) 9 8 ((hf_110_24_41 (hf_110_22_39 (hf_110_20_37 (hf_110_18_35 (hf_110_16_33 (hf_110_14_31 (hf_110_12_29 (hf_110_10_27 M)))))))) 26 8)) 26 9)
set_option maxRecDepth 100000 in
theorem fh_26_9_26 {n : Nat} {M : zM} : zH n (0, 0) 26 (0, zini [zR 9, zR 26] 2, []) M (fun r M' => r = none ∧ M' = hf_26_9_26 M) := by
  have hz := zp_26
  have hE : hf_26_9_26 M = hf_26_9_26 M := rfl
  show zH n (0, 0) 26 (0, [zR 9, zR 26], []) M _
  refine zH_wW (c1 := (11, [zR 9, zR 26], [])) 4 hz zp_110 (fh_110_10_27) (by rfl) ?_
  intro N1 hN1
  show zH n (0, 0) 26 (11, [zR 9, zR 26], []) N1 _
  refine zH_wW (c1 := (22, [zR 9, zR 26], [])) 4 hz zp_110 (fh_110_12_29) (by rfl) ?_
  intro N2 hN2
  show zH n (0, 0) 26 (22, [zR 9, zR 26], []) N2 _
  refine zH_wW (c1 := (33, [zR 9, zR 26], [])) 4 hz zp_110 (fh_110_14_31) (by rfl) ?_
  intro N3 hN3
  show zH n (0, 0) 26 (33, [zR 9, zR 26], []) N3 _
  refine zH_wW (c1 := (44, [zR 9, zR 26], [])) 4 hz zp_110 (fh_110_16_33) (by rfl) ?_
  intro N4 hN4
  show zH n (0, 0) 26 (44, [zR 9, zR 26], []) N4 _
  refine zH_wW (c1 := (55, [zR 9, zR 26], [])) 4 hz zp_110 (fh_110_18_35) (by rfl) ?_
  intro N5 hN5
  show zH n (0, 0) 26 (55, [zR 9, zR 26], []) N5 _
  refine zH_wW (c1 := (66, [zR 9, zR 26], [])) 4 hz zp_110 (fh_110_20_37) (by rfl) ?_
  intro N6 hN6
  show zH n (0, 0) 26 (66, [zR 9, zR 26], []) N6 _
  refine zH_wW (c1 := (77, [zR 9, zR 26], [])) 4 hz zp_110 (fh_110_22_39) (by rfl) ?_
  intro N7 hN7
  show zH n (0, 0) 26 (77, [zR 9, zR 26], []) N7 _
  refine zH_wW (c1 := (88, [zR 9, zR 26], [])) 4 hz zp_110 (fh_110_24_41) (by rfl) ?_
  intro N8 hN8
  show zH n (0, 0) 26 (88, [zR 9, zR 26], []) N8 _
  refine zH_w (c' := (104, [zR 9, zR 26], [])) 8 hz rfl ?_
  subst hN8
  subst hN7
  subst hN6
  subst hN5
  subst hN4
  subst hN3
  subst hN2
  subst hN1
  exact zH_ret hz rfl rfl ⟨rfl, hE.symm⟩
noncomputable def hf_166_8_L0 (M : zM) : Int × zM :=
  (if ¬ (hf_169 M 0 0 1) = 0 then (if ¬ (zband (zbshr (M 8 3) 0) 1) = 0 then (1, (hf_26_9_26 M)) else ((-3), M)) else ((-2), M))
set_option maxRecDepth 100000 in
theorem fh_166_8_L0 {n : Nat} {M : zM} : zH n (0, 0) 166 (0, zini [zR 8, .inl 0] 2, []) M (fun r M' => r = some (.inl (hf_166_8_L0 M).1) ∧ M' = (hf_166_8_L0 M).2) := by
  have hz := zp_166
  have hE : hf_166_8_L0 M = hf_166_8_L0 M := rfl
  show zH n (0, 0) 166 (0, [zR 8, .inl 0], []) M _
  refine zH_wE (c1 := (6, [zR 8, .inl 0], [])) 3 hz zp_169 (fh_169 0 0 1) (by rfl) ?_
  show zH n (0, 0) 166 (6, [zR 8, .inl 0], [.inl (hf_169 M 0 0 1)]) M _
  refine zH_wf_ne (pc := 6) (n' := 9) (t := 12) (L := [zR 8, .inl 0]) (st := []) (x := (hf_169 M 0 0 1)) 0 hz (by rfl) (fun hb => ?_) (fun hb => ?_)
  · have hE := hE.trans (if_pos hb)
    refine zH_wf_ne (pc := 20) (n' := 23) (t := 26) (L := [zR 8, .inl 0]) (st := []) (x := (zband (zbshr (M 8 3) 0) 1)) 6 hz (by rfl) (fun hb => ?_) (fun hb => ?_)
    · have hE := hE.trans (if_pos hb)
      refine zH_wE (c1 := (35, [zR 8, .inl 0], [zR 9])) 4 hz zp_176 (fh_176_8_L0) (by rfl) ?_
      show zH n (0, 0) 166 (35, [zR 8, .inl 0], [zR 26, zR 9]) M _
      refine zH_wW (c1 := (38, [zR 8, .inl 0], [])) 0 hz zp_26 (fh_26_9_26) (by rfl) ?_
      intro N1 hN1
      show zH n (0, 0) 166 (38, [zR 8, .inl 0], []) N1 _
      refine zH_w (c' := (39, [zR 8, .inl 0], [.inl 1])) 1 hz rfl ?_
      subst hN1
      exact zH_ret hz rfl rfl (hfinB hE)
    · have hE := hE.trans (if_neg hb)
      exact zH_wr (r := some (.inl (-3))) 1 hz (by rfl) (hfinB hE)
  · have hE := hE.trans (if_neg hb)
    exact zH_wr (r := some (.inl (-2))) 1 hz (by rfl) (hfinB hE)
noncomputable def hf_110_10_44 (M : zM) : zM :=
  zput (zcopy M 45 11 (0 : Int).toNat (0 : Int).toNat ((if 56 < 56 then 56 else 56) : Int).toNat) 10 3 (if ((zcopy M 45 11 (0 : Int).toNat (0 : Int).toNat ((if 56 < 56 then 56 else 56) : Int).toNat) 10 0) < ((zcopy M 45 11 (0 : Int).toNat (0 : Int).toNat ((if 56 < 56 then 56 else 56) : Int).toNat) 44 3) then ((zcopy M 45 11 (0 : Int).toNat (0 : Int).toNat ((if 56 < 56 then 56 else 56) : Int).toNat) 10 0) else ((zcopy M 45 11 (0 : Int).toNat (0 : Int).toNat ((if 56 < 56 then 56 else 56) : Int).toNat) 44 3))
set_option maxRecDepth 100000 in
theorem fh_110_10_44 {n : Nat} {M : zM} : zH n (0, 0) 110 (0, zini [zR 10, zR 44] 2, []) M (fun r M' => r = none ∧ M' = hf_110_10_44 M) := by
  have hz := zp_110
  have hE : hf_110_10_44 M = hf_110_10_44 M := rfl
  show zH n (0, 0) 110 (0, [zR 10, zR 44], []) M _
  refine zH_w (c' := (23, [zR 10, zR 44], [.inl (if 56 < 56 then 56 else 56), .inl 0, zR 11, .inl 0, zR 45])) 13 hz rfl ?_
  refine zH_copy hz rfl rfl rfl (fun _ => ?_)
  show zH n (0, 0) 110 (26, [zR 10, zR 44], []) (zcopy M 45 11 (0 : Int).toNat (0 : Int).toNat ((if 56 < 56 then 56 else 56) : Int).toNat) _
  refine zH_w (c' := (41, [zR 10, zR 44], [])) 7 hz rfl ?_
  exact zH_wr (r := none) 0 hz (by rfl) ⟨rfl, hE.symm⟩
noncomputable def hf_110_12_46 (M : zM) : zM :=
  zput (zcopy M 47 13 (0 : Int).toNat (0 : Int).toNat ((if 60 < 60 then 60 else 60) : Int).toNat) 12 3 (if ((zcopy M 47 13 (0 : Int).toNat (0 : Int).toNat ((if 60 < 60 then 60 else 60) : Int).toNat) 12 0) < ((zcopy M 47 13 (0 : Int).toNat (0 : Int).toNat ((if 60 < 60 then 60 else 60) : Int).toNat) 46 3) then ((zcopy M 47 13 (0 : Int).toNat (0 : Int).toNat ((if 60 < 60 then 60 else 60) : Int).toNat) 12 0) else ((zcopy M 47 13 (0 : Int).toNat (0 : Int).toNat ((if 60 < 60 then 60 else 60) : Int).toNat) 46 3))
set_option maxRecDepth 100000 in
theorem fh_110_12_46 {n : Nat} {M : zM} : zH n (0, 0) 110 (0, zini [zR 12, zR 46] 2, []) M (fun r M' => r = none ∧ M' = hf_110_12_46 M) := by
  have hz := zp_110
  have hE : hf_110_12_46 M = hf_110_12_46 M := rfl
  show zH n (0, 0) 110 (0, [zR 12, zR 46], []) M _
  refine zH_w (c' := (23, [zR 12, zR 46], [.inl (if 60 < 60 then 60 else 60), .inl 0, zR 13, .inl 0, zR 47])) 13 hz rfl ?_
  refine zH_copy hz rfl rfl rfl (fun _ => ?_)
  show zH n (0, 0) 110 (26, [zR 12, zR 46], []) (zcopy M 47 13 (0 : Int).toNat (0 : Int).toNat ((if 60 < 60 then 60 else 60) : Int).toNat) _
  refine zH_w (c' := (41, [zR 12, zR 46], [])) 7 hz rfl ?_
  exact zH_wr (r := none) 0 hz (by rfl) ⟨rfl, hE.symm⟩
noncomputable def hf_110_14_48 (M : zM) : zM :=
  zput (zcopy M 49 15 (0 : Int).toNat (0 : Int).toNat ((if 8 < 8 then 8 else 8) : Int).toNat) 14 3 (if ((zcopy M 49 15 (0 : Int).toNat (0 : Int).toNat ((if 8 < 8 then 8 else 8) : Int).toNat) 14 0) < ((zcopy M 49 15 (0 : Int).toNat (0 : Int).toNat ((if 8 < 8 then 8 else 8) : Int).toNat) 48 3) then ((zcopy M 49 15 (0 : Int).toNat (0 : Int).toNat ((if 8 < 8 then 8 else 8) : Int).toNat) 14 0) else ((zcopy M 49 15 (0 : Int).toNat (0 : Int).toNat ((if 8 < 8 then 8 else 8) : Int).toNat) 48 3))
set_option maxRecDepth 100000 in
theorem fh_110_14_48 {n : Nat} {M : zM} : zH n (0, 0) 110 (0, zini [zR 14, zR 48] 2, []) M (fun r M' => r = none ∧ M' = hf_110_14_48 M) := by
  have hz := zp_110
  have hE : hf_110_14_48 M = hf_110_14_48 M := rfl
  show zH n (0, 0) 110 (0, [zR 14, zR 48], []) M _
  refine zH_w (c' := (23, [zR 14, zR 48], [.inl (if 8 < 8 then 8 else 8), .inl 0, zR 15, .inl 0, zR 49])) 13 hz rfl ?_
  refine zH_copy hz rfl rfl rfl (fun _ => ?_)
  show zH n (0, 0) 110 (26, [zR 14, zR 48], []) (zcopy M 49 15 (0 : Int).toNat (0 : Int).toNat ((if 8 < 8 then 8 else 8) : Int).toNat) _
  refine zH_w (c' := (41, [zR 14, zR 48], [])) 7 hz rfl ?_
  exact zH_wr (r := none) 0 hz (by rfl) ⟨rfl, hE.symm⟩
noncomputable def hf_110_16_50 (M : zM) : zM :=
  zput (zcopy M 51 17 (0 : Int).toNat (0 : Int).toNat ((if 200 < 200 then 200 else 200) : Int).toNat) 16 3 (if ((zcopy M 51 17 (0 : Int).toNat (0 : Int).toNat ((if 200 < 200 then 200 else 200) : Int).toNat) 16 0) < ((zcopy M 51 17 (0 : Int).toNat (0 : Int).toNat ((if 200 < 200 then 200 else 200) : Int).toNat) 50 3) then ((zcopy M 51 17 (0 : Int).toNat (0 : Int).toNat ((if 200 < 200 then 200 else 200) : Int).toNat) 16 0) else ((zcopy M 51 17 (0 : Int).toNat (0 : Int).toNat ((if 200 < 200 then 200 else 200) : Int).toNat) 50 3))
set_option maxRecDepth 100000 in
theorem fh_110_16_50 {n : Nat} {M : zM} : zH n (0, 0) 110 (0, zini [zR 16, zR 50] 2, []) M (fun r M' => r = none ∧ M' = hf_110_16_50 M) := by
  have hz := zp_110
  have hE : hf_110_16_50 M = hf_110_16_50 M := rfl
  show zH n (0, 0) 110 (0, [zR 16, zR 50], []) M _
  refine zH_w (c' := (23, [zR 16, zR 50], [.inl (if 200 < 200 then 200 else 200), .inl 0, zR 17, .inl 0, zR 51])) 13 hz rfl ?_
  refine zH_copy hz rfl rfl rfl (fun _ => ?_)
  show zH n (0, 0) 110 (26, [zR 16, zR 50], []) (zcopy M 51 17 (0 : Int).toNat (0 : Int).toNat ((if 200 < 200 then 200 else 200) : Int).toNat) _
  refine zH_w (c' := (41, [zR 16, zR 50], [])) 7 hz rfl ?_
  exact zH_wr (r := none) 0 hz (by rfl) ⟨rfl, hE.symm⟩
noncomputable def hf_110_18_52 (M : zM) : zM :=
  zput (zcopy M 53 19 (0 : Int).toNat (0 : Int).toNat ((if 2750 < 2750 then 2750 else 2750) : Int).toNat) 18 3 (if ((zcopy M 53 19 (0 : Int).toNat (0 : Int).toNat ((if 2750 < 2750 then 2750 else 2750) : Int).toNat) 18 0) < ((zcopy M 53 19 (0 : Int).toNat (0 : Int).toNat ((if 2750 < 2750 then 2750 else 2750) : Int).toNat) 52 3) then ((zcopy M 53 19 (0 : Int).toNat (0 : Int).toNat ((if 2750 < 2750 then 2750 else 2750) : Int).toNat) 18 0) else ((zcopy M 53 19 (0 : Int).toNat (0 : Int).toNat ((if 2750 < 2750 then 2750 else 2750) : Int).toNat) 52 3))
set_option maxRecDepth 100000 in
theorem fh_110_18_52 {n : Nat} {M : zM} : zH n (0, 0) 110 (0, zini [zR 18, zR 52] 2, []) M (fun r M' => r = none ∧ M' = hf_110_18_52 M) := by
  have hz := zp_110
  have hE : hf_110_18_52 M = hf_110_18_52 M := rfl
  show zH n (0, 0) 110 (0, [zR 18, zR 52], []) M _
  refine zH_w (c' := (23, [zR 18, zR 52], [.inl (if 2750 < 2750 then 2750 else 2750), .inl 0, zR 19, .inl 0, zR 53])) 13 hz rfl ?_
  refine zH_copy hz rfl rfl rfl (fun _ => ?_)
  show zH n (0, 0) 110 (26, [zR 18, zR 52], []) (zcopy M 53 19 (0 : Int).toNat (0 : Int).toNat ((if 2750 < 2750 then 2750 else 2750) : Int).toNat) _
  refine zH_w (c' := (41, [zR 18, zR 52], [])) 7 hz rfl ?_
  exact zH_wr (r := none) 0 hz (by rfl) ⟨rfl, hE.symm⟩
noncomputable def hf_110_20_54 (M : zM) : zM :=
  zput (zcopy M 55 21 (0 : Int).toNat (0 : Int).toNat ((if 648 < 648 then 648 else 648) : Int).toNat) 20 3 (if ((zcopy M 55 21 (0 : Int).toNat (0 : Int).toNat ((if 648 < 648 then 648 else 648) : Int).toNat) 20 0) < ((zcopy M 55 21 (0 : Int).toNat (0 : Int).toNat ((if 648 < 648 then 648 else 648) : Int).toNat) 54 3) then ((zcopy M 55 21 (0 : Int).toNat (0 : Int).toNat ((if 648 < 648 then 648 else 648) : Int).toNat) 20 0) else ((zcopy M 55 21 (0 : Int).toNat (0 : Int).toNat ((if 648 < 648 then 648 else 648) : Int).toNat) 54 3))
set_option maxRecDepth 100000 in
theorem fh_110_20_54 {n : Nat} {M : zM} : zH n (0, 0) 110 (0, zini [zR 20, zR 54] 2, []) M (fun r M' => r = none ∧ M' = hf_110_20_54 M) := by
  have hz := zp_110
  have hE : hf_110_20_54 M = hf_110_20_54 M := rfl
  show zH n (0, 0) 110 (0, [zR 20, zR 54], []) M _
  refine zH_w (c' := (23, [zR 20, zR 54], [.inl (if 648 < 648 then 648 else 648), .inl 0, zR 21, .inl 0, zR 55])) 13 hz rfl ?_
  refine zH_copy hz rfl rfl rfl (fun _ => ?_)
  show zH n (0, 0) 110 (26, [zR 20, zR 54], []) (zcopy M 55 21 (0 : Int).toNat (0 : Int).toNat ((if 648 < 648 then 648 else 648) : Int).toNat) _
  refine zH_w (c' := (41, [zR 20, zR 54], [])) 7 hz rfl ?_
  exact zH_wr (r := none) 0 hz (by rfl) ⟨rfl, hE.symm⟩
noncomputable def hf_110_22_56 (M : zM) : zM :=
  zput (zcopy M 57 23 (0 : Int).toNat (0 : Int).toNat ((if 1640 < 1640 then 1640 else 1640) : Int).toNat) 22 3 (if ((zcopy M 57 23 (0 : Int).toNat (0 : Int).toNat ((if 1640 < 1640 then 1640 else 1640) : Int).toNat) 22 0) < ((zcopy M 57 23 (0 : Int).toNat (0 : Int).toNat ((if 1640 < 1640 then 1640 else 1640) : Int).toNat) 56 3) then ((zcopy M 57 23 (0 : Int).toNat (0 : Int).toNat ((if 1640 < 1640 then 1640 else 1640) : Int).toNat) 22 0) else ((zcopy M 57 23 (0 : Int).toNat (0 : Int).toNat ((if 1640 < 1640 then 1640 else 1640) : Int).toNat) 56 3))
set_option maxRecDepth 100000 in
theorem fh_110_22_56 {n : Nat} {M : zM} : zH n (0, 0) 110 (0, zini [zR 22, zR 56] 2, []) M (fun r M' => r = none ∧ M' = hf_110_22_56 M) := by
  have hz := zp_110
  have hE : hf_110_22_56 M = hf_110_22_56 M := rfl
  show zH n (0, 0) 110 (0, [zR 22, zR 56], []) M _
  refine zH_w (c' := (23, [zR 22, zR 56], [.inl (if 1640 < 1640 then 1640 else 1640), .inl 0, zR 23, .inl 0, zR 57])) 13 hz rfl ?_
  refine zH_copy hz rfl rfl rfl (fun _ => ?_)
  show zH n (0, 0) 110 (26, [zR 22, zR 56], []) (zcopy M 57 23 (0 : Int).toNat (0 : Int).toNat ((if 1640 < 1640 then 1640 else 1640) : Int).toNat) _
  refine zH_w (c' := (41, [zR 22, zR 56], [])) 7 hz rfl ?_
  exact zH_wr (r := none) 0 hz (by rfl) ⟨rfl, hE.symm⟩
noncomputable def hf_110_24_58 (M : zM) : zM :=
  zput (zcopy M 59 25 (0 : Int).toNat (0 : Int).toNat ((if 24 < 24 then 24 else 24) : Int).toNat) 24 3 (if ((zcopy M 59 25 (0 : Int).toNat (0 : Int).toNat ((if 24 < 24 then 24 else 24) : Int).toNat) 24 0) < ((zcopy M 59 25 (0 : Int).toNat (0 : Int).toNat ((if 24 < 24 then 24 else 24) : Int).toNat) 58 3) then ((zcopy M 59 25 (0 : Int).toNat (0 : Int).toNat ((if 24 < 24 then 24 else 24) : Int).toNat) 24 0) else ((zcopy M 59 25 (0 : Int).toNat (0 : Int).toNat ((if 24 < 24 then 24 else 24) : Int).toNat) 58 3))
set_option maxRecDepth 100000 in
theorem fh_110_24_58 {n : Nat} {M : zM} : zH n (0, 0) 110 (0, zini [zR 24, zR 58] 2, []) M (fun r M' => r = none ∧ M' = hf_110_24_58 M) := by
  have hz := zp_110
  have hE : hf_110_24_58 M = hf_110_24_58 M := rfl
  show zH n (0, 0) 110 (0, [zR 24, zR 58], []) M _
  refine zH_w (c' := (23, [zR 24, zR 58], [.inl (if 24 < 24 then 24 else 24), .inl 0, zR 25, .inl 0, zR 59])) 13 hz rfl ?_
  refine zH_copy hz rfl rfl rfl (fun _ => ?_)
  show zH n (0, 0) 110 (26, [zR 24, zR 58], []) (zcopy M 59 25 (0 : Int).toNat (0 : Int).toNat ((if 24 < 24 then 24 else 24) : Int).toNat) _
  refine zH_w (c' := (41, [zR 24, zR 58], [])) 7 hz rfl ?_
  exact zH_wr (r := none) 0 hz (by rfl) ⟨rfl, hE.symm⟩
noncomputable def hf_26_9_43 (M : zM) : zM :=
  zput (zput (hf_110_24_58 (hf_110_22_56 (hf_110_20_54 (hf_110_18_52 (hf_110_16_50 (hf_110_14_48 (hf_110_12_46 (hf_110_10_44 M)))))))) 9 8 ((hf_110_24_58 (hf_110_22_56 (hf_110_20_54 (hf_110_18_52 (hf_110_16_50 (hf_110_14_48 (hf_110_12_46 (hf_110_10_44 M)))))))) 43 8)) 9 9 ((zput (hf_110_24_58 (hf_110_22_56 (hf_110_20_54 (hf_110_18_52 (hf_110_16_50 (hf_110_14_48 (hf_110_12_46 (hf_110_10_44 M)))))))) 9 8 ((hf_110_24_58 (hf_110_22_56 (hf_110_20_54 (hf_110_18_52 (hf_110_16_50 (hf_110_14_48 (hf_110_12_46 (hf_110_10_44 M)))))))) 43 8)) 43 9)
set_option maxRecDepth 100000 in
theorem fh_26_9_43 {n : Nat} {M : zM} : zH n (0, 0) 26 (0, zini [zR 9, zR 43] 2, []) M (fun r M' => r = none ∧ M' = hf_26_9_43 M) := by
  have hz := zp_26
  have hE : hf_26_9_43 M = hf_26_9_43 M := rfl
  show zH n (0, 0) 26 (0, [zR 9, zR 43], []) M _
  refine zH_wW (c1 := (11, [zR 9, zR 43], [])) 4 hz zp_110 (fh_110_10_44) (by rfl) ?_
  intro N1 hN1
  show zH n (0, 0) 26 (11, [zR 9, zR 43], []) N1 _
  refine zH_wW (c1 := (22, [zR 9, zR 43], [])) 4 hz zp_110 (fh_110_12_46) (by rfl) ?_
  intro N2 hN2
  show zH n (0, 0) 26 (22, [zR 9, zR 43], []) N2 _
  refine zH_wW (c1 := (33, [zR 9, zR 43], [])) 4 hz zp_110 (fh_110_14_48) (by rfl) ?_
  intro N3 hN3
  show zH n (0, 0) 26 (33, [zR 9, zR 43], []) N3 _
  refine zH_wW (c1 := (44, [zR 9, zR 43], [])) 4 hz zp_110 (fh_110_16_50) (by rfl) ?_
  intro N4 hN4
  show zH n (0, 0) 26 (44, [zR 9, zR 43], []) N4 _
  refine zH_wW (c1 := (55, [zR 9, zR 43], [])) 4 hz zp_110 (fh_110_18_52) (by rfl) ?_
  intro N5 hN5
  show zH n (0, 0) 26 (55, [zR 9, zR 43], []) N5 _
  refine zH_wW (c1 := (66, [zR 9, zR 43], [])) 4 hz zp_110 (fh_110_20_54) (by rfl) ?_
  intro N6 hN6
  show zH n (0, 0) 26 (66, [zR 9, zR 43], []) N6 _
  refine zH_wW (c1 := (77, [zR 9, zR 43], [])) 4 hz zp_110 (fh_110_22_56) (by rfl) ?_
  intro N7 hN7
  show zH n (0, 0) 26 (77, [zR 9, zR 43], []) N7 _
  refine zH_wW (c1 := (88, [zR 9, zR 43], [])) 4 hz zp_110 (fh_110_24_58) (by rfl) ?_
  intro N8 hN8
  show zH n (0, 0) 26 (88, [zR 9, zR 43], []) N8 _
  refine zH_w (c' := (104, [zR 9, zR 43], [])) 8 hz rfl ?_
  subst hN8
  subst hN7
  subst hN6
  subst hN5
  subst hN4
  subst hN3
  subst hN2
  subst hN1
  exact zH_ret hz rfl rfl ⟨rfl, hE.symm⟩
noncomputable def hf_166_8_L1 (M : zM) : Int × zM :=
  (if ¬ (hf_169 M 1 0 1) = 0 then (if ¬ (zband (zbshr (M 8 3) 1) 1) = 0 then (1, (hf_26_9_43 M)) else ((-3), M)) else ((-2), M))
set_option maxRecDepth 100000 in
theorem fh_166_8_L1 {n : Nat} {M : zM} : zH n (0, 0) 166 (0, zini [zR 8, .inl 1] 2, []) M (fun r M' => r = some (.inl (hf_166_8_L1 M).1) ∧ M' = (hf_166_8_L1 M).2) := by
  have hz := zp_166
  have hE : hf_166_8_L1 M = hf_166_8_L1 M := rfl
  show zH n (0, 0) 166 (0, [zR 8, .inl 1], []) M _
  refine zH_wE (c1 := (6, [zR 8, .inl 1], [])) 3 hz zp_169 (fh_169 1 0 1) (by rfl) ?_
  show zH n (0, 0) 166 (6, [zR 8, .inl 1], [.inl (hf_169 M 1 0 1)]) M _
  refine zH_wf_ne (pc := 6) (n' := 9) (t := 12) (L := [zR 8, .inl 1]) (st := []) (x := (hf_169 M 1 0 1)) 0 hz (by rfl) (fun hb => ?_) (fun hb => ?_)
  · have hE := hE.trans (if_pos hb)
    refine zH_wf_ne (pc := 20) (n' := 23) (t := 26) (L := [zR 8, .inl 1]) (st := []) (x := (zband (zbshr (M 8 3) 1) 1)) 6 hz (by rfl) (fun hb => ?_) (fun hb => ?_)
    · have hE := hE.trans (if_pos hb)
      refine zH_wE (c1 := (35, [zR 8, .inl 1], [zR 9])) 4 hz zp_176 (fh_176_8_L1) (by rfl) ?_
      show zH n (0, 0) 166 (35, [zR 8, .inl 1], [zR 43, zR 9]) M _
      refine zH_wW (c1 := (38, [zR 8, .inl 1], [])) 0 hz zp_26 (fh_26_9_43) (by rfl) ?_
      intro N1 hN1
      show zH n (0, 0) 166 (38, [zR 8, .inl 1], []) N1 _
      refine zH_w (c' := (39, [zR 8, .inl 1], [.inl 1])) 1 hz rfl ?_
      subst hN1
      exact zH_ret hz rfl rfl (hfinB hE)
    · have hE := hE.trans (if_neg hb)
      exact zH_wr (r := some (.inl (-3))) 1 hz (by rfl) (hfinB hE)
  · have hE := hE.trans (if_neg hb)
    exact zH_wr (r := some (.inl (-2))) 1 hz (by rfl) (hfinB hE)
theorem zcopy_oth {M : zM} {a b s e k i : Nat} (h : i ≠ b) : zcopy M a b s e k i = M i := by funext j; exact if_neg h
theorem zcopy_in {M : zM} {a b k j : Nat} (h : j < k) : zcopy M a b 0 0 k b j = M a j := by
  unfold zcopy
  rw [if_pos rfl, if_pos (by omega), show 0 + (j - 0) = j by omega]
section TO
variable {M : zM}
theorem hto_27_10 : (∀ i, i ≠ 27 → i ≠ 28 → hf_110_27_10 M i = M i) ∧ (M 27 0 = 14 → M 10 3 ≤ 14 → hf_110_27_10 M 27 3 = M 10 3) ∧ (∀ j, j < 56 → hf_110_27_10 M 28 j = M 11 j) := by
  have e : hf_110_27_10 M = zput (zcopy M 11 28 0 0 56) 27 3 (if M 27 0 < M 10 3 then M 27 0 else M 10 3) := by
    unfold hf_110_27_10
    rw [show zcopy M 11 28 (0 : Int).toNat (0 : Int).toNat ((if 56 < 56 then 56 else 56) : Int).toNat = zcopy M 11 28 0 0 56 from rfl, zcopy_oth (show 27 ≠ 28 by decide), zcopy_oth (show 10 ≠ 28 by decide)]
  rw [e]
  refine ⟨fun i h1 h2 => by rw [zput_oth h1, zcopy_oth h2], fun h1 h2 => by rw [qput_eq, if_neg (by omega)], fun j hj => by rw [qput_ne (by decide), zcopy_in hj]⟩
theorem hto_29_12 : (∀ i, i ≠ 29 → i ≠ 30 → hf_110_29_12 M i = M i) ∧ (M 29 0 = 20 → M 12 3 ≤ 20 → hf_110_29_12 M 29 3 = M 12 3) ∧ (∀ j, j < 60 → hf_110_29_12 M 30 j = M 13 j) := by
  have e : hf_110_29_12 M = zput (zcopy M 13 30 0 0 60) 29 3 (if M 29 0 < M 12 3 then M 29 0 else M 12 3) := by
    unfold hf_110_29_12
    rw [show zcopy M 13 30 (0 : Int).toNat (0 : Int).toNat ((if 60 < 60 then 60 else 60) : Int).toNat = zcopy M 13 30 0 0 60 from rfl, zcopy_oth (show 29 ≠ 30 by decide), zcopy_oth (show 12 ≠ 30 by decide)]
  rw [e]
  refine ⟨fun i h1 h2 => by rw [zput_oth h1, zcopy_oth h2], fun h1 h2 => by rw [qput_eq, if_neg (by omega)], fun j hj => by rw [qput_ne (by decide), zcopy_in hj]⟩
theorem hto_31_14 : (∀ i, i ≠ 31 → i ≠ 32 → hf_110_31_14 M i = M i) ∧ (M 31 0 = 4 → M 14 3 ≤ 4 → hf_110_31_14 M 31 3 = M 14 3) ∧ (∀ j, j < 8 → hf_110_31_14 M 32 j = M 15 j) := by
  have e : hf_110_31_14 M = zput (zcopy M 15 32 0 0 8) 31 3 (if M 31 0 < M 14 3 then M 31 0 else M 14 3) := by
    unfold hf_110_31_14
    rw [show zcopy M 15 32 (0 : Int).toNat (0 : Int).toNat ((if 8 < 8 then 8 else 8) : Int).toNat = zcopy M 15 32 0 0 8 from rfl, zcopy_oth (show 31 ≠ 32 by decide), zcopy_oth (show 14 ≠ 32 by decide)]
  rw [e]
  refine ⟨fun i h1 h2 => by rw [zput_oth h1, zcopy_oth h2], fun h1 h2 => by rw [qput_eq, if_neg (by omega)], fun j hj => by rw [qput_ne (by decide), zcopy_in hj]⟩
theorem hto_33_16 : (∀ i, i ≠ 33 → i ≠ 34 → hf_110_33_16 M i = M i) ∧ (M 33 0 = 40 → M 16 3 ≤ 40 → hf_110_33_16 M 33 3 = M 16 3) ∧ (∀ j, j < 200 → hf_110_33_16 M 34 j = M 17 j) := by
  have e : hf_110_33_16 M = zput (zcopy M 17 34 0 0 200) 33 3 (if M 33 0 < M 16 3 then M 33 0 else M 16 3) := by
    unfold hf_110_33_16
    rw [show zcopy M 17 34 (0 : Int).toNat (0 : Int).toNat ((if 200 < 200 then 200 else 200) : Int).toNat = zcopy M 17 34 0 0 200 from rfl, zcopy_oth (show 33 ≠ 34 by decide), zcopy_oth (show 16 ≠ 34 by decide)]
  rw [e]
  refine ⟨fun i h1 h2 => by rw [zput_oth h1, zcopy_oth h2], fun h1 h2 => by rw [qput_eq, if_neg (by omega)], fun j hj => by rw [qput_ne (by decide), zcopy_in hj]⟩
theorem hto_35_18 : (∀ i, i ≠ 35 → i ≠ 36 → hf_110_35_18 M i = M i) ∧ (M 35 0 = 250 → M 18 3 ≤ 250 → hf_110_35_18 M 35 3 = M 18 3) ∧ (∀ j, j < 2750 → hf_110_35_18 M 36 j = M 19 j) := by
  have e : hf_110_35_18 M = zput (zcopy M 19 36 0 0 2750) 35 3 (if M 35 0 < M 18 3 then M 35 0 else M 18 3) := by
    unfold hf_110_35_18
    rw [show zcopy M 19 36 (0 : Int).toNat (0 : Int).toNat ((if 2750 < 2750 then 2750 else 2750) : Int).toNat = zcopy M 19 36 0 0 2750 from rfl, zcopy_oth (show 35 ≠ 36 by decide), zcopy_oth (show 18 ≠ 36 by decide)]
  rw [e]
  refine ⟨fun i h1 h2 => by rw [zput_oth h1, zcopy_oth h2], fun h1 h2 => by rw [qput_eq, if_neg (by omega)], fun j hj => by rw [qput_ne (by decide), zcopy_in hj]⟩
theorem hto_37_20 : (∀ i, i ≠ 37 → i ≠ 38 → hf_110_37_20 M i = M i) ∧ (M 37 0 = 8 → M 20 3 ≤ 8 → hf_110_37_20 M 37 3 = M 20 3) ∧ (∀ j, j < 648 → hf_110_37_20 M 38 j = M 21 j) := by
  have e : hf_110_37_20 M = zput (zcopy M 21 38 0 0 648) 37 3 (if M 37 0 < M 20 3 then M 37 0 else M 20 3) := by
    unfold hf_110_37_20
    rw [show zcopy M 21 38 (0 : Int).toNat (0 : Int).toNat ((if 648 < 648 then 648 else 648) : Int).toNat = zcopy M 21 38 0 0 648 from rfl, zcopy_oth (show 37 ≠ 38 by decide), zcopy_oth (show 20 ≠ 38 by decide)]
  rw [e]
  refine ⟨fun i h1 h2 => by rw [zput_oth h1, zcopy_oth h2], fun h1 h2 => by rw [qput_eq, if_neg (by omega)], fun j hj => by rw [qput_ne (by decide), zcopy_in hj]⟩
theorem hto_39_22 : (∀ i, i ≠ 39 → i ≠ 40 → hf_110_39_22 M i = M i) ∧ (M 39 0 = 10 → M 22 3 ≤ 10 → hf_110_39_22 M 39 3 = M 22 3) ∧ (∀ j, j < 1640 → hf_110_39_22 M 40 j = M 23 j) := by
  have e : hf_110_39_22 M = zput (zcopy M 23 40 0 0 1640) 39 3 (if M 39 0 < M 22 3 then M 39 0 else M 22 3) := by
    unfold hf_110_39_22
    rw [show zcopy M 23 40 (0 : Int).toNat (0 : Int).toNat ((if 1640 < 1640 then 1640 else 1640) : Int).toNat = zcopy M 23 40 0 0 1640 from rfl, zcopy_oth (show 39 ≠ 40 by decide), zcopy_oth (show 22 ≠ 40 by decide)]
  rw [e]
  refine ⟨fun i h1 h2 => by rw [zput_oth h1, zcopy_oth h2], fun h1 h2 => by rw [qput_eq, if_neg (by omega)], fun j hj => by rw [qput_ne (by decide), zcopy_in hj]⟩
theorem hto_41_24 : (∀ i, i ≠ 41 → i ≠ 42 → hf_110_41_24 M i = M i) ∧ (M 41 0 = 12 → M 24 3 ≤ 12 → hf_110_41_24 M 41 3 = M 24 3) ∧ (∀ j, j < 24 → hf_110_41_24 M 42 j = M 25 j) := by
  have e : hf_110_41_24 M = zput (zcopy M 25 42 0 0 24) 41 3 (if M 41 0 < M 24 3 then M 41 0 else M 24 3) := by
    unfold hf_110_41_24
    rw [show zcopy M 25 42 (0 : Int).toNat (0 : Int).toNat ((if 24 < 24 then 24 else 24) : Int).toNat = zcopy M 25 42 0 0 24 from rfl, zcopy_oth (show 41 ≠ 42 by decide), zcopy_oth (show 24 ≠ 42 by decide)]
  rw [e]
  refine ⟨fun i h1 h2 => by rw [zput_oth h1, zcopy_oth h2], fun h1 h2 => by rw [qput_eq, if_neg (by omega)], fun j hj => by rw [qput_ne (by decide), zcopy_in hj]⟩
theorem hto_26_9 (l0 : M 27 0 = 14 ∧ M 10 3 ≤ 14) (l1 : M 29 0 = 20 ∧ M 12 3 ≤ 20) (l2 : M 31 0 = 4 ∧ M 14 3 ≤ 4) (l3 : M 33 0 = 40 ∧ M 16 3 ≤ 40) (l4 : M 35 0 = 250 ∧ M 18 3 ≤ 250) (l5 : M 37 0 = 8 ∧ M 20 3 ≤ 8) (l6 : M 39 0 = 10 ∧ M 22 3 ≤ 10) (l7 : M 41 0 = 12 ∧ M 24 3 ≤ 12) : (∀ i, (i < 26 ∨ 43 ≤ i) → hf_26_26_9 M i = M i) ∧ (hf_26_26_9 M 27 3 = M 10 3 ∧ hf_26_26_9 M 29 3 = M 12 3 ∧ hf_26_26_9 M 31 3 = M 14 3 ∧ hf_26_26_9 M 33 3 = M 16 3 ∧ hf_26_26_9 M 35 3 = M 18 3 ∧ hf_26_26_9 M 37 3 = M 20 3 ∧ hf_26_26_9 M 39 3 = M 22 3 ∧ hf_26_26_9 M 41 3 = M 24 3) ∧ ((∀ j, j < 56 → hf_26_26_9 M 28 j = M 11 j) ∧ (∀ j, j < 60 → hf_26_26_9 M 30 j = M 13 j) ∧ (∀ j, j < 8 → hf_26_26_9 M 32 j = M 15 j) ∧ (∀ j, j < 200 → hf_26_26_9 M 34 j = M 17 j) ∧ (∀ j, j < 2750 → hf_26_26_9 M 36 j = M 19 j) ∧ (∀ j, j < 648 → hf_26_26_9 M 38 j = M 21 j) ∧ (∀ j, j < 1640 → hf_26_26_9 M 40 j = M 23 j) ∧ (∀ j, j < 24 → hf_26_26_9 M 42 j = M 25 j)) ∧ hf_26_26_9 M 26 8 = M 9 8 ∧ hf_26_26_9 M 26 9 = M 9 9 := by
  have p0 : ∀ i, (i ≤ 26 ∨ 27 ≤ i) → M i = M i := fun _ _ => rfl
  obtain ⟨N1, hN1⟩ : ∃ X, X = hf_110_27_10 M := ⟨_, rfl⟩
  have o1 := hto_27_10 (M := M)
  rw [← hN1] at o1
  have p1 : ∀ i, (i ≤ 26 ∨ 29 ≤ i) → N1 i = M i := fun i hi => (o1.1 i (by omega) (by omega)).trans (p0 i (by omega))
  have u1 : N1 27 3 = M 10 3 := (o1.2.1 ((congrFun (p0 27 (by omega)) 0).trans l0.1) (by rw [p0 10 (by omega)]; exact l0.2)).trans (congrFun (p0 10 (by omega)) 3)
  have c1 : ∀ j, j < 56 → N1 28 j = M 11 j := fun j hj => (o1.2.2 j hj).trans (congrFun (p0 11 (by omega)) j)
  obtain ⟨N2, hN2⟩ : ∃ X, X = hf_110_29_12 N1 := ⟨_, rfl⟩
  have o2 := hto_29_12 (M := N1)
  rw [← hN2] at o2
  have p2 : ∀ i, (i ≤ 26 ∨ 31 ≤ i) → N2 i = M i := fun i hi => (o2.1 i (by omega) (by omega)).trans (p1 i (by omega))
  have u2 : N2 29 3 = M 12 3 := (o2.2.1 ((congrFun (p1 29 (by omega)) 0).trans l1.1) (by rw [p1 12 (by omega)]; exact l1.2)).trans (congrFun (p1 12 (by omega)) 3)
  have c2 : ∀ j, j < 60 → N2 30 j = M 13 j := fun j hj => (o2.2.2 j hj).trans (congrFun (p1 13 (by omega)) j)
  obtain ⟨N3, hN3⟩ : ∃ X, X = hf_110_31_14 N2 := ⟨_, rfl⟩
  have o3 := hto_31_14 (M := N2)
  rw [← hN3] at o3
  have p3 : ∀ i, (i ≤ 26 ∨ 33 ≤ i) → N3 i = M i := fun i hi => (o3.1 i (by omega) (by omega)).trans (p2 i (by omega))
  have u3 : N3 31 3 = M 14 3 := (o3.2.1 ((congrFun (p2 31 (by omega)) 0).trans l2.1) (by rw [p2 14 (by omega)]; exact l2.2)).trans (congrFun (p2 14 (by omega)) 3)
  have c3 : ∀ j, j < 8 → N3 32 j = M 15 j := fun j hj => (o3.2.2 j hj).trans (congrFun (p2 15 (by omega)) j)
  obtain ⟨N4, hN4⟩ : ∃ X, X = hf_110_33_16 N3 := ⟨_, rfl⟩
  have o4 := hto_33_16 (M := N3)
  rw [← hN4] at o4
  have p4 : ∀ i, (i ≤ 26 ∨ 35 ≤ i) → N4 i = M i := fun i hi => (o4.1 i (by omega) (by omega)).trans (p3 i (by omega))
  have u4 : N4 33 3 = M 16 3 := (o4.2.1 ((congrFun (p3 33 (by omega)) 0).trans l3.1) (by rw [p3 16 (by omega)]; exact l3.2)).trans (congrFun (p3 16 (by omega)) 3)
  have c4 : ∀ j, j < 200 → N4 34 j = M 17 j := fun j hj => (o4.2.2 j hj).trans (congrFun (p3 17 (by omega)) j)
  obtain ⟨N5, hN5⟩ : ∃ X, X = hf_110_35_18 N4 := ⟨_, rfl⟩
  have o5 := hto_35_18 (M := N4)
  rw [← hN5] at o5
  have p5 : ∀ i, (i ≤ 26 ∨ 37 ≤ i) → N5 i = M i := fun i hi => (o5.1 i (by omega) (by omega)).trans (p4 i (by omega))
  have u5 : N5 35 3 = M 18 3 := (o5.2.1 ((congrFun (p4 35 (by omega)) 0).trans l4.1) (by rw [p4 18 (by omega)]; exact l4.2)).trans (congrFun (p4 18 (by omega)) 3)
  have c5 : ∀ j, j < 2750 → N5 36 j = M 19 j := fun j hj => (o5.2.2 j hj).trans (congrFun (p4 19 (by omega)) j)
  obtain ⟨N6, hN6⟩ : ∃ X, X = hf_110_37_20 N5 := ⟨_, rfl⟩
  have o6 := hto_37_20 (M := N5)
  rw [← hN6] at o6
  have p6 : ∀ i, (i ≤ 26 ∨ 39 ≤ i) → N6 i = M i := fun i hi => (o6.1 i (by omega) (by omega)).trans (p5 i (by omega))
  have u6 : N6 37 3 = M 20 3 := (o6.2.1 ((congrFun (p5 37 (by omega)) 0).trans l5.1) (by rw [p5 20 (by omega)]; exact l5.2)).trans (congrFun (p5 20 (by omega)) 3)
  have c6 : ∀ j, j < 648 → N6 38 j = M 21 j := fun j hj => (o6.2.2 j hj).trans (congrFun (p5 21 (by omega)) j)
  obtain ⟨N7, hN7⟩ : ∃ X, X = hf_110_39_22 N6 := ⟨_, rfl⟩
  have o7 := hto_39_22 (M := N6)
  rw [← hN7] at o7
  have p7 : ∀ i, (i ≤ 26 ∨ 41 ≤ i) → N7 i = M i := fun i hi => (o7.1 i (by omega) (by omega)).trans (p6 i (by omega))
  have u7 : N7 39 3 = M 22 3 := (o7.2.1 ((congrFun (p6 39 (by omega)) 0).trans l6.1) (by rw [p6 22 (by omega)]; exact l6.2)).trans (congrFun (p6 22 (by omega)) 3)
  have c7 : ∀ j, j < 1640 → N7 40 j = M 23 j := fun j hj => (o7.2.2 j hj).trans (congrFun (p6 23 (by omega)) j)
  obtain ⟨N8, hN8⟩ : ∃ X, X = hf_110_41_24 N7 := ⟨_, rfl⟩
  have o8 := hto_41_24 (M := N7)
  rw [← hN8] at o8
  have p8 : ∀ i, (i ≤ 26 ∨ 43 ≤ i) → N8 i = M i := fun i hi => (o8.1 i (by omega) (by omega)).trans (p7 i (by omega))
  have u8 : N8 41 3 = M 24 3 := (o8.2.1 ((congrFun (p7 41 (by omega)) 0).trans l7.1) (by rw [p7 24 (by omega)]; exact l7.2)).trans (congrFun (p7 24 (by omega)) 3)
  have c8 : ∀ j, j < 24 → N8 42 j = M 25 j := fun j hj => (o8.2.2 j hj).trans (congrFun (p7 25 (by omega)) j)
  have e : hf_26_26_9 M = zput (zput N8 26 8 (N8 9 8)) 26 9 ((zput N8 26 8 (N8 9 8)) 9 9) := by
    unfold hf_26_26_9
    rw [← hN1, ← hN2, ← hN3, ← hN4, ← hN5, ← hN6, ← hN7, ← hN8]
  have f8 : ∀ i, i ≠ 26 → hf_26_26_9 M i = N8 i := fun i hi => by rw [e, zput_oth hi, zput_oth hi]
  refine ⟨fun i hi => (f8 i (by omega)).trans (p8 i (by omega)), ⟨(congrFun ((f8 27 (by decide)).trans ((o8.1 27 (by decide) (by decide)).trans ((o7.1 27 (by decide) (by decide)).trans ((o6.1 27 (by decide) (by decide)).trans ((o5.1 27 (by decide) (by decide)).trans ((o4.1 27 (by decide) (by decide)).trans ((o3.1 27 (by decide) (by decide)).trans (o2.1 27 (by decide) (by decide))))))))) 3).trans u1, (congrFun ((f8 29 (by decide)).trans ((o8.1 29 (by decide) (by decide)).trans ((o7.1 29 (by decide) (by decide)).trans ((o6.1 29 (by decide) (by decide)).trans ((o5.1 29 (by decide) (by decide)).trans ((o4.1 29 (by decide) (by decide)).trans (o3.1 29 (by decide) (by decide)))))))) 3).trans u2, (congrFun ((f8 31 (by decide)).trans ((o8.1 31 (by decide) (by decide)).trans ((o7.1 31 (by decide) (by decide)).trans ((o6.1 31 (by decide) (by decide)).trans ((o5.1 31 (by decide) (by decide)).trans (o4.1 31 (by decide) (by decide))))))) 3).trans u3, (congrFun ((f8 33 (by decide)).trans ((o8.1 33 (by decide) (by decide)).trans ((o7.1 33 (by decide) (by decide)).trans ((o6.1 33 (by decide) (by decide)).trans (o5.1 33 (by decide) (by decide)))))) 3).trans u4, (congrFun ((f8 35 (by decide)).trans ((o8.1 35 (by decide) (by decide)).trans ((o7.1 35 (by decide) (by decide)).trans (o6.1 35 (by decide) (by decide))))) 3).trans u5, (congrFun ((f8 37 (by decide)).trans ((o8.1 37 (by decide) (by decide)).trans (o7.1 37 (by decide) (by decide)))) 3).trans u6, (congrFun ((f8 39 (by decide)).trans (o8.1 39 (by decide) (by decide))) 3).trans u7, (congrFun ((f8 41 (by decide)).trans rfl) 3).trans u8⟩, ⟨fun j hj => (congrFun ((f8 28 (by decide)).trans ((o8.1 28 (by decide) (by decide)).trans ((o7.1 28 (by decide) (by decide)).trans ((o6.1 28 (by decide) (by decide)).trans ((o5.1 28 (by decide) (by decide)).trans ((o4.1 28 (by decide) (by decide)).trans ((o3.1 28 (by decide) (by decide)).trans (o2.1 28 (by decide) (by decide))))))))) j).trans (c1 j hj), fun j hj => (congrFun ((f8 30 (by decide)).trans ((o8.1 30 (by decide) (by decide)).trans ((o7.1 30 (by decide) (by decide)).trans ((o6.1 30 (by decide) (by decide)).trans ((o5.1 30 (by decide) (by decide)).trans ((o4.1 30 (by decide) (by decide)).trans (o3.1 30 (by decide) (by decide)))))))) j).trans (c2 j hj), fun j hj => (congrFun ((f8 32 (by decide)).trans ((o8.1 32 (by decide) (by decide)).trans ((o7.1 32 (by decide) (by decide)).trans ((o6.1 32 (by decide) (by decide)).trans ((o5.1 32 (by decide) (by decide)).trans (o4.1 32 (by decide) (by decide))))))) j).trans (c3 j hj), fun j hj => (congrFun ((f8 34 (by decide)).trans ((o8.1 34 (by decide) (by decide)).trans ((o7.1 34 (by decide) (by decide)).trans ((o6.1 34 (by decide) (by decide)).trans (o5.1 34 (by decide) (by decide)))))) j).trans (c4 j hj), fun j hj => (congrFun ((f8 36 (by decide)).trans ((o8.1 36 (by decide) (by decide)).trans ((o7.1 36 (by decide) (by decide)).trans (o6.1 36 (by decide) (by decide))))) j).trans (c5 j hj), fun j hj => (congrFun ((f8 38 (by decide)).trans ((o8.1 38 (by decide) (by decide)).trans (o7.1 38 (by decide) (by decide)))) j).trans (c6 j hj), fun j hj => (congrFun ((f8 40 (by decide)).trans (o8.1 40 (by decide) (by decide))) j).trans (c7 j hj), fun j hj => (congrFun ((f8 42 (by decide)).trans rfl) j).trans (c8 j hj)⟩, ?_, ?_⟩
  · rw [e, qput_nk (by decide), qput_eq]; exact congrFun (p8 9 (by omega)) 8
  · rw [e, qput_eq, qput_ne (by decide)]; exact congrFun (p8 9 (by omega)) 9
end TO
section TO
variable {M : zM}
theorem hto_44_10 : (∀ i, i ≠ 44 → i ≠ 45 → hf_110_44_10 M i = M i) ∧ (M 44 0 = 14 → M 10 3 ≤ 14 → hf_110_44_10 M 44 3 = M 10 3) ∧ (∀ j, j < 56 → hf_110_44_10 M 45 j = M 11 j) := by
  have e : hf_110_44_10 M = zput (zcopy M 11 45 0 0 56) 44 3 (if M 44 0 < M 10 3 then M 44 0 else M 10 3) := by
    unfold hf_110_44_10
    rw [show zcopy M 11 45 (0 : Int).toNat (0 : Int).toNat ((if 56 < 56 then 56 else 56) : Int).toNat = zcopy M 11 45 0 0 56 from rfl, zcopy_oth (show 44 ≠ 45 by decide), zcopy_oth (show 10 ≠ 45 by decide)]
  rw [e]
  refine ⟨fun i h1 h2 => by rw [zput_oth h1, zcopy_oth h2], fun h1 h2 => by rw [qput_eq, if_neg (by omega)], fun j hj => by rw [qput_ne (by decide), zcopy_in hj]⟩
theorem hto_46_12 : (∀ i, i ≠ 46 → i ≠ 47 → hf_110_46_12 M i = M i) ∧ (M 46 0 = 20 → M 12 3 ≤ 20 → hf_110_46_12 M 46 3 = M 12 3) ∧ (∀ j, j < 60 → hf_110_46_12 M 47 j = M 13 j) := by
  have e : hf_110_46_12 M = zput (zcopy M 13 47 0 0 60) 46 3 (if M 46 0 < M 12 3 then M 46 0 else M 12 3) := by
    unfold hf_110_46_12
    rw [show zcopy M 13 47 (0 : Int).toNat (0 : Int).toNat ((if 60 < 60 then 60 else 60) : Int).toNat = zcopy M 13 47 0 0 60 from rfl, zcopy_oth (show 46 ≠ 47 by decide), zcopy_oth (show 12 ≠ 47 by decide)]
  rw [e]
  refine ⟨fun i h1 h2 => by rw [zput_oth h1, zcopy_oth h2], fun h1 h2 => by rw [qput_eq, if_neg (by omega)], fun j hj => by rw [qput_ne (by decide), zcopy_in hj]⟩
theorem hto_48_14 : (∀ i, i ≠ 48 → i ≠ 49 → hf_110_48_14 M i = M i) ∧ (M 48 0 = 4 → M 14 3 ≤ 4 → hf_110_48_14 M 48 3 = M 14 3) ∧ (∀ j, j < 8 → hf_110_48_14 M 49 j = M 15 j) := by
  have e : hf_110_48_14 M = zput (zcopy M 15 49 0 0 8) 48 3 (if M 48 0 < M 14 3 then M 48 0 else M 14 3) := by
    unfold hf_110_48_14
    rw [show zcopy M 15 49 (0 : Int).toNat (0 : Int).toNat ((if 8 < 8 then 8 else 8) : Int).toNat = zcopy M 15 49 0 0 8 from rfl, zcopy_oth (show 48 ≠ 49 by decide), zcopy_oth (show 14 ≠ 49 by decide)]
  rw [e]
  refine ⟨fun i h1 h2 => by rw [zput_oth h1, zcopy_oth h2], fun h1 h2 => by rw [qput_eq, if_neg (by omega)], fun j hj => by rw [qput_ne (by decide), zcopy_in hj]⟩
theorem hto_50_16 : (∀ i, i ≠ 50 → i ≠ 51 → hf_110_50_16 M i = M i) ∧ (M 50 0 = 40 → M 16 3 ≤ 40 → hf_110_50_16 M 50 3 = M 16 3) ∧ (∀ j, j < 200 → hf_110_50_16 M 51 j = M 17 j) := by
  have e : hf_110_50_16 M = zput (zcopy M 17 51 0 0 200) 50 3 (if M 50 0 < M 16 3 then M 50 0 else M 16 3) := by
    unfold hf_110_50_16
    rw [show zcopy M 17 51 (0 : Int).toNat (0 : Int).toNat ((if 200 < 200 then 200 else 200) : Int).toNat = zcopy M 17 51 0 0 200 from rfl, zcopy_oth (show 50 ≠ 51 by decide), zcopy_oth (show 16 ≠ 51 by decide)]
  rw [e]
  refine ⟨fun i h1 h2 => by rw [zput_oth h1, zcopy_oth h2], fun h1 h2 => by rw [qput_eq, if_neg (by omega)], fun j hj => by rw [qput_ne (by decide), zcopy_in hj]⟩
theorem hto_52_18 : (∀ i, i ≠ 52 → i ≠ 53 → hf_110_52_18 M i = M i) ∧ (M 52 0 = 250 → M 18 3 ≤ 250 → hf_110_52_18 M 52 3 = M 18 3) ∧ (∀ j, j < 2750 → hf_110_52_18 M 53 j = M 19 j) := by
  have e : hf_110_52_18 M = zput (zcopy M 19 53 0 0 2750) 52 3 (if M 52 0 < M 18 3 then M 52 0 else M 18 3) := by
    unfold hf_110_52_18
    rw [show zcopy M 19 53 (0 : Int).toNat (0 : Int).toNat ((if 2750 < 2750 then 2750 else 2750) : Int).toNat = zcopy M 19 53 0 0 2750 from rfl, zcopy_oth (show 52 ≠ 53 by decide), zcopy_oth (show 18 ≠ 53 by decide)]
  rw [e]
  refine ⟨fun i h1 h2 => by rw [zput_oth h1, zcopy_oth h2], fun h1 h2 => by rw [qput_eq, if_neg (by omega)], fun j hj => by rw [qput_ne (by decide), zcopy_in hj]⟩
theorem hto_54_20 : (∀ i, i ≠ 54 → i ≠ 55 → hf_110_54_20 M i = M i) ∧ (M 54 0 = 8 → M 20 3 ≤ 8 → hf_110_54_20 M 54 3 = M 20 3) ∧ (∀ j, j < 648 → hf_110_54_20 M 55 j = M 21 j) := by
  have e : hf_110_54_20 M = zput (zcopy M 21 55 0 0 648) 54 3 (if M 54 0 < M 20 3 then M 54 0 else M 20 3) := by
    unfold hf_110_54_20
    rw [show zcopy M 21 55 (0 : Int).toNat (0 : Int).toNat ((if 648 < 648 then 648 else 648) : Int).toNat = zcopy M 21 55 0 0 648 from rfl, zcopy_oth (show 54 ≠ 55 by decide), zcopy_oth (show 20 ≠ 55 by decide)]
  rw [e]
  refine ⟨fun i h1 h2 => by rw [zput_oth h1, zcopy_oth h2], fun h1 h2 => by rw [qput_eq, if_neg (by omega)], fun j hj => by rw [qput_ne (by decide), zcopy_in hj]⟩
theorem hto_56_22 : (∀ i, i ≠ 56 → i ≠ 57 → hf_110_56_22 M i = M i) ∧ (M 56 0 = 10 → M 22 3 ≤ 10 → hf_110_56_22 M 56 3 = M 22 3) ∧ (∀ j, j < 1640 → hf_110_56_22 M 57 j = M 23 j) := by
  have e : hf_110_56_22 M = zput (zcopy M 23 57 0 0 1640) 56 3 (if M 56 0 < M 22 3 then M 56 0 else M 22 3) := by
    unfold hf_110_56_22
    rw [show zcopy M 23 57 (0 : Int).toNat (0 : Int).toNat ((if 1640 < 1640 then 1640 else 1640) : Int).toNat = zcopy M 23 57 0 0 1640 from rfl, zcopy_oth (show 56 ≠ 57 by decide), zcopy_oth (show 22 ≠ 57 by decide)]
  rw [e]
  refine ⟨fun i h1 h2 => by rw [zput_oth h1, zcopy_oth h2], fun h1 h2 => by rw [qput_eq, if_neg (by omega)], fun j hj => by rw [qput_ne (by decide), zcopy_in hj]⟩
theorem hto_58_24 : (∀ i, i ≠ 58 → i ≠ 59 → hf_110_58_24 M i = M i) ∧ (M 58 0 = 12 → M 24 3 ≤ 12 → hf_110_58_24 M 58 3 = M 24 3) ∧ (∀ j, j < 24 → hf_110_58_24 M 59 j = M 25 j) := by
  have e : hf_110_58_24 M = zput (zcopy M 25 59 0 0 24) 58 3 (if M 58 0 < M 24 3 then M 58 0 else M 24 3) := by
    unfold hf_110_58_24
    rw [show zcopy M 25 59 (0 : Int).toNat (0 : Int).toNat ((if 24 < 24 then 24 else 24) : Int).toNat = zcopy M 25 59 0 0 24 from rfl, zcopy_oth (show 58 ≠ 59 by decide), zcopy_oth (show 24 ≠ 59 by decide)]
  rw [e]
  refine ⟨fun i h1 h2 => by rw [zput_oth h1, zcopy_oth h2], fun h1 h2 => by rw [qput_eq, if_neg (by omega)], fun j hj => by rw [qput_ne (by decide), zcopy_in hj]⟩
theorem hto_43_9 (l0 : M 44 0 = 14 ∧ M 10 3 ≤ 14) (l1 : M 46 0 = 20 ∧ M 12 3 ≤ 20) (l2 : M 48 0 = 4 ∧ M 14 3 ≤ 4) (l3 : M 50 0 = 40 ∧ M 16 3 ≤ 40) (l4 : M 52 0 = 250 ∧ M 18 3 ≤ 250) (l5 : M 54 0 = 8 ∧ M 20 3 ≤ 8) (l6 : M 56 0 = 10 ∧ M 22 3 ≤ 10) (l7 : M 58 0 = 12 ∧ M 24 3 ≤ 12) : (∀ i, (i < 43 ∨ 60 ≤ i) → hf_26_43_9 M i = M i) ∧ (hf_26_43_9 M 44 3 = M 10 3 ∧ hf_26_43_9 M 46 3 = M 12 3 ∧ hf_26_43_9 M 48 3 = M 14 3 ∧ hf_26_43_9 M 50 3 = M 16 3 ∧ hf_26_43_9 M 52 3 = M 18 3 ∧ hf_26_43_9 M 54 3 = M 20 3 ∧ hf_26_43_9 M 56 3 = M 22 3 ∧ hf_26_43_9 M 58 3 = M 24 3) ∧ ((∀ j, j < 56 → hf_26_43_9 M 45 j = M 11 j) ∧ (∀ j, j < 60 → hf_26_43_9 M 47 j = M 13 j) ∧ (∀ j, j < 8 → hf_26_43_9 M 49 j = M 15 j) ∧ (∀ j, j < 200 → hf_26_43_9 M 51 j = M 17 j) ∧ (∀ j, j < 2750 → hf_26_43_9 M 53 j = M 19 j) ∧ (∀ j, j < 648 → hf_26_43_9 M 55 j = M 21 j) ∧ (∀ j, j < 1640 → hf_26_43_9 M 57 j = M 23 j) ∧ (∀ j, j < 24 → hf_26_43_9 M 59 j = M 25 j)) ∧ hf_26_43_9 M 43 8 = M 9 8 ∧ hf_26_43_9 M 43 9 = M 9 9 := by
  have p0 : ∀ i, (i ≤ 43 ∨ 44 ≤ i) → M i = M i := fun _ _ => rfl
  obtain ⟨N1, hN1⟩ : ∃ X, X = hf_110_44_10 M := ⟨_, rfl⟩
  have o1 := hto_44_10 (M := M)
  rw [← hN1] at o1
  have p1 : ∀ i, (i ≤ 43 ∨ 46 ≤ i) → N1 i = M i := fun i hi => (o1.1 i (by omega) (by omega)).trans (p0 i (by omega))
  have u1 : N1 44 3 = M 10 3 := (o1.2.1 ((congrFun (p0 44 (by omega)) 0).trans l0.1) (by rw [p0 10 (by omega)]; exact l0.2)).trans (congrFun (p0 10 (by omega)) 3)
  have c1 : ∀ j, j < 56 → N1 45 j = M 11 j := fun j hj => (o1.2.2 j hj).trans (congrFun (p0 11 (by omega)) j)
  obtain ⟨N2, hN2⟩ : ∃ X, X = hf_110_46_12 N1 := ⟨_, rfl⟩
  have o2 := hto_46_12 (M := N1)
  rw [← hN2] at o2
  have p2 : ∀ i, (i ≤ 43 ∨ 48 ≤ i) → N2 i = M i := fun i hi => (o2.1 i (by omega) (by omega)).trans (p1 i (by omega))
  have u2 : N2 46 3 = M 12 3 := (o2.2.1 ((congrFun (p1 46 (by omega)) 0).trans l1.1) (by rw [p1 12 (by omega)]; exact l1.2)).trans (congrFun (p1 12 (by omega)) 3)
  have c2 : ∀ j, j < 60 → N2 47 j = M 13 j := fun j hj => (o2.2.2 j hj).trans (congrFun (p1 13 (by omega)) j)
  obtain ⟨N3, hN3⟩ : ∃ X, X = hf_110_48_14 N2 := ⟨_, rfl⟩
  have o3 := hto_48_14 (M := N2)
  rw [← hN3] at o3
  have p3 : ∀ i, (i ≤ 43 ∨ 50 ≤ i) → N3 i = M i := fun i hi => (o3.1 i (by omega) (by omega)).trans (p2 i (by omega))
  have u3 : N3 48 3 = M 14 3 := (o3.2.1 ((congrFun (p2 48 (by omega)) 0).trans l2.1) (by rw [p2 14 (by omega)]; exact l2.2)).trans (congrFun (p2 14 (by omega)) 3)
  have c3 : ∀ j, j < 8 → N3 49 j = M 15 j := fun j hj => (o3.2.2 j hj).trans (congrFun (p2 15 (by omega)) j)
  obtain ⟨N4, hN4⟩ : ∃ X, X = hf_110_50_16 N3 := ⟨_, rfl⟩
  have o4 := hto_50_16 (M := N3)
  rw [← hN4] at o4
  have p4 : ∀ i, (i ≤ 43 ∨ 52 ≤ i) → N4 i = M i := fun i hi => (o4.1 i (by omega) (by omega)).trans (p3 i (by omega))
  have u4 : N4 50 3 = M 16 3 := (o4.2.1 ((congrFun (p3 50 (by omega)) 0).trans l3.1) (by rw [p3 16 (by omega)]; exact l3.2)).trans (congrFun (p3 16 (by omega)) 3)
  have c4 : ∀ j, j < 200 → N4 51 j = M 17 j := fun j hj => (o4.2.2 j hj).trans (congrFun (p3 17 (by omega)) j)
  obtain ⟨N5, hN5⟩ : ∃ X, X = hf_110_52_18 N4 := ⟨_, rfl⟩
  have o5 := hto_52_18 (M := N4)
  rw [← hN5] at o5
  have p5 : ∀ i, (i ≤ 43 ∨ 54 ≤ i) → N5 i = M i := fun i hi => (o5.1 i (by omega) (by omega)).trans (p4 i (by omega))
  have u5 : N5 52 3 = M 18 3 := (o5.2.1 ((congrFun (p4 52 (by omega)) 0).trans l4.1) (by rw [p4 18 (by omega)]; exact l4.2)).trans (congrFun (p4 18 (by omega)) 3)
  have c5 : ∀ j, j < 2750 → N5 53 j = M 19 j := fun j hj => (o5.2.2 j hj).trans (congrFun (p4 19 (by omega)) j)
  obtain ⟨N6, hN6⟩ : ∃ X, X = hf_110_54_20 N5 := ⟨_, rfl⟩
  have o6 := hto_54_20 (M := N5)
  rw [← hN6] at o6
  have p6 : ∀ i, (i ≤ 43 ∨ 56 ≤ i) → N6 i = M i := fun i hi => (o6.1 i (by omega) (by omega)).trans (p5 i (by omega))
  have u6 : N6 54 3 = M 20 3 := (o6.2.1 ((congrFun (p5 54 (by omega)) 0).trans l5.1) (by rw [p5 20 (by omega)]; exact l5.2)).trans (congrFun (p5 20 (by omega)) 3)
  have c6 : ∀ j, j < 648 → N6 55 j = M 21 j := fun j hj => (o6.2.2 j hj).trans (congrFun (p5 21 (by omega)) j)
  obtain ⟨N7, hN7⟩ : ∃ X, X = hf_110_56_22 N6 := ⟨_, rfl⟩
  have o7 := hto_56_22 (M := N6)
  rw [← hN7] at o7
  have p7 : ∀ i, (i ≤ 43 ∨ 58 ≤ i) → N7 i = M i := fun i hi => (o7.1 i (by omega) (by omega)).trans (p6 i (by omega))
  have u7 : N7 56 3 = M 22 3 := (o7.2.1 ((congrFun (p6 56 (by omega)) 0).trans l6.1) (by rw [p6 22 (by omega)]; exact l6.2)).trans (congrFun (p6 22 (by omega)) 3)
  have c7 : ∀ j, j < 1640 → N7 57 j = M 23 j := fun j hj => (o7.2.2 j hj).trans (congrFun (p6 23 (by omega)) j)
  obtain ⟨N8, hN8⟩ : ∃ X, X = hf_110_58_24 N7 := ⟨_, rfl⟩
  have o8 := hto_58_24 (M := N7)
  rw [← hN8] at o8
  have p8 : ∀ i, (i ≤ 43 ∨ 60 ≤ i) → N8 i = M i := fun i hi => (o8.1 i (by omega) (by omega)).trans (p7 i (by omega))
  have u8 : N8 58 3 = M 24 3 := (o8.2.1 ((congrFun (p7 58 (by omega)) 0).trans l7.1) (by rw [p7 24 (by omega)]; exact l7.2)).trans (congrFun (p7 24 (by omega)) 3)
  have c8 : ∀ j, j < 24 → N8 59 j = M 25 j := fun j hj => (o8.2.2 j hj).trans (congrFun (p7 25 (by omega)) j)
  have e : hf_26_43_9 M = zput (zput N8 43 8 (N8 9 8)) 43 9 ((zput N8 43 8 (N8 9 8)) 9 9) := by
    unfold hf_26_43_9
    rw [← hN1, ← hN2, ← hN3, ← hN4, ← hN5, ← hN6, ← hN7, ← hN8]
  have f8 : ∀ i, i ≠ 43 → hf_26_43_9 M i = N8 i := fun i hi => by rw [e, zput_oth hi, zput_oth hi]
  refine ⟨fun i hi => (f8 i (by omega)).trans (p8 i (by omega)), ⟨(congrFun ((f8 44 (by decide)).trans ((o8.1 44 (by decide) (by decide)).trans ((o7.1 44 (by decide) (by decide)).trans ((o6.1 44 (by decide) (by decide)).trans ((o5.1 44 (by decide) (by decide)).trans ((o4.1 44 (by decide) (by decide)).trans ((o3.1 44 (by decide) (by decide)).trans (o2.1 44 (by decide) (by decide))))))))) 3).trans u1, (congrFun ((f8 46 (by decide)).trans ((o8.1 46 (by decide) (by decide)).trans ((o7.1 46 (by decide) (by decide)).trans ((o6.1 46 (by decide) (by decide)).trans ((o5.1 46 (by decide) (by decide)).trans ((o4.1 46 (by decide) (by decide)).trans (o3.1 46 (by decide) (by decide)))))))) 3).trans u2, (congrFun ((f8 48 (by decide)).trans ((o8.1 48 (by decide) (by decide)).trans ((o7.1 48 (by decide) (by decide)).trans ((o6.1 48 (by decide) (by decide)).trans ((o5.1 48 (by decide) (by decide)).trans (o4.1 48 (by decide) (by decide))))))) 3).trans u3, (congrFun ((f8 50 (by decide)).trans ((o8.1 50 (by decide) (by decide)).trans ((o7.1 50 (by decide) (by decide)).trans ((o6.1 50 (by decide) (by decide)).trans (o5.1 50 (by decide) (by decide)))))) 3).trans u4, (congrFun ((f8 52 (by decide)).trans ((o8.1 52 (by decide) (by decide)).trans ((o7.1 52 (by decide) (by decide)).trans (o6.1 52 (by decide) (by decide))))) 3).trans u5, (congrFun ((f8 54 (by decide)).trans ((o8.1 54 (by decide) (by decide)).trans (o7.1 54 (by decide) (by decide)))) 3).trans u6, (congrFun ((f8 56 (by decide)).trans (o8.1 56 (by decide) (by decide))) 3).trans u7, (congrFun ((f8 58 (by decide)).trans rfl) 3).trans u8⟩, ⟨fun j hj => (congrFun ((f8 45 (by decide)).trans ((o8.1 45 (by decide) (by decide)).trans ((o7.1 45 (by decide) (by decide)).trans ((o6.1 45 (by decide) (by decide)).trans ((o5.1 45 (by decide) (by decide)).trans ((o4.1 45 (by decide) (by decide)).trans ((o3.1 45 (by decide) (by decide)).trans (o2.1 45 (by decide) (by decide))))))))) j).trans (c1 j hj), fun j hj => (congrFun ((f8 47 (by decide)).trans ((o8.1 47 (by decide) (by decide)).trans ((o7.1 47 (by decide) (by decide)).trans ((o6.1 47 (by decide) (by decide)).trans ((o5.1 47 (by decide) (by decide)).trans ((o4.1 47 (by decide) (by decide)).trans (o3.1 47 (by decide) (by decide)))))))) j).trans (c2 j hj), fun j hj => (congrFun ((f8 49 (by decide)).trans ((o8.1 49 (by decide) (by decide)).trans ((o7.1 49 (by decide) (by decide)).trans ((o6.1 49 (by decide) (by decide)).trans ((o5.1 49 (by decide) (by decide)).trans (o4.1 49 (by decide) (by decide))))))) j).trans (c3 j hj), fun j hj => (congrFun ((f8 51 (by decide)).trans ((o8.1 51 (by decide) (by decide)).trans ((o7.1 51 (by decide) (by decide)).trans ((o6.1 51 (by decide) (by decide)).trans (o5.1 51 (by decide) (by decide)))))) j).trans (c4 j hj), fun j hj => (congrFun ((f8 53 (by decide)).trans ((o8.1 53 (by decide) (by decide)).trans ((o7.1 53 (by decide) (by decide)).trans (o6.1 53 (by decide) (by decide))))) j).trans (c5 j hj), fun j hj => (congrFun ((f8 55 (by decide)).trans ((o8.1 55 (by decide) (by decide)).trans (o7.1 55 (by decide) (by decide)))) j).trans (c6 j hj), fun j hj => (congrFun ((f8 57 (by decide)).trans (o8.1 57 (by decide) (by decide))) j).trans (c7 j hj), fun j hj => (congrFun ((f8 59 (by decide)).trans rfl) j).trans (c8 j hj)⟩, ?_, ?_⟩
  · rw [e, qput_nk (by decide), qput_eq]; exact congrFun (p8 9 (by omega)) 8
  · rw [e, qput_eq, qput_ne (by decide)]; exact congrFun (p8 9 (by omega)) 9
end TO
section TO
variable {M : zM}
theorem hto_10_27 : (∀ i, i ≠ 10 → i ≠ 11 → hf_110_10_27 M i = M i) ∧ (M 10 0 = 14 → M 27 3 ≤ 14 → hf_110_10_27 M 10 3 = M 27 3) ∧ (∀ j, j < 56 → hf_110_10_27 M 11 j = M 28 j) := by
  have e : hf_110_10_27 M = zput (zcopy M 28 11 0 0 56) 10 3 (if M 10 0 < M 27 3 then M 10 0 else M 27 3) := by
    unfold hf_110_10_27
    rw [show zcopy M 28 11 (0 : Int).toNat (0 : Int).toNat ((if 56 < 56 then 56 else 56) : Int).toNat = zcopy M 28 11 0 0 56 from rfl, zcopy_oth (show 10 ≠ 11 by decide), zcopy_oth (show 27 ≠ 11 by decide)]
  rw [e]
  refine ⟨fun i h1 h2 => by rw [zput_oth h1, zcopy_oth h2], fun h1 h2 => by rw [qput_eq, if_neg (by omega)], fun j hj => by rw [qput_ne (by decide), zcopy_in hj]⟩
theorem hto_12_29 : (∀ i, i ≠ 12 → i ≠ 13 → hf_110_12_29 M i = M i) ∧ (M 12 0 = 20 → M 29 3 ≤ 20 → hf_110_12_29 M 12 3 = M 29 3) ∧ (∀ j, j < 60 → hf_110_12_29 M 13 j = M 30 j) := by
  have e : hf_110_12_29 M = zput (zcopy M 30 13 0 0 60) 12 3 (if M 12 0 < M 29 3 then M 12 0 else M 29 3) := by
    unfold hf_110_12_29
    rw [show zcopy M 30 13 (0 : Int).toNat (0 : Int).toNat ((if 60 < 60 then 60 else 60) : Int).toNat = zcopy M 30 13 0 0 60 from rfl, zcopy_oth (show 12 ≠ 13 by decide), zcopy_oth (show 29 ≠ 13 by decide)]
  rw [e]
  refine ⟨fun i h1 h2 => by rw [zput_oth h1, zcopy_oth h2], fun h1 h2 => by rw [qput_eq, if_neg (by omega)], fun j hj => by rw [qput_ne (by decide), zcopy_in hj]⟩
theorem hto_14_31 : (∀ i, i ≠ 14 → i ≠ 15 → hf_110_14_31 M i = M i) ∧ (M 14 0 = 4 → M 31 3 ≤ 4 → hf_110_14_31 M 14 3 = M 31 3) ∧ (∀ j, j < 8 → hf_110_14_31 M 15 j = M 32 j) := by
  have e : hf_110_14_31 M = zput (zcopy M 32 15 0 0 8) 14 3 (if M 14 0 < M 31 3 then M 14 0 else M 31 3) := by
    unfold hf_110_14_31
    rw [show zcopy M 32 15 (0 : Int).toNat (0 : Int).toNat ((if 8 < 8 then 8 else 8) : Int).toNat = zcopy M 32 15 0 0 8 from rfl, zcopy_oth (show 14 ≠ 15 by decide), zcopy_oth (show 31 ≠ 15 by decide)]
  rw [e]
  refine ⟨fun i h1 h2 => by rw [zput_oth h1, zcopy_oth h2], fun h1 h2 => by rw [qput_eq, if_neg (by omega)], fun j hj => by rw [qput_ne (by decide), zcopy_in hj]⟩
theorem hto_16_33 : (∀ i, i ≠ 16 → i ≠ 17 → hf_110_16_33 M i = M i) ∧ (M 16 0 = 40 → M 33 3 ≤ 40 → hf_110_16_33 M 16 3 = M 33 3) ∧ (∀ j, j < 200 → hf_110_16_33 M 17 j = M 34 j) := by
  have e : hf_110_16_33 M = zput (zcopy M 34 17 0 0 200) 16 3 (if M 16 0 < M 33 3 then M 16 0 else M 33 3) := by
    unfold hf_110_16_33
    rw [show zcopy M 34 17 (0 : Int).toNat (0 : Int).toNat ((if 200 < 200 then 200 else 200) : Int).toNat = zcopy M 34 17 0 0 200 from rfl, zcopy_oth (show 16 ≠ 17 by decide), zcopy_oth (show 33 ≠ 17 by decide)]
  rw [e]
  refine ⟨fun i h1 h2 => by rw [zput_oth h1, zcopy_oth h2], fun h1 h2 => by rw [qput_eq, if_neg (by omega)], fun j hj => by rw [qput_ne (by decide), zcopy_in hj]⟩
theorem hto_18_35 : (∀ i, i ≠ 18 → i ≠ 19 → hf_110_18_35 M i = M i) ∧ (M 18 0 = 250 → M 35 3 ≤ 250 → hf_110_18_35 M 18 3 = M 35 3) ∧ (∀ j, j < 2750 → hf_110_18_35 M 19 j = M 36 j) := by
  have e : hf_110_18_35 M = zput (zcopy M 36 19 0 0 2750) 18 3 (if M 18 0 < M 35 3 then M 18 0 else M 35 3) := by
    unfold hf_110_18_35
    rw [show zcopy M 36 19 (0 : Int).toNat (0 : Int).toNat ((if 2750 < 2750 then 2750 else 2750) : Int).toNat = zcopy M 36 19 0 0 2750 from rfl, zcopy_oth (show 18 ≠ 19 by decide), zcopy_oth (show 35 ≠ 19 by decide)]
  rw [e]
  refine ⟨fun i h1 h2 => by rw [zput_oth h1, zcopy_oth h2], fun h1 h2 => by rw [qput_eq, if_neg (by omega)], fun j hj => by rw [qput_ne (by decide), zcopy_in hj]⟩
theorem hto_20_37 : (∀ i, i ≠ 20 → i ≠ 21 → hf_110_20_37 M i = M i) ∧ (M 20 0 = 8 → M 37 3 ≤ 8 → hf_110_20_37 M 20 3 = M 37 3) ∧ (∀ j, j < 648 → hf_110_20_37 M 21 j = M 38 j) := by
  have e : hf_110_20_37 M = zput (zcopy M 38 21 0 0 648) 20 3 (if M 20 0 < M 37 3 then M 20 0 else M 37 3) := by
    unfold hf_110_20_37
    rw [show zcopy M 38 21 (0 : Int).toNat (0 : Int).toNat ((if 648 < 648 then 648 else 648) : Int).toNat = zcopy M 38 21 0 0 648 from rfl, zcopy_oth (show 20 ≠ 21 by decide), zcopy_oth (show 37 ≠ 21 by decide)]
  rw [e]
  refine ⟨fun i h1 h2 => by rw [zput_oth h1, zcopy_oth h2], fun h1 h2 => by rw [qput_eq, if_neg (by omega)], fun j hj => by rw [qput_ne (by decide), zcopy_in hj]⟩
theorem hto_22_39 : (∀ i, i ≠ 22 → i ≠ 23 → hf_110_22_39 M i = M i) ∧ (M 22 0 = 10 → M 39 3 ≤ 10 → hf_110_22_39 M 22 3 = M 39 3) ∧ (∀ j, j < 1640 → hf_110_22_39 M 23 j = M 40 j) := by
  have e : hf_110_22_39 M = zput (zcopy M 40 23 0 0 1640) 22 3 (if M 22 0 < M 39 3 then M 22 0 else M 39 3) := by
    unfold hf_110_22_39
    rw [show zcopy M 40 23 (0 : Int).toNat (0 : Int).toNat ((if 1640 < 1640 then 1640 else 1640) : Int).toNat = zcopy M 40 23 0 0 1640 from rfl, zcopy_oth (show 22 ≠ 23 by decide), zcopy_oth (show 39 ≠ 23 by decide)]
  rw [e]
  refine ⟨fun i h1 h2 => by rw [zput_oth h1, zcopy_oth h2], fun h1 h2 => by rw [qput_eq, if_neg (by omega)], fun j hj => by rw [qput_ne (by decide), zcopy_in hj]⟩
theorem hto_24_41 : (∀ i, i ≠ 24 → i ≠ 25 → hf_110_24_41 M i = M i) ∧ (M 24 0 = 12 → M 41 3 ≤ 12 → hf_110_24_41 M 24 3 = M 41 3) ∧ (∀ j, j < 24 → hf_110_24_41 M 25 j = M 42 j) := by
  have e : hf_110_24_41 M = zput (zcopy M 42 25 0 0 24) 24 3 (if M 24 0 < M 41 3 then M 24 0 else M 41 3) := by
    unfold hf_110_24_41
    rw [show zcopy M 42 25 (0 : Int).toNat (0 : Int).toNat ((if 24 < 24 then 24 else 24) : Int).toNat = zcopy M 42 25 0 0 24 from rfl, zcopy_oth (show 24 ≠ 25 by decide), zcopy_oth (show 41 ≠ 25 by decide)]
  rw [e]
  refine ⟨fun i h1 h2 => by rw [zput_oth h1, zcopy_oth h2], fun h1 h2 => by rw [qput_eq, if_neg (by omega)], fun j hj => by rw [qput_ne (by decide), zcopy_in hj]⟩
theorem hto_9_26 (l0 : M 10 0 = 14 ∧ M 27 3 ≤ 14) (l1 : M 12 0 = 20 ∧ M 29 3 ≤ 20) (l2 : M 14 0 = 4 ∧ M 31 3 ≤ 4) (l3 : M 16 0 = 40 ∧ M 33 3 ≤ 40) (l4 : M 18 0 = 250 ∧ M 35 3 ≤ 250) (l5 : M 20 0 = 8 ∧ M 37 3 ≤ 8) (l6 : M 22 0 = 10 ∧ M 39 3 ≤ 10) (l7 : M 24 0 = 12 ∧ M 41 3 ≤ 12) : (∀ i, (i < 9 ∨ 26 ≤ i) → hf_26_9_26 M i = M i) ∧ (hf_26_9_26 M 10 3 = M 27 3 ∧ hf_26_9_26 M 12 3 = M 29 3 ∧ hf_26_9_26 M 14 3 = M 31 3 ∧ hf_26_9_26 M 16 3 = M 33 3 ∧ hf_26_9_26 M 18 3 = M 35 3 ∧ hf_26_9_26 M 20 3 = M 37 3 ∧ hf_26_9_26 M 22 3 = M 39 3 ∧ hf_26_9_26 M 24 3 = M 41 3) ∧ ((∀ j, j < 56 → hf_26_9_26 M 11 j = M 28 j) ∧ (∀ j, j < 60 → hf_26_9_26 M 13 j = M 30 j) ∧ (∀ j, j < 8 → hf_26_9_26 M 15 j = M 32 j) ∧ (∀ j, j < 200 → hf_26_9_26 M 17 j = M 34 j) ∧ (∀ j, j < 2750 → hf_26_9_26 M 19 j = M 36 j) ∧ (∀ j, j < 648 → hf_26_9_26 M 21 j = M 38 j) ∧ (∀ j, j < 1640 → hf_26_9_26 M 23 j = M 40 j) ∧ (∀ j, j < 24 → hf_26_9_26 M 25 j = M 42 j)) ∧ hf_26_9_26 M 9 8 = M 26 8 ∧ hf_26_9_26 M 9 9 = M 26 9 := by
  have p0 : ∀ i, (i ≤ 9 ∨ 10 ≤ i) → M i = M i := fun _ _ => rfl
  obtain ⟨N1, hN1⟩ : ∃ X, X = hf_110_10_27 M := ⟨_, rfl⟩
  have o1 := hto_10_27 (M := M)
  rw [← hN1] at o1
  have p1 : ∀ i, (i ≤ 9 ∨ 12 ≤ i) → N1 i = M i := fun i hi => (o1.1 i (by omega) (by omega)).trans (p0 i (by omega))
  have u1 : N1 10 3 = M 27 3 := (o1.2.1 ((congrFun (p0 10 (by omega)) 0).trans l0.1) (by rw [p0 27 (by omega)]; exact l0.2)).trans (congrFun (p0 27 (by omega)) 3)
  have c1 : ∀ j, j < 56 → N1 11 j = M 28 j := fun j hj => (o1.2.2 j hj).trans (congrFun (p0 28 (by omega)) j)
  obtain ⟨N2, hN2⟩ : ∃ X, X = hf_110_12_29 N1 := ⟨_, rfl⟩
  have o2 := hto_12_29 (M := N1)
  rw [← hN2] at o2
  have p2 : ∀ i, (i ≤ 9 ∨ 14 ≤ i) → N2 i = M i := fun i hi => (o2.1 i (by omega) (by omega)).trans (p1 i (by omega))
  have u2 : N2 12 3 = M 29 3 := (o2.2.1 ((congrFun (p1 12 (by omega)) 0).trans l1.1) (by rw [p1 29 (by omega)]; exact l1.2)).trans (congrFun (p1 29 (by omega)) 3)
  have c2 : ∀ j, j < 60 → N2 13 j = M 30 j := fun j hj => (o2.2.2 j hj).trans (congrFun (p1 30 (by omega)) j)
  obtain ⟨N3, hN3⟩ : ∃ X, X = hf_110_14_31 N2 := ⟨_, rfl⟩
  have o3 := hto_14_31 (M := N2)
  rw [← hN3] at o3
  have p3 : ∀ i, (i ≤ 9 ∨ 16 ≤ i) → N3 i = M i := fun i hi => (o3.1 i (by omega) (by omega)).trans (p2 i (by omega))
  have u3 : N3 14 3 = M 31 3 := (o3.2.1 ((congrFun (p2 14 (by omega)) 0).trans l2.1) (by rw [p2 31 (by omega)]; exact l2.2)).trans (congrFun (p2 31 (by omega)) 3)
  have c3 : ∀ j, j < 8 → N3 15 j = M 32 j := fun j hj => (o3.2.2 j hj).trans (congrFun (p2 32 (by omega)) j)
  obtain ⟨N4, hN4⟩ : ∃ X, X = hf_110_16_33 N3 := ⟨_, rfl⟩
  have o4 := hto_16_33 (M := N3)
  rw [← hN4] at o4
  have p4 : ∀ i, (i ≤ 9 ∨ 18 ≤ i) → N4 i = M i := fun i hi => (o4.1 i (by omega) (by omega)).trans (p3 i (by omega))
  have u4 : N4 16 3 = M 33 3 := (o4.2.1 ((congrFun (p3 16 (by omega)) 0).trans l3.1) (by rw [p3 33 (by omega)]; exact l3.2)).trans (congrFun (p3 33 (by omega)) 3)
  have c4 : ∀ j, j < 200 → N4 17 j = M 34 j := fun j hj => (o4.2.2 j hj).trans (congrFun (p3 34 (by omega)) j)
  obtain ⟨N5, hN5⟩ : ∃ X, X = hf_110_18_35 N4 := ⟨_, rfl⟩
  have o5 := hto_18_35 (M := N4)
  rw [← hN5] at o5
  have p5 : ∀ i, (i ≤ 9 ∨ 20 ≤ i) → N5 i = M i := fun i hi => (o5.1 i (by omega) (by omega)).trans (p4 i (by omega))
  have u5 : N5 18 3 = M 35 3 := (o5.2.1 ((congrFun (p4 18 (by omega)) 0).trans l4.1) (by rw [p4 35 (by omega)]; exact l4.2)).trans (congrFun (p4 35 (by omega)) 3)
  have c5 : ∀ j, j < 2750 → N5 19 j = M 36 j := fun j hj => (o5.2.2 j hj).trans (congrFun (p4 36 (by omega)) j)
  obtain ⟨N6, hN6⟩ : ∃ X, X = hf_110_20_37 N5 := ⟨_, rfl⟩
  have o6 := hto_20_37 (M := N5)
  rw [← hN6] at o6
  have p6 : ∀ i, (i ≤ 9 ∨ 22 ≤ i) → N6 i = M i := fun i hi => (o6.1 i (by omega) (by omega)).trans (p5 i (by omega))
  have u6 : N6 20 3 = M 37 3 := (o6.2.1 ((congrFun (p5 20 (by omega)) 0).trans l5.1) (by rw [p5 37 (by omega)]; exact l5.2)).trans (congrFun (p5 37 (by omega)) 3)
  have c6 : ∀ j, j < 648 → N6 21 j = M 38 j := fun j hj => (o6.2.2 j hj).trans (congrFun (p5 38 (by omega)) j)
  obtain ⟨N7, hN7⟩ : ∃ X, X = hf_110_22_39 N6 := ⟨_, rfl⟩
  have o7 := hto_22_39 (M := N6)
  rw [← hN7] at o7
  have p7 : ∀ i, (i ≤ 9 ∨ 24 ≤ i) → N7 i = M i := fun i hi => (o7.1 i (by omega) (by omega)).trans (p6 i (by omega))
  have u7 : N7 22 3 = M 39 3 := (o7.2.1 ((congrFun (p6 22 (by omega)) 0).trans l6.1) (by rw [p6 39 (by omega)]; exact l6.2)).trans (congrFun (p6 39 (by omega)) 3)
  have c7 : ∀ j, j < 1640 → N7 23 j = M 40 j := fun j hj => (o7.2.2 j hj).trans (congrFun (p6 40 (by omega)) j)
  obtain ⟨N8, hN8⟩ : ∃ X, X = hf_110_24_41 N7 := ⟨_, rfl⟩
  have o8 := hto_24_41 (M := N7)
  rw [← hN8] at o8
  have p8 : ∀ i, (i ≤ 9 ∨ 26 ≤ i) → N8 i = M i := fun i hi => (o8.1 i (by omega) (by omega)).trans (p7 i (by omega))
  have u8 : N8 24 3 = M 41 3 := (o8.2.1 ((congrFun (p7 24 (by omega)) 0).trans l7.1) (by rw [p7 41 (by omega)]; exact l7.2)).trans (congrFun (p7 41 (by omega)) 3)
  have c8 : ∀ j, j < 24 → N8 25 j = M 42 j := fun j hj => (o8.2.2 j hj).trans (congrFun (p7 42 (by omega)) j)
  have e : hf_26_9_26 M = zput (zput N8 9 8 (N8 26 8)) 9 9 ((zput N8 9 8 (N8 26 8)) 26 9) := by
    unfold hf_26_9_26
    rw [← hN1, ← hN2, ← hN3, ← hN4, ← hN5, ← hN6, ← hN7, ← hN8]
  have f8 : ∀ i, i ≠ 9 → hf_26_9_26 M i = N8 i := fun i hi => by rw [e, zput_oth hi, zput_oth hi]
  refine ⟨fun i hi => (f8 i (by omega)).trans (p8 i (by omega)), ⟨(congrFun ((f8 10 (by decide)).trans ((o8.1 10 (by decide) (by decide)).trans ((o7.1 10 (by decide) (by decide)).trans ((o6.1 10 (by decide) (by decide)).trans ((o5.1 10 (by decide) (by decide)).trans ((o4.1 10 (by decide) (by decide)).trans ((o3.1 10 (by decide) (by decide)).trans (o2.1 10 (by decide) (by decide))))))))) 3).trans u1, (congrFun ((f8 12 (by decide)).trans ((o8.1 12 (by decide) (by decide)).trans ((o7.1 12 (by decide) (by decide)).trans ((o6.1 12 (by decide) (by decide)).trans ((o5.1 12 (by decide) (by decide)).trans ((o4.1 12 (by decide) (by decide)).trans (o3.1 12 (by decide) (by decide)))))))) 3).trans u2, (congrFun ((f8 14 (by decide)).trans ((o8.1 14 (by decide) (by decide)).trans ((o7.1 14 (by decide) (by decide)).trans ((o6.1 14 (by decide) (by decide)).trans ((o5.1 14 (by decide) (by decide)).trans (o4.1 14 (by decide) (by decide))))))) 3).trans u3, (congrFun ((f8 16 (by decide)).trans ((o8.1 16 (by decide) (by decide)).trans ((o7.1 16 (by decide) (by decide)).trans ((o6.1 16 (by decide) (by decide)).trans (o5.1 16 (by decide) (by decide)))))) 3).trans u4, (congrFun ((f8 18 (by decide)).trans ((o8.1 18 (by decide) (by decide)).trans ((o7.1 18 (by decide) (by decide)).trans (o6.1 18 (by decide) (by decide))))) 3).trans u5, (congrFun ((f8 20 (by decide)).trans ((o8.1 20 (by decide) (by decide)).trans (o7.1 20 (by decide) (by decide)))) 3).trans u6, (congrFun ((f8 22 (by decide)).trans (o8.1 22 (by decide) (by decide))) 3).trans u7, (congrFun ((f8 24 (by decide)).trans rfl) 3).trans u8⟩, ⟨fun j hj => (congrFun ((f8 11 (by decide)).trans ((o8.1 11 (by decide) (by decide)).trans ((o7.1 11 (by decide) (by decide)).trans ((o6.1 11 (by decide) (by decide)).trans ((o5.1 11 (by decide) (by decide)).trans ((o4.1 11 (by decide) (by decide)).trans ((o3.1 11 (by decide) (by decide)).trans (o2.1 11 (by decide) (by decide))))))))) j).trans (c1 j hj), fun j hj => (congrFun ((f8 13 (by decide)).trans ((o8.1 13 (by decide) (by decide)).trans ((o7.1 13 (by decide) (by decide)).trans ((o6.1 13 (by decide) (by decide)).trans ((o5.1 13 (by decide) (by decide)).trans ((o4.1 13 (by decide) (by decide)).trans (o3.1 13 (by decide) (by decide)))))))) j).trans (c2 j hj), fun j hj => (congrFun ((f8 15 (by decide)).trans ((o8.1 15 (by decide) (by decide)).trans ((o7.1 15 (by decide) (by decide)).trans ((o6.1 15 (by decide) (by decide)).trans ((o5.1 15 (by decide) (by decide)).trans (o4.1 15 (by decide) (by decide))))))) j).trans (c3 j hj), fun j hj => (congrFun ((f8 17 (by decide)).trans ((o8.1 17 (by decide) (by decide)).trans ((o7.1 17 (by decide) (by decide)).trans ((o6.1 17 (by decide) (by decide)).trans (o5.1 17 (by decide) (by decide)))))) j).trans (c4 j hj), fun j hj => (congrFun ((f8 19 (by decide)).trans ((o8.1 19 (by decide) (by decide)).trans ((o7.1 19 (by decide) (by decide)).trans (o6.1 19 (by decide) (by decide))))) j).trans (c5 j hj), fun j hj => (congrFun ((f8 21 (by decide)).trans ((o8.1 21 (by decide) (by decide)).trans (o7.1 21 (by decide) (by decide)))) j).trans (c6 j hj), fun j hj => (congrFun ((f8 23 (by decide)).trans (o8.1 23 (by decide) (by decide))) j).trans (c7 j hj), fun j hj => (congrFun ((f8 25 (by decide)).trans rfl) j).trans (c8 j hj)⟩, ?_, ?_⟩
  · rw [e, qput_nk (by decide), qput_eq]; exact congrFun (p8 26 (by omega)) 8
  · rw [e, qput_eq, qput_ne (by decide)]; exact congrFun (p8 26 (by omega)) 9
end TO
section TO
variable {M : zM}
theorem hto_10_44 : (∀ i, i ≠ 10 → i ≠ 11 → hf_110_10_44 M i = M i) ∧ (M 10 0 = 14 → M 44 3 ≤ 14 → hf_110_10_44 M 10 3 = M 44 3) ∧ (∀ j, j < 56 → hf_110_10_44 M 11 j = M 45 j) := by
  have e : hf_110_10_44 M = zput (zcopy M 45 11 0 0 56) 10 3 (if M 10 0 < M 44 3 then M 10 0 else M 44 3) := by
    unfold hf_110_10_44
    rw [show zcopy M 45 11 (0 : Int).toNat (0 : Int).toNat ((if 56 < 56 then 56 else 56) : Int).toNat = zcopy M 45 11 0 0 56 from rfl, zcopy_oth (show 10 ≠ 11 by decide), zcopy_oth (show 44 ≠ 11 by decide)]
  rw [e]
  refine ⟨fun i h1 h2 => by rw [zput_oth h1, zcopy_oth h2], fun h1 h2 => by rw [qput_eq, if_neg (by omega)], fun j hj => by rw [qput_ne (by decide), zcopy_in hj]⟩
theorem hto_12_46 : (∀ i, i ≠ 12 → i ≠ 13 → hf_110_12_46 M i = M i) ∧ (M 12 0 = 20 → M 46 3 ≤ 20 → hf_110_12_46 M 12 3 = M 46 3) ∧ (∀ j, j < 60 → hf_110_12_46 M 13 j = M 47 j) := by
  have e : hf_110_12_46 M = zput (zcopy M 47 13 0 0 60) 12 3 (if M 12 0 < M 46 3 then M 12 0 else M 46 3) := by
    unfold hf_110_12_46
    rw [show zcopy M 47 13 (0 : Int).toNat (0 : Int).toNat ((if 60 < 60 then 60 else 60) : Int).toNat = zcopy M 47 13 0 0 60 from rfl, zcopy_oth (show 12 ≠ 13 by decide), zcopy_oth (show 46 ≠ 13 by decide)]
  rw [e]
  refine ⟨fun i h1 h2 => by rw [zput_oth h1, zcopy_oth h2], fun h1 h2 => by rw [qput_eq, if_neg (by omega)], fun j hj => by rw [qput_ne (by decide), zcopy_in hj]⟩
theorem hto_14_48 : (∀ i, i ≠ 14 → i ≠ 15 → hf_110_14_48 M i = M i) ∧ (M 14 0 = 4 → M 48 3 ≤ 4 → hf_110_14_48 M 14 3 = M 48 3) ∧ (∀ j, j < 8 → hf_110_14_48 M 15 j = M 49 j) := by
  have e : hf_110_14_48 M = zput (zcopy M 49 15 0 0 8) 14 3 (if M 14 0 < M 48 3 then M 14 0 else M 48 3) := by
    unfold hf_110_14_48
    rw [show zcopy M 49 15 (0 : Int).toNat (0 : Int).toNat ((if 8 < 8 then 8 else 8) : Int).toNat = zcopy M 49 15 0 0 8 from rfl, zcopy_oth (show 14 ≠ 15 by decide), zcopy_oth (show 48 ≠ 15 by decide)]
  rw [e]
  refine ⟨fun i h1 h2 => by rw [zput_oth h1, zcopy_oth h2], fun h1 h2 => by rw [qput_eq, if_neg (by omega)], fun j hj => by rw [qput_ne (by decide), zcopy_in hj]⟩
theorem hto_16_50 : (∀ i, i ≠ 16 → i ≠ 17 → hf_110_16_50 M i = M i) ∧ (M 16 0 = 40 → M 50 3 ≤ 40 → hf_110_16_50 M 16 3 = M 50 3) ∧ (∀ j, j < 200 → hf_110_16_50 M 17 j = M 51 j) := by
  have e : hf_110_16_50 M = zput (zcopy M 51 17 0 0 200) 16 3 (if M 16 0 < M 50 3 then M 16 0 else M 50 3) := by
    unfold hf_110_16_50
    rw [show zcopy M 51 17 (0 : Int).toNat (0 : Int).toNat ((if 200 < 200 then 200 else 200) : Int).toNat = zcopy M 51 17 0 0 200 from rfl, zcopy_oth (show 16 ≠ 17 by decide), zcopy_oth (show 50 ≠ 17 by decide)]
  rw [e]
  refine ⟨fun i h1 h2 => by rw [zput_oth h1, zcopy_oth h2], fun h1 h2 => by rw [qput_eq, if_neg (by omega)], fun j hj => by rw [qput_ne (by decide), zcopy_in hj]⟩
theorem hto_18_52 : (∀ i, i ≠ 18 → i ≠ 19 → hf_110_18_52 M i = M i) ∧ (M 18 0 = 250 → M 52 3 ≤ 250 → hf_110_18_52 M 18 3 = M 52 3) ∧ (∀ j, j < 2750 → hf_110_18_52 M 19 j = M 53 j) := by
  have e : hf_110_18_52 M = zput (zcopy M 53 19 0 0 2750) 18 3 (if M 18 0 < M 52 3 then M 18 0 else M 52 3) := by
    unfold hf_110_18_52
    rw [show zcopy M 53 19 (0 : Int).toNat (0 : Int).toNat ((if 2750 < 2750 then 2750 else 2750) : Int).toNat = zcopy M 53 19 0 0 2750 from rfl, zcopy_oth (show 18 ≠ 19 by decide), zcopy_oth (show 52 ≠ 19 by decide)]
  rw [e]
  refine ⟨fun i h1 h2 => by rw [zput_oth h1, zcopy_oth h2], fun h1 h2 => by rw [qput_eq, if_neg (by omega)], fun j hj => by rw [qput_ne (by decide), zcopy_in hj]⟩
theorem hto_20_54 : (∀ i, i ≠ 20 → i ≠ 21 → hf_110_20_54 M i = M i) ∧ (M 20 0 = 8 → M 54 3 ≤ 8 → hf_110_20_54 M 20 3 = M 54 3) ∧ (∀ j, j < 648 → hf_110_20_54 M 21 j = M 55 j) := by
  have e : hf_110_20_54 M = zput (zcopy M 55 21 0 0 648) 20 3 (if M 20 0 < M 54 3 then M 20 0 else M 54 3) := by
    unfold hf_110_20_54
    rw [show zcopy M 55 21 (0 : Int).toNat (0 : Int).toNat ((if 648 < 648 then 648 else 648) : Int).toNat = zcopy M 55 21 0 0 648 from rfl, zcopy_oth (show 20 ≠ 21 by decide), zcopy_oth (show 54 ≠ 21 by decide)]
  rw [e]
  refine ⟨fun i h1 h2 => by rw [zput_oth h1, zcopy_oth h2], fun h1 h2 => by rw [qput_eq, if_neg (by omega)], fun j hj => by rw [qput_ne (by decide), zcopy_in hj]⟩
theorem hto_22_56 : (∀ i, i ≠ 22 → i ≠ 23 → hf_110_22_56 M i = M i) ∧ (M 22 0 = 10 → M 56 3 ≤ 10 → hf_110_22_56 M 22 3 = M 56 3) ∧ (∀ j, j < 1640 → hf_110_22_56 M 23 j = M 57 j) := by
  have e : hf_110_22_56 M = zput (zcopy M 57 23 0 0 1640) 22 3 (if M 22 0 < M 56 3 then M 22 0 else M 56 3) := by
    unfold hf_110_22_56
    rw [show zcopy M 57 23 (0 : Int).toNat (0 : Int).toNat ((if 1640 < 1640 then 1640 else 1640) : Int).toNat = zcopy M 57 23 0 0 1640 from rfl, zcopy_oth (show 22 ≠ 23 by decide), zcopy_oth (show 56 ≠ 23 by decide)]
  rw [e]
  refine ⟨fun i h1 h2 => by rw [zput_oth h1, zcopy_oth h2], fun h1 h2 => by rw [qput_eq, if_neg (by omega)], fun j hj => by rw [qput_ne (by decide), zcopy_in hj]⟩
theorem hto_24_58 : (∀ i, i ≠ 24 → i ≠ 25 → hf_110_24_58 M i = M i) ∧ (M 24 0 = 12 → M 58 3 ≤ 12 → hf_110_24_58 M 24 3 = M 58 3) ∧ (∀ j, j < 24 → hf_110_24_58 M 25 j = M 59 j) := by
  have e : hf_110_24_58 M = zput (zcopy M 59 25 0 0 24) 24 3 (if M 24 0 < M 58 3 then M 24 0 else M 58 3) := by
    unfold hf_110_24_58
    rw [show zcopy M 59 25 (0 : Int).toNat (0 : Int).toNat ((if 24 < 24 then 24 else 24) : Int).toNat = zcopy M 59 25 0 0 24 from rfl, zcopy_oth (show 24 ≠ 25 by decide), zcopy_oth (show 58 ≠ 25 by decide)]
  rw [e]
  refine ⟨fun i h1 h2 => by rw [zput_oth h1, zcopy_oth h2], fun h1 h2 => by rw [qput_eq, if_neg (by omega)], fun j hj => by rw [qput_ne (by decide), zcopy_in hj]⟩
theorem hto_9_43 (l0 : M 10 0 = 14 ∧ M 44 3 ≤ 14) (l1 : M 12 0 = 20 ∧ M 46 3 ≤ 20) (l2 : M 14 0 = 4 ∧ M 48 3 ≤ 4) (l3 : M 16 0 = 40 ∧ M 50 3 ≤ 40) (l4 : M 18 0 = 250 ∧ M 52 3 ≤ 250) (l5 : M 20 0 = 8 ∧ M 54 3 ≤ 8) (l6 : M 22 0 = 10 ∧ M 56 3 ≤ 10) (l7 : M 24 0 = 12 ∧ M 58 3 ≤ 12) : (∀ i, (i < 9 ∨ 26 ≤ i) → hf_26_9_43 M i = M i) ∧ (hf_26_9_43 M 10 3 = M 44 3 ∧ hf_26_9_43 M 12 3 = M 46 3 ∧ hf_26_9_43 M 14 3 = M 48 3 ∧ hf_26_9_43 M 16 3 = M 50 3 ∧ hf_26_9_43 M 18 3 = M 52 3 ∧ hf_26_9_43 M 20 3 = M 54 3 ∧ hf_26_9_43 M 22 3 = M 56 3 ∧ hf_26_9_43 M 24 3 = M 58 3) ∧ ((∀ j, j < 56 → hf_26_9_43 M 11 j = M 45 j) ∧ (∀ j, j < 60 → hf_26_9_43 M 13 j = M 47 j) ∧ (∀ j, j < 8 → hf_26_9_43 M 15 j = M 49 j) ∧ (∀ j, j < 200 → hf_26_9_43 M 17 j = M 51 j) ∧ (∀ j, j < 2750 → hf_26_9_43 M 19 j = M 53 j) ∧ (∀ j, j < 648 → hf_26_9_43 M 21 j = M 55 j) ∧ (∀ j, j < 1640 → hf_26_9_43 M 23 j = M 57 j) ∧ (∀ j, j < 24 → hf_26_9_43 M 25 j = M 59 j)) ∧ hf_26_9_43 M 9 8 = M 43 8 ∧ hf_26_9_43 M 9 9 = M 43 9 := by
  have p0 : ∀ i, (i ≤ 9 ∨ 10 ≤ i) → M i = M i := fun _ _ => rfl
  obtain ⟨N1, hN1⟩ : ∃ X, X = hf_110_10_44 M := ⟨_, rfl⟩
  have o1 := hto_10_44 (M := M)
  rw [← hN1] at o1
  have p1 : ∀ i, (i ≤ 9 ∨ 12 ≤ i) → N1 i = M i := fun i hi => (o1.1 i (by omega) (by omega)).trans (p0 i (by omega))
  have u1 : N1 10 3 = M 44 3 := (o1.2.1 ((congrFun (p0 10 (by omega)) 0).trans l0.1) (by rw [p0 44 (by omega)]; exact l0.2)).trans (congrFun (p0 44 (by omega)) 3)
  have c1 : ∀ j, j < 56 → N1 11 j = M 45 j := fun j hj => (o1.2.2 j hj).trans (congrFun (p0 45 (by omega)) j)
  obtain ⟨N2, hN2⟩ : ∃ X, X = hf_110_12_46 N1 := ⟨_, rfl⟩
  have o2 := hto_12_46 (M := N1)
  rw [← hN2] at o2
  have p2 : ∀ i, (i ≤ 9 ∨ 14 ≤ i) → N2 i = M i := fun i hi => (o2.1 i (by omega) (by omega)).trans (p1 i (by omega))
  have u2 : N2 12 3 = M 46 3 := (o2.2.1 ((congrFun (p1 12 (by omega)) 0).trans l1.1) (by rw [p1 46 (by omega)]; exact l1.2)).trans (congrFun (p1 46 (by omega)) 3)
  have c2 : ∀ j, j < 60 → N2 13 j = M 47 j := fun j hj => (o2.2.2 j hj).trans (congrFun (p1 47 (by omega)) j)
  obtain ⟨N3, hN3⟩ : ∃ X, X = hf_110_14_48 N2 := ⟨_, rfl⟩
  have o3 := hto_14_48 (M := N2)
  rw [← hN3] at o3
  have p3 : ∀ i, (i ≤ 9 ∨ 16 ≤ i) → N3 i = M i := fun i hi => (o3.1 i (by omega) (by omega)).trans (p2 i (by omega))
  have u3 : N3 14 3 = M 48 3 := (o3.2.1 ((congrFun (p2 14 (by omega)) 0).trans l2.1) (by rw [p2 48 (by omega)]; exact l2.2)).trans (congrFun (p2 48 (by omega)) 3)
  have c3 : ∀ j, j < 8 → N3 15 j = M 49 j := fun j hj => (o3.2.2 j hj).trans (congrFun (p2 49 (by omega)) j)
  obtain ⟨N4, hN4⟩ : ∃ X, X = hf_110_16_50 N3 := ⟨_, rfl⟩
  have o4 := hto_16_50 (M := N3)
  rw [← hN4] at o4
  have p4 : ∀ i, (i ≤ 9 ∨ 18 ≤ i) → N4 i = M i := fun i hi => (o4.1 i (by omega) (by omega)).trans (p3 i (by omega))
  have u4 : N4 16 3 = M 50 3 := (o4.2.1 ((congrFun (p3 16 (by omega)) 0).trans l3.1) (by rw [p3 50 (by omega)]; exact l3.2)).trans (congrFun (p3 50 (by omega)) 3)
  have c4 : ∀ j, j < 200 → N4 17 j = M 51 j := fun j hj => (o4.2.2 j hj).trans (congrFun (p3 51 (by omega)) j)
  obtain ⟨N5, hN5⟩ : ∃ X, X = hf_110_18_52 N4 := ⟨_, rfl⟩
  have o5 := hto_18_52 (M := N4)
  rw [← hN5] at o5
  have p5 : ∀ i, (i ≤ 9 ∨ 20 ≤ i) → N5 i = M i := fun i hi => (o5.1 i (by omega) (by omega)).trans (p4 i (by omega))
  have u5 : N5 18 3 = M 52 3 := (o5.2.1 ((congrFun (p4 18 (by omega)) 0).trans l4.1) (by rw [p4 52 (by omega)]; exact l4.2)).trans (congrFun (p4 52 (by omega)) 3)
  have c5 : ∀ j, j < 2750 → N5 19 j = M 53 j := fun j hj => (o5.2.2 j hj).trans (congrFun (p4 53 (by omega)) j)
  obtain ⟨N6, hN6⟩ : ∃ X, X = hf_110_20_54 N5 := ⟨_, rfl⟩
  have o6 := hto_20_54 (M := N5)
  rw [← hN6] at o6
  have p6 : ∀ i, (i ≤ 9 ∨ 22 ≤ i) → N6 i = M i := fun i hi => (o6.1 i (by omega) (by omega)).trans (p5 i (by omega))
  have u6 : N6 20 3 = M 54 3 := (o6.2.1 ((congrFun (p5 20 (by omega)) 0).trans l5.1) (by rw [p5 54 (by omega)]; exact l5.2)).trans (congrFun (p5 54 (by omega)) 3)
  have c6 : ∀ j, j < 648 → N6 21 j = M 55 j := fun j hj => (o6.2.2 j hj).trans (congrFun (p5 55 (by omega)) j)
  obtain ⟨N7, hN7⟩ : ∃ X, X = hf_110_22_56 N6 := ⟨_, rfl⟩
  have o7 := hto_22_56 (M := N6)
  rw [← hN7] at o7
  have p7 : ∀ i, (i ≤ 9 ∨ 24 ≤ i) → N7 i = M i := fun i hi => (o7.1 i (by omega) (by omega)).trans (p6 i (by omega))
  have u7 : N7 22 3 = M 56 3 := (o7.2.1 ((congrFun (p6 22 (by omega)) 0).trans l6.1) (by rw [p6 56 (by omega)]; exact l6.2)).trans (congrFun (p6 56 (by omega)) 3)
  have c7 : ∀ j, j < 1640 → N7 23 j = M 57 j := fun j hj => (o7.2.2 j hj).trans (congrFun (p6 57 (by omega)) j)
  obtain ⟨N8, hN8⟩ : ∃ X, X = hf_110_24_58 N7 := ⟨_, rfl⟩
  have o8 := hto_24_58 (M := N7)
  rw [← hN8] at o8
  have p8 : ∀ i, (i ≤ 9 ∨ 26 ≤ i) → N8 i = M i := fun i hi => (o8.1 i (by omega) (by omega)).trans (p7 i (by omega))
  have u8 : N8 24 3 = M 58 3 := (o8.2.1 ((congrFun (p7 24 (by omega)) 0).trans l7.1) (by rw [p7 58 (by omega)]; exact l7.2)).trans (congrFun (p7 58 (by omega)) 3)
  have c8 : ∀ j, j < 24 → N8 25 j = M 59 j := fun j hj => (o8.2.2 j hj).trans (congrFun (p7 59 (by omega)) j)
  have e : hf_26_9_43 M = zput (zput N8 9 8 (N8 43 8)) 9 9 ((zput N8 9 8 (N8 43 8)) 43 9) := by
    unfold hf_26_9_43
    rw [← hN1, ← hN2, ← hN3, ← hN4, ← hN5, ← hN6, ← hN7, ← hN8]
  have f8 : ∀ i, i ≠ 9 → hf_26_9_43 M i = N8 i := fun i hi => by rw [e, zput_oth hi, zput_oth hi]
  refine ⟨fun i hi => (f8 i (by omega)).trans (p8 i (by omega)), ⟨(congrFun ((f8 10 (by decide)).trans ((o8.1 10 (by decide) (by decide)).trans ((o7.1 10 (by decide) (by decide)).trans ((o6.1 10 (by decide) (by decide)).trans ((o5.1 10 (by decide) (by decide)).trans ((o4.1 10 (by decide) (by decide)).trans ((o3.1 10 (by decide) (by decide)).trans (o2.1 10 (by decide) (by decide))))))))) 3).trans u1, (congrFun ((f8 12 (by decide)).trans ((o8.1 12 (by decide) (by decide)).trans ((o7.1 12 (by decide) (by decide)).trans ((o6.1 12 (by decide) (by decide)).trans ((o5.1 12 (by decide) (by decide)).trans ((o4.1 12 (by decide) (by decide)).trans (o3.1 12 (by decide) (by decide)))))))) 3).trans u2, (congrFun ((f8 14 (by decide)).trans ((o8.1 14 (by decide) (by decide)).trans ((o7.1 14 (by decide) (by decide)).trans ((o6.1 14 (by decide) (by decide)).trans ((o5.1 14 (by decide) (by decide)).trans (o4.1 14 (by decide) (by decide))))))) 3).trans u3, (congrFun ((f8 16 (by decide)).trans ((o8.1 16 (by decide) (by decide)).trans ((o7.1 16 (by decide) (by decide)).trans ((o6.1 16 (by decide) (by decide)).trans (o5.1 16 (by decide) (by decide)))))) 3).trans u4, (congrFun ((f8 18 (by decide)).trans ((o8.1 18 (by decide) (by decide)).trans ((o7.1 18 (by decide) (by decide)).trans (o6.1 18 (by decide) (by decide))))) 3).trans u5, (congrFun ((f8 20 (by decide)).trans ((o8.1 20 (by decide) (by decide)).trans (o7.1 20 (by decide) (by decide)))) 3).trans u6, (congrFun ((f8 22 (by decide)).trans (o8.1 22 (by decide) (by decide))) 3).trans u7, (congrFun ((f8 24 (by decide)).trans rfl) 3).trans u8⟩, ⟨fun j hj => (congrFun ((f8 11 (by decide)).trans ((o8.1 11 (by decide) (by decide)).trans ((o7.1 11 (by decide) (by decide)).trans ((o6.1 11 (by decide) (by decide)).trans ((o5.1 11 (by decide) (by decide)).trans ((o4.1 11 (by decide) (by decide)).trans ((o3.1 11 (by decide) (by decide)).trans (o2.1 11 (by decide) (by decide))))))))) j).trans (c1 j hj), fun j hj => (congrFun ((f8 13 (by decide)).trans ((o8.1 13 (by decide) (by decide)).trans ((o7.1 13 (by decide) (by decide)).trans ((o6.1 13 (by decide) (by decide)).trans ((o5.1 13 (by decide) (by decide)).trans ((o4.1 13 (by decide) (by decide)).trans (o3.1 13 (by decide) (by decide)))))))) j).trans (c2 j hj), fun j hj => (congrFun ((f8 15 (by decide)).trans ((o8.1 15 (by decide) (by decide)).trans ((o7.1 15 (by decide) (by decide)).trans ((o6.1 15 (by decide) (by decide)).trans ((o5.1 15 (by decide) (by decide)).trans (o4.1 15 (by decide) (by decide))))))) j).trans (c3 j hj), fun j hj => (congrFun ((f8 17 (by decide)).trans ((o8.1 17 (by decide) (by decide)).trans ((o7.1 17 (by decide) (by decide)).trans ((o6.1 17 (by decide) (by decide)).trans (o5.1 17 (by decide) (by decide)))))) j).trans (c4 j hj), fun j hj => (congrFun ((f8 19 (by decide)).trans ((o8.1 19 (by decide) (by decide)).trans ((o7.1 19 (by decide) (by decide)).trans (o6.1 19 (by decide) (by decide))))) j).trans (c5 j hj), fun j hj => (congrFun ((f8 21 (by decide)).trans ((o8.1 21 (by decide) (by decide)).trans (o7.1 21 (by decide) (by decide)))) j).trans (c6 j hj), fun j hj => (congrFun ((f8 23 (by decide)).trans (o8.1 23 (by decide) (by decide))) j).trans (c7 j hj), fun j hj => (congrFun ((f8 25 (by decide)).trans rfl) j).trans (c8 j hj)⟩, ?_, ?_⟩
  · rw [e, qput_nk (by decide), qput_eq]; exact congrFun (p8 43 (by omega)) 8
  · rw [e, qput_eq, qput_ne (by decide)]; exact congrFun (p8 43 (by omega)) 9
end TO
