/-! WHAT IS KNOWN, AS FOLDS OVER THE ACTS; WHAT THE CLASS GATHERS -/
noncomputable def hf_52_60 (M : zM) (a1 : Int) : Int :=
  w32 ((w32 ((hR_get M 18 a1 4) * 14)) + (hR_get M 18 a1 5))
set_option maxRecDepth 100000 in
theorem fh_52_60 {n : Nat} {M : zM} (a1 : Int) : zH n (0, 0) 52 (0, zini [zR 60, .inl a1] 2, []) M (fun r M' => r = some (.inl (hf_52_60 M a1)) ∧ M' = M) := by
  have hz := zp_52
  have hE : hf_52_60 M a1 = hf_52_60 M a1 := rfl
  show zH n (0, 0) 52 (0, [zR 60, .inl a1], []) M _
  refine zH_wE (c1 := (12, [zR 60, .inl a1], [])) 5 hz zp_106 (fh_106_18 a1 4) (by rfl) ?_
  show zH n (0, 0) 52 (12, [zR 60, .inl a1], [.inl (hR_get M 18 a1 4)]) M _
  refine zH_wE (c1 := (27, [zR 60, .inl a1], [.inl (w32 ((hR_get M 18 a1 4) * 14))])) 7 hz zp_106 (fh_106_18 a1 5) (by rfl) ?_
  show zH n (0, 0) 52 (27, [zR 60, .inl a1], [.inl (hR_get M 18 a1 5), .inl (w32 ((hR_get M 18 a1 4) * 14))]) M _
  exact zH_wr (r := some (.inl (w32 ((w32 ((hR_get M 18 a1 4) * 14)) + (hR_get M 18 a1 5))))) 1 hz (by rfl) (hfinP hE)
noncomputable def hR_add (M : zM) (r : Nat) (a1 : Int) (a2 : Int) (a3 : Int) : zM :=
  hR_set M r a1 a2 (w32 ((hR_get M r a1 a2) + a3))
set_option maxRecDepth 100000 in
theorem fh_108_63 {n : Nat} {M : zM} (a1 : Int) (a2 : Int) (a3 : Int) : zH n (0, 0) 108 (0, zini [zR 63, .inl a1, .inl a2, .inl a3] 4, []) M (fun r M' => r = none ∧ M' = hR_add M 63 a1 a2 a3) := by
  have hz := zp_108
  have hE : hR_add M 63 a1 a2 a3 = hR_add M 63 a1 a2 a3 := rfl
  show zH n (0, 0) 108 (0, [zR 63, .inl a1, .inl a2, .inl a3], []) M _
  refine zH_wE (c1 := (9, [zR 63, .inl a1, .inl a2, .inl a3], [.inl a2, .inl a1, zR 63])) 6 hz zp_106 (fh_106_63 a1 a2) (by rfl) ?_
  show zH n (0, 0) 108 (9, [zR 63, .inl a1, .inl a2, .inl a3], [.inl (hR_get M 63 a1 a2), .inl a2, .inl a1, zR 63]) M _
  refine zH_wW (c1 := (14, [zR 63, .inl a1, .inl a2, .inl a3], [])) 2 hz zp_107 (fh_107_63 a1 a2 (w32 ((hR_get M 63 a1 a2) + a3))) (by rfl) ?_
  intro N1 hN1
  show zH n (0, 0) 108 (14, [zR 63, .inl a1, .inl a2, .inl a3], []) N1 _
  subst hN1
  exact zH_ret hz rfl rfl ⟨rfl, hE.symm⟩
noncomputable def hf_51_60 (M : zM) (a1 : Int) : zM :=
  (if (hR_get M 63 (hf_52_60 M a1) 3) = (-1) then (hR_set M 63 (hf_52_60 M a1) 3 a1) else (if (hR_get M 18 (hR_get M 63 (hf_52_60 M a1) 3) 1) ≤ (hR_get M 18 a1 1) then M else (hR_set M 63 (hf_52_60 M a1) 3 a1)))
set_option maxRecDepth 100000 in
theorem fh_51_60 {n : Nat} {M : zM} (a1 : Int) : zH n (0, 0) 51 (0, zini [zR 60, .inl a1] 4, []) M (fun r M' => r = none ∧ M' = hf_51_60 M a1) := by
  have hz := zp_51
  have hE : hf_51_60 M a1 = hf_51_60 M a1 := rfl
  show zH n (0, 0) 51 (0, [zR 60, .inl a1, zN, zN], []) M _
  refine zH_wE (c1 := (5, [zR 60, .inl a1, zN, zN], [])) 2 hz zp_52 (fh_52_60 a1) (by rfl) ?_
  show zH n (0, 0) 51 (5, [zR 60, .inl a1, zN, zN], [.inl (hf_52_60 M a1)]) M _
  refine zH_wE (c1 := (15, [zR 60, .inl a1, .inl (hf_52_60 M a1), zN], [])) 5 hz zp_106 (fh_106_63 (hf_52_60 M a1) 3) (by rfl) ?_
  show zH n (0, 0) 51 (15, [zR 60, .inl a1, .inl (hf_52_60 M a1), zN], [.inl (hR_get M 63 (hf_52_60 M a1) 3)]) M _
  refine zH_wi_eq (pc := 18) (n' := 21) (t := 48) (L := [zR 60, .inl a1, .inl (hf_52_60 M a1), .inl (hR_get M 63 (hf_52_60 M a1) 3)]) (st := []) (x := (hR_get M 63 (hf_52_60 M a1) 3)) (y := (-1)) 3 hz (by rfl) (fun hb => ?_) (fun hb => ?_)
  · have hE := hE.trans (if_pos hb)
    refine zH_wW (c1 := (58, [zR 60, .inl a1, .inl (hf_52_60 M a1), .inl (hR_get M 63 (hf_52_60 M a1) 3)], [])) 5 hz zp_107 (fh_107_63 (hf_52_60 M a1) 3 a1) (by rfl) ?_
    intro N1 hN1
    show zH n (0, 0) 51 (58, [zR 60, .inl a1, .inl (hf_52_60 M a1), .inl (hR_get M 63 (hf_52_60 M a1) 3)], []) N1 _
    subst hN1
    exact zH_ret hz rfl rfl ⟨rfl, hE.symm⟩
  · have hE := hE.trans (if_neg hb)
    refine zH_wE (c1 := (33, [zR 60, .inl a1, .inl (hf_52_60 M a1), .inl (hR_get M 63 (hf_52_60 M a1) 3)], [])) 5 hz zp_106 (fh_106_18 a1 1) (by rfl) ?_
    show zH n (0, 0) 51 (33, [zR 60, .inl a1, .inl (hf_52_60 M a1), .inl (hR_get M 63 (hf_52_60 M a1) 3)], [.inl (hR_get M 18 a1 1)]) M _
    refine zH_wE (c1 := (45, [zR 60, .inl a1, .inl (hf_52_60 M a1), .inl (hR_get M 63 (hf_52_60 M a1) 3)], [.inl (hR_get M 18 a1 1)])) 5 hz zp_106 (fh_106_18 (hR_get M 63 (hf_52_60 M a1) 3) 1) (by rfl) ?_
    show zH n (0, 0) 51 (45, [zR 60, .inl a1, .inl (hf_52_60 M a1), .inl (hR_get M 63 (hf_52_60 M a1) 3)], [.inl (hR_get M 18 (hR_get M 63 (hf_52_60 M a1) 3) 1), .inl (hR_get M 18 a1 1)]) M _
    refine zH_wi_ge (pc := 45) (n' := 48) (t := 58) (L := [zR 60, .inl a1, .inl (hf_52_60 M a1), .inl (hR_get M 63 (hf_52_60 M a1) 3)]) (st := []) (x := (hR_get M 18 a1 1)) (y := (hR_get M 18 (hR_get M 63 (hf_52_60 M a1) 3) 1)) 0 hz (by rfl) (fun hb => ?_) (fun hb => ?_)
    · have hE := hE.trans (if_pos hb)
      exact zH_wr (r := none) 0 hz (by rfl) ⟨rfl, hE.symm⟩
    · have hE := hE.trans (if_neg hb)
      refine zH_wW (c1 := (58, [zR 60, .inl a1, .inl (hf_52_60 M a1), .inl (hR_get M 63 (hf_52_60 M a1) 3)], [])) 5 hz zp_107 (fh_107_63 (hf_52_60 M a1) 3 a1) (by rfl) ?_
      intro N2 hN2
      show zH n (0, 0) 51 (58, [zR 60, .inl a1, .inl (hf_52_60 M a1), .inl (hR_get M 63 (hf_52_60 M a1) 3)], []) N2 _
      subst hN2
      exact zH_ret hz rfl rfl ⟨rfl, hE.symm⟩
noncomputable def hf_50_60 (M : zM) (a1 : Int) : zM :=
  (if (hR_get M 18 a1 0) = 0 then (hf_51_60 (hR_add M 63 (hf_52_60 M a1) 1 1) a1) else (if (hR_get M 18 a1 0) = 1 then (hR_set M 61 (hR_get M 18 a1 6) 2 a1) else (if (hR_get M 18 a1 0) = 2 then (hR_set M 61 (hR_get M 18 a1 6) 3 a1) else (if (hR_get M 18 a1 0) = 3 then (hR_set ((hR_open M 65).2) 65 ((hR_open M 65).1) 0 a1) else (if (hR_get M 18 a1 0) = 4 then (hR_set M 63 (hf_52_60 M a1) 2 1) else M)))))
set_option maxRecDepth 100000 in
theorem fh_50_60 {n : Nat} {M : zM} (a1 : Int) : zH n (0, 0) 50 (0, zini [zR 60, .inl a1] 2, []) M (fun r M' => r = none ∧ M' = hf_50_60 M a1) := by
  have hz := zp_50
  have hE : hf_50_60 M a1 = hf_50_60 M a1 := rfl
  show zH n (0, 0) 50 (0, [zR 60, .inl a1], []) M _
  refine zH_wE (c1 := (12, [zR 60, .inl a1], [])) 5 hz zp_106 (fh_106_18 a1 0) (by rfl) ?_
  show zH n (0, 0) 50 (12, [zR 60, .inl a1], [.inl (hR_get M 18 a1 0)]) M _
  refine zH_sw hz rfl ?_
  by_cases hw0 : (hR_get M 18 a1 0) = 0
  · have hE := hE.trans (if_pos hw0)
    rw [show zts 0 (hR_get M 18 a1 0) 156 [48, 70, 95, 120, 139] = 48 from by rw [hw0]; rfl]
    refine zH_w (c' := (54, [zR 60, .inl a1], [.inl a1, zR 60, zR 63])) 4 hz rfl ?_
    refine zH_wE (c1 := (57, [zR 60, .inl a1], [zR 63])) 0 hz zp_52 (fh_52_60 a1) (by rfl) ?_
    show zH n (0, 0) 50 (57, [zR 60, .inl a1], [.inl (hf_52_60 M a1), zR 63]) M _
    refine zH_wW (c1 := (62, [zR 60, .inl a1], [])) 2 hz zp_108 (fh_108_63 (hf_52_60 M a1) 1 1) (by rfl) ?_
    intro N1 hN1
    show zH n (0, 0) 50 (62, [zR 60, .inl a1], []) N1 _
    refine zH_wW (c1 := (67, [zR 60, .inl a1], [])) 2 hz zp_51 (fh_51_60 a1) (by rfl) ?_
    intro N2 hN2
    show zH n (0, 0) 50 (67, [zR 60, .inl a1], []) N2 _
    refine zH_w (c' := (156, [zR 60, .inl a1], [])) 1 hz rfl ?_
    subst hN2
    subst hN1
    exact zH_ret hz rfl rfl ⟨rfl, hE.symm⟩
  have hE := hE.trans (if_neg hw0)
  by_cases hw1 : (hR_get M 18 a1 0) = 1
  · have hE := hE.trans (if_pos hw1)
    rw [show zts 0 (hR_get M 18 a1 0) 156 [48, 70, 95, 120, 139] = 70 from by rw [hw1]; rfl]
    refine zH_w (c' := (84, [zR 60, .inl a1], [.inl 6, .inl a1, zR 18, zR 61])) 7 hz rfl ?_
    refine zH_wE (c1 := (87, [zR 60, .inl a1], [zR 61])) 0 hz zp_106 (fh_106_18 a1 6) (by rfl) ?_
    show zH n (0, 0) 50 (87, [zR 60, .inl a1], [.inl (hR_get M 18 a1 6), zR 61]) M _
    refine zH_wW (c1 := (92, [zR 60, .inl a1], [])) 2 hz zp_107 (fh_107_61 (hR_get M 18 a1 6) 2 a1) (by rfl) ?_
    intro N3 hN3
    show zH n (0, 0) 50 (92, [zR 60, .inl a1], []) N3 _
    refine zH_w (c' := (156, [zR 60, .inl a1], [])) 1 hz rfl ?_
    subst hN3
    exact zH_ret hz rfl rfl ⟨rfl, hE.symm⟩
  have hE := hE.trans (if_neg hw1)
  by_cases hw2 : (hR_get M 18 a1 0) = 2
  · have hE := hE.trans (if_pos hw2)
    rw [show zts 0 (hR_get M 18 a1 0) 156 [48, 70, 95, 120, 139] = 95 from by rw [hw2]; rfl]
    refine zH_w (c' := (109, [zR 60, .inl a1], [.inl 6, .inl a1, zR 18, zR 61])) 7 hz rfl ?_
    refine zH_wE (c1 := (112, [zR 60, .inl a1], [zR 61])) 0 hz zp_106 (fh_106_18 a1 6) (by rfl) ?_
    show zH n (0, 0) 50 (112, [zR 60, .inl a1], [.inl (hR_get M 18 a1 6), zR 61]) M _
    refine zH_wW (c1 := (117, [zR 60, .inl a1], [])) 2 hz zp_107 (fh_107_61 (hR_get M 18 a1 6) 3 a1) (by rfl) ?_
    intro N4 hN4
    show zH n (0, 0) 50 (117, [zR 60, .inl a1], []) N4 _
    refine zH_w (c' := (156, [zR 60, .inl a1], [])) 1 hz rfl ?_
    subst hN4
    exact zH_ret hz rfl rfl ⟨rfl, hE.symm⟩
  have hE := hE.trans (if_neg hw2)
  by_cases hw3 : (hR_get M 18 a1 0) = 3
  · have hE := hE.trans (if_pos hw3)
    rw [show zts 0 (hR_get M 18 a1 0) 156 [48, 70, 95, 120, 139] = 120 from by rw [hw3]; rfl]
    refine zH_w (c' := (128, [zR 60, .inl a1], [zR 65, zR 65])) 4 hz rfl ?_
    refine zH_wB (c1 := (131, [zR 60, .inl a1], [zR 65])) 0 hz zp_103 (fh_103_65) (by rfl) ?_
    intro u5 N6 hu5 hN6
    show zH n (0, 0) 50 (131, [zR 60, .inl a1], [.inl u5, zR 65]) N6 _
    refine zH_wW (c1 := (136, [zR 60, .inl a1], [])) 2 hz zp_107 (fh_107_65 u5 0 a1) (by rfl) ?_
    intro N7 hN7
    show zH n (0, 0) 50 (136, [zR 60, .inl a1], []) N7 _
    refine zH_w (c' := (156, [zR 60, .inl a1], [])) 1 hz rfl ?_
    subst hN7
    subst hN6
    subst hu5
    exact zH_ret hz rfl rfl ⟨rfl, hE.symm⟩
  have hE := hE.trans (if_neg hw3)
  by_cases hw4 : (hR_get M 18 a1 0) = 4
  · have hE := hE.trans (if_pos hw4)
    rw [show zts 0 (hR_get M 18 a1 0) 156 [48, 70, 95, 120, 139] = 139 from by rw [hw4]; rfl]
    refine zH_w (c' := (145, [zR 60, .inl a1], [.inl a1, zR 60, zR 63])) 4 hz rfl ?_
    refine zH_wE (c1 := (148, [zR 60, .inl a1], [zR 63])) 0 hz zp_52 (fh_52_60 a1) (by rfl) ?_
    show zH n (0, 0) 50 (148, [zR 60, .inl a1], [.inl (hf_52_60 M a1), zR 63]) M _
    refine zH_wW (c1 := (153, [zR 60, .inl a1], [])) 2 hz zp_107 (fh_107_63 (hf_52_60 M a1) 2 1) (by rfl) ?_
    intro N8 hN8
    show zH n (0, 0) 50 (153, [zR 60, .inl a1], []) N8 _
    refine zH_w (c' := (156, [zR 60, .inl a1], [])) 1 hz rfl ?_
    subst hN8
    exact zH_ret hz rfl rfl ⟨rfl, hE.symm⟩
  have hE := hE.trans (if_neg hw4)
  rw [show zts 0 (hR_get M 18 a1 0) 156 [48, 70, 95, 120, 139] = 156 from zts_none (by show ∀ q : Nat, q < 5 → _; intro q hq; rcases (by omega : q = 0 ∨ q = 1 ∨ q = 2 ∨ q = 3 ∨ q = 4) with rfl | rfl | rfl | rfl | rfl <;> (intro hx; first | exact absurd hx (by omega)))]
  exact zH_ret hz rfl rfl ⟨rfl, hE.symm⟩
noncomputable def hf_53 (M : zM) (a0 : Int) (a1 : Int) : Int :=
  (if 10 < (if 0 ≤ (w32 (a0 - a1)) then (w32 (a0 - a1)) else w32 (0 - (w32 (a0 - a1)))) then (if a1 < a0 then a1 else a0) else w32 ((w32 (a0 + a1)).tdiv 2))
set_option maxRecDepth 100000 in
theorem fh_53 {n : Nat} {M : zM} (a0 : Int) (a1 : Int) : zH n (0, 0) 53 (0, zini [.inl a0, .inl a1] 2, []) M (fun r M' => r = some (.inl (hf_53 M a0 a1)) ∧ M' = M) := by
  have hz := zp_53
  have hE : hf_53 M a0 a1 = hf_53 M a0 a1 := rfl
  show zH n (0, 0) 53 (0, [.inl a0, .inl a1], []) M _
  refine zH_w (c' := (8, [.inl a0, .inl a1], [.inl 10, .inl (if 0 ≤ (w32 (a0 - a1)) then (w32 (a0 - a1)) else w32 (0 - (w32 (a0 - a1))))])) 5 hz rfl ?_
  refine zH_wi_gt (pc := 8) (n' := 11) (t := 19) (L := [.inl a0, .inl a1]) (st := []) (x := (if 0 ≤ (w32 (a0 - a1)) then (w32 (a0 - a1)) else w32 (0 - (w32 (a0 - a1))))) (y := 10) 0 hz (by rfl) (fun hb => ?_) (fun hb => ?_)
  · have hE := hE.trans (if_pos hb)
    refine zH_w (c' := (24, [.inl a0, .inl a1], [.inl (if a1 < a0 then a1 else a0)])) 3 hz rfl ?_
    exact zH_wr (r := some (.inl (if a1 < a0 then a1 else a0))) 0 hz (by rfl) (hfinP hE)
  · have hE := hE.trans (if_neg hb)
    refine zH_w (c' := (15, [.inl a0, .inl a1], [.inl 2, .inl (w32 (a0 + a1))])) 4 hz rfl ?_
    refine zH_idiv hz rfl (fun _ => ?_)
    show zH n (0, 0) 53 (16, [.inl a0, .inl a1], [.inl (w32 ((w32 (a0 + a1)).tdiv 2))]) M _
    exact zH_wr (r := some (.inl (w32 ((w32 (a0 + a1)).tdiv 2)))) 1 hz (by rfl) (hfinP hE)
noncomputable def hf_42_60 (M : zM) (a1 : Int) : Int :=
  (if ¬ (hR_get M 61 a1 0) = 1 then 0 else 1)
set_option maxRecDepth 100000 in
theorem fh_42_60 {n : Nat} {M : zM} (a1 : Int) : zH n (0, 0) 42 (0, zini [zR 60, .inl a1] 2, []) M (fun r M' => r = some (.inl (hf_42_60 M a1)) ∧ M' = M) := by
  have hz := zp_42
  have hE : hf_42_60 M a1 = hf_42_60 M a1 := rfl
  show zH n (0, 0) 42 (0, [zR 60, .inl a1], []) M _
  refine zH_wE (c1 := (9, [zR 60, .inl a1], [])) 4 hz zp_106 (fh_106_61 a1 0) (by rfl) ?_
  show zH n (0, 0) 42 (9, [zR 60, .inl a1], [.inl (hR_get M 61 a1 0)]) M _
  refine zH_wi_ne (pc := 10) (n' := 13) (t := 17) (L := [zR 60, .inl a1]) (st := []) (x := (hR_get M 61 a1 0)) (y := 1) 1 hz (by rfl) (fun hb => ?_) (fun hb => ?_)
  · have hE := hE.trans (if_pos hb)
    refine zH_w (c' := (18, [zR 60, .inl a1], [.inl 0])) 1 hz rfl ?_
    exact zH_zret hz rfl (hfinP hE)
  · have hE := hE.trans (if_neg hb)
    refine zH_w (c' := (18, [zR 60, .inl a1], [.inl 1])) 2 hz rfl ?_
    exact zH_zret hz rfl (hfinP hE)
noncomputable def hf_43_60 (M : zM) (a1 : Int) : Int :=
  (hR_get M 61 a1 2)
set_option maxRecDepth 100000 in
theorem fh_43_60 {n : Nat} {M : zM} (a1 : Int) : zH n (0, 0) 43 (0, zini [zR 60, .inl a1] 2, []) M (fun r M' => r = some (.inl (hf_43_60 M a1)) ∧ M' = M) := by
  have hz := zp_43
  have hE : hf_43_60 M a1 = hf_43_60 M a1 := rfl
  show zH n (0, 0) 43 (0, [zR 60, .inl a1], []) M _
  refine zH_wE (c1 := (9, [zR 60, .inl a1], [])) 4 hz zp_106 (fh_106_61 a1 2) (by rfl) ?_
  show zH n (0, 0) 43 (9, [zR 60, .inl a1], [.inl (hR_get M 61 a1 2)]) M _
  exact zH_wr (r := some (.inl (hR_get M 61 a1 2))) 0 hz (by rfl) (hfinP hE)
noncomputable def hf_44_60 (M : zM) (a1 : Int) (a2 : Int) : Int :=
  (hR_get M 63 (w32 ((w32 (a1 * 14)) + a2)) 0)
set_option maxRecDepth 100000 in
theorem fh_44_60 {n : Nat} {M : zM} (a1 : Int) (a2 : Int) : zH n (0, 0) 44 (0, zini [zR 60, .inl a1, .inl a2] 3, []) M (fun r M' => r = some (.inl (hf_44_60 M a1 a2)) ∧ M' = M) := by
  have hz := zp_44
  have hE : hf_44_60 M a1 a2 = hf_44_60 M a1 a2 := rfl
  show zH n (0, 0) 44 (0, [zR 60, .inl a1, .inl a2], []) M _
  refine zH_wE (c1 := (14, [zR 60, .inl a1, .inl a2], [])) 8 hz zp_106 (fh_106_63 (w32 ((w32 (a1 * 14)) + a2)) 0) (by rfl) ?_
  show zH n (0, 0) 44 (14, [zR 60, .inl a1, .inl a2], [.inl (hR_get M 63 (w32 ((w32 (a1 * 14)) + a2)) 0)]) M _
  exact zH_wr (r := some (.inl (hR_get M 63 (w32 ((w32 (a1 * 14)) + a2)) 0))) 0 hz (by rfl) (hfinP hE)
noncomputable def hf_45_60 (M : zM) (a1 : Int) (a2 : Int) : Int :=
  (hR_get M 63 (w32 ((w32 (a1 * 14)) + a2)) 1)
set_option maxRecDepth 100000 in
theorem fh_45_60 {n : Nat} {M : zM} (a1 : Int) (a2 : Int) : zH n (0, 0) 45 (0, zini [zR 60, .inl a1, .inl a2] 3, []) M (fun r M' => r = some (.inl (hf_45_60 M a1 a2)) ∧ M' = M) := by
  have hz := zp_45
  have hE : hf_45_60 M a1 a2 = hf_45_60 M a1 a2 := rfl
  show zH n (0, 0) 45 (0, [zR 60, .inl a1, .inl a2], []) M _
  refine zH_wE (c1 := (14, [zR 60, .inl a1, .inl a2], [])) 8 hz zp_106 (fh_106_63 (w32 ((w32 (a1 * 14)) + a2)) 1) (by rfl) ?_
  show zH n (0, 0) 45 (14, [zR 60, .inl a1, .inl a2], [.inl (hR_get M 63 (w32 ((w32 (a1 * 14)) + a2)) 1)]) M _
  exact zH_wr (r := some (.inl (hR_get M 63 (w32 ((w32 (a1 * 14)) + a2)) 1))) 0 hz (by rfl) (hfinP hE)
noncomputable def hf_46_60 (M : zM) (a1 : Int) (a2 : Int) : Int :=
  (hR_get M 63 (w32 ((w32 (a1 * 14)) + a2)) 2)
set_option maxRecDepth 100000 in
theorem fh_46_60 {n : Nat} {M : zM} (a1 : Int) (a2 : Int) : zH n (0, 0) 46 (0, zini [zR 60, .inl a1, .inl a2] 3, []) M (fun r M' => r = some (.inl (hf_46_60 M a1 a2)) ∧ M' = M) := by
  have hz := zp_46
  have hE : hf_46_60 M a1 a2 = hf_46_60 M a1 a2 := rfl
  show zH n (0, 0) 46 (0, [zR 60, .inl a1, .inl a2], []) M _
  refine zH_wE (c1 := (14, [zR 60, .inl a1, .inl a2], [])) 8 hz zp_106 (fh_106_63 (w32 ((w32 (a1 * 14)) + a2)) 2) (by rfl) ?_
  show zH n (0, 0) 46 (14, [zR 60, .inl a1, .inl a2], [.inl (hR_get M 63 (w32 ((w32 (a1 * 14)) + a2)) 2)]) M _
  exact zH_wr (r := some (.inl (hR_get M 63 (w32 ((w32 (a1 * 14)) + a2)) 2))) 0 hz (by rfl) (hfinP hE)
set_option maxRecDepth 100000 in
theorem fh_104_65 {n : Nat} {M : zM} : zH n (0, 0) 104 (0, zini [zR 65] 1, []) M (fun r M' => r = none ∧ M' = hR_drop M 65) := by
  have hz := zp_104
  have hE : hR_drop M 65 = hR_drop M 65 := rfl
  show zH n (0, 0) 104 (0, [zR 65], []) M _
  refine zH_w (c' := (5, [zR 65], [])) 3 hz rfl ?_
  exact zH_wr (r := none) 0 hz (by rfl) ⟨rfl, hE.symm⟩
noncomputable def kL (M : zM) (C : Nat → Bool) (s : Int) (m : Int) : Nat → Int
  | 0 => -1
  | n + 1 => if C n = true ∧ qA M (n : Int) 0 = s ∧ qA M (n : Int) 6 = m then (n : Int) else kL M C s m n
theorem kL_s (M : zM) (C : Nat → Bool) (s : Int) (m : Int) (n : Nat) : kL M C s m (n + 1) = if C n = true ∧ qA M (n : Int) 0 = s ∧ qA M (n : Int) 6 = m then (n : Int) else kL M C s m n := rfl
noncomputable def kS (M : zM) (C : Nat → Bool) (m : Int) : Nat → Int
  | 0 => -1
  | n + 1 => if C n = true ∧ qA M (n : Int) 0 = 3 ∧ qA M (n : Int) 5 = qA M m 5 ∧ qA M m 1 ≤ qA M (n : Int) 1 then (n : Int) else kS M C m n
theorem kS_s (M : zM) (C : Nat → Bool) (m : Int) (n : Nat) : kS M C m (n + 1) = if C n = true ∧ qA M (n : Int) 0 = 3 ∧ qA M (n : Int) 5 = qA M m 5 ∧ qA M m 1 ≤ qA M (n : Int) 1 then (n : Int) else kS M C m n := rfl
noncomputable def kR (M : zM) (a : Int) : Int := qA M a 4 * 14 + qA M a 5
noncomputable def kT (M : zM) (C : Nat → Bool) (r : Int) : Nat → Int
  | 0 => 0
  | n + 1 => if C n = true ∧ qA M (n : Int) 0 = 0 ∧ kR M (n : Int) = r then kT M C r n + 1 else kT M C r n
theorem kT_s (M : zM) (C : Nat → Bool) (r : Int) (n : Nat) : kT M C r (n + 1) = if C n = true ∧ qA M (n : Int) 0 = 0 ∧ kR M (n : Int) = r then kT M C r n + 1 else kT M C r n := rfl
noncomputable def kX (M : zM) (C : Nat → Bool) (r : Int) : Nat → Int
  | 0 => 0
  | n + 1 => if C n = true ∧ qA M (n : Int) 0 = 4 ∧ kR M (n : Int) = r then 1 else kX M C r n
theorem kX_s (M : zM) (C : Nat → Bool) (r : Int) (n : Nat) : kX M C r (n + 1) = if C n = true ∧ qA M (n : Int) 0 = 4 ∧ kR M (n : Int) = r then 1 else kX M C r n := rfl
noncomputable def kF (M : zM) (C : Nat → Bool) (r : Int) : Nat → Int
  | 0 => -1
  | n + 1 => if C n = true ∧ qA M (n : Int) 0 = 0 ∧ kR M (n : Int) = r then (if kF M C r n = -1 ∨ qA M (n : Int) 1 < qA M (kF M C r n) 1 then (n : Int) else kF M C r n) else kF M C r n
theorem kF_s (M : zM) (C : Nat → Bool) (r : Int) (n : Nat) : kF M C r (n + 1) = if C n = true ∧ qA M (n : Int) 0 = 0 ∧ kR M (n : Int) = r then (if kF M C r n = -1 ∨ qA M (n : Int) 1 < qA M (kF M C r n) 1 then (n : Int) else kF M C r n) else kF M C r n := rfl
noncomputable def kN (M : zM) (C : Nat → Bool) : Nat → Nat
  | 0 => 0
  | n + 1 => if C n = true ∧ qA M (n : Int) 0 = 3 then kN M C n + 1 else kN M C n
theorem kN_s (M : zM) (C : Nat → Bool) (n : Nat) : kN M C (n + 1) = if C n = true ∧ qA M (n : Int) 0 = 3 then kN M C n + 1 else kN M C n := rfl
section KF
variable {M : zM} {C : Nat → Bool} {s m r : Int} {n : Nat}
theorem kL_no (h : ¬ (C n = true ∧ qA M (n : Int) 0 = s ∧ qA M (n : Int) 6 = m)) : kL M C s m (n + 1) = kL M C s m n := if_neg h
theorem kT_no (h : ¬ (C n = true ∧ qA M (n : Int) 0 = 0 ∧ kR M (n : Int) = r)) : kT M C r (n + 1) = kT M C r n := if_neg h
theorem kX_no (h : ¬ (C n = true ∧ qA M (n : Int) 0 = 4 ∧ kR M (n : Int) = r)) : kX M C r (n + 1) = kX M C r n := if_neg h
theorem kF_no (h : ¬ (C n = true ∧ qA M (n : Int) 0 = 0 ∧ kR M (n : Int) = r)) : kF M C r (n + 1) = kF M C r n := if_neg h
theorem kN_no (h : ¬ (C n = true ∧ qA M (n : Int) 0 = 3)) : kN M C (n + 1) = kN M C n := if_neg h
theorem kN_yes (h : C n = true ∧ qA M (n : Int) 0 = 3) : kN M C (n + 1) = kN M C n + 1 := if_pos h
end KF
theorem kL_r (M : zM) (C : Nat → Bool) (s m : Int) : ∀ n : Nat, -1 ≤ kL M C s m n ∧ kL M C s m n < n
  | 0 => by show -1 ≤ (-1 : Int) ∧ (-1 : Int) < ((0 : Nat) : Int); omega
  | n + 1 => by have q := kL_r M C s m n; rw [kL_s]; split <;> omega
theorem kS_r (M : zM) (C : Nat → Bool) (m : Int) : ∀ n : Nat, -1 ≤ kS M C m n ∧ kS M C m n < n
  | 0 => by show -1 ≤ (-1 : Int) ∧ (-1 : Int) < ((0 : Nat) : Int); omega
  | n + 1 => by have q := kS_r M C m n; rw [kS_s]; split <;> omega
theorem kT_r (M : zM) (C : Nat → Bool) (r : Int) : ∀ n : Nat, 0 ≤ kT M C r n ∧ kT M C r n ≤ n
  | 0 => by show 0 ≤ (0 : Int) ∧ (0 : Int) ≤ ((0 : Nat) : Int); omega
  | n + 1 => by have q := kT_r M C r n; rw [kT_s]; split <;> omega
theorem kF_r (M : zM) (C : Nat → Bool) (r : Int) : ∀ n : Nat, -1 ≤ kF M C r n ∧ kF M C r n < n
  | 0 => by show -1 ≤ (-1 : Int) ∧ (-1 : Int) < ((0 : Nat) : Int); omega
  | n + 1 => by have q := kF_r M C r n; rw [kF_s]; split; split <;> omega; omega
theorem kN_r (M : zM) (C : Nat → Bool) : ∀ n : Nat, kN M C n ≤ n
  | 0 => Nat.le_refl _
  | n + 1 => by have q := kN_r M C n; rw [kN_s]; split <;> omega
theorem kN_mono (M : zM) (C : Nat → Bool) (a : Nat) : ∀ n : Nat, a ≤ n → kN M C a ≤ kN M C n
  | 0, h => by rw [show a = 0 by omega]; exact Nat.le_refl _
  | n + 1, h => by
    by_cases e : a = n + 1
    · rw [e]; exact Nat.le_refl _
    · have q := kN_mono M C a n (by omega); rw [kN_s]; split <;> omega
theorem kN_lt (M : zM) (C : Nat → Bool) (a n : Nat) (h : a < n) (hc : C a = true ∧ qA M (a : Int) 0 = 3) : kN M C a < kN M C n := by
  have q := kN_mono M C (a + 1) n h
  rw [kN_yes hc] at q
  omega
/-- the last scale ahead of a place -/
theorem kN_top (M : zM) (C : Nat → Bool) : ∀ n : Nat, 0 < kN M C n → ∃ a : Nat, a < n ∧ (C a = true ∧ qA M (a : Int) 0 = 3) ∧ kN M C n = kN M C a + 1 ∧ ∀ m, kS M C m n = kS M C m (a + 1)
  | 0, h => absurd h (Nat.lt_irrefl _)
  | n + 1, h => by
    by_cases e : C n = true ∧ qA M (n : Int) 0 = 3
    · exact ⟨n, by omega, e, kN_yes e, fun _ => rfl⟩
    · rw [kN_no e] at h ⊢
      obtain ⟨a, h1, h2, h3, h4⟩ := kN_top M C n h
      exact ⟨a, by omega, h2, h3, fun m => by rw [← h4 m]; exact if_neg (fun q => e ⟨q.1, q.2.1⟩)⟩
theorem kS_none (M : zM) (C : Nat → Bool) (m : Int) : ∀ n : Nat, kN M C n = 0 → kS M C m n = -1
  | 0, _ => rfl
  | n + 1, h => by
    by_cases e : C n = true ∧ qA M (n : Int) 0 = 3
    · rw [kN_yes e] at h; exact absurd h (by omega)
    · rw [kN_no e] at h
      rw [kS_s, if_neg (fun q => e ⟨q.1, q.2.1⟩)]
      exact kS_none M C m n h
/-- the first of a row: by days, then numbers -/
theorem kF_is (M : zM) (C : Nat → Bool) (r : Int) : ∀ n : Nat, (kF M C r n = -1 → ∀ a : Nat, a < n → ¬ (C a = true ∧ qA M (a : Int) 0 = 0 ∧ kR M (a : Int) = r)) ∧ (0 ≤ kF M C r n → (C (kF M C r n).toNat = true ∧ qA M (kF M C r n) 0 = 0 ∧ kR M (kF M C r n) = r) ∧ ∀ a : Nat, a < n → (C a = true ∧ qA M (a : Int) 0 = 0 ∧ kR M (a : Int) = r) → qA M (kF M C r n) 1 < qA M (a : Int) 1 ∨ (qA M (kF M C r n) 1 = qA M (a : Int) 1 ∧ kF M C r n ≤ a))
  | 0 => ⟨fun _ a h => absurd h (Nat.not_lt_zero _), fun h => by have h : (0 : Int) ≤ -1 := h; omega⟩
  | n + 1 => by
    obtain ⟨q1, q2⟩ := kF_is M C r n
    have q3 := kF_r M C r n
    by_cases e : C n = true ∧ qA M (n : Int) 0 = 0 ∧ kR M (n : Int) = r
    · rw [kF_s, if_pos e]
      by_cases e2 : kF M C r n = -1 ∨ qA M (n : Int) 1 < qA M (kF M C r n) 1
      · rw [if_pos e2]
        refine ⟨fun h => absurd h (by omega), fun _ => ⟨by rw [show ((n : Int)).toNat = n by omega]; exact e, fun a ha hc => ?_⟩⟩
        by_cases ea : a = n
        · subst ea; exact .inr ⟨rfl, Int.le_refl _⟩
        · rcases e2 with e2 | e2
          · exact absurd hc (q1 e2 a (by omega))
          · by_cases e3 : kF M C r n = -1
            · exact absurd hc (q1 e3 a (by omega))
            · have := (q2 (by omega)).2 a (by omega) hc
              omega
      · rw [if_neg e2]
        refine ⟨fun h => absurd (.inl h) e2, fun h => ⟨(q2 h).1, fun a ha hc => ?_⟩⟩
        by_cases ea : a = n
        · subst ea; omega
        · exact (q2 h).2 a (by omega) hc
    · rw [kF_s, if_neg e]
      refine ⟨fun h a ha hc => ?_, fun h => ⟨(q2 h).1, fun a ha hc => ?_⟩⟩
      · by_cases ea : a = n
        · subst ea; exact e hc
        · exact q1 h a (by omega) hc
      · by_cases ea : a = n
        · subst ea; exact absurd hc e
        · exact (q2 h).2 a (by omega) hc
noncomputable def kP (M : zM) : Prop := qMI M ∧ hHs M 9 (M 98) ∧ hTb M ∧ (M 61 0 = 250 ∧ M 61 1 = 4) ∧ (M 63 0 = 280 ∧ M 63 1 = 4) ∧ (M 65 0 = 250 ∧ M 65 1 = 1)
/-- what lies ready when the acts ahead of i are gathered; F: the finals -/
noncomputable def kG (M : zM) (C : Nat → Bool) (F : Nat → Int) (i : Nat) (M' : zM) : Prop :=
  (∀ r, r ≠ 62 → r ≠ 64 → r ≠ 65 → r ≠ 66 → M' r = M r) ∧ (M' 65 0 = 250 ∧ M' 65 1 = 1 ∧ M' 65 3 = (kN M C i : Int)) ∧
  (∀ a : Nat, (a : Int) < M 98 4 → M' 62 (4 * a) = if C a = true then 1 else 0) ∧
  (∀ m : Nat, (m : Int) < M 98 4 → M' 62 (4 * m + 2) = kL M C 1 (m : Int) i ∧ M' 62 (4 * m + 3) = kL M C 2 (m : Int) i) ∧
  (∀ r : Nat, (r : Int) < 14 * M 98 1 → M' 64 (4 * r) = F r ∧ M' 64 (4 * r + 1) = kT M C (r : Int) i ∧ M' 64 (4 * r + 2) = kX M C (r : Int) i ∧ M' 64 (4 * r + 3) = kF M C (r : Int) i) ∧
  (∀ a : Nat, a < i → C a = true → qA M (a : Int) 0 = 3 → M' 66 (kN M C a) = a)
section KG
variable {M M' : zM} {C : Nat → Bool} {F : Nat → Int} {i : Nat}
theorem kP.rd (hp : kP M) (e18 : M' 18 = M 18) (e19 : M' 19 = M 19) {a b : Int} (ha : 0 ≤ a ∧ a < 250) (hb : 0 ≤ b ∧ b < 8) : hR_get M' 18 a b = qA M a b := by
  rw [show hR_get M' 18 a b = hR_get M 18 a b from by unfold hR_get; rw [e18, show M' (18 + 1) = M (18 + 1) from e19], hrA hp.2.1 hp.2.2.1 ha hb]
  unfold qA
  rw [show (350 + 12 * a + b).toNat = 350 + 12 * a.toNat + b.toNat by omega]
/-- what a scale tells -/
theorem kP.rs (hp : kP M) (e18 : M' 18 = M 18) (e19 : M' 19 = M 19) {a : Int} (ha : 0 ≤ a ∧ a < 250) (h3 : qA M a 0 = 3) : hR_get M' 18 a 8 = qA M a 9 ∧ hR_get M' 18 a 9 = qA M a 10 ∧ hR_get M' 18 a 10 = qA M a 11 := by
  have q := (hp.2.1.2.2.2.2.1.2 a.toNat (by omega)).2.2.1 (by unfold qA at h3; rw [show (350 + 12 * a + 0).toNat = 350 + 12 * a.toNat by omega] at h3; exact h3)
  have g : ∀ b : Int, 0 ≤ b → b < 11 → hR_get M' 18 a b = M 19 (11 * a.toNat + b.toNat) := fun b h1 h2 => by
    rw [show hR_get M' 18 a b = hR_get M 18 a b from by unfold hR_get; rw [e18, show M' (18 + 1) = M (18 + 1) from e19]]
    exact hG_18 hp.2.2.1 ha ⟨h1, h2⟩
  rw [g 8 (by decide) (by decide), g 9 (by decide) (by decide), g 10 (by decide) (by decide)]
  unfold qA
  rw [show (350 + 12 * a + 9).toNat = 359 + 12 * a.toNat by omega, show (350 + 12 * a + 10).toNat = 360 + 12 * a.toNat by omega, show (350 + 12 * a + 11).toNat = 361 + 12 * a.toNat by omega]
  exact q
theorem kP.row (hp : kP M) (e18 : M' 18 = M 18) (e19 : M' 19 = M 19) (hi : (i : Int) < M 98 4) (hs : qA M (i : Int) 0 = 0 ∨ qA M (i : Int) 0 = 4) : hf_52_60 M' (i : Int) = kR M (i : Int) ∧ 0 ≤ kR M (i : Int) ∧ kR M (i : Int) < 14 * M 98 1 := by
  have hn := hp.1.cnt4
  have hn1 := hp.1.cnt1
  have ha := hp.1.act (i : Int) (by omega)
  have hr := hp.1.rel (i : Int) (by omega) hi
  have hw := (hp.2.1.2.2.2.2.2.2.2.2.1 i hi (by omega)).2
  have hw : qA M (i : Int) 4 < M 98 1 := by
    unfold qA at hs ⊢
    rw [show (350 + 12 * (i : Int) + 0).toNat = 350 + 12 * i by omega] at hs
    rw [show (350 + 12 * (i : Int) + 4).toNat = 354 + 12 * i by omega]
    exact hw hs
  unfold hf_52_60
  rw [hp.rd e18 e19 (by omega) (by decide), hp.rd e18 e19 (by omega) (by decide)]
  unfold kR
  rw [w32_id (x := qA M (i : Int) 4 * 14) (by omega), w32_id (by omega)]
  refine ⟨rfl, ?_, ?_⟩ <;> omega
theorem kput_self {r k : Nat} {x : Int} (h : M r k = x) : zput M r k x = M := by
  funext i j
  rcases qput_or M r k i j x with e | ⟨rfl, rfl, e⟩
  · exact e
  · rw [e, h]
theorem kG.stp (hp : kP M) (h : kG M C F i M') (hi : (i : Int) < M 98 4) (hc : C i = true) : kG M C F (i + 1) (hf_50_60 M' (i : Int)) := by
  have hn := hp.1.cnt4
  have hn1 := hp.1.cnt1
  have e18 : M' 18 = M 18 := h.1 18 (by decide) (by decide) (by decide) (by decide)
  have e19 : M' 19 = M 19 := h.1 19 (by decide) (by decide) (by decide) (by decide)
  have t61 : M' 61 0 = 250 ∧ M' 61 1 = 4 := by rw [h.1 61 (by decide) (by decide) (by decide) (by decide)]; exact hp.2.2.2.1
  have t63 : M' 63 0 = 280 ∧ M' 63 1 = 4 := by rw [h.1 63 (by decide) (by decide) (by decide) (by decide)]; exact hp.2.2.2.2.1
  have hac := hp.1.act (i : Int) (by omega)
  have hrel := hp.1.rel (i : Int) (by omega) hi
  have hkn := kN_r M C i
  obtain ⟨h1, h2, h3, h4, h5, h6⟩ := h
  have nL1 : qA M (i : Int) 0 ≠ 1 → ∀ m, kL M C 1 m (i + 1) = kL M C 1 m i := fun hs m => kL_no (fun q => hs q.2.1)
  have nL2 : qA M (i : Int) 0 ≠ 2 → ∀ m, kL M C 2 m (i + 1) = kL M C 2 m i := fun hs m => kL_no (fun q => hs q.2.1)
  have nT : qA M (i : Int) 0 ≠ 0 → ∀ r, kT M C r (i + 1) = kT M C r i := fun hs r => kT_no (fun q => hs q.2.1)
  have nX : qA M (i : Int) 0 ≠ 4 → ∀ r, kX M C r (i + 1) = kX M C r i := fun hs r => kX_no (fun q => hs q.2.1)
  have nF : qA M (i : Int) 0 ≠ 0 → ∀ r, kF M C r (i + 1) = kF M C r i := fun hs r => kF_no (fun q => hs q.2.1)
  have nN : qA M (i : Int) 0 ≠ 3 → kN M C (i + 1) = kN M C i := fun hs => kN_no (fun q => hs q.2)
  have h6' : qA M (i : Int) 0 ≠ 3 → ∀ a : Nat, a < i + 1 → C a = true → qA M (a : Int) 0 = 3 → M' 66 (kN M C a) = a := fun hs a ha hca h3a => by
    by_cases e : a = i
    · subst e; exact absurd h3a hs
    · exact h6 a (by omega) hca h3a
  unfold hf_50_60
  rw [hp.rd e18 e19 (by omega) (by decide)]
  by_cases s0 : qA M (i : Int) 0 = 0
  · rw [if_pos s0]
    obtain ⟨er, r1, r2⟩ := hp.row e18 e19 hi (.inl s0)
    obtain ⟨R, hR⟩ : ∃ R : Nat, (R : Int) = kR M (i : Int) := ⟨(kR M (i : Int)).toNat, by omega⟩
    have hR4 := h5 R (by omega)
    have hTr := kT_r M C (R : Int) i
    have ea : hR_add M' 63 (hf_52_60 M' (i : Int)) 1 1 = zput M' 64 (4 * R + 1) (kT M C (R : Int) i + 1) := by
      unfold hR_add
      rw [er, ← hR, hG_63 t63 (by omega) (by decide), hS_63 t63 (by omega) (by decide), show 4 * (R : Int).toNat + (1 : Int).toNat = 4 * R + 1 by simp only [Int.reduceToNat]; omega, hR4.2.1, w32_id (by omega)]
    rw [ea]
    obtain ⟨A, hA⟩ : ∃ A, A = zput M' 64 (4 * R + 1) (kT M C (R : Int) i + 1) := ⟨_, rfl⟩
    rw [← hA]
    have eA : ∀ r, r ≠ 64 → A r = M' r := fun r hr => by rw [hA]; exact zput_oth hr
    have tA : A 63 0 = 280 ∧ A 63 1 = 4 := by rw [eA 63 (by decide)]; exact t63
    have A18 : A 18 = M 18 := (eA 18 (by decide)).trans e18
    have A19 : A 19 = M 19 := (eA 19 (by decide)).trans e19
    have A3 : A 64 (4 * R + 3) = kF M C (R : Int) i := by rw [hA, qput_nk (by omega)]; exact hR4.2.2.2
    have hFr := kF_r M C (R : Int) i
    have eB : hf_51_60 A (i : Int) = zput A 64 (4 * R + 3) (kF M C (R : Int) (i + 1)) := by
      have es : hR_set A 63 (R : Int) 3 (i : Int) = zput A 64 (4 * R + 3) (i : Int) := by
        rw [hS_63 tA (by omega) (by decide), show 4 * (R : Int).toNat + (3 : Int).toNat = 4 * R + 3 by simp only [Int.reduceToNat]; omega]
      unfold hf_51_60
      rw [(hp.row A18 A19 hi (.inl s0)).1, ← hR, hG_63 tA (by omega) (by decide), show 4 * (R : Int).toNat + (3 : Int).toNat = 4 * R + 3 by simp only [Int.reduceToNat]; omega, A3, es, hp.rd A18 A19 (a := (i : Int)) (by omega) (by decide)]
      have ek : kF M C (R : Int) (i + 1) = if kF M C (R : Int) i = -1 ∨ qA M (i : Int) 1 < qA M (kF M C (R : Int) i) 1 then (i : Int) else kF M C (R : Int) i := (kF_s M C (R : Int) i).trans (if_pos ⟨hc, s0, hR.symm⟩)
      rw [ek]
      by_cases e1 : kF M C (R : Int) i = -1
      · rw [if_pos e1, if_pos (.inl e1)]
      · rw [if_neg e1, hp.rd A18 A19 (by omega) (by decide)]
        by_cases e2 : qA M (kF M C (R : Int) i) 1 ≤ qA M (i : Int) 1
        · rw [if_pos e2, if_neg (by omega), kput_self A3]
        · rw [if_neg e2, if_pos (by omega)]
    rw [eB]
    have B64 : ∀ r : Nat, r ≠ R → ∀ k, k < 4 → zput A 64 (4 * R + 3) (kF M C (R : Int) (i + 1)) 64 (4 * r + k) = M' 64 (4 * r + k) := fun r hr k hk => by
      rw [qput_nk (by omega), hA, qput_nk (by omega)]
    have Bo : ∀ r, r ≠ 64 → zput A 64 (4 * R + 3) (kF M C (R : Int) (i + 1)) r = M' r := fun r hr => (zput_oth hr).trans (eA r hr)
    refine ⟨fun r q1 q2 q3 q4 => (Bo r q2).trans (h1 r q1 q2 q3 q4), ?_, fun a ha => ?_, fun m hm => ?_, fun r hr => ?_, ?_⟩
    · rw [Bo 65 (by decide), nN (by omega)]; exact h2
    · rw [Bo 62 (by decide)]; exact h3 a ha
    · rw [Bo 62 (by decide), nL1 (by omega), nL2 (by omega)]; exact h4 m hm
    · by_cases e : r = R
      · subst e
        refine ⟨?_, ?_, ?_, ?_⟩
        · rw [qput_nk (by omega), hA, qput_nk (by omega)]; exact hR4.1
        · rw [qput_nk (by omega), hA, qput_eq, kT_s, if_pos ⟨hc, s0, hR.symm⟩]
        · rw [qput_nk (by omega), hA, qput_nk (by omega), nX (by omega)]; exact hR4.2.2.1
        · exact qput_eq
      · have q := h5 r hr
        have b0 : zput A 64 (4 * R + 3) (kF M C (R : Int) (i + 1)) 64 (4 * r) = M' 64 (4 * r) := B64 r e 0 (by decide)
        rw [b0, B64 r e 1 (by decide), B64 r e 2 (by decide), B64 r e 3 (by decide), nX (by omega), kT_no (fun q => e (by omega)), kF_no (fun q => e (by omega))]
        exact q
    · rw [Bo 66 (by decide)]; exact h6' (by omega)
  rw [if_neg s0]
  have same65 : qA M (i : Int) 0 ≠ 3 → ∀ r : Nat, (r : Int) < 14 * M 98 1 → qA M (i : Int) 0 ≠ 4 → M' 64 (4 * r) = F r ∧ M' 64 (4 * r + 1) = kT M C (r : Int) (i + 1) ∧ M' 64 (4 * r + 2) = kX M C (r : Int) (i + 1) ∧ M' 64 (4 * r + 3) = kF M C (r : Int) (i + 1) := fun _ r hr hs4 => by
    rw [nT s0, nX hs4, nF s0]; exact h5 r hr
  by_cases s1 : qA M (i : Int) 0 = 1
  · rw [if_pos s1, hp.rd e18 e19 (by omega) (by decide)]
    rw [hS_61 t61 (by omega) (by decide), show 4 * (qA M (i : Int) 6).toNat + (2 : Int).toNat = 4 * (qA M (i : Int) 6).toNat + 2 by simp only [Int.reduceToNat]]
    refine ⟨fun r q1 q2 q3 q4 => (zput_oth q1).trans (h1 r q1 q2 q3 q4), ?_, fun a ha => ?_, fun m hm => ?_, fun r hr => ?_, ?_⟩
    · rw [zput_oth (by decide), nN (by omega)]; exact h2
    · rw [qput_nk (by omega)]; exact h3 a ha
    · rw [nL2 (by omega), qput_nk (show 4 * m + 3 ≠ 4 * (qA M (i : Int) 6).toNat + 2 by omega)]
      refine ⟨?_, (h4 m hm).2⟩
      by_cases e : qA M (i : Int) 6 = (m : Int)
      · rw [kL_s, if_pos ⟨hc, s1, e⟩, show 4 * m + 2 = 4 * (qA M (i : Int) 6).toNat + 2 by omega]; exact qput_eq
      · rw [kL_no (fun q => e q.2.2), qput_nk (by omega)]; exact (h4 m hm).1
    · rw [zput_oth (by decide)]; exact same65 (by omega) r hr (by omega)
    · rw [zput_oth (by decide)]; exact h6' (by omega)
  rw [if_neg s1]
  by_cases s2 : qA M (i : Int) 0 = 2
  · rw [if_pos s2, hp.rd e18 e19 (by omega) (by decide)]
    rw [hS_61 t61 (by omega) (by decide), show 4 * (qA M (i : Int) 6).toNat + (3 : Int).toNat = 4 * (qA M (i : Int) 6).toNat + 3 by simp only [Int.reduceToNat]]
    refine ⟨fun r q1 q2 q3 q4 => (zput_oth q1).trans (h1 r q1 q2 q3 q4), ?_, fun a ha => ?_, fun m hm => ?_, fun r hr => ?_, ?_⟩
    · rw [zput_oth (by decide), nN (by omega)]; exact h2
    · rw [qput_nk (by omega)]; exact h3 a ha
    · rw [nL1 (by omega), qput_nk (show 4 * m + 2 ≠ 4 * (qA M (i : Int) 6).toNat + 3 by omega)]
      refine ⟨(h4 m hm).1, ?_⟩
      by_cases e : qA M (i : Int) 6 = (m : Int)
      · rw [kL_s, if_pos ⟨hc, s2, e⟩, show 4 * m + 3 = 4 * (qA M (i : Int) 6).toNat + 3 by omega]; exact qput_eq
      · rw [kL_no (fun q => e q.2.2), qput_nk (by omega)]; exact (h4 m hm).2
    · rw [zput_oth (by decide)]; exact same65 (by omega) r hr (by omega)
    · rw [zput_oth (by decide)]; exact h6' (by omega)
  rw [if_neg s2]
  by_cases s3 : qA M (i : Int) 0 = 3
  · rw [if_pos s3]
    have eo : hR_open M' 65 = ((kN M C i : Int), zput M' 65 3 ((kN M C i : Int) + 1)) := by
      unfold hR_open
      rw [if_pos (by omega), qput_eq, h2.2.2, w32_id (x := (kN M C i : Int) + 1) (by omega), w32_id (by omega), show (kN M C i : Int) + 1 - 1 = kN M C i by omega]
    rw [eo]
    dsimp only
    have tB : zput M' 65 3 ((kN M C i : Int) + 1) 65 0 = 250 ∧ zput M' 65 3 ((kN M C i : Int) + 1) 65 1 = 1 := by rw [qput_nk (by decide), qput_nk (by decide)]; exact ⟨h2.1, h2.2.1⟩
    rw [hS_65 tB (by omega) (by decide), show 1 * ((kN M C i : Int)).toNat + (0 : Int).toNat = kN M C i by simp only [Int.reduceToNat]; omega]
    have Bo : ∀ r, r ≠ 65 → r ≠ 66 → zput (zput M' 65 3 ((kN M C i : Int) + 1)) 66 (kN M C i) (i : Int) r = M' r := fun r q1 q2 => (zput_oth q2).trans (zput_oth q1)
    refine ⟨fun r q1 q2 q3 q4 => (Bo r q3 q4).trans (h1 r q1 q2 q3 q4), ?_, fun a ha => ?_, fun m hm => ?_, fun r hr => ?_, fun a ha hca h3a => ?_⟩
    · rw [zput_oth (by decide)]
      refine ⟨tB.1, tB.2, ?_⟩
      rw [qput_eq, kN_yes ⟨hc, s3⟩]; omega
    · rw [Bo 62 (by decide) (by decide)]; exact h3 a ha
    · rw [Bo 62 (by decide) (by decide), nL1 (by omega), nL2 (by omega)]; exact h4 m hm
    · rw [Bo 64 (by decide) (by decide), nT (by omega), nX (by omega), nF (by omega)]; exact h5 r hr
    · by_cases e : a = i
      · subst e; exact qput_eq
      · have hlt := kN_lt M C a i (by omega) ⟨hca, h3a⟩
        rw [qput_nk (by omega), zput_oth (by decide)]; exact h6 a (by omega) hca h3a
  rw [if_neg s3]
  by_cases s4 : qA M (i : Int) 0 = 4
  · rw [if_pos s4]
    obtain ⟨er, r1, r2⟩ := hp.row e18 e19 hi (.inr s4)
    obtain ⟨R, hR⟩ : ∃ R : Nat, (R : Int) = kR M (i : Int) := ⟨(kR M (i : Int)).toNat, by omega⟩
    rw [er, ← hR, hS_63 t63 (by omega) (by decide), show 4 * (R : Int).toNat + (2 : Int).toNat = 4 * R + 2 by simp only [Int.reduceToNat]; omega]
    refine ⟨fun r q1 q2 q3 q4 => (zput_oth q2).trans (h1 r q1 q2 q3 q4), ?_, fun a ha => ?_, fun m hm => ?_, fun r hr => ?_, ?_⟩
    · rw [zput_oth (by decide), nN (by omega)]; exact h2
    · rw [zput_oth (by decide)]; exact h3 a ha
    · rw [zput_oth (by decide), nL1 (by omega), nL2 (by omega)]; exact h4 m hm
    · have q := h5 r hr
      rw [qput_nk (show 4 * r ≠ 4 * R + 2 by omega), qput_nk (show 4 * r + 1 ≠ 4 * R + 2 by omega), qput_nk (show 4 * r + 3 ≠ 4 * R + 2 by omega), nT s0, nF s0]
      refine ⟨q.1, q.2.1, ?_, q.2.2.2⟩
      by_cases e : r = R
      · subst e; rw [kX_s, if_pos ⟨hc, s4, hR.symm⟩]; exact qput_eq
      · rw [kX_no (fun q => e (by omega)), qput_nk (by omega)]; exact q.2.2.1
    · rw [zput_oth (by decide)]; exact h6' (by omega)
  rw [if_neg s4]
  refine ⟨h1, by rw [nN s3]; exact h2, h3, fun m hm => by rw [nL1 s1, nL2 s2]; exact h4 m hm, fun r hr => same65 s3 r hr s4, h6' s3⟩
theorem kG.skp (h : kG M C F i M') (hc : ¬ C i = true) : kG M C F (i + 1) M' := by
  obtain ⟨h1, h2, h3, h4, h5, h6⟩ := h
  refine ⟨h1, by rw [kN_no (fun q => hc q.1)]; exact h2, h3, fun m hm => by rw [kL_no (fun q => hc q.1), kL_no (fun q => hc q.1)]; exact h4 m hm, fun r hr => by rw [kT_no (fun q => hc q.1), kX_no (fun q => hc q.1), kF_no (fun q => hc q.1)]; exact h5 r hr, fun a ha hca h3a => ?_⟩
  by_cases e : a = i
  · subst e; exact absurd hca hc
  · exact h6 a (by omega) hca h3a
end KG
set_option maxRecDepth 100000 in
theorem fh_109_63 {n : Nat} {M : zM} (ht : M 63 0 = 280 ∧ M 63 1 = 4) (a1 a2 a3 : Int) (h1 : 0 ≤ a1 ∧ a1 < 4) (h3 : 0 ≤ a3 ∧ a3 ≤ 280) : zH n (0, 0) 109 (0, zini [zR 63, .inl a1, .inl a2, .inl a3] 5, []) M (fun r M' => r = none ∧ (∀ i, i ≠ 64 → M' i = M i) ∧ ∀ j : Nat, M' 64 j = if j % 4 = a1.toNat ∧ ((j / 4 : Nat) : Int) < a3 then a2 else M 64 j) := by
  have hz := zp_109
  show zH n (0, 0) 109 (0, [zR 63, .inl a1, .inl a2, .inl a3, zN], []) M _
  refine zH_w (c' := (3, [zR 63, .inl a1, .inl a2, .inl a3, .inl 0], [])) 2 hz rfl ?_
  have lp3 : ∀ (N : Nat) (i : Int) (M5 : zM), ((280 - i).toNat) < N → (0 ≤ i ∧ i ≤ a3) → (∀ r, r ≠ 64 → M5 r = M r) → (∀ j : Nat, M5 64 j = if j % 4 = a1.toNat ∧ ((j / 4 : Nat) : Int) < i then a2 else M 64 j) → zH n (0, 0) 109 (3, [zR 63, .inl a1, .inl a2, .inl a3, .inl i], []) M5 (fun r M' => r = none ∧ (∀ i, i ≠ 64 → M' i = M i) ∧ ∀ j : Nat, M' 64 j = if j % 4 = a1.toNat ∧ ((j / 4 : Nat) : Int) < a3 then a2 else M 64 j) := by
    intro N
    induction N with
    | zero => intro i M5 hN; exact absurd hN (Nat.not_lt_zero _)
    | succ N ih3 =>
      intro i M5 hN hi hO hT
      refine zH_w (c' := (6, [zR 63, .inl a1, .inl a2, .inl a3, .inl i], [.inl a3, .inl i])) 2 hz rfl ?_
      refine zH_wi_ge (pc := 6) (n' := 9) (t := 32) (L := [zR 63, .inl a1, .inl a2, .inl a3, .inl i]) (st := []) (x := i) (y := a3) 0 hz (by rfl) (fun hb6 => ?_) (fun hb6 => ?_)
      · skip
        exact zH_wr (r := none) 0 hz (by rfl) (⟨rfl, hO, fun j => by rw [hT j, show i = a3 by omega]⟩)
      · skip
        have ht5 : M5 63 0 = 280 ∧ M5 63 1 = 4 := by rw [hO 63 (by decide)]; exact ht
        have es : hR_set M5 63 i a1 a2 = zput M5 64 (4 * i.toNat + a1.toNat) a2 := hS_63 ht5 (by omega) h1
        refine zH_w (c' := (15, [zR 63, .inl a1, .inl a2, .inl a3, .inl i], [.inl (M5 63 0), .inl i])) 3 hz rfl ?_
        rw [ht5.1]
        refine zH_icmp_ge hz rfl (fun hb15 => ?_) (fun hb15 => ?_)
        · skip
          exact zH_ret hz rfl rfl (⟨rfl, hO, fun j => by rw [hT j, show i = a3 by omega]⟩)
        · skip
          refine zH_w (c' := (23, [zR 63, .inl a1, .inl a2, .inl a3, .inl i], [.inl a2, .inl a1, .inl i, zR 63])) 4 hz rfl ?_
          refine zH_wE (c1 := (26, [zR 63, .inl a1, .inl a2, .inl a3, .inl i], [])) 0 hz zp_107 (fh_107_63 i a1 a2) (by rfl) ?_
          show zH n (0, 0) 109 (26, [zR 63, .inl a1, .inl a2, .inl a3, .inl i], []) (hR_set M5 63 i a1 a2) _
          refine zH_w (c' := (3, [zR 63, .inl a1, .inl a2, .inl a3, .inl (i + 1)], [])) 2 hz (by rw [show (.inl (i + 1) : zV) = .inl (w32 (i + 1)) from by rw [w32_id (by omega)]]; rfl) ?_
          refine ih3 (i + 1) (hR_set M5 63 i a1 a2) (by omega) ?_ ?_ ?_
          · omega
          · rw [es]; exact fun r hr => (zput_oth hr).trans (hO r hr)
          · intro j
            rw [es]
            by_cases e : j = 4 * i.toNat + a1.toNat
            · rw [e, qput_eq, if_pos (by omega)]
            · rw [qput_nk e, hT j]
              by_cases c : j % 4 = a1.toNat ∧ ((j / 4 : Nat) : Int) < i
              · rw [if_pos c, if_pos (by omega)]
              · rw [if_neg c, if_neg (by omega)]
  refine lp3 (281) 0 M (by omega) ?_ ?_ ?_
  · omega
  · exact fun _ _ => rfl
  · exact fun j => by rw [if_neg (by omega)]
set_option maxRecDepth 100000 in
theorem fh_49_60 {n : Nat} {M : zM} {Mo : zM} (hp : kP Mo) (hO0 : ∀ r, r ≠ 62 → M r = Mo r) (C : Nat → Bool) (hC : ∀ a : Nat, (a : Int) < Mo 98 4 → M 62 (4 * a) = if C a = true then 1 else 0) : zH n (0, 0) 49 (0, zini [zR 60] 3, []) M (fun r M' => r = none ∧ kG Mo C (fun _ => -1) (Mo 98 4).toNat M') := by
  have hz := zp_49
  show zH n (0, 0) 49 (0, [zR 60, zN, zN], []) M _
  have hn := hp.1.cnt4
  have hn1 := hp.1.cnt1
  have k4 : Mo 18 3 = Mo 98 4 := hp.2.1.2.2.2.2.1.1
  have k1 : Mo 12 3 = Mo 98 1 := hp.2.1.2.1.1
  refine zH_wE (c1 := (10, [zR 60, zN, zN], [])) 3 hz zp_101 (fh_101_12) (by rfl) ?_
  show zH n (0, 0) 49 (10, [zR 60, zN, zN], [.inl (hR_size M 12)]) M _
  rw [show hR_size M 12 = Mo 98 1 from by unfold hR_size; rw [hO0 12 (by decide)]; exact k1]
  refine zH_w (c' := (13, [zR 60, zN, zN], [.inl (w32 ((Mo 98 1) * 14))])) 2 hz rfl ?_
  rw [w32_id (x := Mo 98 1 * 14) (by omega)]
  refine zH_w (c' := (27, [zR 60, .inl (Mo 98 1 * 14), zN], [zR 18, .inl (-1), .inl 2, zR 61])) 8 hz rfl ?_
  refine zH_wE (c1 := (30, [zR 60, .inl (Mo 98 1 * 14), zN], [.inl (-1), .inl 2, zR 61])) 0 hz zp_101 (fh_101_18) (by rfl) ?_
  show zH n (0, 0) 49 (30, [zR 60, .inl (Mo 98 1 * 14), zN], [.inl (hR_size M 18), .inl (-1), .inl 2, zR 61]) M _
  rw [show hR_size M 18 = Mo 98 4 from by unfold hR_size; rw [hO0 18 (by decide)]; exact k4]
  refine zH_wC (c1 := (33, [zR 60, .inl (Mo 98 1 * 14), zN], [])) 0 hz zp_109 (fh_109_61 (by first | (rw [hO0 61 (by decide)]; exact hp.2.2.2.1) | (rw [hO1 61 (by decide), hO0 61 (by decide)]; exact hp.2.2.2.1)) 2 (-1) (Mo 98 4) (by decide) (by omega)) (by rfl) ?_
  rintro _ M1 ⟨rfl, hO1, hT1⟩
  show zH n (0, 0) 49 (33, [zR 60, .inl (Mo 98 1 * 14), zN], []) M1 _
  refine zH_wE (c1 := (49, [zR 60, .inl (Mo 98 1 * 14), zN], [.inl (-1), .inl 3, zR 61])) 7 hz zp_101 (fh_101_18) (by rfl) ?_
  show zH n (0, 0) 49 (49, [zR 60, .inl (Mo 98 1 * 14), zN], [.inl (hR_size M1 18), .inl (-1), .inl 3, zR 61]) M1 _
  rw [show hR_size M1 18 = Mo 98 4 from by unfold hR_size; rw [hO1 18 (by decide), hO0 18 (by decide)]; exact k4]
  refine zH_wC (c1 := (52, [zR 60, .inl (Mo 98 1 * 14), zN], [])) 0 hz zp_109 (fh_109_61 (by first | (rw [hO0 61 (by decide)]; exact hp.2.2.2.1) | (rw [hO1 61 (by decide), hO0 61 (by decide)]; exact hp.2.2.2.1)) 3 (-1) (Mo 98 4) (by decide) (by omega)) (by rfl) ?_
  rintro _ M2 ⟨rfl, hO2, hT2⟩
  show zH n (0, 0) 49 (52, [zR 60, .inl (Mo 98 1 * 14), zN], []) M2 _
  refine zH_wC (c1 := (62, [zR 60, .inl (Mo 98 1 * 14), zN], [])) 5 hz zp_109 (fh_109_63 (by first | (rw [hO2 63 (by decide), hO1 63 (by decide), hO0 63 (by decide)]; exact hp.2.2.2.2.1) | (rw [hO3 63 (by decide), hO2 63 (by decide), hO1 63 (by decide), hO0 63 (by decide)]; exact hp.2.2.2.2.1) | (rw [hO4 63 (by decide), hO3 63 (by decide), hO2 63 (by decide), hO1 63 (by decide), hO0 63 (by decide)]; exact hp.2.2.2.2.1) | (rw [hO5 63 (by decide), hO4 63 (by decide), hO3 63 (by decide), hO2 63 (by decide), hO1 63 (by decide), hO0 63 (by decide)]; exact hp.2.2.2.2.1)) 0 (-1) (Mo 98 1 * 14) (by decide) (by omega)) (by rfl) ?_
  rintro _ M3 ⟨rfl, hO3, hT3⟩
  show zH n (0, 0) 49 (62, [zR 60, .inl (Mo 98 1 * 14), zN], []) M3 _
  refine zH_wC (c1 := (72, [zR 60, .inl (Mo 98 1 * 14), zN], [])) 5 hz zp_109 (fh_109_63 (by first | (rw [hO2 63 (by decide), hO1 63 (by decide), hO0 63 (by decide)]; exact hp.2.2.2.2.1) | (rw [hO3 63 (by decide), hO2 63 (by decide), hO1 63 (by decide), hO0 63 (by decide)]; exact hp.2.2.2.2.1) | (rw [hO4 63 (by decide), hO3 63 (by decide), hO2 63 (by decide), hO1 63 (by decide), hO0 63 (by decide)]; exact hp.2.2.2.2.1) | (rw [hO5 63 (by decide), hO4 63 (by decide), hO3 63 (by decide), hO2 63 (by decide), hO1 63 (by decide), hO0 63 (by decide)]; exact hp.2.2.2.2.1)) 1 0 (Mo 98 1 * 14) (by decide) (by omega)) (by rfl) ?_
  rintro _ M4 ⟨rfl, hO4, hT4⟩
  show zH n (0, 0) 49 (72, [zR 60, .inl (Mo 98 1 * 14), zN], []) M4 _
  refine zH_wC (c1 := (82, [zR 60, .inl (Mo 98 1 * 14), zN], [])) 5 hz zp_109 (fh_109_63 (by first | (rw [hO2 63 (by decide), hO1 63 (by decide), hO0 63 (by decide)]; exact hp.2.2.2.2.1) | (rw [hO3 63 (by decide), hO2 63 (by decide), hO1 63 (by decide), hO0 63 (by decide)]; exact hp.2.2.2.2.1) | (rw [hO4 63 (by decide), hO3 63 (by decide), hO2 63 (by decide), hO1 63 (by decide), hO0 63 (by decide)]; exact hp.2.2.2.2.1) | (rw [hO5 63 (by decide), hO4 63 (by decide), hO3 63 (by decide), hO2 63 (by decide), hO1 63 (by decide), hO0 63 (by decide)]; exact hp.2.2.2.2.1)) 2 0 (Mo 98 1 * 14) (by decide) (by omega)) (by rfl) ?_
  rintro _ M5 ⟨rfl, hO5, hT5⟩
  show zH n (0, 0) 49 (82, [zR 60, .inl (Mo 98 1 * 14), zN], []) M5 _
  refine zH_wC (c1 := (92, [zR 60, .inl (Mo 98 1 * 14), zN], [])) 5 hz zp_109 (fh_109_63 (by first | (rw [hO2 63 (by decide), hO1 63 (by decide), hO0 63 (by decide)]; exact hp.2.2.2.2.1) | (rw [hO3 63 (by decide), hO2 63 (by decide), hO1 63 (by decide), hO0 63 (by decide)]; exact hp.2.2.2.2.1) | (rw [hO4 63 (by decide), hO3 63 (by decide), hO2 63 (by decide), hO1 63 (by decide), hO0 63 (by decide)]; exact hp.2.2.2.2.1) | (rw [hO5 63 (by decide), hO4 63 (by decide), hO3 63 (by decide), hO2 63 (by decide), hO1 63 (by decide), hO0 63 (by decide)]; exact hp.2.2.2.2.1)) 3 (-1) (Mo 98 1 * 14) (by decide) (by omega)) (by rfl) ?_
  rintro _ M6 ⟨rfl, hO6, hT6⟩
  show zH n (0, 0) 49 (92, [zR 60, .inl (Mo 98 1 * 14), zN], []) M6 _
  refine zH_wE (c1 := (99, [zR 60, .inl (Mo 98 1 * 14), zN], [])) 2 hz zp_104 (fh_104_65) (by rfl) ?_
  show zH n (0, 0) 49 (99, [zR 60, .inl (Mo 98 1 * 14), zN], []) (hR_drop M6 65) _
  have hK0 : kG Mo C (fun _ => -1) 0 (hR_drop M6 65) := by
    have eo : ∀ r, r ≠ 65 → hR_drop M6 65 r = M6 r := fun r hr => zput_oth hr
    have e6 : ∀ r, r ≠ 62 → r ≠ 64 → M6 r = Mo r := fun r q1 q2 => (hO6 r q2).trans ((hO5 r q2).trans ((hO4 r q2).trans ((hO3 r q2).trans ((hO2 r q1).trans ((hO1 r q1).trans (hO0 r q1))))))
    have z : ∀ (r k : Nat), r ≠ 62 → r ≠ 64 → M6 r k = Mo r k := fun r k q1 q2 => congrFun (e6 r q1 q2) k
    have c62 : ∀ j, M6 62 j = M2 62 j := fun j => congrFun ((hO6 62 (by decide)).trans ((hO5 62 (by decide)).trans ((hO4 62 (by decide)).trans (hO3 62 (by decide))))) j
    refine ⟨fun r q1 q2 q3 _ => (eo r q3).trans (e6 r q1 q2), ⟨?_, ?_, ?_⟩, fun a ha => ?_, fun m hm => ?_, fun r hr => ?_, fun a ha => absurd ha (Nat.not_lt_zero _)⟩
    · show zput M6 65 3 0 65 0 = 250
      rw [qput_nk (by decide), z 65 0 (by decide) (by decide)]; exact hp.2.2.2.2.2.1
    · show zput M6 65 3 0 65 1 = 1
      rw [qput_nk (by decide), z 65 1 (by decide) (by decide)]; exact hp.2.2.2.2.2.2
    · show zput M6 65 3 0 65 3 = 0
      exact qput_eq
    · rw [eo 62 (by decide), c62, hT2, if_neg (by simp only [Int.reduceToNat]; omega), hT1, if_neg (by simp only [Int.reduceToNat]; omega)]; exact hC a ha
    · rw [eo 62 (by decide), c62, c62, hT2, if_neg (by simp only [Int.reduceToNat]; omega), hT1, if_pos (by simp only [Int.reduceToNat]; omega), hT2, if_pos (by simp only [Int.reduceToNat]; omega)]
      exact ⟨rfl, rfl⟩
    · rw [eo 64 (by decide)]
      refine ⟨?_, ?_, ?_, ?_⟩
      · rw [hT6, if_neg (by simp only [Int.reduceToNat]; omega), hT5, if_neg (by simp only [Int.reduceToNat]; omega), hT4, if_neg (by simp only [Int.reduceToNat]; omega), hT3, if_pos (by simp only [Int.reduceToNat]; omega)]
      · rw [hT6, if_neg (by simp only [Int.reduceToNat]; omega), hT5, if_neg (by simp only [Int.reduceToNat]; omega), hT4, if_pos (by simp only [Int.reduceToNat]; omega)]; rfl
      · rw [hT6, if_neg (by simp only [Int.reduceToNat]; omega), hT5, if_pos (by simp only [Int.reduceToNat]; omega)]; rfl
      · rw [hT6, if_pos (by simp only [Int.reduceToNat]; omega)]; rfl
  refine zH_w (c' := (101, [zR 60, .inl (Mo 98 1 * 14), .inl 0], [])) 2 hz rfl ?_
  have lp101 : ∀ (N : Nat) (i : Int) (M8 : zM), ((250 - i).toNat) < N → (0 ≤ i ∧ i ≤ Mo 98 4) → (kG Mo C (fun _ => -1) i.toNat M8) → zH n (0, 0) 49 (101, [zR 60, .inl (Mo 98 1 * 14), .inl i], []) M8 (fun r M' => r = none ∧ kG Mo C (fun _ => -1) (Mo 98 4).toNat M') := by
    intro N
    induction N with
    | zero => intro i M8 hN; exact absurd hN (Nat.not_lt_zero _)
    | succ N ih101 =>
      intro i M8 hN hi hK
      refine zH_w (c' := (109, [zR 60, .inl (Mo 98 1 * 14), .inl i], [zR 18, .inl i])) 4 hz rfl ?_
      refine zH_wE (c1 := (112, [zR 60, .inl (Mo 98 1 * 14), .inl i], [.inl i])) 0 hz zp_101 (fh_101_18) (by rfl) ?_
      show zH n (0, 0) 49 (112, [zR 60, .inl (Mo 98 1 * 14), .inl i], [.inl (hR_size M8 18), .inl i]) M8 _
      rw [show hR_size M8 18 = Mo 98 4 from by unfold hR_size; rw [hK.1 18 (by decide) (by decide) (by decide) (by decide)]; exact k4]
      refine zH_icmp_ge hz rfl (fun hb112 => ?_) (fun hb112 => ?_)
      · skip
        exact zH_ret hz rfl rfl (⟨rfl, by rw [show (Mo 98 4).toNat = i.toNat by omega]; exact hK⟩)
      · skip
        refine zH_w (c' := (117, [zR 60, .inl (Mo 98 1 * 14), .inl i], [.inl i, zR 60])) 2 hz rfl ?_
        refine zH_wE (c1 := (120, [zR 60, .inl (Mo 98 1 * 14), .inl i], [])) 0 hz zp_42 (fh_42_60 i) (by rfl) ?_
        show zH n (0, 0) 49 (120, [zR 60, .inl (Mo 98 1 * 14), .inl i], [.inl (hf_42_60 M8 i)]) M8 _
        have h61 : M8 61 0 = 250 ∧ M8 61 1 = 4 := by rw [hK.1 61 (by decide) (by decide) (by decide) (by decide)]; exact hp.2.2.2.1
        have e42 : hf_42_60 M8 i = if C i.toNat = true then 1 else 0 := by
          have q := hK.2.2.1 i.toNat (by omega)
          unfold hf_42_60
          rw [hG_61 h61 (by omega) (by decide), show 4 * i.toNat + (0 : Int).toNat = 4 * i.toNat by simp only [Int.reduceToNat]; omega, q]
          split <;> rfl
        rw [e42]
        obtain ⟨y, hy⟩ : ∃ x : Int, x = (if C i.toNat = true then 1 else 0) := ⟨_, rfl⟩
        rw [← hy]
        refine zH_if_eq hz rfl (fun hb120 => ?_) (fun hb120 => ?_)
        · skip
          have hct : ¬ C i.toNat = true := fun h => by rw [if_pos h] at hy; omega
          refine zH_w (c' := (101, [zR 60, .inl (Mo 98 1 * 14), .inl (i + 1)], [])) 2 hz (by rw [show (.inl (i + 1) : zV) = .inl (w32 (i + 1)) from by rw [w32_id (by omega)]]; rfl) ?_
          refine ih101 (i + 1) M8 (by omega) ?_ ?_
          · omega
          · first | (rw [show (i + 1).toNat = i.toNat + 1 by omega]; exact hK.skp hct) | (rw [show (i + 1).toNat = i.toNat + 1 by omega]; have q := hK.stp hp (by omega) hct; rw [show ((i.toNat : Nat) : Int) = i by omega] at q; exact q)
        · skip
          have hct : C i.toNat = true := by by_cases hq : C i.toNat = true; exact hq; rw [if_neg hq] at hy; exact absurd hy hb120
          refine zH_w (c' := (125, [zR 60, .inl (Mo 98 1 * 14), .inl i], [.inl i, zR 60])) 2 hz rfl ?_
          refine zH_wE (c1 := (128, [zR 60, .inl (Mo 98 1 * 14), .inl i], [])) 0 hz zp_50 (fh_50_60 i) (by rfl) ?_
          show zH n (0, 0) 49 (128, [zR 60, .inl (Mo 98 1 * 14), .inl i], []) (hf_50_60 M8 i) _
          refine zH_w (c' := (101, [zR 60, .inl (Mo 98 1 * 14), .inl (i + 1)], [])) 2 hz (by rw [show (.inl (i + 1) : zV) = .inl (w32 (i + 1)) from by rw [w32_id (by omega)]]; rfl) ?_
          refine ih101 (i + 1) (hf_50_60 M8 i) (by omega) ?_ ?_
          · omega
          · first | (rw [show (i + 1).toNat = i.toNat + 1 by omega]; exact hK.skp hct) | (rw [show (i + 1).toNat = i.toNat + 1 by omega]; have q := hK.stp hp (by omega) hct; rw [show ((i.toNat : Nat) : Int) = i by omega] at q; exact q)
  refine lp101 (251) 0 (hR_drop M6 65) (by omega) ?_ ?_
  · omega
  · rw [show (0 : Int).toNat = 0 by rfl]; exact hK0
