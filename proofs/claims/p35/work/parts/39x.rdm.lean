/-! A TEXT READ: THE MODEL -/
noncomputable def hf_220_97 (M : zM) (a1 : Int) (a2 : Int) : zM :=
  zput (zput (zput M 105 (M 97 7 : Int).toNat a1) 106 ((zput M 105 (M 97 7 : Int).toNat a1) 97 7 : Int).toNat a2) 97 7 (w32 (((zput (zput M 105 (M 97 7 : Int).toNat a1) 106 ((zput M 105 (M 97 7 : Int).toNat a1) 97 7 : Int).toNat a2) 97 7) + 1))
set_option maxRecDepth 100000 in
theorem fh_220_97 {n : Nat} {M : zM} (a1 : Int) (a2 : Int) : zH n (0, 0) 220 (0, zini [zR 97, .inl a1, .inl a2] 3, []) M (fun r M' => r = none ∧ M' = hf_220_97 M a1 a2) := by
  have hz := zp_220
  have hE : hf_220_97 M a1 a2 = hf_220_97 M a1 a2 := rfl
  show zH n (0, 0) 220 (0, [zR 97, .inl a1, .inl a2], []) M _
  refine zH_w (c' := (9, [zR 97, .inl a1, .inl a2], [.inl a1, .inl (M 97 7), zR 105])) 5 hz rfl ?_
  refine zH_iast hz rfl rfl (fun _ => ?_)
  show zH n (0, 0) 220 (10, [zR 97, .inl a1, .inl a2], []) (zput M 105 (M 97 7 : Int).toNat a1) _
  refine zH_w (c' := (19, [zR 97, .inl a1, .inl a2], [.inl a2, .inl ((zput M 105 (M 97 7 : Int).toNat a1) 97 7), zR 106])) 5 hz rfl ?_
  refine zH_iast hz rfl rfl (fun _ => ?_)
  show zH n (0, 0) 220 (20, [zR 97, .inl a1, .inl a2], []) (zput (zput M 105 (M 97 7 : Int).toNat a1) 106 ((zput M 105 (M 97 7 : Int).toNat a1) 97 7 : Int).toNat a2) _
  refine zH_w (c' := (30, [zR 97, .inl a1, .inl a2], [])) 6 hz rfl ?_
  exact zH_wr (r := none) 0 hz (by rfl) ⟨rfl, hE.symm⟩
noncomputable def hf_221 (M : zM) (a0 : Int) : Int :=
  (if a0 = 2 then 8 else (if a0 = 3 then 8 else (if a0 = 4 then 8 else (if a0 = 5 then 7 else (if a0 = 6 then 7 else (if a0 = 7 then 6 else (if a0 = 8 then 6 else (if a0 = 9 then 5 else (if a0 = 10 then 5 else (if a0 = 11 then 5 else (if a0 = 12 then 4 else (if a0 = 13 then 3 else 0))))))))))))
set_option maxRecDepth 100000 in
theorem fh_221 {n : Nat} {M : zM} (a0 : Int) : zH n (0, 0) 221 (0, zini [.inl a0] 1, []) M (fun r M' => r = some (.inl (hf_221 M a0)) ∧ M' = M) := by
  have hz := zp_221
  have hE : hf_221 M a0 = hf_221 M a0 := rfl
  show zH n (0, 0) 221 (0, [.inl a0], []) M _
  refine zH_w (c' := (1, [.inl a0], [.inl a0])) 1 hz rfl ?_
  refine zH_sw hz rfl ?_
  by_cases hw0 : a0 = 2
  · have hE := hE.trans (if_pos hw0)
    rw [show zts 2 a0 95 [64, 67, 70, 73, 76, 79, 82, 85, 87, 89, 91, 93] = 64 from by rw [hw0]; rfl]
    refine zH_w (c' := (66, [.inl a0], [.inl 8])) 1 hz rfl ?_
    exact zH_wr (r := some (.inl 8)) 0 hz (by rfl) (hfinP hE)
  have hE := hE.trans (if_neg hw0)
  by_cases hw1 : a0 = 3
  · have hE := hE.trans (if_pos hw1)
    rw [show zts 2 a0 95 [64, 67, 70, 73, 76, 79, 82, 85, 87, 89, 91, 93] = 67 from by rw [hw1]; rfl]
    refine zH_w (c' := (69, [.inl a0], [.inl 8])) 1 hz rfl ?_
    exact zH_wr (r := some (.inl 8)) 0 hz (by rfl) (hfinP hE)
  have hE := hE.trans (if_neg hw1)
  by_cases hw2 : a0 = 4
  · have hE := hE.trans (if_pos hw2)
    rw [show zts 2 a0 95 [64, 67, 70, 73, 76, 79, 82, 85, 87, 89, 91, 93] = 70 from by rw [hw2]; rfl]
    refine zH_w (c' := (72, [.inl a0], [.inl 8])) 1 hz rfl ?_
    exact zH_wr (r := some (.inl 8)) 0 hz (by rfl) (hfinP hE)
  have hE := hE.trans (if_neg hw2)
  by_cases hw3 : a0 = 5
  · have hE := hE.trans (if_pos hw3)
    rw [show zts 2 a0 95 [64, 67, 70, 73, 76, 79, 82, 85, 87, 89, 91, 93] = 73 from by rw [hw3]; rfl]
    refine zH_w (c' := (75, [.inl a0], [.inl 7])) 1 hz rfl ?_
    exact zH_wr (r := some (.inl 7)) 0 hz (by rfl) (hfinP hE)
  have hE := hE.trans (if_neg hw3)
  by_cases hw4 : a0 = 6
  · have hE := hE.trans (if_pos hw4)
    rw [show zts 2 a0 95 [64, 67, 70, 73, 76, 79, 82, 85, 87, 89, 91, 93] = 76 from by rw [hw4]; rfl]
    refine zH_w (c' := (78, [.inl a0], [.inl 7])) 1 hz rfl ?_
    exact zH_wr (r := some (.inl 7)) 0 hz (by rfl) (hfinP hE)
  have hE := hE.trans (if_neg hw4)
  by_cases hw5 : a0 = 7
  · have hE := hE.trans (if_pos hw5)
    rw [show zts 2 a0 95 [64, 67, 70, 73, 76, 79, 82, 85, 87, 89, 91, 93] = 79 from by rw [hw5]; rfl]
    refine zH_w (c' := (81, [.inl a0], [.inl 6])) 1 hz rfl ?_
    exact zH_wr (r := some (.inl 6)) 0 hz (by rfl) (hfinP hE)
  have hE := hE.trans (if_neg hw5)
  by_cases hw6 : a0 = 8
  · have hE := hE.trans (if_pos hw6)
    rw [show zts 2 a0 95 [64, 67, 70, 73, 76, 79, 82, 85, 87, 89, 91, 93] = 82 from by rw [hw6]; rfl]
    refine zH_w (c' := (84, [.inl a0], [.inl 6])) 1 hz rfl ?_
    exact zH_wr (r := some (.inl 6)) 0 hz (by rfl) (hfinP hE)
  have hE := hE.trans (if_neg hw6)
  by_cases hw7 : a0 = 9
  · have hE := hE.trans (if_pos hw7)
    rw [show zts 2 a0 95 [64, 67, 70, 73, 76, 79, 82, 85, 87, 89, 91, 93] = 85 from by rw [hw7]; rfl]
    refine zH_w (c' := (86, [.inl a0], [.inl 5])) 1 hz rfl ?_
    exact zH_wr (r := some (.inl 5)) 0 hz (by rfl) (hfinP hE)
  have hE := hE.trans (if_neg hw7)
  by_cases hw8 : a0 = 10
  · have hE := hE.trans (if_pos hw8)
    rw [show zts 2 a0 95 [64, 67, 70, 73, 76, 79, 82, 85, 87, 89, 91, 93] = 87 from by rw [hw8]; rfl]
    refine zH_w (c' := (88, [.inl a0], [.inl 5])) 1 hz rfl ?_
    exact zH_wr (r := some (.inl 5)) 0 hz (by rfl) (hfinP hE)
  have hE := hE.trans (if_neg hw8)
  by_cases hw9 : a0 = 11
  · have hE := hE.trans (if_pos hw9)
    rw [show zts 2 a0 95 [64, 67, 70, 73, 76, 79, 82, 85, 87, 89, 91, 93] = 89 from by rw [hw9]; rfl]
    refine zH_w (c' := (90, [.inl a0], [.inl 5])) 1 hz rfl ?_
    exact zH_wr (r := some (.inl 5)) 0 hz (by rfl) (hfinP hE)
  have hE := hE.trans (if_neg hw9)
  by_cases hw10 : a0 = 12
  · have hE := hE.trans (if_pos hw10)
    rw [show zts 2 a0 95 [64, 67, 70, 73, 76, 79, 82, 85, 87, 89, 91, 93] = 91 from by rw [hw10]; rfl]
    refine zH_w (c' := (92, [.inl a0], [.inl 4])) 1 hz rfl ?_
    exact zH_wr (r := some (.inl 4)) 0 hz (by rfl) (hfinP hE)
  have hE := hE.trans (if_neg hw10)
  by_cases hw11 : a0 = 13
  · have hE := hE.trans (if_pos hw11)
    rw [show zts 2 a0 95 [64, 67, 70, 73, 76, 79, 82, 85, 87, 89, 91, 93] = 93 from by rw [hw11]; rfl]
    refine zH_w (c' := (94, [.inl a0], [.inl 3])) 1 hz rfl ?_
    exact zH_wr (r := some (.inl 3)) 0 hz (by rfl) (hfinP hE)
  have hE := hE.trans (if_neg hw11)
  rw [show zts 2 a0 95 [64, 67, 70, 73, 76, 79, 82, 85, 87, 89, 91, 93] = 95 from zts_none (by show ∀ q : Nat, q < 12 → _; intro q hq; rcases (by omega : q = 0 ∨ q = 1 ∨ q = 2 ∨ q = 3 ∨ q = 4 ∨ q = 5 ∨ q = 6 ∨ q = 7 ∨ q = 8 ∨ q = 9 ∨ q = 10 ∨ q = 11) with rfl | rfl | rfl | rfl | rfl | rfl | rfl | rfl | rfl | rfl | rfl | rfl <;> (intro hx; first | exact absurd hx (by omega)))]
  refine zH_w (c' := (96, [.inl a0], [.inl 0])) 1 hz rfl ?_
  exact zH_wr (r := some (.inl 0)) 0 hz (by rfl) (hfinP hE)
noncomputable def hf_222_97 (M : zM) : Int :=
  (if ¬ (M 97 10) = 0 then M 107 (w32 ((M 97 10) - 1) : Int).toNat else (-1))
set_option maxRecDepth 100000 in
theorem fh_222_97 {n : Nat} {M : zM} : zH n (0, 0) 222 (0, zini [zR 97] 1, []) M (fun r M' => r = some (.inl (hf_222_97 M)) ∧ M' = M) := by
  have hz := zp_222
  have hE : hf_222_97 M = hf_222_97 M := rfl
  show zH n (0, 0) 222 (0, [zR 97], []) M _
  refine zH_wf_ne (pc := 4) (n' := 7) (t := 11) (L := [zR 97]) (st := []) (x := (M 97 10)) 2 hz (by rfl) (fun hb => ?_) (fun hb => ?_)
  · have hE := hE.trans (if_pos hb)
    refine zH_w (c' := (21, [zR 97], [.inl (w32 ((M 97 10) - 1)), zR 107])) 6 hz rfl ?_
    refine zH_iald hz rfl rfl (.inl rfl) (fun _ => ?_)
    show zH n (0, 0) 222 (22, [zR 97], [.inl (M 107 (w32 ((M 97 10) - 1) : Int).toNat)]) M _
    exact zH_wr (r := some (.inl (M 107 (w32 ((M 97 10) - 1) : Int).toNat))) 0 hz (by rfl) (hfinP hE)
  · have hE := hE.trans (if_neg hb)
    exact zH_wr (r := some (.inl (-1))) 2 hz (by rfl) (hfinP hE)
noncomputable def hf_223_97 (M : zM) (a1 : Int) : zM :=
  zput (zput M 107 (M 97 10 : Int).toNat a1) 97 10 (w32 (((zput M 107 (M 97 10 : Int).toNat a1) 97 10) + 1))
set_option maxRecDepth 100000 in
theorem fh_223_97 {n : Nat} {M : zM} (a1 : Int) : zH n (0, 0) 223 (0, zini [zR 97, .inl a1] 2, []) M (fun r M' => r = none ∧ M' = hf_223_97 M a1) := by
  have hz := zp_223
  have hE : hf_223_97 M a1 = hf_223_97 M a1 := rfl
  show zH n (0, 0) 223 (0, [zR 97, .inl a1], []) M _
  refine zH_w (c' := (9, [zR 97, .inl a1], [.inl a1, .inl (M 97 10), zR 107])) 5 hz rfl ?_
  refine zH_iast hz rfl rfl (fun _ => ?_)
  show zH n (0, 0) 223 (10, [zR 97, .inl a1], []) (zput M 107 (M 97 10 : Int).toNat a1) _
  refine zH_w (c' := (20, [zR 97, .inl a1], [])) 6 hz rfl ?_
  exact zH_wr (r := none) 0 hz (by rfl) ⟨rfl, hE.symm⟩
noncomputable def hf_227 (M : zM) (a0 : Int) : Int :=
  (if a0 = 42 then 5 else (if a0 = 43 then 7 else (if a0 = 44 then (-1) else (if a0 = 45 then 8 else (if a0 = 46 then (-1) else (if a0 = 47 then 6 else (if a0 = 48 then (-1) else (if a0 = 49 then (-1) else (if a0 = 50 then (-1) else (if a0 = 51 then (-1) else (if a0 = 52 then (-1) else (if a0 = 53 then (-1) else (if a0 = 54 then (-1) else (if a0 = 55 then (-1) else (if a0 = 56 then (-1) else (if a0 = 57 then (-1) else (if a0 = 58 then (-1) else (if a0 = 59 then (-1) else (if a0 = 60 then 9 else (if a0 = 61 then 11 else (if a0 = 62 then 10 else (-1))))))))))))))))))))))
set_option maxRecDepth 100000 in
theorem fh_227 {n : Nat} {M : zM} (a0 : Int) : zH n (0, 0) 227 (0, zini [.inl a0] 1, []) M (fun r M' => r = some (.inl (hf_227 M a0)) ∧ M' = M) := by
  have hz := zp_227
  have hE : hf_227 M a0 = hf_227 M a0 := rfl
  show zH n (0, 0) 227 (0, [.inl a0], []) M _
  refine zH_w (c' := (1, [.inl a0], [.inl a0])) 1 hz rfl ?_
  refine zH_sw hz rfl ?_
  by_cases hw0 : a0 = 42
  · have hE := hE.trans (if_pos hw0)
    rw [show zts 42 a0 120 [100, 105, 120, 108, 120, 102, 120, 120, 120, 120, 120, 120, 120, 120, 120, 120, 120, 120, 111, 117, 114] = 100 from by rw [hw0]; rfl]
    refine zH_w (c' := (101, [.inl a0], [.inl 5])) 1 hz rfl ?_
    exact zH_wr (r := some (.inl 5)) 0 hz (by rfl) (hfinP hE)
  have hE := hE.trans (if_neg hw0)
  by_cases hw1 : a0 = 43
  · have hE := hE.trans (if_pos hw1)
    rw [show zts 42 a0 120 [100, 105, 120, 108, 120, 102, 120, 120, 120, 120, 120, 120, 120, 120, 120, 120, 120, 120, 111, 117, 114] = 105 from by rw [hw1]; rfl]
    refine zH_w (c' := (107, [.inl a0], [.inl 7])) 1 hz rfl ?_
    exact zH_wr (r := some (.inl 7)) 0 hz (by rfl) (hfinP hE)
  have hE := hE.trans (if_neg hw1)
  by_cases hw2 : a0 = 44
  · have hE := hE.trans (if_pos hw2)
    rw [show zts 42 a0 120 [100, 105, 120, 108, 120, 102, 120, 120, 120, 120, 120, 120, 120, 120, 120, 120, 120, 120, 111, 117, 114] = 120 from by rw [hw2]; rfl]
    refine zH_w (c' := (121, [.inl a0], [.inl (-1)])) 1 hz rfl ?_
    exact zH_wr (r := some (.inl (-1))) 0 hz (by rfl) (hfinP hE)
  have hE := hE.trans (if_neg hw2)
  by_cases hw3 : a0 = 45
  · have hE := hE.trans (if_pos hw3)
    rw [show zts 42 a0 120 [100, 105, 120, 108, 120, 102, 120, 120, 120, 120, 120, 120, 120, 120, 120, 120, 120, 120, 111, 117, 114] = 108 from by rw [hw3]; rfl]
    refine zH_w (c' := (110, [.inl a0], [.inl 8])) 1 hz rfl ?_
    exact zH_wr (r := some (.inl 8)) 0 hz (by rfl) (hfinP hE)
  have hE := hE.trans (if_neg hw3)
  by_cases hw4 : a0 = 46
  · have hE := hE.trans (if_pos hw4)
    rw [show zts 42 a0 120 [100, 105, 120, 108, 120, 102, 120, 120, 120, 120, 120, 120, 120, 120, 120, 120, 120, 120, 111, 117, 114] = 120 from by rw [hw4]; rfl]
    refine zH_w (c' := (121, [.inl a0], [.inl (-1)])) 1 hz rfl ?_
    exact zH_wr (r := some (.inl (-1))) 0 hz (by rfl) (hfinP hE)
  have hE := hE.trans (if_neg hw4)
  by_cases hw5 : a0 = 47
  · have hE := hE.trans (if_pos hw5)
    rw [show zts 42 a0 120 [100, 105, 120, 108, 120, 102, 120, 120, 120, 120, 120, 120, 120, 120, 120, 120, 120, 120, 111, 117, 114] = 102 from by rw [hw5]; rfl]
    refine zH_w (c' := (104, [.inl a0], [.inl 6])) 1 hz rfl ?_
    exact zH_wr (r := some (.inl 6)) 0 hz (by rfl) (hfinP hE)
  have hE := hE.trans (if_neg hw5)
  by_cases hw6 : a0 = 48
  · have hE := hE.trans (if_pos hw6)
    rw [show zts 42 a0 120 [100, 105, 120, 108, 120, 102, 120, 120, 120, 120, 120, 120, 120, 120, 120, 120, 120, 120, 111, 117, 114] = 120 from by rw [hw6]; rfl]
    refine zH_w (c' := (121, [.inl a0], [.inl (-1)])) 1 hz rfl ?_
    exact zH_wr (r := some (.inl (-1))) 0 hz (by rfl) (hfinP hE)
  have hE := hE.trans (if_neg hw6)
  by_cases hw7 : a0 = 49
  · have hE := hE.trans (if_pos hw7)
    rw [show zts 42 a0 120 [100, 105, 120, 108, 120, 102, 120, 120, 120, 120, 120, 120, 120, 120, 120, 120, 120, 120, 111, 117, 114] = 120 from by rw [hw7]; rfl]
    refine zH_w (c' := (121, [.inl a0], [.inl (-1)])) 1 hz rfl ?_
    exact zH_wr (r := some (.inl (-1))) 0 hz (by rfl) (hfinP hE)
  have hE := hE.trans (if_neg hw7)
  by_cases hw8 : a0 = 50
  · have hE := hE.trans (if_pos hw8)
    rw [show zts 42 a0 120 [100, 105, 120, 108, 120, 102, 120, 120, 120, 120, 120, 120, 120, 120, 120, 120, 120, 120, 111, 117, 114] = 120 from by rw [hw8]; rfl]
    refine zH_w (c' := (121, [.inl a0], [.inl (-1)])) 1 hz rfl ?_
    exact zH_wr (r := some (.inl (-1))) 0 hz (by rfl) (hfinP hE)
  have hE := hE.trans (if_neg hw8)
  by_cases hw9 : a0 = 51
  · have hE := hE.trans (if_pos hw9)
    rw [show zts 42 a0 120 [100, 105, 120, 108, 120, 102, 120, 120, 120, 120, 120, 120, 120, 120, 120, 120, 120, 120, 111, 117, 114] = 120 from by rw [hw9]; rfl]
    refine zH_w (c' := (121, [.inl a0], [.inl (-1)])) 1 hz rfl ?_
    exact zH_wr (r := some (.inl (-1))) 0 hz (by rfl) (hfinP hE)
  have hE := hE.trans (if_neg hw9)
  by_cases hw10 : a0 = 52
  · have hE := hE.trans (if_pos hw10)
    rw [show zts 42 a0 120 [100, 105, 120, 108, 120, 102, 120, 120, 120, 120, 120, 120, 120, 120, 120, 120, 120, 120, 111, 117, 114] = 120 from by rw [hw10]; rfl]
    refine zH_w (c' := (121, [.inl a0], [.inl (-1)])) 1 hz rfl ?_
    exact zH_wr (r := some (.inl (-1))) 0 hz (by rfl) (hfinP hE)
  have hE := hE.trans (if_neg hw10)
  by_cases hw11 : a0 = 53
  · have hE := hE.trans (if_pos hw11)
    rw [show zts 42 a0 120 [100, 105, 120, 108, 120, 102, 120, 120, 120, 120, 120, 120, 120, 120, 120, 120, 120, 120, 111, 117, 114] = 120 from by rw [hw11]; rfl]
    refine zH_w (c' := (121, [.inl a0], [.inl (-1)])) 1 hz rfl ?_
    exact zH_wr (r := some (.inl (-1))) 0 hz (by rfl) (hfinP hE)
  have hE := hE.trans (if_neg hw11)
  by_cases hw12 : a0 = 54
  · have hE := hE.trans (if_pos hw12)
    rw [show zts 42 a0 120 [100, 105, 120, 108, 120, 102, 120, 120, 120, 120, 120, 120, 120, 120, 120, 120, 120, 120, 111, 117, 114] = 120 from by rw [hw12]; rfl]
    refine zH_w (c' := (121, [.inl a0], [.inl (-1)])) 1 hz rfl ?_
    exact zH_wr (r := some (.inl (-1))) 0 hz (by rfl) (hfinP hE)
  have hE := hE.trans (if_neg hw12)
  by_cases hw13 : a0 = 55
  · have hE := hE.trans (if_pos hw13)
    rw [show zts 42 a0 120 [100, 105, 120, 108, 120, 102, 120, 120, 120, 120, 120, 120, 120, 120, 120, 120, 120, 120, 111, 117, 114] = 120 from by rw [hw13]; rfl]
    refine zH_w (c' := (121, [.inl a0], [.inl (-1)])) 1 hz rfl ?_
    exact zH_wr (r := some (.inl (-1))) 0 hz (by rfl) (hfinP hE)
  have hE := hE.trans (if_neg hw13)
  by_cases hw14 : a0 = 56
  · have hE := hE.trans (if_pos hw14)
    rw [show zts 42 a0 120 [100, 105, 120, 108, 120, 102, 120, 120, 120, 120, 120, 120, 120, 120, 120, 120, 120, 120, 111, 117, 114] = 120 from by rw [hw14]; rfl]
    refine zH_w (c' := (121, [.inl a0], [.inl (-1)])) 1 hz rfl ?_
    exact zH_wr (r := some (.inl (-1))) 0 hz (by rfl) (hfinP hE)
  have hE := hE.trans (if_neg hw14)
  by_cases hw15 : a0 = 57
  · have hE := hE.trans (if_pos hw15)
    rw [show zts 42 a0 120 [100, 105, 120, 108, 120, 102, 120, 120, 120, 120, 120, 120, 120, 120, 120, 120, 120, 120, 111, 117, 114] = 120 from by rw [hw15]; rfl]
    refine zH_w (c' := (121, [.inl a0], [.inl (-1)])) 1 hz rfl ?_
    exact zH_wr (r := some (.inl (-1))) 0 hz (by rfl) (hfinP hE)
  have hE := hE.trans (if_neg hw15)
  by_cases hw16 : a0 = 58
  · have hE := hE.trans (if_pos hw16)
    rw [show zts 42 a0 120 [100, 105, 120, 108, 120, 102, 120, 120, 120, 120, 120, 120, 120, 120, 120, 120, 120, 120, 111, 117, 114] = 120 from by rw [hw16]; rfl]
    refine zH_w (c' := (121, [.inl a0], [.inl (-1)])) 1 hz rfl ?_
    exact zH_wr (r := some (.inl (-1))) 0 hz (by rfl) (hfinP hE)
  have hE := hE.trans (if_neg hw16)
  by_cases hw17 : a0 = 59
  · have hE := hE.trans (if_pos hw17)
    rw [show zts 42 a0 120 [100, 105, 120, 108, 120, 102, 120, 120, 120, 120, 120, 120, 120, 120, 120, 120, 120, 120, 111, 117, 114] = 120 from by rw [hw17]; rfl]
    refine zH_w (c' := (121, [.inl a0], [.inl (-1)])) 1 hz rfl ?_
    exact zH_wr (r := some (.inl (-1))) 0 hz (by rfl) (hfinP hE)
  have hE := hE.trans (if_neg hw17)
  by_cases hw18 : a0 = 60
  · have hE := hE.trans (if_pos hw18)
    rw [show zts 42 a0 120 [100, 105, 120, 108, 120, 102, 120, 120, 120, 120, 120, 120, 120, 120, 120, 120, 120, 120, 111, 117, 114] = 111 from by rw [hw18]; rfl]
    refine zH_w (c' := (113, [.inl a0], [.inl 9])) 1 hz rfl ?_
    exact zH_wr (r := some (.inl 9)) 0 hz (by rfl) (hfinP hE)
  have hE := hE.trans (if_neg hw18)
  by_cases hw19 : a0 = 61
  · have hE := hE.trans (if_pos hw19)
    rw [show zts 42 a0 120 [100, 105, 120, 108, 120, 102, 120, 120, 120, 120, 120, 120, 120, 120, 120, 120, 120, 120, 111, 117, 114] = 117 from by rw [hw19]; rfl]
    refine zH_w (c' := (119, [.inl a0], [.inl 11])) 1 hz rfl ?_
    exact zH_wr (r := some (.inl 11)) 0 hz (by rfl) (hfinP hE)
  have hE := hE.trans (if_neg hw19)
  by_cases hw20 : a0 = 62
  · have hE := hE.trans (if_pos hw20)
    rw [show zts 42 a0 120 [100, 105, 120, 108, 120, 102, 120, 120, 120, 120, 120, 120, 120, 120, 120, 120, 120, 120, 111, 117, 114] = 114 from by rw [hw20]; rfl]
    refine zH_w (c' := (116, [.inl a0], [.inl 10])) 1 hz rfl ?_
    exact zH_wr (r := some (.inl 10)) 0 hz (by rfl) (hfinP hE)
  have hE := hE.trans (if_neg hw20)
  rw [show zts 42 a0 120 [100, 105, 120, 108, 120, 102, 120, 120, 120, 120, 120, 120, 120, 120, 120, 120, 120, 120, 111, 117, 114] = 120 from zts_none (by show ∀ q : Nat, q < 21 → _; intro q hq; rcases (by omega : q = 0 ∨ q = 1 ∨ q = 2 ∨ q = 3 ∨ q = 4 ∨ q = 5 ∨ q = 6 ∨ q = 7 ∨ q = 8 ∨ q = 9 ∨ q = 10 ∨ q = 11 ∨ q = 12 ∨ q = 13 ∨ q = 14 ∨ q = 15 ∨ q = 16 ∨ q = 17 ∨ q = 18 ∨ q = 19 ∨ q = 20) with rfl | rfl | rfl | rfl | rfl | rfl | rfl | rfl | rfl | rfl | rfl | rfl | rfl | rfl | rfl | rfl | rfl | rfl | rfl | rfl | rfl <;> (intro hx; first | exact absurd hx (by omega)))]
  refine zH_w (c' := (121, [.inl a0], [.inl (-1)])) 1 hz rfl ?_
  exact zH_wr (r := some (.inl (-1))) 0 hz (by rfl) (hfinP hE)
noncomputable def hf_230 (M : zM) (a0 : Int) : Int :=
  (if ¬ (if 257105 < a0 then 1 else if a0 = 257105 then 0 else -1) = 0 then (if ¬ (if 10989829 < a0 then 1 else if a0 = 10989829 then 0 else -1) = 0 then (if ¬ (if 2283497869 < a0 then 1 else if a0 = 2283497869 then 0 else -1) = 0 then (if ¬ (if 6476833 < a0 then 1 else if a0 = 6476833 then 0 else -1) = 0 then (if ¬ (if 51445319 < a0 then 1 else if a0 = 51445319 then 0 else -1) = 0 then (if ¬ (if 52714253 < a0 then 1 else if a0 = 52714253 then 0 else -1) = 0 then (if ¬ (if 259565 < a0 then 1 else if a0 = 259565 then 0 else -1) = 0 then (if ¬ (if 230501920 < a0 then 1 else if a0 = 230501920 then 0 else -1) = 0 then (if ¬ (if 10631 < a0 then 1 else if a0 = 10631 then 0 else -1) = 0 then (if ¬ (if 43544 < a0 then 1 else if a0 = 43544 then 0 else -1) = 0 then (if ¬ (if 1111 < a0 then 1 else if a0 = 1111 then 0 else -1) = 0 then (if ¬ (if 423 < a0 then 1 else if a0 = 423 then 0 else -1) = 0 then (if ¬ (if 249 < a0 then 1 else if a0 = 249 then 0 else -1) = 0 then (if ¬ (if 107681 < a0 then 1 else if a0 = 107681 then 0 else -1) = 0 then (if ¬ (if 309007594 < a0 then 1 else if a0 = 309007594 then 0 else -1) = 0 then (-1) else 14) else 13) else 12) else 11) else 10) else 9) else 8) else 7) else 6) else 5) else 4) else 3) else 2) else 1) else 0)
set_option maxRecDepth 100000 in
theorem fh_230 {n : Nat} {M : zM} (a0 : Int) : zH n (0, 0) 230 (0, zini [.inr (.inl a0)] 2, []) M (fun r M' => r = some (.inl (hf_230 M a0)) ∧ M' = M) := by
  have hz := zp_230
  have hE : hf_230 M a0 = hf_230 M a0 := rfl
  show zH n (0, 0) 230 (0, [.inr (.inl a0), zN], []) M _
  refine zH_wf_ne (pc := 5) (n' := 8) (t := 10) (L := [.inr (.inl a0), zN]) (st := []) (x := (if 257105 < a0 then 1 else if a0 = 257105 then 0 else -1)) 3 hz (by rfl) (fun hb => ?_) (fun hb => ?_)
  · have hE := hE.trans (if_pos hb)
    refine zH_wf_ne (pc := 15) (n' := 18) (t := 20) (L := [.inr (.inl a0), zN]) (st := []) (x := (if 10989829 < a0 then 1 else if a0 = 10989829 then 0 else -1)) 3 hz (by rfl) (fun hb => ?_) (fun hb => ?_)
    · have hE := hE.trans (if_pos hb)
      refine zH_wf_ne (pc := 25) (n' := 28) (t := 30) (L := [.inr (.inl a0), zN]) (st := []) (x := (if 2283497869 < a0 then 1 else if a0 = 2283497869 then 0 else -1)) 3 hz (by rfl) (fun hb => ?_) (fun hb => ?_)
      · have hE := hE.trans (if_pos hb)
        refine zH_wf_ne (pc := 35) (n' := 38) (t := 40) (L := [.inr (.inl a0), zN]) (st := []) (x := (if 6476833 < a0 then 1 else if a0 = 6476833 then 0 else -1)) 3 hz (by rfl) (fun hb => ?_) (fun hb => ?_)
        · have hE := hE.trans (if_pos hb)
          refine zH_wf_ne (pc := 45) (n' := 48) (t := 50) (L := [.inr (.inl a0), zN]) (st := []) (x := (if 51445319 < a0 then 1 else if a0 = 51445319 then 0 else -1)) 3 hz (by rfl) (fun hb => ?_) (fun hb => ?_)
          · have hE := hE.trans (if_pos hb)
            refine zH_wf_ne (pc := 55) (n' := 58) (t := 60) (L := [.inr (.inl a0), zN]) (st := []) (x := (if 52714253 < a0 then 1 else if a0 = 52714253 then 0 else -1)) 3 hz (by rfl) (fun hb => ?_) (fun hb => ?_)
            · have hE := hE.trans (if_pos hb)
              refine zH_wf_ne (pc := 65) (n' := 68) (t := 71) (L := [.inr (.inl a0), zN]) (st := []) (x := (if 259565 < a0 then 1 else if a0 = 259565 then 0 else -1)) 3 hz (by rfl) (fun hb => ?_) (fun hb => ?_)
              · have hE := hE.trans (if_pos hb)
                refine zH_wf_ne (pc := 76) (n' := 79) (t := 82) (L := [.inr (.inl a0), zN]) (st := []) (x := (if 230501920 < a0 then 1 else if a0 = 230501920 then 0 else -1)) 3 hz (by rfl) (fun hb => ?_) (fun hb => ?_)
                · have hE := hE.trans (if_pos hb)
                  refine zH_wf_ne (pc := 87) (n' := 90) (t := 93) (L := [.inr (.inl a0), zN]) (st := []) (x := (if 10631 < a0 then 1 else if a0 = 10631 then 0 else -1)) 3 hz (by rfl) (fun hb => ?_) (fun hb => ?_)
                  · have hE := hE.trans (if_pos hb)
                    refine zH_wf_ne (pc := 98) (n' := 101) (t := 104) (L := [.inr (.inl a0), zN]) (st := []) (x := (if 43544 < a0 then 1 else if a0 = 43544 then 0 else -1)) 3 hz (by rfl) (fun hb => ?_) (fun hb => ?_)
                    · have hE := hE.trans (if_pos hb)
                      refine zH_wf_ne (pc := 109) (n' := 112) (t := 115) (L := [.inr (.inl a0), zN]) (st := []) (x := (if 1111 < a0 then 1 else if a0 = 1111 then 0 else -1)) 3 hz (by rfl) (fun hb => ?_) (fun hb => ?_)
                      · have hE := hE.trans (if_pos hb)
                        refine zH_wf_ne (pc := 120) (n' := 123) (t := 126) (L := [.inr (.inl a0), zN]) (st := []) (x := (if 423 < a0 then 1 else if a0 = 423 then 0 else -1)) 3 hz (by rfl) (fun hb => ?_) (fun hb => ?_)
                        · have hE := hE.trans (if_pos hb)
                          refine zH_wf_ne (pc := 131) (n' := 134) (t := 137) (L := [.inr (.inl a0), zN]) (st := []) (x := (if 249 < a0 then 1 else if a0 = 249 then 0 else -1)) 3 hz (by rfl) (fun hb => ?_) (fun hb => ?_)
                          · have hE := hE.trans (if_pos hb)
                            refine zH_wf_ne (pc := 142) (n' := 145) (t := 148) (L := [.inr (.inl a0), zN]) (st := []) (x := (if 107681 < a0 then 1 else if a0 = 107681 then 0 else -1)) 3 hz (by rfl) (fun hb => ?_) (fun hb => ?_)
                            · have hE := hE.trans (if_pos hb)
                              refine zH_wf_ne (pc := 153) (n' := 156) (t := 159) (L := [.inr (.inl a0), zN]) (st := []) (x := (if 309007594 < a0 then 1 else if a0 = 309007594 then 0 else -1)) 3 hz (by rfl) (fun hb => ?_) (fun hb => ?_)
                              · have hE := hE.trans (if_pos hb)
                                exact zH_wr (r := some (.inl (-1))) 1 hz (by rfl) (hfinP hE)
                              · have hE := hE.trans (if_neg hb)
                                exact zH_wr (r := some (.inl 14)) 1 hz (by rfl) (hfinP hE)
                            · have hE := hE.trans (if_neg hb)
                              exact zH_wr (r := some (.inl 13)) 1 hz (by rfl) (hfinP hE)
                          · have hE := hE.trans (if_neg hb)
                            exact zH_wr (r := some (.inl 12)) 1 hz (by rfl) (hfinP hE)
                        · have hE := hE.trans (if_neg hb)
                          exact zH_wr (r := some (.inl 11)) 1 hz (by rfl) (hfinP hE)
                      · have hE := hE.trans (if_neg hb)
                        exact zH_wr (r := some (.inl 10)) 1 hz (by rfl) (hfinP hE)
                    · have hE := hE.trans (if_neg hb)
                      exact zH_wr (r := some (.inl 9)) 1 hz (by rfl) (hfinP hE)
                  · have hE := hE.trans (if_neg hb)
                    exact zH_wr (r := some (.inl 8)) 1 hz (by rfl) (hfinP hE)
                · have hE := hE.trans (if_neg hb)
                  exact zH_wr (r := some (.inl 7)) 1 hz (by rfl) (hfinP hE)
              · have hE := hE.trans (if_neg hb)
                exact zH_wr (r := some (.inl 6)) 1 hz (by rfl) (hfinP hE)
            · have hE := hE.trans (if_neg hb)
              exact zH_wr (r := some (.inl 5)) 1 hz (by rfl) (hfinP hE)
          · have hE := hE.trans (if_neg hb)
            exact zH_wr (r := some (.inl 4)) 1 hz (by rfl) (hfinP hE)
        · have hE := hE.trans (if_neg hb)
          exact zH_wr (r := some (.inl 3)) 1 hz (by rfl) (hfinP hE)
      · have hE := hE.trans (if_neg hb)
        exact zH_wr (r := some (.inl 2)) 1 hz (by rfl) (hfinP hE)
    · have hE := hE.trans (if_neg hb)
      exact zH_wr (r := some (.inl 1)) 1 hz (by rfl) (hfinP hE)
  · have hE := hE.trans (if_neg hb)
    exact zH_wr (r := some (.inl 0)) 1 hz (by rfl) (hfinP hE)
noncomputable def ysg (k : Int) : Int := if k = 5 then 2 else if k = 26 then 3 else if k = 6 then 4 else if k = 20 then 5 else if k = 21 then 6 else if k = 18 then 7 else if k = 19 then 8 else if k = 15 then 9 else if k = 16 then 10 else if k = 17 then 11 else if k = 4 then 12 else if k = 3 then 13 else if k = 2 then 14 else 15
/-- what waits, as the model has it -/
noncomputable def yw (k : Int) : Int := if k = 2 then 17 else if k = 1 then 16 else if k = 22 then 18 else ysg k
/-- what was told, as the model's steps have it -/
noncomputable def ys (v : Int) : Int := if 0 ≤ v then 0 else if -15 ≤ v ∧ v ≤ -8 then 1 else ysg (-v - 1)
noncomputable def yv (v : Int) : Int := if 0 ≤ v then v else if -15 ≤ v ∧ v ≤ -8 then -v - 8 else 0
/-- what may wait -/
noncomputable def yWk (k : Int) : Prop := (0 ≤ k ∧ k ≤ 6) ∨ (15 ≤ k ∧ k ≤ 22) ∨ k = 26
theorem y_all {k : Int} (h : yWk k) : k = 0 ∨ k = 1 ∨ k = 2 ∨ k = 3 ∨ k = 4 ∨ k = 5 ∨ k = 6 ∨ k = 15 ∨ k = 16 ∨ k = 17 ∨ k = 18 ∨ k = 19 ∨ k = 20 ∨ k = 21 ∨ k = 22 ∨ k = 26 := by unfold yWk at h; omega
theorem y_hold {M : zM} {k : Int} (h : yWk k) : hf_221 M (yw k) = if xrK k < 3 then 0 else xrK k := by
  rcases y_all h with rfl | rfl | rfl | rfl | rfl | rfl | rfl | rfl | rfl | rfl | rfl | rfl | rfl | rfl | rfl | rfl <;> rfl
theorem y_is {k : Int} (h : yWk k) : (yw k = 16 ↔ k = 1) ∧ (yw k = 17 ↔ k = 2) ∧ (yw k = 15 ↔ k = 0) ∧ (yw k = 18 ↔ k = 22) ∧ ¬ yw k = -1 := by
  rcases y_all h with rfl | rfl | rfl | rfl | rfl | rfl | rfl | rfl | rfl | rfl | rfl | rfl | rfl | rfl | rfl | rfl <;> decide
theorem y_em {k : Int} (h : yWk k) (h3 : 3 ≤ xrK k) : ys (-k - 1) = yw k ∧ yv (-k - 1) = 0 := by
  rcases y_all h with rfl | rfl | rfl | rfl | rfl | rfl | rfl | rfl | rfl | rfl | rfl | rfl | rfl | rfl | rfl | rfl <;> first | exact absurd h3 (by decide) | decide
noncomputable def yK (f : Nat → Int) : List Int → Prop
  | [] => True
  | k :: W => f W.length = yw k ∧ yK f W
noncomputable def yC (f g : Nat → Int) : List Int → Prop
  | [] => True
  | v :: O => (f O.length = ys v ∧ g O.length = yv v) ∧ yC f g O
theorem yK.up {f : Nat → Int} {j : Nat} {x : Int} : ∀ {W : List Int}, yK f W → W.length ≤ j → yK (hup f j x) W
  | [], _, _ => trivial
  | _ :: W, h, hj => ⟨by rw [hup_ne (by rw [List.length_cons] at hj; omega)]; exact h.1, yK.up h.2 (by rw [List.length_cons] at hj; omega)⟩
theorem yC.up {f g : Nat → Int} {j : Nat} {x y : Int} : ∀ {O : List Int}, yC f g O → O.length ≤ j → yC (hup f j x) (hup g j y) O
  | [], _, _ => trivial
  | _ :: O, h, hj => ⟨⟨by rw [hup_ne (by rw [List.length_cons] at hj; omega)]; exact h.1.1, by rw [hup_ne (by rw [List.length_cons] at hj; omega)]; exact h.1.2⟩, yC.up h.2 (by rw [List.length_cons] at hj; omega)⟩
noncomputable def yW (W : List Int) : Prop := ∀ k ∈ W, yWk k
/-- what stands over what -/
noncomputable def yF : List Int → Prop
  | [] => True
  | k :: W => yWk k ∧ (k = 1 ∨ k = 2 → xrT W = -1 ∨ xrT W = 2 ∨ xrT W = 0 ∨ xrT W = 22) ∧ (k = 0 → xrT W = -1 ∨ xrT W = 22) ∧ yF W
theorem yF.w : ∀ {W : List Int}, yF W → yW W
  | [], _ => fun k hk => absurd hk List.not_mem_nil
  | k :: W, h => fun x hx => by rcases List.mem_cons.mp hx with rfl | hx; exact h.1; exact yF.w h.2.2.2 x hx
theorem xrT_nil : ∀ {W : List Int}, yW W → (xrT W = -1 ↔ W = [])
  | [], _ => ⟨fun _ => rfl, fun _ => rfl⟩
  | k :: W, h => ⟨fun q => by have := h k (List.mem_cons_self ..); unfold yWk at this; have q : k = -1 := q; omega, fun q => by cases q⟩
/-- from the top down those that wait and hold so tight have gone -/
theorem xrE_top (r : Int) : ∀ (W O : List Int), (xrE r W O).1 = [] ∨ xrK (xrT (xrE r W O).1) < r
  | [], _ => .inl rfl
  | k :: W, O => by
    unfold xrE
    split
    · exact xrE_top r W _
    · rename_i h; exact .inr (by show xrK k < r; omega)
theorem xrE_F (r : Int) : ∀ (W O : List Int), yF W → yF (xrE r W O).1
  | [], _, h => h
  | k :: W, O, h => by
    unfold xrE
    split
    · exact xrE_F r W _ h.2.2.2
    · exact h
theorem xrE_len (r : Int) : ∀ (W O : List Int), (xrE r W O).1.length ≤ W.length ∧ (xrE r W O).1.length + (xrE r W O).2.length = W.length + O.length
  | [], O => ⟨Nat.le_refl _, rfl⟩
  | k :: W, O => by
    unfold xrE
    split
    · have q := xrE_len r W ((-k - 1) :: O)
      rw [List.length_cons] at q ⊢
      omega
    · exact ⟨Nat.le_refl _, rfl⟩
theorem xrE_E {r s : Int} (h : r ≤ s) : ∀ (W O : List Int), xrE r (xrE s W O).1 (xrE s W O).2 = xrE r W O
  | [], _ => rfl
  | k :: W, O => by
    by_cases q : s ≤ xrK k
    · rw [show xrE s (k :: W) O = xrE s W ((-k - 1) :: O) from if_pos q, xrE_E h W, show xrE r (k :: W) O = xrE r W ((-k - 1) :: O) from if_pos (by omega)]
    · rw [show xrE s (k :: W) O = (k :: W, O) from if_neg q]
/-- what was else is done -/
noncomputable def yE : List Int → List Int → List Int × List Int
  | [], O => ([], O)
  | k :: W, O => if k = 2 then yE W (-3 :: O) else (k :: W, O)
noncomputable def yU : List Int → List Int → List Int × List Int
  | [], O => ([], O)
  | k :: W, O => if k = 0 then (W, -1 :: O) else (k :: W, O)
theorem yE_len : ∀ (W O : List Int), (yE W O).1.length ≤ W.length ∧ (yE W O).1.length + (yE W O).2.length = W.length + O.length
  | [], O => ⟨Nat.le_refl _, rfl⟩
  | k :: W, O => by
    unfold yE
    split
    · have q := yE_len W (-3 :: O)
      rw [List.length_cons] at q ⊢
      omega
    · exact ⟨Nat.le_refl _, rfl⟩
theorem yU_len : ∀ (W O : List Int), (yU W O).1.length ≤ W.length ∧ (yU W O).1.length + (yU W O).2.length = W.length + O.length
  | [], O => ⟨Nat.le_refl _, rfl⟩
  | k :: W, O => by
    rw [show yU (k :: W) O = if k = 0 then (W, -1 :: O) else (k :: W, O) from rfl]
    split
    · dsimp only
      rw [List.length_cons, List.length_cons]; omega
    · exact ⟨Nat.le_refl _, rfl⟩
theorem yE_F : ∀ (W O : List Int), yF W → yF (yE W O).1
  | [], _, h => h
  | k :: W, O, h => by
    unfold yE
    split
    · exact yE_F W _ h.2.2.2
    · exact h
/-- behind operators that hold tighter: a value ends -/
theorem yVal : ∀ (W O : List Int), yF W → (W = [] ∨ xrK (xrT W) < 3) → (¬ xrT W = 1 → yU (yE W O).1 (yE W O).2 = xrE 1 W O) ∧ (xrT (yE W O).1 = 1 ↔ xrT W = 1)
  | [], _, _, _ => ⟨fun _ => rfl, Iff.rfl⟩
  | k :: W, O, h, hk => by
    have hk : xrK k < 3 := by rcases hk with q | q; cases q; exact q
    have h4 : k = 0 ∨ k = 1 ∨ k = 2 ∨ k = 22 := by
      rcases y_all h.1 with q | q | q | q | q | q | q | q | q | q | q | q | q | q | q | q <;> first | omega | (rw [q] at hk; exact absurd hk (by decide))
    rcases h4 with rfl | rfl | rfl | rfl
    · refine ⟨fun _ => ?_, Iff.rfl⟩
      show (W, -1 :: O) = xrE 1 W (-1 :: O)
      have h5 := h.2.2.1 rfl
      cases W with
      | nil => rfl
      | cons x W =>
        have h6 : x = -1 ∨ x = 22 := h5
        have h7 := h.2.2.2.1
        unfold yWk at h7
        have h8 : x = 22 := by omega
        subst h8
        rfl
    · exact ⟨fun q => (q rfl).elim, Iff.rfl⟩
    · have h5 : xrT W = -1 ∨ xrT W = 2 ∨ xrT W = 0 ∨ xrT W = 22 := h.2.1 (.inr rfl)
      have h6 : W = [] ∨ xrK (xrT W) < 3 := by
        rcases h5 with q | q | q | q
        · exact .inl ((xrT_nil (yF.w h.2.2.2)).mp q)
        · rw [q]; exact .inr (by decide)
        · rw [q]; exact .inr (by decide)
        · rw [q]; exact .inr (by decide)
      obtain ⟨q1, q2⟩ := yVal W (-3 :: O) h.2.2.2 h6
      have h7 : ¬ xrT W = 1 := by omega
      refine ⟨fun _ => q1 h7, ?_⟩
      show xrT (yE W (-3 :: O)).1 = 1 ↔ (2 : Int) = 1
      exact ⟨fun q => absurd (q2.mp q) h7, fun q => absurd q (by decide)⟩
    · exact ⟨fun _ => rfl, Iff.rfl⟩
theorem xrL_in (c : Nat → Int) : ∀ (k i m : Nat), i ≤ m → m < xrL c k i → 97 ≤ c m ∧ c m ≤ 122
  | 0, i, m, h1, h2 => by have h2 : m < i := h2; omega
  | k + 1, i, m, h1, h2 => by
    unfold xrL at h2
    by_cases q : 97 ≤ c i ∧ c i ≤ 122
    · rw [if_pos q] at h2
      by_cases e : m = i
      · rw [e]; exact q
      · exact xrL_in c k (i + 1) m (by omega) h2
    · rw [if_neg q] at h2; omega
noncomputable def xrN (c : Nat → Int) (s : Nat) : Nat → Int
  | 0 => 0
  | k + 1 => 27 * xrN c s k + c (s + k) - 96
theorem xrN_b (c : Nat → Int) (s : Nat) : ∀ n : Nat, (∀ m, m < n → 97 ≤ c (s + m) ∧ c (s + m) ≤ 122) → 0 ≤ xrN c s n ∧ xrN c s n < ((27 ^ n : Nat) : Int)
  | 0, _ => ⟨Int.le_refl _, by show (0 : Int) < ((1 : Nat) : Int); decide⟩
  | n + 1, h => by
    have q := xrN_b c s n (fun m hm => h m (by omega))
    have b := h n (by omega)
    rw [Nat.pow_succ]
    show 0 ≤ 27 * xrN c s n + c (s + n) - 96 ∧ 27 * xrN c s n + c (s + n) - 96 < _
    omega
noncomputable def yMt (c : Nat → Int) (s : Nat) : Nat → List Int → Prop
  | _, [] => True
  | i, x :: l => c (s + i) = x ∧ yMt c s (i + 1) l
theorem yM_go (c : Nat → Int) (s e : Nat) : ∀ (wd rest : List Int) (v : Int) (i : Nat) (k : Bool), (∀ x ∈ wd, ¬ x = 32) → (k = true ∧ s + i + wd.length = e ∧ yMt c s i wd → xrR c s e (wd ++ 32 :: rest) v (s + i) k = v) ∧ (¬ (k = true ∧ s + i + wd.length = e ∧ yMt c s i wd) → xrR c s e (wd ++ 32 :: rest) v (s + i) k = xrR c s e rest (v + 1) s true)
  | [], rest, v, i, k, _ => by
    show (_ → xrR c s e (32 :: rest) v (s + i) k = v) ∧ (_ → xrR c s e (32 :: rest) v (s + i) k = _)
    rw [xrR_c, if_pos rfl]
    exact ⟨fun h => if_pos ⟨h.1, h.2.1⟩, fun h => if_neg (fun q => h ⟨q.1, q.2, trivial⟩)⟩
  | x :: wd, rest, v, i, k, hx => by
    have h1 : ¬ x = 32 := hx x (List.mem_cons_self ..)
    obtain ⟨q1, q2⟩ := yM_go c s e wd rest v (i + 1) (k && decide (s + i < e) && decide (c (s + i) = x)) (fun y hy => hx y (List.mem_cons_of_mem _ hy))
    show (_ → xrR c s e (x :: (wd ++ 32 :: rest)) v (s + i) k = v) ∧ (_ → xrR c s e (x :: (wd ++ 32 :: rest)) v (s + i) k = _)
    rw [xrR_c, if_neg h1, show s + i + 1 = s + (i + 1) by omega]
    constructor
    · intro h
      have h3 := h.2.1
      rw [List.length_cons] at h3
      exact q1 ⟨by rw [h.1, decide_eq_true (show s + i < e by omega), decide_eq_true h.2.2.1]; rfl, by omega, h.2.2.2⟩
    · intro h
      refine q2 (fun p => h ?_)
      have p1 := p.1
      rw [Bool.and_eq_true, Bool.and_eq_true, decide_eq_true_eq, decide_eq_true_eq] at p1
      exact ⟨p1.1.1, by rw [List.length_cons]; have := p.2.1; omega, p1.2, p.2.2⟩
noncomputable def yq_0 : List Int := [117, 110, 108, 101, 115, 115]
noncomputable def yq_1 : List Int := [105, 102]
noncomputable def yq_2 : List Int := [101, 108, 115, 101]
noncomputable def yq_3 : List Int := [111, 114]
noncomputable def yq_4 : List Int := [97, 110, 100]
noncomputable def yq_5 : List Int := [110, 111, 116]
noncomputable def yq_6 : List Int := [98, 101, 115, 116]
noncomputable def yq_7 : List Int := [109, 97, 114, 107]
noncomputable def yq_8 : List Int := [116, 114, 105, 101, 115]
noncomputable def yq_9 : List Int := [101, 120, 99, 117, 115, 101, 100]
noncomputable def yq_10 : List Int := [108, 101, 97, 110, 115]
noncomputable def yq_11 : List Int := [99, 111, 117, 114, 115, 101]
noncomputable def yq_12 : List Int := [99, 114, 101, 100, 105, 116]
noncomputable def yq_13 : List Int := [109, 101, 97, 110]
noncomputable def yq_14 : List Int := [112, 97, 115, 115, 101, 100]
noncomputable def yz_15 : List Int := []
noncomputable def yz_14 : List Int := yq_14 ++ 32 :: yz_15
noncomputable def yz_13 : List Int := yq_13 ++ 32 :: yz_14
noncomputable def yz_12 : List Int := yq_12 ++ 32 :: yz_13
noncomputable def yz_11 : List Int := yq_11 ++ 32 :: yz_12
noncomputable def yz_10 : List Int := yq_10 ++ 32 :: yz_11
noncomputable def yz_9 : List Int := yq_9 ++ 32 :: yz_10
noncomputable def yz_8 : List Int := yq_8 ++ 32 :: yz_9
noncomputable def yz_7 : List Int := yq_7 ++ 32 :: yz_8
noncomputable def yz_6 : List Int := yq_6 ++ 32 :: yz_7
noncomputable def yz_5 : List Int := yq_5 ++ 32 :: yz_6
noncomputable def yz_4 : List Int := yq_4 ++ 32 :: yz_5
noncomputable def yz_3 : List Int := yq_3 ++ 32 :: yz_4
noncomputable def yz_2 : List Int := yq_2 ++ 32 :: yz_3
noncomputable def yz_1 : List Int := yq_1 ++ 32 :: yz_2
noncomputable def yz_0 : List Int := yq_0 ++ 32 :: yz_1
theorem yz_all : xrWl = yz_0 := rfl
/-- a word's number, its letters from the last to the first -/
noncomputable def ywv : List Int → Int
  | [] => 0
  | x :: r => 27 * ywv r + x - 96
noncomputable def yRv (c : Nat → Int) (s : Nat) : Nat → List Int → Prop
  | 0, [] => True
  | n + 1, x :: r => c (s + n) = x ∧ yRv c s n r
  | _, _ => False
theorem ywv_nn : ∀ (r : List Int), (∀ x, x ∈ r → 97 ≤ x ∧ x ≤ 122) → 0 ≤ ywv r
  | [], _ => Int.le_refl _
  | x :: r, h => by
    have h1 := h x List.mem_cons_self
    have h2 := ywv_nn r (fun y hy => h y (List.mem_cons_of_mem _ hy))
    show 0 ≤ 27 * ywv r + x - 96
    omega
theorem yRv_iff (c : Nat → Int) (s : Nat) : ∀ (r : List Int) (n : Nat), (∀ x, x ∈ r → 97 ≤ x ∧ x ≤ 122) → (∀ m, m < n → 97 ≤ c (s + m) ∧ c (s + m) ≤ 122) → (xrN c s n = ywv r ↔ yRv c s n r)
  | [], 0, _, _ => ⟨fun _ => trivial, fun _ => rfl⟩
  | [], n + 1, _, hb => by
    have h1 := hb n (Nat.lt_succ_self n)
    have h2 := (xrN_b c s n (fun m hm => hb m (Nat.lt_succ_of_lt hm))).1
    refine ⟨fun h => ?_, fun h => False.elim h⟩
    have h3 : 27 * xrN c s n + c (s + n) - 96 = 0 := h
    exact absurd h3 (by omega)
  | x :: r, 0, hr, _ => by
    have h1 := hr x List.mem_cons_self
    have h2 := ywv_nn r (fun y hy => hr y (List.mem_cons_of_mem _ hy))
    refine ⟨fun h => ?_, fun h => False.elim h⟩
    have h3 : 0 = 27 * ywv r + x - 96 := h
    exact absurd h3 (by omega)
  | x :: r, n + 1, hr, hb => by
    have h1 := hr x List.mem_cons_self
    have b1 := hb n (Nat.lt_succ_self n)
    have ih := yRv_iff c s r n (fun y hy => hr y (List.mem_cons_of_mem _ hy)) (fun m hm => hb m (Nat.lt_succ_of_lt hm))
    show 27 * xrN c s n + c (s + n) - 96 = 27 * ywv r + x - 96 ↔ c (s + n) = x ∧ yRv c s n r
    rw [← ih]
    constructor
    · intro h; exact ⟨by omega, by omega⟩
    · rintro ⟨q1, q2⟩; rw [q1, q2]
theorem yMa (c : Nat → Int) (s : Nat) (x : Int) : ∀ (l : List Int) (i : Nat), (yMt c s i (l ++ [x]) ↔ yMt c s i l ∧ c (s + (i + l.length)) = x)
  | [], i => ⟨fun h => ⟨trivial, h.1⟩, fun h => ⟨h.2, trivial⟩⟩
  | y :: l, i => by
    have ih := yMa c s x l (i + 1)
    show (c (s + i) = y ∧ yMt c s (i + 1) (l ++ [x])) ↔ (c (s + i) = y ∧ yMt c s (i + 1) l) ∧ c (s + (i + (l.length + 1))) = x
    rw [ih, show i + 1 + l.length = i + (l.length + 1) by omega]
    exact ⟨fun h => ⟨⟨h.1, h.2.1⟩, h.2.2⟩, fun h => ⟨h.1.1, h.1.2, h.2⟩⟩
theorem yRm (c : Nat → Int) (s : Nat) : ∀ (r : List Int) (n : Nat), (yRv c s n r ↔ n = r.length ∧ yMt c s 0 r.reverse)
  | [], 0 => ⟨fun _ => ⟨rfl, trivial⟩, fun _ => trivial⟩
  | [], n + 1 => ⟨fun h => False.elim h, fun h => absurd h.1 (Nat.succ_ne_zero n)⟩
  | x :: r, 0 => ⟨fun h => False.elim h, fun h => absurd h.1.symm (Nat.succ_ne_zero _)⟩
  | x :: r, n + 1 => by
    have ih := yRm c s r n
    show c (s + n) = x ∧ yRv c s n r ↔ n + 1 = r.length + 1 ∧ yMt c s 0 (x :: r).reverse
    rw [List.reverse_cons, yMa, ih, List.length_reverse, Nat.zero_add]
    constructor
    · rintro ⟨q1, q2, q3⟩; exact ⟨by omega, q3, by rw [← q2]; exact q1⟩
    · rintro ⟨q1, q2, q3⟩
      have q4 : n = r.length := by omega
      exact ⟨by rw [q4]; exact q3, q4, q2⟩
theorem yNg (c : Nat → Int) (s n : Nat) (r : List Int) (hr : ∀ x, x ∈ r → 97 ≤ x ∧ x ≤ 122) (hb : ∀ m, m < n → 97 ≤ c (s + m) ∧ c (s + m) ≤ 122) : xrN c s n = ywv r ↔ (n = r.length ∧ yMt c s 0 r.reverse) := (yRv_iff c s r n hr hb).trans (yRm c s r n)
theorem yN_0 {c : Nat → Int} {s n : Nat} (_hn : n ≤ 7) (hb : ∀ m, m < n → 97 ≤ c (s + m) ∧ c (s + m) ≤ 122) : xrN c s n = 309007594 ↔ (n = 6 ∧ yMt c s 0 yq_0) := by
  have h := yNg c s n [115, 115, 101, 108, 110, 117] (by decide) hb
  rw [show ywv [115, 115, 101, 108, 110, 117] = 309007594 from by decide] at h
  exact h
theorem yN_1 {c : Nat → Int} {s n : Nat} (_hn : n ≤ 7) (hb : ∀ m, m < n → 97 ≤ c (s + m) ∧ c (s + m) ≤ 122) : xrN c s n = 249 ↔ (n = 2 ∧ yMt c s 0 yq_1) := by
  have h := yNg c s n [102, 105] (by decide) hb
  rw [show ywv [102, 105] = 249 from by decide] at h
  exact h
theorem yN_2 {c : Nat → Int} {s n : Nat} (_hn : n ≤ 7) (hb : ∀ m, m < n → 97 ≤ c (s + m) ∧ c (s + m) ≤ 122) : xrN c s n = 107681 ↔ (n = 4 ∧ yMt c s 0 yq_2) := by
  have h := yNg c s n [101, 115, 108, 101] (by decide) hb
  rw [show ywv [101, 115, 108, 101] = 107681 from by decide] at h
  exact h
theorem yN_3 {c : Nat → Int} {s n : Nat} (_hn : n ≤ 7) (hb : ∀ m, m < n → 97 ≤ c (s + m) ∧ c (s + m) ≤ 122) : xrN c s n = 423 ↔ (n = 2 ∧ yMt c s 0 yq_3) := by
  have h := yNg c s n [114, 111] (by decide) hb
  rw [show ywv [114, 111] = 423 from by decide] at h
  exact h
theorem yN_4 {c : Nat → Int} {s n : Nat} (_hn : n ≤ 7) (hb : ∀ m, m < n → 97 ≤ c (s + m) ∧ c (s + m) ≤ 122) : xrN c s n = 1111 ↔ (n = 3 ∧ yMt c s 0 yq_4) := by
  have h := yNg c s n [100, 110, 97] (by decide) hb
  rw [show ywv [100, 110, 97] = 1111 from by decide] at h
  exact h
theorem yN_5 {c : Nat → Int} {s n : Nat} (_hn : n ≤ 7) (hb : ∀ m, m < n → 97 ≤ c (s + m) ∧ c (s + m) ≤ 122) : xrN c s n = 10631 ↔ (n = 3 ∧ yMt c s 0 yq_5) := by
  have h := yNg c s n [116, 111, 110] (by decide) hb
  rw [show ywv [116, 111, 110] = 10631 from by decide] at h
  exact h
theorem yN_6 {c : Nat → Int} {s n : Nat} (_hn : n ≤ 7) (hb : ∀ m, m < n → 97 ≤ c (s + m) ∧ c (s + m) ≤ 122) : xrN c s n = 43544 ↔ (n = 4 ∧ yMt c s 0 yq_6) := by
  have h := yNg c s n [116, 115, 101, 98] (by decide) hb
  rw [show ywv [116, 115, 101, 98] = 43544 from by decide] at h
  exact h
theorem yN_7 {c : Nat → Int} {s n : Nat} (_hn : n ≤ 7) (hb : ∀ m, m < n → 97 ≤ c (s + m) ∧ c (s + m) ≤ 122) : xrN c s n = 257105 ↔ (n = 4 ∧ yMt c s 0 yq_7) := by
  have h := yNg c s n [107, 114, 97, 109] (by decide) hb
  rw [show ywv [107, 114, 97, 109] = 257105 from by decide] at h
  exact h
theorem yN_8 {c : Nat → Int} {s n : Nat} (_hn : n ≤ 7) (hb : ∀ m, m < n → 97 ≤ c (s + m) ∧ c (s + m) ≤ 122) : xrN c s n = 10989829 ↔ (n = 5 ∧ yMt c s 0 yq_8) := by
  have h := yNg c s n [115, 101, 105, 114, 116] (by decide) hb
  rw [show ywv [115, 101, 105, 114, 116] = 10989829 from by decide] at h
  exact h
theorem yN_9 {c : Nat → Int} {s n : Nat} (_hn : n ≤ 7) (hb : ∀ m, m < n → 97 ≤ c (s + m) ∧ c (s + m) ≤ 122) : xrN c s n = 2283497869 ↔ (n = 7 ∧ yMt c s 0 yq_9) := by
  have h := yNg c s n [100, 101, 115, 117, 99, 120, 101] (by decide) hb
  rw [show ywv [100, 101, 115, 117, 99, 120, 101] = 2283497869 from by decide] at h
  exact h
theorem yN_10 {c : Nat → Int} {s n : Nat} (_hn : n ≤ 7) (hb : ∀ m, m < n → 97 ≤ c (s + m) ∧ c (s + m) ≤ 122) : xrN c s n = 6476833 ↔ (n = 5 ∧ yMt c s 0 yq_10) := by
  have h := yNg c s n [115, 110, 97, 101, 108] (by decide) hb
  rw [show ywv [115, 110, 97, 101, 108] = 6476833 from by decide] at h
  exact h
theorem yN_11 {c : Nat → Int} {s n : Nat} (_hn : n ≤ 7) (hb : ∀ m, m < n → 97 ≤ c (s + m) ∧ c (s + m) ≤ 122) : xrN c s n = 51445319 ↔ (n = 6 ∧ yMt c s 0 yq_11) := by
  have h := yNg c s n [101, 115, 114, 117, 111, 99] (by decide) hb
  rw [show ywv [101, 115, 114, 117, 111, 99] = 51445319 from by decide] at h
  exact h
theorem yN_12 {c : Nat → Int} {s n : Nat} (_hn : n ≤ 7) (hb : ∀ m, m < n → 97 ≤ c (s + m) ∧ c (s + m) ≤ 122) : xrN c s n = 52714253 ↔ (n = 6 ∧ yMt c s 0 yq_12) := by
  have h := yNg c s n [116, 105, 100, 101, 114, 99] (by decide) hb
  rw [show ywv [116, 105, 100, 101, 114, 99] = 52714253 from by decide] at h
  exact h
theorem yN_13 {c : Nat → Int} {s n : Nat} (_hn : n ≤ 7) (hb : ∀ m, m < n → 97 ≤ c (s + m) ∧ c (s + m) ≤ 122) : xrN c s n = 259565 ↔ (n = 4 ∧ yMt c s 0 yq_13) := by
  have h := yNg c s n [110, 97, 101, 109] (by decide) hb
  rw [show ywv [110, 97, 101, 109] = 259565 from by decide] at h
  exact h
theorem yN_14 {c : Nat → Int} {s n : Nat} (_hn : n ≤ 7) (hb : ∀ m, m < n → 97 ≤ c (s + m) ∧ c (s + m) ≤ 122) : xrN c s n = 230501920 ↔ (n = 6 ∧ yMt c s 0 yq_14) := by
  have h := yNg c s n [100, 101, 115, 115, 97, 112] (by decide) hb
  rw [show ywv [100, 101, 115, 115, 97, 112] = 230501920 from by decide] at h
  exact h
theorem ylc {a b : Int} : ((if b < a then 1 else if a = b then (0 : Int) else -1) = 0) ↔ a = b := by
  by_cases h1 : b < a
  · rw [if_pos h1]; constructor <;> intro h <;> omega
  · rw [if_neg h1]
    by_cases h2 : a = b
    · rw [if_pos h2]; exact ⟨fun _ => h2, fun _ => rfl⟩
    · rw [if_neg h2]; constructor <;> intro h <;> omega
theorem y230 {M : zM} {a : Int} : hf_230 M a = if a = 257105 then 0 else if a = 10989829 then 1 else if a = 2283497869 then 2 else if a = 6476833 then 3 else if a = 51445319 then 4 else if a = 52714253 then 5 else if a = 259565 then 6 else if a = 230501920 then 7 else if a = 10631 then 8 else if a = 43544 then 9 else if a = 1111 then 10 else if a = 423 then 11 else if a = 249 then 12 else if a = 107681 then 13 else if a = 309007594 then 14 else -1 := by
  unfold hf_230
  simp only [ylc, ite_not]
/-- a word's number with the model -/
noncomputable def yf (k : Int) : Int := if k = -1 then -1 else if 7 ≤ k then k - 7 else if k = 5 then 8 else if k = 6 then 9 else if k = 4 then 10 else if k = 3 then 11 else if k = 1 then 12 else if k = 2 then 13 else 14
theorem yWord {M : zM} {c : Nat → Int} {s e : Nat} (hse : s ≤ e) (hb : ∀ m, s ≤ m → m < e → 97 ≤ c m ∧ c m ≤ 122) : hf_230 M (if 7 < e - s then 0 else xrN c s (e - s)) = yf (xrW c s e) := by
  have hb2 : ∀ m, m < e - s → 97 ≤ c (s + m) ∧ c (s + m) ≤ 122 := fun m hm => hb (s + m) (by omega) (by omega)
  have r0 : xrW c s e = xrR c s e yz_0 0 s true := by unfold xrW; rw [yz_all]
  have g0 := yM_go c s e yq_0 yz_1 0 0 true (by decide)
  by_cases p0 : s + 6 = e ∧ yMt c s 0 yq_0
  · rw [r0.trans (g0.1 ⟨rfl, by have := p0.1; show s + 0 + 6 = e; omega, p0.2⟩), if_neg (by have := p0.1; omega), (yN_0 (by have := p0.1; omega) hb2).mpr ⟨by have := p0.1; omega, p0.2⟩, y230, if_neg (by decide), if_neg (by decide), if_neg (by decide), if_neg (by decide), if_neg (by decide), if_neg (by decide), if_neg (by decide), if_neg (by decide), if_neg (by decide), if_neg (by decide), if_neg (by decide), if_neg (by decide), if_neg (by decide), if_neg (by decide), if_pos rfl]
    decide
  have r1 : xrW c s e = xrR c s e yz_1 1 s true := r0.trans (g0.2 (fun q => p0 ⟨by have h9 : s + 0 + 6 = e := q.2.1; omega, q.2.2⟩))
  have g1 := yM_go c s e yq_1 yz_2 1 0 true (by decide)
  by_cases p1 : s + 2 = e ∧ yMt c s 0 yq_1
  · rw [r1.trans (g1.1 ⟨rfl, by have := p1.1; show s + 0 + 2 = e; omega, p1.2⟩), if_neg (by have := p1.1; omega), (yN_1 (by have := p1.1; omega) hb2).mpr ⟨by have := p1.1; omega, p1.2⟩, y230, if_neg (by decide), if_neg (by decide), if_neg (by decide), if_neg (by decide), if_neg (by decide), if_neg (by decide), if_neg (by decide), if_neg (by decide), if_neg (by decide), if_neg (by decide), if_neg (by decide), if_neg (by decide), if_pos rfl]
    decide
  have r2 : xrW c s e = xrR c s e yz_2 2 s true := r1.trans (g1.2 (fun q => p1 ⟨by have h9 : s + 0 + 2 = e := q.2.1; omega, q.2.2⟩))
  have g2 := yM_go c s e yq_2 yz_3 2 0 true (by decide)
  by_cases p2 : s + 4 = e ∧ yMt c s 0 yq_2
  · rw [r2.trans (g2.1 ⟨rfl, by have := p2.1; show s + 0 + 4 = e; omega, p2.2⟩), if_neg (by have := p2.1; omega), (yN_2 (by have := p2.1; omega) hb2).mpr ⟨by have := p2.1; omega, p2.2⟩, y230, if_neg (by decide), if_neg (by decide), if_neg (by decide), if_neg (by decide), if_neg (by decide), if_neg (by decide), if_neg (by decide), if_neg (by decide), if_neg (by decide), if_neg (by decide), if_neg (by decide), if_neg (by decide), if_neg (by decide), if_pos rfl]
    decide
  have r3 : xrW c s e = xrR c s e yz_3 3 s true := r2.trans (g2.2 (fun q => p2 ⟨by have h9 : s + 0 + 4 = e := q.2.1; omega, q.2.2⟩))
  have g3 := yM_go c s e yq_3 yz_4 3 0 true (by decide)
  by_cases p3 : s + 2 = e ∧ yMt c s 0 yq_3
  · rw [r3.trans (g3.1 ⟨rfl, by have := p3.1; show s + 0 + 2 = e; omega, p3.2⟩), if_neg (by have := p3.1; omega), (yN_3 (by have := p3.1; omega) hb2).mpr ⟨by have := p3.1; omega, p3.2⟩, y230, if_neg (by decide), if_neg (by decide), if_neg (by decide), if_neg (by decide), if_neg (by decide), if_neg (by decide), if_neg (by decide), if_neg (by decide), if_neg (by decide), if_neg (by decide), if_neg (by decide), if_pos rfl]
    decide
  have r4 : xrW c s e = xrR c s e yz_4 4 s true := r3.trans (g3.2 (fun q => p3 ⟨by have h9 : s + 0 + 2 = e := q.2.1; omega, q.2.2⟩))
  have g4 := yM_go c s e yq_4 yz_5 4 0 true (by decide)
  by_cases p4 : s + 3 = e ∧ yMt c s 0 yq_4
  · rw [r4.trans (g4.1 ⟨rfl, by have := p4.1; show s + 0 + 3 = e; omega, p4.2⟩), if_neg (by have := p4.1; omega), (yN_4 (by have := p4.1; omega) hb2).mpr ⟨by have := p4.1; omega, p4.2⟩, y230, if_neg (by decide), if_neg (by decide), if_neg (by decide), if_neg (by decide), if_neg (by decide), if_neg (by decide), if_neg (by decide), if_neg (by decide), if_neg (by decide), if_neg (by decide), if_pos rfl]
    decide
  have r5 : xrW c s e = xrR c s e yz_5 5 s true := r4.trans (g4.2 (fun q => p4 ⟨by have h9 : s + 0 + 3 = e := q.2.1; omega, q.2.2⟩))
  have g5 := yM_go c s e yq_5 yz_6 5 0 true (by decide)
  by_cases p5 : s + 3 = e ∧ yMt c s 0 yq_5
  · rw [r5.trans (g5.1 ⟨rfl, by have := p5.1; show s + 0 + 3 = e; omega, p5.2⟩), if_neg (by have := p5.1; omega), (yN_5 (by have := p5.1; omega) hb2).mpr ⟨by have := p5.1; omega, p5.2⟩, y230, if_neg (by decide), if_neg (by decide), if_neg (by decide), if_neg (by decide), if_neg (by decide), if_neg (by decide), if_neg (by decide), if_neg (by decide), if_pos rfl]
    decide
  have r6 : xrW c s e = xrR c s e yz_6 6 s true := r5.trans (g5.2 (fun q => p5 ⟨by have h9 : s + 0 + 3 = e := q.2.1; omega, q.2.2⟩))
  have g6 := yM_go c s e yq_6 yz_7 6 0 true (by decide)
  by_cases p6 : s + 4 = e ∧ yMt c s 0 yq_6
  · rw [r6.trans (g6.1 ⟨rfl, by have := p6.1; show s + 0 + 4 = e; omega, p6.2⟩), if_neg (by have := p6.1; omega), (yN_6 (by have := p6.1; omega) hb2).mpr ⟨by have := p6.1; omega, p6.2⟩, y230, if_neg (by decide), if_neg (by decide), if_neg (by decide), if_neg (by decide), if_neg (by decide), if_neg (by decide), if_neg (by decide), if_neg (by decide), if_neg (by decide), if_pos rfl]
    decide
  have r7 : xrW c s e = xrR c s e yz_7 7 s true := r6.trans (g6.2 (fun q => p6 ⟨by have h9 : s + 0 + 4 = e := q.2.1; omega, q.2.2⟩))
  have g7 := yM_go c s e yq_7 yz_8 7 0 true (by decide)
  by_cases p7 : s + 4 = e ∧ yMt c s 0 yq_7
  · rw [r7.trans (g7.1 ⟨rfl, by have := p7.1; show s + 0 + 4 = e; omega, p7.2⟩), if_neg (by have := p7.1; omega), (yN_7 (by have := p7.1; omega) hb2).mpr ⟨by have := p7.1; omega, p7.2⟩, y230, if_pos rfl]
    decide
  have r8 : xrW c s e = xrR c s e yz_8 8 s true := r7.trans (g7.2 (fun q => p7 ⟨by have h9 : s + 0 + 4 = e := q.2.1; omega, q.2.2⟩))
  have g8 := yM_go c s e yq_8 yz_9 8 0 true (by decide)
  by_cases p8 : s + 5 = e ∧ yMt c s 0 yq_8
  · rw [r8.trans (g8.1 ⟨rfl, by have := p8.1; show s + 0 + 5 = e; omega, p8.2⟩), if_neg (by have := p8.1; omega), (yN_8 (by have := p8.1; omega) hb2).mpr ⟨by have := p8.1; omega, p8.2⟩, y230, if_neg (by decide), if_pos rfl]
    decide
  have r9 : xrW c s e = xrR c s e yz_9 9 s true := r8.trans (g8.2 (fun q => p8 ⟨by have h9 : s + 0 + 5 = e := q.2.1; omega, q.2.2⟩))
  have g9 := yM_go c s e yq_9 yz_10 9 0 true (by decide)
  by_cases p9 : s + 7 = e ∧ yMt c s 0 yq_9
  · rw [r9.trans (g9.1 ⟨rfl, by have := p9.1; show s + 0 + 7 = e; omega, p9.2⟩), if_neg (by have := p9.1; omega), (yN_9 (by have := p9.1; omega) hb2).mpr ⟨by have := p9.1; omega, p9.2⟩, y230, if_neg (by decide), if_neg (by decide), if_pos rfl]
    decide
  have r10 : xrW c s e = xrR c s e yz_10 10 s true := r9.trans (g9.2 (fun q => p9 ⟨by have h9 : s + 0 + 7 = e := q.2.1; omega, q.2.2⟩))
  have g10 := yM_go c s e yq_10 yz_11 10 0 true (by decide)
  by_cases p10 : s + 5 = e ∧ yMt c s 0 yq_10
  · rw [r10.trans (g10.1 ⟨rfl, by have := p10.1; show s + 0 + 5 = e; omega, p10.2⟩), if_neg (by have := p10.1; omega), (yN_10 (by have := p10.1; omega) hb2).mpr ⟨by have := p10.1; omega, p10.2⟩, y230, if_neg (by decide), if_neg (by decide), if_neg (by decide), if_pos rfl]
    decide
  have r11 : xrW c s e = xrR c s e yz_11 11 s true := r10.trans (g10.2 (fun q => p10 ⟨by have h9 : s + 0 + 5 = e := q.2.1; omega, q.2.2⟩))
  have g11 := yM_go c s e yq_11 yz_12 11 0 true (by decide)
  by_cases p11 : s + 6 = e ∧ yMt c s 0 yq_11
  · rw [r11.trans (g11.1 ⟨rfl, by have := p11.1; show s + 0 + 6 = e; omega, p11.2⟩), if_neg (by have := p11.1; omega), (yN_11 (by have := p11.1; omega) hb2).mpr ⟨by have := p11.1; omega, p11.2⟩, y230, if_neg (by decide), if_neg (by decide), if_neg (by decide), if_neg (by decide), if_pos rfl]
    decide
  have r12 : xrW c s e = xrR c s e yz_12 12 s true := r11.trans (g11.2 (fun q => p11 ⟨by have h9 : s + 0 + 6 = e := q.2.1; omega, q.2.2⟩))
  have g12 := yM_go c s e yq_12 yz_13 12 0 true (by decide)
  by_cases p12 : s + 6 = e ∧ yMt c s 0 yq_12
  · rw [r12.trans (g12.1 ⟨rfl, by have := p12.1; show s + 0 + 6 = e; omega, p12.2⟩), if_neg (by have := p12.1; omega), (yN_12 (by have := p12.1; omega) hb2).mpr ⟨by have := p12.1; omega, p12.2⟩, y230, if_neg (by decide), if_neg (by decide), if_neg (by decide), if_neg (by decide), if_neg (by decide), if_pos rfl]
    decide
  have r13 : xrW c s e = xrR c s e yz_13 13 s true := r12.trans (g12.2 (fun q => p12 ⟨by have h9 : s + 0 + 6 = e := q.2.1; omega, q.2.2⟩))
  have g13 := yM_go c s e yq_13 yz_14 13 0 true (by decide)
  by_cases p13 : s + 4 = e ∧ yMt c s 0 yq_13
  · rw [r13.trans (g13.1 ⟨rfl, by have := p13.1; show s + 0 + 4 = e; omega, p13.2⟩), if_neg (by have := p13.1; omega), (yN_13 (by have := p13.1; omega) hb2).mpr ⟨by have := p13.1; omega, p13.2⟩, y230, if_neg (by decide), if_neg (by decide), if_neg (by decide), if_neg (by decide), if_neg (by decide), if_neg (by decide), if_pos rfl]
    decide
  have r14 : xrW c s e = xrR c s e yz_14 14 s true := r13.trans (g13.2 (fun q => p13 ⟨by have h9 : s + 0 + 4 = e := q.2.1; omega, q.2.2⟩))
  have g14 := yM_go c s e yq_14 yz_15 14 0 true (by decide)
  by_cases p14 : s + 6 = e ∧ yMt c s 0 yq_14
  · rw [r14.trans (g14.1 ⟨rfl, by have := p14.1; show s + 0 + 6 = e; omega, p14.2⟩), if_neg (by have := p14.1; omega), (yN_14 (by have := p14.1; omega) hb2).mpr ⟨by have := p14.1; omega, p14.2⟩, y230, if_neg (by decide), if_neg (by decide), if_neg (by decide), if_neg (by decide), if_neg (by decide), if_neg (by decide), if_neg (by decide), if_pos rfl]
    decide
  have r15 : xrW c s e = xrR c s e yz_15 15 s true := r14.trans (g14.2 (fun q => p14 ⟨by have h9 : s + 0 + 6 = e := q.2.1; omega, q.2.2⟩))
  rw [show xrW c s e = -1 from r15]
  by_cases h7 : 7 < e - s
  · rw [if_pos h7, y230]; decide
  · rw [if_neg h7, y230]
    have n0 : ¬ xrN c s (e - s) = 309007594 := fun q => by have q2 := (yN_0 (by omega) hb2).mp q; exact p0 ⟨by omega, q2.2⟩
    have n1 : ¬ xrN c s (e - s) = 249 := fun q => by have q2 := (yN_1 (by omega) hb2).mp q; exact p1 ⟨by omega, q2.2⟩
    have n2 : ¬ xrN c s (e - s) = 107681 := fun q => by have q2 := (yN_2 (by omega) hb2).mp q; exact p2 ⟨by omega, q2.2⟩
    have n3 : ¬ xrN c s (e - s) = 423 := fun q => by have q2 := (yN_3 (by omega) hb2).mp q; exact p3 ⟨by omega, q2.2⟩
    have n4 : ¬ xrN c s (e - s) = 1111 := fun q => by have q2 := (yN_4 (by omega) hb2).mp q; exact p4 ⟨by omega, q2.2⟩
    have n5 : ¬ xrN c s (e - s) = 10631 := fun q => by have q2 := (yN_5 (by omega) hb2).mp q; exact p5 ⟨by omega, q2.2⟩
    have n6 : ¬ xrN c s (e - s) = 43544 := fun q => by have q2 := (yN_6 (by omega) hb2).mp q; exact p6 ⟨by omega, q2.2⟩
    have n7 : ¬ xrN c s (e - s) = 257105 := fun q => by have q2 := (yN_7 (by omega) hb2).mp q; exact p7 ⟨by omega, q2.2⟩
    have n8 : ¬ xrN c s (e - s) = 10989829 := fun q => by have q2 := (yN_8 (by omega) hb2).mp q; exact p8 ⟨by omega, q2.2⟩
    have n9 : ¬ xrN c s (e - s) = 2283497869 := fun q => by have q2 := (yN_9 (by omega) hb2).mp q; exact p9 ⟨by omega, q2.2⟩
    have n10 : ¬ xrN c s (e - s) = 6476833 := fun q => by have q2 := (yN_10 (by omega) hb2).mp q; exact p10 ⟨by omega, q2.2⟩
    have n11 : ¬ xrN c s (e - s) = 51445319 := fun q => by have q2 := (yN_11 (by omega) hb2).mp q; exact p11 ⟨by omega, q2.2⟩
    have n12 : ¬ xrN c s (e - s) = 52714253 := fun q => by have q2 := (yN_12 (by omega) hb2).mp q; exact p12 ⟨by omega, q2.2⟩
    have n13 : ¬ xrN c s (e - s) = 259565 := fun q => by have q2 := (yN_13 (by omega) hb2).mp q; exact p13 ⟨by omega, q2.2⟩
    have n14 : ¬ xrN c s (e - s) = 230501920 := fun q => by have q2 := (yN_14 (by omega) hb2).mp q; exact p14 ⟨by omega, q2.2⟩
    rw [if_neg n7, if_neg n8, if_neg n9, if_neg n10, if_neg n11, if_neg n12, if_neg n13, if_neg n14, if_neg n5, if_neg n6, if_neg n4, if_neg n3, if_neg n1, if_neg n2, if_neg n0]
    rfl
theorem w64_id {x : Int} (h : -9223372036854775808 ≤ x ∧ x ≤ 9223372036854775807) : w64 x = x := by unfold w64; omega
noncomputable def yO (Mo M : zM) : Prop := ∀ r, r ≠ 97 → r ≠ 105 → r ≠ 106 → r ≠ 107 → M r = Mo r
noncomputable def yS (Mo : zM) (W O : List Int) (M : zM) : Prop := yO Mo M ∧ (M 97 7 = (O.length : Int) ∧ M 97 10 = (W.length : Int)) ∧ yK (M 107) W ∧ yC (M 105) (M 106) O ∧ ∀ j, 17 ≤ j → M 97 j = Mo 97 j
noncomputable def yT : List Int → Int
  | [] => -1
  | k :: _ => yw k
section YS
variable {Mo M : zM} {k v : Int} {W O : List Int}
theorem yS.f (h : yS Mo W O M) {j : Nat} {x : Int} (h7 : j ≠ 7) (h10 : j ≠ 10) (h17 : j < 17 := by decide) : yS Mo W O (zput M 97 j x) := by
  obtain ⟨h1, h2, h3, h4, h9⟩ := h
  refine ⟨fun r q1 q2 q3 q4 => (zput_oth q1).trans (h1 r q1 q2 q3 q4), ?_, ?_, ?_, fun j2 q => by rw [qput_nk (by omega)]; exact h9 j2 q⟩
  · rw [qput_nk h7.symm, qput_nk h10.symm]; exact h2
  · rw [zput_oth (by decide)]; exact h3
  · rw [zput_oth (by decide), zput_oth (by decide)]; exact h4
theorem yS.emit (h : yS Mo W O M) (ho : O.length ≤ 89) {x y : Int} (hx : x = ys v) (hy : y = yv v) : yS Mo W (v :: O) (hf_220_97 M x y) ∧ hf_220_97 M x y 97 12 = M 97 12 ∧ hf_220_97 M x y 97 13 = M 97 13 := by
  obtain ⟨h1, h2, h3, h4, h9⟩ := h
  have e : hf_220_97 M x y = zput (zput (zput M 105 O.length x) 106 O.length y) 97 7 ((O.length : Int) + 1) := by
    unfold hf_220_97
    rw [show (zput M 105 (M 97 7 : Int).toNat x) 97 7 = (O.length : Int) from (congrFun (zput_oth (by decide)) 7).trans h2.1]
    rw [show (zput (zput M 105 (M 97 7 : Int).toNat x) 106 ((O.length : Int)).toNat y) 97 7 = (O.length : Int) from (congrFun (zput_oth (by decide)) 7).trans ((congrFun (zput_oth (by decide)) 7).trans h2.1)]
    rw [h2.1, w32_id (by omega), show ((O.length : Int)).toNat = O.length by omega]
  rw [e]
  refine ⟨⟨fun r q1 q2 q3 q4 => (zput_oth q1).trans ((zput_oth q3).trans ((zput_oth q2).trans (h1 r q1 q2 q3 q4))), ?_, ?_, ?_, fun j2 q => by rw [qput_nk (by omega), zput_oth (show (97 : Nat) ≠ 106 by decide), zput_oth (show (97 : Nat) ≠ 105 by decide)]; exact h9 j2 q⟩, ?_, ?_⟩
  · rw [qput_eq, qput_nk (by decide), zput_oth (show (97 : Nat) ≠ 106 by decide), zput_oth (show (97 : Nat) ≠ 105 by decide), List.length_cons]
    exact ⟨by omega, h2.2⟩
  · rw [zput_oth (by decide), zput_oth (by decide), zput_oth (by decide)]; exact h3
  · rw [zput_oth (show (105 : Nat) ≠ 97 by decide), zput_oth (show (105 : Nat) ≠ 106 by decide), zput_oth (show (106 : Nat) ≠ 97 by decide), zput_same, zput_same, zput_oth (show (106 : Nat) ≠ 105 by decide)]
    exact ⟨⟨by rw [hup_eq, hx], by rw [hup_eq, hy]⟩, h4.up (Nat.le_refl _)⟩
  · rw [qput_nk (by decide), zput_oth (show (97 : Nat) ≠ 106 by decide), zput_oth (show (97 : Nat) ≠ 105 by decide)]
  · rw [qput_nk (by decide), zput_oth (show (97 : Nat) ≠ 106 by decide), zput_oth (show (97 : Nat) ≠ 105 by decide)]
theorem yS.push (h : yS Mo W O M) (hw : W.length ≤ 89) {x : Int} (hx : x = yw k) : yS Mo (k :: W) O (hf_223_97 M x) ∧ hf_223_97 M x 97 12 = M 97 12 ∧ hf_223_97 M x 97 13 = M 97 13 := by
  obtain ⟨h1, h2, h3, h4, h9⟩ := h
  have e : hf_223_97 M x = zput (zput M 107 W.length x) 97 10 ((W.length : Int) + 1) := by
    unfold hf_223_97
    rw [show (zput M 107 (M 97 10 : Int).toNat x) 97 10 = (W.length : Int) from (congrFun (zput_oth (by decide)) 10).trans h2.2]
    rw [h2.2, w32_id (by omega), show ((W.length : Int)).toNat = W.length by omega]
  rw [e]
  refine ⟨⟨fun r q1 q2 q3 q4 => (zput_oth q1).trans ((zput_oth q4).trans (h1 r q1 q2 q3 q4)), ?_, ?_, ?_, fun j2 q => by rw [qput_nk (by omega), zput_oth (show (97 : Nat) ≠ 107 by decide)]; exact h9 j2 q⟩, ?_, ?_⟩
  · rw [qput_eq, qput_nk (by decide), zput_oth (show (97 : Nat) ≠ 107 by decide), List.length_cons]
    exact ⟨h2.1, by omega⟩
  · rw [zput_oth (show (107 : Nat) ≠ 97 by decide), zput_same]
    exact ⟨by rw [hup_eq, hx], h3.up (Nat.le_refl _)⟩
  · rw [zput_oth (by decide), zput_oth (by decide), zput_oth (by decide), zput_oth (by decide)]; exact h4
  · rw [qput_nk (by decide), zput_oth (show (97 : Nat) ≠ 107 by decide)]
  · rw [qput_nk (by decide), zput_oth (show (97 : Nat) ≠ 107 by decide)]
theorem yS.at (h : yS Mo (k :: W) O M) (hw : W.length ≤ 89) : M 107 (w32 ((M 97 10) - 1) : Int).toNat = yw k := by
  obtain ⟨h1, h2, h3, h4, h9⟩ := h
  rw [List.length_cons] at h2
  rw [h2.2, w32_id (by omega), show (((W.length + 1 : Nat) : Int) - 1).toNat = W.length by omega]
  exact h3.1
theorem yS.top (h : yS Mo W O M) (hw : W.length ≤ 89) : hf_222_97 M = yT W := by
  unfold hf_222_97
  cases W with
  | nil => rw [if_neg (by rw [h.2.1.2]; decide)]; rfl
  | cons k W =>
    rw [List.length_cons] at hw
    rw [if_pos (by rw [h.2.1.2, List.length_cons]; omega)]
    exact h.at (by omega)
theorem yS.drop (h : yS Mo (k :: W) O M) (hw : W.length ≤ 89) : yS Mo W O (zput M 97 10 (w32 ((M 97 10) - 1))) := by
  obtain ⟨h1, h2, h3, h4, h9⟩ := h
  rw [List.length_cons] at h2
  rw [h2.2, w32_id (by omega), show ((W.length + 1 : Nat) : Int) - 1 = (W.length : Int) by omega]
  refine ⟨fun r q1 q2 q3 q4 => (zput_oth q1).trans (h1 r q1 q2 q3 q4), ?_, ?_, ?_, fun j2 q => by rw [qput_nk (by omega)]; exact h9 j2 q⟩
  · rw [qput_eq, qput_nk (by decide)]; exact ⟨h2.1, rfl⟩
  · rw [zput_oth (by decide)]; exact h3.2
  · rw [zput_oth (by decide), zput_oth (by decide)]; exact h4
/-- the last that waits becomes another -/
theorem yS.top2 (h : yS Mo (k :: W) O M) (hw : W.length ≤ 89) {x : Int} (hx : x = yw v) : yS Mo (v :: W) O (zput M 107 (w32 ((M 97 10) - 1) : Int).toNat x) := by
  obtain ⟨h1, h2, h3, h4, h9⟩ := h
  rw [List.length_cons] at h2
  rw [h2.2, w32_id (by omega), show (((W.length + 1 : Nat) : Int) - 1).toNat = W.length by omega]
  refine ⟨fun r q1 q2 q3 q4 => (zput_oth q4).trans (h1 r q1 q2 q3 q4), ?_, ?_, ?_, fun j2 q => by rw [zput_oth (show (97 : Nat) ≠ 107 by decide)]; exact h9 j2 q⟩
  · rw [zput_oth (show (97 : Nat) ≠ 107 by decide), List.length_cons]; exact h2
  · rw [zput_same]; exact ⟨by rw [hup_eq, hx], h3.2.up (Nat.le_refl _)⟩
  · rw [zput_oth (by decide), zput_oth (by decide)]; exact h4
theorem yT_1 : ∀ {W : List Int}, yW W → (yT W = 16 ↔ xrT W = 1) ∧ (yT W = 17 ↔ xrT W = 2) ∧ (yT W = 15 ↔ xrT W = 0) ∧ (yT W = 18 ↔ xrT W = 22)
  | [], _ => by decide
  | k :: W, h => by obtain ⟨q1, q2, q3, q4, -⟩ := y_is (h k (List.mem_cons_self ..)); exact ⟨q1, q2, q3, q4⟩
theorem y_hold5 : ∀ {W : List Int}, yW W → (hf_221 M (yT W) = 5 ↔ xrK (xrT W) = 5)
  | [], _ => by show (hf_221 M (-1) = 5 ↔ xrK (-1) = 5); rw [show hf_221 M (-1) = 0 from rfl]; decide
  | k :: W, h => by
    show hf_221 M (yw k) = 5 ↔ xrK k = 5
    rw [y_hold (h k (List.mem_cons_self ..))]
    split
    · constructor <;> intro q <;> omega
    · exact Iff.rfl
end YS
set_option maxRecDepth 100000 in
theorem fh_224_97 {n : Nat} {M : zM} {Mo : zM} {W O : List Int} (h : yS Mo W O M) (hw : yW W) (hl : W.length + O.length ≤ 81) (a1 : Int) (h3 : 3 ≤ a1) : zH n (0, 0) 224 (0, zini [zR 97, .inl a1] 2, []) M (fun r M' => r = none ∧ yS Mo (xrE a1 W O).1 (xrE a1 W O).2 M' ∧ M' 97 12 = M 97 12 ∧ M' 97 13 = M 97 13) := by
  have hz := zp_224
  show zH n (0, 0) 224 (0, [zR 97, .inl a1], []) M _
  have lp0 : ∀ (N : Nat) (M5 : zM), ((M5 97 10).toNat) < N → (∃ W1 O1 : List Int, yS Mo W1 O1 M5 ∧ xrE a1 W1 O1 = xrE a1 W O ∧ yW W1 ∧ W1.length + O1.length ≤ 81) → (M5 97 12 = M 97 12 ∧ M5 97 13 = M 97 13) → zH n (0, 0) 224 (0, [zR 97, .inl a1], []) M5 (fun r M' => r = none ∧ yS Mo (xrE a1 W O).1 (xrE a1 W O).2 M' ∧ M' 97 12 = M 97 12 ∧ M' 97 13 = M 97 13) := by
    intro N
    induction N with
    | zero => intro M5 hN; exact absurd hN (Nat.not_lt_zero _)
    | succ N ih0 =>
      intro M5 hN hx hk
      obtain ⟨W1, O1, g1, g2, g3, g4⟩ := hx
      have gn : M5 97 10 = (W1.length : Int) := g1.2.1.2
      refine zH_w (c' := (4, [zR 97, .inl a1], [.inl (M5 97 10)])) 2 hz rfl ?_
      refine zH_wf_le (pc := 4) (n' := 7) (t := 52) (L := [zR 97, .inl a1]) (st := []) (x := (M5 97 10)) 0 hz (by rfl) (fun hb4 => ?_) (fun hb4 => ?_)
      · skip
        have g6 : W1 = [] := List.eq_nil_of_length_eq_zero (by omega)
        subst g6
        have g7 : xrE a1 W O = ([], O1) := g2.symm
        exact zH_ret hz rfl rfl (⟨rfl, by rw [g7]; exact g1, hk⟩)
      · skip
        obtain ⟨k2, W2, rfl⟩ : ∃ k2 W2, W1 = k2 :: W2 := by cases W1 with | nil => exact absurd (show M5 97 10 ≤ 0 by rw [gn]; exact Int.le_refl _) hb4 | cons k2 W2 => exact ⟨k2, W2, rfl⟩
        have gk := g3 k2 (List.mem_cons_self ..)
        have gl : W2.length ≤ 89 := by rw [List.length_cons] at g4; omega
        have gm : 0 < M5 97 10 := by omega
        refine zH_w (c' := (17, [zR 97, .inl a1], [.inl (w32 ((M5 97 10) - 1)), zR 107])) 6 hz rfl ?_
        refine zH_iald hz rfl rfl (.inl rfl) (fun hin17 => ?_)
        show zH n (0, 0) 224 (18, [zR 97, .inl a1], [.inl (M5 107 (w32 ((M5 97 10) - 1) : Int).toNat)]) M5 _
        rw [g1.at gl]
        refine zH_wE (c1 := (21, [zR 97, .inl a1], [])) 0 hz zp_221 (fh_221 (yw k2)) (by rfl) ?_
        show zH n (0, 0) 224 (21, [zR 97, .inl a1], [.inl (hf_221 M5 (yw k2))]) M5 _
        rw [y_hold gk]
        obtain ⟨y, hy⟩ : ∃ x : Int, x = (if xrK k2 < 3 then 0 else xrK k2) := ⟨_, rfl⟩
        rw [← hy]
        have hyk : y < a1 ↔ xrK k2 < a1 := by rw [hy]; split <;> omega
        refine zH_w (c' := (22, [zR 97, .inl a1], [.inl a1, .inl y])) 1 hz rfl ?_
        refine zH_wi_lt (pc := 22) (n' := 25) (t := 52) (L := [zR 97, .inl a1]) (st := []) (x := y) (y := a1) 0 hz (by rfl) (fun hb22 => ?_) (fun hb22 => ?_)
        · skip
          have g7 : xrE a1 W O = (k2 :: W2, O1) := g2.symm.trans (if_neg (by omega))
          exact zH_wr (r := none) 0 hz (by rfl) (⟨rfl, by rw [g7]; exact g1, hk⟩)
        · skip
          refine zH_w (c' := (35, [zR 97, .inl a1], [])) 6 hz rfl ?_
          obtain ⟨M6, hM6⟩ : ∃ X : zM, X = zput M5 97 10 (w32 ((M5 97 10) - 1)) := ⟨_, rfl⟩
          rw [← hM6]
          have hd : yS Mo W2 O1 M6 := by rw [hM6]; exact g1.drop gl
          have e7 : M6 107 (M6 97 10 : Int).toNat = yw k2 := by have q := hd.2.1.2; rw [q, hM6, zput_oth (show (107 : Nat) ≠ 97 by decide), show ((W2.length : Int)).toNat = W2.length by omega]; exact g1.2.2.1.1
          refine zH_w (c' := (44, [zR 97, .inl a1], [.inl (M6 97 10), zR 107, zR 97])) 5 hz rfl ?_
          refine zH_iald hz rfl rfl (.inl rfl) (fun hin44 => ?_)
          show zH n (0, 0) 224 (45, [zR 97, .inl a1], [.inl (M6 107 (M6 97 10 : Int).toNat), zR 97]) M6 _
          rw [e7]
          refine zH_w (c' := (46, [zR 97, .inl a1], [.inl 0, .inl (yw k2), zR 97])) 1 hz rfl ?_
          refine zH_wE (c1 := (49, [zR 97, .inl a1], [])) 0 hz zp_220 (fh_220_97 (yw k2) 0) (by rfl) ?_
          show zH n (0, 0) 224 (49, [zR 97, .inl a1], []) (hf_220_97 M6 (yw k2) 0) _
          have em := y_em gk (by omega)
          have he := hd.emit (v := -k2 - 1) (by rw [List.length_cons] at g4; omega) em.1.symm em.2.symm
          have hme : hf_220_97 M6 (yw k2) 0 97 10 = (W2.length : Int) := he.1.2.1.2
          have g8 : M5 97 10 = ((W2.length + 1 : Nat) : Int) := gn
          refine zH_w (c' := (0, [zR 97, .inl a1], [])) 1 hz rfl ?_
          refine ih0 (hf_220_97 M6 (yw k2) 0) (by omega) ?_ ?_
          · exact ⟨W2, (-k2 - 1) :: O1, he.1, by rw [← g2]; exact (if_pos (by omega)).symm, fun x hx => g3 x (List.mem_cons_of_mem _ hx), by rw [List.length_cons] at g4 ⊢; omega⟩
          · exact ⟨he.2.1.trans ((congrFun (congrFun hM6 97) 12).trans ((qput_nk (by decide)).trans hk.1)), he.2.2.trans ((congrFun (congrFun hM6 97) 13).trans ((qput_nk (by decide)).trans hk.2))⟩
  refine lp0 ((M 97 10).toNat + 1) M (by omega) ?_ ?_
  · exact ⟨W, O, h, rfl, hw, hl⟩
  · exact ⟨rfl, rfl⟩
set_option maxRecDepth 100000 in
theorem fh_225_97 {n : Nat} {M : zM} {Mo : zM} {W O : List Int} (h : yS Mo W O M) (hw : yW W) (hl : W.length + O.length ≤ 81) (hf : yF W) : zH n (0, 0) 225 (0, zini [zR 97] 1, []) M (fun r M' => r = some (.inl (if xrT (xrE 3 W O).1 = 1 then 0 else 1)) ∧ yS Mo (yE (xrE 3 W O).1 (xrE 3 W O).2).1 (yE (xrE 3 W O).1 (xrE 3 W O).2).2 M' ∧ M' 97 12 = M 97 12 ∧ M' 97 13 = M 97 13) := by
  have hz := zp_225
  show zH n (0, 0) 225 (0, [zR 97], []) M _
  refine zH_wC (c1 := (5, [zR 97], [])) 2 hz zp_224 (fh_224_97 h hw hl 3 (by decide)) (by rfl) ?_
  rintro _ M1 ⟨rfl, hS1, hk1⟩
  show zH n (0, 0) 225 (5, [zR 97], []) M1 _
  have l3 := xrE_len 3 W O
  have hn1 : M1 97 10 = ((xrE 3 W O).1.length : Int) := hS1.2.1.2
  have lp5 : ∀ (N : Nat) (M5 : zM), ((M5 97 10).toNat) < N → (∃ W1 O1 : List Int, yS Mo W1 O1 M5 ∧ yE W1 O1 = (yE (xrE 3 W O).1 (xrE 3 W O).2) ∧ yF W1 ∧ W1.length + O1.length ≤ 81) → (M5 97 12 = M 97 12 ∧ M5 97 13 = M 97 13) → zH n (0, 0) 225 (5, [zR 97], []) M5 (fun r M' => r = some (.inl (if xrT (xrE 3 W O).1 = 1 then 0 else 1)) ∧ yS Mo (yE (xrE 3 W O).1 (xrE 3 W O).2).1 (yE (xrE 3 W O).1 (xrE 3 W O).2).2 M' ∧ M' 97 12 = M 97 12 ∧ M' 97 13 = M 97 13) := by
    intro N
    induction N with
    | zero => intro M5 hN; exact absurd hN (Nat.not_lt_zero _)
    | succ N ih5 =>
      intro M5 hN hx hk
      obtain ⟨W1, O1, g1, g2, g3, g4⟩ := hx
      have gn : M5 97 10 = (W1.length : Int) := g1.2.1.2
      have gt := g1.top (by omega)
      have g5 := yT_1 g3.w
      refine zH_w (c' := (6, [zR 97], [zR 97])) 1 hz rfl ?_
      refine zH_wE (c1 := (9, [zR 97], [])) 0 hz zp_222 (fh_222_97) (by rfl) ?_
      show zH n (0, 0) 225 (9, [zR 97], [.inl (hf_222_97 M5)]) M5 _
      rw [gt]
      refine zH_w (c' := (11, [zR 97], [.inl 17, .inl (yT W1)])) 1 hz rfl ?_
      refine zH_wi_ne (pc := 11) (n' := 14) (t := 34) (L := [zR 97]) (st := []) (x := (yT W1)) (y := 17) 0 hz (by rfl) (fun hb11 => ?_) (fun hb11 => ?_)
      · skip
        have g7 : (yE (xrE 3 W O).1 (xrE 3 W O).2) = (W1, O1) := by
          rw [← g2]
          cases W1 with
          | nil => rfl
          | cons k2 W2 => exact if_neg (fun q => hb11 (g5.2.1.mpr q))
        have g9 : xrT W1 = 1 ↔ xrT (xrE 3 W O).1 = 1 := by
          have q := (yVal (xrE 3 W O).1 (xrE 3 W O).2 (xrE_F 3 W O hf) (xrE_top 3 W O)).2
          rw [g7] at q
          exact q
        refine zH_wE (c1 := (38, [zR 97], [])) 1 hz zp_222 (fh_222_97) (by rfl) ?_
        show zH n (0, 0) 225 (38, [zR 97], [.inl (hf_222_97 M5)]) M5 _
        rw [gt]
        refine zH_w (c' := (40, [zR 97], [.inl 16, .inl (yT W1)])) 1 hz rfl ?_
        refine zH_wi_eq (pc := 40) (n' := 43) (t := 47) (L := [zR 97]) (st := []) (x := (yT W1)) (y := 16) 0 hz (by rfl) (fun hb40 => ?_) (fun hb40 => ?_)
        · skip
          refine zH_w (c' := (48, [zR 97], [.inl 0])) 1 hz rfl ?_
          refine zH_zret hz rfl ?_
          rw [g7]
          first
            | (rw [if_pos (g9.mp (g5.1.mp (by omega)))]; exact ⟨rfl, g1, hk⟩)
            | (rw [if_neg (fun q => absurd (g5.1.mpr (g9.mpr q)) (by omega))]; exact ⟨rfl, g1, hk⟩)
        · skip
          refine zH_w (c' := (48, [zR 97], [.inl 1])) 2 hz rfl ?_
          refine zH_zret hz rfl ?_
          rw [g7]
          first
            | (rw [if_pos (g9.mp (g5.1.mp (by omega)))]; exact ⟨rfl, g1, hk⟩)
            | (rw [if_neg (fun q => absurd (g5.1.mpr (g9.mpr q)) (by omega))]; exact ⟨rfl, g1, hk⟩)
      · skip
        have gk1 : xrT W1 = 2 := g5.2.1.mp (by omega)
        obtain ⟨k2, W2, rfl⟩ : ∃ k2 W2, W1 = k2 :: W2 := by cases W1 with | nil => exact absurd gk1 (by decide) | cons k2 W2 => exact ⟨k2, W2, rfl⟩
        have gk2 : k2 = 2 := gk1
        have gl : W2.length ≤ 89 := by rw [List.length_cons] at g4; omega
        refine zH_w (c' := (24, [zR 97], [])) 6 hz rfl ?_
        obtain ⟨M6, hM6⟩ : ∃ X : zM, X = zput M5 97 10 (w32 ((M5 97 10) - 1)) := ⟨_, rfl⟩
        rw [← hM6]
        have hd : yS Mo W2 O1 M6 := by rw [hM6]; exact g1.drop gl
        refine zH_w (c' := (28, [zR 97], [.inl 0, .inl 14, zR 97])) 3 hz rfl ?_
        refine zH_wE (c1 := (31, [zR 97], [])) 0 hz zp_220 (fh_220_97 14 0) (by rfl) ?_
        show zH n (0, 0) 225 (31, [zR 97], []) (hf_220_97 M6 14 0) _
        have he := hd.emit (v := -3) (x := 14) (y := 0) (by rw [List.length_cons] at g4; omega) (by decide) (by decide)
        have hme : hf_220_97 M6 14 0 97 10 = (W2.length : Int) := he.1.2.1.2
        have g8 : M5 97 10 = ((W2.length + 1 : Nat) : Int) := gn
        refine zH_w (c' := (5, [zR 97], [])) 1 hz rfl ?_
        refine ih5 (hf_220_97 M6 14 0) (by omega) ?_ ?_
        · exact ⟨W2, -3 :: O1, he.1, by rw [← g2]; exact (if_pos gk2).symm, g3.2.2.2, by rw [List.length_cons] at g4 ⊢; omega⟩
        · exact ⟨he.2.1.trans ((congrFun (congrFun hM6 97) 12).trans ((qput_nk (by decide)).trans hk.1)), he.2.2.trans ((congrFun (congrFun hM6 97) 13).trans ((qput_nk (by decide)).trans hk.2))⟩
  refine lp5 (100) M1 (by omega) ?_ ?_
  · exact ⟨_, _, hS1, rfl, xrE_F 3 W O hf, by have := xrE_len 3 W O; omega⟩
  · exact hk1
set_option maxRecDepth 100000 in
theorem fh_226_97 {n : Nat} {M : zM} {Mo : zM} {W O : List Int} (h : yS Mo W O M) (hw : yW W) (hl : W.length + O.length ≤ 81) (hf : yF W) : zH n (0, 0) 226 (0, zini [zR 97] 1, []) M (fun r M' => r = some (.inl (if xrT (xrE 3 W O).1 = 1 then 0 else 1)) ∧ yO Mo M' ∧ (¬ xrT (xrE 3 W O).1 = 1 → yS Mo (xrE 1 (xrE 3 W O).1 (xrE 3 W O).2).1 (xrE 1 (xrE 3 W O).1 (xrE 3 W O).2).2 M') ∧ M' 97 12 = M 97 12 ∧ M' 97 13 = M 97 13) := by
  have hz := zp_226
  show zH n (0, 0) 226 (0, [zR 97], []) M _
  have l3 := xrE_len 3 W O
  have l4 := yE_len (xrE 3 W O).1 (xrE 3 W O).2
  have q3 := yVal (xrE 3 W O).1 (xrE 3 W O).2 (xrE_F 3 W O hf) (xrE_top 3 W O)
  have hF3 := yE_F (xrE 3 W O).1 (xrE 3 W O).2 (xrE_F 3 W O hf)
  refine zH_wC (c1 := (4, [zR 97], [])) 1 hz zp_225 (fh_225_97 h hw hl hf) (by rfl) ?_
  rintro _ M1 ⟨rfl, hS1, hk1⟩
  show zH n (0, 0) 226 (4, [zR 97], [.inl (if xrT (xrE 3 W O).1 = 1 then 0 else 1)]) M1 _
  obtain ⟨y, hy⟩ : ∃ x : Int, x = (if xrT (xrE 3 W O).1 = 1 then 0 else 1) := ⟨_, rfl⟩
  rw [← hy]
  refine zH_if_ne hz rfl (fun hb4 => ?_) (fun hb4 => ?_)
  · skip
    have c1 : ¬ xrT (xrE 3 W O).1 = 1 := fun q => hb4 (by rw [hy, if_pos q])
    obtain ⟨W4, O4, e4⟩ : ∃ W4 O4, (yE (xrE 3 W O).1 (xrE 3 W O).2) = (W4, O4) := ⟨(yE (xrE 3 W O).1 (xrE 3 W O).2).1, (yE (xrE 3 W O).1 (xrE 3 W O).2).2, rfl⟩
    have q4 := q3.1 c1
    rw [e4] at hS1 l4 hF3 q4
    dsimp only at hS1 l4 hF3 q4
    have gt := hS1.top (by omega)
    have g5 := yT_1 hF3.w
    refine zH_w (c' := (10, [zR 97], [zR 97])) 1 hz rfl ?_
    refine zH_wE (c1 := (13, [zR 97], [])) 0 hz zp_222 (fh_222_97) (by rfl) ?_
    show zH n (0, 0) 226 (13, [zR 97], [.inl (hf_222_97 M1)]) M1 _
    rw [gt]
    refine zH_w (c' := (15, [zR 97], [.inl 15, .inl (yT W4)])) 1 hz rfl ?_
    refine zH_wi_ne (pc := 15) (n' := 18) (t := 35) (L := [zR 97]) (st := []) (x := (yT W4)) (y := 15) 0 hz (by rfl) (fun hb15 => ?_) (fun hb15 => ?_)
    · skip
      have q5 : (W4, O4) = xrE 1 (xrE 3 W O).1 (xrE 3 W O).2 := by
        rw [← q4]
        cases W4 with
        | nil => rfl
        | cons k2 W2 => exact (if_neg (fun q => hb15 (g5.2.2.1.mpr q))).symm
      refine zH_w (c' := (36, [zR 97], [.inl 1])) 1 hz rfl ?_
      refine zH_zret hz rfl ?_
      rw [← q5, hy, if_neg c1]
      first
        | exact ⟨rfl, he.1.1, fun _ => he.1, he.2.1.trans ((congrFun (congrFun hM6 97) 12).trans ((qput_nk (by decide)).trans hk1.1)), he.2.2.trans ((congrFun (congrFun hM6 97) 13).trans ((qput_nk (by decide)).trans hk1.2))⟩
        | exact ⟨rfl, hS1.1, fun _ => hS1, hk1⟩
    · skip
      have gk1 : xrT W4 = 0 := g5.2.2.1.mp (by omega)
      obtain ⟨k2, W2, rfl⟩ : ∃ k2 W2, W4 = k2 :: W2 := by cases W4 with | nil => exact absurd gk1 (by decide) | cons k2 W2 => exact ⟨k2, W2, rfl⟩
      have gk2 : k2 = 0 := gk1
      have gl : W2.length ≤ 89 := by have := l4.1; rw [List.length_cons] at this; omega
      have q5 : (W2, -1 :: O4) = xrE 1 (xrE 3 W O).1 (xrE 3 W O).2 := (show yU (k2 :: W2) O4 = (W2, -1 :: O4) from if_pos gk2).symm.trans q4
      refine zH_w (c' := (28, [zR 97], [])) 6 hz rfl ?_
      obtain ⟨M6, hM6⟩ : ∃ X : zM, X = zput M1 97 10 (w32 ((M1 97 10) - 1)) := ⟨_, rfl⟩
      rw [← hM6]
      have hd : yS Mo W2 O4 M6 := by rw [hM6]; exact hS1.drop gl
      refine zH_w (c' := (32, [zR 97], [.inl 0, .inl 15, zR 97])) 3 hz rfl ?_
      refine zH_wE (c1 := (35, [zR 97], [])) 0 hz zp_220 (fh_220_97 15 0) (by rfl) ?_
      show zH n (0, 0) 226 (35, [zR 97], []) (hf_220_97 M6 15 0) _
      have he := hd.emit (v := -1) (x := 15) (y := 0) (by have := l4.2; rw [List.length_cons] at this; omega) (by decide) (by decide)
      refine zH_w (c' := (36, [zR 97], [.inl 1])) 1 hz rfl ?_
      refine zH_zret hz rfl ?_
      rw [← q5, hy, if_neg c1]
      first
        | exact ⟨rfl, he.1.1, fun _ => he.1, he.2.1.trans ((congrFun (congrFun hM6 97) 12).trans ((qput_nk (by decide)).trans hk1.1)), he.2.2.trans ((congrFun (congrFun hM6 97) 13).trans ((qput_nk (by decide)).trans hk1.2))⟩
        | exact ⟨rfl, hS1.1, fun _ => hS1, hk1⟩
  · skip
    have c1 : xrT (xrE 3 W O).1 = 1 := by by_cases q : xrT (xrE 3 W O).1 = 1; exact q; (rw [if_neg q] at hy; omega)
    refine zH_w (c' := (8, [zR 97], [.inl 0])) 1 hz rfl ?_
    exact zH_zret hz rfl (⟨by rw [hy, if_pos c1], hS1.1, fun q => absurd c1 q, hk1⟩)
/-- what stands between two, behind what was told and waits -/
noncomputable def yG (kd : Int) (W O : List Int) : Option (List Int × List Int) :=
  if kd = 1 then (if xrT (xrE 3 W O).1 = 1 then none else some (1 :: (xrE 3 W O).1, (xrE 3 W O).2))
  else if kd = 2 then (if xrT (xrE 3 W O).1 = 1 then some (2 :: (xrE 3 W O).1.tail, (xrE 3 W O).2) else none)
  else if kd = 0 then (if xrT (xrE 3 W O).1 = 1 then none else some (0 :: (xrE 1 (xrE 3 W O).1 (xrE 3 W O).2).1, (xrE 1 (xrE 3 W O).1 (xrE 3 W O).2).2))
  else if kd = 15 ∨ kd = 16 ∨ kd = 17 then (if xrK (xrT (xrE 6 W O).1) = 5 then none else some (kd :: (xrE 6 W O).1, (xrE 6 W O).2))
  else some (kd :: (xrE (xrK kd) W O).1, (xrE (xrK kd) W O).2)
noncomputable def yGk (kd : Int) : Prop := (0 ≤ kd ∧ kd ≤ 4) ∨ (15 ≤ kd ∧ kd ≤ 21)
theorem y_gall {kd : Int} (h : yGk kd) : kd = 0 ∨ kd = 1 ∨ kd = 2 ∨ kd = 3 ∨ kd = 4 ∨ kd = 15 ∨ kd = 16 ∨ kd = 17 ∨ kd = 18 ∨ kd = 19 ∨ kd = 20 ∨ kd = 21 := by unfold yGk at h; omega
theorem yG_1 {W O : List Int} : yG 1 W O = if xrT (xrE 3 W O).1 = 1 then none else some (1 :: (xrE 3 W O).1, (xrE 3 W O).2) := if_pos rfl
theorem yG_2 {W O : List Int} : yG 2 W O = if xrT (xrE 3 W O).1 = 1 then some (2 :: (xrE 3 W O).1.tail, (xrE 3 W O).2) else none := (if_neg (by decide)).trans (if_pos rfl)
theorem yG_0 {W O : List Int} : yG 0 W O = if xrT (xrE 3 W O).1 = 1 then none else some (0 :: (xrE 1 (xrE 3 W O).1 (xrE 3 W O).2).1, (xrE 1 (xrE 3 W O).1 (xrE 3 W O).2).2) := (if_neg (by decide)).trans ((if_neg (by decide)).trans (if_pos rfl))
theorem yG_c {kd : Int} {W O : List Int} (h : kd = 15 ∨ kd = 16 ∨ kd = 17) : yG kd W O = if xrK (xrT (xrE 6 W O).1) = 5 then none else some (kd :: (xrE 6 W O).1, (xrE 6 W O).2) := (if_neg (by omega)).trans ((if_neg (by omega)).trans ((if_neg (by omega)).trans (if_pos h)))
theorem yG_o {kd : Int} {W O : List Int} (h : kd = 3 ∨ kd = 4 ∨ kd = 18 ∨ kd = 19 ∨ kd = 20 ∨ kd = 21) : yG kd W O = some (kd :: (xrE (xrK kd) W O).1, (xrE (xrK kd) W O).2) := (if_neg (by omega)).trans ((if_neg (by omega)).trans ((if_neg (by omega)).trans (if_neg (by omega))))
theorem y_rk {kd : Int} (h : kd = 3 ∨ kd = 4 ∨ kd = 15 ∨ kd = 16 ∨ kd = 17 ∨ kd = 18 ∨ kd = 19 ∨ kd = 20 ∨ kd = 21) : (3 ≤ xrK kd ∧ xrK kd ≤ 7) ∧ (xrK kd = 5 ↔ kd = 15 ∨ kd = 16 ∨ kd = 17) := by rcases h with rfl | rfl | rfl | rfl | rfl | rfl | rfl | rfl | rfl <;> decide
theorem xrE_id {r : Int} : ∀ {W O : List Int}, (W = [] ∨ xrK (xrT W) < r) → xrE r W O = (W, O)
  | [], _, _ => rfl
  | k :: W, O, h => if_neg (by rcases h with h | h; cases h; (have h : xrK k < r := h; omega))
theorem yS.cg {Mo M : zM} {W O W2 O2 : List Int} (h : yS Mo W O M) (e : (W, O) = (W2, O2)) : yS Mo W2 O2 M := by cases e; exact h
set_option maxRecDepth 100000 in
theorem fh_228_97 {n : Nat} {M : zM} {Mo : zM} {W O : List Int} (h : yS Mo W O M) (hw : yW W) (hl : W.length + O.length ≤ 81) (hf : yF W) (kd : Int) (gk : yGk kd) (a1 : Int) (ha : a1 = yw kd) : zH n (0, 0) 228 (0, zini [zR 97, .inl a1] 3, []) M (fun r M' => r = some (.inl (if (yG kd W O).isSome = true then 1 else 0)) ∧ yO Mo M' ∧ (∀ W2 O2 : List Int, yG kd W O = some (W2, O2) → yS Mo W2 O2 M') ∧ M' 97 12 = M 97 12 ∧ M' 97 13 = M 97 13) := by
  have hz := zp_228
  show zH n (0, 0) 228 (0, [zR 97, .inl a1, zN], []) M _
  have l3 := xrE_len 3 W O
  have l6 := xrE_len 6 W O
  have lk := xrE_len (xrK kd) W O
  have w3 := (xrE_F 3 W O hf).w
  have w6 := (xrE_F 6 W O hf).w
  have gw : yWk kd := by unfold yGk at gk; unfold yWk; omega
  have qi := y_is gw
  have g5 := yT_1 w3
  refine zH_wi_ne (pc := 3) (n' := 6) (t := 30) (L := [zR 97, .inl a1, zN]) (st := []) (x := a1) (y := 16) 2 hz (by rfl) (fun hb3 => ?_) (fun hb3 => ?_)
  · skip
    have k1 : ¬ kd = 1 := fun q => hb3 (by rw [ha]; exact qi.1.mpr q)
    refine zH_wi_ne (pc := 33) (n' := 36) (t := 67) (L := [zR 97, .inl a1, zN]) (st := []) (x := a1) (y := 17) 2 hz (by rfl) (fun hb33 => ?_) (fun hb33 => ?_)
    · skip
      have k2 : ¬ kd = 2 := fun q => hb33 (by rw [ha]; exact qi.2.1.mpr q)
      refine zH_wi_ne (pc := 70) (n' := 73) (t := 90) (L := [zR 97, .inl a1, zN]) (st := []) (x := a1) (y := 15) 2 hz (by rfl) (fun hb70 => ?_) (fun hb70 => ?_)
      · skip
        have k0 : ¬ kd = 0 := fun q => hb70 (by rw [ha]; exact qi.2.2.1.mpr q)
        have ko : kd = 3 ∨ kd = 4 ∨ kd = 15 ∨ kd = 16 ∨ kd = 17 ∨ kd = 18 ∨ kd = 19 ∨ kd = 20 ∨ kd = 21 := by rcases y_gall gk with q | q | q | q | q | q | q | q | q | q | q | q <;> omega
        have rk := y_rk ko
        refine zH_wE (c1 := (94, [zR 97, .inl a1, zN], [])) 1 hz zp_221 (fh_221 a1) (by rfl) ?_
        show zH n (0, 0) 228 (94, [zR 97, .inl a1, zN], [.inl (hf_221 M a1)]) M _
        rw [show hf_221 M a1 = xrK kd from by rw [ha, y_hold gw, if_neg (by omega)]]
        refine zH_w (c' := (97, [zR 97, .inl a1, .inl (xrK kd)], [.inl 5, .inl (xrK kd)])) 3 hz rfl ?_
        refine zH_wi_ne (pc := 97) (n' := 100) (t := 119) (L := [zR 97, .inl a1, .inl (xrK kd)]) (st := []) (x := (xrK kd)) (y := 5) 0 hz (by rfl) (fun hb97 => ?_) (fun hb97 => ?_)
        · skip
          have kn : ¬ (kd = 15 ∨ kd = 16 ∨ kd = 17) := fun q => hb97 (rk.2.mpr q)
          refine zH_wC (c1 := (124, [zR 97, .inl a1, .inl (xrK kd)], [])) 2 hz zp_224 (fh_224_97 h hw hl (xrK kd) (by omega)) (by rfl) ?_
          rintro _ M2 ⟨rfl, hS2, hk2⟩
          show zH n (0, 0) 228 (124, [zR 97, .inl a1, .inl (xrK kd)], []) M2 _
          refine zH_wE (c1 := (129, [zR 97, .inl a1, .inl (xrK kd)], [])) 2 hz zp_223 (fh_223_97 a1) (by rfl) ?_
          show zH n (0, 0) 228 (129, [zR 97, .inl a1, .inl (xrK kd)], []) (hf_223_97 M2 a1) _
          have hp := hS2.push (k := kd) (x := a1) (by omega) ha
          refine zH_w (c' := (130, [zR 97, .inl a1, .inl (xrK kd)], [.inl 1])) 1 hz rfl ?_
          refine zH_zret hz rfl ?_
          first
            | (rw [yG_o (by omega)]; exact ⟨rfl, hp.1.1, fun W2 O2 q => hp.1.cg (Option.some.inj q), hp.2.1.trans hk2.1, hp.2.2.trans hk2.2⟩)
            | (rw [yG_c kc, if_neg c]; exact ⟨rfl, hp.1.1, fun W2 O2 q => hp.1.cg (Option.some.inj q), hp.2.1.trans (hk2.1.trans hk1.1), hp.2.2.trans (hk2.2.trans hk1.2)⟩)
        · skip
          have kc : kd = 15 ∨ kd = 16 ∨ kd = 17 := rk.2.mp (by omega)
          refine zH_wC (c1 := (106, [zR 97, .inl a1, .inl (xrK kd)], [])) 2 hz zp_224 (fh_224_97 h hw hl 6 (by decide)) (by rfl) ?_
          rintro _ M1 ⟨rfl, hS1, hk1⟩
          show zH n (0, 0) 228 (106, [zR 97, .inl a1, .inl (xrK kd)], []) M1 _
          refine zH_wE (c1 := (110, [zR 97, .inl a1, .inl (xrK kd)], [])) 1 hz zp_222 (fh_222_97) (by rfl) ?_
          show zH n (0, 0) 228 (110, [zR 97, .inl a1, .inl (xrK kd)], [.inl (hf_222_97 M1)]) M1 _
          rw [hS1.top (by omega)]
          refine zH_wE (c1 := (113, [zR 97, .inl a1, .inl (xrK kd)], [])) 0 hz zp_221 (fh_221 (yT (xrE 6 W O).1)) (by rfl) ?_
          show zH n (0, 0) 228 (113, [zR 97, .inl a1, .inl (xrK kd)], [.inl (hf_221 M1 (yT (xrE 6 W O).1))]) M1 _
          obtain ⟨y, hy⟩ : ∃ x : Int, x = (hf_221 M1 (yT (xrE 6 W O).1)) := ⟨_, rfl⟩
          rw [← hy]
          refine zH_w (c' := (114, [zR 97, .inl a1, .inl (xrK kd)], [.inl 5, .inl y])) 1 hz rfl ?_
          refine zH_wi_ne (pc := 114) (n' := 117) (t := 119) (L := [zR 97, .inl a1, .inl (xrK kd)]) (st := []) (x := y) (y := 5) 0 hz (by rfl) (fun hb114 => ?_) (fun hb114 => ?_)
          · skip
            have c : ¬ xrK (xrT (xrE 6 W O).1) = 5 := fun q => hb114 (by rw [hy]; exact (y_hold5 (M := M1) w6).mpr q)
            have e6 : xrE (xrK kd) (xrE 6 W O).1 (xrE 6 W O).2 = ((xrE 6 W O).1, (xrE 6 W O).2) := xrE_id (by rcases xrE_top 6 W O with q | q; exact .inl q; (have := rk.2.mpr kc; exact .inr (by omega)))
            refine zH_wC (c1 := (124, [zR 97, .inl a1, .inl (xrK kd)], [])) 2 hz zp_224 (fh_224_97 hS1 w6 (by omega) (xrK kd) (by omega)) (by rfl) ?_
            rintro _ M2 ⟨rfl, hS2, hk2⟩
            show zH n (0, 0) 228 (124, [zR 97, .inl a1, .inl (xrK kd)], []) M2 _
            rw [e6] at hS2
            dsimp only at hS2
            refine zH_w (c' := (126, [zR 97, .inl a1, .inl (xrK kd)], [.inl a1, zR 97])) 2 hz rfl ?_
            refine zH_wE (c1 := (129, [zR 97, .inl a1, .inl (xrK kd)], [])) 0 hz zp_223 (fh_223_97 a1) (by rfl) ?_
            show zH n (0, 0) 228 (129, [zR 97, .inl a1, .inl (xrK kd)], []) (hf_223_97 M2 a1) _
            have hp := hS2.push (k := kd) (x := a1) (by omega) ha
            refine zH_w (c' := (130, [zR 97, .inl a1, .inl (xrK kd)], [.inl 1])) 1 hz rfl ?_
            refine zH_zret hz rfl ?_
            first
              | (rw [yG_o (by omega)]; exact ⟨rfl, hp.1.1, fun W2 O2 q => hp.1.cg (Option.some.inj q), hp.2.1.trans hk2.1, hp.2.2.trans hk2.2⟩)
              | (rw [yG_c kc, if_neg c]; exact ⟨rfl, hp.1.1, fun W2 O2 q => hp.1.cg (Option.some.inj q), hp.2.1.trans (hk2.1.trans hk1.1), hp.2.2.trans (hk2.2.trans hk1.2)⟩)
          · skip
            have c : xrK (xrT (xrE 6 W O).1) = 5 := (y_hold5 (M := M1) w6).mp (by omega)
            refine zH_w (c' := (118, [zR 97, .inl a1, .inl (xrK kd)], [.inl 0])) 1 hz rfl ?_
            refine zH_zret hz rfl ?_
            rw [yG_c kc, if_pos c]
            exact ⟨rfl, hS1.1, fun _ _ q => (by cases q), hk1⟩
      · skip
        obtain rfl : kd = 0 := qi.2.2.1.mp (by omega)
        refine zH_w (c' := (74, [zR 97, .inl a1, zN], [zR 97])) 1 hz rfl ?_
        refine zH_wC (c1 := (77, [zR 97, .inl a1, zN], [])) 0 hz zp_226 (fh_226_97 h hw hl hf) (by rfl) ?_
        rintro _ M1 ⟨rfl, hO1, hV, hk1⟩
        show zH n (0, 0) 228 (77, [zR 97, .inl a1, zN], [.inl (if xrT (xrE 3 W O).1 = 1 then 0 else 1)]) M1 _
        obtain ⟨y, hy⟩ : ∃ x : Int, x = (if xrT (xrE 3 W O).1 = 1 then 0 else 1) := ⟨_, rfl⟩
        rw [← hy]
        refine zH_if_ne hz rfl (fun hb77 => ?_) (fun hb77 => ?_)
        · skip
          have c : ¬ xrT (xrE 3 W O).1 = 1 := fun q => hb77 (by rw [hy, if_pos q])
          have l1 := xrE_len 1 (xrE 3 W O).1 (xrE 3 W O).2
          refine zH_w (c' := (85, [zR 97, .inl a1, zN], [.inl 15, zR 97])) 2 hz rfl ?_
          refine zH_wE (c1 := (88, [zR 97, .inl a1, zN], [])) 0 hz zp_223 (fh_223_97 15) (by rfl) ?_
          show zH n (0, 0) 228 (88, [zR 97, .inl a1, zN], []) (hf_223_97 M1 15) _
          have hp := (hV c).push (k := 0) (x := 15) (by omega) (by decide)
          refine zH_w (c' := (89, [zR 97, .inl a1, zN], [.inl 1])) 1 hz rfl ?_
          refine zH_zret hz rfl ?_
          rw [yG_0, if_neg c]
          exact ⟨rfl, hp.1.1, fun W2 O2 q => hp.1.cg (Option.some.inj q), hp.2.1.trans hk1.1, hp.2.2.trans hk1.2⟩
        · skip
          have c : xrT (xrE 3 W O).1 = 1 := by by_cases q : xrT (xrE 3 W O).1 = 1; exact q; (rw [if_neg q] at hy; omega)
          refine zH_w (c' := (81, [zR 97, .inl a1, zN], [.inl 0])) 1 hz rfl ?_
          refine zH_zret hz rfl ?_
          rw [yG_0, if_pos c]
          exact ⟨rfl, hO1, fun _ _ q => (by cases q), hk1⟩
    · skip
      obtain rfl : kd = 2 := qi.2.1.mp (by omega)
      refine zH_w (c' := (38, [zR 97, .inl a1, zN], [.inl 3, zR 97])) 2 hz rfl ?_
      refine zH_wC (c1 := (41, [zR 97, .inl a1, zN], [])) 0 hz zp_224 (fh_224_97 h hw hl 3 (by decide)) (by rfl) ?_
      rintro _ M1 ⟨rfl, hS1, hk1⟩
      show zH n (0, 0) 228 (41, [zR 97, .inl a1, zN], []) M1 _
      refine zH_wE (c1 := (45, [zR 97, .inl a1, zN], [])) 1 hz zp_222 (fh_222_97) (by rfl) ?_
      show zH n (0, 0) 228 (45, [zR 97, .inl a1, zN], [.inl (hf_222_97 M1)]) M1 _
      rw [hS1.top (by omega)]
      refine zH_w (c' := (47, [zR 97, .inl a1, zN], [.inl 16, .inl (yT (xrE 3 W O).1)])) 1 hz rfl ?_
      refine zH_wi_eq (pc := 47) (n' := 50) (t := 52) (L := [zR 97, .inl a1, zN]) (st := []) (x := (yT (xrE 3 W O).1)) (y := 16) 0 hz (by rfl) (fun hb47 => ?_) (fun hb47 => ?_)
      · skip
        have c : xrT (xrE 3 W O).1 = 1 := g5.1.mp (by omega)
        obtain ⟨k9, W9, e9⟩ : ∃ k9 W9, (xrE 3 W O).1 = k9 :: W9 := by cases q : (xrE 3 W O).1 with | nil => rw [q] at c; exact absurd c (by decide) | cons k9 W9 => exact ⟨k9, W9, rfl⟩
        rw [e9] at hS1 l3
        rw [List.length_cons] at l3
        refine zH_w (c' := (64, [zR 97, .inl a1, zN], [.inl 17, .inl (w32 ((M1 97 10) - 1)), zR 107])) 7 hz rfl ?_
        refine zH_iast hz rfl rfl (fun hin64 => ?_)
        show zH n (0, 0) 228 (65, [zR 97, .inl a1, zN], []) (zput M1 107 (w32 ((M1 97 10) - 1) : Int).toNat 17) _
        obtain ⟨M7, hM7⟩ : ∃ X : zM, X = zput M1 107 (w32 ((M1 97 10) - 1) : Int).toNat 17 := ⟨_, rfl⟩
        rw [← hM7]
        have hp : yS Mo (2 :: W9) (xrE 3 W O).2 M7 := by rw [hM7]; exact hS1.top2 (by omega) (by decide)
        have hk7 : ∀ f, M7 97 f = M1 97 f := fun f => by rw [hM7]; exact congrFun (zput_oth (by decide)) f
        refine zH_w (c' := (66, [zR 97, .inl a1, zN], [.inl 1])) 1 hz rfl ?_
        refine zH_zret hz rfl ?_
        rw [yG_2, if_pos c, e9]
        exact ⟨rfl, hp.1, fun W2 O2 q => hp.cg (Option.some.inj q), (hk7 12).trans hk1.1, (hk7 13).trans hk1.2⟩
      · skip
        have c : ¬ xrT (xrE 3 W O).1 = 1 := fun q => hb47 (g5.1.mpr q)
        refine zH_w (c' := (51, [zR 97, .inl a1, zN], [.inl 0])) 1 hz rfl ?_
        refine zH_zret hz rfl ?_
        rw [yG_2, if_neg c]
        exact ⟨rfl, hS1.1, fun _ _ q => (by cases q), hk1⟩
  · skip
    obtain rfl : kd = 1 := qi.1.mp (by omega)
    refine zH_w (c' := (8, [zR 97, .inl a1, zN], [.inl 3, zR 97])) 2 hz rfl ?_
    refine zH_wC (c1 := (11, [zR 97, .inl a1, zN], [])) 0 hz zp_224 (fh_224_97 h hw hl 3 (by decide)) (by rfl) ?_
    rintro _ M1 ⟨rfl, hS1, hk1⟩
    show zH n (0, 0) 228 (11, [zR 97, .inl a1, zN], []) M1 _
    refine zH_wE (c1 := (15, [zR 97, .inl a1, zN], [])) 1 hz zp_222 (fh_222_97) (by rfl) ?_
    show zH n (0, 0) 228 (15, [zR 97, .inl a1, zN], [.inl (hf_222_97 M1)]) M1 _
    rw [hS1.top (by omega)]
    refine zH_w (c' := (17, [zR 97, .inl a1, zN], [.inl 16, .inl (yT (xrE 3 W O).1)])) 1 hz rfl ?_
    refine zH_wi_ne (pc := 17) (n' := 20) (t := 22) (L := [zR 97, .inl a1, zN]) (st := []) (x := (yT (xrE 3 W O).1)) (y := 16) 0 hz (by rfl) (fun hb17 => ?_) (fun hb17 => ?_)
    · skip
      have c : ¬ xrT (xrE 3 W O).1 = 1 := fun q => hb17 (g5.1.mpr q)
      refine zH_wE (c1 := (28, [zR 97, .inl a1, zN], [])) 2 hz zp_223 (fh_223_97 16) (by rfl) ?_
      show zH n (0, 0) 228 (28, [zR 97, .inl a1, zN], []) (hf_223_97 M1 16) _
      have hp := hS1.push (k := 1) (x := 16) (by omega) (by decide)
      refine zH_w (c' := (29, [zR 97, .inl a1, zN], [.inl 1])) 1 hz rfl ?_
      refine zH_zret hz rfl ?_
      rw [yG_1, if_neg c]
      exact ⟨rfl, hp.1.1, fun W2 O2 q => hp.1.cg (Option.some.inj q), hp.2.1.trans hk1.1, hp.2.2.trans hk1.2⟩
    · skip
      have c : xrT (xrE 3 W O).1 = 1 := g5.1.mp (by omega)
      refine zH_w (c' := (21, [zR 97, .inl a1, zN], [.inl 0])) 1 hz rfl ?_
      refine zH_zret hz rfl ?_
      rw [yG_1, if_pos c]
      exact ⟨rfl, hS1.1, fun _ _ q => (by cases q), hk1⟩
set_option maxRecDepth 100000 in
theorem fh_232_97 {n : Nat} {M : zM} {Mo : zM} {W O : List Int} (h : yS Mo W O M) (hw : yW W) (hl : W.length + O.length ≤ 81) (hf : yF W) : zH n (0, 0) 232 (0, zini [zR 97] 1, []) M (fun r M' => r = some (.inl (if (xrT (xrE 3 W O).1 = 1 ∨ ¬ xrT (xrE 1 (xrE 3 W O).1 (xrE 3 W O).2).1 = 22) then 1 else 0)) ∧ yO Mo M' ∧ (¬ (xrT (xrE 3 W O).1 = 1 ∨ ¬ xrT (xrE 1 (xrE 3 W O).1 (xrE 3 W O).2).1 = 22) → yS Mo (xrE 8 (xrE 1 (xrE 3 W O).1 (xrE 3 W O).2).1.tail (xrE 1 (xrE 3 W O).1 (xrE 3 W O).2).2).1 (xrE 8 (xrE 1 (xrE 3 W O).1 (xrE 3 W O).2).1.tail (xrE 1 (xrE 3 W O).1 (xrE 3 W O).2).2).2 M' ∧ M' 97 12 = w32 ((M 97 12) - 1)) ∧ M' 97 13 = M 97 13) := by
  have hz := zp_232
  show zH n (0, 0) 232 (0, [zR 97], []) M _
  have l3 := xrE_len 3 W O
  have l1 := xrE_len 1 (xrE 3 W O).1 (xrE 3 W O).2
  have f1 := xrE_F 1 (xrE 3 W O).1 (xrE 3 W O).2 (xrE_F 3 W O hf)
  have g5 := yT_1 f1.w
  refine zH_wC (c1 := (4, [zR 97], [])) 1 hz zp_226 (fh_226_97 h hw hl hf) (by rfl) ?_
  rintro _ M1 ⟨rfl, hO1, hV, hk1⟩
  show zH n (0, 0) 232 (4, [zR 97], [.inl (if xrT (xrE 3 W O).1 = 1 then 0 else 1)]) M1 _
  obtain ⟨y, hy⟩ : ∃ x : Int, x = (if xrT (xrE 3 W O).1 = 1 then 0 else 1) := ⟨_, rfl⟩
  rw [← hy]
  refine zH_if_eq hz rfl (fun hb4 => ?_) (fun hb4 => ?_)
  · skip
    have c : xrT (xrE 3 W O).1 = 1 := by by_cases q : xrT (xrE 3 W O).1 = 1; exact q; (rw [if_neg q] at hy; omega)
    have cc : (xrT (xrE 3 W O).1 = 1 ∨ ¬ xrT (xrE 1 (xrE 3 W O).1 (xrE 3 W O).2).1 = 22) := .inl c
    refine zH_w (c' := (17, [zR 97], [.inl 1])) 1 hz rfl ?_
    refine zH_ret hz rfl rfl ?_
    rw [if_pos cc]
    exact ⟨rfl, hO1, fun q => absurd cc q, hk1.2⟩
  · skip
    have c : ¬ xrT (xrE 3 W O).1 = 1 := fun q => hb4 (by rw [hy, if_pos q])
    have hS1 := hV c
    have gt := hS1.top (by omega)
    refine zH_w (c' := (8, [zR 97], [zR 97])) 1 hz rfl ?_
    refine zH_wE (c1 := (11, [zR 97], [])) 0 hz zp_222 (fh_222_97) (by rfl) ?_
    show zH n (0, 0) 232 (11, [zR 97], [.inl (hf_222_97 M1)]) M1 _
    rw [gt]
    refine zH_w (c' := (13, [zR 97], [.inl 18, .inl (yT (xrE 1 (xrE 3 W O).1 (xrE 3 W O).2).1)])) 1 hz rfl ?_
    refine zH_wi_eq (pc := 13) (n' := 16) (t := 18) (L := [zR 97]) (st := []) (x := (yT (xrE 1 (xrE 3 W O).1 (xrE 3 W O).2).1)) (y := 18) 0 hz (by rfl) (fun hb13 => ?_) (fun hb13 => ?_)
    · skip
      have c2 : xrT (xrE 1 (xrE 3 W O).1 (xrE 3 W O).2).1 = 22 := g5.2.2.2.mp (by omega)
      have cc : ¬ (xrT (xrE 3 W O).1 = 1 ∨ ¬ xrT (xrE 1 (xrE 3 W O).1 (xrE 3 W O).2).1 = 22) := fun q => q.elim c (fun p => p c2)
      obtain ⟨k9, W9, e9⟩ : ∃ k9 W9, (xrE 1 (xrE 3 W O).1 (xrE 3 W O).2).1 = k9 :: W9 := by cases q : (xrE 1 (xrE 3 W O).1 (xrE 3 W O).2).1 with | nil => rw [q] at c2; exact absurd c2 (by decide) | cons k9 W9 => exact ⟨k9, W9, rfl⟩
      rw [e9] at hS1 l1 f1
      rw [List.length_cons] at l1
      refine zH_w (c' := (28, [zR 97], [])) 6 hz rfl ?_
      obtain ⟨M6, hM6⟩ : ∃ X : zM, X = zput M1 97 10 (w32 ((M1 97 10) - 1)) := ⟨_, rfl⟩
      rw [← hM6]
      have hd : yS Mo W9 (xrE 1 (xrE 3 W O).1 (xrE 3 W O).2).2 M6 := by rw [hM6]; exact hS1.drop (by omega)
      have hk6 : ∀ f, f ≠ 10 → M6 97 f = M1 97 f := fun f q => by rw [hM6]; exact qput_nk q
      refine zH_w (c' := (38, [zR 97], [])) 6 hz rfl ?_
      obtain ⟨M7, hM7⟩ : ∃ X : zM, X = zput M6 97 12 (w32 ((M6 97 12) - 1)) := ⟨_, rfl⟩
      rw [← hM7]
      have hd7 : yS Mo W9 (xrE 1 (xrE 3 W O).1 (xrE 3 W O).2).2 M7 := by rw [hM7]; exact hd.f (by decide) (by decide)
      have z12 : M7 97 12 = w32 ((M 97 12) - 1) := by rw [hM7, qput_eq, hk6 12 (by decide), hk1.1]
      have z13 : M7 97 13 = M 97 13 := by rw [hM7, qput_nk (by decide), hk6 13 (by decide)]; exact hk1.2
      refine zH_w (c' := (41, [zR 97], [.inl 8, zR 97])) 2 hz rfl ?_
      refine zH_wC (c1 := (44, [zR 97], [])) 0 hz zp_224 (fh_224_97 hd7 f1.2.2.2.w (by omega) 8 (by decide)) (by rfl) ?_
      rintro _ M8 ⟨rfl, hS8, hk8⟩
      show zH n (0, 0) 232 (44, [zR 97], []) M8 _
      refine zH_w (c' := (45, [zR 97], [.inl 0])) 1 hz rfl ?_
      refine zH_ret hz rfl rfl ?_
      rw [if_neg cc]
      rw [e9]
      exact ⟨rfl, hS8.1, fun _ => ⟨hS8, hk8.1.trans z12⟩, hk8.2.trans z13⟩
    · skip
      have cc : (xrT (xrE 3 W O).1 = 1 ∨ ¬ xrT (xrE 1 (xrE 3 W O).1 (xrE 3 W O).2).1 = 22) := .inr (fun q => hb13 (g5.2.2.2.mpr q))
      refine zH_w (c' := (17, [zR 97], [.inl 1])) 1 hz rfl ?_
      refine zH_ret hz rfl rfl ?_
      rw [if_pos cc]
      exact ⟨rfl, hO1, fun q => absurd cc q, hk1.2⟩
section YB
variable {s e : Nat} {op kd : Int} {W O : List Int}
abbrev yBq (s e : Nat) (op kd : Int) (W O : List Int) : Prop := (yG kd (xrE 8 W O).1 (xrE 8 W O).2 = none → xBh s e kd op W O = (e, false, op, W, O, 10 * (s : Int) + 1, false)) ∧ ∀ W2 O2 : List Int, yG kd (xrE 8 W O).1 (xrE 8 W O).2 = some (W2, O2) → xBh s e kd op W O = (e, true, op, W2, O2, -1, false)
theorem yB_0 : yBq s e op 0 W O := by
  have e1 : xBh s e 0 op W O = (if xrT (xrE 3 W O).1 = 1 then (e, false, op, W, O, 10 * (s : Int) + 1, false) else (e, true, op, 0 :: (xrE 1 (xrE 3 W O).1 (xrE 3 W O).2).1, (xrE 1 (xrE 3 W O).1 (xrE 3 W O).2).2, -1, false)) := rfl
  unfold yBq
  rw [e1]
  rw [yG_0, xrE_E (show (3 : Int) ≤ 8 by decide)]
  split
  · first | exact ⟨fun _ => rfl, fun W2 O2 q => by cases q⟩ | exact ⟨fun q => (by cases q), fun W2 O2 q => by cases q; rfl⟩
  · first | exact ⟨fun _ => rfl, fun W2 O2 q => by cases q⟩ | exact ⟨fun q => (by cases q), fun W2 O2 q => by cases q; rfl⟩
theorem yB_1 : yBq s e op 1 W O := by
  have e1 : xBh s e 1 op W O = (if xrT (xrE 3 W O).1 = 1 then (e, false, op, W, O, 10 * (s : Int) + 1, false) else (e, true, op, 1 :: (xrE 3 W O).1, (xrE 3 W O).2, -1, false)) := rfl
  unfold yBq
  rw [e1]
  rw [yG_1, xrE_E (show (3 : Int) ≤ 8 by decide)]
  split
  · first | exact ⟨fun _ => rfl, fun W2 O2 q => by cases q⟩ | exact ⟨fun q => (by cases q), fun W2 O2 q => by cases q; rfl⟩
  · first | exact ⟨fun _ => rfl, fun W2 O2 q => by cases q⟩ | exact ⟨fun q => (by cases q), fun W2 O2 q => by cases q; rfl⟩
theorem yB_2 : yBq s e op 2 W O := by
  have e1 : xBh s e 2 op W O = (if xrT (xrE 3 W O).1 = 1 then (e, true, op, 2 :: (xrE 3 W O).1.tail, (xrE 3 W O).2, -1, false) else (e, false, op, W, O, 10 * (s : Int) + 1, false)) := rfl
  unfold yBq
  rw [e1]
  rw [yG_2, xrE_E (show (3 : Int) ≤ 8 by decide)]
  split
  · first | exact ⟨fun _ => rfl, fun W2 O2 q => by cases q⟩ | exact ⟨fun q => (by cases q), fun W2 O2 q => by cases q; rfl⟩
  · first | exact ⟨fun _ => rfl, fun W2 O2 q => by cases q⟩ | exact ⟨fun q => (by cases q), fun W2 O2 q => by cases q; rfl⟩
theorem yB_3 : yBq s e op 3 W O := by
  have e1 : xBh s e 3 op W O = (e, true, op, 3 :: (xrE (xrK 3) W O).1, (xrE (xrK 3) W O).2, -1, false) := rfl
  unfold yBq
  rw [e1]
  rw [yG_o (by decide), xrE_E (show xrK 3 ≤ 8 by decide)]
  exact ⟨fun q => (by cases q), fun W2 O2 q => by cases q; rfl⟩
theorem yB_4 : yBq s e op 4 W O := by
  have e1 : xBh s e 4 op W O = (e, true, op, 4 :: (xrE (xrK 4) W O).1, (xrE (xrK 4) W O).2, -1, false) := rfl
  unfold yBq
  rw [e1]
  rw [yG_o (by decide), xrE_E (show xrK 4 ≤ 8 by decide)]
  exact ⟨fun q => (by cases q), fun W2 O2 q => by cases q; rfl⟩
theorem yB_15 : yBq s e op 15 W O := by
  have e1 : xBh s e 15 op W O = (if xrK (xrT (xrE 6 W O).1) = 5 then (e, false, op, W, O, 10 * (s : Int) + 1, false) else (e, true, op, 15 :: (xrE 6 W O).1, (xrE 6 W O).2, -1, false)) := rfl
  unfold yBq
  rw [e1]
  rw [yG_c (by decide), xrE_E (show (6 : Int) ≤ 8 by decide)]
  split
  · first | exact ⟨fun _ => rfl, fun W2 O2 q => by cases q⟩ | exact ⟨fun q => (by cases q), fun W2 O2 q => by cases q; rfl⟩
  · first | exact ⟨fun _ => rfl, fun W2 O2 q => by cases q⟩ | exact ⟨fun q => (by cases q), fun W2 O2 q => by cases q; rfl⟩
theorem yB_16 : yBq s e op 16 W O := by
  have e1 : xBh s e 16 op W O = (if xrK (xrT (xrE 6 W O).1) = 5 then (e, false, op, W, O, 10 * (s : Int) + 1, false) else (e, true, op, 16 :: (xrE 6 W O).1, (xrE 6 W O).2, -1, false)) := rfl
  unfold yBq
  rw [e1]
  rw [yG_c (by decide), xrE_E (show (6 : Int) ≤ 8 by decide)]
  split
  · first | exact ⟨fun _ => rfl, fun W2 O2 q => by cases q⟩ | exact ⟨fun q => (by cases q), fun W2 O2 q => by cases q; rfl⟩
  · first | exact ⟨fun _ => rfl, fun W2 O2 q => by cases q⟩ | exact ⟨fun q => (by cases q), fun W2 O2 q => by cases q; rfl⟩
theorem yB_17 : yBq s e op 17 W O := by
  have e1 : xBh s e 17 op W O = (if xrK (xrT (xrE 6 W O).1) = 5 then (e, false, op, W, O, 10 * (s : Int) + 1, false) else (e, true, op, 17 :: (xrE 6 W O).1, (xrE 6 W O).2, -1, false)) := rfl
  unfold yBq
  rw [e1]
  rw [yG_c (by decide), xrE_E (show (6 : Int) ≤ 8 by decide)]
  split
  · first | exact ⟨fun _ => rfl, fun W2 O2 q => by cases q⟩ | exact ⟨fun q => (by cases q), fun W2 O2 q => by cases q; rfl⟩
  · first | exact ⟨fun _ => rfl, fun W2 O2 q => by cases q⟩ | exact ⟨fun q => (by cases q), fun W2 O2 q => by cases q; rfl⟩
theorem yB_18 : yBq s e op 18 W O := by
  have e1 : xBh s e 18 op W O = (e, true, op, 18 :: (xrE (xrK 18) W O).1, (xrE (xrK 18) W O).2, -1, false) := rfl
  unfold yBq
  rw [e1]
  rw [yG_o (by decide), xrE_E (show xrK 18 ≤ 8 by decide)]
  exact ⟨fun q => (by cases q), fun W2 O2 q => by cases q; rfl⟩
theorem yB_19 : yBq s e op 19 W O := by
  have e1 : xBh s e 19 op W O = (e, true, op, 19 :: (xrE (xrK 19) W O).1, (xrE (xrK 19) W O).2, -1, false) := rfl
  unfold yBq
  rw [e1]
  rw [yG_o (by decide), xrE_E (show xrK 19 ≤ 8 by decide)]
  exact ⟨fun q => (by cases q), fun W2 O2 q => by cases q; rfl⟩
theorem yB_20 : yBq s e op 20 W O := by
  have e1 : xBh s e 20 op W O = (e, true, op, 20 :: (xrE (xrK 20) W O).1, (xrE (xrK 20) W O).2, -1, false) := rfl
  unfold yBq
  rw [e1]
  rw [yG_o (by decide), xrE_E (show xrK 20 ≤ 8 by decide)]
  exact ⟨fun q => (by cases q), fun W2 O2 q => by cases q; rfl⟩
theorem yB_21 : yBq s e op 21 W O := by
  have e1 : xBh s e 21 op W O = (e, true, op, 21 :: (xrE (xrK 21) W O).1, (xrE (xrK 21) W O).2, -1, false) := rfl
  unfold yBq
  rw [e1]
  rw [yG_o (by decide), xrE_E (show xrK 21 ≤ 8 by decide)]
  exact ⟨fun q => (by cases q), fun W2 O2 q => by cases q; rfl⟩
theorem yB (h : yGk kd) : yBq s e op kd W O := by
  rcases y_gall h with rfl | rfl | rfl | rfl | rfl | rfl | rfl | rfl | rfl | rfl | rfl | rfl
  · exact yB_0
  · exact yB_1
  · exact yB_2
  · exact yB_3
  · exact yB_4
  · exact yB_15
  · exact yB_16
  · exact yB_17
  · exact yB_18
  · exact yB_19
  · exact yB_20
  · exact yB_21
/-- what is left keeps its order -/
theorem yW_lt : ∀ {W : List Int} {r : Int}, r ≤ 3 → yF W → (W = [] ∨ xrK (xrT W) < r) → xrT W = -1 ∨ xrT W = 0 ∨ xrT W = 1 ∨ xrT W = 2 ∨ xrT W = 22
  | [], _, _, _, _ => .inl rfl
  | k :: W, r, hr, h, h2 => by
    have h2 : xrK k < r := by rcases h2 with q | q; cases q; exact q
    show k = -1 ∨ k = 0 ∨ k = 1 ∨ k = 2 ∨ k = 22
    have h2 : xrK k < 3 := by omega
    rcases y_all h.1 with q | q | q | q | q | q | q | q | q | q | q | q | q | q | q | q <;> first | omega | (rw [q] at h2; exact absurd h2 (by decide))
theorem yVal1 : ∀ (W O : List Int), yF W → (W = [] ∨ xrK (xrT W) < 3) → ¬ xrT W = 1 → xrT (xrE 1 W O).1 = -1 ∨ xrT (xrE 1 W O).1 = 22
  | [], _, _, _, _ => .inl rfl
  | k :: W, O, h, hk, h1 => by
    have hk : xrK k < 3 := by rcases hk with q | q; cases q; exact q
    have h1 : ¬ k = 1 := h1
    have h4 : k = 0 ∨ k = 2 ∨ k = 22 := by
      rcases y_all h.1 with q | q | q | q | q | q | q | q | q | q | q | q | q | q | q | q <;> first | omega | (rw [q] at hk; exact absurd hk (by decide))
    rcases h4 with rfl | rfl | rfl
    · have h5 : xrT W = -1 ∨ xrT W = 22 := h.2.2.1 rfl
      rw [show xrE 1 (0 :: W) O = xrE 1 W (((-0 : Int) - 1) :: O) from if_pos (by decide)]
      have h6 : W = [] ∨ xrK (xrT W) < 1 := by
        rcases h5 with q | q
        · exact .inl ((xrT_nil (yF.w h.2.2.2)).mp q)
        · rw [q]; exact .inr (by decide)
      rw [xrE_id h6]
      exact h5
    · have h5 : xrT W = -1 ∨ xrT W = 2 ∨ xrT W = 0 ∨ xrT W = 22 := h.2.1 (.inr rfl)
      have h6 : W = [] ∨ xrK (xrT W) < 3 := by
        rcases h5 with q | q | q | q
        · exact .inl ((xrT_nil (yF.w h.2.2.2)).mp q)
        · rw [q]; exact .inr (by decide)
        · rw [q]; exact .inr (by decide)
        · rw [q]; exact .inr (by decide)
      exact yVal1 W _ h.2.2.2 h6 (by omega)
    · exact .inr rfl
theorem yT3 (W O : List Int) (h : yF W) (h1 : ¬ xrT (xrE 3 W O).1 = 1) : xrT (xrE 3 W O).1 = -1 ∨ xrT (xrE 3 W O).1 = 2 ∨ xrT (xrE 3 W O).1 = 0 ∨ xrT (xrE 3 W O).1 = 22 := by
  have q := yW_lt (r := 3) (by decide) (xrE_F 3 W O h) (xrE_top 3 W O)
  omega
theorem yG_F (hk : yGk kd) (h : yF W) {W2 O2 : List Int} (hg : yG kd W O = some (W2, O2)) : yF W2 ∧ W2.length + O2.length ≤ W.length + O.length + 1 := by
  have l3 := xrE_len 3 W O
  have l6 := xrE_len 6 W O
  have lk := xrE_len (xrK kd) W O
  have l1 := xrE_len 1 (xrE 3 W O).1 (xrE 3 W O).2
  by_cases k1 : kd = 1
  · subst k1
    rw [yG_1] at hg
    by_cases c : xrT (xrE 3 W O).1 = 1
    · rw [if_pos c] at hg; cases hg
    · rw [if_neg c] at hg
      cases hg
      exact ⟨⟨by unfold yWk; omega, fun _ => yT3 W O h c, fun q => absurd q (by decide), xrE_F 3 W O h⟩, by rw [List.length_cons]; omega⟩
  by_cases k2 : kd = 2
  · subst k2
    rw [yG_2] at hg
    by_cases c : xrT (xrE 3 W O).1 = 1
    · rw [if_pos c] at hg
      have f3 := xrE_F 3 W O h
      cases e3 : (xrE 3 W O).1 with
      | nil => rw [e3] at c; exact absurd c (by decide)
      | cons k9 W9 =>
        rw [e3] at hg f3 c l3
        cases hg
        have c : k9 = 1 := c
        rw [List.length_cons] at l3
        exact ⟨⟨by unfold yWk; omega, fun _ => f3.2.1 (.inl c), fun q => absurd q (by decide), f3.2.2.2⟩, by have l9 := l3.2; simp only [List.tail_cons, List.length_cons] at l9 ⊢; omega⟩
    · rw [if_neg c] at hg; cases hg
  by_cases k0 : kd = 0
  · subst k0
    rw [yG_0] at hg
    by_cases c : xrT (xrE 3 W O).1 = 1
    · rw [if_pos c] at hg; cases hg
    · rw [if_neg c] at hg
      cases hg
      have q := yVal1 (xrE 3 W O).1 (xrE 3 W O).2 (xrE_F 3 W O h) (xrE_top 3 W O) c
      exact ⟨⟨by unfold yWk; omega, fun p => absurd p (by decide), fun _ => q, xrE_F 1 _ _ (xrE_F 3 W O h)⟩, by rw [List.length_cons]; omega⟩
  have gw : yWk kd := by unfold yGk at hk; unfold yWk; omega
  by_cases kc : kd = 15 ∨ kd = 16 ∨ kd = 17
  · rw [yG_c kc] at hg
    by_cases c : xrK (xrT (xrE 6 W O).1) = 5
    · rw [if_pos c] at hg; cases hg
    · rw [if_neg c] at hg
      cases hg
      exact ⟨⟨gw, fun p => by omega, fun p => by omega, xrE_F 6 W O h⟩, by rw [List.length_cons]; omega⟩
  · rw [yG_o (by rcases y_gall hk with q | q | q | q | q | q | q | q | q | q | q | q <;> omega)] at hg
    cases hg
    exact ⟨⟨gw, fun p => by omega, fun p => by omega, xrE_F _ W O h⟩, by rw [List.length_cons]; omega⟩
end YB
noncomputable def yM (due : Bool) (W O : List Int) : List Int × List Int := if due = true then (W, O) else xrE 8 W O
noncomputable def yI (Mo : zM) (c : Nat → Int) (L : Nat) (x i : Int) (M : zM) : Prop := ∃ (t i0 j : Nat) (due : Bool) (op : Int) (W O : List Int), xIt c L t = (i0, due, op, W, O, -1, false) ∧ (i = (j : Int) ∧ t ≤ i0 ∧ i0 ≤ j ∧ j ≤ L) ∧ xrB c (L - i0) i0 = xrB c (L - j) j ∧ x = (if due = true then 0 else 1) ∧ (M 97 12 = op ∧ op ≤ 8 ∧ -(i0 : Int) ≤ op) ∧ yF W ∧ W.length + O.length ≤ i0 ∧ yS Mo (yM due W O).1 (yM due W O).2 M
section YI
variable {Mo M : zM} {c : Nat → Int} {L t e j : Nat} {due : Bool} {op : Int} {W O : List Int} {x i : Int}
theorem yI.mk (h1 : xIt c L t = (e, due, op, W, O, -1, false)) (h2 : t ≤ e) (h3 : e ≤ L) (h4 : M 97 12 = op) (h5 : op ≤ 8) (h6 : -(e : Int) ≤ op) (h7 : yF W) (h8 : W.length + O.length ≤ e) (h9 : yS Mo (yM due W O).1 (yM due W O).2 M) (hx : x = if due = true then 0 else 1) (hi : i = (e : Int)) : yI Mo c L x i M := ⟨t, e, e, due, op, W, O, h1, ⟨hi, h2, Nat.le_refl _, h3⟩, rfl, hx, ⟨h4, h5, h6⟩, h7, h8, h9⟩
/-- a step from a token at j -/
theorem yStep {i0 : Nat} (h1 : xIt c L t = (i0, due, op, W, O, -1, false)) (hj : xrB c (L - i0) i0 = j) : (¬ xWy c L j = 0 → xIt c L (t + 1) = (xEn c L j, due, op, W, O, 10 * (j : Int) + xWy c L j, false)) ∧ (xWy c L j = 0 → due = true → xIt c L (t + 1) = xUn j (xEn c L j) (xKd c L j) (xVl c L j) op W O) ∧ (xWy c L j = 0 → ¬ due = true → xIt c L (t + 1) = xBh j (xEn c L j) (xKd c L j) op W O) := by
  have q := xSp_of (c := c) (L := L) (S := (i0, due, op, W, O, -1, false)) (by intro q; rcases q with q | q; exact q rfl; cases q) (s := j) hj.symm
  rw [show xIt c L (t + 1) = xSp c L (i0, due, op, W, O, -1, false) from congrArg (xSp c L) h1]
  exact q
theorem yFt {S : xSt} (h : xIt c L (t + 1) = S) (hd : S.2.2.2.2.2.1 ≠ -1 ∨ S.2.2.2.2.2.2 = true) (ht : t ≤ 80) : xIt c L 81 = S := by
  have q := xIt_done c L (t + 1) (by rw [h]; exact hd) (80 - t)
  rw [show t + 1 + (80 - t) = 81 by omega] at q
  rw [q, h]
theorem yFt1 {S : xSt} (h : xIt c L (t + 1) = S) (hd : S.2.2.2.2.2.1 ≠ -1) (ht : t ≤ 80) : xFt c L = S.2.2.2.2.2.1 := by
  rw [xFt_81]
  rw [yFt h (.inl hd) ht]
theorem xrV_b (c : Nat → Int) (s : Nat) : ∀ n : Nat, (∀ m, m < n → 48 ≤ c (s + m) ∧ c (s + m) ≤ 57) → n ≤ 6 → 0 ≤ xrV c s n ∧ xrV c s n < ((10 ^ n : Nat) : Int)
  | 0, _, _ => ⟨Int.le_refl _, by show (0 : Int) < ((1 : Nat) : Int); decide⟩
  | n + 1, h, hn => by
    have q := xrV_b c s n (fun m hm => h m (by omega)) (by omega)
    have b := h n (by omega)
    have p : 10 ^ n ≤ 10 ^ 5 := Nat.pow_le_pow_right (n := 10) (by decide) (by omega)
    rw [show 10 ^ 5 = 100000 from rfl] at p
    rw [Nat.pow_succ]
    show 0 ≤ w32 (w32 (w32 (10 * xrV c s n) + c (s + n)) - 48) ∧ w32 (w32 (w32 (10 * xrV c s n) + c (s + n)) - 48) < _
    rw [w32_id (x := 10 * xrV c s n) (by omega), w32_id (x := 10 * xrV c s n + c (s + n)) (by omega), w32_id (by omega)]
    omega
theorem xrD_in (c : Nat → Int) : ∀ (k i m : Nat), i ≤ m → m < xrD c k i → 48 ≤ c m ∧ c m ≤ 57
  | 0, i, m, h1, h2 => by have h2 : m < i := h2; omega
  | k + 1, i, m, h1, h2 => by
    unfold xrD at h2
    by_cases q : 48 ≤ c i ∧ c i ≤ 57
    · rw [if_pos q] at h2
      by_cases e : m = i
      · rw [e]; exact q
      · exact xrD_in c k (i + 1) m (by omega) h2
    · rw [if_neg q] at h2; omega
theorem y_f {k : Int} (h : -1 ≤ k ∧ k ≤ 14) : (yf k = -1 ↔ k = -1) ∧ (yf k = 10 ↔ k = 4) ∧ (yf k = 11 ↔ k = 3) ∧ (yf k = 12 ↔ k = 1) ∧ (yf k = 13 ↔ k = 2) ∧ (yf k = 14 ↔ k = 0) ∧ (yf k = 8 ↔ k = 5) ∧ (yf k = 9 ↔ k = 6) ∧ (0 ≤ yf k ∧ yf k < 8 ↔ 7 ≤ k) ∧ (7 ≤ k → yf k = k - 7) ∧ (-1 ≤ yf k ∧ yf k ≤ 14) := by
  rcases (by omega : k = -1 ∨ k = 0 ∨ k = 1 ∨ k = 2 ∨ k = 3 ∨ k = 4 ∨ k = 5 ∨ k = 6 ∨ k = 7 ∨ k = 8 ∨ k = 9 ∨ k = 10 ∨ k = 11 ∨ k = 12 ∨ k = 13 ∨ k = 14) with rfl | rfl | rfl | rfl | rfl | rfl | rfl | rfl | rfl | rfl | rfl | rfl | rfl | rfl | rfl | rfl <;> decide
theorem xrG_all (c : Int) : (c = 60 ∧ xrG c = 15) ∨ (c = 62 ∧ xrG c = 16) ∨ (c = 61 ∧ xrG c = 17) ∨ (c = 43 ∧ xrG c = 18) ∨ (c = 45 ∧ xrG c = 19) ∨ (c = 42 ∧ xrG c = 20) ∨ (c = 47 ∧ xrG c = 21) ∨ (c = 40 ∧ xrG c = 22) ∨ (c = 41 ∧ xrG c = 23) ∨ ((¬ c = 60 ∧ ¬ c = 62 ∧ ¬ c = 61 ∧ ¬ c = 43 ∧ ¬ c = 45 ∧ ¬ c = 42 ∧ ¬ c = 47 ∧ ¬ c = 40 ∧ ¬ c = 41) ∧ xrG c = 14) := by
  by_cases h0 : c = 60
  · subst h0; decide
  by_cases h1 : c = 62
  · subst h1; decide
  by_cases h2 : c = 61
  · subst h2; decide
  by_cases h3 : c = 43
  · subst h3; decide
  by_cases h4 : c = 45
  · subst h4; decide
  by_cases h5 : c = 42
  · subst h5; decide
  by_cases h6 : c = 47
  · subst h6; decide
  by_cases h7 : c = 40
  · subst h7; decide
  by_cases h8 : c = 41
  · subst h8; decide
  refine .inr (.inr (.inr (.inr (.inr (.inr (.inr (.inr (.inr ⟨⟨h0, h1, h2, h3, h4, h5, h6, h7, h8⟩, ?_⟩))))))))
  unfold xrG
  rw [if_neg h0, if_neg h1, if_neg h2, if_neg h3, if_neg h4, if_neg h5, if_neg h6, if_neg h7, if_neg h8]
theorem xite_m {p : Prop} [Decidable p] {a b : Int} (ha : p → a = -1) (hb : ¬ p → b = -1) : (if p then a else b) = -1 := by
  by_cases h : p
  · rw [if_pos h]; exact ha h
  · rw [if_neg h]; exact hb h
theorem y227 {c : Int} : hf_227 M c = if 15 ≤ xrG c ∧ xrG c ≤ 21 then yw (xrG c) else -1 := by
  rcases xrG_all c with ⟨h, e⟩ | ⟨h, e⟩ | ⟨h, e⟩ | ⟨h, e⟩ | ⟨h, e⟩ | ⟨h, e⟩ | ⟨h, e⟩ | ⟨h, e⟩ | ⟨h, e⟩ | ⟨⟨h0, h1, h2, h3, h4, h5, h6, h7, h8⟩, e⟩
  · subst h; rfl
  · subst h; rfl
  · subst h; rfl
  · subst h; rfl
  · subst h; rfl
  · subst h; rfl
  · subst h; rfl
  · subst h; rfl
  · subst h; rfl
  · have e1 : hf_227 M c = -1 := xite_m (fun q => absurd q h5) (fun _ => xite_m (fun q => absurd q h3) (fun _ => xite_m (fun _ => rfl) (fun _ => xite_m (fun q => absurd q h4) (fun _ => xite_m (fun _ => rfl) (fun _ => xite_m (fun q => absurd q h6) (fun _ => xite_m (fun _ => rfl) (fun _ => xite_m (fun _ => rfl) (fun _ => xite_m (fun _ => rfl) (fun _ => xite_m (fun _ => rfl) (fun _ => xite_m (fun _ => rfl) (fun _ => xite_m (fun _ => rfl) (fun _ => xite_m (fun _ => rfl) (fun _ => xite_m (fun _ => rfl) (fun _ => xite_m (fun _ => rfl) (fun _ => xite_m (fun _ => rfl) (fun _ => xite_m (fun _ => rfl) (fun _ => xite_m (fun _ => rfl) (fun _ => xite_m (fun q => absurd q h0) (fun _ => xite_m (fun q => absurd q h2) (fun _ => xite_m (fun q => absurd q h1) (fun _ => rfl)))))))))))))))))))))
    rw [e1, e, if_neg (by decide)]
theorem xrG_is {c : Int} : (xrG c = 22 ↔ c = 40) ∧ (xrG c = 23 ↔ c = 41) ∧ (xrG c = 19 ↔ c = 45) ∧ (14 ≤ xrG c ∧ xrG c ≤ 23) := by
  rcases xrG_all c with ⟨h, e⟩ | ⟨h, e⟩ | ⟨h, e⟩ | ⟨h, e⟩ | ⟨h, e⟩ | ⟨h, e⟩ | ⟨h, e⟩ | ⟨h, e⟩ | ⟨h, e⟩ | ⟨⟨h0, h1, h2, h3, h4, h5, h6, h7, h8⟩, e⟩ <;> omega
end YI
section YU
variable {Mo M : zM} {c : Nat → Int} {L t i0 j s e : Nat} {due : Bool} {op kd v : Int} {W O : List Int}
theorem yF.tail : ∀ {W : List Int}, yF W → yF W.tail
  | [], h => h
  | _ :: _, h => h.2.2.2
theorem yM_len (due : Bool) (W O : List Int) : (yM due W O).1.length + (yM due W O).2.length = W.length + O.length := by
  unfold yM
  split
  · rfl
  · exact (xrE_len 8 W O).2
theorem yUn_no (h : (0 ≤ kd ∧ kd ≤ 4) ∨ (15 ≤ kd ∧ kd ≤ 18) ∨ kd = 20 ∨ kd = 21 ∨ kd = 23 ∨ kd = 25) : xUn s e kd v op W O = (e, true, op, W, O, 10 * (s : Int) + 1, false) := by
  unfold xUn
  rw [if_neg (by omega), if_neg (by omega), if_neg (by omega), if_neg (by omega), if_neg (by omega)]
theorem yUn_name (h : 7 ≤ kd ∧ kd ≤ 14) : xUn s e kd v op W O = (e, false, op, W, (-kd - 1) :: O, -1, false) := by
  unfold xUn
  rw [if_neg (by omega), if_pos h]
theorem yUn_pre (h : kd = 5 ∨ kd = 6) : xUn s e kd v op W O = (e, true, op, kd :: W, O, -1, false) := by
  unfold xUn
  rw [if_neg (by omega), if_neg (by omega), if_pos h]
theorem yBh_no (h : (5 ≤ kd ∧ kd ≤ 14) ∨ kd = 22 ∨ kd = 24) : xBh s e kd op W O = (e, false, op, W, O, 10 * (s : Int) + 1, false) := by
  unfold xBh
  rw [if_neg (by omega), if_neg (by omega), if_neg (by omega), if_neg (by omega), if_neg (by omega), if_neg (by omega), if_neg (by omega)]
/-- a sign at j -/
theorem yTk (hj : j < L) (h1 : ¬ (48 ≤ c j ∧ c j ≤ 57)) (h2 : ¬ (97 ≤ c j ∧ c j ≤ 122)) : xEn c L j = j + 1 ∧ xKd c L j = xrG (c j) ∧ xWy c L j = if xrG (c j) = 14 then 1 else 0 :=
  ⟨(if_neg (by omega)).trans ((if_neg h1).trans (if_neg h2)), (if_neg (by omega)).trans ((if_neg h1).trans (if_neg h2)), (if_neg (by omega)).trans ((if_neg h1).trans (if_neg h2))⟩
/-- a number at j -/
theorem yTd (hj : j < L) (h1 : 48 ≤ c j ∧ c j ≤ 57) : xEn c L j = xrD c (L - j) j ∧ xKd c L j = 24 ∧ xWy c L j = 0 :=
  ⟨(if_neg (by omega)).trans (if_pos h1), (if_neg (by omega)).trans (if_pos h1), (if_neg (by omega)).trans (if_pos h1)⟩
/-- a word at j -/
theorem yTw (hj : j < L) (h2 : 97 ≤ c j ∧ c j ≤ 122) (he : e = xrL c (L - j) j) (hk : kd = xrW c j e) : xEn c L j = e ∧ xKd c L j = kd ∧ xWy c L j = if kd = -1 then 4 else 0 := by
  subst he
  subst hk
  exact ⟨(if_neg (by omega)).trans ((if_neg (by omega)).trans (if_pos h2)), (if_neg (by omega)).trans ((if_neg (by omega)).trans (if_pos h2)), (if_neg (by omega)).trans ((if_neg (by omega)).trans (if_pos h2))⟩
/-- no sign that goes on -/
theorem ySgn0 (h1 : xIt c L t = (i0, due, op, W, O, -1, false)) (hB : xrB c (L - i0) i0 = j) (hd : ¬ due = true) (hj : j < L) (hl : ¬ (97 ≤ c j ∧ c j ≤ 122)) (nr : ¬ (15 ≤ xrG (c j) ∧ xrG (c j) ≤ 21)) (h41 : ¬ c j = 41) (ht : t ≤ 80) : xFt c L = 10 * (j : Int) + 1 := by
  have st := yStep h1 hB
  by_cases dg : 48 ≤ c j ∧ c j ≤ 57
  · obtain ⟨-, tK, tW⟩ := yTd hj dg
    have q := st.2.2 tW hd
    rw [tK, yBh_no (by omega)] at q
    exact yFt1 q (by show ¬ 10 * (j : Int) + 1 = -1; omega) ht
  · obtain ⟨-, tK, tW⟩ := yTk hj dg hl
    have g := xrG_is (c := c j)
    by_cases h14 : xrG (c j) = 14
    · rw [if_pos h14] at tW
      have q := st.1 (by rw [tW]; decide)
      exact (yFt1 q (by show ¬ 10 * (j : Int) + xWy c L j = -1; omega) ht).trans (by show 10 * (j : Int) + xWy c L j = _; rw [tW])
    · rw [if_neg h14] at tW
      have q := st.2.2 tW hd
      rw [tK, yBh_no (by omega)] at q
      exact yFt1 q (by show ¬ 10 * (j : Int) + 1 = -1; omega) ht
/-- no unit -/
theorem ySgn1 (h1 : xIt c L t = (i0, due, op, W, O, -1, false)) (hB : xrB c (L - i0) i0 = j) (hd : due = true) (hj : j < L) (hl : ¬ (97 ≤ c j ∧ c j ≤ 122)) (dg : ¬ (48 ≤ c j ∧ c j ≤ 57)) (h40 : ¬ c j = 40) (h45 : ¬ c j = 45) (ht : t ≤ 80) : xFt c L = 10 * (j : Int) + 1 := by
  have st := yStep h1 hB
  obtain ⟨-, tK, tW⟩ := yTk hj dg hl
  have g := xrG_is (c := c j)
  by_cases h14 : xrG (c j) = 14
  · rw [if_pos h14] at tW
    have q := st.1 (by rw [tW]; decide)
    exact (yFt1 q (by show ¬ 10 * (j : Int) + xWy c L j = -1; omega) ht).trans (by show 10 * (j : Int) + xWy c L j = _; rw [tW])
  · rw [if_neg h14] at tW
    have q := st.2.1 tW hd
    rw [tK, yUn_no (by omega)] at q
    exact yFt1 q (by show ¬ 10 * (j : Int) + 1 = -1; omega) ht
end YU
set_option maxRecDepth 100000 in
theorem fh_229_97 {n : Nat} {M : zM} {Mo : zM} {c : Nat → Int} {L b : Nat} (hLb : Mo 98 b = (L : Int)) (hL : L ≤ 80) (hb : b ≤ 5600) (hc : ∀ j, j < L → Mo 98 (b + 1 + j) = c j) (h98 : M 98 = Mo 98) (a1 a2 a3 : Int) (ha1 : a1 = (b : Int)) {j : Nat} (ha2 : a2 = (j : Int)) (ha3 : a3 = (L : Int)) (hj : j ≤ L) : zH n (0, 0) 229 (0, zini [zR 97, .inl a1, .inl a2, .inl a3] 7, []) M (fun r M' => r = some (.inr (.inl (if 7 < xrL c (L - j) j - j then 0 else xrN c j (xrL c (L - j) j - j)))) ∧ M' = zput M 97 13 ((xrL c (L - j) j : Nat) : Int)) := by
  have hz := zp_229
  show zH n (0, 0) 229 (0, [zR 97, .inl a1, .inl a2, .inl a3, zN, zN, zN], []) M _
  refine zH_w (c' := (6, [zR 97, .inl a1, .inl a2, .inl a3, .inr (.inl 0), zN, .inl a2], [])) 4 hz rfl ?_
  have lp6 : ∀ (N : Nat) (k : Int) (v : Int), ((100 - k).toNat) < N → (∃ m : Nat, j ≤ m ∧ m ≤ L ∧ k = (m : Int) ∧ v = (if m - j ≤ 7 then xrN c j (m - j) else 0) ∧ xrL c (L - m) m = xrL c (L - j) j ∧ (∀ q, j ≤ q → q < m → 97 ≤ c q ∧ c q ≤ 122)) → zH n (0, 0) 229 (6, [zR 97, .inl a1, .inl a2, .inl a3, .inr (.inl v), zN, .inl k], []) M (fun r M' => r = some (.inr (.inl (if 7 < xrL c (L - j) j - j then 0 else xrN c j (xrL c (L - j) j - j)))) ∧ M' = zput M 97 13 ((xrL c (L - j) j : Nat) : Int)) := by
    intro N
    induction N with
    | zero => intro k v hN; exact absurd hN (Nat.not_lt_zero _)
    | succ N ih6 =>
      intro k v hN hx
      obtain ⟨m, g1, g2, g3, g4, g5, g6⟩ := hx
      have lt5 : m < L → M 98 (w32 ((w32 (a1 + 1)) + k) : Int).toNat = c m := fun q => by rw [h98, w32_id (x := a1 + 1) (by omega), w32_id (by omega), show (a1 + 1 + k).toNat = b + 1 + m by omega]; exact hc m q
      refine zH_w (c' := (9, [zR 97, .inl a1, .inl a2, .inl a3, .inr (.inl v), zN, .inl k], [.inl a3, .inl k])) 2 hz rfl ?_
      refine zH_wi_ge (pc := 9) (n' := 12) (t := 79) (L := [zR 97, .inl a1, .inl a2, .inl a3, .inr (.inl v), zN, .inl k]) (st := []) (x := k) (y := a3) 0 hz (by rfl) (fun hb9 => ?_) (fun hb9 => ?_)
      · skip
        have hE : xrL c (L - j) j = m := by rw [← g5, xrL_n (by intro q; omega)]
        refine zH_w (c' := (89, [zR 97, .inl a1, .inl a2, .inl a3, .inr (.inl v), zN, .inl k], [.inl (w32 (k - a2))])) 6 hz rfl ?_
        rw [w32_id (x := k - a2) (by omega)]
        refine zH_w (c' := (91, [zR 97, .inl a1, .inl a2, .inl a3, .inr (.inl v), zN, .inl k], [.inl 7, .inl (k - a2)])) 1 hz rfl ?_
        refine zH_wi_le (pc := 91) (n' := 94) (t := 98) (L := [zR 97, .inl a1, .inl a2, .inl a3, .inr (.inl v), zN, .inl k]) (st := []) (x := (k - a2)) (y := 7) 0 hz (by rfl) (fun hb91 => ?_) (fun hb91 => ?_)
        · skip
          refine zH_w (c' := (100, [zR 97, .inl a1, .inl a2, .inl a3, .inr (.inl v), zN, .inl k], [.inr (.inl v)])) 1 hz rfl ?_
          refine zH_ret hz rfl rfl ?_
          rw [hE]
          first
            | (rw [if_neg (show ¬ 7 < m - j by omega), g4, if_pos (by omega)]; exact ⟨rfl, by rw [g3]⟩)
            | (rw [if_pos (show 7 < m - j by omega)]; exact ⟨rfl, by rw [g3]⟩)
        · skip
          refine zH_w (c' := (100, [zR 97, .inl a1, .inl a2, .inl a3, .inr (.inl v), zN, .inl k], [.inr (.inl 0)])) 2 hz rfl ?_
          refine zH_ret hz rfl rfl ?_
          rw [hE]
          first
            | (rw [if_neg (show ¬ 7 < m - j by omega), g4, if_pos (by omega)]; exact ⟨rfl, by rw [g3]⟩)
            | (rw [if_pos (show 7 < m - j by omega)]; exact ⟨rfl, by rw [g3]⟩)
      · skip
        refine zH_w (c' := (22, [zR 97, .inl a1, .inl a2, .inl a3, .inr (.inl v), zN, .inl k], [.inl (w32 ((w32 (a1 + 1)) + k)), zR 98])) 7 hz rfl ?_
        refine zH_iald hz rfl rfl (.inl rfl) (fun hin22 => ?_)
        show zH n (0, 0) 229 (23, [zR 97, .inl a1, .inl a2, .inl a3, .inr (.inl v), zN, .inl k], [.inl (M 98 (w32 ((w32 (a1 + 1)) + k) : Int).toNat)]) M _
        rw [lt5 (by omega)]
        refine zH_w (c' := (27, [zR 97, .inl a1, .inl a2, .inl a3, .inr (.inl v), zN, .inl k], [.inl 122, .inl 97, .inl (c m)])) 2 hz rfl ?_
        refine zH_wE (c1 := (30, [zR 97, .inl a1, .inl a2, .inl a3, .inr (.inl v), zN, .inl k], [])) 0 hz zp_180 (fh_180 (c m) 97 122) (by rfl) ?_
        show zH n (0, 0) 229 (30, [zR 97, .inl a1, .inl a2, .inl a3, .inr (.inl v), zN, .inl k], [.inl (hf_180 M (c m) 97 122)]) M _
        obtain ⟨y, hy⟩ : ∃ x : Int, x = (hf_180 M (c m) 97 122) := ⟨_, rfl⟩
        rw [← hy]
        refine zH_if_eq hz rfl (fun hb30 => ?_) (fun hb30 => ?_)
        · skip
          rw [hy, hq_180] at hb30
          have hE : xrL c (L - j) j = m := by rw [← g5, xrL_n (fun _ => hb30)]
          refine zH_w (c' := (89, [zR 97, .inl a1, .inl a2, .inl a3, .inr (.inl v), zN, .inl k], [.inl (w32 (k - a2))])) 6 hz rfl ?_
          rw [w32_id (x := k - a2) (by omega)]
          refine zH_w (c' := (91, [zR 97, .inl a1, .inl a2, .inl a3, .inr (.inl v), zN, .inl k], [.inl 7, .inl (k - a2)])) 1 hz rfl ?_
          refine zH_wi_le (pc := 91) (n' := 94) (t := 98) (L := [zR 97, .inl a1, .inl a2, .inl a3, .inr (.inl v), zN, .inl k]) (st := []) (x := (k - a2)) (y := 7) 0 hz (by rfl) (fun hb91 => ?_) (fun hb91 => ?_)
          · skip
            refine zH_w (c' := (100, [zR 97, .inl a1, .inl a2, .inl a3, .inr (.inl v), zN, .inl k], [.inr (.inl v)])) 1 hz rfl ?_
            refine zH_ret hz rfl rfl ?_
            rw [hE]
            first
              | (rw [if_neg (show ¬ 7 < m - j by omega), g4, if_pos (by omega)]; exact ⟨rfl, by rw [g3]⟩)
              | (rw [if_pos (show 7 < m - j by omega)]; exact ⟨rfl, by rw [g3]⟩)
          · skip
            refine zH_w (c' := (100, [zR 97, .inl a1, .inl a2, .inl a3, .inr (.inl v), zN, .inl k], [.inr (.inl 0)])) 2 hz rfl ?_
            refine zH_ret hz rfl rfl ?_
            rw [hE]
            first
              | (rw [if_neg (show ¬ 7 < m - j by omega), g4, if_pos (by omega)]; exact ⟨rfl, by rw [g3]⟩)
              | (rw [if_pos (show 7 < m - j by omega)]; exact ⟨rfl, by rw [g3]⟩)
        · skip
          rw [hy, hq_180] at hb30
          have hlt : 97 ≤ c m ∧ c m ≤ 122 := by omega
          refine zH_w (c' := (37, [zR 97, .inl a1, .inl a2, .inl a3, .inr (.inl v), zN, .inl k], [.inl (w32 (k - a2))])) 3 hz rfl ?_
          rw [w32_id (x := k - a2) (by omega)]
          refine zH_w (c' := (39, [zR 97, .inl a1, .inl a2, .inl a3, .inr (.inl v), zN, .inl k], [.inl 7, .inl (k - a2)])) 1 hz rfl ?_
          refine zH_wi_ge (pc := 39) (n' := 42) (t := 70) (L := [zR 97, .inl a1, .inl a2, .inl a3, .inr (.inl v), zN, .inl k]) (st := []) (x := (k - a2)) (y := 7) 0 hz (by rfl) (fun hb39 => ?_) (fun hb39 => ?_)
          · skip
            have hv : (0 : Int) = if m + 1 - j ≤ 7 then xrN c j (m + 1 - j) else 0 := by rw [if_neg (by omega)]
            refine zH_w (c' := (6, [zR 97, .inl a1, .inl a2, .inl a3, .inr (.inl 0), zN, .inl (k + 1)], [])) 4 hz (by rw [show (.inl (k + 1) : zV) = .inl (w32 (k + 1)) from by rw [w32_id (by omega)]]; rfl) ?_
            refine ih6 (k + 1) 0 (by omega) ?_
            · exact ⟨m + 1, by omega, by omega, by omega, hv, (xrL_y (by omega) hlt).symm.trans g5, fun q h1 h2 => by by_cases e9 : q = m; (rw [e9]; exact hlt); exact g6 q h1 (by omega)⟩
          · skip
            have g4b : v = xrN c j (m - j) := by rw [g4, if_pos (by omega)]
            have vb := xrN_b c j (m - j) (fun q hq => g6 (j + q) (by omega) (by omega))
            have p6 : 27 ^ (m - j) ≤ 27 ^ 6 := Nat.pow_le_pow_right (n := 27) (by decide) (by omega)
            rw [show 27 ^ 6 = 387420489 from rfl] at p6
            rw [← g4b] at vb
            have hv : w64 ((w64 ((w64 ((w64 (27 * v)) + (c m))) - 97)) + 1) = if m + 1 - j ≤ 7 then xrN c j (m + 1 - j) else 0 := by
              rw [w64_id (x := 27 * v) (by omega), w64_id (x := 27 * v + c m) (by omega), w64_id (x := 27 * v + c m - 97) (by omega), w64_id (by omega), if_pos (by omega), show m + 1 - j = (m - j) + 1 by omega]
              show _ = 27 * xrN c j (m - j) + c (j + (m - j)) - 96
              rw [show j + (m - j) = m by omega, ← g4b]
              omega
            refine zH_w (c' := (58, [zR 97, .inl a1, .inl a2, .inl a3, .inr (.inl v), zN, .inl k], [.inl (w32 ((w32 (a1 + 1)) + k)), zR 98, .inr (.inl (w64 (27 * v)))])) 10 hz rfl ?_
            refine zH_iald hz rfl rfl (.inl rfl) (fun hin58 => ?_)
            show zH n (0, 0) 229 (59, [zR 97, .inl a1, .inl a2, .inl a3, .inr (.inl v), zN, .inl k], [.inl (M 98 (w32 ((w32 (a1 + 1)) + k) : Int).toNat), .inr (.inl (w64 (27 * v)))]) M _
            rw [lt5 (by omega)]
            refine zH_w (c' := (6, [zR 97, .inl a1, .inl a2, .inl a3, .inr (.inl (w64 ((w64 ((w64 ((w64 (27 * v)) + (c m))) - 97)) + 1))), zN, .inl (k + 1)], [])) 10 hz (by rw [show (.inl (k + 1) : zV) = .inl (w32 (k + 1)) from by rw [w32_id (by omega)]]; rfl) ?_
            refine ih6 (k + 1) (w64 ((w64 ((w64 ((w64 (27 * v)) + (c m))) - 97)) + 1)) (by omega) ?_
            · exact ⟨m + 1, by omega, by omega, by omega, hv, (xrL_y (by omega) hlt).symm.trans g5, fun q h1 h2 => by by_cases e9 : q = m; (rw [e9]; exact hlt); exact g6 q h1 (by omega)⟩
  refine lp6 (101) a2 0 (by omega) ?_
  · exact ⟨j, Nat.le_refl _, hj, ha2, by rw [Nat.sub_self]; rfl, rfl, fun q h1 h2 => absurd h1 (by omega)⟩
set_option maxHeartbeats 8000000 in
set_option maxRecDepth 100000 in
theorem fh_231_97 {n : Nat} {M : zM} {Mo : zM} {c : Nat → Int} {L b : Nat} (hLb : Mo 98 b = (L : Int)) (hL : L ≤ 80) (hb : b ≤ 5600) (hc : ∀ j, j < L → Mo 98 (b + 1 + j) = c j) (hO : yO Mo M) (hJ : ∀ j, 17 ≤ j → M 97 j = Mo 97 j) (a1 : Int) (ha1 : a1 = (b : Int)) : zH n (0, 0) 231 (0, zini [zR 97, .inl a1] 8, []) M (fun r M' => r = some (.inl (xFt c L)) ∧ yO Mo M' ∧ (xFt c L = -1 → yS Mo [] (xIt c L 81).2.2.2.2.1 M')) := by
  have hz := zp_231
  show zH n (0, 0) 231 (0, [zR 97, .inl a1, zN, zN, zN, zN, zN, zN], []) M _
  refine zH_w (c' := (15, [zR 97, .inl a1, zN, zN, zN, zN, zN, zN], [])) 9 hz rfl ?_
  obtain ⟨M1, hM1⟩ : ∃ X : zM, X = zput (zput (zput M 97 7 0) 97 10 0) 97 12 0 := ⟨_, rfl⟩
  rw [← hM1]
  have hO1 : yO Mo M1 := fun r q1 q2 q3 q4 => by rw [hM1]; exact (zput_oth q1).trans ((zput_oth q1).trans ((zput_oth q1).trans (hO r q1 q2 q3 q4)))
  have hS1 : yS Mo [] [] M1 := ⟨hO1, by rw [hM1, qput_nk (by decide), qput_nk (by decide), qput_eq, qput_nk (by decide), qput_eq]; exact ⟨rfl, rfl⟩, trivial, trivial, fun j q => by rw [hM1, qput_nk (by omega), qput_nk (by omega), qput_nk (by omega)]; exact hJ j q⟩
  have hI0 : yI Mo c L 0 0 M1 := yI.mk (t := 0) (e := 0) (due := true) (op := 0) (W := []) (O := []) rfl (Nat.le_refl _) (Nat.zero_le _) (by rw [hM1, qput_eq]) (by decide) (by decide) trivial (Nat.le_refl _) hS1 rfl rfl
  refine zH_w (c' := (20, [zR 97, .inl a1, zN, zN, zN, zN, zN, zN], [.inl a1, zR 98])) 3 hz rfl ?_
  refine zH_iald hz rfl rfl (.inl rfl) (fun hin20 => ?_)
  show zH n (0, 0) 231 (21, [zR 97, .inl a1, zN, zN, zN, zN, zN, zN], [.inl (M1 98 (a1 : Int).toNat)]) M1 _
  rw [show M1 98 (a1 : Int).toNat = (L : Int) from by rw [hO1 98 (by decide) (by decide) (by decide) (by decide), show a1.toNat = b by omega]; exact hLb]
  refine zH_w (c' := (27, [zR 97, .inl a1, .inl (L : Int), .inl 0, .inl 0, zN, zN, zN], [])) 5 hz rfl ?_
  have lp27 : ∀ (N : Nat) (x : Int) (i : Int) (u5 : zV) (u6 : zV) (u7 : zV) (M5 : zM), ((200 - i).toNat) < N → (yI Mo c L x i M5) → zH n (0, 0) 231 (27, [zR 97, .inl a1, .inl (L : Int), .inl x, .inl i, u5, u6, u7], []) M5 (fun r M' => r = some (.inl (xFt c L)) ∧ yO Mo M' ∧ (xFt c L = -1 → yS Mo [] (xIt c L 81).2.2.2.2.1 M')) := by
    intro N
    induction N with
    | zero => intro x i u5 u6 u7 M5 hN; exact absurd hN (Nat.not_lt_zero _)
    | succ N ih27 =>
      intro x i u5 u6 u7 M5 hN hI
      obtain ⟨t, i0, j, due, op, W, O, x1, ⟨x2, x3, x4, x5⟩, x6, x7, ⟨x8, x9, x10⟩, x11, x12, x13⟩ := hI
      have hO5 := x13.1
      have lM := yM_len due W O
      have lt5 : j < L → M5 98 (w32 ((w32 (a1 + 1)) + i) : Int).toNat = c j := fun q => by rw [show M5 98 = Mo 98 from hO5 98 (by decide) (by decide) (by decide) (by decide), w32_id (x := a1 + 1) (by omega), w32_id (by omega), show (a1 + 1 + i).toNat = b + 1 + j by omega]; exact hc j q
      refine zH_w (c' := (30, [zR 97, .inl a1, .inl (L : Int), .inl x, .inl i, u5, u6, u7], [.inl (L : Int), .inl i])) 2 hz rfl ?_
      refine zH_wi_ge (pc := 30) (n' := 33) (t := 505) (L := [zR 97, .inl a1, .inl (L : Int), .inl x, .inl i, u5, u6, u7]) (st := []) (x := i) (y := (L : Int)) 0 hz (by rfl) (fun hb30 => ?_) (fun hb30 => ?_)
      · skip
        have hjL : j = L := by omega
        have hB : xrB c (L - i0) i0 = L := by rw [x6, hjL, Nat.sub_self]; rfl
        have st := yStep x1 hB
        have tW : xWy c L L = 0 := if_pos (Nat.le_refl _)
        have tK : xKd c L L = 25 := if_pos (Nat.le_refl _)
        refine zH_wf_eq (pc := 506) (n' := 509) (t := 527) (L := [zR 97, .inl a1, .inl (L : Int), .inl x, .inl i, u5, u6, u7]) (st := []) (x := x) 1 hz (by rfl) (fun hb506 => ?_) (fun hb506 => ?_)
        · skip
          have hdue : due = true := by cases due; exact absurd (x7.symm.trans hb506) (by decide); rfl
          have hst := st.2.1 tW hdue
          rw [tK, yUn_no (by omega)] at hst
          have hFt : xFt c L = 10 * (L : Int) + 1 := yFt1 hst (by show ¬ 10 * (L : Int) + 1 = -1; omega) (by omega)
          have hOf := hO5
          refine zH_w (c' := (533, [zR 97, .inl a1, .inl (L : Int), .inl x, .inl i, u5, u6, u7], [.inl (w32 ((w32 (10 * (L : Int))) + 1))])) 5 hz rfl ?_
          refine zH_ret hz rfl rfl ?_
          first
            | exact ⟨by rw [hFt], hOf, fun _ => hfin⟩
            | exact ⟨by rw [hFt, w32_id (x := 10 * (L : Int)) (by omega), w32_id (by omega)], hOf, fun q => absurd (hFt.symm.trans q) (by omega)⟩
        · skip
          have hdue : ¬ due = true := fun q => hb506 (by rw [x7, if_pos q])
          have hst := st.2.2 tW hdue
          rw [tK] at hst
          have e25 : xBh L (xEn c L L) 25 op W O = if xrT (xrE 3 W O).1 = 1 ∨ ¬ (xrE 1 (xrE 3 W O).1 (xrE 3 W O).2).1 = [] then (xEn c L L, false, op, W, O, 10 * (L : Int) + 1, false) else (xEn c L L, false, op, [], (xrE 1 (xrE 3 W O).1 (xrE 3 W O).2).2, -1, true) := rfl
          rw [e25] at hst
          have hS8 : yS Mo (xrE 8 W O).1 (xrE 8 W O).2 M5 := by have q := x13; rw [show yM due W O = xrE 8 W O from if_neg hdue] at q; exact q
          have l8 := xrE_len 8 W O
          refine zH_w (c' := (510, [zR 97, .inl a1, .inl (L : Int), .inl x, .inl i, u5, u6, u7], [zR 97])) 1 hz rfl ?_
          refine zH_wC (c1 := (513, [zR 97, .inl a1, .inl (L : Int), .inl x, .inl i, u5, u6, u7], [])) 0 hz zp_226 (fh_226_97 hS8 (xrE_F 8 W O x11).w (by omega) (xrE_F 8 W O x11)) (by rfl) ?_
          rintro _ M9 ⟨rfl, hO9, hV, hk9⟩
          show zH n (0, 0) 231 (513, [zR 97, .inl a1, .inl (L : Int), .inl x, .inl i, u5, u6, u7], [.inl (if xrT (xrE 3 (xrE 8 W O).1 (xrE 8 W O).2).1 = 1 then 0 else 1)]) M9 _
          have e3 := xrE_E (show (3 : Int) ≤ 8 by decide) W O
          rw [e3]
          rw [e3] at hV
          obtain ⟨y, hy⟩ : ∃ x : Int, x = (if xrT (xrE 3 W O).1 = 1 then 0 else 1) := ⟨_, rfl⟩
          rw [← hy]
          refine zH_if_eq hz rfl (fun hb513 => ?_) (fun hb513 => ?_)
          · skip
            have c1 : xrT (xrE 3 W O).1 = 1 := by by_cases q : xrT (xrE 3 W O).1 = 1; exact q; (rw [if_neg q] at hy; omega)
            rw [if_pos (.inl c1)] at hst
            have hFt : xFt c L = 10 * (L : Int) + 1 := yFt1 hst (by show ¬ 10 * (L : Int) + 1 = -1; omega) (by omega)
            have hOf := hO9
            refine zH_w (c' := (533, [zR 97, .inl a1, .inl (L : Int), .inl x, .inl i, u5, u6, u7], [.inl (w32 ((w32 (10 * (L : Int))) + 1))])) 5 hz rfl ?_
            refine zH_ret hz rfl rfl ?_
            first
              | exact ⟨by rw [hFt], hOf, fun _ => hfin⟩
              | exact ⟨by rw [hFt, w32_id (x := 10 * (L : Int)) (by omega), w32_id (by omega)], hOf, fun q => absurd (hFt.symm.trans q) (by omega)⟩
          · skip
            have c1 : ¬ xrT (xrE 3 W O).1 = 1 := fun q => hb513 (by rw [hy, if_pos q])
            have hS9 := hV c1
            have hOf := hO9
            refine zH_w (c' := (520, [zR 97, .inl a1, .inl (L : Int), .inl x, .inl i, u5, u6, u7], [.inl (M9 97 10)])) 2 hz rfl ?_
            refine zH_wf_ne (pc := 520) (n' := 523) (t := 527) (L := [zR 97, .inl a1, .inl (L : Int), .inl x, .inl i, u5, u6, u7]) (st := []) (x := (M9 97 10)) 0 hz (by rfl) (fun hb520 => ?_) (fun hb520 => ?_)
            · skip
              rw [if_pos (.inr (fun q => hb520 (by have q2 := hS9.2.1.2; rw [q] at q2; exact q2)))] at hst
              have hFt : xFt c L = 10 * (L : Int) + 1 := yFt1 hst (by show ¬ 10 * (L : Int) + 1 = -1; omega) (by omega)
              refine zH_w (c' := (533, [zR 97, .inl a1, .inl (L : Int), .inl x, .inl i, u5, u6, u7], [.inl (w32 ((w32 (10 * (L : Int))) + 1))])) 5 hz rfl ?_
              refine zH_ret hz rfl rfl ?_
              first
                | exact ⟨by rw [hFt], hOf, fun _ => hfin⟩
                | exact ⟨by rw [hFt, w32_id (x := 10 * (L : Int)) (by omega), w32_id (by omega)], hOf, fun q => absurd (hFt.symm.trans q) (by omega)⟩
            · skip
              have c2 : (xrE 1 (xrE 3 W O).1 (xrE 3 W O).2).1 = [] := List.eq_nil_of_length_eq_zero (by have := hS9.2.1.2; omega)
              rw [if_neg (fun q => q.elim c1 (fun p => p c2))] at hst
              have hF81 := yFt hst (.inr rfl) (by omega)
              have hFt : xFt c L = -1 := by rw [xFt_81, hF81]
              rw [c2] at hS9
              have hfin : yS Mo [] (xIt c L 81).2.2.2.2.1 M9 := by rw [hF81]; exact hS9
              refine zH_w (c' := (533, [zR 97, .inl a1, .inl (L : Int), .inl x, .inl i, u5, u6, u7], [.inl (-1)])) 2 hz rfl ?_
              refine zH_ret hz rfl rfl ?_
              first
                | exact ⟨by rw [hFt], hOf, fun _ => hfin⟩
                | exact ⟨by rw [hFt, w32_id (x := 10 * (L : Int)) (by omega), w32_id (by omega)], hOf, fun q => absurd (hFt.symm.trans q) (by omega)⟩
      · skip
        have hjL : j < L := by omega
        refine zH_w (c' := (43, [zR 97, .inl a1, .inl (L : Int), .inl x, .inl i, u5, u6, u7], [.inl (w32 ((w32 (a1 + 1)) + i)), zR 98])) 7 hz rfl ?_
        refine zH_iald hz rfl rfl (.inl rfl) (fun hin43 => ?_)
        show zH n (0, 0) 231 (44, [zR 97, .inl a1, .inl (L : Int), .inl x, .inl i, u5, u6, u7], [.inl (M5 98 (w32 ((w32 (a1 + 1)) + i) : Int).toNat)]) M5 _
        rw [lt5 hjL]
        refine zH_w (c' := (50, [zR 97, .inl a1, .inl (L : Int), .inl x, .inl i, .inl (c j), u6, u7], [.inl 32, .inl (c j)])) 3 hz rfl ?_
        refine zH_wi_ne (pc := 50) (n' := 53) (t := 59) (L := [zR 97, .inl a1, .inl (L : Int), .inl x, .inl i, .inl (c j), u6, u7]) (st := []) (x := (c j)) (y := 32) 0 hz (by rfl) (fun hb50 => ?_) (fun hb50 => ?_)
        · skip
          have hB : xrB c (L - i0) i0 = j := x6.trans (xrB_n (fun _ => hb50))
          have st := yStep x1 hB
          refine zH_wE (c1 := (68, [zR 97, .inl a1, .inl (L : Int), .inl x, .inl i, .inl (c j), u6, u7], [])) 3 hz zp_180 (fh_180 (c j) 97 122) (by rfl) ?_
          show zH n (0, 0) 231 (68, [zR 97, .inl a1, .inl (L : Int), .inl x, .inl i, .inl (c j), u6, u7], [.inl (hf_180 M5 (c j) 97 122)]) M5 _
          obtain ⟨y1, hy1⟩ : ∃ x : Int, x = (hf_180 M5 (c j) 97 122) := ⟨_, rfl⟩
          rw [← hy1]
          refine zH_if_eq hz rfl (fun hb68 => ?_) (fun hb68 => ?_)
          · skip
            have hnl : ¬ (97 ≤ c j ∧ c j ≤ 122) := by rw [hy1, hq_180] at hb68; exact hb68
            refine zH_w (c' := (243, [zR 97, .inl a1, .inl (L : Int), .inl x, .inl i, .inl (c j), u6, u7], [.inl x])) 1 hz rfl ?_
            refine zH_wf_eq (pc := 243) (n' := 246) (t := 320) (L := [zR 97, .inl a1, .inl (L : Int), .inl x, .inl i, .inl (c j), u6, u7]) (st := []) (x := x) 0 hz (by rfl) (fun hb243 => ?_) (fun hb243 => ?_)
            · skip
              have hdue : due = true := by cases due; exact absurd (x7.symm.trans hb243) (by decide); rfl
              have hSd : yS Mo W O M5 := by have q := x13; rw [show yM due W O = (W, O) from if_pos hdue] at q; exact q
              refine zH_wE (c1 := (329, [zR 97, .inl a1, .inl (L : Int), .inl x, .inl i, .inl (c j), u6, u7], [])) 3 hz zp_180 (fh_180 (c j) 48 57) (by rfl) ?_
              show zH n (0, 0) 231 (329, [zR 97, .inl a1, .inl (L : Int), .inl x, .inl i, .inl (c j), u6, u7], [.inl (hf_180 M5 (c j) 48 57)]) M5 _
              obtain ⟨y2, hy2⟩ : ∃ x : Int, x = (hf_180 M5 (c j) 48 57) := ⟨_, rfl⟩
              rw [← hy2]
              refine zH_if_eq hz rfl (fun hb329 => ?_) (fun hb329 => ?_)
              · skip
                have hndg : ¬ (48 ≤ c j ∧ c j ≤ 57) := by rw [hy2, hq_180] at hb329; exact hb329
                refine zH_w (c' := (434, [zR 97, .inl a1, .inl (L : Int), .inl x, .inl i, .inl (c j), u6, u7], [.inl 40, .inl (c j)])) 2 hz rfl ?_
                refine zH_wi_ne (pc := 434) (n' := 437) (t := 476) (L := [zR 97, .inl a1, .inl (L : Int), .inl x, .inl i, .inl (c j), u6, u7]) (st := []) (x := (c j)) (y := 40) 0 hz (by rfl) (fun hb434 => ?_) (fun hb434 => ?_)
                · skip
                  refine zH_wi_ne (pc := 480) (n' := 483) (t := 494) (L := [zR 97, .inl a1, .inl (L : Int), .inl x, .inl i, .inl (c j), u6, u7]) (st := []) (x := (c j)) (y := 45) 2 hz (by rfl) (fun hb480 => ?_) (fun hb480 => ?_)
                  · skip
                    have hFt := ySgn1 x1 hB hdue hjL hnl hndg hb434 hb480 (by omega)
                    have hOf := hO5
                    exact zH_wr (r := some (.inl (w32 ((w32 (10 * i)) + 1)))) 5 hz (by rfl) (⟨by rw [hFt, x2, w32_id (x := 10 * (j : Int)) (by omega), w32_id (by omega)], hOf, fun q => absurd (hFt.symm.trans q) (by omega)⟩)
                  · skip
                    obtain ⟨tE, tK, tW⟩ := yTk hjL hndg hnl
                    have g19 : xrG (c j) = 19 := xrG_is.2.2.1.mpr (by omega)
                    rw [g19] at tK tW
                    have tW0 : xWy c L j = 0 := tW
                    have hst := st.2.1 tW0 hdue
                    rw [tK, tE] at hst
                    have e19 : xUn j (j + 1) 19 (xVl c L j) op W O = (j + 1, true, op, 26 :: W, O, -1, false) := rfl
                    rw [e19] at hst
                    refine zH_w (c' := (485, [zR 97, .inl a1, .inl (L : Int), .inl x, .inl i, .inl (c j), u6, u7], [.inl 3, zR 97])) 2 hz rfl ?_
                    refine zH_wE (c1 := (488, [zR 97, .inl a1, .inl (L : Int), .inl x, .inl i, .inl (c j), u6, u7], [])) 0 hz zp_223 (fh_223_97 3) (by rfl) ?_
                    show zH n (0, 0) 231 (488, [zR 97, .inl a1, .inl (L : Int), .inl x, .inl i, .inl (c j), u6, u7], []) (hf_223_97 M5 3) _
                    have hp := hSd.push (k := 26) (x := 3) (by omega) (by decide)
                    obtain ⟨M7, hM7⟩ : ∃ X : zM, X = hf_223_97 M5 3 := ⟨_, rfl⟩
                    rw [← hM7]
                    rw [← hM7] at hp
                    have hI2 : yI Mo c L x (i + 1) M7 := yI.mk hst (by omega) (by omega) (hp.2.1.trans x8) (by omega) (by omega) ⟨by unfold yWk; omega, fun q => by omega, fun q => by omega, x11⟩ (by rw [List.length_cons]; omega) hp.1 hb243 (by omega)
                    refine zH_w (c' := (27, [zR 97, .inl a1, .inl (L : Int), .inl x, .inl (i + 1), .inl (c j), u6, u7], [])) 3 hz (by rw [show (.inl (i + 1) : zV) = .inl (w32 (i + 1)) from by rw [w32_id (by omega)]]; rfl) ?_
                    refine ih27 x (i + 1) (.inl (c j)) u6 u7 M7 (by omega) ?_
                    · exact hI2
                · skip
                  obtain ⟨tE, tK, tW⟩ := yTk hjL hndg hnl
                  have g22 : xrG (c j) = 22 := xrG_is.1.mpr (by omega)
                  rw [g22] at tK tW
                  have tW0 : xWy c L j = 0 := tW
                  have hst := st.2.1 tW0 hdue
                  rw [tK, tE] at hst
                  have e22 : xUn j (j + 1) 22 (xVl c L j) op W O = if 8 ≤ op then (j + 1, true, op, W, O, 10 * (j : Int) + 3, false) else (j + 1, true, op + 1, 22 :: W, O, -1, false) := rfl
                  rw [e22] at hst
                  refine zH_w (c' := (441, [zR 97, .inl a1, .inl (L : Int), .inl x, .inl i, .inl (c j), u6, u7], [.inl (M5 97 12)])) 2 hz rfl ?_
                  rw [x8]
                  refine zH_w (c' := (443, [zR 97, .inl a1, .inl (L : Int), .inl x, .inl i, .inl (c j), u6, u7], [.inl 8, .inl op])) 1 hz rfl ?_
                  refine zH_wi_ne (pc := 443) (n' := 446) (t := 454) (L := [zR 97, .inl a1, .inl (L : Int), .inl x, .inl i, .inl (c j), u6, u7]) (st := []) (x := op) (y := 8) 0 hz (by rfl) (fun hb443 => ?_) (fun hb443 => ?_)
                  · skip
                    rw [if_neg (by omega)] at hst
                    refine zH_w (c' := (459, [zR 97, .inl a1, .inl (L : Int), .inl x, .inl i, .inl (c j), u6, u7], [.inl (M5 97 12), zR 97])) 3 hz rfl ?_
                    rw [x8]
                    refine zH_w (c' := (464, [zR 97, .inl a1, .inl (L : Int), .inl x, .inl i, .inl (c j), u6, u7], [])) 3 hz rfl ?_
                    obtain ⟨M6, hM6⟩ : ∃ X : zM, X = zput M5 97 12 (w32 (op + 1)) := ⟨_, rfl⟩
                    rw [← hM6]
                    have hS6 : yS Mo W O M6 := by rw [hM6]; exact hSd.f (by decide) (by decide)
                    have z12 : M6 97 12 = op + 1 := by rw [hM6, qput_eq, w32_id (by omega)]
                    refine zH_w (c' := (467, [zR 97, .inl a1, .inl (L : Int), .inl x, .inl i, .inl (c j), u6, u7], [.inl 18, zR 97])) 2 hz rfl ?_
                    refine zH_wE (c1 := (470, [zR 97, .inl a1, .inl (L : Int), .inl x, .inl i, .inl (c j), u6, u7], [])) 0 hz zp_223 (fh_223_97 18) (by rfl) ?_
                    show zH n (0, 0) 231 (470, [zR 97, .inl a1, .inl (L : Int), .inl x, .inl i, .inl (c j), u6, u7], []) (hf_223_97 M6 18) _
                    have hp := hS6.push (k := 22) (x := 18) (by omega) (by decide)
                    obtain ⟨M7, hM7⟩ : ∃ X : zM, X = hf_223_97 M6 18 := ⟨_, rfl⟩
                    rw [← hM7]
                    rw [← hM7] at hp
                    have hI2 : yI Mo c L x (i + 1) M7 := yI.mk hst (by omega) (by omega) (hp.2.1.trans z12) (by omega) (by omega) ⟨by unfold yWk; omega, fun q => by omega, fun q => by omega, x11⟩ (by rw [List.length_cons]; omega) hp.1 hb243 (by omega)
                    refine zH_w (c' := (27, [zR 97, .inl a1, .inl (L : Int), .inl x, .inl (i + 1), .inl (c j), u6, u7], [])) 3 hz (by rw [show (.inl (i + 1) : zV) = .inl (w32 (i + 1)) from by rw [w32_id (by omega)]]; rfl) ?_
                    refine ih27 x (i + 1) (.inl (c j)) u6 u7 M7 (by omega) ?_
                    · exact hI2
                  · skip
                    rw [if_pos (by omega)] at hst
                    have hFt : xFt c L = 10 * (j : Int) + 3 := yFt1 hst (by show ¬ 10 * (j : Int) + 3 = -1; omega) (by omega)
                    have hOf := hO5
                    refine zH_w (c' := (453, [zR 97, .inl a1, .inl (L : Int), .inl x, .inl i, .inl (c j), u6, u7], [.inl (w32 ((w32 (10 * i)) + 3))])) 5 hz rfl ?_
                    exact zH_wr (r := some (.inl (w32 ((w32 (10 * i)) + 3)))) 0 hz (by rfl) (⟨by rw [hFt, x2, w32_id (x := 10 * (j : Int)) (by omega), w32_id (by omega)], hOf, fun q => absurd (hFt.symm.trans q) (by omega)⟩)
              · skip
                have hdg : 48 ≤ c j ∧ c j ≤ 57 := by rw [hy2, hq_180] at hb329; omega
                obtain ⟨tE, tK, tW0⟩ := yTd hjL hdg
                have hst := st.2.1 tW0 hdue
                rw [tK, tE] at hst
                refine zH_w (c' := (339, [zR 97, .inl a1, .inl (L : Int), .inl x, .inl i, .inl (c j), .inl i, .inl 0], [])) 4 hz rfl ?_
                have lp339 : ∀ (N : Nat) (i2 : Int) (v : Int), ((100 - i2).toNat) < N → (∃ m : Nat, j ≤ m ∧ m ≤ L ∧ i2 = (m : Int) ∧ m - j ≤ 6 ∧ v = xrV c j (m - j) ∧ xrD c (L - m) m = xrD c (L - j) j ∧ (∀ q, j ≤ q → q < m → 48 ≤ c q ∧ c q ≤ 57)) → zH n (0, 0) 231 (339, [zR 97, .inl a1, .inl (L : Int), .inl x, .inl i2, .inl (c j), .inl i, .inl v], []) M5 (fun r M' => r = some (.inl (xFt c L)) ∧ yO Mo M' ∧ (xFt c L = -1 → yS Mo [] (xIt c L 81).2.2.2.2.1 M')) := by
                  intro N
                  induction N with
                  | zero => intro i2 v hN; exact absurd hN (Nat.not_lt_zero _)
                  | succ N ih339 =>
                    intro i2 v hN hd
                    obtain ⟨m, d1, d2, d3, d4, d5, d6, d7⟩ := hd
                    have lt6 : m < L → M5 98 (w32 ((w32 (a1 + 1)) + i2) : Int).toNat = c m := fun q => by rw [show M5 98 = Mo 98 from hO5 98 (by decide) (by decide) (by decide) (by decide), w32_id (x := a1 + 1) (by omega), w32_id (by omega), show (a1 + 1 + i2).toNat = b + 1 + m by omega]; exact hc m q
                    refine zH_w (c' := (342, [zR 97, .inl a1, .inl (L : Int), .inl x, .inl i2, .inl (c j), .inl i, .inl v], [.inl (L : Int), .inl i2])) 2 hz rfl ?_
                    refine zH_wi_ge (pc := 342) (n' := 345) (t := 412) (L := [zR 97, .inl a1, .inl (L : Int), .inl x, .inl i2, .inl (c j), .inl i, .inl v]) (st := []) (x := i2) (y := (L : Int)) 0 hz (by rfl) (fun hb342 => ?_) (fun hb342 => ?_)
                    · skip
                      have hE : xrD c (L - j) j = m := by rw [← d6, xrD_n (by intro q; omega)]
                      refine zH_wE (c1 := (419, [zR 97, .inl a1, .inl (L : Int), .inl x, .inl i2, .inl (c j), .inl i, .inl v], [])) 3 hz zp_220 (fh_220_97 0 v) (by rfl) ?_
                      show zH n (0, 0) 231 (419, [zR 97, .inl a1, .inl (L : Int), .inl x, .inl i2, .inl (c j), .inl i, .inl v], []) (hf_220_97 M5 0 v) _
                      have vb := xrV_b c j (m - j) (fun q hq => d7 (j + q) (by omega) (by omega)) d4
                      rw [← d5] at vb
                      have he9 := hSd.emit (v := v) (x := 0) (y := v) (by omega) (by unfold ys; rw [if_pos vb.1]) (by unfold yv; rw [if_pos vb.1])
                      refine zH_w (c' := (422, [zR 97, .inl a1, .inl (L : Int), .inl x, .inl i2, .inl (c j), .inl i, .inl v], [.inl 8, zR 97])) 2 hz rfl ?_
                      refine zH_wC (c1 := (425, [zR 97, .inl a1, .inl (L : Int), .inl x, .inl i2, .inl (c j), .inl i, .inl v], [])) 0 hz zp_224 (fh_224_97 he9.1 x11.w (by rw [List.length_cons]; omega) 8 (by decide)) (by rfl) ?_
                      rintro _ M7 ⟨rfl, hS7, hk7⟩
                      show zH n (0, 0) 231 (425, [zR 97, .inl a1, .inl (L : Int), .inl x, .inl i2, .inl (c j), .inl i, .inl v], []) M7 _
                      have jm : j < m := by have := xrD_r c (L - (j + 1)) (j + 1); rw [← xrD_y hjL hdg, hE] at this; omega
                      have eV : xVl c L j = v := by unfold xVl; rw [hE, d5]
                      rw [hE, eV] at hst
                      have e24 : xUn j m 24 v op W O = if 6 < ((m : Nat) : Int) - (j : Int) then (m, true, op, W, O, 10 * (j : Int) + 2, false) else (m, false, op, W, v :: O, -1, false) := rfl
                      rw [e24, if_neg (by omega)] at hst
                      have hI2 : yI Mo c L 1 i2 M7 := yI.mk hst (by omega) (by omega) (hk7.1.trans (he9.2.1.trans x8)) (by omega) (by omega) x11 (by rw [List.length_cons]; omega) hS7 rfl d3
                      refine zH_w (c' := (27, [zR 97, .inl a1, .inl (L : Int), .inl 1, .inl i2, .inl (c j), .inl i, .inl v], [])) 4 hz rfl ?_
                      refine ih27 1 i2 (.inl (c j)) (.inl i) (.inl v) M7 (by omega) ?_
                      · exact hI2
                    · skip
                      refine zH_w (c' := (355, [zR 97, .inl a1, .inl (L : Int), .inl x, .inl i2, .inl (c j), .inl i, .inl v], [.inl (w32 ((w32 (a1 + 1)) + i2)), zR 98])) 7 hz rfl ?_
                      refine zH_iald hz rfl rfl (.inl rfl) (fun hin355 => ?_)
                      show zH n (0, 0) 231 (356, [zR 97, .inl a1, .inl (L : Int), .inl x, .inl i2, .inl (c j), .inl i, .inl v], [.inl (M5 98 (w32 ((w32 (a1 + 1)) + i2) : Int).toNat)]) M5 _
                      rw [lt6 (by omega)]
                      refine zH_w (c' := (360, [zR 97, .inl a1, .inl (L : Int), .inl x, .inl i2, .inl (c j), .inl i, .inl v], [.inl 57, .inl 48, .inl (c m)])) 2 hz rfl ?_
                      refine zH_wE (c1 := (363, [zR 97, .inl a1, .inl (L : Int), .inl x, .inl i2, .inl (c j), .inl i, .inl v], [])) 0 hz zp_180 (fh_180 (c m) 48 57) (by rfl) ?_
                      show zH n (0, 0) 231 (363, [zR 97, .inl a1, .inl (L : Int), .inl x, .inl i2, .inl (c j), .inl i, .inl v], [.inl (hf_180 M5 (c m) 48 57)]) M5 _
                      obtain ⟨y3, hy3⟩ : ∃ x : Int, x = (hf_180 M5 (c m) 48 57) := ⟨_, rfl⟩
                      rw [← hy3]
                      refine zH_if_eq hz rfl (fun hb363 => ?_) (fun hb363 => ?_)
                      · skip
                        rw [hy3, hq_180] at hb363
                        have hE : xrD c (L - j) j = m := by rw [← d6, xrD_n (fun _ => hb363)]
                        refine zH_w (c' := (416, [zR 97, .inl a1, .inl (L : Int), .inl x, .inl i2, .inl (c j), .inl i, .inl v], [.inl v, .inl 0, zR 97])) 3 hz rfl ?_
                        refine zH_wE (c1 := (419, [zR 97, .inl a1, .inl (L : Int), .inl x, .inl i2, .inl (c j), .inl i, .inl v], [])) 0 hz zp_220 (fh_220_97 0 v) (by rfl) ?_
                        show zH n (0, 0) 231 (419, [zR 97, .inl a1, .inl (L : Int), .inl x, .inl i2, .inl (c j), .inl i, .inl v], []) (hf_220_97 M5 0 v) _
                        have vb := xrV_b c j (m - j) (fun q hq => d7 (j + q) (by omega) (by omega)) d4
                        rw [← d5] at vb
                        have he9 := hSd.emit (v := v) (x := 0) (y := v) (by omega) (by unfold ys; rw [if_pos vb.1]) (by unfold yv; rw [if_pos vb.1])
                        refine zH_w (c' := (422, [zR 97, .inl a1, .inl (L : Int), .inl x, .inl i2, .inl (c j), .inl i, .inl v], [.inl 8, zR 97])) 2 hz rfl ?_
                        refine zH_wC (c1 := (425, [zR 97, .inl a1, .inl (L : Int), .inl x, .inl i2, .inl (c j), .inl i, .inl v], [])) 0 hz zp_224 (fh_224_97 he9.1 x11.w (by rw [List.length_cons]; omega) 8 (by decide)) (by rfl) ?_
                        rintro _ M7 ⟨rfl, hS7, hk7⟩
                        show zH n (0, 0) 231 (425, [zR 97, .inl a1, .inl (L : Int), .inl x, .inl i2, .inl (c j), .inl i, .inl v], []) M7 _
                        have jm : j < m := by have := xrD_r c (L - (j + 1)) (j + 1); rw [← xrD_y hjL hdg, hE] at this; omega
                        have eV : xVl c L j = v := by unfold xVl; rw [hE, d5]
                        rw [hE, eV] at hst
                        have e24 : xUn j m 24 v op W O = if 6 < ((m : Nat) : Int) - (j : Int) then (m, true, op, W, O, 10 * (j : Int) + 2, false) else (m, false, op, W, v :: O, -1, false) := rfl
                        rw [e24, if_neg (by omega)] at hst
                        have hI2 : yI Mo c L 1 i2 M7 := yI.mk hst (by omega) (by omega) (hk7.1.trans (he9.2.1.trans x8)) (by omega) (by omega) x11 (by rw [List.length_cons]; omega) hS7 rfl d3
                        refine zH_w (c' := (27, [zR 97, .inl a1, .inl (L : Int), .inl 1, .inl i2, .inl (c j), .inl i, .inl v], [])) 4 hz rfl ?_
                        refine ih27 1 i2 (.inl (c j)) (.inl i) (.inl v) M7 (by omega) ?_
                        · exact hI2
                      · skip
                        have hdm : 48 ≤ c m ∧ c m ≤ 57 := by rw [hy3, hq_180] at hb363; omega
                        refine zH_w (c' := (371, [zR 97, .inl a1, .inl (L : Int), .inl x, .inl i2, .inl (c j), .inl i, .inl v], [.inl (w32 (i2 - i))])) 3 hz rfl ?_
                        rw [w32_id (x := i2 - i) (by omega)]
                        refine zH_w (c' := (373, [zR 97, .inl a1, .inl (L : Int), .inl x, .inl i2, .inl (c j), .inl i, .inl v], [.inl 6, .inl (i2 - i)])) 1 hz rfl ?_
                        refine zH_wi_ne (pc := 373) (n' := 376) (t := 384) (L := [zR 97, .inl a1, .inl (L : Int), .inl x, .inl i2, .inl (c j), .inl i, .inl v]) (st := []) (x := (i2 - i)) (y := 6) 0 hz (by rfl) (fun hb373 => ?_) (fun hb373 => ?_)
                        · skip
                          refine zH_w (c' := (399, [zR 97, .inl a1, .inl (L : Int), .inl x, .inl i2, .inl (c j), .inl i, .inl v], [.inl (w32 ((w32 (a1 + 1)) + i2)), zR 98, .inl (w32 (10 * v))])) 10 hz rfl ?_
                          refine zH_iald hz rfl rfl (.inl rfl) (fun hin399 => ?_)
                          show zH n (0, 0) 231 (400, [zR 97, .inl a1, .inl (L : Int), .inl x, .inl i2, .inl (c j), .inl i, .inl v], [.inl (M5 98 (w32 ((w32 (a1 + 1)) + i2) : Int).toNat), .inl (w32 (10 * v))]) M5 _
                          rw [lt6 (by omega)]
                          refine zH_w (c' := (339, [zR 97, .inl a1, .inl (L : Int), .inl x, .inl (i2 + 1), .inl (c j), .inl i, .inl (w32 ((w32 ((w32 (10 * v)) + (c m))) - 48))], [])) 6 hz (by rw [show (.inl (i2 + 1) : zV) = .inl (w32 (i2 + 1)) from by rw [w32_id (by omega)]]; rfl) ?_
                          refine ih339 (i2 + 1) (w32 ((w32 ((w32 (10 * v)) + (c m))) - 48)) (by omega) ?_
                          · refine ⟨m + 1, by omega, by omega, by omega, by omega, ?_, (xrD_y (by omega) hdm).symm.trans d6, fun q h1 h2 => by by_cases e9 : q = m; (rw [e9]; exact hdm); exact d7 q h1 (by omega)⟩
                            rw [show m + 1 - j = (m - j) + 1 by omega, d5]
                            show _ = w32 (w32 (w32 (10 * xrV c j (m - j)) + c (j + (m - j))) - 48)
                            rw [show j + (m - j) = m by omega]
                        · skip
                          have e7 : m < xrD c (L - j) j := by rw [← d6, xrD_y (by omega) hdm]; have := xrD_r c (L - (m + 1)) (m + 1); omega
                          have e24 : xUn j (xrD c (L - j) j) 24 (xVl c L j) op W O = if 6 < ((xrD c (L - j) j : Nat) : Int) - (j : Int) then (xrD c (L - j) j, true, op, W, O, 10 * (j : Int) + 2, false) else (xrD c (L - j) j, false, op, W, xVl c L j :: O, -1, false) := rfl
                          rw [e24, if_pos (by omega)] at hst
                          have hFt : xFt c L = 10 * (j : Int) + 2 := yFt1 hst (by show ¬ 10 * (j : Int) + 2 = -1; omega) (by omega)
                          have hOf := hO5
                          refine zH_w (c' := (383, [zR 97, .inl a1, .inl (L : Int), .inl x, .inl i2, .inl (c j), .inl i, .inl v], [.inl (w32 ((w32 (10 * i)) + 2))])) 5 hz rfl ?_
                          exact zH_wr (r := some (.inl (w32 ((w32 (10 * i)) + 2)))) 0 hz (by rfl) (⟨by rw [hFt, x2, w32_id (x := 10 * (j : Int)) (by omega), w32_id (by omega)], hOf, fun q => absurd (hFt.symm.trans q) (by omega)⟩)
                refine lp339 (101) i 0 (by omega) ?_
                · exact ⟨j, Nat.le_refl _, by omega, x2, by omega, by rw [Nat.sub_self]; rfl, rfl, fun q h1 h2 => absurd h1 (by omega)⟩
            · skip
              have hdue : ¬ due = true := fun q => hb243 (by rw [x7, if_pos q])
              have hS8 : yS Mo (xrE 8 W O).1 (xrE 8 W O).2 M5 := by have q := x13; rw [show yM due W O = xrE 8 W O from if_neg hdue] at q; exact q
              have l8 := xrE_len 8 W O
              refine zH_wi_ne (pc := 250) (n' := 253) (t := 260) (L := [zR 97, .inl a1, .inl (L : Int), .inl x, .inl i, .inl (c j), u6, u7]) (st := []) (x := (c j)) (y := 41) 2 hz (by rfl) (fun hb250 => ?_) (fun hb250 => ?_)
              · skip
                refine zH_wE (c1 := (265, [zR 97, .inl a1, .inl (L : Int), .inl x, .inl i, .inl (c j), u6, u7], [])) 1 hz zp_227 (fh_227 (c j)) (by rfl) ?_
                show zH n (0, 0) 231 (265, [zR 97, .inl a1, .inl (L : Int), .inl x, .inl i, .inl (c j), u6, u7], [.inl (hf_227 M5 (c j))]) M5 _
                rw [y227]
                obtain ⟨sg, hsg⟩ : ∃ x : Int, x = (if 15 ≤ xrG (c j) ∧ xrG (c j) ≤ 21 then yw (xrG (c j)) else -1) := ⟨_, rfl⟩
                rw [← hsg]
                refine zH_w (c' := (266, [zR 97, .inl a1, .inl (L : Int), .inl x, .inl i, .inl (c j), u6, u7], [.inl (-1), .inl sg])) 1 hz rfl ?_
                refine zH_wi_eq (pc := 266) (n' := 269) (t := 285) (L := [zR 97, .inl a1, .inl (L : Int), .inl x, .inl i, .inl (c j), u6, u7]) (st := []) (x := sg) (y := (-1)) 0 hz (by rfl) (fun hb266 => ?_) (fun hb266 => ?_)
                · skip
                  have nr : ¬ (15 ≤ xrG (c j) ∧ xrG (c j) ≤ 21) := fun q => by rw [if_pos q] at hsg; exact (y_is (k := xrG (c j)) (by unfold yWk; omega)).2.2.2.2 (by omega)
                  have hFt := ySgn0 x1 hB hdue hjL hnl nr hb250 (by omega)
                  have hOf := hO5
                  refine zH_w (c' := (300, [zR 97, .inl a1, .inl (L : Int), .inl x, .inl i, .inl (c j), .inl 1, u7], [.inl (w32 ((w32 (10 * i)) + 1))])) 9 hz rfl ?_
                  exact zH_wr (r := some (.inl (w32 ((w32 (10 * i)) + 1)))) 0 hz (by rfl) (⟨by rw [hFt, x2, w32_id (x := 10 * (j : Int)) (by omega), w32_id (by omega)], hOf, fun q => absurd (hFt.symm.trans q) (by omega)⟩)
                · skip
                  have rg : 15 ≤ xrG (c j) ∧ xrG (c j) ≤ 21 := by by_cases q : 15 ≤ xrG (c j) ∧ xrG (c j) ≤ 21; exact q; (rw [if_neg q] at hsg; omega)
                  have hndg : ¬ (48 ≤ c j ∧ c j ≤ 57) := by rcases xrG_all (c j) with ⟨h, e⟩ | ⟨h, e⟩ | ⟨h, e⟩ | ⟨h, e⟩ | ⟨h, e⟩ | ⟨h, e⟩ | ⟨h, e⟩ | ⟨h, e⟩ | ⟨h, e⟩ | ⟨h, e⟩ <;> omega
                  obtain ⟨tE, tK, tW⟩ := yTk hjL hndg hnl
                  have tW0 : xWy c L j = 0 := by rw [tW, if_neg (by omega)]
                  refine zH_wE (c1 := (275, [zR 97, .inl a1, .inl (L : Int), .inl x, .inl i, .inl (c j), u6, u7], [zR 97])) 2 hz zp_227 (fh_227 (c j)) (by rfl) ?_
                  show zH n (0, 0) 231 (275, [zR 97, .inl a1, .inl (L : Int), .inl x, .inl i, .inl (c j), u6, u7], [.inl (hf_227 M5 (c j)), zR 97]) M5 _
                  rw [y227]
                  rw [if_pos rg]
                  refine zH_wC (c1 := (278, [zR 97, .inl a1, .inl (L : Int), .inl x, .inl i, .inl (c j), u6, u7], [])) 0 hz zp_228 (fh_228_97 hS8 (xrE_F 8 W O x11).w (by omega) (xrE_F 8 W O x11) (xrG (c j)) (by unfold yGk; omega) (yw (xrG (c j))) rfl) (by rfl) ?_
                  rintro _ M7 ⟨rfl, hO7, hG7, hk7⟩
                  show zH n (0, 0) 231 (278, [zR 97, .inl a1, .inl (L : Int), .inl x, .inl i, .inl (c j), u6, u7], [.inl (if (yG (xrG (c j)) (xrE 8 W O).1 (xrE 8 W O).2).isSome = true then 1 else 0)]) M7 _
                  obtain ⟨g, hg⟩ : ∃ x : Int, x = (if (yG (xrG (c j)) (xrE 8 W O).1 (xrE 8 W O).2).isSome = true then 1 else 0) := ⟨_, rfl⟩
                  rw [← hg]
                  refine zH_if_eq hz rfl (fun hb278 => ?_) (fun hb278 => ?_)
                  · skip
                    have hn : yG (xrG (c j)) (xrE 8 W O).1 (xrE 8 W O).2 = none := by
                      cases q : yG (xrG (c j)) (xrE 8 W O).1 (xrE 8 W O).2 with
                      | none => rfl
                      | some p => rw [q] at hg; have hg : g = 1 := hg; omega
                    have hst := st.2.2 tW0 hdue
                    rw [tK] at hst
                    have hst := hst.trans ((yB (kd := (xrG (c j))) (by unfold yGk; omega)).1 hn)
                    have hFt : xFt c L = 10 * (j : Int) + 1 := yFt1 hst (by show ¬ 10 * (j : Int) + 1 = -1; omega) (by omega)
                    have hOf := hO7
                    refine zH_w (c' := (300, [zR 97, .inl a1, .inl (L : Int), .inl x, .inl i, .inl (c j), .inl 1, u7], [.inl (w32 ((w32 (10 * i)) + 1))])) 9 hz rfl ?_
                    exact zH_wr (r := some (.inl (w32 ((w32 (10 * i)) + 1)))) 0 hz (by rfl) (⟨by rw [hFt, x2, w32_id (x := 10 * (j : Int)) (by omega), w32_id (by omega)], hOf, fun q => absurd (hFt.symm.trans q) (by omega)⟩)
                  · skip
                    have hp : ∃ p, yG (xrG (c j)) (xrE 8 W O).1 (xrE 8 W O).2 = some p := Option.isSome_iff_exists.mp (by by_cases q : (yG (xrG (c j)) (xrE 8 W O).1 (xrE 8 W O).2).isSome = true; exact q; (rw [if_neg q] at hg; omega))
                    obtain ⟨⟨W2, O2⟩, hp⟩ := hp
                    have hS7 := hG7 W2 O2 hp
                    have fF := yG_F (kd := (xrG (c j))) (by unfold yGk; omega) (xrE_F 8 W O x11) hp
                    have hst := st.2.2 tW0 hdue
                    rw [tK, tE] at hst
                    have hst := hst.trans ((yB (kd := (xrG (c j))) (by unfold yGk; omega)).2 W2 O2 hp)
                    have hI2 : yI Mo c L 0 (i + 1) M7 := yI.mk hst (by omega) (by omega) (hk7.1.trans x8) (by omega) (by omega) fF.1 (by have := fF.2; omega) hS7 rfl (by omega)
                    refine zH_w (c' := (305, [zR 97, .inl a1, .inl (L : Int), .inl x, .inl i, .inl (c j), .inl 0, u7], [.inl 41, .inl (c j)])) 7 hz rfl ?_
                    refine zH_wi_ne (pc := 305) (n' := 308) (t := 312) (L := [zR 97, .inl a1, .inl (L : Int), .inl x, .inl i, .inl (c j), .inl 0, u7]) (st := []) (x := (c j)) (y := 41) 0 hz (by rfl) (fun hb305 => ?_) (fun hb305 => ?_)
                    · skip
                      refine zH_w (c' := (27, [zR 97, .inl a1, .inl (L : Int), .inl 0, .inl (i + 1), .inl (c j), .inl 0, u7], [])) 5 hz (by rw [show (.inl (i + 1) : zV) = .inl (w32 (i + 1)) from by rw [w32_id (by omega)]]; rfl) ?_
                      refine ih27 0 (i + 1) (.inl (c j)) (.inl 0) u7 M7 (by omega) ?_
                      · exact hI2
                    · skip
                      exact absurd hb305 (by omega)
              · skip
                obtain ⟨tE, tK, tW⟩ := yTk hjL (by omega) hnl
                have g23 : xrG (c j) = 23 := xrG_is.2.1.mpr (by omega)
                rw [g23] at tK tW
                have tW0 : xWy c L j = 0 := tW
                refine zH_w (c' := (254, [zR 97, .inl a1, .inl (L : Int), .inl x, .inl i, .inl (c j), u6, u7], [zR 97])) 1 hz rfl ?_
                refine zH_wC (c1 := (257, [zR 97, .inl a1, .inl (L : Int), .inl x, .inl i, .inl (c j), u6, u7], [])) 0 hz zp_232 (fh_232_97 hS8 (xrE_F 8 W O x11).w (by omega) (xrE_F 8 W O x11)) (by rfl) ?_
                rintro _ M7 ⟨rfl, hO7, hC7, hk7⟩
                show zH n (0, 0) 231 (257, [zR 97, .inl a1, .inl (L : Int), .inl x, .inl i, .inl (c j), u6, u7], [.inl (if (xrT (xrE 3 (xrE 8 W O).1 (xrE 8 W O).2).1 = 1 ∨ ¬ xrT (xrE 1 (xrE 3 (xrE 8 W O).1 (xrE 8 W O).2).1 (xrE 3 (xrE 8 W O).1 (xrE 8 W O).2).2).1 = 22) then 1 else 0)]) M7 _
                have e3 := xrE_E (show (3 : Int) ≤ 8 by decide) W O
                rw [e3]
                rw [e3] at hC7
                obtain ⟨g, hg⟩ : ∃ x : Int, x = (if (xrT (xrE 3 W O).1 = 1 ∨ ¬ xrT (xrE 1 (xrE 3 W O).1 (xrE 3 W O).2).1 = 22) then 1 else 0) := ⟨_, rfl⟩
                rw [← hg]
                refine zH_w (c' := (290, [zR 97, .inl a1, .inl (L : Int), .inl x, .inl i, .inl (c j), .inl g, u7], [.inl g])) 3 hz rfl ?_
                refine zH_wf_eq (pc := 290) (n' := 293) (t := 301) (L := [zR 97, .inl a1, .inl (L : Int), .inl x, .inl i, .inl (c j), .inl g, u7]) (st := []) (x := g) 0 hz (by rfl) (fun hb290 => ?_) (fun hb290 => ?_)
                · skip
                  have cc : ¬ (xrT (xrE 3 W O).1 = 1 ∨ ¬ xrT (xrE 1 (xrE 3 W O).1 (xrE 3 W O).2).1 = 22) := fun q => by rw [if_pos q] at hg; omega
                  obtain ⟨hS7, zo⟩ := hC7 cc
                  have hst := st.2.2 tW0 hdue
                  rw [tK, tE] at hst
                  have e23 : xBh j (j + 1) 23 op W O = if (xrT (xrE 3 W O).1 = 1 ∨ ¬ xrT (xrE 1 (xrE 3 W O).1 (xrE 3 W O).2).1 = 22) then (j + 1, false, op, W, O, 10 * (j : Int) + 1, false) else (j + 1, false, op - 1, (xrE 1 (xrE 3 W O).1 (xrE 3 W O).2).1.tail, (xrE 1 (xrE 3 W O).1 (xrE 3 W O).2).2, -1, false) := rfl
                  rw [e23, if_neg cc] at hst
                  have l3 := xrE_len 3 W O
                  have l1 := xrE_len 1 (xrE 3 W O).1 (xrE 3 W O).2
                  have hI2 : yI Mo c L 1 (i + 1) M7 := yI.mk hst (by omega) (by omega) (by rw [zo, x8, w32_id (by omega)]) (by omega) (by omega) (xrE_F 1 _ _ (xrE_F 3 W O x11)).tail (by rw [List.length_tail]; omega) hS7 rfl (by omega)
                  refine zH_w (c' := (305, [zR 97, .inl a1, .inl (L : Int), .inl x, .inl i, .inl (c j), .inl g, u7], [.inl 41, .inl (c j)])) 2 hz rfl ?_
                  refine zH_wi_ne (pc := 305) (n' := 308) (t := 312) (L := [zR 97, .inl a1, .inl (L : Int), .inl x, .inl i, .inl (c j), .inl g, u7]) (st := []) (x := (c j)) (y := 41) 0 hz (by rfl) (fun hb305 => ?_) (fun hb305 => ?_)
                  · skip
                    exact absurd hb305 (by omega)
                  · skip
                    refine zH_w (c' := (27, [zR 97, .inl a1, .inl (L : Int), .inl 1, .inl (i + 1), .inl (c j), .inl g, u7], [])) 6 hz (by rw [show (.inl (i + 1) : zV) = .inl (w32 (i + 1)) from by rw [w32_id (by omega)]]; rfl) ?_
                    refine ih27 1 (i + 1) (.inl (c j)) (.inl g) u7 M7 (by omega) ?_
                    · exact hI2
                · skip
                  have cc : (xrT (xrE 3 W O).1 = 1 ∨ ¬ xrT (xrE 1 (xrE 3 W O).1 (xrE 3 W O).2).1 = 22) := by by_cases q : (xrT (xrE 3 W O).1 = 1 ∨ ¬ xrT (xrE 1 (xrE 3 W O).1 (xrE 3 W O).2).1 = 22); exact q; (rw [if_neg q] at hg; omega)
                  have hst := st.2.2 tW0 hdue
                  rw [tK, tE] at hst
                  have e23 : xBh j (j + 1) 23 op W O = if (xrT (xrE 3 W O).1 = 1 ∨ ¬ xrT (xrE 1 (xrE 3 W O).1 (xrE 3 W O).2).1 = 22) then (j + 1, false, op, W, O, 10 * (j : Int) + 1, false) else (j + 1, false, op - 1, (xrE 1 (xrE 3 W O).1 (xrE 3 W O).2).1.tail, (xrE 1 (xrE 3 W O).1 (xrE 3 W O).2).2, -1, false) := rfl
                  rw [e23, if_pos cc] at hst
                  have hFt : xFt c L = 10 * (j : Int) + 1 := yFt1 hst (by show ¬ 10 * (j : Int) + 1 = -1; omega) (by omega)
                  have hOf := hO7
                  refine zH_w (c' := (300, [zR 97, .inl a1, .inl (L : Int), .inl x, .inl i, .inl (c j), .inl g, u7], [.inl (w32 ((w32 (10 * i)) + 1))])) 5 hz rfl ?_
                  exact zH_wr (r := some (.inl (w32 ((w32 (10 * i)) + 1)))) 0 hz (by rfl) (⟨by rw [hFt, x2, w32_id (x := 10 * (j : Int)) (by omega), w32_id (by omega)], hOf, fun q => absurd (hFt.symm.trans q) (by omega)⟩)
          · skip
            have hlt : 97 ≤ c j ∧ c j ≤ 122 := by rw [hy1, hq_180] at hb68; omega
            obtain ⟨e, he⟩ : ∃ e : Nat, e = xrL c (L - j) j := ⟨_, rfl⟩
            have er : j < e ∧ e ≤ L := by rw [he, xrL_y hjL hlt]; have := xrL_r c (L - (j + 1)) (j + 1); omega
            obtain ⟨kd, hkd⟩ : ∃ k : Int, k = xrW c j e := ⟨_, rfl⟩
            obtain ⟨tE, tK, tW⟩ := yTw hjL hlt he hkd
            have kr : -1 ≤ kd ∧ kd ≤ 14 := by rw [hkd]; exact xrW_r c j e
            have yfk := y_f kr
            refine zH_w (c' := (76, [zR 97, .inl a1, .inl (L : Int), .inl x, .inl i, .inl (c j), u6, u7], [.inl (L : Int), .inl i, .inl a1, zR 97])) 4 hz rfl ?_
            refine zH_wC (c1 := (79, [zR 97, .inl a1, .inl (L : Int), .inl x, .inl i, .inl (c j), u6, u7], [])) 0 hz zp_229 (fh_229_97 hLb hL hb hc (hO5 98 (by decide) (by decide) (by decide) (by decide)) a1 i (L : Int) ha1 x2 rfl (by omega)) (by rfl) ?_
            rintro _ M6 ⟨rfl, hM6⟩
            show zH n (0, 0) 231 (79, [zR 97, .inl a1, .inl (L : Int), .inl x, .inl i, .inl (c j), u6, u7], [.inr (.inl (if 7 < xrL c (L - j) j - j then 0 else xrN c j (xrL c (L - j) j - j)))]) M6 _
            have hS6 : yS Mo (yM due W O).1 (yM due W O).2 M6 := by rw [hM6]; exact x13.f (by decide) (by decide)
            have z13 : M6 97 13 = (e : Int) := by rw [hM6, qput_eq, he]
            have z12 : M6 97 12 = op := by rw [hM6, qput_nk (by decide)]; exact x8
            refine zH_wE (c1 := (82, [zR 97, .inl a1, .inl (L : Int), .inl x, .inl i, .inl (c j), u6, u7], [])) 0 hz zp_230 (fh_230 (if 7 < xrL c (L - j) j - j then 0 else xrN c j (xrL c (L - j) j - j))) (by rfl) ?_
            show zH n (0, 0) 231 (82, [zR 97, .inl a1, .inl (L : Int), .inl x, .inl i, .inl (c j), u6, u7], [.inl (hf_230 M6 (if 7 < xrL c (L - j) j - j then 0 else xrN c j (xrL c (L - j) j - j)))]) M6 _
            rw [yWord (xrL_r c (L - j) j).1 (xrL_in c (L - j) j)]
            rw [← he]
            rw [← hkd]
            obtain ⟨wd, hwd⟩ : ∃ x : Int, x = (yf kd) := ⟨_, rfl⟩
            rw [← hwd]
            refine zH_w (c' := (87, [zR 97, .inl a1, .inl (L : Int), .inl x, .inl i, .inl (c j), .inl wd, u7], [.inl (-1), .inl wd])) 3 hz rfl ?_
            refine zH_wi_ne (pc := 87) (n' := 90) (t := 98) (L := [zR 97, .inl a1, .inl (L : Int), .inl x, .inl i, .inl (c j), .inl wd, u7]) (st := []) (x := wd) (y := (-1)) 0 hz (by rfl) (fun hb87 => ?_) (fun hb87 => ?_)
            · skip
              have kk : ¬ kd = -1 := fun q => hb87 (by rw [hwd]; exact yfk.1.mpr q)
              have tW0 : xWy c L j = 0 := by rw [tW, if_neg kk]
              refine zH_wi_le (pc := 102) (n' := 105) (t := 109) (L := [zR 97, .inl a1, .inl (L : Int), .inl x, .inl i, .inl (c j), .inl wd, u7]) (st := []) (x := wd) (y := 9) 2 hz (by rfl) (fun hb102 => ?_) (fun hb102 => ?_)
              · skip
                have kge : 5 ≤ kd := by omega
                refine zH_wi_ne (pc := 111) (n' := 114) (t := 175) (L := [zR 97, .inl a1, .inl (L : Int), .inl x, .inl i, .inl (c j), .inl wd, u7]) (st := []) (x := 0) (y := x) 2 hz (by rfl) (fun hb111 => ?_) (fun hb111 => ?_)
                · skip
                  have hdue : ¬ due = true := fun q => hb111 (by rw [x7, if_pos q])
                  have hst := st.2.2 tW0 hdue
                  rw [tK, yBh_no (by omega)] at hst
                  have hFt : xFt c L = 10 * (j : Int) + 1 := yFt1 hst (by show ¬ 10 * (j : Int) + 1 = -1; omega) (by omega)
                  have hOf := hS6.1
                  refine zH_w (c' := (182, [zR 97, .inl a1, .inl (L : Int), .inl x, .inl i, .inl (c j), .inl wd, u7], [.inl (w32 ((w32 (10 * i)) + 1))])) 5 hz rfl ?_
                  exact zH_wr (r := some (.inl (w32 ((w32 (10 * i)) + 1)))) 0 hz (by rfl) (⟨by rw [hFt, x2, w32_id (x := 10 * (j : Int)) (by omega), w32_id (by omega)], hOf, fun q => absurd (hFt.symm.trans q) (by omega)⟩)
                · skip
                  obtain rfl : x = 0 := by omega
                  have hdue : due = true := by cases due; exact absurd x7 (by decide); rfl
                  have hSd : yS Mo W O M6 := by have q := hS6; rw [show yM due W O = (W, O) from if_pos hdue] at q; exact q
                  refine zH_w (c' := (187, [zR 97, .inl a1, .inl (L : Int), .inl 0, .inl i, .inl (c j), .inl wd, u7], [.inl 8, .inl wd])) 4 hz rfl ?_
                  refine zH_wi_ge (pc := 187) (n' := 190) (t := 208) (L := [zR 97, .inl a1, .inl (L : Int), .inl 0, .inl i, .inl (c j), .inl wd, u7]) (st := []) (x := wd) (y := 8) 0 hz (by rfl) (fun hb187 => ?_) (fun hb187 => ?_)
                  · skip
                    refine zH_wi_ge (pc := 212) (n' := 215) (t := 231) (L := [zR 97, .inl a1, .inl (L : Int), .inl 0, .inl i, .inl (c j), .inl wd, u7]) (st := []) (x := wd) (y := 10) 2 hz (by rfl) (fun hb212 => ?_) (fun hb212 => ?_)
                    · skip
                      exact absurd hb212 (by omega)
                    · skip
                      refine zH_wi_ne (pc := 220) (n' := 223) (t := 227) (L := [zR 97, .inl a1, .inl (L : Int), .inl 0, .inl i, .inl (c j), .inl wd, u7]) (st := [zR 97]) (x := wd) (y := 8) 3 hz (by rfl) (fun hb220 => ?_) (fun hb220 => ?_)
                      · skip
                        have k56 : kd = 6 := yfk.2.2.2.2.2.2.2.1.mp (by omega)
                        refine zH_wE (c1 := (231, [zR 97, .inl a1, .inl (L : Int), .inl 0, .inl i, .inl (c j), .inl wd, u7], [])) 1 hz zp_223 (fh_223_97 4) (by rfl) ?_
                        show zH n (0, 0) 231 (231, [zR 97, .inl a1, .inl (L : Int), .inl 0, .inl i, .inl (c j), .inl wd, u7], []) (hf_223_97 M6 4) _
                        have hp := hSd.push (k := kd) (x := 4) (by omega) (by rw [k56]; decide)
                        obtain ⟨M7, hM7⟩ : ∃ X : zM, X = hf_223_97 M6 4 := ⟨_, rfl⟩
                        rw [← hM7]
                        rw [← hM7] at hp
                        have hst := st.2.1 tW0 hdue
                        rw [tK, tE, yUn_pre (by omega)] at hst
                        have z137 : M7 97 13 = (e : Int) := hp.2.2.trans z13
                        have hI2 : yI Mo c L 0 (M7 97 13) M7 := yI.mk hst (by omega) (by omega) (hp.2.1.trans z12) (by omega) (by omega) ⟨by unfold yWk; omega, fun q => by omega, fun q => by omega, x11⟩ (by rw [List.length_cons]; omega) hp.1 rfl z137
                        refine zH_w (c' := (27, [zR 97, .inl a1, .inl (L : Int), .inl 0, .inl (M7 97 13), .inl (c j), .inl wd, u7], [])) 7 hz rfl ?_
                        refine ih27 0 (M7 97 13) (.inl (c j)) (.inl wd) u7 M7 (by omega) ?_
                        · exact hI2
                      · skip
                        have k56 : kd = 5 := yfk.2.2.2.2.2.2.1.mp (by omega)
                        refine zH_wE (c1 := (231, [zR 97, .inl a1, .inl (L : Int), .inl 0, .inl i, .inl (c j), .inl wd, u7], [])) 2 hz zp_223 (fh_223_97 2) (by rfl) ?_
                        show zH n (0, 0) 231 (231, [zR 97, .inl a1, .inl (L : Int), .inl 0, .inl i, .inl (c j), .inl wd, u7], []) (hf_223_97 M6 2) _
                        have hp := hSd.push (k := kd) (x := 2) (by omega) (by rw [k56]; decide)
                        obtain ⟨M7, hM7⟩ : ∃ X : zM, X = hf_223_97 M6 2 := ⟨_, rfl⟩
                        rw [← hM7]
                        rw [← hM7] at hp
                        have hst := st.2.1 tW0 hdue
                        rw [tK, tE, yUn_pre (by omega)] at hst
                        have z137 : M7 97 13 = (e : Int) := hp.2.2.trans z13
                        have hI2 : yI Mo c L 0 (M7 97 13) M7 := yI.mk hst (by omega) (by omega) (hp.2.1.trans z12) (by omega) (by omega) ⟨by unfold yWk; omega, fun q => by omega, fun q => by omega, x11⟩ (by rw [List.length_cons]; omega) hp.1 rfl z137
                        refine zH_w (c' := (27, [zR 97, .inl a1, .inl (L : Int), .inl 0, .inl (M7 97 13), .inl (c j), .inl wd, u7], [])) 7 hz rfl ?_
                        refine ih27 0 (M7 97 13) (.inl (c j)) (.inl wd) u7 M7 (by omega) ?_
                        · exact hI2
                  · skip
                    have k7 : 7 ≤ kd := by omega
                    refine zH_wE (c1 := (197, [zR 97, .inl a1, .inl (L : Int), .inl 0, .inl i, .inl (c j), .inl wd, u7], [])) 3 hz zp_220 (fh_220_97 1 wd) (by rfl) ?_
                    show zH n (0, 0) 231 (197, [zR 97, .inl a1, .inl (L : Int), .inl 0, .inl i, .inl (c j), .inl wd, u7], []) (hf_220_97 M6 1 wd) _
                    have he9 := hSd.emit (v := -kd - 1) (x := 1) (y := wd) (by omega) (by unfold ys; rw [if_neg (by omega), if_pos (by omega)]) (by unfold yv; rw [if_neg (by omega), if_pos (by omega), hwd, yfk.2.2.2.2.2.2.2.2.2.1 k7]; omega)
                    refine zH_wC (c1 := (203, [zR 97, .inl a1, .inl (L : Int), .inl 0, .inl i, .inl (c j), .inl wd, u7], [])) 2 hz zp_224 (fh_224_97 he9.1 x11.w (by rw [List.length_cons]; omega) 8 (by decide)) (by rfl) ?_
                    rintro _ M7 ⟨rfl, hS7, hk7⟩
                    show zH n (0, 0) 231 (203, [zR 97, .inl a1, .inl (L : Int), .inl 0, .inl i, .inl (c j), .inl wd, u7], []) M7 _
                    have hst := st.2.1 tW0 hdue
                    rw [tK, tE, yUn_name (by omega)] at hst
                    have z137 : M7 97 13 = (e : Int) := hk7.2.trans (he9.2.2.trans z13)
                    have hI2 : yI Mo c L 1 (M7 97 13) M7 := yI.mk hst (by omega) (by omega) (hk7.1.trans (he9.2.1.trans z12)) (by omega) (by omega) x11 (by rw [List.length_cons]; omega) hS7 rfl z137
                    refine zH_w (c' := (27, [zR 97, .inl a1, .inl (L : Int), .inl 1, .inl (M7 97 13), .inl (c j), .inl wd, u7], [])) 8 hz rfl ?_
                    refine ih27 1 (M7 97 13) (.inl (c j)) (.inl wd) u7 M7 (by omega) ?_
                    · exact hI2
              · skip
                have kle : kd ≤ 4 := by omega
                refine zH_wi_ne (pc := 111) (n' := 114) (t := 175) (L := [zR 97, .inl a1, .inl (L : Int), .inl x, .inl i, .inl (c j), .inl wd, u7]) (st := []) (x := 1) (y := x) 3 hz (by rfl) (fun hb111 => ?_) (fun hb111 => ?_)
                · skip
                  have hdue : due = true := by cases due; exact absurd x7.symm hb111; rfl
                  have hst := st.2.1 tW0 hdue
                  rw [tK, yUn_no (by omega)] at hst
                  have hFt : xFt c L = 10 * (j : Int) + 1 := yFt1 hst (by show ¬ 10 * (j : Int) + 1 = -1; omega) (by omega)
                  have hOf := hS6.1
                  refine zH_w (c' := (182, [zR 97, .inl a1, .inl (L : Int), .inl x, .inl i, .inl (c j), .inl wd, u7], [.inl (w32 ((w32 (10 * i)) + 1))])) 5 hz rfl ?_
                  exact zH_wr (r := some (.inl (w32 ((w32 (10 * i)) + 1)))) 0 hz (by rfl) (⟨by rw [hFt, x2, w32_id (x := 10 * (j : Int)) (by omega), w32_id (by omega)], hOf, fun q => absurd (hFt.symm.trans q) (by omega)⟩)
                · skip
                  obtain rfl : x = 1 := by omega
                  have hdue : ¬ due = true := fun q => by rw [if_pos q] at x7; exact absurd x7 (by decide)
                  have hS8 : yS Mo (xrE 8 W O).1 (xrE 8 W O).2 M6 := by have q := hS6; rw [show yM due W O = xrE 8 W O from if_neg hdue] at q; exact q
                  have l8 := xrE_len 8 W O
                  refine zH_w (c' := (123, [zR 97, .inl a1, .inl (L : Int), .inl 1, .inl i, .inl (c j), .inl wd, u7], [.inl 10, .inl wd, zR 97])) 5 hz rfl ?_
                  refine zH_wi_ne (pc := 123) (n' := 126) (t := 131) (L := [zR 97, .inl a1, .inl (L : Int), .inl 1, .inl i, .inl (c j), .inl wd, u7]) (st := [zR 97]) (x := wd) (y := 10) 0 hz (by rfl) (fun hb123 => ?_) (fun hb123 => ?_)
                  · skip
                    refine zH_wi_ne (pc := 135) (n' := 138) (t := 143) (L := [zR 97, .inl a1, .inl (L : Int), .inl 1, .inl i, .inl (c j), .inl wd, u7]) (st := [zR 97]) (x := wd) (y := 11) 2 hz (by rfl) (fun hb135 => ?_) (fun hb135 => ?_)
                    · skip
                      refine zH_wi_ne (pc := 147) (n' := 150) (t := 155) (L := [zR 97, .inl a1, .inl (L : Int), .inl 1, .inl i, .inl (c j), .inl wd, u7]) (st := [zR 97]) (x := wd) (y := 12) 2 hz (by rfl) (fun hb147 => ?_) (fun hb147 => ?_)
                      · skip
                        refine zH_wi_ne (pc := 159) (n' := 162) (t := 167) (L := [zR 97, .inl a1, .inl (L : Int), .inl 1, .inl i, .inl (c j), .inl wd, u7]) (st := [zR 97]) (x := wd) (y := 13) 2 hz (by rfl) (fun hb159 => ?_) (fun hb159 => ?_)
                        · skip
                          have hw9 : wd = 14 := by omega
                          have kx : kd = 0 := yfk.2.2.2.2.2.1.mp (by omega)
                          subst hw9
                          subst kx
                          refine zH_w (c' := (169, [zR 97, .inl a1, .inl (L : Int), .inl 1, .inl i, .inl (c j), .inl 14, u7], [.inl 15, zR 97])) 1 hz rfl ?_
                          refine zH_wC (c1 := (172, [zR 97, .inl a1, .inl (L : Int), .inl 1, .inl i, .inl (c j), .inl 14, u7], [])) 0 hz zp_228 (fh_228_97 hS8 (xrE_F 8 W O x11).w (by omega) (xrE_F 8 W O x11) 0 (by unfold yGk; omega) 15 (by decide)) (by rfl) ?_
                          rintro _ M7 ⟨rfl, hO7, hG7, hk7⟩
                          show zH n (0, 0) 231 (172, [zR 97, .inl a1, .inl (L : Int), .inl 1, .inl i, .inl (c j), .inl 14, u7], [.inl (if (yG 0 (xrE 8 W O).1 (xrE 8 W O).2).isSome = true then 1 else 0)]) M7 _
                          obtain ⟨g, hg⟩ : ∃ x : Int, x = (if (yG 0 (xrE 8 W O).1 (xrE 8 W O).2).isSome = true then 1 else 0) := ⟨_, rfl⟩
                          rw [← hg]
                          refine zH_if_ne hz rfl (fun hb172 => ?_) (fun hb172 => ?_)
                          · skip
                            have hp : ∃ p, yG 0 (xrE 8 W O).1 (xrE 8 W O).2 = some p := Option.isSome_iff_exists.mp (by by_cases q : (yG 0 (xrE 8 W O).1 (xrE 8 W O).2).isSome = true; exact q; (rw [if_neg q] at hg; omega))
                            obtain ⟨⟨W2, O2⟩, hp⟩ := hp
                            have hS7 := hG7 W2 O2 hp
                            have fF := yG_F (kd := 0) (by unfold yGk; omega) (xrE_F 8 W O x11) hp
                            have hst := st.2.2 tW0 hdue
                            rw [tK, tE] at hst
                            have hst := hst.trans ((yB (kd := 0) (by unfold yGk; omega)).2 W2 O2 hp)
                            have hI2 : yI Mo c L 0 (M7 97 13) M7 := yI.mk hst (by omega) (by omega) (hk7.1.trans z12) (by omega) (by omega) fF.1 (by have := fF.2; omega) hS7 rfl (hk7.2.trans z13)
                            have z137 : M7 97 13 = (e : Int) := hk7.2.trans z13
                            refine zH_w (c' := (27, [zR 97, .inl a1, .inl (L : Int), .inl 0, .inl (M7 97 13), .inl (c j), .inl 14, u7], [])) 13 hz rfl ?_
                            refine ih27 0 (M7 97 13) (.inl (c j)) (.inl 14) u7 M7 (by omega) ?_
                            · exact hI2
                          · skip
                            have hn : yG 0 (xrE 8 W O).1 (xrE 8 W O).2 = none := by
                              cases q : yG 0 (xrE 8 W O).1 (xrE 8 W O).2 with
                              | none => rfl
                              | some p => rw [q] at hg; have hg : g = 1 := hg; omega
                            have hst := st.2.2 tW0 hdue
                            rw [tK] at hst
                            have hst := hst.trans ((yB (kd := 0) (by unfold yGk; omega)).1 hn)
                            have hFt : xFt c L = 10 * (j : Int) + 1 := yFt1 hst (by show ¬ 10 * (j : Int) + 1 = -1; omega) (by omega)
                            have hOf := hO7
                            refine zH_w (c' := (182, [zR 97, .inl a1, .inl (L : Int), .inl 1, .inl i, .inl (c j), .inl 14, u7], [.inl (w32 ((w32 (10 * i)) + 1))])) 5 hz rfl ?_
                            exact zH_wr (r := some (.inl (w32 ((w32 (10 * i)) + 1)))) 0 hz (by rfl) (⟨by rw [hFt, x2, w32_id (x := 10 * (j : Int)) (by omega), w32_id (by omega)], hOf, fun q => absurd (hFt.symm.trans q) (by omega)⟩)
                        · skip
                          have hw9 : wd = 13 := by omega
                          have kx : kd = 2 := yfk.2.2.2.2.1.mp (by omega)
                          subst hw9
                          subst kx
                          refine zH_w (c' := (169, [zR 97, .inl a1, .inl (L : Int), .inl 1, .inl i, .inl (c j), .inl 13, u7], [.inl 17, zR 97])) 2 hz rfl ?_
                          refine zH_wC (c1 := (172, [zR 97, .inl a1, .inl (L : Int), .inl 1, .inl i, .inl (c j), .inl 13, u7], [])) 0 hz zp_228 (fh_228_97 hS8 (xrE_F 8 W O x11).w (by omega) (xrE_F 8 W O x11) 2 (by unfold yGk; omega) 17 (by decide)) (by rfl) ?_
                          rintro _ M7 ⟨rfl, hO7, hG7, hk7⟩
                          show zH n (0, 0) 231 (172, [zR 97, .inl a1, .inl (L : Int), .inl 1, .inl i, .inl (c j), .inl 13, u7], [.inl (if (yG 2 (xrE 8 W O).1 (xrE 8 W O).2).isSome = true then 1 else 0)]) M7 _
                          obtain ⟨g, hg⟩ : ∃ x : Int, x = (if (yG 2 (xrE 8 W O).1 (xrE 8 W O).2).isSome = true then 1 else 0) := ⟨_, rfl⟩
                          rw [← hg]
                          refine zH_if_ne hz rfl (fun hb172 => ?_) (fun hb172 => ?_)
                          · skip
                            have hp : ∃ p, yG 2 (xrE 8 W O).1 (xrE 8 W O).2 = some p := Option.isSome_iff_exists.mp (by by_cases q : (yG 2 (xrE 8 W O).1 (xrE 8 W O).2).isSome = true; exact q; (rw [if_neg q] at hg; omega))
                            obtain ⟨⟨W2, O2⟩, hp⟩ := hp
                            have hS7 := hG7 W2 O2 hp
                            have fF := yG_F (kd := 2) (by unfold yGk; omega) (xrE_F 8 W O x11) hp
                            have hst := st.2.2 tW0 hdue
                            rw [tK, tE] at hst
                            have hst := hst.trans ((yB (kd := 2) (by unfold yGk; omega)).2 W2 O2 hp)
                            have hI2 : yI Mo c L 0 (M7 97 13) M7 := yI.mk hst (by omega) (by omega) (hk7.1.trans z12) (by omega) (by omega) fF.1 (by have := fF.2; omega) hS7 rfl (hk7.2.trans z13)
                            have z137 : M7 97 13 = (e : Int) := hk7.2.trans z13
                            refine zH_w (c' := (27, [zR 97, .inl a1, .inl (L : Int), .inl 0, .inl (M7 97 13), .inl (c j), .inl 13, u7], [])) 13 hz rfl ?_
                            refine ih27 0 (M7 97 13) (.inl (c j)) (.inl 13) u7 M7 (by omega) ?_
                            · exact hI2
                          · skip
                            have hn : yG 2 (xrE 8 W O).1 (xrE 8 W O).2 = none := by
                              cases q : yG 2 (xrE 8 W O).1 (xrE 8 W O).2 with
                              | none => rfl
                              | some p => rw [q] at hg; have hg : g = 1 := hg; omega
                            have hst := st.2.2 tW0 hdue
                            rw [tK] at hst
                            have hst := hst.trans ((yB (kd := 2) (by unfold yGk; omega)).1 hn)
                            have hFt : xFt c L = 10 * (j : Int) + 1 := yFt1 hst (by show ¬ 10 * (j : Int) + 1 = -1; omega) (by omega)
                            have hOf := hO7
                            refine zH_w (c' := (182, [zR 97, .inl a1, .inl (L : Int), .inl 1, .inl i, .inl (c j), .inl 13, u7], [.inl (w32 ((w32 (10 * i)) + 1))])) 5 hz rfl ?_
                            exact zH_wr (r := some (.inl (w32 ((w32 (10 * i)) + 1)))) 0 hz (by rfl) (⟨by rw [hFt, x2, w32_id (x := 10 * (j : Int)) (by omega), w32_id (by omega)], hOf, fun q => absurd (hFt.symm.trans q) (by omega)⟩)
                      · skip
                        have hw9 : wd = 12 := by omega
                        have kx : kd = 1 := yfk.2.2.2.1.mp (by omega)
                        subst hw9
                        subst kx
                        refine zH_w (c' := (169, [zR 97, .inl a1, .inl (L : Int), .inl 1, .inl i, .inl (c j), .inl 12, u7], [.inl 16, zR 97])) 2 hz rfl ?_
                        refine zH_wC (c1 := (172, [zR 97, .inl a1, .inl (L : Int), .inl 1, .inl i, .inl (c j), .inl 12, u7], [])) 0 hz zp_228 (fh_228_97 hS8 (xrE_F 8 W O x11).w (by omega) (xrE_F 8 W O x11) 1 (by unfold yGk; omega) 16 (by decide)) (by rfl) ?_
                        rintro _ M7 ⟨rfl, hO7, hG7, hk7⟩
                        show zH n (0, 0) 231 (172, [zR 97, .inl a1, .inl (L : Int), .inl 1, .inl i, .inl (c j), .inl 12, u7], [.inl (if (yG 1 (xrE 8 W O).1 (xrE 8 W O).2).isSome = true then 1 else 0)]) M7 _
                        obtain ⟨g, hg⟩ : ∃ x : Int, x = (if (yG 1 (xrE 8 W O).1 (xrE 8 W O).2).isSome = true then 1 else 0) := ⟨_, rfl⟩
                        rw [← hg]
                        refine zH_if_ne hz rfl (fun hb172 => ?_) (fun hb172 => ?_)
                        · skip
                          have hp : ∃ p, yG 1 (xrE 8 W O).1 (xrE 8 W O).2 = some p := Option.isSome_iff_exists.mp (by by_cases q : (yG 1 (xrE 8 W O).1 (xrE 8 W O).2).isSome = true; exact q; (rw [if_neg q] at hg; omega))
                          obtain ⟨⟨W2, O2⟩, hp⟩ := hp
                          have hS7 := hG7 W2 O2 hp
                          have fF := yG_F (kd := 1) (by unfold yGk; omega) (xrE_F 8 W O x11) hp
                          have hst := st.2.2 tW0 hdue
                          rw [tK, tE] at hst
                          have hst := hst.trans ((yB (kd := 1) (by unfold yGk; omega)).2 W2 O2 hp)
                          have hI2 : yI Mo c L 0 (M7 97 13) M7 := yI.mk hst (by omega) (by omega) (hk7.1.trans z12) (by omega) (by omega) fF.1 (by have := fF.2; omega) hS7 rfl (hk7.2.trans z13)
                          have z137 : M7 97 13 = (e : Int) := hk7.2.trans z13
                          refine zH_w (c' := (27, [zR 97, .inl a1, .inl (L : Int), .inl 0, .inl (M7 97 13), .inl (c j), .inl 12, u7], [])) 13 hz rfl ?_
                          refine ih27 0 (M7 97 13) (.inl (c j)) (.inl 12) u7 M7 (by omega) ?_
                          · exact hI2
                        · skip
                          have hn : yG 1 (xrE 8 W O).1 (xrE 8 W O).2 = none := by
                            cases q : yG 1 (xrE 8 W O).1 (xrE 8 W O).2 with
                            | none => rfl
                            | some p => rw [q] at hg; have hg : g = 1 := hg; omega
                          have hst := st.2.2 tW0 hdue
                          rw [tK] at hst
                          have hst := hst.trans ((yB (kd := 1) (by unfold yGk; omega)).1 hn)
                          have hFt : xFt c L = 10 * (j : Int) + 1 := yFt1 hst (by show ¬ 10 * (j : Int) + 1 = -1; omega) (by omega)
                          have hOf := hO7
                          refine zH_w (c' := (182, [zR 97, .inl a1, .inl (L : Int), .inl 1, .inl i, .inl (c j), .inl 12, u7], [.inl (w32 ((w32 (10 * i)) + 1))])) 5 hz rfl ?_
                          exact zH_wr (r := some (.inl (w32 ((w32 (10 * i)) + 1)))) 0 hz (by rfl) (⟨by rw [hFt, x2, w32_id (x := 10 * (j : Int)) (by omega), w32_id (by omega)], hOf, fun q => absurd (hFt.symm.trans q) (by omega)⟩)
                    · skip
                      have hw9 : wd = 11 := by omega
                      have kx : kd = 3 := yfk.2.2.1.mp (by omega)
                      subst hw9
                      subst kx
                      refine zH_w (c' := (169, [zR 97, .inl a1, .inl (L : Int), .inl 1, .inl i, .inl (c j), .inl 11, u7], [.inl 13, zR 97])) 2 hz rfl ?_
                      refine zH_wC (c1 := (172, [zR 97, .inl a1, .inl (L : Int), .inl 1, .inl i, .inl (c j), .inl 11, u7], [])) 0 hz zp_228 (fh_228_97 hS8 (xrE_F 8 W O x11).w (by omega) (xrE_F 8 W O x11) 3 (by unfold yGk; omega) 13 (by decide)) (by rfl) ?_
                      rintro _ M7 ⟨rfl, hO7, hG7, hk7⟩
                      show zH n (0, 0) 231 (172, [zR 97, .inl a1, .inl (L : Int), .inl 1, .inl i, .inl (c j), .inl 11, u7], [.inl (if (yG 3 (xrE 8 W O).1 (xrE 8 W O).2).isSome = true then 1 else 0)]) M7 _
                      obtain ⟨g, hg⟩ : ∃ x : Int, x = (if (yG 3 (xrE 8 W O).1 (xrE 8 W O).2).isSome = true then 1 else 0) := ⟨_, rfl⟩
                      rw [← hg]
                      refine zH_if_ne hz rfl (fun hb172 => ?_) (fun hb172 => ?_)
                      · skip
                        have hp : ∃ p, yG 3 (xrE 8 W O).1 (xrE 8 W O).2 = some p := Option.isSome_iff_exists.mp (by by_cases q : (yG 3 (xrE 8 W O).1 (xrE 8 W O).2).isSome = true; exact q; (rw [if_neg q] at hg; omega))
                        obtain ⟨⟨W2, O2⟩, hp⟩ := hp
                        have hS7 := hG7 W2 O2 hp
                        have fF := yG_F (kd := 3) (by unfold yGk; omega) (xrE_F 8 W O x11) hp
                        have hst := st.2.2 tW0 hdue
                        rw [tK, tE] at hst
                        have hst := hst.trans ((yB (kd := 3) (by unfold yGk; omega)).2 W2 O2 hp)
                        have hI2 : yI Mo c L 0 (M7 97 13) M7 := yI.mk hst (by omega) (by omega) (hk7.1.trans z12) (by omega) (by omega) fF.1 (by have := fF.2; omega) hS7 rfl (hk7.2.trans z13)
                        have z137 : M7 97 13 = (e : Int) := hk7.2.trans z13
                        refine zH_w (c' := (27, [zR 97, .inl a1, .inl (L : Int), .inl 0, .inl (M7 97 13), .inl (c j), .inl 11, u7], [])) 13 hz rfl ?_
                        refine ih27 0 (M7 97 13) (.inl (c j)) (.inl 11) u7 M7 (by omega) ?_
                        · exact hI2
                      · skip
                        have hn : yG 3 (xrE 8 W O).1 (xrE 8 W O).2 = none := by
                          cases q : yG 3 (xrE 8 W O).1 (xrE 8 W O).2 with
                          | none => rfl
                          | some p => rw [q] at hg; have hg : g = 1 := hg; omega
                        have hst := st.2.2 tW0 hdue
                        rw [tK] at hst
                        have hst := hst.trans ((yB (kd := 3) (by unfold yGk; omega)).1 hn)
                        have hFt : xFt c L = 10 * (j : Int) + 1 := yFt1 hst (by show ¬ 10 * (j : Int) + 1 = -1; omega) (by omega)
                        have hOf := hO7
                        refine zH_w (c' := (182, [zR 97, .inl a1, .inl (L : Int), .inl 1, .inl i, .inl (c j), .inl 11, u7], [.inl (w32 ((w32 (10 * i)) + 1))])) 5 hz rfl ?_
                        exact zH_wr (r := some (.inl (w32 ((w32 (10 * i)) + 1)))) 0 hz (by rfl) (⟨by rw [hFt, x2, w32_id (x := 10 * (j : Int)) (by omega), w32_id (by omega)], hOf, fun q => absurd (hFt.symm.trans q) (by omega)⟩)
                  · skip
                    have hw9 : wd = 10 := by omega
                    have kx : kd = 4 := yfk.2.1.mp (by omega)
                    subst hw9
                    subst kx
                    refine zH_w (c' := (169, [zR 97, .inl a1, .inl (L : Int), .inl 1, .inl i, .inl (c j), .inl 10, u7], [.inl 12, zR 97])) 2 hz rfl ?_
                    refine zH_wC (c1 := (172, [zR 97, .inl a1, .inl (L : Int), .inl 1, .inl i, .inl (c j), .inl 10, u7], [])) 0 hz zp_228 (fh_228_97 hS8 (xrE_F 8 W O x11).w (by omega) (xrE_F 8 W O x11) 4 (by unfold yGk; omega) 12 (by decide)) (by rfl) ?_
                    rintro _ M7 ⟨rfl, hO7, hG7, hk7⟩
                    show zH n (0, 0) 231 (172, [zR 97, .inl a1, .inl (L : Int), .inl 1, .inl i, .inl (c j), .inl 10, u7], [.inl (if (yG 4 (xrE 8 W O).1 (xrE 8 W O).2).isSome = true then 1 else 0)]) M7 _
                    obtain ⟨g, hg⟩ : ∃ x : Int, x = (if (yG 4 (xrE 8 W O).1 (xrE 8 W O).2).isSome = true then 1 else 0) := ⟨_, rfl⟩
                    rw [← hg]
                    refine zH_if_ne hz rfl (fun hb172 => ?_) (fun hb172 => ?_)
                    · skip
                      have hp : ∃ p, yG 4 (xrE 8 W O).1 (xrE 8 W O).2 = some p := Option.isSome_iff_exists.mp (by by_cases q : (yG 4 (xrE 8 W O).1 (xrE 8 W O).2).isSome = true; exact q; (rw [if_neg q] at hg; omega))
                      obtain ⟨⟨W2, O2⟩, hp⟩ := hp
                      have hS7 := hG7 W2 O2 hp
                      have fF := yG_F (kd := 4) (by unfold yGk; omega) (xrE_F 8 W O x11) hp
                      have hst := st.2.2 tW0 hdue
                      rw [tK, tE] at hst
                      have hst := hst.trans ((yB (kd := 4) (by unfold yGk; omega)).2 W2 O2 hp)
                      have hI2 : yI Mo c L 0 (M7 97 13) M7 := yI.mk hst (by omega) (by omega) (hk7.1.trans z12) (by omega) (by omega) fF.1 (by have := fF.2; omega) hS7 rfl (hk7.2.trans z13)
                      have z137 : M7 97 13 = (e : Int) := hk7.2.trans z13
                      refine zH_w (c' := (27, [zR 97, .inl a1, .inl (L : Int), .inl 0, .inl (M7 97 13), .inl (c j), .inl 10, u7], [])) 13 hz rfl ?_
                      refine ih27 0 (M7 97 13) (.inl (c j)) (.inl 10) u7 M7 (by omega) ?_
                      · exact hI2
                    · skip
                      have hn : yG 4 (xrE 8 W O).1 (xrE 8 W O).2 = none := by
                        cases q : yG 4 (xrE 8 W O).1 (xrE 8 W O).2 with
                        | none => rfl
                        | some p => rw [q] at hg; have hg : g = 1 := hg; omega
                      have hst := st.2.2 tW0 hdue
                      rw [tK] at hst
                      have hst := hst.trans ((yB (kd := 4) (by unfold yGk; omega)).1 hn)
                      have hFt : xFt c L = 10 * (j : Int) + 1 := yFt1 hst (by show ¬ 10 * (j : Int) + 1 = -1; omega) (by omega)
                      have hOf := hO7
                      refine zH_w (c' := (182, [zR 97, .inl a1, .inl (L : Int), .inl 1, .inl i, .inl (c j), .inl 10, u7], [.inl (w32 ((w32 (10 * i)) + 1))])) 5 hz rfl ?_
                      exact zH_wr (r := some (.inl (w32 ((w32 (10 * i)) + 1)))) 0 hz (by rfl) (⟨by rw [hFt, x2, w32_id (x := 10 * (j : Int)) (by omega), w32_id (by omega)], hOf, fun q => absurd (hFt.symm.trans q) (by omega)⟩)
            · skip
              have kk : kd = -1 := yfk.1.mp (by omega)
              have tW4 : xWy c L j = 4 := by rw [tW, if_pos kk]
              have hst := st.1 (by rw [tW4]; decide)
              have hFt : xFt c L = 10 * (j : Int) + 4 := (yFt1 hst (by show ¬ 10 * (j : Int) + xWy c L j = -1; omega) (by omega)).trans (by show 10 * (j : Int) + xWy c L j = _; rw [tW4])
              have hOf := hS6.1
              exact zH_wr (r := some (.inl (w32 ((w32 (10 * i)) + 4)))) 5 hz (by rfl) (⟨by rw [hFt, x2, w32_id (x := 10 * (j : Int)) (by omega), w32_id (by omega)], hOf, fun q => absurd (hFt.symm.trans q) (by omega)⟩)
        · skip
          have hI2 : yI Mo c L x (i + 1) M5 := ⟨t, i0, j + 1, due, op, W, O, x1, ⟨by omega, x3, by omega, by omega⟩, x6.trans (xrB_y hjL (by omega)), x7, ⟨x8, x9, x10⟩, x11, x12, x13⟩
          refine zH_w (c' := (27, [zR 97, .inl a1, .inl (L : Int), .inl x, .inl (i + 1), .inl (c j), u6, u7], [])) 3 hz (by rw [show (.inl (i + 1) : zV) = .inl (w32 (i + 1)) from by rw [w32_id (by omega)]]; rfl) ?_
          refine ih27 x (i + 1) (.inl (c j)) u6 u7 M5 (by omega) ?_
          · exact hI2
  refine lp27 (201) 0 0 zN zN zN M1 (by omega) ?_
  · exact hI0
set_option maxRecDepth 100000 in
theorem fh_150_8 {n : Nat} {M : zM} (a1 : Int) (hp : 0 ≤ a1 ∧ a1 ≤ 7 → xP M a1) (t70 : M 70 0 = 80 ∧ M 70 1 = 1) : zH n (0, 0) 150 (0, zini [zR 8, .inl a1] 2, []) M (fun r _ => r = some (.inl (if 0 ≤ a1 ∧ a1 ≤ 7 then xFt (xc M a1) (xL M a1) else -2))) := by
  have hz := zp_150
  show zH n (0, 0) 150 (0, [zR 8, .inl a1], []) M _
  refine zH_wE (c1 := (4, [zR 8, .inl a1], [])) 1 hz zp_173 (fh_173 a1) (by rfl) ?_
  show zH n (0, 0) 150 (4, [zR 8, .inl a1], [.inl (hf_173 M a1)]) M _
  obtain ⟨y, hy⟩ : ∃ x : Int, x = (hf_173 M a1) := ⟨_, rfl⟩
  rw [← hy]
  refine zH_if_eq hz rfl (fun hb4 => ?_) (fun hb4 => ?_)
  · skip
    have h7 : ¬ (0 ≤ a1 ∧ a1 ≤ 7) := by rw [hy, hq_173] at hb4; exact hb4
    refine zH_w (c' := (20, [zR 8, .inl a1], [.inl (-2)])) 1 hz rfl ?_
    refine zH_ret hz rfl rfl ?_
    first
      | (rw [if_pos h7, xFt_81])
      | (rw [if_neg h7])
  · skip
    have h7 : 0 ≤ a1 ∧ a1 ≤ 7 := by rw [hy, hq_173] at hb4; omega
    refine zH_w (c' := (12, [zR 8, .inl a1], [.inl a1, zR 67])) 3 hz rfl ?_
    refine zH_wC (c1 := (15, [zR 8, .inl a1], [])) 0 hz zp_75 (fh_75_67 a1 (hp h7) t70) (by rfl) ?_
    rintro _ M1 ⟨rfl, -⟩
    show zH n (0, 0) 150 (15, [zR 8, .inl a1], [.inl ((xIt (xc M a1) (xL M a1) 81).2.2.2.2.2.1)]) M1 _
    refine zH_w (c' := (20, [zR 8, .inl a1], [.inl ((xIt (xc M a1) (xL M a1) 81).2.2.2.2.2.1)])) 1 hz rfl ?_
    refine zH_ret hz rfl rfl ?_
    first
      | (rw [if_pos h7, xFt_81])
      | (rw [if_neg h7])
set_option maxRecDepth 100000 in
theorem fh_255_97 {n : Nat} {M : zM} (hq : qMI M) (a1 : Int) : zH n (0, 0) 255 (0, zini [zR 97, .inl a1] 2, []) M (fun r _ => r = some (.inl (if 0 ≤ a1 ∧ a1 ≤ 7 then xFt (xc M a1) (xL M a1) else -2))) := by
  have hz := zp_255
  show zH n (0, 0) 255 (0, [zR 97, .inl a1], []) M _
  refine zH_wE (c1 := (4, [zR 97, .inl a1], [])) 1 hz zp_252 (fh_252 a1) (by rfl) ?_
  show zH n (0, 0) 255 (4, [zR 97, .inl a1], [.inl (hf_252 M a1)]) M _
  obtain ⟨y, hy⟩ : ∃ x : Int, x = (hf_252 M a1) := ⟨_, rfl⟩
  rw [← hy]
  refine zH_if_eq hz rfl (fun hb4 => ?_) (fun hb4 => ?_)
  · skip
    have h7 : ¬ (0 ≤ a1 ∧ a1 ≤ 7) := by rw [hy, hq_252] at hb4; exact hb4
    refine zH_w (c' := (24, [zR 97, .inl a1], [.inl (-2)])) 1 hz rfl ?_
    refine zH_ret hz rfl rfl ?_
    first
      | (rw [if_pos h7])
      | (rw [if_neg h7])
  · skip
    have h7 : 0 ≤ a1 ∧ a1 ≤ 7 := by rw [hy, hq_252] at hb4; omega
    have q := hq.txt a1 (3350 + 81 * a1) (by omega) rfl
    rw [show (3350 + 81 * a1).toNat = 3350 + 81 * a1.toNat by omega] at q
    have hLb : M 98 (3350 + 81 * a1.toNat) = (xL M a1 : Int) := by unfold xL; omega
    have hL : xL M a1 ≤ 80 := by unfold xL; omega
    have hc : ∀ j, j < xL M a1 → M 98 (3350 + 81 * a1.toNat + 1 + j) = xc M a1 j := fun j _ => by unfold xc; rw [show 3350 + 81 * a1.toNat + 1 + j = 3351 + 81 * a1.toNat + j by omega]
    refine zH_w (c' := (16, [zR 97, .inl a1], [.inl (w32 (3350 + (w32 (81 * a1)))), zR 97])) 6 hz rfl ?_
    refine zH_wC (c1 := (19, [zR 97, .inl a1], [])) 0 hz zp_231 (fh_231_97 (Mo := M) hLb hL (by omega) hc (fun _ _ _ _ _ => rfl) (fun _ _ => rfl) (w32 (3350 + (w32 (81 * a1)))) (by rw [w32_id (x := 81 * a1) (by omega), w32_id (by omega)]; omega)) (by rfl) ?_
    rintro _ M1 ⟨rfl, -, -⟩
    show zH n (0, 0) 255 (19, [zR 97, .inl a1], [.inl (xFt (xc M a1) (xL M a1))]) M1 _
    refine zH_w (c' := (24, [zR 97, .inl a1], [.inl (xFt (xc M a1) (xL M a1))])) 1 hz rfl ?_
    refine zH_ret hz rfl rfl ?_
    first
      | (rw [if_pos h7])
      | (rw [if_neg h7])
