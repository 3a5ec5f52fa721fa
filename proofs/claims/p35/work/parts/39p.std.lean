/-! WHETHER A MEETING STANDS, ON BOTH SIDES -/
section ZS
variable {n : Nat} {ct : Nat × Nat} {μ : Nat} {Q : Option zV → zM → Prop} {M : zM} {code : List zE} {mL : Nat} {B : Nat × Nat} {pc : Nat} {L st : List zV}
theorem zH_sw {n' t b : Nat} {z df lo hi y : Int} {offs : Array Int} {ts : List Nat} (hm : zP μ = (code, mL, B)) (he : zat code pc = some (pc, .tableswitch df lo hi offs, n', (t, b, z, ts))) (K : zH n ct μ (zts lo y t ts, L, st) M Q) : zH n ct μ (pc, L, .inl y :: st) M Q := zH_one hm he rfl K
theorem zts_none {lo x : Int} {d : Nat} {ts : List Nat} (h : ∀ q : Nat, q < ts.length → ¬ x = lo + q) : zts lo x d ts = d := by
  unfold zts
  by_cases hx : x < lo
  · rw [if_pos hx]
  · rw [if_neg hx, List.getD_eq_getElem?_getD, List.getElem?_eq_none (Nat.le_of_not_lt (fun hl => h _ hl (by omega)))]; rfl
theorem zH_ldiv {n' : Nat} {x9 : zX} {x y : Int} (hm : zP μ = (code, mL, B)) (he : zat code pc = some (pc, .ldiv, n', x9)) (K : ¬ y = 0 → zH n ct μ (n', L, .inr (.inl (w64 (x.tdiv y))) :: st) M Q) : zH n ct μ (pc, L, .inr (.inl y) :: .inr (.inl x) :: st) M Q := by
  refine zH_gen hm he (fun o ho => ?_)
  have ho : zl2d (fun a b => w64 (a.tdiv b)) n' L (.inr (.inl y) :: .inr (.inl x) :: st) (zSH n, M, ct.1, ct.2) = some o := ho
  simp only [zl2d] at ho
  by_cases hy : y = 0
  · rw [if_pos hy] at ho; cases ho
  · rw [if_neg hy] at ho; cases ho; exact ⟨_, _, rfl, K hy⟩
theorem zH_lrem {n' : Nat} {x9 : zX} {x y : Int} (hm : zP μ = (code, mL, B)) (he : zat code pc = some (pc, .lrem, n', x9)) (K : ¬ y = 0 → zH n ct μ (n', L, .inr (.inl (x.tmod y)) :: st) M Q) : zH n ct μ (pc, L, .inr (.inl y) :: .inr (.inl x) :: st) M Q := by
  refine zH_gen hm he (fun o ho => ?_)
  have ho : zl2d (fun a b => a.tmod b) n' L (.inr (.inl y) :: .inr (.inl x) :: st) (zSH n, M, ct.1, ct.2) = some o := ho
  simp only [zl2d] at ho
  by_cases hy : y = 0
  · rw [if_pos hy] at ho; cases ho
  · rw [if_neg hy] at ho; cases ho; exact ⟨_, _, rfl, K hy⟩
end ZS
noncomputable def hb1 (a : Int) : Int := w32 (a - zband (zbushr a 1) 1431655765)
noncomputable def hb2 (a : Int) : Int := w32 (zband a 858993459 + zband (zbushr a 2) 858993459)
noncomputable def hb3 (a : Int) : Int := zband (w32 (a + zbushr a 4)) 252645135
noncomputable def hb4 (a : Int) : Int := w32 (a + zbushr a 8)
noncomputable def hb5 (a : Int) : Int := w32 (a + zbushr a 16)
noncomputable def hf_296 (_M : zM) (a : Int) : Int := zband (hb5 (hb4 (hb3 (hb2 (hb1 a))))) 63
set_option maxRecDepth 100000 in
theorem fh_296 {n : Nat} {M : zM} (a : Int) : zH n (0, 0) 296 (0, zini [.inl a] 1, []) M (fun r M' => r = some (.inl (hf_296 M a)) ∧ M' = M) := by
  have hz := zp_296
  show zH n (0, 0) 296 (0, [.inl a], []) M _
  refine zH_w (c' := (10, [.inl (hb1 a)], [])) 8 hz rfl ?_
  obtain ⟨b, hb⟩ : ∃ b, b = hb1 a := ⟨_, rfl⟩
  rw [← hb]
  refine zH_w (c' := (24, [.inl (hb2 b)], [])) 10 hz rfl ?_
  obtain ⟨c, hc⟩ : ∃ c, c = hb2 b := ⟨_, rfl⟩
  rw [← hc]
  refine zH_w (c' := (34, [.inl (hb3 c)], [])) 8 hz rfl ?_
  obtain ⟨d, hd⟩ : ∃ d, d = hb3 c := ⟨_, rfl⟩
  rw [← hd]
  refine zH_w (c' := (41, [.inl (hb4 d)], [])) 6 hz rfl ?_
  obtain ⟨e, he⟩ : ∃ e, e = hb4 d := ⟨_, rfl⟩
  rw [← he]
  refine zH_w (c' := (48, [.inl (hb5 e)], [])) 6 hz rfl ?_
  refine zH_w (c' := (52, [.inl (hb5 e)], [.inl (zband (hb5 e) 63)])) 3 hz rfl ?_
  refine zH_ret hz rfl rfl ⟨?_, rfl⟩
  rw [he, hd, hc, hb]
  rfl
set_option maxRecDepth 100000 in
theorem hbc_all : ∀ v : Fin 1024, zband (hb5 (hb4 (hb3 (hb2 (hb1 (v.val : Int)))))) 63 = (qpc 31 v.val : Nat) := by decide +kernel
theorem hbc {M : zM} {a : Int} (ha : 0 ≤ a ∧ a ≤ 1023) : hf_296 M a = (qpc 31 a.toNat : Nat) := by
  have q := hbc_all ⟨a.toNat, by omega⟩
  unfold hf_296
  rw [show ((⟨a.toNat, by omega⟩ : Fin 1024).val : Int) = a by show (a.toNat : Int) = a; omega] at q
  exact q
noncomputable def hf_20_9 (M : zM) (a1 : Int) : Int :=
  (if (hR_has M 16 a1) = 0 then 0 else (if ¬ (hR_get M 16 a1 4) = 1 then (if ¬ (zband (hR_get M 14 (hR_get M 16 a1 0) 0) (hR_get M 16 a1 2)) = (hR_get M 14 (hR_get M 16 a1 0) 0) then 0 else (if (hf_296 M (zband (hR_get M 14 (hR_get M 16 a1 0) 0) (hR_get M 16 a1 3))) < (hR_get M 14 (hR_get M 16 a1 0) 1) then 0 else 1)) else 0))
set_option maxRecDepth 100000 in
theorem fh_20_9 {n : Nat} {M : zM} (a1 : Int) : zH n (0, 0) 20 (0, zini [zR 9, .inl a1] 5, []) M (fun r M' => r = some (.inl (hf_20_9 M a1)) ∧ M' = M) := by
  have hz := zp_20
  have hE : hf_20_9 M a1 = hf_20_9 M a1 := rfl
  show zH n (0, 0) 20 (0, [zR 9, .inl a1, zN, zN, zN], []) M _
  refine zH_wE (c1 := (8, [zR 9, .inl a1, zN, zN, zN], [])) 3 hz zp_102 (fh_102_16 a1) (by rfl) ?_
  show zH n (0, 0) 20 (8, [zR 9, .inl a1, zN, zN, zN], [.inl (hR_has M 16 a1)]) M _
  refine zH_wf_eq (pc := 8) (n' := 11) (t := 24) (L := [zR 9, .inl a1, zN, zN, zN]) (st := []) (x := (hR_has M 16 a1)) 0 hz (by rfl) (fun hb => ?_) (fun hb => ?_)
  · have hE := hE.trans (if_pos hb)
    refine zH_w (c' := (25, [zR 9, .inl a1, zN, zN, zN], [.inl 0])) 1 hz rfl ?_
    exact zH_zret hz rfl (hfinP hE)
  · have hE := hE.trans (if_neg hb)
    refine zH_wE (c1 := (20, [zR 9, .inl a1, zN, zN, zN], [])) 4 hz zp_106 (fh_106_16 a1 4) (by rfl) ?_
    show zH n (0, 0) 20 (20, [zR 9, .inl a1, zN, zN, zN], [.inl (hR_get M 16 a1 4)]) M _
    refine zH_wi_ne (pc := 21) (n' := 24) (t := 26) (L := [zR 9, .inl a1, zN, zN, zN]) (st := []) (x := (hR_get M 16 a1 4)) (y := 1) 1 hz (by rfl) (fun hb => ?_) (fun hb => ?_)
    · have hE := hE.trans (if_pos hb)
      refine zH_wE (c1 := (35, [zR 9, .inl a1, zN, zN, zN], [])) 4 hz zp_106 (fh_106_16 a1 0) (by rfl) ?_
      show zH n (0, 0) 20 (35, [zR 9, .inl a1, zN, zN, zN], [.inl (hR_get M 16 a1 0)]) M _
      refine zH_wE (c1 := (45, [zR 9, .inl a1, .inl (hR_get M 16 a1 0), zN, zN], [])) 5 hz zp_106 (fh_106_14 (hR_get M 16 a1 0) 0) (by rfl) ?_
      show zH n (0, 0) 20 (45, [zR 9, .inl a1, .inl (hR_get M 16 a1 0), zN, zN], [.inl (hR_get M 14 (hR_get M 16 a1 0) 0)]) M _
      refine zH_wE (c1 := (56, [zR 9, .inl a1, .inl (hR_get M 16 a1 0), .inl (hR_get M 14 (hR_get M 16 a1 0) 0), zN], [.inl (hR_get M 14 (hR_get M 16 a1 0) 0)])) 6 hz zp_106 (fh_106_16 a1 2) (by rfl) ?_
      show zH n (0, 0) 20 (56, [zR 9, .inl a1, .inl (hR_get M 16 a1 0), .inl (hR_get M 14 (hR_get M 16 a1 0) 0), zN], [.inl (hR_get M 16 a1 2), .inl (hR_get M 14 (hR_get M 16 a1 0) 0)]) M _
      refine zH_wi_ne (pc := 58) (n' := 61) (t := 65) (L := [zR 9, .inl a1, .inl (hR_get M 16 a1 0), .inl (hR_get M 14 (hR_get M 16 a1 0) 0), zN]) (st := []) (x := (zband (hR_get M 14 (hR_get M 16 a1 0) 0) (hR_get M 16 a1 2))) (y := (hR_get M 14 (hR_get M 16 a1 0) 0)) 2 hz (by rfl) (fun hb => ?_) (fun hb => ?_)
      · have hE := hE.trans (if_pos hb)
        refine zH_w (c' := (104, [zR 9, .inl a1, .inl (hR_get M 16 a1 0), .inl (hR_get M 14 (hR_get M 16 a1 0) 0), .inl 0], [.inl 0])) 5 hz rfl ?_
        exact zH_zret hz rfl (hfinP hE)
      · have hE := hE.trans (if_neg hb)
        refine zH_w (c' := (80, [zR 9, .inl a1, .inl (hR_get M 16 a1 0), .inl (hR_get M 14 (hR_get M 16 a1 0) 0), .inl 1], [.inl 3, .inl a1, zR 16, .inl (hR_get M 14 (hR_get M 16 a1 0) 0)])) 10 hz rfl ?_
        refine zH_wE (c1 := (83, [zR 9, .inl a1, .inl (hR_get M 16 a1 0), .inl (hR_get M 14 (hR_get M 16 a1 0) 0), .inl 1], [.inl (hR_get M 14 (hR_get M 16 a1 0) 0)])) 0 hz zp_106 (fh_106_16 a1 3) (by rfl) ?_
        show zH n (0, 0) 20 (83, [zR 9, .inl a1, .inl (hR_get M 16 a1 0), .inl (hR_get M 14 (hR_get M 16 a1 0) 0), .inl 1], [.inl (hR_get M 16 a1 3), .inl (hR_get M 14 (hR_get M 16 a1 0) 0)]) M _
        refine zH_wE (c1 := (87, [zR 9, .inl a1, .inl (hR_get M 16 a1 0), .inl (hR_get M 14 (hR_get M 16 a1 0) 0), .inl 1], [])) 1 hz zp_296 (fh_296 (zband (hR_get M 14 (hR_get M 16 a1 0) 0) (hR_get M 16 a1 3))) (by rfl) ?_
        show zH n (0, 0) 20 (87, [zR 9, .inl a1, .inl (hR_get M 16 a1 0), .inl (hR_get M 14 (hR_get M 16 a1 0) 0), .inl 1], [.inl (hf_296 M (zband (hR_get M 14 (hR_get M 16 a1 0) 0) (hR_get M 16 a1 3)))]) M _
        refine zH_wE (c1 := (96, [zR 9, .inl a1, .inl (hR_get M 16 a1 0), .inl (hR_get M 14 (hR_get M 16 a1 0) 0), .inl 1], [.inl (hf_296 M (zband (hR_get M 14 (hR_get M 16 a1 0) 0) (hR_get M 16 a1 3)))])) 4 hz zp_106 (fh_106_14 (hR_get M 16 a1 0) 1) (by rfl) ?_
        show zH n (0, 0) 20 (96, [zR 9, .inl a1, .inl (hR_get M 16 a1 0), .inl (hR_get M 14 (hR_get M 16 a1 0) 0), .inl 1], [.inl (hR_get M 14 (hR_get M 16 a1 0) 1), .inl (hf_296 M (zband (hR_get M 14 (hR_get M 16 a1 0) 0) (hR_get M 16 a1 3)))]) M _
        refine zH_wi_lt (pc := 96) (n' := 99) (t := 103) (L := [zR 9, .inl a1, .inl (hR_get M 16 a1 0), .inl (hR_get M 14 (hR_get M 16 a1 0) 0), .inl 1]) (st := []) (x := (hf_296 M (zband (hR_get M 14 (hR_get M 16 a1 0) 0) (hR_get M 16 a1 3)))) (y := (hR_get M 14 (hR_get M 16 a1 0) 1)) 0 hz (by rfl) (fun hb => ?_) (fun hb => ?_)
        · have hE := hE.trans (if_pos hb)
          refine zH_w (c' := (104, [zR 9, .inl a1, .inl (hR_get M 16 a1 0), .inl (hR_get M 14 (hR_get M 16 a1 0) 0), .inl 1], [.inl 0])) 1 hz rfl ?_
          exact zH_zret hz rfl (hfinP hE)
        · have hE := hE.trans (if_neg hb)
          refine zH_w (c' := (104, [zR 9, .inl a1, .inl (hR_get M 16 a1 0), .inl (hR_get M 14 (hR_get M 16 a1 0) 0), .inl 1], [.inl 1])) 2 hz rfl ?_
          exact zH_zret hz rfl (hfinP hE)
    · have hE := hE.trans (if_neg hb)
      refine zH_w (c' := (25, [zR 9, .inl a1, zN, zN, zN], [.inl 0])) 1 hz rfl ?_
      exact zH_zret hz rfl (hfinP hE)
noncomputable def hf_128_8 (M : zM) (a1 : Int) : Int :=
  (if ¬ (hR_has M 16 a1) = 0 then (if (hf_20_9 M a1) = 0 then 0 else 1) else (-2))
set_option maxRecDepth 100000 in
theorem fh_128_8 {n : Nat} {M : zM} (a1 : Int) : zH n (0, 0) 128 (0, zini [zR 8, .inl a1] 2, []) M (fun r M' => r = some (.inl (hf_128_8 M a1)) ∧ M' = M) := by
  have hz := zp_128
  have hE : hf_128_8 M a1 = hf_128_8 M a1 := rfl
  show zH n (0, 0) 128 (0, [zR 8, .inl a1], []) M _
  refine zH_wE (c1 := (11, [zR 8, .inl a1], [])) 4 hz zp_102 (fh_102_16 a1) (by rfl) ?_
  show zH n (0, 0) 128 (11, [zR 8, .inl a1], [.inl (hR_has M 16 a1)]) M _
  refine zH_wf_ne (pc := 11) (n' := 14) (t := 17) (L := [zR 8, .inl a1]) (st := []) (x := (hR_has M 16 a1)) 0 hz (by rfl) (fun hb => ?_) (fun hb => ?_)
  · have hE := hE.trans (if_pos hb)
    refine zH_wE (c1 := (25, [zR 8, .inl a1], [])) 3 hz zp_20 (fh_20_9 a1) (by rfl) ?_
    show zH n (0, 0) 128 (25, [zR 8, .inl a1], [.inl (hf_20_9 M a1)]) M _
    refine zH_wf_eq (pc := 25) (n' := 28) (t := 32) (L := [zR 8, .inl a1]) (st := []) (x := (hf_20_9 M a1)) 0 hz (by rfl) (fun hb => ?_) (fun hb => ?_)
    · have hE := hE.trans (if_pos hb)
      exact zH_wr (r := some (.inl 0)) 1 hz (by rfl) (hfinP hE)
    · have hE := hE.trans (if_neg hb)
      exact zH_wr (r := some (.inl 1)) 2 hz (by rfl) (hfinP hE)
  · have hE := hE.trans (if_neg hb)
    exact zH_wr (r := some (.inl (-2))) 1 hz (by rfl) (hfinP hE)
theorem fh_193 {n : Nat} {M : zM} (hC : qMI M) (a : Int) (ha : qin a) : zH n (0, 0) 193 (0, zini [zR 97, .inl a] 2, []) M (fun r M' => r = some (.inl (if 0 ≤ a ∧ a < M 98 3 then qStN M a else -2)) ∧ M' = M) := by
  have hz := zp_193
  have hb := hC.cnt3
  show zH n (0, 0) 193 (0, [zR 97, .inl a], []) M _
  refine zH_wE (c1 := (6, [zR 97, .inl a], [])) 3 hz zp_182 (fh_182_97 3 a) (by rfl) ?_
  show zH n (0, 0) 193 (6, [zR 97, .inl a], [.inl (hf_182_97 M 3 a)]) M _
  have q := hq_182_3 (a := a) (show hBd M from ⟨hC.cnt0, hC.cnt1, hC.cnt2, hC.cnt3, hC.cnt4, hC.cnt5, hC.cnt6⟩)
  refine zH_wf_ne (pc := 6) (n' := 9) (t := 14) (L := [zR 97, .inl a]) (st := []) (x := (hf_182_97 M 3 a)) 0 hz (by rfl) (fun h1 => ?_) (fun h1 => ?_)
  · have hr : 0 ≤ a ∧ a < M 98 3 := by omega
    refine zH_wC (c1 := (19, [zR 97, .inl a], [])) 2 hz zp_192 ((qm_192_97 (d := 100) (by decide) hC a (by omega)).toH) (by rfl) ?_
    rintro _ M1 ⟨rfl, x, rfl, hx, hx2⟩
    show zH n (0, 0) 193 (19, [zR 97, .inl a], [.inl x]) M1 _
    refine zH_wf_eq (pc := 19) (n' := 22) (t := 26) (L := [zR 97, .inl a]) (st := []) (x := x) 0 hz (by rfl) (fun h2 => ?_) (fun h2 => ?_)
    · exact zH_wr (r := some (.inl 0)) 1 hz (by rfl) ⟨by rw [if_pos hr, ← hx2, h2], rfl⟩
    · exact zH_wr (r := some (.inl 1)) 2 hz (by rfl) ⟨by rw [if_pos hr, ← hx2, show x = 1 by omega], rfl⟩
  · exact zH_wr (r := some (.inl (-2))) 2 hz (by rfl) ⟨by rw [if_neg (by omega)], rfl⟩
section HP
variable {M : zM} {a : Int}
theorem hg16 (h : hHs M 9 (M 98)) (hT : hTb M) (ha : 0 ≤ a ∧ a < 40) {b : Int} (hb : 0 ≤ b ∧ b < 5) : hR_get M 16 a b = M 98 (150 + 5 * a + b).toNat := by
  rw [hG_16 hT ha hb, h.2.2.2.1.2.1 _ (by omega), show 150 + (5 * a.toNat + b.toNat) = (150 + 5 * a + b).toNat by omega]
theorem hg14 (h : hHs M 9 (M 98)) (hT : hTb M) (ha : 0 ≤ a ∧ a < 4) {b : Int} (hb : 0 ≤ b ∧ b < 2) : hR_get M 14 a b = M 98 (140 + 2 * a + b).toNat := by
  rw [hG_14 hT ha hb, h.2.2.1.2 _ (by omega), show 140 + (2 * a.toNat + b.toNat) = (140 + 2 * a + b).toNat by omega]
theorem hm_20 (h : hHs M 9 (M 98)) (hT : hTb M) (hB : hBd M) (hin : qin (qSeats M a)) (hbr : 0 ≤ qMt M a 0 ∧ qMt M a 0 ≤ 3) (ha : 0 ≤ a ∧ a < M 98 3) : hf_20_9 M a = qStN M a := by
  have k3 : M 16 3 = M 98 3 := h.2.2.2.1.1
  have b3 := hB.2.2.2.1
  have g := (h.2.2.2.1.2.2 a.toNat (by omega)).2
  have e4 : hR_get M 16 a 4 = qMt M a 4 := hg16 h hT (by omega) (by decide)
  have e0 : hR_get M 16 a 0 = qMt M a 0 := hg16 h hT (by omega) (by decide)
  have e2 : hR_get M 16 a 2 = qMt M a 2 := hg16 h hT (by omega) (by decide)
  have e3 : hR_get M 16 a 3 = qMt M a 3 := hg16 h hT (by omega) (by decide)
  have s0 : hR_get M 14 (qMt M a 0) 0 = qSeats M a := by rw [hg14 h hT (by omega) (by decide)]; unfold qSeats; rw [show (140 + 2 * qMt M a 0 + 0).toNat = (140 + 2 * qMt M a 0).toNat by omega]
  have s1 : hR_get M 14 (qMt M a 0) 1 = qQuor M a := hg14 h hT (by omega) (by decide)
  have v4 : qMt M a 4 = 0 ∨ qMt M a 4 = 1 := by
    have := g.1
    rw [show 154 + 5 * a.toNat = (150 + 5 * a + 4).toNat by omega] at this
    exact this
  have v3 : 0 ≤ qMt M a 3 ∧ qMt M a 3 ≤ 1023 := by
    have := g.2
    rw [show 153 + 5 * a.toNat = (150 + 5 * a + 3).toNat by omega] at this
    exact this
  have hb1 := qband_r (qSeats M a) (qMt M a 3) hin (by omega)
  have hbc1 : hf_296 M (zband (qSeats M a) (qMt M a 3)) = (qpc 31 (zband (qMt M a 3) (qSeats M a)).toNat : Nat) := by rw [hbc (by omega), qand_comm]
  unfold hf_20_9
  simp only [hq_has, e0, e2, e3, e4, s0, s1, hbc1, qand_comm (qSeats M a) (qMt M a 2)]
  unfold qStN
  rw [if_neg (by omega)]
  (repeat' split) <;> first | omega | rfl
theorem hm_128 (h : hHs M 9 (M 98)) (hT : hTb M) (hC : qMI M) : hf_128_8 M a = if 0 ≤ a ∧ a < M 98 3 then qStN M a else -2 := by
  have k3 : M 16 3 = M 98 3 := h.2.2.2.1.1
  have hB : hBd M := ⟨hC.cnt0, hC.cnt1, hC.cnt2, hC.cnt3, hC.cnt4, hC.cnt5, hC.cnt6⟩
  have b3 := hC.cnt3
  have q01 : qStN M a = 0 ∨ qStN M a = 1 := by unfold qStN; split; exact .inr rfl; exact .inl rfl
  unfold hf_128_8
  by_cases C : 0 ≤ a ∧ a < M 98 3
  · have hbr := hC.brd a (150 + 5 * a) (by omega) rfl
    rw [show (150 + 5 * a : Int) = 150 + 5 * a + 0 by omega] at hbr
    rw [hm_20 h hT hB (hC.sin _) hbr C, if_pos C]
    simp only [hq_has]
    (repeat' split) <;> omega
  · rw [if_neg C]
    simp only [hq_has]
    (repeat' split) <;> omega
end HP
