/-! WAYS: THE REFERENCE, WHAT IS LEFT -/
section WU
variable {L T : Nat → Nat} {n9 W P Nc : Nat} {M M' : zM}
/-- what is left of a part of what is wanted stands in the table -/
noncomputable def wTv (L T : Nat → Nat) (n9 W : Nat) (M : zM) (m : Nat) : Prop := ∀ t, t < 3 → ∃ v : Nat, M 114 (3 * m + t) = (v : Int) ∧ wFw L T n9 (W ^^^ m) t v
noncomputable def wLf (L T : Nat → Nat) (n9 W : Nat) (M : zM) : Prop := ∀ m, wSub m W → wTv L T n9 W M m
theorem wTv.mv {m : Nat} (h : wTv L T n9 W M m) (e : M' 114 = M 114) : wTv L T n9 W M' m := by unfold wTv; rw [e]; exact h
theorem wLf.mv (h : wLf L T n9 W M) (e : M' 114 = M 114) : wLf L T n9 W M' := fun m hm => (h m hm).mv e
theorem wXo {m S : Nat} (h : wSub m W) (hS : wSub S (W ^^^ m)) : wSub (m ||| S) W ∧ W ^^^ (m ||| S) = (W ^^^ m) ^^^ S := by
  have a : wSub (m ||| S) W := fun i q => by
    rw [Nat.testBit_or, Bool.or_eq_true] at q
    rcases q with q | q
    · exact h i q
    · exact ((wb_xor h i).mp (hS i q)).1
  refine ⟨a, Nat.eq_of_testBit_eq (fun i => ?_)⟩
  have e : ((W ^^^ (m ||| S)).testBit i = true) ↔ (((W ^^^ m) ^^^ S).testBit i = true) := by
    rw [wb_xor a, wb_xor hS, wb_xor h, Nat.testBit_or, Bool.or_eq_true]
    exact ⟨fun q => ⟨⟨q.1, fun z => q.2 (.inl z)⟩, fun z => q.2 (.inr z)⟩, fun q => ⟨q.1.1, fun z => z.elim q.1.2 q.2⟩⟩
  cases e1 : (W ^^^ (m ||| S)).testBit i <;> cases e2 : ((W ^^^ m) ^^^ S).testBit i <;> simp_all
theorem wXlt {m S : Nat} (h : wSub m W) (hS : wSub S (W ^^^ m)) (hn : S ≠ 0) : m < m ||| S := by
  have l := Nat.left_le_or (n := m) (m := S)
  rcases Nat.lt_or_ge m (m ||| S) with z | z
  · exact z
  · exfalso
    have e : m ||| S = m := by omega
    refine hn (wb_z (fun i q => ?_))
    have a := ((wb_xor h i).mp (hS i q)).2
    have b : (m ||| S).testBit i = true := by rw [Nat.testBit_or, q, Bool.or_true]
    rw [e] at b
    exact a b
theorem wXX {m : Nat} (h : wSub m W) (z : W ^^^ m = 0) : m = W := Nat.eq_of_testBit_eq (fun i => by
  have a := wb_xor h i
  rw [z] at a
  have b := h i
  cases e1 : m.testBit i <;> cases e2 : W.testBit i <;> simp_all)
/-- a full set's places -/
theorem wPc {l t S F : Nat} (hF : F = wF L T l t 14) (hS : wFull L T n9 l t S) : S &&& F = S ∧ wK 14 F S < 2 ^ wC F 14 ∧ wK 14 F S < 2 ^ 14 ∧ qpc 32 (wK 14 F S) = min n9 (wC F 14) := by
  have sF : wSub S F := by rw [hF]; exact hS.1
  have a := wAnd sF
  have l1 := wK_lt 14 F S
  rw [wqC] at l1
  have l2 : 2 ^ wC F 14 ≤ 2 ^ 14 := Nat.pow_le_pow_right (by decide) (wC_le F 14)
  refine ⟨a, l1, by omega, ?_⟩
  rw [wq32 (k := 14) (by decide) (by omega), wK_pc 14 a, wqC, hS.2, hF]
/-- what places come to -/
theorem wSp_full {l t S F p : Nat} (hF : F = wF L T l t 14) (hp : p < 2 ^ wC F 14) (hc : qpc 32 p = min n9 (wC F 14)) (hS : wSpr F p S) : wFull L T n9 l t S ∧ wK 14 F S = p := by
  have F14 : F < 2 ^ 14 := by rw [hF]; exact wF_lt _ _
  have k := wSpr_K F14 hp hS
  refine ⟨⟨by rw [← hF]; exact hS.sub, ?_⟩, k⟩
  have l2 : 2 ^ wC F 14 ≤ 2 ^ 14 := Nat.pow_le_pow_right (by decide) (wC_le F 14)
  have q := wK_pc 14 (wAnd hS.sub)
  rw [k, wqC S, ← wq32 (k := 14) (by decide) (by omega), hc] at q
  rw [← hF]; exact q.symm
/-- from places to the next -/
theorem wPn {l t S F p : Nat} (hF : F = wF L T l t 14) (h0 : 0 < p) (hp : p < 2 ^ wC F 14) (hc : qpc 32 p = min n9 (wC F 14)) (hS : wFull L T n9 l t S) (h : wK 14 F S < wGp p) : wK 14 F S ≤ p := by
  obtain ⟨a, b, c, d⟩ := wPc hF hS
  have l2 : 2 ^ wC F 14 ≤ 2 ^ 14 := Nat.pow_le_pow_right (by decide) (wC_le F 14)
  rcases Nat.lt_or_ge p (wK 14 F S) with z | z
  · have := (wGp_all h0 (by omega)).2.2.2 _ c z (by omega)
    omega
  · exact z
theorem wz_1s {c : Nat} (hc : c ≤ 14) : zbshl 1 (c : Int) = ((2 ^ c : Nat) : Int) ∧ 1 ≤ 2 ^ c ∧ 2 ^ c ≤ 16384 := by
  have hp : 1 ≤ 2 ^ c ∧ 2 ^ c ≤ 16384 := ⟨Nat.one_le_two_pow, Nat.pow_le_pow_right (n := 2) (by decide) hc⟩
  have s := qbshl_N 1 (c : Int) (by decide) (by omega) (by rw [Int.toNat_natCast]; show 1 * 2 ^ c < 2 ^ 31; omega)
  rw [Int.toNat_natCast, show (1 : Int).toNat = 1 from rfl, Nat.one_mul] at s
  exact ⟨s, hp⟩
theorem wAl {F : Nat} (h : wMy F M) (a : Int) (ha : a = (n9 : Int)) : hf_264_97 M a = ((min n9 (wC F 14) : Nat) : Int) := by
  unfold hf_264_97
  rw [h.1, ha]
  (repeat' split) <;> omega
/-- which terms are settled -/
noncomputable def okc (E : Nat → Bool) : Nat → Nat → Bool
  | 0, u => E u
  | j + 1, u => okc E j u || (decide (u = j % 3) && okc E j ((u + 1) % 3))
theorem okc_s (E : Nat → Bool) (j u : Nat) : okc E (j + 1) u = (okc E j u || (decide (u = j % 3) && okc E j ((u + 1) % 3))) := rfl
theorem okc_0 {E : Nat → Bool} {u : Nat} (h : E u = true) : ∀ j, okc E j u = true
  | 0 => h
  | j + 1 => by rw [okc_s, okc_0 h j]; rfl
theorem okc_cg {E E' : Nat → Bool} (h : ∀ u, u < 3 → E u = E' u) : ∀ j u, u < 3 → okc E j u = okc E' j u
  | 0, u, hu => h u hu
  | j + 1, u, hu => by rw [okc_s, okc_s, okc_cg h j u hu, okc_cg h j ((u + 1) % 3) (Nat.mod_lt _ (by decide))]
noncomputable def okE (a b c : Bool) (u : Nat) : Bool := if u = 0 then a else if u = 1 then b else c
theorem okc_6 (E : Nat → Bool) (h : E 0 = true ∨ E 1 = true ∨ E 2 = true) (u : Nat) (hu : u < 3) : okc E 6 u = true := by
  have key : ∀ a b c : Bool, (a || b || c) = true → ∀ u : Fin 3, okc (okE a b c) 6 u.val = true := by decide +kernel
  rw [okc_cg (E' := okE (E 0) (E 1) (E 2)) (fun u hu => by
    rcases (by omega : u = 0 ∨ u = 1 ∨ u = 2) with rfl | rfl | rfl <;> rfl) 6 u hu]
  exact key _ _ _ (by rcases h with h | h | h <;> rw [h] <;> cases E 0 <;> cases E 1 <;> cases E 2 <;> simp_all) ⟨u, hu⟩
end WU
set_option maxHeartbeats 4000000 in
set_option maxRecDepth 100000 in
theorem fh_269_97 {n : Nat} {M : zM} {L T : Nat → Nat} {n9 W P Nc : Nat} (hr : wRm L T W P Nc M) (hp : wPr L T) (hW : wWn L W P Nc) (hWt : wWt T W) (hn : 1 ≤ n9 ∧ n9 ≤ 4) (hL : wLf L T n9 W M) (a1 a2 a3 : Int) (h0 : 0 ≤ a1) (h1 : wSub a1.toNat W) (hne : (W ^^^ a1.toNat) ≠ 0) (h2 : 0 ≤ a2 ∧ a2 < 3) (h3 : a3 = (n9 : Int)) : zH n (0, 0) 269 (0, zini [zR 97, .inl a1, .inl a2, .inl a3] 9, []) M (fun r M' => ∃ S : Nat, r = some (.inl (S : Int)) ∧ wGt L T n9 (W ^^^ a1.toNat) a2.toNat S ∧ (∀ r, r ≠ 97 → r ≠ 115 → M' r = M r) ∧ (∀ k, k ≠ 30 → M' 97 k = M 97 k)) := by
  have hz := zp_269
  show zH n (0, 0) 269 (0, [zR 97, .inl a1, .inl a2, .inl a3, zN, zN, zN, zN, zN], []) M _
  have hN := hr.1.2
  have hW14 := wN14 hW hN
  have ha14 := h1.lt hW14
  have hl14 : (W ^^^ a1.toNat) < 2 ^ 14 := h1.xor.lt hW14
  obtain ⟨due, hd1, hd2⟩ := hL a1.toNat h1 a2.toNat (by omega)
  refine zH_w (c' := (9, [zR 97, .inl a1, .inl a2, .inl a3, zN, zN, zN, zN, zN], [.inl (w32 ((w32 (3 * a1)) + a2)), zR 114])) 7 hz rfl ?_
  refine zH_iald hz rfl rfl (.inl rfl) (fun hin9 => ?_)
  show zH n (0, 0) 269 (10, [zR 97, .inl a1, .inl a2, .inl a3, zN, zN, zN, zN, zN], [.inl (M 114 (w32 ((w32 (3 * a1)) + a2) : Int).toNat)]) M _
  rw [show M 114 (w32 ((w32 (3 * a1)) + a2) : Int).toNat = (due : Int) from by rw [show (w32 (w32 (3 * a1) + a2) : Int).toNat = 3 * a1.toNat + a2.toNat by rw [w32_id (x := 3 * a1) (by omega), w32_id (by omega)]; omega]; exact hd1]
  refine zH_w (c' := (18, [zR 97, .inl a1, .inl a2, .inl a3, .inl (due : Int), .inl 0, zN, zN, zN], [.inl a2, .inl a1, zR 97])) 6 hz rfl ?_
  refine zH_wC (c1 := (21, [zR 97, .inl a1, .inl a2, .inl a3, .inl (due : Int), .inl 0, zN, zN, zN], [])) 0 hz zp_261 (fh_261_97 hr hp hW a1 a2 h0 h1 h2) (by rfl) ?_
  rintro _ M1 ⟨rfl, m1, m2, m3⟩
  show zH n (0, 0) 269 (21, [zR 97, .inl a1, .inl a2, .inl a3, .inl (due : Int), .inl 0, zN, zN, zN], []) M1 _
  obtain ⟨F, hF⟩ : ∃ F, F = wF L T (W ^^^ a1.toNat) a2.toNat 14 := ⟨_, rfl⟩
  rw [← hF] at m3
  have hF14 : F < 2 ^ 14 := by rw [hF]; exact wF_lt _ _
  have hFl : wSub F (W ^^^ a1.toNat) := by rw [hF]; exact wF_sb _ _
  have hC14 := wC_le F 14
  have hL1 := hL.mv (m1 114 (by decide) (by decide))
  obtain ⟨c, hc⟩ : ∃ c, c = min n9 (wC F 14) := ⟨_, rfl⟩
  have h1s := wz_1s (c := c) (by omega)
  have h2s := wz_1s (c := wC F 14) hC14
  refine zH_w (c' := (23, [zR 97, .inl a1, .inl a2, .inl a3, .inl (due : Int), .inl 0, zN, zN, zN], [.inl a3, zR 97])) 2 hz rfl ?_
  refine zH_wE (c1 := (26, [zR 97, .inl a1, .inl a2, .inl a3, .inl (due : Int), .inl 0, zN, zN, zN], [])) 0 hz zp_264 (fh_264_97 a3) (by rfl) ?_
  show zH n (0, 0) 269 (26, [zR 97, .inl a1, .inl a2, .inl a3, .inl (due : Int), .inl 0, zN, zN, zN], [.inl (hf_264_97 M1 a3)]) M1 _
  rw [(wAl m3 a3 h3).trans (by rw [← hc])]
  refine zH_w (c' := (32, [zR 97, .inl a1, .inl a2, .inl a3, .inl (due : Int), .inl 0, .inl (c : Int), zN, zN], [.inl (zbshl 1 (c : Int))])) 4 hz rfl ?_
  rw [h1s.1]
  refine zH_w (c' := (34, [zR 97, .inl a1, .inl a2, .inl a3, .inl (due : Int), .inl 0, .inl (c : Int), zN, zN], [.inl (w32 (((2 ^ c : Nat) : Int) - 1))])) 2 hz rfl ?_
  rw [show w32 (((2 ^ c : Nat) : Int) - 1) = ((2 ^ c : Nat) : Int) - 1 from w32_id (by omega)]
  refine zH_w (c' := (36, [zR 97, .inl a1, .inl a2, .inl a3, .inl (due : Int), .inl 0, .inl (c : Int), .inl (((2 ^ c : Nat) : Int) - 1), zN], [])) 1 hz rfl ?_
  have lp36 : ∀ (N : Nat) (b : Int) (p : Int) (u8 : zV), ((65536 - p).toNat) < N → (0 ≤ p ∧ qpc 32 p.toNat = c ∧ (1 ≤ c → 1 ≤ p) ∧ p ≤ 65535) → (∃ B : Nat, b = (B : Int) ∧ (B = 0 ∨ (wFull L T n9 (W ^^^ a1.toNat) a2.toNat B ∧ ∃ u, wFw L T n9 ((W ^^^ a1.toNat) ^^^ B) ((a2.toNat + 1) % 3) u ∧ wFw L T n9 (W ^^^ a1.toNat) a2.toNat (u + 1))) ∧ ∀ S : Nat, (wFull L T n9 (W ^^^ a1.toNat) a2.toNat S ∧ ∃ u, wFw L T n9 ((W ^^^ a1.toNat) ^^^ S) ((a2.toNat + 1) % 3) u ∧ wFw L T n9 (W ^^^ a1.toNat) a2.toNat (u + 1)) → wK 14 F S < p.toNat → S ≤ B) → zH n (0, 0) 269 (36, [zR 97, .inl a1, .inl a2, .inl a3, .inl (due : Int), .inl b, .inl (c : Int), .inl p, u8], []) M1 (fun r M' => ∃ S : Nat, r = some (.inl (S : Int)) ∧ wGt L T n9 (W ^^^ a1.toNat) a2.toNat S ∧ (∀ r, r ≠ 97 → r ≠ 115 → M' r = M r) ∧ (∀ k, k ≠ 30 → M' 97 k = M 97 k)) := by
    intro N
    induction N with
    | zero => intro b p u8 hN; exact absurd hN (Nat.not_lt_zero _)
    | succ N ih36 =>
      intro b p u8 hN hp9 hb
      refine zH_w (c' := (38, [zR 97, .inl a1, .inl a2, .inl a3, .inl (due : Int), .inl b, .inl (c : Int), .inl p, u8], [.inl (c : Int)])) 1 hz rfl ?_
      refine zH_wf_le (pc := 38) (n' := 41) (t := 103) (L := [zR 97, .inl a1, .inl a2, .inl a3, .inl (due : Int), .inl b, .inl (c : Int), .inl p, u8]) (st := []) (x := (c : Int)) 0 hz (by rfl) (fun hb38 => ?_) (fun hb38 => ?_)
      · skip
        have hfin : ∃ B : Nat, b = (B : Int) ∧ wGt L T n9 (W ^^^ a1.toNat) a2.toNat B := by
          obtain ⟨B, b1, b2, b3⟩ := hb
          obtain ⟨S, u, s1, s2, s3⟩ := wFw_st hne hd2
          have z : ∀ S', wFull L T n9 (W ^^^ a1.toNat) a2.toNat S' → S' = 0 := fun S' q => wC_0 (q.sub.lt hl14) (by have := q.2; rw [← hF] at this; omega)
          have e0 := z S s1
          rw [e0] at s1 s2
          have B0 : B = 0 := by
            rcases b2 with y | y
            · exact y
            · exact z B y.1
          exact ⟨B, b1, by rw [B0]; exact ⟨⟨s1, u, s2, by rw [← s3]; exact hd2⟩, fun S' u' q _ _ => by rw [z S' q]; exact Nat.le_refl _⟩⟩
        refine zH_w (c' := (105, [zR 97, .inl a1, .inl a2, .inl a3, .inl (due : Int), .inl b, .inl (c : Int), .inl p, u8], [.inl b])) 1 hz rfl ?_
        refine zH_ret hz rfl rfl ?_
        obtain ⟨B, f1, f2⟩ := hfin
        exact ⟨B, by rw [f1], f2, m1, m2⟩
      · skip
        refine zH_w (c' := (48, [zR 97, .inl a1, .inl a2, .inl a3, .inl (due : Int), .inl b, .inl (c : Int), .inl p, u8], [.inl (M1 97 30), .inl 1, .inl p])) 4 hz rfl ?_
        rw [m3.1]
        refine zH_w (c' := (49, [zR 97, .inl a1, .inl a2, .inl a3, .inl (due : Int), .inl b, .inl (c : Int), .inl p, u8], [.inl (zbshl 1 ((wC F 14 : Nat) : Int)), .inl p])) 1 hz rfl ?_
        rw [h2s.1]
        refine zH_icmp_ge hz rfl (fun hb49 => ?_) (fun hb49 => ?_)
        · skip
          have hfin : ∃ B : Nat, b = (B : Int) ∧ wGt L T n9 (W ^^^ a1.toNat) a2.toNat B := by
            obtain ⟨B, b1, b2, b3⟩ := hb
            obtain ⟨S, u, s1, s2, s3⟩ := wFw_st hne hd2
            have all : ∀ S' u', wFull L T n9 (W ^^^ a1.toNat) a2.toNat S' → wFw L T n9 ((W ^^^ a1.toNat) ^^^ S') ((a2.toNat + 1) % 3) u' → wFw L T n9 (W ^^^ a1.toNat) a2.toNat (u' + 1) → S' ≤ B := fun S' u' q1 q2 q3 => by
              obtain ⟨-, r2, -, -⟩ := wPc hF q1
              exact b3 S' ⟨q1, u', q2, q3⟩ (by omega)
            have hS : S ≤ B := all S u s1 s2 (by rw [← s3]; exact hd2)
            rcases b2 with y | y
            · have e0 : S = 0 := by omega
              rw [e0] at s1 s2
              exact ⟨B, b1, by rw [y]; rw [y] at all; exact ⟨⟨s1, u, s2, by rw [← s3]; exact hd2⟩, all⟩⟩
            · exact ⟨B, b1, y, all⟩
          refine zH_w (c' := (105, [zR 97, .inl a1, .inl a2, .inl a3, .inl (due : Int), .inl b, .inl (c : Int), .inl p, u8], [.inl b])) 1 hz rfl ?_
          refine zH_ret hz rfl rfl ?_
          obtain ⟨B, f1, f2⟩ := hfin
          exact ⟨B, by rw [f1], f2, m1, m2⟩
        · skip
          have hp0 := hp9.2.2.1 (by omega)
          have hpl : p.toNat < 2 ^ wC F 14 := by omega
          have hg := wGp_all (v := p.toNat) (by omega) (by omega)
          refine zH_w (c' := (55, [zR 97, .inl a1, .inl a2, .inl a3, .inl (due : Int), .inl b, .inl (c : Int), .inl p, u8], [.inl p, zR 97])) 2 hz rfl ?_
          refine zH_wC (c1 := (58, [zR 97, .inl a1, .inl a2, .inl a3, .inl (due : Int), .inl b, .inl (c : Int), .inl p, u8], [])) 0 hz zp_262 (fh_262_97 hF14 m3 p (by omega)) (by rfl) ?_
          rintro _ M6 ⟨⟨S0, rfl, hS0⟩, e6⟩
          show zH n (0, 0) 269 (58, [zR 97, .inl a1, .inl a2, .inl a3, .inl (due : Int), .inl b, .inl (c : Int), .inl p, u8], [.inl (S0 : Int)]) M6 _
          obtain ⟨hf0, hk0⟩ := wSp_full (n9 := n9) hF hpl (by omega) hS0
          replace e6 := e6.symm
          subst e6
          obtain ⟨x1, x2⟩ := wXo h1 hf0.sub
          obtain ⟨v, v1, v2⟩ := hL1 _ x1 ((a2.toNat + 1) % 3) (Nat.mod_lt _ (by decide))
          rw [x2] at v2
          have hS14 := hS0.1
          have hor := Nat.or_lt_two_pow ha14 hS14
          have v42 : v ≤ 42 := by
            obtain ⟨K, k1, k2⟩ := wK42' (n9 := n9) hp hn.1 hWt (hf0.sub.xor.tr h1.xor) (t := (a2.toNat + 1) % 3) (Nat.mod_lt _ (by decide))
            have := wFw_le v2 k2
            omega
          refine zH_w (c' := (75, [zR 97, .inl a1, .inl a2, .inl a3, .inl (due : Int), .inl b, .inl (c : Int), .inl p, .inl (S0 : Int)], [.inl 3, .inl (w32 (a2 + 1)), .inl (w32 (3 * (zbor a1 (S0 : Int)))), zR 114, .inl 1])) 13 hz rfl ?_
          refine zH_irem hz rfl (fun hdv75 => ?_)
          show zH n (0, 0) 269 (76, [zR 97, .inl a1, .inl a2, .inl a3, .inl (due : Int), .inl b, .inl (c : Int), .inl p, .inl (S0 : Int)], [.inl ((w32 (a2 + 1)).tmod 3), .inl (w32 (3 * (zbor a1 (S0 : Int)))), zR 114, .inl 1]) M1 _
          refine zH_w (c' := (77, [zR 97, .inl a1, .inl a2, .inl a3, .inl (due : Int), .inl b, .inl (c : Int), .inl p, .inl (S0 : Int)], [.inl (w32 ((w32 (3 * (zbor a1 (S0 : Int)))) + ((w32 (a2 + 1)).tmod 3))), zR 114, .inl 1])) 1 hz rfl ?_
          refine zH_iald hz rfl rfl (.inl rfl) (fun hin77 => ?_)
          show zH n (0, 0) 269 (78, [zR 97, .inl a1, .inl a2, .inl a3, .inl (due : Int), .inl b, .inl (c : Int), .inl p, .inl (S0 : Int)], [.inl (M1 114 (w32 ((w32 (3 * (zbor a1 (S0 : Int)))) + ((w32 (a2 + 1)).tmod 3)) : Int).toNat), .inl 1]) M1 _
          rw [show M1 114 (w32 ((w32 (3 * (zbor a1 (S0 : Int)))) + ((w32 (a2 + 1)).tmod 3)) : Int).toNat = (v : Int) from by rw [← v1, show zbor a1 (S0 : Int) = ((a1.toNat ||| S0 : Nat) : Int) from by rw [qbor_N _ _ (by omega) (by omega), Int.toNat_natCast], wmod _ (by rw [w32_id (by omega)]; omega), w32_id (x := a2 + 1) (by omega), w32_id (x := 3 * ((a1.toNat ||| S0 : Nat) : Int)) (by omega), w32_id (by omega)]; congr 1; omega]
          refine zH_w (c' := (79, [zR 97, .inl a1, .inl a2, .inl a3, .inl (due : Int), .inl b, .inl (c : Int), .inl p, .inl (S0 : Int)], [.inl (w32 (1 + (v : Int)))])) 1 hz rfl ?_
          rw [show w32 (1 + (v : Int)) = 1 + (v : Int) from w32_id (by omega)]
          refine zH_w (c' := (81, [zR 97, .inl a1, .inl a2, .inl a3, .inl (due : Int), .inl b, .inl (c : Int), .inl p, .inl (S0 : Int)], [.inl (due : Int), .inl (1 + (v : Int))])) 1 hz rfl ?_
          refine zH_wi_ne (pc := 81) (n' := 84) (t := 89) (L := [zR 97, .inl a1, .inl a2, .inl a3, .inl (due : Int), .inl b, .inl (c : Int), .inl p, .inl (S0 : Int)]) (st := []) (x := (1 + (v : Int))) (y := (due : Int)) 0 hz (by rfl) (fun hb81 => ?_) (fun hb81 => ?_)
          · skip
            have hbn : ∃ B : Nat, b = (B : Int) ∧ (B = 0 ∨ (wFull L T n9 (W ^^^ a1.toNat) a2.toNat B ∧ ∃ u, wFw L T n9 ((W ^^^ a1.toNat) ^^^ B) ((a2.toNat + 1) % 3) u ∧ wFw L T n9 (W ^^^ a1.toNat) a2.toNat (u + 1))) ∧ ∀ S : Nat, (wFull L T n9 (W ^^^ a1.toNat) a2.toNat S ∧ ∃ u, wFw L T n9 ((W ^^^ a1.toNat) ^^^ S) ((a2.toNat + 1) % 3) u ∧ wFw L T n9 (W ^^^ a1.toNat) a2.toNat (u + 1)) → wK 14 F S < wGp p.toNat → S ≤ B := by
              obtain ⟨B, b1, b2, b3⟩ := hb
              refine ⟨B, b1, b2, fun S q1 q2 => ?_⟩
              have q3 := wPn hF (by omega) hpl (by omega) q1.1 q2
              rcases (by omega : wK 14 F S < p.toNat ∨ wK 14 F S = p.toNat) with y | y
              · exact b3 S q1 y
              · exfalso
                have eS : S = S0 := wK_inj 14 (q1.1.sub.lt hl14) hS14 (wPc hF q1.1).1 (wPc hF hf0).1 (y.trans hk0.symm)
                obtain ⟨-, u, u1, u2⟩ := q1
                rw [eS] at u1
                have a := wFw_u u1 v2
                have b := wFw_u u2 hd2
                omega
            refine zH_wE (c1 := (98, [zR 97, .inl a1, .inl a2, .inl a3, .inl (due : Int), .inl b, .inl (c : Int), .inl p, .inl (S0 : Int)], [])) 3 hz zp_263 (fh_263 p (by omega)) (by rfl) ?_
            show zH n (0, 0) 269 (98, [zR 97, .inl a1, .inl a2, .inl a3, .inl (due : Int), .inl b, .inl (c : Int), .inl p, .inl (S0 : Int)], [.inl ((wGp p.toNat : Nat) : Int)]) M1 _
            refine zH_w (c' := (36, [zR 97, .inl a1, .inl a2, .inl a3, .inl (due : Int), .inl b, .inl (c : Int), .inl ((wGp p.toNat : Nat) : Int), .inl (S0 : Int)], [])) 2 hz rfl ?_
            refine ih36 b ((wGp p.toNat : Nat) : Int) (.inl (S0 : Int)) (by omega) ?_ ?_
            · exact ⟨by omega, by rw [Int.toNat_natCast, hg.2.2.1]; exact hp9.2.1, fun _ => by omega, by omega⟩
            · rw [Int.toNat_natCast]; exact hbn
          · skip
            have hbn : ∃ B : Nat, (S0 : Int) = (B : Int) ∧ (B = 0 ∨ (wFull L T n9 (W ^^^ a1.toNat) a2.toNat B ∧ ∃ u, wFw L T n9 ((W ^^^ a1.toNat) ^^^ B) ((a2.toNat + 1) % 3) u ∧ wFw L T n9 (W ^^^ a1.toNat) a2.toNat (u + 1))) ∧ ∀ S : Nat, (wFull L T n9 (W ^^^ a1.toNat) a2.toNat S ∧ ∃ u, wFw L T n9 ((W ^^^ a1.toNat) ^^^ S) ((a2.toNat + 1) % 3) u ∧ wFw L T n9 (W ^^^ a1.toNat) a2.toNat (u + 1)) → wK 14 F S < wGp p.toNat → S ≤ B := by
              obtain ⟨B, b1, b2, b3⟩ := hb
              refine ⟨S0, rfl, .inr ⟨hf0, v, v2, by rw [show v + 1 = due by omega]; exact hd2⟩, fun S q1 q2 => ?_⟩
              have q3 := wPn hF (by omega) hpl (by omega) q1.1 q2
              rcases Nat.lt_or_ge S0 S with y | y
              · have := wK_mono 14 (q1.1.sub.lt hl14) (wPc hF hf0).1 (wPc hF q1.1).1 y
                omega
              · exact y
            refine zH_wE (c1 := (98, [zR 97, .inl a1, .inl a2, .inl a3, .inl (due : Int), .inl (S0 : Int), .inl (c : Int), .inl p, .inl (S0 : Int)], [])) 4 hz zp_263 (fh_263 p (by omega)) (by rfl) ?_
            show zH n (0, 0) 269 (98, [zR 97, .inl a1, .inl a2, .inl a3, .inl (due : Int), .inl (S0 : Int), .inl (c : Int), .inl p, .inl (S0 : Int)], [.inl ((wGp p.toNat : Nat) : Int)]) M1 _
            refine zH_w (c' := (36, [zR 97, .inl a1, .inl a2, .inl a3, .inl (due : Int), .inl (S0 : Int), .inl (c : Int), .inl ((wGp p.toNat : Nat) : Int), .inl (S0 : Int)], [])) 2 hz rfl ?_
            refine ih36 (S0 : Int) ((wGp p.toNat : Nat) : Int) (.inl (S0 : Int)) (by omega) ?_ ?_
            · exact ⟨by omega, by rw [Int.toNat_natCast, hg.2.2.1]; exact hp9.2.1, fun _ => by omega, by omega⟩
            · rw [Int.toNat_natCast]; exact hbn
  refine lp36 (65537) 0 (((2 ^ c : Nat) : Int) - 1) zN (by omega) ?_ ?_
  · exact ⟨by omega, by rw [show (((2 ^ c : Nat) : Int) - 1).toNat = 2 ^ c - 1 by omega, wq32 (k := c) (by omega) (by omega)]; exact wqf c, fun q => by have := Nat.pow_le_pow_right (n := 2) (by decide) q; omega, by omega⟩
  · refine ⟨0, rfl, .inl rfl, fun S q1 q2 => ?_⟩
    exfalso
    obtain ⟨-, -, r3, r4⟩ := wPc hF q1.1
    have := wGp_0 r3 (r4.trans hc.symm)
    omega
section WV
variable {L T : Nat → Nat} {n9 W P Nc : Nat} {M M' : zM}
/-- a term's own, before one may wait -/
noncomputable def wBt (L T : Nat → Nat) (n9 l t : Nat) (b0 b : Int) : Prop := b = b0 ∨ ∃ S v : Nat, wFull L T n9 l t S ∧ 1 ≤ wC S 14 ∧ wFw L T n9 (l ^^^ S) ((t + 1) % 3) v ∧ b = (v : Int) + 1
noncomputable def wBv (L T : Nat → Nat) (n9 l u : Nat) (b : Int) : Prop := (l = 0 → b = 0) ∧ (l ≠ 0 → 1 ≤ wC (wF L T l u 14) 14 → ∃ v : Nat, b = (v : Int) ∧ wFw L T n9 l u v) ∧ (l ≠ 0 → wC (wF L T l u 14) 14 = 0 → b = 1000)
theorem wBv_mk {l u F : Nat} {b b0 : Int} (hp : wPr L T) (hn : 1 ≤ n9) (hWt : wWt T W) (hl : wSub l W) (hu : u < 3) (hF : F = wF L T l u 14) (h0 : b0 = if l = 0 then 0 else 1000)
    (hb : b = b0 ∨ ∃ S v : Nat, wFull L T n9 l u S ∧ 1 ≤ wC S 14 ∧ wFw L T n9 (l ^^^ S) ((u + 1) % 3) v ∧ b = (v : Int) + 1)
    (all : 1 ≤ wC F 14 → ∀ S v : Nat, wFull L T n9 l u S → wFw L T n9 (l ^^^ S) ((u + 1) % 3) v → b ≤ (v : Int) + 1) : wBv L T n9 l u b := by
  have sm : ∀ S, wFull L T n9 l u S → wC S 14 ≤ wC F 14 := fun S q => by have := q.2; rw [← hF] at this; omega
  refine ⟨fun z => ?_, fun z c => ?_, fun z c => ?_⟩
  · rcases hb with e | ⟨S, v, s1, s2, -⟩
    · rw [e, h0, if_pos z]
    · exfalso
      have q := wC_sub s1.sub 14
      rw [z, wC_z 14 (fun _ _ => wb_0)] at q
      omega
  · rw [← hF] at c
    obtain ⟨x, x1, x2⟩ := wFw_some hp hn hWt hl hu
    obtain ⟨S0, u0, r1, r2, r3⟩ := wFw_st z x2
    have q := all c S0 u0 r1 r2
    rcases hb with e | ⟨S, v, s1, s2, s3, s4⟩
    · rw [e, h0, if_neg z] at q; omega
    · refine ⟨v + 1, by omega, wFw_mk z ⟨S, v, s1, s3, rfl⟩ (fun S' v' q1 q2 => by have := all c S' v' q1 q2; omega)⟩
  · rw [← hF] at c
    rcases hb with e | ⟨S, v, s1, s2, -⟩
    · rw [e, h0, if_neg z]
    · have := sm S s1; omega
/-- which terms have their own -/
noncomputable def wE9 (L T : Nat → Nat) (l u : Nat) : Bool := decide (l = 0 ∨ 1 ≤ wC (wF L T l u 14) 14)
theorem wE9_ok {l : Nat} (hp : wPr L T) (hWt : wWt T W) (hl : wSub l W) : wE9 L T l 0 = true ∨ wE9 L T l 1 = true ∨ wE9 L T l 2 = true := by
  unfold wE9
  rw [decide_eq_true_eq, decide_eq_true_eq, decide_eq_true_eq]
  by_cases z : l = 0
  · exact .inl (.inl z)
  · obtain ⟨p, p1, p2⟩ := wPot hp hWt hl z (show 0 < 3 by decide)
    rcases (by omega : p = 0 ∨ p = 1 ∨ p = 2) with e | e | e <;> rw [e] at p2
    · exact .inl (.inr p2)
    · exact .inr (.inl (.inr p2))
    · exact .inr (.inr (.inr p2))
/-- to wait costs a term -/
theorem wWt_st {l t v w : Nat} (h : wFw L T n9 l t v) (g : wFw L T n9 l ((t + 1) % 3) w) : v ≤ w + 1 := wFw_le h (wCan_wait g.1)
theorem wWt_eq {l t v w : Nat} (hl : l < 2 ^ 14) (z : l ≠ 0) (c : wC (wF L T l t 14) 14 = 0) (h : wFw L T n9 l t v) (g : wFw L T n9 l ((t + 1) % 3) w) : v = w + 1 := by
  obtain ⟨S, u, s1, s2, s3⟩ := wFw_st z h
  have e : S = 0 := wC_0 (s1.sub.lt hl) (by have := s1.2; omega)
  rw [e, Nat.xor_zero] at s2
  have := wFw_u s2 g
  omega
/-- a pass over the terms -/
noncomputable def wPas (L T : Nat → Nat) (n9 l : Nat) (f : Nat → Int) (j : Nat) : Prop := (∀ u, u < 3 → ∃ v : Nat, wFw L T n9 l u v ∧ (v : Int) ≤ f u ∧ f u ≤ 1000) ∧ ∀ u, u < 3 → okc (wE9 L T l) j u = true → ∃ v : Nat, f u = (v : Int) ∧ wFw L T n9 l u v
theorem wPas_st {l z j : Nat} {f f' : Nat → Int} (hl : l < 2 ^ 14) (hz : z < 3) (hj : j % 3 = z) (h : wPas L T n9 l f j) (e : ∀ u, u < 3 → u ≠ z → f' u = f u) (e2 : f' z = if 1 + f ((z + 1) % 3) < f z then 1 + f ((z + 1) % 3) else f z) : wPas L T n9 l f' (j + 1) := by
  obtain ⟨v, v1, v2, v3⟩ := h.1 z hz
  obtain ⟨x, x1, x2, x3⟩ := h.1 ((z + 1) % 3) (Nat.mod_lt _ (by decide))
  have wt := wWt_st v1 x1
  refine ⟨fun u hu => ?_, fun u hu ho => ?_⟩
  · by_cases y : u = z
    · rw [y, e2]; exact ⟨v, v1, by split <;> omega, by split <;> omega⟩
    · rw [e u hu y]; exact h.1 u hu
  · by_cases y : u = z
    · rw [y, e2]
      rw [y, okc_s, Bool.or_eq_true, Bool.and_eq_true] at ho
      by_cases a : okc (wE9 L T l) j z = true
      · obtain ⟨q, q1, q2⟩ := h.2 z hz a
        have := wFw_u q2 v1
        exact ⟨v, by split <;> omega, v1⟩
      · rcases ho with b | ⟨-, b⟩
        · exact absurd b a
        · obtain ⟨q, q1, q2⟩ := h.2 ((z + 1) % 3) (Nat.mod_lt _ (by decide)) b
          have e3 := wFw_u q2 x1
          have nE : ¬ wE9 L T l z = true := fun w => a (okc_0 w j)
          unfold wE9 at nE
          rw [decide_eq_true_eq] at nE
          have e4 := wWt_eq hl (fun w => nE (.inl w)) (by have : ¬ 1 ≤ wC (wF L T l z 14) 14 := fun w => nE (.inr w); omega) v1 x1
          exact ⟨v, by split <;> omega, v1⟩
    · rw [e u hu y]
      rw [okc_s, Bool.or_eq_true, Bool.and_eq_true] at ho
      rcases ho with b | ⟨b, -⟩
      · exact h.2 u hu b
      · rw [decide_eq_true_eq] at b; omega
theorem wPas_0 {l : Nat} {f : Nat → Int} (hp : wPr L T) (hn : 1 ≤ n9) (hWt : wWt T W) (hl : wSub l W) (h : ∀ u, u < 3 → wBv L T n9 l u (f u)) : wPas L T n9 l f 0 := by
  refine ⟨fun u hu => ?_, fun u hu ho => ?_⟩
  · obtain ⟨v, v1, v2⟩ := wFw_some hp hn hWt hl hu
    refine ⟨v, v2, ?_⟩
    have q := h u hu
    by_cases z : l = 0
    · rw [q.1 z]
      rw [z] at v2
      have := wFw_u v2 (wFw_0 u)
      omega
    · by_cases c : 1 ≤ wC (wF L T l u 14) 14
      · obtain ⟨x, x1, x2⟩ := q.2.1 z c
        have := wFw_u x2 v2
        omega
      · rw [q.2.2 z (by omega)]; omega
  · have o : wE9 L T l u = true := ho
    unfold wE9 at o
    rw [decide_eq_true_eq] at o
    have q := h u hu
    by_cases z : l = 0
    · rw [q.1 z, z]; exact ⟨0, rfl, wFw_0 u⟩
    · exact q.2.1 z (o.resolve_left z)
theorem wz_m1 {x : Nat} (h : x < 2 ^ 14) : zband (-1) (x : Int) = (x : Int) := by
  unfold zband
  rw [← Int32.toInt_toBitVec]
  have e : (Int32.ofInt (-1) &&& Int32.ofInt (x : Int)).toBitVec = BitVec.ofInt 32 (x : Int) := by
    have q : (Int32.ofInt (-1)).toBitVec = BitVec.allOnes 32 := by decide
    rw [Int32.toBitVec_and, q, BitVec.allOnes_and]; rfl
  have h1 : (BitVec.ofInt 32 (x : Int)).toNat = x := by rw [BitVec.toNat_ofInt]; omega
  rw [e, BitVec.toInt_eq_toNat_of_lt (by omega), h1]
end WV
set_option maxHeartbeats 8000000 in
set_option maxRecDepth 100000 in
theorem fh_265_97 {n : Nat} {M : zM} {L T : Nat → Nat} {n9 W P Nc : Nat} (hr : wRm L T W P Nc M) (hp : wPr L T) (hW : wWn L W P Nc) (hWt : wWt T W) (hn : 1 ≤ n9 ∧ n9 ≤ 4) (a1 : Int) (h3 : a1 = (n9 : Int)) (hc9 : M 97 31 = (W : Int) → M 97 32 = (P : Int) → M 97 33 = a1 → wLf L T n9 W M) : zH n (0, 0) 265 (0, zini [zR 97, .inl a1] 9, []) M (fun r M' => r = none ∧ ((∀ r, r ≠ 97 → r ≠ 114 → r ≠ 115 → M' r = M r) ∧ (∀ k, k ≠ 30 → k ≠ 31 → k ≠ 32 → k ≠ 33 → M' 97 k = M 97 k)) ∧ (M' 97 31 = (W : Int) ∧ M' 97 32 = (P : Int) ∧ M' 97 33 = a1) ∧ wLf L T n9 W M') := by
  have hz := zp_265
  show zH n (0, 0) 265 (0, [zR 97, .inl a1, zN, zN, zN, zN, zN, zN, zN], []) M _
  have hN := hr.1.2
  have hW14 := wN14 hW hN
  have lp31 : zH n (0, 0) 265 (31, [zR 97, .inl a1, zN, zN, zN, zN, zN, zN, zN], []) M (fun r M' => r = none ∧ ((∀ r, r ≠ 97 → r ≠ 114 → r ≠ 115 → M' r = M r) ∧ (∀ k, k ≠ 30 → k ≠ 31 → k ≠ 32 → k ≠ 33 → M' 97 k = M 97 k)) ∧ (M' 97 31 = (W : Int) ∧ M' 97 32 = (P : Int) ∧ M' 97 33 = a1) ∧ wLf L T n9 W M') := by
    refine zH_w (c' := (36, [zR 97, .inl a1, zN, zN, zN, zN, zN, zN, zN], [.inl (M 97 28), zR 97])) 3 hz rfl ?_
    rw [hr.2.2.1]
    refine zH_w (c' := (44, [zR 97, .inl a1, zN, zN, zN, zN, zN, zN, zN], [.inl ((zput M 97 31 (W : Int)) 97 21), zR 97])) 4 hz rfl ?_
    rw [show (zput M 97 31 (W : Int)) 97 21 = (P : Int) from by rw [qput_nk (by decide)]; exact hr.2.2.2]
    refine zH_w (c' := (52, [zR 97, .inl a1, zN, zN, zN, zN, zN, zN, zN], [])) 4 hz rfl ?_
    obtain ⟨M1, hM1⟩ : ∃ X : zM, X = zput (zput (zput M 97 31 (W : Int)) 97 32 (P : Int)) 97 33 a1 := ⟨_, rfl⟩
    rw [← hM1]
    have hOa : (∀ r, r ≠ 97 → r ≠ 114 → r ≠ 115 → M1 r = M r) ∧ (∀ k, k ≠ 30 → k ≠ 31 → k ≠ 32 → k ≠ 33 → M1 97 k = M 97 k) := ⟨fun r q1 q2 q3 => by rw [hM1, zput_oth q1, zput_oth q1, zput_oth q1], fun k q1 q2 q3 q4 => by rw [hM1, qput_nk q4, qput_nk q3, qput_nk q2]⟩
    have hOb : M1 97 31 = (W : Int) ∧ M1 97 32 = (P : Int) ∧ M1 97 33 = a1 := ⟨by rw [hM1, qput_nk (by decide), qput_nk (by decide), qput_eq], by rw [hM1, qput_nk (by decide), qput_eq], by rw [hM1, qput_eq]⟩
    refine zH_w (c' := (56, [zR 97, .inl a1, zN, zN, zN, zN, zN, zN, zN], [.inl (M1 97 28)])) 2 hz rfl ?_
    rw [show M1 97 28 = (W : Int) from (hOa.2 28 (by decide) (by decide) (by decide) (by decide)).trans hr.2.2.1]
    refine zH_w (c' := (59, [zR 97, .inl a1, .inl (W : Int), .inl 1, zN, zN, zN, zN, zN], [])) 3 hz rfl ?_
    have lp59 : ∀ (N : Nat) (m : Int) (e : Int) (u4 : zV) (u5 : zV) (u6 : zV) (u7 : zV) (u8 : zV) (M5 : zM), ((if e = 0 then 0 else m.toNat + 1)) < N → (0 ≤ m ∧ wSub m.toNat W) → (e = 0 ∨ e = 1) → ((∀ r, r ≠ 97 → r ≠ 114 → r ≠ 115 → M5 r = M r) ∧ (∀ k, k ≠ 30 → k ≠ 31 → k ≠ 32 → k ≠ 33 → M5 97 k = M 97 k)) → (M5 97 31 = (W : Int) ∧ M5 97 32 = (P : Int) ∧ M5 97 33 = a1) → (∀ x, wSub x W → (e = 0 ∨ m.toNat < x) → wTv L T n9 W M5 x) → zH n (0, 0) 265 (59, [zR 97, .inl a1, .inl m, .inl e, u4, u5, u6, u7, u8], []) M5 (fun r M' => r = none ∧ ((∀ r, r ≠ 97 → r ≠ 114 → r ≠ 115 → M' r = M r) ∧ (∀ k, k ≠ 30 → k ≠ 31 → k ≠ 32 → k ≠ 33 → M' 97 k = M 97 k)) ∧ (M' 97 31 = (W : Int) ∧ M' 97 32 = (P : Int) ∧ M' 97 33 = a1) ∧ wLf L T n9 W M') := by
      intro N
      induction N with
      | zero => intro m e u4 u5 u6 u7 u8 M5 hN; exact absurd hN (Nat.not_lt_zero _)
      | succ N ih59 =>
        intro m e u4 u5 u6 u7 u8 M5 hN hm he hO hO3 hT
        refine zH_w (c' := (60, [zR 97, .inl a1, .inl m, .inl e, u4, u5, u6, u7, u8], [.inl e])) 1 hz rfl ?_
        refine zH_wf_eq (pc := 60) (n' := 63) (t := 312) (L := [zR 97, .inl a1, .inl m, .inl e, u4, u5, u6, u7, u8]) (st := []) (x := e) 0 hz (by rfl) (fun hb60 => ?_) (fun hb60 => ?_)
        · skip
          exact zH_wr (r := none) 0 hz (by rfl) (⟨rfl, hO, hO3, fun x hx => hT x hx (.inl hb60)⟩)
        · skip
          have hN9 : m.toNat + 1 < N + 1 := by rw [if_neg hb60] at hN; exact hN
          have hm14 := hm.2.lt hW14
          have hl14 : (W ^^^ m.toNat) < 2 ^ 14 := hm.2.xor.lt hW14
          have hlm := hm.2.xor
          refine zH_w (c' := (66, [zR 97, .inl a1, .inl m, .inl e, .inl 0, u5, u6, u7, u8], [])) 2 hz rfl ?_
          have lp66 : ∀ (N : Nat) (t : Int) (v5 : zV) (v6 : zV) (v7 : zV) (v8 : zV) (M6 : zM), ((3 - t).toNat) < N → (0 ≤ t ∧ t ≤ 3) → ((∀ r, r ≠ 97 → r ≠ 114 → r ≠ 115 → M6 r = M r) ∧ (∀ k, k ≠ 30 → k ≠ 31 → k ≠ 32 → k ≠ 33 → M6 97 k = M 97 k)) → (M6 97 31 = (W : Int) ∧ M6 97 32 = (P : Int) ∧ M6 97 33 = a1) → (∀ x, wSub x W → m.toNat < x → wTv L T n9 W M6 x) → (∀ u : Nat, (u : Int) < t → wBv L T n9 (W ^^^ m.toNat) u (M6 114 (3 * m.toNat + u))) → zH n (0, 0) 265 (66, [zR 97, .inl a1, .inl m, .inl e, .inl t, v5, v6, v7, v8], []) M6 (fun r M' => r = none ∧ ((∀ r, r ≠ 97 → r ≠ 114 → r ≠ 115 → M' r = M r) ∧ (∀ k, k ≠ 30 → k ≠ 31 → k ≠ 32 → k ≠ 33 → M' 97 k = M 97 k)) ∧ (M' 97 31 = (W : Int) ∧ M' 97 32 = (P : Int) ∧ M' 97 33 = a1) ∧ wLf L T n9 W M') := by
            intro N
            induction N with
            | zero => intro t v5 v6 v7 v8 M6 hN; exact absurd hN (Nat.not_lt_zero _)
            | succ N ih66 =>
              intro t v5 v6 v7 v8 M6 hN ht hO6 hO63 hT6 hB6
              refine zH_w (c' := (69, [zR 97, .inl a1, .inl m, .inl e, .inl t, v5, v6, v7, v8], [.inl 3, .inl t])) 2 hz rfl ?_
              refine zH_wi_ge (pc := 69) (n' := 72) (t := 198) (L := [zR 97, .inl a1, .inl m, .inl e, .inl t, v5, v6, v7, v8]) (st := []) (x := t) (y := 3) 0 hz (by rfl) (fun hb69 => ?_) (fun hb69 => ?_)
              · skip
                refine zH_w (c' := (201, [zR 97, .inl a1, .inl m, .inl e, .inl 0, v5, v6, v7, v8], [])) 2 hz rfl ?_
                have lp201 : ∀ (N : Nat) (y : Int) (w5 : zV) (w6 : zV) (w7 : zV) (w8 : zV) (M9 : zM), ((2 - y).toNat) < N → (0 ≤ y ∧ y ≤ 2) → ((∀ r, r ≠ 97 → r ≠ 114 → r ≠ 115 → M9 r = M r) ∧ (∀ k, k ≠ 30 → k ≠ 31 → k ≠ 32 → k ≠ 33 → M9 97 k = M 97 k)) → (M9 97 31 = (W : Int) ∧ M9 97 32 = (P : Int) ∧ M9 97 33 = a1) → (∀ x, wSub x W → m.toNat < x → wTv L T n9 W M9 x) → (wPas L T n9 (W ^^^ m.toNat) (fun u => M9 114 (3 * m.toNat + u)) (3 * y.toNat)) → zH n (0, 0) 265 (201, [zR 97, .inl a1, .inl m, .inl e, .inl y, w5, w6, w7, w8], []) M9 (fun r M' => r = none ∧ ((∀ r, r ≠ 97 → r ≠ 114 → r ≠ 115 → M' r = M r) ∧ (∀ k, k ≠ 30 → k ≠ 31 → k ≠ 32 → k ≠ 33 → M' 97 k = M 97 k)) ∧ (M' 97 31 = (W : Int) ∧ M' 97 32 = (P : Int) ∧ M' 97 33 = a1) ∧ wLf L T n9 W M') := by
                  intro N
                  induction N with
                  | zero => intro y w5 w6 w7 w8 M9 hN; exact absurd hN (Nat.not_lt_zero _)
                  | succ N ih201 =>
                    intro y w5 w6 w7 w8 M9 hN hy hO9 hO93 hT9 hP9
                    refine zH_w (c' := (204, [zR 97, .inl a1, .inl m, .inl e, .inl y, w5, w6, w7, w8], [.inl 2, .inl y])) 2 hz rfl ?_
                    refine zH_wi_ge (pc := 204) (n' := 207) (t := 290) (L := [zR 97, .inl a1, .inl m, .inl e, .inl y, w5, w6, w7, w8]) (st := []) (x := y) (y := 2) 0 hz (by rfl) (fun hb204 => ?_) (fun hb204 => ?_)
                    · skip
                      have hal : ∀ x, wSub x W → m.toNat ≤ x → wTv L T n9 W M9 x := fun x hx q => by
                        rcases (by omega : m.toNat < x ∨ x = m.toNat) with y9 | y9
                        · exact hT9 x hx y9
                        · rw [y9]
                          intro u hu
                          refine hP9.2 u hu ?_
                          rw [show 3 * y.toNat = 6 by omega]
                          exact okc_6 _ (wE9_ok hp hWt hlm) u hu
                      refine zH_wf_le (pc := 291) (n' := 294) (t := 298) (L := [zR 97, .inl a1, .inl m, .inl e, .inl y, w5, w6, w7, w8]) (st := []) (x := m) 1 hz (by rfl) (fun hb291 => ?_) (fun hb291 => ?_)
                      · skip
                        have hm0 : m = 0 := by omega
                        refine zH_w (c' := (307, [zR 97, .inl a1, .inl m, .inl 0, .inl y, w5, w6, w7, w8], [.inl (M9 97 28), .inl (w32 (m - 1))])) 7 hz rfl ?_
                        rw [show M9 97 28 = (W : Int) from (hO9.2 28 (by decide) (by decide) (by decide) (by decide)).trans hr.2.2.1]
                        refine zH_w (c' := (308, [zR 97, .inl a1, .inl m, .inl 0, .inl y, w5, w6, w7, w8], [.inl (zband (w32 (m - 1)) (W : Int))])) 1 hz rfl ?_
                        have hlx : ∃ y : Nat, zband (w32 (m - 1)) (W : Int) = (y : Int) ∧ y = (if m.toNat = 0 then W else (m.toNat - 1 &&& W)) := by
                          rw [w32_id (by omega)]
                          by_cases q : m.toNat = 0
                          · exact ⟨W, by rw [show m - 1 = -1 by omega]; exact wz_m1 hW14, by rw [if_pos q]⟩
                          · refine ⟨m.toNat - 1 &&& W, ?_, by rw [if_neg q]⟩
                            rw [qband_N _ _ (by omega) (by omega), Int.toNat_natCast, show (m - 1).toNat = m.toNat - 1 by omega]
                        obtain ⟨y7, e7, f7⟩ := hlx
                        have hm2 : wSub y7 W := by
                          rw [f7]
                          split
                          · exact fun _ q => q
                          · exact fun i q => ((wb_and _ _ i).mp q).2
                        have hand : m.toNat - 1 &&& W ≤ m.toNat - 1 := Nat.and_le_left
                        rw [e7]
                        refine zH_w (c' := (59, [zR 97, .inl a1, .inl (y7 : Int), .inl 0, .inl y, w5, w6, w7, w8], [])) 2 hz rfl ?_
                        refine ih59 (y7 : Int) 0 (.inl y) w5 w6 w7 w8 M9 (by rw [if_pos rfl]; omega) ?_ ?_ ?_ ?_ ?_
                        · exact ⟨by omega, by rw [Int.toNat_natCast]; exact hm2⟩
                        · first
                            | exact .inl rfl
                            | exact .inr rfl
                        · exact hO9
                        · exact hO93
                        · intro x hx q
                          refine hal x hx ?_
                          rw [Int.toNat_natCast, f7] at q
                          split at q
                          · omega
                          · rcases Nat.lt_or_ge x m.toNat with y9 | y9
                            · have := wDn 14 hm14 (wAnd hm.2) (wAnd hx) y9; omega
                            · exact y9
                      · skip
                        have hm0 := True.intro
                        refine zH_w (c' := (307, [zR 97, .inl a1, .inl m, .inl 1, .inl y, w5, w6, w7, w8], [.inl (M9 97 28), .inl (w32 (m - 1))])) 8 hz rfl ?_
                        rw [show M9 97 28 = (W : Int) from (hO9.2 28 (by decide) (by decide) (by decide) (by decide)).trans hr.2.2.1]
                        refine zH_w (c' := (308, [zR 97, .inl a1, .inl m, .inl 1, .inl y, w5, w6, w7, w8], [.inl (zband (w32 (m - 1)) (W : Int))])) 1 hz rfl ?_
                        have hlx : ∃ y : Nat, zband (w32 (m - 1)) (W : Int) = (y : Int) ∧ y = (if m.toNat = 0 then W else (m.toNat - 1 &&& W)) := by
                          rw [w32_id (by omega)]
                          by_cases q : m.toNat = 0
                          · exact ⟨W, by rw [show m - 1 = -1 by omega]; exact wz_m1 hW14, by rw [if_pos q]⟩
                          · refine ⟨m.toNat - 1 &&& W, ?_, by rw [if_neg q]⟩
                            rw [qband_N _ _ (by omega) (by omega), Int.toNat_natCast, show (m - 1).toNat = m.toNat - 1 by omega]
                        obtain ⟨y7, e7, f7⟩ := hlx
                        have hm2 : wSub y7 W := by
                          rw [f7]
                          split
                          · exact fun _ q => q
                          · exact fun i q => ((wb_and _ _ i).mp q).2
                        have hand : m.toNat - 1 &&& W ≤ m.toNat - 1 := Nat.and_le_left
                        rw [e7]
                        refine zH_w (c' := (59, [zR 97, .inl a1, .inl (y7 : Int), .inl 1, .inl y, w5, w6, w7, w8], [])) 2 hz rfl ?_
                        have f8 : y7 ≤ m.toNat - 1 := by rw [f7, if_neg (show ¬ m.toNat = 0 by omega)]; exact hand
                        refine ih59 (y7 : Int) 1 (.inl y) w5 w6 w7 w8 M9 (by rw [if_neg (show ¬ (1 : Int) = 0 by decide), Int.toNat_natCast]; omega) ?_ ?_ ?_ ?_ ?_
                        · exact ⟨by omega, by rw [Int.toNat_natCast]; exact hm2⟩
                        · first
                            | exact .inl rfl
                            | exact .inr rfl
                        · exact hO9
                        · exact hO93
                        · intro x hx q
                          refine hal x hx ?_
                          rw [Int.toNat_natCast, f7] at q
                          split at q
                          · omega
                          · rcases Nat.lt_or_ge x m.toNat with y9 | y9
                            · have := wDn 14 hm14 (wAnd hm.2) (wAnd hx) y9; omega
                            · exact y9
                    · skip
                      refine zH_w (c' := (210, [zR 97, .inl a1, .inl m, .inl e, .inl y, .inl 0, w6, w7, w8], [])) 2 hz rfl ?_
                      have lp210 : ∀ (N : Nat) (z : Int) (y6 : zV) (M10 : zM), ((3 - z).toNat) < N → (0 ≤ z ∧ z ≤ 3) → ((∀ r, r ≠ 97 → r ≠ 114 → r ≠ 115 → M10 r = M r) ∧ (∀ k, k ≠ 30 → k ≠ 31 → k ≠ 32 → k ≠ 33 → M10 97 k = M 97 k)) → (M10 97 31 = (W : Int) ∧ M10 97 32 = (P : Int) ∧ M10 97 33 = a1) → (∀ x, wSub x W → m.toNat < x → wTv L T n9 W M10 x) → (wPas L T n9 (W ^^^ m.toNat) (fun u => M10 114 (3 * m.toNat + u)) (3 * y.toNat + z.toNat)) → zH n (0, 0) 265 (210, [zR 97, .inl a1, .inl m, .inl e, .inl y, .inl z, y6, w7, w8], []) M10 (fun r M' => r = none ∧ ((∀ r, r ≠ 97 → r ≠ 114 → r ≠ 115 → M' r = M r) ∧ (∀ k, k ≠ 30 → k ≠ 31 → k ≠ 32 → k ≠ 33 → M' 97 k = M 97 k)) ∧ (M' 97 31 = (W : Int) ∧ M' 97 32 = (P : Int) ∧ M' 97 33 = a1) ∧ wLf L T n9 W M') := by
                        intro N
                        induction N with
                        | zero => intro z y6 M10 hN; exact absurd hN (Nat.not_lt_zero _)
                        | succ N ih210 =>
                          intro z y6 M10 hN hz9 hO10 hO103 hT10 hP10
                          refine zH_w (c' := (213, [zR 97, .inl a1, .inl m, .inl e, .inl y, .inl z, y6, w7, w8], [.inl 3, .inl z])) 2 hz rfl ?_
                          refine zH_wi_ge (pc := 213) (n' := 216) (t := 284) (L := [zR 97, .inl a1, .inl m, .inl e, .inl y, .inl z, y6, w7, w8]) (st := []) (x := z) (y := 3) 0 hz (by rfl) (fun hb213 => ?_) (fun hb213 => ?_)
                          · skip
                            refine zH_w (c' := (201, [zR 97, .inl a1, .inl m, .inl e, .inl (y + 1), .inl z, y6, w7, w8], [])) 2 hz (by rw [show (.inl (y + 1) : zV) = .inl (w32 (y + 1)) from by rw [w32_id (by omega)]]; rfl) ?_
                            refine ih201 (y + 1) (.inl z) y6 w7 w8 M10 (by omega) ?_ ?_ ?_ ?_ ?_
                            · omega
                            · exact hO10
                            · exact hO103
                            · exact hT10
                            · rw [show 3 * (y + 1).toNat = 3 * y.toNat + z.toNat by omega]; exact hP10
                          · skip
                            refine zH_w (c' := (229, [zR 97, .inl a1, .inl m, .inl e, .inl y, .inl z, y6, w7, w8], [.inl 3, .inl (w32 (z + 1)), .inl (w32 (3 * m)), zR 114, .inl 1])) 10 hz rfl ?_
                            refine zH_irem hz rfl (fun hdv229 => ?_)
                            show zH n (0, 0) 265 (230, [zR 97, .inl a1, .inl m, .inl e, .inl y, .inl z, y6, w7, w8], [.inl ((w32 (z + 1)).tmod 3), .inl (w32 (3 * m)), zR 114, .inl 1]) M10 _
                            refine zH_w (c' := (231, [zR 97, .inl a1, .inl m, .inl e, .inl y, .inl z, y6, w7, w8], [.inl (w32 ((w32 (3 * m)) + ((w32 (z + 1)).tmod 3))), zR 114, .inl 1])) 1 hz rfl ?_
                            refine zH_iald hz rfl rfl (.inl rfl) (fun hin231 => ?_)
                            show zH n (0, 0) 265 (232, [zR 97, .inl a1, .inl m, .inl e, .inl y, .inl z, y6, w7, w8], [.inl (M10 114 (w32 ((w32 (3 * m)) + ((w32 (z + 1)).tmod 3)) : Int).toNat), .inl 1]) M10 _
                            rw [show M10 114 (w32 ((w32 (3 * m)) + ((w32 (z + 1)).tmod 3)) : Int).toNat = M10 114 (3 * m.toNat + (z.toNat + 1) % 3) from by rw [wmod _ (by rw [w32_id (by omega)]; omega), w32_id (x := z + 1) (by omega), w32_id (x := 3 * m) (by omega), w32_id (by omega)]; congr 1; omega]
                            obtain ⟨pa, pa1, pa2, pa3⟩ := hP10.1 ((z.toNat + 1) % 3) (Nat.mod_lt _ (by decide))
                            obtain ⟨pb, pb1, pb2, pb3⟩ := hP10.1 z.toNat (by omega)
                            dsimp only at pa2 pa3 pb2 pb3
                            refine zH_w (c' := (233, [zR 97, .inl a1, .inl m, .inl e, .inl y, .inl z, y6, w7, w8], [.inl (w32 (1 + (M10 114 (3 * m.toNat + (z.toNat + 1) % 3))))])) 1 hz rfl ?_
                            rw [show w32 (1 + (M10 114 (3 * m.toNat + (z.toNat + 1) % 3))) = 1 + M10 114 (3 * m.toNat + (z.toNat + 1) % 3) from w32_id (by omega)]
                            refine zH_w (c' := (257, [zR 97, .inl a1, .inl m, .inl e, .inl y, .inl z, .inl (1 + M10 114 (3 * m.toNat + (z.toNat + 1) % 3)), w7, w8], [.inl (w32 ((w32 (3 * m)) + z)), zR 114, .inl (1 + M10 114 (3 * m.toNat + (z.toNat + 1) % 3)), .inl (w32 ((w32 (3 * m)) + z)), zR 114])) 16 hz rfl ?_
                            refine zH_iald hz rfl rfl (.inl rfl) (fun hin257 => ?_)
                            show zH n (0, 0) 265 (258, [zR 97, .inl a1, .inl m, .inl e, .inl y, .inl z, .inl (1 + M10 114 (3 * m.toNat + (z.toNat + 1) % 3)), w7, w8], [.inl (M10 114 (w32 ((w32 (3 * m)) + z) : Int).toNat), .inl (1 + M10 114 (3 * m.toNat + (z.toNat + 1) % 3)), .inl (w32 ((w32 (3 * m)) + z)), zR 114]) M10 _
                            rw [show M10 114 (w32 ((w32 (3 * m)) + z) : Int).toNat = M10 114 (3 * m.toNat + z.toNat) from by rw [w32_id (x := 3 * m) (by omega), w32_id (by omega)]; congr 1; omega]
                            refine zH_icmp_ge hz rfl (fun hb258 => ?_) (fun hb258 => ?_)
                            · skip
                              refine zH_w (c' := (276, [zR 97, .inl a1, .inl m, .inl e, .inl y, .inl z, .inl (1 + M10 114 (3 * m.toNat + (z.toNat + 1) % 3)), w7, w8], [.inl (w32 ((w32 (3 * m)) + z)), zR 114, .inl (w32 ((w32 (3 * m)) + z)), zR 114])) 7 hz rfl ?_
                              refine zH_iald hz rfl rfl (.inl rfl) (fun hin276 => ?_)
                              show zH n (0, 0) 265 (277, [zR 97, .inl a1, .inl m, .inl e, .inl y, .inl z, .inl (1 + M10 114 (3 * m.toNat + (z.toNat + 1) % 3)), w7, w8], [.inl (M10 114 (w32 ((w32 (3 * m)) + z) : Int).toNat), .inl (w32 ((w32 (3 * m)) + z)), zR 114]) M10 _
                              rw [show M10 114 (w32 ((w32 (3 * m)) + z) : Int).toNat = M10 114 (3 * m.toNat + z.toNat) from by rw [w32_id (x := 3 * m) (by omega), w32_id (by omega)]; congr 1; omega]
                              refine zH_iast hz rfl rfl (fun hin277 => ?_)
                              show zH n (0, 0) 265 (278, [zR 97, .inl a1, .inl m, .inl e, .inl y, .inl z, .inl (1 + M10 114 (3 * m.toNat + (z.toNat + 1) % 3)), w7, w8], []) (zput M10 114 (w32 ((w32 (3 * m)) + z) : Int).toNat (M10 114 (3 * m.toNat + z.toNat))) _
                              obtain ⟨M11, hM11⟩ : ∃ X : zM, X = zput M10 114 (w32 ((w32 (3 * m)) + z) : Int).toNat (M10 114 (3 * m.toNat + z.toNat)) := ⟨_, rfl⟩
                              rw [← hM11]
                              have hi11 : (w32 (w32 (3 * m) + z) : Int).toNat = 3 * m.toNat + z.toNat := by rw [w32_id (x := 3 * m) (by omega), w32_id (by omega)]; omega
                              rw [hi11] at hM11
                              have hO11 : (∀ r, r ≠ 97 → r ≠ 114 → r ≠ 115 → M11 r = M r) ∧ (∀ k, k ≠ 30 → k ≠ 31 → k ≠ 32 → k ≠ 33 → M11 97 k = M 97 k) := ⟨fun r q1 q2 q3 => by rw [hM11, zput_oth q2]; exact hO10.1 r q1 q2 q3, fun k q1 q2 q3 q4 => by rw [hM11, zput_oth (by decide)]; exact hO10.2 k q1 q2 q3 q4⟩
                              have hO113 : M11 97 31 = (W : Int) ∧ M11 97 32 = (P : Int) ∧ M11 97 33 = a1 := by rw [hM11, zput_oth (by decide)]; exact hO103
                              have hT11 : ∀ x, wSub x W → m.toNat < x → wTv L T n9 W M11 x := fun x q1 q2 u hu => by
                                rw [hM11, qput_nk (by omega)]; exact hT10 x q1 q2 u hu
                              have hP11 : wPas L T n9 (W ^^^ m.toNat) (fun u => M11 114 (3 * m.toNat + u)) (3 * y.toNat + z.toNat + 1) := wPas_st (z := z.toNat) hl14 (by omega) (by omega) hP10 (fun u hu y => by
                                show M11 114 (3 * m.toNat + u) = M10 114 (3 * m.toNat + u)
                                rw [hM11, qput_nk (by omega)]) (by
                                show M11 114 (3 * m.toNat + z.toNat) = if 1 + M10 114 (3 * m.toNat + (z.toNat + 1) % 3) < M10 114 (3 * m.toNat + z.toNat) then 1 + M10 114 (3 * m.toNat + (z.toNat + 1) % 3) else M10 114 (3 * m.toNat + z.toNat)
                                rw [hM11, qput_eq]
                                first
                                  | rw [if_pos (by omega)]
                                  | rw [if_neg (by omega)])
                              refine zH_w (c' := (210, [zR 97, .inl a1, .inl m, .inl e, .inl y, .inl (z + 1), .inl (1 + M10 114 (3 * m.toNat + (z.toNat + 1) % 3)), w7, w8], [])) 2 hz (by rw [show (.inl (z + 1) : zV) = .inl (w32 (z + 1)) from by rw [w32_id (by omega)]]; rfl) ?_
                              refine ih210 (z + 1) (.inl (1 + M10 114 (3 * m.toNat + (z.toNat + 1) % 3))) M11 (by omega) ?_ ?_ ?_ ?_ ?_
                              · omega
                              · exact hO11
                              · exact hO113
                              · exact hT11
                              · rw [show 3 * y.toNat + (z + 1).toNat = 3 * y.toNat + z.toNat + 1 by omega]; exact hP11
                            · skip
                              refine zH_w (c' := (277, [zR 97, .inl a1, .inl m, .inl e, .inl y, .inl z, .inl (1 + M10 114 (3 * m.toNat + (z.toNat + 1) % 3)), w7, w8], [.inl (1 + M10 114 (3 * m.toNat + (z.toNat + 1) % 3)), .inl (w32 ((w32 (3 * m)) + z)), zR 114])) 2 hz rfl ?_
                              refine zH_iast hz rfl rfl (fun hin277 => ?_)
                              show zH n (0, 0) 265 (278, [zR 97, .inl a1, .inl m, .inl e, .inl y, .inl z, .inl (1 + M10 114 (3 * m.toNat + (z.toNat + 1) % 3)), w7, w8], []) (zput M10 114 (w32 ((w32 (3 * m)) + z) : Int).toNat (1 + M10 114 (3 * m.toNat + (z.toNat + 1) % 3))) _
                              obtain ⟨M11, hM11⟩ : ∃ X : zM, X = zput M10 114 (w32 ((w32 (3 * m)) + z) : Int).toNat (1 + M10 114 (3 * m.toNat + (z.toNat + 1) % 3)) := ⟨_, rfl⟩
                              rw [← hM11]
                              have hi11 : (w32 (w32 (3 * m) + z) : Int).toNat = 3 * m.toNat + z.toNat := by rw [w32_id (x := 3 * m) (by omega), w32_id (by omega)]; omega
                              rw [hi11] at hM11
                              have hO11 : (∀ r, r ≠ 97 → r ≠ 114 → r ≠ 115 → M11 r = M r) ∧ (∀ k, k ≠ 30 → k ≠ 31 → k ≠ 32 → k ≠ 33 → M11 97 k = M 97 k) := ⟨fun r q1 q2 q3 => by rw [hM11, zput_oth q2]; exact hO10.1 r q1 q2 q3, fun k q1 q2 q3 q4 => by rw [hM11, zput_oth (by decide)]; exact hO10.2 k q1 q2 q3 q4⟩
                              have hO113 : M11 97 31 = (W : Int) ∧ M11 97 32 = (P : Int) ∧ M11 97 33 = a1 := by rw [hM11, zput_oth (by decide)]; exact hO103
                              have hT11 : ∀ x, wSub x W → m.toNat < x → wTv L T n9 W M11 x := fun x q1 q2 u hu => by
                                rw [hM11, qput_nk (by omega)]; exact hT10 x q1 q2 u hu
                              have hP11 : wPas L T n9 (W ^^^ m.toNat) (fun u => M11 114 (3 * m.toNat + u)) (3 * y.toNat + z.toNat + 1) := wPas_st (z := z.toNat) hl14 (by omega) (by omega) hP10 (fun u hu y => by
                                show M11 114 (3 * m.toNat + u) = M10 114 (3 * m.toNat + u)
                                rw [hM11, qput_nk (by omega)]) (by
                                show M11 114 (3 * m.toNat + z.toNat) = if 1 + M10 114 (3 * m.toNat + (z.toNat + 1) % 3) < M10 114 (3 * m.toNat + z.toNat) then 1 + M10 114 (3 * m.toNat + (z.toNat + 1) % 3) else M10 114 (3 * m.toNat + z.toNat)
                                rw [hM11, qput_eq]
                                first
                                  | rw [if_pos (by omega)]
                                  | rw [if_neg (by omega)])
                              refine zH_w (c' := (210, [zR 97, .inl a1, .inl m, .inl e, .inl y, .inl (z + 1), .inl (1 + M10 114 (3 * m.toNat + (z.toNat + 1) % 3)), w7, w8], [])) 2 hz (by rw [show (.inl (z + 1) : zV) = .inl (w32 (z + 1)) from by rw [w32_id (by omega)]]; rfl) ?_
                              refine ih210 (z + 1) (.inl (1 + M10 114 (3 * m.toNat + (z.toNat + 1) % 3))) M11 (by omega) ?_ ?_ ?_ ?_ ?_
                              · omega
                              · exact hO11
                              · exact hO113
                              · exact hT11
                              · rw [show 3 * y.toNat + (z + 1).toNat = 3 * y.toNat + z.toNat + 1 by omega]; exact hP11
                      refine lp210 (4) 0 w6 M9 (by omega) ?_ ?_ ?_ ?_ ?_
                      · omega
                      · exact hO9
                      · exact hO93
                      · exact hT9
                      · exact hP9
                refine lp201 (3) 0 v5 v6 v7 v8 M6 (by omega) ?_ ?_ ?_ ?_ ?_
                · omega
                · exact hO6
                · exact hO63
                · exact hT6
                · exact wPas_0 hp hn.1 hWt hm.2.xor (fun u hu => hB6 u (by omega))
              · skip
                have lp89 : ∀ (bb : Int), (bb = (if (W ^^^ m.toNat) = 0 then (0 : Int) else 1000)) → (0 ≤ bb ∧ bb ≤ 1000) → zH n (0, 0) 265 (89, [zR 97, .inl a1, .inl m, .inl e, .inl t, .inl bb, v6, v7, v8], []) M6 (fun r M' => r = none ∧ ((∀ r, r ≠ 97 → r ≠ 114 → r ≠ 115 → M' r = M r) ∧ (∀ k, k ≠ 30 → k ≠ 31 → k ≠ 32 → k ≠ 33 → M' 97 k = M 97 k)) ∧ (M' 97 31 = (W : Int) ∧ M' 97 32 = (P : Int) ∧ M' 97 33 = a1) ∧ wLf L T n9 W M') := by
                  intro bb hb0 hbr
                  refine zH_w (c' := (93, [zR 97, .inl a1, .inl m, .inl e, .inl t, .inl bb, v6, v7, v8], [.inl t, .inl m, zR 97])) 3 hz rfl ?_
                  refine zH_wC (c1 := (96, [zR 97, .inl a1, .inl m, .inl e, .inl t, .inl bb, v6, v7, v8], [])) 0 hz zp_261 (fh_261_97 (hr.mv (hO6.1 98 (by decide) (by decide) (by decide)) (hO6.2 28 (by decide) (by decide) (by decide) (by decide)) (hO6.2 21 (by decide) (by decide) (by decide) (by decide))) hp hW m t hm.1 hm.2 (by omega)) (by rfl) ?_
                  rintro _ M7 ⟨rfl, m1, m2, m3⟩
                  show zH n (0, 0) 265 (96, [zR 97, .inl a1, .inl m, .inl e, .inl t, .inl bb, v6, v7, v8], []) M7 _
                  obtain ⟨b0, hbb⟩ : ∃ b0 : Int, b0 = (if (W ^^^ m.toNat) = 0 then (0 : Int) else 1000) := ⟨_, rfl⟩
                  rw [← hbb] at hb0
                  obtain ⟨F, hF⟩ : ∃ F, F = wF L T (W ^^^ m.toNat) t.toNat 14 := ⟨_, rfl⟩
                  rw [← hF] at m3
                  have hF14 : F < 2 ^ 14 := by rw [hF]; exact wF_lt _ _
                  have hFl : wSub F (W ^^^ m.toNat) := by rw [hF]; exact wF_sb _ _
                  have hC14 := wC_le F 14
                  have hT7 : ∀ x, wSub x W → m.toNat < x → wTv L T n9 W M7 x := fun x q1 q2 => (hT6 x q1 q2).mv (m1 114 (by decide) (by decide))
                  have hO7 : (∀ r, r ≠ 97 → r ≠ 114 → r ≠ 115 → M7 r = M r) ∧ (∀ k, k ≠ 30 → k ≠ 31 → k ≠ 32 → k ≠ 33 → M7 97 k = M 97 k) := ⟨fun r q1 q2 q3 => (m1 r q1 q3).trans (hO6.1 r q1 q2 q3), fun k q1 q2 q3 q4 => (m2 k q1).trans (hO6.2 k q1 q2 q3 q4)⟩
                  have hO73 : M7 97 31 = (W : Int) ∧ M7 97 32 = (P : Int) ∧ M7 97 33 = a1 := ⟨(m2 31 (by decide)).trans hO63.1, (m2 32 (by decide)).trans hO63.2.1, (m2 33 (by decide)).trans hO63.2.2⟩
                  obtain ⟨c, hc⟩ : ∃ c, c = min n9 (wC F 14) := ⟨_, rfl⟩
                  have h1s := wz_1s (c := c) (by omega)
                  have h2s := wz_1s (c := wC F 14) hC14
                  refine zH_w (c' := (98, [zR 97, .inl a1, .inl m, .inl e, .inl t, .inl bb, v6, v7, v8], [.inl a1, zR 97])) 2 hz rfl ?_
                  refine zH_wE (c1 := (101, [zR 97, .inl a1, .inl m, .inl e, .inl t, .inl bb, v6, v7, v8], [])) 0 hz zp_264 (fh_264_97 a1) (by rfl) ?_
                  show zH n (0, 0) 265 (101, [zR 97, .inl a1, .inl m, .inl e, .inl t, .inl bb, v6, v7, v8], [.inl (hf_264_97 M7 a1)]) M7 _
                  rw [(wAl m3 a1 h3).trans (by rw [← hc])]
                  refine zH_w (c' := (107, [zR 97, .inl a1, .inl m, .inl e, .inl t, .inl bb, .inl (c : Int), v7, v8], [.inl (zbshl 1 (c : Int))])) 4 hz rfl ?_
                  rw [h1s.1]
                  refine zH_w (c' := (109, [zR 97, .inl a1, .inl m, .inl e, .inl t, .inl bb, .inl (c : Int), v7, v8], [.inl (w32 (((2 ^ c : Nat) : Int) - 1))])) 2 hz rfl ?_
                  rw [show w32 (((2 ^ c : Nat) : Int) - 1) = ((2 ^ c : Nat) : Int) - 1 from w32_id (by omega)]
                  refine zH_w (c' := (111, [zR 97, .inl a1, .inl m, .inl e, .inl t, .inl bb, .inl (c : Int), .inl (((2 ^ c : Nat) : Int) - 1), v8], [])) 1 hz rfl ?_
                  have lp111 : ∀ (N : Nat) (b : Int) (p : Int) (x8 : zV), ((65536 - p).toNat) < N → (0 ≤ p ∧ qpc 32 p.toNat = c ∧ (1 ≤ c → 1 ≤ p) ∧ p ≤ 65535) → (wBt L T n9 (W ^^^ m.toNat) t.toNat b0 b) → (∀ S v : Nat, wFull L T n9 (W ^^^ m.toNat) t.toNat S → wK 14 F S < p.toNat → wFw L T n9 ((W ^^^ m.toNat) ^^^ S) ((t.toNat + 1) % 3) v → b ≤ (v : Int) + 1) → (0 ≤ b ∧ b ≤ 1000) → zH n (0, 0) 265 (111, [zR 97, .inl a1, .inl m, .inl e, .inl t, .inl b, .inl (c : Int), .inl p, x8], []) M7 (fun r M' => r = none ∧ ((∀ r, r ≠ 97 → r ≠ 114 → r ≠ 115 → M' r = M r) ∧ (∀ k, k ≠ 30 → k ≠ 31 → k ≠ 32 → k ≠ 33 → M' 97 k = M 97 k)) ∧ (M' 97 31 = (W : Int) ∧ M' 97 32 = (P : Int) ∧ M' 97 33 = a1) ∧ wLf L T n9 W M') := by
                    intro N
                    induction N with
                    | zero => intro b p x8 hN; exact absurd hN (Nat.not_lt_zero _)
                    | succ N ih111 =>
                      intro b p x8 hN hp9 hb hmin hb9
                      refine zH_w (c' := (113, [zR 97, .inl a1, .inl m, .inl e, .inl t, .inl b, .inl (c : Int), .inl p, x8], [.inl (c : Int)])) 1 hz rfl ?_
                      refine zH_wf_le (pc := 113) (n' := 116) (t := 179) (L := [zR 97, .inl a1, .inl m, .inl e, .inl t, .inl b, .inl (c : Int), .inl p, x8]) (st := []) (x := (c : Int)) 0 hz (by rfl) (fun hb113 => ?_) (fun hb113 => ?_)
                      · skip
                        have hbv : wBv L T n9 (W ^^^ m.toNat) t.toNat b := wBv_mk hp hn.1 hWt hlm (by omega) hF hbb hb (fun q => by omega)
                        refine zH_w (c' := (191, [zR 97, .inl a1, .inl m, .inl e, .inl t, .inl b, .inl (c : Int), .inl p, x8], [.inl b, .inl (w32 ((w32 (3 * m)) + t)), zR 114])) 8 hz rfl ?_
                        refine zH_iast hz rfl rfl (fun hin191 => ?_)
                        show zH n (0, 0) 265 (192, [zR 97, .inl a1, .inl m, .inl e, .inl t, .inl b, .inl (c : Int), .inl p, x8], []) (zput M7 114 (w32 ((w32 (3 * m)) + t) : Int).toNat b) _
                        obtain ⟨M8, hM8⟩ : ∃ X : zM, X = zput M7 114 (w32 ((w32 (3 * m)) + t) : Int).toNat b := ⟨_, rfl⟩
                        rw [← hM8]
                        have hi8 : (w32 (w32 (3 * m) + t) : Int).toNat = 3 * m.toNat + t.toNat := by rw [w32_id (x := 3 * m) (by omega), w32_id (by omega)]; omega
                        rw [hi8] at hM8
                        have hO8 : (∀ r, r ≠ 97 → r ≠ 114 → r ≠ 115 → M8 r = M r) ∧ (∀ k, k ≠ 30 → k ≠ 31 → k ≠ 32 → k ≠ 33 → M8 97 k = M 97 k) := ⟨fun r q1 q2 q3 => by rw [hM8, zput_oth q2]; exact hO7.1 r q1 q2 q3, fun k q1 q2 q3 q4 => by rw [hM8, zput_oth (by decide)]; exact hO7.2 k q1 q2 q3 q4⟩
                        have hO83 : M8 97 31 = (W : Int) ∧ M8 97 32 = (P : Int) ∧ M8 97 33 = a1 := by rw [hM8, zput_oth (by decide)]; exact hO73
                        have hT8 : ∀ x, wSub x W → m.toNat < x → wTv L T n9 W M8 x := fun x q1 q2 u hu => by
                          rw [hM8, qput_nk (by omega)]; exact hT7 x q1 q2 u hu
                        have hB8 : ∀ u : Nat, (u : Int) < t + 1 → wBv L T n9 (W ^^^ m.toNat) u (M8 114 (3 * m.toNat + u)) := fun u hu => by
                          rw [hM8]
                          by_cases y : u = t.toNat
                          · rw [y, qput_eq]; exact hbv
                          · rw [qput_nk (by omega), m1 114 (by decide) (by decide)]; exact hB6 u (by omega)
                        refine zH_w (c' := (66, [zR 97, .inl a1, .inl m, .inl e, .inl (t + 1), .inl b, .inl (c : Int), .inl p, x8], [])) 2 hz (by rw [show (.inl (t + 1) : zV) = .inl (w32 (t + 1)) from by rw [w32_id (by omega)]]; rfl) ?_
                        refine ih66 (t + 1) (.inl b) (.inl (c : Int)) (.inl p) x8 M8 (by omega) ?_ ?_ ?_ ?_ ?_
                        · omega
                        · exact hO8
                        · exact hO83
                        · exact hT8
                        · exact hB8
                      · skip
                        refine zH_w (c' := (123, [zR 97, .inl a1, .inl m, .inl e, .inl t, .inl b, .inl (c : Int), .inl p, x8], [.inl (M7 97 30), .inl 1, .inl p])) 4 hz rfl ?_
                        rw [m3.1]
                        refine zH_w (c' := (124, [zR 97, .inl a1, .inl m, .inl e, .inl t, .inl b, .inl (c : Int), .inl p, x8], [.inl (zbshl 1 ((wC F 14 : Nat) : Int)), .inl p])) 1 hz rfl ?_
                        rw [h2s.1]
                        refine zH_icmp_ge hz rfl (fun hb124 => ?_) (fun hb124 => ?_)
                        · skip
                          have hbv : wBv L T n9 (W ^^^ m.toNat) t.toNat b := wBv_mk hp hn.1 hWt hlm (by omega) hF hbb hb (fun q S v s1 s2 => hmin S v s1 (by obtain ⟨-, r2, -, -⟩ := wPc hF s1; omega) s2)
                          refine zH_w (c' := (191, [zR 97, .inl a1, .inl m, .inl e, .inl t, .inl b, .inl (c : Int), .inl p, x8], [.inl b, .inl (w32 ((w32 (3 * m)) + t)), zR 114])) 8 hz rfl ?_
                          refine zH_iast hz rfl rfl (fun hin191 => ?_)
                          show zH n (0, 0) 265 (192, [zR 97, .inl a1, .inl m, .inl e, .inl t, .inl b, .inl (c : Int), .inl p, x8], []) (zput M7 114 (w32 ((w32 (3 * m)) + t) : Int).toNat b) _
                          obtain ⟨M8, hM8⟩ : ∃ X : zM, X = zput M7 114 (w32 ((w32 (3 * m)) + t) : Int).toNat b := ⟨_, rfl⟩
                          rw [← hM8]
                          have hi8 : (w32 (w32 (3 * m) + t) : Int).toNat = 3 * m.toNat + t.toNat := by rw [w32_id (x := 3 * m) (by omega), w32_id (by omega)]; omega
                          rw [hi8] at hM8
                          have hO8 : (∀ r, r ≠ 97 → r ≠ 114 → r ≠ 115 → M8 r = M r) ∧ (∀ k, k ≠ 30 → k ≠ 31 → k ≠ 32 → k ≠ 33 → M8 97 k = M 97 k) := ⟨fun r q1 q2 q3 => by rw [hM8, zput_oth q2]; exact hO7.1 r q1 q2 q3, fun k q1 q2 q3 q4 => by rw [hM8, zput_oth (by decide)]; exact hO7.2 k q1 q2 q3 q4⟩
                          have hO83 : M8 97 31 = (W : Int) ∧ M8 97 32 = (P : Int) ∧ M8 97 33 = a1 := by rw [hM8, zput_oth (by decide)]; exact hO73
                          have hT8 : ∀ x, wSub x W → m.toNat < x → wTv L T n9 W M8 x := fun x q1 q2 u hu => by
                            rw [hM8, qput_nk (by omega)]; exact hT7 x q1 q2 u hu
                          have hB8 : ∀ u : Nat, (u : Int) < t + 1 → wBv L T n9 (W ^^^ m.toNat) u (M8 114 (3 * m.toNat + u)) := fun u hu => by
                            rw [hM8]
                            by_cases y : u = t.toNat
                            · rw [y, qput_eq]; exact hbv
                            · rw [qput_nk (by omega), m1 114 (by decide) (by decide)]; exact hB6 u (by omega)
                          refine zH_w (c' := (66, [zR 97, .inl a1, .inl m, .inl e, .inl (t + 1), .inl b, .inl (c : Int), .inl p, x8], [])) 2 hz (by rw [show (.inl (t + 1) : zV) = .inl (w32 (t + 1)) from by rw [w32_id (by omega)]]; rfl) ?_
                          refine ih66 (t + 1) (.inl b) (.inl (c : Int)) (.inl p) x8 M8 (by omega) ?_ ?_ ?_ ?_ ?_
                          · omega
                          · exact hO8
                          · exact hO83
                          · exact hT8
                          · exact hB8
                        · skip
                          have hp0 := hp9.2.2.1 (by omega)
                          have hpl : p.toNat < 2 ^ wC F 14 := by omega
                          have hg := wGp_all (v := p.toNat) (by omega) (by omega)
                          refine zH_w (c' := (137, [zR 97, .inl a1, .inl m, .inl e, .inl t, .inl b, .inl (c : Int), .inl p, x8], [.inl p, zR 97, .inl m, .inl 3, zR 114, .inl 1])) 7 hz rfl ?_
                          refine zH_wC (c1 := (140, [zR 97, .inl a1, .inl m, .inl e, .inl t, .inl b, .inl (c : Int), .inl p, x8], [.inl m, .inl 3, zR 114, .inl 1])) 0 hz zp_262 (fh_262_97 hF14 m3 p (by omega)) (by rfl) ?_
                          rintro _ M12 ⟨⟨S0, rfl, hS0⟩, e6⟩
                          show zH n (0, 0) 265 (140, [zR 97, .inl a1, .inl m, .inl e, .inl t, .inl b, .inl (c : Int), .inl p, x8], [.inl (S0 : Int), .inl m, .inl 3, zR 114, .inl 1]) M12 _
                          obtain ⟨hf0, hk0⟩ := wSp_full (n9 := n9) hF hpl (by omega) hS0
                          replace e6 := e6.symm
                          subst e6
                          have hc0 : 1 ≤ wC S0 14 := by have := hf0.2; rw [← hF] at this; omega
                          have hSn : S0 ≠ 0 := fun q => by rw [q, wC_z 14 (fun _ _ => wb_0)] at hc0; omega
                          obtain ⟨x1, x2⟩ := wXo hm.2 hf0.sub
                          obtain ⟨v, v1, v2⟩ := hT7 _ x1 (wXlt hm.2 hf0.sub hSn) ((t.toNat + 1) % 3) (Nat.mod_lt _ (by decide))
                          rw [x2] at v2
                          have hS14 := hS0.1
                          have hor := Nat.or_lt_two_pow hm14 hS14
                          have v42 : v ≤ 42 := by
                            obtain ⟨K, k1, k2⟩ := wK42' (n9 := n9) hp hn.1 hWt (hf0.sub.xor.tr hlm) (t := (t.toNat + 1) % 3) (Nat.mod_lt _ (by decide))
                            have := wFw_le v2 k2
                            omega
                          refine zH_w (c' := (147, [zR 97, .inl a1, .inl m, .inl e, .inl t, .inl b, .inl (c : Int), .inl p, x8], [.inl 3, .inl (w32 (t + 1)), .inl (w32 (3 * (zbor m (S0 : Int)))), zR 114, .inl 1])) 6 hz rfl ?_
                          refine zH_irem hz rfl (fun hdv147 => ?_)
                          show zH n (0, 0) 265 (148, [zR 97, .inl a1, .inl m, .inl e, .inl t, .inl b, .inl (c : Int), .inl p, x8], [.inl ((w32 (t + 1)).tmod 3), .inl (w32 (3 * (zbor m (S0 : Int)))), zR 114, .inl 1]) M7 _
                          refine zH_w (c' := (149, [zR 97, .inl a1, .inl m, .inl e, .inl t, .inl b, .inl (c : Int), .inl p, x8], [.inl (w32 ((w32 (3 * (zbor m (S0 : Int)))) + ((w32 (t + 1)).tmod 3))), zR 114, .inl 1])) 1 hz rfl ?_
                          refine zH_iald hz rfl rfl (.inl rfl) (fun hin149 => ?_)
                          show zH n (0, 0) 265 (150, [zR 97, .inl a1, .inl m, .inl e, .inl t, .inl b, .inl (c : Int), .inl p, x8], [.inl (M7 114 (w32 ((w32 (3 * (zbor m (S0 : Int)))) + ((w32 (t + 1)).tmod 3)) : Int).toNat), .inl 1]) M7 _
                          rw [show M7 114 (w32 ((w32 (3 * (zbor m (S0 : Int)))) + ((w32 (t + 1)).tmod 3)) : Int).toNat = (v : Int) from by rw [← v1, show zbor m (S0 : Int) = ((m.toNat ||| S0 : Nat) : Int) from by rw [qbor_N _ _ (by omega) (by omega), Int.toNat_natCast], wmod _ (by rw [w32_id (by omega)]; omega), w32_id (x := t + 1) (by omega), w32_id (x := 3 * ((m.toNat ||| S0 : Nat) : Int)) (by omega), w32_id (by omega)]; congr 1; omega]
                          refine zH_w (c' := (151, [zR 97, .inl a1, .inl m, .inl e, .inl t, .inl b, .inl (c : Int), .inl p, x8], [.inl (w32 (1 + (v : Int)))])) 1 hz rfl ?_
                          rw [show w32 (1 + (v : Int)) = 1 + (v : Int) from w32_id (by omega)]
                          refine zH_w (c' := (157, [zR 97, .inl a1, .inl m, .inl e, .inl t, .inl b, .inl (c : Int), .inl p, .inl (1 + (v : Int))], [.inl b, .inl (1 + (v : Int))])) 3 hz rfl ?_
                          refine zH_wi_ge (pc := 157) (n' := 160) (t := 165) (L := [zR 97, .inl a1, .inl m, .inl e, .inl t, .inl b, .inl (c : Int), .inl p, .inl (1 + (v : Int))]) (st := []) (x := (1 + (v : Int))) (y := b) 0 hz (by rfl) (fun hb157 => ?_) (fun hb157 => ?_)
                          · skip
                            have hbn := hb
                            have hmn : ∀ S v : Nat, wFull L T n9 (W ^^^ m.toNat) t.toNat S → wK 14 F S < wGp p.toNat → wFw L T n9 ((W ^^^ m.toNat) ^^^ S) ((t.toNat + 1) % 3) v → b ≤ (v : Int) + 1 := fun S u q1 q2 q4 => by
                              have q3 := wPn hF (by omega) hpl (by omega) q1 q2
                              rcases (by omega : wK 14 F S < p.toNat ∨ wK 14 F S = p.toNat) with y | y
                              · exact hmin S u q1 y q4
                              · have eS : S = S0 := wK_inj 14 (q1.sub.lt hl14) hS14 (wPc hF q1).1 (wPc hF hf0).1 (y.trans hk0.symm)
                                rw [eS] at q4
                                have := wFw_u q4 v2
                                omega
                            refine zH_wE (c1 := (174, [zR 97, .inl a1, .inl m, .inl e, .inl t, .inl b, .inl (c : Int), .inl p, .inl (1 + (v : Int))], [])) 3 hz zp_263 (fh_263 p (by omega)) (by rfl) ?_
                            show zH n (0, 0) 265 (174, [zR 97, .inl a1, .inl m, .inl e, .inl t, .inl b, .inl (c : Int), .inl p, .inl (1 + (v : Int))], [.inl ((wGp p.toNat : Nat) : Int)]) M7 _
                            refine zH_w (c' := (111, [zR 97, .inl a1, .inl m, .inl e, .inl t, .inl b, .inl (c : Int), .inl ((wGp p.toNat : Nat) : Int), .inl (1 + (v : Int))], [])) 2 hz rfl ?_
                            refine ih111 b ((wGp p.toNat : Nat) : Int) (.inl (1 + (v : Int))) (by omega) ?_ ?_ ?_ ?_
                            · exact ⟨by omega, by rw [Int.toNat_natCast, hg.2.2.1]; exact hp9.2.1, fun _ => by omega, by omega⟩
                            · exact hbn
                            · rw [Int.toNat_natCast]; exact hmn
                            · omega
                          · skip
                            have hbn : wBt L T n9 (W ^^^ m.toNat) t.toNat b0 (1 + (v : Int)) := .inr ⟨S0, v, hf0, hc0, v2, by omega⟩
                            have hmn : ∀ S v9 : Nat, wFull L T n9 (W ^^^ m.toNat) t.toNat S → wK 14 F S < wGp p.toNat → wFw L T n9 ((W ^^^ m.toNat) ^^^ S) ((t.toNat + 1) % 3) v9 → (1 + (v : Int)) ≤ (v9 : Int) + 1 := fun S u q1 q2 q4 => by
                              have q3 := wPn hF (by omega) hpl (by omega) q1 q2
                              rcases (by omega : wK 14 F S < p.toNat ∨ wK 14 F S = p.toNat) with y | y
                              · have := hmin S u q1 y q4; omega
                              · have eS : S = S0 := wK_inj 14 (q1.sub.lt hl14) hS14 (wPc hF q1).1 (wPc hF hf0).1 (y.trans hk0.symm)
                                rw [eS] at q4
                                have := wFw_u q4 v2
                                omega
                            refine zH_wE (c1 := (174, [zR 97, .inl a1, .inl m, .inl e, .inl t, .inl (1 + (v : Int)), .inl (c : Int), .inl p, .inl (1 + (v : Int))], [])) 4 hz zp_263 (fh_263 p (by omega)) (by rfl) ?_
                            show zH n (0, 0) 265 (174, [zR 97, .inl a1, .inl m, .inl e, .inl t, .inl (1 + (v : Int)), .inl (c : Int), .inl p, .inl (1 + (v : Int))], [.inl ((wGp p.toNat : Nat) : Int)]) M7 _
                            refine zH_w (c' := (111, [zR 97, .inl a1, .inl m, .inl e, .inl t, .inl (1 + (v : Int)), .inl (c : Int), .inl ((wGp p.toNat : Nat) : Int), .inl (1 + (v : Int))], [])) 2 hz rfl ?_
                            refine ih111 (1 + (v : Int)) ((wGp p.toNat : Nat) : Int) (.inl (1 + (v : Int))) (by omega) ?_ ?_ ?_ ?_
                            · exact ⟨by omega, by rw [Int.toNat_natCast, hg.2.2.1]; exact hp9.2.1, fun _ => by omega, by omega⟩
                            · exact hbn
                            · rw [Int.toNat_natCast]; exact hmn
                            · omega
                  refine lp111 (65537) bb (((2 ^ c : Nat) : Int) - 1) v8 (by omega) ?_ ?_ ?_ ?_
                  · exact ⟨by omega, by rw [show (((2 ^ c : Nat) : Int) - 1).toNat = 2 ^ c - 1 by omega, wq32 (k := c) (by omega) (by omega)]; exact wqf c, fun q => by have := Nat.pow_le_pow_right (n := 2) (by decide) q; omega, by omega⟩
                  · exact .inl hb0
                  · intro S v q1 q2
                    exfalso
                    obtain ⟨-, -, r3, r4⟩ := wPc hF q1
                    have := wGp_0 r3 (r4.trans hc.symm)
                    omega
                  · omega
                refine zH_w (c' := (77, [zR 97, .inl a1, .inl m, .inl e, .inl t, v5, v6, v7, v8], [.inl (M6 97 28), .inl m])) 3 hz rfl ?_
                rw [show M6 97 28 = (W : Int) from (hO6.2 28 (by decide) (by decide) (by decide) (by decide)).trans hr.2.2.1]
                refine zH_icmp_ne hz rfl (fun hb77 => ?_) (fun hb77 => ?_)
                · skip
                  have hb0a : (1000 : Int) = (if (W ^^^ m.toNat) = 0 then (0 : Int) else 1000) := by rw [if_neg (fun q => by have := wXX hm.2 q; omega)]
                  refine zH_w (c' := (89, [zR 97, .inl a1, .inl m, .inl e, .inl t, .inl 1000, v6, v7, v8], [])) 2 hz rfl ?_
                  refine lp89 1000 ?_ ?_
                  · exact hb0a
                  · omega
                · skip
                  have hb0a : (0 : Int) = (if (W ^^^ m.toNat) = 0 then (0 : Int) else 1000) := by rw [if_pos (by rw [show m.toNat = W by omega, Nat.xor_self])]
                  refine zH_w (c' := (89, [zR 97, .inl a1, .inl m, .inl e, .inl t, .inl 0, v6, v7, v8], [])) 3 hz rfl ?_
                  refine lp89 0 ?_ ?_
                  · exact hb0a
                  · omega
          refine lp66 (4) 0 u5 u6 u7 u8 M5 (by omega) ?_ ?_ ?_ ?_ ?_
          · omega
          · exact hO
          · exact hO3
          · exact fun x h1 h2 => hT x h1 (.inr h2)
          · exact fun u hu => absurd hu (by omega)
    refine lp59 (20000) (W : Int) 1 zN zN zN zN zN M1 (by rw [if_neg (show ¬ (1 : Int) = 0 by decide), Int.toNat_natCast]; omega) ?_ ?_ ?_ ?_ ?_
    · exact ⟨by omega, by rw [Int.toNat_natCast]; exact fun _ q => q⟩
    · exact .inr rfl
    · exact hOa
    · exact hOb
    · intro x hx q
      exfalso
      have := Nat.le_of_testBit hx
      rw [Int.toNat_natCast] at q
      omega
  refine zH_w (c' := (8, [zR 97, .inl a1, zN, zN, zN, zN, zN, zN, zN], [.inl (M 97 28), .inl (M 97 31)])) 4 hz rfl ?_
  rw [hr.2.2.1]
  refine zH_icmp_ne hz rfl (fun hb8 => ?_) (fun hb8 => ?_)
  · skip
    refine lp31  
  · skip
    refine zH_w (c' := (19, [zR 97, .inl a1, zN, zN, zN, zN, zN, zN, zN], [.inl (M 97 21), .inl (M 97 32)])) 4 hz rfl ?_
    rw [hr.2.2.2]
    refine zH_icmp_ne hz rfl (fun hb19 => ?_) (fun hb19 => ?_)
    · skip
      refine lp31  
    · skip
      refine zH_w (c' := (27, [zR 97, .inl a1, zN, zN, zN, zN, zN, zN, zN], [.inl a1, .inl (M 97 33)])) 3 hz rfl ?_
      refine zH_wi_ne (pc := 27) (n' := 30) (t := 31) (L := [zR 97, .inl a1, zN, zN, zN, zN, zN, zN, zN]) (st := []) (x := (M 97 33)) (y := a1) 0 hz (by rfl) (fun hb27 => ?_) (fun hb27 => ?_)
      · skip
        refine lp31  
      · skip
        have hc99 := hc9 (by omega) (by omega) (by omega)
        exact zH_wr (r := none) 0 hz (by rfl) (⟨rfl, ⟨fun _ _ _ _ => rfl, fun _ _ _ _ _ => rfl⟩, ⟨by omega, by omega, by omega⟩, hc99⟩)
