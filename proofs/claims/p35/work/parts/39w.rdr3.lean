/-! A TEXT READ: THE CLASS, TOKEN BY TOKEN -/
theorem xrR_24 (c : Nat → Int) (s e : Nat) : ∀ (l : List Int) (v : Int) (a : Nat) (k : Bool), 0 ≤ v → v + l.length < 24 + l.length → (l.filter (fun x => decide (x = 32))).length + v ≤ 15 → ¬ xrR c s e l v a k = 24
  | [], _, _, _, _, _, _ => by show ¬ (-1 : Int) = 24; decide
  | x :: l, v, a, k, h1, h2, h3 => by
    rw [xrR_c]
    by_cases hx : x = 32
    · rw [List.filter_cons, if_pos (decide_eq_true hx), List.length_cons] at h3
      rw [if_pos hx]
      split
      · omega
      · exact xrR_24 c s e l (v + 1) s true (by omega) (by omega) (by omega)
    · rw [List.filter_cons, if_neg (by rw [decide_eq_false hx]; exact Bool.false_ne_true)] at h3
      rw [if_neg hx]
      rw [List.length_cons] at h2
      exact xrR_24 c s e l v (a + 1) _ h1 (by omega) h3
theorem xrWl_f : (xrWl.filter (fun x => decide (x = 32))).length = 15 := by decide +kernel
theorem xite_b {p : Prop} [Decidable p] {a b : Int} (ha : 14 ≤ a ∧ a ≤ 23) (hb : 14 ≤ b ∧ b ≤ 23) : 14 ≤ (if p then a else b) ∧ (if p then a else b) ≤ 23 := by
  by_cases h : p
  · rw [if_pos h]; exact ha
  · rw [if_neg h]; exact hb
theorem xrG_b (x : Int) : 14 ≤ xrG x ∧ xrG x ≤ 23 :=
  xite_b (by decide) (xite_b (by decide) (xite_b (by decide) (xite_b (by decide) (xite_b (by decide) (xite_b (by decide) (xite_b (by decide) (xite_b (by decide) (xite_b (by decide) (by decide)))))))))
theorem xrW_24 {c : Nat → Int} {s e : Nat} : ¬ xrW c s e = 24 := xrR_24 c s e xrWl 0 s true (by omega) (by show (0 : Int) + 82 < 24 + 82; omega) (by rw [xrWl_f]; decide)
set_option maxRecDepth 100000 in
theorem fh_93_67 {n : Nat} {M : zM} {Mo : zM} {a : Int} (hp : xP Mo a) (hF : ∀ r, r ≠ 67 → r ≠ 69 → r ≠ 70 → r ≠ 71 → M r = Mo r) (ea : M 67 3 = a) (eL : M 67 4 = (xL Mo a : Int)) {i : Nat} (e6 : M 67 6 = i) (hi : i ≤ xL Mo a) (e10 : M 67 10 = -1) : zH n (0, 0) 93 (0, zini [zR 67] 2, []) M (fun r M' => r = none ∧ (∀ r, r ≠ 67 → M' r = M r) ∧ M' 67 5 = ((xrB (xc Mo a) (xL Mo a - i) i) : Nat) ∧ M' 67 6 = (xEn (xc Mo a) (xL Mo a) (xrB (xc Mo a) (xL Mo a - i) i) : Nat) ∧ M' 67 10 = (if xWy (xc Mo a) (xL Mo a) (xrB (xc Mo a) (xL Mo a - i) i) = 0 then -1 else 10 * ((xrB (xc Mo a) (xL Mo a - i) i) : Nat) + xWy (xc Mo a) (xL Mo a) (xrB (xc Mo a) (xL Mo a - i) i)) ∧ (xWy (xc Mo a) (xL Mo a) (xrB (xc Mo a) (xL Mo a - i) i) = 0 → M' 67 7 = xKd (xc Mo a) (xL Mo a) (xrB (xc Mo a) (xL Mo a - i) i) ∧ (xKd (xc Mo a) (xL Mo a) (xrB (xc Mo a) (xL Mo a - i) i) = 24 → M' 67 8 = xVl (xc Mo a) (xL Mo a) (xrB (xc Mo a) (xL Mo a - i) i))) ∧ ∀ f, f ≠ 5 → f ≠ 6 → f ≠ 7 → f ≠ 8 → f ≠ 10 → M' 67 f = M 67 f) := by
  have hz := zp_93
  show zH n (0, 0) 93 (0, [zR 67, zN], []) M _
  have hL := hp.len
  have f20 := hF 20 (by decide) (by decide) (by decide) (by decide)
  have f21 := hF 21 (by decide) (by decide) (by decide) (by decide)
  refine zH_w (c' := (8, [zR 67, zN], [])) 4 hz rfl ?_
  have e50 : zput M 67 5 (M 67 6) 67 5 = M 67 6 := qput_eq
  have lp8 : ∀ (N : Nat) (u1 : zV) (M5 : zM), ((100 - M5 67 5).toNat) < N → (∃ j : Nat, i ≤ j ∧ j ≤ xL Mo a ∧ M5 67 5 = j ∧ xrB (xc Mo a) (xL Mo a - j) j = (xrB (xc Mo a) (xL Mo a - i) i)) → (∀ r, r ≠ 67 → M5 r = M r) → (∀ f, f ≠ 5 → M5 67 f = M 67 f) → zH n (0, 0) 93 (8, [zR 67, u1], []) M5 (fun r M' => r = none ∧ (∀ r, r ≠ 67 → M' r = M r) ∧ M' 67 5 = ((xrB (xc Mo a) (xL Mo a - i) i) : Nat) ∧ M' 67 6 = (xEn (xc Mo a) (xL Mo a) (xrB (xc Mo a) (xL Mo a - i) i) : Nat) ∧ M' 67 10 = (if xWy (xc Mo a) (xL Mo a) (xrB (xc Mo a) (xL Mo a - i) i) = 0 then -1 else 10 * ((xrB (xc Mo a) (xL Mo a - i) i) : Nat) + xWy (xc Mo a) (xL Mo a) (xrB (xc Mo a) (xL Mo a - i) i)) ∧ (xWy (xc Mo a) (xL Mo a) (xrB (xc Mo a) (xL Mo a - i) i) = 0 → M' 67 7 = xKd (xc Mo a) (xL Mo a) (xrB (xc Mo a) (xL Mo a - i) i) ∧ (xKd (xc Mo a) (xL Mo a) (xrB (xc Mo a) (xL Mo a - i) i) = 24 → M' 67 8 = xVl (xc Mo a) (xL Mo a) (xrB (xc Mo a) (xL Mo a - i) i))) ∧ ∀ f, f ≠ 5 → f ≠ 6 → f ≠ 7 → f ≠ 8 → f ≠ 10 → M' 67 f = M 67 f) := by
    intro N
    induction N with
    | zero => intro u1 M5 hN; exact absurd hN (Nat.not_lt_zero _)
    | succ N ih8 =>
      intro u1 M5 hN hj hO hG
      obtain ⟨j, g1, g2, g3, g4⟩ := hj
      have l4 : M5 67 4 = (xL Mo a : Int) := (hG 4 (by decide)).trans eL
      have l3 : M5 67 3 = a := (hG 3 (by decide)).trans ea
      have let5 : j < 80 → hf_97_67 M5 (M5 67 5) = xc Mo a j := fun q => by rw [g3]; exact xS.letter hp ((hO 20 (by decide)).trans f20) ((hO 21 (by decide)).trans f21) l3 q
      refine zH_w (c' := (16, [zR 67, u1], [.inl (M5 67 4), .inl (M5 67 5)])) 4 hz rfl ?_
      refine zH_wi_ge (pc := 16) (n' := 19) (t := 45) (L := [zR 67, u1]) (st := []) (x := (M5 67 5)) (y := (M5 67 4)) 0 hz (by rfl) (fun hb16 => ?_) (fun hb16 => ?_)
      · skip
        have hS : xrB (xc Mo a) (xL Mo a - i) i = j := by rw [← g4]; exact xrB_n (by first | (intro q; omega) | (intro _; exact hb29))
        rw [hS]
        have hc : xCon M5 := by
          have q := hp.2.2.2.1
          unfold xCon at q ⊢
          rw [hO 4 (by decide), hO 6 (by decide), hO 5 (by decide), hO 7 (by decide), hO 1 (by decide), hF 4 (by decide) (by decide) (by decide) (by decide), hF 6 (by decide) (by decide) (by decide) (by decide), hF 5 (by decide) (by decide) (by decide) (by decide), hF 7 (by decide) (by decide) (by decide) (by decide), hF 1 (by decide) (by decide) (by decide) (by decide)]
          exact q
        refine zH_w (c' := (53, [zR 67, u1], [])) 4 hz rfl ?_
        obtain ⟨A, hA⟩ : ∃ X : zM, X = zput M5 67 6 (M5 67 5) := ⟨_, rfl⟩
        rw [← hA]
        have Ao : ∀ r, r ≠ 67 → A r = M5 r := fun r hr => by rw [hA]; exact zput_oth hr
        have AG : ∀ f, f ≠ 6 → A 67 f = M5 67 f := fun f hf => by rw [hA]; exact qput_nk hf
        have A6 : A 67 6 = (j : Int) := by rw [hA, qput_eq]; exact g3
        have A5 : A 67 5 = (j : Int) := (AG 5 (by decide)).trans g3
        have A4 : A 67 4 = (xL Mo a : Int) := (AG 4 (by decide)).trans l4
        have A3 : A 67 3 = a := (AG 3 (by decide)).trans l3
        have A10 : A 67 10 = -1 := (AG 10 (by decide)).trans ((hG 10 (by decide)).trans e10)
        have AO : ∀ r, r ≠ 67 → A r = M r := fun r hr => (Ao r hr).trans (hO r hr)
        have AF : ∀ f, f ≠ 5 → f ≠ 6 → A 67 f = M 67 f := fun f q1 q2 => (AG f q2).trans (hG f q1)
        have Alet : j < 80 → hf_97_67 A (A 67 5) = xc Mo a j := fun q => by rw [A5]; exact xS.letter hp ((AO 20 (by decide)).trans f20) ((AO 21 (by decide)).trans f21) A3 q
        have AFr : ∀ r, r ≠ 67 → r ≠ 69 → r ≠ 70 → r ≠ 71 → A r = Mo r := fun r q1 q2 q3 q4 => (AO r q1).trans (hF r q1 q2 q3 q4)
        refine zH_w (c' := (61, [zR 67, u1], [.inl (A 67 4), .inl (A 67 5)])) 4 hz rfl ?_
        refine zH_wi_lt (pc := 61) (n' := 64) (t := 73) (L := [zR 67, u1]) (st := []) (x := (A 67 5)) (y := (A 67 4)) 0 hz (by rfl) (fun hb61 => ?_) (fun hb61 => ?_)
        · skip
          have hj : j < xL Mo a := by omega
          have tV : xVl (xc Mo a) (xL Mo a) j = xrV (xc Mo a) j (xrD (xc Mo a) (xL Mo a - j) j - j) := rfl
          refine zH_wE (c1 := (81, [zR 67, u1], [])) 3 hz zp_97 (fh_97_67 (A 67 5)) (by rfl) ?_
          show zH n (0, 0) 93 (81, [zR 67, u1], [.inl (hf_97_67 A (A 67 5))]) A _
          rw [Alet (by omega)]
          refine zH_wE (c1 := (84, [zR 67, u1], [])) 0 hz zp_98 (fh_98 (xc Mo a j)) (by rfl) ?_
          show zH n (0, 0) 93 (84, [zR 67, u1], [.inl (hf_98 A (xc Mo a j))]) A _
          obtain ⟨y, hy⟩ : ∃ x : Int, x = (hf_98 A (xc Mo a j)) := ⟨_, rfl⟩
          rw [← hy]
          refine zH_if_eq hz rfl (fun hb84 => ?_) (fun hb84 => ?_)
          · skip
            rw [hy, x98] at hb84
            refine zH_w (c' := (99, [zR 67, u1], [.inl (A 67 5), zR 67])) 3 hz rfl ?_
            refine zH_wE (c1 := (102, [zR 67, u1], [])) 0 hz zp_97 (fh_97_67 (A 67 5)) (by rfl) ?_
            show zH n (0, 0) 93 (102, [zR 67, u1], [.inl (hf_97_67 A (A 67 5))]) A _
            rw [Alet (by omega)]
            refine zH_wE (c1 := (105, [zR 67, u1], [])) 0 hz zp_99 (fh_99 (xc Mo a j)) (by rfl) ?_
            show zH n (0, 0) 93 (105, [zR 67, u1], [.inl (hf_99 A (xc Mo a j))]) A _
            obtain ⟨zz, hzz⟩ : ∃ x : Int, x = (hf_99 A (xc Mo a j)) := ⟨_, rfl⟩
            rw [← hzz]
            refine zH_if_eq hz rfl (fun hb105 => ?_) (fun hb105 => ?_)
            · skip
              rw [hzz, x99] at hb105
              have tE : xEn (xc Mo a) (xL Mo a) j = j + 1 := (if_neg (by omega)).trans ((if_neg hb84).trans (if_neg hb105))
              have tK : xKd (xc Mo a) (xL Mo a) j = xrG (xc Mo a j) := (if_neg (by omega)).trans ((if_neg hb84).trans (if_neg hb105))
              have tW : xWy (xc Mo a) (xL Mo a) j = if xrG (xc Mo a j) = 14 then 1 else 0 := (if_neg (by omega)).trans ((if_neg hb84).trans (if_neg hb105))
              have rG : 14 ≤ xrG (xc Mo a j) ∧ xrG (xc Mo a j) ≤ 23 := xrG_b _
              have hcr := xc_r hp (j := j) (by omega)
              refine zH_w (c' := (122, [zR 67, u1], [.inl (w32 ((A 67 5) + 1)), zR 67])) 5 hz rfl ?_
              refine zH_w (c' := (125, [zR 67, u1], [])) 1 hz rfl ?_
              obtain ⟨B, hB⟩ : ∃ X : zM, X = zput A 67 6 (w32 ((A 67 5) + 1)) := ⟨_, rfl⟩
              rw [← hB]
              have B6 : B 67 6 = ((j + 1 : Nat) : Int) := by rw [hB, qput_eq, A5, w32_id (by omega)]; omega
              have BG : ∀ f, f ≠ 6 → B 67 f = A 67 f := fun f hf => by rw [hB]; exact qput_nk hf
              have BO : ∀ r, r ≠ 67 → B r = M r := fun r hr => by rw [hB]; exact (zput_oth hr).trans (AO r hr)
              have Blet : hf_97_67 B (B 67 5) = xc Mo a j := by rw [BG 5 (by decide), A5]; exact xS.letter hp ((BO 20 (by decide)).trans f20) ((BO 21 (by decide)).trans f21) ((BG 3 (by decide)).trans A3) (by omega)
              have hcB : xCon B := by
                have q := hp.2.2.2.1
                unfold xCon at q ⊢
                rw [BO 4 (by decide), BO 6 (by decide), BO 5 (by decide), BO 7 (by decide), BO 1 (by decide), hF 4 (by decide) (by decide) (by decide) (by decide), hF 6 (by decide) (by decide) (by decide) (by decide), hF 5 (by decide) (by decide) (by decide) (by decide), hF 7 (by decide) (by decide) (by decide) (by decide), hF 1 (by decide) (by decide) (by decide) (by decide)]
                exact q
              refine zH_w (c' := (132, [zR 67, u1], [.inl (B 67 5), zR 67, zR 6])) 4 hz rfl ?_
              refine zH_wE (c1 := (135, [zR 67, u1], [zR 6])) 0 hz zp_97 (fh_97_67 (B 67 5)) (by rfl) ?_
              show zH n (0, 0) 93 (135, [zR 67, u1], [.inl (hf_97_67 B (B 67 5)), zR 6]) B _
              rw [Blet]
              refine zH_w (c' := (136, [zR 67, u1], [.inl ((xc Mo a j) % 65536), zR 6])) 1 hz rfl ?_
              rw [show xc Mo a j % 65536 = xc Mo a j by omega]
              refine zH_wE (c1 := (139, [zR 67, u1], [])) 0 hz zp_300 (fh_300 hcB (xc Mo a j) hcr) (by rfl) ?_
              show zH n (0, 0) 93 (139, [zR 67, u1], [.inl (if xrG (xc Mo a j) = 14 then -1 else xrG (xc Mo a j) - 15)]) B _
              obtain ⟨g, hg⟩ : ∃ x : Int, x = (if xrG (xc Mo a j) = 14 then -1 else xrG (xc Mo a j) - 15) := ⟨_, rfl⟩
              rw [← hg]
              refine zH_w (c' := (148, [zR 67, .inl g], [])) 6 hz rfl ?_
              have K9 : (if xrG (xc Mo a j) = 14 then 14 else xrG (xc Mo a j)) = xrG (xc Mo a j) := by split <;> omega
              have g9 : w32 (15 + g) = xrG (xc Mo a j) := by rw [hg]; split <;> (rw [w32_id (by omega)]; omega)
              refine zH_wf_lt (pc := 150) (n' := 153) (t := 157) (L := [zR 67, .inl g]) (st := [zR 67]) (x := g) 2 hz (by rfl) (fun hb150 => ?_) (fun hb150 => ?_)
              · skip
                have h14 : xrG (xc Mo a j) = 14 := by by_cases q : xrG (xc Mo a j) = 14; exact q; rw [hg, if_neg q] at hb150; omega
                have ef : hf_91_67 (zput B 67 7 (w32 (15 + g))) 0 = zput (zput B 67 7 (xrG (xc Mo a j))) 67 10 (10 * (j : Int) + 1) := by
                  rw [g9]
                  unfold hf_91_67 hf_92_67
                  rw [if_neg (by decide), qput_nk (by decide), BG 10 (by decide), A10, if_neg (by decide), qput_nk (by decide), BG 5 (by decide), A5, w32_id (x := 10 * (j : Int)) (by omega), w32_id (by omega)]
                refine zH_wE (c1 := (161, [zR 67, .inl g], [])) 1 hz zp_91 (fh_91_67 0) (by rfl) ?_
                show zH n (0, 0) 93 (161, [zR 67, .inl g], []) (hf_91_67 (zput B 67 7 (w32 (15 + g))) 0) _
                exact zH_wr (r := none) 0 hz (by rfl) (by rw [tE]; first | exact ⟨rfl, fun r hr => (zput_oth hr).trans (AO r hr), by rw [qput_nk (by decide)]; exact A5, by rw [qput_nk (by decide)]; exact A6, by rw [if_pos tW, qput_nk (by decide)]; exact A10, fun _ => ⟨by rw [qput_eq, tK], fun q => absurd (tK.symm.trans q) (by decide)⟩, fun f q1 q2 q3 q4 q5 => by rw [qput_nk q3]; exact AF f q1 q2⟩ | exact ⟨rfl, fun r hr => (k1 r hr).trans (AO r hr), (k5 5 (by decide) (by decide) (by decide)).trans A5, k2, by rw [if_pos tW]; exact (k5 10 (by decide) (by decide) (by decide)).trans A10, fun _ => ⟨k3.trans tK.symm, fun _ => k4.trans tV.symm⟩, fun f q1 q2 q3 q4 q5 => (k5 f q2 q3 q4).trans (AF f q1 q2)⟩ | exact ⟨rfl, fun r hr => (k1 r hr).trans (AO r hr), (k5 5 (by decide) (by decide) (by decide)).trans A5, k2, by rw [k4, tW]; split <;> rfl, fun q => ⟨k3.trans tK.symm, fun q2 => absurd q2 (by rw [tK]; exact xrW_24)⟩, fun f q1 q2 q3 q4 q5 => (k5 f q2 q3 q5).trans (AF f q1 q2)⟩ | exact ⟨rfl, fun r hr => by rw [ef]; exact (zput_oth hr).trans (BO r hr), by rw [ef, qput_nk (by decide), BG 5 (by decide)]; exact A5, by rw [ef, qput_nk (by decide)]; exact B6, by rw [tW, if_neg h14, if_pos rfl, ef, qput_nk (by decide), BG 10 (by decide)]; exact A10, fun _ => ⟨by rw [ef, qput_eq, tK], fun q => absurd (tK.symm.trans q) (by omega)⟩, fun f q1 q2 q3 q4 q5 => by rw [ef, qput_nk q3, BG f q2]; exact AF f q1 q2⟩ | exact ⟨rfl, fun r hr => by rw [ef]; exact (zput_oth hr).trans ((zput_oth hr).trans (BO r hr)), by rw [ef, qput_nk (by decide), qput_nk (by decide), BG 5 (by decide)]; exact A5, by rw [ef, qput_nk (by decide), qput_nk (by decide)]; exact B6, by rw [tW, if_pos h14, if_neg (by decide), ef, qput_eq], fun q => absurd q (by rw [tW, if_pos h14]; decide), fun f q1 q2 q3 q4 q5 => by rw [ef, qput_nk q5, qput_nk q3, BG f q2]; exact AF f q1 q2⟩)
              · skip
                have h14 : ¬ xrG (xc Mo a j) = 14 := by intro q; rw [hg, if_pos q] at hb150; omega
                have ef : hf_91_67 (zput B 67 7 (w32 (15 + g))) 1 = zput B 67 7 (xrG (xc Mo a j)) := by rw [g9]; exact if_pos (by decide)
                refine zH_wE (c1 := (161, [zR 67, .inl g], [])) 2 hz zp_91 (fh_91_67 1) (by rfl) ?_
                show zH n (0, 0) 93 (161, [zR 67, .inl g], []) (hf_91_67 (zput B 67 7 (w32 (15 + g))) 1) _
                exact zH_wr (r := none) 0 hz (by rfl) (by rw [tE]; first | exact ⟨rfl, fun r hr => (zput_oth hr).trans (AO r hr), by rw [qput_nk (by decide)]; exact A5, by rw [qput_nk (by decide)]; exact A6, by rw [if_pos tW, qput_nk (by decide)]; exact A10, fun _ => ⟨by rw [qput_eq, tK], fun q => absurd (tK.symm.trans q) (by decide)⟩, fun f q1 q2 q3 q4 q5 => by rw [qput_nk q3]; exact AF f q1 q2⟩ | exact ⟨rfl, fun r hr => (k1 r hr).trans (AO r hr), (k5 5 (by decide) (by decide) (by decide)).trans A5, k2, by rw [if_pos tW]; exact (k5 10 (by decide) (by decide) (by decide)).trans A10, fun _ => ⟨k3.trans tK.symm, fun _ => k4.trans tV.symm⟩, fun f q1 q2 q3 q4 q5 => (k5 f q2 q3 q4).trans (AF f q1 q2)⟩ | exact ⟨rfl, fun r hr => (k1 r hr).trans (AO r hr), (k5 5 (by decide) (by decide) (by decide)).trans A5, k2, by rw [k4, tW]; split <;> rfl, fun q => ⟨k3.trans tK.symm, fun q2 => absurd q2 (by rw [tK]; exact xrW_24)⟩, fun f q1 q2 q3 q4 q5 => (k5 f q2 q3 q5).trans (AF f q1 q2)⟩ | exact ⟨rfl, fun r hr => by rw [ef]; exact (zput_oth hr).trans (BO r hr), by rw [ef, qput_nk (by decide), BG 5 (by decide)]; exact A5, by rw [ef, qput_nk (by decide)]; exact B6, by rw [tW, if_neg h14, if_pos rfl, ef, qput_nk (by decide), BG 10 (by decide)]; exact A10, fun _ => ⟨by rw [ef, qput_eq, tK], fun q => absurd (tK.symm.trans q) (by omega)⟩, fun f q1 q2 q3 q4 q5 => by rw [ef, qput_nk q3, BG f q2]; exact AF f q1 q2⟩ | exact ⟨rfl, fun r hr => by rw [ef]; exact (zput_oth hr).trans ((zput_oth hr).trans (BO r hr)), by rw [ef, qput_nk (by decide), qput_nk (by decide), BG 5 (by decide)]; exact A5, by rw [ef, qput_nk (by decide), qput_nk (by decide)]; exact B6, by rw [tW, if_pos h14, if_neg (by decide), ef, qput_eq], fun q => absurd q (by rw [tW, if_pos h14]; decide), fun f q1 q2 q3 q4 q5 => by rw [ef, qput_nk q5, qput_nk q3, BG f q2]; exact AF f q1 q2⟩)
            · skip
              rw [hzz, x99] at hb105
              have hlt : 97 ≤ xc Mo a j ∧ xc Mo a j ≤ 122 := by omega
              have tE : xEn (xc Mo a) (xL Mo a) j = xrL (xc Mo a) (xL Mo a - j) j := (if_neg (by omega)).trans ((if_neg hb84).trans (if_pos hlt))
              have tK : xKd (xc Mo a) (xL Mo a) j = xrW (xc Mo a) j (xrL (xc Mo a) (xL Mo a - j) j) := (if_neg (by omega)).trans ((if_neg hb84).trans (if_pos hlt))
              have tW : xWy (xc Mo a) (xL Mo a) j = if xrW (xc Mo a) j (xrL (xc Mo a) (xL Mo a - j) j) = -1 then 4 else 0 := (if_neg (by omega)).trans ((if_neg hb84).trans (if_pos hlt))
              refine zH_w (c' := (109, [zR 67, u1], [zR 67])) 1 hz rfl ?_
              refine zH_wC (c1 := (112, [zR 67, u1], [])) 0 hz zp_95 (fh_95_67 hp AFr A3 A4 (s := j) A5 A6 (by omega) A10) (by rfl) ?_
              rintro _ M7 ⟨rfl, k1, k2, k3, k4, k5⟩
              show zH n (0, 0) 93 (112, [zR 67, u1], []) M7 _
              exact zH_wr (r := none) 1 hz (by rfl) (by rw [tE]; first | exact ⟨rfl, fun r hr => (zput_oth hr).trans (AO r hr), by rw [qput_nk (by decide)]; exact A5, by rw [qput_nk (by decide)]; exact A6, by rw [if_pos tW, qput_nk (by decide)]; exact A10, fun _ => ⟨by rw [qput_eq, tK], fun q => absurd (tK.symm.trans q) (by decide)⟩, fun f q1 q2 q3 q4 q5 => by rw [qput_nk q3]; exact AF f q1 q2⟩ | exact ⟨rfl, fun r hr => (k1 r hr).trans (AO r hr), (k5 5 (by decide) (by decide) (by decide)).trans A5, k2, by rw [if_pos tW]; exact (k5 10 (by decide) (by decide) (by decide)).trans A10, fun _ => ⟨k3.trans tK.symm, fun _ => k4.trans tV.symm⟩, fun f q1 q2 q3 q4 q5 => (k5 f q2 q3 q4).trans (AF f q1 q2)⟩ | exact ⟨rfl, fun r hr => (k1 r hr).trans (AO r hr), (k5 5 (by decide) (by decide) (by decide)).trans A5, k2, by rw [k4, tW]; split <;> rfl, fun q => ⟨k3.trans tK.symm, fun q2 => absurd q2 (by rw [tK]; exact xrW_24)⟩, fun f q1 q2 q3 q4 q5 => (k5 f q2 q3 q5).trans (AF f q1 q2)⟩ | exact ⟨rfl, fun r hr => by rw [ef]; exact (zput_oth hr).trans (BO r hr), by rw [ef, qput_nk (by decide), BG 5 (by decide)]; exact A5, by rw [ef, qput_nk (by decide)]; exact B6, by rw [tW, if_neg h14, if_pos rfl, ef, qput_nk (by decide), BG 10 (by decide)]; exact A10, fun _ => ⟨by rw [ef, qput_eq, tK], fun q => absurd (tK.symm.trans q) (by omega)⟩, fun f q1 q2 q3 q4 q5 => by rw [ef, qput_nk q3, BG f q2]; exact AF f q1 q2⟩ | exact ⟨rfl, fun r hr => by rw [ef]; exact (zput_oth hr).trans ((zput_oth hr).trans (BO r hr)), by rw [ef, qput_nk (by decide), qput_nk (by decide), BG 5 (by decide)]; exact A5, by rw [ef, qput_nk (by decide), qput_nk (by decide)]; exact B6, by rw [tW, if_pos h14, if_neg (by decide), ef, qput_eq], fun q => absurd q (by rw [tW, if_pos h14]; decide), fun f q1 q2 q3 q4 q5 => by rw [ef, qput_nk q5, qput_nk q3, BG f q2]; exact AF f q1 q2⟩)
          · skip
            rw [hy, x98] at hb84
            have hdg : 48 ≤ xc Mo a j ∧ xc Mo a j ≤ 57 := by omega
            have tE : xEn (xc Mo a) (xL Mo a) j = xrD (xc Mo a) (xL Mo a - j) j := (if_neg (by omega)).trans (if_pos hdg)
            have tK : xKd (xc Mo a) (xL Mo a) j = 24 := (if_neg (by omega)).trans (if_pos hdg)
            have tW : xWy (xc Mo a) (xL Mo a) j = 0 := (if_neg (by omega)).trans (if_pos hdg)
            refine zH_w (c' := (88, [zR 67, u1], [zR 67])) 1 hz rfl ?_
            refine zH_wC (c1 := (91, [zR 67, u1], [])) 0 hz zp_94 (fh_94_67 hp AFr A3 A4 (s := j) A6 (by omega)) (by rfl) ?_
            rintro _ M7 ⟨rfl, k1, k2, k3, k4, k5⟩
            show zH n (0, 0) 93 (91, [zR 67, u1], []) M7 _
            exact zH_wr (r := none) 1 hz (by rfl) (by rw [tE]; first | exact ⟨rfl, fun r hr => (zput_oth hr).trans (AO r hr), by rw [qput_nk (by decide)]; exact A5, by rw [qput_nk (by decide)]; exact A6, by rw [if_pos tW, qput_nk (by decide)]; exact A10, fun _ => ⟨by rw [qput_eq, tK], fun q => absurd (tK.symm.trans q) (by decide)⟩, fun f q1 q2 q3 q4 q5 => by rw [qput_nk q3]; exact AF f q1 q2⟩ | exact ⟨rfl, fun r hr => (k1 r hr).trans (AO r hr), (k5 5 (by decide) (by decide) (by decide)).trans A5, k2, by rw [if_pos tW]; exact (k5 10 (by decide) (by decide) (by decide)).trans A10, fun _ => ⟨k3.trans tK.symm, fun _ => k4.trans tV.symm⟩, fun f q1 q2 q3 q4 q5 => (k5 f q2 q3 q4).trans (AF f q1 q2)⟩ | exact ⟨rfl, fun r hr => (k1 r hr).trans (AO r hr), (k5 5 (by decide) (by decide) (by decide)).trans A5, k2, by rw [k4, tW]; split <;> rfl, fun q => ⟨k3.trans tK.symm, fun q2 => absurd q2 (by rw [tK]; exact xrW_24)⟩, fun f q1 q2 q3 q4 q5 => (k5 f q2 q3 q5).trans (AF f q1 q2)⟩ | exact ⟨rfl, fun r hr => by rw [ef]; exact (zput_oth hr).trans (BO r hr), by rw [ef, qput_nk (by decide), BG 5 (by decide)]; exact A5, by rw [ef, qput_nk (by decide)]; exact B6, by rw [tW, if_neg h14, if_pos rfl, ef, qput_nk (by decide), BG 10 (by decide)]; exact A10, fun _ => ⟨by rw [ef, qput_eq, tK], fun q => absurd (tK.symm.trans q) (by omega)⟩, fun f q1 q2 q3 q4 q5 => by rw [ef, qput_nk q3, BG f q2]; exact AF f q1 q2⟩ | exact ⟨rfl, fun r hr => by rw [ef]; exact (zput_oth hr).trans ((zput_oth hr).trans (BO r hr)), by rw [ef, qput_nk (by decide), qput_nk (by decide), BG 5 (by decide)]; exact A5, by rw [ef, qput_nk (by decide), qput_nk (by decide)]; exact B6, by rw [tW, if_pos h14, if_neg (by decide), ef, qput_eq], fun q => absurd q (by rw [tW, if_pos h14]; decide), fun f q1 q2 q3 q4 q5 => by rw [ef, qput_nk q5, qput_nk q3, BG f q2]; exact AF f q1 q2⟩)
        · skip
          have hj : ¬ j < xL Mo a := by omega
          have tE : xEn (xc Mo a) (xL Mo a) j = j := if_pos (by omega)
          have tK : xKd (xc Mo a) (xL Mo a) j = 25 := if_pos (by omega)
          have tW : xWy (xc Mo a) (xL Mo a) j = 0 := if_pos (by omega)
          refine zH_w (c' := (161, [zR 67, u1], [])) 4 hz rfl ?_
          exact zH_wr (r := none) 0 hz (by rfl) (by rw [tE]; first | exact ⟨rfl, fun r hr => (zput_oth hr).trans (AO r hr), by rw [qput_nk (by decide)]; exact A5, by rw [qput_nk (by decide)]; exact A6, by rw [if_pos tW, qput_nk (by decide)]; exact A10, fun _ => ⟨by rw [qput_eq, tK], fun q => absurd (tK.symm.trans q) (by decide)⟩, fun f q1 q2 q3 q4 q5 => by rw [qput_nk q3]; exact AF f q1 q2⟩ | exact ⟨rfl, fun r hr => (k1 r hr).trans (AO r hr), (k5 5 (by decide) (by decide) (by decide)).trans A5, k2, by rw [if_pos tW]; exact (k5 10 (by decide) (by decide) (by decide)).trans A10, fun _ => ⟨k3.trans tK.symm, fun _ => k4.trans tV.symm⟩, fun f q1 q2 q3 q4 q5 => (k5 f q2 q3 q4).trans (AF f q1 q2)⟩ | exact ⟨rfl, fun r hr => (k1 r hr).trans (AO r hr), (k5 5 (by decide) (by decide) (by decide)).trans A5, k2, by rw [k4, tW]; split <;> rfl, fun q => ⟨k3.trans tK.symm, fun q2 => absurd q2 (by rw [tK]; exact xrW_24)⟩, fun f q1 q2 q3 q4 q5 => (k5 f q2 q3 q5).trans (AF f q1 q2)⟩ | exact ⟨rfl, fun r hr => by rw [ef]; exact (zput_oth hr).trans (BO r hr), by rw [ef, qput_nk (by decide), BG 5 (by decide)]; exact A5, by rw [ef, qput_nk (by decide)]; exact B6, by rw [tW, if_neg h14, if_pos rfl, ef, qput_nk (by decide), BG 10 (by decide)]; exact A10, fun _ => ⟨by rw [ef, qput_eq, tK], fun q => absurd (tK.symm.trans q) (by omega)⟩, fun f q1 q2 q3 q4 q5 => by rw [ef, qput_nk q3, BG f q2]; exact AF f q1 q2⟩ | exact ⟨rfl, fun r hr => by rw [ef]; exact (zput_oth hr).trans ((zput_oth hr).trans (BO r hr)), by rw [ef, qput_nk (by decide), qput_nk (by decide), BG 5 (by decide)]; exact A5, by rw [ef, qput_nk (by decide), qput_nk (by decide)]; exact B6, by rw [tW, if_pos h14, if_neg (by decide), ef, qput_eq], fun q => absurd q (by rw [tW, if_pos h14]; decide), fun f q1 q2 q3 q4 q5 => by rw [ef, qput_nk q5, qput_nk q3, BG f q2]; exact AF f q1 q2⟩)
      · skip
        refine zH_wE (c1 := (27, [zR 67, u1], [])) 3 hz zp_97 (fh_97_67 (M5 67 5)) (by rfl) ?_
        show zH n (0, 0) 93 (27, [zR 67, u1], [.inl (hf_97_67 M5 (M5 67 5))]) M5 _
        rw [let5 (by omega)]
        refine zH_w (c' := (29, [zR 67, u1], [.inl 32, .inl (xc Mo a j)])) 1 hz rfl ?_
        refine zH_wi_ne (pc := 29) (n' := 32) (t := 45) (L := [zR 67, u1]) (st := []) (x := (xc Mo a j)) (y := 32) 0 hz (by rfl) (fun hb29 => ?_) (fun hb29 => ?_)
        · skip
          have hS : xrB (xc Mo a) (xL Mo a - i) i = j := by rw [← g4]; exact xrB_n (by first | (intro q; omega) | (intro _; exact hb29))
          rw [hS]
          have hc : xCon M5 := by
            have q := hp.2.2.2.1
            unfold xCon at q ⊢
            rw [hO 4 (by decide), hO 6 (by decide), hO 5 (by decide), hO 7 (by decide), hO 1 (by decide), hF 4 (by decide) (by decide) (by decide) (by decide), hF 6 (by decide) (by decide) (by decide) (by decide), hF 5 (by decide) (by decide) (by decide) (by decide), hF 7 (by decide) (by decide) (by decide) (by decide), hF 1 (by decide) (by decide) (by decide) (by decide)]
            exact q
          refine zH_w (c' := (53, [zR 67, u1], [])) 4 hz rfl ?_
          obtain ⟨A, hA⟩ : ∃ X : zM, X = zput M5 67 6 (M5 67 5) := ⟨_, rfl⟩
          rw [← hA]
          have Ao : ∀ r, r ≠ 67 → A r = M5 r := fun r hr => by rw [hA]; exact zput_oth hr
          have AG : ∀ f, f ≠ 6 → A 67 f = M5 67 f := fun f hf => by rw [hA]; exact qput_nk hf
          have A6 : A 67 6 = (j : Int) := by rw [hA, qput_eq]; exact g3
          have A5 : A 67 5 = (j : Int) := (AG 5 (by decide)).trans g3
          have A4 : A 67 4 = (xL Mo a : Int) := (AG 4 (by decide)).trans l4
          have A3 : A 67 3 = a := (AG 3 (by decide)).trans l3
          have A10 : A 67 10 = -1 := (AG 10 (by decide)).trans ((hG 10 (by decide)).trans e10)
          have AO : ∀ r, r ≠ 67 → A r = M r := fun r hr => (Ao r hr).trans (hO r hr)
          have AF : ∀ f, f ≠ 5 → f ≠ 6 → A 67 f = M 67 f := fun f q1 q2 => (AG f q2).trans (hG f q1)
          have Alet : j < 80 → hf_97_67 A (A 67 5) = xc Mo a j := fun q => by rw [A5]; exact xS.letter hp ((AO 20 (by decide)).trans f20) ((AO 21 (by decide)).trans f21) A3 q
          have AFr : ∀ r, r ≠ 67 → r ≠ 69 → r ≠ 70 → r ≠ 71 → A r = Mo r := fun r q1 q2 q3 q4 => (AO r q1).trans (hF r q1 q2 q3 q4)
          refine zH_w (c' := (61, [zR 67, u1], [.inl (A 67 4), .inl (A 67 5)])) 4 hz rfl ?_
          refine zH_wi_lt (pc := 61) (n' := 64) (t := 73) (L := [zR 67, u1]) (st := []) (x := (A 67 5)) (y := (A 67 4)) 0 hz (by rfl) (fun hb61 => ?_) (fun hb61 => ?_)
          · skip
            have hj : j < xL Mo a := by omega
            have tV : xVl (xc Mo a) (xL Mo a) j = xrV (xc Mo a) j (xrD (xc Mo a) (xL Mo a - j) j - j) := rfl
            refine zH_wE (c1 := (81, [zR 67, u1], [])) 3 hz zp_97 (fh_97_67 (A 67 5)) (by rfl) ?_
            show zH n (0, 0) 93 (81, [zR 67, u1], [.inl (hf_97_67 A (A 67 5))]) A _
            rw [Alet (by omega)]
            refine zH_wE (c1 := (84, [zR 67, u1], [])) 0 hz zp_98 (fh_98 (xc Mo a j)) (by rfl) ?_
            show zH n (0, 0) 93 (84, [zR 67, u1], [.inl (hf_98 A (xc Mo a j))]) A _
            obtain ⟨y, hy⟩ : ∃ x : Int, x = (hf_98 A (xc Mo a j)) := ⟨_, rfl⟩
            rw [← hy]
            refine zH_if_eq hz rfl (fun hb84 => ?_) (fun hb84 => ?_)
            · skip
              rw [hy, x98] at hb84
              refine zH_w (c' := (99, [zR 67, u1], [.inl (A 67 5), zR 67])) 3 hz rfl ?_
              refine zH_wE (c1 := (102, [zR 67, u1], [])) 0 hz zp_97 (fh_97_67 (A 67 5)) (by rfl) ?_
              show zH n (0, 0) 93 (102, [zR 67, u1], [.inl (hf_97_67 A (A 67 5))]) A _
              rw [Alet (by omega)]
              refine zH_wE (c1 := (105, [zR 67, u1], [])) 0 hz zp_99 (fh_99 (xc Mo a j)) (by rfl) ?_
              show zH n (0, 0) 93 (105, [zR 67, u1], [.inl (hf_99 A (xc Mo a j))]) A _
              obtain ⟨zz, hzz⟩ : ∃ x : Int, x = (hf_99 A (xc Mo a j)) := ⟨_, rfl⟩
              rw [← hzz]
              refine zH_if_eq hz rfl (fun hb105 => ?_) (fun hb105 => ?_)
              · skip
                rw [hzz, x99] at hb105
                have tE : xEn (xc Mo a) (xL Mo a) j = j + 1 := (if_neg (by omega)).trans ((if_neg hb84).trans (if_neg hb105))
                have tK : xKd (xc Mo a) (xL Mo a) j = xrG (xc Mo a j) := (if_neg (by omega)).trans ((if_neg hb84).trans (if_neg hb105))
                have tW : xWy (xc Mo a) (xL Mo a) j = if xrG (xc Mo a j) = 14 then 1 else 0 := (if_neg (by omega)).trans ((if_neg hb84).trans (if_neg hb105))
                have rG : 14 ≤ xrG (xc Mo a j) ∧ xrG (xc Mo a j) ≤ 23 := xrG_b _
                have hcr := xc_r hp (j := j) (by omega)
                refine zH_w (c' := (122, [zR 67, u1], [.inl (w32 ((A 67 5) + 1)), zR 67])) 5 hz rfl ?_
                refine zH_w (c' := (125, [zR 67, u1], [])) 1 hz rfl ?_
                obtain ⟨B, hB⟩ : ∃ X : zM, X = zput A 67 6 (w32 ((A 67 5) + 1)) := ⟨_, rfl⟩
                rw [← hB]
                have B6 : B 67 6 = ((j + 1 : Nat) : Int) := by rw [hB, qput_eq, A5, w32_id (by omega)]; omega
                have BG : ∀ f, f ≠ 6 → B 67 f = A 67 f := fun f hf => by rw [hB]; exact qput_nk hf
                have BO : ∀ r, r ≠ 67 → B r = M r := fun r hr => by rw [hB]; exact (zput_oth hr).trans (AO r hr)
                have Blet : hf_97_67 B (B 67 5) = xc Mo a j := by rw [BG 5 (by decide), A5]; exact xS.letter hp ((BO 20 (by decide)).trans f20) ((BO 21 (by decide)).trans f21) ((BG 3 (by decide)).trans A3) (by omega)
                have hcB : xCon B := by
                  have q := hp.2.2.2.1
                  unfold xCon at q ⊢
                  rw [BO 4 (by decide), BO 6 (by decide), BO 5 (by decide), BO 7 (by decide), BO 1 (by decide), hF 4 (by decide) (by decide) (by decide) (by decide), hF 6 (by decide) (by decide) (by decide) (by decide), hF 5 (by decide) (by decide) (by decide) (by decide), hF 7 (by decide) (by decide) (by decide) (by decide), hF 1 (by decide) (by decide) (by decide) (by decide)]
                  exact q
                refine zH_w (c' := (132, [zR 67, u1], [.inl (B 67 5), zR 67, zR 6])) 4 hz rfl ?_
                refine zH_wE (c1 := (135, [zR 67, u1], [zR 6])) 0 hz zp_97 (fh_97_67 (B 67 5)) (by rfl) ?_
                show zH n (0, 0) 93 (135, [zR 67, u1], [.inl (hf_97_67 B (B 67 5)), zR 6]) B _
                rw [Blet]
                refine zH_w (c' := (136, [zR 67, u1], [.inl ((xc Mo a j) % 65536), zR 6])) 1 hz rfl ?_
                rw [show xc Mo a j % 65536 = xc Mo a j by omega]
                refine zH_wE (c1 := (139, [zR 67, u1], [])) 0 hz zp_300 (fh_300 hcB (xc Mo a j) hcr) (by rfl) ?_
                show zH n (0, 0) 93 (139, [zR 67, u1], [.inl (if xrG (xc Mo a j) = 14 then -1 else xrG (xc Mo a j) - 15)]) B _
                obtain ⟨g, hg⟩ : ∃ x : Int, x = (if xrG (xc Mo a j) = 14 then -1 else xrG (xc Mo a j) - 15) := ⟨_, rfl⟩
                rw [← hg]
                refine zH_w (c' := (148, [zR 67, .inl g], [])) 6 hz rfl ?_
                have K9 : (if xrG (xc Mo a j) = 14 then 14 else xrG (xc Mo a j)) = xrG (xc Mo a j) := by split <;> omega
                have g9 : w32 (15 + g) = xrG (xc Mo a j) := by rw [hg]; split <;> (rw [w32_id (by omega)]; omega)
                refine zH_wf_lt (pc := 150) (n' := 153) (t := 157) (L := [zR 67, .inl g]) (st := [zR 67]) (x := g) 2 hz (by rfl) (fun hb150 => ?_) (fun hb150 => ?_)
                · skip
                  have h14 : xrG (xc Mo a j) = 14 := by by_cases q : xrG (xc Mo a j) = 14; exact q; rw [hg, if_neg q] at hb150; omega
                  have ef : hf_91_67 (zput B 67 7 (w32 (15 + g))) 0 = zput (zput B 67 7 (xrG (xc Mo a j))) 67 10 (10 * (j : Int) + 1) := by
                    rw [g9]
                    unfold hf_91_67 hf_92_67
                    rw [if_neg (by decide), qput_nk (by decide), BG 10 (by decide), A10, if_neg (by decide), qput_nk (by decide), BG 5 (by decide), A5, w32_id (x := 10 * (j : Int)) (by omega), w32_id (by omega)]
                  refine zH_wE (c1 := (161, [zR 67, .inl g], [])) 1 hz zp_91 (fh_91_67 0) (by rfl) ?_
                  show zH n (0, 0) 93 (161, [zR 67, .inl g], []) (hf_91_67 (zput B 67 7 (w32 (15 + g))) 0) _
                  exact zH_wr (r := none) 0 hz (by rfl) (by rw [tE]; first | exact ⟨rfl, fun r hr => (zput_oth hr).trans (AO r hr), by rw [qput_nk (by decide)]; exact A5, by rw [qput_nk (by decide)]; exact A6, by rw [if_pos tW, qput_nk (by decide)]; exact A10, fun _ => ⟨by rw [qput_eq, tK], fun q => absurd (tK.symm.trans q) (by decide)⟩, fun f q1 q2 q3 q4 q5 => by rw [qput_nk q3]; exact AF f q1 q2⟩ | exact ⟨rfl, fun r hr => (k1 r hr).trans (AO r hr), (k5 5 (by decide) (by decide) (by decide)).trans A5, k2, by rw [if_pos tW]; exact (k5 10 (by decide) (by decide) (by decide)).trans A10, fun _ => ⟨k3.trans tK.symm, fun _ => k4.trans tV.symm⟩, fun f q1 q2 q3 q4 q5 => (k5 f q2 q3 q4).trans (AF f q1 q2)⟩ | exact ⟨rfl, fun r hr => (k1 r hr).trans (AO r hr), (k5 5 (by decide) (by decide) (by decide)).trans A5, k2, by rw [k4, tW]; split <;> rfl, fun q => ⟨k3.trans tK.symm, fun q2 => absurd q2 (by rw [tK]; exact xrW_24)⟩, fun f q1 q2 q3 q4 q5 => (k5 f q2 q3 q5).trans (AF f q1 q2)⟩ | exact ⟨rfl, fun r hr => by rw [ef]; exact (zput_oth hr).trans (BO r hr), by rw [ef, qput_nk (by decide), BG 5 (by decide)]; exact A5, by rw [ef, qput_nk (by decide)]; exact B6, by rw [tW, if_neg h14, if_pos rfl, ef, qput_nk (by decide), BG 10 (by decide)]; exact A10, fun _ => ⟨by rw [ef, qput_eq, tK], fun q => absurd (tK.symm.trans q) (by omega)⟩, fun f q1 q2 q3 q4 q5 => by rw [ef, qput_nk q3, BG f q2]; exact AF f q1 q2⟩ | exact ⟨rfl, fun r hr => by rw [ef]; exact (zput_oth hr).trans ((zput_oth hr).trans (BO r hr)), by rw [ef, qput_nk (by decide), qput_nk (by decide), BG 5 (by decide)]; exact A5, by rw [ef, qput_nk (by decide), qput_nk (by decide)]; exact B6, by rw [tW, if_pos h14, if_neg (by decide), ef, qput_eq], fun q => absurd q (by rw [tW, if_pos h14]; decide), fun f q1 q2 q3 q4 q5 => by rw [ef, qput_nk q5, qput_nk q3, BG f q2]; exact AF f q1 q2⟩)
                · skip
                  have h14 : ¬ xrG (xc Mo a j) = 14 := by intro q; rw [hg, if_pos q] at hb150; omega
                  have ef : hf_91_67 (zput B 67 7 (w32 (15 + g))) 1 = zput B 67 7 (xrG (xc Mo a j)) := by rw [g9]; exact if_pos (by decide)
                  refine zH_wE (c1 := (161, [zR 67, .inl g], [])) 2 hz zp_91 (fh_91_67 1) (by rfl) ?_
                  show zH n (0, 0) 93 (161, [zR 67, .inl g], []) (hf_91_67 (zput B 67 7 (w32 (15 + g))) 1) _
                  exact zH_wr (r := none) 0 hz (by rfl) (by rw [tE]; first | exact ⟨rfl, fun r hr => (zput_oth hr).trans (AO r hr), by rw [qput_nk (by decide)]; exact A5, by rw [qput_nk (by decide)]; exact A6, by rw [if_pos tW, qput_nk (by decide)]; exact A10, fun _ => ⟨by rw [qput_eq, tK], fun q => absurd (tK.symm.trans q) (by decide)⟩, fun f q1 q2 q3 q4 q5 => by rw [qput_nk q3]; exact AF f q1 q2⟩ | exact ⟨rfl, fun r hr => (k1 r hr).trans (AO r hr), (k5 5 (by decide) (by decide) (by decide)).trans A5, k2, by rw [if_pos tW]; exact (k5 10 (by decide) (by decide) (by decide)).trans A10, fun _ => ⟨k3.trans tK.symm, fun _ => k4.trans tV.symm⟩, fun f q1 q2 q3 q4 q5 => (k5 f q2 q3 q4).trans (AF f q1 q2)⟩ | exact ⟨rfl, fun r hr => (k1 r hr).trans (AO r hr), (k5 5 (by decide) (by decide) (by decide)).trans A5, k2, by rw [k4, tW]; split <;> rfl, fun q => ⟨k3.trans tK.symm, fun q2 => absurd q2 (by rw [tK]; exact xrW_24)⟩, fun f q1 q2 q3 q4 q5 => (k5 f q2 q3 q5).trans (AF f q1 q2)⟩ | exact ⟨rfl, fun r hr => by rw [ef]; exact (zput_oth hr).trans (BO r hr), by rw [ef, qput_nk (by decide), BG 5 (by decide)]; exact A5, by rw [ef, qput_nk (by decide)]; exact B6, by rw [tW, if_neg h14, if_pos rfl, ef, qput_nk (by decide), BG 10 (by decide)]; exact A10, fun _ => ⟨by rw [ef, qput_eq, tK], fun q => absurd (tK.symm.trans q) (by omega)⟩, fun f q1 q2 q3 q4 q5 => by rw [ef, qput_nk q3, BG f q2]; exact AF f q1 q2⟩ | exact ⟨rfl, fun r hr => by rw [ef]; exact (zput_oth hr).trans ((zput_oth hr).trans (BO r hr)), by rw [ef, qput_nk (by decide), qput_nk (by decide), BG 5 (by decide)]; exact A5, by rw [ef, qput_nk (by decide), qput_nk (by decide)]; exact B6, by rw [tW, if_pos h14, if_neg (by decide), ef, qput_eq], fun q => absurd q (by rw [tW, if_pos h14]; decide), fun f q1 q2 q3 q4 q5 => by rw [ef, qput_nk q5, qput_nk q3, BG f q2]; exact AF f q1 q2⟩)
              · skip
                rw [hzz, x99] at hb105
                have hlt : 97 ≤ xc Mo a j ∧ xc Mo a j ≤ 122 := by omega
                have tE : xEn (xc Mo a) (xL Mo a) j = xrL (xc Mo a) (xL Mo a - j) j := (if_neg (by omega)).trans ((if_neg hb84).trans (if_pos hlt))
                have tK : xKd (xc Mo a) (xL Mo a) j = xrW (xc Mo a) j (xrL (xc Mo a) (xL Mo a - j) j) := (if_neg (by omega)).trans ((if_neg hb84).trans (if_pos hlt))
                have tW : xWy (xc Mo a) (xL Mo a) j = if xrW (xc Mo a) j (xrL (xc Mo a) (xL Mo a - j) j) = -1 then 4 else 0 := (if_neg (by omega)).trans ((if_neg hb84).trans (if_pos hlt))
                refine zH_w (c' := (109, [zR 67, u1], [zR 67])) 1 hz rfl ?_
                refine zH_wC (c1 := (112, [zR 67, u1], [])) 0 hz zp_95 (fh_95_67 hp AFr A3 A4 (s := j) A5 A6 (by omega) A10) (by rfl) ?_
                rintro _ M7 ⟨rfl, k1, k2, k3, k4, k5⟩
                show zH n (0, 0) 93 (112, [zR 67, u1], []) M7 _
                exact zH_wr (r := none) 1 hz (by rfl) (by rw [tE]; first | exact ⟨rfl, fun r hr => (zput_oth hr).trans (AO r hr), by rw [qput_nk (by decide)]; exact A5, by rw [qput_nk (by decide)]; exact A6, by rw [if_pos tW, qput_nk (by decide)]; exact A10, fun _ => ⟨by rw [qput_eq, tK], fun q => absurd (tK.symm.trans q) (by decide)⟩, fun f q1 q2 q3 q4 q5 => by rw [qput_nk q3]; exact AF f q1 q2⟩ | exact ⟨rfl, fun r hr => (k1 r hr).trans (AO r hr), (k5 5 (by decide) (by decide) (by decide)).trans A5, k2, by rw [if_pos tW]; exact (k5 10 (by decide) (by decide) (by decide)).trans A10, fun _ => ⟨k3.trans tK.symm, fun _ => k4.trans tV.symm⟩, fun f q1 q2 q3 q4 q5 => (k5 f q2 q3 q4).trans (AF f q1 q2)⟩ | exact ⟨rfl, fun r hr => (k1 r hr).trans (AO r hr), (k5 5 (by decide) (by decide) (by decide)).trans A5, k2, by rw [k4, tW]; split <;> rfl, fun q => ⟨k3.trans tK.symm, fun q2 => absurd q2 (by rw [tK]; exact xrW_24)⟩, fun f q1 q2 q3 q4 q5 => (k5 f q2 q3 q5).trans (AF f q1 q2)⟩ | exact ⟨rfl, fun r hr => by rw [ef]; exact (zput_oth hr).trans (BO r hr), by rw [ef, qput_nk (by decide), BG 5 (by decide)]; exact A5, by rw [ef, qput_nk (by decide)]; exact B6, by rw [tW, if_neg h14, if_pos rfl, ef, qput_nk (by decide), BG 10 (by decide)]; exact A10, fun _ => ⟨by rw [ef, qput_eq, tK], fun q => absurd (tK.symm.trans q) (by omega)⟩, fun f q1 q2 q3 q4 q5 => by rw [ef, qput_nk q3, BG f q2]; exact AF f q1 q2⟩ | exact ⟨rfl, fun r hr => by rw [ef]; exact (zput_oth hr).trans ((zput_oth hr).trans (BO r hr)), by rw [ef, qput_nk (by decide), qput_nk (by decide), BG 5 (by decide)]; exact A5, by rw [ef, qput_nk (by decide), qput_nk (by decide)]; exact B6, by rw [tW, if_pos h14, if_neg (by decide), ef, qput_eq], fun q => absurd q (by rw [tW, if_pos h14]; decide), fun f q1 q2 q3 q4 q5 => by rw [ef, qput_nk q5, qput_nk q3, BG f q2]; exact AF f q1 q2⟩)
            · skip
              rw [hy, x98] at hb84
              have hdg : 48 ≤ xc Mo a j ∧ xc Mo a j ≤ 57 := by omega
              have tE : xEn (xc Mo a) (xL Mo a) j = xrD (xc Mo a) (xL Mo a - j) j := (if_neg (by omega)).trans (if_pos hdg)
              have tK : xKd (xc Mo a) (xL Mo a) j = 24 := (if_neg (by omega)).trans (if_pos hdg)
              have tW : xWy (xc Mo a) (xL Mo a) j = 0 := (if_neg (by omega)).trans (if_pos hdg)
              refine zH_w (c' := (88, [zR 67, u1], [zR 67])) 1 hz rfl ?_
              refine zH_wC (c1 := (91, [zR 67, u1], [])) 0 hz zp_94 (fh_94_67 hp AFr A3 A4 (s := j) A6 (by omega)) (by rfl) ?_
              rintro _ M7 ⟨rfl, k1, k2, k3, k4, k5⟩
              show zH n (0, 0) 93 (91, [zR 67, u1], []) M7 _
              exact zH_wr (r := none) 1 hz (by rfl) (by rw [tE]; first | exact ⟨rfl, fun r hr => (zput_oth hr).trans (AO r hr), by rw [qput_nk (by decide)]; exact A5, by rw [qput_nk (by decide)]; exact A6, by rw [if_pos tW, qput_nk (by decide)]; exact A10, fun _ => ⟨by rw [qput_eq, tK], fun q => absurd (tK.symm.trans q) (by decide)⟩, fun f q1 q2 q3 q4 q5 => by rw [qput_nk q3]; exact AF f q1 q2⟩ | exact ⟨rfl, fun r hr => (k1 r hr).trans (AO r hr), (k5 5 (by decide) (by decide) (by decide)).trans A5, k2, by rw [if_pos tW]; exact (k5 10 (by decide) (by decide) (by decide)).trans A10, fun _ => ⟨k3.trans tK.symm, fun _ => k4.trans tV.symm⟩, fun f q1 q2 q3 q4 q5 => (k5 f q2 q3 q4).trans (AF f q1 q2)⟩ | exact ⟨rfl, fun r hr => (k1 r hr).trans (AO r hr), (k5 5 (by decide) (by decide) (by decide)).trans A5, k2, by rw [k4, tW]; split <;> rfl, fun q => ⟨k3.trans tK.symm, fun q2 => absurd q2 (by rw [tK]; exact xrW_24)⟩, fun f q1 q2 q3 q4 q5 => (k5 f q2 q3 q5).trans (AF f q1 q2)⟩ | exact ⟨rfl, fun r hr => by rw [ef]; exact (zput_oth hr).trans (BO r hr), by rw [ef, qput_nk (by decide), BG 5 (by decide)]; exact A5, by rw [ef, qput_nk (by decide)]; exact B6, by rw [tW, if_neg h14, if_pos rfl, ef, qput_nk (by decide), BG 10 (by decide)]; exact A10, fun _ => ⟨by rw [ef, qput_eq, tK], fun q => absurd (tK.symm.trans q) (by omega)⟩, fun f q1 q2 q3 q4 q5 => by rw [ef, qput_nk q3, BG f q2]; exact AF f q1 q2⟩ | exact ⟨rfl, fun r hr => by rw [ef]; exact (zput_oth hr).trans ((zput_oth hr).trans (BO r hr)), by rw [ef, qput_nk (by decide), qput_nk (by decide), BG 5 (by decide)]; exact A5, by rw [ef, qput_nk (by decide), qput_nk (by decide)]; exact B6, by rw [tW, if_pos h14, if_neg (by decide), ef, qput_eq], fun q => absurd q (by rw [tW, if_pos h14]; decide), fun f q1 q2 q3 q4 q5 => by rw [ef, qput_nk q5, qput_nk q3, BG f q2]; exact AF f q1 q2⟩)
          · skip
            have hj : ¬ j < xL Mo a := by omega
            have tE : xEn (xc Mo a) (xL Mo a) j = j := if_pos (by omega)
            have tK : xKd (xc Mo a) (xL Mo a) j = 25 := if_pos (by omega)
            have tW : xWy (xc Mo a) (xL Mo a) j = 0 := if_pos (by omega)
            refine zH_w (c' := (161, [zR 67, u1], [])) 4 hz rfl ?_
            exact zH_wr (r := none) 0 hz (by rfl) (by rw [tE]; first | exact ⟨rfl, fun r hr => (zput_oth hr).trans (AO r hr), by rw [qput_nk (by decide)]; exact A5, by rw [qput_nk (by decide)]; exact A6, by rw [if_pos tW, qput_nk (by decide)]; exact A10, fun _ => ⟨by rw [qput_eq, tK], fun q => absurd (tK.symm.trans q) (by decide)⟩, fun f q1 q2 q3 q4 q5 => by rw [qput_nk q3]; exact AF f q1 q2⟩ | exact ⟨rfl, fun r hr => (k1 r hr).trans (AO r hr), (k5 5 (by decide) (by decide) (by decide)).trans A5, k2, by rw [if_pos tW]; exact (k5 10 (by decide) (by decide) (by decide)).trans A10, fun _ => ⟨k3.trans tK.symm, fun _ => k4.trans tV.symm⟩, fun f q1 q2 q3 q4 q5 => (k5 f q2 q3 q4).trans (AF f q1 q2)⟩ | exact ⟨rfl, fun r hr => (k1 r hr).trans (AO r hr), (k5 5 (by decide) (by decide) (by decide)).trans A5, k2, by rw [k4, tW]; split <;> rfl, fun q => ⟨k3.trans tK.symm, fun q2 => absurd q2 (by rw [tK]; exact xrW_24)⟩, fun f q1 q2 q3 q4 q5 => (k5 f q2 q3 q5).trans (AF f q1 q2)⟩ | exact ⟨rfl, fun r hr => by rw [ef]; exact (zput_oth hr).trans (BO r hr), by rw [ef, qput_nk (by decide), BG 5 (by decide)]; exact A5, by rw [ef, qput_nk (by decide)]; exact B6, by rw [tW, if_neg h14, if_pos rfl, ef, qput_nk (by decide), BG 10 (by decide)]; exact A10, fun _ => ⟨by rw [ef, qput_eq, tK], fun q => absurd (tK.symm.trans q) (by omega)⟩, fun f q1 q2 q3 q4 q5 => by rw [ef, qput_nk q3, BG f q2]; exact AF f q1 q2⟩ | exact ⟨rfl, fun r hr => by rw [ef]; exact (zput_oth hr).trans ((zput_oth hr).trans (BO r hr)), by rw [ef, qput_nk (by decide), qput_nk (by decide), BG 5 (by decide)]; exact A5, by rw [ef, qput_nk (by decide), qput_nk (by decide)]; exact B6, by rw [tW, if_pos h14, if_neg (by decide), ef, qput_eq], fun q => absurd q (by rw [tW, if_pos h14]; decide), fun f q1 q2 q3 q4 q5 => by rw [ef, qput_nk q5, qput_nk q3, BG f q2]; exact AF f q1 q2⟩)
        · skip
          refine zH_w (c' := (42, [zR 67, u1], [])) 6 hz rfl ?_
          have e59 : zput M5 67 5 (w32 ((M5 67 5) + 1)) 67 5 = M5 67 5 + 1 := by rw [qput_eq, w32_id (by omega)]
          refine zH_w (c' := (8, [zR 67, u1], [])) 1 hz rfl ?_
          refine ih8 u1 (zput M5 67 5 (w32 ((M5 67 5) + 1))) (by omega) ?_ ?_ ?_
          · refine ⟨j + 1, by omega, by omega, ?_, ?_⟩
            · rw [qput_eq, g3, w32_id (by omega)]; omega
            · rw [← g4]; exact (xrB_y (by omega) (by omega)).symm
          · exact fun r hr => (zput_oth hr).trans (hO r hr)
          · exact fun f q1 => by rw [qput_nk q1]; exact hG f q1
  refine lp8 (102) zN (zput M 67 5 (M 67 6)) (by omega) ?_ ?_ ?_
  · exact ⟨i, Nat.le_refl _, hi, by rw [qput_eq]; exact e6, rfl⟩
  · exact fun r hr => zput_oth hr
  · exact fun f q => qput_nk q
noncomputable def xRel (Mo : zM) (a : Int) (S : xSt) (M : zM) : Prop := M 67 10 = S.2.2.2.2.2.1 ∧ (∀ r, r ≠ 67 → r ≠ 69 → r ≠ 70 → r ≠ 71 → M r = Mo r) ∧ (S.2.2.2.2.2.1 = -1 → xS Mo S.2.2.2.1 S.2.2.2.2.1 M ∧ xW S.2.2.2.1 ∧ S.2.2.2.1.length + S.2.2.2.2.1.length ≤ S.1 ∧ S.1 ≤ xL Mo a ∧ M 67 3 = a ∧ M 67 4 = (xL Mo a : Int) ∧ M 67 6 = (S.1 : Int) ∧ M 67 9 = S.2.2.1 ∧ (-(S.1 : Int) ≤ S.2.2.1 ∧ S.2.2.1 ≤ 8) ∧ M 67 11 = (if S.2.1 = true then 1 else 0) ∧ (M 67 7 = 25 ↔ S.2.2.2.2.2.2 = true))
section XR
variable {Mo M M1 : zM} {a k v kd op : Int} {W O : List Int} {s e : Nat}
theorem xS.c67 (h : xS Mo W O M) (e : ∀ r, r ≠ 67 → M1 r = M r) : xS Mo W O M1 := by
  obtain ⟨h1, h2, h3, h4, h5⟩ := h
  refine ⟨fun r q1 q2 q3 q4 => (e r q1).trans (h1 r q1 q2 q3 q4), ?_, ?_, ?_, ?_⟩
  · rw [e 70 (by decide)]; exact h2
  · rw [e 71 (by decide)]; exact h3
  · rw [e 69 (by decide)]; exact h4
  · rw [e 69 (by decide)]; exact h5
/-- the fields behind a token -/
noncomputable def xTo (Mo : zM) (a : Int) (s e : Nat) (kd op d : Int) (g : Nat → Int) : Prop := g 3 = a ∧ g 4 = (xL Mo a : Int) ∧ g 5 = (s : Int) ∧ g 6 = (e : Int) ∧ g 7 = kd ∧ g 9 = op ∧ g 10 = -1 ∧ g 11 = d
theorem xRel.fail (hf : ∀ r, r ≠ 67 → r ≠ 69 → r ≠ 70 → r ≠ 71 → M r = Mo r) {S : xSt} (h10 : M 67 10 = S.2.2.2.2.2.1) (hn : ¬ S.2.2.2.2.2.1 = -1) : xRel Mo a S M := ⟨h10, hf, fun q => absurd q hn⟩
theorem x92 {d : Int} (ht : xTo Mo a s e kd op d (M 67)) (hs : s ≤ 80) (hk : 1 ≤ k ∧ k ≤ 4) : hf_92_67 M k = zput M 67 10 (10 * (s : Int) + k) := by
  obtain ⟨h3, h4, h5, h6, h7, h9, h10, h11⟩ := ht
  unfold hf_92_67
  rw [if_neg (by rw [h10]; decide), h5, w32_id (x := 10 * (s : Int)) (by omega), w32_id (by omega)]
theorem xRel.f92 {d : Int} (ht : xTo Mo a s e kd op d (M 67)) (hs : s ≤ 80) (hk : 1 ≤ k ∧ k ≤ 4) (hf : ∀ r, r ≠ 67 → r ≠ 69 → r ≠ 70 → r ≠ 71 → M r = Mo r) {b : Bool} {q : Int} {W O : List Int} {z : Bool} : xRel Mo a (e, b, q, W, O, 10 * (s : Int) + k, z) (hf_92_67 M k) := by
  rw [x92 ht hs hk]
  exact xRel.fail (fun r q1 q2 q3 q4 => (zput_oth q1).trans (hf r q1 q2 q3 q4)) qput_eq (by show ¬ 10 * (s : Int) + k = -1; omega)
/-- a good end -/
theorem xRel.good (h : xS Mo W O M) (hw : xW W) (hl : W.length + O.length ≤ e) (he : e ≤ xL Mo a) (h3 : M 67 3 = a) (h4 : M 67 4 = (xL Mo a : Int)) (h6 : M 67 6 = (e : Int)) (h9 : M 67 9 = op) (ho : -(e : Int) ≤ op ∧ op ≤ 8) (h10 : M 67 10 = -1) {b z : Bool} (h11 : M 67 11 = (if b = true then 1 else 0)) (h7 : M 67 7 = 25 ↔ z = true) : xRel Mo a (e, b, op, W, O, -1, z) M :=
  ⟨h10, h.1, fun _ => ⟨h, hw, hl, he, h3, h4, h6, h9, ho, h11, h7⟩⟩
theorem x77 (hp : xP Mo a) (h : xS Mo W O M) (hw : xW W) (ht : xTo Mo a s e kd op 1 (M 67)) (hv : kd = 24 → M 67 8 = v) (hk : 0 ≤ kd ∧ kd ≤ 25) (hl : W.length + O.length ≤ s) (hse : s ≤ e ∧ (kd ≠ 25 → s < e)) (he : e ≤ xL Mo a) (ho : -(s : Int) ≤ op ∧ op ≤ 8) : xRel Mo a (xUn s e kd v op W O) (hf_77_67 M) := by
  have hL := hp.len
  have hF : ∀ k2 : Int, 1 ≤ k2 ∧ k2 ≤ 4 → ∀ {b : Bool} {q : Int} {W O : List Int} {z : Bool}, xRel Mo a (e, b, q, W, O, 10 * (s : Int) + k2, z) (hf_92_67 M k2) := fun k2 hk2 => xRel.f92 ht (by omega) hk2 h.1
  obtain ⟨h3, h4, h5, h6, h7, h9, h10, h11⟩ := ht
  have hpu : ∀ k2 : Int, 0 ≤ k2 ∧ k2 ≤ 26 → kd ≠ 25 → xRel Mo a (e, true, op, k2 :: W, O, -1, false) (hf_87_67 M k2) := fun k2 hk2 h25 => by
    obtain ⟨p1, p2⟩ := h.push (k := k2) (by omega)
    refine xRel.good p1 (fun x hx => by rcases List.mem_cons.mp hx with rfl | hx; exact hk2; exact hw x hx) (by rw [List.length_cons]; have := hse.2 h25; omega) he ?_ ?_ ?_ ?_ (by omega) ?_ ?_ ?_
    · rw [p2]; exact h3
    · rw [p2]; exact h4
    · rw [p2]; exact h6
    · rw [p2]; exact h9
    · rw [p2]; exact h10
    · rw [p2]; exact h11
    · rw [p2, h7]; exact ⟨fun q => absurd q h25, fun q => Bool.noConfusion q⟩
  have hem : ∀ x : Int, kd ≠ 25 → xRel Mo a (e, false, op, W, x :: O, -1, false) (zput (hf_89_67 M x) 67 11 0) := fun x h25 => by
    obtain ⟨p1, p2⟩ := h.emit hp (v := x) (by omega)
    refine xRel.good p1.f67 hw (by rw [List.length_cons]; have := hse.2 h25; omega) he ?_ ?_ ?_ ?_ (by omega) ?_ ?_ ?_
    · rw [qput_nk (by decide), p2]; exact h3
    · rw [qput_nk (by decide), p2]; exact h4
    · rw [qput_nk (by decide), p2]; exact h6
    · rw [qput_nk (by decide), p2]; exact h9
    · rw [qput_nk (by decide), p2]; exact h10
    · exact qput_eq
    · rw [qput_nk (by decide), p2, h7]; exact ⟨fun q => absurd q h25, fun q => Bool.noConfusion q⟩
  have hnm : 7 ≤ kd ∧ kd ≤ 14 → xRel Mo a (xUn s e kd v op W O) (zput (hf_89_67 M (zbxor kd (-1))) 67 11 0) := fun q => by
    unfold xUn
    rw [if_neg (by omega), if_pos q, xnot (by omega)]
    exact hem _ (by omega)
  have hot : kd ≠ 24 → ¬ (7 ≤ kd ∧ kd ≤ 14) → ¬ (kd = 5 ∨ kd = 6) → kd ≠ 19 → kd ≠ 22 → xRel Mo a (xUn s e kd v op W O) (hf_92_67 M 1) := fun q1 q2 q3 q4 q5 => by
    unfold xUn
    rw [if_neg q1, if_neg q2, if_neg q3, if_neg q4, if_neg q5]
    exact hF 1 (by omega)
  unfold hf_77_67
  rw [h7]
  have hP : kd = 5 ∨ kd = 6 → xRel Mo a (xUn s e kd v op W O) (hf_87_67 M kd) := fun q => by
    unfold xUn
    rw [if_neg (by omega), if_neg (by omega), if_pos q]
    exact hpu kd (by omega) (by omega)
  by_cases c1 : kd = 5
  · rw [if_pos c1]; exact hP (.inl c1)
  rw [if_neg c1]
  by_cases c2 : kd = 6
  · rw [if_pos c2]; exact hP (.inr c2)
  rw [if_neg c2]
  by_cases c3 : 7 ≤ kd ∧ kd ≤ 14
  · have := hnm c3
    by_cases d7 : kd = 7
    · rw [if_pos d7]; exact this
    rw [if_neg d7]
    by_cases d8 : kd = 8
    · rw [if_pos d8]; exact this
    rw [if_neg d8]
    by_cases d9 : kd = 9
    · rw [if_pos d9]; exact this
    rw [if_neg d9]
    by_cases d10 : kd = 10
    · rw [if_pos d10]; exact this
    rw [if_neg d10]
    by_cases d11 : kd = 11
    · rw [if_pos d11]; exact this
    rw [if_neg d11]
    by_cases d12 : kd = 12
    · rw [if_pos d12]; exact this
    rw [if_neg d12]
    by_cases d13 : kd = 13
    · rw [if_pos d13]; exact this
    rw [if_neg d13]
    by_cases d14 : kd = 14
    · rw [if_pos d14]; exact this
    rw [if_neg d14]
    exact absurd c3 (by omega)
  have c4 : ∀ {A B : zM}, (∀ q : Int, q = 7 ∨ q = 8 ∨ q = 9 ∨ q = 10 ∨ q = 11 ∨ q = 12 ∨ q = 13 ∨ q = 14 → ¬ kd = q) := fun {_ _} q hq => by omega
  rw [if_neg (by omega), if_neg (by omega), if_neg (by omega), if_neg (by omega), if_neg (by omega), if_neg (by omega), if_neg (by omega), if_neg (by omega)]
  by_cases c5 : kd = 19
  · rw [if_neg (by omega), if_neg (by omega), if_neg (by omega), if_neg (by omega), if_pos c5]
    unfold xUn
    rw [if_neg (by omega), if_neg (by omega), if_neg (by omega), if_pos c5]
    exact hpu 26 (by omega) (by omega)
  by_cases c6 : kd = 22
  · rw [if_neg (by omega), if_neg (by omega), if_neg (by omega), if_neg (by omega), if_neg (by omega), if_neg (by omega), if_neg (by omega), if_pos c6]
    unfold xUn hf_80_67
    rw [if_neg (by omega), if_neg (by omega), if_neg (by omega), if_neg (by omega), if_pos c6, h9]
    by_cases c7 : op < 8
    · rw [if_pos c7, if_neg (by omega), w32_id (by omega)]
      obtain ⟨p1, p2⟩ := (h.f67 (j := 9) (x := op + 1)).push (k := 22) (by omega)
      refine xRel.good p1 (fun x hx => by rcases List.mem_cons.mp hx with rfl | hx; exact ⟨by decide, by decide⟩; exact hw x hx) (by rw [List.length_cons]; have := hse.2 (by omega); omega) he ?_ ?_ ?_ ?_ (by omega) ?_ ?_ ?_
      · rw [p2, qput_nk (by decide)]; exact h3
      · rw [p2, qput_nk (by decide)]; exact h4
      · rw [p2, qput_nk (by decide)]; exact h6
      · rw [p2, qput_eq]
      · rw [p2, qput_nk (by decide)]; exact h10
      · rw [p2, qput_nk (by decide)]; exact h11
      · rw [p2, qput_nk (by decide), h7]; exact ⟨fun q => absurd q (by omega), fun q => Bool.noConfusion q⟩
    · rw [if_neg c7, if_pos (by omega)]
      exact hF 3 (by omega)
  by_cases c8 : kd = 24
  · rw [if_neg (by omega), if_neg (by omega), if_neg (by omega), if_neg (by omega), if_neg (by omega), if_neg (by omega), if_neg (by omega), if_neg (by omega), if_neg (by omega), if_pos c8]
    unfold xUn hf_79_67
    rw [if_pos c8, h6, h5, w32_id (by omega)]
    by_cases c9 : (e : Int) - (s : Int) ≤ 6
    · rw [if_pos c9, if_neg (by omega), hv c8]
      exact hem v (by omega)
    · rw [if_neg c9, if_pos (by omega)]
      exact hF 2 (by omega)
  · have := hot c8 c3 (by omega) c5 c6
    (repeat' split) <;> first | exact this | omega
/-- an operator waits behind what was told -/
theorem x86 (h : xS Mo W O M) (hw : xW W) {d : Int} (ht : xTo Mo a s e kd op d (M 67)) (hk : 0 ≤ kd ∧ kd ≤ 24) (hl : W.length + O.length + 1 ≤ e) (he : e ≤ xL Mo a) (hL : xL Mo a ≤ 80) (ho : -(e : Int) ≤ op ∧ op ≤ 8) : xRel Mo a (e, true, op, kd :: W, O, -1, false) (hf_86_67 M) := by
  obtain ⟨h3, h4, h5, h6, h7, h9, h10, h11⟩ := ht
  unfold hf_86_67
  rw [h7]
  obtain ⟨p1, p2⟩ := h.push (k := kd) (by omega)
  refine xRel.good p1.f67 (fun x hx => by rcases List.mem_cons.mp hx with rfl | hx; exact ⟨hk.1, by omega⟩; exact hw x hx) (by rw [List.length_cons]; omega) he ?_ ?_ ?_ ?_ ho ?_ ?_ ?_
  · rw [qput_nk (by decide), p2]; exact h3
  · rw [qput_nk (by decide), p2]; exact h4
  · rw [qput_nk (by decide), p2]; exact h6
  · rw [qput_nk (by decide), p2]; exact h9
  · rw [qput_nk (by decide), p2]; exact h10
  · exact qput_eq
  · rw [qput_nk (by decide), p2, h7]; exact ⟨fun q => absurd q (by omega), fun q => Bool.noConfusion q⟩
/-- a push keeps the fault -/
theorem x87f (h : xS Mo W O M) (hw : W.length < 80) : (∀ r, r ≠ 67 → r ≠ 69 → r ≠ 70 → r ≠ 71 → hf_86_67 M r = Mo r) ∧ hf_86_67 M 67 10 = M 67 10 := by
  obtain ⟨p1, p2⟩ := h.push (k := M 67 7) hw
  unfold hf_86_67
  exact ⟨p1.f67.1, by rw [qput_nk (by decide), p2]⟩
theorem x85 (h : xS Mo W O M) (hw : xW W) {d : Int} (ht : xTo Mo a s e kd op d (M 67)) (hk : 0 ≤ kd ∧ kd ≤ 24) (hl : W.length + O.length + 1 ≤ e) (hs : s ≤ e) (he : e ≤ xL Mo a) (hL : xL Mo a ≤ 80) (ho : -(e : Int) ≤ op ∧ op ≤ 8) {b : Bool} {W2 O2 : List Int} {z : Bool} {q : Int} : xRel Mo a (e, true, op, kd :: W, O, -1, false) (hf_85_67 M 0) ∧ xRel Mo a (e, b, q, W2, O2, 10 * (s : Int) + 1, z) (hf_85_67 M 1) := by
  constructor
  · unfold hf_85_67
    rw [if_neg (by decide)]
    unfold hf_91_67
    rw [if_pos (by decide)]
    exact x86 h hw ht hk hl he hL ho
  · unfold hf_85_67
    rw [if_pos (by decide)]
    unfold hf_91_67
    rw [if_neg (by decide), x92 ht (by omega) (by decide)]
    obtain ⟨p1, p2⟩ := x87f (h.f67 (j := 10) (x := 10 * (s : Int) + 1)) (by omega)
    exact xRel.fail p1 (by rw [p2, qput_eq]) (by show ¬ 10 * (s : Int) + 1 = -1; omega)
end XR
set_option maxRecDepth 100000 in
theorem fh_83_67 {n : Nat} {M : zM} {Mo : zM} {a : Int} (hp : xP Mo a) {W O : List Int} (h : xS Mo W O M) (hw : xW W) (hl : W.length + O.length ≤ 80) {s e : Nat} {kd op : Int} (ht : xTo Mo a s e kd op 0 (M 67)) (hs : s ≤ 80) : zH n (0, 0) 83 (0, zini [zR 67] 1, []) M (fun r M' => r = none ∧ xS Mo (xrE 1 (xrE 3 W O).1 (xrE 3 W O).2).1 (xrE 1 (xrE 3 W O).1 (xrE 3 W O).2).2 M' ∧ (∀ f, f ≠ 10 → M' 67 f = M 67 f) ∧ M' 67 10 = (if xrT (xrE 3 W O).1 = 1 then 10 * (s : Int) + 1 else -1)) := by
  have hz := zp_83
  show zH n (0, 0) 83 (0, [zR 67], []) M _
  refine zH_wC (c1 := (5, [zR 67], [])) 2 hz zp_84 (fh_84_67 hp h hw hl 3) (by rfl) ?_
  rintro _ M1 ⟨rfl, hS1, h67⟩
  show zH n (0, 0) 83 (5, [zR 67], []) M1 _
  have r3 := xrE_r 3 W O hw
  have gl : hf_88_67 M1 = xrT (xrE 3 W O).1 := hS1.last (by omega)
  have ht1 : xTo Mo a s e kd op 0 (M1 67) := by rw [h67]; exact ht
  refine zH_wE (c1 := (10, [zR 67], [zR 67])) 2 hz zp_88 (fh_88_67) (by rfl) ?_
  show zH n (0, 0) 83 (10, [zR 67], [.inl (hf_88_67 M1), zR 67]) M1 _
  rw [gl]
  refine zH_w (c' := (11, [zR 67], [.inl 1, .inl (xrT (xrE 3 W O).1), zR 67])) 1 hz rfl ?_
  refine zH_wi_eq (pc := 11) (n' := 14) (t := 18) (L := [zR 67]) (st := [zR 67]) (x := (xrT (xrE 3 W O).1)) (y := 1) 0 hz (by rfl) (fun hb11 => ?_) (fun hb11 => ?_)
  · skip
    have ef : hf_91_67 M1 0 = zput M1 67 10 (10 * (s : Int) + 1) := by unfold hf_91_67; rw [if_neg (by decide)]; exact x92 ht1 hs (by decide)
    refine zH_wE (c1 := (22, [zR 67], [])) 1 hz zp_91 (fh_91_67 0) (by rfl) ?_
    show zH n (0, 0) 83 (22, [zR 67], []) (hf_91_67 M1 0) _
    rw [ef]
    refine zH_w (c' := (24, [zR 67], [.inl 1, zR 67])) 2 hz rfl ?_
    refine zH_wC (c1 := (27, [zR 67], [])) 0 hz zp_84 (fh_84_67 hp (by first | exact hS1 | exact hS1.f67) r3.1 (by omega) 1) (by rfl) ?_
    rintro _ M2 ⟨rfl, hS2, h672⟩
    show zH n (0, 0) 83 (27, [zR 67], []) M2 _
    exact zH_wr (r := none) 0 hz (by rfl) (by first | exact ⟨rfl, hS2, fun f q => by rw [h672, qput_nk q, h67], by rw [h672, qput_eq, if_pos (by omega)]⟩ | exact ⟨rfl, hS2, fun f q => by rw [h672, h67], by rw [h672, h67, if_neg (by omega)]; exact ht.2.2.2.2.2.2.1⟩)
  · skip
    have ef : hf_91_67 M1 1 = M1 := if_pos (by decide)
    refine zH_wE (c1 := (22, [zR 67], [])) 2 hz zp_91 (fh_91_67 1) (by rfl) ?_
    show zH n (0, 0) 83 (22, [zR 67], []) (hf_91_67 M1 1) _
    rw [ef]
    refine zH_w (c' := (24, [zR 67], [.inl 1, zR 67])) 2 hz rfl ?_
    refine zH_wC (c1 := (27, [zR 67], [])) 0 hz zp_84 (fh_84_67 hp (by first | exact hS1 | exact hS1.f67) r3.1 (by omega) 1) (by rfl) ?_
    rintro _ M2 ⟨rfl, hS2, h672⟩
    show zH n (0, 0) 83 (27, [zR 67], []) M2 _
    exact zH_wr (r := none) 0 hz (by rfl) (by first | exact ⟨rfl, hS2, fun f q => by rw [h672, qput_nk q, h67], by rw [h672, qput_eq, if_pos (by omega)]⟩ | exact ⟨rfl, hS2, fun f q => by rw [h672, h67], by rw [h672, h67, if_neg (by omega)]; exact ht.2.2.2.2.2.2.1⟩)
section XZ
variable {Mo M M1 : zM} {a k v kd op : Int} {W O : List Int} {s e : Nat}
/-- if becomes else -/
theorem x82 (h : xS Mo W O M) (hw : xW W) {d : Int} (ht : xTo Mo a s e 2 op d (M 67)) (hl : W.length + O.length ≤ e) (hs : s ≤ e) (he : e ≤ xL Mo a) (hL : xL Mo a ≤ 80) (hW : W.length < 81) (ho : -(e : Int) ≤ op ∧ op ≤ 8) {b : Bool} {W2 O2 : List Int} {z : Bool} {q : Int} : (xrT W = 1 → xRel Mo a (e, true, op, 2 :: W.tail, O, -1, false) (hf_82_67 M)) ∧ (¬ xrT W = 1 → xRel Mo a (e, b, q, W2, O2, 10 * (s : Int) + 1, z) (hf_82_67 M)) := by
  have gl := h.last (by omega)
  constructor
  · intro h1
    unfold hf_82_67
    rw [gl, if_neg (by rw [h1]; decide)]
    have ef : hf_91_67 M 1 = M := if_pos (by decide)
    rw [ef]
    cases W with
    | nil => exact absurd h1 (by decide)
    | cons k W =>
      rw [List.length_cons] at hl hW
      obtain ⟨p1, p2⟩ := h.top2 (v := 2) (by omega)
      obtain ⟨h3, h4, h5, h6, h7, h9, h10, h11⟩ := ht
      rw [p1]
      refine xRel.good p2.f67 (fun x hx => by rcases List.mem_cons.mp hx with rfl | hx; exact ⟨by decide, by decide⟩; exact hw x (List.mem_cons_of_mem _ hx)) (by rw [List.length_cons]; omega) he ?_ ?_ ?_ ?_ ho ?_ ?_ ?_
      · rw [qput_nk (by decide), qput_ne (by decide)]; exact h3
      · rw [qput_nk (by decide), qput_ne (by decide)]; exact h4
      · rw [qput_nk (by decide), qput_ne (by decide)]; exact h6
      · rw [qput_nk (by decide), qput_ne (by decide)]; exact h9
      · rw [qput_nk (by decide), qput_ne (by decide)]; exact h10
      · exact qput_eq
      · rw [qput_nk (by decide), qput_ne (by decide), h7]; exact ⟨fun q => absurd q (by decide), fun q => Bool.noConfusion q⟩
  · intro h1
    unfold hf_82_67
    rw [gl, if_pos h1]
    have ef : hf_91_67 M 0 = zput M 67 10 (10 * (s : Int) + 1) := by unfold hf_91_67; rw [if_neg (by decide)]; exact x92 ht (by omega) (by decide)
    rw [ef]
    have hx : ∀ X : zM, (∀ r, r ≠ 67 → r ≠ 69 → r ≠ 70 → r ≠ 71 → X r = Mo r) → X 70 0 = 80 ∧ X 70 1 = 1 → ∀ k2 : Int, (∀ r, r ≠ 67 → r ≠ 69 → r ≠ 70 → r ≠ 71 → hR_set X 70 k2 0 2 r = Mo r) ∧ hR_set X 70 k2 0 2 67 = X 67 := fun X q1 q2 k2 => by
      unfold hR_set
      (repeat' split) <;> first | exact ⟨q1, rfl⟩ | exact ⟨fun r c1 c2 c3 c4 => (zput_oth c4).trans (q1 r c1 c2 c3 c4), zput_oth (by decide)⟩
    have g := h.f67 (j := 10) (x := 10 * (s : Int) + 1)
    obtain ⟨p1, p2⟩ := hx _ g.1 ⟨g.2.1.1, g.2.1.2.1⟩ (w32 (hR_size (zput M 67 10 (10 * (s : Int) + 1)) 70 - 1))
    exact xRel.fail (fun r c1 c2 c3 c4 => (zput_oth c1).trans (p1 r c1 c2 c3 c4)) (by rw [qput_nk (by decide), p2, qput_eq]) (by show ¬ 10 * (s : Int) + 1 = -1; omega)
/-- a fault that is there stays -/
theorem x85b (h : xS Mo W O M) (hW : W.length < 80) (h10 : M 67 10 = 10 * (s : Int) + 1) {e : Nat} {b : Bool} {W2 O2 : List Int} {z : Bool} {q : Int} : xRel Mo a (e, b, q, W2, O2, 10 * (s : Int) + 1, z) (hf_85_67 M 1) := by
  unfold hf_85_67
  rw [if_pos (by decide)]
  have ef : hf_91_67 M 0 = M := by unfold hf_91_67 hf_92_67; rw [if_neg (by decide), if_pos (by rw [h10]; omega)]
  rw [ef]
  obtain ⟨p1, p2⟩ := x87f h hW
  exact xRel.fail p1 (p2.trans h10) (by show ¬ 10 * (s : Int) + 1 = -1; omega)
theorem x81b (h : xS Mo W O M) (h10 : M 67 10 = 10 * (s : Int) + 1) {e : Nat} {b : Bool} {W2 O2 : List Int} {z : Bool} {q : Int} : xRel Mo a (e, b, q, W2, O2, 10 * (s : Int) + 1, z) (hf_81_67 M) := by
  have e0 : hf_91_67 M 0 = M := by unfold hf_91_67 hf_92_67; rw [if_neg (by decide), if_pos (by rw [h10]; omega)]
  have e1 : hf_91_67 M 1 = M := if_pos (by decide)
  have e2 : hf_81_67 M = M := by
    unfold hf_81_67
    rw [e0, e1]
    split
    · rw [if_pos (by rw [h10]; omega)]
    · rw [if_pos (by rw [h10]; omega)]
  rw [e2]
  exact xRel.fail h.1 h10 (by show ¬ 10 * (s : Int) + 1 = -1; omega)
theorem x81 (h : xS Mo W O M) (hw : xW W) (ht : xTo Mo a s e 23 op 0 (M 67)) (hl : W.length + O.length ≤ e) (hs : s < e) (he : e ≤ xL Mo a) (hL : xL Mo a ≤ 80) (ho : -(s : Int) ≤ op ∧ op ≤ 8) {b : Bool} {W2 O2 : List Int} {z : Bool} {q : Int} : (xrT W = 22 → xRel Mo a (e, false, op - 1, W.tail, O, -1, false) (hf_81_67 M)) ∧ (¬ xrT W = 22 → xRel Mo a (e, b, q, W2, O2, 10 * (s : Int) + 1, z) (hf_81_67 M)) := by
  have gl := h.last (by omega)
  have hx92 := x92 ht (k := 1) (by omega) (by decide)
  obtain ⟨h3, h4, h5, h6, h7, h9, h10, h11⟩ := ht
  constructor
  · intro h1
    have e1 : hf_91_67 M 1 = M := if_pos (by decide)
    unfold hf_81_67
    rw [gl, if_neg (by rw [h1]; decide), e1, if_neg (by rw [h10]; decide), h9, w32_id (by omega)]
    cases W with
    | nil => exact absurd h1 (by decide)
    | cons k W =>
      rw [List.length_cons] at hl
      obtain ⟨p1, p2⟩ := (h.f67 (j := 9) (x := op - 1)).drop (by omega)
      refine xRel.good p1 (fun x hx => hw x (List.mem_cons_of_mem _ hx)) (by omega) he ?_ ?_ ?_ ?_ (by omega) ?_ ?_ ?_
      · rw [p2, qput_nk (by decide)]; exact h3
      · rw [p2, qput_nk (by decide)]; exact h4
      · rw [p2, qput_nk (by decide)]; exact h6
      · rw [p2, qput_eq]
      · rw [p2, qput_nk (by decide)]; exact h10
      · rw [p2, qput_nk (by decide)]; exact h11
      · rw [p2, qput_nk (by decide), h7]; exact ⟨fun q => absurd q (by decide), fun q => Bool.noConfusion q⟩
  · intro h1
    have e0 : hf_91_67 M 0 = zput M 67 10 (10 * (s : Int) + 1) := by unfold hf_91_67; rw [if_neg (by decide)]; exact hx92
    unfold hf_81_67
    rw [gl, if_pos h1, e0, if_pos (by rw [qput_eq]; omega)]
    exact xRel.fail (h.f67).1 qput_eq (by show ¬ 10 * (s : Int) + 1 = -1; omega)
end XZ
set_option maxRecDepth 100000 in
theorem fh_78_67 {n : Nat} {M : zM} {Mo : zM} {a : Int} (hp : xP Mo a) {W O : List Int} (h : xS Mo W O M) (hw : xW W) {s e : Nat} {kd op : Int} (ht : xTo Mo a s e kd op 0 (M 67)) (hl : W.length + O.length ≤ s) (hse : s ≤ e ∧ (kd ≠ 25 → s < e)) (he : e ≤ xL Mo a) (hk : 0 ≤ kd ∧ kd ≤ 25) (ho : -(s : Int) ≤ op ∧ op ≤ 8) : zH n (0, 0) 78 (0, zini [zR 67] 1, []) M (fun r M' => r = none ∧ xRel Mo a (xBh s e kd op W O) M') := by
  have hz := zp_78
  show zH n (0, 0) 78 (0, [zR 67], []) M _
  have hL := hp.len
  refine zH_w (c' := (4, [zR 67], [.inl (M 67 7)])) 2 hz rfl ?_
  rw [ht.2.2.2.2.1]
  refine zH_sw hz rfl ?_
  by_cases hw4_208 : kd = 0
  · skip
    rw [show zts 0 kd 269 [208, 171, 196, 124, 124, 269, 269, 269, 269, 269, 269, 269, 269, 269, 269, 142, 142, 142, 124, 124, 124, 124, 269, 232, 269, 243] = 208 from by rw [hw4_208]; rfl]
    refine zH_w (c' := (209, [zR 67], [zR 67])) 1 hz rfl ?_
    refine zH_wC (c1 := (212, [zR 67], [])) 0 hz zp_83 (fh_83_67 hp h hw (by omega) ht (by omega)) (by rfl) ?_
    rintro _ M1 ⟨rfl, hS1, hG1, h101⟩
    show zH n (0, 0) 78 (212, [zR 67], []) M1 _
    have hw1 := (xrE_r 1 _ (xrE 3 W O).2 (xrE_r 3 W O hw).1)
    have hw3 := xrE_r 3 W O hw
    have hT1 : ¬ xrT (xrE 3 W O).1 = 1 → xTo Mo a s e kd op 0 (M1 67) := fun q => ⟨(hG1 3 (by decide)).trans ht.1, (hG1 4 (by decide)).trans ht.2.1, (hG1 5 (by decide)).trans ht.2.2.1, (hG1 6 (by decide)).trans ht.2.2.2.1, (hG1 7 (by decide)).trans ht.2.2.2.2.1, (hG1 9 (by decide)).trans ht.2.2.2.2.2.1, by rw [h101, if_neg q], (hG1 11 (by decide)).trans ht.2.2.2.2.2.2.2⟩
    refine zH_w (c' := (217, [zR 67], [.inl (M1 67 10), zR 67])) 3 hz rfl ?_
    rw [h101]
    obtain ⟨y, hy⟩ : ∃ x : Int, x = (if xrT (xrE 3 W O).1 = 1 then 10 * (s : Int) + 1 else -1) := ⟨_, rfl⟩
    rw [← hy]
    refine zH_w (c' := (218, [zR 67], [.inl (-1), .inl y, zR 67])) 1 hz rfl ?_
    refine zH_wi_eq (pc := 218) (n' := 221) (t := 225) (L := [zR 67]) (st := [zR 67]) (x := y) (y := (-1)) 0 hz (by rfl) (fun hb218 => ?_) (fun hb218 => ?_)
    · skip
      have hq : ¬ xrT (xrE 3 W O).1 = 1 := fun q => by rw [if_pos q] at hy; omega
      refine zH_wE (c1 := (229, [zR 67], [])) 1 hz zp_85 (fh_85_67 0) (by rfl) ?_
      show zH n (0, 0) 78 (229, [zR 67], []) (hf_85_67 M1 0) _
      refine zH_w (c' := (274, [zR 67], [])) 1 hz rfl ?_
      refine zH_ret hz rfl rfl ?_
      first
        | exact ⟨rfl, by unfold xBh; rw [if_neg (by omega), if_neg (by omega), if_neg (by omega), if_neg (by omega), if_pos hw4_208, if_neg hq]; have q9 := (x85 (b := true) (W2 := []) (O2 := []) (z := true) (q := 0) hS1 hw1.1 (hT1 hq) (by omega) (by omega) (by omega) he (by omega) (by omega)).1; rw [hw4_208] at q9; exact q9⟩
        | exact ⟨rfl, by unfold xBh; rw [if_pos (by omega)]; exact x86 hS1 hr.1 ht1 (by omega) (by omega) he (by omega) (by omega)⟩
        | exact ⟨rfl, by unfold xBh; rw [if_neg (by omega), if_pos (by omega), if_neg hb157]; exact (x85 (b := true) (W2 := []) (O2 := []) (z := true) (q := 0) hS1 hr.1 ht1 (by omega) (by omega) (by omega) he (by omega) (by omega)).1⟩
        | exact ⟨rfl, by unfold xBh; rw [if_neg (by omega), if_pos (by omega), if_pos (by omega)]; exact (x85 hS1 hr.1 ht1 (by omega) (by omega) (by omega) he (by omega) (by omega)).2⟩
        | exact ⟨rfl, by unfold xBh; rw [if_neg (by omega), if_neg (by omega), if_pos hw4_171, if_neg hb182]; have q9 := (x85 (b := true) (W2 := []) (O2 := []) (z := true) (q := 0) hS1 hr.1 ht1 (by omega) (by omega) (by omega) he (by omega) (by omega)).1; rw [hw4_171] at q9; exact q9⟩
        | exact ⟨rfl, by unfold xBh; rw [if_neg (by omega), if_neg (by omega), if_pos hw4_171, if_pos (by omega)]; exact (x85 hS1 hr.1 ht1 (by omega) (by omega) (by omega) he (by omega) (by omega)).2⟩
        | exact ⟨rfl, by
            have q9 := x82 (b := false) (W2 := W) (O2 := O) (z := false) (q := op) hS1 hr.1 (by rw [hw4_196] at ht1; exact ht1) (by omega) (by omega) he (by omega) (by omega) (by omega)
            unfold xBh; rw [if_neg (by omega), if_neg (by omega), if_neg (by omega), if_pos hw4_196]
            split
            · rename_i q; exact q9.1 q
            · rename_i q; exact q9.2 q⟩
        | exact ⟨rfl, by unfold xBh; rw [if_neg (by omega), if_neg (by omega), if_neg (by omega), if_neg (by omega), if_pos hw4_208, if_pos hq]; exact x85b hS1 (by omega) (by rw [h101, if_pos hq])⟩
        | exact ⟨rfl, by
            unfold xBh; rw [if_neg (by omega), if_neg (by omega), if_neg (by omega), if_neg (by omega), if_neg (by omega), if_pos hw4_232]
            by_cases hq : xrT (xrE 3 W O).1 = 1
            · rw [if_pos (.inl hq)]; exact x81b hS1 (by rw [h101, if_pos hq])
            · have q9 := x81 (b := false) (W2 := W) (O2 := O) (z := false) (q := op) hS1 hw1.1 (by have q := hT1 hq; rw [hw4_232] at q; exact q) (by omega) (by omega) he (by omega) (by omega)
              by_cases hq2 : xrT (xrE 1 (xrE 3 W O).1 (xrE 3 W O).2).1 = 22
              · rw [if_neg (by intro c; rcases c with c | c; exact hq c; exact c hq2)]; exact q9.1 hq2
              · rw [if_pos (.inr hq2)]; exact q9.2 hq2⟩
        | exact ⟨rfl, by
            unfold xBh; rw [if_neg (by omega), if_neg (by omega), if_neg (by omega), if_neg (by omega), if_neg (by omega), if_neg (by omega), if_pos hw4_243]
            by_cases hq : xrT (xrE 3 W O).1 = 1
            · rw [if_pos (.inl hq)]
              have z10 : M1 67 10 = 10 * (s : Int) + 1 := by rw [h101, if_pos hq]
              first
                | (rw [show hf_91_67 M1 0 = M1 from by unfold hf_91_67 hf_92_67; rw [if_neg (by decide), if_pos (by rw [z10]; omega)]]; exact xRel.fail hS1.1 z10 (by show ¬ 10 * (s : Int) + 1 = -1; omega))
                | (rw [show hf_91_67 M1 1 = M1 from if_pos (by decide)]; exact xRel.fail hS1.1 z10 (by show ¬ 10 * (s : Int) + 1 = -1; omega))
            · have ht1 := hT1 hq
              first
                | (have hq2 : ¬ (xrE 1 (xrE 3 W O).1 (xrE 3 W O).2).1 = [] := fun c => hb255 (by rw [c]; rfl)
                   rw [if_pos (.inr hq2), show hf_91_67 M1 0 = hf_92_67 M1 1 from by unfold hf_91_67; rw [if_neg (by decide)]]
                   exact xRel.f92 ht1 (by omega) (by decide) hS1.1)
                | (have hq2 : (xrE 1 (xrE 3 W O).1 (xrE 3 W O).2).1 = [] := List.eq_nil_of_length_eq_zero (by omega)
                   rw [if_neg (by intro c; rcases c with c | c; exact hq c; exact c hq2), show hf_91_67 M1 1 = M1 from if_pos (by decide)]
                   rw [hq2] at hS1
                   obtain ⟨h3, h4, h5, h6, h7, h9, h10, h11⟩ := ht1
                   exact xRel.good hS1 (fun x hx => absurd hx (List.not_mem_nil)) (by rw [List.length_nil]; omega) he h3 h4 h6 h9 (by omega) h10 h11 ⟨fun _ => rfl, fun _ => by rw [h7]; exact hw4_243⟩)⟩
        | exact ⟨rfl, by unfold xBh; rw [if_neg (by omega), if_neg (by omega), if_neg (by omega), if_neg (by omega), if_neg (by omega), if_neg (by omega), if_neg (by omega)]; exact xRel.f92 ht (by omega) (by decide) h.1⟩
    · skip
      have hq : xrT (xrE 3 W O).1 = 1 := by by_cases q : xrT (xrE 3 W O).1 = 1; exact q; rw [if_neg q] at hy; exact absurd hy hb218
      refine zH_wE (c1 := (229, [zR 67], [])) 2 hz zp_85 (fh_85_67 1) (by rfl) ?_
      show zH n (0, 0) 78 (229, [zR 67], []) (hf_85_67 M1 1) _
      refine zH_w (c' := (274, [zR 67], [])) 1 hz rfl ?_
      refine zH_ret hz rfl rfl ?_
      first
        | exact ⟨rfl, by unfold xBh; rw [if_neg (by omega), if_neg (by omega), if_neg (by omega), if_neg (by omega), if_pos hw4_208, if_pos hq]; exact x85b hS1 (by omega) (by rw [h101, if_pos hq])⟩
        | exact ⟨rfl, by unfold xBh; rw [if_pos (by omega)]; exact x86 hS1 hr.1 ht1 (by omega) (by omega) he (by omega) (by omega)⟩
        | exact ⟨rfl, by unfold xBh; rw [if_neg (by omega), if_pos (by omega), if_neg hb157]; exact (x85 (b := true) (W2 := []) (O2 := []) (z := true) (q := 0) hS1 hr.1 ht1 (by omega) (by omega) (by omega) he (by omega) (by omega)).1⟩
        | exact ⟨rfl, by unfold xBh; rw [if_neg (by omega), if_pos (by omega), if_pos (by omega)]; exact (x85 hS1 hr.1 ht1 (by omega) (by omega) (by omega) he (by omega) (by omega)).2⟩
        | exact ⟨rfl, by unfold xBh; rw [if_neg (by omega), if_neg (by omega), if_pos hw4_171, if_neg hb182]; have q9 := (x85 (b := true) (W2 := []) (O2 := []) (z := true) (q := 0) hS1 hr.1 ht1 (by omega) (by omega) (by omega) he (by omega) (by omega)).1; rw [hw4_171] at q9; exact q9⟩
        | exact ⟨rfl, by unfold xBh; rw [if_neg (by omega), if_neg (by omega), if_pos hw4_171, if_pos (by omega)]; exact (x85 hS1 hr.1 ht1 (by omega) (by omega) (by omega) he (by omega) (by omega)).2⟩
        | exact ⟨rfl, by
            have q9 := x82 (b := false) (W2 := W) (O2 := O) (z := false) (q := op) hS1 hr.1 (by rw [hw4_196] at ht1; exact ht1) (by omega) (by omega) he (by omega) (by omega) (by omega)
            unfold xBh; rw [if_neg (by omega), if_neg (by omega), if_neg (by omega), if_pos hw4_196]
            split
            · rename_i q; exact q9.1 q
            · rename_i q; exact q9.2 q⟩
        | exact ⟨rfl, by unfold xBh; rw [if_neg (by omega), if_neg (by omega), if_neg (by omega), if_neg (by omega), if_pos hw4_208, if_neg hq]; have q9 := (x85 (b := true) (W2 := []) (O2 := []) (z := true) (q := 0) hS1 hw1.1 (hT1 hq) (by omega) (by omega) (by omega) he (by omega) (by omega)).1; rw [hw4_208] at q9; exact q9⟩
        | exact ⟨rfl, by
            unfold xBh; rw [if_neg (by omega), if_neg (by omega), if_neg (by omega), if_neg (by omega), if_neg (by omega), if_pos hw4_232]
            by_cases hq : xrT (xrE 3 W O).1 = 1
            · rw [if_pos (.inl hq)]; exact x81b hS1 (by rw [h101, if_pos hq])
            · have q9 := x81 (b := false) (W2 := W) (O2 := O) (z := false) (q := op) hS1 hw1.1 (by have q := hT1 hq; rw [hw4_232] at q; exact q) (by omega) (by omega) he (by omega) (by omega)
              by_cases hq2 : xrT (xrE 1 (xrE 3 W O).1 (xrE 3 W O).2).1 = 22
              · rw [if_neg (by intro c; rcases c with c | c; exact hq c; exact c hq2)]; exact q9.1 hq2
              · rw [if_pos (.inr hq2)]; exact q9.2 hq2⟩
        | exact ⟨rfl, by
            unfold xBh; rw [if_neg (by omega), if_neg (by omega), if_neg (by omega), if_neg (by omega), if_neg (by omega), if_neg (by omega), if_pos hw4_243]
            by_cases hq : xrT (xrE 3 W O).1 = 1
            · rw [if_pos (.inl hq)]
              have z10 : M1 67 10 = 10 * (s : Int) + 1 := by rw [h101, if_pos hq]
              first
                | (rw [show hf_91_67 M1 0 = M1 from by unfold hf_91_67 hf_92_67; rw [if_neg (by decide), if_pos (by rw [z10]; omega)]]; exact xRel.fail hS1.1 z10 (by show ¬ 10 * (s : Int) + 1 = -1; omega))
                | (rw [show hf_91_67 M1 1 = M1 from if_pos (by decide)]; exact xRel.fail hS1.1 z10 (by show ¬ 10 * (s : Int) + 1 = -1; omega))
            · have ht1 := hT1 hq
              first
                | (have hq2 : ¬ (xrE 1 (xrE 3 W O).1 (xrE 3 W O).2).1 = [] := fun c => hb255 (by rw [c]; rfl)
                   rw [if_pos (.inr hq2), show hf_91_67 M1 0 = hf_92_67 M1 1 from by unfold hf_91_67; rw [if_neg (by decide)]]
                   exact xRel.f92 ht1 (by omega) (by decide) hS1.1)
                | (have hq2 : (xrE 1 (xrE 3 W O).1 (xrE 3 W O).2).1 = [] := List.eq_nil_of_length_eq_zero (by omega)
                   rw [if_neg (by intro c; rcases c with c | c; exact hq c; exact c hq2), show hf_91_67 M1 1 = M1 from if_pos (by decide)]
                   rw [hq2] at hS1
                   obtain ⟨h3, h4, h5, h6, h7, h9, h10, h11⟩ := ht1
                   exact xRel.good hS1 (fun x hx => absurd hx (List.not_mem_nil)) (by rw [List.length_nil]; omega) he h3 h4 h6 h9 (by omega) h10 h11 ⟨fun _ => rfl, fun _ => by rw [h7]; exact hw4_243⟩)⟩
        | exact ⟨rfl, by unfold xBh; rw [if_neg (by omega), if_neg (by omega), if_neg (by omega), if_neg (by omega), if_neg (by omega), if_neg (by omega), if_neg (by omega)]; exact xRel.f92 ht (by omega) (by decide) h.1⟩
  by_cases hw4_171 : kd = 1
  · skip
    rw [show zts 0 kd 269 [208, 171, 196, 124, 124, 269, 269, 269, 269, 269, 269, 269, 269, 269, 269, 142, 142, 142, 124, 124, 124, 124, 269, 232, 269, 243] = 171 from by rw [hw4_171]; rfl]
    refine zH_w (c' := (173, [zR 67], [.inl 3, zR 67])) 2 hz rfl ?_
    refine zH_wC (c1 := (176, [zR 67], [])) 0 hz zp_84 (fh_84_67 hp h hw (by omega) (3)) (by rfl) ?_
    rintro _ M1 ⟨rfl, hS1, h67⟩
    show zH n (0, 0) 78 (176, [zR 67], []) M1 _
    have hr := xrE_r (3) W O hw
    have gl : hf_88_67 M1 = xrT (xrE (3) W O).1 := hS1.last (by omega)
    have ht1 : xTo Mo a s e kd op 0 (M1 67) := by rw [h67]; exact ht
    refine zH_wE (c1 := (181, [zR 67], [zR 67])) 2 hz zp_88 (fh_88_67) (by rfl) ?_
    show zH n (0, 0) 78 (181, [zR 67], [.inl (hf_88_67 M1), zR 67]) M1 _
    rw [gl]
    refine zH_w (c' := (182, [zR 67], [.inl 1, .inl (xrT (xrE (3) W O).1), zR 67])) 1 hz rfl ?_
    refine zH_wi_ne (pc := 182) (n' := 185) (t := 189) (L := [zR 67]) (st := [zR 67]) (x := (xrT (xrE (3) W O).1)) (y := 1) 0 hz (by rfl) (fun hb182 => ?_) (fun hb182 => ?_)
    · skip
      refine zH_wE (c1 := (193, [zR 67], [])) 1 hz zp_85 (fh_85_67 0) (by rfl) ?_
      show zH n (0, 0) 78 (193, [zR 67], []) (hf_85_67 M1 0) _
      refine zH_w (c' := (274, [zR 67], [])) 1 hz rfl ?_
      refine zH_ret hz rfl rfl ?_
      first
        | exact ⟨rfl, by unfold xBh; rw [if_neg (by omega), if_neg (by omega), if_pos hw4_171, if_neg hb182]; have q9 := (x85 (b := true) (W2 := []) (O2 := []) (z := true) (q := 0) hS1 hr.1 ht1 (by omega) (by omega) (by omega) he (by omega) (by omega)).1; rw [hw4_171] at q9; exact q9⟩
        | exact ⟨rfl, by unfold xBh; rw [if_pos (by omega)]; exact x86 hS1 hr.1 ht1 (by omega) (by omega) he (by omega) (by omega)⟩
        | exact ⟨rfl, by unfold xBh; rw [if_neg (by omega), if_pos (by omega), if_neg hb157]; exact (x85 (b := true) (W2 := []) (O2 := []) (z := true) (q := 0) hS1 hr.1 ht1 (by omega) (by omega) (by omega) he (by omega) (by omega)).1⟩
        | exact ⟨rfl, by unfold xBh; rw [if_neg (by omega), if_pos (by omega), if_pos (by omega)]; exact (x85 hS1 hr.1 ht1 (by omega) (by omega) (by omega) he (by omega) (by omega)).2⟩
        | exact ⟨rfl, by unfold xBh; rw [if_neg (by omega), if_neg (by omega), if_pos hw4_171, if_pos (by omega)]; exact (x85 hS1 hr.1 ht1 (by omega) (by omega) (by omega) he (by omega) (by omega)).2⟩
        | exact ⟨rfl, by
            have q9 := x82 (b := false) (W2 := W) (O2 := O) (z := false) (q := op) hS1 hr.1 (by rw [hw4_196] at ht1; exact ht1) (by omega) (by omega) he (by omega) (by omega) (by omega)
            unfold xBh; rw [if_neg (by omega), if_neg (by omega), if_neg (by omega), if_pos hw4_196]
            split
            · rename_i q; exact q9.1 q
            · rename_i q; exact q9.2 q⟩
        | exact ⟨rfl, by unfold xBh; rw [if_neg (by omega), if_neg (by omega), if_neg (by omega), if_neg (by omega), if_pos hw4_208, if_neg hq]; have q9 := (x85 (b := true) (W2 := []) (O2 := []) (z := true) (q := 0) hS1 hw1.1 (hT1 hq) (by omega) (by omega) (by omega) he (by omega) (by omega)).1; rw [hw4_208] at q9; exact q9⟩
        | exact ⟨rfl, by unfold xBh; rw [if_neg (by omega), if_neg (by omega), if_neg (by omega), if_neg (by omega), if_pos hw4_208, if_pos hq]; exact x85b hS1 (by omega) (by rw [h101, if_pos hq])⟩
        | exact ⟨rfl, by
            unfold xBh; rw [if_neg (by omega), if_neg (by omega), if_neg (by omega), if_neg (by omega), if_neg (by omega), if_pos hw4_232]
            by_cases hq : xrT (xrE 3 W O).1 = 1
            · rw [if_pos (.inl hq)]; exact x81b hS1 (by rw [h101, if_pos hq])
            · have q9 := x81 (b := false) (W2 := W) (O2 := O) (z := false) (q := op) hS1 hw1.1 (by have q := hT1 hq; rw [hw4_232] at q; exact q) (by omega) (by omega) he (by omega) (by omega)
              by_cases hq2 : xrT (xrE 1 (xrE 3 W O).1 (xrE 3 W O).2).1 = 22
              · rw [if_neg (by intro c; rcases c with c | c; exact hq c; exact c hq2)]; exact q9.1 hq2
              · rw [if_pos (.inr hq2)]; exact q9.2 hq2⟩
        | exact ⟨rfl, by
            unfold xBh; rw [if_neg (by omega), if_neg (by omega), if_neg (by omega), if_neg (by omega), if_neg (by omega), if_neg (by omega), if_pos hw4_243]
            by_cases hq : xrT (xrE 3 W O).1 = 1
            · rw [if_pos (.inl hq)]
              have z10 : M1 67 10 = 10 * (s : Int) + 1 := by rw [h101, if_pos hq]
              first
                | (rw [show hf_91_67 M1 0 = M1 from by unfold hf_91_67 hf_92_67; rw [if_neg (by decide), if_pos (by rw [z10]; omega)]]; exact xRel.fail hS1.1 z10 (by show ¬ 10 * (s : Int) + 1 = -1; omega))
                | (rw [show hf_91_67 M1 1 = M1 from if_pos (by decide)]; exact xRel.fail hS1.1 z10 (by show ¬ 10 * (s : Int) + 1 = -1; omega))
            · have ht1 := hT1 hq
              first
                | (have hq2 : ¬ (xrE 1 (xrE 3 W O).1 (xrE 3 W O).2).1 = [] := fun c => hb255 (by rw [c]; rfl)
                   rw [if_pos (.inr hq2), show hf_91_67 M1 0 = hf_92_67 M1 1 from by unfold hf_91_67; rw [if_neg (by decide)]]
                   exact xRel.f92 ht1 (by omega) (by decide) hS1.1)
                | (have hq2 : (xrE 1 (xrE 3 W O).1 (xrE 3 W O).2).1 = [] := List.eq_nil_of_length_eq_zero (by omega)
                   rw [if_neg (by intro c; rcases c with c | c; exact hq c; exact c hq2), show hf_91_67 M1 1 = M1 from if_pos (by decide)]
                   rw [hq2] at hS1
                   obtain ⟨h3, h4, h5, h6, h7, h9, h10, h11⟩ := ht1
                   exact xRel.good hS1 (fun x hx => absurd hx (List.not_mem_nil)) (by rw [List.length_nil]; omega) he h3 h4 h6 h9 (by omega) h10 h11 ⟨fun _ => rfl, fun _ => by rw [h7]; exact hw4_243⟩)⟩
        | exact ⟨rfl, by unfold xBh; rw [if_neg (by omega), if_neg (by omega), if_neg (by omega), if_neg (by omega), if_neg (by omega), if_neg (by omega), if_neg (by omega)]; exact xRel.f92 ht (by omega) (by decide) h.1⟩
    · skip
      refine zH_wE (c1 := (193, [zR 67], [])) 2 hz zp_85 (fh_85_67 1) (by rfl) ?_
      show zH n (0, 0) 78 (193, [zR 67], []) (hf_85_67 M1 1) _
      refine zH_w (c' := (274, [zR 67], [])) 1 hz rfl ?_
      refine zH_ret hz rfl rfl ?_
      first
        | exact ⟨rfl, by unfold xBh; rw [if_neg (by omega), if_neg (by omega), if_pos hw4_171, if_pos (by omega)]; exact (x85 hS1 hr.1 ht1 (by omega) (by omega) (by omega) he (by omega) (by omega)).2⟩
        | exact ⟨rfl, by unfold xBh; rw [if_pos (by omega)]; exact x86 hS1 hr.1 ht1 (by omega) (by omega) he (by omega) (by omega)⟩
        | exact ⟨rfl, by unfold xBh; rw [if_neg (by omega), if_pos (by omega), if_neg hb157]; exact (x85 (b := true) (W2 := []) (O2 := []) (z := true) (q := 0) hS1 hr.1 ht1 (by omega) (by omega) (by omega) he (by omega) (by omega)).1⟩
        | exact ⟨rfl, by unfold xBh; rw [if_neg (by omega), if_pos (by omega), if_pos (by omega)]; exact (x85 hS1 hr.1 ht1 (by omega) (by omega) (by omega) he (by omega) (by omega)).2⟩
        | exact ⟨rfl, by unfold xBh; rw [if_neg (by omega), if_neg (by omega), if_pos hw4_171, if_neg hb182]; have q9 := (x85 (b := true) (W2 := []) (O2 := []) (z := true) (q := 0) hS1 hr.1 ht1 (by omega) (by omega) (by omega) he (by omega) (by omega)).1; rw [hw4_171] at q9; exact q9⟩
        | exact ⟨rfl, by
            have q9 := x82 (b := false) (W2 := W) (O2 := O) (z := false) (q := op) hS1 hr.1 (by rw [hw4_196] at ht1; exact ht1) (by omega) (by omega) he (by omega) (by omega) (by omega)
            unfold xBh; rw [if_neg (by omega), if_neg (by omega), if_neg (by omega), if_pos hw4_196]
            split
            · rename_i q; exact q9.1 q
            · rename_i q; exact q9.2 q⟩
        | exact ⟨rfl, by unfold xBh; rw [if_neg (by omega), if_neg (by omega), if_neg (by omega), if_neg (by omega), if_pos hw4_208, if_neg hq]; have q9 := (x85 (b := true) (W2 := []) (O2 := []) (z := true) (q := 0) hS1 hw1.1 (hT1 hq) (by omega) (by omega) (by omega) he (by omega) (by omega)).1; rw [hw4_208] at q9; exact q9⟩
        | exact ⟨rfl, by unfold xBh; rw [if_neg (by omega), if_neg (by omega), if_neg (by omega), if_neg (by omega), if_pos hw4_208, if_pos hq]; exact x85b hS1 (by omega) (by rw [h101, if_pos hq])⟩
        | exact ⟨rfl, by
            unfold xBh; rw [if_neg (by omega), if_neg (by omega), if_neg (by omega), if_neg (by omega), if_neg (by omega), if_pos hw4_232]
            by_cases hq : xrT (xrE 3 W O).1 = 1
            · rw [if_pos (.inl hq)]; exact x81b hS1 (by rw [h101, if_pos hq])
            · have q9 := x81 (b := false) (W2 := W) (O2 := O) (z := false) (q := op) hS1 hw1.1 (by have q := hT1 hq; rw [hw4_232] at q; exact q) (by omega) (by omega) he (by omega) (by omega)
              by_cases hq2 : xrT (xrE 1 (xrE 3 W O).1 (xrE 3 W O).2).1 = 22
              · rw [if_neg (by intro c; rcases c with c | c; exact hq c; exact c hq2)]; exact q9.1 hq2
              · rw [if_pos (.inr hq2)]; exact q9.2 hq2⟩
        | exact ⟨rfl, by
            unfold xBh; rw [if_neg (by omega), if_neg (by omega), if_neg (by omega), if_neg (by omega), if_neg (by omega), if_neg (by omega), if_pos hw4_243]
            by_cases hq : xrT (xrE 3 W O).1 = 1
            · rw [if_pos (.inl hq)]
              have z10 : M1 67 10 = 10 * (s : Int) + 1 := by rw [h101, if_pos hq]
              first
                | (rw [show hf_91_67 M1 0 = M1 from by unfold hf_91_67 hf_92_67; rw [if_neg (by decide), if_pos (by rw [z10]; omega)]]; exact xRel.fail hS1.1 z10 (by show ¬ 10 * (s : Int) + 1 = -1; omega))
                | (rw [show hf_91_67 M1 1 = M1 from if_pos (by decide)]; exact xRel.fail hS1.1 z10 (by show ¬ 10 * (s : Int) + 1 = -1; omega))
            · have ht1 := hT1 hq
              first
                | (have hq2 : ¬ (xrE 1 (xrE 3 W O).1 (xrE 3 W O).2).1 = [] := fun c => hb255 (by rw [c]; rfl)
                   rw [if_pos (.inr hq2), show hf_91_67 M1 0 = hf_92_67 M1 1 from by unfold hf_91_67; rw [if_neg (by decide)]]
                   exact xRel.f92 ht1 (by omega) (by decide) hS1.1)
                | (have hq2 : (xrE 1 (xrE 3 W O).1 (xrE 3 W O).2).1 = [] := List.eq_nil_of_length_eq_zero (by omega)
                   rw [if_neg (by intro c; rcases c with c | c; exact hq c; exact c hq2), show hf_91_67 M1 1 = M1 from if_pos (by decide)]
                   rw [hq2] at hS1
                   obtain ⟨h3, h4, h5, h6, h7, h9, h10, h11⟩ := ht1
                   exact xRel.good hS1 (fun x hx => absurd hx (List.not_mem_nil)) (by rw [List.length_nil]; omega) he h3 h4 h6 h9 (by omega) h10 h11 ⟨fun _ => rfl, fun _ => by rw [h7]; exact hw4_243⟩)⟩
        | exact ⟨rfl, by unfold xBh; rw [if_neg (by omega), if_neg (by omega), if_neg (by omega), if_neg (by omega), if_neg (by omega), if_neg (by omega), if_neg (by omega)]; exact xRel.f92 ht (by omega) (by decide) h.1⟩
  by_cases hw4_196 : kd = 2
  · skip
    rw [show zts 0 kd 269 [208, 171, 196, 124, 124, 269, 269, 269, 269, 269, 269, 269, 269, 269, 269, 142, 142, 142, 124, 124, 124, 124, 269, 232, 269, 243] = 196 from by rw [hw4_196]; rfl]
    refine zH_w (c' := (198, [zR 67], [.inl 3, zR 67])) 2 hz rfl ?_
    refine zH_wC (c1 := (201, [zR 67], [])) 0 hz zp_84 (fh_84_67 hp h hw (by omega) (3)) (by rfl) ?_
    rintro _ M1 ⟨rfl, hS1, h67⟩
    show zH n (0, 0) 78 (201, [zR 67], []) M1 _
    have hr := xrE_r (3) W O hw
    have gl : hf_88_67 M1 = xrT (xrE (3) W O).1 := hS1.last (by omega)
    have ht1 : xTo Mo a s e kd op 0 (M1 67) := by rw [h67]; exact ht
    refine zH_wE (c1 := (205, [zR 67], [])) 1 hz zp_82 (fh_82_67) (by rfl) ?_
    show zH n (0, 0) 78 (205, [zR 67], []) (hf_82_67 M1) _
    refine zH_w (c' := (274, [zR 67], [])) 1 hz rfl ?_
    refine zH_ret hz rfl rfl ?_
    first
      | exact ⟨rfl, by
          have q9 := x82 (b := false) (W2 := W) (O2 := O) (z := false) (q := op) hS1 hr.1 (by rw [hw4_196] at ht1; exact ht1) (by omega) (by omega) he (by omega) (by omega) (by omega)
          unfold xBh; rw [if_neg (by omega), if_neg (by omega), if_neg (by omega), if_pos hw4_196]
          split
          · rename_i q; exact q9.1 q
          · rename_i q; exact q9.2 q⟩
      | exact ⟨rfl, by unfold xBh; rw [if_pos (by omega)]; exact x86 hS1 hr.1 ht1 (by omega) (by omega) he (by omega) (by omega)⟩
      | exact ⟨rfl, by unfold xBh; rw [if_neg (by omega), if_pos (by omega), if_neg hb157]; exact (x85 (b := true) (W2 := []) (O2 := []) (z := true) (q := 0) hS1 hr.1 ht1 (by omega) (by omega) (by omega) he (by omega) (by omega)).1⟩
      | exact ⟨rfl, by unfold xBh; rw [if_neg (by omega), if_pos (by omega), if_pos (by omega)]; exact (x85 hS1 hr.1 ht1 (by omega) (by omega) (by omega) he (by omega) (by omega)).2⟩
      | exact ⟨rfl, by unfold xBh; rw [if_neg (by omega), if_neg (by omega), if_pos hw4_171, if_neg hb182]; have q9 := (x85 (b := true) (W2 := []) (O2 := []) (z := true) (q := 0) hS1 hr.1 ht1 (by omega) (by omega) (by omega) he (by omega) (by omega)).1; rw [hw4_171] at q9; exact q9⟩
      | exact ⟨rfl, by unfold xBh; rw [if_neg (by omega), if_neg (by omega), if_pos hw4_171, if_pos (by omega)]; exact (x85 hS1 hr.1 ht1 (by omega) (by omega) (by omega) he (by omega) (by omega)).2⟩
      | exact ⟨rfl, by unfold xBh; rw [if_neg (by omega), if_neg (by omega), if_neg (by omega), if_neg (by omega), if_pos hw4_208, if_neg hq]; have q9 := (x85 (b := true) (W2 := []) (O2 := []) (z := true) (q := 0) hS1 hw1.1 (hT1 hq) (by omega) (by omega) (by omega) he (by omega) (by omega)).1; rw [hw4_208] at q9; exact q9⟩
      | exact ⟨rfl, by unfold xBh; rw [if_neg (by omega), if_neg (by omega), if_neg (by omega), if_neg (by omega), if_pos hw4_208, if_pos hq]; exact x85b hS1 (by omega) (by rw [h101, if_pos hq])⟩
      | exact ⟨rfl, by
          unfold xBh; rw [if_neg (by omega), if_neg (by omega), if_neg (by omega), if_neg (by omega), if_neg (by omega), if_pos hw4_232]
          by_cases hq : xrT (xrE 3 W O).1 = 1
          · rw [if_pos (.inl hq)]; exact x81b hS1 (by rw [h101, if_pos hq])
          · have q9 := x81 (b := false) (W2 := W) (O2 := O) (z := false) (q := op) hS1 hw1.1 (by have q := hT1 hq; rw [hw4_232] at q; exact q) (by omega) (by omega) he (by omega) (by omega)
            by_cases hq2 : xrT (xrE 1 (xrE 3 W O).1 (xrE 3 W O).2).1 = 22
            · rw [if_neg (by intro c; rcases c with c | c; exact hq c; exact c hq2)]; exact q9.1 hq2
            · rw [if_pos (.inr hq2)]; exact q9.2 hq2⟩
      | exact ⟨rfl, by
          unfold xBh; rw [if_neg (by omega), if_neg (by omega), if_neg (by omega), if_neg (by omega), if_neg (by omega), if_neg (by omega), if_pos hw4_243]
          by_cases hq : xrT (xrE 3 W O).1 = 1
          · rw [if_pos (.inl hq)]
            have z10 : M1 67 10 = 10 * (s : Int) + 1 := by rw [h101, if_pos hq]
            first
              | (rw [show hf_91_67 M1 0 = M1 from by unfold hf_91_67 hf_92_67; rw [if_neg (by decide), if_pos (by rw [z10]; omega)]]; exact xRel.fail hS1.1 z10 (by show ¬ 10 * (s : Int) + 1 = -1; omega))
              | (rw [show hf_91_67 M1 1 = M1 from if_pos (by decide)]; exact xRel.fail hS1.1 z10 (by show ¬ 10 * (s : Int) + 1 = -1; omega))
          · have ht1 := hT1 hq
            first
              | (have hq2 : ¬ (xrE 1 (xrE 3 W O).1 (xrE 3 W O).2).1 = [] := fun c => hb255 (by rw [c]; rfl)
                 rw [if_pos (.inr hq2), show hf_91_67 M1 0 = hf_92_67 M1 1 from by unfold hf_91_67; rw [if_neg (by decide)]]
                 exact xRel.f92 ht1 (by omega) (by decide) hS1.1)
              | (have hq2 : (xrE 1 (xrE 3 W O).1 (xrE 3 W O).2).1 = [] := List.eq_nil_of_length_eq_zero (by omega)
                 rw [if_neg (by intro c; rcases c with c | c; exact hq c; exact c hq2), show hf_91_67 M1 1 = M1 from if_pos (by decide)]
                 rw [hq2] at hS1
                 obtain ⟨h3, h4, h5, h6, h7, h9, h10, h11⟩ := ht1
                 exact xRel.good hS1 (fun x hx => absurd hx (List.not_mem_nil)) (by rw [List.length_nil]; omega) he h3 h4 h6 h9 (by omega) h10 h11 ⟨fun _ => rfl, fun _ => by rw [h7]; exact hw4_243⟩)⟩
      | exact ⟨rfl, by unfold xBh; rw [if_neg (by omega), if_neg (by omega), if_neg (by omega), if_neg (by omega), if_neg (by omega), if_neg (by omega), if_neg (by omega)]; exact xRel.f92 ht (by omega) (by decide) h.1⟩
  by_cases hw4_124 : kd = 3 ∨ kd = 4 ∨ kd = 18 ∨ kd = 19 ∨ kd = 20 ∨ kd = 21
  · skip
    rw [show zts 0 kd 269 [208, 171, 196, 124, 124, 269, 269, 269, 269, 269, 269, 269, 269, 269, 269, 142, 142, 142, 124, 124, 124, 124, 269, 232, 269, 243] = 124 from by rcases hw4_124 with h9 | h9 | h9 | h9 | h9 | h9 <;> rw [h9] <;> rfl]
    refine zH_w (c' := (129, [zR 67], [.inl (M 67 7), zR 67])) 3 hz rfl ?_
    rw [ht.2.2.2.2.1]
    refine zH_wE (c1 := (132, [zR 67], [zR 67])) 0 hz zp_90 (fh_90 kd) (by rfl) ?_
    show zH n (0, 0) 78 (132, [zR 67], [.inl (hf_90 M kd), zR 67]) M _
    rw [xS.rank hp (h.1 1 (by decide) (by decide) (by decide) (by decide))]
    refine zH_wC (c1 := (135, [zR 67], [])) 0 hz zp_84 (fh_84_67 hp h hw (by omega) (xrK kd)) (by rfl) ?_
    rintro _ M1 ⟨rfl, hS1, h67⟩
    show zH n (0, 0) 78 (135, [zR 67], []) M1 _
    have hr := xrE_r (xrK kd) W O hw
    have gl : hf_88_67 M1 = xrT (xrE (xrK kd) W O).1 := hS1.last (by omega)
    have ht1 : xTo Mo a s e kd op 0 (M1 67) := by rw [h67]; exact ht
    refine zH_wE (c1 := (139, [zR 67], [])) 1 hz zp_86 (fh_86_67) (by rfl) ?_
    show zH n (0, 0) 78 (139, [zR 67], []) (hf_86_67 M1) _
    refine zH_w (c' := (274, [zR 67], [])) 1 hz rfl ?_
    refine zH_ret hz rfl rfl ?_
    first
      | exact ⟨rfl, by unfold xBh; rw [if_pos (by omega)]; exact x86 hS1 hr.1 ht1 (by omega) (by omega) he (by omega) (by omega)⟩
      | exact ⟨rfl, by unfold xBh; rw [if_neg (by omega), if_pos (by omega), if_neg hb157]; exact (x85 (b := true) (W2 := []) (O2 := []) (z := true) (q := 0) hS1 hr.1 ht1 (by omega) (by omega) (by omega) he (by omega) (by omega)).1⟩
      | exact ⟨rfl, by unfold xBh; rw [if_neg (by omega), if_pos (by omega), if_pos (by omega)]; exact (x85 hS1 hr.1 ht1 (by omega) (by omega) (by omega) he (by omega) (by omega)).2⟩
      | exact ⟨rfl, by unfold xBh; rw [if_neg (by omega), if_neg (by omega), if_pos hw4_171, if_neg hb182]; have q9 := (x85 (b := true) (W2 := []) (O2 := []) (z := true) (q := 0) hS1 hr.1 ht1 (by omega) (by omega) (by omega) he (by omega) (by omega)).1; rw [hw4_171] at q9; exact q9⟩
      | exact ⟨rfl, by unfold xBh; rw [if_neg (by omega), if_neg (by omega), if_pos hw4_171, if_pos (by omega)]; exact (x85 hS1 hr.1 ht1 (by omega) (by omega) (by omega) he (by omega) (by omega)).2⟩
      | exact ⟨rfl, by
          have q9 := x82 (b := false) (W2 := W) (O2 := O) (z := false) (q := op) hS1 hr.1 (by rw [hw4_196] at ht1; exact ht1) (by omega) (by omega) he (by omega) (by omega) (by omega)
          unfold xBh; rw [if_neg (by omega), if_neg (by omega), if_neg (by omega), if_pos hw4_196]
          split
          · rename_i q; exact q9.1 q
          · rename_i q; exact q9.2 q⟩
      | exact ⟨rfl, by unfold xBh; rw [if_neg (by omega), if_neg (by omega), if_neg (by omega), if_neg (by omega), if_pos hw4_208, if_neg hq]; have q9 := (x85 (b := true) (W2 := []) (O2 := []) (z := true) (q := 0) hS1 hw1.1 (hT1 hq) (by omega) (by omega) (by omega) he (by omega) (by omega)).1; rw [hw4_208] at q9; exact q9⟩
      | exact ⟨rfl, by unfold xBh; rw [if_neg (by omega), if_neg (by omega), if_neg (by omega), if_neg (by omega), if_pos hw4_208, if_pos hq]; exact x85b hS1 (by omega) (by rw [h101, if_pos hq])⟩
      | exact ⟨rfl, by
          unfold xBh; rw [if_neg (by omega), if_neg (by omega), if_neg (by omega), if_neg (by omega), if_neg (by omega), if_pos hw4_232]
          by_cases hq : xrT (xrE 3 W O).1 = 1
          · rw [if_pos (.inl hq)]; exact x81b hS1 (by rw [h101, if_pos hq])
          · have q9 := x81 (b := false) (W2 := W) (O2 := O) (z := false) (q := op) hS1 hw1.1 (by have q := hT1 hq; rw [hw4_232] at q; exact q) (by omega) (by omega) he (by omega) (by omega)
            by_cases hq2 : xrT (xrE 1 (xrE 3 W O).1 (xrE 3 W O).2).1 = 22
            · rw [if_neg (by intro c; rcases c with c | c; exact hq c; exact c hq2)]; exact q9.1 hq2
            · rw [if_pos (.inr hq2)]; exact q9.2 hq2⟩
      | exact ⟨rfl, by
          unfold xBh; rw [if_neg (by omega), if_neg (by omega), if_neg (by omega), if_neg (by omega), if_neg (by omega), if_neg (by omega), if_pos hw4_243]
          by_cases hq : xrT (xrE 3 W O).1 = 1
          · rw [if_pos (.inl hq)]
            have z10 : M1 67 10 = 10 * (s : Int) + 1 := by rw [h101, if_pos hq]
            first
              | (rw [show hf_91_67 M1 0 = M1 from by unfold hf_91_67 hf_92_67; rw [if_neg (by decide), if_pos (by rw [z10]; omega)]]; exact xRel.fail hS1.1 z10 (by show ¬ 10 * (s : Int) + 1 = -1; omega))
              | (rw [show hf_91_67 M1 1 = M1 from if_pos (by decide)]; exact xRel.fail hS1.1 z10 (by show ¬ 10 * (s : Int) + 1 = -1; omega))
          · have ht1 := hT1 hq
            first
              | (have hq2 : ¬ (xrE 1 (xrE 3 W O).1 (xrE 3 W O).2).1 = [] := fun c => hb255 (by rw [c]; rfl)
                 rw [if_pos (.inr hq2), show hf_91_67 M1 0 = hf_92_67 M1 1 from by unfold hf_91_67; rw [if_neg (by decide)]]
                 exact xRel.f92 ht1 (by omega) (by decide) hS1.1)
              | (have hq2 : (xrE 1 (xrE 3 W O).1 (xrE 3 W O).2).1 = [] := List.eq_nil_of_length_eq_zero (by omega)
                 rw [if_neg (by intro c; rcases c with c | c; exact hq c; exact c hq2), show hf_91_67 M1 1 = M1 from if_pos (by decide)]
                 rw [hq2] at hS1
                 obtain ⟨h3, h4, h5, h6, h7, h9, h10, h11⟩ := ht1
                 exact xRel.good hS1 (fun x hx => absurd hx (List.not_mem_nil)) (by rw [List.length_nil]; omega) he h3 h4 h6 h9 (by omega) h10 h11 ⟨fun _ => rfl, fun _ => by rw [h7]; exact hw4_243⟩)⟩
      | exact ⟨rfl, by unfold xBh; rw [if_neg (by omega), if_neg (by omega), if_neg (by omega), if_neg (by omega), if_neg (by omega), if_neg (by omega), if_neg (by omega)]; exact xRel.f92 ht (by omega) (by decide) h.1⟩
  by_cases hw4_142 : kd = 15 ∨ kd = 16 ∨ kd = 17
  · skip
    rw [show zts 0 kd 269 [208, 171, 196, 124, 124, 269, 269, 269, 269, 269, 269, 269, 269, 269, 269, 142, 142, 142, 124, 124, 124, 124, 269, 232, 269, 243] = 142 from by rcases hw4_142 with h9 | h9 | h9 <;> rw [h9] <;> rfl]
    refine zH_w (c' := (145, [zR 67], [.inl 6, zR 67])) 2 hz rfl ?_
    refine zH_wC (c1 := (148, [zR 67], [])) 0 hz zp_84 (fh_84_67 hp h hw (by omega) (6)) (by rfl) ?_
    rintro _ M1 ⟨rfl, hS1, h67⟩
    show zH n (0, 0) 78 (148, [zR 67], []) M1 _
    have hr := xrE_r (6) W O hw
    have gl : hf_88_67 M1 = xrT (xrE (6) W O).1 := hS1.last (by omega)
    have ht1 : xTo Mo a s e kd op 0 (M1 67) := by rw [h67]; exact ht
    refine zH_wE (c1 := (153, [zR 67], [zR 67])) 2 hz zp_88 (fh_88_67) (by rfl) ?_
    show zH n (0, 0) 78 (153, [zR 67], [.inl (hf_88_67 M1), zR 67]) M1 _
    rw [gl]
    refine zH_wE (c1 := (156, [zR 67], [zR 67])) 0 hz zp_90 (fh_90 (xrT (xrE (6) W O).1)) (by rfl) ?_
    show zH n (0, 0) 78 (156, [zR 67], [.inl (hf_90 M1 (xrT (xrE (6) W O).1)), zR 67]) M1 _
    rw [xS.rank hp (hS1.1 1 (by decide) (by decide) (by decide) (by decide))]
    refine zH_w (c' := (157, [zR 67], [.inl 5, .inl (xrK (xrT (xrE (6) W O).1)), zR 67])) 1 hz rfl ?_
    refine zH_wi_ne (pc := 157) (n' := 160) (t := 164) (L := [zR 67]) (st := [zR 67]) (x := (xrK (xrT (xrE (6) W O).1))) (y := 5) 0 hz (by rfl) (fun hb157 => ?_) (fun hb157 => ?_)
    · skip
      refine zH_wE (c1 := (168, [zR 67], [])) 1 hz zp_85 (fh_85_67 0) (by rfl) ?_
      show zH n (0, 0) 78 (168, [zR 67], []) (hf_85_67 M1 0) _
      refine zH_w (c' := (274, [zR 67], [])) 1 hz rfl ?_
      refine zH_ret hz rfl rfl ?_
      first
        | exact ⟨rfl, by unfold xBh; rw [if_neg (by omega), if_pos (by omega), if_neg hb157]; exact (x85 (b := true) (W2 := []) (O2 := []) (z := true) (q := 0) hS1 hr.1 ht1 (by omega) (by omega) (by omega) he (by omega) (by omega)).1⟩
        | exact ⟨rfl, by unfold xBh; rw [if_pos (by omega)]; exact x86 hS1 hr.1 ht1 (by omega) (by omega) he (by omega) (by omega)⟩
        | exact ⟨rfl, by unfold xBh; rw [if_neg (by omega), if_pos (by omega), if_pos (by omega)]; exact (x85 hS1 hr.1 ht1 (by omega) (by omega) (by omega) he (by omega) (by omega)).2⟩
        | exact ⟨rfl, by unfold xBh; rw [if_neg (by omega), if_neg (by omega), if_pos hw4_171, if_neg hb182]; have q9 := (x85 (b := true) (W2 := []) (O2 := []) (z := true) (q := 0) hS1 hr.1 ht1 (by omega) (by omega) (by omega) he (by omega) (by omega)).1; rw [hw4_171] at q9; exact q9⟩
        | exact ⟨rfl, by unfold xBh; rw [if_neg (by omega), if_neg (by omega), if_pos hw4_171, if_pos (by omega)]; exact (x85 hS1 hr.1 ht1 (by omega) (by omega) (by omega) he (by omega) (by omega)).2⟩
        | exact ⟨rfl, by
            have q9 := x82 (b := false) (W2 := W) (O2 := O) (z := false) (q := op) hS1 hr.1 (by rw [hw4_196] at ht1; exact ht1) (by omega) (by omega) he (by omega) (by omega) (by omega)
            unfold xBh; rw [if_neg (by omega), if_neg (by omega), if_neg (by omega), if_pos hw4_196]
            split
            · rename_i q; exact q9.1 q
            · rename_i q; exact q9.2 q⟩
        | exact ⟨rfl, by unfold xBh; rw [if_neg (by omega), if_neg (by omega), if_neg (by omega), if_neg (by omega), if_pos hw4_208, if_neg hq]; have q9 := (x85 (b := true) (W2 := []) (O2 := []) (z := true) (q := 0) hS1 hw1.1 (hT1 hq) (by omega) (by omega) (by omega) he (by omega) (by omega)).1; rw [hw4_208] at q9; exact q9⟩
        | exact ⟨rfl, by unfold xBh; rw [if_neg (by omega), if_neg (by omega), if_neg (by omega), if_neg (by omega), if_pos hw4_208, if_pos hq]; exact x85b hS1 (by omega) (by rw [h101, if_pos hq])⟩
        | exact ⟨rfl, by
            unfold xBh; rw [if_neg (by omega), if_neg (by omega), if_neg (by omega), if_neg (by omega), if_neg (by omega), if_pos hw4_232]
            by_cases hq : xrT (xrE 3 W O).1 = 1
            · rw [if_pos (.inl hq)]; exact x81b hS1 (by rw [h101, if_pos hq])
            · have q9 := x81 (b := false) (W2 := W) (O2 := O) (z := false) (q := op) hS1 hw1.1 (by have q := hT1 hq; rw [hw4_232] at q; exact q) (by omega) (by omega) he (by omega) (by omega)
              by_cases hq2 : xrT (xrE 1 (xrE 3 W O).1 (xrE 3 W O).2).1 = 22
              · rw [if_neg (by intro c; rcases c with c | c; exact hq c; exact c hq2)]; exact q9.1 hq2
              · rw [if_pos (.inr hq2)]; exact q9.2 hq2⟩
        | exact ⟨rfl, by
            unfold xBh; rw [if_neg (by omega), if_neg (by omega), if_neg (by omega), if_neg (by omega), if_neg (by omega), if_neg (by omega), if_pos hw4_243]
            by_cases hq : xrT (xrE 3 W O).1 = 1
            · rw [if_pos (.inl hq)]
              have z10 : M1 67 10 = 10 * (s : Int) + 1 := by rw [h101, if_pos hq]
              first
                | (rw [show hf_91_67 M1 0 = M1 from by unfold hf_91_67 hf_92_67; rw [if_neg (by decide), if_pos (by rw [z10]; omega)]]; exact xRel.fail hS1.1 z10 (by show ¬ 10 * (s : Int) + 1 = -1; omega))
                | (rw [show hf_91_67 M1 1 = M1 from if_pos (by decide)]; exact xRel.fail hS1.1 z10 (by show ¬ 10 * (s : Int) + 1 = -1; omega))
            · have ht1 := hT1 hq
              first
                | (have hq2 : ¬ (xrE 1 (xrE 3 W O).1 (xrE 3 W O).2).1 = [] := fun c => hb255 (by rw [c]; rfl)
                   rw [if_pos (.inr hq2), show hf_91_67 M1 0 = hf_92_67 M1 1 from by unfold hf_91_67; rw [if_neg (by decide)]]
                   exact xRel.f92 ht1 (by omega) (by decide) hS1.1)
                | (have hq2 : (xrE 1 (xrE 3 W O).1 (xrE 3 W O).2).1 = [] := List.eq_nil_of_length_eq_zero (by omega)
                   rw [if_neg (by intro c; rcases c with c | c; exact hq c; exact c hq2), show hf_91_67 M1 1 = M1 from if_pos (by decide)]
                   rw [hq2] at hS1
                   obtain ⟨h3, h4, h5, h6, h7, h9, h10, h11⟩ := ht1
                   exact xRel.good hS1 (fun x hx => absurd hx (List.not_mem_nil)) (by rw [List.length_nil]; omega) he h3 h4 h6 h9 (by omega) h10 h11 ⟨fun _ => rfl, fun _ => by rw [h7]; exact hw4_243⟩)⟩
        | exact ⟨rfl, by unfold xBh; rw [if_neg (by omega), if_neg (by omega), if_neg (by omega), if_neg (by omega), if_neg (by omega), if_neg (by omega), if_neg (by omega)]; exact xRel.f92 ht (by omega) (by decide) h.1⟩
    · skip
      refine zH_wE (c1 := (168, [zR 67], [])) 2 hz zp_85 (fh_85_67 1) (by rfl) ?_
      show zH n (0, 0) 78 (168, [zR 67], []) (hf_85_67 M1 1) _
      refine zH_w (c' := (274, [zR 67], [])) 1 hz rfl ?_
      refine zH_ret hz rfl rfl ?_
      first
        | exact ⟨rfl, by unfold xBh; rw [if_neg (by omega), if_pos (by omega), if_pos (by omega)]; exact (x85 hS1 hr.1 ht1 (by omega) (by omega) (by omega) he (by omega) (by omega)).2⟩
        | exact ⟨rfl, by unfold xBh; rw [if_pos (by omega)]; exact x86 hS1 hr.1 ht1 (by omega) (by omega) he (by omega) (by omega)⟩
        | exact ⟨rfl, by unfold xBh; rw [if_neg (by omega), if_pos (by omega), if_neg hb157]; exact (x85 (b := true) (W2 := []) (O2 := []) (z := true) (q := 0) hS1 hr.1 ht1 (by omega) (by omega) (by omega) he (by omega) (by omega)).1⟩
        | exact ⟨rfl, by unfold xBh; rw [if_neg (by omega), if_neg (by omega), if_pos hw4_171, if_neg hb182]; have q9 := (x85 (b := true) (W2 := []) (O2 := []) (z := true) (q := 0) hS1 hr.1 ht1 (by omega) (by omega) (by omega) he (by omega) (by omega)).1; rw [hw4_171] at q9; exact q9⟩
        | exact ⟨rfl, by unfold xBh; rw [if_neg (by omega), if_neg (by omega), if_pos hw4_171, if_pos (by omega)]; exact (x85 hS1 hr.1 ht1 (by omega) (by omega) (by omega) he (by omega) (by omega)).2⟩
        | exact ⟨rfl, by
            have q9 := x82 (b := false) (W2 := W) (O2 := O) (z := false) (q := op) hS1 hr.1 (by rw [hw4_196] at ht1; exact ht1) (by omega) (by omega) he (by omega) (by omega) (by omega)
            unfold xBh; rw [if_neg (by omega), if_neg (by omega), if_neg (by omega), if_pos hw4_196]
            split
            · rename_i q; exact q9.1 q
            · rename_i q; exact q9.2 q⟩
        | exact ⟨rfl, by unfold xBh; rw [if_neg (by omega), if_neg (by omega), if_neg (by omega), if_neg (by omega), if_pos hw4_208, if_neg hq]; have q9 := (x85 (b := true) (W2 := []) (O2 := []) (z := true) (q := 0) hS1 hw1.1 (hT1 hq) (by omega) (by omega) (by omega) he (by omega) (by omega)).1; rw [hw4_208] at q9; exact q9⟩
        | exact ⟨rfl, by unfold xBh; rw [if_neg (by omega), if_neg (by omega), if_neg (by omega), if_neg (by omega), if_pos hw4_208, if_pos hq]; exact x85b hS1 (by omega) (by rw [h101, if_pos hq])⟩
        | exact ⟨rfl, by
            unfold xBh; rw [if_neg (by omega), if_neg (by omega), if_neg (by omega), if_neg (by omega), if_neg (by omega), if_pos hw4_232]
            by_cases hq : xrT (xrE 3 W O).1 = 1
            · rw [if_pos (.inl hq)]; exact x81b hS1 (by rw [h101, if_pos hq])
            · have q9 := x81 (b := false) (W2 := W) (O2 := O) (z := false) (q := op) hS1 hw1.1 (by have q := hT1 hq; rw [hw4_232] at q; exact q) (by omega) (by omega) he (by omega) (by omega)
              by_cases hq2 : xrT (xrE 1 (xrE 3 W O).1 (xrE 3 W O).2).1 = 22
              · rw [if_neg (by intro c; rcases c with c | c; exact hq c; exact c hq2)]; exact q9.1 hq2
              · rw [if_pos (.inr hq2)]; exact q9.2 hq2⟩
        | exact ⟨rfl, by
            unfold xBh; rw [if_neg (by omega), if_neg (by omega), if_neg (by omega), if_neg (by omega), if_neg (by omega), if_neg (by omega), if_pos hw4_243]
            by_cases hq : xrT (xrE 3 W O).1 = 1
            · rw [if_pos (.inl hq)]
              have z10 : M1 67 10 = 10 * (s : Int) + 1 := by rw [h101, if_pos hq]
              first
                | (rw [show hf_91_67 M1 0 = M1 from by unfold hf_91_67 hf_92_67; rw [if_neg (by decide), if_pos (by rw [z10]; omega)]]; exact xRel.fail hS1.1 z10 (by show ¬ 10 * (s : Int) + 1 = -1; omega))
                | (rw [show hf_91_67 M1 1 = M1 from if_pos (by decide)]; exact xRel.fail hS1.1 z10 (by show ¬ 10 * (s : Int) + 1 = -1; omega))
            · have ht1 := hT1 hq
              first
                | (have hq2 : ¬ (xrE 1 (xrE 3 W O).1 (xrE 3 W O).2).1 = [] := fun c => hb255 (by rw [c]; rfl)
                   rw [if_pos (.inr hq2), show hf_91_67 M1 0 = hf_92_67 M1 1 from by unfold hf_91_67; rw [if_neg (by decide)]]
                   exact xRel.f92 ht1 (by omega) (by decide) hS1.1)
                | (have hq2 : (xrE 1 (xrE 3 W O).1 (xrE 3 W O).2).1 = [] := List.eq_nil_of_length_eq_zero (by omega)
                   rw [if_neg (by intro c; rcases c with c | c; exact hq c; exact c hq2), show hf_91_67 M1 1 = M1 from if_pos (by decide)]
                   rw [hq2] at hS1
                   obtain ⟨h3, h4, h5, h6, h7, h9, h10, h11⟩ := ht1
                   exact xRel.good hS1 (fun x hx => absurd hx (List.not_mem_nil)) (by rw [List.length_nil]; omega) he h3 h4 h6 h9 (by omega) h10 h11 ⟨fun _ => rfl, fun _ => by rw [h7]; exact hw4_243⟩)⟩
        | exact ⟨rfl, by unfold xBh; rw [if_neg (by omega), if_neg (by omega), if_neg (by omega), if_neg (by omega), if_neg (by omega), if_neg (by omega), if_neg (by omega)]; exact xRel.f92 ht (by omega) (by decide) h.1⟩
  by_cases hw4_232 : kd = 23
  · skip
    rw [show zts 0 kd 269 [208, 171, 196, 124, 124, 269, 269, 269, 269, 269, 269, 269, 269, 269, 269, 142, 142, 142, 124, 124, 124, 124, 269, 232, 269, 243] = 232 from by rw [hw4_232]; rfl]
    refine zH_w (c' := (233, [zR 67], [zR 67])) 1 hz rfl ?_
    refine zH_wC (c1 := (236, [zR 67], [])) 0 hz zp_83 (fh_83_67 hp h hw (by omega) ht (by omega)) (by rfl) ?_
    rintro _ M1 ⟨rfl, hS1, hG1, h101⟩
    show zH n (0, 0) 78 (236, [zR 67], []) M1 _
    have hw1 := (xrE_r 1 _ (xrE 3 W O).2 (xrE_r 3 W O hw).1)
    have hw3 := xrE_r 3 W O hw
    have hT1 : ¬ xrT (xrE 3 W O).1 = 1 → xTo Mo a s e kd op 0 (M1 67) := fun q => ⟨(hG1 3 (by decide)).trans ht.1, (hG1 4 (by decide)).trans ht.2.1, (hG1 5 (by decide)).trans ht.2.2.1, (hG1 6 (by decide)).trans ht.2.2.2.1, (hG1 7 (by decide)).trans ht.2.2.2.2.1, (hG1 9 (by decide)).trans ht.2.2.2.2.2.1, by rw [h101, if_neg q], (hG1 11 (by decide)).trans ht.2.2.2.2.2.2.2⟩
    refine zH_wE (c1 := (240, [zR 67], [])) 1 hz zp_81 (fh_81_67) (by rfl) ?_
    show zH n (0, 0) 78 (240, [zR 67], []) (hf_81_67 M1) _
    refine zH_w (c' := (274, [zR 67], [])) 1 hz rfl ?_
    refine zH_ret hz rfl rfl ?_
    first
      | exact ⟨rfl, by
          unfold xBh; rw [if_neg (by omega), if_neg (by omega), if_neg (by omega), if_neg (by omega), if_neg (by omega), if_pos hw4_232]
          by_cases hq : xrT (xrE 3 W O).1 = 1
          · rw [if_pos (.inl hq)]; exact x81b hS1 (by rw [h101, if_pos hq])
          · have q9 := x81 (b := false) (W2 := W) (O2 := O) (z := false) (q := op) hS1 hw1.1 (by have q := hT1 hq; rw [hw4_232] at q; exact q) (by omega) (by omega) he (by omega) (by omega)
            by_cases hq2 : xrT (xrE 1 (xrE 3 W O).1 (xrE 3 W O).2).1 = 22
            · rw [if_neg (by intro c; rcases c with c | c; exact hq c; exact c hq2)]; exact q9.1 hq2
            · rw [if_pos (.inr hq2)]; exact q9.2 hq2⟩
      | exact ⟨rfl, by unfold xBh; rw [if_pos (by omega)]; exact x86 hS1 hr.1 ht1 (by omega) (by omega) he (by omega) (by omega)⟩
      | exact ⟨rfl, by unfold xBh; rw [if_neg (by omega), if_pos (by omega), if_neg hb157]; exact (x85 (b := true) (W2 := []) (O2 := []) (z := true) (q := 0) hS1 hr.1 ht1 (by omega) (by omega) (by omega) he (by omega) (by omega)).1⟩
      | exact ⟨rfl, by unfold xBh; rw [if_neg (by omega), if_pos (by omega), if_pos (by omega)]; exact (x85 hS1 hr.1 ht1 (by omega) (by omega) (by omega) he (by omega) (by omega)).2⟩
      | exact ⟨rfl, by unfold xBh; rw [if_neg (by omega), if_neg (by omega), if_pos hw4_171, if_neg hb182]; have q9 := (x85 (b := true) (W2 := []) (O2 := []) (z := true) (q := 0) hS1 hr.1 ht1 (by omega) (by omega) (by omega) he (by omega) (by omega)).1; rw [hw4_171] at q9; exact q9⟩
      | exact ⟨rfl, by unfold xBh; rw [if_neg (by omega), if_neg (by omega), if_pos hw4_171, if_pos (by omega)]; exact (x85 hS1 hr.1 ht1 (by omega) (by omega) (by omega) he (by omega) (by omega)).2⟩
      | exact ⟨rfl, by
          have q9 := x82 (b := false) (W2 := W) (O2 := O) (z := false) (q := op) hS1 hr.1 (by rw [hw4_196] at ht1; exact ht1) (by omega) (by omega) he (by omega) (by omega) (by omega)
          unfold xBh; rw [if_neg (by omega), if_neg (by omega), if_neg (by omega), if_pos hw4_196]
          split
          · rename_i q; exact q9.1 q
          · rename_i q; exact q9.2 q⟩
      | exact ⟨rfl, by unfold xBh; rw [if_neg (by omega), if_neg (by omega), if_neg (by omega), if_neg (by omega), if_pos hw4_208, if_neg hq]; have q9 := (x85 (b := true) (W2 := []) (O2 := []) (z := true) (q := 0) hS1 hw1.1 (hT1 hq) (by omega) (by omega) (by omega) he (by omega) (by omega)).1; rw [hw4_208] at q9; exact q9⟩
      | exact ⟨rfl, by unfold xBh; rw [if_neg (by omega), if_neg (by omega), if_neg (by omega), if_neg (by omega), if_pos hw4_208, if_pos hq]; exact x85b hS1 (by omega) (by rw [h101, if_pos hq])⟩
      | exact ⟨rfl, by
          unfold xBh; rw [if_neg (by omega), if_neg (by omega), if_neg (by omega), if_neg (by omega), if_neg (by omega), if_neg (by omega), if_pos hw4_243]
          by_cases hq : xrT (xrE 3 W O).1 = 1
          · rw [if_pos (.inl hq)]
            have z10 : M1 67 10 = 10 * (s : Int) + 1 := by rw [h101, if_pos hq]
            first
              | (rw [show hf_91_67 M1 0 = M1 from by unfold hf_91_67 hf_92_67; rw [if_neg (by decide), if_pos (by rw [z10]; omega)]]; exact xRel.fail hS1.1 z10 (by show ¬ 10 * (s : Int) + 1 = -1; omega))
              | (rw [show hf_91_67 M1 1 = M1 from if_pos (by decide)]; exact xRel.fail hS1.1 z10 (by show ¬ 10 * (s : Int) + 1 = -1; omega))
          · have ht1 := hT1 hq
            first
              | (have hq2 : ¬ (xrE 1 (xrE 3 W O).1 (xrE 3 W O).2).1 = [] := fun c => hb255 (by rw [c]; rfl)
                 rw [if_pos (.inr hq2), show hf_91_67 M1 0 = hf_92_67 M1 1 from by unfold hf_91_67; rw [if_neg (by decide)]]
                 exact xRel.f92 ht1 (by omega) (by decide) hS1.1)
              | (have hq2 : (xrE 1 (xrE 3 W O).1 (xrE 3 W O).2).1 = [] := List.eq_nil_of_length_eq_zero (by omega)
                 rw [if_neg (by intro c; rcases c with c | c; exact hq c; exact c hq2), show hf_91_67 M1 1 = M1 from if_pos (by decide)]
                 rw [hq2] at hS1
                 obtain ⟨h3, h4, h5, h6, h7, h9, h10, h11⟩ := ht1
                 exact xRel.good hS1 (fun x hx => absurd hx (List.not_mem_nil)) (by rw [List.length_nil]; omega) he h3 h4 h6 h9 (by omega) h10 h11 ⟨fun _ => rfl, fun _ => by rw [h7]; exact hw4_243⟩)⟩
      | exact ⟨rfl, by unfold xBh; rw [if_neg (by omega), if_neg (by omega), if_neg (by omega), if_neg (by omega), if_neg (by omega), if_neg (by omega), if_neg (by omega)]; exact xRel.f92 ht (by omega) (by decide) h.1⟩
  by_cases hw4_243 : kd = 25
  · skip
    rw [show zts 0 kd 269 [208, 171, 196, 124, 124, 269, 269, 269, 269, 269, 269, 269, 269, 269, 269, 142, 142, 142, 124, 124, 124, 124, 269, 232, 269, 243] = 243 from by rw [hw4_243]; rfl]
    refine zH_w (c' := (244, [zR 67], [zR 67])) 1 hz rfl ?_
    refine zH_wC (c1 := (247, [zR 67], [])) 0 hz zp_83 (fh_83_67 hp h hw (by omega) ht (by omega)) (by rfl) ?_
    rintro _ M1 ⟨rfl, hS1, hG1, h101⟩
    show zH n (0, 0) 78 (247, [zR 67], []) M1 _
    have hw1 := (xrE_r 1 _ (xrE 3 W O).2 (xrE_r 3 W O hw).1)
    have hw3 := xrE_r 3 W O hw
    have hT1 : ¬ xrT (xrE 3 W O).1 = 1 → xTo Mo a s e kd op 0 (M1 67) := fun q => ⟨(hG1 3 (by decide)).trans ht.1, (hG1 4 (by decide)).trans ht.2.1, (hG1 5 (by decide)).trans ht.2.2.1, (hG1 6 (by decide)).trans ht.2.2.2.1, (hG1 7 (by decide)).trans ht.2.2.2.2.1, (hG1 9 (by decide)).trans ht.2.2.2.2.2.1, by rw [h101, if_neg q], (hG1 11 (by decide)).trans ht.2.2.2.2.2.2.2⟩
    refine zH_wE (c1 := (255, [zR 67], [zR 67])) 3 hz zp_101 (fh_101_70) (by rfl) ?_
    show zH n (0, 0) 78 (255, [zR 67], [.inl (hR_size M1 70), zR 67]) M1 _
    rw [show hR_size M1 70 = ((xrE 1 (xrE 3 W O).1 (xrE 3 W O).2).1.length : Int) from hS1.2.1.2.2]
    refine zH_if_ne hz rfl (fun hb255 => ?_) (fun hb255 => ?_)
    · skip
      refine zH_w (c' := (263, [zR 67], [.inl 0, zR 67])) 1 hz rfl ?_
      refine zH_wE (c1 := (266, [zR 67], [])) 0 hz zp_91 (fh_91_67 0) (by rfl) ?_
      show zH n (0, 0) 78 (266, [zR 67], []) (hf_91_67 M1 0) _
      refine zH_w (c' := (274, [zR 67], [])) 1 hz rfl ?_
      refine zH_ret hz rfl rfl ?_
      first
        | exact ⟨rfl, by
            unfold xBh; rw [if_neg (by omega), if_neg (by omega), if_neg (by omega), if_neg (by omega), if_neg (by omega), if_neg (by omega), if_pos hw4_243]
            by_cases hq : xrT (xrE 3 W O).1 = 1
            · rw [if_pos (.inl hq)]
              have z10 : M1 67 10 = 10 * (s : Int) + 1 := by rw [h101, if_pos hq]
              first
                | (rw [show hf_91_67 M1 0 = M1 from by unfold hf_91_67 hf_92_67; rw [if_neg (by decide), if_pos (by rw [z10]; omega)]]; exact xRel.fail hS1.1 z10 (by show ¬ 10 * (s : Int) + 1 = -1; omega))
                | (rw [show hf_91_67 M1 1 = M1 from if_pos (by decide)]; exact xRel.fail hS1.1 z10 (by show ¬ 10 * (s : Int) + 1 = -1; omega))
            · have ht1 := hT1 hq
              first
                | (have hq2 : ¬ (xrE 1 (xrE 3 W O).1 (xrE 3 W O).2).1 = [] := fun c => hb255 (by rw [c]; rfl)
                   rw [if_pos (.inr hq2), show hf_91_67 M1 0 = hf_92_67 M1 1 from by unfold hf_91_67; rw [if_neg (by decide)]]
                   exact xRel.f92 ht1 (by omega) (by decide) hS1.1)
                | (have hq2 : (xrE 1 (xrE 3 W O).1 (xrE 3 W O).2).1 = [] := List.eq_nil_of_length_eq_zero (by omega)
                   rw [if_neg (by intro c; rcases c with c | c; exact hq c; exact c hq2), show hf_91_67 M1 1 = M1 from if_pos (by decide)]
                   rw [hq2] at hS1
                   obtain ⟨h3, h4, h5, h6, h7, h9, h10, h11⟩ := ht1
                   exact xRel.good hS1 (fun x hx => absurd hx (List.not_mem_nil)) (by rw [List.length_nil]; omega) he h3 h4 h6 h9 (by omega) h10 h11 ⟨fun _ => rfl, fun _ => by rw [h7]; exact hw4_243⟩)⟩
        | exact ⟨rfl, by unfold xBh; rw [if_pos (by omega)]; exact x86 hS1 hr.1 ht1 (by omega) (by omega) he (by omega) (by omega)⟩
        | exact ⟨rfl, by unfold xBh; rw [if_neg (by omega), if_pos (by omega), if_neg hb157]; exact (x85 (b := true) (W2 := []) (O2 := []) (z := true) (q := 0) hS1 hr.1 ht1 (by omega) (by omega) (by omega) he (by omega) (by omega)).1⟩
        | exact ⟨rfl, by unfold xBh; rw [if_neg (by omega), if_pos (by omega), if_pos (by omega)]; exact (x85 hS1 hr.1 ht1 (by omega) (by omega) (by omega) he (by omega) (by omega)).2⟩
        | exact ⟨rfl, by unfold xBh; rw [if_neg (by omega), if_neg (by omega), if_pos hw4_171, if_neg hb182]; have q9 := (x85 (b := true) (W2 := []) (O2 := []) (z := true) (q := 0) hS1 hr.1 ht1 (by omega) (by omega) (by omega) he (by omega) (by omega)).1; rw [hw4_171] at q9; exact q9⟩
        | exact ⟨rfl, by unfold xBh; rw [if_neg (by omega), if_neg (by omega), if_pos hw4_171, if_pos (by omega)]; exact (x85 hS1 hr.1 ht1 (by omega) (by omega) (by omega) he (by omega) (by omega)).2⟩
        | exact ⟨rfl, by
            have q9 := x82 (b := false) (W2 := W) (O2 := O) (z := false) (q := op) hS1 hr.1 (by rw [hw4_196] at ht1; exact ht1) (by omega) (by omega) he (by omega) (by omega) (by omega)
            unfold xBh; rw [if_neg (by omega), if_neg (by omega), if_neg (by omega), if_pos hw4_196]
            split
            · rename_i q; exact q9.1 q
            · rename_i q; exact q9.2 q⟩
        | exact ⟨rfl, by unfold xBh; rw [if_neg (by omega), if_neg (by omega), if_neg (by omega), if_neg (by omega), if_pos hw4_208, if_neg hq]; have q9 := (x85 (b := true) (W2 := []) (O2 := []) (z := true) (q := 0) hS1 hw1.1 (hT1 hq) (by omega) (by omega) (by omega) he (by omega) (by omega)).1; rw [hw4_208] at q9; exact q9⟩
        | exact ⟨rfl, by unfold xBh; rw [if_neg (by omega), if_neg (by omega), if_neg (by omega), if_neg (by omega), if_pos hw4_208, if_pos hq]; exact x85b hS1 (by omega) (by rw [h101, if_pos hq])⟩
        | exact ⟨rfl, by
            unfold xBh; rw [if_neg (by omega), if_neg (by omega), if_neg (by omega), if_neg (by omega), if_neg (by omega), if_pos hw4_232]
            by_cases hq : xrT (xrE 3 W O).1 = 1
            · rw [if_pos (.inl hq)]; exact x81b hS1 (by rw [h101, if_pos hq])
            · have q9 := x81 (b := false) (W2 := W) (O2 := O) (z := false) (q := op) hS1 hw1.1 (by have q := hT1 hq; rw [hw4_232] at q; exact q) (by omega) (by omega) he (by omega) (by omega)
              by_cases hq2 : xrT (xrE 1 (xrE 3 W O).1 (xrE 3 W O).2).1 = 22
              · rw [if_neg (by intro c; rcases c with c | c; exact hq c; exact c hq2)]; exact q9.1 hq2
              · rw [if_pos (.inr hq2)]; exact q9.2 hq2⟩
        | exact ⟨rfl, by unfold xBh; rw [if_neg (by omega), if_neg (by omega), if_neg (by omega), if_neg (by omega), if_neg (by omega), if_neg (by omega), if_neg (by omega)]; exact xRel.f92 ht (by omega) (by decide) h.1⟩
    · skip
      refine zH_w (c' := (263, [zR 67], [.inl 1, zR 67])) 2 hz rfl ?_
      refine zH_wE (c1 := (266, [zR 67], [])) 0 hz zp_91 (fh_91_67 1) (by rfl) ?_
      show zH n (0, 0) 78 (266, [zR 67], []) (hf_91_67 M1 1) _
      refine zH_w (c' := (274, [zR 67], [])) 1 hz rfl ?_
      refine zH_ret hz rfl rfl ?_
      first
        | exact ⟨rfl, by
            unfold xBh; rw [if_neg (by omega), if_neg (by omega), if_neg (by omega), if_neg (by omega), if_neg (by omega), if_neg (by omega), if_pos hw4_243]
            by_cases hq : xrT (xrE 3 W O).1 = 1
            · rw [if_pos (.inl hq)]
              have z10 : M1 67 10 = 10 * (s : Int) + 1 := by rw [h101, if_pos hq]
              first
                | (rw [show hf_91_67 M1 0 = M1 from by unfold hf_91_67 hf_92_67; rw [if_neg (by decide), if_pos (by rw [z10]; omega)]]; exact xRel.fail hS1.1 z10 (by show ¬ 10 * (s : Int) + 1 = -1; omega))
                | (rw [show hf_91_67 M1 1 = M1 from if_pos (by decide)]; exact xRel.fail hS1.1 z10 (by show ¬ 10 * (s : Int) + 1 = -1; omega))
            · have ht1 := hT1 hq
              first
                | (have hq2 : ¬ (xrE 1 (xrE 3 W O).1 (xrE 3 W O).2).1 = [] := fun c => hb255 (by rw [c]; rfl)
                   rw [if_pos (.inr hq2), show hf_91_67 M1 0 = hf_92_67 M1 1 from by unfold hf_91_67; rw [if_neg (by decide)]]
                   exact xRel.f92 ht1 (by omega) (by decide) hS1.1)
                | (have hq2 : (xrE 1 (xrE 3 W O).1 (xrE 3 W O).2).1 = [] := List.eq_nil_of_length_eq_zero (by omega)
                   rw [if_neg (by intro c; rcases c with c | c; exact hq c; exact c hq2), show hf_91_67 M1 1 = M1 from if_pos (by decide)]
                   rw [hq2] at hS1
                   obtain ⟨h3, h4, h5, h6, h7, h9, h10, h11⟩ := ht1
                   exact xRel.good hS1 (fun x hx => absurd hx (List.not_mem_nil)) (by rw [List.length_nil]; omega) he h3 h4 h6 h9 (by omega) h10 h11 ⟨fun _ => rfl, fun _ => by rw [h7]; exact hw4_243⟩)⟩
        | exact ⟨rfl, by unfold xBh; rw [if_pos (by omega)]; exact x86 hS1 hr.1 ht1 (by omega) (by omega) he (by omega) (by omega)⟩
        | exact ⟨rfl, by unfold xBh; rw [if_neg (by omega), if_pos (by omega), if_neg hb157]; exact (x85 (b := true) (W2 := []) (O2 := []) (z := true) (q := 0) hS1 hr.1 ht1 (by omega) (by omega) (by omega) he (by omega) (by omega)).1⟩
        | exact ⟨rfl, by unfold xBh; rw [if_neg (by omega), if_pos (by omega), if_pos (by omega)]; exact (x85 hS1 hr.1 ht1 (by omega) (by omega) (by omega) he (by omega) (by omega)).2⟩
        | exact ⟨rfl, by unfold xBh; rw [if_neg (by omega), if_neg (by omega), if_pos hw4_171, if_neg hb182]; have q9 := (x85 (b := true) (W2 := []) (O2 := []) (z := true) (q := 0) hS1 hr.1 ht1 (by omega) (by omega) (by omega) he (by omega) (by omega)).1; rw [hw4_171] at q9; exact q9⟩
        | exact ⟨rfl, by unfold xBh; rw [if_neg (by omega), if_neg (by omega), if_pos hw4_171, if_pos (by omega)]; exact (x85 hS1 hr.1 ht1 (by omega) (by omega) (by omega) he (by omega) (by omega)).2⟩
        | exact ⟨rfl, by
            have q9 := x82 (b := false) (W2 := W) (O2 := O) (z := false) (q := op) hS1 hr.1 (by rw [hw4_196] at ht1; exact ht1) (by omega) (by omega) he (by omega) (by omega) (by omega)
            unfold xBh; rw [if_neg (by omega), if_neg (by omega), if_neg (by omega), if_pos hw4_196]
            split
            · rename_i q; exact q9.1 q
            · rename_i q; exact q9.2 q⟩
        | exact ⟨rfl, by unfold xBh; rw [if_neg (by omega), if_neg (by omega), if_neg (by omega), if_neg (by omega), if_pos hw4_208, if_neg hq]; have q9 := (x85 (b := true) (W2 := []) (O2 := []) (z := true) (q := 0) hS1 hw1.1 (hT1 hq) (by omega) (by omega) (by omega) he (by omega) (by omega)).1; rw [hw4_208] at q9; exact q9⟩
        | exact ⟨rfl, by unfold xBh; rw [if_neg (by omega), if_neg (by omega), if_neg (by omega), if_neg (by omega), if_pos hw4_208, if_pos hq]; exact x85b hS1 (by omega) (by rw [h101, if_pos hq])⟩
        | exact ⟨rfl, by
            unfold xBh; rw [if_neg (by omega), if_neg (by omega), if_neg (by omega), if_neg (by omega), if_neg (by omega), if_pos hw4_232]
            by_cases hq : xrT (xrE 3 W O).1 = 1
            · rw [if_pos (.inl hq)]; exact x81b hS1 (by rw [h101, if_pos hq])
            · have q9 := x81 (b := false) (W2 := W) (O2 := O) (z := false) (q := op) hS1 hw1.1 (by have q := hT1 hq; rw [hw4_232] at q; exact q) (by omega) (by omega) he (by omega) (by omega)
              by_cases hq2 : xrT (xrE 1 (xrE 3 W O).1 (xrE 3 W O).2).1 = 22
              · rw [if_neg (by intro c; rcases c with c | c; exact hq c; exact c hq2)]; exact q9.1 hq2
              · rw [if_pos (.inr hq2)]; exact q9.2 hq2⟩
        | exact ⟨rfl, by unfold xBh; rw [if_neg (by omega), if_neg (by omega), if_neg (by omega), if_neg (by omega), if_neg (by omega), if_neg (by omega), if_neg (by omega)]; exact xRel.f92 ht (by omega) (by decide) h.1⟩
  rw [show zts 0 kd 269 [208, 171, 196, 124, 124, 269, 269, 269, 269, 269, 269, 269, 269, 269, 269, 142, 142, 142, 124, 124, 124, 124, 269, 232, 269, 243] = 269 from by (rcases (by omega : kd < 0 ∨ 26 ≤ kd ∨ kd = 5 ∨ kd = 6 ∨ kd = 7 ∨ kd = 8 ∨ kd = 9 ∨ kd = 10 ∨ kd = 11 ∨ kd = 12 ∨ kd = 13 ∨ kd = 14 ∨ kd = 22 ∨ kd = 24) with h9 | h9 | h9 | h9 | h9 | h9 | h9 | h9 | h9 | h9 | h9 | h9 | h9 | h9; exact if_pos h9; exact zts_none (by show ∀ q : Nat, q < 26 → _; intro q hq hx; omega); rw [h9]; rfl; rw [h9]; rfl; rw [h9]; rfl; rw [h9]; rfl; rw [h9]; rfl; rw [h9]; rfl; rw [h9]; rfl; rw [h9]; rfl; rw [h9]; rfl; rw [h9]; rfl; rw [h9]; rfl; rw [h9]; rfl)]
  refine zH_w (c' := (271, [zR 67], [.inl 1, zR 67])) 2 hz rfl ?_
  refine zH_wE (c1 := (274, [zR 67], [])) 0 hz zp_92 (fh_92_67 1) (by rfl) ?_
  show zH n (0, 0) 78 (274, [zR 67], []) (hf_92_67 M 1) _
  refine zH_ret hz rfl rfl ?_
  first
    | exact ⟨rfl, by unfold xBh; rw [if_neg (by omega), if_neg (by omega), if_neg (by omega), if_neg (by omega), if_neg (by omega), if_neg (by omega), if_neg (by omega)]; exact xRel.f92 ht (by omega) (by decide) h.1⟩
    | exact ⟨rfl, by unfold xBh; rw [if_pos (by omega)]; exact x86 hS1 hr.1 ht1 (by omega) (by omega) he (by omega) (by omega)⟩
    | exact ⟨rfl, by unfold xBh; rw [if_neg (by omega), if_pos (by omega), if_neg hb157]; exact (x85 (b := true) (W2 := []) (O2 := []) (z := true) (q := 0) hS1 hr.1 ht1 (by omega) (by omega) (by omega) he (by omega) (by omega)).1⟩
    | exact ⟨rfl, by unfold xBh; rw [if_neg (by omega), if_pos (by omega), if_pos (by omega)]; exact (x85 hS1 hr.1 ht1 (by omega) (by omega) (by omega) he (by omega) (by omega)).2⟩
    | exact ⟨rfl, by unfold xBh; rw [if_neg (by omega), if_neg (by omega), if_pos hw4_171, if_neg hb182]; have q9 := (x85 (b := true) (W2 := []) (O2 := []) (z := true) (q := 0) hS1 hr.1 ht1 (by omega) (by omega) (by omega) he (by omega) (by omega)).1; rw [hw4_171] at q9; exact q9⟩
    | exact ⟨rfl, by unfold xBh; rw [if_neg (by omega), if_neg (by omega), if_pos hw4_171, if_pos (by omega)]; exact (x85 hS1 hr.1 ht1 (by omega) (by omega) (by omega) he (by omega) (by omega)).2⟩
    | exact ⟨rfl, by
        have q9 := x82 (b := false) (W2 := W) (O2 := O) (z := false) (q := op) hS1 hr.1 (by rw [hw4_196] at ht1; exact ht1) (by omega) (by omega) he (by omega) (by omega) (by omega)
        unfold xBh; rw [if_neg (by omega), if_neg (by omega), if_neg (by omega), if_pos hw4_196]
        split
        · rename_i q; exact q9.1 q
        · rename_i q; exact q9.2 q⟩
    | exact ⟨rfl, by unfold xBh; rw [if_neg (by omega), if_neg (by omega), if_neg (by omega), if_neg (by omega), if_pos hw4_208, if_neg hq]; have q9 := (x85 (b := true) (W2 := []) (O2 := []) (z := true) (q := 0) hS1 hw1.1 (hT1 hq) (by omega) (by omega) (by omega) he (by omega) (by omega)).1; rw [hw4_208] at q9; exact q9⟩
    | exact ⟨rfl, by unfold xBh; rw [if_neg (by omega), if_neg (by omega), if_neg (by omega), if_neg (by omega), if_pos hw4_208, if_pos hq]; exact x85b hS1 (by omega) (by rw [h101, if_pos hq])⟩
    | exact ⟨rfl, by
        unfold xBh; rw [if_neg (by omega), if_neg (by omega), if_neg (by omega), if_neg (by omega), if_neg (by omega), if_pos hw4_232]
        by_cases hq : xrT (xrE 3 W O).1 = 1
        · rw [if_pos (.inl hq)]; exact x81b hS1 (by rw [h101, if_pos hq])
        · have q9 := x81 (b := false) (W2 := W) (O2 := O) (z := false) (q := op) hS1 hw1.1 (by have q := hT1 hq; rw [hw4_232] at q; exact q) (by omega) (by omega) he (by omega) (by omega)
          by_cases hq2 : xrT (xrE 1 (xrE 3 W O).1 (xrE 3 W O).2).1 = 22
          · rw [if_neg (by intro c; rcases c with c | c; exact hq c; exact c hq2)]; exact q9.1 hq2
          · rw [if_pos (.inr hq2)]; exact q9.2 hq2⟩
    | exact ⟨rfl, by
        unfold xBh; rw [if_neg (by omega), if_neg (by omega), if_neg (by omega), if_neg (by omega), if_neg (by omega), if_neg (by omega), if_pos hw4_243]
        by_cases hq : xrT (xrE 3 W O).1 = 1
        · rw [if_pos (.inl hq)]
          have z10 : M1 67 10 = 10 * (s : Int) + 1 := by rw [h101, if_pos hq]
          first
            | (rw [show hf_91_67 M1 0 = M1 from by unfold hf_91_67 hf_92_67; rw [if_neg (by decide), if_pos (by rw [z10]; omega)]]; exact xRel.fail hS1.1 z10 (by show ¬ 10 * (s : Int) + 1 = -1; omega))
            | (rw [show hf_91_67 M1 1 = M1 from if_pos (by decide)]; exact xRel.fail hS1.1 z10 (by show ¬ 10 * (s : Int) + 1 = -1; omega))
        · have ht1 := hT1 hq
          first
            | (have hq2 : ¬ (xrE 1 (xrE 3 W O).1 (xrE 3 W O).2).1 = [] := fun c => hb255 (by rw [c]; rfl)
               rw [if_pos (.inr hq2), show hf_91_67 M1 0 = hf_92_67 M1 1 from by unfold hf_91_67; rw [if_neg (by decide)]]
               exact xRel.f92 ht1 (by omega) (by decide) hS1.1)
            | (have hq2 : (xrE 1 (xrE 3 W O).1 (xrE 3 W O).2).1 = [] := List.eq_nil_of_length_eq_zero (by omega)
               rw [if_neg (by intro c; rcases c with c | c; exact hq c; exact c hq2), show hf_91_67 M1 1 = M1 from if_pos (by decide)]
               rw [hq2] at hS1
               obtain ⟨h3, h4, h5, h6, h7, h9, h10, h11⟩ := ht1
               exact xRel.good hS1 (fun x hx => absurd hx (List.not_mem_nil)) (by rw [List.length_nil]; omega) he h3 h4 h6 h9 (by omega) h10 h11 ⟨fun _ => rfl, fun _ => by rw [h7]; exact hw4_243⟩)⟩
theorem xWy_r (c : Nat → Int) (L s : Nat) : 0 ≤ xWy c L s ∧ xWy c L s ≤ 4 := by unfold xWy; (repeat' split) <;> omega
theorem xEn_r (c : Nat → Int) {L s : Nat} (hs : s ≤ L) : s ≤ xEn c L s ∧ xEn c L s ≤ L ∧ (xKd c L s ≠ 25 → s < xEn c L s) := by
  have h1 := xrD_r c (L - s) s
  have h2 := xrL_r c (L - s) s
  unfold xEn xKd
  by_cases c1 : L ≤ s
  · rw [if_pos c1, if_pos c1]; exact ⟨Nat.le_refl _, hs, fun q => absurd rfl q⟩
  · rw [if_neg c1, if_neg c1]
    by_cases c2 : 48 ≤ c s ∧ c s ≤ 57
    · rw [if_pos c2, if_pos c2]
      have h3 := xrD_y (L := L) (by omega) c2
      have h4 := xrD_r c (L - (s + 1)) (s + 1)
      rw [h3]; exact ⟨by omega, by omega, fun _ => by omega⟩
    · rw [if_neg c2, if_neg c2]
      by_cases c3 : 97 ≤ c s ∧ c s ≤ 122
      · rw [if_pos c3]
        have h3 := xrL_y (L := L) (by omega) c3
        have h4 := xrL_r c (L - (s + 1)) (s + 1)
        rw [h3]; exact ⟨by omega, by omega, fun _ => by omega⟩
      · rw [if_neg c3]; exact ⟨by omega, by omega, fun _ => by omega⟩
theorem xrR_r (c : Nat → Int) (s e : Nat) : ∀ (l : List Int) (v : Int) (a : Nat) (k : Bool), 0 ≤ v → (l.filter (fun x => decide (x = 32))).length + v ≤ 15 → -1 ≤ xrR c s e l v a k ∧ xrR c s e l v a k ≤ 14
  | [], _, _, _, _, _ => by show -1 ≤ (-1 : Int) ∧ (-1 : Int) ≤ 14; decide
  | x :: l, v, a, k, h1, h3 => by
    rw [xrR_c]
    by_cases hx : x = 32
    · rw [List.filter_cons, if_pos (decide_eq_true hx), List.length_cons] at h3
      rw [if_pos hx]
      split
      · omega
      · exact xrR_r c s e l (v + 1) s true (by omega) (by omega)
    · rw [List.filter_cons, if_neg (by rw [decide_eq_false hx]; exact Bool.false_ne_true)] at h3
      rw [if_neg hx]
      exact xrR_r c s e l v (a + 1) _ h1 h3
theorem xrW_r (c : Nat → Int) (s e : Nat) : -1 ≤ xrW c s e ∧ xrW c s e ≤ 14 := xrR_r c s e xrWl 0 s true (by omega) (by have : (xrWl.filter (fun x => decide (x = 32))).length = 15 := by decide +kernel
                                                                                                                        omega)
theorem xKd_r (c : Nat → Int) (L s : Nat) (h : xWy c L s = 0) : 0 ≤ xKd c L s ∧ xKd c L s ≤ 25 := by
  have q := xrW_r c s (xrL c (L - s) s)
  unfold xWy at h
  unfold xKd
  by_cases c1 : L ≤ s
  · rw [if_pos c1]; decide
  · rw [if_neg c1] at h ⊢
    by_cases c2 : 48 ≤ c s ∧ c s ≤ 57
    · rw [if_pos c2]; decide
    · rw [if_neg c2] at h ⊢
      by_cases c3 : 97 ≤ c s ∧ c s ≤ 122
      · rw [if_pos c3] at h ⊢
        split at h
        · exact absurd h (by decide)
        · omega
      · rw [if_neg c3]; have := xrG_b (c s); omega
theorem xSp_of {c : Nat → Int} {L : Nat} {S : xSt} (hd : ¬ (S.2.2.2.2.2.1 ≠ -1 ∨ S.2.2.2.2.2.2 = true)) {s : Nat} (hs : s = xrB c (L - S.1) S.1) : (¬ xWy c L s = 0 → xSp c L S = (xEn c L s, S.2.1, S.2.2.1, S.2.2.2.1, S.2.2.2.2.1, 10 * (s : Int) + xWy c L s, false)) ∧ (xWy c L s = 0 → S.2.1 = true → xSp c L S = xUn s (xEn c L s) (xKd c L s) (xVl c L s) S.2.2.1 S.2.2.2.1 S.2.2.2.2.1) ∧ (xWy c L s = 0 → ¬ S.2.1 = true → xSp c L S = xBh s (xEn c L s) (xKd c L s) S.2.2.1 S.2.2.2.1 S.2.2.2.2.1) := by
  unfold xSp
  rw [if_neg hd, ← hs]
  refine ⟨fun h => by rw [if_pos h], fun h h2 => by rw [if_neg (fun q => q h), if_pos h2], fun h h2 => by rw [if_neg (fun q => q h), if_neg h2]⟩
theorem xinit {M M9 : zM} {a1 : Int} (hp : xP M a1) (t70 : M 70 0 = 80 ∧ M 70 1 = 1) (hM : M9 = hR_set (hR_drop (zput (zput (zput (zput (zput (zput (zput M 67 3 a1) 67 4 (xL M a1 : Int)) 67 6 0) 67 9 0) 67 10 (-1)) 67 7 24) 67 11 1) 70) 68 0 0 0) : xRel M a1 (xIt (xc M a1) (xL M a1) (0 : Int).toNat) M9 := by
  have t68 := hp.2.2.2.2.1
  have e : M9 = zput (zput (zput (zput (zput (zput (zput (zput (zput M 67 3 a1) 67 4 (xL M a1 : Int)) 67 6 0) 67 9 0) 67 10 (-1)) 67 7 24) 67 11 1) 70 3 0) 69 0 0 := by
    rw [hM]
    unfold hR_set hR_drop
    rw [zput_oth (show (68 : Nat) ≠ 70 by decide), zput_oth (show (68 : Nat) ≠ 67 by decide), zput_oth (show (68 : Nat) ≠ 67 by decide), zput_oth (show (68 : Nat) ≠ 67 by decide), zput_oth (show (68 : Nat) ≠ 67 by decide), zput_oth (show (68 : Nat) ≠ 67 by decide), zput_oth (show (68 : Nat) ≠ 67 by decide), zput_oth (show (68 : Nat) ≠ 67 by decide)]
    rw [if_neg (by omega), if_neg (by omega), if_neg (by omega), if_pos (by omega), t68.2, w32_id (x := 0 * 81) (by omega), w32_id (by omega)]
    rfl
  have o : ∀ r, r ≠ 67 → r ≠ 69 → r ≠ 70 → M9 r = M r := fun r q1 q2 q3 => by
    rw [e, zput_oth q2, zput_oth q3, zput_oth q1, zput_oth q1, zput_oth q1, zput_oth q1, zput_oth q1, zput_oth q1, zput_oth q1]
  have f : ∀ j, M9 67 j = zput (zput (zput (zput (zput (zput (zput M 67 3 a1) 67 4 (xL M a1 : Int)) 67 6 0) 67 9 0) 67 10 (-1)) 67 7 24) 67 11 1 67 j := fun j => by
    rw [e, qput_ne (by decide), qput_ne (by decide)]
  have h70 : M9 70 0 = 80 ∧ M9 70 1 = 1 ∧ M9 70 3 = 0 := by
    rw [e, zput_oth (by decide)]
    refine ⟨?_, ?_, qput_eq⟩
    · rw [qput_nk (by decide), qput_ne (by decide), qput_ne (by decide), qput_ne (by decide), qput_ne (by decide), qput_ne (by decide), qput_ne (by decide), qput_ne (by decide)]; exact t70.1
    · rw [qput_nk (by decide), qput_ne (by decide), qput_ne (by decide), qput_ne (by decide), qput_ne (by decide), qput_ne (by decide), qput_ne (by decide), qput_ne (by decide)]; exact t70.2
  refine ⟨?_, fun r q1 q2 q3 q4 => o r q1 q2 q3, fun _ => ⟨⟨fun r q1 q2 q3 q4 => o r q1 q2 q3, h70, trivial, by rw [e]; exact qput_eq, trivial⟩, fun x hx => absurd hx List.not_mem_nil, Nat.zero_le _, Nat.zero_le _, ?_, ?_, ?_, ?_, ⟨by show -((0 : Nat) : Int) ≤ 0; decide, by show (0 : Int) ≤ 8; decide⟩, ?_, ?_⟩⟩
  · rw [f, qput_nk (by decide), qput_nk (by decide), qput_eq]; rfl
  · rw [f, qput_nk (by decide), qput_nk (by decide), qput_nk (by decide), qput_nk (by decide), qput_nk (by decide), qput_nk (by decide), qput_eq]
  · rw [f, qput_nk (by decide), qput_nk (by decide), qput_nk (by decide), qput_nk (by decide), qput_nk (by decide), qput_eq]
  · rw [f, qput_nk (by decide), qput_nk (by decide), qput_nk (by decide), qput_nk (by decide), qput_eq]; rfl
  · rw [f, qput_nk (by decide), qput_nk (by decide), qput_nk (by decide), qput_eq]; rfl
  · rw [f, qput_eq]; rfl
  · rw [f, qput_nk (by decide), qput_eq]; exact ⟨fun q => absurd q (by decide), fun q => Bool.noConfusion q⟩
set_option maxRecDepth 100000 in
theorem fh_75_67 {n : Nat} {M : zM} (a1 : Int) (hp : xP M a1) (t70 : M 70 0 = 80 ∧ M 70 1 = 1) : zH n (0, 0) 75 (0, zini [zR 67, .inl a1] 3, []) M (fun r M' => r = some (.inl (xIt (xc M a1) (xL M a1) 81).2.2.2.2.2.1) ∧ xRel M a1 (xIt (xc M a1) (xL M a1) 81) M') := by
  have hz := zp_75
  show zH n (0, 0) 75 (0, [zR 67, .inl a1, zN], []) M _
  have hL := hp.len
  have h7 := hp.2.2.2.2.2.1
  refine zH_w (c' := (12, [zR 67, .inl a1, zN], [.inl 0, .inl a1, zR 20, zR 67])) 8 hz rfl ?_
  refine zH_wE (c1 := (15, [zR 67, .inl a1, zN], [zR 67])) 0 hz zp_106 (fh_106_20 a1 0) (by rfl) ?_
  show zH n (0, 0) 75 (15, [zR 67, .inl a1, zN], [.inl (hR_get (zput M 67 3 a1) 20 a1 0), zR 67]) (zput M 67 3 a1) _
  have eL0 : hR_get (zput M 67 3 a1) 20 a1 0 = (xL M a1 : Int) := by
    rw [show hR_get (zput M 67 3 a1) 20 a1 0 = hR_get M 20 a1 0 from by unfold hR_get; rw [zput_oth (show (20 : Nat) ≠ 67 by decide), zput_oth (show (20 + 1 : Nat) ≠ 67 by decide)], hG_20 hp.2.2.1 (by omega) (by decide), hp.2.1 _ (by simp only [Int.reduceToNat]; omega), show 3350 + (81 * a1.toNat + (0 : Int).toNat) = 3350 + 81 * a1.toNat by simp only [Int.reduceToNat]; omega]
    exact hL.2
  rw [eL0]
  refine zH_w (c' := (41, [zR 67, .inl a1, zN], [.inl 1, zR 67])) 15 hz rfl ?_
  refine zH_putz hz rfl (by decide) rfl rfl ?_
  show zH n (0, 0) 75 (44, [zR 67, .inl a1, zN], []) (zput (zput (zput (zput (zput (zput (zput M 67 3 a1) 67 4 (xL M a1 : Int)) 67 6 0) 67 9 0) 67 10 (-1)) 67 7 24) 67 11 1) _
  refine zH_wE (c1 := (51, [zR 67, .inl a1, zN], [])) 2 hz zp_104 (fh_104_70) (by rfl) ?_
  show zH n (0, 0) 75 (51, [zR 67, .inl a1, zN], []) (hR_drop (zput (zput (zput (zput (zput (zput (zput M 67 3 a1) 67 4 (xL M a1 : Int)) 67 6 0) 67 9 0) 67 10 (-1)) 67 7 24) 67 11 1) 70) _
  refine zH_wE (c1 := (61, [zR 67, .inl a1, zN], [])) 5 hz zp_107 (fh_107_68 0 0 0) (by rfl) ?_
  show zH n (0, 0) 75 (61, [zR 67, .inl a1, zN], []) (hR_set (hR_drop (zput (zput (zput (zput (zput (zput (zput M 67 3 a1) 67 4 (xL M a1 : Int)) 67 6 0) 67 9 0) 67 10 (-1)) 67 7 24) 67 11 1) 70) 68 0 0 0) _
  obtain ⟨M9, hM9⟩ : ∃ X : zM, X = hR_set (hR_drop (zput (zput (zput (zput (zput (zput (zput M 67 3 a1) 67 4 (xL M a1 : Int)) 67 6 0) 67 9 0) 67 10 (-1)) 67 7 24) 67 11 1) 70) 68 0 0 0 := ⟨_, rfl⟩
  rw [← hM9]
  have hR0 : xRel M a1 (xIt (xc M a1) (xL M a1) (0 : Int).toNat) M9 := xinit hp t70 hM9
  refine zH_w (c' := (63, [zR 67, .inl a1, .inl 0], [])) 2 hz rfl ?_
  have lp63 : ∀ (N : Nat) (t : Int) (M5 : zM), ((81 - t).toNat) < N → (0 ≤ t ∧ t ≤ 81) → (xRel M a1 (xIt (xc M a1) (xL M a1) t.toNat) M5) → zH n (0, 0) 75 (63, [zR 67, .inl a1, .inl t], []) M5 (fun r M' => r = some (.inl (xIt (xc M a1) (xL M a1) 81).2.2.2.2.2.1) ∧ xRel M a1 (xIt (xc M a1) (xL M a1) 81) M') := by
    intro N
    induction N with
    | zero => intro t M5 hN; exact absurd hN (Nat.not_lt_zero _)
    | succ N ih63 =>
      intro t M5 hN hi hR
      refine zH_w (c' := (66, [zR 67, .inl a1, .inl t], [.inl 80, .inl t])) 2 hz rfl ?_
      refine zH_wi_gt (pc := 66) (n' := 69) (t := 130) (L := [zR 67, .inl a1, .inl t]) (st := []) (x := t) (y := 80) 0 hz (by rfl) (fun hb66 => ?_) (fun hb66 => ?_)
      · skip
        have hE : xIt (xc M a1) (xL M a1) 81 = xIt (xc M a1) (xL M a1) t.toNat := by rw [show t.toNat = 81 by omega]
        refine zH_w (c' := (134, [zR 67, .inl a1, .inl t], [.inl (M5 67 10)])) 2 hz rfl ?_
        rw [hR.1]
        exact zH_ret hz rfl rfl (by rw [hE]; exact ⟨rfl, hR⟩)
      · skip
        have hN2 : (81 - (t + 1)).toNat < N := by clear hR hR0; omega
        have hi2 : 0 ≤ t + 1 ∧ t + 1 ≤ 81 := by clear hN2 hN hR hR0; omega
        have ht2 : (t + 1).toNat = t.toNat + 1 := by clear hN2 hN hR hR0; omega
        have hw2 : (.inl (t + 1) : zV) = .inl (w32 (t + 1)) := by clear hN2 hN hR hR0; rw [w32_id (by omega)]
        refine zH_w (c' := (73, [zR 67, .inl a1, .inl t], [.inl (M5 67 10)])) 2 hz rfl ?_
        rw [hR.1]
        refine zH_w (c' := (74, [zR 67, .inl a1, .inl t], [.inl (-1), .inl ((xIt (xc M a1) (xL M a1) t.toNat).2.2.2.2.2.1)])) 1 hz rfl ?_
        refine zH_wi_ne (pc := 74) (n' := 77) (t := 130) (L := [zR 67, .inl a1, .inl t]) (st := []) (x := ((xIt (xc M a1) (xL M a1) t.toNat).2.2.2.2.2.1)) (y := (-1)) 0 hz (by rfl) (fun hb74 => ?_) (fun hb74 => ?_)
        · skip
          have hE : xIt (xc M a1) (xL M a1) 81 = xIt (xc M a1) (xL M a1) t.toNat := by have q := xIt_done (xc M a1) (xL M a1) t.toNat (.inl hb74) (81 - t.toNat); rw [show t.toNat + (81 - t.toNat) = 81 by omega] at q; exact q
          refine zH_w (c' := (134, [zR 67, .inl a1, .inl t], [.inl (M5 67 10)])) 2 hz rfl ?_
          rw [hR.1]
          exact zH_ret hz rfl rfl (by rw [hE]; exact ⟨rfl, hR⟩)
        · skip
          obtain ⟨S, hS⟩ : ∃ S, S = xIt (xc M a1) (xL M a1) t.toNat := ⟨_, rfl⟩
          have hnx : xIt (xc M a1) (xL M a1) (t.toNat + 1) = xSp (xc M a1) (xL M a1) S := by rw [hS]; rfl
          rw [← hS] at hR hb74
          obtain ⟨r10, rF, rR⟩ := hR
          obtain ⟨s1, s2, s3, s4, s5, s6, s7, s8, s9, s10, s11⟩ := rR (by omega)
          refine zH_w (c' := (83, [zR 67, .inl a1, .inl t], [.inl 25, .inl (M5 67 7)])) 3 hz rfl ?_
          refine zH_wi_eq (pc := 83) (n' := 86) (t := 130) (L := [zR 67, .inl a1, .inl t]) (st := []) (x := (M5 67 7)) (y := 25) 0 hz (by rfl) (fun hb83 => ?_) (fun hb83 => ?_)
          · skip
            have hE : xIt (xc M a1) (xL M a1) 81 = xIt (xc M a1) (xL M a1) t.toNat := by have q := xIt_done (xc M a1) (xL M a1) t.toNat (.inr (by rw [← hS]; exact s11.mp hb83)) (81 - t.toNat); rw [show t.toNat + (81 - t.toNat) = 81 by omega] at q; exact q
            have hR : xRel M a1 (xIt (xc M a1) (xL M a1) t.toNat) M5 := by rw [← hS]; exact ⟨r10, rF, rR⟩
            refine zH_w (c' := (134, [zR 67, .inl a1, .inl t], [.inl (M5 67 10)])) 2 hz rfl ?_
            rw [hR.1]
            exact zH_ret hz rfl rfl (by rw [hE]; exact ⟨rfl, hR⟩)
          · skip
            have hfin : ¬ S.2.2.2.2.2.2 = true := fun q => hb83 (s11.mpr q)
            have hd : ¬ (S.2.2.2.2.2.1 ≠ -1 ∨ S.2.2.2.2.2.2 = true) := by intro q; rcases q with q | q; exact q (by omega); exact hfin q
            have gB := xrB_r (xc M a1) (xL M a1 - S.1) S.1
            obtain ⟨ps, hps⟩ : ∃ ps : Nat, ps = xrB (xc M a1) (xL M a1 - S.1) S.1 := ⟨_, rfl⟩
            have hsp := xSp_of (c := xc M a1) (L := xL M a1) hd hps
            rw [← hps] at gB
            refine zH_w (c' := (87, [zR 67, .inl a1, .inl t], [zR 67])) 1 hz rfl ?_
            refine zH_wC (c1 := (90, [zR 67, .inl a1, .inl t], [])) 0 hz zp_93 (fh_93_67 hp rF s5 s6 (i := S.1) s7 s4 (by omega)) (by rfl) ?_
            rintro _ M2 ⟨rfl, k1, k2, k3, k4, k5, k6⟩
            show zH n (0, 0) 75 (90, [zR 67, .inl a1, .inl t], []) M2 _
            rw [← hps] at k2 k3 k4 k5
            have z11 : M2 67 11 = (if S.2.1 = true then 1 else 0) := (k6 11 (by decide) (by decide) (by decide) (by decide) (by decide)).trans s10
            have z9 := (k6 9 (by decide) (by decide) (by decide) (by decide) (by decide)).trans s8
            have z3 := (k6 3 (by decide) (by decide) (by decide) (by decide) (by decide)).trans s5
            have z4 := (k6 4 (by decide) (by decide) (by decide) (by decide) (by decide)).trans s6
            have z2 : xS M S.2.2.2.1 S.2.2.2.2.1 M2 := s1.c67 k1
            have zE := xEn_r (xc M a1) (L := xL M a1) (s := ps) (by omega)
            refine zH_w (c' := (94, [zR 67, .inl a1, .inl t], [.inl (M2 67 10)])) 2 hz rfl ?_
            rw [k4]
            obtain ⟨y, hy⟩ : ∃ x : Int, x = (if xWy (xc M a1) (xL M a1) ps = 0 then -1 else 10 * ((ps : Nat) : Int) + xWy (xc M a1) (xL M a1) ps) := ⟨_, rfl⟩
            rw [← hy]
            refine zH_w (c' := (95, [zR 67, .inl a1, .inl t], [.inl (-1), .inl y])) 1 hz rfl ?_
            refine zH_wi_ne (pc := 95) (n' := 98) (t := 112) (L := [zR 67, .inl a1, .inl t]) (st := []) (x := y) (y := (-1)) 0 hz (by rfl) (fun hb95 => ?_) (fun hb95 => ?_)
            · skip
              have hw0 : ¬ xWy (xc M a1) (xL M a1) ps = 0 := fun q => by rw [if_pos q] at hy; omega
              have hNx : xRel M a1 (xIt (xc M a1) (xL M a1) (t.toNat + 1)) M2 := by
                rw [hnx, hsp.1 hw0]
                have q9 := xWy_r (xc M a1) (xL M a1) ps
                exact xRel.fail (fun r q1 q2 q3 q4 => (k1 r q1).trans (rF r q1 q2 q3 q4)) (by rw [k4, if_neg hw0]) (by show ¬ 10 * ((ps : Nat) : Int) + xWy (xc M a1) (xL M a1) ps = -1; omega)
              refine zH_w (c' := (116, [zR 67, .inl a1, .inl t], [.inl (M2 67 10)])) 2 hz rfl ?_
              rw [k4, if_neg hw0]
              refine zH_w (c' := (117, [zR 67, .inl a1, .inl t], [.inl (-1), .inl (10 * ((ps : Nat) : Int) + xWy (xc M a1) (xL M a1) ps)])) 1 hz rfl ?_
              refine zH_wi_ne (pc := 117) (n' := 120) (t := 124) (L := [zR 67, .inl a1, .inl t]) (st := []) (x := (10 * ((ps : Nat) : Int) + xWy (xc M a1) (xL M a1) ps)) (y := (-1)) 0 hz (by rfl) (fun hb117 => ?_) (fun hb117 => ?_)
              · skip
                refine zH_w (c' := (63, [zR 67, .inl a1, .inl (t + 1)], [])) 2 hz (by rw [hw2]; rfl) ?_
                exact ih63 (t + 1) M2 hN2 hi2 (by rw [ht2]; exact hNx)
              · skip
                have q9 := xWy_r (xc M a1) (xL M a1) ps
                exact absurd hb117 (by omega)
            · skip
              have hw0 : xWy (xc M a1) (xL M a1) ps = 0 := by by_cases q : xWy (xc M a1) (xL M a1) ps = 0; exact q; rw [if_neg q] at hy; have := xWy_r (xc M a1) (xL M a1) ps; omega
              obtain ⟨k7, k8⟩ := k5 hw0
              have zK := xKd_r (xc M a1) (xL M a1) ps hw0
              have z10 : M2 67 10 = -1 := by rw [k4, if_pos hw0]
              have ht := fun d (q : M2 67 11 = d) => (show xTo M a1 ps (xEn (xc M a1) (xL M a1) ps) (xKd (xc M a1) (xL M a1) ps) S.2.2.1 d (M2 67) from ⟨z3, z4, k2, k3, k7, z9, z10, q⟩)
              refine zH_w (c' := (102, [zR 67, .inl a1, .inl t], [.inl (M2 67 11)])) 2 hz rfl ?_
              rw [z11]
              obtain ⟨x, hx⟩ : ∃ x : Int, x = (if S.2.1 = true then 1 else 0) := ⟨_, rfl⟩
              rw [← hx]
              refine zH_if_eq hz rfl (fun hb102 => ?_) (fun hb102 => ?_)
              · skip
                have hdue : ¬ S.2.1 = true := fun q => by rw [if_pos q] at hx; omega
                refine zH_w (c' := (116, [zR 67, .inl a1, .inl t], [.inl (M2 67 10)])) 2 hz rfl ?_
                rw [z10]
                refine zH_w (c' := (121, [zR 67, .inl a1, .inl t], [zR 67])) 3 hz rfl ?_
                refine zH_wC (c1 := (124, [zR 67, .inl a1, .inl t], [])) 0 hz zp_78 (fh_78_67 hp z2 s2 (ht 0 (by rw [z11, if_neg hdue])) (by omega) ⟨by omega, fun q => zE.2.2 q⟩ (by omega) (by omega) (by omega)) (by rfl) ?_
                rintro _ M3 ⟨rfl, hN3⟩
                show zH n (0, 0) 75 (124, [zR 67, .inl a1, .inl t], []) M3 _
                have hNx : xRel M a1 (xIt (xc M a1) (xL M a1) (t.toNat + 1)) M3 := by rw [hnx, hsp.2.2 hw0 hdue]; exact hN3
                refine zH_w (c' := (63, [zR 67, .inl a1, .inl (t + 1)], [])) 2 hz (by rw [hw2]; rfl) ?_
                exact ih63 (t + 1) M3 hN2 hi2 (by rw [ht2]; exact hNx)
              · skip
                have hdue : S.2.1 = true := by by_cases q : S.2.1 = true; exact q; rw [if_neg q] at hx; exact absurd hx hb102
                have hNx : xRel M a1 (xIt (xc M a1) (xL M a1) (t.toNat + 1)) (hf_77_67 M2) := by
                  rw [hnx, hsp.2.1 hw0 hdue]
                  exact x77 hp z2 s2 (ht 1 (by rw [z11, if_pos hdue])) k8 (by omega) (by omega) ⟨by omega, fun q => zE.2.2 q⟩ (by omega) (by omega)
                refine zH_w (c' := (106, [zR 67, .inl a1, .inl t], [zR 67])) 1 hz rfl ?_
                refine zH_wE (c1 := (109, [zR 67, .inl a1, .inl t], [])) 0 hz zp_77 (fh_77_67) (by rfl) ?_
                show zH n (0, 0) 75 (109, [zR 67, .inl a1, .inl t], []) (hf_77_67 M2) _
                refine zH_w (c' := (63, [zR 67, .inl a1, .inl (t + 1)], [])) 3 hz (by rw [hw2]; rfl) ?_
                exact ih63 (t + 1) (hf_77_67 M2) hN2 hi2 (by rw [ht2]; exact hNx)
  refine lp63 (82) 0 M9 (by omega) ?_ ?_
  · omega
  · exact hR0
