/-! WAYS: THE CLASS, THE FEWEST -/
set_option maxRecDepth 100000 in
theorem fh_109_85 {n : Nat} {M : zM} (ht : M 85 0 = 8 ∧ M 85 1 = 1) : zH n (0, 0) 109 (0, zini [zR 85, .inl 0, .inl 0, .inl 8] 5, []) M (fun r M' => r = none ∧ (∀ q, q ≠ 86 → M' q = M q) ∧ ∀ j : Nat, j < 8 → M' 86 j = 0) := by
  have hz := zp_109
  show zH n (0, 0) 109 (0, [zR 85, .inl 0, .inl 0, .inl 8, zN], []) M _
  refine zH_w (c' := (3, [zR 85, .inl 0, .inl 0, .inl 8, .inl 0], [])) 2 hz rfl ?_
  have lp3 : ∀ (N : Nat) (i : Int) (M5 : zM), ((8 - i).toNat) < N → (0 ≤ i ∧ i ≤ 8) → (∀ q, q ≠ 86 → M5 q = M q) → (∀ j : Nat, (j : Int) < i → M5 86 j = 0) → zH n (0, 0) 109 (3, [zR 85, .inl 0, .inl 0, .inl 8, .inl i], []) M5 (fun r M' => r = none ∧ (∀ q, q ≠ 86 → M' q = M q) ∧ ∀ j : Nat, j < 8 → M' 86 j = 0) := by
    intro N
    induction N with
    | zero => intro i M5 hN; exact absurd hN (Nat.not_lt_zero _)
    | succ N ih3 =>
      intro i M5 hN hi hO hT
      refine zH_w (c' := (6, [zR 85, .inl 0, .inl 0, .inl 8, .inl i], [.inl 8, .inl i])) 2 hz rfl ?_
      refine zH_wi_ge (pc := 6) (n' := 9) (t := 32) (L := [zR 85, .inl 0, .inl 0, .inl 8, .inl i]) (st := []) (x := i) (y := 8) 0 hz (by rfl) (fun hb6 => ?_) (fun hb6 => ?_)
      · skip
        exact zH_wr (r := none) 0 hz (by rfl) (⟨rfl, hO, fun j hj => hT j (by omega)⟩)
      · skip
        have ht5 : M5 85 0 = 8 ∧ M5 85 1 = 1 := by rw [hO 85 (by decide)]; exact ht
        have es : hR_set M5 85 i 0 0 = zput M5 86 i.toNat 0 := wSr ht5 (by decide) (by omega)
        refine zH_w (c' := (15, [zR 85, .inl 0, .inl 0, .inl 8, .inl i], [.inl (M5 85 0), .inl i])) 3 hz rfl ?_
        rw [ht5.1]
        refine zH_icmp_ge hz rfl (fun hb15 => ?_) (fun hb15 => ?_)
        · skip
          exact zH_ret hz rfl rfl (⟨rfl, hO, fun j hj => hT j (by omega)⟩)
        · skip
          refine zH_w (c' := (23, [zR 85, .inl 0, .inl 0, .inl 8, .inl i], [.inl 0, .inl 0, .inl i, zR 85])) 4 hz rfl ?_
          refine zH_wE (c1 := (26, [zR 85, .inl 0, .inl 0, .inl 8, .inl i], [])) 0 hz zp_107 (fh_107_85 i 0 0) (by rfl) ?_
          show zH n (0, 0) 109 (26, [zR 85, .inl 0, .inl 0, .inl 8, .inl i], []) (hR_set M5 85 i 0 0) _
          refine zH_w (c' := (3, [zR 85, .inl 0, .inl 0, .inl 8, .inl (i + 1)], [])) 2 hz (by rw [show (.inl (i + 1) : zV) = .inl (w32 (i + 1)) from by rw [w32_id (by omega)]]; rfl) ?_
          refine ih3 (i + 1) (hR_set M5 85 i 0 0) (by omega) ?_ ?_ ?_
          · omega
          · rw [es]; exact fun q hq => (zput_oth hq).trans (hO q hq)
          · intro j hj
            rw [es]
            by_cases e : j = i.toNat
            · rw [e, qput_eq]
            · rw [qput_nk e]; exact hT j (by omega)
  refine lp3 (9) 0 M (by omega) ?_ ?_ ?_
  · omega
  · exact fun _ _ => rfl
  · exact fun j hj => absurd hj (by omega)
section WJ
variable {L T : Nat → Nat} {n9 : Nat} {M M' : zM}
theorem wLb_ea {left t c : Nat} {v : Int} {K : Nat} (hp : wPr L T) (hc : c < 14) (ht : t < 3) (hl : left.testBit c = true) (hE : ∀ q : Nat, q < c → left.testBit q = true → wLb L T n9 left t q (M 84 q).toNat ∧ 0 ≤ M 84 q ∧ M 84 q ≤ 42) (hv : wEa L T M c left t v) (hK : wCan L T n9 K left t) (h42 : K ≤ 42) : wLb L T n9 left t c v.toNat ∧ 0 ≤ v ∧ v ≤ 42 := by
  have lb : wLb L T n9 left t c v.toNat := wLb_st (g := fun q => (M 84 q).toNat) ht hl (fun q hq => by
    have a := (wb_and _ _ q).mp hq
    have b := Nat.ge_two_pow_of_testBit a.1
    have d := hp.1 c hc
    have e : q < c := (Nat.pow_lt_pow_iff_right (a := 2) (by decide)).mp (by omega)
    exact (hE q e a.2).1) (fun i q1 q2 => by
    have z := hv.2.2 i (fun q hq => by have := q1 q hq; omega) q2
    omega)
  have z := wLb_le lb hK
  have y := hv.1
  exact ⟨lb, by omega, by omega⟩
end WJ
set_option maxRecDepth 100000 in
theorem fh_119_81 {n : Nat} {M : zM} {L T : Nat → Nat} {n9 : Nat} (hw : wOk L T n9 M) (hp : wPr L T) (hn : 1 ≤ n9 ∧ n9 ≤ 4) (a1 a2 : Int) (h1 : 0 ≤ a1 ∧ a1 ≤ 16383) (h2 : 0 ≤ a2 ∧ a2 < 3) (hK : ∃ K, K ≤ 42 ∧ wCan L T n9 K a1.toNat a2.toNat) (hW1 : ∀ i, a1.toNat.testBit i = true → 1 ≤ T i) : zH n (0, 0) 119 (0, zini [zR 81, .inl a1, .inl a2] 6, []) M (fun r M' => ∃ v : Int, r = some (.inl v) ∧ 0 ≤ v ∧ (∀ k : Nat, wCan L T n9 k a1.toNat a2.toNat → v ≤ (k : Int)) ∧ (∀ r, r ≠ 84 → r ≠ 86 → M' r = M r)) := by
  have hz := zp_119
  show zH n (0, 0) 119 (0, [zR 81, .inl a1, .inl a2, zN, zN, zN], []) M _
  obtain ⟨K, hK1, hK2⟩ := hK
  refine zH_wC (c1 := (13, [zR 81, .inl a1, .inl a2, .inl 0, zN, zN], [])) 7 hz zp_109 (fh_109_85 hw.1.2.2.1) (by rfl) ?_
  rintro _ M1 ⟨rfl, hO1, hT1⟩
  show zH n (0, 0) 119 (13, [zR 81, .inl a1, .inl a2, .inl 0, zN, zN], []) M1 _
  refine zH_w (c' := (16, [zR 81, .inl a1, .inl a2, .inl 0, .inl 0, zN], [])) 2 hz rfl ?_
  have lp16 : ∀ (N : Nat) (s : Int) (c : Int) (u5 : zV) (M5 : zM), ((14 - c).toNat) < N → (0 ≤ c ∧ c ≤ 14) → (∀ r, r ≠ 84 → r ≠ 86 → M5 r = M r) → (0 ≤ s ∧ ∀ k : Nat, wCan L T n9 k a1.toNat a2.toNat → s ≤ (k : Int)) → (∀ q : Nat, (q : Int) < c → a1.toNat.testBit q = true → wLb L T n9 a1.toNat a2.toNat q (M5 84 q).toNat ∧ 0 ≤ M5 84 q ∧ M5 84 q ≤ 42) → (∀ x : Nat, 1 ≤ x → x ≤ 7 → M5 86 x = ((wW T a1.toNat x c.toNat : Nat) : Int)) → zH n (0, 0) 119 (16, [zR 81, .inl a1, .inl a2, .inl s, .inl c, u5], []) M5 (fun r M' => ∃ v : Int, r = some (.inl v) ∧ 0 ≤ v ∧ (∀ k : Nat, wCan L T n9 k a1.toNat a2.toNat → v ≤ (k : Int)) ∧ (∀ r, r ≠ 84 → r ≠ 86 → M' r = M r)) := by
    intro N
    induction N with
    | zero => intro s c u5 M5 hN; exact absurd hN (Nat.not_lt_zero _)
    | succ N ih16 =>
      intro s c u5 M5 hN hi hO hs hE hW
      refine zH_w (c' := (20, [zR 81, .inl a1, .inl a2, .inl s, .inl c, u5], [.inl 14, .inl c])) 2 hz rfl ?_
      refine zH_wi_ge (pc := 20) (n' := 23) (t := 90) (L := [zR 81, .inl a1, .inl a2, .inl s, .inl c, u5]) (st := []) (x := c) (y := 14) 0 hz (by rfl) (fun hb20 => ?_) (fun hb20 => ?_)
      · skip
        have e14 : c.toNat = 14 := by omega
        rw [e14] at hW
        have hw5 := hw.mv (fun r q1 q2 q3 => hO r q2 q3)
        refine zH_w (c' := (93, [zR 81, .inl a1, .inl a2, .inl s, .inl 1, u5], [])) 2 hz rfl ?_
        have lp93 : ∀ (N : Nat) (z : Int) (x : Int), ((8 - x).toNat) < N → (1 ≤ x ∧ x ≤ 8) → (0 ≤ z ∧ ∀ k : Nat, wCan L T n9 k a1.toNat a2.toNat → z ≤ (k : Int)) → zH n (0, 0) 119 (93, [zR 81, .inl a1, .inl a2, .inl z, .inl x, u5], []) M5 (fun r M' => ∃ v : Int, r = some (.inl v) ∧ 0 ≤ v ∧ (∀ k : Nat, wCan L T n9 k a1.toNat a2.toNat → v ≤ (k : Int)) ∧ (∀ r, r ≠ 84 → r ≠ 86 → M' r = M r)) := by
          intro N
          induction N with
          | zero => intro z x hN; exact absurd hN (Nat.not_lt_zero _)
          | succ N ih93 =>
            intro z x hN hx hz9
            refine zH_w (c' := (97, [zR 81, .inl a1, .inl a2, .inl z, .inl x, u5], [.inl 8, .inl x])) 2 hz rfl ?_
            refine zH_wi_ge (pc := 97) (n' := 100) (t := 118) (L := [zR 81, .inl a1, .inl a2, .inl z, .inl x, u5]) (st := []) (x := x) (y := 8) 0 hz (by rfl) (fun hb97 => ?_) (fun hb97 => ?_)
            · skip
              exact zH_wr (r := some (.inl z)) 1 hz (by rfl) (⟨z, rfl, hz9.1, hz9.2, hO⟩)
            · skip
              refine zH_wC (c1 := (108, [zR 81, .inl a1, .inl a2, .inl z, .inl x, u5], [.inl z])) 4 hz zp_120 (fh_120_81 hw5 hn x a2 (by omega) (by omega) hW) (by rfl) ?_
              rintro _ M6 ⟨v, rfl, w1, w2, e6⟩
              show zH n (0, 0) 119 (108, [zR 81, .inl a1, .inl a2, .inl z, .inl x, u5], [.inl v, .inl z]) M6 _
              replace e6 := e6.symm
              subst e6
              refine zH_w (c' := (111, [zR 81, .inl a1, .inl a2, .inl z, .inl x, u5], [.inl (if z < v then v else z)])) 1 hz rfl ?_
              obtain ⟨m, hm⟩ : ∃ x : Int, x = (if z < v then v else z) := ⟨_, rfl⟩
              rw [← hm]
              refine zH_w (c' := (93, [zR 81, .inl a1, .inl a2, .inl m, .inl (x + 1), u5], [])) 3 hz (by rw [show (.inl (x + 1) : zV) = .inl (w32 (x + 1)) from by rw [w32_id (by omega)]]; rfl) ?_
              refine ih93 m (x + 1) (by omega) ?_ ?_
              · omega
              · exact ⟨by omega, fun k hk => by have q1 := hz9.2 k hk; have q2 := w2 k hk; rw [hm]; split <;> omega⟩
        refine lp93 (9) s 1 (by omega) ?_ ?_
        · omega
        · exact hs
      · skip
        refine zH_w (c' := (29, [zR 81, .inl a1, .inl a2, .inl s, .inl c, u5], [.inl (zband (zbshr a1 c) 1)])) 5 hz rfl ?_
        rw [wnb a1.toNat (c := c) a1 (by omega) (by omega) (by omega)]
        refine zH_w (c' := (30, [zR 81, .inl a1, .inl a2, .inl s, .inl c, u5], [.inl 1, .inl ((a1.toNat / 2 ^ c.toNat % 2 : Nat) : Int)])) 1 hz rfl ?_
        refine zH_wi_ne (pc := 30) (n' := 33) (t := 84) (L := [zR 81, .inl a1, .inl a2, .inl s, .inl c, u5]) (st := []) (x := ((a1.toNat / 2 ^ c.toNat % 2 : Nat) : Int)) (y := 1) 0 hz (by rfl) (fun hb30 => ?_) (fun hb30 => ?_)
        · skip
          have hbn : ¬ a1.toNat.testBit c.toNat = true := fun q => by have := (wbt _ _).mp q; omega
          have hOn := hO
          have hsn := hs
          have hEn : ∀ q : Nat, (q : Int) < c + 1 → a1.toNat.testBit q = true → wLb L T n9 a1.toNat a2.toNat q (M5 84 q).toNat ∧ 0 ≤ M5 84 q ∧ M5 84 q ≤ 42 := fun q q1 q2 => hE q (by
            rcases (by omega : (q : Int) < c ∨ q = c.toNat) with y | y
            · exact y
            · rw [y] at q2; exact absurd q2 hbn) q2
          have hWn : ∀ x : Nat, 1 ≤ x → x ≤ 7 → M5 86 x = ((wW T a1.toNat x (c.toNat + 1) : Nat) : Int) := fun x x1 x2 => by rw [wW_s, if_neg (fun q => hbn q.1), Nat.add_zero]; exact hW x x1 x2
          refine zH_w (c' := (16, [zR 81, .inl a1, .inl a2, .inl s, .inl (c + 1), u5], [])) 2 hz (by rw [show (.inl (c + 1) : zV) = .inl (w32 (c + 1)) from by rw [w32_id (by omega)]]; rfl) ?_
          refine ih16 s (c + 1) u5 M5 (by omega) ?_ ?_ ?_ ?_ ?_
          · omega
          · exact hOn
          · exact hsn
          · exact hEn
          · rw [show (c + 1).toNat = c.toNat + 1 by omega]; exact hWn
        · skip
          have hb1 : a1.toNat.testBit c.toNat = true := (wbt _ _).mpr (by omega)
          have hw5 := hw.mv (fun r q1 q2 q3 => hO r q2 q3)
          have hT7 := hp.2 c.toNat (by omega)
          refine zH_wC (c1 := (41, [zR 81, .inl a1, .inl a2, .inl s, .inl c, u5], [])) 4 hz zp_121 (fh_121_81 hw5 hp c a1 a2 (by omega) (by omega) (by omega) (fun q q1 q2 => (hE q q1 q2).2) (hW1 _ hb1)) (by rfl) ?_
          rintro _ M6 ⟨v, rfl, hv, e6⟩
          show zH n (0, 0) 119 (41, [zR 81, .inl a1, .inl a2, .inl s, .inl c, u5], [.inl v]) M6 _
          replace e6 := e6.symm
          subst e6
          have lb := wLb_ea hp (by omega) (by omega) hb1 (fun q q1 q2 => hE q (by omega) q2) hv hK2 hK1
          refine zH_w (c' := (52, [zR 81, .inl a1, .inl a2, .inl s, .inl c, .inl v], [.inl v, .inl 0, .inl c, zR 83])) 6 hz rfl ?_
          refine zH_wE (c1 := (55, [zR 81, .inl a1, .inl a2, .inl s, .inl c, .inl v], [])) 0 hz zp_107 (fh_107_83 c 0 v) (by rfl) ?_
          show zH n (0, 0) 119 (55, [zR 81, .inl a1, .inl a2, .inl s, .inl c, .inl v], []) (hR_set M5 83 c 0 v) _
          obtain ⟨M7, hM7⟩ : ∃ X : zM, X = hR_set M5 83 c 0 v := ⟨_, rfl⟩
          rw [← hM7]
          rw [wSr hw5.1.2.1 (by decide) (by omega)] at hM7
          have hw7 := hw5.mv (M' := M7) (fun r q1 q2 q3 => by rw [hM7]; exact zput_oth q2)
          refine zH_w (c' := (61, [zR 81, .inl a1, .inl a2, .inl s, .inl c, .inl v], [.inl (if s < v then v else s)])) 3 hz rfl ?_
          obtain ⟨m, hm⟩ : ∃ x : Int, x = (if s < v then v else s) := ⟨_, rfl⟩
          rw [← hm]
          refine zH_w (c' := (76, [zR 81, .inl a1, .inl a2, .inl m, .inl c, .inl v], [.inl 2, .inl c, zR 10, zR 85])) 8 hz rfl ?_
          refine zH_wE (c1 := (79, [zR 81, .inl a1, .inl a2, .inl m, .inl c, .inl v], [zR 85])) 0 hz zp_106 (fh_106_10 c 2) (by rfl) ?_
          show zH n (0, 0) 119 (79, [zR 81, .inl a1, .inl a2, .inl m, .inl c, .inl v], [.inl (hR_get M7 10 c 2), zR 85]) M7 _
          rw [wG2 hw7.1 (by omega) (hW1 _ hb1)]
          refine zH_w (c' := (81, [zR 81, .inl a1, .inl a2, .inl m, .inl c, .inl v], [.inl 1, .inl 0, .inl ((T c.toNat : Nat) : Int), zR 85])) 2 hz rfl ?_
          refine zH_wE (c1 := (84, [zR 81, .inl a1, .inl a2, .inl m, .inl c, .inl v], [])) 0 hz zp_108 (fh_108_85 ((T c.toNat : Nat) : Int) 0 1) (by rfl) ?_
          show zH n (0, 0) 119 (84, [zR 81, .inl a1, .inl a2, .inl m, .inl c, .inl v], []) (hR_add M7 85 ((T c.toNat : Nat) : Int) 0 1) _
          obtain ⟨M8, hM8⟩ : ∃ X : zM, X = hR_add M7 85 ((T c.toNat : Nat) : Int) 0 1 := ⟨_, rfl⟩
          rw [← hM8]
          have hg8 : hR_get M7 85 ((T c.toNat : Nat) : Int) 0 = M7 86 (T c.toNat) := by rw [wGr hw7.1.2.2.1 (by decide) (by omega), Int.toNat_natCast]
          have es8 : M8 = zput M7 86 (T c.toNat) (w32 (M7 86 (T c.toNat) + 1)) := by
            rw [hM8]
            unfold hR_add
            rw [hg8, wSr hw7.1.2.2.1 (by decide) (by omega), Int.toNat_natCast]
          have hOn : ∀ r, r ≠ 84 → r ≠ 86 → M8 r = M r := fun r q1 q2 => by rw [es8, zput_oth q2, hM7, zput_oth q1]; exact hO r q1 q2
          have hsn : 0 ≤ m ∧ ∀ k : Nat, wCan L T n9 k a1.toNat a2.toNat → m ≤ (k : Int) := ⟨by rw [hm]; split <;> omega, fun k hk => by
            have q1 := hs.2 k hk
            have q2 := wLb_le lb.1 hk
            rw [hm]; split <;> omega⟩
          have hEn : ∀ q : Nat, (q : Int) < c + 1 → a1.toNat.testBit q = true → wLb L T n9 a1.toNat a2.toNat q (M8 84 q).toNat ∧ 0 ≤ M8 84 q ∧ M8 84 q ≤ 42 := fun q q1 q2 => by
            rw [es8, zput_oth (by decide), hM7]
            by_cases y : q = c.toNat
            · rw [y, qput_eq]; exact lb
            · rw [qput_nk y]; exact hE q (by omega) q2
          have hWn : ∀ x : Nat, 1 ≤ x → x ≤ 7 → M8 86 x = ((wW T a1.toNat x (c.toNat + 1) : Nat) : Int) := fun x x1 x2 => by
            have q := hW x x1 x2
            have l := wW_le (tm := T) a1.toNat x c.toNat
            rw [es8, wW_s]
            by_cases y : T c.toNat = x
            · rw [y, qput_eq, hM7, zput_oth (by decide), q, if_pos ⟨hb1, rfl⟩, w32_id (by omega)]; rfl
            · rw [qput_nk (fun w => y w.symm), hM7, zput_oth (by decide), q, if_neg (fun w => y w.2), Nat.add_zero]
          refine zH_w (c' := (16, [zR 81, .inl a1, .inl a2, .inl m, .inl (c + 1), .inl v], [])) 2 hz (by rw [show (.inl (c + 1) : zV) = .inl (w32 (c + 1)) from by rw [w32_id (by omega)]]; rfl) ?_
          refine ih16 m (c + 1) (.inl v) M8 (by omega) ?_ ?_ ?_ ?_ ?_
          · omega
          · exact hOn
          · exact hsn
          · exact hEn
          · rw [show (c + 1).toNat = c.toNat + 1 by omega]; exact hWn
  refine lp16 (15) 0 0 zN M1 (by omega) ?_ ?_ ?_ ?_ ?_
  · omega
  · exact fun r q1 q2 => hO1 r q2
  · exact ⟨by omega, fun k _ => by omega⟩
  · exact fun q hq => absurd hq (by omega)
  · exact fun x x1 x2 => hT1 x (by omega)
section WK
variable {L T : Nat → Nat} {n9 : Nat} {M M' : zM}
/-- six bits a term -/
noncomputable def wfl (t : Nat) (x : Int) : Nat := x.toNat / 2 ^ (6 * t) % 2 ^ 6
/-- what is known of sets of courses -/
noncomputable def wMe (L T : Nat → Nat) (n9 W : Nat) (M : zM) : Prop := ∀ m t, m ≠ 0 → wSub m W → t < 3 → (0 ≤ M 82 m ∧ M 82 m < 262144) ∧ (wfl t (M 82 m) = 0 ∨ wFw L T n9 m t (wfl t (M 82 m)))
theorem wMe.mv {W : Nat} (h : wMe L T n9 W M) (e : M' 82 = M 82) : wMe L T n9 W M' := by unfold wMe; rw [e]; exact h
theorem wfl_or (x : Int) (b t u : Nat) (hx : 0 ≤ x ∧ x < 262144) (hb : b < 64) (ht : t < 3) (hu : u < 3) (h : wfl t x = 0 ∨ wfl t x = b) : ∀ y : Int, y = zbor x (zbshl (b : Int) (w32 (6 * (t : Int)))) → (0 ≤ y ∧ y < 262144) ∧ wfl u y = (if u = t then b else wfl u x) := by
  intro y hy
  have hp : (2 : Nat) ^ (6 * t) ≤ 2 ^ 12 := Nat.pow_le_pow_right (by decide) (by omega)
  have hm : b * 2 ^ (6 * t) ≤ 63 * 2 ^ (6 * t) := Nat.mul_le_mul_right _ (by omega)
  have s := qbshl_N (b : Int) (6 * (t : Int)) (by omega) (by omega) (by rw [Int.toNat_natCast, show (6 * (t : Int)).toNat = 6 * t by omega]; omega)
  rw [Int.toNat_natCast, show (6 * (t : Int)).toNat = 6 * t by omega] at s
  rw [w32_id (by omega), s, qbor_N _ _ (by omega) (by omega), Int.toNat_natCast] at hy
  have l := Nat.or_lt_two_pow (n := 18) (x := x.toNat) (y := b * 2 ^ (6 * t)) (by omega) (by omega)
  refine ⟨by omega, ?_⟩
  unfold wfl at h ⊢
  rw [hy, Int.toNat_natCast, Nat.or_div_two_pow, Nat.or_mod_two_pow]
  by_cases e : u = t
  · rw [if_pos e, e, Nat.mul_div_cancel _ (Nat.two_pow_pos _), Nat.mod_eq_of_lt (show b < 2 ^ 6 by omega)]
    rcases h with h | h
    · rw [h, Nat.zero_or]
    · rw [h, Nat.or_self]
  · rw [if_neg e]
    have z : b * 2 ^ (6 * t) / 2 ^ (6 * u) % 2 ^ 6 = 0 := by
      rcases (by omega : t = 0 ∨ t = 1 ∨ t = 2) with rfl | rfl | rfl <;> rcases (by omega : u = 0 ∨ u = 1 ∨ u = 2) with rfl | rfl | rfl <;> first | exact absurd rfl e | (simp only [Nat.reduceMul, Nat.reducePow]; omega)
    rw [z, Nat.or_zero]
/-- what is so of all that is wanted -/
noncomputable def wWt (T : Nat → Nat) (W : Nat) : Prop := W < 2 ^ 14 ∧ ∀ i, W.testBit i = true → 1 ≤ T i
theorem wT3 {x : Nat} (h : 1 ≤ x ∧ x ≤ 7) : x.testBit 0 = true ∨ x.testBit 1 = true ∨ x.testBit 2 = true := by
  have key : ∀ y : Fin 8, 1 ≤ y.val → y.val.testBit 0 = true ∨ y.val.testBit 1 = true ∨ y.val.testBit 2 = true := by decide +kernel
  exact key ⟨x, by omega⟩ h.1
theorem wLl (hp : wPr L T) {i j : Nat} (hi : i < 14) (h : (L i).testBit j = true) : j < i := by
  have a := hp.1 i hi
  have b := Nat.ge_two_pow_of_testBit h
  exact (Nat.pow_lt_pow_iff_right (a := 2) (by decide)).mp (by omega)
theorem wK42 {W l t : Nat} (hp : wPr L T) (hn : 1 ≤ n9) (hW : wWt T W) (h : wSub l W) (ht : t < 3) : wCan L T n9 (3 * wC l 14) l t :=
  wCan_ub hn (fun i hi j hj => wLl hp hi hj) (wC l 14) (h.lt hW.1) ht (fun i hi => wT3 ⟨hW.2 i (h i hi), hp.2 i (wb_lt (h.lt hW.1) hi)⟩) (Nat.le_refl _)
theorem wK42' {W l t : Nat} (hp : wPr L T) (hn : 1 ≤ n9) (hW : wWt T W) (h : wSub l W) (ht : t < 3) : ∃ K, K ≤ 42 ∧ wCan L T n9 K l t := ⟨3 * wC l 14, by have := wC_le l 14; omega, wK42 hp hn hW h ht⟩
/-- within three terms something may be taken -/
theorem wPot {W l t : Nat} (hp : wPr L T) (hW : wWt T W) (h : wSub l W) (hl : l ≠ 0) (ht : t < 3) : ∃ p, p ≤ 2 ∧ 1 ≤ wC (wF L T l ((t + p) % 3) 14) 14 := by
  obtain ⟨c, c1, c2⟩ := wLow hl
  have k4 := wb_lt (h.lt hW.1) c1
  have z : L c &&& l = 0 := wb_andz.mpr (fun j a b => c2 j (wLl hp k4 a) b)
  have fr : ∀ u, (T c).testBit u = true → 1 ≤ wC (wF L T l u 14) 14 := fun u q => wC_pos 14 k4 ((wF_b l u c 14).mpr ⟨k4, c1, z, q⟩)
  rcases wT3 ⟨hW.2 c (h c c1), hp.2 c k4⟩ with q | q | q
  · exact ⟨(3 - t) % 3, by omega, by rw [show (t + (3 - t) % 3) % 3 = 0 by omega]; exact fr 0 q⟩
  · exact ⟨(4 - t) % 3, by omega, by rw [show (t + (4 - t) % 3) % 3 = 1 by omega]; exact fr 1 q⟩
  · exact ⟨(5 - t) % 3, by omega, by rw [show (t + (5 - t) % 3) % 3 = 2 by omega]; exact fr 2 q⟩
/-- how deep it may be -/
noncomputable def wDp (L T : Nat → Nat) (l t : Nat) (d : Int) : Prop := l ≠ 0 → ∃ p : Nat, p ≤ 2 ∧ 1 ≤ wC (wF L T l ((t + p) % 3) 14) 14 ∧ d + 3 * (wC l 14 : Int) + p ≤ 46
theorem wDp_st {W l t S : Nat} {d : Int} (hp : wPr L T) (hn : 1 ≤ n9) (hW : wWt T W) (h : wSub l W) (hl : l ≠ 0) (ht : t < 3) (hd : wDp L T l t d) (hS : wFull L T n9 l t S) : wDp L T (l ^^^ S) ((t + 1) % 3) (d + 1) := fun hne => by
  obtain ⟨p, p1, p2, p3⟩ := hd hl
  have x := wC_xor hS.sub 14
  have y := hS.2
  by_cases z : wC (wF L T l t 14) 14 = 0
  · have S0 : S = 0 := wC_0 (hS.sub.lt (h.lt hW.1)) (by omega)
    rw [S0, Nat.xor_zero]
    have pp : p ≠ 0 := fun q => by rw [q, show (t + 0) % 3 = t by omega] at p2; omega
    exact ⟨p - 1, by omega, by rw [show ((t + 1) % 3 + (p - 1)) % 3 = (t + p) % 3 by omega]; exact p2, by omega⟩
  · obtain ⟨q, q1, q2⟩ := wPot hp hW (hS.sub.xor.tr h) hne (Nat.mod_lt (t + 1) (by decide) : (t + 1) % 3 < 3)
    exact ⟨q, q1, q2, by omega⟩
/-- a way of all from a term on begins with a full set -/
theorem wFw_some {W l t : Nat} (hp : wPr L T) (hn : 1 ≤ n9) (hW : wWt T W) (h : wSub l W) (ht : t < 3) : ∃ v, v ≤ 42 ∧ wFw L T n9 l t v := by
  obtain ⟨K, k1, k2⟩ := wK42' hp hn hW h ht
  obtain ⟨v, v1, v2⟩ := wFw_ex K k2
  exact ⟨v, by omega, v2⟩
end WK
section WL
variable {L T : Nat → Nat} {n9 : Nat} {M M' : zM}
theorem wfl_rd {x a : Int} (hx : 0 ≤ x ∧ x < 262144) (ha : 0 ≤ a ∧ a < 3) : zband (zbshr x (w32 (6 * a))) 63 = ((wfl a.toNat x : Nat) : Int) := by
  rw [w32_id (by omega), qbshr_N x (6 * a) (by omega) (by omega), show (6 * a).toNat = 6 * a.toNat by omega]
  have l : x.toNat / 2 ^ (6 * a.toNat) ≤ x.toNat := Nat.div_le_self _ _
  obtain ⟨y, hy⟩ : ∃ y, y = x.toNat / 2 ^ (6 * a.toNat) := ⟨_, rfl⟩
  rw [← hy] at l ⊢
  rw [qband_N (y : Int) 63 (by omega) (by decide), Int.toNat_natCast, show (63 : Int).toNat = 2 ^ 6 - 1 from rfl, Nat.and_two_pow_sub_one_eq_mod, hy]
  rfl
/-- the best so far -/
noncomputable def wBs (L T : Nat → Nat) (n9 l t : Nat) (b : Int) : Prop := b = 63 ∨ ∃ S u : Nat, wFull L T n9 l t S ∧ wFw L T n9 (l ^^^ S) ((t + 1) % 3) u ∧ b = (u : Int) + 1
theorem wFn {W l t : Nat} {b : Int} (hp : wPr L T) (hn : 1 ≤ n9) (hW : wWt T W) (h : wSub l W) (hl : l ≠ 0) (ht : t < 3) (hb : b = 63 ∨ ∃ S u : Nat, wFull L T n9 l t S ∧ wFw L T n9 (l ^^^ S) ((t + 1) % 3) u ∧ b = (u : Int) + 1) (all : ∀ S u : Nat, wFull L T n9 l t S → wFw L T n9 (l ^^^ S) ((t + 1) % 3) u → b ≤ (u : Int) + 1) : wFw L T n9 l t b.toNat ∧ 1 ≤ b ∧ b ≤ 42 := by
  obtain ⟨v, v1, v2⟩ := wFw_some hp hn hW h ht
  obtain ⟨S, u, s1, s2, s3⟩ := wFw_st hl v2
  have q := all S u s1 s2
  rcases hb with e | ⟨S', u', p1, p2, p3⟩
  · omega
  · refine ⟨wFw_mk hl ⟨S', u', p1, p2, by omega⟩ (fun S2 u2 r1 r2 => by have := all S2 u2 r1 r2; omega), by omega, by omega⟩
end WL
set_option maxHeartbeats 8000000 in
set_option maxRecDepth 100000 in
theorem fh_116_81 {n : Nat} {L T : Nat → Nat} {n9 W : Nat} (hp : wPr L T) (hn : 1 ≤ n9 ∧ n9 ≤ 4) (hW : wWt T W) : ∀ (N : Nat) {M : zM} (hw : wOk L T n9 M) (a1 a2 a3 : Int) (hN : (61 - a3).toNat < N) (h0 : 0 ≤ a1) (h1 : wSub a1.toNat W) (h2 : 0 ≤ a2 ∧ a2 < 3) (h3 : 0 ≤ a3) (hD : wDp L T a1.toNat a2.toNat a3) (hMe : wMe L T n9 W M), zH n (0, 0) 116 (0, zini [zR 81, .inl a1, .inl a2, .inl a3] 12, []) M (fun r M' => ∃ v : Nat, r = some (.inl (v : Int)) ∧ wFw L T n9 a1.toNat a2.toNat v ∧ v ≤ 42 ∧ wEq M' M ∧ wMe L T n9 W M') := by
  intro N
  induction N with
  | zero => intro M hw a1 a2 a3 hN; exact absurd hN (Nat.not_lt_zero _)
  | succ N ih =>
    intro M hw a1 a2 a3 hN h0 h1 h2 h3 hD hMe
    have hz := zp_116
    show zH n (0, 0) 116 (0, [zR 81, .inl a1, .inl a2, .inl a3, zN, zN, zN, zN, zN, zN, zN, zN], []) M _
    refine zH_wf_ne (pc := 1) (n' := 4) (t := 6) (L := [zR 81, .inl a1, .inl a2, .inl a3, zN, zN, zN, zN, zN, zN, zN, zN]) (st := []) (x := a1) 1 hz (by rfl) (fun hb1 => ?_) (fun hb1 => ?_)
    · skip
      have hne : a1.toNat ≠ 0 := by omega
      have hl14 := h1.lt hW.1
      obtain ⟨p, p1, p2, p3⟩ := hD hne
      refine zH_wi_gt (pc := 9) (n' := 12) (t := 25) (L := [zR 81, .inl a1, .inl a2, .inl a3, zN, zN, zN, zN, zN, zN, zN, zN]) (st := []) (x := a3) (y := 60) 2 hz (by rfl) (fun hb9 => ?_) (fun hb9 => ?_)
      · skip
        exact absurd hb9 (by omega)
      · skip
        refine zH_wf_lt (pc := 13) (n' := 16) (t := 25) (L := [zR 81, .inl a1, .inl a2, .inl a3, zN, zN, zN, zN, zN, zN, zN, zN]) (st := []) (x := a1) 1 hz (by rfl) (fun hb13 => ?_) (fun hb13 => ?_)
        · skip
          exact absurd hb13 (by omega)
        · skip
          refine zH_wi_lt (pc := 22) (n' := 25) (t := 28) (L := [zR 81, .inl a1, .inl a2, .inl a3, zN, zN, zN, zN, zN, zN, zN, zN]) (st := []) (x := a1) (y := 16384) 4 hz (by rfl) (fun hb22 => ?_) (fun hb22 => ?_)
          · skip
            have hme := hMe a1.toNat a2.toNat hne h1 (by omega)
            refine zH_w (c' := (33, [zR 81, .inl a1, .inl a2, .inl a3, zN, zN, zN, zN, zN, zN, zN, zN], [.inl a1, zR 82])) 3 hz rfl ?_
            refine zH_iald hz rfl rfl (.inl rfl) (fun hin33 => ?_)
            show zH n (0, 0) 116 (34, [zR 81, .inl a1, .inl a2, .inl a3, zN, zN, zN, zN, zN, zN, zN, zN], [.inl (M 82 (a1 : Int).toNat)]) M _
            refine zH_w (c' := (42, [zR 81, .inl a1, .inl a2, .inl a3, zN, zN, zN, zN, zN, zN, zN, zN], [.inl (zband (zbshr (M 82 (a1 : Int).toNat) (w32 (6 * a2))) 63)])) 6 hz rfl ?_
            rw [show zband (zbshr (M 82 (a1 : Int).toNat) (w32 (6 * a2))) 63 = ((wfl a2.toNat (M 82 a1.toNat) : Nat) : Int) from wfl_rd hme.1 h2]
            refine zH_w (c' := (46, [zR 81, .inl a1, .inl a2, .inl a3, .inl ((wfl a2.toNat (M 82 a1.toNat) : Nat) : Int), zN, zN, zN, zN, zN, zN, zN], [.inl ((wfl a2.toNat (M 82 a1.toNat) : Nat) : Int)])) 2 hz rfl ?_
            refine zH_wf_eq (pc := 46) (n' := 49) (t := 52) (L := [zR 81, .inl a1, .inl a2, .inl a3, .inl ((wfl a2.toNat (M 82 a1.toNat) : Nat) : Int), zN, zN, zN, zN, zN, zN, zN]) (st := []) (x := ((wfl a2.toNat (M 82 a1.toNat) : Nat) : Int)) 0 hz (by rfl) (fun hb46 => ?_) (fun hb46 => ?_)
            · skip
              refine zH_wE (c1 := (58, [zR 81, .inl a1, .inl a2, .inl a3, .inl ((wfl a2.toNat (M 82 a1.toNat) : Nat) : Int), zN, zN, zN, zN, zN, zN, zN], [])) 3 hz zp_117 (fh_117_81 hw hp a1 a2 (by omega) (by omega) (fun i q => hW.2 i (h1 i q))) (by rfl) ?_
              show zH n (0, 0) 116 (58, [zR 81, .inl a1, .inl a2, .inl a3, .inl ((wfl a2.toNat (M 82 a1.toNat) : Nat) : Int), zN, zN, zN, zN, zN, zN, zN], [.inl ((wF L T a1.toNat a2.toNat 14 : Nat) : Int)]) M _
              obtain ⟨F, hF⟩ : ∃ F, F = wF L T a1.toNat a2.toNat 14 := ⟨_, rfl⟩
              rw [← hF]
              have hF14 : F < 2 ^ 14 := by rw [hF]; exact wF_lt _ _
              have hFC : qpc 32 F = wC F 14 := wqC14 hF14 18
              have hFl : wSub F a1.toNat := by rw [hF]; exact wF_sb _ _
              have hC14 := wC_le F 14
              have hP14 := Nat.pow_le_pow_right (n := 2) (by decide) hC14
              have hP0 := Nat.two_pow_pos (wC F 14)
              refine zH_w (c' := (66, [zR 81, .inl a1, .inl a2, .inl a3, .inl ((wfl a2.toNat (M 82 a1.toNat) : Nat) : Int), .inl (F : Int), zN, zN, zN, zN, zN, zN], [.inl (F : Int), .inl (M 81 5)])) 4 hz rfl ?_
              refine zH_wE (c1 := (69, [zR 81, .inl a1, .inl a2, .inl a3, .inl ((wfl a2.toNat (M 82 a1.toNat) : Nat) : Int), .inl (F : Int), zN, zN, zN, zN, zN, zN], [.inl (M 81 5)])) 0 hz zp_296 (fh_296 (F : Int)) (by rfl) ?_
              show zH n (0, 0) 116 (69, [zR 81, .inl a1, .inl a2, .inl a3, .inl ((wfl a2.toNat (M 82 a1.toNat) : Nat) : Int), .inl (F : Int), zN, zN, zN, zN, zN, zN], [.inl (hf_296 M (F : Int)), .inl (M 81 5)]) M _
              rw [wbc hF14]
              refine zH_w (c' := (72, [zR 81, .inl a1, .inl a2, .inl a3, .inl ((wfl a2.toNat (M 82 a1.toNat) : Nat) : Int), .inl (F : Int), zN, zN, zN, zN, zN, zN], [.inl (if ((wC F 14 : Nat) : Int) < (M 81 5) then ((wC F 14 : Nat) : Int) else (M 81 5))])) 1 hz rfl ?_
              rw [show (if ((wC F 14 : Nat) : Int) < (M 81 5) then ((wC F 14 : Nat) : Int) else (M 81 5)) = ((min n9 (wC F 14) : Nat) : Int) from by rw [hw.2]; split <;> omega]
              refine zH_w (c' := (78, [zR 81, .inl a1, .inl a2, .inl a3, .inl ((wfl a2.toNat (M 82 a1.toNat) : Nat) : Int), .inl (F : Int), .inl ((min n9 (wC F 14) : Nat) : Int), zN, zN, zN, zN, zN], [.inl 3, .inl (w32 (a2 + 1))])) 5 hz rfl ?_
              refine zH_irem hz rfl (fun hdv78 => ?_)
              show zH n (0, 0) 116 (79, [zR 81, .inl a1, .inl a2, .inl a3, .inl ((wfl a2.toNat (M 82 a1.toNat) : Nat) : Int), .inl (F : Int), .inl ((min n9 (wC F 14) : Nat) : Int), zN, zN, zN, zN, zN], [.inl ((w32 (a2 + 1)).tmod 3)]) M _
              rw [show (w32 (a2 + 1)).tmod 3 = ((((a2.toNat + 1) % 3) : Nat) : Int) from by rw [w32_id (by omega), wmod _ (by omega), show (a2 + 1).toNat = a2.toNat + 1 by omega]]
              refine zH_w (c' := (84, [zR 81, .inl a1, .inl a2, .inl a3, .inl ((wfl a2.toNat (M 82 a1.toNat) : Nat) : Int), .inl (F : Int), .inl ((min n9 (wC F 14) : Nat) : Int), .inl ((((a2.toNat + 1) % 3) : Nat) : Int), zN, zN, zN, zN], [.inl a2, .inl a1, zR 81])) 4 hz rfl ?_
              refine zH_wC (c1 := (87, [zR 81, .inl a1, .inl a2, .inl a3, .inl ((wfl a2.toNat (M 82 a1.toNat) : Nat) : Int), .inl (F : Int), .inl ((min n9 (wC F 14) : Nat) : Int), .inl ((((a2.toNat + 1) % 3) : Nat) : Int), zN, zN, zN, zN], [])) 0 hz zp_119 (fh_119_81 hw hp hn a1 a2 (by omega) (by omega) (wK42' hp hn.1 hW h1 (by omega)) (fun i q => hW.2 i (h1 i q))) (by rfl) ?_
              rintro _ M1 ⟨l, rfl, l1, l2, l3⟩
              show zH n (0, 0) 116 (87, [zR 81, .inl a1, .inl a2, .inl a3, .inl ((wfl a2.toNat (M 82 a1.toNat) : Nat) : Int), .inl (F : Int), .inl ((min n9 (wC F 14) : Nat) : Int), .inl ((((a2.toNat + 1) % 3) : Nat) : Int), zN, zN, zN, zN], [.inl l]) M1 _
              have hw1 := hw.mv (M' := M1) (fun r q1 q2 q3 => l3 r q2 q3)
              refine zH_wE (c1 := (102, [zR 81, .inl a1, .inl a2, .inl a3, .inl ((wfl a2.toNat (M 82 a1.toNat) : Nat) : Int), .inl (F : Int), .inl ((min n9 (wC F 14) : Nat) : Int), .inl ((((a2.toNat + 1) % 3) : Nat) : Int), .inl l, .inl 63, .inl 0, zN], [.inl 1])) 7 hz zp_296 (fh_296 (F : Int)) (by rfl) ?_
              show zH n (0, 0) 116 (102, [zR 81, .inl a1, .inl a2, .inl a3, .inl ((wfl a2.toNat (M 82 a1.toNat) : Nat) : Int), .inl (F : Int), .inl ((min n9 (wC F 14) : Nat) : Int), .inl ((((a2.toNat + 1) % 3) : Nat) : Int), .inl l, .inl 63, .inl 0, zN], [.inl (hf_296 M1 (F : Int)), .inl 1]) M1 _
              rw [wbc hF14]
              refine zH_w (c' := (103, [zR 81, .inl a1, .inl a2, .inl a3, .inl ((wfl a2.toNat (M 82 a1.toNat) : Nat) : Int), .inl (F : Int), .inl ((min n9 (wC F 14) : Nat) : Int), .inl ((((a2.toNat + 1) % 3) : Nat) : Int), .inl l, .inl 63, .inl 0, zN], [.inl (zbshl 1 ((wC F 14 : Nat) : Int))])) 1 hz rfl ?_
              rw [show zbshl 1 ((wC F 14 : Nat) : Int) = ((2 ^ wC F 14 : Nat) : Int) from by
    have s := qbshl_N 1 ((wC F 14 : Nat) : Int) (by decide) (by omega) (by rw [Int.toNat_natCast]; show 1 * 2 ^ wC F 14 < 2 ^ 31; omega)
    rw [Int.toNat_natCast, show (1 : Int).toNat = 1 from rfl, Nat.one_mul] at s
    exact s]
              refine zH_w (c' := (105, [zR 81, .inl a1, .inl a2, .inl a3, .inl ((wfl a2.toNat (M 82 a1.toNat) : Nat) : Int), .inl (F : Int), .inl ((min n9 (wC F 14) : Nat) : Int), .inl ((((a2.toNat + 1) % 3) : Nat) : Int), .inl l, .inl 63, .inl 0, .inl ((2 ^ wC F 14 : Nat) : Int)], [])) 1 hz rfl ?_
              have lp105 : ∀ (N : Nat) (b : Int) (x : Int) (k : Int) (M5 : zM), (k.toNat) < N → (0 ≤ k ∧ k ≤ ((2 ^ wC F 14 : Nat) : Int)) → (0 ≤ x ∧ x.toNat &&& F = x.toNat ∧ (0 < k → (wK 32 F x.toNat : Int) + k = ((2 ^ wC F 14 : Nat) : Int))) → (wBs L T n9 a1.toNat a2.toNat b) → (∀ S u : Nat, wFull L T n9 a1.toNat a2.toNat S → (wK 32 F S : Int) + k < ((2 ^ wC F 14 : Nat) : Int) → wFw L T n9 (a1.toNat ^^^ S) ((a2.toNat + 1) % 3) u → b ≤ (u : Int) + 1) → (0 ≤ b ∧ b ≤ 63) → (wEq M5 M) → (wMe L T n9 W M5) → zH n (0, 0) 116 (105, [zR 81, .inl a1, .inl a2, .inl a3, .inl ((wfl a2.toNat (M 82 a1.toNat) : Nat) : Int), .inl (F : Int), .inl ((min n9 (wC F 14) : Nat) : Int), .inl ((((a2.toNat + 1) % 3) : Nat) : Int), .inl l, .inl b, .inl x, .inl k], []) M5 (fun r M' => ∃ v : Nat, r = some (.inl (v : Int)) ∧ wFw L T n9 a1.toNat a2.toNat v ∧ v ≤ 42 ∧ wEq M' M ∧ wMe L T n9 W M') := by
                intro N
                induction N with
                | zero => intro b x k M5 hN; exact absurd hN (Nat.not_lt_zero _)
                | succ N ih105 =>
                  intro b x k M5 hN hk hx hb9 hmin hb63 hQ hM5
                  have lp186 : ∀ (b3 : Int) (u10 : zV) (u11 : zV) (M9 : zM), (wFw L T n9 a1.toNat a2.toNat b3.toNat ∧ 1 ≤ b3 ∧ b3 ≤ 42) → (wEq M9 M) → (wMe L T n9 W M9) → zH n (0, 0) 116 (186, [zR 81, .inl a1, .inl a2, .inl a3, .inl ((wfl a2.toNat (M 82 a1.toNat) : Nat) : Int), .inl (F : Int), .inl ((min n9 (wC F 14) : Nat) : Int), .inl ((((a2.toNat + 1) % 3) : Nat) : Int), .inl l, .inl b3, u10, u11], []) M9 (fun r M' => ∃ v : Nat, r = some (.inl (v : Int)) ∧ wFw L T n9 a1.toNat a2.toNat v ∧ v ≤ 42 ∧ wEq M' M ∧ wMe L T n9 W M') := by
                    intro b3 u10 u11 M9 fb fQ fM
                    refine zH_w (c' := (192, [zR 81, .inl a1, .inl a2, .inl a3, .inl ((wfl a2.toNat (M 82 a1.toNat) : Nat) : Int), .inl (F : Int), .inl ((min n9 (wC F 14) : Nat) : Int), .inl ((((a2.toNat + 1) % 3) : Nat) : Int), .inl l, .inl b3, u10, u11], [.inl a1, zR 82, .inl a1, zR 82])) 4 hz rfl ?_
                    refine zH_iald hz rfl rfl (.inl rfl) (fun hin192 => ?_)
                    show zH n (0, 0) 116 (193, [zR 81, .inl a1, .inl a2, .inl a3, .inl ((wfl a2.toNat (M 82 a1.toNat) : Nat) : Int), .inl (F : Int), .inl ((min n9 (wC F 14) : Nat) : Int), .inl ((((a2.toNat + 1) % 3) : Nat) : Int), .inl l, .inl b3, u10, u11], [.inl (M9 82 (a1 : Int).toNat), .inl a1, zR 82]) M9 _
                    refine zH_w (c' := (201, [zR 81, .inl a1, .inl a2, .inl a3, .inl ((wfl a2.toNat (M 82 a1.toNat) : Nat) : Int), .inl (F : Int), .inl ((min n9 (wC F 14) : Nat) : Int), .inl ((((a2.toNat + 1) % 3) : Nat) : Int), .inl l, .inl b3, u10, u11], [.inl (zbor (M9 82 (a1 : Int).toNat) (zbshl b3 (w32 (6 * a2)))), .inl a1, zR 82])) 6 hz rfl ?_
                    obtain ⟨yv, hyv⟩ : ∃ x : Int, x = zbor (M9 82 (a1 : Int).toNat) (zbshl b3 (w32 (6 * a2))) := ⟨_, rfl⟩
                    rw [← hyv]
                    refine zH_iast hz rfl rfl (fun hin201 => ?_)
                    show zH n (0, 0) 116 (202, [zR 81, .inl a1, .inl a2, .inl a3, .inl ((wfl a2.toNat (M 82 a1.toNat) : Nat) : Int), .inl (F : Int), .inl ((min n9 (wC F 14) : Nat) : Int), .inl ((((a2.toNat + 1) % 3) : Nat) : Int), .inl l, .inl b3, u10, u11], []) (zput M9 82 (a1 : Int).toNat yv) _
                    obtain ⟨M10, hM10⟩ : ∃ X : zM, X = zput M9 82 (a1 : Int).toNat yv := ⟨_, rfl⟩
                    rw [← hM10]
                    have hme9 := fM a1.toNat a2.toNat hne h1 (by omega)
                    have hor := fun t (ht : t < 3) => wfl_or (M9 82 a1.toNat) b3.toNat a2.toNat t hme9.1 (by omega) (by omega) ht (hme9.2.imp id (fun q => wFw_u q fb.1)) yv (by rw [hyv, show ((b3.toNat : Nat) : Int) = b3 by omega, show ((a2.toNat : Nat) : Int) = a2 by omega])
                    have hQ10 : wEq M10 M := fun r q1 q2 q3 => by rw [hM10, zput_oth q1]; exact fQ r q1 q2 q3
                    have hMe10 : wMe L T n9 W M10 := fun m t m1 m2 m3 => by
                      rw [hM10]
                      by_cases e : m = a1.toNat
                      · rw [e, qput_eq]
                        have q := hor t m3
                        refine ⟨q.1, ?_⟩
                        rw [q.2]
                        by_cases et : t = a2.toNat
                        · rw [if_pos et, et]; exact .inr fb.1
                        · rw [if_neg et]; exact (fM a1.toNat t hne h1 m3).2
                      · rw [qput_nk e]; exact fM m t m1 m2 m3
                    refine zH_w (c' := (204, [zR 81, .inl a1, .inl a2, .inl a3, .inl ((wfl a2.toNat (M 82 a1.toNat) : Nat) : Int), .inl (F : Int), .inl ((min n9 (wC F 14) : Nat) : Int), .inl ((((a2.toNat + 1) % 3) : Nat) : Int), .inl l, .inl b3, u10, u11], [.inl b3])) 1 hz rfl ?_
                    exact zH_wr (r := some (.inl b3)) 0 hz (by rfl) (⟨b3.toNat, by rw [show ((b3.toNat : Nat) : Int) = b3 by omega], fb.1, by omega, hQ10, hMe10⟩)
                  refine zH_w (c' := (107, [zR 81, .inl a1, .inl a2, .inl a3, .inl ((wfl a2.toNat (M 82 a1.toNat) : Nat) : Int), .inl (F : Int), .inl ((min n9 (wC F 14) : Nat) : Int), .inl ((((a2.toNat + 1) % 3) : Nat) : Int), .inl l, .inl b, .inl x, .inl k], [.inl k])) 1 hz rfl ?_
                  refine zH_wf_le (pc := 107) (n' := 110) (t := 186) (L := [zR 81, .inl a1, .inl a2, .inl a3, .inl ((wfl a2.toNat (M 82 a1.toNat) : Nat) : Int), .inl (F : Int), .inl ((min n9 (wC F 14) : Nat) : Int), .inl ((((a2.toNat + 1) % 3) : Nat) : Int), .inl l, .inl b, .inl x, .inl k]) (st := []) (x := k) 0 hz (by rfl) (fun hb107 => ?_) (fun hb107 => ?_)
                  · skip
                    have fb1 : wFw L T n9 a1.toNat a2.toNat b.toNat ∧ 1 ≤ b ∧ b ≤ 42 := by
                      have all : ∀ S u : Nat, wFull L T n9 a1.toNat a2.toNat S → wFw L T n9 (a1.toNat ^^^ S) ((a2.toNat + 1) % 3) u → b ≤ (u : Int) + 1 := fun S u s1 s2 => hmin S u s1 (by
                        have q := wK_lt 32 F S
                        rw [hFC] at q
                        omega) s2
                      exact wFn hp hn.1 hW h1 hne (by omega) hb9 all
                    refine lp186 b (.inl x) (.inl k) M5 ?_ ?_ ?_
                    · exact fb1
                    · exact hQ
                    · exact hM5
                  · skip
                    refine zH_wi_le (pc := 114) (n' := 117) (t := 186) (L := [zR 81, .inl a1, .inl a2, .inl a3, .inl ((wfl a2.toNat (M 82 a1.toNat) : Nat) : Int), .inl (F : Int), .inl ((min n9 (wC F 14) : Nat) : Int), .inl ((((a2.toNat + 1) % 3) : Nat) : Int), .inl l, .inl b, .inl x, .inl k]) (st := []) (x := b) (y := l) 2 hz (by rfl) (fun hb114 => ?_) (fun hb114 => ?_)
                    · skip
                      have fb1 : wFw L T n9 a1.toNat a2.toNat b.toNat ∧ 1 ≤ b ∧ b ≤ 42 := by
                        have all : ∀ S u : Nat, wFull L T n9 a1.toNat a2.toNat S → wFw L T n9 (a1.toNat ^^^ S) ((a2.toNat + 1) % 3) u → b ≤ (u : Int) + 1 := fun S u s1 s2 => by
                          have q := l2 (u + 1) (.inr ⟨S, s1, s2.1⟩)
                          omega
                        exact wFn hp hn.1 hW h1 hne (by omega) hb9 all
                      refine lp186 b (.inl x) (.inl k) M5 ?_ ?_ ?_
                      · exact fb1
                      · exact hQ
                      · exact hM5
                    · skip
                      have hw5 := hw.mv hQ
                      have hxF : wSub x.toNat F := fun i q => by rw [← hx.2.1] at q; exact ((wb_and _ _ i).mp q).2
                      have hx14 : x.toNat < 2 ^ 14 := by have := w2_le hx.2.1; omega
                      have hxl := hxF.tr hFl
                      have lp170 : ∀ (b2 : Int) (M8 : zM), (wBs L T n9 a1.toNat a2.toNat b2) → (0 ≤ b2 ∧ b2 ≤ b) → (∀ u : Nat, wFull L T n9 a1.toNat a2.toNat x.toNat → wFw L T n9 (a1.toNat ^^^ x.toNat) ((a2.toNat + 1) % 3) u → b2 ≤ (u : Int) + 1) → (wEq M8 M) → (wMe L T n9 W M8) → zH n (0, 0) 116 (170, [zR 81, .inl a1, .inl a2, .inl a3, .inl ((wfl a2.toNat (M 82 a1.toNat) : Nat) : Int), .inl (F : Int), .inl ((min n9 (wC F 14) : Nat) : Int), .inl ((((a2.toNat + 1) % 3) : Nat) : Int), .inl l, .inl b2, .inl x, .inl k], []) M8 (fun r M' => ∃ v : Nat, r = some (.inl (v : Int)) ∧ wFw L T n9 a1.toNat a2.toNat v ∧ v ≤ 42 ∧ wEq M' M ∧ wMe L T n9 W M') := by
                        intro b2 M8 jb jle jx jQ jM
                        refine zH_w (c' := (178, [zR 81, .inl a1, .inl a2, .inl a3, .inl ((wfl a2.toNat (M 82 a1.toNat) : Nat) : Int), .inl (F : Int), .inl ((min n9 (wC F 14) : Nat) : Int), .inl ((((a2.toNat + 1) % 3) : Nat) : Int), .inl l, .inl b2, .inl x, .inl k], [.inl (zband (w32 (x - (F : Int))) (F : Int))])) 5 hz rfl ?_
                        rw [show zband (w32 (x - (F : Int))) (F : Int) = (((x.toNat + 2 ^ 32 - F) % 2 ^ 32 &&& F : Nat) : Int) from by
    have q := wz_sub (x := x) (F := (F : Int)) (by omega) (by omega)
    rw [Int.toNat_natCast] at q
    exact q]
                        have hnx := (wNx 32 (F := F) (x := x.toNat) (by omega) hx.2.1).2
                        rw [hFC] at hnx
                        have hkx := hx.2.2 (by omega)
                        obtain ⟨X, hX⟩ : ∃ X, X = (x.toNat + 2 ^ 32 - F) % 2 ^ 32 &&& F := ⟨_, rfl⟩
                        rw [← hX] at hnx ⊢
                        have hxn : 0 ≤ ((X : Nat) : Int) ∧ ((X : Nat) : Int).toNat &&& F = ((X : Nat) : Int).toNat ∧ (0 < k - 1 → (wK 32 F ((X : Nat) : Int).toNat : Int) + (k - 1) = ((2 ^ wC F 14 : Nat) : Int)) := by
                          rw [Int.toNat_natCast]
                          refine ⟨by omega, by rw [hX, Nat.and_assoc, Nat.and_self], fun q => ?_⟩
                          rw [hnx, if_neg (by omega)]; omega
                        have hb9n := jb
                        have hminn : ∀ S u : Nat, wFull L T n9 a1.toNat a2.toNat S → (wK 32 F S : Int) + (k - 1) < ((2 ^ wC F 14 : Nat) : Int) → wFw L T n9 (a1.toNat ^^^ S) ((a2.toNat + 1) % 3) u → b2 ≤ (u : Int) + 1 := fun S u s1 s2 s3 => by
                          by_cases e : (wK 32 F S : Int) + k < ((2 ^ wC F 14 : Nat) : Int)
                          · have := hmin S u s1 e s3; omega
                          · have sF : wSub S F := by rw [hF]; exact s1.1
                            have sA : S &&& F = S := Nat.eq_of_testBit_eq (fun i => by
                              have q := sF i
                              rw [Nat.testBit_and]
                              cases e1 : S.testBit i <;> cases e2 : F.testBit i <;> simp_all)
                            have es : S = x.toNat := wK_inj 32 (F := F) (by have := sF.lt hF14; omega) (by omega) sA hx.2.1 (by omega)
                            rw [es] at s1 s3
                            exact jx u s1 s3
                        have hb63n : 0 ≤ b2 ∧ b2 ≤ 63 := by omega
                        have hQn := jQ
                        have hMn := jM
                        refine zH_w (c' := (105, [zR 81, .inl a1, .inl a2, .inl a3, .inl ((wfl a2.toNat (M 82 a1.toNat) : Nat) : Int), .inl (F : Int), .inl ((min n9 (wC F 14) : Nat) : Int), .inl ((((a2.toNat + 1) % 3) : Nat) : Int), .inl l, .inl b2, .inl ((X : Nat) : Int), .inl (k - 1)], [])) 3 hz (by rw [show (.inl (k - 1) : zV) = .inl (w32 (k + (-1))) from by rw [w32_id (by omega)]; rfl]; rfl) ?_
                        refine ih105 b2 ((X : Nat) : Int) (k - 1) M8 (by omega) ?_ ?_ ?_ ?_ ?_ ?_ ?_
                        · omega
                        · exact hxn
                        · exact hb9n
                        · exact hminn
                        · exact hb63n
                        · exact hQn
                        · exact hMn
                      refine zH_wE (c1 := (122, [zR 81, .inl a1, .inl a2, .inl a3, .inl ((wfl a2.toNat (M 82 a1.toNat) : Nat) : Int), .inl (F : Int), .inl ((min n9 (wC F 14) : Nat) : Int), .inl ((((a2.toNat + 1) % 3) : Nat) : Int), .inl l, .inl b, .inl x, .inl k], [])) 1 hz zp_296 (fh_296 x) (by rfl) ?_
                      show zH n (0, 0) 116 (122, [zR 81, .inl a1, .inl a2, .inl a3, .inl ((wfl a2.toNat (M 82 a1.toNat) : Nat) : Int), .inl (F : Int), .inl ((min n9 (wC F 14) : Nat) : Int), .inl ((((a2.toNat + 1) % 3) : Nat) : Int), .inl l, .inl b, .inl x, .inl k], [.inl (hf_296 M5 x)]) M5 _
                      rw [show hf_296 M5 x = ((wC x.toNat 14 : Nat) : Int) from by have q := wbc (M := M5) hx14; rw [show ((x.toNat : Nat) : Int) = x by omega] at q; exact q]
                      refine zH_w (c' := (124, [zR 81, .inl a1, .inl a2, .inl a3, .inl ((wfl a2.toNat (M 82 a1.toNat) : Nat) : Int), .inl (F : Int), .inl ((min n9 (wC F 14) : Nat) : Int), .inl ((((a2.toNat + 1) % 3) : Nat) : Int), .inl l, .inl b, .inl x, .inl k], [.inl ((min n9 (wC F 14) : Nat) : Int), .inl ((wC x.toNat 14 : Nat) : Int)])) 1 hz rfl ?_
                      refine zH_wi_ne (pc := 124) (n' := 127) (t := 170) (L := [zR 81, .inl a1, .inl a2, .inl a3, .inl ((wfl a2.toNat (M 82 a1.toNat) : Nat) : Int), .inl (F : Int), .inl ((min n9 (wC F 14) : Nat) : Int), .inl ((((a2.toNat + 1) % 3) : Nat) : Int), .inl l, .inl b, .inl x, .inl k]) (st := []) (x := ((wC x.toNat 14 : Nat) : Int)) (y := ((min n9 (wC F 14) : Nat) : Int)) 0 hz (by rfl) (fun hb124 => ?_) (fun hb124 => ?_)
                      · skip
                        have jb1 := hb9
                        have jle1 : 0 ≤ b ∧ b ≤ b := by omega
                        have jx1 : ∀ u : Nat, wFull L T n9 a1.toNat a2.toNat x.toNat → wFw L T n9 (a1.toNat ^^^ x.toNat) ((a2.toNat + 1) % 3) u → b ≤ (u : Int) + 1 := fun u q _ => by
                          have q2 := q.2
                          rw [← hF] at q2
                          exact absurd (show ((wC x.toNat 14 : Nat) : Int) = ((min n9 (wC F 14) : Nat) : Int) by rw [q2]) hb124
                        have jQ1 := hQ
                        have jM1 := hM5
                        refine lp170 b M5 ?_ ?_ ?_ ?_ ?_
                        · exact jb1
                        · exact jle1
                        · exact jx1
                        · exact jQ1
                        · exact jM1
                      · skip
                        have hfx : wFull L T n9 a1.toNat a2.toNat x.toNat := ⟨by rw [← hF]; exact hxF, by rw [← hF]; omega⟩
                        have hlx : zband a1 (zbxor x (-1)) = ((a1.toNat ^^^ x.toNat : Nat) : Int) := by
                          rw [wz_less (by omega) (by omega)]
                          have z : a1.toNat &&& x.toNat = x.toNat := Nat.eq_of_testBit_eq (fun i => by
                            have q := hxl i
                            rw [Nat.testBit_and]
                            cases e1 : a1.toNat.testBit i <;> cases e2 : x.toNat.testBit i <;> simp_all)
                          rw [z]
                        have hsx : wSub (a1.toNat ^^^ x.toNat) W := hxl.xor.tr h1
                        have hx14b := hsx.lt hW.1
                        have hKx := wK42' (n9 := n9) hp hn.1 hW hsx (t := (a2.toNat + 1) % 3) (by omega)
                        refine zH_w (c' := (135, [zR 81, .inl a1, .inl a2, .inl a3, .inl ((wfl a2.toNat (M 82 a1.toNat) : Nat) : Int), .inl (F : Int), .inl ((min n9 (wC F 14) : Nat) : Int), .inl ((((a2.toNat + 1) % 3) : Nat) : Int), .inl l, .inl b, .inl x, .inl k], [.inl (zband a1 (zbxor x (-1))), zR 81, .inl 1])) 7 hz rfl ?_
                        rw [hlx]
                        refine zH_w (c' := (137, [zR 81, .inl a1, .inl a2, .inl a3, .inl ((wfl a2.toNat (M 82 a1.toNat) : Nat) : Int), .inl (F : Int), .inl ((min n9 (wC F 14) : Nat) : Int), .inl ((((a2.toNat + 1) % 3) : Nat) : Int), .inl l, .inl b, .inl x, .inl k], [.inl ((((a2.toNat + 1) % 3) : Nat) : Int), .inl ((a1.toNat ^^^ x.toNat : Nat) : Int), zR 81, .inl 1])) 1 hz rfl ?_
                        refine zH_wC (c1 := (140, [zR 81, .inl a1, .inl a2, .inl a3, .inl ((wfl a2.toNat (M 82 a1.toNat) : Nat) : Int), .inl (F : Int), .inl ((min n9 (wC F 14) : Nat) : Int), .inl ((((a2.toNat + 1) % 3) : Nat) : Int), .inl l, .inl b, .inl x, .inl k], [.inl 1])) 0 hz zp_119 (fh_119_81 hw5 hp hn ((a1.toNat ^^^ x.toNat : Nat) : Int) ((((a2.toNat + 1) % 3) : Nat) : Int) (by omega) (by omega) (by rw [Int.toNat_natCast, Int.toNat_natCast]; exact hKx) (fun i q => hW.2 i (hsx i (by rw [Int.toNat_natCast] at q; exact q)))) (by rfl) ?_
                        rintro _ M6 ⟨y, rfl, y1, y2, y3⟩
                        show zH n (0, 0) 116 (140, [zR 81, .inl a1, .inl a2, .inl a3, .inl ((wfl a2.toNat (M 82 a1.toNat) : Nat) : Int), .inl (F : Int), .inl ((min n9 (wC F 14) : Nat) : Int), .inl ((((a2.toNat + 1) % 3) : Nat) : Int), .inl l, .inl b, .inl x, .inl k], [.inl y, .inl 1]) M6 _
                        rw [Int.toNat_natCast, Int.toNat_natCast] at y2
                        have y42 : y ≤ 42 := by
                          obtain ⟨K9, q1, q2⟩ := hKx
                          have := y2 K9 q2
                          omega
                        have hQ6 : wEq M6 M := fun r q1 q2 q3 => (y3 r q2 q3).trans (hQ r q1 q2 q3)
                        have hM6 := hM5.mv (M' := M6) (y3 82 (by decide) (by decide))
                        refine zH_w (c' := (141, [zR 81, .inl a1, .inl a2, .inl a3, .inl ((wfl a2.toNat (M 82 a1.toNat) : Nat) : Int), .inl (F : Int), .inl ((min n9 (wC F 14) : Nat) : Int), .inl ((((a2.toNat + 1) % 3) : Nat) : Int), .inl l, .inl b, .inl x, .inl k], [.inl (w32 (1 + y))])) 1 hz rfl ?_
                        rw [show w32 (1 + y) = 1 + y from w32_id (by omega)]
                        refine zH_w (c' := (143, [zR 81, .inl a1, .inl a2, .inl a3, .inl ((wfl a2.toNat (M 82 a1.toNat) : Nat) : Int), .inl (F : Int), .inl ((min n9 (wC F 14) : Nat) : Int), .inl ((((a2.toNat + 1) % 3) : Nat) : Int), .inl l, .inl b, .inl x, .inl k], [.inl b, .inl (1 + y)])) 1 hz rfl ?_
                        refine zH_wi_ge (pc := 143) (n' := 146) (t := 170) (L := [zR 81, .inl a1, .inl a2, .inl a3, .inl ((wfl a2.toNat (M 82 a1.toNat) : Nat) : Int), .inl (F : Int), .inl ((min n9 (wC F 14) : Nat) : Int), .inl ((((a2.toNat + 1) % 3) : Nat) : Int), .inl l, .inl b, .inl x, .inl k]) (st := []) (x := (1 + y)) (y := b) 0 hz (by rfl) (fun hb143 => ?_) (fun hb143 => ?_)
                        · skip
                          have jb1 := hb9
                          have jle1 : 0 ≤ b ∧ b ≤ b := by omega
                          have jx1 : ∀ u : Nat, wFull L T n9 a1.toNat a2.toNat x.toNat → wFw L T n9 (a1.toNat ^^^ x.toNat) ((a2.toNat + 1) % 3) u → b ≤ (u : Int) + 1 := fun u _ q => by
                            have := y2 u q.1
                            omega
                          have jQ1 := hQ6
                          have jM1 := hM6
                          refine lp170 b M6 ?_ ?_ ?_ ?_ ?_
                          · exact jb1
                          · exact jle1
                          · exact jx1
                          · exact jQ1
                          · exact jM1
                        · skip
                          have hw6 := hw.mv hQ6
                          have hDx := wDp_st hp hn.1 hW h1 hne (by omega) hD hfx
                          refine zH_w (c' := (156, [zR 81, .inl a1, .inl a2, .inl a3, .inl ((wfl a2.toNat (M 82 a1.toNat) : Nat) : Int), .inl (F : Int), .inl ((min n9 (wC F 14) : Nat) : Int), .inl ((((a2.toNat + 1) % 3) : Nat) : Int), .inl l, .inl b, .inl x, .inl k], [.inl (zband a1 (zbxor x (-1))), zR 81, .inl 1, .inl b])) 8 hz rfl ?_
                          rw [hlx]
                          refine zH_w (c' := (161, [zR 81, .inl a1, .inl a2, .inl a3, .inl ((wfl a2.toNat (M 82 a1.toNat) : Nat) : Int), .inl (F : Int), .inl ((min n9 (wC F 14) : Nat) : Int), .inl ((((a2.toNat + 1) % 3) : Nat) : Int), .inl l, .inl b, .inl x, .inl k], [.inl (w32 (a3 + 1)), .inl ((((a2.toNat + 1) % 3) : Nat) : Int), .inl ((a1.toNat ^^^ x.toNat : Nat) : Int), zR 81, .inl 1, .inl b])) 4 hz rfl ?_
                          rw [show w32 (a3 + 1) = a3 + 1 from w32_id (by omega)]
                          refine zH_wC (c1 := (164, [zR 81, .inl a1, .inl a2, .inl a3, .inl ((wfl a2.toNat (M 82 a1.toNat) : Nat) : Int), .inl (F : Int), .inl ((min n9 (wC F 14) : Nat) : Int), .inl ((((a2.toNat + 1) % 3) : Nat) : Int), .inl l, .inl b, .inl x, .inl k], [.inl 1, .inl b])) 0 hz zp_116 (ih (M := M6) hw6 ((a1.toNat ^^^ x.toNat : Nat) : Int) ((((a2.toNat + 1) % 3) : Nat) : Int) (a3 + 1) (by omega) (by omega) (by rw [Int.toNat_natCast]; exact hsx) (by omega) (by omega) (by rw [Int.toNat_natCast, Int.toNat_natCast]; exact hDx) hM6) (by rfl) ?_
                          rintro _ M7 ⟨g, rfl, g1, g2, g3, g4⟩
                          show zH n (0, 0) 116 (164, [zR 81, .inl a1, .inl a2, .inl a3, .inl ((wfl a2.toNat (M 82 a1.toNat) : Nat) : Int), .inl (F : Int), .inl ((min n9 (wC F 14) : Nat) : Int), .inl ((((a2.toNat + 1) % 3) : Nat) : Int), .inl l, .inl b, .inl x, .inl k], [.inl (g : Int), .inl 1, .inl b]) M7 _
                          rw [Int.toNat_natCast, Int.toNat_natCast] at g1
                          refine zH_w (c' := (165, [zR 81, .inl a1, .inl a2, .inl a3, .inl ((wfl a2.toNat (M 82 a1.toNat) : Nat) : Int), .inl (F : Int), .inl ((min n9 (wC F 14) : Nat) : Int), .inl ((((a2.toNat + 1) % 3) : Nat) : Int), .inl l, .inl b, .inl x, .inl k], [.inl (w32 (1 + (g : Int))), .inl b])) 1 hz rfl ?_
                          rw [show w32 (1 + (g : Int)) = 1 + (g : Int) from w32_id (by omega)]
                          refine zH_w (c' := (168, [zR 81, .inl a1, .inl a2, .inl a3, .inl ((wfl a2.toNat (M 82 a1.toNat) : Nat) : Int), .inl (F : Int), .inl ((min n9 (wC F 14) : Nat) : Int), .inl ((((a2.toNat + 1) % 3) : Nat) : Int), .inl l, .inl b, .inl x, .inl k], [.inl (if (1 + (g : Int)) < b then (1 + (g : Int)) else b)])) 1 hz rfl ?_
                          obtain ⟨bb, hbb⟩ : ∃ x : Int, x = (if (1 + (g : Int)) < b then (1 + (g : Int)) else b) := ⟨_, rfl⟩
                          rw [← hbb]
                          have jb1 : wBs L T n9 a1.toNat a2.toNat bb := by
                            show bb = 63 ∨ ∃ S u : Nat, wFull L T n9 a1.toNat a2.toNat S ∧ wFw L T n9 (a1.toNat ^^^ S) ((a2.toNat + 1) % 3) u ∧ bb = (u : Int) + 1
                            rw [hbb]
                            split
                            · exact .inr ⟨x.toNat, g, hfx, g1, by omega⟩
                            · exact hb9
                          have jle1 : 0 ≤ bb ∧ bb ≤ b := by rw [hbb]; split <;> omega
                          have jx1 : ∀ u : Nat, wFull L T n9 a1.toNat a2.toNat x.toNat → wFw L T n9 (a1.toNat ^^^ x.toNat) ((a2.toNat + 1) % 3) u → bb ≤ (u : Int) + 1 := fun u _ q => by
                            have e := wFw_u q g1
                            rw [hbb, e]; split <;> omega
                          have jQ1 : wEq M7 M := fun r q1 q2 q3 => (g3 r q1 q2 q3).trans (hQ6 r q1 q2 q3)
                          have jM1 := g4
                          refine zH_w (c' := (170, [zR 81, .inl a1, .inl a2, .inl a3, .inl ((wfl a2.toNat (M 82 a1.toNat) : Nat) : Int), .inl (F : Int), .inl ((min n9 (wC F 14) : Nat) : Int), .inl ((((a2.toNat + 1) % 3) : Nat) : Int), .inl l, .inl bb, .inl x, .inl k], [])) 1 hz rfl ?_
                          refine lp170 bb M7 ?_ ?_ ?_ ?_ ?_
                          · exact jb1
                          · exact jle1
                          · exact jx1
                          · exact jQ1
                          · exact jM1
              refine lp105 (20000) 63 0 ((2 ^ wC F 14 : Nat) : Int) M1 (by omega) ?_ ?_ ?_ ?_ ?_ ?_ ?_
              · omega
              · exact ⟨by omega, Nat.zero_and _, fun _ => by rw [show (0 : Int).toNat = 0 from rfl, wK_0]; omega⟩
              · exact .inl rfl
              · exact fun S u q1 q2 => absurd q2 (by omega)
              · omega
              · exact fun r q1 q2 q3 => l3 r q2 q3
              · exact hMe.mv (l3 82 (by decide) (by decide))
            · skip
              have hf9 := hme.2.resolve_left (by omega)
              have hf42 : wfl a2.toNat (M 82 a1.toNat) ≤ 42 := by
                obtain ⟨K, k1, k2⟩ := wK42' (n9 := n9) hp hn.1 hW h1 (t := a2.toNat) (by omega)
                have := wFw_le hf9 k2
                omega
              exact zH_wr (r := some (.inl ((wfl a2.toNat (M 82 a1.toNat) : Nat) : Int))) 1 hz (by rfl) (⟨_, rfl, hf9, hf42, fun _ _ _ _ => rfl, hMe⟩)
          · skip
            exact absurd hb22 (by omega)
    · skip
      have hz0 : a1.toNat = 0 := by omega
      refine zH_w (c' := (5, [zR 81, .inl a1, .inl a2, .inl a3, zN, zN, zN, zN, zN, zN, zN, zN], [.inl 0])) 1 hz rfl ?_
      exact zH_wr (r := some (.inl 0)) 0 hz (by rfl) (⟨0, rfl, by rw [hz0]; exact wFw_0 _, by omega, fun _ _ _ _ => rfl, hMe⟩)
