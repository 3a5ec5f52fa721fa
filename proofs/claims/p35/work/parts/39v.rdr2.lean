/-! A TEXT READ: THE CLASS TO ITS END -/
theorem xrR_c (c : Nat → Int) (s e : Nat) (x : Int) (l : List Int) (v : Int) (a : Nat) (k : Bool) : xrR c s e (x :: l) v a k = if x = 32 then (if k = true ∧ a = e then v else xrR c s e l (v + 1) s true) else xrR c s e l v (a + 1) (k && decide (a < e) && decide (c a = x)) := rfl
theorem x98 {M : zM} {a : Int} : hf_98 M a = 0 ↔ ¬ (48 ≤ a ∧ a ≤ 57) := by unfold hf_98; (repeat' split) <;> constructor <;> intro h <;> omega
theorem x99 {M : zM} {a : Int} : hf_99 M a = 0 ↔ ¬ (97 ≤ a ∧ a ≤ 122) := by unfold hf_99; (repeat' split) <;> constructor <;> intro h <;> omega
theorem xwl_b : ∀ v : Fin 82, zband (xrWl.getD v.val 0) 255 % 65536 = xrWl.getD v.val 0 := by decide +kernel
set_option maxRecDepth 100000 in
theorem fh_310 {n : Nat} {M : zM} (a0 a1 : Int) (h1 : 0 ≤ a0 ∧ a0 < a1) : zH n (0, 0) 310 (0, zini [.inl a0, .inl a1, zN] 3, []) M (fun r M' => r = some (.inl a0) ∧ M' = M) := by
  have hz := zp_310
  show zH n (0, 0) 310 (0, [.inl a0, .inl a1, zN], []) M _
  refine zH_wf_lt (pc := 1) (n' := 4) (t := 9) (L := [.inl a0, .inl a1, zN]) (st := []) (x := a0) 1 hz (by rfl) (fun hb1 => ?_) (fun hb1 => ?_)
  · skip
    exact absurd h1.1 (by omega)
  · skip
    refine zH_wi_lt (pc := 6) (n' := 9) (t := 16) (L := [.inl a0, .inl a1, zN]) (st := []) (x := a0) (y := a1) 2 hz (by rfl) (fun hb6 => ?_) (fun hb6 => ?_)
    · skip
      exact zH_wr (r := some (.inl a0)) 1 hz (by rfl) (⟨rfl, rfl⟩)
    · skip
      exact absurd h1.2 (by omega)
set_option maxRecDepth 100000 in
theorem fh_305 {n : Nat} {M : zM} (a0 a1 : Int) (h1 : 0 ≤ a0 ∧ a0 < a1) : zH n (0, 0) 305 (0, zini [.inl a0, .inl a1] 2, []) M (fun r M' => r = none ∧ M' = M) := by
  have hz := zp_305
  show zH n (0, 0) 305 (0, [.inl a0, .inl a1], []) M _
  refine zH_wE (c1 := (8, [.inl a0, .inl a1], [])) 3 hz zp_310 (fh_310 a0 a1 h1) (by rfl) ?_
  show zH n (0, 0) 305 (8, [.inl a0, .inl a1], [.inl a0]) M _
  exact zH_wr (r := none) 1 hz (by rfl) (⟨rfl, rfl⟩)
set_option maxRecDepth 100000 in
theorem fh_306 {n : Nat} {M : zM} (hc : xCon M) (a1 : Int) (h1 : 0 ≤ a1 ∧ a1 < 82) : zH n (0, 0) 306 (0, zini [zR 5, .inl a1] 2, []) M (fun r M' => r = some (.inl (xrWl.getD a1.toNat 0)) ∧ M' = M) := by
  have hz := zp_306
  show zH n (0, 0) 306 (0, [zR 5, .inl a1], []) M _
  refine zH_wE (c1 := (6, [zR 5, .inl a1], [])) 3 hz zp_305 (fh_305 a1 82 h1) (by rfl) ?_
  show zH n (0, 0) 306 (6, [zR 5, .inl a1], []) M _
  refine zH_w (c' := (8, [zR 5, .inl a1], [.inl a1, zR 5])) 2 hz rfl ?_
  refine zH_bald hz rfl rfl (.inr rfl) (fun hin8 => ?_)
  show zH n (0, 0) 306 (9, [zR 5, .inl a1], [.inl (M 5 (a1 : Int).toNat)]) M _
  rw [hc.2.1 a1.toNat (by omega)]
  refine zH_w (c' := (14, [zR 5, .inl a1], [.inl ((zband (xrWl.getD a1.toNat 0) 255) % 65536)])) 3 hz rfl ?_
  exact zH_cret hz rfl (⟨by have q := xwl_b ⟨a1.toNat, by omega⟩; dsimp only at q; rw [q], rfl⟩)
set_option maxRecDepth 100000 in
theorem fh_299 {n : Nat} {M : zM} (hc : xCon M) (a1 : Int) (h1 : 0 ≤ a1 ∧ a1 < 82) : zH n (0, 0) 299 (0, zini [zR 4, .inl a1] 2, []) M (fun r M' => r = some (.inl (xrWl.getD a1.toNat 0)) ∧ M' = M) := by
  have hz := zp_299
  show zH n (0, 0) 299 (0, [zR 4, .inl a1], []) M _
  refine zH_wE (c1 := (4, [zR 4, .inl a1], [])) 1 hz zp_304 (fh_304_4) (by rfl) ?_
  show zH n (0, 0) 299 (4, [zR 4, .inl a1], [.inl (hf_304_4 M)]) M _
  rw [show hf_304_4 M = 1 from by unfold hf_304_4; (repeat' split) <;> first | rfl | (have := hc.1.1; omega)]
  refine zH_w (c' := (12, [zR 4, .inl a1], [.inl a1, zR 5])) 4 hz rfl ?_
  refine zH_wE (c1 := (15, [zR 4, .inl a1], [])) 0 hz zp_306 (fh_306 hc a1 h1) (by rfl) ?_
  show zH n (0, 0) 299 (15, [zR 4, .inl a1], [.inl (xrWl.getD a1.toNat 0)]) M _
  exact zH_cret hz rfl (⟨rfl, rfl⟩)
set_option maxRecDepth 100000 in
theorem fh_96_67 {n : Nat} {M : zM} {Mo : zM} {a : Int} (hp : xP Mo a) (hF : ∀ r, r ≠ 67 → r ≠ 69 → r ≠ 70 → r ≠ 71 → M r = Mo r) (ea : M 67 3 = a) {s e : Nat} (e5 : M 67 5 = s) (e6 : M 67 6 = e) (hse : s ≤ e ∧ e ≤ 80) : zH n (0, 0) 96 (0, zini [zR 67] 6, []) M (fun r M' => r = some (.inl (xrW (xc Mo a) s e)) ∧ M' = M) := by
  have hz := zp_96
  show zH n (0, 0) 96 (0, [zR 67, zN, zN, zN, zN, zN], []) M _
  have hc : xCon M := by
    have q := hp.2.2.2.1
    unfold xCon at q ⊢
    rw [hF 4 (by decide) (by decide) (by decide) (by decide), hF 6 (by decide) (by decide) (by decide) (by decide), hF 5 (by decide) (by decide) (by decide) (by decide), hF 7 (by decide) (by decide) (by decide) (by decide), hF 1 (by decide) (by decide) (by decide) (by decide)]
    exact q
  have f20 := hF 20 (by decide) (by decide) (by decide) (by decide)
  have f21 := hF 21 (by decide) (by decide) (by decide) (by decide)
  refine zH_w (c' := (6, [zR 67, .inl 0, zN, zN, zN, zN], [.inl (M 67 5)])) 4 hz rfl ?_
  rw [e5]
  refine zH_w (c' := (12, [zR 67, .inl 0, .inl ((s : Nat) : Int), .inl 1, .inl 0, zN], [])) 5 hz rfl ?_
  have lp12 : ∀ (N : Nat) (v : Int) (p : Int) (k : Int) (i : Int) (u5 : zV), ((82 - i).toNat) < N → (0 ≤ i ∧ i ≤ 82) → (0 ≤ p ∧ p ≤ 80 + i) → (0 ≤ v ∧ v ≤ i) → (k = 0 ∨ k = 1) → (xrR (xc Mo a) s e (xrWl.drop i.toNat) v p.toNat (decide (k = 1)) = xrW (xc Mo a) s e) → zH n (0, 0) 96 (12, [zR 67, .inl v, .inl p, .inl k, .inl i, u5], []) M (fun r M' => r = some (.inl (xrW (xc Mo a) s e)) ∧ M' = M) := by
    intro N
    induction N with
    | zero => intro v p k i u5 hN; exact absurd hN (Nat.not_lt_zero _)
    | succ N ih12 =>
      intro v p k i u5 hN hi hb hv hk hx
      refine zH_w (c' := (16, [zR 67, .inl v, .inl p, .inl k, .inl i, u5], [zR 4, .inl i])) 2 hz rfl ?_
      refine zH_wE (c1 := (19, [zR 67, .inl v, .inl p, .inl k, .inl i, u5], [.inl i])) 0 hz zp_302 (fh_302_4) (by rfl) ?_
      show zH n (0, 0) 96 (19, [zR 67, .inl v, .inl p, .inl k, .inl i, u5], [.inl (hf_302_4 M), .inl i]) M _
      rw [show hf_302_4 M = 82 from by unfold hf_302_4 hf_303_4; rw [hc.1.1]; rfl]
      refine zH_icmp_ge hz rfl (fun hb19 => ?_) (fun hb19 => ?_)
      · skip
        refine zH_w (c' := (103, [zR 67, .inl v, .inl p, .inl k, .inl i, u5], [.inl (-1)])) 1 hz rfl ?_
        exact zH_wr (r := some (.inl (-1))) 0 hz (by rfl) (⟨by rw [← hx, show i.toNat = 82 by omega]; rfl, rfl⟩)
      · skip
        have hlt : i.toNat < xrWl.length := by show i.toNat < 82; omega
        refine zH_w (c' := (26, [zR 67, .inl v, .inl p, .inl k, .inl i, u5], [.inl i, zR 4])) 2 hz rfl ?_
        refine zH_wE (c1 := (29, [zR 67, .inl v, .inl p, .inl k, .inl i, u5], [])) 0 hz zp_299 (fh_299 hc i (by omega)) (by rfl) ?_
        show zH n (0, 0) 96 (29, [zR 67, .inl v, .inl p, .inl k, .inl i, u5], [.inl (xrWl.getD i.toNat 0)]) M _
        obtain ⟨x, hx_⟩ : ∃ x : Int, x = xrWl.getD i.toNat 0 := ⟨_, rfl⟩
        rw [← hx_]
        have hd : xrWl.drop i.toNat = x :: xrWl.drop (i.toNat + 1) := by rw [List.drop_eq_getElem_cons hlt, hx_, List.getD_eq_getElem?_getD, List.getElem?_eq_getElem hlt]; rfl
        refine zH_w (c' := (35, [zR 67, .inl v, .inl p, .inl k, .inl i, .inl x], [.inl 32, .inl x])) 3 hz rfl ?_
        refine zH_wi_ne (pc := 35) (n' := 38) (t := 65) (L := [zR 67, .inl v, .inl p, .inl k, .inl i, .inl x]) (st := []) (x := x) (y := 32) 0 hz (by rfl) (fun hb35 => ?_) (fun hb35 => ?_)
        · skip
          have hx32 : ¬ x = 32 := hb35
          refine zH_wf_eq (pc := 66) (n' := 69) (t := 91) (L := [zR 67, .inl v, .inl p, .inl k, .inl i, .inl x]) (st := []) (x := k) 1 hz (by rfl) (fun hb66 => ?_) (fun hb66 => ?_)
          · skip
            refine zH_w (c' := (12, [zR 67, .inl v, .inl (p + 1), .inl 0, .inl (i + 1), .inl x], [])) 5 hz (by rw [show (.inl (p + 1) : zV) = .inl (w32 (p + 1)) from by rw [w32_id (by omega)], show (.inl (i + 1) : zV) = .inl (w32 (i + 1)) from by rw [w32_id (by omega)]]; rfl) ?_
            refine ih12 v (p + 1) 0 (i + 1) (.inl x) (by omega) ?_ ?_ ?_ ?_ ?_
            · omega
            · omega
            · omega
            · omega
            · refine Eq.trans ?_ hx
              rw [show (i + 1).toNat = i.toNat + 1 by omega, hd, xrR_c]
              first
                | (rw [if_pos hx32, if_neg (fun q => absurd (of_decide_eq_true q.1) (by omega)), show ((s : Nat) : Int).toNat = s by omega]; rfl)
                | (rw [if_pos hx32, if_neg (fun q => hb47 (by have := q.2; omega)), show ((s : Nat) : Int).toNat = s by omega]; rfl)
                | (rw [if_neg hx32, show (p + 1).toNat = p.toNat + 1 by omega, show decide (k = 1) = false from decide_eq_false (by omega)]; rfl)
                | (rw [if_neg hx32, show (p + 1).toNat = p.toNat + 1 by omega, show decide (p.toNat < e) = false from decide_eq_false (by omega), Bool.and_false]; rfl)
                | (rw [if_neg hx32, show (p + 1).toNat = p.toNat + 1 by omega, show decide (xc Mo a p.toNat = x) = false from decide_eq_false hb84, Bool.and_false]; rfl)
                | (rw [if_neg hx32, show (p + 1).toNat = p.toNat + 1 by omega, show decide (k = 1) = true from decide_eq_true (by omega), show decide (p.toNat < e) = true from decide_eq_true (by omega), show decide (xc Mo a p.toNat = x) = true from decide_eq_true (by omega)]; rfl)
          · skip
            refine zH_w (c' := (74, [zR 67, .inl v, .inl p, .inl k, .inl i, .inl x], [.inl (M 67 6), .inl p])) 3 hz rfl ?_
            rw [e6]
            refine zH_icmp_ge hz rfl (fun hb74 => ?_) (fun hb74 => ?_)
            · skip
              refine zH_w (c' := (12, [zR 67, .inl v, .inl (p + 1), .inl 0, .inl (i + 1), .inl x], [])) 5 hz (by rw [show (.inl (p + 1) : zV) = .inl (w32 (p + 1)) from by rw [w32_id (by omega)], show (.inl (i + 1) : zV) = .inl (w32 (i + 1)) from by rw [w32_id (by omega)]]; rfl) ?_
              refine ih12 v (p + 1) 0 (i + 1) (.inl x) (by omega) ?_ ?_ ?_ ?_ ?_
              · omega
              · omega
              · omega
              · omega
              · refine Eq.trans ?_ hx
                rw [show (i + 1).toNat = i.toNat + 1 by omega, hd, xrR_c]
                first
                  | (rw [if_pos hx32, if_neg (fun q => absurd (of_decide_eq_true q.1) (by omega)), show ((s : Nat) : Int).toNat = s by omega]; rfl)
                  | (rw [if_pos hx32, if_neg (fun q => hb47 (by have := q.2; omega)), show ((s : Nat) : Int).toNat = s by omega]; rfl)
                  | (rw [if_neg hx32, show (p + 1).toNat = p.toNat + 1 by omega, show decide (k = 1) = false from decide_eq_false (by omega)]; rfl)
                  | (rw [if_neg hx32, show (p + 1).toNat = p.toNat + 1 by omega, show decide (p.toNat < e) = false from decide_eq_false (by omega), Bool.and_false]; rfl)
                  | (rw [if_neg hx32, show (p + 1).toNat = p.toNat + 1 by omega, show decide (xc Mo a p.toNat = x) = false from decide_eq_false hb84, Bool.and_false]; rfl)
                  | (rw [if_neg hx32, show (p + 1).toNat = p.toNat + 1 by omega, show decide (k = 1) = true from decide_eq_true (by omega), show decide (p.toNat < e) = true from decide_eq_true (by omega), show decide (xc Mo a p.toNat = x) = true from decide_eq_true (by omega)]; rfl)
            · skip
              refine zH_w (c' := (79, [zR 67, .inl v, .inl p, .inl k, .inl i, .inl x], [.inl p, zR 67])) 2 hz rfl ?_
              refine zH_wE (c1 := (82, [zR 67, .inl v, .inl p, .inl k, .inl i, .inl x], [])) 0 hz zp_97 (fh_97_67 p) (by rfl) ?_
              show zH n (0, 0) 96 (82, [zR 67, .inl v, .inl p, .inl k, .inl i, .inl x], [.inl (hf_97_67 M p)]) M _
              rw [show hf_97_67 M p = xc Mo a p.toNat from by have q := xS.letter hp f20 f21 ea (j := p.toNat) (by omega); rw [show ((p.toNat : Nat) : Int) = p by omega] at q; exact q]
              refine zH_w (c' := (84, [zR 67, .inl v, .inl p, .inl k, .inl i, .inl x], [.inl x, .inl (xc Mo a p.toNat)])) 1 hz rfl ?_
              refine zH_wi_ne (pc := 84) (n' := 87) (t := 91) (L := [zR 67, .inl v, .inl p, .inl k, .inl i, .inl x]) (st := []) (x := (xc Mo a p.toNat)) (y := x) 0 hz (by rfl) (fun hb84 => ?_) (fun hb84 => ?_)
              · skip
                refine zH_w (c' := (12, [zR 67, .inl v, .inl (p + 1), .inl 0, .inl (i + 1), .inl x], [])) 5 hz (by rw [show (.inl (p + 1) : zV) = .inl (w32 (p + 1)) from by rw [w32_id (by omega)], show (.inl (i + 1) : zV) = .inl (w32 (i + 1)) from by rw [w32_id (by omega)]]; rfl) ?_
                refine ih12 v (p + 1) 0 (i + 1) (.inl x) (by omega) ?_ ?_ ?_ ?_ ?_
                · omega
                · omega
                · omega
                · omega
                · refine Eq.trans ?_ hx
                  rw [show (i + 1).toNat = i.toNat + 1 by omega, hd, xrR_c]
                  first
                    | (rw [if_pos hx32, if_neg (fun q => absurd (of_decide_eq_true q.1) (by omega)), show ((s : Nat) : Int).toNat = s by omega]; rfl)
                    | (rw [if_pos hx32, if_neg (fun q => hb47 (by have := q.2; omega)), show ((s : Nat) : Int).toNat = s by omega]; rfl)
                    | (rw [if_neg hx32, show (p + 1).toNat = p.toNat + 1 by omega, show decide (k = 1) = false from decide_eq_false (by omega)]; rfl)
                    | (rw [if_neg hx32, show (p + 1).toNat = p.toNat + 1 by omega, show decide (p.toNat < e) = false from decide_eq_false (by omega), Bool.and_false]; rfl)
                    | (rw [if_neg hx32, show (p + 1).toNat = p.toNat + 1 by omega, show decide (xc Mo a p.toNat = x) = false from decide_eq_false hb84, Bool.and_false]; rfl)
                    | (rw [if_neg hx32, show (p + 1).toNat = p.toNat + 1 by omega, show decide (k = 1) = true from decide_eq_true (by omega), show decide (p.toNat < e) = true from decide_eq_true (by omega), show decide (xc Mo a p.toNat = x) = true from decide_eq_true (by omega)]; rfl)
              · skip
                refine zH_w (c' := (12, [zR 67, .inl v, .inl (p + 1), .inl 1, .inl (i + 1), .inl x], [])) 6 hz (by rw [show (.inl (p + 1) : zV) = .inl (w32 (p + 1)) from by rw [w32_id (by omega)], show (.inl (i + 1) : zV) = .inl (w32 (i + 1)) from by rw [w32_id (by omega)]]; rfl) ?_
                refine ih12 v (p + 1) 1 (i + 1) (.inl x) (by omega) ?_ ?_ ?_ ?_ ?_
                · omega
                · omega
                · omega
                · omega
                · refine Eq.trans ?_ hx
                  rw [show (i + 1).toNat = i.toNat + 1 by omega, hd, xrR_c]
                  first
                    | (rw [if_pos hx32, if_neg (fun q => absurd (of_decide_eq_true q.1) (by omega)), show ((s : Nat) : Int).toNat = s by omega]; rfl)
                    | (rw [if_pos hx32, if_neg (fun q => hb47 (by have := q.2; omega)), show ((s : Nat) : Int).toNat = s by omega]; rfl)
                    | (rw [if_neg hx32, show (p + 1).toNat = p.toNat + 1 by omega, show decide (k = 1) = false from decide_eq_false (by omega)]; rfl)
                    | (rw [if_neg hx32, show (p + 1).toNat = p.toNat + 1 by omega, show decide (p.toNat < e) = false from decide_eq_false (by omega), Bool.and_false]; rfl)
                    | (rw [if_neg hx32, show (p + 1).toNat = p.toNat + 1 by omega, show decide (xc Mo a p.toNat = x) = false from decide_eq_false hb84, Bool.and_false]; rfl)
                    | (rw [if_neg hx32, show (p + 1).toNat = p.toNat + 1 by omega, show decide (k = 1) = true from decide_eq_true (by omega), show decide (p.toNat < e) = true from decide_eq_true (by omega), show decide (xc Mo a p.toNat = x) = true from decide_eq_true (by omega)]; rfl)
        · skip
          have hx32 : x = 32 := by omega
          refine zH_wf_eq (pc := 39) (n' := 42) (t := 52) (L := [zR 67, .inl v, .inl p, .inl k, .inl i, .inl x]) (st := []) (x := k) 1 hz (by rfl) (fun hb39 => ?_) (fun hb39 => ?_)
          · skip
            refine zH_w (c' := (59, [zR 67, .inl (v + 1), .inl p, .inl k, .inl i, .inl x], [.inl (M 67 5)])) 3 hz (by rw [show (.inl (v + 1) : zV) = .inl (w32 (v + 1)) from by rw [w32_id (by omega)]]; rfl) ?_
            rw [e5]
            refine zH_w (c' := (12, [zR 67, .inl (v + 1), .inl ((s : Nat) : Int), .inl 1, .inl (i + 1), .inl x], [])) 6 hz (by rw [show (.inl (i + 1) : zV) = .inl (w32 (i + 1)) from by rw [w32_id (by omega)]]; rfl) ?_
            refine ih12 (v + 1) ((s : Nat) : Int) 1 (i + 1) (.inl x) (by omega) ?_ ?_ ?_ ?_ ?_
            · omega
            · omega
            · omega
            · omega
            · refine Eq.trans ?_ hx
              rw [show (i + 1).toNat = i.toNat + 1 by omega, hd, xrR_c]
              first
                | (rw [if_pos hx32, if_neg (fun q => absurd (of_decide_eq_true q.1) (by omega)), show ((s : Nat) : Int).toNat = s by omega]; rfl)
                | (rw [if_pos hx32, if_neg (fun q => hb47 (by have := q.2; omega)), show ((s : Nat) : Int).toNat = s by omega]; rfl)
                | (rw [if_neg hx32, show (p + 1).toNat = p.toNat + 1 by omega, show decide (k = 1) = false from decide_eq_false (by omega)]; rfl)
                | (rw [if_neg hx32, show (p + 1).toNat = p.toNat + 1 by omega, show decide (p.toNat < e) = false from decide_eq_false (by omega), Bool.and_false]; rfl)
                | (rw [if_neg hx32, show (p + 1).toNat = p.toNat + 1 by omega, show decide (xc Mo a p.toNat = x) = false from decide_eq_false hb84, Bool.and_false]; rfl)
                | (rw [if_neg hx32, show (p + 1).toNat = p.toNat + 1 by omega, show decide (k = 1) = true from decide_eq_true (by omega), show decide (p.toNat < e) = true from decide_eq_true (by omega), show decide (xc Mo a p.toNat = x) = true from decide_eq_true (by omega)]; rfl)
          · skip
            refine zH_w (c' := (47, [zR 67, .inl v, .inl p, .inl k, .inl i, .inl x], [.inl (M 67 6), .inl p])) 3 hz rfl ?_
            rw [e6]
            refine zH_icmp_ne hz rfl (fun hb47 => ?_) (fun hb47 => ?_)
            · skip
              refine zH_w (c' := (59, [zR 67, .inl (v + 1), .inl p, .inl k, .inl i, .inl x], [.inl (M 67 5)])) 3 hz (by rw [show (.inl (v + 1) : zV) = .inl (w32 (v + 1)) from by rw [w32_id (by omega)]]; rfl) ?_
              rw [e5]
              refine zH_w (c' := (12, [zR 67, .inl (v + 1), .inl ((s : Nat) : Int), .inl 1, .inl (i + 1), .inl x], [])) 6 hz (by rw [show (.inl (i + 1) : zV) = .inl (w32 (i + 1)) from by rw [w32_id (by omega)]]; rfl) ?_
              refine ih12 (v + 1) ((s : Nat) : Int) 1 (i + 1) (.inl x) (by omega) ?_ ?_ ?_ ?_ ?_
              · omega
              · omega
              · omega
              · omega
              · refine Eq.trans ?_ hx
                rw [show (i + 1).toNat = i.toNat + 1 by omega, hd, xrR_c]
                first
                  | (rw [if_pos hx32, if_neg (fun q => absurd (of_decide_eq_true q.1) (by omega)), show ((s : Nat) : Int).toNat = s by omega]; rfl)
                  | (rw [if_pos hx32, if_neg (fun q => hb47 (by have := q.2; omega)), show ((s : Nat) : Int).toNat = s by omega]; rfl)
                  | (rw [if_neg hx32, show (p + 1).toNat = p.toNat + 1 by omega, show decide (k = 1) = false from decide_eq_false (by omega)]; rfl)
                  | (rw [if_neg hx32, show (p + 1).toNat = p.toNat + 1 by omega, show decide (p.toNat < e) = false from decide_eq_false (by omega), Bool.and_false]; rfl)
                  | (rw [if_neg hx32, show (p + 1).toNat = p.toNat + 1 by omega, show decide (xc Mo a p.toNat = x) = false from decide_eq_false hb84, Bool.and_false]; rfl)
                  | (rw [if_neg hx32, show (p + 1).toNat = p.toNat + 1 by omega, show decide (k = 1) = true from decide_eq_true (by omega), show decide (p.toNat < e) = true from decide_eq_true (by omega), show decide (xc Mo a p.toNat = x) = true from decide_eq_true (by omega)]; rfl)
            · skip
              refine zH_w (c' := (51, [zR 67, .inl v, .inl p, .inl k, .inl i, .inl x], [.inl v])) 1 hz rfl ?_
              exact zH_wr (r := some (.inl v)) 0 hz (by rfl) (⟨by rw [← hx, hd, xrR_c, if_pos hx32, if_pos ⟨decide_eq_true (by omega), by omega⟩], rfl⟩)
  refine lp12 (83) 0 ((s : Nat) : Int) 1 0 zN (by omega) ?_ ?_ ?_ ?_ ?_
  · omega
  · omega
  · omega
  · omega
  · rw [show ((s : Nat) : Int).toNat = s by omega]; rfl
set_option maxRecDepth 100000 in
theorem fh_94_67 {n : Nat} {M : zM} {Mo : zM} {a : Int} (hp : xP Mo a) (hF : ∀ r, r ≠ 67 → r ≠ 69 → r ≠ 70 → r ≠ 71 → M r = Mo r) (ea : M 67 3 = a) (eL : M 67 4 = (xL Mo a : Int)) {s : Nat} (e6 : M 67 6 = s) (hs : s ≤ xL Mo a) : zH n (0, 0) 94 (0, zini [zR 67] 1, []) M (fun r M' => r = none ∧ (∀ r, r ≠ 67 → M' r = M r) ∧ M' 67 6 = (xrD (xc Mo a) (xL Mo a - s) s : Nat) ∧ M' 67 7 = 24 ∧ M' 67 8 = xrV (xc Mo a) s (xrD (xc Mo a) (xL Mo a - s) s - s) ∧ ∀ f, f ≠ 6 → f ≠ 7 → f ≠ 8 → M' 67 f = M 67 f) := by
  have hz := zp_94
  show zH n (0, 0) 94 (0, [zR 67], []) M _
  have hL := hp.len
  have f20 := hF 20 (by decide) (by decide) (by decide) (by decide)
  have f21 := hF 21 (by decide) (by decide) (by decide) (by decide)
  refine zH_w (c' := (11, [zR 67], [])) 6 hz rfl ?_
  have e60 : zput (zput M 67 7 24) 67 8 0 67 6 = M 67 6 := by rw [qput_nk (by decide), qput_nk (by decide)]
  have lp11 : ∀ (N : Nat) (M5 : zM), ((100 - M5 67 6).toNat) < N → (∃ j : Nat, s ≤ j ∧ j ≤ xL Mo a ∧ M5 67 6 = j ∧ M5 67 8 = xrV (xc Mo a) s (j - s) ∧ xrD (xc Mo a) (xL Mo a - j) j = xrD (xc Mo a) (xL Mo a - s) s) → (∀ r, r ≠ 67 → M5 r = M r) → (M5 67 7 = 24) → (∀ f, f ≠ 6 → f ≠ 7 → f ≠ 8 → M5 67 f = M 67 f) → zH n (0, 0) 94 (11, [zR 67], []) M5 (fun r M' => r = none ∧ (∀ r, r ≠ 67 → M' r = M r) ∧ M' 67 6 = (xrD (xc Mo a) (xL Mo a - s) s : Nat) ∧ M' 67 7 = 24 ∧ M' 67 8 = xrV (xc Mo a) s (xrD (xc Mo a) (xL Mo a - s) s - s) ∧ ∀ f, f ≠ 6 → f ≠ 7 → f ≠ 8 → M' 67 f = M 67 f) := by
    intro N
    induction N with
    | zero => intro M5 hN; exact absurd hN (Nat.not_lt_zero _)
    | succ N ih11 =>
      intro M5 hN hj hO h7 hG
      obtain ⟨j, g1, g2, g3, g4, g5⟩ := hj
      have l4 : M5 67 4 = (xL Mo a : Int) := (hG 4 (by decide) (by decide) (by decide)).trans eL
      have let5 : j < 80 → hf_97_67 M5 (M5 67 6) = xc Mo a j := fun q => by rw [g3]; exact xS.letter hp ((hO 20 (by decide)).trans f20) ((hO 21 (by decide)).trans f21) ((hG 3 (by decide) (by decide) (by decide)).trans ea) q
      refine zH_w (c' := (19, [zR 67], [.inl (M5 67 4), .inl (M5 67 6)])) 4 hz rfl ?_
      refine zH_wi_ge (pc := 19) (n' := 22) (t := 72) (L := [zR 67]) (st := []) (x := (M5 67 6)) (y := (M5 67 4)) 0 hz (by rfl) (fun hb19 => ?_) (fun hb19 => ?_)
      · skip
        exact zH_wr (r := none) 0 hz (by rfl) (⟨rfl, hO, by rw [← g5, g3, xrD_n (by first | (intro q; omega) | (intro _; exact hb33))], h7, by rw [← g5, xrD_n (by first | (intro q; omega) | (intro _; exact hb33))]; exact g4, hG⟩)
      · skip
        refine zH_wE (c1 := (30, [zR 67], [])) 3 hz zp_97 (fh_97_67 (M5 67 6)) (by rfl) ?_
        show zH n (0, 0) 94 (30, [zR 67], [.inl (hf_97_67 M5 (M5 67 6))]) M5 _
        rw [let5 (by omega)]
        refine zH_wE (c1 := (33, [zR 67], [])) 0 hz zp_98 (fh_98 (xc Mo a j)) (by rfl) ?_
        show zH n (0, 0) 94 (33, [zR 67], [.inl (hf_98 M5 (xc Mo a j))]) M5 _
        obtain ⟨y, hy⟩ : ∃ x : Int, x = (hf_98 M5 (xc Mo a j)) := ⟨_, rfl⟩
        rw [← hy]
        refine zH_if_eq hz rfl (fun hb33 => ?_) (fun hb33 => ?_)
        · skip
          rw [hy, x98] at hb33
          exact zH_ret hz rfl rfl (⟨rfl, hO, by rw [← g5, g3, xrD_n (by first | (intro q; omega) | (intro _; exact hb33))], h7, by rw [← g5, xrD_n (by first | (intro q; omega) | (intro _; exact hb33))]; exact g4, hG⟩)
        · skip
          rw [hy, x98] at hb33
          have hdg : 48 ≤ xc Mo a j ∧ xc Mo a j ≤ 57 := by omega
          refine zH_w (c' := (49, [zR 67], [.inl (M5 67 6), zR 67, .inl (w32 (10 * (M5 67 8))), zR 67])) 8 hz rfl ?_
          refine zH_wE (c1 := (52, [zR 67], [.inl (w32 (10 * (M5 67 8))), zR 67])) 0 hz zp_97 (fh_97_67 (M5 67 6)) (by rfl) ?_
          show zH n (0, 0) 94 (52, [zR 67], [.inl (hf_97_67 M5 (M5 67 6)), .inl (w32 (10 * (M5 67 8))), zR 67]) M5 _
          rw [let5 (by omega)]
          refine zH_w (c' := (69, [zR 67], [])) 10 hz rfl ?_
          have e69 : zput (zput M5 67 8 (w32 ((w32 ((w32 (10 * (M5 67 8))) + (xc Mo a j))) - 48))) 67 6 (w32 (((zput M5 67 8 (w32 ((w32 ((w32 (10 * (M5 67 8))) + (xc Mo a j))) - 48))) 67 6) + 1)) 67 6 = M5 67 6 + 1 := by rw [qput_eq, qput_nk (by decide), w32_id (by omega)]
          refine zH_w (c' := (11, [zR 67], [])) 1 hz rfl ?_
          refine ih11 (zput (zput M5 67 8 (w32 ((w32 ((w32 (10 * (M5 67 8))) + (xc Mo a j))) - 48))) 67 6 (w32 (((zput M5 67 8 (w32 ((w32 ((w32 (10 * (M5 67 8))) + (xc Mo a j))) - 48))) 67 6) + 1))) (by omega) ?_ ?_ ?_ ?_
          · refine ⟨j + 1, by omega, by omega, ?_, ?_, ?_⟩
            · rw [qput_eq, qput_nk (by decide), g3, w32_id (by omega)]; omega
            · rw [qput_nk (by decide), qput_eq, show j + 1 - s = (j - s) + 1 by omega, g4]; show _ = w32 (w32 (w32 (10 * xrV (xc Mo a) s (j - s)) + xc Mo a (s + (j - s))) - 48); rw [show s + (j - s) = j by omega]
            · rw [← g5]; exact (xrD_y (by omega) hdg).symm
          · exact fun r hr => (zput_oth hr).trans ((zput_oth hr).trans (hO r hr))
          · rw [qput_nk (by decide), qput_nk (by decide)]; exact h7
          · exact fun f q1 q2 q3 => by rw [qput_nk q1, qput_nk q3]; exact hG f q1 q2 q3
  refine lp11 (102) (zput (zput M 67 7 24) 67 8 0) (by omega) ?_ ?_ ?_ ?_
  · refine ⟨s, Nat.le_refl _, hs, ?_, ?_, rfl⟩
    · rw [qput_nk (by decide), qput_nk (by decide)]; exact e6
    · rw [qput_eq, Nat.sub_self]; rfl
  · exact fun r hr => (zput_oth hr).trans (zput_oth hr)
  · rw [qput_nk (by decide), qput_eq]
  · exact fun f q1 q2 q3 => by rw [qput_nk q3, qput_nk q2]
set_option maxRecDepth 100000 in
theorem fh_95_67 {n : Nat} {M : zM} {Mo : zM} {a : Int} (hp : xP Mo a) (hF : ∀ r, r ≠ 67 → r ≠ 69 → r ≠ 70 → r ≠ 71 → M r = Mo r) (ea : M 67 3 = a) (eL : M 67 4 = (xL Mo a : Int)) {s : Nat} (e5 : M 67 5 = s) (e6 : M 67 6 = s) (hs : s ≤ xL Mo a) (e10 : M 67 10 = -1) : zH n (0, 0) 95 (0, zini [zR 67] 1, []) M (fun r M' => r = none ∧ (∀ r, r ≠ 67 → M' r = M r) ∧ M' 67 6 = (xrL (xc Mo a) (xL Mo a - s) s : Nat) ∧ M' 67 7 = xrW (xc Mo a) s (xrL (xc Mo a) (xL Mo a - s) s) ∧ M' 67 10 = (if xrW (xc Mo a) s (xrL (xc Mo a) (xL Mo a - s) s) = -1 then 10 * (s : Int) + 4 else -1) ∧ ∀ f, f ≠ 6 → f ≠ 7 → f ≠ 10 → M' 67 f = M 67 f) := by
  have hz := zp_95
  have hL := hp.len
  have f20 := hF 20 (by decide) (by decide) (by decide) (by decide)
  have f21 := hF 21 (by decide) (by decide) (by decide) (by decide)
  show zH n (0, 0) 95 (0, [zR 67], []) M _
  have lp0 : ∀ (N : Nat) (M5 : zM), ((100 - M5 67 6).toNat) < N → (∃ j : Nat, s ≤ j ∧ j ≤ xL Mo a ∧ M5 67 6 = j ∧ xrL (xc Mo a) (xL Mo a - j) j = xrL (xc Mo a) (xL Mo a - s) s) → (∀ r, r ≠ 67 → M5 r = M r) → (∀ f, f ≠ 6 → M5 67 f = M 67 f) → zH n (0, 0) 95 (0, [zR 67], []) M5 (fun r M' => r = none ∧ (∀ r, r ≠ 67 → M' r = M r) ∧ M' 67 6 = (xrL (xc Mo a) (xL Mo a - s) s : Nat) ∧ M' 67 7 = xrW (xc Mo a) s (xrL (xc Mo a) (xL Mo a - s) s) ∧ M' 67 10 = (if xrW (xc Mo a) s (xrL (xc Mo a) (xL Mo a - s) s) = -1 then 10 * (s : Int) + 4 else -1) ∧ ∀ f, f ≠ 6 → f ≠ 7 → f ≠ 10 → M' 67 f = M 67 f) := by
    intro N
    induction N with
    | zero => intro M5 hN; exact absurd hN (Nat.not_lt_zero _)
    | succ N ih0 =>
      intro M5 hN hj hO hG
      obtain ⟨j, g1, g2, g3, g4⟩ := hj
      have l4 : M5 67 4 = (xL Mo a : Int) := (hG 4 (by decide)).trans eL
      have let5 : j < 80 → hf_97_67 M5 (M5 67 6) = xc Mo a j := fun q => by rw [g3]; exact xS.letter hp ((hO 20 (by decide)).trans f20) ((hO 21 (by decide)).trans f21) ((hG 3 (by decide)).trans ea) q
      refine zH_w (c' := (8, [zR 67], [.inl (M5 67 4), .inl (M5 67 6)])) 4 hz rfl ?_
      refine zH_wi_ge (pc := 8) (n' := 11) (t := 38) (L := [zR 67]) (st := []) (x := (M5 67 6)) (y := (M5 67 4)) 0 hz (by rfl) (fun hb8 => ?_) (fun hb8 => ?_)
      · skip
        have hE : xrL (xc Mo a) (xL Mo a - s) s = j := by rw [← g4, xrL_n (by intro q; omega)]
        refine zH_wE (c1 := (43, [zR 67], [zR 67])) 2 hz zp_96 (fh_96_67 hp (fun r q1 q2 q3 q4 => (hO r q1).trans (hF r q1 q2 q3 q4)) ((hG 3 (by decide)).trans ea) (s := s) (e := j) ((hG 5 (by decide)).trans e5) g3 (by omega)) (by rfl) ?_
        show zH n (0, 0) 95 (43, [zR 67], [.inl (xrW (xc Mo a) s j), zR 67]) M5 _
        refine zH_w (c' := (46, [zR 67], [])) 1 hz rfl ?_
        have z7 : zput M5 67 7 (xrW (xc Mo a) s j) 67 7 = xrW (xc Mo a) s j := qput_eq
        refine zH_w (c' := (50, [zR 67], [.inl ((zput M5 67 7 (xrW (xc Mo a) s j)) 67 7)])) 2 hz rfl ?_
        rw [z7]
        refine zH_w (c' := (51, [zR 67], [.inl (-1), .inl (xrW (xc Mo a) s j)])) 1 hz rfl ?_
        refine zH_wi_ne (pc := 51) (n' := 54) (t := 59) (L := [zR 67]) (st := []) (x := (xrW (xc Mo a) s j)) (y := (-1)) 0 hz (by rfl) (fun hb51 => ?_) (fun hb51 => ?_)
        · skip
          exact zH_wr (r := none) 0 hz (by rfl) (by first | exact ⟨rfl, fun r hr => (zput_oth hr).trans (hO r hr), by rw [hE, qput_nk (by decide)]; exact g3, by rw [hE, qput_eq], by rw [hE, if_neg hb51, qput_nk (by decide)]; exact (hG 10 (by decide)).trans e10, fun f q1 q2 q3 => by rw [qput_nk q2]; exact hG f q1⟩ | exact ⟨rfl, fun r hr => by rw [ef]; exact (zput_oth hr).trans ((zput_oth hr).trans (hO r hr)), by rw [hE, ef, qput_nk (by decide), qput_nk (by decide)]; exact g3, by rw [hE, ef, qput_nk (by decide), qput_eq], by rw [hE, if_pos (by omega), ef, qput_eq], fun f q1 q2 q3 => by rw [ef, qput_nk q3, qput_nk q2]; exact hG f q1⟩)
        · skip
          refine zH_wE (c1 := (59, [zR 67], [])) 2 hz zp_92 (fh_92_67 4) (by rfl) ?_
          show zH n (0, 0) 95 (59, [zR 67], []) (hf_92_67 (zput M5 67 7 (xrW (xc Mo a) s j)) 4) _
          have ef : hf_92_67 (zput M5 67 7 (xrW (xc Mo a) s j)) 4 = zput (zput M5 67 7 (xrW (xc Mo a) s j)) 67 10 (10 * (s : Int) + 4) := by
            unfold hf_92_67
            rw [qput_nk (by decide), qput_nk (by decide), hG 10 (by decide), hG 5 (by decide), e10, e5, if_neg (by decide), w32_id (x := 10 * (s : Int)) (by omega), w32_id (by omega)]
          exact zH_wr (r := none) 0 hz (by rfl) (by first | exact ⟨rfl, fun r hr => (zput_oth hr).trans (hO r hr), by rw [hE, qput_nk (by decide)]; exact g3, by rw [hE, qput_eq], by rw [hE, if_neg hb51, qput_nk (by decide)]; exact (hG 10 (by decide)).trans e10, fun f q1 q2 q3 => by rw [qput_nk q2]; exact hG f q1⟩ | exact ⟨rfl, fun r hr => by rw [ef]; exact (zput_oth hr).trans ((zput_oth hr).trans (hO r hr)), by rw [hE, ef, qput_nk (by decide), qput_nk (by decide)]; exact g3, by rw [hE, ef, qput_nk (by decide), qput_eq], by rw [hE, if_pos (by omega), ef, qput_eq], fun f q1 q2 q3 => by rw [ef, qput_nk q3, qput_nk q2]; exact hG f q1⟩)
      · skip
        refine zH_wE (c1 := (19, [zR 67], [])) 3 hz zp_97 (fh_97_67 (M5 67 6)) (by rfl) ?_
        show zH n (0, 0) 95 (19, [zR 67], [.inl (hf_97_67 M5 (M5 67 6))]) M5 _
        rw [let5 (by omega)]
        refine zH_wE (c1 := (22, [zR 67], [])) 0 hz zp_99 (fh_99 (xc Mo a j)) (by rfl) ?_
        show zH n (0, 0) 95 (22, [zR 67], [.inl (hf_99 M5 (xc Mo a j))]) M5 _
        obtain ⟨y, hy⟩ : ∃ x : Int, x = (hf_99 M5 (xc Mo a j)) := ⟨_, rfl⟩
        rw [← hy]
        refine zH_if_eq hz rfl (fun hb22 => ?_) (fun hb22 => ?_)
        · skip
          rw [hy, x99] at hb22
          have hE : xrL (xc Mo a) (xL Mo a - s) s = j := by rw [← g4, xrL_n (fun _ => hb22)]
          refine zH_w (c' := (40, [zR 67], [zR 67, zR 67])) 2 hz rfl ?_
          refine zH_wE (c1 := (43, [zR 67], [zR 67])) 0 hz zp_96 (fh_96_67 hp (fun r q1 q2 q3 q4 => (hO r q1).trans (hF r q1 q2 q3 q4)) ((hG 3 (by decide)).trans ea) (s := s) (e := j) ((hG 5 (by decide)).trans e5) g3 (by omega)) (by rfl) ?_
          show zH n (0, 0) 95 (43, [zR 67], [.inl (xrW (xc Mo a) s j), zR 67]) M5 _
          refine zH_w (c' := (46, [zR 67], [])) 1 hz rfl ?_
          have z7 : zput M5 67 7 (xrW (xc Mo a) s j) 67 7 = xrW (xc Mo a) s j := qput_eq
          refine zH_w (c' := (50, [zR 67], [.inl ((zput M5 67 7 (xrW (xc Mo a) s j)) 67 7)])) 2 hz rfl ?_
          rw [z7]
          refine zH_w (c' := (51, [zR 67], [.inl (-1), .inl (xrW (xc Mo a) s j)])) 1 hz rfl ?_
          refine zH_wi_ne (pc := 51) (n' := 54) (t := 59) (L := [zR 67]) (st := []) (x := (xrW (xc Mo a) s j)) (y := (-1)) 0 hz (by rfl) (fun hb51 => ?_) (fun hb51 => ?_)
          · skip
            exact zH_wr (r := none) 0 hz (by rfl) (by first | exact ⟨rfl, fun r hr => (zput_oth hr).trans (hO r hr), by rw [hE, qput_nk (by decide)]; exact g3, by rw [hE, qput_eq], by rw [hE, if_neg hb51, qput_nk (by decide)]; exact (hG 10 (by decide)).trans e10, fun f q1 q2 q3 => by rw [qput_nk q2]; exact hG f q1⟩ | exact ⟨rfl, fun r hr => by rw [ef]; exact (zput_oth hr).trans ((zput_oth hr).trans (hO r hr)), by rw [hE, ef, qput_nk (by decide), qput_nk (by decide)]; exact g3, by rw [hE, ef, qput_nk (by decide), qput_eq], by rw [hE, if_pos (by omega), ef, qput_eq], fun f q1 q2 q3 => by rw [ef, qput_nk q3, qput_nk q2]; exact hG f q1⟩)
          · skip
            refine zH_wE (c1 := (59, [zR 67], [])) 2 hz zp_92 (fh_92_67 4) (by rfl) ?_
            show zH n (0, 0) 95 (59, [zR 67], []) (hf_92_67 (zput M5 67 7 (xrW (xc Mo a) s j)) 4) _
            have ef : hf_92_67 (zput M5 67 7 (xrW (xc Mo a) s j)) 4 = zput (zput M5 67 7 (xrW (xc Mo a) s j)) 67 10 (10 * (s : Int) + 4) := by
              unfold hf_92_67
              rw [qput_nk (by decide), qput_nk (by decide), hG 10 (by decide), hG 5 (by decide), e10, e5, if_neg (by decide), w32_id (x := 10 * (s : Int)) (by omega), w32_id (by omega)]
            exact zH_wr (r := none) 0 hz (by rfl) (by first | exact ⟨rfl, fun r hr => (zput_oth hr).trans (hO r hr), by rw [hE, qput_nk (by decide)]; exact g3, by rw [hE, qput_eq], by rw [hE, if_neg hb51, qput_nk (by decide)]; exact (hG 10 (by decide)).trans e10, fun f q1 q2 q3 => by rw [qput_nk q2]; exact hG f q1⟩ | exact ⟨rfl, fun r hr => by rw [ef]; exact (zput_oth hr).trans ((zput_oth hr).trans (hO r hr)), by rw [hE, ef, qput_nk (by decide), qput_nk (by decide)]; exact g3, by rw [hE, ef, qput_nk (by decide), qput_eq], by rw [hE, if_pos (by omega), ef, qput_eq], fun f q1 q2 q3 => by rw [ef, qput_nk q3, qput_nk q2]; exact hG f q1⟩)
        · skip
          rw [hy, x99] at hb22
          have hlt : 97 ≤ xc Mo a j ∧ xc Mo a j ≤ 122 := by omega
          refine zH_w (c' := (35, [zR 67], [])) 6 hz rfl ?_
          have e69 : zput M5 67 6 (w32 ((M5 67 6) + 1)) 67 6 = M5 67 6 + 1 := by rw [qput_eq, w32_id (by omega)]
          refine zH_w (c' := (0, [zR 67], [])) 1 hz rfl ?_
          refine ih0 (zput M5 67 6 (w32 ((M5 67 6) + 1))) (by omega) ?_ ?_ ?_
          · refine ⟨j + 1, by omega, by omega, ?_, ?_⟩
            · rw [qput_eq, g3, w32_id (by omega)]; omega
            · rw [← g4]; exact (xrL_y (by omega) hlt).symm
          · exact fun r hr => (zput_oth hr).trans (hO r hr)
          · exact fun f q1 => by rw [qput_nk q1]; exact hG f q1
  refine lp0 (102) M (by omega) ?_ ?_ ?_
  · exact ⟨s, Nat.le_refl _, hs, e6, rfl⟩
  · exact fun _ _ => rfl
  · exact fun _ _ => rfl
set_option maxRecDepth 100000 in
theorem fh_308 {n : Nat} {M : zM} (hc : xCon M) (a1 : Int) (h1 : 0 ≤ a1 ∧ a1 ≤ 127) : zH n (0, 0) 308 (0, zini [zR 7, .inl a1, .inl 0, .inl 9] 4, []) M (fun r M' => r = some (.inl (if xrG a1 = 14 then -1 else xrG a1 - 15)) ∧ M' = M) := by
  have hz := zp_308
  show zH n (0, 0) 308 (0, [zR 7, .inl a1, .inl 0, .inl 9], []) M _
  refine zH_wE (c1 := (4, [zR 7, .inl a1, .inl 0, .inl 9], [])) 1 hz zp_307 (fh_307 a1) (by rfl) ?_
  show zH n (0, 0) 308 (4, [zR 7, .inl a1, .inl 0, .inl 9], [.inl (hf_307 M a1)]) M _
  obtain ⟨y, hy⟩ : ∃ x : Int, x = (hf_307 M a1) := ⟨_, rfl⟩
  rw [← hy]
  refine zH_if_ne hz rfl (fun hb4 => ?_) (fun hb4 => ?_)
  · skip
    refine zH_w (c' := (14, [zR 7, .inl a1, .inl 0, .inl 9], [.inl (if 0 < 0 then 0 else 0)])) 3 hz rfl ?_
    rw [show (if (0 : Int) < 0 then (0 : Int) else 0) = 0 from rfl]
    refine zH_w (c' := (21, [zR 7, .inl a1, .inl 0, .inl 9], [.inl (if 9 < 9 then 9 else 9)])) 5 hz rfl ?_
    rw [show (if (9 : Int) < 9 then (9 : Int) else 9) = 9 from rfl]
    refine zH_w (c' := (33, [zR 7, .inl a1, .inl 0, .inl 9], [.inl 9, .inl 0, .inl a1, zR 7])) 8 hz rfl ?_
    refine zH_wE (c1 := (36, [zR 7, .inl a1, .inl 0, .inl 9], [])) 0 hz zp_309 (fh_309_7_L0_L9 a1) (by rfl) ?_
    show zH n (0, 0) 308 (36, [zR 7, .inl a1, .inl 0, .inl 9], [.inl (hf_309_7_L0_L9 M a1)]) M _
    have e9 : hf_309_7_L0_L9 M a1 = if xrG a1 = 14 then -1 else xrG a1 - 15 := by
      obtain ⟨k0, k1, k2, k3, k4, k5, k6, k7, k8⟩ := hc.2.2.1
      unfold hf_309_7_L0_L9 xrG
      simp only [Int.reduceToNat, k0, k1, k2, k3, k4, k5, k6, k7, k8, show (a1 + 128) % 256 - 128 = a1 by omega]
      by_cases c0 : a1 = 60
      · subst c0; rfl
      by_cases c1 : a1 = 62
      · subst c1; rfl
      by_cases c2 : a1 = 61
      · subst c2; rfl
      by_cases c3 : a1 = 43
      · subst c3; rfl
      by_cases c4 : a1 = 45
      · subst c4; rfl
      by_cases c5 : a1 = 42
      · subst c5; rfl
      by_cases c6 : a1 = 47
      · subst c6; rfl
      by_cases c7 : a1 = 40
      · subst c7; rfl
      by_cases c8 : a1 = 41
      · subst c8; rfl
      have d0 : ¬ (60 : Int) = a1 := fun z => c0 z.symm
      have d1 : ¬ (62 : Int) = a1 := fun z => c1 z.symm
      have d2 : ¬ (61 : Int) = a1 := fun z => c2 z.symm
      have d3 : ¬ (43 : Int) = a1 := fun z => c3 z.symm
      have d4 : ¬ (45 : Int) = a1 := fun z => c4 z.symm
      have d5 : ¬ (42 : Int) = a1 := fun z => c5 z.symm
      have d6 : ¬ (47 : Int) = a1 := fun z => c6 z.symm
      have d7 : ¬ (40 : Int) = a1 := fun z => c7 z.symm
      have d8 : ¬ (41 : Int) = a1 := fun z => c8 z.symm
      simp only [c0, d0, c1, d1, c2, d2, c3, d3, c4, d4, c5, d5, c6, d6, c7, d7, c8, d8, not_false_eq_true, ↓reduceIte]
    rw [e9]
    exact zH_ret hz rfl rfl (⟨rfl, rfl⟩)
  · skip
    exact absurd hy (by unfold hf_307; rw [if_neg (by omega), if_neg (by omega)]; omega)
set_option maxRecDepth 100000 in
theorem fh_301 {n : Nat} {M : zM} (hc : xCon M) (a1 : Int) (h1 : 0 ≤ a1 ∧ a1 ≤ 127) : zH n (0, 0) 301 (0, zini [zR 6, .inl a1, .inl 0] 3, []) M (fun r M' => r = some (.inl (if xrG a1 = 14 then -1 else xrG a1 - 15)) ∧ M' = M) := by
  have hz := zp_301
  show zH n (0, 0) 301 (0, [zR 6, .inl a1, .inl 0], []) M _
  refine zH_wE (c1 := (4, [zR 6, .inl a1, .inl 0], [])) 1 hz zp_304 (fh_304_6) (by rfl) ?_
  show zH n (0, 0) 301 (4, [zR 6, .inl a1, .inl 0], [.inl (hf_304_6 M)]) M _
  rw [show hf_304_6 M = 1 from by unfold hf_304_6; (repeat' split) <;> first | rfl | (have := hc.1.2; omega)]
  refine zH_w (c' := (14, [zR 6, .inl a1, .inl 0], [zR 6, .inl 0, .inl a1, zR 7])) 6 hz rfl ?_
  refine zH_wE (c1 := (17, [zR 6, .inl a1, .inl 0], [.inl 0, .inl a1, zR 7])) 0 hz zp_302 (fh_302_6) (by rfl) ?_
  show zH n (0, 0) 301 (17, [zR 6, .inl a1, .inl 0], [.inl (hf_302_6 M), .inl 0, .inl a1, zR 7]) M _
  rw [show hf_302_6 M = 9 from by unfold hf_302_6 hf_303_6; rw [hc.1.2]; rfl]
  refine zH_wE (c1 := (20, [zR 6, .inl a1, .inl 0], [])) 0 hz zp_308 (fh_308 hc a1 h1) (by rfl) ?_
  show zH n (0, 0) 301 (20, [zR 6, .inl a1, .inl 0], [.inl (if xrG a1 = 14 then -1 else xrG a1 - 15)]) M _
  exact zH_wr (r := some (.inl (if xrG a1 = 14 then -1 else xrG a1 - 15))) 1 hz (by rfl) (⟨rfl, rfl⟩)
set_option maxRecDepth 100000 in
theorem fh_300 {n : Nat} {M : zM} (hc : xCon M) (a1 : Int) (h1 : 0 ≤ a1 ∧ a1 ≤ 127) : zH n (0, 0) 300 (0, zini [zR 6, .inl a1] 2, []) M (fun r M' => r = some (.inl (if xrG a1 = 14 then -1 else xrG a1 - 15)) ∧ M' = M) := by
  have hz := zp_300
  show zH n (0, 0) 300 (0, [zR 6, .inl a1], []) M _
  refine zH_wE (c1 := (6, [zR 6, .inl a1], [])) 3 hz zp_301 (fh_301 hc a1 h1) (by rfl) ?_
  show zH n (0, 0) 300 (6, [zR 6, .inl a1], [.inl (if xrG a1 = 14 then -1 else xrG a1 - 15)]) M _
  exact zH_wr (r := some (.inl (if xrG a1 = 14 then -1 else xrG a1 - 15))) 0 hz (by rfl) (⟨rfl, rfl⟩)
