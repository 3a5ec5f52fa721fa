/-! HOW MANY; ALL TOGETHER AS ONE NUMBER -/
noncomputable def cSn (M : zM) : Nat → Int
  | 0 => 0
  | n + 1 => cSn M n + (if qStN M (n : Int) = 1 then 1 else 0)
theorem cSn_r (M : zM) : ∀ n : Nat, 0 ≤ cSn M n ∧ cSn M n ≤ n
  | 0 => by show 0 ≤ (0 : Int) ∧ (0 : Int) ≤ ((0 : Nat) : Int); omega
  | n + 1 => by have q := cSn_r M n; show 0 ≤ cSn M n + (if qStN M (n : Int) = 1 then 1 else 0) ∧ cSn M n + (if qStN M (n : Int) = 1 then 1 else 0) ≤ ((n + 1 : Nat) : Int); split <;> omega
noncomputable def cOf (M : zM) (a : Int) : Int := if a = 7 then cSn M (M 98 3).toNat else M 98 a.toNat
noncomputable def cMx (f : Nat → Int) (s : Nat) : Nat → Int → Int
  | 0, h => h
  | n + 1, h => w64 (w64 (31 * cMx f s n h) + f (s + n))
theorem cMx_add (f : Nat → Int) (s m : Nat) (h : Int) : ∀ n : Nat, cMx f s (m + n) h = cMx f (s + m) n (cMx f s m h)
  | 0 => rfl
  | n + 1 => by
    show w64 (w64 (31 * cMx f s (m + n) h) + f (s + (m + n))) = w64 (w64 (31 * cMx f (s + m) n (cMx f s m h)) + f (s + m + n))
    rw [cMx_add f s m h n, Nat.add_assoc]
noncomputable def cRw (f : Nat → Int) (b st k : Nat) : Nat → Int → Int
  | 0, h => h
  | n + 1, h => cMx f (b + st * n) k (cRw f b st k n h)
theorem cRw_all (f : Nat → Int) (b k : Nat) (h : Int) : ∀ n : Nat, cRw f b k k n h = cMx f b (k * n) h
  | 0 => rfl
  | n + 1 => by
    show cMx f (b + k * n) k (cRw f b k k n h) = cMx f b (k * n + k) h
    rw [cMx_add, cRw_all f b k h n]
noncomputable def cTx (f : Nat → Int) : Nat → Int → Int
  | 0, h => h
  | n + 1, h => cMx f (3350 + 81 * n) (1 + (f (3350 + 81 * n)).toNat) (cTx f n h)
noncomputable def cHd (M : zM) : Nat → Int
  | 0 => 283
  | n + 1 => w64 (w64 (31 * cHd M n) + cOf M (n : Int))
noncomputable def cDg (M : zM) : Int := cMx (M 98) 8 1 (cMx (M 98) 7 1 (cTx (M 98) 8 (cRw (M 98) 350 12 8 (M 98 4).toNat (cRw (M 98) 150 5 5 (M 98 3).toNat (cRw (M 98) 80 3 3 (M 98 1).toNat (cRw (M 98) 20 4 4 (M 98 0).toNat (cHd M 8)))))))
theorem cst_E {n : Nat} {M : zM} (hC : qMI M) (a : Int) (ha : 0 ≤ a ∧ a ≤ 39) : zH n (0, 0) 192 (0, zini [zR 97, .inl a] 4, []) M (fun r M' => r = some (.inl (qStN M a)) ∧ M' = M) :=
  ((qm_192_97 (d := 100) (by decide) hC a ha).toH).mono (fun r M' h => by obtain ⟨h1, x, h2, h3, h4⟩ := h; exact ⟨by rw [h2, h4], h1⟩)
theorem cst {M : zM} {a : Int} (h : hHs M 9 (M 98)) (hT : hTb M) (hC : qMI M) (ha : 0 ≤ a ∧ a < M 98 3) : hf_20_9 M a = qStN M a := by
  have hB : hBd M := ⟨hC.cnt0, hC.cnt1, hC.cnt2, hC.cnt3, hC.cnt4, hC.cnt5, hC.cnt6⟩
  have b3 := hC.cnt3
  have hbr := hC.brd a (150 + 5 * a) (by omega) rfl
  rw [show (150 + 5 * a : Int) = 150 + 5 * a + 0 by omega] at hbr
  exact hm_20 h hT hB (hC.sin _) hbr ha

set_option maxRecDepth 100000 in
theorem fh_22_9 {n : Nat} {M : zM} (h : hHs M 9 (M 98)) (hT : hTb M) (hC : qMI M) : zH n (0, 0) 22 (0, zini [zR 9] 3, []) M (fun r M' => r = some (.inl (cSn M (M 98 3).toNat)) ∧ M' = M) := by
  have hz := zp_22
  show zH n (0, 0) 22 (0, [zR 9, zN, zN], []) M _
  have hb := hC.cnt3
  have k3 : M 16 3 = M 98 3 := h.2.2.2.1.1
  refine zH_w (c' := (4, [zR 9, .inl 0, .inl 0], [])) 4 hz rfl ?_
  have lp4 : ∀ (N : Nat) (c : Int) (i : Int), ((40 - i).toNat) < N → (0 ≤ i ∧ i ≤ M 98 3) → (c = cSn M i.toNat) → zH n (0, 0) 22 (4, [zR 9, .inl c, .inl i], []) M (fun r M' => r = some (.inl (cSn M (M 98 3).toNat)) ∧ M' = M) := by
    intro N
    induction N with
    | zero => intro c i hN; exact absurd hN (Nat.not_lt_zero _)
    | succ N ih4 =>
      intro c i hN hi hc
      refine zH_w (c' := (9, [zR 9, .inl c, .inl i], [zR 16, .inl i])) 3 hz rfl ?_
      refine zH_wE (c1 := (12, [zR 9, .inl c, .inl i], [.inl i])) 0 hz zp_101 (fh_101_16) (by rfl) ?_
      show zH n (0, 0) 22 (12, [zR 9, .inl c, .inl i], [.inl (hR_size M 16), .inl i]) M _
      rw [show hR_size M 16 = M 98 3 from k3]
      refine zH_icmp_ge hz rfl (fun hb12 => ?_) (fun hb12 => ?_)
      · skip
        refine zH_w (c' := (33, [zR 9, .inl c, .inl i], [.inl c])) 1 hz rfl ?_
        exact zH_wr (r := some (.inl c)) 0 hz (by rfl) (⟨by rw [hc, show i.toNat = (M 98 3).toNat by omega], rfl⟩)
      · skip
        have ei : ((i.toNat : Nat) : Int) = i := by omega
        have hcr := cSn_r M i.toNat
        have h01 : qStN M i = 0 ∨ qStN M i = 1 := by unfold qStN; split; exact .inr rfl; exact .inl rfl
        have hst := True.intro
        refine zH_w (c' := (17, [zR 9, .inl c, .inl i], [.inl i, zR 9])) 2 hz rfl ?_
        refine zH_wE (c1 := (20, [zR 9, .inl c, .inl i], [])) 0 hz zp_20 (fh_20_9 i) (by rfl) ?_
        show zH n (0, 0) 22 (20, [zR 9, .inl c, .inl i], [.inl (hf_20_9 M i)]) M _
        rw [cst h hT hC (by omega)]
        refine zH_if_eq hz rfl (fun hb20 => ?_) (fun hb20 => ?_)
        · skip
          refine zH_w (c' := (4, [zR 9, .inl c, .inl (i + 1)], [])) 2 hz (by rw [show (.inl (i + 1) : zV) = .inl (w32 (i + 1)) from by rw [w32_id (by omega)]]; rfl) ?_
          refine ih4 c (i + 1) (by omega) ?_ ?_
          · omega
          · rw [show (i + 1).toNat = i.toNat + 1 by omega, hc]
            show _ = cSn M i.toNat + (if qStN M ((i.toNat : Nat) : Int) = 1 then 1 else 0)
            rw [ei]
            first | rw [if_pos (by omega)] | (rw [if_neg (by omega)] <;> omega)
        · skip
          refine zH_w (c' := (4, [zR 9, .inl (c + 1), .inl (i + 1)], [])) 3 hz (by rw [show (.inl (c + 1) : zV) = .inl (w32 (c + 1)) from by rw [w32_id (by omega)], show (.inl (i + 1) : zV) = .inl (w32 (i + 1)) from by rw [w32_id (by omega)]]; rfl) ?_
          refine ih4 (c + 1) (i + 1) (by omega) ?_ ?_
          · omega
          · rw [show (i + 1).toNat = i.toNat + 1 by omega, hc]
            show _ = cSn M i.toNat + (if qStN M ((i.toNat : Nat) : Int) = 1 then 1 else 0)
            rw [ei]
            first | rw [if_pos (by omega)] | (rw [if_neg (by omega)] <;> omega)
  refine lp4 (41) 0 0 (by omega) ?_ ?_
  · omega
  · rfl
set_option maxRecDepth 100000 in
theorem fh_21_9 {n : Nat} {M : zM} (h : hHs M 9 (M 98)) (hT : hTb M) (hC : qMI M) (a1 : Int) (h1 : 0 ≤ a1 ∧ a1 ≤ 7) : zH n (0, 0) 21 (0, zini [zR 9, .inl a1] 2, []) M (fun r M' => r = some (.inl (cOf M a1)) ∧ M' = M) := by
  have hz := zp_21
  show zH n (0, 0) 21 (0, [zR 9, .inl a1], []) M _
  refine zH_w (c' := (1, [zR 9, .inl a1], [.inl a1])) 1 hz rfl ?_
  refine zH_sw hz rfl ?_
  by_cases hw1_44 : a1 = 0
  · skip
    rw [show zts 0 a1 100 [44, 52, 60, 68, 76, 84, 92] = 44 from by rw [hw1_44]; rfl]
    refine zH_w (c' := (48, [zR 9, .inl a1], [zR 10])) 2 hz rfl ?_
    refine zH_wE (c1 := (51, [zR 9, .inl a1], [])) 0 hz zp_101 (fh_101_10) (by rfl) ?_
    show zH n (0, 0) 21 (51, [zR 9, .inl a1], [.inl (hR_size M 10)]) M _
    exact zH_wr (r := some (.inl (hR_size M 10))) 0 hz (by rfl) (⟨by rw [show hR_size M 10 = M 98 0 from h.1.1]; unfold cOf; rw [if_neg (by omega), show a1.toNat = 0 by omega], rfl⟩)
  by_cases hw1_52 : a1 = 1
  · skip
    rw [show zts 0 a1 100 [44, 52, 60, 68, 76, 84, 92] = 52 from by rw [hw1_52]; rfl]
    refine zH_w (c' := (56, [zR 9, .inl a1], [zR 12])) 2 hz rfl ?_
    refine zH_wE (c1 := (59, [zR 9, .inl a1], [])) 0 hz zp_101 (fh_101_12) (by rfl) ?_
    show zH n (0, 0) 21 (59, [zR 9, .inl a1], [.inl (hR_size M 12)]) M _
    exact zH_wr (r := some (.inl (hR_size M 12))) 0 hz (by rfl) (⟨by rw [show hR_size M 12 = M 98 1 from h.2.1.1]; unfold cOf; rw [if_neg (by omega), show a1.toNat = 1 by omega], rfl⟩)
  by_cases hw1_60 : a1 = 2
  · skip
    rw [show zts 0 a1 100 [44, 52, 60, 68, 76, 84, 92] = 60 from by rw [hw1_60]; rfl]
    refine zH_w (c' := (64, [zR 9, .inl a1], [zR 14])) 2 hz rfl ?_
    refine zH_wE (c1 := (67, [zR 9, .inl a1], [])) 0 hz zp_101 (fh_101_14) (by rfl) ?_
    show zH n (0, 0) 21 (67, [zR 9, .inl a1], [.inl (hR_size M 14)]) M _
    exact zH_wr (r := some (.inl (hR_size M 14))) 0 hz (by rfl) (⟨by rw [show hR_size M 14 = M 98 2 from h.2.2.1.1]; unfold cOf; rw [if_neg (by omega), show a1.toNat = 2 by omega], rfl⟩)
  by_cases hw1_68 : a1 = 3
  · skip
    rw [show zts 0 a1 100 [44, 52, 60, 68, 76, 84, 92] = 68 from by rw [hw1_68]; rfl]
    refine zH_w (c' := (72, [zR 9, .inl a1], [zR 16])) 2 hz rfl ?_
    refine zH_wE (c1 := (75, [zR 9, .inl a1], [])) 0 hz zp_101 (fh_101_16) (by rfl) ?_
    show zH n (0, 0) 21 (75, [zR 9, .inl a1], [.inl (hR_size M 16)]) M _
    exact zH_wr (r := some (.inl (hR_size M 16))) 0 hz (by rfl) (⟨by rw [show hR_size M 16 = M 98 3 from h.2.2.2.1.1]; unfold cOf; rw [if_neg (by omega), show a1.toNat = 3 by omega], rfl⟩)
  by_cases hw1_76 : a1 = 4
  · skip
    rw [show zts 0 a1 100 [44, 52, 60, 68, 76, 84, 92] = 76 from by rw [hw1_76]; rfl]
    refine zH_w (c' := (80, [zR 9, .inl a1], [zR 18])) 2 hz rfl ?_
    refine zH_wE (c1 := (83, [zR 9, .inl a1], [])) 0 hz zp_101 (fh_101_18) (by rfl) ?_
    show zH n (0, 0) 21 (83, [zR 9, .inl a1], [.inl (hR_size M 18)]) M _
    exact zH_wr (r := some (.inl (hR_size M 18))) 0 hz (by rfl) (⟨by rw [show hR_size M 18 = M 98 4 from h.2.2.2.2.1.1]; unfold cOf; rw [if_neg (by omega), show a1.toNat = 4 by omega], rfl⟩)
  by_cases hw1_84 : a1 = 5
  · skip
    rw [show zts 0 a1 100 [44, 52, 60, 68, 76, 84, 92] = 84 from by rw [hw1_84]; rfl]
    refine zH_w (c' := (88, [zR 9, .inl a1], [zR 22])) 2 hz rfl ?_
    refine zH_wE (c1 := (91, [zR 9, .inl a1], [])) 0 hz zp_101 (fh_101_22) (by rfl) ?_
    show zH n (0, 0) 21 (91, [zR 9, .inl a1], [.inl (hR_size M 22)]) M _
    exact zH_wr (r := some (.inl (hR_size M 22))) 0 hz (by rfl) (⟨by rw [show hR_size M 22 = M 98 5 from h.2.2.2.2.2.2.2.2.2.1.1.1]; unfold cOf; rw [if_neg (by omega), show a1.toNat = 5 by omega], rfl⟩)
  by_cases hw1_92 : a1 = 6
  · skip
    rw [show zts 0 a1 100 [44, 52, 60, 68, 76, 84, 92] = 92 from by rw [hw1_92]; rfl]
    refine zH_w (c' := (96, [zR 9, .inl a1], [zR 24])) 2 hz rfl ?_
    refine zH_wE (c1 := (99, [zR 9, .inl a1], [])) 0 hz zp_101 (fh_101_24) (by rfl) ?_
    show zH n (0, 0) 21 (99, [zR 9, .inl a1], [.inl (hR_size M 24)]) M _
    exact zH_wr (r := some (.inl (hR_size M 24))) 0 hz (by rfl) (⟨by rw [show hR_size M 24 = M 98 6 from h.2.2.2.2.2.2.1.1]; unfold cOf; rw [if_neg (by omega), show a1.toNat = 6 by omega], rfl⟩)
  rw [show zts 0 a1 100 [44, 52, 60, 68, 76, 84, 92] = 100 from by (rcases (by omega : a1 < 0 ∨ 7 ≤ a1) with h9 | h9; exact if_pos h9; exact zts_none (by show ∀ q : Nat, q < 7 → _; intro q hq hx; omega))]
  refine zH_w (c' := (101, [zR 9, .inl a1], [zR 9])) 1 hz rfl ?_
  refine zH_wE (c1 := (104, [zR 9, .inl a1], [])) 0 hz zp_22 (fh_22_9 h hT hC) (by rfl) ?_
  show zH n (0, 0) 21 (104, [zR 9, .inl a1], [.inl (cSn M (M 98 3).toNat)]) M _
  exact zH_wr (r := some (.inl (cSn M (M 98 3).toNat))) 0 hz (by rfl) (⟨by unfold cOf; rw [if_pos (by omega)], rfl⟩)
set_option maxRecDepth 100000 in
theorem fh_167_8 {n : Nat} {M : zM} (h : hHs M 9 (M 98)) (hT : hTb M) (hC : qMI M) (a1 : Int) : zH n (0, 0) 167 (0, zini [zR 8, .inl a1] 2, []) M (fun r M' => r = some (.inl (if 0 ≤ a1 ∧ a1 ≤ 7 then cOf M a1 else -2)) ∧ M' = M) := by
  have hz := zp_167
  show zH n (0, 0) 167 (0, [zR 8, .inl a1], []) M _
  refine zH_wE (c1 := (7, [zR 8, .inl a1], [])) 3 hz zp_169 (fh_169 a1 0 7) (by rfl) ?_
  show zH n (0, 0) 167 (7, [zR 8, .inl a1], [.inl (hf_169 M a1 0 7)]) M _
  obtain ⟨x1, hx1⟩ : ∃ x : Int, x = (hf_169 M a1 0 7) := ⟨_, rfl⟩
  rw [← hx1]
  refine zH_if_eq hz rfl (fun hb7 => ?_) (fun hb7 => ?_)
  · skip
    rw [hx1, hq_169] at hb7
    refine zH_w (c' := (23, [zR 8, .inl a1], [.inl (-2)])) 1 hz rfl ?_
    exact zH_wr (r := some (.inl (-2))) 0 hz (by rfl) (⟨by first | rw [if_pos (by omega)] | rw [if_neg (by omega)], rfl⟩)
  · skip
    rw [hx1, hq_169] at hb7
    refine zH_w (c' := (15, [zR 8, .inl a1], [.inl a1, zR 9])) 3 hz rfl ?_
    refine zH_wE (c1 := (18, [zR 8, .inl a1], [])) 0 hz zp_21 (fh_21_9 h hT hC a1 (by omega)) (by rfl) ?_
    show zH n (0, 0) 167 (18, [zR 8, .inl a1], [.inl (cOf M a1)]) M _
    exact zH_wr (r := some (.inl (cOf M a1))) 1 hz (by rfl) (⟨by first | rw [if_pos (by omega)] | rw [if_neg (by omega)], rfl⟩)
set_option maxRecDepth 100000 in
theorem fh_24_10 {n : Nat} {M : zM} (h : hHs M 9 (M 98)) (hT : hTb M) (hC : qMI M) (a0 a2 : Int) (h2 : a2 = 4) : zH n (0, 0) 24 (0, zini [.inr (.inl a0), zR 10, .inl a2] 8, []) M (fun r M' => r = some (.inr (.inl (cRw (M 98) 20 4 4 (M 98 0).toNat a0))) ∧ M' = M) := by
  have hz := zp_24
  show zH n (0, 0) 24 (0, [.inr (.inl a0), zN, zR 10, .inl a2, zN, zN, zN, zN], []) M _
  have hb := hC.cnt0
  refine zH_w (c' := (6, [.inr (.inl a0), zN, zR 10, .inl a2, .inr (.inl a0), zN, .inl 0, zN], [])) 4 hz rfl ?_
  have lp6 : ∀ (N : Nat) (i : Int) (g : Int) (u7 : zV), ((14 - i).toNat) < N → (0 ≤ i ∧ i ≤ M 98 0) → (g = cRw (M 98) 20 4 4 i.toNat a0) → zH n (0, 0) 24 (6, [.inr (.inl a0), zN, zR 10, .inl a2, .inr (.inl g), zN, .inl i, u7], []) M (fun r M' => r = some (.inr (.inl (cRw (M 98) 20 4 4 (M 98 0).toNat a0))) ∧ M' = M) := by
    intro N
    induction N with
    | zero => intro i g u7 hN; exact absurd hN (Nat.not_lt_zero _)
    | succ N ih6 =>
      intro i g u7 hN hi hg
      refine zH_w (c' := (9, [.inr (.inl a0), zN, zR 10, .inl a2, .inr (.inl g), zN, .inl i, u7], [zR 10, .inl i])) 2 hz rfl ?_
      refine zH_wE (c1 := (12, [.inr (.inl a0), zN, zR 10, .inl a2, .inr (.inl g), zN, .inl i, u7], [.inl i])) 0 hz zp_101 (fh_101_10) (by rfl) ?_
      show zH n (0, 0) 24 (12, [.inr (.inl a0), zN, zR 10, .inl a2, .inr (.inl g), zN, .inl i, u7], [.inl (hR_size M 10), .inl i]) M _
      rw [show hR_size M 10 = M 98 0 from h.1.1]
      refine zH_icmp_ge hz rfl (fun hb12 => ?_) (fun hb12 => ?_)
      · skip
        refine zH_w (c' := (56, [.inr (.inl a0), zN, zR 10, .inl a2, .inr (.inl g), zN, .inl i, u7], [.inr (.inl g)])) 1 hz rfl ?_
        exact zH_wr (r := some (.inr (.inl g))) 0 hz (by rfl) (⟨by rw [hg, show i.toNat = (M 98 0).toNat by omega], rfl⟩)
      · skip
        refine zH_w (c' := (18, [.inr (.inl a0), zN, zR 10, .inl a2, .inr (.inl g), zN, .inl i, .inl 0], [])) 2 hz rfl ?_
        have lp18 : ∀ (N : Nat) (j : Int) (q : Int), ((4 - j).toNat) < N → (0 ≤ j ∧ j ≤ 4) → (q = cMx (M 98) (20 + 4 * i.toNat) j.toNat g) → zH n (0, 0) 24 (18, [.inr (.inl a0), zN, zR 10, .inl a2, .inr (.inl q), zN, .inl i, .inl j], []) M (fun r M' => r = some (.inr (.inl (cRw (M 98) 20 4 4 (M 98 0).toNat a0))) ∧ M' = M) := by
          intro N
          induction N with
          | zero => intro j q hN; exact absurd hN (Nat.not_lt_zero _)
          | succ N ih18 =>
            intro j q hN hj hq
            refine zH_w (c' := (21, [.inr (.inl a0), zN, zR 10, .inl a2, .inr (.inl q), zN, .inl i, .inl j], [.inl a2, .inl j])) 2 hz rfl ?_
            refine zH_wi_ge (pc := 21) (n' := 24) (t := 48) (L := [.inr (.inl a0), zN, zR 10, .inl a2, .inr (.inl q), zN, .inl i, .inl j]) (st := []) (x := j) (y := a2) 0 hz (by rfl) (fun hb21 => ?_) (fun hb21 => ?_)
            · skip
              refine zH_w (c' := (6, [.inr (.inl a0), zN, zR 10, .inl a2, .inr (.inl q), zN, .inl (i + 1), .inl j], [])) 2 hz (by rw [show (.inl (i + 1) : zV) = .inl (w32 (i + 1)) from by rw [w32_id (by omega)]]; rfl) ?_
              refine ih6 (i + 1) q (.inl j) (by omega) ?_ ?_
              · omega
              · rw [show (i + 1).toNat = i.toNat + 1 by omega, hq, show j.toNat = 4 by omega, hg]; rfl
            · skip
              refine zH_wE (c1 := (38, [.inr (.inl a0), zN, zR 10, .inl a2, .inr (.inl q), zN, .inl i, .inl j], [.inr (.inl (w64 (31 * q)))])) 6 hz zp_106 (fh_106_10 i j) (by rfl) ?_
              show zH n (0, 0) 24 (38, [.inr (.inl a0), zN, zR 10, .inl a2, .inr (.inl q), zN, .inl i, .inl j], [.inl (hR_get M 10 i j), .inr (.inl (w64 (31 * q)))]) M _
              have eg : hR_get M 10 i j = M 98 (20 + 4 * i.toNat + j.toNat) := by rw [hG_10 hT (by omega) (by omega), h.1.2 _ (by omega), show 20 + (4 * i.toNat + j.toNat) = 20 + 4 * i.toNat + j.toNat by omega]
              rw [eg]
              refine zH_w (c' := (18, [.inr (.inl a0), zN, zR 10, .inl a2, .inr (.inl (w64 ((w64 (31 * q)) + (M 98 (20 + 4 * i.toNat + j.toNat))))), zN, .inl i, .inl (j + 1)], [])) 5 hz (by rw [show (.inl (j + 1) : zV) = .inl (w32 (j + 1)) from by rw [w32_id (by omega)]]; rfl) ?_
              refine ih18 (j + 1) (w64 ((w64 (31 * q)) + (M 98 (20 + 4 * i.toNat + j.toNat)))) (by omega) ?_ ?_
              · omega
              · rw [show (j + 1).toNat = j.toNat + 1 by omega, hq]; rfl
        refine lp18 (5) 0 g (by omega) ?_ ?_
        · omega
        · rfl
  refine lp6 (15) 0 a0 zN (by omega) ?_ ?_
  · omega
  · rfl
set_option maxRecDepth 100000 in
theorem fh_24_12 {n : Nat} {M : zM} (h : hHs M 9 (M 98)) (hT : hTb M) (hC : qMI M) (a0 a2 : Int) (h2 : a2 = 3) : zH n (0, 0) 24 (0, zini [.inr (.inl a0), zR 12, .inl a2] 8, []) M (fun r M' => r = some (.inr (.inl (cRw (M 98) 80 3 3 (M 98 1).toNat a0))) ∧ M' = M) := by
  have hz := zp_24
  show zH n (0, 0) 24 (0, [.inr (.inl a0), zN, zR 12, .inl a2, zN, zN, zN, zN], []) M _
  have hb := hC.cnt1
  refine zH_w (c' := (6, [.inr (.inl a0), zN, zR 12, .inl a2, .inr (.inl a0), zN, .inl 0, zN], [])) 4 hz rfl ?_
  have lp6 : ∀ (N : Nat) (i : Int) (g : Int) (u7 : zV), ((20 - i).toNat) < N → (0 ≤ i ∧ i ≤ M 98 1) → (g = cRw (M 98) 80 3 3 i.toNat a0) → zH n (0, 0) 24 (6, [.inr (.inl a0), zN, zR 12, .inl a2, .inr (.inl g), zN, .inl i, u7], []) M (fun r M' => r = some (.inr (.inl (cRw (M 98) 80 3 3 (M 98 1).toNat a0))) ∧ M' = M) := by
    intro N
    induction N with
    | zero => intro i g u7 hN; exact absurd hN (Nat.not_lt_zero _)
    | succ N ih6 =>
      intro i g u7 hN hi hg
      refine zH_w (c' := (9, [.inr (.inl a0), zN, zR 12, .inl a2, .inr (.inl g), zN, .inl i, u7], [zR 12, .inl i])) 2 hz rfl ?_
      refine zH_wE (c1 := (12, [.inr (.inl a0), zN, zR 12, .inl a2, .inr (.inl g), zN, .inl i, u7], [.inl i])) 0 hz zp_101 (fh_101_12) (by rfl) ?_
      show zH n (0, 0) 24 (12, [.inr (.inl a0), zN, zR 12, .inl a2, .inr (.inl g), zN, .inl i, u7], [.inl (hR_size M 12), .inl i]) M _
      rw [show hR_size M 12 = M 98 1 from h.2.1.1]
      refine zH_icmp_ge hz rfl (fun hb12 => ?_) (fun hb12 => ?_)
      · skip
        refine zH_w (c' := (56, [.inr (.inl a0), zN, zR 12, .inl a2, .inr (.inl g), zN, .inl i, u7], [.inr (.inl g)])) 1 hz rfl ?_
        exact zH_wr (r := some (.inr (.inl g))) 0 hz (by rfl) (⟨by rw [hg, show i.toNat = (M 98 1).toNat by omega], rfl⟩)
      · skip
        refine zH_w (c' := (18, [.inr (.inl a0), zN, zR 12, .inl a2, .inr (.inl g), zN, .inl i, .inl 0], [])) 2 hz rfl ?_
        have lp18 : ∀ (N : Nat) (j : Int) (q : Int), ((3 - j).toNat) < N → (0 ≤ j ∧ j ≤ 3) → (q = cMx (M 98) (80 + 3 * i.toNat) j.toNat g) → zH n (0, 0) 24 (18, [.inr (.inl a0), zN, zR 12, .inl a2, .inr (.inl q), zN, .inl i, .inl j], []) M (fun r M' => r = some (.inr (.inl (cRw (M 98) 80 3 3 (M 98 1).toNat a0))) ∧ M' = M) := by
          intro N
          induction N with
          | zero => intro j q hN; exact absurd hN (Nat.not_lt_zero _)
          | succ N ih18 =>
            intro j q hN hj hq
            refine zH_w (c' := (21, [.inr (.inl a0), zN, zR 12, .inl a2, .inr (.inl q), zN, .inl i, .inl j], [.inl a2, .inl j])) 2 hz rfl ?_
            refine zH_wi_ge (pc := 21) (n' := 24) (t := 48) (L := [.inr (.inl a0), zN, zR 12, .inl a2, .inr (.inl q), zN, .inl i, .inl j]) (st := []) (x := j) (y := a2) 0 hz (by rfl) (fun hb21 => ?_) (fun hb21 => ?_)
            · skip
              refine zH_w (c' := (6, [.inr (.inl a0), zN, zR 12, .inl a2, .inr (.inl q), zN, .inl (i + 1), .inl j], [])) 2 hz (by rw [show (.inl (i + 1) : zV) = .inl (w32 (i + 1)) from by rw [w32_id (by omega)]]; rfl) ?_
              refine ih6 (i + 1) q (.inl j) (by omega) ?_ ?_
              · omega
              · rw [show (i + 1).toNat = i.toNat + 1 by omega, hq, show j.toNat = 3 by omega, hg]; rfl
            · skip
              refine zH_wE (c1 := (38, [.inr (.inl a0), zN, zR 12, .inl a2, .inr (.inl q), zN, .inl i, .inl j], [.inr (.inl (w64 (31 * q)))])) 6 hz zp_106 (fh_106_12 i j) (by rfl) ?_
              show zH n (0, 0) 24 (38, [.inr (.inl a0), zN, zR 12, .inl a2, .inr (.inl q), zN, .inl i, .inl j], [.inl (hR_get M 12 i j), .inr (.inl (w64 (31 * q)))]) M _
              have eg : hR_get M 12 i j = M 98 (80 + 3 * i.toNat + j.toNat) := by
                rw [hG_12 hT (by omega) (by omega)]
                have q1 := h.2.1.2 i.toNat (by omega)
                have q2 := h.2.2.2.2.2.2.2.2.2.2.1 i.toNat (by omega)
                rcases (by omega : j = 0 ∨ j = 1 ∨ j = 2) with e | e | e
                · rw [e]; exact q1.1
                · rw [e]; exact q2.1.trans (congrArg (M 98) (by omega))
                · rw [e]; exact q1.2.1.trans (congrArg (M 98) (by omega))
              rw [eg]
              refine zH_w (c' := (18, [.inr (.inl a0), zN, zR 12, .inl a2, .inr (.inl (w64 ((w64 (31 * q)) + (M 98 (80 + 3 * i.toNat + j.toNat))))), zN, .inl i, .inl (j + 1)], [])) 5 hz (by rw [show (.inl (j + 1) : zV) = .inl (w32 (j + 1)) from by rw [w32_id (by omega)]]; rfl) ?_
              refine ih18 (j + 1) (w64 ((w64 (31 * q)) + (M 98 (80 + 3 * i.toNat + j.toNat)))) (by omega) ?_ ?_
              · omega
              · rw [show (j + 1).toNat = j.toNat + 1 by omega, hq]; rfl
        refine lp18 (4) 0 g (by omega) ?_ ?_
        · omega
        · rfl
  refine lp6 (21) 0 a0 zN (by omega) ?_ ?_
  · omega
  · rfl
set_option maxRecDepth 100000 in
theorem fh_24_16 {n : Nat} {M : zM} (h : hHs M 9 (M 98)) (hT : hTb M) (hC : qMI M) (a0 a2 : Int) (h2 : a2 = 5) : zH n (0, 0) 24 (0, zini [.inr (.inl a0), zR 16, .inl a2] 8, []) M (fun r M' => r = some (.inr (.inl (cRw (M 98) 150 5 5 (M 98 3).toNat a0))) ∧ M' = M) := by
  have hz := zp_24
  show zH n (0, 0) 24 (0, [.inr (.inl a0), zN, zR 16, .inl a2, zN, zN, zN, zN], []) M _
  have hb := hC.cnt3
  refine zH_w (c' := (6, [.inr (.inl a0), zN, zR 16, .inl a2, .inr (.inl a0), zN, .inl 0, zN], [])) 4 hz rfl ?_
  have lp6 : ∀ (N : Nat) (i : Int) (g : Int) (u7 : zV), ((40 - i).toNat) < N → (0 ≤ i ∧ i ≤ M 98 3) → (g = cRw (M 98) 150 5 5 i.toNat a0) → zH n (0, 0) 24 (6, [.inr (.inl a0), zN, zR 16, .inl a2, .inr (.inl g), zN, .inl i, u7], []) M (fun r M' => r = some (.inr (.inl (cRw (M 98) 150 5 5 (M 98 3).toNat a0))) ∧ M' = M) := by
    intro N
    induction N with
    | zero => intro i g u7 hN; exact absurd hN (Nat.not_lt_zero _)
    | succ N ih6 =>
      intro i g u7 hN hi hg
      refine zH_w (c' := (9, [.inr (.inl a0), zN, zR 16, .inl a2, .inr (.inl g), zN, .inl i, u7], [zR 16, .inl i])) 2 hz rfl ?_
      refine zH_wE (c1 := (12, [.inr (.inl a0), zN, zR 16, .inl a2, .inr (.inl g), zN, .inl i, u7], [.inl i])) 0 hz zp_101 (fh_101_16) (by rfl) ?_
      show zH n (0, 0) 24 (12, [.inr (.inl a0), zN, zR 16, .inl a2, .inr (.inl g), zN, .inl i, u7], [.inl (hR_size M 16), .inl i]) M _
      rw [show hR_size M 16 = M 98 3 from h.2.2.2.1.1]
      refine zH_icmp_ge hz rfl (fun hb12 => ?_) (fun hb12 => ?_)
      · skip
        refine zH_w (c' := (56, [.inr (.inl a0), zN, zR 16, .inl a2, .inr (.inl g), zN, .inl i, u7], [.inr (.inl g)])) 1 hz rfl ?_
        exact zH_wr (r := some (.inr (.inl g))) 0 hz (by rfl) (⟨by rw [hg, show i.toNat = (M 98 3).toNat by omega], rfl⟩)
      · skip
        refine zH_w (c' := (18, [.inr (.inl a0), zN, zR 16, .inl a2, .inr (.inl g), zN, .inl i, .inl 0], [])) 2 hz rfl ?_
        have lp18 : ∀ (N : Nat) (j : Int) (q : Int), ((5 - j).toNat) < N → (0 ≤ j ∧ j ≤ 5) → (q = cMx (M 98) (150 + 5 * i.toNat) j.toNat g) → zH n (0, 0) 24 (18, [.inr (.inl a0), zN, zR 16, .inl a2, .inr (.inl q), zN, .inl i, .inl j], []) M (fun r M' => r = some (.inr (.inl (cRw (M 98) 150 5 5 (M 98 3).toNat a0))) ∧ M' = M) := by
          intro N
          induction N with
          | zero => intro j q hN; exact absurd hN (Nat.not_lt_zero _)
          | succ N ih18 =>
            intro j q hN hj hq
            refine zH_w (c' := (21, [.inr (.inl a0), zN, zR 16, .inl a2, .inr (.inl q), zN, .inl i, .inl j], [.inl a2, .inl j])) 2 hz rfl ?_
            refine zH_wi_ge (pc := 21) (n' := 24) (t := 48) (L := [.inr (.inl a0), zN, zR 16, .inl a2, .inr (.inl q), zN, .inl i, .inl j]) (st := []) (x := j) (y := a2) 0 hz (by rfl) (fun hb21 => ?_) (fun hb21 => ?_)
            · skip
              refine zH_w (c' := (6, [.inr (.inl a0), zN, zR 16, .inl a2, .inr (.inl q), zN, .inl (i + 1), .inl j], [])) 2 hz (by rw [show (.inl (i + 1) : zV) = .inl (w32 (i + 1)) from by rw [w32_id (by omega)]]; rfl) ?_
              refine ih6 (i + 1) q (.inl j) (by omega) ?_ ?_
              · omega
              · rw [show (i + 1).toNat = i.toNat + 1 by omega, hq, show j.toNat = 5 by omega, hg]; rfl
            · skip
              refine zH_wE (c1 := (38, [.inr (.inl a0), zN, zR 16, .inl a2, .inr (.inl q), zN, .inl i, .inl j], [.inr (.inl (w64 (31 * q)))])) 6 hz zp_106 (fh_106_16 i j) (by rfl) ?_
              show zH n (0, 0) 24 (38, [.inr (.inl a0), zN, zR 16, .inl a2, .inr (.inl q), zN, .inl i, .inl j], [.inl (hR_get M 16 i j), .inr (.inl (w64 (31 * q)))]) M _
              have eg : hR_get M 16 i j = M 98 (150 + 5 * i.toNat + j.toNat) := by rw [hG_16 hT (by omega) (by omega), h.2.2.2.1.2.1 _ (by omega), show 150 + (5 * i.toNat + j.toNat) = 150 + 5 * i.toNat + j.toNat by omega]
              rw [eg]
              refine zH_w (c' := (18, [.inr (.inl a0), zN, zR 16, .inl a2, .inr (.inl (w64 ((w64 (31 * q)) + (M 98 (150 + 5 * i.toNat + j.toNat))))), zN, .inl i, .inl (j + 1)], [])) 5 hz (by rw [show (.inl (j + 1) : zV) = .inl (w32 (j + 1)) from by rw [w32_id (by omega)]]; rfl) ?_
              refine ih18 (j + 1) (w64 ((w64 (31 * q)) + (M 98 (150 + 5 * i.toNat + j.toNat)))) (by omega) ?_ ?_
              · omega
              · rw [show (j + 1).toNat = j.toNat + 1 by omega, hq]; rfl
        refine lp18 (6) 0 g (by omega) ?_ ?_
        · omega
        · rfl
  refine lp6 (41) 0 a0 zN (by omega) ?_ ?_
  · omega
  · rfl
set_option maxRecDepth 100000 in
theorem fh_24_18 {n : Nat} {M : zM} (h : hHs M 9 (M 98)) (hT : hTb M) (hC : qMI M) (a0 a2 : Int) (h2 : a2 = 8) : zH n (0, 0) 24 (0, zini [.inr (.inl a0), zR 18, .inl a2] 8, []) M (fun r M' => r = some (.inr (.inl (cRw (M 98) 350 12 8 (M 98 4).toNat a0))) ∧ M' = M) := by
  have hz := zp_24
  show zH n (0, 0) 24 (0, [.inr (.inl a0), zN, zR 18, .inl a2, zN, zN, zN, zN], []) M _
  have hb := hC.cnt4
  refine zH_w (c' := (6, [.inr (.inl a0), zN, zR 18, .inl a2, .inr (.inl a0), zN, .inl 0, zN], [])) 4 hz rfl ?_
  have lp6 : ∀ (N : Nat) (i : Int) (g : Int) (u7 : zV), ((250 - i).toNat) < N → (0 ≤ i ∧ i ≤ M 98 4) → (g = cRw (M 98) 350 12 8 i.toNat a0) → zH n (0, 0) 24 (6, [.inr (.inl a0), zN, zR 18, .inl a2, .inr (.inl g), zN, .inl i, u7], []) M (fun r M' => r = some (.inr (.inl (cRw (M 98) 350 12 8 (M 98 4).toNat a0))) ∧ M' = M) := by
    intro N
    induction N with
    | zero => intro i g u7 hN; exact absurd hN (Nat.not_lt_zero _)
    | succ N ih6 =>
      intro i g u7 hN hi hg
      refine zH_w (c' := (9, [.inr (.inl a0), zN, zR 18, .inl a2, .inr (.inl g), zN, .inl i, u7], [zR 18, .inl i])) 2 hz rfl ?_
      refine zH_wE (c1 := (12, [.inr (.inl a0), zN, zR 18, .inl a2, .inr (.inl g), zN, .inl i, u7], [.inl i])) 0 hz zp_101 (fh_101_18) (by rfl) ?_
      show zH n (0, 0) 24 (12, [.inr (.inl a0), zN, zR 18, .inl a2, .inr (.inl g), zN, .inl i, u7], [.inl (hR_size M 18), .inl i]) M _
      rw [show hR_size M 18 = M 98 4 from h.2.2.2.2.1.1]
      refine zH_icmp_ge hz rfl (fun hb12 => ?_) (fun hb12 => ?_)
      · skip
        refine zH_w (c' := (56, [.inr (.inl a0), zN, zR 18, .inl a2, .inr (.inl g), zN, .inl i, u7], [.inr (.inl g)])) 1 hz rfl ?_
        exact zH_wr (r := some (.inr (.inl g))) 0 hz (by rfl) (⟨by rw [hg, show i.toNat = (M 98 4).toNat by omega], rfl⟩)
      · skip
        refine zH_w (c' := (18, [.inr (.inl a0), zN, zR 18, .inl a2, .inr (.inl g), zN, .inl i, .inl 0], [])) 2 hz rfl ?_
        have lp18 : ∀ (N : Nat) (j : Int) (q : Int), ((8 - j).toNat) < N → (0 ≤ j ∧ j ≤ 8) → (q = cMx (M 98) (350 + 12 * i.toNat) j.toNat g) → zH n (0, 0) 24 (18, [.inr (.inl a0), zN, zR 18, .inl a2, .inr (.inl q), zN, .inl i, .inl j], []) M (fun r M' => r = some (.inr (.inl (cRw (M 98) 350 12 8 (M 98 4).toNat a0))) ∧ M' = M) := by
          intro N
          induction N with
          | zero => intro j q hN; exact absurd hN (Nat.not_lt_zero _)
          | succ N ih18 =>
            intro j q hN hj hq
            refine zH_w (c' := (21, [.inr (.inl a0), zN, zR 18, .inl a2, .inr (.inl q), zN, .inl i, .inl j], [.inl a2, .inl j])) 2 hz rfl ?_
            refine zH_wi_ge (pc := 21) (n' := 24) (t := 48) (L := [.inr (.inl a0), zN, zR 18, .inl a2, .inr (.inl q), zN, .inl i, .inl j]) (st := []) (x := j) (y := a2) 0 hz (by rfl) (fun hb21 => ?_) (fun hb21 => ?_)
            · skip
              refine zH_w (c' := (6, [.inr (.inl a0), zN, zR 18, .inl a2, .inr (.inl q), zN, .inl (i + 1), .inl j], [])) 2 hz (by rw [show (.inl (i + 1) : zV) = .inl (w32 (i + 1)) from by rw [w32_id (by omega)]]; rfl) ?_
              refine ih6 (i + 1) q (.inl j) (by omega) ?_ ?_
              · omega
              · rw [show (i + 1).toNat = i.toNat + 1 by omega, hq, show j.toNat = 8 by omega, hg]; rfl
            · skip
              refine zH_wE (c1 := (38, [.inr (.inl a0), zN, zR 18, .inl a2, .inr (.inl q), zN, .inl i, .inl j], [.inr (.inl (w64 (31 * q)))])) 6 hz zp_106 (fh_106_18 i j) (by rfl) ?_
              show zH n (0, 0) 24 (38, [.inr (.inl a0), zN, zR 18, .inl a2, .inr (.inl q), zN, .inl i, .inl j], [.inl (hR_get M 18 i j), .inr (.inl (w64 (31 * q)))]) M _
              have eg : hR_get M 18 i j = M 98 (350 + 12 * i.toNat + j.toNat) := hrA h hT (by omega) (by omega)
              rw [eg]
              refine zH_w (c' := (18, [.inr (.inl a0), zN, zR 18, .inl a2, .inr (.inl (w64 ((w64 (31 * q)) + (M 98 (350 + 12 * i.toNat + j.toNat))))), zN, .inl i, .inl (j + 1)], [])) 5 hz (by rw [show (.inl (j + 1) : zV) = .inl (w32 (j + 1)) from by rw [w32_id (by omega)]]; rfl) ?_
              refine ih18 (j + 1) (w64 ((w64 (31 * q)) + (M 98 (350 + 12 * i.toNat + j.toNat)))) (by omega) ?_ ?_
              · omega
              · rw [show (j + 1).toNat = j.toNat + 1 by omega, hq]; rfl
        refine lp18 (9) 0 g (by omega) ?_ ?_
        · omega
        · rfl
  refine lp6 (251) 0 a0 zN (by omega) ?_ ?_
  · omega
  · rfl
set_option maxRecDepth 100000 in
theorem fh_25_9 {n : Nat} {M : zM} (h : hHs M 9 (M 98)) (hT : hTb M) (hC : qMI M) (a1 : Int) : zH n (0, 0) 25 (0, zini [zR 9, .inr (.inl a1)] 8, []) M (fun r M' => r = some (.inr (.inl (cTx (M 98) 8 a1))) ∧ M' = M) := by
  have hz := zp_25
  show zH n (0, 0) 25 (0, [zR 9, .inr (.inl a1), zN, zN, zN, zN, zN, zN], []) M _
  refine zH_w (c' := (5, [zR 9, .inr (.inl a1), zN, .inr (.inl a1), zN, .inl 0, zN, zN], [])) 4 hz rfl ?_
  have lp5 : ∀ (N : Nat) (i : Int) (g : Int) (u6 : zV) (u7 : zV), ((8 - i).toNat) < N → (0 ≤ i ∧ i ≤ 8) → (g = cTx (M 98) i.toNat a1) → zH n (0, 0) 25 (5, [zR 9, .inr (.inl a1), zN, .inr (.inl g), zN, .inl i, u6, u7], []) M (fun r M' => r = some (.inr (.inl (cTx (M 98) 8 a1))) ∧ M' = M) := by
    intro N
    induction N with
    | zero => intro i g u6 u7 hN; exact absurd hN (Nat.not_lt_zero _)
    | succ N ih5 =>
      intro i g u6 u7 hN hi hg
      refine zH_w (c' := (9, [zR 9, .inr (.inl a1), zN, .inr (.inl g), zN, .inl i, u6, u7], [.inl 8, .inl i])) 2 hz rfl ?_
      refine zH_wi_ge (pc := 9) (n' := 12) (t := 84) (L := [zR 9, .inr (.inl a1), zN, .inr (.inl g), zN, .inl i, u6, u7]) (st := []) (x := i) (y := 8) 0 hz (by rfl) (fun hb9 => ?_) (fun hb9 => ?_)
      · skip
        exact zH_wr (r := some (.inr (.inl g))) 1 hz (by rfl) (⟨by rw [hg, show i.toNat = 8 by omega], rfl⟩)
      · skip
        have ht := hC.txt i (3350 + 81 * i) (by omega) rfl
        rw [show (3350 + 81 * i).toNat = 3350 + 81 * i.toNat by omega] at ht
        have g0 : hR_get M 20 i 0 = M 98 (3350 + 81 * i.toNat) := by rw [hG_20 hT (by omega) (by decide), h.2.2.2.2.2.1 _ (by simp only [Int.reduceToNat]; omega)]; rfl
        refine zH_w (c' := (19, [zR 9, .inr (.inl a1), zN, .inr (.inl g), zN, .inl i, u6, u7], [.inl 0, .inl i, zR 20])) 4 hz rfl ?_
        refine zH_wE (c1 := (22, [zR 9, .inr (.inl a1), zN, .inr (.inl g), zN, .inl i, u6, u7], [])) 0 hz zp_106 (fh_106_20 i 0) (by rfl) ?_
        show zH n (0, 0) 25 (22, [zR 9, .inr (.inl a1), zN, .inr (.inl g), zN, .inl i, u6, u7], [.inl (hR_get M 20 i 0)]) M _
        rw [g0]
        refine zH_w (c' := (37, [zR 9, .inr (.inl a1), zN, .inr (.inl (w64 ((w64 (31 * g)) + (M 98 (3350 + 81 * i.toNat))))), zN, .inl i, .inl (M 98 (3350 + 81 * i.toNat)), .inl 0], [])) 10 hz rfl ?_
        have lp37 : ∀ (N : Nat) (j : Int) (q : Int), ((80 - j).toNat) < N → (0 ≤ j ∧ j ≤ M 98 (3350 + 81 * i.toNat)) → (q = cMx (M 98) (3350 + 81 * i.toNat) (1 + j.toNat) g) → zH n (0, 0) 25 (37, [zR 9, .inr (.inl a1), zN, .inr (.inl q), zN, .inl i, .inl (M 98 (3350 + 81 * i.toNat)), .inl j], []) M (fun r M' => r = some (.inr (.inl (cTx (M 98) 8 a1))) ∧ M' = M) := by
          intro N
          induction N with
          | zero => intro j q hN; exact absurd hN (Nat.not_lt_zero _)
          | succ N ih37 =>
            intro j q hN hj hq
            refine zH_w (c' := (41, [zR 9, .inr (.inl a1), zN, .inr (.inl q), zN, .inl i, .inl (M 98 (3350 + 81 * i.toNat)), .inl j], [.inl (M 98 (3350 + 81 * i.toNat)), .inl j])) 2 hz rfl ?_
            refine zH_wi_ge (pc := 41) (n' := 44) (t := 78) (L := [zR 9, .inr (.inl a1), zN, .inr (.inl q), zN, .inl i, .inl (M 98 (3350 + 81 * i.toNat)), .inl j]) (st := []) (x := j) (y := (M 98 (3350 + 81 * i.toNat))) 0 hz (by rfl) (fun hb41 => ?_) (fun hb41 => ?_)
            · skip
              refine zH_w (c' := (5, [zR 9, .inr (.inl a1), zN, .inr (.inl q), zN, .inl (i + 1), .inl (M 98 (3350 + 81 * i.toNat)), .inl j], [])) 2 hz (by rw [show (.inl (i + 1) : zV) = .inl (w32 (i + 1)) from by rw [w32_id (by omega)]]; rfl) ?_
              refine ih5 (i + 1) q (.inl (M 98 (3350 + 81 * i.toNat))) (.inl j) (by omega) ?_ ?_
              · omega
              · rw [show (i + 1).toNat = i.toNat + 1 by omega, hq, show j.toNat = (M 98 (3350 + 81 * i.toNat)).toNat by omega, hg]; rfl
            · skip
              refine zH_wi_ge (pc := 48) (n' := 51) (t := 78) (L := [zR 9, .inr (.inl a1), zN, .inr (.inl q), zN, .inl i, .inl (M 98 (3350 + 81 * i.toNat)), .inl j]) (st := []) (x := j) (y := 80) 2 hz (by rfl) (fun hb48 => ?_) (fun hb48 => ?_)
              · skip
                exact absurd hb48 (by omega)
              · skip
                refine zH_w (c' := (66, [zR 9, .inr (.inl a1), zN, .inr (.inl q), zN, .inl i, .inl (M 98 (3350 + 81 * i.toNat)), .inl j], [.inl (w32 (1 + j)), .inl i, zR 20, .inr (.inl (w64 (31 * q)))])) 9 hz rfl ?_
                rw [show w32 (1 + j) = 1 + j from w32_id (by omega)]
                refine zH_wE (c1 := (69, [zR 9, .inr (.inl a1), zN, .inr (.inl q), zN, .inl i, .inl (M 98 (3350 + 81 * i.toNat)), .inl j], [.inr (.inl (w64 (31 * q)))])) 0 hz zp_106 (fh_106_20 i (1 + j)) (by rfl) ?_
                show zH n (0, 0) 25 (69, [zR 9, .inr (.inl a1), zN, .inr (.inl q), zN, .inl i, .inl (M 98 (3350 + 81 * i.toNat)), .inl j], [.inl (hR_get M 20 i (1 + j)), .inr (.inl (w64 (31 * q)))]) M _
                rw [show hR_get M 20 i (1 + j) = M 98 (3350 + 81 * i.toNat + (1 + j.toNat)) from by rw [hG_20 hT (by omega) (by omega), h.2.2.2.2.2.1 _ (by omega), show 3350 + (81 * i.toNat + (1 + j).toNat) = 3350 + 81 * i.toNat + (1 + j.toNat) by omega]]
                refine zH_w (c' := (37, [zR 9, .inr (.inl a1), zN, .inr (.inl (w64 ((w64 (31 * q)) + (M 98 (3350 + 81 * i.toNat + (1 + j.toNat)))))), zN, .inl i, .inl (M 98 (3350 + 81 * i.toNat)), .inl (j + 1)], [])) 5 hz (by rw [show (.inl (j + 1) : zV) = .inl (w32 (j + 1)) from by rw [w32_id (by omega)]]; rfl) ?_
                refine ih37 (j + 1) (w64 ((w64 (31 * q)) + (M 98 (3350 + 81 * i.toNat + (1 + j.toNat))))) (by omega) ?_ ?_
                · omega
                · rw [show 1 + (j + 1).toNat = (1 + j.toNat) + 1 by omega, hq]
                  show _ = w64 (w64 (31 * cMx (M 98) (3350 + 81 * i.toNat) (1 + j.toNat) g) + M 98 (3350 + 81 * i.toNat + (1 + j.toNat)))
                  rfl
        refine lp37 (81) 0 (w64 ((w64 (31 * g)) + (M 98 (3350 + 81 * i.toNat)))) (by omega) ?_ ?_
        · omega
        · rfl
  refine lp5 (9) 0 a1 zN zN (by omega) ?_ ?_
  · omega
  · rfl
set_option maxRecDepth 100000 in
theorem fh_23_9 {n : Nat} {M : zM} (h : hHs M 9 (M 98)) (hT : hTb M) (hC : qMI M) : zH n (0, 0) 23 (0, zini [zR 9] 4, []) M (fun r M' => r = some (.inr (.inl (cDg M))) ∧ M' = M) := by
  have hz := zp_23
  show zH n (0, 0) 23 (0, [zR 9, zN, zN, zN], []) M _
  refine zH_w (c' := (6, [zR 9, .inr (.inl 283), zN, .inl 0], [])) 4 hz rfl ?_
  have lp6 : ∀ (N : Nat) (i : Int) (g : Int), ((8 - i).toNat) < N → (0 ≤ i ∧ i ≤ 8) → (g = cHd M i.toNat) → zH n (0, 0) 23 (6, [zR 9, .inr (.inl g), zN, .inl i], []) M (fun r M' => r = some (.inr (.inl (cDg M))) ∧ M' = M) := by
    intro N
    induction N with
    | zero => intro i g hN; exact absurd hN (Nat.not_lt_zero _)
    | succ N ih6 =>
      intro i g hN hi hg
      refine zH_w (c' := (9, [zR 9, .inr (.inl g), zN, .inl i], [.inl 7, .inl i])) 2 hz rfl ?_
      refine zH_wi_gt (pc := 9) (n' := 12) (t := 31) (L := [zR 9, .inr (.inl g), zN, .inl i]) (st := []) (x := i) (y := 7) 0 hz (by rfl) (fun hb9 => ?_) (fun hb9 => ?_)
      · skip
        refine zH_wE (c1 := (40, [zR 9, .inr (.inl g), zN, .inl i], [])) 4 hz zp_24 (fh_24_10 h hT hC g 4 rfl) (by rfl) ?_
        show zH n (0, 0) 23 (40, [zR 9, .inr (.inl g), zN, .inl i], [.inr (.inl (cRw (M 98) 20 4 4 (M 98 0).toNat g))]) M _
        refine zH_wE (c1 := (50, [zR 9, .inr (.inl (cRw (M 98) 20 4 4 (M 98 0).toNat g)), zN, .inl i], [])) 5 hz zp_24 (fh_24_12 h hT hC (cRw (M 98) 20 4 4 (M 98 0).toNat g) 3 rfl) (by rfl) ?_
        show zH n (0, 0) 23 (50, [zR 9, .inr (.inl (cRw (M 98) 20 4 4 (M 98 0).toNat g)), zN, .inl i], [.inr (.inl (cRw (M 98) 80 3 3 (M 98 1).toNat (cRw (M 98) 20 4 4 (M 98 0).toNat g)))]) M _
        refine zH_wE (c1 := (60, [zR 9, .inr (.inl (cRw (M 98) 80 3 3 (M 98 1).toNat (cRw (M 98) 20 4 4 (M 98 0).toNat g))), zN, .inl i], [])) 5 hz zp_24 (fh_24_16 h hT hC (cRw (M 98) 80 3 3 (M 98 1).toNat (cRw (M 98) 20 4 4 (M 98 0).toNat g)) 5 rfl) (by rfl) ?_
        show zH n (0, 0) 23 (60, [zR 9, .inr (.inl (cRw (M 98) 80 3 3 (M 98 1).toNat (cRw (M 98) 20 4 4 (M 98 0).toNat g))), zN, .inl i], [.inr (.inl (cRw (M 98) 150 5 5 (M 98 3).toNat (cRw (M 98) 80 3 3 (M 98 1).toNat (cRw (M 98) 20 4 4 (M 98 0).toNat g))))]) M _
        refine zH_wE (c1 := (71, [zR 9, .inr (.inl (cRw (M 98) 150 5 5 (M 98 3).toNat (cRw (M 98) 80 3 3 (M 98 1).toNat (cRw (M 98) 20 4 4 (M 98 0).toNat g)))), zN, .inl i], [])) 5 hz zp_24 (fh_24_18 h hT hC (cRw (M 98) 150 5 5 (M 98 3).toNat (cRw (M 98) 80 3 3 (M 98 1).toNat (cRw (M 98) 20 4 4 (M 98 0).toNat g))) 8 rfl) (by rfl) ?_
        show zH n (0, 0) 23 (71, [zR 9, .inr (.inl (cRw (M 98) 150 5 5 (M 98 3).toNat (cRw (M 98) 80 3 3 (M 98 1).toNat (cRw (M 98) 20 4 4 (M 98 0).toNat g)))), zN, .inl i], [.inr (.inl (cRw (M 98) 350 12 8 (M 98 4).toNat (cRw (M 98) 150 5 5 (M 98 3).toNat (cRw (M 98) 80 3 3 (M 98 1).toNat (cRw (M 98) 20 4 4 (M 98 0).toNat g)))))]) M _
        refine zH_wE (c1 := (77, [zR 9, .inr (.inl (cRw (M 98) 350 12 8 (M 98 4).toNat (cRw (M 98) 150 5 5 (M 98 3).toNat (cRw (M 98) 80 3 3 (M 98 1).toNat (cRw (M 98) 20 4 4 (M 98 0).toNat g))))), zN, .inl i], [])) 3 hz zp_25 (fh_25_9 h hT hC (cRw (M 98) 350 12 8 (M 98 4).toNat (cRw (M 98) 150 5 5 (M 98 3).toNat (cRw (M 98) 80 3 3 (M 98 1).toNat (cRw (M 98) 20 4 4 (M 98 0).toNat g))))) (by rfl) ?_
        show zH n (0, 0) 23 (77, [zR 9, .inr (.inl (cRw (M 98) 350 12 8 (M 98 4).toNat (cRw (M 98) 150 5 5 (M 98 3).toNat (cRw (M 98) 80 3 3 (M 98 1).toNat (cRw (M 98) 20 4 4 (M 98 0).toNat g))))), zN, .inl i], [.inr (.inl (cTx (M 98) 8 (cRw (M 98) 350 12 8 (M 98 4).toNat (cRw (M 98) 150 5 5 (M 98 3).toNat (cRw (M 98) 80 3 3 (M 98 1).toNat (cRw (M 98) 20 4 4 (M 98 0).toNat g))))))]) M _
        refine zH_w (c' := (87, [zR 9, .inr (.inl (cTx (M 98) 8 (cRw (M 98) 350 12 8 (M 98 4).toNat (cRw (M 98) 150 5 5 (M 98 3).toNat (cRw (M 98) 80 3 3 (M 98 1).toNat (cRw (M 98) 20 4 4 (M 98 0).toNat g)))))), zN, .inl i], [.inl (M 9 8), .inr (.inl (w64 (31 * (cTx (M 98) 8 (cRw (M 98) 350 12 8 (M 98 4).toNat (cRw (M 98) 150 5 5 (M 98 3).toNat (cRw (M 98) 80 3 3 (M 98 1).toNat (cRw (M 98) 20 4 4 (M 98 0).toNat g))))))))])) 6 hz rfl ?_
        rw [show M 9 8 = M 98 7 from h.2.2.2.2.2.2.2.1.1]
        refine zH_w (c' := (99, [zR 9, .inr (.inl (w64 ((w64 (31 * (cTx (M 98) 8 (cRw (M 98) 350 12 8 (M 98 4).toNat (cRw (M 98) 150 5 5 (M 98 3).toNat (cRw (M 98) 80 3 3 (M 98 1).toNat (cRw (M 98) 20 4 4 (M 98 0).toNat g))))))) + (M 98 7)))), zN, .inl i], [.inl (M 9 9), .inr (.inl (w64 (31 * (w64 ((w64 (31 * (cTx (M 98) 8 (cRw (M 98) 350 12 8 (M 98 4).toNat (cRw (M 98) 150 5 5 (M 98 3).toNat (cRw (M 98) 80 3 3 (M 98 1).toNat (cRw (M 98) 20 4 4 (M 98 0).toNat g))))))) + (M 98 7))))))])) 8 hz rfl ?_
        rw [show M 9 9 = M 98 8 from h.2.2.2.2.2.2.2.1.2.1]
        refine zH_w (c' := (101, [zR 9, .inr (.inl (w64 ((w64 (31 * (cTx (M 98) 8 (cRw (M 98) 350 12 8 (M 98 4).toNat (cRw (M 98) 150 5 5 (M 98 3).toNat (cRw (M 98) 80 3 3 (M 98 1).toNat (cRw (M 98) 20 4 4 (M 98 0).toNat g))))))) + (M 98 7)))), zN, .inl i], [.inr (.inl (w64 ((w64 (31 * (w64 ((w64 (31 * (cTx (M 98) 8 (cRw (M 98) 350 12 8 (M 98 4).toNat (cRw (M 98) 150 5 5 (M 98 3).toNat (cRw (M 98) 80 3 3 (M 98 1).toNat (cRw (M 98) 20 4 4 (M 98 0).toNat g))))))) + (M 98 7))))) + (M 98 8))))])) 2 hz rfl ?_
        exact zH_wr (r := some (.inr (.inl (w64 ((w64 (31 * (w64 ((w64 (31 * (cTx (M 98) 8 (cRw (M 98) 350 12 8 (M 98 4).toNat (cRw (M 98) 150 5 5 (M 98 3).toNat (cRw (M 98) 80 3 3 (M 98 1).toNat (cRw (M 98) 20 4 4 (M 98 0).toNat g))))))) + (M 98 7))))) + (M 98 8)))))) 0 hz (by rfl) (⟨by rw [hg, show i.toNat = 8 by omega]; rfl, rfl⟩)
      · skip
        refine zH_wE (c1 := (22, [zR 9, .inr (.inl g), zN, .inl i], [.inr (.inl (w64 (31 * g)))])) 5 hz zp_21 (fh_21_9 h hT hC i (by omega)) (by rfl) ?_
        show zH n (0, 0) 23 (22, [zR 9, .inr (.inl g), zN, .inl i], [.inl (cOf M i), .inr (.inl (w64 (31 * g)))]) M _
        refine zH_w (c' := (6, [zR 9, .inr (.inl (w64 ((w64 (31 * g)) + (cOf M i)))), zN, .inl (i + 1)], [])) 5 hz (by rw [show (.inl (i + 1) : zV) = .inl (w32 (i + 1)) from by rw [w32_id (by omega)]]; rfl) ?_
        refine ih6 (i + 1) (w64 ((w64 (31 * g)) + (cOf M i))) (by omega) ?_ ?_
        · omega
        · rw [show (i + 1).toNat = i.toNat + 1 by omega, hg]
          show _ = w64 (w64 (31 * cHd M i.toNat) + cOf M ((i.toNat : Nat) : Int))
          rw [show ((i.toNat : Nat) : Int) = i by omega]
  refine lp6 (9) 0 283 (by omega) ?_ ?_
  · omega
  · rfl
set_option maxRecDepth 100000 in
theorem fh_168_8 {n : Nat} {M : zM} (h : hHs M 9 (M 98)) (hT : hTb M) (hC : qMI M) : zH n (0, 0) 168 (0, zini [zR 8] 1, []) M (fun r M' => r = some (.inr (.inl (cDg M))) ∧ M' = M) := by
  have hz := zp_168
  show zH n (0, 0) 168 (0, [zR 8], []) M _
  refine zH_wE (c1 := (7, [zR 8], [])) 2 hz zp_23 (fh_23_9 h hT hC) (by rfl) ?_
  show zH n (0, 0) 168 (7, [zR 8], [.inr (.inl (cDg M))]) M _
  exact zH_wr (r := some (.inr (.inl (cDg M)))) 0 hz (by rfl) (⟨rfl, rfl⟩)
set_option maxRecDepth 100000 in
theorem fh_292_97 {n : Nat} {M : zM} (hC : qMI M) (a1 : Int) (h1 : 0 ≤ a1 ∧ a1 ≤ 7) : zH n (0, 0) 292 (0, zini [zR 97, .inl a1] 4, []) M (fun r M' => r = some (.inl (cOf M a1)) ∧ M' = M) := by
  have hz := zp_292
  show zH n (0, 0) 292 (0, [zR 97, .inl a1, zN, zN], []) M _
  have hb := hC.cnt3
  refine zH_wi_ge (pc := 3) (n' := 6) (t := 13) (L := [zR 97, .inl a1, zN, zN]) (st := []) (x := a1) (y := 7) 2 hz (by rfl) (fun hb3 => ?_) (fun hb3 => ?_)
  · skip
    refine zH_w (c' := (17, [zR 97, .inl a1, .inl 0, .inl 0], [])) 4 hz rfl ?_
    have lp17 : ∀ (N : Nat) (c : Int) (i : Int), ((40 - i).toNat) < N → (0 ≤ i ∧ i ≤ M 98 3) → (c = cSn M i.toNat) → zH n (0, 0) 292 (17, [zR 97, .inl a1, .inl c, .inl i], []) M (fun r M' => r = some (.inl (cOf M a1)) ∧ M' = M) := by
      intro N
      induction N with
      | zero => intro c i hN; exact absurd hN (Nat.not_lt_zero _)
      | succ N ih17 =>
        intro c i hN hi hc
        refine zH_w (c' := (23, [zR 97, .inl a1, .inl c, .inl i], [.inl 3, zR 98, .inl i])) 4 hz rfl ?_
        refine zH_iald hz rfl rfl (.inl rfl) (fun hin23 => ?_)
        show zH n (0, 0) 292 (24, [zR 97, .inl a1, .inl c, .inl i], [.inl (M 98 (3 : Int).toNat), .inl i]) M _
        rw [show M 98 (3 : Int).toNat = M 98 3 from rfl]
        refine zH_icmp_ge hz rfl (fun hb24 => ?_) (fun hb24 => ?_)
        · skip
          refine zH_w (c' := (50, [zR 97, .inl a1, .inl c, .inl i], [.inl c])) 1 hz rfl ?_
          exact zH_wr (r := some (.inl c)) 0 hz (by rfl) (⟨by unfold cOf; rw [if_pos (by omega), hc, show i.toNat = (M 98 3).toNat by omega], rfl⟩)
        · skip
          have ei : ((i.toNat : Nat) : Int) = i := by omega
          have hcr := cSn_r M i.toNat
          have h01 : qStN M i = 0 ∨ qStN M i = 1 := by unfold qStN; split; exact .inr rfl; exact .inl rfl
          refine zH_w (c' := (30, [zR 97, .inl a1, .inl c, .inl i], [.inl i, zR 97, .inl c])) 3 hz rfl ?_
          refine zH_wE (c1 := (33, [zR 97, .inl a1, .inl c, .inl i], [.inl c])) 0 hz zp_192 (cst_E hC i (by omega)) (by rfl) ?_
          show zH n (0, 0) 292 (33, [zR 97, .inl a1, .inl c, .inl i], [.inl (qStN M i), .inl c]) M _
          refine zH_wf_eq (pc := 33) (n' := 36) (t := 40) (L := [zR 97, .inl a1, .inl c, .inl i]) (st := [.inl c]) (x := (qStN M i)) 0 hz (by rfl) (fun hb33 => ?_) (fun hb33 => ?_)
          · skip
            refine zH_w (c' := (17, [zR 97, .inl a1, .inl (w32 (c + 0)), .inl (i + 1)], [])) 5 hz (by rw [show (.inl (i + 1) : zV) = .inl (w32 (i + 1)) from by rw [w32_id (by omega)]]; rfl) ?_
            refine ih17 (w32 (c + 0)) (i + 1) (by omega) ?_ ?_
            · omega
            · rw [show (i + 1).toNat = i.toNat + 1 by omega, hc]
              show _ = cSn M i.toNat + (if qStN M ((i.toNat : Nat) : Int) = 1 then 1 else 0)
              rw [ei, w32_id (by omega)]
              first | rw [if_pos (by omega)] | rw [if_neg (by omega)]
          · skip
            refine zH_w (c' := (17, [zR 97, .inl a1, .inl (w32 (c + 1)), .inl (i + 1)], [])) 6 hz (by rw [show (.inl (i + 1) : zV) = .inl (w32 (i + 1)) from by rw [w32_id (by omega)]]; rfl) ?_
            refine ih17 (w32 (c + 1)) (i + 1) (by omega) ?_ ?_
            · omega
            · rw [show (i + 1).toNat = i.toNat + 1 by omega, hc]
              show _ = cSn M i.toNat + (if qStN M ((i.toNat : Nat) : Int) = 1 then 1 else 0)
              rw [ei, w32_id (by omega)]
              first | rw [if_pos (by omega)] | rw [if_neg (by omega)]
    refine lp17 (41) 0 0 (by omega) ?_ ?_
    · omega
    · rfl
  · skip
    refine zH_w (c' := (11, [zR 97, .inl a1, zN, zN], [.inl a1, zR 98])) 3 hz rfl ?_
    refine zH_iald hz rfl rfl (.inl rfl) (fun hin11 => ?_)
    show zH n (0, 0) 292 (12, [zR 97, .inl a1, zN, zN], [.inl (M 98 (a1 : Int).toNat)]) M _
    exact zH_wr (r := some (.inl (M 98 (a1 : Int).toNat))) 0 hz (by rfl) (⟨by unfold cOf; rw [if_neg (by omega)], rfl⟩)
set_option maxRecDepth 100000 in
theorem fh_293_97 {n : Nat} {M : zM} (hC : qMI M) (a1 : Int) : zH n (0, 0) 293 (0, zini [zR 97, .inl a1] 2, []) M (fun r M' => r = some (.inl (if 0 ≤ a1 ∧ a1 ≤ 7 then cOf M a1 else -2)) ∧ M' = M) := by
  have hz := zp_293
  show zH n (0, 0) 293 (0, [zR 97, .inl a1], []) M _
  refine zH_wE (c1 := (7, [zR 97, .inl a1], [])) 3 hz zp_180 (fh_180 a1 0 7) (by rfl) ?_
  show zH n (0, 0) 293 (7, [zR 97, .inl a1], [.inl (hf_180 M a1 0 7)]) M _
  obtain ⟨x1, hx1⟩ : ∃ x : Int, x = (hf_180 M a1 0 7) := ⟨_, rfl⟩
  rw [← hx1]
  refine zH_if_eq hz rfl (fun hb7 => ?_) (fun hb7 => ?_)
  · skip
    rw [hx1, hq_180] at hb7
    refine zH_w (c' := (20, [zR 97, .inl a1], [.inl (-2)])) 1 hz rfl ?_
    exact zH_wr (r := some (.inl (-2))) 0 hz (by rfl) (⟨by first | rw [if_pos (by omega)] | rw [if_neg (by omega)], rfl⟩)
  · skip
    rw [hx1, hq_180] at hb7
    refine zH_w (c' := (12, [zR 97, .inl a1], [.inl a1, zR 97])) 2 hz rfl ?_
    refine zH_wE (c1 := (15, [zR 97, .inl a1], [])) 0 hz zp_292 (fh_292_97 hC a1 (by omega)) (by rfl) ?_
    show zH n (0, 0) 293 (15, [zR 97, .inl a1], [.inl (cOf M a1)]) M _
    exact zH_wr (r := some (.inl (cOf M a1))) 1 hz (by rfl) (⟨by first | rw [if_pos (by omega)] | rw [if_neg (by omega)], rfl⟩)
set_option maxRecDepth 100000 in
theorem fh_294_97 {n : Nat} {M : zM} {s m : Nat} (a1 a2 a3 : Int) (h2 : a2 = (s : Int)) (h3 : a3 = (m : Int)) (hs : s + m ≤ 5664) : zH n (0, 0) 294 (0, zini [zR 97, .inr (.inl a1), .inl a2, .inl a3] 8, []) M (fun r M' => r = some (.inr (.inl (cMx (M 98) s m a1))) ∧ M' = M) := by
  have hz := zp_294
  show zH n (0, 0) 294 (0, [zR 97, .inr (.inl a1), zN, .inl a2, .inl a3, zN, zN, zN], []) M _
  refine zH_w (c' := (6, [zR 97, .inr (.inl a1), zN, .inl a2, .inl a3, .inr (.inl a1), zN, .inl 0], [])) 4 hz rfl ?_
  have lp6 : ∀ (N : Nat) (i : Int) (q : Int), (((m : Int) - i).toNat) < N → (0 ≤ i ∧ i ≤ (m : Int)) → (q = cMx (M 98) s i.toNat a1) → zH n (0, 0) 294 (6, [zR 97, .inr (.inl a1), zN, .inl a2, .inl a3, .inr (.inl q), zN, .inl i], []) M (fun r M' => r = some (.inr (.inl (cMx (M 98) s m a1))) ∧ M' = M) := by
    intro N
    induction N with
    | zero => intro i q hN; exact absurd hN (Nat.not_lt_zero _)
    | succ N ih6 =>
      intro i q hN hi hq
      refine zH_w (c' := (10, [zR 97, .inr (.inl a1), zN, .inl a2, .inl a3, .inr (.inl q), zN, .inl i], [.inl a3, .inl i])) 2 hz rfl ?_
      refine zH_wi_ge (pc := 10) (n' := 13) (t := 38) (L := [zR 97, .inr (.inl a1), zN, .inl a2, .inl a3, .inr (.inl q), zN, .inl i]) (st := []) (x := i) (y := a3) 0 hz (by rfl) (fun hb10 => ?_) (fun hb10 => ?_)
      · skip
        exact zH_wr (r := some (.inr (.inl q))) 1 hz (by rfl) (⟨by rw [hq, show i.toNat = m by omega], rfl⟩)
      · skip
        refine zH_w (c' := (27, [zR 97, .inr (.inl a1), zN, .inl a2, .inl a3, .inr (.inl q), zN, .inl i], [.inl (w32 (a2 + i)), zR 98, .inr (.inl (w64 (31 * q)))])) 8 hz rfl ?_
        rw [show w32 (a2 + i) = (s : Int) + i from by rw [h2, w32_id (by omega)]]
        refine zH_iald hz rfl rfl (.inl rfl) (fun hin27 => ?_)
        show zH n (0, 0) 294 (28, [zR 97, .inr (.inl a1), zN, .inl a2, .inl a3, .inr (.inl q), zN, .inl i], [.inl (M 98 (((s : Int) + i) : Int).toNat), .inr (.inl (w64 (31 * q)))]) M _
        rw [show M 98 ((s : Int) + i).toNat = M 98 (s + i.toNat) from by rw [show ((s : Int) + i).toNat = s + i.toNat by omega]]
        refine zH_w (c' := (6, [zR 97, .inr (.inl a1), zN, .inl a2, .inl a3, .inr (.inl (w64 ((w64 (31 * q)) + (M 98 (s + i.toNat))))), zN, .inl (i + 1)], [])) 5 hz (by rw [show (.inl (i + 1) : zV) = .inl (w32 (i + 1)) from by rw [w32_id (by omega)]]; rfl) ?_
        refine ih6 (i + 1) (w64 ((w64 (31 * q)) + (M 98 (s + i.toNat)))) (by omega) ?_ ?_
        · omega
        · rw [show (i + 1).toNat = i.toNat + 1 by omega, hq]; rfl
  refine lp6 (m + 1) 0 a1 (by omega) ?_ ?_
  · omega
  · rfl
set_option maxRecDepth 100000 in
theorem fh_295_97 {n : Nat} {M : zM} (hC : qMI M) : zH n (0, 0) 295 (0, zini [zR 97] 4, []) M (fun r M' => r = some (.inr (.inl (cDg M))) ∧ M' = M) := by
  have hz := zp_295
  show zH n (0, 0) 295 (0, [zR 97, zN, zN, zN], []) M _
  have b0 := hC.cnt0
  have b1 := hC.cnt1
  have b3 := hC.cnt3
  have b4 := hC.cnt4
  refine zH_w (c' := (6, [zR 97, .inr (.inl 283), zN, .inl 0], [])) 4 hz rfl ?_
  have lp6 : ∀ (N : Nat) (k : Int) (g : Int), ((8 - k).toNat) < N → (0 ≤ k ∧ k ≤ 8) → (g = cHd M k.toNat) → zH n (0, 0) 295 (6, [zR 97, .inr (.inl g), zN, .inl k], []) M (fun r M' => r = some (.inr (.inl (cDg M))) ∧ M' = M) := by
    intro N
    induction N with
    | zero => intro k g hN; exact absurd hN (Nat.not_lt_zero _)
    | succ N ih6 =>
      intro k g hN hk hg
      refine zH_w (c' := (9, [zR 97, .inr (.inl g), zN, .inl k], [.inl 8, .inl k])) 2 hz rfl ?_
      refine zH_wi_ge (pc := 9) (n' := 12) (t := 31) (L := [zR 97, .inr (.inl g), zN, .inl k]) (st := []) (x := k) (y := 8) 0 hz (by rfl) (fun hb9 => ?_) (fun hb9 => ?_)
      · skip
        refine zH_w (c' := (41, [zR 97, .inr (.inl g), zN, .inl k], [.inl 0, zR 98, .inl 4, .inl 20, .inr (.inl g), zR 97])) 7 hz rfl ?_
        refine zH_iald hz rfl rfl (.inl rfl) (fun hin41 => ?_)
        show zH n (0, 0) 295 (42, [zR 97, .inr (.inl g), zN, .inl k], [.inl (M 98 (0 : Int).toNat), .inl 4, .inl 20, .inr (.inl g), zR 97]) M _
        rw [show M 98 (0 : Int).toNat = M 98 0 from rfl]
        refine zH_w (c' := (43, [zR 97, .inr (.inl g), zN, .inl k], [.inl (w32 (4 * (M 98 0))), .inl 20, .inr (.inl g), zR 97])) 1 hz rfl ?_
        refine zH_wE (c1 := (46, [zR 97, .inr (.inl g), zN, .inl k], [])) 0 hz zp_294 (fh_294_97 (s := 20) (m := 4 * (M 98 0).toNat) g 20 (w32 (4 * (M 98 0))) rfl (by rw [w32_id (by omega)]; omega) (by omega)) (by rfl) ?_
        show zH n (0, 0) 295 (46, [zR 97, .inr (.inl g), zN, .inl k], [.inr (.inl (cMx (M 98) (20) (4 * (M 98 0).toNat) g))]) M _
        refine zH_w (c' := (57, [zR 97, .inr (.inl (cMx (M 98) (20) (4 * (M 98 0).toNat) g)), zN, .inl k], [.inl 1, zR 98, .inl 3, .inl 80, .inr (.inl (cMx (M 98) (20) (4 * (M 98 0).toNat) g)), zR 97])) 8 hz rfl ?_
        refine zH_iald hz rfl rfl (.inl rfl) (fun hin57 => ?_)
        show zH n (0, 0) 295 (58, [zR 97, .inr (.inl (cMx (M 98) (20) (4 * (M 98 0).toNat) g)), zN, .inl k], [.inl (M 98 (1 : Int).toNat), .inl 3, .inl 80, .inr (.inl (cMx (M 98) (20) (4 * (M 98 0).toNat) g)), zR 97]) M _
        rw [show M 98 (1 : Int).toNat = M 98 1 from rfl]
        refine zH_w (c' := (59, [zR 97, .inr (.inl (cMx (M 98) (20) (4 * (M 98 0).toNat) g)), zN, .inl k], [.inl (w32 (3 * (M 98 1))), .inl 80, .inr (.inl (cMx (M 98) (20) (4 * (M 98 0).toNat) g)), zR 97])) 1 hz rfl ?_
        refine zH_wE (c1 := (62, [zR 97, .inr (.inl (cMx (M 98) (20) (4 * (M 98 0).toNat) g)), zN, .inl k], [])) 0 hz zp_294 (fh_294_97 (s := 80) (m := 3 * (M 98 1).toNat) (cMx (M 98) (20) (4 * (M 98 0).toNat) g) 80 (w32 (3 * (M 98 1))) rfl (by rw [w32_id (by omega)]; omega) (by omega)) (by rfl) ?_
        show zH n (0, 0) 295 (62, [zR 97, .inr (.inl (cMx (M 98) (20) (4 * (M 98 0).toNat) g)), zN, .inl k], [.inr (.inl (cMx (M 98) (80) (3 * (M 98 1).toNat) (cMx (M 98) (20) (4 * (M 98 0).toNat) g)))]) M _
        refine zH_w (c' := (74, [zR 97, .inr (.inl (cMx (M 98) (80) (3 * (M 98 1).toNat) (cMx (M 98) (20) (4 * (M 98 0).toNat) g))), zN, .inl k], [.inl 3, zR 98, .inl 5, .inl 150, .inr (.inl (cMx (M 98) (80) (3 * (M 98 1).toNat) (cMx (M 98) (20) (4 * (M 98 0).toNat) g))), zR 97])) 8 hz rfl ?_
        refine zH_iald hz rfl rfl (.inl rfl) (fun hin74 => ?_)
        show zH n (0, 0) 295 (75, [zR 97, .inr (.inl (cMx (M 98) (80) (3 * (M 98 1).toNat) (cMx (M 98) (20) (4 * (M 98 0).toNat) g))), zN, .inl k], [.inl (M 98 (3 : Int).toNat), .inl 5, .inl 150, .inr (.inl (cMx (M 98) (80) (3 * (M 98 1).toNat) (cMx (M 98) (20) (4 * (M 98 0).toNat) g))), zR 97]) M _
        rw [show M 98 (3 : Int).toNat = M 98 3 from rfl]
        refine zH_w (c' := (76, [zR 97, .inr (.inl (cMx (M 98) (80) (3 * (M 98 1).toNat) (cMx (M 98) (20) (4 * (M 98 0).toNat) g))), zN, .inl k], [.inl (w32 (5 * (M 98 3))), .inl 150, .inr (.inl (cMx (M 98) (80) (3 * (M 98 1).toNat) (cMx (M 98) (20) (4 * (M 98 0).toNat) g))), zR 97])) 1 hz rfl ?_
        refine zH_wE (c1 := (79, [zR 97, .inr (.inl (cMx (M 98) (80) (3 * (M 98 1).toNat) (cMx (M 98) (20) (4 * (M 98 0).toNat) g))), zN, .inl k], [])) 0 hz zp_294 (fh_294_97 (s := 150) (m := 5 * (M 98 3).toNat) (cMx (M 98) (80) (3 * (M 98 1).toNat) (cMx (M 98) (20) (4 * (M 98 0).toNat) g)) 150 (w32 (5 * (M 98 3))) rfl (by rw [w32_id (by omega)]; omega) (by omega)) (by rfl) ?_
        show zH n (0, 0) 295 (79, [zR 97, .inr (.inl (cMx (M 98) (80) (3 * (M 98 1).toNat) (cMx (M 98) (20) (4 * (M 98 0).toNat) g))), zN, .inl k], [.inr (.inl (cMx (M 98) (150) (5 * (M 98 3).toNat) (cMx (M 98) (80) (3 * (M 98 1).toNat) (cMx (M 98) (20) (4 * (M 98 0).toNat) g))))]) M _
        refine zH_w (c' := (82, [zR 97, .inr (.inl (cMx (M 98) (150) (5 * (M 98 3).toNat) (cMx (M 98) (80) (3 * (M 98 1).toNat) (cMx (M 98) (20) (4 * (M 98 0).toNat) g)))), zN, .inl 0], [])) 3 hz rfl ?_
        have lp82 : ∀ (N : Nat) (i : Int) (q : Int), ((250 - i).toNat) < N → (0 ≤ i ∧ i ≤ M 98 4) → (q = cRw (M 98) 350 12 8 i.toNat (cMx (M 98) 150 (5 * (M 98 3).toNat) (cMx (M 98) 80 (3 * (M 98 1).toNat) (cMx (M 98) 20 (4 * (M 98 0).toNat) g)))) → zH n (0, 0) 295 (82, [zR 97, .inr (.inl q), zN, .inl i], []) M (fun r M' => r = some (.inr (.inl (cDg M))) ∧ M' = M) := by
          intro N
          induction N with
          | zero => intro i q hN; exact absurd hN (Nat.not_lt_zero _)
          | succ N ih82 =>
            intro i q hN hi2 hq
            refine zH_w (c' := (88, [zR 97, .inr (.inl q), zN, .inl i], [.inl 4, zR 98, .inl i])) 4 hz rfl ?_
            refine zH_iald hz rfl rfl (.inl rfl) (fun hin88 => ?_)
            show zH n (0, 0) 295 (89, [zR 97, .inr (.inl q), zN, .inl i], [.inl (M 98 (4 : Int).toNat), .inl i]) M _
            rw [show M 98 (4 : Int).toNat = M 98 4 from rfl]
            refine zH_icmp_ge hz rfl (fun hb89 => ?_) (fun hb89 => ?_)
            · skip
              refine zH_w (c' := (116, [zR 97, .inr (.inl q), zN, .inl 0], [])) 2 hz rfl ?_
              have lp116 : ∀ (N : Nat) (j : Int) (p : Int), ((8 - j).toNat) < N → (0 ≤ j ∧ j ≤ 8) → (p = cTx (M 98) j.toNat q) → zH n (0, 0) 295 (116, [zR 97, .inr (.inl p), zN, .inl j], []) M (fun r M' => r = some (.inr (.inl (cDg M))) ∧ M' = M) := by
                intro N
                induction N with
                | zero => intro j p hN; exact absurd hN (Nat.not_lt_zero _)
                | succ N ih116 =>
                  intro j p hN hj hp
                  refine zH_w (c' := (119, [zR 97, .inr (.inl p), zN, .inl j], [.inl 8, .inl j])) 2 hz rfl ?_
                  refine zH_wi_ge (pc := 119) (n' := 122) (t := 157) (L := [zR 97, .inr (.inl p), zN, .inl j]) (st := []) (x := j) (y := 8) 0 hz (by rfl) (fun hb119 => ?_) (fun hb119 => ?_)
                  · skip
                    refine zH_wE (c1 := (166, [zR 97, .inr (.inl p), zN, .inl j], [zR 97])) 5 hz zp_294 (fh_294_97 (s := 7) (m := 1) p 7 1 rfl rfl (by omega)) (by rfl) ?_
                    show zH n (0, 0) 295 (166, [zR 97, .inr (.inl p), zN, .inl j], [.inr (.inl (cMx (M 98) (7) (1) p)), zR 97]) M _
                    refine zH_wE (c1 := (172, [zR 97, .inr (.inl p), zN, .inl j], [])) 2 hz zp_294 (fh_294_97 (s := 8) (m := 1) (cMx (M 98) (7) (1) p) 8 1 rfl rfl (by omega)) (by rfl) ?_
                    show zH n (0, 0) 295 (172, [zR 97, .inr (.inl p), zN, .inl j], [.inr (.inl (cMx (M 98) (8) (1) (cMx (M 98) (7) (1) p)))]) M _
                    refine zH_ret hz rfl rfl ?_
                    refine ⟨?_, rfl⟩
                    rw [hp, hq, show j.toNat = 8 by omega, show i.toNat = (M 98 4).toNat by omega, hg, show k.toNat = 8 by omega]
                    unfold cDg
                    rw [cRw_all, cRw_all, cRw_all]
                  · skip
                    have ht := hC.txt j (3350 + 81 * j) (by omega) rfl
                    rw [show (3350 + 81 * j).toNat = 3350 + 81 * j.toNat by omega] at ht
                    refine zH_w (c' := (132, [zR 97, .inr (.inl p), zN, .inl j], [.inl (w32 (3350 + (w32 (81 * j)))), .inr (.inl p), zR 97])) 7 hz rfl ?_
                    rw [show w32 (3350 + (w32 (81 * j))) = 3350 + 81 * j from by rw [w32_id (x := 81 * j) (by omega), w32_id (by omega)]]
                    refine zH_w (c' := (145, [zR 97, .inr (.inl p), zN, .inl j], [.inl (w32 (3350 + (w32 (81 * j)))), zR 98, .inl 1, .inl (3350 + 81 * j), .inr (.inl p), zR 97])) 8 hz rfl ?_
                    rw [show w32 (3350 + (w32 (81 * j))) = 3350 + 81 * j from by rw [w32_id (x := 81 * j) (by omega), w32_id (by omega)]]
                    refine zH_iald hz rfl rfl (.inl rfl) (fun hin145 => ?_)
                    show zH n (0, 0) 295 (146, [zR 97, .inr (.inl p), zN, .inl j], [.inl (M 98 ((3350 + 81 * j) : Int).toNat), .inl 1, .inl (3350 + 81 * j), .inr (.inl p), zR 97]) M _
                    rw [show M 98 (3350 + 81 * j).toNat = M 98 (3350 + 81 * j.toNat) from by rw [show (3350 + 81 * j).toNat = 3350 + 81 * j.toNat by omega]]
                    refine zH_w (c' := (147, [zR 97, .inr (.inl p), zN, .inl j], [.inl (w32 (1 + (M 98 (3350 + 81 * j.toNat)))), .inl (3350 + 81 * j), .inr (.inl p), zR 97])) 1 hz rfl ?_
                    refine zH_wE (c1 := (150, [zR 97, .inr (.inl p), zN, .inl j], [])) 0 hz zp_294 (fh_294_97 (s := 3350 + 81 * j.toNat) (m := 1 + (M 98 (3350 + 81 * j.toNat)).toNat) p (3350 + 81 * j) (w32 (1 + (M 98 (3350 + 81 * j.toNat)))) (by omega) (by rw [w32_id (by omega)]; omega) (by omega)) (by rfl) ?_
                    show zH n (0, 0) 295 (150, [zR 97, .inr (.inl p), zN, .inl j], [.inr (.inl (cMx (M 98) (3350 + 81 * j.toNat) (1 + (M 98 (3350 + 81 * j.toNat)).toNat) p))]) M _
                    refine zH_w (c' := (116, [zR 97, .inr (.inl (cMx (M 98) (3350 + 81 * j.toNat) (1 + (M 98 (3350 + 81 * j.toNat)).toNat) p)), zN, .inl (j + 1)], [])) 3 hz (by rw [show (.inl (j + 1) : zV) = .inl (w32 (j + 1)) from by rw [w32_id (by omega)]]; rfl) ?_
                    refine ih116 (j + 1) (cMx (M 98) (3350 + 81 * j.toNat) (1 + (M 98 (3350 + 81 * j.toNat)).toNat) p) (by omega) ?_ ?_
                    · omega
                    · rw [show (j + 1).toNat = j.toNat + 1 by omega, hp]; rfl
              refine lp116 (9) 0 q (by omega) ?_ ?_
              · omega
              · rfl
            · skip
              refine zH_w (c' := (104, [zR 97, .inr (.inl q), zN, .inl i], [.inl 8, .inl (w32 (350 + (w32 (12 * i)))), .inr (.inl q), zR 97])) 8 hz rfl ?_
              refine zH_wE (c1 := (107, [zR 97, .inr (.inl q), zN, .inl i], [])) 0 hz zp_294 (fh_294_97 (s := 350 + 12 * i.toNat) (m := 8) q (w32 (350 + (w32 (12 * i)))) 8 (by rw [w32_id (x := 12 * i) (by omega), w32_id (by omega)]; omega) rfl (by omega)) (by rfl) ?_
              show zH n (0, 0) 295 (107, [zR 97, .inr (.inl q), zN, .inl i], [.inr (.inl (cMx (M 98) (350 + 12 * i.toNat) (8) q))]) M _
              refine zH_w (c' := (82, [zR 97, .inr (.inl (cMx (M 98) (350 + 12 * i.toNat) (8) q)), zN, .inl (i + 1)], [])) 3 hz (by rw [show (.inl (i + 1) : zV) = .inl (w32 (i + 1)) from by rw [w32_id (by omega)]]; rfl) ?_
              refine ih82 (i + 1) (cMx (M 98) (350 + 12 * i.toNat) (8) q) (by omega) ?_ ?_
              · omega
              · rw [show (i + 1).toNat = i.toNat + 1 by omega, hq]; rfl
        refine lp82 (251) 0 (cMx (M 98) (150) (5 * (M 98 3).toNat) (cMx (M 98) (80) (3 * (M 98 1).toNat) (cMx (M 98) (20) (4 * (M 98 0).toNat) g))) (by omega) ?_ ?_
        · omega
        · rfl
      · skip
        refine zH_wE (c1 := (22, [zR 97, .inr (.inl g), zN, .inl k], [.inr (.inl (w64 (31 * g)))])) 5 hz zp_292 (fh_292_97 hC k (by omega)) (by rfl) ?_
        show zH n (0, 0) 295 (22, [zR 97, .inr (.inl g), zN, .inl k], [.inl (cOf M k), .inr (.inl (w64 (31 * g)))]) M _
        refine zH_w (c' := (6, [zR 97, .inr (.inl (w64 ((w64 (31 * g)) + (cOf M k)))), zN, .inl (k + 1)], [])) 5 hz (by rw [show (.inl (k + 1) : zV) = .inl (w32 (k + 1)) from by rw [w32_id (by omega)]]; rfl) ?_
        refine ih6 (k + 1) (w64 ((w64 (31 * g)) + (cOf M k))) (by omega) ?_ ?_
        · omega
        · rw [show (k + 1).toNat = k.toNat + 1 by omega, hg]
          show _ = w64 (w64 (31 * cHd M k.toNat) + cOf M ((k.toNat : Nat) : Int))
          rw [show ((k.toNat : Nat) : Int) = k by omega]
  refine lp6 (9) 0 283 (by omega) ?_ ?_
  · omega
  · rfl
