/-! WAYS: THE CLASS, WHAT IT TELLS -/
section WM
variable {L T : Nat → Nat} {n9 : Nat} {M M' : zM}
/-- those of x that are not of p -/
noncomputable def wnp (x p : Nat) : Nat := x ^^^ (x &&& p)
theorem wnp_b (x p i : Nat) : (wnp x p).testBit i = true ↔ (x.testBit i = true ∧ ¬ p.testBit i = true) := by
  have h : wSub (x &&& p) x := fun j q => ((wb_and _ _ j).mp q).1
  unfold wnp
  rw [wb_xor h, wb_and]
  exact ⟨fun q => ⟨q.1, fun z => q.2 ⟨q.1, z⟩⟩, fun q => ⟨q.1, fun z => q.2 z.2⟩⟩
theorem wnp_lt {x p k : Nat} (h : x < 2 ^ k) : wnp x p < 2 ^ k := Nat.lt_pow_two_of_testBit _ (fun i hi => Bool.eq_false_iff.mpr (fun q => by
  have a := Nat.ge_two_pow_of_testBit ((wnp_b x p i).mp q).1
  have := Nat.pow_le_pow_right (n := 2) (by decide) hi
  omega))
/-- with all that they lean on -/
noncomputable def wcl (L : Nat → Nat) (P : Nat) : Nat → Nat → Nat
  | 0, x => x
  | k + 1, x => wcl L P k (if x.testBit k = true then x ||| wnp (L k) P else x)
theorem wcl_s (P k x : Nat) : wcl L P (k + 1) x = wcl L P k (if x.testBit k = true then x ||| wnp (L k) P else x) := rfl
theorem wcl_lt {P m : Nat} (hL : ∀ c, c < m → L c < 2 ^ c) : ∀ (k x : Nat), k ≤ m → x < 2 ^ m → wcl L P k x < 2 ^ m
  | 0, _, _, hx => hx
  | k + 1, x, hk, hx => by
    rw [wcl_s]
    refine wcl_lt hL k _ (by omega) ?_
    split
    · have a := wnp_lt (p := P) (hL k (by omega))
      have := Nat.pow_le_pow_right (n := 2) (by decide) (show k ≤ m by omega)
      exact Nat.or_lt_two_pow hx (by omega)
    · exact hx
theorem wcl_up {P : Nat} : ∀ (k x i : Nat), x.testBit i = true → (wcl L P k x).testBit i = true
  | 0, _, _, h => h
  | k + 1, x, i, h => by
    rw [wcl_s]
    refine wcl_up k _ i ?_
    split
    · rw [Nat.testBit_or, h]; rfl
    · exact h
theorem wcl_hi {P : Nat} (hL : ∀ c, c < 14 → L c < 2 ^ c) : ∀ (k x i : Nat), k ≤ 14 → k ≤ i + 1 → (wcl L P k x).testBit i = true → x.testBit i = true
  | 0, _, _, _, _, h => h
  | k + 1, x, i, hk, hi, h => by
    rw [wcl_s] at h
    have q := wcl_hi hL k _ i (by omega) (by omega) h
    split at q
    · rw [Nat.testBit_or, Bool.or_eq_true] at q
      rcases q with q | q
      · exact q
      · have a := Nat.ge_two_pow_of_testBit ((wnp_b _ _ i).mp q).1
        have b := hL k (by omega)
        have := Nat.pow_le_pow_right (n := 2) (by decide) (show k ≤ i by omega)
        omega
    · exact q
theorem wcl_cl {P : Nat} (hL : ∀ c, c < 14 → L c < 2 ^ c) : ∀ (k x c : Nat), k ≤ 14 → c < k → (wcl L P k x).testBit c = true → ∀ j, (L c).testBit j = true → ¬ P.testBit j = true → (wcl L P k x).testBit j = true
  | 0, _, c, _, hc, _, _, _, _ => absurd hc (Nat.not_lt_zero _)
  | k + 1, x, c, hk, hc, h, j, h1, h2 => by
    rw [wcl_s] at h ⊢
    by_cases z : c = k
    · have q := wcl_hi hL k _ c (by omega) (by omega) h
      rw [z] at q h1
      have q2 : x.testBit k = true := by
        split at q
        · assumption
        · exact q
      rw [if_pos q2]
      refine wcl_up k _ j ?_
      rw [Nat.testBit_or, (wnp_b (L k) P j).mpr ⟨h1, h2⟩, Bool.or_true]
    · exact wcl_cl hL k _ c (by omega) (by omega) h j h1 h2
theorem wcl_np {P : Nat} : ∀ (k x : Nat), (∀ i, x.testBit i = true → ¬ P.testBit i = true) → ∀ i, (wcl L P k x).testBit i = true → ¬ P.testBit i = true
  | 0, _, h, i, q => h i q
  | k + 1, x, h, i, q => by
    rw [wcl_s] at q
    refine wcl_np k _ (fun j p => ?_) i q
    split at p
    · rw [Nat.testBit_or, Bool.or_eq_true] at p
      rcases p with p | p
      · exact h j p
      · exact ((wnp_b _ _ j).mp p).2
    · exact h j p
/-- no more rows than there are courses -/
theorem wcl_N {P m : Nat} (hL : ∀ c, c < 14 → L c < 2 ^ c) : ∀ (d x : Nat), x < 2 ^ m → wcl L P (m + d) x = wcl L P m x
  | 0, _, _ => rfl
  | d + 1, x, hx => by
    rw [show m + (d + 1) = (m + d) + 1 by omega, wcl_s, if_neg (fun q => by
      have a := Nat.ge_two_pow_of_testBit q
      have := Nat.pow_le_pow_right (n := 2) (by decide) (show m ≤ m + d by omega)
      omega)]
    exact wcl_N hL d x hx
theorem wz_np {x p : Int} (hx : 0 ≤ x ∧ x ≤ 2147483647) (hp : 0 ≤ p ∧ p ≤ 2147483647) : zband x (zbxor p (-1)) = ((wnp x.toNat p.toNat : Nat) : Int) := wz_less hx hp
theorem wnp_sub {x s : Nat} (h : wSub s x) : wnp x s = x ^^^ s := by
  unfold wnp
  rw [show x &&& s = s from Nat.eq_of_testBit_eq (fun i => by
    have q := h i
    rw [Nat.testBit_and]
    cases e1 : x.testBit i <;> cases e2 : s.testBit i <;> simp_all)]
theorem wz_or2 {x y : Nat} (hx : x < 2 ^ 14) (hy : y < 2 ^ 14) : zbor (x : Int) (y : Int) = ((x ||| y : Nat) : Int) := by
  rw [qbor_N _ _ (by omega) (by omega), Int.toNat_natCast, Int.toNat_natCast]
/-- the greatest set with which a way of the fewest terms begins -/
noncomputable def wGt (L T : Nat → Nat) (n9 l t S : Nat) : Prop := (wFull L T n9 l t S ∧ ∃ u, wFw L T n9 (l ^^^ S) ((t + 1) % 3) u ∧ wFw L T n9 l t (u + 1)) ∧ ∀ S' u, wFull L T n9 l t S' → wFw L T n9 (l ^^^ S') ((t + 1) % 3) u → wFw L T n9 l t (u + 1) → S' ≤ S
theorem wGt_u {l t S S' : Nat} (a : wGt L T n9 l t S) (b : wGt L T n9 l t S') : S = S' := by
  obtain ⟨⟨a1, u, a2, a3⟩, a4⟩ := a
  obtain ⟨⟨b1, v, b2, b3⟩, b4⟩ := b
  have := a4 S' v b1 b2 b3
  have := b4 S u a1 a2 a3
  omega
/-- term by term -/
noncomputable def wSt (L T : Nat → Nat) (n9 : Nat) : Nat → Nat → Nat → Nat → Nat → Prop
  | 0, left, _, l, s => l = left ∧ s = 0
  | k + 1, left, t, l, s => ∃ l1 s1, wSt L T n9 k left t l1 s1 ∧ wGt L T n9 l1 ((t + k) % 3) s ∧ l = l1 ^^^ s
theorem wSt_u : ∀ (k : Nat) {left t l s l' s' : Nat}, wSt L T n9 k left t l s → wSt L T n9 k left t l' s' → l = l' ∧ s = s'
  | 0, _, _, _, _, _, _, a, b => ⟨a.1.trans b.1.symm, a.2.trans b.2.symm⟩
  | k + 1, _, _, _, _, _, _, ⟨l1, s1, a1, a2, a3⟩, ⟨l2, s2, b1, b2, b3⟩ => by
    obtain ⟨e1, e2⟩ := wSt_u k a1 b1
    subst e1
    have e3 := wGt_u a2 b2
    subst e3
    exact ⟨a3.trans b3.symm, rfl⟩
theorem wDp_1 {W l t : Nat} (hp : wPr L T) (hW : wWt T W) (h : wSub l W) (ht : t < 3) : wDp L T l t 1 := fun hl => by
  obtain ⟨p, p1, p2⟩ := wPot hp hW h hl ht
  have := wC_le l 14
  exact ⟨p, p1, p2, by omega⟩
end WM
set_option maxRecDepth 100000 in
theorem fh_112_81 {n : Nat} {M : zM} {L T : Nat → Nat} (hw : wTb L T M) (hp : wPr L T) (a1 a2 a3 : Int) (h1 : 0 ≤ a1 ∧ a1 ≤ 16383) (h2 : 0 ≤ a2 ∧ a2 ≤ 16383) (hT1 : ∀ i, (wcl L a2.toNat 14 (wnp a1.toNat a2.toNat)).testBit i = true → 1 ≤ T i) : zH n (0, 0) 112 (0, zini [zR 81, .inl a1, .inl a2, .inl a3] 5, []) M (fun r M' => r = none ∧ (∀ q, q ≠ 81 → q ≠ 82 → M' q = M q) ∧ (∀ q, q ≠ 4 → q ≠ 5 → M' 81 q = M 81 q) ∧ M' 81 4 = ((wcl L a2.toNat 14 (wnp a1.toNat a2.toNat)) : Nat) ∧ M' 81 5 = a3 ∧ ∀ m, m ≠ 0 → wSub m (wcl L a2.toNat 14 (wnp a1.toNat a2.toNat)) → M' 82 m = 0) := by
  have hz := zp_112
  show zH n (0, 0) 112 (0, [zR 81, .inl a1, .inl a2, .inl a3, zN], []) M _
  refine zH_w (c' := (14, [zR 81, .inl a1, .inl a2, .inl a3, zN], [])) 10 hz rfl ?_
  obtain ⟨M1, hM1⟩ : ∃ X : zM, X = zput (zput M 81 4 (zband a1 (zbxor a2 (-1)))) 81 5 a3 := ⟨_, rfl⟩
  rw [← hM1]
  have hO1 : ∀ q, q ≠ 81 → M1 q = M q := fun q h => by rw [hM1, zput_oth h, zput_oth h]
  have h81a : (∀ q, q ≠ 4 → q ≠ 5 → M1 81 q = M 81 q) ∧ M1 81 5 = a3 := ⟨fun q q1 q2 => by rw [hM1, qput_nk q2, qput_nk q1], by rw [hM1, qput_eq]⟩
  have h814 : M1 81 4 = ((wnp a1.toNat a2.toNat : Nat) : Int) := by rw [hM1, qput_nk (by decide), qput_eq, wz_np (by omega) (by omega)]
  refine zH_w (c' := (18, [zR 81, .inl a1, .inl a2, .inl a3, .inl 13], [])) 2 hz rfl ?_
  have lp18 : ∀ (N : Nat) (c : Int) (M5 : zM), ((c + 1).toNat) < N → (-1 ≤ c ∧ c ≤ 13) → (∀ q, q ≠ 81 → M5 q = M q) → ((∀ q, q ≠ 4 → q ≠ 5 → M5 81 q = M 81 q) ∧ M5 81 5 = a3) → (∃ x : Nat, M5 81 4 = (x : Int) ∧ x < 2 ^ 14 ∧ wcl L a2.toNat (c + 1).toNat x = (wcl L a2.toNat 14 (wnp a1.toNat a2.toNat))) → zH n (0, 0) 112 (18, [zR 81, .inl a1, .inl a2, .inl a3, .inl c], []) M5 (fun r M' => r = none ∧ (∀ q, q ≠ 81 → q ≠ 82 → M' q = M q) ∧ (∀ q, q ≠ 4 → q ≠ 5 → M' 81 q = M 81 q) ∧ M' 81 4 = ((wcl L a2.toNat 14 (wnp a1.toNat a2.toNat)) : Nat) ∧ M' 81 5 = a3 ∧ ∀ m, m ≠ 0 → wSub m (wcl L a2.toNat 14 (wnp a1.toNat a2.toNat)) → M' 82 m = 0) := by
    intro N
    induction N with
    | zero => intro c M5 hN; exact absurd hN (Nat.not_lt_zero _)
    | succ N ih18 =>
      intro c M5 hN hi hO h81 hx
      refine zH_w (c' := (20, [zR 81, .inl a1, .inl a2, .inl a3, .inl c], [.inl c])) 1 hz rfl ?_
      refine zH_wf_lt (pc := 20) (n' := 23) (t := 68) (L := [zR 81, .inl a1, .inl a2, .inl a3, .inl c]) (st := []) (x := c) 0 hz (by rfl) (fun hb20 => ?_) (fun hb20 => ?_)
      · skip
        obtain ⟨x, x1, x2, x3⟩ := hx
        rw [show (c + 1).toNat = 0 by omega] at x3
        have hX : M5 81 4 = ((wcl L a2.toNat 14 (wnp a1.toNat a2.toNat)) : Nat) := by rw [x1, ← x3]; rfl
        have hX14 : (wcl L a2.toNat 14 (wnp a1.toNat a2.toNat)) < 2 ^ 14 := by rw [← x3]; exact x2
        refine zH_w (c' := (72, [zR 81, .inl a1, .inl a2, .inl a3, .inl c], [.inl (M5 81 4)])) 2 hz rfl ?_
        rw [hX]
        refine zH_w (c' := (74, [zR 81, .inl a1, .inl a2, .inl a3, .inl (((wcl L a2.toNat 14 (wnp a1.toNat a2.toNat)) : Nat) : Int)], [])) 1 hz rfl ?_
        have lp74 : ∀ (N : Nat) (l : Int) (M6 : zM), (l.toNat) < N → (0 ≤ l ∧ l.toNat &&& (wcl L a2.toNat 14 (wnp a1.toNat a2.toNat)) = l.toNat) → (∀ q, q ≠ 82 → M6 q = M5 q) → (∀ m, m ≠ 0 → m &&& (wcl L a2.toNat 14 (wnp a1.toNat a2.toNat)) = m → l.toNat < m → M6 82 m = 0) → zH n (0, 0) 112 (74, [zR 81, .inl a1, .inl a2, .inl a3, .inl l], []) M6 (fun r M' => r = none ∧ (∀ q, q ≠ 81 → q ≠ 82 → M' q = M q) ∧ (∀ q, q ≠ 4 → q ≠ 5 → M' 81 q = M 81 q) ∧ M' 81 4 = ((wcl L a2.toNat 14 (wnp a1.toNat a2.toNat)) : Nat) ∧ M' 81 5 = a3 ∧ ∀ m, m ≠ 0 → wSub m (wcl L a2.toNat 14 (wnp a1.toNat a2.toNat)) → M' 82 m = 0) := by
          intro N
          induction N with
          | zero => intro l M6 hN; exact absurd hN (Nat.not_lt_zero _)
          | succ N ih74 =>
            intro l M6 hN hl hO6 hz6
            refine zH_w (c' := (76, [zR 81, .inl a1, .inl a2, .inl a3, .inl l], [.inl l])) 1 hz rfl ?_
            refine zH_wf_le (pc := 76) (n' := 79) (t := 111) (L := [zR 81, .inl a1, .inl a2, .inl a3, .inl l]) (st := []) (x := l) 0 hz (by rfl) (fun hb76 => ?_) (fun hb76 => ?_)
            · skip
              refine zH_ret hz rfl rfl ?_
              exact ⟨rfl, fun q q1 q2 => (hO6 q q2).trans (hO q q1), fun q q1 q2 => (congrFun (hO6 81 (by decide)) q).trans (h81.1 q q1 q2), (congrFun (hO6 81 (by decide)) 4).trans hX, (congrFun (hO6 81 (by decide)) 5).trans h81.2, fun m m1 m2 => hz6 m m1 (Nat.eq_of_testBit_eq (fun i => by
                have q := m2 i
                rw [Nat.testBit_and]
                cases e1 : m.testBit i <;> cases e2 : ((wcl L a2.toNat 14 (wnp a1.toNat a2.toNat))).testBit i <;> simp_all)) (by have := Nat.pos_of_ne_zero m1; omega)⟩
            · skip
              have hl14 := w2_le hl.2
              refine zH_wi_ge (pc := 86) (n' := 89) (t := 111) (L := [zR 81, .inl a1, .inl a2, .inl a3, .inl l]) (st := []) (x := l) (y := 16384) 4 hz (by rfl) (fun hb86 => ?_) (fun hb86 => ?_)
              · skip
                exact absurd hb86 (by omega)
              · skip
                refine zH_w (c' := (96, [zR 81, .inl a1, .inl a2, .inl a3, .inl l], [.inl 0, .inl l, zR 82])) 4 hz rfl ?_
                refine zH_iast hz rfl rfl (fun hin96 => ?_)
                show zH n (0, 0) 112 (97, [zR 81, .inl a1, .inl a2, .inl a3, .inl l], []) (zput M6 82 (l : Int).toNat 0) _
                obtain ⟨M7, hM7⟩ : ∃ X : zM, X = zput M6 82 (l : Int).toNat 0 := ⟨_, rfl⟩
                rw [← hM7]
                refine zH_w (c' := (105, [zR 81, .inl a1, .inl a2, .inl a3, .inl l], [.inl (M7 81 4), .inl (w32 (l - 1))])) 5 hz rfl ?_
                rw [show M7 81 4 = (((wcl L a2.toNat 14 (wnp a1.toNat a2.toNat)) : Nat) : Int) from by rw [hM7, zput_oth (by decide), hO6 81 (by decide)]; exact hX]
                refine zH_w (c' := (106, [zR 81, .inl a1, .inl a2, .inl a3, .inl l], [.inl (zband (w32 (l - 1)) (((wcl L a2.toNat 14 (wnp a1.toNat a2.toNat)) : Nat) : Int))])) 1 hz rfl ?_
                rw [show zband (w32 (l - 1)) (((wcl L a2.toNat 14 (wnp a1.toNat a2.toNat)) : Nat) : Int) = ((l.toNat - 1 &&& (wcl L a2.toNat 14 (wnp a1.toNat a2.toNat)) : Nat) : Int) from by rw [w32_id (by omega), qband_N _ _ (by omega) (by omega), Int.toNat_natCast, show (l - 1).toNat = l.toNat - 1 by omega]]
                have hand : l.toNat - 1 &&& (wcl L a2.toNat 14 (wnp a1.toNat a2.toNat)) ≤ l.toNat - 1 := Nat.and_le_left
                refine zH_w (c' := (74, [zR 81, .inl a1, .inl a2, .inl a3, .inl ((l.toNat - 1 &&& (wcl L a2.toNat 14 (wnp a1.toNat a2.toNat)) : Nat) : Int)], [])) 2 hz rfl ?_
                refine ih74 ((l.toNat - 1 &&& (wcl L a2.toNat 14 (wnp a1.toNat a2.toNat)) : Nat) : Int) M7 (by omega) ?_ ?_ ?_
                · exact ⟨by omega, by rw [Int.toNat_natCast, Nat.and_assoc, Nat.and_self]⟩
                · exact fun q h => by rw [hM7, zput_oth h]; exact hO6 q h
                · intro m m1 m2 m3
                  rw [Int.toNat_natCast] at m3
                  rw [hM7]
                  by_cases e : m = l.toNat
                  · rw [e, qput_eq]
                  · rw [qput_nk e]
                    rcases Nat.lt_or_ge m l.toNat with z | z
                    · have := wDn 14 (by omega) hl.2 m2 z; omega
                    · exact hz6 m m1 m2 (by omega)
        refine lp74 (20000) (((wcl L a2.toNat 14 (wnp a1.toNat a2.toNat)) : Nat) : Int) M5 (by omega) ?_ ?_ ?_
        · exact ⟨by omega, by rw [Int.toNat_natCast, Nat.and_self]⟩
        · exact fun _ _ => rfl
        · exact fun m m1 m2 m3 => by have := w2_le m2; rw [Int.toNat_natCast] at m3; omega
      · skip
        obtain ⟨x, x1, x2, x3⟩ := hx
        have hT5 : wTb L T M5 := by unfold wTb; rw [hO 10 (by decide), hO 11 (by decide), hO 83 (by decide), hO 85 (by decide)]; exact hw
        rw [show (c + 1).toNat = c.toNat + 1 by omega, wcl_s] at x3
        have hLc := hp.1 c.toNat (by omega)
        have hL2 := Nat.pow_le_pow_right (n := 2) (by decide) (show c.toNat ≤ 13 by omega)
        refine zH_w (c' := (27, [zR 81, .inl a1, .inl a2, .inl a3, .inl c], [.inl (M5 81 4)])) 2 hz rfl ?_
        rw [x1]
        refine zH_w (c' := (32, [zR 81, .inl a1, .inl a2, .inl a3, .inl c], [.inl (zband (zbshr (x : Int) c) 1)])) 4 hz rfl ?_
        rw [wnb x (x : Int) rfl x2 (by omega)]
        refine zH_w (c' := (33, [zR 81, .inl a1, .inl a2, .inl a3, .inl c], [.inl 1, .inl ((x / 2 ^ c.toNat % 2 : Nat) : Int)])) 1 hz rfl ?_
        refine zH_wi_ne (pc := 33) (n' := 36) (t := 62) (L := [zR 81, .inl a1, .inl a2, .inl a3, .inl c]) (st := []) (x := ((x / 2 ^ c.toNat % 2 : Nat) : Int)) (y := 1) 0 hz (by rfl) (fun hb33 => ?_) (fun hb33 => ?_)
        · skip
          have hbn : ¬ x.testBit c.toNat = true := fun q => by have := (wbt _ _).mp q; omega
          rw [if_neg hbn] at x3
          have hOn := hO
          have h81n := h81
          have hxn : ∃ x : Nat, M5 81 4 = (x : Int) ∧ x < 2 ^ 14 ∧ wcl L a2.toNat c.toNat x = (wcl L a2.toNat 14 (wnp a1.toNat a2.toNat)) := ⟨x, x1, x2, x3⟩
          refine zH_w (c' := (18, [zR 81, .inl a1, .inl a2, .inl a3, .inl (c - 1)], [])) 2 hz (by rw [show (.inl (c - 1) : zV) = .inl (w32 (c + (-1))) from by rw [w32_id (by omega)]; rfl]; rfl) ?_
          refine ih18 (c - 1) M5 (by omega) ?_ ?_ ?_ ?_
          · omega
          · exact hOn
          · exact h81n
          · rw [show (c - 1 + 1).toNat = c.toNat by omega]; exact hxn
        · skip
          have hby : x.testBit c.toNat = true := (wbt _ _).mpr (by omega)
          rw [if_pos hby] at x3
          have hcW : (wcl L a2.toNat 14 (wnp a1.toNat a2.toNat)).testBit c.toNat = true := by rw [← x3]; exact wcl_up _ _ _ (by rw [Nat.testBit_or, hby]; rfl)
          refine zH_w (c' := (41, [zR 81, .inl a1, .inl a2, .inl a3, .inl c], [.inl (M5 81 4), zR 81])) 3 hz rfl ?_
          rw [x1]
          refine zH_w (c' := (51, [zR 81, .inl a1, .inl a2, .inl a3, .inl c], [.inl 1, .inl c, zR 10, .inl (x : Int), zR 81])) 5 hz rfl ?_
          refine zH_wE (c1 := (54, [zR 81, .inl a1, .inl a2, .inl a3, .inl c], [.inl (x : Int), zR 81])) 0 hz zp_106 (fh_106_10 c 1) (by rfl) ?_
          show zH n (0, 0) 112 (54, [zR 81, .inl a1, .inl a2, .inl a3, .inl c], [.inl (hR_get M5 10 c 1), .inl (x : Int), zR 81]) M5 _
          rw [wG1 hT5 (by omega) (hT1 _ hcW)]
          refine zH_w (c' := (58, [zR 81, .inl a1, .inl a2, .inl a3, .inl c], [.inl (zband ((L c.toNat : Nat) : Int) (zbxor a2 (-1))), .inl (x : Int), zR 81])) 4 hz rfl ?_
          rw [wz_np (x := ((L c.toNat : Nat) : Int)) (p := a2) (by omega) (by omega)]
          rw [Int.toNat_natCast]
          refine zH_w (c' := (59, [zR 81, .inl a1, .inl a2, .inl a3, .inl c], [.inl (zbor (x : Int) ((wnp (L c.toNat) a2.toNat : Nat) : Int)), zR 81])) 1 hz rfl ?_
          have hwp := wnp_lt (p := a2.toNat) (show L c.toNat < 2 ^ 14 by omega)
          rw [wz_or2 x2 hwp]
          refine zH_w (c' := (62, [zR 81, .inl a1, .inl a2, .inl a3, .inl c], [])) 1 hz rfl ?_
          obtain ⟨M8, hM8⟩ : ∃ X : zM, X = zput M5 81 4 ((x ||| wnp (L c.toNat) a2.toNat : Nat) : Int) := ⟨_, rfl⟩
          rw [← hM8]
          have hOn : ∀ q, q ≠ 81 → M8 q = M q := fun q h => by rw [hM8, zput_oth h]; exact hO q h
          have h81n : (∀ q, q ≠ 4 → q ≠ 5 → M8 81 q = M 81 q) ∧ M8 81 5 = a3 := ⟨fun q q1 q2 => by rw [hM8, qput_nk q1]; exact h81.1 q q1 q2, by rw [hM8, qput_nk (by decide)]; exact h81.2⟩
          have hxn : ∃ x : Nat, M8 81 4 = (x : Int) ∧ x < 2 ^ 14 ∧ wcl L a2.toNat c.toNat x = (wcl L a2.toNat 14 (wnp a1.toNat a2.toNat)) := ⟨_, by rw [hM8, qput_eq], Nat.or_lt_two_pow x2 hwp, x3⟩
          refine zH_w (c' := (18, [zR 81, .inl a1, .inl a2, .inl a3, .inl (c - 1)], [])) 2 hz (by rw [show (.inl (c - 1) : zV) = .inl (w32 (c + (-1))) from by rw [w32_id (by omega)]; rfl]; rfl) ?_
          refine ih18 (c - 1) M8 (by omega) ?_ ?_ ?_ ?_
          · omega
          · exact hOn
          · exact h81n
          · rw [show (c - 1 + 1).toNat = c.toNat by omega]; exact hxn
  refine lp18 (15) 13 M1 (by omega) ?_ ?_ ?_ ?_
  · omega
  · exact hO1
  · exact h81a
  · exact ⟨_, h814, wnp_lt (by omega), rfl⟩
set_option maxRecDepth 100000 in
theorem fh_113_81 {n : Nat} {M : zM} {L T : Nat → Nat} {n9 W : Nat} (hw : wOk L T n9 M) (hp : wPr L T) (hn : 1 ≤ n9 ∧ n9 ≤ 4) (hW : wWt T W) (hMe : wMe L T n9 W M) (h4 : M 81 4 = (W : Int)) (a1 : Int) (h1 : 0 ≤ a1 ∧ a1 < 3) : zH n (0, 0) 113 (0, zini [zR 81, .inl a1] 3, []) M (fun r M' => ∃ v : Nat, r = some (.inl (v : Int)) ∧ wFw L T n9 W a1.toNat v ∧ v ≤ 42 ∧ wEq M' M ∧ wMe L T n9 W M') := by
  have hz := zp_113
  show zH n (0, 0) 113 (0, [zR 81, .inl a1, zN], []) M _
  have hDp := wDp_1 hp hW (fun _ q => q : wSub W W) (show a1.toNat < 3 by omega)
  refine zH_w (c' := (5, [zR 81, .inl a1, zN], [.inl (M 81 4), zR 81])) 3 hz rfl ?_
  rw [h4]
  refine zH_w (c' := (7, [zR 81, .inl a1, zN], [.inl 1, .inl a1, .inl (W : Int), zR 81])) 2 hz rfl ?_
  refine zH_wC (c1 := (10, [zR 81, .inl a1, zN], [])) 0 hz zp_116 (fh_116_81 hp hn hW 62 hw (W : Int) a1 1 (by omega) (by omega) (by rw [Int.toNat_natCast]; exact fun _ q => q) (by omega) (by omega) (by rw [Int.toNat_natCast]; exact hDp) hMe) (by rfl) ?_
  rintro _ M1 ⟨g, rfl, g1, g2, g3, g4⟩
  show zH n (0, 0) 113 (10, [zR 81, .inl a1, zN], [.inl (g : Int)]) M1 _
  rw [Int.toNat_natCast] at g1
  refine zH_w (c' := (14, [zR 81, .inl a1, .inl (g : Int)], [.inl 60, .inl (g : Int)])) 3 hz rfl ?_
  refine zH_wi_le (pc := 14) (n' := 17) (t := 21) (L := [zR 81, .inl a1, .inl (g : Int)]) (st := []) (x := (g : Int)) (y := 60) 0 hz (by rfl) (fun hb14 => ?_) (fun hb14 => ?_)
  · skip
    refine zH_w (c' := (22, [zR 81, .inl a1, .inl (g : Int)], [.inl (g : Int)])) 1 hz rfl ?_
    refine zH_ret hz rfl rfl ?_
    first
      | exact ⟨g, rfl, g1, g2, g3, g4⟩
      | omega
  · skip
    refine zH_w (c' := (22, [zR 81, .inl a1, .inl (g : Int)], [.inl (-1)])) 2 hz rfl ?_
    refine zH_ret hz rfl rfl ?_
    first
      | exact ⟨g, rfl, g1, g2, g3, g4⟩
      | omega
theorem wAnd {a b : Nat} (h : wSub a b) : a &&& b = a := Nat.eq_of_testBit_eq (fun i => by
  have q := h i
  rw [Nat.testBit_and]
  cases e1 : a.testBit i <;> cases e2 : b.testBit i <;> simp_all)
set_option maxHeartbeats 4000000 in
set_option maxRecDepth 100000 in
theorem fh_115_81 {n : Nat} {M : zM} {L T : Nat → Nat} {n9 W : Nat} (hw : wOk L T n9 M) (hp : wPr L T) (hn : 1 ≤ n9 ∧ n9 ≤ 4) (hW : wWt T W) (hMe : wMe L T n9 W M) (a1 a2 a3 : Int) (h0 : 0 ≤ a1) (h1 : wSub a1.toNat W) (h2 : 0 ≤ a2 ∧ a2 < 3) (h3 : 0 ≤ a3) (hv : wFw L T n9 a1.toNat a2.toNat (a3.toNat + 1)) : zH n (0, 0) 115 (0, zini [zR 81, .inl a1, .inl a2, .inl a3] 8, []) M (fun r M' => ∃ S : Nat, r = some (.inl (S : Int)) ∧ wGt L T n9 a1.toNat a2.toNat S ∧ wEq M' M ∧ wMe L T n9 W M') := by
  have hz := zp_115
  show zH n (0, 0) 115 (0, [zR 81, .inl a1, .inl a2, .inl a3, zN, zN, zN, zN], []) M _
  have hne : a1.toNat ≠ 0 := fun z => by
    rw [z] at hv
    have := wFw_u hv (wFw_0 _)
    omega
  have hl14 := h1.lt hW.1
  refine zH_wE (c1 := (6, [zR 81, .inl a1, .inl a2, .inl a3, zN, zN, zN, zN], [])) 3 hz zp_117 (fh_117_81 hw hp a1 a2 (by omega) (by omega) (fun i q => hW.2 i (h1 i q))) (by rfl) ?_
  show zH n (0, 0) 115 (6, [zR 81, .inl a1, .inl a2, .inl a3, zN, zN, zN, zN], [.inl ((wF L T a1.toNat a2.toNat 14 : Nat) : Int)]) M _
  obtain ⟨F, hF⟩ : ∃ F, F = wF L T a1.toNat a2.toNat 14 := ⟨_, rfl⟩
  rw [← hF]
  have hF14 : F < 2 ^ 14 := by rw [hF]; exact wF_lt _ _
  have hFl : wSub F a1.toNat := by rw [hF]; exact wF_sb _ _
  refine zH_w (c' := (14, [zR 81, .inl a1, .inl a2, .inl a3, .inl (F : Int), zN, zN, zN], [.inl (F : Int), .inl (M 81 5)])) 4 hz rfl ?_
  refine zH_wE (c1 := (17, [zR 81, .inl a1, .inl a2, .inl a3, .inl (F : Int), zN, zN, zN], [.inl (M 81 5)])) 0 hz zp_296 (fh_296 (F : Int)) (by rfl) ?_
  show zH n (0, 0) 115 (17, [zR 81, .inl a1, .inl a2, .inl a3, .inl (F : Int), zN, zN, zN], [.inl (hf_296 M (F : Int)), .inl (M 81 5)]) M _
  rw [wbc hF14]
  refine zH_w (c' := (20, [zR 81, .inl a1, .inl a2, .inl a3, .inl (F : Int), zN, zN, zN], [.inl (if ((wC F 14 : Nat) : Int) < (M 81 5) then ((wC F 14 : Nat) : Int) else (M 81 5))])) 1 hz rfl ?_
  rw [show (if ((wC F 14 : Nat) : Int) < (M 81 5) then ((wC F 14 : Nat) : Int) else (M 81 5)) = ((min n9 (wC F 14) : Nat) : Int) from by rw [hw.2]; split <;> omega]
  refine zH_w (c' := (26, [zR 81, .inl a1, .inl a2, .inl a3, .inl (F : Int), .inl ((min n9 (wC F 14) : Nat) : Int), zN, zN], [.inl 3, .inl (w32 (a2 + 1))])) 5 hz rfl ?_
  refine zH_irem hz rfl (fun hdv26 => ?_)
  show zH n (0, 0) 115 (27, [zR 81, .inl a1, .inl a2, .inl a3, .inl (F : Int), .inl ((min n9 (wC F 14) : Nat) : Int), zN, zN], [.inl ((w32 (a2 + 1)).tmod 3)]) M _
  rw [show (w32 (a2 + 1)).tmod 3 = ((((a2.toNat + 1) % 3) : Nat) : Int) from by rw [w32_id (by omega), wmod _ (by omega), show (a2 + 1).toNat = a2.toNat + 1 by omega]]
  refine zH_w (c' := (33, [zR 81, .inl a1, .inl a2, .inl a3, .inl (F : Int), .inl ((min n9 (wC F 14) : Nat) : Int), .inl ((((a2.toNat + 1) % 3) : Nat) : Int), .inl (F : Int)], [])) 3 hz rfl ?_
  have lp33 : ∀ (N : Nat) (x : Int) (M5 : zM), (x.toNat) < N → (0 ≤ x ∧ x.toNat &&& F = x.toNat) → (∀ S : Nat, wFull L T n9 a1.toNat a2.toNat S → x.toNat < S → ¬ wFw L T n9 (a1.toNat ^^^ S) ((a2.toNat + 1) % 3) a3.toNat) → (wEq M5 M) → (wMe L T n9 W M5) → zH n (0, 0) 115 (33, [zR 81, .inl a1, .inl a2, .inl a3, .inl (F : Int), .inl ((min n9 (wC F 14) : Nat) : Int), .inl ((((a2.toNat + 1) % 3) : Nat) : Int), .inl x], []) M5 (fun r M' => ∃ S : Nat, r = some (.inl (S : Int)) ∧ wGt L T n9 a1.toNat a2.toNat S ∧ wEq M' M ∧ wMe L T n9 W M') := by
    intro N
    induction N with
    | zero => intro x M5 hN; exact absurd hN (Nat.not_lt_zero _)
    | succ N ih33 =>
      intro x M5 hN hx hno hQ hM5
      refine zH_w (c' := (35, [zR 81, .inl a1, .inl a2, .inl a3, .inl (F : Int), .inl ((min n9 (wC F 14) : Nat) : Int), .inl ((((a2.toNat + 1) % 3) : Nat) : Int), .inl x], [.inl x])) 1 hz rfl ?_
      refine zH_wf_le (pc := 35) (n' := 38) (t := 80) (L := [zR 81, .inl a1, .inl a2, .inl a3, .inl (F : Int), .inl ((min n9 (wC F 14) : Nat) : Int), .inl ((((a2.toNat + 1) % 3) : Nat) : Int), .inl x]) (st := []) (x := x) 0 hz (by rfl) (fun hb35 => ?_) (fun hb35 => ?_)
      · skip
        have h00 : wGt L T n9 a1.toNat a2.toNat 0 := by
          obtain ⟨S, u, s1, s2, s3⟩ := wFw_st hne hv
          have eu : u = a3.toNat := by omega
          by_cases z : S = 0
          · rw [z] at s1 s2
            refine ⟨⟨s1, u, s2, by rw [eu]; exact hv⟩, fun S' u' r1 r2 r3 => ?_⟩
            have e2 := wFw_u hv r3
            rcases Nat.eq_zero_or_pos S' with y | y
            · omega
            · exact absurd (by rw [show a3.toNat = u' by omega]; exact r2) (hno S' r1 (by omega))
          · exact absurd (by rw [← eu]; exact s2) (hno S s1 (by omega))
        exact zH_wr (r := some (.inl 0)) 1 hz (by rfl) (⟨0, rfl, h00, hQ, hM5⟩)
      · skip
        have hw5 := hw.mv hQ
        have hx14 : x.toNat < 2 ^ 14 := by have := w2_le hx.2; omega
        have hxF : wSub x.toNat F := fun i q => by rw [← hx.2] at q; exact ((wb_and _ _ i).mp q).2
        have hxl := hxF.tr hFl
        have hand : x.toNat - 1 &&& F ≤ x.toNat - 1 := Nat.and_le_left
        refine zH_wE (c1 := (43, [zR 81, .inl a1, .inl a2, .inl a3, .inl (F : Int), .inl ((min n9 (wC F 14) : Nat) : Int), .inl ((((a2.toNat + 1) % 3) : Nat) : Int), .inl x], [])) 1 hz zp_296 (fh_296 x) (by rfl) ?_
        show zH n (0, 0) 115 (43, [zR 81, .inl a1, .inl a2, .inl a3, .inl (F : Int), .inl ((min n9 (wC F 14) : Nat) : Int), .inl ((((a2.toNat + 1) % 3) : Nat) : Int), .inl x], [.inl (hf_296 M5 x)]) M5 _
        rw [show hf_296 M5 x = ((wC x.toNat 14 : Nat) : Int) from by have q := wbc (M := M5) hx14; rw [show ((x.toNat : Nat) : Int) = x by omega] at q; exact q]
        refine zH_w (c' := (45, [zR 81, .inl a1, .inl a2, .inl a3, .inl (F : Int), .inl ((min n9 (wC F 14) : Nat) : Int), .inl ((((a2.toNat + 1) % 3) : Nat) : Int), .inl x], [.inl ((min n9 (wC F 14) : Nat) : Int), .inl ((wC x.toNat 14 : Nat) : Int)])) 1 hz rfl ?_
        refine zH_wi_ne (pc := 45) (n' := 48) (t := 68) (L := [zR 81, .inl a1, .inl a2, .inl a3, .inl (F : Int), .inl ((min n9 (wC F 14) : Nat) : Int), .inl ((((a2.toNat + 1) % 3) : Nat) : Int), .inl x]) (st := []) (x := ((wC x.toNat 14 : Nat) : Int)) (y := ((min n9 (wC F 14) : Nat) : Int)) 0 hz (by rfl) (fun hb45 => ?_) (fun hb45 => ?_)
        · skip
          have hxo : wFull L T n9 a1.toNat a2.toNat x.toNat → ¬ wFw L T n9 (a1.toNat ^^^ x.toNat) ((a2.toNat + 1) % 3) a3.toNat := fun q _ => by
            have q2 := q.2
            rw [← hF] at q2
            exact hb45 (by rw [q2])
          have hQ7 := True.intro
          have g4 := True.intro
          refine zH_w (c' := (75, [zR 81, .inl a1, .inl a2, .inl a3, .inl (F : Int), .inl ((min n9 (wC F 14) : Nat) : Int), .inl ((((a2.toNat + 1) % 3) : Nat) : Int), .inl x], [.inl (zband (w32 (x - 1)) (F : Int))])) 5 hz rfl ?_
          rw [show zband (w32 (x - 1)) (F : Int) = ((x.toNat - 1 &&& F : Nat) : Int) from by rw [w32_id (by omega), qband_N _ _ (by omega) (by omega), Int.toNat_natCast, show (x - 1).toNat = x.toNat - 1 by omega]]
          refine zH_w (c' := (33, [zR 81, .inl a1, .inl a2, .inl a3, .inl (F : Int), .inl ((min n9 (wC F 14) : Nat) : Int), .inl ((((a2.toNat + 1) % 3) : Nat) : Int), .inl ((x.toNat - 1 &&& F : Nat) : Int)], [])) 2 hz rfl ?_
          refine ih33 ((x.toNat - 1 &&& F : Nat) : Int) M5 (by omega) ?_ ?_ ?_ ?_
          · exact ⟨by omega, by rw [Int.toNat_natCast, Nat.and_assoc, Nat.and_self]⟩
          · intro S q1 q2
            rw [Int.toNat_natCast] at q2
            have sF : wSub S F := by rw [hF]; exact q1.1
            rcases Nat.lt_trichotomy S x.toNat with z | z | z
            · have := wDn 14 (by omega) hx.2 (wAnd sF) z; omega
            · exact fun q => hxo (by rw [← z]; exact q1) (by rw [← z]; exact q)
            · exact hno S q1 z
          · first
              | exact hQ7
              | exact hQ
          · first
              | exact g4
              | exact hM5
        · skip
          have hfx : wFull L T n9 a1.toNat a2.toNat x.toNat := ⟨by rw [← hF]; exact hxF, by rw [← hF]; omega⟩
          have hlx : zband a1 (zbxor x (-1)) = ((a1.toNat ^^^ x.toNat : Nat) : Int) := by rw [wz_np (by omega) (by omega), wnp_sub hxl]
          have hsx : wSub (a1.toNat ^^^ x.toNat) W := hxl.xor.tr h1
          refine zH_w (c' := (55, [zR 81, .inl a1, .inl a2, .inl a3, .inl (F : Int), .inl ((min n9 (wC F 14) : Nat) : Int), .inl ((((a2.toNat + 1) % 3) : Nat) : Int), .inl x], [.inl (zband a1 (zbxor x (-1))), zR 81])) 6 hz rfl ?_
          rw [hlx]
          refine zH_w (c' := (58, [zR 81, .inl a1, .inl a2, .inl a3, .inl (F : Int), .inl ((min n9 (wC F 14) : Nat) : Int), .inl ((((a2.toNat + 1) % 3) : Nat) : Int), .inl x], [.inl 1, .inl ((((a2.toNat + 1) % 3) : Nat) : Int), .inl ((a1.toNat ^^^ x.toNat : Nat) : Int), zR 81])) 2 hz rfl ?_
          refine zH_wC (c1 := (61, [zR 81, .inl a1, .inl a2, .inl a3, .inl (F : Int), .inl ((min n9 (wC F 14) : Nat) : Int), .inl ((((a2.toNat + 1) % 3) : Nat) : Int), .inl x], [])) 0 hz zp_116 (fh_116_81 hp hn hW 62 hw5 ((a1.toNat ^^^ x.toNat : Nat) : Int) ((((a2.toNat + 1) % 3) : Nat) : Int) 1 (by omega) (by omega) (by rw [Int.toNat_natCast]; exact hsx) (by omega) (by omega) (by rw [Int.toNat_natCast, Int.toNat_natCast]; exact wDp_1 hp hW hsx (by omega)) hM5) (by rfl) ?_
          rintro _ M7 ⟨g, rfl, g1, g2, g3, g4⟩
          show zH n (0, 0) 115 (61, [zR 81, .inl a1, .inl a2, .inl a3, .inl (F : Int), .inl ((min n9 (wC F 14) : Nat) : Int), .inl ((((a2.toNat + 1) % 3) : Nat) : Int), .inl x], [.inl (g : Int)]) M7 _
          rw [Int.toNat_natCast, Int.toNat_natCast] at g1
          have hQ7 : wEq M7 M := fun r q1 q2 q3 => (g3 r q1 q2 q3).trans (hQ r q1 q2 q3)
          refine zH_w (c' := (62, [zR 81, .inl a1, .inl a2, .inl a3, .inl (F : Int), .inl ((min n9 (wC F 14) : Nat) : Int), .inl ((((a2.toNat + 1) % 3) : Nat) : Int), .inl x], [.inl a3, .inl (g : Int)])) 1 hz rfl ?_
          refine zH_wi_gt (pc := 62) (n' := 65) (t := 68) (L := [zR 81, .inl a1, .inl a2, .inl a3, .inl (F : Int), .inl ((min n9 (wC F 14) : Nat) : Int), .inl ((((a2.toNat + 1) % 3) : Nat) : Int), .inl x]) (st := []) (x := (g : Int)) (y := a3) 0 hz (by rfl) (fun hb62 => ?_) (fun hb62 => ?_)
          · skip
            have hxo : wFull L T n9 a1.toNat a2.toNat x.toNat → ¬ wFw L T n9 (a1.toNat ^^^ x.toNat) ((a2.toNat + 1) % 3) a3.toNat := fun _ q => by have := wFw_u q g1; omega
            refine zH_w (c' := (75, [zR 81, .inl a1, .inl a2, .inl a3, .inl (F : Int), .inl ((min n9 (wC F 14) : Nat) : Int), .inl ((((a2.toNat + 1) % 3) : Nat) : Int), .inl x], [.inl (zband (w32 (x - 1)) (F : Int))])) 5 hz rfl ?_
            rw [show zband (w32 (x - 1)) (F : Int) = ((x.toNat - 1 &&& F : Nat) : Int) from by rw [w32_id (by omega), qband_N _ _ (by omega) (by omega), Int.toNat_natCast, show (x - 1).toNat = x.toNat - 1 by omega]]
            refine zH_w (c' := (33, [zR 81, .inl a1, .inl a2, .inl a3, .inl (F : Int), .inl ((min n9 (wC F 14) : Nat) : Int), .inl ((((a2.toNat + 1) % 3) : Nat) : Int), .inl ((x.toNat - 1 &&& F : Nat) : Int)], [])) 2 hz rfl ?_
            refine ih33 ((x.toNat - 1 &&& F : Nat) : Int) M7 (by omega) ?_ ?_ ?_ ?_
            · exact ⟨by omega, by rw [Int.toNat_natCast, Nat.and_assoc, Nat.and_self]⟩
            · intro S q1 q2
              rw [Int.toNat_natCast] at q2
              have sF : wSub S F := by rw [hF]; exact q1.1
              rcases Nat.lt_trichotomy S x.toNat with z | z | z
              · have := wDn 14 (by omega) hx.2 (wAnd sF) z; omega
              · exact fun q => hxo (by rw [← z]; exact q1) (by rw [← z]; exact q)
              · exact hno S q1 z
            · first
                | exact hQ7
                | exact hQ
            · first
                | exact g4
                | exact hM5
          · skip
            have hgx := wFw_ge hv hfx g1
            have hgt : wGt L T n9 a1.toNat a2.toNat x.toNat := by
              have eg : g = a3.toNat := by omega
              refine ⟨⟨hfx, g, g1, by rw [eg]; exact hv⟩, fun S' u' r1 r2 r3 => ?_⟩
              have e2 := wFw_u hv r3
              rcases Nat.lt_or_ge x.toNat S' with y | y
              · exact absurd (by rw [show a3.toNat = u' by omega]; exact r2) (hno S' r1 y)
              · exact y
            exact zH_wr (r := some (.inl x)) 1 hz (by rfl) (⟨x.toNat, by rw [show ((x.toNat : Nat) : Int) = x by omega], hgt, hQ7, g4⟩)
  refine lp33 (20000) (F : Int) M (by omega) ?_ ?_ ?_ ?_
  · exact ⟨by omega, by rw [Int.toNat_natCast, Nat.and_self]⟩
  · exact fun S q1 q2 => by have := Nat.le_of_testBit (by rw [hF]; exact q1.1 : wSub S F); rw [Int.toNat_natCast] at q2; omega
  · exact fun _ _ _ _ => rfl
  · exact hMe
set_option maxRecDepth 100000 in
theorem fh_114_81 {n : Nat} {M : zM} {L T : Nat → Nat} {n9 W : Nat} (hw : wOk L T n9 M) (hp : wPr L T) (hn : 1 ≤ n9 ∧ n9 ≤ 4) (hW : wWt T W) (hMe : wMe L T n9 W M) (h4 : M 81 4 = (W : Int)) (a1 a2 a3 : Int) (h1 : 0 ≤ a1 ∧ a1 < 3) (h2 : 0 ≤ a2 ∧ a2 ≤ 60) (h3 : 0 ≤ a3) (hv : wFw L T n9 W a1.toNat a2.toNat) : zH n (0, 0) 114 (0, zini [zR 81, .inl a1, .inl a2, .inl a3] 7, []) M (fun r M' => ∃ x : Int, r = some (.inl x) ∧ ((a2 ≤ a3 ∧ x = -1) ∨ (a3 < a2 ∧ ∃ l S : Nat, wSt L T n9 (a3.toNat + 1) W a1.toNat l S ∧ x = (S : Int)))) := by
  have hz := zp_114
  show zH n (0, 0) 114 (0, [zR 81, .inl a1, .inl a2, .inl a3, zN, zN, zN], []) M _
  refine zH_wi_lt (pc := 2) (n' := 5) (t := 7) (L := [zR 81, .inl a1, .inl a2, .inl a3, zN, zN, zN]) (st := []) (x := a3) (y := a2) 2 hz (by rfl) (fun hb2 => ?_) (fun hb2 => ?_)
  · skip
    refine zH_w (c' := (11, [zR 81, .inl a1, .inl a2, .inl a3, zN, zN, zN], [.inl (M 81 4)])) 2 hz rfl ?_
    rw [h4]
    refine zH_w (c' := (19, [zR 81, .inl a1, .inl a2, .inl a3, .inl (W : Int), .inl 0, .inl 0], [])) 5 hz rfl ?_
    have lp19 : ∀ (N : Nat) (l : Int) (s : Int) (k : Int) (M5 : zM), ((a3 + 1 - k).toNat) < N → (0 ≤ k ∧ k ≤ a3 + 1) → (0 ≤ l ∧ wSub l.toNat W) → (0 ≤ s ∧ wSt L T n9 k.toNat W a1.toNat l.toNat s.toNat) → (wFw L T n9 l.toNat ((a1.toNat + k.toNat) % 3) (a2.toNat - k.toNat)) → (wEq M5 M) → (wMe L T n9 W M5) → zH n (0, 0) 114 (19, [zR 81, .inl a1, .inl a2, .inl a3, .inl l, .inl s, .inl k], []) M5 (fun r M' => ∃ x : Int, r = some (.inl x) ∧ ((a2 ≤ a3 ∧ x = -1) ∨ (a3 < a2 ∧ ∃ l S : Nat, wSt L T n9 (a3.toNat + 1) W a1.toNat l S ∧ x = (S : Int)))) := by
      intro N
      induction N with
      | zero => intro l s k M5 hN; exact absurd hN (Nat.not_lt_zero _)
      | succ N ih19 =>
        intro l s k M5 hN hk hl hs hf hQ hM5
        refine zH_w (c' := (22, [zR 81, .inl a1, .inl a2, .inl a3, .inl l, .inl s, .inl k], [.inl a3, .inl k])) 2 hz rfl ?_
        refine zH_wi_gt (pc := 22) (n' := 25) (t := 60) (L := [zR 81, .inl a1, .inl a2, .inl a3, .inl l, .inl s, .inl k]) (st := []) (x := k) (y := a3) 0 hz (by rfl) (fun hb22 => ?_) (fun hb22 => ?_)
        · skip
          exact zH_wr (r := some (.inl s)) 1 hz (by rfl) (⟨s, rfl, .inr ⟨by omega, l.toNat, s.toNat, by rw [show a3.toNat + 1 = k.toNat by omega]; exact hs.2, by omega⟩⟩)
        · skip
          have hw5 := hw.mv hQ
          have hl14 := hl.2.lt hW.1
          refine zH_w (c' := (33, [zR 81, .inl a1, .inl a2, .inl a3, .inl l, .inl s, .inl k], [.inl 3, .inl (w32 (a1 + k)), .inl l, zR 81])) 6 hz rfl ?_
          refine zH_irem hz rfl (fun hdv33 => ?_)
          show zH n (0, 0) 114 (34, [zR 81, .inl a1, .inl a2, .inl a3, .inl l, .inl s, .inl k], [.inl ((w32 (a1 + k)).tmod 3), .inl l, zR 81]) M5 _
          rw [show (w32 (a1 + k)).tmod 3 = (((a1.toNat + k.toNat) % 3 : Nat) : Int) from by rw [w32_id (by omega), wmod _ (by omega), show (a1 + k).toNat = a1.toNat + k.toNat by omega]]
          refine zH_w (c' := (40, [zR 81, .inl a1, .inl a2, .inl a3, .inl l, .inl s, .inl k], [.inl (w32 ((w32 (a2 - k)) - 1)), .inl (((a1.toNat + k.toNat) % 3 : Nat) : Int), .inl l, zR 81])) 5 hz rfl ?_
          rw [show w32 ((w32 (a2 - k)) - 1) = a2 - k - 1 from by rw [w32_id (x := a2 - k) (by omega), w32_id (by omega)]]
          refine zH_wC (c1 := (43, [zR 81, .inl a1, .inl a2, .inl a3, .inl l, .inl s, .inl k], [])) 0 hz zp_115 (fh_115_81 hw5 hp hn hW hM5 l (((a1.toNat + k.toNat) % 3 : Nat) : Int) (a2 - k - 1) (by omega) hl.2 (by omega) (by omega) (by rw [Int.toNat_natCast, show (a2 - k - 1).toNat + 1 = a2.toNat - k.toNat by omega]; exact hf)) (by rfl) ?_
          rintro _ M7 ⟨G, rfl, hG, g3, g4⟩
          show zH n (0, 0) 114 (43, [zR 81, .inl a1, .inl a2, .inl a3, .inl l, .inl s, .inl k], [.inl (G : Int)]) M7 _
          rw [Int.toNat_natCast] at hG
          have hGs := hG.1.1.sub
          have hGl := hGs.lt hl14
          have hQ7 : wEq M7 M := fun r q1 q2 q3 => (g3 r q1 q2 q3).trans (hQ r q1 q2 q3)
          have hfn : wFw L T n9 (l.toNat ^^^ G) ((a1.toNat + (k.toNat + 1)) % 3) (a2.toNat - (k.toNat + 1)) := by
            obtain ⟨-, u, u1, u2⟩ := hG.1
            have := wFw_u u2 hf
            rw [show (a1.toNat + (k.toNat + 1)) % 3 = ((a1.toNat + k.toNat) % 3 + 1) % 3 by omega, show a2.toNat - (k.toNat + 1) = u by omega]
            exact u1
          refine zH_w (c' := (52, [zR 81, .inl a1, .inl a2, .inl a3, .inl l, .inl (G : Int), .inl k], [.inl (zband l (zbxor (G : Int) (-1)))])) 6 hz rfl ?_
          rw [show zband l (zbxor (G : Int) (-1)) = ((l.toNat ^^^ G : Nat) : Int) from by rw [wz_np (by omega) (by omega), Int.toNat_natCast, wnp_sub hGs]]
          refine zH_w (c' := (19, [zR 81, .inl a1, .inl a2, .inl a3, .inl ((l.toNat ^^^ G : Nat) : Int), .inl (G : Int), .inl (k + 1)], [])) 3 hz (by rw [show (.inl (k + 1) : zV) = .inl (w32 (k + 1)) from by rw [w32_id (by omega)]]; rfl) ?_
          refine ih19 ((l.toNat ^^^ G : Nat) : Int) (G : Int) (k + 1) M7 (by omega) ?_ ?_ ?_ ?_ ?_ ?_
          · omega
          · exact ⟨by omega, by rw [Int.toNat_natCast]; exact hGs.xor.tr hl.2⟩
          · exact ⟨by omega, by rw [Int.toNat_natCast, Int.toNat_natCast, show (k + 1).toNat = k.toNat + 1 by omega]; exact ⟨l.toNat, s.toNat, hs.2, hG, rfl⟩⟩
          · rw [Int.toNat_natCast, show (k + 1).toNat = k.toNat + 1 by omega]; exact hfn
          · exact hQ7
          · exact g4
    refine lp19 (100) (W : Int) 0 0 M (by omega) ?_ ?_ ?_ ?_ ?_ ?_
    · omega
    · exact ⟨by omega, by rw [Int.toNat_natCast]; exact fun _ q => q⟩
    · exact ⟨by omega, by rw [Int.toNat_natCast]; exact ⟨rfl, rfl⟩⟩
    · rw [Int.toNat_natCast, show (a1.toNat + (0 : Int).toNat) % 3 = a1.toNat by simp only [Int.reduceToNat]; omega]; exact hv
    · exact fun _ _ _ _ => rfl
    · exact hMe
  · skip
    exact zH_wr (r := some (.inl (-1))) 1 hz (by rfl) (⟨-1, rfl, .inl ⟨by omega, rfl⟩⟩)
