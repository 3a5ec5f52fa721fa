/-! STEPS OF MARKS, FINALS; counts, step, outcome ON BOTH SIDES ALIKE -/

noncomputable def kB (v w : Int) : Int := hf_53 (fun _ _ => 0) v w
noncomputable def kCl (x : Int) : Int := if 0 < (if x < 100 then x else 100) then (if x < 100 then x else 100) else 0
noncomputable def kSc (M : zM) (C : Nat → Bool) (n : Nat) (m v : Int) : Int := if kS M C m n = -1 then v else kCl (w32 (w32 ((w32 (v * qA M (kS M C m n) 9)).tdiv (qA M (kS M C m n) 10)) + qA M (kS M C m n) 11))
noncomputable def kCap (M : zM) (m : Int) : Int := M 98 (23 + 4 * (qA M m 5).toNat)
noncomputable def kV1 (M : zM) (C : Nat → Bool) (n : Nat) (m s : Int) : Int := if 1 ≤ s ∧ ¬ kL M C 1 m n = -1 then kB (qA M m 7) (qA M (kL M C 1 m n) 7) else qA M m 7
noncomputable def kV2 (M : zM) (C : Nat → Bool) (n : Nat) (m s : Int) : Int := if 2 ≤ s ∧ ¬ kL M C 2 m n = -1 then qA M (kL M C 2 m n) 7 else kV1 M C n m s
noncomputable def kV3 (M : zM) (C : Nat → Bool) (n : Nat) (m s : Int) : Int := if 3 ≤ s then kSc M C n m (kV2 M C n m s) else kV2 M C n m s
noncomputable def kV4 (M : zM) (C : Nat → Bool) (n : Nat) (m s : Int) : Int := if 4 ≤ s ∧ ¬ kF M C (kR M m) n = m then (if kCap M m < kV3 M C n m s then kCap M m else kV3 M C n m s) else kV3 M C n m s
noncomputable def kZ (M : zM) (C : Nat → Bool) (k : Nat) (r : Int) : Nat → Int
  | 0 => -1
  | n + 1 => if C n = true ∧ qA M (n : Int) 0 = 0 ∧ kR M (n : Int) = r then (if kZ M C k r n < kV4 M C k (n : Int) 4 then kV4 M C k (n : Int) 4 else kZ M C k r n) else kZ M C k r n
theorem kZ_s (M : zM) (C : Nat → Bool) (k : Nat) (r : Int) (n : Nat) : kZ M C k r (n + 1) = if C n = true ∧ qA M (n : Int) 0 = 0 ∧ kR M (n : Int) = r then (if kZ M C k r n < kV4 M C k (n : Int) 4 then kV4 M C k (n : Int) 4 else kZ M C k r n) else kZ M C k r n := rfl
noncomputable def kJ (M : zM) (C : Nat → Bool) (m : Int) : Nat → Bool
  | 0 => false
  | n + 1 => if ¬ (n : Int) = m ∧ C n = true ∧ qA M (n : Int) 0 = 0 ∧ qA M (n : Int) 4 = qA M m 4 ∧ qA M (n : Int) 5 = qA M m 5 ∧ (qA M (n : Int) 1 < qA M m 1 ∨ (qA M (n : Int) 1 = qA M m 1 ∧ (n : Int) < m)) then true else kJ M C m n
theorem kJ_s (M : zM) (C : Nat → Bool) (m : Int) (n : Nat) : kJ M C m (n + 1) = if ¬ (n : Int) = m ∧ C n = true ∧ qA M (n : Int) 0 = 0 ∧ qA M (n : Int) 4 = qA M m 4 ∧ qA M (n : Int) 5 = qA M m 5 ∧ (qA M (n : Int) 1 < qA M m 1 ∨ (qA M (n : Int) 1 = qA M m 1 ∧ (n : Int) < m)) then true else kJ M C m n := rfl
theorem kJ_no {M : zM} {C : Nat → Bool} {m : Int} {n : Nat} (h : ¬ (¬ (n : Int) = m ∧ C n = true ∧ qA M (n : Int) 0 = 0 ∧ qA M (n : Int) 4 = qA M m 4 ∧ qA M (n : Int) 5 = qA M m 5 ∧ (qA M (n : Int) 1 < qA M m 1 ∨ (qA M (n : Int) 1 = qA M m 1 ∧ (n : Int) < m)))) : kJ M C m (n + 1) = kJ M C m n := if_neg h
theorem kJ_up (M : zM) (C : Nat → Bool) (m : Int) (a : Nat) (h : kJ M C m a = true) : ∀ n : Nat, a ≤ n → kJ M C m n = true
  | 0, q => by rw [show a = 0 by omega] at h; exact h
  | n + 1, q => by
    by_cases e : a = n + 1
    · rw [← e]; exact h
    · rw [kJ_s]; split; rfl; exact kJ_up M C m a h n (by omega)
theorem kJ_is (M : zM) (C : Nat → Bool) (m : Int) : ∀ n : Nat, kJ M C m n = true → ∃ a : Nat, a < n ∧ (¬ (a : Int) = m ∧ C a = true ∧ qA M (a : Int) 0 = 0 ∧ qA M (a : Int) 4 = qA M m 4 ∧ qA M (a : Int) 5 = qA M m 5 ∧ (qA M (a : Int) 1 < qA M m 1 ∨ (qA M (a : Int) 1 = qA M m 1 ∧ (a : Int) < m)))
  | 0, h => Bool.noConfusion h
  | n + 1, h => by
    rw [kJ_s] at h
    split at h
    · rename_i q; exact ⟨n, by omega, q⟩
    · obtain ⟨a, h1, h2⟩ := kJ_is M C m n h; exact ⟨a, by omega, h2⟩
theorem kL_lo {M : zM} (hC : qMI M) (C : Nat → Bool) (s m : Int) : ∀ k : Nat, (k : Int) ≤ m + 1 → (k : Int) ≤ M 98 4 → kL M C s m k = -1
  | 0, _, _ => rfl
  | k + 1, h1, h2 => by
    have q := (hC.rel (k : Int) (by omega) (by omega)).1
    rw [kL_no (fun e => by omega)]
    exact kL_lo hC C s m k (by omega) (by omega)
/-- the first of its row, or a later one -/
theorem kF_kJ {M : zM} (hC : qMI M) (C : Nat → Bool) (m : Nat) (hm : (m : Int) < M 98 4) (hc : C m = true) (h0 : qA M (m : Int) 0 = 0) : kF M C (kR M (m : Int)) (M 98 4).toNat = (m : Int) ↔ ¬ kJ M C (m : Int) (M 98 4).toNat = true := by
  have hn := hC.cnt4
  have q := kF_is M C (kR M (m : Int)) (M 98 4).toNat
  have qr := kF_r M C (kR M (m : Int)) (M 98 4).toNat
  have rg : ∀ a : Nat, (a : Int) < M 98 4 → qA M (a : Int) 0 = 0 → (0 ≤ qA M (a : Int) 4 ∧ 0 ≤ qA M (a : Int) 5 ∧ qA M (a : Int) 5 ≤ 13) := fun a ha h => by
    have h1 := hC.act (a : Int) (by omega)
    have h2 := hC.rel (a : Int) (by omega) ha
    omega
  have hmr := rg m hm h0
  constructor
  · intro e hj
    obtain ⟨a, h1, h2, h3, h4, h5, h6, h7⟩ := kJ_is M C (m : Int) _ hj
    have := (q.2 (by omega)).2 a h1 ⟨h3, h4, by unfold kR; rw [h5, h6]⟩
    rw [e] at this
    omega
  · intro hj
    by_cases e : kF M C (kR M (m : Int)) (M 98 4).toNat = -1
    · exact absurd ⟨hc, h0, rfl⟩ (q.1 e m (by omega))
    · obtain ⟨⟨c1, c2, c3⟩, c4⟩ := q.2 (by omega)
      by_cases e2 : kF M C (kR M (m : Int)) (M 98 4).toNat = (m : Int)
      · exact e2
      · exfalso
        apply hj
        obtain ⟨a, ha⟩ : ∃ a : Nat, (a : Int) = kF M C (kR M (m : Int)) (M 98 4).toNat := ⟨(kF M C (kR M (m : Int)) (M 98 4).toNat).toNat, by omega⟩
        rw [← ha] at c1 c2 c3 c4 e2 qr
        rw [Int.toNat_natCast] at c1
        have hr2 := rg a (by omega) c2
        unfold kR at c3
        have c5 := c4 m (by omega) ⟨hc, h0, rfl⟩
        refine kJ_up M C (m : Int) (a + 1) ?_ _ (by omega)
        rw [kJ_s, if_pos ⟨e2, c1, c2, by omega, by omega, by omega⟩]
theorem kG.cgF {M M' : zM} {C : Nat → Bool} {F F' : Nat → Int} {i : Nat} (h : kG M C F i M') (e : ∀ r, F' r = F r) : kG M C F' i M' := by
  rw [show F' = F from funext e]; exact h
theorem kG.fin {M M' : zM} {C : Nat → Bool} {F F' : Nat → Int} {i R : Nat} {x : Int} (h : kG M C F i M') (e1 : F' R = x) (e2 : ∀ r, r ≠ R → F' r = F r) : kG M C F' i (zput M' 64 (4 * R) x) := by
  obtain ⟨h1, h2, h3, h4, h5, h6⟩ := h
  refine ⟨fun r q1 q2 q3 q4 => (zput_oth q2).trans (h1 r q1 q2 q3 q4), ?_, fun a ha => ?_, fun m hm => ?_, fun r hr => ?_, ?_⟩
  · rw [zput_oth (by decide)]; exact h2
  · rw [zput_oth (by decide)]; exact h3 a ha
  · rw [zput_oth (by decide)]; exact h4 m hm
  · have q := h5 r hr
    rw [qput_nk (show 4 * r + 1 ≠ 4 * R by omega), qput_nk (show 4 * r + 2 ≠ 4 * R by omega), qput_nk (show 4 * r + 3 ≠ 4 * R by omega)]
    refine ⟨?_, q.2.1, q.2.2.1, q.2.2.2⟩
    by_cases e : r = R
    · subst e; rw [qput_eq, e1]
    · rw [qput_nk (by omega), e2 r e]; exact q.1
  · rw [zput_oth (by decide)]; exact h6
theorem kP.cap {M M' : zM} (hp : kP M) (e10 : M' 10 = M 10) (e11 : M' 11 = M 11) {m : Int} (hm : 0 ≤ qA M m 5 ∧ qA M m 5 ≤ 13) : hR_get M' 10 (qA M m 5) 3 = kCap M m := by
  rw [show hR_get M' 10 (qA M m 5) 3 = hR_get M 10 (qA M m 5) 3 from by unfold hR_get; rw [e10, show M' (10 + 1) = M (10 + 1) from e11]]
  rw [hG_10 hp.2.2.1 (by omega) (by decide), hp.2.1.1.2 _ (by simp only [Int.reduceToNat]; omega)]
  unfold kCap
  rw [show 20 + (4 * (qA M m 5).toNat + (3 : Int).toNat) = 23 + 4 * (qA M m 5).toNat by simp only [Int.reduceToNat] <;> omega]
set_option maxRecDepth 100000 in
theorem fh_54_60 {n : Nat} {M : zM} {Mo : zM} (hp : kP Mo) {C : Nat → Bool} {F : Nat → Int} (hK : kG Mo C F (Mo 98 4).toNat M) (a1 a2 : Int) (h1 : 0 ≤ a1 ∧ a1 < Mo 98 4) : zH n (0, 0) 54 (0, zini [zR 60, .inl a1, .inl a2] 10, []) M (fun r M' => r = some (.inl (kSc Mo C (Mo 98 4).toNat a1 a2)) ∧ M' = M) := by
  have hz := zp_54
  show zH n (0, 0) 54 (0, [zR 60, .inl a1, .inl a2, zN, zN, zN, zN, zN, zN, zN], []) M _
  have e18 : M 18 = Mo 18 := hK.1 18 (by decide) (by decide) (by decide) (by decide)
  have e19 : M 19 = Mo 19 := hK.1 19 (by decide) (by decide) (by decide) (by decide)
  have hn := hp.1.cnt4
  have hkn := kN_r Mo C (Mo 98 4).toNat
  refine zH_wE (c1 := (12, [zR 60, .inl a1, .inl a2, zN, zN, zN, zN, zN, zN, zN], [])) 5 hz zp_106 (fh_106_18 a1 5) (by rfl) ?_
  show zH n (0, 0) 54 (12, [zR 60, .inl a1, .inl a2, zN, zN, zN, zN, zN, zN, zN], [.inl (hR_get M 18 a1 5)]) M _
  rw [hp.rd e18 e19 (by omega) (by decide)]
  refine zH_w (c' := (22, [zR 60, .inl a1, .inl a2, .inl (qA Mo a1 5), zN, zN, zN, zN, zN, zN], [.inl 1, .inl a1, zR 18])) 6 hz rfl ?_
  refine zH_wE (c1 := (25, [zR 60, .inl a1, .inl a2, .inl (qA Mo a1 5), zN, zN, zN, zN, zN, zN], [])) 0 hz zp_106 (fh_106_18 a1 1) (by rfl) ?_
  show zH n (0, 0) 54 (25, [zR 60, .inl a1, .inl a2, .inl (qA Mo a1 5), zN, zN, zN, zN, zN, zN], [.inl (hR_get M 18 a1 1)]) M _
  rw [hp.rd e18 e19 (by omega) (by decide)]
  refine zH_w (c' := (31, [zR 60, .inl a1, .inl a2, .inl (qA Mo a1 5), .inl (qA Mo a1 1), zN, zN, zN, zN, zN], [zR 65])) 3 hz rfl ?_
  refine zH_wE (c1 := (34, [zR 60, .inl a1, .inl a2, .inl (qA Mo a1 5), .inl (qA Mo a1 1), zN, zN, zN, zN, zN], [])) 0 hz zp_101 (fh_101_65) (by rfl) ?_
  show zH n (0, 0) 54 (34, [zR 60, .inl a1, .inl a2, .inl (qA Mo a1 5), .inl (qA Mo a1 1), zN, zN, zN, zN, zN], [.inl (hR_size M 65)]) M _
  rw [show hR_size M 65 = (kN Mo C (Mo 98 4).toNat : Int) from hK.2.1.2.2]
  refine zH_w (c' := (36, [zR 60, .inl a1, .inl a2, .inl (qA Mo a1 5), .inl (qA Mo a1 1), zN, zN, zN, zN, zN], [.inl (w32 ((kN Mo C (Mo 98 4).toNat : Int) - 1))])) 2 hz rfl ?_
  rw [w32_id (x := (kN Mo C (Mo 98 4).toNat : Int) - 1) (by omega)]
  refine zH_w (c' := (38, [zR 60, .inl a1, .inl a2, .inl (qA Mo a1 5), .inl (qA Mo a1 1), .inl ((kN Mo C (Mo 98 4).toNat : Int) - 1), zN, zN, zN, zN], [])) 1 hz rfl ?_
  have lp38 : ∀ (N : Nat) (i : Int) (u6 : zV) (u7 : zV) (u8 : zV) (u9 : zV), ((i + 1).toNat) < N → (-1 ≤ i ∧ i < 250) → (∃ b : Nat, b ≤ (Mo 98 4).toNat ∧ ((kN Mo C b : Nat) : Int) = i + 1 ∧ kS Mo C a1 (Mo 98 4).toNat = kS Mo C a1 b) → zH n (0, 0) 54 (38, [zR 60, .inl a1, .inl a2, .inl (qA Mo a1 5), .inl (qA Mo a1 1), .inl i, u6, u7, u8, u9], []) M (fun r M' => r = some (.inl (kSc Mo C (Mo 98 4).toNat a1 a2)) ∧ M' = M) := by
    intro N
    induction N with
    | zero => intro i u6 u7 u8 u9 hN; exact absurd hN (Nat.not_lt_zero _)
    | succ N ih38 =>
      intro i u6 u7 u8 u9 hN hi hb
      refine zH_w (c' := (40, [zR 60, .inl a1, .inl a2, .inl (qA Mo a1 5), .inl (qA Mo a1 1), .inl i, u6, u7, u8, u9], [.inl i])) 1 hz rfl ?_
      refine zH_wf_lt (pc := 40) (n' := 43) (t := 177) (L := [zR 60, .inl a1, .inl a2, .inl (qA Mo a1 5), .inl (qA Mo a1 1), .inl i, u6, u7, u8, u9]) (st := []) (x := i) 0 hz (by rfl) (fun hb40 => ?_) (fun hb40 => ?_)
      · skip
        obtain ⟨b, hb1, hb2, hb3⟩ := hb
        have hz0 := kS_none Mo C a1 b (by omega)
        exact zH_wr (r := some (.inl a2)) 1 hz (by rfl) (⟨by unfold kSc; rw [hb3, hz0, if_pos rfl], rfl⟩)
      · skip
        obtain ⟨b, hb1, hb2, hb3⟩ := hb
        obtain ⟨a, ha1, ha2, ha3, hb4⟩ := kN_top Mo C b (by omega)
        have es : hR_get M 65 i 0 = (a : Int) := by rw [hG_65 ⟨hK.2.1.1, hK.2.1.2.1⟩ (by omega) (by decide), show 1 * i.toNat + (0 : Int).toNat = kN Mo C a by simp only [Int.reduceToNat] <;> omega]; exact hK.2.2.2.2.2 a (by omega) ha2.1 ha2.2
        have hx := hp.rs e18 e19 (a := (a : Int)) (by omega) ha2.2
        have hrl := (hp.1.rel (a : Int) (by omega) (by omega)).2.2.2.2.2.2.2.2.2 ha2.2
        refine zH_wE (c1 := (53, [zR 60, .inl a1, .inl a2, .inl (qA Mo a1 5), .inl (qA Mo a1 1), .inl i, u6, u7, u8, u9], [])) 4 hz zp_106 (fh_106_65 i 0) (by rfl) ?_
        show zH n (0, 0) 54 (53, [zR 60, .inl a1, .inl a2, .inl (qA Mo a1 5), .inl (qA Mo a1 1), .inl i, u6, u7, u8, u9], [.inl (hR_get M 65 i 0)]) M _
        rw [es]
        refine zH_w (c' := (66, [zR 60, .inl a1, .inl a2, .inl (qA Mo a1 5), .inl (qA Mo a1 1), .inl i, .inl (a : Int), u7, u8, u9], [.inl 9, .inl (a : Int), zR 18])) 6 hz rfl ?_
        refine zH_wE (c1 := (69, [zR 60, .inl a1, .inl a2, .inl (qA Mo a1 5), .inl (qA Mo a1 1), .inl i, .inl (a : Int), u7, u8, u9], [])) 0 hz zp_106 (fh_106_18 (a : Int) 9) (by rfl) ?_
        show zH n (0, 0) 54 (69, [zR 60, .inl a1, .inl a2, .inl (qA Mo a1 5), .inl (qA Mo a1 1), .inl i, .inl (a : Int), u7, u8, u9], [.inl (hR_get M 18 (a : Int) 9)]) M _
        rw [hx.2.1]
        refine zH_w (c' := (81, [zR 60, .inl a1, .inl a2, .inl (qA Mo a1 5), .inl (qA Mo a1 1), .inl i, .inl (a : Int), .inl (qA Mo (a : Int) 10), u8, u9], [.inl 5, .inl (a : Int), zR 18])) 6 hz rfl ?_
        refine zH_wE (c1 := (84, [zR 60, .inl a1, .inl a2, .inl (qA Mo a1 5), .inl (qA Mo a1 1), .inl i, .inl (a : Int), .inl (qA Mo (a : Int) 10), u8, u9], [])) 0 hz zp_106 (fh_106_18 (a : Int) 5) (by rfl) ?_
        show zH n (0, 0) 54 (84, [zR 60, .inl a1, .inl a2, .inl (qA Mo a1 5), .inl (qA Mo a1 1), .inl i, .inl (a : Int), .inl (qA Mo (a : Int) 10), u8, u9], [.inl (hR_get M 18 (a : Int) 5)]) M _
        rw [hp.rd e18 e19 (by omega) (by decide)]
        refine zH_w (c' := (85, [zR 60, .inl a1, .inl a2, .inl (qA Mo a1 5), .inl (qA Mo a1 1), .inl i, .inl (a : Int), .inl (qA Mo (a : Int) 10), u8, u9], [.inl (qA Mo a1 5), .inl (qA Mo (a : Int) 5)])) 1 hz rfl ?_
        refine zH_wi_ne (pc := 85) (n' := 88) (t := 92) (L := [zR 60, .inl a1, .inl a2, .inl (qA Mo a1 5), .inl (qA Mo a1 1), .inl i, .inl (a : Int), .inl (qA Mo (a : Int) 10), u8, u9]) (st := []) (x := (qA Mo (a : Int) 5)) (y := (qA Mo a1 5)) 0 hz (by rfl) (fun hb85 => ?_) (fun hb85 => ?_)
        · skip
          refine zH_w (c' := (38, [zR 60, .inl a1, .inl a2, .inl (qA Mo a1 5), .inl (qA Mo a1 1), .inl (i - 1), .inl (a : Int), .inl (qA Mo (a : Int) 10), .inl 0, u9], [])) 6 hz (by rw [show (.inl (i - 1) : zV) = .inl (w32 (i + (-1))) from by rw [w32_id (by omega)]; rfl]; rfl) ?_
          refine ih38 (i - 1) (.inl (a : Int)) (.inl (qA Mo (a : Int) 10)) (.inl 0) u9 (by omega) ?_ ?_
          · omega
          · refine ⟨a, by omega, by omega, hb3.trans ((hb4 a1).trans (if_neg (fun q => ?_)))⟩
            first | exact hb85 q.2.2.1 | omega
        · skip
          refine zH_w (c' := (110, [zR 60, .inl a1, .inl a2, .inl (qA Mo a1 5), .inl (qA Mo a1 1), .inl i, .inl (a : Int), .inl (qA Mo (a : Int) 10), .inl 1, u9], [.inl 1, .inl (a : Int), zR 18])) 10 hz rfl ?_
          refine zH_wE (c1 := (113, [zR 60, .inl a1, .inl a2, .inl (qA Mo a1 5), .inl (qA Mo a1 1), .inl i, .inl (a : Int), .inl (qA Mo (a : Int) 10), .inl 1, u9], [])) 0 hz zp_106 (fh_106_18 (a : Int) 1) (by rfl) ?_
          show zH n (0, 0) 54 (113, [zR 60, .inl a1, .inl a2, .inl (qA Mo a1 5), .inl (qA Mo a1 1), .inl i, .inl (a : Int), .inl (qA Mo (a : Int) 10), .inl 1, u9], [.inl (hR_get M 18 (a : Int) 1)]) M _
          rw [hp.rd e18 e19 (by omega) (by decide)]
          refine zH_w (c' := (115, [zR 60, .inl a1, .inl a2, .inl (qA Mo a1 5), .inl (qA Mo a1 1), .inl i, .inl (a : Int), .inl (qA Mo (a : Int) 10), .inl 1, u9], [.inl (qA Mo a1 1), .inl (qA Mo (a : Int) 1)])) 1 hz rfl ?_
          refine zH_wi_lt (pc := 115) (n' := 118) (t := 171) (L := [zR 60, .inl a1, .inl a2, .inl (qA Mo a1 5), .inl (qA Mo a1 1), .inl i, .inl (a : Int), .inl (qA Mo (a : Int) 10), .inl 1, u9]) (st := []) (x := (qA Mo (a : Int) 1)) (y := (qA Mo a1 1)) 0 hz (by rfl) (fun hb115 => ?_) (fun hb115 => ?_)
          · skip
            refine zH_w (c' := (38, [zR 60, .inl a1, .inl a2, .inl (qA Mo a1 5), .inl (qA Mo a1 1), .inl (i - 1), .inl (a : Int), .inl (qA Mo (a : Int) 10), .inl 1, u9], [])) 2 hz (by rw [show (.inl (i - 1) : zV) = .inl (w32 (i + (-1))) from by rw [w32_id (by omega)]; rfl]; rfl) ?_
            refine ih38 (i - 1) (.inl (a : Int)) (.inl (qA Mo (a : Int) 10)) (.inl 1) u9 (by omega) ?_ ?_
            · omega
            · refine ⟨a, by omega, by omega, hb3.trans ((hb4 a1).trans (if_neg (fun q => ?_)))⟩
              first | exact hb85 q.2.2.1 | omega
          · skip
            refine zH_wf_le (pc := 120) (n' := 123) (t := 171) (L := [zR 60, .inl a1, .inl a2, .inl (qA Mo a1 5), .inl (qA Mo a1 1), .inl i, .inl (a : Int), .inl (qA Mo (a : Int) 10), .inl 1, u9]) (st := []) (x := (qA Mo (a : Int) 10)) 1 hz (by rfl) (fun hb120 => ?_) (fun hb120 => ?_)
            · skip
              exact absurd hrl (by omega)
            · skip
              refine zH_wE (c1 := (138, [zR 60, .inl a1, .inl a2, .inl (qA Mo a1 5), .inl (qA Mo a1 1), .inl i, .inl (a : Int), .inl (qA Mo (a : Int) 10), .inl 1, u9], [.inl a2])) 6 hz zp_106 (fh_106_18 (a : Int) 8) (by rfl) ?_
              show zH n (0, 0) 54 (138, [zR 60, .inl a1, .inl a2, .inl (qA Mo a1 5), .inl (qA Mo a1 1), .inl i, .inl (a : Int), .inl (qA Mo (a : Int) 10), .inl 1, u9], [.inl (hR_get M 18 (a : Int) 8), .inl a2]) M _
              rw [hx.1]
              refine zH_w (c' := (141, [zR 60, .inl a1, .inl a2, .inl (qA Mo a1 5), .inl (qA Mo a1 1), .inl i, .inl (a : Int), .inl (qA Mo (a : Int) 10), .inl 1, u9], [.inl (qA Mo (a : Int) 10), .inl (w32 (a2 * (qA Mo (a : Int) 9)))])) 2 hz rfl ?_
              refine zH_idiv hz rfl (fun hdv141 => ?_)
              show zH n (0, 0) 54 (142, [zR 60, .inl a1, .inl a2, .inl (qA Mo a1 5), .inl (qA Mo a1 1), .inl i, .inl (a : Int), .inl (qA Mo (a : Int) 10), .inl 1, u9], [.inl (w32 ((w32 (a2 * (qA Mo (a : Int) 9))).tdiv (qA Mo (a : Int) 10)))]) M _
              refine zH_wE (c1 := (156, [zR 60, .inl a1, .inl a2, .inl (qA Mo a1 5), .inl (qA Mo a1 1), .inl i, .inl (a : Int), .inl (qA Mo (a : Int) 10), .inl 1, u9], [.inl (w32 ((w32 (a2 * (qA Mo (a : Int) 9))).tdiv (qA Mo (a : Int) 10)))])) 5 hz zp_106 (fh_106_18 (a : Int) 10) (by rfl) ?_
              show zH n (0, 0) 54 (156, [zR 60, .inl a1, .inl a2, .inl (qA Mo a1 5), .inl (qA Mo a1 1), .inl i, .inl (a : Int), .inl (qA Mo (a : Int) 10), .inl 1, u9], [.inl (hR_get M 18 (a : Int) 10), .inl (w32 ((w32 (a2 * (qA Mo (a : Int) 9))).tdiv (qA Mo (a : Int) 10)))]) M _
              rw [hx.2.2]
              refine zH_w (c' := (170, [zR 60, .inl a1, .inl a2, .inl (qA Mo a1 5), .inl (qA Mo a1 1), .inl i, .inl (a : Int), .inl (qA Mo (a : Int) 10), .inl 1, .inl (w32 ((w32 ((w32 (a2 * (qA Mo (a : Int) 9))).tdiv (qA Mo (a : Int) 10))) + (qA Mo (a : Int) 11)))], [.inl (if 0 < (if (w32 ((w32 ((w32 (a2 * (qA Mo (a : Int) 9))).tdiv (qA Mo (a : Int) 10))) + (qA Mo (a : Int) 11))) < 100 then (w32 ((w32 ((w32 (a2 * (qA Mo (a : Int) 9))).tdiv (qA Mo (a : Int) 10))) + (qA Mo (a : Int) 11))) else 100) then (if (w32 ((w32 ((w32 (a2 * (qA Mo (a : Int) 9))).tdiv (qA Mo (a : Int) 10))) + (qA Mo (a : Int) 11))) < 100 then (w32 ((w32 ((w32 (a2 * (qA Mo (a : Int) 9))).tdiv (qA Mo (a : Int) 10))) + (qA Mo (a : Int) 11))) else 100) else 0)])) 7 hz rfl ?_
              exact zH_wr (r := some (.inl (if 0 < (if (w32 ((w32 ((w32 (a2 * (qA Mo (a : Int) 9))).tdiv (qA Mo (a : Int) 10))) + (qA Mo (a : Int) 11))) < 100 then (w32 ((w32 ((w32 (a2 * (qA Mo (a : Int) 9))).tdiv (qA Mo (a : Int) 10))) + (qA Mo (a : Int) 11))) else 100) then (if (w32 ((w32 ((w32 (a2 * (qA Mo (a : Int) 9))).tdiv (qA Mo (a : Int) 10))) + (qA Mo (a : Int) 11))) < 100 then (w32 ((w32 ((w32 (a2 * (qA Mo (a : Int) 9))).tdiv (qA Mo (a : Int) 10))) + (qA Mo (a : Int) 11))) else 100) else 0))) 0 hz (by rfl) (⟨by unfold kSc; rw [show kS Mo C a1 (Mo 98 4).toNat = (a : Int) from hb3.trans ((hb4 a1).trans (if_pos ⟨ha2.1, ha2.2, by omega, by omega⟩)), if_neg (show ¬ (a : Int) = -1 by omega)]; rfl, rfl⟩)
  refine lp38 (252) ((kN Mo C (Mo 98 4).toNat : Int) - 1) zN zN zN zN (by omega) ?_ ?_
  · omega
  · exact ⟨(Mo 98 4).toNat, Nat.le_refl _, by omega, rfl⟩
set_option maxRecDepth 100000 in
theorem fh_47_60 {n : Nat} {M : zM} {Mo : zM} (hp : kP Mo) {C : Nat → Bool} {F : Nat → Int} (hK : kG Mo C F (Mo 98 4).toNat M) (a1 a2 : Int) (h1 : 0 ≤ a1 ∧ a1 < Mo 98 4) (h0 : qA Mo a1 0 = 0) : zH n (0, 0) 47 (0, zini [zR 60, .inl a1, .inl a2] 4, []) M (fun r M' => r = some (.inl (kV4 Mo C (Mo 98 4).toNat a1 a2)) ∧ M' = M) := by
  have hz := zp_47
  show zH n (0, 0) 47 (0, [zR 60, .inl a1, .inl a2, zN], []) M _
  have e18 : M 18 = Mo 18 := hK.1 18 (by decide) (by decide) (by decide) (by decide)
  have e19 : M 19 = Mo 19 := hK.1 19 (by decide) (by decide) (by decide) (by decide)
  have hn := hp.1.cnt4
  have e10 : M 10 = Mo 10 := hK.1 10 (by decide) (by decide) (by decide) (by decide)
  have e11 : M 11 = Mo 11 := hK.1 11 (by decide) (by decide) (by decide) (by decide)
  have t61 : M 61 0 = 250 ∧ M 61 1 = 4 := by rw [hK.1 61 (by decide) (by decide) (by decide) (by decide)]; exact hp.2.2.2.1
  have t63 : M 63 0 = 280 ∧ M 63 1 = 4 := by rw [hK.1 63 (by decide) (by decide) (by decide) (by decide)]; exact hp.2.2.2.2.1
  have q2 : hR_get M 61 a1 2 = kL Mo C 1 a1 (Mo 98 4).toNat := by
    have q := (hK.2.2.2.1 a1.toNat (by omega)).1
    rw [hG_61 t61 (by omega) (by decide), show 4 * a1.toNat + (2 : Int).toNat = 4 * a1.toNat + 2 by simp only [Int.reduceToNat], q, show ((a1.toNat : Nat) : Int) = a1 by omega]
  have q3 : hR_get M 61 a1 3 = kL Mo C 2 a1 (Mo 98 4).toNat := by
    have q := (hK.2.2.2.1 a1.toNat (by omega)).2
    rw [hG_61 t61 (by omega) (by decide), show 4 * a1.toNat + (3 : Int).toNat = 4 * a1.toNat + 3 by simp only [Int.reduceToNat], q, show ((a1.toNat : Nat) : Int) = a1 by omega]
  have r2 := kL_r Mo C 1 a1 (Mo 98 4).toNat
  have r3 := kL_r Mo C 2 a1 (Mo 98 4).toNat
  obtain ⟨er, er1, er2⟩ : hf_52_60 M a1 = kR Mo a1 ∧ 0 ≤ kR Mo a1 ∧ kR Mo a1 < 14 * Mo 98 1 := by
    have q := hp.row (i := a1.toNat) e18 e19 (by omega) (.inl (by rw [show ((a1.toNat : Nat) : Int) = a1 by omega]; exact h0))
    rw [show ((a1.toNat : Nat) : Int) = a1 by omega] at q
    exact q
  have hn1 := hp.1.cnt1
  have hac := hp.1.act a1 (by omega)
  have hrl := hp.1.rel a1 h1.1 h1.2
  have q4 : hR_get M 63 (kR Mo a1) 3 = kF Mo C (kR Mo a1) (Mo 98 4).toNat := by
    have q := (hK.2.2.2.2.1 (kR Mo a1).toNat (by omega)).2.2.2
    rw [hG_63 t63 (by omega) (by decide), show 4 * (kR Mo a1).toNat + (3 : Int).toNat = 4 * (kR Mo a1).toNat + 3 by simp only [Int.reduceToNat], q, show (((kR Mo a1).toNat : Nat) : Int) = kR Mo a1 by omega]
  refine zH_wE (c1 := (13, [zR 60, .inl a1, .inl a2, zN], [])) 5 hz zp_106 (fh_106_18 a1 7) (by rfl) ?_
  show zH n (0, 0) 47 (13, [zR 60, .inl a1, .inl a2, zN], [.inl (hR_get M 18 a1 7)]) M _
  rw [hp.rd e18 e19 (by omega) (by decide)]
  refine zH_w (c' := (14, [zR 60, .inl a1, .inl a2, .inl (qA Mo a1 7)], [])) 1 hz rfl ?_
  have lp58 : ∀ (v1 : Int), (v1 = kV1 Mo C (Mo 98 4).toNat a1 a2) → zH n (0, 0) 47 (58, [zR 60, .inl a1, .inl a2, .inl v1], []) M (fun r M' => r = some (.inl (kV4 Mo C (Mo 98 4).toNat a1 a2)) ∧ M' = M) := by
    intro v1 h58
    have lp98 : ∀ (v2 : Int), (v2 = kV2 Mo C (Mo 98 4).toNat a1 a2) → zH n (0, 0) 47 (98, [zR 60, .inl a1, .inl a2, .inl v2], []) M (fun r M' => r = some (.inl (kV4 Mo C (Mo 98 4).toNat a1 a2)) ∧ M' = M) := by
      intro v2 h98
      have lp110 : ∀ (v3 : Int), (v3 = kV3 Mo C (Mo 98 4).toNat a1 a2) → zH n (0, 0) 47 (110, [zR 60, .inl a1, .inl a2, .inl v3], []) M (fun r M' => r = some (.inl (kV4 Mo C (Mo 98 4).toNat a1 a2)) ∧ M' = M) := by
        intro v3 h110
        have lp160 : ∀ (v4 : Int), (v4 = kV4 Mo C (Mo 98 4).toNat a1 a2) → zH n (0, 0) 47 (160, [zR 60, .inl a1, .inl a2, .inl v4], []) M (fun r M' => r = some (.inl (kV4 Mo C (Mo 98 4).toNat a1 a2)) ∧ M' = M) := by
          intro v4 h160
          refine zH_w (c' := (161, [zR 60, .inl a1, .inl a2, .inl v4], [.inl v4])) 1 hz rfl ?_
          exact zH_wr (r := some (.inl v4)) 0 hz (by rfl) (⟨by rw [h160], rfl⟩)
        refine zH_w (c' := (112, [zR 60, .inl a1, .inl a2, .inl v3], [.inl 4, .inl a2])) 2 hz rfl ?_
        refine zH_wi_lt (pc := 112) (n' := 115) (t := 160) (L := [zR 60, .inl a1, .inl a2, .inl v3]) (st := []) (x := a2) (y := 4) 0 hz (by rfl) (fun hb112 => ?_) (fun hb112 => ?_)
        · skip
          refine lp160 v3 ?_
          · unfold kV4
            first
              | exact h110.trans (if_neg (by omega)).symm
              | (rw [h110]; exact (if_pos (by omega)).symm)
        · skip
          refine zH_wE (c1 := (124, [zR 60, .inl a1, .inl a2, .inl v3], [zR 63])) 4 hz zp_52 (fh_52_60 a1) (by rfl) ?_
          show zH n (0, 0) 47 (124, [zR 60, .inl a1, .inl a2, .inl v3], [.inl (hf_52_60 M a1), zR 63]) M _
          rw [er]
          refine zH_w (c' := (125, [zR 60, .inl a1, .inl a2, .inl v3], [.inl 3, .inl (kR Mo a1), zR 63])) 1 hz rfl ?_
          refine zH_wE (c1 := (128, [zR 60, .inl a1, .inl a2, .inl v3], [])) 0 hz zp_106 (fh_106_63 (kR Mo a1) 3) (by rfl) ?_
          show zH n (0, 0) 47 (128, [zR 60, .inl a1, .inl a2, .inl v3], [.inl (hR_get M 63 (kR Mo a1) 3)]) M _
          rw [q4]
          refine zH_w (c' := (129, [zR 60, .inl a1, .inl a2, .inl v3], [.inl a1, .inl (kF Mo C (kR Mo a1) (Mo 98 4).toNat)])) 1 hz rfl ?_
          refine zH_wi_eq (pc := 129) (n' := 132) (t := 160) (L := [zR 60, .inl a1, .inl a2, .inl v3]) (st := []) (x := (kF Mo C (kR Mo a1) (Mo 98 4).toNat)) (y := a1) 0 hz (by rfl) (fun hb129 => ?_) (fun hb129 => ?_)
          · skip
            refine lp160 v3 ?_
            · unfold kV4
              first
                | exact h110.trans (if_neg (by omega)).symm
                | (rw [h110]; exact (if_pos (by omega)).symm)
          · skip
            refine zH_wE (c1 := (152, [zR 60, .inl a1, .inl a2, .inl v3], [zR 10, .inl v3])) 9 hz zp_106 (fh_106_18 a1 5) (by rfl) ?_
            show zH n (0, 0) 47 (152, [zR 60, .inl a1, .inl a2, .inl v3], [.inl (hR_get M 18 a1 5), zR 10, .inl v3]) M _
            rw [hp.rd e18 e19 (by omega) (by decide)]
            refine zH_w (c' := (153, [zR 60, .inl a1, .inl a2, .inl v3], [.inl 3, .inl (qA Mo a1 5), zR 10, .inl v3])) 1 hz rfl ?_
            refine zH_wE (c1 := (156, [zR 60, .inl a1, .inl a2, .inl v3], [.inl v3])) 0 hz zp_106 (fh_106_10 (qA Mo a1 5) 3) (by rfl) ?_
            show zH n (0, 0) 47 (156, [zR 60, .inl a1, .inl a2, .inl v3], [.inl (hR_get M 10 (qA Mo a1 5) 3), .inl v3]) M _
            rw [hp.cap e10 e11 (by omega)]
            refine zH_w (c' := (160, [zR 60, .inl a1, .inl a2, .inl (if (kCap Mo a1) < v3 then (kCap Mo a1) else v3)], [])) 2 hz rfl ?_
            refine lp160 (if (kCap Mo a1) < v3 then (kCap Mo a1) else v3) ?_
            · unfold kV4
              first
                | exact h110.trans (if_neg (by omega)).symm
                | (rw [h110]; exact (if_pos (by omega)).symm)
      refine zH_w (c' := (100, [zR 60, .inl a1, .inl a2, .inl v2], [.inl 3, .inl a2])) 2 hz rfl ?_
      refine zH_wi_lt (pc := 100) (n' := 103) (t := 110) (L := [zR 60, .inl a1, .inl a2, .inl v2]) (st := []) (x := a2) (y := 3) 0 hz (by rfl) (fun hb100 => ?_) (fun hb100 => ?_)
      · skip
        refine lp110 v2 ?_
        · unfold kV3; first | (rw [if_neg (by omega)]; exact h98) | rw [if_pos (by omega), h98]
      · skip
        refine zH_wE (c1 := (109, [zR 60, .inl a1, .inl a2, .inl v2], [])) 3 hz zp_54 (fh_54_60 hp hK a1 v2 h1) (by rfl) ?_
        show zH n (0, 0) 47 (109, [zR 60, .inl a1, .inl a2, .inl v2], [.inl (kSc Mo C (Mo 98 4).toNat a1 v2)]) M _
        refine zH_w (c' := (110, [zR 60, .inl a1, .inl a2, .inl (kSc Mo C (Mo 98 4).toNat a1 v2)], [])) 1 hz rfl ?_
        refine lp110 (kSc Mo C (Mo 98 4).toNat a1 v2) ?_
        · unfold kV3; first | (rw [if_neg (by omega)]; exact h98) | rw [if_pos (by omega), h98]
    refine zH_w (c' := (60, [zR 60, .inl a1, .inl a2, .inl v1], [.inl 2, .inl a2])) 2 hz rfl ?_
    refine zH_wi_lt (pc := 60) (n' := 63) (t := 98) (L := [zR 60, .inl a1, .inl a2, .inl v1]) (st := []) (x := a2) (y := 2) 0 hz (by rfl) (fun hb60 => ?_) (fun hb60 => ?_)
    · skip
      refine lp98 v1 ?_
      · unfold kV2; first | (rw [if_neg (by omega)]; exact h58) | rw [if_pos (by omega)]
    · skip
      refine zH_wE (c1 := (72, [zR 60, .inl a1, .inl a2, .inl v1], [])) 4 hz zp_106 (fh_106_61 a1 3) (by rfl) ?_
      show zH n (0, 0) 47 (72, [zR 60, .inl a1, .inl a2, .inl v1], [.inl (hR_get M 61 a1 3)]) M _
      rw [q3]
      refine zH_w (c' := (73, [zR 60, .inl a1, .inl a2, .inl v1], [.inl (-1), .inl (kL Mo C 2 a1 (Mo 98 4).toNat)])) 1 hz rfl ?_
      refine zH_wi_eq (pc := 73) (n' := 76) (t := 98) (L := [zR 60, .inl a1, .inl a2, .inl v1]) (st := []) (x := (kL Mo C 2 a1 (Mo 98 4).toNat)) (y := (-1)) 0 hz (by rfl) (fun hb73 => ?_) (fun hb73 => ?_)
      · skip
        refine lp98 v1 ?_
        · unfold kV2; first | (rw [if_neg (by omega)]; exact h58) | rw [if_pos (by omega)]
      · skip
        refine zH_wE (c1 := (92, [zR 60, .inl a1, .inl a2, .inl v1], [zR 18])) 7 hz zp_106 (fh_106_61 a1 3) (by rfl) ?_
        show zH n (0, 0) 47 (92, [zR 60, .inl a1, .inl a2, .inl v1], [.inl (hR_get M 61 a1 3), zR 18]) M _
        rw [q3]
        refine zH_w (c' := (94, [zR 60, .inl a1, .inl a2, .inl v1], [.inl 7, .inl (kL Mo C 2 a1 (Mo 98 4).toNat), zR 18])) 1 hz rfl ?_
        refine zH_wE (c1 := (97, [zR 60, .inl a1, .inl a2, .inl v1], [])) 0 hz zp_106 (fh_106_18 (kL Mo C 2 a1 (Mo 98 4).toNat) 7) (by rfl) ?_
        show zH n (0, 0) 47 (97, [zR 60, .inl a1, .inl a2, .inl v1], [.inl (hR_get M 18 (kL Mo C 2 a1 (Mo 98 4).toNat) 7)]) M _
        rw [hp.rd e18 e19 (by omega) (by decide)]
        refine zH_w (c' := (98, [zR 60, .inl a1, .inl a2, .inl (qA Mo (kL Mo C 2 a1 (Mo 98 4).toNat) 7)], [])) 1 hz rfl ?_
        refine lp98 (qA Mo (kL Mo C 2 a1 (Mo 98 4).toNat) 7) ?_
        · unfold kV2; first | (rw [if_neg (by omega)]; exact h58) | rw [if_pos (by omega)]
  refine zH_wi_lt (pc := 16) (n' := 19) (t := 58) (L := [zR 60, .inl a1, .inl a2, .inl (qA Mo a1 7)]) (st := []) (x := a2) (y := 1) 2 hz (by rfl) (fun hb16 => ?_) (fun hb16 => ?_)
  · skip
    refine lp58 (qA Mo a1 7) ?_
    · unfold kV1; first | rw [if_neg (by omega)] | (rw [if_pos (by omega)]; rfl)
  · skip
    refine zH_wE (c1 := (28, [zR 60, .inl a1, .inl a2, .inl (qA Mo a1 7)], [])) 4 hz zp_106 (fh_106_61 a1 2) (by rfl) ?_
    show zH n (0, 0) 47 (28, [zR 60, .inl a1, .inl a2, .inl (qA Mo a1 7)], [.inl (hR_get M 61 a1 2)]) M _
    rw [q2]
    refine zH_w (c' := (29, [zR 60, .inl a1, .inl a2, .inl (qA Mo a1 7)], [.inl (-1), .inl (kL Mo C 1 a1 (Mo 98 4).toNat)])) 1 hz rfl ?_
    refine zH_wi_eq (pc := 29) (n' := 32) (t := 58) (L := [zR 60, .inl a1, .inl a2, .inl (qA Mo a1 7)]) (st := []) (x := (kL Mo C 1 a1 (Mo 98 4).toNat)) (y := (-1)) 0 hz (by rfl) (fun hb29 => ?_) (fun hb29 => ?_)
    · skip
      refine lp58 (qA Mo a1 7) ?_
      · unfold kV1; first | rw [if_neg (by omega)] | (rw [if_pos (by omega)]; rfl)
    · skip
      refine zH_wE (c1 := (49, [zR 60, .inl a1, .inl a2, .inl (qA Mo a1 7)], [zR 18, .inl (qA Mo a1 7)])) 8 hz zp_106 (fh_106_61 a1 2) (by rfl) ?_
      show zH n (0, 0) 47 (49, [zR 60, .inl a1, .inl a2, .inl (qA Mo a1 7)], [.inl (hR_get M 61 a1 2), zR 18, .inl (qA Mo a1 7)]) M _
      rw [q2]
      refine zH_w (c' := (51, [zR 60, .inl a1, .inl a2, .inl (qA Mo a1 7)], [.inl 7, .inl (kL Mo C 1 a1 (Mo 98 4).toNat), zR 18, .inl (qA Mo a1 7)])) 1 hz rfl ?_
      refine zH_wE (c1 := (54, [zR 60, .inl a1, .inl a2, .inl (qA Mo a1 7)], [.inl (qA Mo a1 7)])) 0 hz zp_106 (fh_106_18 (kL Mo C 1 a1 (Mo 98 4).toNat) 7) (by rfl) ?_
      show zH n (0, 0) 47 (54, [zR 60, .inl a1, .inl a2, .inl (qA Mo a1 7)], [.inl (hR_get M 18 (kL Mo C 1 a1 (Mo 98 4).toNat) 7), .inl (qA Mo a1 7)]) M _
      rw [hp.rd e18 e19 (by omega) (by decide)]
      refine zH_wE (c1 := (57, [zR 60, .inl a1, .inl a2, .inl (qA Mo a1 7)], [])) 0 hz zp_53 (fh_53 (qA Mo a1 7) (qA Mo (kL Mo C 1 a1 (Mo 98 4).toNat) 7)) (by rfl) ?_
      show zH n (0, 0) 47 (57, [zR 60, .inl a1, .inl a2, .inl (qA Mo a1 7)], [.inl (hf_53 M (qA Mo a1 7) (qA Mo (kL Mo C 1 a1 (Mo 98 4).toNat) 7))]) M _
      refine zH_w (c' := (58, [zR 60, .inl a1, .inl a2, .inl (hf_53 M (qA Mo a1 7) (qA Mo (kL Mo C 1 a1 (Mo 98 4).toNat) 7))], [])) 1 hz rfl ?_
      refine lp58 (hf_53 M (qA Mo a1 7) (qA Mo (kL Mo C 1 a1 (Mo 98 4).toNat) 7)) ?_
      · unfold kV1; first | rw [if_neg (by omega)] | (rw [if_pos (by omega)]; rfl)
set_option maxRecDepth 100000 in
theorem fh_41_60 {n : Nat} {M : zM} (hp : kP M) (a1 a2 : Int) : zH n (0, 0) 41 (0, zini [zR 60, .inl a1, .inl a2] 5, []) M (fun r M' => r = none ∧ kG M (hCt M a1 a2 (M 98 4).toNat (M 98 4).toNat) (fun r => kZ M (hCt M a1 a2 (M 98 4).toNat (M 98 4).toNat) (M 98 4).toNat (r : Int) (M 98 4).toNat) (M 98 4).toNat M') := by
  have hz := zp_41
  show zH n (0, 0) 41 (0, [zR 60, .inl a1, .inl a2, zN, zN], []) M _
  have hn := hp.1.cnt4
  have hn1 := hp.1.cnt1
  have k4 : M 18 3 = M 98 4 := hp.2.1.2.2.2.2.1.1
  obtain ⟨C, hCe⟩ : ∃ C, C = (hCt M a1 a2 (M 98 4).toNat (M 98 4).toNat) := ⟨_, rfl⟩
  rw [← hCe]
  refine zH_w (c' := (3, [zR 60, .inl a1, .inl a2, zN, zN], [.inl a2, .inl a1, zR 60])) 3 hz rfl ?_
  refine zH_wC (c1 := (6, [zR 60, .inl a1, .inl a2, zN, zN], [])) 0 hz zp_48 (fh_48_60 hp.1 hp.2.1 hp.2.2.1 hp.2.2.2.1 a1 a2) (by rfl) ?_
  rintro _ M1 ⟨rfl, hO1, hH1⟩
  show zH n (0, 0) 41 (6, [zR 60, .inl a1, .inl a2, zN, zN], []) M1 _
  refine zH_wC (c1 := (10, [zR 60, .inl a1, .inl a2, zN, zN], [])) 1 hz zp_49 (fh_49_60 hp hO1 C (by rw [hCe]; exact hH1)) (by rfl) ?_
  rintro _ M2 ⟨rfl, hK1⟩
  show zH n (0, 0) 41 (10, [zR 60, .inl a1, .inl a2, zN, zN], []) M2 _
  have hK2 : kG M C (fun r => kZ M C (M 98 4).toNat (r : Int) (0 : Int).toNat) (M 98 4).toNat M2 := hK1
  refine zH_w (c' := (12, [zR 60, .inl a1, .inl a2, .inl 0, zN], [])) 2 hz rfl ?_
  have lp12 : ∀ (N : Nat) (i : Int) (u4 : zV) (M8 : zM), ((250 - i).toNat) < N → (0 ≤ i ∧ i ≤ M 98 4) → (kG M C (fun r => kZ M C (M 98 4).toNat (r : Int) i.toNat) (M 98 4).toNat M8) → zH n (0, 0) 41 (12, [zR 60, .inl a1, .inl a2, .inl i, u4], []) M8 (fun r M' => r = none ∧ kG M C (fun r => kZ M C (M 98 4).toNat (r : Int) (M 98 4).toNat) (M 98 4).toNat M') := by
    intro N
    induction N with
    | zero => intro i u4 M8 hN; exact absurd hN (Nat.not_lt_zero _)
    | succ N ih12 =>
      intro i u4 M8 hN hi hK
      refine zH_w (c' := (20, [zR 60, .inl a1, .inl a2, .inl i, u4], [zR 18, .inl i])) 4 hz rfl ?_
      refine zH_wE (c1 := (23, [zR 60, .inl a1, .inl a2, .inl i, u4], [.inl i])) 0 hz zp_101 (fh_101_18) (by rfl) ?_
      show zH n (0, 0) 41 (23, [zR 60, .inl a1, .inl a2, .inl i, u4], [.inl (hR_size M8 18), .inl i]) M8 _
      rw [show hR_size M8 18 = M 98 4 from by unfold hR_size; rw [hK.1 18 (by decide) (by decide) (by decide) (by decide)]; exact k4]
      refine zH_icmp_ge hz rfl (fun hb23 => ?_) (fun hb23 => ?_)
      · skip
        exact zH_ret hz rfl rfl (⟨rfl, by have q := hK; rw [show i.toNat = (M 98 4).toNat by omega] at q; exact q⟩)
      · skip
        have ei : ((i.toNat : Nat) : Int) = i := by omega
        have e18 : M8 18 = M 18 := hK.1 18 (by decide) (by decide) (by decide) (by decide)
        have e19 : M8 19 = M 19 := hK.1 19 (by decide) (by decide) (by decide) (by decide)
        have q19 : hf_19_9 M8 0 i = 0 ↔ ¬ qA M i 0 = 0 := by rw [hq_19, hp.rd e18 e19 (by omega) (by decide), show M8 18 3 = M 98 4 from by rw [e18]; exact k4]; constructor <;> intro q <;> omega
        have h61 : M8 61 0 = 250 ∧ M8 61 1 = 4 := by rw [hK.1 61 (by decide) (by decide) (by decide) (by decide)]; exact hp.2.2.2.1
        have h63 : M8 63 0 = 280 ∧ M8 63 1 = 4 := by rw [hK.1 63 (by decide) (by decide) (by decide) (by decide)]; exact hp.2.2.2.2.1
        have e42 : hf_42_60 M8 i = if C i.toNat = true then 1 else 0 := by
          have q := hK.2.2.1 i.toNat (by omega)
          unfold hf_42_60
          rw [hG_61 h61 (by omega) (by decide), show 4 * i.toNat + (0 : Int).toNat = 4 * i.toNat by simp only [Int.reduceToNat]; omega, q]
          split <;> rfl
        refine zH_w (c' := (32, [zR 60, .inl a1, .inl a2, .inl i, u4], [.inl i, .inl 0, zR 9])) 4 hz rfl ?_
        refine zH_wE (c1 := (35, [zR 60, .inl a1, .inl a2, .inl i, u4], [])) 0 hz zp_19 (fh_19_9 0 i) (by rfl) ?_
        show zH n (0, 0) 41 (35, [zR 60, .inl a1, .inl a2, .inl i, u4], [.inl (hf_19_9 M8 0 i)]) M8 _
        refine zH_wf_eq (pc := 35) (n' := 38) (t := 82) (L := [zR 60, .inl a1, .inl a2, .inl i, u4]) (st := []) (x := (hf_19_9 M8 0 i)) 0 hz (by rfl) (fun hb35 => ?_) (fun hb35 => ?_)
        · skip
          have hno : ¬ (C i.toNat = true ∧ qA M i 0 = 0) := fun q => q19.mp hb35 q.2
          refine zH_w (c' := (12, [zR 60, .inl a1, .inl a2, .inl (i + 1), u4], [])) 2 hz (by rw [show (.inl (i + 1) : zV) = .inl (w32 (i + 1)) from by rw [w32_id (by omega)]]; rfl) ?_
          refine ih12 (i + 1) u4 M8 (by omega) ?_ ?_
          · omega
          · rw [show (i + 1).toNat = i.toNat + 1 by omega]
            first
              | exact hK.cgF (fun r => if_neg (fun q => hno ⟨q.1, by have := q.2.1; rw [show ((i.toNat : Nat) : Int) = i by omega] at this; exact this⟩))
              | (rw [es]; exact hK.fin (by rw [kZ_s, if_pos ⟨hct, by rw [ei]; exact hs0, by rw [ei, eR]⟩, ei, show ((R : Nat) : Int) = kR M i by omega]) (fun r hr => if_neg (fun q => hr (by have := q.2.2; rw [ei] at this; omega))))
        · skip
          have hs0 : qA M i 0 = 0 := by by_cases q : qA M i 0 = 0; exact q; exact absurd (q19.mpr q) hb35
          refine zH_wE (c1 := (43, [zR 60, .inl a1, .inl a2, .inl i, u4], [])) 2 hz zp_42 (fh_42_60 i) (by rfl) ?_
          show zH n (0, 0) 41 (43, [zR 60, .inl a1, .inl a2, .inl i, u4], [.inl (hf_42_60 M8 i)]) M8 _
          rw [e42]
          obtain ⟨y, hy⟩ : ∃ x : Int, x = (if C i.toNat = true then 1 else 0) := ⟨_, rfl⟩
          rw [← hy]
          refine zH_if_eq hz rfl (fun hb43 => ?_) (fun hb43 => ?_)
          · skip
            have hct : ¬ C i.toNat = true := fun h => by rw [if_pos h] at hy; omega
            have hno : ¬ (C i.toNat = true ∧ qA M i 0 = 0) := fun q => hct q.1
            refine zH_w (c' := (12, [zR 60, .inl a1, .inl a2, .inl (i + 1), u4], [])) 2 hz (by rw [show (.inl (i + 1) : zV) = .inl (w32 (i + 1)) from by rw [w32_id (by omega)]]; rfl) ?_
            refine ih12 (i + 1) u4 M8 (by omega) ?_ ?_
            · omega
            · rw [show (i + 1).toNat = i.toNat + 1 by omega]
              first
                | exact hK.cgF (fun r => if_neg (fun q => hno ⟨q.1, by have := q.2.1; rw [show ((i.toNat : Nat) : Int) = i by omega] at this; exact this⟩))
                | (rw [es]; exact hK.fin (by rw [kZ_s, if_pos ⟨hct, by rw [ei]; exact hs0, by rw [ei, eR]⟩, ei, show ((R : Nat) : Int) = kR M i by omega]) (fun r hr => if_neg (fun q => hr (by have := q.2.2; rw [ei] at this; omega))))
          · skip
            have hct : C i.toNat = true := by by_cases hq : C i.toNat = true; exact hq; rw [if_neg hq] at hy; exact absurd hy hb43
            obtain ⟨er, er1, er2⟩ : hf_52_60 M8 i = kR M i ∧ 0 ≤ kR M i ∧ kR M i < 14 * M 98 1 := by
              have q := hp.row (i := i.toNat) e18 e19 (by omega) (.inl (by rw [ei]; exact hs0))
              rw [ei] at q
              exact q
            obtain ⟨R, eR⟩ : ∃ R : Nat, kR M i = (R : Int) := ⟨(kR M i).toNat, by omega⟩
            have q5 : hR_get M8 63 (kR M i) 0 = kZ M C (M 98 4).toNat (R : Int) i.toNat := by
              rw [hG_63 h63 (by omega) (by decide), show 4 * (kR M i).toNat + (0 : Int).toNat = 4 * R by simp only [Int.reduceToNat] <;> omega]
              exact (hK.2.2.2.2.1 R (by omega)).1
            refine zH_w (c' := (48, [zR 60, .inl a1, .inl a2, .inl i, u4], [.inl i, zR 60])) 2 hz rfl ?_
            refine zH_wE (c1 := (51, [zR 60, .inl a1, .inl a2, .inl i, u4], [])) 0 hz zp_52 (fh_52_60 i) (by rfl) ?_
            show zH n (0, 0) 41 (51, [zR 60, .inl a1, .inl a2, .inl i, u4], [.inl (hf_52_60 M8 i)]) M8 _
            rw [er]
            refine zH_w (c' := (67, [zR 60, .inl a1, .inl a2, .inl i, .inl (kR M i)], [.inl 0, .inl (kR M i), zR 63, .inl 0, .inl (kR M i), zR 63])) 9 hz rfl ?_
            refine zH_wE (c1 := (70, [zR 60, .inl a1, .inl a2, .inl i, .inl (kR M i)], [.inl 0, .inl (kR M i), zR 63])) 0 hz zp_106 (fh_106_63 (kR M i) 0) (by rfl) ?_
            show zH n (0, 0) 41 (70, [zR 60, .inl a1, .inl a2, .inl i, .inl (kR M i)], [.inl (hR_get M8 63 (kR M i) 0), .inl 0, .inl (kR M i), zR 63]) M8 _
            rw [q5]
            refine zH_w (c' := (73, [zR 60, .inl a1, .inl a2, .inl i, .inl (kR M i)], [.inl 4, .inl i, zR 60, .inl (kZ M C (M 98 4).toNat (R : Int) i.toNat), .inl 0, .inl (kR M i), zR 63])) 3 hz rfl ?_
            refine zH_wE (c1 := (76, [zR 60, .inl a1, .inl a2, .inl i, .inl (kR M i)], [.inl (kZ M C (M 98 4).toNat (R : Int) i.toNat), .inl 0, .inl (kR M i), zR 63])) 0 hz zp_47 (fh_47_60 hp hK i 4 (by omega) hs0) (by rfl) ?_
            show zH n (0, 0) 41 (76, [zR 60, .inl a1, .inl a2, .inl i, .inl (kR M i)], [.inl (kV4 M C (M 98 4).toNat i 4), .inl (kZ M C (M 98 4).toNat (R : Int) i.toNat), .inl 0, .inl (kR M i), zR 63]) M8 _
            refine zH_w (c' := (79, [zR 60, .inl a1, .inl a2, .inl i, .inl (kR M i)], [.inl (if (kZ M C (M 98 4).toNat (R : Int) i.toNat) < (kV4 M C (M 98 4).toNat i 4) then (kV4 M C (M 98 4).toNat i 4) else (kZ M C (M 98 4).toNat (R : Int) i.toNat)), .inl 0, .inl (kR M i), zR 63])) 1 hz rfl ?_
            refine zH_wE (c1 := (82, [zR 60, .inl a1, .inl a2, .inl i, .inl (kR M i)], [])) 0 hz zp_107 (fh_107_63 (kR M i) 0 (if (kZ M C (M 98 4).toNat (R : Int) i.toNat) < (kV4 M C (M 98 4).toNat i 4) then (kV4 M C (M 98 4).toNat i 4) else (kZ M C (M 98 4).toNat (R : Int) i.toNat))) (by rfl) ?_
            show zH n (0, 0) 41 (82, [zR 60, .inl a1, .inl a2, .inl i, .inl (kR M i)], []) (hR_set M8 63 (kR M i) 0 (if (kZ M C (M 98 4).toNat (R : Int) i.toNat) < (kV4 M C (M 98 4).toNat i 4) then (kV4 M C (M 98 4).toNat i 4) else (kZ M C (M 98 4).toNat (R : Int) i.toNat))) _
            have es : (hR_set M8 63 (kR M i) 0 (if (kZ M C (M 98 4).toNat (R : Int) i.toNat) < (kV4 M C (M 98 4).toNat i 4) then (kV4 M C (M 98 4).toNat i 4) else (kZ M C (M 98 4).toNat (R : Int) i.toNat))) = zput M8 64 (4 * R) (if kZ M C (M 98 4).toNat (R : Int) i.toNat < kV4 M C (M 98 4).toNat i 4 then kV4 M C (M 98 4).toNat i 4 else kZ M C (M 98 4).toNat (R : Int) i.toNat) := by
              rw [hS_63 h63 (by omega) (by decide), show 4 * (kR M i).toNat + (0 : Int).toNat = 4 * R by simp only [Int.reduceToNat] <;> omega]
            refine zH_w (c' := (12, [zR 60, .inl a1, .inl a2, .inl (i + 1), .inl (kR M i)], [])) 2 hz (by rw [show (.inl (i + 1) : zV) = .inl (w32 (i + 1)) from by rw [w32_id (by omega)]]; rfl) ?_
            refine ih12 (i + 1) (.inl (kR M i)) (hR_set M8 63 (kR M i) 0 (if (kZ M C (M 98 4).toNat (R : Int) i.toNat) < (kV4 M C (M 98 4).toNat i 4) then (kV4 M C (M 98 4).toNat i 4) else (kZ M C (M 98 4).toNat (R : Int) i.toNat))) (by omega) ?_ ?_
            · omega
            · rw [show (i + 1).toNat = i.toNat + 1 by omega]
              first
                | exact hK.cgF (fun r => if_neg (fun q => hno ⟨q.1, by have := q.2.1; rw [show ((i.toNat : Nat) : Int) = i by omega] at this; exact this⟩))
                | (rw [es]; exact hK.fin (by rw [kZ_s, if_pos ⟨hct, by rw [ei]; exact hs0, by rw [ei, eR]⟩, ei, show ((R : Nat) : Int) = kR M i by omega]) (fun r hr => if_neg (fun q => hr (by have := q.2.2; rw [ei] at this; omega))))
  refine lp12 (251) 0 zN M2 (by omega) ?_ ?_
  · omega
  · exact hK2
noncomputable def kA16 (M : zM) (a1 a2 : Int) : Int := (if (0 ≤ a1 ∧ a1 < M 98 4) ∧ (0 ≤ a2 ∧ a2 ≤ 9999) then (if (hCt M a2 (-1) (M 98 4).toNat (M 98 4).toNat) a1.toNat = true then 1 else 0) else -2)
set_option maxRecDepth 100000 in
theorem fh_139 {n : Nat} {M : zM} (hp : kP M) (a1 a2 : Int) : zH n (0, 0) 139 (0, zini [zR 8, .inl a1, .inl a2] 3, []) M (fun r M' => r = some (.inl (kA16 M a1 a2))) := by
  have hz := zp_139
  show zH n (0, 0) 139 (0, [zR 8, .inl a1, .inl a2], []) M _
  have k4 : M 18 3 = M 98 4 := hp.2.1.2.2.2.2.1.1
  have k1 : M 12 3 = M 98 1 := hp.2.1.2.1.1
  have k0 : M 10 3 = M 98 0 := hp.2.1.1.1
  have hn := hp.1.cnt4
  have hn1 := hp.1.cnt1
  have hn0 := hp.1.cnt0
  refine zH_wE (c1 := (11, [zR 8, .inl a1, .inl a2], [])) 4 hz zp_102 (fh_102_18 a1) (by rfl) ?_
  show zH n (0, 0) 139 (11, [zR 8, .inl a1, .inl a2], [.inl (hR_has M 18 a1)]) M _
  obtain ⟨x1, hx1⟩ : ∃ x : Int, x = (hR_has M 18 a1) := ⟨_, rfl⟩
  rw [← hx1]
  refine zH_if_eq hz rfl (fun hb11 => ?_) (fun hb11 => ?_)
  · skip
    rw [hx1, hq_has] at hb11
    refine zH_w (c' := (23, [zR 8, .inl a1, .inl a2], [.inl (-2)])) 1 hz rfl ?_
    exact zH_wr (r := some (.inl (-2))) 0 hz (by rfl) (by unfold kA16; rw [if_neg (by omega)])
  · skip
    rw [hx1, hq_has] at hb11
    refine zH_w (c' := (15, [zR 8, .inl a1, .inl a2], [.inl a2])) 1 hz rfl ?_
    refine zH_wE (c1 := (18, [zR 8, .inl a1, .inl a2], [])) 0 hz zp_170 (fh_170 a2) (by rfl) ?_
    show zH n (0, 0) 139 (18, [zR 8, .inl a1, .inl a2], [.inl (hf_170 M a2)]) M _
    obtain ⟨x2, hx2⟩ : ∃ x : Int, x = (hf_170 M a2) := ⟨_, rfl⟩
    rw [← hx2]
    refine zH_if_ne hz rfl (fun hb18 => ?_) (fun hb18 => ?_)
    · skip
      rw [hx2, hq_170] at hb18
      refine zH_w (c' := (30, [zR 8, .inl a1, .inl a2], [.inl (-1), .inl a2, zR 60])) 4 hz rfl ?_
      refine zH_wC (c1 := (33, [zR 8, .inl a1, .inl a2], [])) 0 hz zp_41 (fh_41_60 hp a2 (-1)) (by rfl) ?_
      rintro _ M1 ⟨rfl, hK1⟩
      show zH n (0, 0) 139 (33, [zR 8, .inl a1, .inl a2], []) M1 _
      have e42 : hf_42_60 M1 a1 = if (hCt M a2 (-1) (M 98 4).toNat (M 98 4).toNat) a1.toNat = true then 1 else 0 := by
        have q := hK1.2.2.1 a1.toNat (by omega)
        have h61 : M1 61 0 = 250 ∧ M1 61 1 = 4 := by rw [hK1.1 61 (by decide) (by decide) (by decide) (by decide)]; exact hp.2.2.2.1
        unfold hf_42_60
        rw [hG_61 h61 (by omega) (by decide), show 4 * a1.toNat + (0 : Int).toNat = 4 * a1.toNat by simp only [Int.reduceToNat]; omega, q]
        split <;> rfl
      refine zH_wE (c1 := (41, [zR 8, .inl a1, .inl a2], [])) 3 hz zp_42 (fh_42_60 a1) (by rfl) ?_
      show zH n (0, 0) 139 (41, [zR 8, .inl a1, .inl a2], [.inl (hf_42_60 M1 a1)]) M1 _
      rw [e42]
      obtain ⟨y, hy⟩ : ∃ x : Int, x = (if (hCt M a2 (-1) (M 98 4).toNat (M 98 4).toNat) a1.toNat = true then 1 else 0) := ⟨_, rfl⟩
      rw [← hy]
      refine zH_if_eq hz rfl (fun hb41 => ?_) (fun hb41 => ?_)
      · skip
        have hct : ¬ (hCt M a2 (-1) (M 98 4).toNat (M 98 4).toNat) a1.toNat = true := fun h => by rw [if_pos h] at hy; omega
        refine zH_w (c' := (49, [zR 8, .inl a1, .inl a2], [.inl 0])) 1 hz rfl ?_
        exact zH_wr (r := some (.inl 0)) 0 hz (by rfl) (by unfold kA16; rw [if_pos (by omega)]; first | rw [if_pos hct] | rw [if_neg hct])
      · skip
        have hct : (hCt M a2 (-1) (M 98 4).toNat (M 98 4).toNat) a1.toNat = true := by by_cases hq : (hCt M a2 (-1) (M 98 4).toNat (M 98 4).toNat) a1.toNat = true; exact hq; rw [if_neg hq] at hy; exact absurd hy hb41
        refine zH_w (c' := (49, [zR 8, .inl a1, .inl a2], [.inl 1])) 2 hz rfl ?_
        exact zH_wr (r := some (.inl 1)) 0 hz (by rfl) (by unfold kA16; rw [if_pos (by omega)]; first | rw [if_pos hct] | rw [if_neg hct])
    · skip
      rw [hx2, hq_170] at hb18
      refine zH_w (c' := (23, [zR 8, .inl a1, .inl a2], [.inl (-2)])) 1 hz rfl ?_
      exact zH_wr (r := some (.inl (-2))) 0 hz (by rfl) (by unfold kA16; rw [if_neg (by omega)])
noncomputable def kA17 (M : zM) (a1 a2 a3 : Int) : Int := (if ((0 ≤ a1 ∧ a1 < M 98 4) ∧ qA M a1 0 = 0) ∧ (0 ≤ a2 ∧ a2 ≤ 4) ∧ (0 ≤ a3 ∧ a3 ≤ 9999) then (if (hCt M a3 (-1) (M 98 4).toNat (M 98 4).toNat) a1.toNat = true then kV4 M (hCt M a3 (-1) (M 98 4).toNat (M 98 4).toNat) (M 98 4).toNat a1 a2 else -1) else -2)
set_option maxRecDepth 100000 in
theorem fh_140 {n : Nat} {M : zM} (hp : kP M) (a1 a2 a3 : Int) : zH n (0, 0) 140 (0, zini [zR 8, .inl a1, .inl a2, .inl a3] 4, []) M (fun r M' => r = some (.inl (kA17 M a1 a2 a3))) := by
  have hz := zp_140
  show zH n (0, 0) 140 (0, [zR 8, .inl a1, .inl a2, .inl a3], []) M _
  have k4 : M 18 3 = M 98 4 := hp.2.1.2.2.2.2.1.1
  have k1 : M 12 3 = M 98 1 := hp.2.1.2.1.1
  have k0 : M 10 3 = M 98 0 := hp.2.1.1.1
  have hn := hp.1.cnt4
  have hn1 := hp.1.cnt1
  have hn0 := hp.1.cnt0
  have q19 : hf_19_9 M 0 a1 = 0 ↔ ¬ ((0 ≤ a1 ∧ a1 < M 98 4) ∧ qA M a1 0 = 0) := by
    rw [hq_19, k4]
    by_cases c : 0 ≤ a1 ∧ a1 < M 98 4
    · rw [hp.rd rfl rfl (by omega) (by decide)]
    · constructor <;> intro q <;> omega
  refine zH_wE (c1 := (9, [zR 8, .inl a1, .inl a2, .inl a3], [])) 4 hz zp_19 (fh_19_9 0 a1) (by rfl) ?_
  show zH n (0, 0) 140 (9, [zR 8, .inl a1, .inl a2, .inl a3], [.inl (hf_19_9 M 0 a1)]) M _
  obtain ⟨x1, hx1⟩ : ∃ x : Int, x = (hf_19_9 M 0 a1) := ⟨_, rfl⟩
  rw [← hx1]
  refine zH_if_eq hz rfl (fun hb9 => ?_) (fun hb9 => ?_)
  · skip
    rw [hx1, q19] at hb9
    refine zH_w (c' := (30, [zR 8, .inl a1, .inl a2, .inl a3], [.inl (-2)])) 1 hz rfl ?_
    exact zH_wr (r := some (.inl (-2))) 0 hz (by rfl) (by unfold kA17; rw [if_neg (by omega)])
  · skip
    rw [hx1, q19] at hb9
    refine zH_w (c' := (15, [zR 8, .inl a1, .inl a2, .inl a3], [.inl 4, .inl 0, .inl a2])) 3 hz rfl ?_
    refine zH_wE (c1 := (18, [zR 8, .inl a1, .inl a2, .inl a3], [])) 0 hz zp_169 (fh_169 a2 0 4) (by rfl) ?_
    show zH n (0, 0) 140 (18, [zR 8, .inl a1, .inl a2, .inl a3], [.inl (hf_169 M a2 0 4)]) M _
    obtain ⟨x2, hx2⟩ : ∃ x : Int, x = (hf_169 M a2 0 4) := ⟨_, rfl⟩
    rw [← hx2]
    refine zH_if_eq hz rfl (fun hb18 => ?_) (fun hb18 => ?_)
    · skip
      rw [hx2, hq_169] at hb18
      refine zH_w (c' := (30, [zR 8, .inl a1, .inl a2, .inl a3], [.inl (-2)])) 1 hz rfl ?_
      exact zH_wr (r := some (.inl (-2))) 0 hz (by rfl) (by unfold kA17; rw [if_neg (by omega)])
    · skip
      rw [hx2, hq_169] at hb18
      refine zH_w (c' := (22, [zR 8, .inl a1, .inl a2, .inl a3], [.inl a3])) 1 hz rfl ?_
      refine zH_wE (c1 := (25, [zR 8, .inl a1, .inl a2, .inl a3], [])) 0 hz zp_170 (fh_170 a3) (by rfl) ?_
      show zH n (0, 0) 140 (25, [zR 8, .inl a1, .inl a2, .inl a3], [.inl (hf_170 M a3)]) M _
      obtain ⟨x3, hx3⟩ : ∃ x : Int, x = (hf_170 M a3) := ⟨_, rfl⟩
      rw [← hx3]
      refine zH_if_ne hz rfl (fun hb25 => ?_) (fun hb25 => ?_)
      · skip
        rw [hx3, hq_170] at hb25
        refine zH_w (c' := (37, [zR 8, .inl a1, .inl a2, .inl a3], [.inl (-1), .inl a3, zR 60])) 4 hz rfl ?_
        refine zH_wC (c1 := (40, [zR 8, .inl a1, .inl a2, .inl a3], [])) 0 hz zp_41 (fh_41_60 hp a3 (-1)) (by rfl) ?_
        rintro _ M1 ⟨rfl, hK1⟩
        show zH n (0, 0) 140 (40, [zR 8, .inl a1, .inl a2, .inl a3], []) M1 _
        have e42 : hf_42_60 M1 a1 = if (hCt M a3 (-1) (M 98 4).toNat (M 98 4).toNat) a1.toNat = true then 1 else 0 := by
          have q := hK1.2.2.1 a1.toNat (by omega)
          have h61 : M1 61 0 = 250 ∧ M1 61 1 = 4 := by rw [hK1.1 61 (by decide) (by decide) (by decide) (by decide)]; exact hp.2.2.2.1
          unfold hf_42_60
          rw [hG_61 h61 (by omega) (by decide), show 4 * a1.toNat + (0 : Int).toNat = 4 * a1.toNat by simp only [Int.reduceToNat]; omega, q]
          split <;> rfl
        refine zH_wE (c1 := (48, [zR 8, .inl a1, .inl a2, .inl a3], [])) 3 hz zp_42 (fh_42_60 a1) (by rfl) ?_
        show zH n (0, 0) 140 (48, [zR 8, .inl a1, .inl a2, .inl a3], [.inl (hf_42_60 M1 a1)]) M1 _
        rw [e42]
        obtain ⟨y, hy⟩ : ∃ x : Int, x = (if (hCt M a3 (-1) (M 98 4).toNat (M 98 4).toNat) a1.toNat = true then 1 else 0) := ⟨_, rfl⟩
        rw [← hy]
        refine zH_if_eq hz rfl (fun hb48 => ?_) (fun hb48 => ?_)
        · skip
          have hct : ¬ (hCt M a3 (-1) (M 98 4).toNat (M 98 4).toNat) a1.toNat = true := fun h => by rw [if_pos h] at hy; omega
          refine zH_w (c' := (64, [zR 8, .inl a1, .inl a2, .inl a3], [.inl (-1)])) 1 hz rfl ?_
          exact zH_wr (r := some (.inl (-1))) 0 hz (by rfl) (by unfold kA17; rw [if_pos (by omega)]; first | rw [if_pos hct] | rw [if_neg hct])
        · skip
          have hct : (hCt M a3 (-1) (M 98 4).toNat (M 98 4).toNat) a1.toNat = true := by by_cases hq : (hCt M a3 (-1) (M 98 4).toNat (M 98 4).toNat) a1.toNat = true; exact hq; rw [if_neg hq] at hy; exact absurd hy hb48
          refine zH_w (c' := (57, [zR 8, .inl a1, .inl a2, .inl a3], [.inl a2, .inl a1, zR 60])) 4 hz rfl ?_
          refine zH_wE (c1 := (60, [zR 8, .inl a1, .inl a2, .inl a3], [])) 0 hz zp_47 (fh_47_60 hp hK1 a1 a2 (by omega) (by omega)) (by rfl) ?_
          show zH n (0, 0) 140 (60, [zR 8, .inl a1, .inl a2, .inl a3], [.inl (kV4 M (hCt M a3 (-1) (M 98 4).toNat (M 98 4).toNat) (M 98 4).toNat a1 a2)]) M1 _
          exact zH_wr (r := some (.inl (kV4 M (hCt M a3 (-1) (M 98 4).toNat (M 98 4).toNat) (M 98 4).toNat a1 a2))) 1 hz (by rfl) (by unfold kA17; rw [if_pos (by omega)]; first | rw [if_pos hct] | rw [if_neg hct])
      · skip
        rw [hx3, hq_170] at hb25
        refine zH_w (c' := (30, [zR 8, .inl a1, .inl a2, .inl a3], [.inl (-2)])) 1 hz rfl ?_
        exact zH_wr (r := some (.inl (-2))) 0 hz (by rfl) (by unfold kA17; rw [if_neg (by omega)])
noncomputable def kA18 (M : zM) (a1 a2 a3 a4 : Int) : Int := (if (0 ≤ a1 ∧ a1 < M 98 1) ∧ (0 ≤ a2 ∧ a2 < M 98 0) ∧ (0 ≤ a3 ∧ a3 ≤ 9999) ∧ (0 ≤ a4 ∧ a4 ≤ 2) then (if a4 = 0 then kZ M (hCt M a3 (-1) (M 98 4).toNat (M 98 4).toNat) (M 98 4).toNat (a1 * 14 + a2) (M 98 4).toNat else if a4 = 1 then kT M (hCt M a3 (-1) (M 98 4).toNat (M 98 4).toNat) (a1 * 14 + a2) (M 98 4).toNat else kX M (hCt M a3 (-1) (M 98 4).toNat (M 98 4).toNat) (a1 * 14 + a2) (M 98 4).toNat) else -2)
set_option maxRecDepth 100000 in
theorem fh_141 {n : Nat} {M : zM} (hp : kP M) (a1 a2 a3 a4 : Int) : zH n (0, 0) 141 (0, zini [zR 8, .inl a1, .inl a2, .inl a3, .inl a4] 5, []) M (fun r M' => r = some (.inl (kA18 M a1 a2 a3 a4))) := by
  have hz := zp_141
  show zH n (0, 0) 141 (0, [zR 8, .inl a1, .inl a2, .inl a3, .inl a4], []) M _
  have k4 : M 18 3 = M 98 4 := hp.2.1.2.2.2.2.1.1
  have k1 : M 12 3 = M 98 1 := hp.2.1.2.1.1
  have k0 : M 10 3 = M 98 0 := hp.2.1.1.1
  have hn := hp.1.cnt4
  have hn1 := hp.1.cnt1
  have hn0 := hp.1.cnt0
  refine zH_wE (c1 := (5, [zR 8, .inl a1, .inl a2, .inl a3, .inl a4], [])) 2 hz zp_174 (fh_174_8 a1) (by rfl) ?_
  show zH n (0, 0) 141 (5, [zR 8, .inl a1, .inl a2, .inl a3, .inl a4], [.inl (hf_174_8 M a1)]) M _
  obtain ⟨x1, hx1⟩ : ∃ x : Int, x = (hf_174_8 M a1) := ⟨_, rfl⟩
  rw [← hx1]
  refine zH_if_eq hz rfl (fun hb5 => ?_) (fun hb5 => ?_)
  · skip
    rw [hx1, hq_174] at hb5
    refine zH_w (c' := (35, [zR 8, .inl a1, .inl a2, .inl a3, .inl a4], [.inl (-2)])) 1 hz rfl ?_
    exact zH_wr (r := some (.inl (-2))) 0 hz (by rfl) (by unfold kA18; rw [if_neg (by omega)])
  · skip
    rw [hx1, hq_174] at hb5
    refine zH_w (c' := (10, [zR 8, .inl a1, .inl a2, .inl a3, .inl a4], [.inl a2, zR 8])) 2 hz rfl ?_
    refine zH_wE (c1 := (13, [zR 8, .inl a1, .inl a2, .inl a3, .inl a4], [])) 0 hz zp_175 (fh_175_8 a2) (by rfl) ?_
    show zH n (0, 0) 141 (13, [zR 8, .inl a1, .inl a2, .inl a3, .inl a4], [.inl (hf_175_8 M a2)]) M _
    obtain ⟨x2, hx2⟩ : ∃ x : Int, x = (hf_175_8 M a2) := ⟨_, rfl⟩
    rw [← hx2]
    refine zH_if_eq hz rfl (fun hb13 => ?_) (fun hb13 => ?_)
    · skip
      rw [hx2, hq_175] at hb13
      refine zH_w (c' := (35, [zR 8, .inl a1, .inl a2, .inl a3, .inl a4], [.inl (-2)])) 1 hz rfl ?_
      exact zH_wr (r := some (.inl (-2))) 0 hz (by rfl) (by unfold kA18; rw [if_neg (by omega)])
    · skip
      rw [hx2, hq_175] at hb13
      refine zH_w (c' := (17, [zR 8, .inl a1, .inl a2, .inl a3, .inl a4], [.inl a3])) 1 hz rfl ?_
      refine zH_wE (c1 := (20, [zR 8, .inl a1, .inl a2, .inl a3, .inl a4], [])) 0 hz zp_170 (fh_170 a3) (by rfl) ?_
      show zH n (0, 0) 141 (20, [zR 8, .inl a1, .inl a2, .inl a3, .inl a4], [.inl (hf_170 M a3)]) M _
      obtain ⟨x3, hx3⟩ : ∃ x : Int, x = (hf_170 M a3) := ⟨_, rfl⟩
      rw [← hx3]
      refine zH_if_eq hz rfl (fun hb20 => ?_) (fun hb20 => ?_)
      · skip
        rw [hx3, hq_170] at hb20
        refine zH_w (c' := (35, [zR 8, .inl a1, .inl a2, .inl a3, .inl a4], [.inl (-2)])) 1 hz rfl ?_
        exact zH_wr (r := some (.inl (-2))) 0 hz (by rfl) (by unfold kA18; rw [if_neg (by omega)])
      · skip
        rw [hx3, hq_170] at hb20
        refine zH_w (c' := (27, [zR 8, .inl a1, .inl a2, .inl a3, .inl a4], [.inl 2, .inl 0, .inl a4])) 3 hz rfl ?_
        refine zH_wE (c1 := (30, [zR 8, .inl a1, .inl a2, .inl a3, .inl a4], [])) 0 hz zp_169 (fh_169 a4 0 2) (by rfl) ?_
        show zH n (0, 0) 141 (30, [zR 8, .inl a1, .inl a2, .inl a3, .inl a4], [.inl (hf_169 M a4 0 2)]) M _
        obtain ⟨x4, hx4⟩ : ∃ x : Int, x = (hf_169 M a4 0 2) := ⟨_, rfl⟩
        rw [← hx4]
        refine zH_if_ne hz rfl (fun hb30 => ?_) (fun hb30 => ?_)
        · skip
          rw [hx4, hq_169] at hb30
          refine zH_w (c' := (42, [zR 8, .inl a1, .inl a2, .inl a3, .inl a4], [.inl (-1), .inl a3, zR 60])) 4 hz rfl ?_
          refine zH_wC (c1 := (45, [zR 8, .inl a1, .inl a2, .inl a3, .inl a4], [])) 0 hz zp_41 (fh_41_60 hp a3 (-1)) (by rfl) ?_
          rintro _ M1 ⟨rfl, hK1⟩
          show zH n (0, 0) 141 (45, [zR 8, .inl a1, .inl a2, .inl a3, .inl a4], []) M1 _
          have h63 : M1 63 0 = 280 ∧ M1 63 1 = 4 := by rw [hK1.1 63 (by decide) (by decide) (by decide) (by decide)]; exact hp.2.2.2.2.1
          have hq := hK1.2.2.2.2.1 (a1 * 14 + a2).toNat (by omega)
          obtain ⟨hq0, hq1, hq2, -⟩ := hq
          refine zH_wf_ne (pc := 47) (n' := 50) (t := 60) (L := [zR 8, .inl a1, .inl a2, .inl a3, .inl a4]) (st := []) (x := a4) 1 hz (by rfl) (fun hb47 => ?_) (fun hb47 => ?_)
          · skip
            refine zH_wi_ne (pc := 63) (n' := 66) (t := 78) (L := [zR 8, .inl a1, .inl a2, .inl a3, .inl a4]) (st := []) (x := a4) (y := 1) 2 hz (by rfl) (fun hb63 => ?_) (fun hb63 => ?_)
            · skip
              refine zH_wE (c1 := (87, [zR 8, .inl a1, .inl a2, .inl a3, .inl a4], [])) 4 hz zp_46 (fh_46_60 a1 a2) (by rfl) ?_
              show zH n (0, 0) 141 (87, [zR 8, .inl a1, .inl a2, .inl a3, .inl a4], [.inl (hf_46_60 M1 a1 a2)]) M1 _
              have e46 : hf_46_60 M1 a1 a2 = (kX M (hCt M a3 (-1) (M 98 4).toNat (M 98 4).toNat) (a1 * 14 + a2) (M 98 4).toNat) := by
                unfold hf_46_60
                rw [w32_id (x := a1 * 14) (by omega), w32_id (by omega), hG_63 h63 (by omega) (by decide), show 4 * (a1 * 14 + a2).toNat + (2 : Int).toNat = 4 * (a1 * 14 + a2).toNat + 2 by simp only [Int.reduceToNat] <;> omega]
                first | exact hq2.trans (by first | rw [show (((a1 * 14 + a2).toNat : Nat) : Int) = a1 * 14 + a2 by omega] | (dsimp only; rw [show (((a1 * 14 + a2).toNat : Nat) : Int) = a1 * 14 + a2 by omega])) | (rw [hq2, show (((a1 * 14 + a2).toNat : Nat) : Int) = a1 * 14 + a2 by omega])
              rw [e46]
              exact zH_ret hz rfl rfl (by unfold kA18; rw [if_pos (by omega), if_neg (by omega)]; (try first | rw [if_pos (by omega)] | rw [if_neg (by omega)]))
            · skip
              refine zH_wE (c1 := (75, [zR 8, .inl a1, .inl a2, .inl a3, .inl a4], [])) 4 hz zp_45 (fh_45_60 a1 a2) (by rfl) ?_
              show zH n (0, 0) 141 (75, [zR 8, .inl a1, .inl a2, .inl a3, .inl a4], [.inl (hf_45_60 M1 a1 a2)]) M1 _
              have e45 : hf_45_60 M1 a1 a2 = (kT M (hCt M a3 (-1) (M 98 4).toNat (M 98 4).toNat) (a1 * 14 + a2) (M 98 4).toNat) := by
                unfold hf_45_60
                rw [w32_id (x := a1 * 14) (by omega), w32_id (by omega), hG_63 h63 (by omega) (by decide), show 4 * (a1 * 14 + a2).toNat + (1 : Int).toNat = 4 * (a1 * 14 + a2).toNat + 1 by simp only [Int.reduceToNat] <;> omega]
                first | exact hq1.trans (by first | rw [show (((a1 * 14 + a2).toNat : Nat) : Int) = a1 * 14 + a2 by omega] | (dsimp only; rw [show (((a1 * 14 + a2).toNat : Nat) : Int) = a1 * 14 + a2 by omega])) | (rw [hq1, show (((a1 * 14 + a2).toNat : Nat) : Int) = a1 * 14 + a2 by omega])
              rw [e45]
              refine zH_w (c' := (87, [zR 8, .inl a1, .inl a2, .inl a3, .inl a4], [.inl (kT M (hCt M a3 (-1) (M 98 4).toNat (M 98 4).toNat) (a1 * 14 + a2) (M 98 4).toNat)])) 1 hz rfl ?_
              exact zH_wr (r := some (.inl (kT M (hCt M a3 (-1) (M 98 4).toNat (M 98 4).toNat) (a1 * 14 + a2) (M 98 4).toNat))) 0 hz (by rfl) (by unfold kA18; rw [if_pos (by omega), if_neg (by omega)]; (try first | rw [if_pos (by omega)] | rw [if_neg (by omega)]))
          · skip
            refine zH_wE (c1 := (59, [zR 8, .inl a1, .inl a2, .inl a3, .inl a4], [])) 4 hz zp_44 (fh_44_60 a1 a2) (by rfl) ?_
            show zH n (0, 0) 141 (59, [zR 8, .inl a1, .inl a2, .inl a3, .inl a4], [.inl (hf_44_60 M1 a1 a2)]) M1 _
            have e44 : hf_44_60 M1 a1 a2 = (kZ M (hCt M a3 (-1) (M 98 4).toNat (M 98 4).toNat) (M 98 4).toNat (a1 * 14 + a2) (M 98 4).toNat) := by
              unfold hf_44_60
              rw [w32_id (x := a1 * 14) (by omega), w32_id (by omega), hG_63 h63 (by omega) (by decide), show 4 * (a1 * 14 + a2).toNat + (0 : Int).toNat = 4 * (a1 * 14 + a2).toNat + 0 by simp only [Int.reduceToNat] <;> omega]
              first | exact hq0.trans (by first | rw [show (((a1 * 14 + a2).toNat : Nat) : Int) = a1 * 14 + a2 by omega] | (dsimp only; rw [show (((a1 * 14 + a2).toNat : Nat) : Int) = a1 * 14 + a2 by omega])) | (rw [hq0, show (((a1 * 14 + a2).toNat : Nat) : Int) = a1 * 14 + a2 by omega])
            rw [e44]
            exact zH_ret hz rfl rfl (by unfold kA18; rw [if_pos (by omega), if_pos (by omega)])
        · skip
          rw [hx4, hq_169] at hb30
          refine zH_w (c' := (35, [zR 8, .inl a1, .inl a2, .inl a3, .inl a4], [.inl (-2)])) 1 hz rfl ?_
          exact zH_wr (r := some (.inl (-2))) 0 hz (by rfl) (by unfold kA18; rw [if_neg (by omega)])
set_option maxRecDepth 100000 in
theorem fh_213 {n : Nat} {M : zM} {Mo : zM} (hC : qMI Mo) (e98 : M 98 = Mo 98) {C : Nat → Bool} (hK : ∀ a : Nat, (a : Int) < Mo 98 4 → M 101 a = if C a = true then 1 else 0) (a1 a2 : Int) (h2 : 0 ≤ a2 ∧ a2 < Mo 98 4) : zH n (0, 0) 213 (0, zini [zR 97, .inl a1, .inl a2] 4, []) M (fun r M' => r = some (.inl (kL Mo C a1 a2 (Mo 98 4).toNat)) ∧ M' = M) := by
  have hz := zp_213
  show zH n (0, 0) 213 (0, [zR 97, .inl a1, .inl a2, zN], []) M _
  have hn := hC.cnt4
  refine zH_w (c' := (5, [zR 97, .inl a1, .inl a2, zN], [.inl 4, zR 98])) 3 hz rfl ?_
  refine zH_iald hz rfl rfl (.inl rfl) (fun hin5 => ?_)
  show zH n (0, 0) 213 (6, [zR 97, .inl a1, .inl a2, zN], [.inl (M 98 (4 : Int).toNat)]) M _
  rw [show M 98 (4 : Int).toNat = Mo 98 4 from congrFun e98 4]
  refine zH_w (c' := (8, [zR 97, .inl a1, .inl a2, zN], [.inl (w32 ((Mo 98 4) - 1))])) 2 hz rfl ?_
  rw [w32_id (x := Mo 98 4 - 1) (by omega)]
  refine zH_w (c' := (9, [zR 97, .inl a1, .inl a2, .inl (Mo 98 4 - 1)], [])) 1 hz rfl ?_
  have lp9 : ∀ (N : Nat) (i : Int), ((i + 1).toNat) < N → (-1 ≤ i ∧ i < Mo 98 4) → (kL Mo C a1 a2 (Mo 98 4).toNat = kL Mo C a1 a2 (i + 1).toNat) → zH n (0, 0) 213 (9, [zR 97, .inl a1, .inl a2, .inl i], []) M (fun r M' => r = some (.inl (kL Mo C a1 a2 (Mo 98 4).toNat)) ∧ M' = M) := by
    intro N
    induction N with
    | zero => intro i hN; exact absurd hN (Nat.not_lt_zero _)
    | succ N ih9 =>
      intro i hN hi hk
      refine zH_w (c' := (11, [zR 97, .inl a1, .inl a2, .inl i], [.inl a2, .inl i])) 2 hz rfl ?_
      refine zH_wi_le (pc := 11) (n' := 14) (t := 52) (L := [zR 97, .inl a1, .inl a2, .inl i]) (st := []) (x := i) (y := a2) 0 hz (by rfl) (fun hb11 => ?_) (fun hb11 => ?_)
      · skip
        exact zH_wr (r := some (.inl (-1))) 1 hz (by rfl) (⟨by rw [hk, kL_lo hC C a1 a2 _ (by omega) (by omega)], rfl⟩)
      · skip
        have ei : ((i.toNat : Nat) : Int) = i := by omega
        have hv : ∀ b : Int, 0 ≤ b ∧ b < 12 → hf_194_97 M i b = qA Mo i b := fun b hb => hact_same e98 (by omega) hb
        refine zH_w (c' := (19, [zR 97, .inl a1, .inl a2, .inl i], [.inl i, zR 101])) 3 hz rfl ?_
        refine zH_bald hz rfl rfl (.inl rfl) (fun hin19 => ?_)
        show zH n (0, 0) 213 (20, [zR 97, .inl a1, .inl a2, .inl i], [.inl (M 101 (i : Int).toNat)]) M _
        rw [hK i.toNat (by omega)]
        obtain ⟨y, hy⟩ : ∃ x : Int, x = (if C i.toNat = true then 1 else 0) := ⟨_, rfl⟩
        rw [← hy]
        refine zH_if_eq hz rfl (fun hb20 => ?_) (fun hb20 => ?_)
        · skip
          have hct : ¬ C i.toNat = true := fun h => by rw [if_pos h] at hy; omega
          refine zH_w (c' := (9, [zR 97, .inl a1, .inl a2, .inl (i - 1)], [])) 2 hz (by rw [show (.inl (i - 1) : zV) = .inl (w32 (i + (-1))) from by rw [w32_id (by omega)]; rfl]; rfl) ?_
          refine ih9 (i - 1) (by omega) ?_ ?_
          · omega
          · refine hk.trans ?_
            rw [show (i + 1).toNat = i.toNat + 1 by omega, show (i - 1 + 1).toNat = i.toNat by omega]
            exact kL_no (fun q => by rw [ei] at q; first | exact hct q.1 | exact hb30 q.2.1 | exact hb41 q.2.2)
        · skip
          have hct : C i.toNat = true := by by_cases hq : C i.toNat = true; exact hq; rw [if_neg hq] at hy; exact absurd hy hb20
          refine zH_w (c' := (26, [zR 97, .inl a1, .inl a2, .inl i], [.inl 0, .inl i, zR 97])) 3 hz rfl ?_
          refine zH_wE (c1 := (29, [zR 97, .inl a1, .inl a2, .inl i], [])) 0 hz zp_194 (fh_194_97 i 0) (by rfl) ?_
          show zH n (0, 0) 213 (29, [zR 97, .inl a1, .inl a2, .inl i], [.inl (hf_194_97 M i 0)]) M _
          rw [hv 0 (by decide)]
          refine zH_w (c' := (30, [zR 97, .inl a1, .inl a2, .inl i], [.inl a1, .inl (qA Mo i 0)])) 1 hz rfl ?_
          refine zH_wi_ne (pc := 30) (n' := 33) (t := 46) (L := [zR 97, .inl a1, .inl a2, .inl i]) (st := []) (x := (qA Mo i 0)) (y := a1) 0 hz (by rfl) (fun hb30 => ?_) (fun hb30 => ?_)
          · skip
            refine zH_w (c' := (9, [zR 97, .inl a1, .inl a2, .inl (i - 1)], [])) 2 hz (by rw [show (.inl (i - 1) : zV) = .inl (w32 (i + (-1))) from by rw [w32_id (by omega)]; rfl]; rfl) ?_
            refine ih9 (i - 1) (by omega) ?_ ?_
            · omega
            · refine hk.trans ?_
              rw [show (i + 1).toNat = i.toNat + 1 by omega, show (i - 1 + 1).toNat = i.toNat by omega]
              exact kL_no (fun q => by rw [ei] at q; first | exact hct q.1 | exact hb30 q.2.1 | exact hb41 q.2.2)
          · skip
            refine zH_wE (c1 := (40, [zR 97, .inl a1, .inl a2, .inl i], [])) 3 hz zp_194 (fh_194_97 i 6) (by rfl) ?_
            show zH n (0, 0) 213 (40, [zR 97, .inl a1, .inl a2, .inl i], [.inl (hf_194_97 M i 6)]) M _
            rw [hv 6 (by decide)]
            refine zH_w (c' := (41, [zR 97, .inl a1, .inl a2, .inl i], [.inl a2, .inl (qA Mo i 6)])) 1 hz rfl ?_
            refine zH_wi_ne (pc := 41) (n' := 44) (t := 46) (L := [zR 97, .inl a1, .inl a2, .inl i]) (st := []) (x := (qA Mo i 6)) (y := a2) 0 hz (by rfl) (fun hb41 => ?_) (fun hb41 => ?_)
            · skip
              refine zH_w (c' := (9, [zR 97, .inl a1, .inl a2, .inl (i - 1)], [])) 2 hz (by rw [show (.inl (i - 1) : zV) = .inl (w32 (i + (-1))) from by rw [w32_id (by omega)]; rfl]; rfl) ?_
              refine ih9 (i - 1) (by omega) ?_ ?_
              · omega
              · refine hk.trans ?_
                rw [show (i + 1).toNat = i.toNat + 1 by omega, show (i - 1 + 1).toNat = i.toNat by omega]
                exact kL_no (fun q => by rw [ei] at q; first | exact hct q.1 | exact hb30 q.2.1 | exact hb41 q.2.2)
            · skip
              exact zH_wr (r := some (.inl i)) 1 hz (by rfl) (⟨by rw [hk, show (i + 1).toNat = i.toNat + 1 by omega, kL_s, ei, if_pos ⟨hct, by omega, by omega⟩], rfl⟩)
  refine lp9 (252) (Mo 98 4 - 1) (by omega) ?_ ?_
  · omega
  · rw [show (Mo 98 4 - 1 + 1).toNat = (Mo 98 4).toNat by omega]
set_option maxRecDepth 100000 in
theorem fh_214 {n : Nat} {M : zM} {Mo : zM} (hC : qMI Mo) (e98 : M 98 = Mo 98) {C : Nat → Bool} (hK : ∀ a : Nat, (a : Int) < Mo 98 4 → M 101 a = if C a = true then 1 else 0) (a1 : Int) (h2 : 0 ≤ a1 ∧ a1 < Mo 98 4) : zH n (0, 0) 214 (0, zini [zR 97, .inl a1] 3, []) M (fun r M' => r = some (.inl (kS Mo C a1 (Mo 98 4).toNat)) ∧ M' = M) := by
  have hz := zp_214
  show zH n (0, 0) 214 (0, [zR 97, .inl a1, zN], []) M _
  have hn := hC.cnt4
  have hw : ∀ b : Int, 0 ≤ b ∧ b < 12 → hf_194_97 M a1 b = qA Mo a1 b := fun b hb => hact_same e98 (by omega) hb
  refine zH_w (c' := (5, [zR 97, .inl a1, zN], [.inl 4, zR 98])) 3 hz rfl ?_
  refine zH_iald hz rfl rfl (.inl rfl) (fun hin5 => ?_)
  show zH n (0, 0) 214 (6, [zR 97, .inl a1, zN], [.inl (M 98 (4 : Int).toNat)]) M _
  rw [show M 98 (4 : Int).toNat = Mo 98 4 from congrFun e98 4]
  refine zH_w (c' := (8, [zR 97, .inl a1, zN], [.inl (w32 ((Mo 98 4) - 1))])) 2 hz rfl ?_
  rw [w32_id (x := Mo 98 4 - 1) (by omega)]
  refine zH_w (c' := (9, [zR 97, .inl a1, .inl (Mo 98 4 - 1)], [])) 1 hz rfl ?_
  have lp9 : ∀ (N : Nat) (i : Int), ((i + 1).toNat) < N → (-1 ≤ i ∧ i < Mo 98 4) → (kS Mo C a1 (Mo 98 4).toNat = kS Mo C a1 (i + 1).toNat) → zH n (0, 0) 214 (9, [zR 97, .inl a1, .inl i], []) M (fun r M' => r = some (.inl (kS Mo C a1 (Mo 98 4).toNat)) ∧ M' = M) := by
    intro N
    induction N with
    | zero => intro i hN; exact absurd hN (Nat.not_lt_zero _)
    | succ N ih9 =>
      intro i hN hi hk
      refine zH_w (c' := (10, [zR 97, .inl a1, .inl i], [.inl i])) 1 hz rfl ?_
      refine zH_wf_lt (pc := 10) (n' := 13) (t := 70) (L := [zR 97, .inl a1, .inl i]) (st := []) (x := i) 0 hz (by rfl) (fun hb10 => ?_) (fun hb10 => ?_)
      · skip
        exact zH_wr (r := some (.inl (-1))) 1 hz (by rfl) (⟨by rw [hk, show (i + 1).toNat = 0 by omega]; rfl, rfl⟩)
      · skip
        have ei : ((i.toNat : Nat) : Int) = i := by omega
        have hv : ∀ b : Int, 0 ≤ b ∧ b < 12 → hf_194_97 M i b = qA Mo i b := fun b hb => hact_same e98 (by omega) hb
        refine zH_w (c' := (18, [zR 97, .inl a1, .inl i], [.inl i, zR 101])) 3 hz rfl ?_
        refine zH_bald hz rfl rfl (.inl rfl) (fun hin18 => ?_)
        show zH n (0, 0) 214 (19, [zR 97, .inl a1, .inl i], [.inl (M 101 (i : Int).toNat)]) M _
        rw [hK i.toNat (by omega)]
        obtain ⟨y, hy⟩ : ∃ x : Int, x = (if C i.toNat = true then 1 else 0) := ⟨_, rfl⟩
        rw [← hy]
        refine zH_if_eq hz rfl (fun hb19 => ?_) (fun hb19 => ?_)
        · skip
          have hct : ¬ C i.toNat = true := fun h => by rw [if_pos h] at hy; omega
          refine zH_w (c' := (9, [zR 97, .inl a1, .inl (i - 1)], [])) 2 hz (by rw [show (.inl (i - 1) : zV) = .inl (w32 (i + (-1))) from by rw [w32_id (by omega)]; rfl]; rfl) ?_
          refine ih9 (i - 1) (by omega) ?_ ?_
          · omega
          · refine hk.trans ?_
            rw [show (i + 1).toNat = i.toNat + 1 by omega, show (i - 1 + 1).toNat = i.toNat by omega]
            exact if_neg (fun q => by rw [ei] at q; first | exact hct q.1 | exact hb29 q.2.1 | exact hb44 q.2.2.1 | omega)
        · skip
          have hct : C i.toNat = true := by by_cases hq : C i.toNat = true; exact hq; rw [if_neg hq] at hy; exact absurd hy hb19
          refine zH_w (c' := (25, [zR 97, .inl a1, .inl i], [.inl 0, .inl i, zR 97])) 3 hz rfl ?_
          refine zH_wE (c1 := (28, [zR 97, .inl a1, .inl i], [])) 0 hz zp_194 (fh_194_97 i 0) (by rfl) ?_
          show zH n (0, 0) 214 (28, [zR 97, .inl a1, .inl i], [.inl (hf_194_97 M i 0)]) M _
          rw [hv 0 (by decide)]
          refine zH_w (c' := (29, [zR 97, .inl a1, .inl i], [.inl 3, .inl (qA Mo i 0)])) 1 hz rfl ?_
          refine zH_wi_ne (pc := 29) (n' := 32) (t := 64) (L := [zR 97, .inl a1, .inl i]) (st := []) (x := (qA Mo i 0)) (y := 3) 0 hz (by rfl) (fun hb29 => ?_) (fun hb29 => ?_)
          · skip
            refine zH_w (c' := (9, [zR 97, .inl a1, .inl (i - 1)], [])) 2 hz (by rw [show (.inl (i - 1) : zV) = .inl (w32 (i + (-1))) from by rw [w32_id (by omega)]; rfl]; rfl) ?_
            refine ih9 (i - 1) (by omega) ?_ ?_
            · omega
            · refine hk.trans ?_
              rw [show (i + 1).toNat = i.toNat + 1 by omega, show (i - 1 + 1).toNat = i.toNat by omega]
              exact if_neg (fun q => by rw [ei] at q; first | exact hct q.1 | exact hb29 q.2.1 | exact hb44 q.2.2.1 | omega)
          · skip
            refine zH_wE (c1 := (38, [zR 97, .inl a1, .inl i], [])) 3 hz zp_194 (fh_194_97 i 5) (by rfl) ?_
            show zH n (0, 0) 214 (38, [zR 97, .inl a1, .inl i], [.inl (hf_194_97 M i 5)]) M _
            rw [hv 5 (by decide)]
            refine zH_w (c' := (41, [zR 97, .inl a1, .inl i], [.inl 5, .inl a1, zR 97, .inl (qA Mo i 5)])) 3 hz rfl ?_
            refine zH_wE (c1 := (44, [zR 97, .inl a1, .inl i], [.inl (qA Mo i 5)])) 0 hz zp_194 (fh_194_97 a1 5) (by rfl) ?_
            show zH n (0, 0) 214 (44, [zR 97, .inl a1, .inl i], [.inl (hf_194_97 M a1 5), .inl (qA Mo i 5)]) M _
            rw [hw 5 (by decide)]
            refine zH_icmp_ne hz rfl (fun hb44 => ?_) (fun hb44 => ?_)
            · skip
              refine zH_w (c' := (9, [zR 97, .inl a1, .inl (i - 1)], [])) 2 hz (by rw [show (.inl (i - 1) : zV) = .inl (w32 (i + (-1))) from by rw [w32_id (by omega)]; rfl]; rfl) ?_
              refine ih9 (i - 1) (by omega) ?_ ?_
              · omega
              · refine hk.trans ?_
                rw [show (i + 1).toNat = i.toNat + 1 by omega, show (i - 1 + 1).toNat = i.toNat by omega]
                exact if_neg (fun q => by rw [ei] at q; first | exact hct q.1 | exact hb29 q.2.1 | exact hb44 q.2.2.1 | omega)
            · skip
              refine zH_w (c' := (50, [zR 97, .inl a1, .inl i], [.inl 1, .inl i, zR 97])) 3 hz rfl ?_
              refine zH_wE (c1 := (53, [zR 97, .inl a1, .inl i], [])) 0 hz zp_194 (fh_194_97 i 1) (by rfl) ?_
              show zH n (0, 0) 214 (53, [zR 97, .inl a1, .inl i], [.inl (hf_194_97 M i 1)]) M _
              rw [hv 1 (by decide)]
              refine zH_w (c' := (56, [zR 97, .inl a1, .inl i], [.inl 1, .inl a1, zR 97, .inl (qA Mo i 1)])) 3 hz rfl ?_
              refine zH_wE (c1 := (59, [zR 97, .inl a1, .inl i], [.inl (qA Mo i 1)])) 0 hz zp_194 (fh_194_97 a1 1) (by rfl) ?_
              show zH n (0, 0) 214 (59, [zR 97, .inl a1, .inl i], [.inl (hf_194_97 M a1 1), .inl (qA Mo i 1)]) M _
              rw [hw 1 (by decide)]
              refine zH_icmp_lt hz rfl (fun hb59 => ?_) (fun hb59 => ?_)
              · skip
                refine zH_w (c' := (9, [zR 97, .inl a1, .inl (i - 1)], [])) 2 hz (by rw [show (.inl (i - 1) : zV) = .inl (w32 (i + (-1))) from by rw [w32_id (by omega)]; rfl]; rfl) ?_
                refine ih9 (i - 1) (by omega) ?_ ?_
                · omega
                · refine hk.trans ?_
                  rw [show (i + 1).toNat = i.toNat + 1 by omega, show (i - 1 + 1).toNat = i.toNat by omega]
                  exact if_neg (fun q => by rw [ei] at q; first | exact hct q.1 | exact hb29 q.2.1 | exact hb44 q.2.2.1 | omega)
              · skip
                refine zH_w (c' := (63, [zR 97, .inl a1, .inl i], [.inl i])) 1 hz rfl ?_
                exact zH_wr (r := some (.inl i)) 0 hz (by rfl) (⟨by rw [hk, show (i + 1).toNat = i.toNat + 1 by omega, kS_s, ei, if_pos ⟨hct, by omega, by omega, by omega⟩], rfl⟩)
  refine lp9 (252) (Mo 98 4 - 1) (by omega) ?_ ?_
  · omega
  · rw [show (Mo 98 4 - 1 + 1).toNat = (Mo 98 4).toNat by omega]
set_option maxRecDepth 100000 in
theorem fh_215 {n : Nat} {M : zM} {Mo : zM} (hC : qMI Mo) (e98 : M 98 = Mo 98) {C : Nat → Bool} (hK : ∀ a : Nat, (a : Int) < Mo 98 4 → M 101 a = if C a = true then 1 else 0) (a1 : Int) (h2 : 0 ≤ a1 ∧ a1 < Mo 98 4) : zH n (0, 0) 215 (0, zini [zR 97, .inl a1] 4, []) M (fun r M' => r = some (.inl (if kJ Mo C a1 (Mo 98 4).toNat = true then 1 else 0)) ∧ M' = M) := by
  have hz := zp_215
  show zH n (0, 0) 215 (0, [zR 97, .inl a1, zN, zN], []) M _
  have hn := hC.cnt4
  have hw : ∀ b : Int, 0 ≤ b ∧ b < 12 → hf_194_97 M a1 b = qA Mo a1 b := fun b hb => hact_same e98 (by omega) hb
  refine zH_w (c' := (2, [zR 97, .inl a1, .inl 0, zN], [])) 2 hz rfl ?_
  have lp2 : ∀ (N : Nat) (i : Int) (u3 : zV), ((250 - i).toNat) < N → (0 ≤ i ∧ i ≤ Mo 98 4) → (kJ Mo C a1 i.toNat = false) → zH n (0, 0) 215 (2, [zR 97, .inl a1, .inl i, u3], []) M (fun r M' => r = some (.inl (if kJ Mo C a1 (Mo 98 4).toNat = true then 1 else 0)) ∧ M' = M) := by
    intro N
    induction N with
    | zero => intro i u3 hN; exact absurd hN (Nat.not_lt_zero _)
    | succ N ih2 =>
      intro i u3 hN hi hk
      refine zH_w (c' := (8, [zR 97, .inl a1, .inl i, u3], [.inl 4, zR 98, .inl i])) 4 hz rfl ?_
      refine zH_iald hz rfl rfl (.inl rfl) (fun hin8 => ?_)
      show zH n (0, 0) 215 (9, [zR 97, .inl a1, .inl i, u3], [.inl (M 98 (4 : Int).toNat), .inl i]) M _
      rw [show M 98 (4 : Int).toNat = Mo 98 4 from congrFun e98 4]
      refine zH_icmp_ge hz rfl (fun hb9 => ?_) (fun hb9 => ?_)
      · skip
        refine zH_w (c' := (119, [zR 97, .inl a1, .inl i, u3], [.inl 0])) 1 hz rfl ?_
        exact zH_zret hz rfl (⟨by rw [show (Mo 98 4).toNat = i.toNat by omega, hk]; rfl, rfl⟩)
      · skip
        have ei : ((i.toNat : Nat) : Int) = i := by omega
        have hv : ∀ b : Int, 0 ≤ b ∧ b < 12 → hf_194_97 M i b = qA Mo i b := fun b hb => hact_same e98 (by omega) hb
        refine zH_w (c' := (14, [zR 97, .inl a1, .inl i, u3], [.inl a1, .inl i])) 2 hz rfl ?_
        refine zH_wi_eq (pc := 14) (n' := 17) (t := 69) (L := [zR 97, .inl a1, .inl i, u3]) (st := []) (x := i) (y := a1) 0 hz (by rfl) (fun hb14 => ?_) (fun hb14 => ?_)
        · skip
          refine zH_w (c' := (2, [zR 97, .inl a1, .inl (i + 1), .inl 0], [])) 6 hz (by rw [show (.inl (i + 1) : zV) = .inl (w32 (i + 1)) from by rw [w32_id (by omega)]]; rfl) ?_
          refine ih2 (i + 1) (.inl 0) (by omega) ?_ ?_
          · omega
          · rw [show (i + 1).toNat = i.toNat + 1 by omega]
            refine (kJ_no (fun q => ?_)).trans hk
            rw [ei] at q
            first | omega | exact hct q.2.1
        · skip
          refine zH_w (c' := (22, [zR 97, .inl a1, .inl i, u3], [.inl i, zR 101])) 3 hz rfl ?_
          refine zH_bald hz rfl rfl (.inl rfl) (fun hin22 => ?_)
          show zH n (0, 0) 215 (23, [zR 97, .inl a1, .inl i, u3], [.inl (M 101 (i : Int).toNat)]) M _
          rw [hK i.toNat (by omega)]
          obtain ⟨y, hy⟩ : ∃ x : Int, x = (if C i.toNat = true then 1 else 0) := ⟨_, rfl⟩
          rw [← hy]
          refine zH_if_eq hz rfl (fun hb23 => ?_) (fun hb23 => ?_)
          · skip
            have hct : ¬ C i.toNat = true := fun h => by rw [if_pos h] at hy; omega
            refine zH_w (c' := (2, [zR 97, .inl a1, .inl (i + 1), .inl 0], [])) 6 hz (by rw [show (.inl (i + 1) : zV) = .inl (w32 (i + 1)) from by rw [w32_id (by omega)]]; rfl) ?_
            refine ih2 (i + 1) (.inl 0) (by omega) ?_ ?_
            · omega
            · rw [show (i + 1).toNat = i.toNat + 1 by omega]
              refine (kJ_no (fun q => ?_)).trans hk
              rw [ei] at q
              first | omega | exact hct q.2.1
          · skip
            have hct : C i.toNat = true := by by_cases hq : C i.toNat = true; exact hq; rw [if_neg hq] at hy; exact absurd hy hb23
            refine zH_w (c' := (29, [zR 97, .inl a1, .inl i, u3], [.inl 0, .inl i, zR 97])) 3 hz rfl ?_
            refine zH_wE (c1 := (32, [zR 97, .inl a1, .inl i, u3], [])) 0 hz zp_194 (fh_194_97 i 0) (by rfl) ?_
            show zH n (0, 0) 215 (32, [zR 97, .inl a1, .inl i, u3], [.inl (hf_194_97 M i 0)]) M _
            rw [hv 0 (by decide)]
            refine zH_if_ne hz rfl (fun hb32 => ?_) (fun hb32 => ?_)
            · skip
              refine zH_w (c' := (2, [zR 97, .inl a1, .inl (i + 1), .inl 0], [])) 6 hz (by rw [show (.inl (i + 1) : zV) = .inl (w32 (i + 1)) from by rw [w32_id (by omega)]]; rfl) ?_
              refine ih2 (i + 1) (.inl 0) (by omega) ?_ ?_
              · omega
              · rw [show (i + 1).toNat = i.toNat + 1 by omega]
                refine (kJ_no (fun q => ?_)).trans hk
                rw [ei] at q
                first | omega | exact hct q.2.1
            · skip
              refine zH_w (c' := (38, [zR 97, .inl a1, .inl i, u3], [.inl 4, .inl i, zR 97])) 3 hz rfl ?_
              refine zH_wE (c1 := (41, [zR 97, .inl a1, .inl i, u3], [])) 0 hz zp_194 (fh_194_97 i 4) (by rfl) ?_
              show zH n (0, 0) 215 (41, [zR 97, .inl a1, .inl i, u3], [.inl (hf_194_97 M i 4)]) M _
              rw [hv 4 (by decide)]
              refine zH_w (c' := (44, [zR 97, .inl a1, .inl i, u3], [.inl 4, .inl a1, zR 97, .inl (qA Mo i 4)])) 3 hz rfl ?_
              refine zH_wE (c1 := (47, [zR 97, .inl a1, .inl i, u3], [.inl (qA Mo i 4)])) 0 hz zp_194 (fh_194_97 a1 4) (by rfl) ?_
              show zH n (0, 0) 215 (47, [zR 97, .inl a1, .inl i, u3], [.inl (hf_194_97 M a1 4), .inl (qA Mo i 4)]) M _
              rw [hw 4 (by decide)]
              refine zH_icmp_ne hz rfl (fun hb47 => ?_) (fun hb47 => ?_)
              · skip
                refine zH_w (c' := (2, [zR 97, .inl a1, .inl (i + 1), .inl 0], [])) 6 hz (by rw [show (.inl (i + 1) : zV) = .inl (w32 (i + 1)) from by rw [w32_id (by omega)]]; rfl) ?_
                refine ih2 (i + 1) (.inl 0) (by omega) ?_ ?_
                · omega
                · rw [show (i + 1).toNat = i.toNat + 1 by omega]
                  refine (kJ_no (fun q => ?_)).trans hk
                  rw [ei] at q
                  first | omega | exact hct q.2.1
              · skip
                refine zH_w (c' := (53, [zR 97, .inl a1, .inl i, u3], [.inl 5, .inl i, zR 97])) 3 hz rfl ?_
                refine zH_wE (c1 := (56, [zR 97, .inl a1, .inl i, u3], [])) 0 hz zp_194 (fh_194_97 i 5) (by rfl) ?_
                show zH n (0, 0) 215 (56, [zR 97, .inl a1, .inl i, u3], [.inl (hf_194_97 M i 5)]) M _
                rw [hv 5 (by decide)]
                refine zH_w (c' := (59, [zR 97, .inl a1, .inl i, u3], [.inl 5, .inl a1, zR 97, .inl (qA Mo i 5)])) 3 hz rfl ?_
                refine zH_wE (c1 := (62, [zR 97, .inl a1, .inl i, u3], [.inl (qA Mo i 5)])) 0 hz zp_194 (fh_194_97 a1 5) (by rfl) ?_
                show zH n (0, 0) 215 (62, [zR 97, .inl a1, .inl i, u3], [.inl (hf_194_97 M a1 5), .inl (qA Mo i 5)]) M _
                rw [hw 5 (by decide)]
                refine zH_icmp_ne hz rfl (fun hb62 => ?_) (fun hb62 => ?_)
                · skip
                  refine zH_w (c' := (2, [zR 97, .inl a1, .inl (i + 1), .inl 0], [])) 6 hz (by rw [show (.inl (i + 1) : zV) = .inl (w32 (i + 1)) from by rw [w32_id (by omega)]]; rfl) ?_
                  refine ih2 (i + 1) (.inl 0) (by omega) ?_ ?_
                  · omega
                  · rw [show (i + 1).toNat = i.toNat + 1 by omega]
                    refine (kJ_no (fun q => ?_)).trans hk
                    rw [ei] at q
                    first | omega | exact hct q.2.1
                · skip
                  refine zH_w (c' := (78, [zR 97, .inl a1, .inl i, .inl 1], [.inl 1, .inl i, zR 97])) 8 hz rfl ?_
                  refine zH_wE (c1 := (81, [zR 97, .inl a1, .inl i, .inl 1], [])) 0 hz zp_194 (fh_194_97 i 1) (by rfl) ?_
                  show zH n (0, 0) 215 (81, [zR 97, .inl a1, .inl i, .inl 1], [.inl (hf_194_97 M i 1)]) M _
                  rw [hv 1 (by decide)]
                  refine zH_w (c' := (84, [zR 97, .inl a1, .inl i, .inl 1], [.inl 1, .inl a1, zR 97, .inl (qA Mo i 1)])) 3 hz rfl ?_
                  refine zH_wE (c1 := (87, [zR 97, .inl a1, .inl i, .inl 1], [.inl (qA Mo i 1)])) 0 hz zp_194 (fh_194_97 a1 1) (by rfl) ?_
                  show zH n (0, 0) 215 (87, [zR 97, .inl a1, .inl i, .inl 1], [.inl (hf_194_97 M a1 1), .inl (qA Mo i 1)]) M _
                  rw [hw 1 (by decide)]
                  refine zH_icmp_lt hz rfl (fun hb87 => ?_) (fun hb87 => ?_)
                  · skip
                    refine zH_w (c' := (111, [zR 97, .inl a1, .inl i, .inl 1], [.inl 1])) 1 hz rfl ?_
                    exact zH_zret hz rfl (⟨by rw [if_pos (kJ_up _ C a1 (i.toNat + 1) (by rw [kJ_s, ei, if_pos ⟨by omega, hct, by omega, by omega, by omega, by omega⟩]) _ (by omega))], rfl⟩)
                  · skip
                    refine zH_w (c' := (93, [zR 97, .inl a1, .inl i, .inl 1], [.inl 1, .inl i, zR 97])) 3 hz rfl ?_
                    refine zH_wE (c1 := (96, [zR 97, .inl a1, .inl i, .inl 1], [])) 0 hz zp_194 (fh_194_97 i 1) (by rfl) ?_
                    show zH n (0, 0) 215 (96, [zR 97, .inl a1, .inl i, .inl 1], [.inl (hf_194_97 M i 1)]) M _
                    rw [hv 1 (by decide)]
                    refine zH_w (c' := (99, [zR 97, .inl a1, .inl i, .inl 1], [.inl 1, .inl a1, zR 97, .inl (qA Mo i 1)])) 3 hz rfl ?_
                    refine zH_wE (c1 := (102, [zR 97, .inl a1, .inl i, .inl 1], [.inl (qA Mo i 1)])) 0 hz zp_194 (fh_194_97 a1 1) (by rfl) ?_
                    show zH n (0, 0) 215 (102, [zR 97, .inl a1, .inl i, .inl 1], [.inl (hf_194_97 M a1 1), .inl (qA Mo i 1)]) M _
                    rw [hw 1 (by decide)]
                    refine zH_icmp_ne hz rfl (fun hb102 => ?_) (fun hb102 => ?_)
                    · skip
                      refine zH_w (c' := (2, [zR 97, .inl a1, .inl (i + 1), .inl 1], [])) 2 hz (by rw [show (.inl (i + 1) : zV) = .inl (w32 (i + 1)) from by rw [w32_id (by omega)]]; rfl) ?_
                      refine ih2 (i + 1) (.inl 1) (by omega) ?_ ?_
                      · omega
                      · rw [show (i + 1).toNat = i.toNat + 1 by omega]
                        refine (kJ_no (fun q => ?_)).trans hk
                        rw [ei] at q
                        first | omega | exact hct q.2.1
                    · skip
                      refine zH_w (c' := (107, [zR 97, .inl a1, .inl i, .inl 1], [.inl a1, .inl i])) 2 hz rfl ?_
                      refine zH_wi_ge (pc := 107) (n' := 110) (t := 112) (L := [zR 97, .inl a1, .inl i, .inl 1]) (st := []) (x := i) (y := a1) 0 hz (by rfl) (fun hb107 => ?_) (fun hb107 => ?_)
                      · skip
                        refine zH_w (c' := (2, [zR 97, .inl a1, .inl (i + 1), .inl 1], [])) 2 hz (by rw [show (.inl (i + 1) : zV) = .inl (w32 (i + 1)) from by rw [w32_id (by omega)]]; rfl) ?_
                        refine ih2 (i + 1) (.inl 1) (by omega) ?_ ?_
                        · omega
                        · rw [show (i + 1).toNat = i.toNat + 1 by omega]
                          refine (kJ_no (fun q => ?_)).trans hk
                          rw [ei] at q
                          first | omega | exact hct q.2.1
                      · skip
                        refine zH_w (c' := (111, [zR 97, .inl a1, .inl i, .inl 1], [.inl 1])) 1 hz rfl ?_
                        exact zH_zret hz rfl (⟨by rw [if_pos (kJ_up _ C a1 (i.toNat + 1) (by rw [kJ_s, ei, if_pos ⟨by omega, hct, by omega, by omega, by omega, by omega⟩]) _ (by omega))], rfl⟩)
  refine lp2 (251) 0 zN (by omega) ?_ ?_
  · omega
  · rfl
set_option maxRecDepth 100000 in
theorem fh_216 {n : Nat} {M : zM} {Mo : zM} (hC : qMI Mo) (e98 : M 98 = Mo 98) {C : Nat → Bool} (hK : ∀ a : Nat, (a : Int) < Mo 98 4 → M 101 a = if C a = true then 1 else 0) (hR : ∀ a : Int, 0 ≤ a ∧ a < 250 → -1 ≤ qA Mo a 7 ∧ qA Mo a 7 ≤ 100) (a1 a2 : Int) (h2 : 0 ≤ a1 ∧ a1 < Mo 98 4) (h0 : qA Mo a1 0 = 0) (hc1 : C a1.toNat = true) : zH n (0, 0) 216 (0, zini [zR 97, .inl a1, .inl a2] 8, []) M (fun r M' => r = some (.inl (kV4 Mo C (Mo 98 4).toNat a1 a2)) ∧ M' = M) := by
  have hz := zp_216
  show zH n (0, 0) 216 (0, [zR 97, .inl a1, .inl a2, zN, zN, zN, zN, zN], []) M _
  have hn := hC.cnt4
  have h5r : 0 ≤ qA Mo a1 5 ∧ qA Mo a1 5 ≤ 13 := by
    have hac := (hC.act a1 (by omega)).2.2.1
    have hrl := (hC.rel a1 h2.1 h2.2).2.2.2.2.1 h0
    omega
  have hw : ∀ b : Int, 0 ≤ b ∧ b < 12 → hf_194_97 M a1 b = qA Mo a1 b := fun b hb => hact_same e98 (by omega) hb
  have r1 := kL_r Mo C 1 a1 (Mo 98 4).toNat
  have r2 := kL_r Mo C 2 a1 (Mo 98 4).toNat
  have r3 := kS_r Mo C a1 (Mo 98 4).toNat
  have g1 := hR a1 (by omega)
  have jx : (w32 (w32 (20 + w32 (4 * qA Mo a1 5)) + 3)).toNat = 23 + 4 * (qA Mo a1 5).toNat := by rw [w32_id (x := 4 * qA Mo a1 5) (by omega), w32_id (x := 20 + 4 * qA Mo a1 5) (by omega), w32_id (by omega)]; omega
  have fj : kF Mo C (kR Mo a1) (Mo 98 4).toNat = a1 ↔ ¬ kJ Mo C a1 (Mo 98 4).toNat = true := by
    have q := kF_kJ hC C a1.toNat (by omega) hc1 (by rw [show ((a1.toNat : Nat) : Int) = a1 by omega]; exact h0)
    rw [show ((a1.toNat : Nat) : Int) = a1 by omega] at q
    exact q
  refine zH_wE (c1 := (7, [zR 97, .inl a1, .inl a2, zN, zN, zN, zN, zN], [])) 3 hz zp_194 (fh_194_97 a1 7) (by rfl) ?_
  show zH n (0, 0) 216 (7, [zR 97, .inl a1, .inl a2, zN, zN, zN, zN, zN], [.inl (hf_194_97 M a1 7)]) M _
  rw [hw 7 (by decide)]
  refine zH_w (c' := (8, [zR 97, .inl a1, .inl a2, .inl (qA Mo a1 7), zN, zN, zN, zN], [])) 1 hz rfl ?_
  have lp80 : ∀ (v1 : Int) (u4 : Int) (u5 : zV) (u6 : zV), (v1 = kV1 Mo C (Mo 98 4).toNat a1 a2) → zH n (0, 0) 216 (80, [zR 97, .inl a1, .inl a2, .inl v1, .inl u4, u5, u6, zN], []) M (fun r M' => r = some (.inl (kV4 Mo C (Mo 98 4).toNat a1 a2)) ∧ M' = M) := by
    intro v1 u4 u5 u6 h80
    have lp116 : ∀ (v2 : Int) (u4 : Int) (u5 : Int) (u6 : zV), (v2 = kV2 Mo C (Mo 98 4).toNat a1 a2) → zH n (0, 0) 216 (116, [zR 97, .inl a1, .inl a2, .inl v2, .inl u4, .inl u5, u6, zN], []) M (fun r M' => r = some (.inl (kV4 Mo C (Mo 98 4).toNat a1 a2)) ∧ M' = M) := by
      intro v2 u4 u5 u6 h116
      have lp188 : ∀ (v3 : Int) (u4 : Int) (u5 : Int) (u6 : Int), (v3 = kV3 Mo C (Mo 98 4).toNat a1 a2) → zH n (0, 0) 216 (188, [zR 97, .inl a1, .inl a2, .inl v3, .inl u4, .inl u5, .inl u6, zN], []) M (fun r M' => r = some (.inl (kV4 Mo C (Mo 98 4).toNat a1 a2)) ∧ M' = M) := by
        intro v3 u4 u5 u6 h188
        refine zH_w (c' := (198, [zR 97, .inl a1, .inl a2, .inl v3, .inl u4, .inl u5, .inl u6, zN], [.inl 5, .inl a1, zR 97, .inl 4, .inl 20, zR 98])) 7 hz rfl ?_
        refine zH_wE (c1 := (201, [zR 97, .inl a1, .inl a2, .inl v3, .inl u4, .inl u5, .inl u6, zN], [.inl 4, .inl 20, zR 98])) 0 hz zp_194 (fh_194_97 a1 5) (by rfl) ?_
        show zH n (0, 0) 216 (201, [zR 97, .inl a1, .inl a2, .inl v3, .inl u4, .inl u5, .inl u6, zN], [.inl (hf_194_97 M a1 5), .inl 4, .inl 20, zR 98]) M _
        rw [hw 5 (by decide)]
        refine zH_w (c' := (205, [zR 97, .inl a1, .inl a2, .inl v3, .inl u4, .inl u5, .inl u6, zN], [.inl (w32 ((w32 (20 + (w32 (4 * (qA Mo a1 5))))) + 3)), zR 98])) 4 hz rfl ?_
        refine zH_iald hz rfl rfl (.inl rfl) (fun hin205 => ?_)
        show zH n (0, 0) 216 (206, [zR 97, .inl a1, .inl a2, .inl v3, .inl u4, .inl u5, .inl u6, zN], [.inl (M 98 (w32 ((w32 (20 + (w32 (4 * (qA Mo a1 5))))) + 3) : Int).toNat)]) M _
        rw [show M 98 _ = kCap Mo a1 from by unfold kCap; rw [e98]; exact congrArg (Mo 98) jx]
        refine zH_w (c' := (210, [zR 97, .inl a1, .inl a2, .inl v3, .inl u4, .inl u5, .inl u6, .inl (kCap Mo a1)], [.inl 3, .inl a2])) 3 hz rfl ?_
        refine zH_wi_le (pc := 210) (n' := 213) (t := 232) (L := [zR 97, .inl a1, .inl a2, .inl v3, .inl u4, .inl u5, .inl u6, .inl (kCap Mo a1)]) (st := []) (x := a2) (y := 3) 0 hz (by rfl) (fun hb210 => ?_) (fun hb210 => ?_)
        · skip
          have k4 : kV4 Mo C (Mo 98 4).toNat a1 a2 = v3 := by
            unfold kV4
            rw [← h188]
            rw [if_neg (by omega)]
          exact zH_wr (r := some (.inl v3)) 1 hz (by rfl) (⟨by rw [k4], rfl⟩)
        · skip
          refine zH_wi_le (pc := 216) (n' := 219) (t := 232) (L := [zR 97, .inl a1, .inl a2, .inl v3, .inl u4, .inl u5, .inl u6, .inl (kCap Mo a1)]) (st := []) (x := v3) (y := (kCap Mo a1)) 2 hz (by rfl) (fun hb216 => ?_) (fun hb216 => ?_)
          · skip
            have k4 : kV4 Mo C (Mo 98 4).toNat a1 a2 = v3 := by
              unfold kV4
              rw [← h188]
              split
              · rw [if_neg (by omega)]
              · rfl
            exact zH_wr (r := some (.inl v3)) 1 hz (by rfl) (⟨by rw [k4], rfl⟩)
          · skip
            refine zH_wE (c1 := (224, [zR 97, .inl a1, .inl a2, .inl v3, .inl u4, .inl u5, .inl u6, .inl (kCap Mo a1)], [])) 2 hz zp_215 (fh_215 hC e98 hK a1 h2) (by rfl) ?_
            show zH n (0, 0) 216 (224, [zR 97, .inl a1, .inl a2, .inl v3, .inl u4, .inl u5, .inl u6, .inl (kCap Mo a1)], [.inl (if kJ Mo C a1 (Mo 98 4).toNat = true then 1 else 0)]) M _
            obtain ⟨x9, hx9⟩ : ∃ x : Int, x = (if kJ Mo C a1 (Mo 98 4).toNat = true then 1 else 0) := ⟨_, rfl⟩
            rw [← hx9]
            refine zH_if_eq hz rfl (fun hb224 => ?_) (fun hb224 => ?_)
            · skip
              have hj : ¬ kJ Mo C a1 (Mo 98 4).toNat = true := fun q => by rw [if_pos q] at hx9; omega
              have k4 : kV4 Mo C (Mo 98 4).toNat a1 a2 = v3 := by
                unfold kV4
                rw [← h188]
                rw [if_neg (fun q => q.2 (fj.mpr hj))]
              refine zH_w (c' := (233, [zR 97, .inl a1, .inl a2, .inl v3, .inl u4, .inl u5, .inl u6, .inl (kCap Mo a1)], [.inl v3])) 1 hz rfl ?_
              exact zH_wr (r := some (.inl v3)) 0 hz (by rfl) (⟨by rw [k4], rfl⟩)
            · skip
              have hj : kJ Mo C a1 (Mo 98 4).toNat = true := by by_cases q : kJ Mo C a1 (Mo 98 4).toNat = true; exact q; rw [if_neg q] at hx9; exact absurd hx9 hb224
              have k4 : kV4 Mo C (Mo 98 4).toNat a1 a2 = (kCap Mo a1) := by
                unfold kV4
                rw [← h188]
                rw [if_pos ⟨by omega, fun q => fj.mp q hj⟩, if_pos (by omega)]
              refine zH_w (c' := (233, [zR 97, .inl a1, .inl a2, .inl v3, .inl u4, .inl u5, .inl u6, .inl (kCap Mo a1)], [.inl (kCap Mo a1)])) 2 hz rfl ?_
              exact zH_wr (r := some (.inl (kCap Mo a1))) 0 hz (by rfl) (⟨by rw [k4], rfl⟩)
      refine zH_w (c' := (118, [zR 97, .inl a1, .inl a2, .inl v2, .inl u4, .inl u5, u6, zN], [.inl 2, .inl a2])) 2 hz rfl ?_
      refine zH_wi_le (pc := 118) (n' := 121) (t := 129) (L := [zR 97, .inl a1, .inl a2, .inl v2, .inl u4, .inl u5, u6, zN]) (st := []) (x := a2) (y := 2) 0 hz (by rfl) (fun hb118 => ?_) (fun hb118 => ?_)
      · skip
        refine zH_w (c' := (188, [zR 97, .inl a1, .inl a2, .inl v2, .inl u4, .inl u5, .inl (-1), zN], [])) 5 hz rfl ?_
        refine lp188 v2 u4 u5 (-1) ?_
        · unfold kV3
          first
            | (rw [if_neg (by omega)]; exact h116)
            | (rw [if_pos (by omega)]; unfold kSc; rw [if_pos hb135]; exact h116)
            | (rw [if_pos (by omega), ← h116]; unfold kSc; rw [if_neg hb135]; unfold kCl; (repeat' split) <;> omega)
      · skip
        refine zH_wE (c1 := (126, [zR 97, .inl a1, .inl a2, .inl v2, .inl u4, .inl u5, u6, zN], [])) 2 hz zp_214 (fh_214 hC e98 hK a1 h2) (by rfl) ?_
        show zH n (0, 0) 216 (126, [zR 97, .inl a1, .inl a2, .inl v2, .inl u4, .inl u5, u6, zN], [.inl (kS Mo C a1 (Mo 98 4).toNat)]) M _
        refine zH_wi_eq (pc := 135) (n' := 138) (t := 188) (L := [zR 97, .inl a1, .inl a2, .inl v2, .inl u4, .inl u5, .inl (kS Mo C a1 (Mo 98 4).toNat), zN]) (st := []) (x := (kS Mo C a1 (Mo 98 4).toNat)) (y := (-1)) 4 hz (by rfl) (fun hb135 => ?_) (fun hb135 => ?_)
        · skip
          refine lp188 v2 u4 u5 (kS Mo C a1 (Mo 98 4).toNat) ?_
          · unfold kV3
            first
              | (rw [if_neg (by omega)]; exact h116)
              | (rw [if_pos (by omega)]; unfold kSc; rw [if_pos hb135]; exact h116)
              | (rw [if_pos (by omega), ← h116]; unfold kSc; rw [if_neg hb135]; unfold kCl; (repeat' split) <;> omega)
        · skip
          refine zH_wE (c1 := (147, [zR 97, .inl a1, .inl a2, .inl v2, .inl u4, .inl u5, .inl (kS Mo C a1 (Mo 98 4).toNat), zN], [.inl v2])) 4 hz zp_194 (fh_194_97 (kS Mo C a1 (Mo 98 4).toNat) 9) (by rfl) ?_
          show zH n (0, 0) 216 (147, [zR 97, .inl a1, .inl a2, .inl v2, .inl u4, .inl u5, .inl (kS Mo C a1 (Mo 98 4).toNat), zN], [.inl (hf_194_97 M (kS Mo C a1 (Mo 98 4).toNat) 9), .inl v2]) M _
          rw [hact_same e98 (by omega) (by decide)]
          refine zH_w (c' := (153, [zR 97, .inl a1, .inl a2, .inl v2, .inl u4, .inl u5, .inl (kS Mo C a1 (Mo 98 4).toNat), zN], [.inl 10, .inl (kS Mo C a1 (Mo 98 4).toNat), zR 97, .inl (w32 (v2 * (qA Mo (kS Mo C a1 (Mo 98 4).toNat) 9)))])) 4 hz rfl ?_
          refine zH_wE (c1 := (156, [zR 97, .inl a1, .inl a2, .inl v2, .inl u4, .inl u5, .inl (kS Mo C a1 (Mo 98 4).toNat), zN], [.inl (w32 (v2 * (qA Mo (kS Mo C a1 (Mo 98 4).toNat) 9)))])) 0 hz zp_194 (fh_194_97 (kS Mo C a1 (Mo 98 4).toNat) 10) (by rfl) ?_
          show zH n (0, 0) 216 (156, [zR 97, .inl a1, .inl a2, .inl v2, .inl u4, .inl u5, .inl (kS Mo C a1 (Mo 98 4).toNat), zN], [.inl (hf_194_97 M (kS Mo C a1 (Mo 98 4).toNat) 10), .inl (w32 (v2 * (qA Mo (kS Mo C a1 (Mo 98 4).toNat) 9)))]) M _
          rw [hact_same e98 (by omega) (by decide)]
          refine zH_idiv hz rfl (fun hdv156 => ?_)
          show zH n (0, 0) 216 (157, [zR 97, .inl a1, .inl a2, .inl v2, .inl u4, .inl u5, .inl (kS Mo C a1 (Mo 98 4).toNat), zN], [.inl (w32 ((w32 (v2 * (qA Mo (kS Mo C a1 (Mo 98 4).toNat) 9))).tdiv (qA Mo (kS Mo C a1 (Mo 98 4).toNat) 10)))]) M _
          refine zH_wE (c1 := (165, [zR 97, .inl a1, .inl a2, .inl v2, .inl u4, .inl u5, .inl (kS Mo C a1 (Mo 98 4).toNat), zN], [.inl (w32 ((w32 (v2 * (qA Mo (kS Mo C a1 (Mo 98 4).toNat) 9))).tdiv (qA Mo (kS Mo C a1 (Mo 98 4).toNat) 10)))])) 3 hz zp_194 (fh_194_97 (kS Mo C a1 (Mo 98 4).toNat) 11) (by rfl) ?_
          show zH n (0, 0) 216 (165, [zR 97, .inl a1, .inl a2, .inl v2, .inl u4, .inl u5, .inl (kS Mo C a1 (Mo 98 4).toNat), zN], [.inl (hf_194_97 M (kS Mo C a1 (Mo 98 4).toNat) 11), .inl (w32 ((w32 (v2 * (qA Mo (kS Mo C a1 (Mo 98 4).toNat) 9))).tdiv (qA Mo (kS Mo C a1 (Mo 98 4).toNat) 10)))]) M _
          rw [hact_same e98 (by omega) (by decide)]
          refine zH_w (c' := (168, [zR 97, .inl a1, .inl a2, .inl (w32 ((w32 ((w32 (v2 * (qA Mo (kS Mo C a1 (Mo 98 4).toNat) 9))).tdiv (qA Mo (kS Mo C a1 (Mo 98 4).toNat) 10))) + (qA Mo (kS Mo C a1 (Mo 98 4).toNat) 11))), .inl u4, .inl u5, .inl (kS Mo C a1 (Mo 98 4).toNat), zN], [.inl (w32 ((w32 ((w32 (v2 * (qA Mo (kS Mo C a1 (Mo 98 4).toNat) 9))).tdiv (qA Mo (kS Mo C a1 (Mo 98 4).toNat) 10))) + (qA Mo (kS Mo C a1 (Mo 98 4).toNat) 11)))])) 3 hz rfl ?_
          refine zH_wf_ge (pc := 168) (n' := 171) (t := 175) (L := [zR 97, .inl a1, .inl a2, .inl (w32 ((w32 ((w32 (v2 * (qA Mo (kS Mo C a1 (Mo 98 4).toNat) 9))).tdiv (qA Mo (kS Mo C a1 (Mo 98 4).toNat) 10))) + (qA Mo (kS Mo C a1 (Mo 98 4).toNat) 11))), .inl u4, .inl u5, .inl (kS Mo C a1 (Mo 98 4).toNat), zN]) (st := []) (x := (w32 ((w32 ((w32 (v2 * (qA Mo (kS Mo C a1 (Mo 98 4).toNat) 9))).tdiv (qA Mo (kS Mo C a1 (Mo 98 4).toNat) 10))) + (qA Mo (kS Mo C a1 (Mo 98 4).toNat) 11)))) 0 hz (by rfl) (fun hb168 => ?_) (fun hb168 => ?_)
          · skip
            refine zH_wi_le (pc := 178) (n' := 181) (t := 186) (L := [zR 97, .inl a1, .inl a2, .inl (w32 ((w32 ((w32 (v2 * (qA Mo (kS Mo C a1 (Mo 98 4).toNat) 9))).tdiv (qA Mo (kS Mo C a1 (Mo 98 4).toNat) 10))) + (qA Mo (kS Mo C a1 (Mo 98 4).toNat) 11))), .inl u4, .inl u5, .inl (kS Mo C a1 (Mo 98 4).toNat), zN]) (st := []) (x := (w32 ((w32 ((w32 (v2 * (qA Mo (kS Mo C a1 (Mo 98 4).toNat) 9))).tdiv (qA Mo (kS Mo C a1 (Mo 98 4).toNat) 10))) + (qA Mo (kS Mo C a1 (Mo 98 4).toNat) 11)))) (y := 100) 2 hz (by rfl) (fun hb178 => ?_) (fun hb178 => ?_)
            · skip
              refine zH_w (c' := (188, [zR 97, .inl a1, .inl a2, .inl (w32 ((w32 ((w32 (v2 * (qA Mo (kS Mo C a1 (Mo 98 4).toNat) 9))).tdiv (qA Mo (kS Mo C a1 (Mo 98 4).toNat) 10))) + (qA Mo (kS Mo C a1 (Mo 98 4).toNat) 11))), .inl u4, .inl u5, .inl (kS Mo C a1 (Mo 98 4).toNat), zN], [])) 2 hz rfl ?_
              refine lp188 (w32 ((w32 ((w32 (v2 * (qA Mo (kS Mo C a1 (Mo 98 4).toNat) 9))).tdiv (qA Mo (kS Mo C a1 (Mo 98 4).toNat) 10))) + (qA Mo (kS Mo C a1 (Mo 98 4).toNat) 11))) u4 u5 (kS Mo C a1 (Mo 98 4).toNat) ?_
              · unfold kV3
                first
                  | (rw [if_neg (by omega)]; exact h116)
                  | (rw [if_pos (by omega)]; unfold kSc; rw [if_pos hb135]; exact h116)
                  | (rw [if_pos (by omega), ← h116]; unfold kSc; rw [if_neg hb135]; unfold kCl; (repeat' split) <;> omega)
            · skip
              refine zH_w (c' := (188, [zR 97, .inl a1, .inl a2, .inl 100, .inl u4, .inl u5, .inl (kS Mo C a1 (Mo 98 4).toNat), zN], [])) 3 hz rfl ?_
              refine lp188 100 u4 u5 (kS Mo C a1 (Mo 98 4).toNat) ?_
              · unfold kV3
                first
                  | (rw [if_neg (by omega)]; exact h116)
                  | (rw [if_pos (by omega)]; unfold kSc; rw [if_pos hb135]; exact h116)
                  | (rw [if_pos (by omega), ← h116]; unfold kSc; rw [if_neg hb135]; unfold kCl; (repeat' split) <;> omega)
          · skip
            refine zH_w (c' := (188, [zR 97, .inl a1, .inl a2, .inl 0, .inl u4, .inl u5, .inl (kS Mo C a1 (Mo 98 4).toNat), zN], [])) 3 hz rfl ?_
            refine lp188 0 u4 u5 (kS Mo C a1 (Mo 98 4).toNat) ?_
            · unfold kV3
              first
                | (rw [if_neg (by omega)]; exact h116)
                | (rw [if_pos (by omega)]; unfold kSc; rw [if_pos hb135]; exact h116)
                | (rw [if_pos (by omega), ← h116]; unfold kSc; rw [if_neg hb135]; unfold kCl; (repeat' split) <;> omega)
    refine zH_w (c' := (82, [zR 97, .inl a1, .inl a2, .inl v1, .inl u4, u5, u6, zN], [.inl 1, .inl a2])) 2 hz rfl ?_
    refine zH_wi_le (pc := 82) (n' := 85) (t := 94) (L := [zR 97, .inl a1, .inl a2, .inl v1, .inl u4, u5, u6, zN]) (st := []) (x := a2) (y := 1) 0 hz (by rfl) (fun hb82 => ?_) (fun hb82 => ?_)
    · skip
      refine zH_w (c' := (116, [zR 97, .inl a1, .inl a2, .inl v1, .inl u4, .inl (-1), u6, zN], [])) 8 hz rfl ?_
      refine lp116 v1 u4 (-1) u6 ?_
      · unfold kV2; first | (rw [if_neg (by omega)]; exact h80) | rw [if_pos (by omega)]
    · skip
      refine zH_wE (c1 := (91, [zR 97, .inl a1, .inl a2, .inl v1, .inl u4, u5, u6, zN], [])) 3 hz zp_213 (fh_213 hC e98 hK 2 a1 h2) (by rfl) ?_
      show zH n (0, 0) 216 (91, [zR 97, .inl a1, .inl a2, .inl v1, .inl u4, u5, u6, zN], [.inl (kL Mo C 2 a1 (Mo 98 4).toNat)]) M _
      refine zH_wi_ne (pc := 100) (n' := 103) (t := 107) (L := [zR 97, .inl a1, .inl a2, .inl v1, .inl u4, .inl (kL Mo C 2 a1 (Mo 98 4).toNat), u6, zN]) (st := []) (x := (kL Mo C 2 a1 (Mo 98 4).toNat)) (y := (-1)) 4 hz (by rfl) (fun hb100 => ?_) (fun hb100 => ?_)
      · skip
        refine zH_wE (c1 := (115, [zR 97, .inl a1, .inl a2, .inl v1, .inl u4, .inl (kL Mo C 2 a1 (Mo 98 4).toNat), u6, zN], [])) 3 hz zp_194 (fh_194_97 (kL Mo C 2 a1 (Mo 98 4).toNat) 7) (by rfl) ?_
        show zH n (0, 0) 216 (115, [zR 97, .inl a1, .inl a2, .inl v1, .inl u4, .inl (kL Mo C 2 a1 (Mo 98 4).toNat), u6, zN], [.inl (hf_194_97 M (kL Mo C 2 a1 (Mo 98 4).toNat) 7)]) M _
        rw [hact_same e98 (by omega) (by decide)]
        refine zH_w (c' := (116, [zR 97, .inl a1, .inl a2, .inl (qA Mo (kL Mo C 2 a1 (Mo 98 4).toNat) 7), .inl u4, .inl (kL Mo C 2 a1 (Mo 98 4).toNat), u6, zN], [])) 1 hz rfl ?_
        refine lp116 (qA Mo (kL Mo C 2 a1 (Mo 98 4).toNat) 7) u4 (kL Mo C 2 a1 (Mo 98 4).toNat) u6 ?_
        · unfold kV2; first | (rw [if_neg (by omega)]; exact h80) | rw [if_pos (by omega)]
      · skip
        refine zH_w (c' := (116, [zR 97, .inl a1, .inl a2, .inl v1, .inl u4, .inl (kL Mo C 2 a1 (Mo 98 4).toNat), u6, zN], [])) 3 hz rfl ?_
        refine lp116 v1 u4 (kL Mo C 2 a1 (Mo 98 4).toNat) u6 ?_
        · unfold kV2; first | (rw [if_neg (by omega)]; exact h80) | rw [if_pos (by omega)]
  refine zH_wf_le (pc := 9) (n' := 12) (t := 21) (L := [zR 97, .inl a1, .inl a2, .inl (qA Mo a1 7), zN, zN, zN, zN]) (st := []) (x := a2) 1 hz (by rfl) (fun hb9 => ?_) (fun hb9 => ?_)
  · skip
    refine zH_w (c' := (80, [zR 97, .inl a1, .inl a2, .inl (qA Mo a1 7), .inl (-1), zN, zN, zN], [])) 5 hz rfl ?_
    refine lp80 (qA Mo a1 7) (-1) zN zN ?_
    · unfold kV1
      first
        | rw [if_neg (by omega)]
        | (rw [if_pos (by omega)]; unfold kB hf_53; rw [w32_id (x := qA Mo a1 7 - qA Mo (kL Mo C 1 a1 (Mo 98 4).toNat) 7) (by omega), w32_id (x := 0 - (qA Mo a1 7 - qA Mo (kL Mo C 1 a1 (Mo 98 4).toNat) 7)) (by omega)]; (repeat' split) <;> first | rfl | omega)
  · skip
    refine zH_wE (c1 := (18, [zR 97, .inl a1, .inl a2, .inl (qA Mo a1 7), zN, zN, zN, zN], [])) 3 hz zp_213 (fh_213 hC e98 hK 1 a1 h2) (by rfl) ?_
    show zH n (0, 0) 216 (18, [zR 97, .inl a1, .inl a2, .inl (qA Mo a1 7), zN, zN, zN, zN], [.inl (kL Mo C 1 a1 (Mo 98 4).toNat)]) M _
    refine zH_wi_eq (pc := 27) (n' := 30) (t := 80) (L := [zR 97, .inl a1, .inl a2, .inl (qA Mo a1 7), .inl (kL Mo C 1 a1 (Mo 98 4).toNat), zN, zN, zN]) (st := []) (x := (kL Mo C 1 a1 (Mo 98 4).toNat)) (y := (-1)) 4 hz (by rfl) (fun hb27 => ?_) (fun hb27 => ?_)
    · skip
      refine lp80 (qA Mo a1 7) (kL Mo C 1 a1 (Mo 98 4).toNat) zN zN ?_
      · unfold kV1
        first
          | rw [if_neg (by omega)]
          | (rw [if_pos (by omega)]; unfold kB hf_53; rw [w32_id (x := qA Mo a1 7 - qA Mo (kL Mo C 1 a1 (Mo 98 4).toNat) 7) (by omega), w32_id (x := 0 - (qA Mo a1 7 - qA Mo (kL Mo C 1 a1 (Mo 98 4).toNat) 7)) (by omega)]; (repeat' split) <;> first | rfl | omega)
    · skip
      have gw := hR (kL Mo C 1 a1 (Mo 98 4).toNat) (by omega)
      refine zH_wE (c1 := (38, [zR 97, .inl a1, .inl a2, .inl (qA Mo a1 7), .inl (kL Mo C 1 a1 (Mo 98 4).toNat), zN, zN, zN], [])) 3 hz zp_194 (fh_194_97 (kL Mo C 1 a1 (Mo 98 4).toNat) 7) (by rfl) ?_
      show zH n (0, 0) 216 (38, [zR 97, .inl a1, .inl a2, .inl (qA Mo a1 7), .inl (kL Mo C 1 a1 (Mo 98 4).toNat), zN, zN, zN], [.inl (hf_194_97 M (kL Mo C 1 a1 (Mo 98 4).toNat) 7)]) M _
      rw [hact_same e98 (by omega) (by decide)]
      refine zH_w (c' := (43, [zR 97, .inl a1, .inl a2, .inl (qA Mo a1 7), .inl (kL Mo C 1 a1 (Mo 98 4).toNat), .inl (qA Mo (kL Mo C 1 a1 (Mo 98 4).toNat) 7), zN, zN], [.inl (qA Mo (kL Mo C 1 a1 (Mo 98 4).toNat) 7), .inl (qA Mo a1 7)])) 3 hz rfl ?_
      refine zH_wi_ge (pc := 43) (n' := 46) (t := 50) (L := [zR 97, .inl a1, .inl a2, .inl (qA Mo a1 7), .inl (kL Mo C 1 a1 (Mo 98 4).toNat), .inl (qA Mo (kL Mo C 1 a1 (Mo 98 4).toNat) 7), zN, zN]) (st := []) (x := (qA Mo a1 7)) (y := (qA Mo (kL Mo C 1 a1 (Mo 98 4).toNat) 7)) 0 hz (by rfl) (fun hb43 => ?_) (fun hb43 => ?_)
      · skip
        refine zH_wE (c1 := (65, [zR 97, .inl a1, .inl a2, .inl (qA Mo a1 7), .inl (kL Mo C 1 a1 (Mo 98 4).toNat), .inl (qA Mo (kL Mo C 1 a1 (Mo 98 4).toNat) 7), .inl (qA Mo (kL Mo C 1 a1 (Mo 98 4).toNat) 7), zN], [])) 7 hz zp_180 (fh_180 (w32 ((qA Mo a1 7) - (qA Mo (kL Mo C 1 a1 (Mo 98 4).toNat) 7))) (-10) 10) (by rfl) ?_
        show zH n (0, 0) 216 (65, [zR 97, .inl a1, .inl a2, .inl (qA Mo a1 7), .inl (kL Mo C 1 a1 (Mo 98 4).toNat), .inl (qA Mo (kL Mo C 1 a1 (Mo 98 4).toNat) 7), .inl (qA Mo (kL Mo C 1 a1 (Mo 98 4).toNat) 7), zN], [.inl (hf_180 M (w32 ((qA Mo a1 7) - (qA Mo (kL Mo C 1 a1 (Mo 98 4).toNat) 7))) (-10) 10)]) M _
        obtain ⟨x1, hx1⟩ : ∃ x : Int, x = (hf_180 M (w32 ((qA Mo a1 7) - (qA Mo (kL Mo C 1 a1 (Mo 98 4).toNat) 7))) (-10) 10) := ⟨_, rfl⟩
        rw [← hx1]
        refine zH_if_eq hz rfl (fun hb65 => ?_) (fun hb65 => ?_)
        · skip
          rw [hx1, hq_180, w32_id (by omega)] at hb65
          refine zH_w (c' := (80, [zR 97, .inl a1, .inl a2, .inl (qA Mo (kL Mo C 1 a1 (Mo 98 4).toNat) 7), .inl (kL Mo C 1 a1 (Mo 98 4).toNat), .inl (qA Mo (kL Mo C 1 a1 (Mo 98 4).toNat) 7), .inl (qA Mo (kL Mo C 1 a1 (Mo 98 4).toNat) 7), zN], [])) 2 hz rfl ?_
          refine lp80 (qA Mo (kL Mo C 1 a1 (Mo 98 4).toNat) 7) (kL Mo C 1 a1 (Mo 98 4).toNat) (.inl (qA Mo (kL Mo C 1 a1 (Mo 98 4).toNat) 7)) (.inl (qA Mo (kL Mo C 1 a1 (Mo 98 4).toNat) 7)) ?_
          · unfold kV1
            first
              | rw [if_neg (by omega)]
              | (rw [if_pos (by omega)]; unfold kB hf_53; rw [w32_id (x := qA Mo a1 7 - qA Mo (kL Mo C 1 a1 (Mo 98 4).toNat) 7) (by omega), w32_id (x := 0 - (qA Mo a1 7 - qA Mo (kL Mo C 1 a1 (Mo 98 4).toNat) 7)) (by omega)]; (repeat' split) <;> first | rfl | omega)
        · skip
          rw [hx1, hq_180, w32_id (by omega)] at hb65
          refine zH_w (c' := (73, [zR 97, .inl a1, .inl a2, .inl (qA Mo a1 7), .inl (kL Mo C 1 a1 (Mo 98 4).toNat), .inl (qA Mo (kL Mo C 1 a1 (Mo 98 4).toNat) 7), .inl (qA Mo (kL Mo C 1 a1 (Mo 98 4).toNat) 7), zN], [.inl 2, .inl (w32 ((qA Mo a1 7) + (qA Mo (kL Mo C 1 a1 (Mo 98 4).toNat) 7)))])) 4 hz rfl ?_
          refine zH_idiv hz rfl (fun hdv73 => ?_)
          show zH n (0, 0) 216 (74, [zR 97, .inl a1, .inl a2, .inl (qA Mo a1 7), .inl (kL Mo C 1 a1 (Mo 98 4).toNat), .inl (qA Mo (kL Mo C 1 a1 (Mo 98 4).toNat) 7), .inl (qA Mo (kL Mo C 1 a1 (Mo 98 4).toNat) 7), zN], [.inl (w32 ((w32 ((qA Mo a1 7) + (qA Mo (kL Mo C 1 a1 (Mo 98 4).toNat) 7))).tdiv 2))]) M _
          refine zH_w (c' := (80, [zR 97, .inl a1, .inl a2, .inl (w32 ((w32 ((qA Mo a1 7) + (qA Mo (kL Mo C 1 a1 (Mo 98 4).toNat) 7))).tdiv 2)), .inl (kL Mo C 1 a1 (Mo 98 4).toNat), .inl (qA Mo (kL Mo C 1 a1 (Mo 98 4).toNat) 7), .inl (qA Mo (kL Mo C 1 a1 (Mo 98 4).toNat) 7), zN], [])) 2 hz rfl ?_
          refine lp80 (w32 ((w32 ((qA Mo a1 7) + (qA Mo (kL Mo C 1 a1 (Mo 98 4).toNat) 7))).tdiv 2)) (kL Mo C 1 a1 (Mo 98 4).toNat) (.inl (qA Mo (kL Mo C 1 a1 (Mo 98 4).toNat) 7)) (.inl (qA Mo (kL Mo C 1 a1 (Mo 98 4).toNat) 7)) ?_
          · unfold kV1
            first
              | rw [if_neg (by omega)]
              | (rw [if_pos (by omega)]; unfold kB hf_53; rw [w32_id (x := qA Mo a1 7 - qA Mo (kL Mo C 1 a1 (Mo 98 4).toNat) 7) (by omega), w32_id (x := 0 - (qA Mo a1 7 - qA Mo (kL Mo C 1 a1 (Mo 98 4).toNat) 7)) (by omega)]; (repeat' split) <;> first | rfl | omega)
      · skip
        refine zH_wE (c1 := (65, [zR 97, .inl a1, .inl a2, .inl (qA Mo a1 7), .inl (kL Mo C 1 a1 (Mo 98 4).toNat), .inl (qA Mo (kL Mo C 1 a1 (Mo 98 4).toNat) 7), .inl (qA Mo a1 7), zN], [])) 8 hz zp_180 (fh_180 (w32 ((qA Mo a1 7) - (qA Mo (kL Mo C 1 a1 (Mo 98 4).toNat) 7))) (-10) 10) (by rfl) ?_
        show zH n (0, 0) 216 (65, [zR 97, .inl a1, .inl a2, .inl (qA Mo a1 7), .inl (kL Mo C 1 a1 (Mo 98 4).toNat), .inl (qA Mo (kL Mo C 1 a1 (Mo 98 4).toNat) 7), .inl (qA Mo a1 7), zN], [.inl (hf_180 M (w32 ((qA Mo a1 7) - (qA Mo (kL Mo C 1 a1 (Mo 98 4).toNat) 7))) (-10) 10)]) M _
        obtain ⟨x1, hx1⟩ : ∃ x : Int, x = (hf_180 M (w32 ((qA Mo a1 7) - (qA Mo (kL Mo C 1 a1 (Mo 98 4).toNat) 7))) (-10) 10) := ⟨_, rfl⟩
        rw [← hx1]
        refine zH_if_eq hz rfl (fun hb65 => ?_) (fun hb65 => ?_)
        · skip
          rw [hx1, hq_180, w32_id (by omega)] at hb65
          refine zH_w (c' := (80, [zR 97, .inl a1, .inl a2, .inl (qA Mo a1 7), .inl (kL Mo C 1 a1 (Mo 98 4).toNat), .inl (qA Mo (kL Mo C 1 a1 (Mo 98 4).toNat) 7), .inl (qA Mo a1 7), zN], [])) 2 hz rfl ?_
          refine lp80 (qA Mo a1 7) (kL Mo C 1 a1 (Mo 98 4).toNat) (.inl (qA Mo (kL Mo C 1 a1 (Mo 98 4).toNat) 7)) (.inl (qA Mo a1 7)) ?_
          · unfold kV1
            first
              | rw [if_neg (by omega)]
              | (rw [if_pos (by omega)]; unfold kB hf_53; rw [w32_id (x := qA Mo a1 7 - qA Mo (kL Mo C 1 a1 (Mo 98 4).toNat) 7) (by omega), w32_id (x := 0 - (qA Mo a1 7 - qA Mo (kL Mo C 1 a1 (Mo 98 4).toNat) 7)) (by omega)]; (repeat' split) <;> first | rfl | omega)
        · skip
          rw [hx1, hq_180, w32_id (by omega)] at hb65
          refine zH_w (c' := (73, [zR 97, .inl a1, .inl a2, .inl (qA Mo a1 7), .inl (kL Mo C 1 a1 (Mo 98 4).toNat), .inl (qA Mo (kL Mo C 1 a1 (Mo 98 4).toNat) 7), .inl (qA Mo a1 7), zN], [.inl 2, .inl (w32 ((qA Mo a1 7) + (qA Mo (kL Mo C 1 a1 (Mo 98 4).toNat) 7)))])) 4 hz rfl ?_
          refine zH_idiv hz rfl (fun hdv73 => ?_)
          show zH n (0, 0) 216 (74, [zR 97, .inl a1, .inl a2, .inl (qA Mo a1 7), .inl (kL Mo C 1 a1 (Mo 98 4).toNat), .inl (qA Mo (kL Mo C 1 a1 (Mo 98 4).toNat) 7), .inl (qA Mo a1 7), zN], [.inl (w32 ((w32 ((qA Mo a1 7) + (qA Mo (kL Mo C 1 a1 (Mo 98 4).toNat) 7))).tdiv 2))]) M _
          refine zH_w (c' := (80, [zR 97, .inl a1, .inl a2, .inl (w32 ((w32 ((qA Mo a1 7) + (qA Mo (kL Mo C 1 a1 (Mo 98 4).toNat) 7))).tdiv 2)), .inl (kL Mo C 1 a1 (Mo 98 4).toNat), .inl (qA Mo (kL Mo C 1 a1 (Mo 98 4).toNat) 7), .inl (qA Mo a1 7), zN], [])) 2 hz rfl ?_
          refine lp80 (w32 ((w32 ((qA Mo a1 7) + (qA Mo (kL Mo C 1 a1 (Mo 98 4).toNat) 7))).tdiv 2)) (kL Mo C 1 a1 (Mo 98 4).toNat) (.inl (qA Mo (kL Mo C 1 a1 (Mo 98 4).toNat) 7)) (.inl (qA Mo a1 7)) ?_
          · unfold kV1
            first
              | rw [if_neg (by omega)]
              | (rw [if_pos (by omega)]; unfold kB hf_53; rw [w32_id (x := qA Mo a1 7 - qA Mo (kL Mo C 1 a1 (Mo 98 4).toNat) 7) (by omega), w32_id (x := 0 - (qA Mo a1 7 - qA Mo (kL Mo C 1 a1 (Mo 98 4).toNat) 7)) (by omega)]; (repeat' split) <;> first | rfl | omega)
