/-! THE COURSES OF A STUDENT: THE MODEL -/
noncomputable def kI (Mo : zM) (C : Nat → Bool) (s : Int) (n : Nat) (M : zM) : Prop := ∀ c : Nat, c < 14 → M 102 c = kZ Mo C (Mo 98 4).toNat (s * 14 + (c : Int)) n ∧ M 103 c = kT Mo C (s * 14 + (c : Int)) n ∧ M 104 c = kX Mo C (s * 14 + (c : Int)) n
section KI
variable {Mo M M0 : zM} {C : Nat → Bool} {s : Int} {n x : Nat}
theorem kI_no (h : kI Mo C s n M) (no0 : ¬ (C n = true ∧ qA Mo (n : Int) 0 = 0 ∧ qA Mo (n : Int) 4 = s)) (no4 : ¬ (C n = true ∧ qA Mo (n : Int) 0 = 4 ∧ qA Mo (n : Int) 4 = s)) (hr : (qA Mo (n : Int) 0 = 0 ∨ qA Mo (n : Int) 0 = 4) → 0 ≤ qA Mo (n : Int) 5 ∧ qA Mo (n : Int) 5 ≤ 13) : kI Mo C s (n + 1) M := fun c hc => by
  have a : ¬ (C n = true ∧ qA Mo (n : Int) 0 = 0 ∧ kR Mo (n : Int) = s * 14 + (c : Int)) := fun e => no0 ⟨e.1, e.2.1, by have h5 := hr (.inl e.2.1); have e3 := e.2.2; unfold kR at e3; omega⟩
  have b : ¬ (C n = true ∧ qA Mo (n : Int) 0 = 4 ∧ kR Mo (n : Int) = s * 14 + (c : Int)) := fun e => no4 ⟨e.1, e.2.1, by have h5 := hr (.inr e.2.1); have e3 := e.2.2; unfold kR at e3; omega⟩
  rw [kZ_s, kT_s, kX_s, if_neg a, if_neg a, if_neg b]
  exact h c hc
theorem kI_m (h : kI Mo C s n M0) (hC : C n = true) (h0 : qA Mo (n : Int) 0 = 0) (h4 : qA Mo (n : Int) 4 = s) (hx : (x : Int) = qA Mo (n : Int) 5) {v : Int} (hv : v = if M0 102 x < kV4 Mo C (Mo 98 4).toNat (n : Int) 4 then kV4 Mo C (Mo 98 4).toNat (n : Int) 4 else M0 102 x) (e : M = zput (zput M0 102 x v) 103 x (M0 103 x + 1)) (h5 : qA Mo (n : Int) 5 ≤ 13) : kI Mo C s (n + 1) M := fun c hc => by
  have q := h c hc
  have e2 : M 102 = hup (M0 102) x v := by rw [e, zput_oth (by decide), zput_same]
  have e3 : M 103 = hup (M0 103) x (M0 103 x + 1) := by rw [e, zput_same, zput_oth (show (103 : Nat) ≠ 102 by decide)]
  have e4 : M 104 = M0 104 := by rw [e, zput_oth (show (104 : Nat) ≠ 103 by decide), zput_oth (show (104 : Nat) ≠ 102 by decide)]
  have b : ¬ (C n = true ∧ qA Mo (n : Int) 0 = 4 ∧ kR Mo (n : Int) = s * 14 + (c : Int)) := fun z => by have := z.2.1; omega
  rw [e2, e3, e4, kZ_s, kT_s, kX_s, if_neg b]
  by_cases k : c = x
  · have a : C n = true ∧ qA Mo (n : Int) 0 = 0 ∧ kR Mo (n : Int) = s * 14 + (c : Int) := ⟨hC, h0, by unfold kR; omega⟩
    rw [if_pos a, if_pos a]
    subst k
    rw [hup_eq, hup_eq, hv, q.1, q.2.1]
    exact ⟨rfl, rfl, q.2.2⟩
  · have a : ¬ (C n = true ∧ qA Mo (n : Int) 0 = 0 ∧ kR Mo (n : Int) = s * 14 + (c : Int)) := fun z => k (by have := z.2.2; unfold kR at this; omega)
    rw [if_neg a, if_neg a, hup_ne k, hup_ne k]
    exact q
theorem kI_x (h : kI Mo C s n M0) (hC : C n = true) (h0 : qA Mo (n : Int) 0 = 4) (h4 : qA Mo (n : Int) 4 = s) (hx : (x : Int) = qA Mo (n : Int) 5) (e : M = zput M0 104 x 1) (h5 : qA Mo (n : Int) 5 ≤ 13) : kI Mo C s (n + 1) M := fun c hc => by
  have q := h c hc
  have e2 : M 102 = M0 102 := by rw [e, zput_oth (by decide)]
  have e3 : M 103 = M0 103 := by rw [e, zput_oth (by decide)]
  have e4 : M 104 = hup (M0 104) x 1 := by rw [e, zput_same]
  have b : ¬ (C n = true ∧ qA Mo (n : Int) 0 = 0 ∧ kR Mo (n : Int) = s * 14 + (c : Int)) := fun z => by have := z.2.1; omega
  rw [e2, e3, e4, kZ_s, kT_s, kX_s, if_neg b, if_neg b]
  refine ⟨q.1, q.2.1, ?_⟩
  by_cases k : c = x
  · rw [if_pos ⟨hC, h0, by unfold kR; omega⟩]
    subst k
    exact hup_eq
  · rw [if_neg (fun z => k (by have := z.2.2; unfold kR at this; omega)), hup_ne k]
    exact q.2.2
end KI
set_option maxRecDepth 100000 in
theorem fh_218 {n : Nat} {M : zM} {Mo : zM} (hC : qMI Mo) (e98 : M 98 = Mo 98) {C : Nat → Bool} (hK : ∀ a : Nat, (a : Int) < Mo 98 4 → M 101 a = if C a = true then 1 else 0) (hR : ∀ a : Int, 0 ≤ a ∧ a < 250 → -1 ≤ qA Mo a 7 ∧ qA Mo a 7 ≤ 100) (a1 : Int) (h1 : 0 ≤ a1 ∧ a1 < Mo 98 1) : zH n (0, 0) 218 (0, zini [zR 97, .inl a1] 5, []) M (fun r M' => r = none ∧ (∀ r, r ≠ 102 → r ≠ 103 → r ≠ 104 → M' r = M r) ∧ ∀ c : Nat, c < 14 → M' 102 c = kZ Mo C (Mo 98 4).toNat (a1 * 14 + (c : Int)) (Mo 98 4).toNat ∧ M' 103 c = kT Mo C (a1 * 14 + (c : Int)) (Mo 98 4).toNat ∧ M' 104 c = kX Mo C (a1 * 14 + (c : Int)) (Mo 98 4).toNat) := by
  have hz := zp_218
  show zH n (0, 0) 218 (0, [zR 97, .inl a1, zN, zN, zN], []) M _
  have hn := hC.cnt4
  have hn1 := hC.cnt1
  refine zH_w (c' := (2, [zR 97, .inl a1, .inl 0, zN, zN], [])) 2 hz rfl ?_
  have lp2 : ∀ (N : Nat) (c : Int) (M5 : zM), ((14 - c).toNat) < N → (0 ≤ c ∧ c ≤ 14) → (∀ r, r ≠ 102 → r ≠ 103 → r ≠ 104 → M5 r = M r) → (∀ j : Nat, (j : Int) < c → M5 102 j = -1 ∧ M5 103 j = 0 ∧ M5 104 j = 0) → zH n (0, 0) 218 (2, [zR 97, .inl a1, .inl c, zN, zN], []) M5 (fun r M' => r = none ∧ (∀ r, r ≠ 102 → r ≠ 103 → r ≠ 104 → M' r = M r) ∧ ∀ c : Nat, c < 14 → M' 102 c = kZ Mo C (Mo 98 4).toNat (a1 * 14 + (c : Int)) (Mo 98 4).toNat ∧ M' 103 c = kT Mo C (a1 * 14 + (c : Int)) (Mo 98 4).toNat ∧ M' 104 c = kX Mo C (a1 * 14 + (c : Int)) (Mo 98 4).toNat) := by
    intro N
    induction N with
    | zero => intro c M5 hN; exact absurd hN (Nat.not_lt_zero _)
    | succ N ih2 =>
      intro c M5 hN hi hO hT
      refine zH_w (c' := (5, [zR 97, .inl a1, .inl c, zN, zN], [.inl 14, .inl c])) 2 hz rfl ?_
      refine zH_wi_ge (pc := 5) (n' := 8) (t := 35) (L := [zR 97, .inl a1, .inl c, zN, zN]) (st := []) (x := c) (y := 14) 0 hz (by rfl) (fun hb5 => ?_) (fun hb5 => ?_)
      · skip
        refine zH_w (c' := (37, [zR 97, .inl a1, .inl 0, zN, zN], [])) 2 hz rfl ?_
        have lp37 : ∀ (N : Nat) (i : Int) (u3 : zV) (u4 : zV) (M6 : zM), ((250 - i).toNat) < N → (0 ≤ i ∧ i ≤ Mo 98 4) → (∀ r, r ≠ 102 → r ≠ 103 → r ≠ 104 → M6 r = M r) → (kI Mo C a1 i.toNat M6) → zH n (0, 0) 218 (37, [zR 97, .inl a1, .inl i, u3, u4], []) M6 (fun r M' => r = none ∧ (∀ r, r ≠ 102 → r ≠ 103 → r ≠ 104 → M' r = M r) ∧ ∀ c : Nat, c < 14 → M' 102 c = kZ Mo C (Mo 98 4).toNat (a1 * 14 + (c : Int)) (Mo 98 4).toNat ∧ M' 103 c = kT Mo C (a1 * 14 + (c : Int)) (Mo 98 4).toNat ∧ M' 104 c = kX Mo C (a1 * 14 + (c : Int)) (Mo 98 4).toNat) := by
          intro N
          induction N with
          | zero => intro i u3 u4 M6 hN; exact absurd hN (Nat.not_lt_zero _)
          | succ N ih37 =>
            intro i u3 u4 M6 hN hi2 hO6 hT6
            refine zH_w (c' := (42, [zR 97, .inl a1, .inl i, u3, u4], [zR 98, .inl i])) 3 hz rfl ?_
            have f98 : M6 98 = Mo 98 := (hO6 98 (by decide) (by decide) (by decide)).trans e98
            refine zH_w (c' := (43, [zR 97, .inl a1, .inl i, u3, u4], [.inl 4, zR 98, .inl i])) 1 hz rfl ?_
            refine zH_iald hz rfl rfl (.inl rfl) (fun hin43 => ?_)
            show zH n (0, 0) 218 (44, [zR 97, .inl a1, .inl i, u3, u4], [.inl (M6 98 (4 : Int).toNat), .inl i]) M6 _
            rw [show M6 98 (4 : Int).toNat = Mo 98 4 from congrFun f98 4]
            refine zH_icmp_ge hz rfl (fun hb44 => ?_) (fun hb44 => ?_)
            · skip
              exact zH_ret hz rfl rfl (⟨rfl, hO6, fun c hc => by have q := hT6 c hc; rw [show i.toNat = (Mo 98 4).toNat by omega] at q; exact q⟩)
            · skip
              have ei : ((i.toNat : Nat) : Int) = i := by omega
              have hv : ∀ b : Int, 0 ≤ b ∧ b < 12 → hf_194_97 M6 i b = qA Mo i b := fun b hb => hact_same f98 (by omega) hb
              have hrw : (qA Mo i 0 = 0 ∨ qA Mo i 0 = 4) → 0 ≤ qA Mo i 5 ∧ qA Mo i 5 ≤ 13 := fun q => by
                have hac := (hC.act i (by omega)).2.2.1
                have hrl := hC.rel i hi2.1 (by omega)
                rcases q with q | q
                · have h9 := hrl.2.2.2.2.1 q; omega
                · have h9 := hrl.2.2.2.2.2.1 q; omega
              have hK6 : M6 101 i.toNat = if C i.toNat = true then 1 else 0 := by rw [hO6 101 (by decide) (by decide) (by decide)]; exact hK i.toNat (by omega)
              have lp172 : ∀ (u3b : zV) (u4b : zV) (M9 : zM), (∀ r, r ≠ 102 → r ≠ 103 → r ≠ 104 → M9 r = M r) → (kI Mo C a1 (i.toNat + 1) M9) → zH n (0, 0) 218 (172, [zR 97, .inl a1, .inl i, u3b, u4b], []) M9 (fun r M' => r = none ∧ (∀ r, r ≠ 102 → r ≠ 103 → r ≠ 104 → M' r = M r) ∧ ∀ c : Nat, c < 14 → M' 102 c = kZ Mo C (Mo 98 4).toNat (a1 * 14 + (c : Int)) (Mo 98 4).toNat ∧ M' 103 c = kT Mo C (a1 * 14 + (c : Int)) (Mo 98 4).toNat ∧ M' 104 c = kX Mo C (a1 * 14 + (c : Int)) (Mo 98 4).toNat) := by
                intro u3b u4b M9 hOk hBk
                refine zH_w (c' := (37, [zR 97, .inl a1, .inl (i + 1), u3b, u4b], [])) 2 hz (by rw [show (.inl (i + 1) : zV) = .inl (w32 (i + 1)) from by rw [w32_id (by omega)]]; rfl) ?_
                refine ih37 (i + 1) u3b u4b M9 (by omega) ?_ ?_ ?_
                · omega
                · exact hOk
                · rw [show (i + 1).toNat = i.toNat + 1 by omega]; exact hBk
              have lp131 : (¬ (C i.toNat = true ∧ qA Mo i 0 = 0 ∧ qA Mo i 4 = a1)) → zH n (0, 0) 218 (131, [zR 97, .inl a1, .inl i, u3, u4], []) M6 (fun r M' => r = none ∧ (∀ r, r ≠ 102 → r ≠ 103 → r ≠ 104 → M' r = M r) ∧ ∀ c : Nat, c < 14 → M' 102 c = kZ Mo C (Mo 98 4).toNat (a1 * 14 + (c : Int)) (Mo 98 4).toNat ∧ M' 103 c = kT Mo C (a1 * 14 + (c : Int)) (Mo 98 4).toNat ∧ M' 104 c = kX Mo C (a1 * 14 + (c : Int)) (Mo 98 4).toNat) := by
                intro  hno0
                refine zH_w (c' := (136, [zR 97, .inl a1, .inl i, u3, u4], [.inl i, zR 101])) 3 hz rfl ?_
                refine zH_bald hz rfl rfl (.inl rfl) (fun hin136 => ?_)
                show zH n (0, 0) 218 (137, [zR 97, .inl a1, .inl i, u3, u4], [.inl (M6 101 (i : Int).toNat)]) M6 _
                rw [hK6]
                obtain ⟨y2, hy2⟩ : ∃ x : Int, x = (if C i.toNat = true then 1 else 0) := ⟨_, rfl⟩
                rw [← hy2]
                refine zH_if_eq hz rfl (fun hb137 => ?_) (fun hb137 => ?_)
                · skip
                  have hct : ¬ C i.toNat = true := fun h => by rw [if_pos h] at hy2; omega
                  have hno4 : ¬ (C i.toNat = true ∧ qA Mo i 0 = 4 ∧ qA Mo i 4 = a1) := fun q => hct q.1
                  have hBk9 := kI_no hT6 (by rw [ei]; exact hno0) (by rw [ei]; exact hno4) (by rw [ei]; exact hrw)
                  have hOk9 := hO6
                  refine lp172 u3 u4 M6 ?_ ?_
                  · exact hOk9
                  · exact hBk9
                · skip
                  have hct : C i.toNat = true := by by_cases hq : C i.toNat = true; exact hq; rw [if_neg hq] at hy2; exact absurd hy2 hb137
                  refine zH_w (c' := (143, [zR 97, .inl a1, .inl i, u3, u4], [.inl 4, .inl i, zR 97])) 3 hz rfl ?_
                  refine zH_wE (c1 := (146, [zR 97, .inl a1, .inl i, u3, u4], [])) 0 hz zp_194 (fh_194_97 i 4) (by rfl) ?_
                  show zH n (0, 0) 218 (146, [zR 97, .inl a1, .inl i, u3, u4], [.inl (hf_194_97 M6 i 4)]) M6 _
                  rw [hv 4 (by decide)]
                  refine zH_w (c' := (147, [zR 97, .inl a1, .inl i, u3, u4], [.inl a1, .inl (qA Mo i 4)])) 1 hz rfl ?_
                  refine zH_wi_ne (pc := 147) (n' := 150) (t := 172) (L := [zR 97, .inl a1, .inl i, u3, u4]) (st := []) (x := (qA Mo i 4)) (y := a1) 0 hz (by rfl) (fun hb147 => ?_) (fun hb147 => ?_)
                  · skip
                    have hno4 : ¬ (C i.toNat = true ∧ qA Mo i 0 = 4 ∧ qA Mo i 4 = a1) := fun q => absurd q.2.2 (by omega)
                    have hBk9 := kI_no hT6 (by rw [ei]; exact hno0) (by rw [ei]; exact hno4) (by rw [ei]; exact hrw)
                    have hOk9 := hO6
                    refine lp172 u3 u4 M6 ?_ ?_
                    · exact hOk9
                    · exact hBk9
                  · skip
                    refine zH_wE (c1 := (156, [zR 97, .inl a1, .inl i, u3, u4], [])) 3 hz zp_194 (fh_194_97 i 0) (by rfl) ?_
                    show zH n (0, 0) 218 (156, [zR 97, .inl a1, .inl i, u3, u4], [.inl (hf_194_97 M6 i 0)]) M6 _
                    rw [hv 0 (by decide)]
                    refine zH_w (c' := (157, [zR 97, .inl a1, .inl i, u3, u4], [.inl 4, .inl (qA Mo i 0)])) 1 hz rfl ?_
                    refine zH_wi_ne (pc := 157) (n' := 160) (t := 172) (L := [zR 97, .inl a1, .inl i, u3, u4]) (st := []) (x := (qA Mo i 0)) (y := 4) 0 hz (by rfl) (fun hb157 => ?_) (fun hb157 => ?_)
                    · skip
                      have hno4 : ¬ (C i.toNat = true ∧ qA Mo i 0 = 4 ∧ qA Mo i 4 = a1) := fun q => absurd q.2.1 (by omega)
                      have hBk9 := kI_no hT6 (by rw [ei]; exact hno0) (by rw [ei]; exact hno4) (by rw [ei]; exact hrw)
                      have hOk9 := hO6
                      refine lp172 u3 u4 M6 ?_ ?_
                      · exact hOk9
                      · exact hBk9
                    · skip
                      have hs4 : qA Mo i 0 = 4 := by omega
                      have h5 := hrw (.inr hs4)
                      obtain ⟨x, hx⟩ : ∃ x : Nat, (x : Int) = qA Mo i 5 := ⟨(qA Mo i 5).toNat, by omega⟩
                      have ex : (qA Mo i 5).toNat = x := by omega
                      refine zH_wE (c1 := (170, [zR 97, .inl a1, .inl i, u3, u4], [zR 104])) 5 hz zp_194 (fh_194_97 i 5) (by rfl) ?_
                      show zH n (0, 0) 218 (170, [zR 97, .inl a1, .inl i, u3, u4], [.inl (hf_194_97 M6 i 5), zR 104]) M6 _
                      rw [hv 5 (by decide)]
                      refine zH_w (c' := (171, [zR 97, .inl a1, .inl i, u3, u4], [.inl 1, .inl (qA Mo i 5), zR 104])) 1 hz rfl ?_
                      refine zH_iast hz rfl rfl (fun hin171 => ?_)
                      show zH n (0, 0) 218 (172, [zR 97, .inl a1, .inl i, u3, u4], []) (zput M6 104 ((qA Mo i 5) : Int).toNat 1) _
                      obtain ⟨M8, hM8⟩ : ∃ X : zM, X = zput M6 104 ((qA Mo i 5) : Int).toNat 1 := ⟨_, rfl⟩
                      rw [← hM8]
                      have hBk9 := kI_x (x := x) hT6 hct (by rw [ei]; exact hs4) (by rw [ei]; omega) (by rw [ei]; exact hx) (show M8 = _ by rw [hM8, ex]) (by rw [ei]; omega)
                      have hOk9 : ∀ r, r ≠ 102 → r ≠ 103 → r ≠ 104 → M8 r = M r := fun r q1 q2 q3 => by rw [hM8, zput_oth q3]; exact hO6 r q1 q2 q3
                      refine lp172 u3 u4 M8 ?_ ?_
                      · exact hOk9
                      · exact hBk9
              refine zH_w (c' := (52, [zR 97, .inl a1, .inl i, u3, u4], [.inl i, zR 101])) 3 hz rfl ?_
              refine zH_bald hz rfl rfl (.inl rfl) (fun hin52 => ?_)
              show zH n (0, 0) 218 (53, [zR 97, .inl a1, .inl i, u3, u4], [.inl (M6 101 (i : Int).toNat)]) M6 _
              rw [hK6]
              obtain ⟨y, hy⟩ : ∃ x : Int, x = (if C i.toNat = true then 1 else 0) := ⟨_, rfl⟩
              rw [← hy]
              refine zH_if_eq hz rfl (fun hb53 => ?_) (fun hb53 => ?_)
              · skip
                have hct : ¬ C i.toNat = true := fun h => by rw [if_pos h] at hy; omega
                have hno9 : ¬ (C i.toNat = true ∧ qA Mo i 0 = 0 ∧ qA Mo i 4 = a1) := fun q => hct q.1
                refine lp131  ?_
                · exact hno9
              · skip
                have hct : C i.toNat = true := by by_cases hq : C i.toNat = true; exact hq; rw [if_neg hq] at hy; exact absurd hy hb53
                refine zH_w (c' := (59, [zR 97, .inl a1, .inl i, u3, u4], [.inl 4, .inl i, zR 97])) 3 hz rfl ?_
                refine zH_wE (c1 := (62, [zR 97, .inl a1, .inl i, u3, u4], [])) 0 hz zp_194 (fh_194_97 i 4) (by rfl) ?_
                show zH n (0, 0) 218 (62, [zR 97, .inl a1, .inl i, u3, u4], [.inl (hf_194_97 M6 i 4)]) M6 _
                rw [hv 4 (by decide)]
                refine zH_w (c' := (63, [zR 97, .inl a1, .inl i, u3, u4], [.inl a1, .inl (qA Mo i 4)])) 1 hz rfl ?_
                refine zH_wi_ne (pc := 63) (n' := 66) (t := 131) (L := [zR 97, .inl a1, .inl i, u3, u4]) (st := []) (x := (qA Mo i 4)) (y := a1) 0 hz (by rfl) (fun hb63 => ?_) (fun hb63 => ?_)
                · skip
                  have hno9 : ¬ (C i.toNat = true ∧ qA Mo i 0 = 0 ∧ qA Mo i 4 = a1) := fun q => absurd q.2.2 (by omega)
                  refine lp131  ?_
                  · exact hno9
                · skip
                  refine zH_wE (c1 := (72, [zR 97, .inl a1, .inl i, u3, u4], [])) 3 hz zp_194 (fh_194_97 i 0) (by rfl) ?_
                  show zH n (0, 0) 218 (72, [zR 97, .inl a1, .inl i, u3, u4], [.inl (hf_194_97 M6 i 0)]) M6 _
                  rw [hv 0 (by decide)]
                  refine zH_if_ne hz rfl (fun hb72 => ?_) (fun hb72 => ?_)
                  · skip
                    have hno9 : ¬ (C i.toNat = true ∧ qA Mo i 0 = 0 ∧ qA Mo i 4 = a1) := fun q => absurd q.2.1 (by omega)
                    refine lp131  ?_
                    · exact hno9
                  · skip
                    have hs0 : qA Mo i 0 = 0 := by omega
                    have h5 := hrw (.inl hs0)
                    obtain ⟨x, hx⟩ : ∃ x : Nat, (x : Int) = qA Mo i 5 := ⟨(qA Mo i 5).toNat, by omega⟩
                    have ex : (qA Mo i 5).toNat = x := by omega
                    refine zH_w (c' := (78, [zR 97, .inl a1, .inl i, u3, u4], [.inl 5, .inl i, zR 97])) 3 hz rfl ?_
                    refine zH_wE (c1 := (81, [zR 97, .inl a1, .inl i, u3, u4], [])) 0 hz zp_194 (fh_194_97 i 5) (by rfl) ?_
                    show zH n (0, 0) 218 (81, [zR 97, .inl a1, .inl i, u3, u4], [.inl (hf_194_97 M6 i 5)]) M6 _
                    rw [hv 5 (by decide)]
                    refine zH_w (c' := (85, [zR 97, .inl a1, .inl i, .inl (qA Mo i 5), u4], [.inl 4, .inl i, zR 97])) 4 hz rfl ?_
                    refine zH_wE (c1 := (88, [zR 97, .inl a1, .inl i, .inl (qA Mo i 5), u4], [])) 0 hz zp_216 (fh_216 hC f98 (fun a ha => by rw [hO6 101 (by decide) (by decide) (by decide)]; exact hK a ha) hR i 4 (by omega) hs0 hct) (by rfl) ?_
                    show zH n (0, 0) 218 (88, [zR 97, .inl a1, .inl i, .inl (qA Mo i 5), u4], [.inl (kV4 Mo C (Mo 98 4).toNat i 4)]) M6 _
                    obtain ⟨kv, hkv⟩ : ∃ x : Int, x = (kV4 Mo C (Mo 98 4).toNat i 4) := ⟨_, rfl⟩
                    rw [← hkv]
                    refine zH_w (c' := (102, [zR 97, .inl a1, .inl i, .inl (qA Mo i 5), .inl kv], [.inl (qA Mo i 5), zR 102, .inl kv, .inl (qA Mo i 5), zR 102])) 8 hz rfl ?_
                    refine zH_iald hz rfl rfl (.inl rfl) (fun hin102 => ?_)
                    show zH n (0, 0) 218 (103, [zR 97, .inl a1, .inl i, .inl (qA Mo i 5), .inl kv], [.inl (M6 102 ((qA Mo i 5) : Int).toNat), .inl kv, .inl (qA Mo i 5), zR 102]) M6 _
                    refine zH_wi_le (pc := 103) (n' := 106) (t := 111) (L := [zR 97, .inl a1, .inl i, .inl (qA Mo i 5), .inl kv]) (st := [.inl (qA Mo i 5), zR 102]) (x := kv) (y := (M6 102 ((qA Mo i 5) : Int).toNat)) 0 hz (by rfl) (fun hb103 => ?_) (fun hb103 => ?_)
                    · skip
                      refine zH_w (c' := (116, [zR 97, .inl a1, .inl i, .inl (qA Mo i 5), .inl kv], [.inl (qA Mo i 5), zR 102, .inl (qA Mo i 5), zR 102])) 3 hz rfl ?_
                      refine zH_iald hz rfl rfl (.inl rfl) (fun hin116 => ?_)
                      show zH n (0, 0) 218 (117, [zR 97, .inl a1, .inl i, .inl (qA Mo i 5), .inl kv], [.inl (M6 102 ((qA Mo i 5) : Int).toNat), .inl (qA Mo i 5), zR 102]) M6 _
                      have hvv : M6 102 ((qA Mo i 5) : Int).toNat = if M6 102 x < kV4 Mo C (Mo 98 4).toNat ((i.toNat : Nat) : Int) 4 then kV4 Mo C (Mo 98 4).toNat ((i.toNat : Nat) : Int) 4 else M6 102 x := by rw [ei, ← hkv, ← ex]; first | rw [if_pos (by omega)] | rw [if_neg (by omega)]
                      refine zH_iast hz rfl rfl (fun hin117 => ?_)
                      show zH n (0, 0) 218 (118, [zR 97, .inl a1, .inl i, .inl (qA Mo i 5), .inl kv], []) (zput M6 102 ((qA Mo i 5) : Int).toNat (M6 102 ((qA Mo i 5) : Int).toNat)) _
                      obtain ⟨M7, hM7⟩ : ∃ X : zM, X = zput M6 102 ((qA Mo i 5) : Int).toNat (M6 102 ((qA Mo i 5) : Int).toNat) := ⟨_, rfl⟩
                      rw [← hM7]
                      refine zH_w (c' := (124, [zR 97, .inl a1, .inl i, .inl (qA Mo i 5), .inl kv], [.inl (qA Mo i 5), zR 103, .inl (qA Mo i 5), zR 103])) 4 hz rfl ?_
                      refine zH_iald hz rfl rfl (.inl rfl) (fun hin124 => ?_)
                      show zH n (0, 0) 218 (125, [zR 97, .inl a1, .inl i, .inl (qA Mo i 5), .inl kv], [.inl (M7 103 ((qA Mo i 5) : Int).toNat), .inl (qA Mo i 5), zR 103]) M7 _
                      refine zH_w (c' := (127, [zR 97, .inl a1, .inl i, .inl (qA Mo i 5), .inl kv], [.inl (w32 ((M7 103 ((qA Mo i 5) : Int).toNat) + 1)), .inl (qA Mo i 5), zR 103])) 2 hz rfl ?_
                      rw [show w32 ((M7 103 ((qA Mo i 5) : Int).toNat) + 1) = M6 103 x + 1 from by rw [hM7, zput_oth (by decide), ex, w32_id (by have t9 := kT_r Mo C (a1 * 14 + (x : Int)) i.toNat; have q9 := (hT6 x (by omega)).2.1; omega)]]
                      refine zH_iast hz rfl rfl (fun hin127 => ?_)
                      show zH n (0, 0) 218 (128, [zR 97, .inl a1, .inl i, .inl (qA Mo i 5), .inl kv], []) (zput M7 103 ((qA Mo i 5) : Int).toNat (M6 103 x + 1)) _
                      obtain ⟨M8, hM8⟩ : ∃ X : zM, X = zput M7 103 ((qA Mo i 5) : Int).toNat (M6 103 x + 1) := ⟨_, rfl⟩
                      rw [← hM8]
                      have hBk9 := kI_m (x := x) hT6 hct (by rw [ei]; exact hs0) (by rw [ei]; omega) (by rw [ei]; exact hx) hvv (show M8 = _ by rw [hM8, hM7, ex]) (by rw [ei]; omega)
                      have hOk9 : ∀ r, r ≠ 102 → r ≠ 103 → r ≠ 104 → M8 r = M r := fun r q1 q2 q3 => by rw [hM8, zput_oth q2, hM7, zput_oth q1]; exact hO6 r q1 q2 q3
                      refine zH_w (c' := (172, [zR 97, .inl a1, .inl i, .inl (qA Mo i 5), .inl kv], [])) 1 hz rfl ?_
                      refine lp172 (.inl (qA Mo i 5)) (.inl kv) M8 ?_ ?_
                      · exact hOk9
                      · exact hBk9
                    · skip
                      refine zH_w (c' := (117, [zR 97, .inl a1, .inl i, .inl (qA Mo i 5), .inl kv], [.inl kv, .inl (qA Mo i 5), zR 102])) 2 hz rfl ?_
                      have hvv : kv = if M6 102 x < kV4 Mo C (Mo 98 4).toNat ((i.toNat : Nat) : Int) 4 then kV4 Mo C (Mo 98 4).toNat ((i.toNat : Nat) : Int) 4 else M6 102 x := by rw [ei, ← hkv, ← ex]; first | rw [if_pos (by omega)] | rw [if_neg (by omega)]
                      refine zH_iast hz rfl rfl (fun hin117 => ?_)
                      show zH n (0, 0) 218 (118, [zR 97, .inl a1, .inl i, .inl (qA Mo i 5), .inl kv], []) (zput M6 102 ((qA Mo i 5) : Int).toNat kv) _
                      obtain ⟨M7, hM7⟩ : ∃ X : zM, X = zput M6 102 ((qA Mo i 5) : Int).toNat kv := ⟨_, rfl⟩
                      rw [← hM7]
                      refine zH_w (c' := (124, [zR 97, .inl a1, .inl i, .inl (qA Mo i 5), .inl kv], [.inl (qA Mo i 5), zR 103, .inl (qA Mo i 5), zR 103])) 4 hz rfl ?_
                      refine zH_iald hz rfl rfl (.inl rfl) (fun hin124 => ?_)
                      show zH n (0, 0) 218 (125, [zR 97, .inl a1, .inl i, .inl (qA Mo i 5), .inl kv], [.inl (M7 103 ((qA Mo i 5) : Int).toNat), .inl (qA Mo i 5), zR 103]) M7 _
                      refine zH_w (c' := (127, [zR 97, .inl a1, .inl i, .inl (qA Mo i 5), .inl kv], [.inl (w32 ((M7 103 ((qA Mo i 5) : Int).toNat) + 1)), .inl (qA Mo i 5), zR 103])) 2 hz rfl ?_
                      rw [show w32 ((M7 103 ((qA Mo i 5) : Int).toNat) + 1) = M6 103 x + 1 from by rw [hM7, zput_oth (by decide), ex, w32_id (by have t9 := kT_r Mo C (a1 * 14 + (x : Int)) i.toNat; have q9 := (hT6 x (by omega)).2.1; omega)]]
                      refine zH_iast hz rfl rfl (fun hin127 => ?_)
                      show zH n (0, 0) 218 (128, [zR 97, .inl a1, .inl i, .inl (qA Mo i 5), .inl kv], []) (zput M7 103 ((qA Mo i 5) : Int).toNat (M6 103 x + 1)) _
                      obtain ⟨M8, hM8⟩ : ∃ X : zM, X = zput M7 103 ((qA Mo i 5) : Int).toNat (M6 103 x + 1) := ⟨_, rfl⟩
                      rw [← hM8]
                      have hBk9 := kI_m (x := x) hT6 hct (by rw [ei]; exact hs0) (by rw [ei]; omega) (by rw [ei]; exact hx) hvv (show M8 = _ by rw [hM8, hM7, ex]) (by rw [ei]; omega)
                      have hOk9 : ∀ r, r ≠ 102 → r ≠ 103 → r ≠ 104 → M8 r = M r := fun r q1 q2 q3 => by rw [hM8, zput_oth q2, hM7, zput_oth q1]; exact hO6 r q1 q2 q3
                      refine zH_w (c' := (172, [zR 97, .inl a1, .inl i, .inl (qA Mo i 5), .inl kv], [])) 1 hz rfl ?_
                      refine lp172 (.inl (qA Mo i 5)) (.inl kv) M8 ?_ ?_
                      · exact hOk9
                      · exact hBk9
        refine lp37 (251) 0 zN zN M5 (by omega) ?_ ?_ ?_
        · omega
        · exact hO
        · exact fun j hj => hT j (by omega)
      · skip
        refine zH_w (c' := (14, [zR 97, .inl a1, .inl c, zN, zN], [.inl (-1), .inl c, zR 102])) 4 hz rfl ?_
        refine zH_iast hz rfl rfl (fun hin14 => ?_)
        show zH n (0, 0) 218 (15, [zR 97, .inl a1, .inl c, zN, zN], []) (zput M5 102 (c : Int).toNat (-1)) _
        refine zH_w (c' := (21, [zR 97, .inl a1, .inl c, zN, zN], [.inl 0, .inl c, zR 103])) 4 hz rfl ?_
        refine zH_iast hz rfl rfl (fun hin21 => ?_)
        show zH n (0, 0) 218 (22, [zR 97, .inl a1, .inl c, zN, zN], []) (zput (zput M5 102 (c : Int).toNat (-1)) 103 (c : Int).toNat 0) _
        refine zH_w (c' := (28, [zR 97, .inl a1, .inl c, zN, zN], [.inl 0, .inl c, zR 104])) 4 hz rfl ?_
        refine zH_iast hz rfl rfl (fun hin28 => ?_)
        show zH n (0, 0) 218 (29, [zR 97, .inl a1, .inl c, zN, zN], []) (zput (zput (zput M5 102 (c : Int).toNat (-1)) 103 (c : Int).toNat 0) 104 (c : Int).toNat 0) _
        refine zH_w (c' := (2, [zR 97, .inl a1, .inl (c + 1), zN, zN], [])) 2 hz (by rw [show (.inl (c + 1) : zV) = .inl (w32 (c + 1)) from by rw [w32_id (by omega)]]; rfl) ?_
        refine ih2 (c + 1) (zput (zput (zput M5 102 (c : Int).toNat (-1)) 103 (c : Int).toNat 0) 104 (c : Int).toNat 0) (by omega) ?_ ?_ ?_
        · omega
        · exact fun r q1 q2 q3 => (zput_oth q3).trans ((zput_oth q2).trans ((zput_oth q1).trans (hO r q1 q2 q3)))
        · intro j hj
          rw [qput_ne (show (102 : Nat) ≠ 104 by decide), qput_ne (show (102 : Nat) ≠ 103 by decide), qput_ne (show (103 : Nat) ≠ 104 by decide)]
          by_cases e : j = c.toNat
          · subst e; exact ⟨qput_eq, by rw [qput_eq], qput_eq⟩
          · simp only [qput_nk e]; exact hT j (by omega)
  refine lp2 (15) 0 M (by omega) ?_ ?_ ?_
  · omega
  · exact fun _ _ _ _ => rfl
  · exact fun j hj => absurd hj (by omega)
theorem hNum {M : zM} (h : hHs M 9 (M 98)) : ∀ a : Int, 0 ≤ a ∧ a < 250 → -1 ≤ qA M a 7 ∧ qA M a 7 ≤ 100 := fun a ha => by
  have q := (h.2.2.2.2.1.2 a.toNat (by omega)).2.2.2.2
  unfold qA
  rw [show (350 + 12 * a + 7).toNat = 357 + 12 * a.toNat by omega]
  exact q
set_option maxRecDepth 100000 in
theorem fh_212 {n : Nat} {M : zM} {Mo : zM} (hC : qMI Mo) (hCM : qMI M) (e98 : M 98 = Mo 98) (a1 a2 : Int) : zH n (0, 0) 212 (0, zini [zR 97, .inl a1, .inl a2] 3, []) M (fun r M' => r = some (.inl (kA16 Mo a1 a2))) := by
  have hz := zp_212
  show zH n (0, 0) 212 (0, [zR 97, .inl a1, .inl a2], []) M _
  have z4 : M 98 4 = Mo 98 4 := congrFun e98 4
  have z1 : M 98 1 = Mo 98 1 := congrFun e98 1
  have z0 : M 98 0 = Mo 98 0 := congrFun e98 0
  have hn := hC.cnt4
  have hn1 := hC.cnt1
  have hn0 := hC.cnt0
  have hb8 : hBd M := (show hBd Mo from ⟨hC.cnt0, hC.cnt1, hC.cnt2, hC.cnt3, hC.cnt4, hC.cnt5, hC.cnt6⟩).same e98
  refine zH_wE (c1 := (6, [zR 97, .inl a1, .inl a2], [])) 3 hz zp_182 (fh_182_97 4 a1) (by rfl) ?_
  show zH n (0, 0) 212 (6, [zR 97, .inl a1, .inl a2], [.inl (hf_182_97 M 4 a1)]) M _
  obtain ⟨x1, hx1⟩ : ∃ x : Int, x = (hf_182_97 M 4 a1) := ⟨_, rfl⟩
  rw [← hx1]
  refine zH_if_eq hz rfl (fun hb6 => ?_) (fun hb6 => ?_)
  · skip
    rw [hx1, hq_182_4 hb8] at hb6
    refine zH_w (c' := (18, [zR 97, .inl a1, .inl a2], [.inl (-2)])) 1 hz rfl ?_
    exact zH_wr (r := some (.inl (-2))) 0 hz (by rfl) (by unfold kA16; rw [if_neg (by omega)])
  · skip
    rw [hx1, hq_182_4 hb8] at hb6
    refine zH_w (c' := (10, [zR 97, .inl a1, .inl a2], [.inl a2])) 1 hz rfl ?_
    refine zH_wE (c1 := (13, [zR 97, .inl a1, .inl a2], [])) 0 hz zp_184 (fh_184 a2) (by rfl) ?_
    show zH n (0, 0) 212 (13, [zR 97, .inl a1, .inl a2], [.inl (hf_184 M a2)]) M _
    obtain ⟨x2, hx2⟩ : ∃ x : Int, x = (hf_184 M a2) := ⟨_, rfl⟩
    rw [← hx2]
    refine zH_if_ne hz rfl (fun hb13 => ?_) (fun hb13 => ?_)
    · skip
      rw [hx2, hq_184] at hb13
      refine zH_w (c' := (21, [zR 97, .inl a1, .inl a2], [.inl a2, zR 97])) 2 hz rfl ?_
      refine zH_wC (c1 := (24, [zR 97, .inl a1, .inl a2], [])) 0 hz zp_211 (fh_211 hC hCM e98 a2) (by rfl) ?_
      rintro _ M1 ⟨rfl, hO1, hH1⟩
      show zH n (0, 0) 212 (24, [zR 97, .inl a1, .inl a2], []) M1 _
      refine zH_w (c' := (29, [zR 97, .inl a1, .inl a2], [.inl a1, zR 101])) 3 hz rfl ?_
      refine zH_bald hz rfl rfl (.inl rfl) (fun hin29 => ?_)
      show zH n (0, 0) 212 (30, [zR 97, .inl a1, .inl a2], [.inl (M1 101 (a1 : Int).toNat)]) M1 _
      rw [hH1 a1.toNat (by omega)]
      obtain ⟨y, hy⟩ : ∃ x : Int, x = (if (hCt Mo a2 (-1) (Mo 98 4).toNat (Mo 98 4).toNat) a1.toNat = true then 1 else 0) := ⟨_, rfl⟩
      rw [← hy]
      refine zH_if_eq hz rfl (fun hb30 => ?_) (fun hb30 => ?_)
      · skip
        have hct : ¬ (hCt Mo a2 (-1) (Mo 98 4).toNat (Mo 98 4).toNat) a1.toNat = true := fun h => by rw [if_pos h] at hy; omega
        refine zH_w (c' := (38, [zR 97, .inl a1, .inl a2], [.inl 0])) 1 hz rfl ?_
        exact zH_wr (r := some (.inl 0)) 0 hz (by rfl) (by unfold kA16; rw [if_pos (by omega)]; first | rw [if_pos hct] | rw [if_neg hct])
      · skip
        have hct : (hCt Mo a2 (-1) (Mo 98 4).toNat (Mo 98 4).toNat) a1.toNat = true := by by_cases hq : (hCt Mo a2 (-1) (Mo 98 4).toNat (Mo 98 4).toNat) a1.toNat = true; exact hq; rw [if_neg hq] at hy; exact absurd hy hb30
        refine zH_w (c' := (38, [zR 97, .inl a1, .inl a2], [.inl 1])) 2 hz rfl ?_
        exact zH_wr (r := some (.inl 1)) 0 hz (by rfl) (by unfold kA16; rw [if_pos (by omega)]; first | rw [if_pos hct] | rw [if_neg hct])
    · skip
      rw [hx2, hq_184] at hb13
      refine zH_w (c' := (18, [zR 97, .inl a1, .inl a2], [.inl (-2)])) 1 hz rfl ?_
      exact zH_wr (r := some (.inl (-2))) 0 hz (by rfl) (by unfold kA16; rw [if_neg (by omega)])
set_option maxRecDepth 100000 in
theorem fh_217 {n : Nat} {M : zM} {Mo : zM} (hC : qMI Mo) (hCM : qMI M) (e98 : M 98 = Mo 98) (hR : ∀ a : Int, 0 ≤ a ∧ a < 250 → -1 ≤ qA Mo a 7 ∧ qA Mo a 7 ≤ 100) (a1 a2 a3 : Int) : zH n (0, 0) 217 (0, zini [zR 97, .inl a1, .inl a2, .inl a3] 4, []) M (fun r M' => r = some (.inl (kA17 Mo a1 a2 a3))) := by
  have hz := zp_217
  show zH n (0, 0) 217 (0, [zR 97, .inl a1, .inl a2, .inl a3], []) M _
  have z4 : M 98 4 = Mo 98 4 := congrFun e98 4
  have z1 : M 98 1 = Mo 98 1 := congrFun e98 1
  have z0 : M 98 0 = Mo 98 0 := congrFun e98 0
  have hn := hC.cnt4
  have hn1 := hC.cnt1
  have hn0 := hC.cnt0
  have hb8 : hBd M := (show hBd Mo from ⟨hC.cnt0, hC.cnt1, hC.cnt2, hC.cnt3, hC.cnt4, hC.cnt5, hC.cnt6⟩).same e98
  have q198 : hf_198_97 M a1 = 0 ↔ ¬ ((0 ≤ a1 ∧ a1 < Mo 98 4) ∧ qA Mo a1 0 = 0) := by
    rw [hq_198 hb8, z4]
    by_cases c : 0 ≤ a1 ∧ a1 < Mo 98 4
    · rw [hact_same e98 (by omega) (by decide)]
    · constructor <;> intro q <;> omega
  refine zH_wE (c1 := (5, [zR 97, .inl a1, .inl a2, .inl a3], [])) 2 hz zp_198 (fh_198_97 a1) (by rfl) ?_
  show zH n (0, 0) 217 (5, [zR 97, .inl a1, .inl a2, .inl a3], [.inl (hf_198_97 M a1)]) M _
  obtain ⟨x1, hx1⟩ : ∃ x : Int, x = (hf_198_97 M a1) := ⟨_, rfl⟩
  rw [← hx1]
  refine zH_if_eq hz rfl (fun hb5 => ?_) (fun hb5 => ?_)
  · skip
    rw [hx1, q198] at hb5
    refine zH_w (c' := (26, [zR 97, .inl a1, .inl a2, .inl a3], [.inl (-2)])) 1 hz rfl ?_
    exact zH_wr (r := some (.inl (-2))) 0 hz (by rfl) (by unfold kA17; rw [if_neg (by omega)])
  · skip
    rw [hx1, q198] at hb5
    refine zH_w (c' := (11, [zR 97, .inl a1, .inl a2, .inl a3], [.inl 4, .inl 0, .inl a2])) 3 hz rfl ?_
    refine zH_wE (c1 := (14, [zR 97, .inl a1, .inl a2, .inl a3], [])) 0 hz zp_180 (fh_180 a2 0 4) (by rfl) ?_
    show zH n (0, 0) 217 (14, [zR 97, .inl a1, .inl a2, .inl a3], [.inl (hf_180 M a2 0 4)]) M _
    obtain ⟨x2, hx2⟩ : ∃ x : Int, x = (hf_180 M a2 0 4) := ⟨_, rfl⟩
    rw [← hx2]
    refine zH_if_eq hz rfl (fun hb14 => ?_) (fun hb14 => ?_)
    · skip
      rw [hx2, hq_180] at hb14
      refine zH_w (c' := (26, [zR 97, .inl a1, .inl a2, .inl a3], [.inl (-2)])) 1 hz rfl ?_
      exact zH_wr (r := some (.inl (-2))) 0 hz (by rfl) (by unfold kA17; rw [if_neg (by omega)])
    · skip
      rw [hx2, hq_180] at hb14
      refine zH_w (c' := (18, [zR 97, .inl a1, .inl a2, .inl a3], [.inl a3])) 1 hz rfl ?_
      refine zH_wE (c1 := (21, [zR 97, .inl a1, .inl a2, .inl a3], [])) 0 hz zp_184 (fh_184 a3) (by rfl) ?_
      show zH n (0, 0) 217 (21, [zR 97, .inl a1, .inl a2, .inl a3], [.inl (hf_184 M a3)]) M _
      obtain ⟨x3, hx3⟩ : ∃ x : Int, x = (hf_184 M a3) := ⟨_, rfl⟩
      rw [← hx3]
      refine zH_if_ne hz rfl (fun hb21 => ?_) (fun hb21 => ?_)
      · skip
        rw [hx3, hq_184] at hb21
        refine zH_w (c' := (29, [zR 97, .inl a1, .inl a2, .inl a3], [.inl a3, zR 97])) 2 hz rfl ?_
        refine zH_wC (c1 := (32, [zR 97, .inl a1, .inl a2, .inl a3], [])) 0 hz zp_211 (fh_211 hC hCM e98 a3) (by rfl) ?_
        rintro _ M1 ⟨rfl, hO1, hH1⟩
        show zH n (0, 0) 217 (32, [zR 97, .inl a1, .inl a2, .inl a3], []) M1 _
        refine zH_w (c' := (37, [zR 97, .inl a1, .inl a2, .inl a3], [.inl a1, zR 101])) 3 hz rfl ?_
        refine zH_bald hz rfl rfl (.inl rfl) (fun hin37 => ?_)
        show zH n (0, 0) 217 (38, [zR 97, .inl a1, .inl a2, .inl a3], [.inl (M1 101 (a1 : Int).toNat)]) M1 _
        rw [hH1 a1.toNat (by omega)]
        obtain ⟨y, hy⟩ : ∃ x : Int, x = (if (hCt Mo a3 (-1) (Mo 98 4).toNat (Mo 98 4).toNat) a1.toNat = true then 1 else 0) := ⟨_, rfl⟩
        rw [← hy]
        refine zH_if_eq hz rfl (fun hb38 => ?_) (fun hb38 => ?_)
        · skip
          have hct : ¬ (hCt Mo a3 (-1) (Mo 98 4).toNat (Mo 98 4).toNat) a1.toNat = true := fun h => by rw [if_pos h] at hy; omega
          refine zH_w (c' := (51, [zR 97, .inl a1, .inl a2, .inl a3], [.inl (-1)])) 1 hz rfl ?_
          exact zH_wr (r := some (.inl (-1))) 0 hz (by rfl) (by unfold kA17; rw [if_pos (by omega)]; first | rw [if_pos hct] | rw [if_neg hct])
        · skip
          have hct : (hCt Mo a3 (-1) (Mo 98 4).toNat (Mo 98 4).toNat) a1.toNat = true := by by_cases hq : (hCt Mo a3 (-1) (Mo 98 4).toNat (Mo 98 4).toNat) a1.toNat = true; exact hq; rw [if_neg hq] at hy; exact absurd hy hb38
          refine zH_w (c' := (44, [zR 97, .inl a1, .inl a2, .inl a3], [.inl a2, .inl a1, zR 97])) 3 hz rfl ?_
          refine zH_wE (c1 := (47, [zR 97, .inl a1, .inl a2, .inl a3], [])) 0 hz zp_216 (fh_216 hC ((hO1 98 (by decide)).trans e98) hH1 hR a1 a2 (by omega) (by omega) hct) (by rfl) ?_
          show zH n (0, 0) 217 (47, [zR 97, .inl a1, .inl a2, .inl a3], [.inl (kV4 Mo (hCt Mo a3 (-1) (Mo 98 4).toNat (Mo 98 4).toNat) (Mo 98 4).toNat a1 a2)]) M1 _
          exact zH_wr (r := some (.inl (kV4 Mo (hCt Mo a3 (-1) (Mo 98 4).toNat (Mo 98 4).toNat) (Mo 98 4).toNat a1 a2))) 1 hz (by rfl) (by unfold kA17; rw [if_pos (by omega)]; first | rw [if_pos hct] | rw [if_neg hct])
      · skip
        rw [hx3, hq_184] at hb21
        refine zH_w (c' := (26, [zR 97, .inl a1, .inl a2, .inl a3], [.inl (-2)])) 1 hz rfl ?_
        exact zH_wr (r := some (.inl (-2))) 0 hz (by rfl) (by unfold kA17; rw [if_neg (by omega)])
set_option maxRecDepth 100000 in
theorem fh_219 {n : Nat} {M : zM} {Mo : zM} (hC : qMI Mo) (hCM : qMI M) (e98 : M 98 = Mo 98) (hR : ∀ a : Int, 0 ≤ a ∧ a < 250 → -1 ≤ qA Mo a 7 ∧ qA Mo a 7 ≤ 100) (a1 a2 a3 a4 : Int) : zH n (0, 0) 219 (0, zini [zR 97, .inl a1, .inl a2, .inl a3, .inl a4] 5, []) M (fun r M' => r = some (.inl (kA18 Mo a1 a2 a3 a4))) := by
  have hz := zp_219
  show zH n (0, 0) 219 (0, [zR 97, .inl a1, .inl a2, .inl a3, .inl a4], []) M _
  have z4 : M 98 4 = Mo 98 4 := congrFun e98 4
  have z1 : M 98 1 = Mo 98 1 := congrFun e98 1
  have z0 : M 98 0 = Mo 98 0 := congrFun e98 0
  have hn := hC.cnt4
  have hn1 := hC.cnt1
  have hn0 := hC.cnt0
  have hb8 : hBd M := (show hBd Mo from ⟨hC.cnt0, hC.cnt1, hC.cnt2, hC.cnt3, hC.cnt4, hC.cnt5, hC.cnt6⟩).same e98
  refine zH_wE (c1 := (6, [zR 97, .inl a1, .inl a2, .inl a3, .inl a4], [])) 3 hz zp_182 (fh_182_97 1 a1) (by rfl) ?_
  show zH n (0, 0) 219 (6, [zR 97, .inl a1, .inl a2, .inl a3, .inl a4], [.inl (hf_182_97 M 1 a1)]) M _
  obtain ⟨x1, hx1⟩ : ∃ x : Int, x = (hf_182_97 M 1 a1) := ⟨_, rfl⟩
  rw [← hx1]
  refine zH_if_eq hz rfl (fun hb6 => ?_) (fun hb6 => ?_)
  · skip
    rw [hx1, hq_182_1 hb8] at hb6
    refine zH_w (c' := (37, [zR 97, .inl a1, .inl a2, .inl a3, .inl a4], [.inl (-2)])) 1 hz rfl ?_
    exact zH_wr (r := some (.inl (-2))) 0 hz (by rfl) (by unfold kA18; rw [if_neg (by omega)])
  · skip
    rw [hx1, hq_182_1 hb8] at hb6
    refine zH_w (c' := (12, [zR 97, .inl a1, .inl a2, .inl a3, .inl a4], [.inl a2, .inl 0, zR 97])) 3 hz rfl ?_
    refine zH_wE (c1 := (15, [zR 97, .inl a1, .inl a2, .inl a3, .inl a4], [])) 0 hz zp_182 (fh_182_97 0 a2) (by rfl) ?_
    show zH n (0, 0) 219 (15, [zR 97, .inl a1, .inl a2, .inl a3, .inl a4], [.inl (hf_182_97 M 0 a2)]) M _
    obtain ⟨x2, hx2⟩ : ∃ x : Int, x = (hf_182_97 M 0 a2) := ⟨_, rfl⟩
    rw [← hx2]
    refine zH_if_eq hz rfl (fun hb15 => ?_) (fun hb15 => ?_)
    · skip
      rw [hx2, hq_182_0 hb8] at hb15
      refine zH_w (c' := (37, [zR 97, .inl a1, .inl a2, .inl a3, .inl a4], [.inl (-2)])) 1 hz rfl ?_
      exact zH_wr (r := some (.inl (-2))) 0 hz (by rfl) (by unfold kA18; rw [if_neg (by omega)])
    · skip
      rw [hx2, hq_182_0 hb8] at hb15
      refine zH_w (c' := (19, [zR 97, .inl a1, .inl a2, .inl a3, .inl a4], [.inl a3])) 1 hz rfl ?_
      refine zH_wE (c1 := (22, [zR 97, .inl a1, .inl a2, .inl a3, .inl a4], [])) 0 hz zp_184 (fh_184 a3) (by rfl) ?_
      show zH n (0, 0) 219 (22, [zR 97, .inl a1, .inl a2, .inl a3, .inl a4], [.inl (hf_184 M a3)]) M _
      obtain ⟨x3, hx3⟩ : ∃ x : Int, x = (hf_184 M a3) := ⟨_, rfl⟩
      rw [← hx3]
      refine zH_if_eq hz rfl (fun hb22 => ?_) (fun hb22 => ?_)
      · skip
        rw [hx3, hq_184] at hb22
        refine zH_w (c' := (37, [zR 97, .inl a1, .inl a2, .inl a3, .inl a4], [.inl (-2)])) 1 hz rfl ?_
        exact zH_wr (r := some (.inl (-2))) 0 hz (by rfl) (by unfold kA18; rw [if_neg (by omega)])
      · skip
        rw [hx3, hq_184] at hb22
        refine zH_w (c' := (29, [zR 97, .inl a1, .inl a2, .inl a3, .inl a4], [.inl 2, .inl 0, .inl a4])) 3 hz rfl ?_
        refine zH_wE (c1 := (32, [zR 97, .inl a1, .inl a2, .inl a3, .inl a4], [])) 0 hz zp_180 (fh_180 a4 0 2) (by rfl) ?_
        show zH n (0, 0) 219 (32, [zR 97, .inl a1, .inl a2, .inl a3, .inl a4], [.inl (hf_180 M a4 0 2)]) M _
        obtain ⟨x4, hx4⟩ : ∃ x : Int, x = (hf_180 M a4 0 2) := ⟨_, rfl⟩
        rw [← hx4]
        refine zH_if_ne hz rfl (fun hb32 => ?_) (fun hb32 => ?_)
        · skip
          rw [hx4, hq_180] at hb32
          refine zH_w (c' := (40, [zR 97, .inl a1, .inl a2, .inl a3, .inl a4], [.inl a3, zR 97])) 2 hz rfl ?_
          refine zH_wC (c1 := (43, [zR 97, .inl a1, .inl a2, .inl a3, .inl a4], [])) 0 hz zp_211 (fh_211 hC hCM e98 a3) (by rfl) ?_
          rintro _ M1 ⟨rfl, hO1, hH1⟩
          show zH n (0, 0) 219 (43, [zR 97, .inl a1, .inl a2, .inl a3, .inl a4], []) M1 _
          refine zH_wC (c1 := (48, [zR 97, .inl a1, .inl a2, .inl a3, .inl a4], [])) 2 hz zp_218 (fh_218 hC ((hO1 98 (by decide)).trans e98) hH1 hR a1 (by omega)) (by rfl) ?_
          rintro _ M2 ⟨rfl, hO2, hT2⟩
          show zH n (0, 0) 219 (48, [zR 97, .inl a1, .inl a2, .inl a3, .inl a4], []) M2 _
          have hq := hT2 a2.toNat (by omega)
          rw [show ((a2.toNat : Nat) : Int) = a2 by omega] at hq
          refine zH_w (c' := (50, [zR 97, .inl a1, .inl a2, .inl a3, .inl a4], [.inl a4])) 1 hz rfl ?_
          refine zH_wf_ne (pc := 50) (n' := 53) (t := 62) (L := [zR 97, .inl a1, .inl a2, .inl a3, .inl a4]) (st := []) (x := a4) 0 hz (by rfl) (fun hb50 => ?_) (fun hb50 => ?_)
          · skip
            refine zH_wi_ne (pc := 65) (n' := 68) (t := 77) (L := [zR 97, .inl a1, .inl a2, .inl a3, .inl a4]) (st := []) (x := a4) (y := 1) 2 hz (by rfl) (fun hb65 => ?_) (fun hb65 => ?_)
            · skip
              refine zH_w (c' := (82, [zR 97, .inl a1, .inl a2, .inl a3, .inl a4], [.inl a2, zR 104])) 3 hz rfl ?_
              refine zH_iald hz rfl rfl (.inl rfl) (fun hin82 => ?_)
              show zH n (0, 0) 219 (83, [zR 97, .inl a1, .inl a2, .inl a3, .inl a4], [.inl (M2 104 (a2 : Int).toNat)]) M2 _
              rw [hq.2.2]
              exact zH_ret hz rfl rfl (by unfold kA18; rw [if_pos (by omega)]; first | rw [if_pos (by omega)] | rw [if_neg (by omega), if_pos (by omega)] | rw [if_neg (by omega), if_neg (by omega)])
            · skip
              refine zH_w (c' := (73, [zR 97, .inl a1, .inl a2, .inl a3, .inl a4], [.inl a2, zR 103])) 3 hz rfl ?_
              refine zH_iald hz rfl rfl (.inl rfl) (fun hin73 => ?_)
              show zH n (0, 0) 219 (74, [zR 97, .inl a1, .inl a2, .inl a3, .inl a4], [.inl (M2 103 (a2 : Int).toNat)]) M2 _
              rw [hq.2.1]
              refine zH_w (c' := (83, [zR 97, .inl a1, .inl a2, .inl a3, .inl a4], [.inl (kT Mo (hCt Mo a3 (-1) (Mo 98 4).toNat (Mo 98 4).toNat) (a1 * 14 + a2) (Mo 98 4).toNat)])) 1 hz rfl ?_
              exact zH_wr (r := some (.inl (kT Mo (hCt Mo a3 (-1) (Mo 98 4).toNat (Mo 98 4).toNat) (a1 * 14 + a2) (Mo 98 4).toNat))) 0 hz (by rfl) (by unfold kA18; rw [if_pos (by omega)]; first | rw [if_pos (by omega)] | rw [if_neg (by omega), if_pos (by omega)] | rw [if_neg (by omega), if_neg (by omega)])
          · skip
            refine zH_w (c' := (58, [zR 97, .inl a1, .inl a2, .inl a3, .inl a4], [.inl a2, zR 102])) 3 hz rfl ?_
            refine zH_iald hz rfl rfl (.inl rfl) (fun hin58 => ?_)
            show zH n (0, 0) 219 (59, [zR 97, .inl a1, .inl a2, .inl a3, .inl a4], [.inl (M2 102 (a2 : Int).toNat)]) M2 _
            rw [hq.1]
            refine zH_w (c' := (83, [zR 97, .inl a1, .inl a2, .inl a3, .inl a4], [.inl (kZ Mo (hCt Mo a3 (-1) (Mo 98 4).toNat (Mo 98 4).toNat) (Mo 98 4).toNat (a1 * 14 + a2) (Mo 98 4).toNat)])) 1 hz rfl ?_
            exact zH_wr (r := some (.inl (kZ Mo (hCt Mo a3 (-1) (Mo 98 4).toNat (Mo 98 4).toNat) (Mo 98 4).toNat (a1 * 14 + a2) (Mo 98 4).toNat))) 0 hz (by rfl) (by unfold kA18; rw [if_pos (by omega)]; first | rw [if_pos (by omega)] | rw [if_neg (by omega), if_pos (by omega)] | rw [if_neg (by omega), if_neg (by omega)])
        · skip
          rw [hx4, hq_180] at hb32
          refine zH_w (c' := (37, [zR 97, .inl a1, .inl a2, .inl a3, .inl a4], [.inl (-2)])) 1 hz rfl ?_
          exact zH_wr (r := some (.inl (-2))) 0 hz (by rfl) (by unfold kA18; rw [if_neg (by omega)])
