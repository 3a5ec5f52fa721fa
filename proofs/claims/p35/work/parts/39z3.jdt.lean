/-! TELLS; WHAT IS ASKED FOR -/
set_option maxRecDepth 100000 in
theorem fh_74_67 {n : Nat} {M : zM} : zH n (0, 0) 74 (0, zini [zR 67] 1, []) M (fun r M' => r = some (zR 68) ∧ M' = M) := by
  have hz := zp_74
  show zH n (0, 0) 74 (0, [zR 67], []) M _
  exact zH_wr (r := some (zR 68)) 2 hz (by rfl) ⟨rfl, rfl⟩
section JT
variable {Mo M M1 M' : zM} {P Q : Int → List Int}
theorem jOf {o : Int} {k s : Nat} (h0 : 0 ≤ o) (h10 : o < 10) (h : oOk (M 98) (M 23) (4000 + 164 * o.toNat + s) (164 * o.toNat + k)) : ∃ O, jCd M o k O ∧ jMd M o s O := by
  obtain ⟨c, L, h1, h2, h3, h4, h5, h6, h7⟩ := h
  have q := xTd_in h2 h4
  exact ⟨xTd c L, ⟨⟨h5, q.1⟩, fun e => absurd e (by omega), fun _ => ⟨h10, h6, h7⟩⟩, ⟨⟨h5, q.1⟩, h10, q.2, c, L, h1, h2, h3, h4, rfl⟩⟩
theorem jNo (hp : pCon M) : jCd M (-1) 2 pPas ∧ jCd M (-1) 83 pCls := by
  refine ⟨⟨⟨?_, ?_⟩, fun _ => ⟨hp.1.1, hp.2.1⟩, fun h => absurd h (by decide)⟩, ⟨⟨?_, ?_⟩, fun _ => ⟨hp.1.2, hp.2.2⟩, fun h => absurd h (by decide)⟩⟩
  · show 5 ≤ 80; decide
  · intro x hx
    simp only [pPas, List.mem_cons, List.not_mem_nil, or_false] at hx
    unfold eOk
    omega
  · show 3 ≤ 80; decide
  · intro x hx
    simp only [pCls, List.mem_cons, List.not_mem_nil, or_false] at hx
    unfold eOk
    omega
theorem jPQ (h9 : hc9 (M 22 3) (M 23) (M 98)) (hp : pCon M) : ∃ P Q : Int → List Int, jCs M P Q ∧ jMs M P Q := by
  have h5 := h9.1
  have hP : ∀ o : Int, ∃ O : List Int, -1 ≤ o → o < M 98 5 → jCd M o 2 O ∧ (o = -1 → O = pPas) ∧ (0 ≤ o → jMd M o 0 O) := fun o => by
    by_cases h1 : o = -1
    · exact ⟨pPas, fun _ _ => ⟨by rw [h1]; exact (jNo hp).1, fun _ => rfl, fun h => absurd h (by omega)⟩⟩
    · by_cases h2 : 0 ≤ o ∧ o < M 98 5
      · have r := h9.2 o.toNat (by omega) (by omega)
        obtain ⟨O, q1, q2⟩ := jOf (M := M) (o := o) (k := 2) (s := 0) h2.1 (by omega) r.2.2.2.2.1
        exact ⟨O, fun _ _ => ⟨q1, fun h => absurd h h1, fun _ => q2⟩⟩
      · exact ⟨[], fun h3 h4 => absurd ⟨by omega, h4⟩ h2⟩
  have hQ : ∀ o : Int, ∃ O : List Int, -1 ≤ o → o < M 98 5 → jCd M o 83 O ∧ (o = -1 → O = pCls) ∧ (0 ≤ o → jMd M o 81 O) := fun o => by
    by_cases h1 : o = -1
    · exact ⟨pCls, fun _ _ => ⟨by rw [h1]; exact (jNo hp).2, fun _ => rfl, fun h => absurd h (by omega)⟩⟩
    · by_cases h2 : 0 ≤ o ∧ o < M 98 5
      · have r := h9.2 o.toNat (by omega) (by omega)
        obtain ⟨O, q1, q2⟩ := jOf (M := M) (o := o) (k := 83) (s := 81) h2.1 (by omega) (by rw [show 4000 + 164 * o.toNat + 81 = 4081 + 164 * o.toNat by omega]; exact r.2.2.2.2.2)
        exact ⟨O, fun _ _ => ⟨q1, fun h => absurd h h1, fun _ => q2⟩⟩
      · exact ⟨[], fun h3 h4 => absurd ⟨by omega, h4⟩ h2⟩
  obtain ⟨P, hP⟩ := Classical.axiomOfChoice hP
  obtain ⟨Q, hQ⟩ := Classical.axiomOfChoice hQ
  have e := hP (-1) (by decide) (by omega)
  have f := hQ (-1) (by decide) (by omega)
  exact ⟨P, Q, fun o h1 h2 => ⟨(hP o h1 h2).1, (hQ o h1 h2).1⟩, ⟨e.2.1 rfl, f.2.1 rfl⟩, fun o h1 h2 => ⟨(hP o (by omega) h2).2.2 h1, (hQ o (by omega) h2).2.2 h1⟩⟩
theorem mH_of (h : jH M) (hm : jMs M P Q) : mH M P Q := by
  have hh := h.1.2.1
  have h9 := hh.2.2.2.2.2.2.2.2.2.1
  refine ⟨h.1.1, fun o ho => (h9.2 o (by have := h9.1; omega) ho).2.1.1, hNum hh, fun a ha => ?_, fun s d hs => h.bi hs d, hm⟩
  have q := (hh.2.2.2.2.1.2 a.toNat (by omega)).2.2.2.1.1
  unfold qA
  rw [show (350 + 12 * a + 1).toNat = 351 + 12 * a.toNat by omega]
  exact q
theorem qMI.sm (h : qMI M) (e : ∀ r, 97 ≤ r → M' r = M r) : qMI M' := by
  refine ⟨?_, ?_, ?_, fun r k hr => by rw [e r hr]; exact h.2.2.2.1 r k hr, ?_⟩
  · rw [e 98 (by decide)]; exact h.1
  · rw [e 99 (by decide)]; exact h.2.1
  · rw [e 99 (by decide)]; exact h.2.2.1
  · have ht := h.2.2.2.2
    unfold qTS at ht ⊢
    rw [e 105 (by decide), e 106 (by decide), e 97 (by decide)]
    exact ht
theorem jH.mv (h : jH M) (e : ∀ r, (r < 67 ∨ 71 < r) → M1 r = M r) : jH M1 := by
  obtain ⟨⟨h1, h2, h3, h4, h5, h6⟩, h7, h8⟩ := h
  refine ⟨⟨h1.sm (fun r hr => e r (by omega)), ?_, ?_, ?_, ?_, ?_⟩, ?_, ?_⟩
  · rw [e 98 (by omega)]; exact h2.fr (fun r hr => e r (by omega)) (fun _ _ => rfl)
  · unfold hTb at h3 ⊢
    rw [e 10 (by omega), e 12 (by omega), e 14 (by omega), e 16 (by omega), e 18 (by omega), e 20 (by omega), e 22 (by omega), e 24 (by omega)]
    exact h3
  · rw [e 61 (by omega)]; exact h4
  · rw [e 63 (by omega)]; exact h5
  · rw [e 65 (by omega)]; exact h6
  · rw [e 77 (by omega)]; exact h7
  · unfold pCon at h8 ⊢
    rw [e 78 (by omega)]
    exact h8
theorem mH.mv (h : mH M P Q) (e98 : M1 98 = M 98) (hI : qMI M1) : mH M1 P Q := by
  obtain ⟨-, h2⟩ := h
  refine ⟨hI, ?_⟩
  unfold jMs jMd qA at h2 ⊢
  rw [e98]
  exact h2
theorem jCs.mv (h : jCs M P Q) (e : M1 98 = M 98) (e7 : M1 78 = M 78) (e2 : M1 23 = M 23) : jCs M1 P Q := by
  unfold jCs jCd at h ⊢
  rw [e, e7, e2]
  exact h
theorem jg69 (t : M 68 0 = 1 ∧ M 68 1 = 81) {b : Int} (hb : 0 ≤ b ∧ b < 81) : hR_get M 68 0 b = M 69 b.toNat := by
  unfold hR_get
  rw [if_neg (by omega), if_neg (by omega), if_neg (by omega), if_pos (by omega), t.2, w32_id (x := 0 * 81) (by omega), w32_id (by omega), show (0 * 81 + b).toNat = b.toNat by omega]
noncomputable def jTe (Mo : zM) (P : Int → List Int) (a2 a3 a4 a5 : Int) : eEn := if a3 = -1 then jEa (jAl Mo (hCt Mo a5 (-1) (Mo 98 4).toNat (Mo 98 4).toNat) a2 (jPs Mo (hCt Mo a5 (-1) (Mo 98 4).toNat (Mo 98 4).toNat) a2 (P (oBi (Mo 98) a2 a4)) (Mo 98 0).toNat) (Mo 98 0).toNat) 0 else jEc Mo (hCt Mo a5 (-1) (Mo 98 4).toNat (Mo 98 4).toNat) a2 a3.toNat (jPs Mo (hCt Mo a5 (-1) (Mo 98 4).toNat (Mo 98 4).toNat) a2 (P (oBi (Mo 98) a2 a4)) (Mo 98 0).toNat)
noncomputable def jTl (Mo : zM) (P : Int → List Int) (a1 a2 a3 a4 a5 : Int) : Int := if (0 ≤ a1 ∧ a1 ≤ 7) ∧ (0 ≤ a2 ∧ a2 < Mo 98 1) ∧ (-1 ≤ a3 ∧ a3 < Mo 98 0) ∧ (0 ≤ a4 ∧ a4 ≤ 9999) ∧ 0 ≤ a5 ∧ a5 ≤ 9999 then (if xFt (xc Mo a1) (xL Mo a1) = -1 then eVal (jTe Mo P a2 a3 a4 a5) (xTd (xc Mo a1) (xL Mo a1)) else -3000000000000000000) else -2000000000000000000
end JT
theorem eLn_un {s e : Nat} {kd v op : Int} {W O : List Int} (h : W.length + O.length ≤ e) (h1 : kd ≠ 25 → W.length + O.length + 1 ≤ e) : (xUn s e kd v op W O).2.2.2.1.length + (xUn s e kd v op W O).2.2.2.2.1.length ≤ (xUn s e kd v op W O).1 := by
  unfold xUn
  (repeat' split) <;> (simp only [List.length_cons]; omega)
theorem eLn_bh {s e : Nat} {kd op : Int} {W O : List Int} (h : W.length + O.length ≤ e) (h1 : kd ≠ 25 → W.length + O.length + 1 ≤ e) : (xBh s e kd op W O).2.2.2.1.length + (xBh s e kd op W O).2.2.2.2.1.length ≤ (xBh s e kd op W O).1 := by
  have l3 := xrE_len 3 W O
  have l1 := xrE_len 1 (xrE 3 W O).1 (xrE 3 W O).2
  have l6 := xrE_len 6 W O
  have lk := xrE_len (xrK kd) W O
  unfold xBh
  (repeat' split) <;> (simp only [List.length_cons, List.length_tail, List.length_nil]; omega)
theorem eLn_it (c : Nat → Int) (L : Nat) : ∀ t : Nat, (xIt c L t).2.2.2.1.length + (xIt c L t).2.2.2.2.1.length ≤ (xIt c L t).1
  | 0 => Nat.le_refl 0
  | t + 1 => by
    have q := eLn_it c L t
    have hl := xIt_le c L t
    show (xSp c L (xIt c L t)).2.2.2.1.length + (xSp c L (xIt c L t)).2.2.2.2.1.length ≤ (xSp c L (xIt c L t)).1
    have rb := xrB_r c (L - (xIt c L t).1) (xIt c L t).1
    have re := xEn_r c (L := L) (s := xrB c (L - (xIt c L t).1) (xIt c L t).1) (by omega)
    unfold xSp
    split
    · exact q
    · split
      · show (xIt c L t).2.2.2.1.length + (xIt c L t).2.2.2.2.1.length ≤ xEn c L (xrB c (L - (xIt c L t).1) (xIt c L t).1)
        have := re.1
        omega
      · split
        · exact eLn_un (by have := re.1; omega) (fun k => by have := re.2.2 k; omega)
        · exact eLn_bh (by have := re.1; omega) (fun k => by have := re.2.2 k; omega)
theorem xTd_ln {c : Nat → Int} {L : Nat} (hL : L ≤ 80) (h : xFt c L = -1) : (xTd c L).length ≤ 80 := by
  have q := eLn_it c L 81
  have q2 := xIt_le c L 81
  rw [xTd_81]
  generalize xIt c L 81 = S at q q2 ⊢
  omega
theorem xL_le {M : zM} {a : Int} (h : xP M a) : xL M a ≤ 80 := by
  have q := h.1.txt a (3350 + 81 * a) (by have := h.2.2.2.2.2.1; omega) rfl
  rw [show (3350 + 81 * a).toNat = 3350 + 81 * a.toNat by have := h.2.2.2.2.2.1; omega] at q
  unfold xL
  omega
theorem xTd_len {M : zM} {a : Int} (h : xP M a) (hF : xFt (xc M a) (xL M a) = -1) : (xTd (xc M a) (xL M a)).length ≤ 80 := xTd_ln (xL_le h) hF
set_option maxRecDepth 100000 in
theorem fh_151_8 {n : Nat} {M : zM} (hj : jH M) (hr3 : 0 ≤ M 72 3 ∧ M 72 3 ≤ 14) {P Q : Int → List Int} (hc : jCs M P Q) (hxp : ∀ a : Int, 0 ≤ a ∧ a ≤ 7 → xP M a) (t70 : M 70 0 = 80 ∧ M 70 1 = 1) (a1 a2 a3 a4 a5 : Int) : zH n (0, 0) 151 (0, zini [zR 8, .inl a1, .inl a2, .inl a3, .inl a4, .inl a5] 7, []) M (fun r M' => ∃ Mo : zM, (∀ r, (r < 67 ∨ 71 < r) → Mo r = M r) ∧ r = some (.inr (.inl (jTl Mo P a1 a2 a3 a4 a5)))) := by
  have hz := zp_151
  show zH n (0, 0) 151 (0, [zR 8, .inl a1, .inl a2, .inl a3, .inl a4, .inl a5, zN], []) M _
  have k1 : M 12 3 = M 98 1 := hj.1.2.1.2.1.1
  have k0 : M 10 3 = M 98 0 := hj.1.2.1.1.1
  have hn0 := hj.1.1.cnt0
  have hn1 := hj.1.1.cnt1
  refine zH_wE (c1 := (4, [zR 8, .inl a1, .inl a2, .inl a3, .inl a4, .inl a5, zN], [])) 1 hz zp_173 (fh_173 a1) (by rfl) ?_
  show zH n (0, 0) 151 (4, [zR 8, .inl a1, .inl a2, .inl a3, .inl a4, .inl a5, zN], [.inl (hf_173 M a1)]) M _
  obtain ⟨x1, hx1⟩ : ∃ x : Int, x = (hf_173 M a1) := ⟨_, rfl⟩
  rw [← hx1]
  refine zH_if_eq hz rfl (fun hb4 => ?_) (fun hb4 => ?_)
  · skip
    rw [hx1, hq_173] at hb4
    refine zH_w (c' := (38, [zR 8, .inl a1, .inl a2, .inl a3, .inl a4, .inl a5, zN], [.inr (.inl (-2000000000000000000))])) 1 hz rfl ?_
    exact zH_wr (r := some (.inr (.inl (-2000000000000000000)))) 0 hz (by rfl) (⟨M, fun _ _ => rfl, by unfold jTl; rw [if_neg (by omega)]⟩)
  · skip
    rw [hx1, hq_173] at hb4
    refine zH_w (c' := (9, [zR 8, .inl a1, .inl a2, .inl a3, .inl a4, .inl a5, zN], [.inl a2, zR 8])) 2 hz rfl ?_
    refine zH_wE (c1 := (12, [zR 8, .inl a1, .inl a2, .inl a3, .inl a4, .inl a5, zN], [])) 0 hz zp_174 (fh_174_8 a2) (by rfl) ?_
    show zH n (0, 0) 151 (12, [zR 8, .inl a1, .inl a2, .inl a3, .inl a4, .inl a5, zN], [.inl (hf_174_8 M a2)]) M _
    obtain ⟨x2, hx2⟩ : ∃ x : Int, x = (hf_174_8 M a2) := ⟨_, rfl⟩
    rw [← hx2]
    refine zH_if_eq hz rfl (fun hb12 => ?_) (fun hb12 => ?_)
    · skip
      rw [hx2, hq_174] at hb12
      refine zH_w (c' := (38, [zR 8, .inl a1, .inl a2, .inl a3, .inl a4, .inl a5, zN], [.inr (.inl (-2000000000000000000))])) 1 hz rfl ?_
      exact zH_wr (r := some (.inr (.inl (-2000000000000000000)))) 0 hz (by rfl) (⟨M, fun _ _ => rfl, by unfold jTl; rw [if_neg (by omega)]⟩)
    · skip
      rw [hx2, hq_174] at hb12
      refine zH_w (c' := (24, [zR 8, .inl a1, .inl a2, .inl a3, .inl a4, .inl a5, zN], [zR 10, .inl (-1), .inl a3])) 5 hz rfl ?_
      refine zH_wE (c1 := (27, [zR 8, .inl a1, .inl a2, .inl a3, .inl a4, .inl a5, zN], [.inl (-1), .inl a3])) 0 hz zp_101 (fh_101_10) (by rfl) ?_
      show zH n (0, 0) 151 (27, [zR 8, .inl a1, .inl a2, .inl a3, .inl a4, .inl a5, zN], [.inl (hR_size M 10), .inl (-1), .inl a3]) M _
      rw [show (hR_size M 10) = M 98 0 from k0]
      refine zH_w (c' := (29, [zR 8, .inl a1, .inl a2, .inl a3, .inl a4, .inl a5, zN], [.inl (w32 ((M 98 0) - 1)), .inl (-1), .inl a3])) 2 hz rfl ?_
      rw [show w32 ((M 98 0) - 1) = M 98 0 - 1 from w32_id (by omega)]
      refine zH_wE (c1 := (32, [zR 8, .inl a1, .inl a2, .inl a3, .inl a4, .inl a5, zN], [])) 0 hz zp_169 (fh_169 a3 (-1) (M 98 0 - 1)) (by rfl) ?_
      show zH n (0, 0) 151 (32, [zR 8, .inl a1, .inl a2, .inl a3, .inl a4, .inl a5, zN], [.inl (hf_169 M a3 (-1) (M 98 0 - 1))]) M _
      obtain ⟨x3, hx3⟩ : ∃ x : Int, x = (hf_169 M a3 (-1) (M 98 0 - 1)) := ⟨_, rfl⟩
      rw [← hx3]
      refine zH_if_ne hz rfl (fun hb32 => ?_) (fun hb32 => ?_)
      · skip
        rw [hx3, hq_169] at hb32
        refine zH_w (c' := (41, [zR 8, .inl a1, .inl a2, .inl a3, .inl a4, .inl a5, zN], [.inl a4])) 1 hz rfl ?_
        refine zH_wE (c1 := (44, [zR 8, .inl a1, .inl a2, .inl a3, .inl a4, .inl a5, zN], [])) 0 hz zp_170 (fh_170 a4) (by rfl) ?_
        show zH n (0, 0) 151 (44, [zR 8, .inl a1, .inl a2, .inl a3, .inl a4, .inl a5, zN], [.inl (hf_170 M a4)]) M _
        obtain ⟨x4, hx4⟩ : ∃ x : Int, x = (hf_170 M a4) := ⟨_, rfl⟩
        rw [← hx4]
        refine zH_if_eq hz rfl (fun hb44 => ?_) (fun hb44 => ?_)
        · skip
          rw [hx4, hq_170] at hb44
          refine zH_w (c' := (58, [zR 8, .inl a1, .inl a2, .inl a3, .inl a4, .inl a5, zN], [.inr (.inl (-2000000000000000000))])) 1 hz rfl ?_
          exact zH_wr (r := some (.inr (.inl (-2000000000000000000)))) 0 hz (by rfl) (⟨M, fun _ _ => rfl, by unfold jTl; rw [if_neg (by omega)]⟩)
        · skip
          rw [hx4, hq_170] at hb44
          refine zH_w (c' := (49, [zR 8, .inl a1, .inl a2, .inl a3, .inl a4, .inl a5, zN], [.inl a5])) 1 hz rfl ?_
          refine zH_wE (c1 := (52, [zR 8, .inl a1, .inl a2, .inl a3, .inl a4, .inl a5, zN], [])) 0 hz zp_170 (fh_170 a5) (by rfl) ?_
          show zH n (0, 0) 151 (52, [zR 8, .inl a1, .inl a2, .inl a3, .inl a4, .inl a5, zN], [.inl (hf_170 M a5)]) M _
          obtain ⟨x5, hx5⟩ : ∃ x : Int, x = (hf_170 M a5) := ⟨_, rfl⟩
          rw [← hx5]
          refine zH_if_ne hz rfl (fun hb52 => ?_) (fun hb52 => ?_)
          · skip
            rw [hx5, hq_170] at hb52
            refine zH_w (c' := (64, [zR 8, .inl a1, .inl a2, .inl a3, .inl a4, .inl a5, zN], [.inl a1, zR 67])) 3 hz rfl ?_
            refine zH_wC (c1 := (67, [zR 8, .inl a1, .inl a2, .inl a3, .inl a4, .inl a5, zN], [])) 0 hz zp_75 (fh_75_67 a1 (hxp a1 (by omega)) t70) (by rfl) ?_
            rintro _ M1 ⟨rfl, hRl⟩
            show zH n (0, 0) 151 (67, [zR 8, .inl a1, .inl a2, .inl a3, .inl a4, .inl a5, zN], [.inl ((xIt (xc M a1) (xL M a1) 81).2.2.2.2.2.1)]) M1 _
            rw [← xFt_81]
            refine zH_w (c' := (68, [zR 8, .inl a1, .inl a2, .inl a3, .inl a4, .inl a5, zN], [.inl (-1), .inl (xFt (xc M a1) (xL M a1))])) 1 hz rfl ?_
            refine zH_wi_eq (pc := 68) (n' := 71) (t := 75) (L := [zR 8, .inl a1, .inl a2, .inl a3, .inl a4, .inl a5, zN]) (st := []) (x := (xFt (xc M a1) (xL M a1))) (y := (-1)) 0 hz (by rfl) (fun hb68 => ?_) (fun hb68 => ?_)
            · skip
              have hRl2 := hRl.2.1
              have ef : ∀ r, (r < 67 ∨ 71 < r) → M1 r = M r := fun r hr => hRl2 r (by omega) (by omega) (by omega) (by omega)
              have e98 := ef 98 (by omega)
              have exc : xc M1 a1 = xc M a1 := funext fun j => congrFun e98 _
              have exL : xL M1 a1 = xL M a1 := congrArg Int.toNat (congrFun e98 _)
              have hxs := (hRl.2.2 (by rw [← xFt_81]; exact hb68)).1
              have hF1 : xFt (xc M1 a1) (xL M1 a1) = -1 := by rw [exc, exL]; exact hb68
              have hO1 : M1 69 0 = (((xTd (xc M1 a1) (xL M1 a1)).length : Nat) : Int) ∧ xC (M1 69) (xTd (xc M1 a1) (xL M1 a1)) := by rw [exc, exL, xTd_81]; exact hxs.2.2.2
              have hL1 : xL M1 a1 ≤ 80 := by rw [exL]; exact xL_le (hxp a1 (by omega))
              have hin := xTd_in hL1 hF1
              have hj1 := hj.mv ef
              have hc1 := hc.mv e98 (ef 78 (by omega)) (ef 23 (by omega))
              have hln : (xTd (xc M1 a1) (xL M1 a1)).length ≤ 80 := by rw [exc, exL]; exact xTd_len (hxp a1 (by omega)) hb68
              have t68 : M1 68 0 = 1 ∧ M1 68 1 = 81 := by rw [hRl2 68 (by decide) (by decide) (by decide) (by decide)]; exact (hxp a1 (by omega)).2.2.2.2.1
              have hs1 : 0 ≤ a2 ∧ a2 < M1 98 1 := by rw [e98]; omega
              have z0 : M1 98 0 = M 98 0 := congrFun e98 0
              obtain ⟨O9, hO9⟩ : ∃ O9, O9 = (xTd (xc M1 a1) (xL M1 a1)) := ⟨_, rfl⟩
              rw [← hO9] at hO1 hin hln
              clear hxs hRl
              have hAs : (0 ≤ a1 ∧ a1 ≤ 7) ∧ (0 ≤ a2 ∧ a2 < M1 98 1) ∧ (-1 ≤ a3 ∧ a3 < M1 98 0) ∧ (0 ≤ a4 ∧ a4 ≤ 9999) ∧ 0 ≤ a5 ∧ a5 ≤ 9999 := ⟨by omega, hs1, by omega, by omega, by omega, by omega⟩
              refine zH_w (c' := (82, [zR 8, .inl a1, .inl a2, .inl a3, .inl a4, .inl a5, zN], [.inl (-1), .inl a5, zR 60])) 4 hz rfl ?_
              refine zH_wC (c1 := (85, [zR 8, .inl a1, .inl a2, .inl a3, .inl a4, .inl a5, zN], [])) 0 hz zp_41 (fh_41_60 hj1.1 a5 (-1)) (by rfl) ?_
              rintro _ M2 ⟨rfl, hG2⟩
              show zH n (0, 0) 151 (85, [zR 8, .inl a1, .inl a2, .inl a3, .inl a4, .inl a5, zN], []) M2 _
              have hk2 := jK.of hj1.1 (M := M2) (by rw [hG2.1 72 (by decide) (by decide) (by decide) (by decide), ef 72 (by omega)]; exact hr3) hG2
              refine zH_wC (c1 := (95, [zR 8, .inl a1, .inl a2, .inl a3, .inl a4, .inl a5, zN], [])) 4 hz zp_32 (fh_32_76 hj1 hk2 a2 a4 hs1 (hj1.bi (s := a2) hs1 a4).1 (hc1.at hj1 (s := a2) hs1 a4).1) (by rfl) ?_
              rintro _ M3 ⟨rfl, hk3⟩
              show zH n (0, 0) 151 (95, [zR 8, .inl a1, .inl a2, .inl a3, .inl a4, .inl a5, zN], [.inl (jPs M1 (hCt M1 a5 (-1) (M1 98 4).toNat (M1 98 4).toNat) a2 (P (oBi (M1 98) a2 a4)) (M1 98 0).toNat)]) M3 _
              refine zH_wi_ne (pc := 99) (n' := 102) (t := 115) (L := [zR 8, .inl a1, .inl a2, .inl a3, .inl a4, .inl a5, .inl (jPs M1 (hCt M1 a5 (-1) (M1 98 4).toNat (M1 98 4).toNat) a2 (P (oBi (M1 98) a2 a4)) (M1 98 0).toNat)]) (st := []) (x := a3) (y := (-1)) 3 hz (by rfl) (fun hb99 => ?_) (fun hb99 => ?_)
              · skip
                refine zH_wC (c1 := (126, [zR 8, .inl a1, .inl a2, .inl a3, .inl a4, .inl a5, .inl (jPs M1 (hCt M1 a5 (-1) (M1 98 4).toNat (M1 98 4).toNat) a2 (P (oBi (M1 98) a2 a4)) (M1 98 0).toNat)], [])) 5 hz zp_38 (fh_38_76 hj1 hk3 a2 a3 (jPs M1 (hCt M1 a5 (-1) (M1 98 4).toNat (M1 98 4).toNat) a2 (P (oBi (M1 98) a2 a4)) (M1 98 0).toNat) (c := a3.toNat) (by omega) (by omega) hs1) (by rfl) ?_
                rintro _ M4 ⟨rfl, hk4, he4⟩
                show zH n (0, 0) 151 (126, [zR 8, .inl a1, .inl a2, .inl a3, .inl a4, .inl a5, .inl (jPs M1 (hCt M1 a5 (-1) (M1 98 4).toNat (M1 98 4).toNat) a2 (P (oBi (M1 98) a2 a4)) (M1 98 0).toNat)], []) M4 _
                have eT : jTe M1 P a2 a3 a4 a5 = jEc M1 (hCt M1 a5 (-1) (M1 98 4).toNat (M1 98 4).toNat) a2 a3.toNat (jPs M1 (hCt M1 a5 (-1) (M1 98 4).toNat (M1 98 4).toNat) a2 (P (oBi (M1 98) a2 a4)) (M1 98 0).toNat) := if_neg (by omega)
                rw [← eT] at he4
                refine zH_w (c' := (134, [zR 8, .inl a1, .inl a2, .inl a3, .inl a4, .inl a5, .inl (jPs M1 (hCt M1 a5 (-1) (M1 98 4).toNat (M1 98 4).toNat) a2 (P (oBi (M1 98) a2 a4)) (M1 98 0).toNat)], [zR 67, zR 72])) 4 hz rfl ?_
                refine zH_wE (c1 := (137, [zR 8, .inl a1, .inl a2, .inl a3, .inl a4, .inl a5, .inl (jPs M1 (hCt M1 a5 (-1) (M1 98 4).toNat (M1 98 4).toNat) a2 (P (oBi (M1 98) a2 a4)) (M1 98 0).toNat)], [zR 72])) 0 hz zp_74 (fh_74_67) (by rfl) ?_
                show zH n (0, 0) 151 (137, [zR 8, .inl a1, .inl a2, .inl a3, .inl a4, .inl a5, .inl (jPs M1 (hCt M1 a5 (-1) (M1 98 4).toNat (M1 98 4).toNat) a2 (P (oBi (M1 98) a2 a4)) (M1 98 0).toNat)], [zR 68, zR 72]) M4 _
                have e68 : M4 68 = M1 68 := hk4.1 68 (by decide) (by decide) (by decide) (by decide) (by decide) (by decide) (by decide) (by decide) (by decide)
                have e69 : M4 69 = M1 69 := hk4.1 69 (by decide) (by decide) (by decide) (by decide) (by decide) (by decide) (by decide) (by decide) (by decide)
                have t684 : M4 68 0 = 1 ∧ M4 68 1 = 81 := by rw [e68]; exact t68
                refine zH_wC (c1 := (143, [zR 8, .inl a1, .inl a2, .inl a3, .inl a4, .inl a5, .inl (jPs M1 (hCt M1 a5 (-1) (M1 98 4).toNat (M1 98 4).toNat) a2 (P (oBi (M1 98) a2 a4)) (M1 98 0).toNat)], [])) 3 hz zp_62 (fh_62_68 hk4.2.2.2.2 (O := O9) (g := M1 69) hln hin.1 0 0 0 (by rw [jg69 t684 (by decide), e69]; exact hO1.1) (fun j j1 j2 => by rw [w32_id (by omega), jg69 t684 (by omega), e69, show ((0 : Int) + (j : Int)).toNat = j by omega]) hO1.2) (by rfl) ?_
                rintro _ M5 ⟨rfl, f5, g5, u5⟩
                show zH n (0, 0) 151 (143, [zR 8, .inl a1, .inl a2, .inl a3, .inl a4, .inl a5, .inl (jPs M1 (hCt M1 a5 (-1) (M1 98 4).toNat (M1 98 4).toNat) a2 (P (oBi (M1 98) a2 a4)) (M1 98 0).toNat)], [.inr (.inl (eVal (eCl M4 0) O9))]) M5 _
                rw [show eVal (eCl M4 0) O9 = eVal (jTe M1 P a2 a3 a4 a5) O9 from congrArg (fun s => s.headD 0) (eRun_cg he4 O9)]
                exact zH_ret hz rfl rfl (⟨M1, ef, by unfold jTl; rw [if_pos hAs, if_pos hF1, hO9]⟩)
              · skip
                refine zH_wC (c1 := (112, [zR 8, .inl a1, .inl a2, .inl a3, .inl a4, .inl a5, .inl (jPs M1 (hCt M1 a5 (-1) (M1 98 4).toNat (M1 98 4).toNat) a2 (P (oBi (M1 98) a2 a4)) (M1 98 0).toNat)], [])) 4 hz zp_39 (fh_39_76 hj1 hk3 a2 (jPs M1 (hCt M1 a5 (-1) (M1 98 4).toNat (M1 98 4).toNat) a2 (P (oBi (M1 98) a2 a4)) (M1 98 0).toNat) hs1 (jPs_r M1 (hCt M1 a5 (-1) (M1 98 4).toNat (M1 98 4).toNat) a2 (P (oBi (M1 98) a2 a4)) (M1 98 0).toNat (by omega))) (by rfl) ?_
                rintro _ M4 ⟨rfl, hk4, he4a, -⟩
                show zH n (0, 0) 151 (112, [zR 8, .inl a1, .inl a2, .inl a3, .inl a4, .inl a5, .inl (jPs M1 (hCt M1 a5 (-1) (M1 98 4).toNat (M1 98 4).toNat) a2 (P (oBi (M1 98) a2 a4)) (M1 98 0).toNat)], []) M4 _
                have he4 := he4a 0
                have eT : jTe M1 P a2 a3 a4 a5 = jEa (jAl M1 (hCt M1 a5 (-1) (M1 98 4).toNat (M1 98 4).toNat) a2 (jPs M1 (hCt M1 a5 (-1) (M1 98 4).toNat (M1 98 4).toNat) a2 (P (oBi (M1 98) a2 a4)) (M1 98 0).toNat) (M1 98 0).toNat) 0 := if_pos (by omega)
                rw [← eT] at he4
                refine zH_w (c' := (134, [zR 8, .inl a1, .inl a2, .inl a3, .inl a4, .inl a5, .inl (jPs M1 (hCt M1 a5 (-1) (M1 98 4).toNat (M1 98 4).toNat) a2 (P (oBi (M1 98) a2 a4)) (M1 98 0).toNat)], [zR 67, zR 72])) 5 hz rfl ?_
                refine zH_wE (c1 := (137, [zR 8, .inl a1, .inl a2, .inl a3, .inl a4, .inl a5, .inl (jPs M1 (hCt M1 a5 (-1) (M1 98 4).toNat (M1 98 4).toNat) a2 (P (oBi (M1 98) a2 a4)) (M1 98 0).toNat)], [zR 72])) 0 hz zp_74 (fh_74_67) (by rfl) ?_
                show zH n (0, 0) 151 (137, [zR 8, .inl a1, .inl a2, .inl a3, .inl a4, .inl a5, .inl (jPs M1 (hCt M1 a5 (-1) (M1 98 4).toNat (M1 98 4).toNat) a2 (P (oBi (M1 98) a2 a4)) (M1 98 0).toNat)], [zR 68, zR 72]) M4 _
                have e68 : M4 68 = M1 68 := hk4.1 68 (by decide) (by decide) (by decide) (by decide) (by decide) (by decide) (by decide) (by decide) (by decide)
                have e69 : M4 69 = M1 69 := hk4.1 69 (by decide) (by decide) (by decide) (by decide) (by decide) (by decide) (by decide) (by decide) (by decide)
                have t684 : M4 68 0 = 1 ∧ M4 68 1 = 81 := by rw [e68]; exact t68
                refine zH_wC (c1 := (143, [zR 8, .inl a1, .inl a2, .inl a3, .inl a4, .inl a5, .inl (jPs M1 (hCt M1 a5 (-1) (M1 98 4).toNat (M1 98 4).toNat) a2 (P (oBi (M1 98) a2 a4)) (M1 98 0).toNat)], [])) 3 hz zp_62 (fh_62_68 hk4.2.2.2.2 (O := O9) (g := M1 69) hln hin.1 0 0 0 (by rw [jg69 t684 (by decide), e69]; exact hO1.1) (fun j j1 j2 => by rw [w32_id (by omega), jg69 t684 (by omega), e69, show ((0 : Int) + (j : Int)).toNat = j by omega]) hO1.2) (by rfl) ?_
                rintro _ M5 ⟨rfl, f5, g5, u5⟩
                show zH n (0, 0) 151 (143, [zR 8, .inl a1, .inl a2, .inl a3, .inl a4, .inl a5, .inl (jPs M1 (hCt M1 a5 (-1) (M1 98 4).toNat (M1 98 4).toNat) a2 (P (oBi (M1 98) a2 a4)) (M1 98 0).toNat)], [.inr (.inl (eVal (eCl M4 0) O9))]) M5 _
                rw [show eVal (eCl M4 0) O9 = eVal (jTe M1 P a2 a3 a4 a5) O9 from congrArg (fun s => s.headD 0) (eRun_cg he4 O9)]
                exact zH_ret hz rfl rfl (⟨M1, ef, by unfold jTl; rw [if_pos hAs, if_pos hF1, hO9]⟩)
            · skip
              exact zH_wr (r := some (.inr (.inl (-3000000000000000000)))) 1 hz (by rfl) (⟨M, fun _ _ => rfl, by unfold jTl; rw [if_pos ⟨by omega, by omega, by omega, by omega, by omega, by omega⟩, if_neg hb68]⟩)
          · skip
            rw [hx5, hq_170] at hb52
            refine zH_w (c' := (58, [zR 8, .inl a1, .inl a2, .inl a3, .inl a4, .inl a5, zN], [.inr (.inl (-2000000000000000000))])) 1 hz rfl ?_
            exact zH_wr (r := some (.inr (.inl (-2000000000000000000)))) 0 hz (by rfl) (⟨M, fun _ _ => rfl, by unfold jTl; rw [if_neg (by omega)]⟩)
      · skip
        rw [hx3, hq_169] at hb32
        refine zH_w (c' := (38, [zR 8, .inl a1, .inl a2, .inl a3, .inl a4, .inl a5, zN], [.inr (.inl (-2000000000000000000))])) 1 hz rfl ?_
        exact zH_wr (r := some (.inr (.inl (-2000000000000000000)))) 0 hz (by rfl) (⟨M, fun _ _ => rfl, by unfold jTl; rw [if_neg (by omega)]⟩)
theorem mTx {Mo : zM} (hI : qMI Mo) {a1 : Int} (h7 : 0 ≤ a1 ∧ a1 ≤ 7) : Mo 98 (3350 + 81 * a1.toNat) = (xL Mo a1 : Int) ∧ xL Mo a1 ≤ 80 ∧ ∀ j, j < xL Mo a1 → Mo 98 (3350 + 81 * a1.toNat + 1 + j) = xc Mo a1 j := by
  have q := hI.txt a1 (3350 + 81 * a1) (by omega) rfl
  rw [show (3350 + 81 * a1).toNat = 3350 + 81 * a1.toNat by omega] at q
  refine ⟨by unfold xL; omega, by unfold xL; omega, fun j _ => ?_⟩
  unfold xc
  rw [show 3350 + 81 * a1.toNat + 1 + j = 3351 + 81 * a1.toNat + j by omega]
theorem m231f {n : Nat} {Mo M : zM} (hI : qMI Mo) (hM : qMI M) (e98 : M 98 = Mo 98) {a1 : Int} (h7 : 0 ≤ a1 ∧ a1 ≤ 7) (a : Int) (ha : a = 3350 + 81 * a1) : zH n (0, 0) 231 (0, zini [zR 97, .inl a] 8, []) M (fun r M' => r = some (.inl (xFt (xc Mo a1) (xL Mo a1))) ∧ qMI M' ∧ M' 98 = Mo 98) := by
  obtain ⟨h1, h2, h3⟩ := mTx hI h7
  refine (zG.toH (zG.andH (qm_231_97 (d := 100) (by decide) hM a (by omega) (hM.txt a1 a (by omega) ha)) (fh_231_97 (Mo := M) (c := xc Mo a1) (L := xL Mo a1) (b := 3350 + 81 * a1.toNat) (by rw [e98]; exact h1) h2 (by omega) (fun j hj => by rw [e98]; exact h3 j hj) (fun _ _ _ _ _ => rfl) (fun _ _ => rfl) a (by omega)))).mono (fun r M' h => ?_)
  obtain ⟨⟨⟨q1, -⟩, -⟩, q3, q4, -⟩ := h
  exact ⟨q3, q1, (q4 98 (by decide) (by decide) (by decide) (by decide)).trans e98⟩
set_option maxRecDepth 100000 in
theorem m231g {n : Nat} {Mo M : zM} (hI : qMI Mo) (e98 : M 98 = Mo 98) {a1 : Int} (h7 : 0 ≤ a1 ∧ a1 ≤ 7) (hF : xFt (xc Mo a1) (xL Mo a1) = -1) (a : Int) (ha : a = 3350 + 81 * a1) : zH n (0, 0) 231 (0, zini [zR 97, .inl a] 8, []) M (fun r M' => r = some (.inl (-1)) ∧ (∀ r, r ≠ 97 → r ≠ 105 → r ≠ 106 → r ≠ 107 → M' r = M r) ∧ (∀ j, 17 ≤ j → M' 97 j = M 97 j) ∧ mT (xTd (xc Mo a1) (xL Mo a1)) M') := by
  obtain ⟨h1, h2, h3⟩ := mTx hI h7
  refine (fh_231_97 (Mo := M) (c := xc Mo a1) (L := xL Mo a1) (b := 3350 + 81 * a1.toNat) (by rw [e98]; exact h1) h2 (by omega) (fun j hj => by rw [e98]; exact h3 j hj) (fun _ _ _ _ _ => rfl) (fun _ _ => rfl) a (by omega)).mono (fun r M' h => ?_)
  obtain ⟨hr, hy, hs⟩ := h
  obtain ⟨s1, s2, s3, s4, s5⟩ := hs hF
  have hm : mT (xTd (xc Mo a1) (xL Mo a1)) M' := by rw [xTd_81]; exact ⟨s2.1, s4⟩
  exact ⟨hr.trans (by rw [hF]), hy, s5, hm⟩
set_option maxRecDepth 100000 in
theorem fh_256_97 {n : Nat} {M : zM} {Mo : zM} (hM : qMI M) (e98 : M 98 = Mo 98) {P Q : Int → List Int} (hH : mH Mo P Q) (a1 a2 a3 a4 a5 : Int) : zH n (0, 0) 256 (0, zini [zR 97, .inl a1, .inl a2, .inl a3, .inl a4, .inl a5] 6, []) M (fun r M' => r = some (.inr (.inl (jTl Mo P a1 a2 a3 a4 a5)))) := by
  have hz := zp_256
  show zH n (0, 0) 256 (0, [zR 97, .inl a1, .inl a2, .inl a3, .inl a4, .inl a5], []) M _
  have hz1 : M 98 1 = Mo 98 1 := congrFun e98 1
  have hz0 : M 98 0 = Mo 98 0 := congrFun e98 0
  have hn0 := hH.1.cnt0
  have hn1 := hH.1.cnt1
  refine zH_wE (c1 := (4, [zR 97, .inl a1, .inl a2, .inl a3, .inl a4, .inl a5], [])) 1 hz zp_252 (fh_252 a1) (by rfl) ?_
  show zH n (0, 0) 256 (4, [zR 97, .inl a1, .inl a2, .inl a3, .inl a4, .inl a5], [.inl (hf_252 M a1)]) M _
  obtain ⟨x1, hx1⟩ : ∃ x : Int, x = (hf_252 M a1) := ⟨_, rfl⟩
  rw [← hx1]
  refine zH_if_eq hz rfl (fun hb4 => ?_) (fun hb4 => ?_)
  · skip
    rw [hx1, hq_252] at hb4
    refine zH_w (c' := (36, [zR 97, .inl a1, .inl a2, .inl a3, .inl a4, .inl a5], [.inr (.inl (-2000000000000000000))])) 1 hz rfl ?_
    exact zH_wr (r := some (.inr (.inl (-2000000000000000000)))) 0 hz (by rfl) (by unfold jTl; rw [if_neg (by omega)])
  · skip
    rw [hx1, hq_252] at hb4
    refine zH_w (c' := (13, [zR 97, .inl a1, .inl a2, .inl a3, .inl a4, .inl a5], [.inl a5, .inl a4, .inl a2, zR 97])) 4 hz rfl ?_
    refine zH_wE (c1 := (16, [zR 97, .inl a1, .inl a2, .inl a3, .inl a4, .inl a5], [])) 0 hz zp_245 (fh_245_97 a2 a4 a5) (by rfl) ?_
    show zH n (0, 0) 256 (16, [zR 97, .inl a1, .inl a2, .inl a3, .inl a4, .inl a5], [.inl (hf_245_97 M a2 a4 a5)]) M _
    obtain ⟨x2, hx2⟩ : ∃ x : Int, x = (hf_245_97 M a2 a4 a5) := ⟨_, rfl⟩
    rw [← hx2]
    refine zH_if_eq hz rfl (fun hb16 => ?_) (fun hb16 => ?_)
    · skip
      rw [hx2, hq_245 (mBd hM), hz1] at hb16
      refine zH_w (c' := (36, [zR 97, .inl a1, .inl a2, .inl a3, .inl a4, .inl a5], [.inr (.inl (-2000000000000000000))])) 1 hz rfl ?_
      exact zH_wr (r := some (.inr (.inl (-2000000000000000000)))) 0 hz (by rfl) (by unfold jTl; rw [if_neg (by omega)])
    · skip
      rw [hx2, hq_245 (mBd hM), hz1] at hb16
      have lp37 : (-1 ≤ a3 ∧ a3 < Mo 98 0) → zH n (0, 0) 256 (37, [zR 97, .inl a1, .inl a2, .inl a3, .inl a4, .inl a5], []) M (fun r M' => r = some (.inr (.inl (jTl Mo P a1 a2 a3 a4 a5)))) := by
        intro  ha3
        refine zH_w (c' := (46, [zR 97, .inl a1, .inl a2, .inl a3, .inl a4, .inl a5], [.inl (w32 (3350 + (w32 (81 * a1)))), zR 97])) 6 hz rfl ?_
        refine zH_wC (c1 := (49, [zR 97, .inl a1, .inl a2, .inl a3, .inl a4, .inl a5], [])) 0 hz zp_231 (m231f hH.1 hM e98 (a1 := a1) (by omega) (w32 (3350 + (w32 (81 * a1)))) (by rw [w32_id (x := 81 * a1) (by omega), w32_id (by omega)])) (by rfl) ?_
        rintro _ M1 ⟨rfl, hM1, e1⟩
        show zH n (0, 0) 256 (49, [zR 97, .inl a1, .inl a2, .inl a3, .inl a4, .inl a5], [.inl (xFt (xc Mo a1) (xL Mo a1))]) M1 _
        refine zH_wi_eq (pc := 50) (n' := 53) (t := 57) (L := [zR 97, .inl a1, .inl a2, .inl a3, .inl a4, .inl a5]) (st := []) (x := (xFt (xc Mo a1) (xL Mo a1))) (y := (-1)) 1 hz (by rfl) (fun hb50 => ?_) (fun hb50 => ?_)
        · skip
          have hAs : (0 ≤ a1 ∧ a1 ≤ 7) ∧ (0 ≤ a2 ∧ a2 < Mo 98 1) ∧ (-1 ≤ a3 ∧ a3 < Mo 98 0) ∧ (0 ≤ a4 ∧ a4 ≤ 9999) ∧ 0 ≤ a5 ∧ a5 ≤ 9999 := by omega
          obtain ⟨hl0, hl1, hl2⟩ := mTx hH.1 hAs.1
          have hin := xTd_in hl1 hb50
          have hln := xTd_ln hl1 hb50
          obtain ⟨O9, hO9⟩ : ∃ O9, O9 = (xTd (xc Mo a1) (xL Mo a1)) := ⟨_, rfl⟩
          rw [← hO9] at hin hln
          refine zH_w (c' := (60, [zR 97, .inl a1, .inl a2, .inl a3, .inl a4, .inl a5], [.inl a5, zR 97])) 2 hz rfl ?_
          refine zH_wC (c1 := (63, [zR 97, .inl a1, .inl a2, .inl a3, .inl a4, .inl a5], [])) 0 hz zp_211 (fh_211 hH.1 hM1 e1 a5) (by rfl) ?_
          rintro _ M2 ⟨rfl, f2, z2⟩
          show zH n (0, 0) 256 (63, [zR 97, .inl a1, .inl a2, .inl a3, .inl a4, .inl a5], []) M2 _
          have hk2 : mK Mo (hCt Mo a5 (-1) (Mo 98 4).toNat (Mo 98 4).toNat) M2 := ⟨(f2 98 (by decide)).trans e1, z2⟩
          refine zH_wC (c1 := (70, [zR 97, .inl a1, .inl a2, .inl a3, .inl a4, .inl a5], [])) 3 hz zp_240 (fh_240_97 hk2 hH a2 a4 hAs.2.1) (by rfl) ?_
          rintro _ M3 ⟨rfl, k3⟩
          show zH n (0, 0) 256 (70, [zR 97, .inl a1, .inl a2, .inl a3, .inl a4, .inl a5], []) M3 _
          have hk3 := k3.1
          refine zH_wC (c1 := (82, [zR 97, .inl a1, .inl a2, .inl a3, .inl a4, .inl a5], [])) 6 hz zp_231 (m231g hH.1 hk3.1 hAs.1 hb50 (w32 (3350 + (w32 (81 * a1)))) (by rw [w32_id (x := 81 * a1) (by omega), w32_id (by omega)])) (by rfl) ?_
          rintro _ M4 ⟨rfl, f4, g4, hT4⟩
          show zH n (0, 0) 256 (82, [zR 97, .inl a1, .inl a2, .inl a3, .inl a4, .inl a5], [.inl (-1)]) M4 _
          rw [← hO9] at hT4
          have hk4 := hk3.mv (f4 98 (by decide) (by decide) (by decide) (by decide)) (f4 101 (by decide) (by decide) (by decide) (by decide))
          have hS4 := k3.2.2.2.1.mv (fun j q1 q2 => g4 j (by omega)) (g4 18 (by decide)) (f4 110 (by decide) (by decide) (by decide) (by decide))
          have hR4 := k3.2.2.2.2.mv (f4 102 (by decide) (by decide) (by decide) (by decide)) (f4 103 (by decide) (by decide) (by decide) (by decide)) (f4 104 (by decide) (by decide) (by decide) (by decide))
          have h194 := (g4 19 (by decide)).trans k3.2.1
          have h214 := (g4 21 (by decide)).trans k3.2.2.1
          have hpr : 0 ≤ (jPs Mo (hCt Mo a5 (-1) (Mo 98 4).toNat (Mo 98 4).toNat) a2 (P (oBi (Mo 98) a2 a4)) (Mo 98 0).toNat) ∧ (jPs Mo (hCt Mo a5 (-1) (Mo 98 4).toNat (Mo 98 4).toNat) a2 (P (oBi (Mo 98) a2 a4)) (Mo 98 0).toNat) ≤ 16383 := by
            have q1 := jPs_r Mo (hCt Mo a5 (-1) (Mo 98 4).toNat (Mo 98 4).toNat) a2 (P (oBi (Mo 98) a2 a4)) (Mo 98 0).toNat (by omega)
            have q2 := Nat.pow_le_pow_right (n := 2) (by decide) (show (Mo 98 0).toNat ≤ 14 by omega)
            omega
          refine zH_w (c' := (85, [zR 97, .inl a1, .inl a2, .inl a3, .inl a4, .inl a5], [.inl (-1), .inl a3])) 3 hz rfl ?_
          refine zH_wi_ne (pc := 85) (n' := 88) (t := 95) (L := [zR 97, .inl a1, .inl a2, .inl a3, .inl a4, .inl a5]) (st := []) (x := a3) (y := (-1)) 0 hz (by rfl) (fun hb85 => ?_) (fun hb85 => ?_)
          · skip
            have hc3 : 0 ≤ a3 := by omega
            have hl := hH.1.leans a3 (20 + 4 * a3 + 1) (by omega) rfl
            rw [show (20 + 4 * a3 + 1).toNat = 21 + 4 * a3.toNat by omega] at hl
            refine zH_w (c' := (97, [zR 97, .inl a1, .inl a2, .inl a3, .inl a4, .inl a5], [.inl a3, zR 97])) 2 hz rfl ?_
            refine zH_wC (c1 := (100, [zR 97, .inl a1, .inl a2, .inl a3, .inl a4, .inl a5], [])) 0 hz zp_238 (fh_238_97 hk4 hR4 a3 (c := a3.toNat) (by omega) (by omega) h214 hpr hl) (by rfl) ?_
            rintro _ M5 ⟨rfl, f5, g5, e5⟩
            show zH n (0, 0) 256 (100, [zR 97, .inl a1, .inl a2, .inl a3, .inl a4, .inl a5], []) M5 _
            have eT : jTe Mo P a2 a3 a4 a5 = jEc Mo (hCt Mo a5 (-1) (Mo 98 4).toNat (Mo 98 4).toNat) a2 a3.toNat (jPs Mo (hCt Mo a5 (-1) (Mo 98 4).toNat (Mo 98 4).toNat) a2 (P (oBi (Mo 98) a2 a4)) (Mo 98 0).toNat) := if_neg (by omega)
            rw [← eT] at e5
            refine zH_w (c' := (101, [zR 97, .inl a1, .inl a2, .inl a3, .inl a4, .inl a5], [zR 97])) 1 hz rfl ?_
            refine zH_wC (c1 := (104, [zR 97, .inl a1, .inl a2, .inl a3, .inl a4, .inl a5], [])) 0 hz zp_235 (fh_235_97 (O := O9) hln hin.1 hin.2 ((g5 7 (by decide)).trans hT4.1) (by rw [f5 105 (by decide) (by decide), f5 106 (by decide) (by decide)]; exact hT4.2)) (by rfl) ?_
            rintro _ M6 ⟨rfl, -, -⟩
            show zH n (0, 0) 256 (104, [zR 97, .inl a1, .inl a2, .inl a3, .inl a4, .inl a5], [.inr (.inl (eVal (eMd M5) O9))]) M6 _
            rw [show eVal (eMd M5) O9 = eVal (jTe Mo P a2 a3 a4 a5) O9 from congrArg (fun s => s.headD 0) (eRun_cg e5 O9)]
            exact zH_ret hz rfl rfl (by unfold jTl; rw [if_pos hAs, if_pos hb50, hO9])
          · skip
            have hc3 : a3 = -1 := by omega
            refine zH_wC (c1 := (92, [zR 97, .inl a1, .inl a2, .inl a3, .inl a4, .inl a5], [])) 1 hz zp_239 (fh_239_97 hS4 h194) (by rfl) ?_
            rintro _ M5 ⟨rfl, f5, g5, e5⟩
            show zH n (0, 0) 256 (92, [zR 97, .inl a1, .inl a2, .inl a3, .inl a4, .inl a5], []) M5 _
            have eT : jTe Mo P a2 a3 a4 a5 = jEa (jAl Mo (hCt Mo a5 (-1) (Mo 98 4).toNat (Mo 98 4).toNat) a2 (jPs Mo (hCt Mo a5 (-1) (Mo 98 4).toNat (Mo 98 4).toNat) a2 (P (oBi (Mo 98) a2 a4)) (Mo 98 0).toNat) (Mo 98 0).toNat) 0 := if_pos (by omega)
            rw [← eT] at e5
            have g57 := g5 7 (by decide)
            refine zH_w (c' := (101, [zR 97, .inl a1, .inl a2, .inl a3, .inl a4, .inl a5], [zR 97])) 2 hz rfl ?_
            refine zH_wC (c1 := (104, [zR 97, .inl a1, .inl a2, .inl a3, .inl a4, .inl a5], [])) 0 hz zp_235 (fh_235_97 (O := O9) hln hin.1 hin.2 ((g5 7 (by decide)).trans hT4.1) (by rw [f5 105 (by decide) (by decide), f5 106 (by decide) (by decide)]; exact hT4.2)) (by rfl) ?_
            rintro _ M6 ⟨rfl, -, -⟩
            show zH n (0, 0) 256 (104, [zR 97, .inl a1, .inl a2, .inl a3, .inl a4, .inl a5], [.inr (.inl (eVal (eMd M5) O9))]) M6 _
            rw [show eVal (eMd M5) O9 = eVal (jTe Mo P a2 a3 a4 a5) O9 from congrArg (fun s => s.headD 0) (eRun_cg e5 O9)]
            exact zH_ret hz rfl rfl (by unfold jTl; rw [if_pos hAs, if_pos hb50, hO9])
        · skip
          exact zH_wr (r := some (.inr (.inl (-3000000000000000000)))) 1 hz (by rfl) (by unfold jTl; rw [if_pos (by omega), if_neg hb50])
      refine zH_w (c' := (21, [zR 97, .inl a1, .inl a2, .inl a3, .inl a4, .inl a5], [.inl (-1), .inl a3])) 2 hz rfl ?_
      refine zH_wi_eq (pc := 21) (n' := 24) (t := 37) (L := [zR 97, .inl a1, .inl a2, .inl a3, .inl a4, .inl a5]) (st := []) (x := a3) (y := (-1)) 0 hz (by rfl) (fun hb21 => ?_) (fun hb21 => ?_)
      · skip
        refine lp37  ?_
        · omega
      · skip
        refine zH_wE (c1 := (30, [zR 97, .inl a1, .inl a2, .inl a3, .inl a4, .inl a5], [])) 3 hz zp_182 (fh_182_97 0 a3) (by rfl) ?_
        show zH n (0, 0) 256 (30, [zR 97, .inl a1, .inl a2, .inl a3, .inl a4, .inl a5], [.inl (hf_182_97 M 0 a3)]) M _
        obtain ⟨x3, hx3⟩ : ∃ x : Int, x = (hf_182_97 M 0 a3) := ⟨_, rfl⟩
        rw [← hx3]
        refine zH_if_ne hz rfl (fun hb30 => ?_) (fun hb30 => ?_)
        · skip
          rw [hx3, hq_182_0 (mBd hM), hz0] at hb30
          refine lp37  ?_
          · omega
        · skip
          rw [hx3, hq_182_0 (mBd hM), hz0] at hb30
          refine zH_w (c' := (36, [zR 97, .inl a1, .inl a2, .inl a3, .inl a4, .inl a5], [.inr (.inl (-2000000000000000000))])) 1 hz rfl ?_
          exact zH_wr (r := some (.inr (.inl (-2000000000000000000)))) 0 hz (by rfl) (by unfold jTl; rw [if_neg (by omega)])
