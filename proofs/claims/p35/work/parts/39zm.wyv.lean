/-! WAYS: THE CALLS -/
section WX
variable {L T : Nat → Nat} {N n9 W : Nat} {M M' Mo : zM}
/-- whom, what and when is asked -/
noncomputable def wOkk (Mo : zM) (N : Nat) (a1 a2 a3 a4 a5 a6 : Int) : Prop := (0 ≤ a1 ∧ a1 < Mo 98 1) ∧ (0 ≤ a2 ∧ a2 ≤ ((2 ^ N : Nat) : Int) - 1) ∧ (0 ≤ a3 ∧ a3 ≤ 2) ∧ (1 ≤ a4 ∧ a4 ≤ 4) ∧ (0 ≤ a5 ∧ a5 ≤ 9999) ∧ 0 ≤ a6 ∧ a6 ≤ 9999
/-- the courses that there are -/
noncomputable def wCo (L T : Nat → Nat) (N : Nat) : Prop := N ≤ 14 ∧ wPr L T ∧ ∀ c, c < N → 1 ≤ T c
/-- what is wanted, with what it leans on -/
noncomputable def wWd (L : Nat → Nat) (A P : Nat) : Nat := wcl L P 14 (wnp A P)
theorem wWd_N (h : wCo L T N) {A P : Nat} (hA : A < 2 ^ N) : wWd L A P = wcl L P N (wnp A P) := by
  have q := wcl_N (L := L) (P := P) (m := N) h.2.1.1 (14 - N) (wnp A P) (wnp_lt hA)
  rw [show N + (14 - N) = 14 by have := h.1; omega] at q
  exact q
theorem wWd_lt (h : wCo L T N) {A P : Nat} (hA : A < 2 ^ N) : wWd L A P < 2 ^ N := by
  rw [wWd_N h hA]
  exact wcl_lt (m := N) (fun c hc => h.2.1.1 c (by have := h.1; omega)) N _ (Nat.le_refl _) (wnp_lt hA)
theorem wN_bit {x c N : Nat} (h : x < 2 ^ N) (b : x.testBit c = true) : c < N := by
  have q := Nat.ge_two_pow_of_testBit b
  rcases Nat.lt_or_ge c N with z | z
  · exact z
  · have := Nat.pow_le_pow_right (n := 2) (by decide) z; omega
theorem wN_14 (h : wCo L T N) {x : Nat} (hx : x < 2 ^ N) : x < 2 ^ 14 := Nat.lt_of_lt_of_le hx (Nat.pow_le_pow_right (by decide) h.1)
theorem wWd_T (h : wCo L T N) {A P : Nat} (hA : A < 2 ^ N) : ∀ i, (wWd L A P).testBit i = true → 1 ≤ T i := fun i q => h.2.2 i (wN_bit (wWd_lt h hA) q)
theorem wWd_W (h : wCo L T N) {A P : Nat} (hA : A < 2 ^ N) : wWt T (wWd L A P) := ⟨wN_14 h (wWd_lt h hA), wWd_T h hA⟩
theorem wWd_n (h : wCo L T N) {A P : Nat} (hA : A < 2 ^ N) (hP : P < 2 ^ 14) : wWn L (wWd L A P) P N := by
  refine ⟨wWd_lt h hA, hP, fun i q => wcl_np 14 _ (fun j p => ((wnp_b A P j).mp p).2) i q, fun c q j r s => ?_⟩
  exact wcl_cl h.2.1.1 14 _ c (Nat.le_refl _) (by have := wN_bit (wWd_lt h hA) q; have := h.1; omega) q j r s
/-- the fewest terms -/
noncomputable def wWy (L T : Nat → Nat) (n9 W t : Nat) (x : Int) : Prop := ∃ v : Nat, x = (v : Int) ∧ v ≤ 42 ∧ wFw L T n9 W t v
theorem wWy_u {t : Nat} {x y : Int} (a : wWy L T n9 W t x) (b : wWy L T n9 W t y) : x = y := by
  obtain ⟨v, v1, -, v2⟩ := a
  obtain ⟨u, u1, -, u2⟩ := b
  rw [v1, u1, wFw_u v2 u2]
/-- the set of one term -/
noncomputable def wWt9 (L T : Nat → Nat) (n9 W t : Nat) (i x : Int) : Prop := ∃ v : Nat, v ≤ 42 ∧ wFw L T n9 W t v ∧ (((v : Int) ≤ i ∧ x = -1) ∨ (i < (v : Int) ∧ ∃ l S : Nat, wSt L T n9 (i.toNat + 1) W t l S ∧ x = (S : Int)))
theorem wWt9_u {t : Nat} {i x y : Int} (a : wWt9 L T n9 W t i x) (b : wWt9 L T n9 W t i y) : x = y := by
  obtain ⟨v, -, v2, v3⟩ := a
  obtain ⟨u, -, u2, u3⟩ := b
  have e := wFw_u v2 u2
  subst e
  rcases v3 with ⟨p1, p2⟩ | ⟨p1, l, S, p2, p3⟩ <;> rcases u3 with ⟨r1, r2⟩ | ⟨r1, l', S', r2, r3⟩
  · rw [p2, r2]
  · omega
  · omega
  · rw [p3, r3, (wSt_u _ p2 r2).2]
/-- the table that is kept -/
noncomputable def wVt (L T : Nat → Nat) (M : zM) : Prop := ∀ W n9 : Nat, M 97 31 = (W : Int) → M 97 33 = (n9 : Int) → wLf L T n9 W M
theorem wVt.mv (h : wVt L T M) (e1 : M' 97 31 = M 97 31) (e3 : M' 97 33 = M 97 33) (e : M' 114 = M 114) : wVt L T M' := fun W n9 q1 q3 => (h W n9 (e1.symm.trans q1) (e3.symm.trans q3)).mv e
theorem wk2p : ∀ k : Fin 31, zbshl 1 (k.val : Int) = ((2 ^ k.val : Nat) : Int) := by decide +kernel
theorem w2n {N : Nat} (hN : N ≤ 14) {x : Int} (hx : x = (N : Int)) : w32 (zbshl 1 x - 1) = ((2 ^ N : Nat) : Int) - 1 ∧ (1 ≤ 2 ^ N ∧ 2 ^ N ≤ 16384) := by
  have hp : 1 ≤ 2 ^ N ∧ 2 ^ N ≤ 16384 := ⟨Nat.one_le_two_pow, Nat.pow_le_pow_right (n := 2) (by decide) hN⟩
  have q := wk2p ⟨N, by omega⟩
  dsimp only at q
  rw [hx, q]
  exact ⟨w32_id (by omega), hp⟩
theorem m240w {n : Nat} {M : zM} {Q' : Option zV → zM → Prop} (hM : qMI M) {a1 a2 : Int} (h1 : 0 ≤ a1 ∧ a1 ≤ 19) (h2 : -2147483648 ≤ a2 ∧ a2 ≤ 2147483647) (h : zH n (0, 0) 240 (0, zini [zR 97, .inl a1, .inl a2] 7, []) M Q') : zH n (0, 0) 240 (0, zini [zR 97, .inl a1, .inl a2] 7, []) M (fun r M' => Q' r M' ∧ qMI M' ∧ (M' 114 = M 114 ∧ M' 97 31 = M 97 31 ∧ M' 97 33 = M 97 33) ∧ M' 97 28 = M 97 28) :=
  (zG.toH (zG.andH (qm_240_97 (d := 100) (by decide) hM a1 h1 a2 h2) h)).mono (fun r M' q => ⟨q.2, q.1.1.1, ⟨q.1.1.2.fn 114 (by decide) (by decide), q.1.1.2 97 31 (by decide), q.1.1.2 97 33 (by decide)⟩, q.1.1.2 97 28 (by decide)⟩)
theorem m211w {n : Nat} {M : zM} {Q' : Option zV → zM → Prop} (hM : qMI M) {a1 : Int} (h1 : -2147483648 ≤ a1 ∧ a1 ≤ 2147483647) (h : zH n (0, 0) 211 (0, zini [zR 97, .inl a1] 3, []) M Q') : zH n (0, 0) 211 (0, zini [zR 97, .inl a1] 3, []) M (fun r M' => Q' r M' ∧ qMI M') :=
  (zG.toH (zG.andH (qm_211_97 (d := 100) (by decide) hM a1 h1) h)).mono (fun r M' q => ⟨q.2, q.1.1.1⟩)
theorem wWd_s {P c x : Nat} (h : wcl L P (c + 1) x = W) (b : x.testBit c = true) : wcl L P c (x ||| wnp (L c) P) = W := by rw [wcl_s, if_pos b] at h; exact h
theorem wWd_n0 {P c x : Nat} (h : wcl L P (c + 1) x = W) (b : ¬ x.testBit c = true) : wcl L P c x = W := by rw [wcl_s, if_neg b] at h; exact h
theorem wz_m0 {x : Nat} (h : x < 2 ^ 14) : zbor (x : Int) 0 = (x : Int) := wz_or0 h
theorem wRm.w5 {L T : Nat → Nat} {W P N : Nat} {M : zM} (h : wRm L T W P N M) : M 97 28 = (W : Int) := h.2.2.1
end WX
set_option maxRecDepth 100000 in
theorem fh_155_8 {n : Nat} {M : zM} {L T : Nat → Nat} {Nc Pn : Nat} (hco : wCo L T Nc) (hw : wTb L T M) (hN : M 98 0 = (Nc : Int)) (hj : jH M) (hr3 : 0 ≤ M 72 3 ∧ M 72 3 ≤ 14) {P Q : Int → List Int} (hc : jCs M P Q) (a1 a2 a3 a4 a5 a6 : Int) (hPn : (jPs M (hCt M a6 (-1) (M 98 4).toNat (M 98 4).toNat) a1 (P (oBi (M 98) a1 a5)) (M 98 0).toNat) = (Pn : Int)) : zH n (0, 0) 155 (0, zini [zR 8, .inl a1, .inl a2, .inl a3, .inl a4, .inl a5, .inl a6] 7, []) M (fun r M' => ∃ x : Int, r = some (.inl x) ∧ ((¬ wOkk M Nc a1 a2 a3 a4 a5 a6 ∧ x = -2) ∨ (wOkk M Nc a1 a2 a3 a4 a5 a6 ∧ wWy L T a4.toNat (wWd L a2.toNat Pn) a3.toNat x ∧ wOk L T a4.toNat M' ∧ wMe L T a4.toNat (wWd L a2.toNat Pn) M' ∧ M' 81 4 = ((wWd L a2.toNat Pn) : Nat)))) := by
  have hz := zp_155
  show zH n (0, 0) 155 (0, [zR 8, .inl a1, .inl a2, .inl a3, .inl a4, .inl a5, .inl a6], []) M _
  have k1 : M 12 3 = M 98 1 := hj.1.2.1.2.1.1
  have k0 : M 10 3 = (Nc : Int) := hj.1.2.1.1.1.trans hN
  have pn := w2n hco.1 k0
  refine zH_wE (c1 := (5, [zR 8, .inl a1, .inl a2, .inl a3, .inl a4, .inl a5, .inl a6], [])) 2 hz zp_174 (fh_174_8 a1) (by rfl) ?_
  show zH n (0, 0) 155 (5, [zR 8, .inl a1, .inl a2, .inl a3, .inl a4, .inl a5, .inl a6], [.inl (hf_174_8 M a1)]) M _
  obtain ⟨x1, hx1⟩ : ∃ x : Int, x = (hf_174_8 M a1) := ⟨_, rfl⟩
  rw [← hx1]
  refine zH_if_eq hz rfl (fun hb5 => ?_) (fun hb5 => ?_)
  · skip
    rw [hx1, hq_174] at hb5
    have hno : ¬ wOkk M Nc a1 a2 a3 a4 a5 a6 := fun q => hb5 (by have := q.1; omega)
    refine zH_w (c' := (31, [zR 8, .inl a1, .inl a2, .inl a3, .inl a4, .inl a5, .inl a6], [.inl (-2)])) 1 hz rfl ?_
    exact zH_wr (r := some (.inl (-2))) 0 hz (by rfl) (⟨-2, rfl, .inl ⟨hno, rfl⟩⟩)
  · skip
    rw [hx1, hq_174] at hb5
    refine zH_w (c' := (11, [zR 8, .inl a1, .inl a2, .inl a3, .inl a4, .inl a5, .inl a6], [zR 8, .inl 0, .inl a2])) 3 hz rfl ?_
    refine zH_wE (c1 := (14, [zR 8, .inl a1, .inl a2, .inl a3, .inl a4, .inl a5, .inl a6], [.inl 0, .inl a2])) 0 hz zp_177 (fh_177_8) (by rfl) ?_
    show zH n (0, 0) 155 (14, [zR 8, .inl a1, .inl a2, .inl a3, .inl a4, .inl a5, .inl a6], [.inl (hf_177_8 M), .inl 0, .inl a2]) M _
    rw [show hf_177_8 M = ((2 ^ Nc : Nat) : Int) - 1 from by
  unfold hf_177_8 hR_size
  exact pn.1]
    refine zH_wE (c1 := (17, [zR 8, .inl a1, .inl a2, .inl a3, .inl a4, .inl a5, .inl a6], [])) 0 hz zp_169 (fh_169 a2 0 (((2 ^ Nc : Nat) : Int) - 1)) (by rfl) ?_
    show zH n (0, 0) 155 (17, [zR 8, .inl a1, .inl a2, .inl a3, .inl a4, .inl a5, .inl a6], [.inl (hf_169 M a2 0 (((2 ^ Nc : Nat) : Int) - 1))]) M _
    obtain ⟨x2, hx2⟩ : ∃ x : Int, x = (hf_169 M a2 0 (((2 ^ Nc : Nat) : Int) - 1)) := ⟨_, rfl⟩
    rw [← hx2]
    refine zH_if_eq hz rfl (fun hb17 => ?_) (fun hb17 => ?_)
    · skip
      rw [hx2, hq_169] at hb17
      have hno : ¬ wOkk M Nc a1 a2 a3 a4 a5 a6 := fun q => hb17 q.2.1
      refine zH_w (c' := (31, [zR 8, .inl a1, .inl a2, .inl a3, .inl a4, .inl a5, .inl a6], [.inl (-2)])) 1 hz rfl ?_
      exact zH_wr (r := some (.inl (-2))) 0 hz (by rfl) (⟨-2, rfl, .inl ⟨hno, rfl⟩⟩)
    · skip
      rw [hx2, hq_169] at hb17
      refine zH_w (c' := (23, [zR 8, .inl a1, .inl a2, .inl a3, .inl a4, .inl a5, .inl a6], [.inl 2, .inl 0, .inl a3])) 3 hz rfl ?_
      refine zH_wE (c1 := (26, [zR 8, .inl a1, .inl a2, .inl a3, .inl a4, .inl a5, .inl a6], [])) 0 hz zp_169 (fh_169 a3 0 2) (by rfl) ?_
      show zH n (0, 0) 155 (26, [zR 8, .inl a1, .inl a2, .inl a3, .inl a4, .inl a5, .inl a6], [.inl (hf_169 M a3 0 2)]) M _
      obtain ⟨x3, hx3⟩ : ∃ x : Int, x = (hf_169 M a3 0 2) := ⟨_, rfl⟩
      rw [← hx3]
      refine zH_if_ne hz rfl (fun hb26 => ?_) (fun hb26 => ?_)
      · skip
        rw [hx3, hq_169] at hb26
        refine zH_w (c' := (36, [zR 8, .inl a1, .inl a2, .inl a3, .inl a4, .inl a5, .inl a6], [.inl 4, .inl 1, .inl a4])) 3 hz rfl ?_
        refine zH_wE (c1 := (39, [zR 8, .inl a1, .inl a2, .inl a3, .inl a4, .inl a5, .inl a6], [])) 0 hz zp_169 (fh_169 a4 1 4) (by rfl) ?_
        show zH n (0, 0) 155 (39, [zR 8, .inl a1, .inl a2, .inl a3, .inl a4, .inl a5, .inl a6], [.inl (hf_169 M a4 1 4)]) M _
        obtain ⟨x4, hx4⟩ : ∃ x : Int, x = (hf_169 M a4 1 4) := ⟨_, rfl⟩
        rw [← hx4]
        refine zH_if_eq hz rfl (fun hb39 => ?_) (fun hb39 => ?_)
        · skip
          rw [hx4, hq_169] at hb39
          have hno : ¬ wOkk M Nc a1 a2 a3 a4 a5 a6 := fun q => hb39 q.2.2.2.1
          refine zH_w (c' := (60, [zR 8, .inl a1, .inl a2, .inl a3, .inl a4, .inl a5, .inl a6], [.inl (-2)])) 1 hz rfl ?_
          exact zH_wr (r := some (.inl (-2))) 0 hz (by rfl) (⟨-2, rfl, .inl ⟨hno, rfl⟩⟩)
        · skip
          rw [hx4, hq_169] at hb39
          refine zH_w (c' := (44, [zR 8, .inl a1, .inl a2, .inl a3, .inl a4, .inl a5, .inl a6], [.inl a5])) 1 hz rfl ?_
          refine zH_wE (c1 := (47, [zR 8, .inl a1, .inl a2, .inl a3, .inl a4, .inl a5, .inl a6], [])) 0 hz zp_170 (fh_170 a5) (by rfl) ?_
          show zH n (0, 0) 155 (47, [zR 8, .inl a1, .inl a2, .inl a3, .inl a4, .inl a5, .inl a6], [.inl (hf_170 M a5)]) M _
          obtain ⟨x5, hx5⟩ : ∃ x : Int, x = (hf_170 M a5) := ⟨_, rfl⟩
          rw [← hx5]
          refine zH_if_eq hz rfl (fun hb47 => ?_) (fun hb47 => ?_)
          · skip
            rw [hx5, hq_170] at hb47
            have hno : ¬ wOkk M Nc a1 a2 a3 a4 a5 a6 := fun q => hb47 q.2.2.2.2.1
            refine zH_w (c' := (60, [zR 8, .inl a1, .inl a2, .inl a3, .inl a4, .inl a5, .inl a6], [.inl (-2)])) 1 hz rfl ?_
            exact zH_wr (r := some (.inl (-2))) 0 hz (by rfl) (⟨-2, rfl, .inl ⟨hno, rfl⟩⟩)
          · skip
            rw [hx5, hq_170] at hb47
            refine zH_w (c' := (52, [zR 8, .inl a1, .inl a2, .inl a3, .inl a4, .inl a5, .inl a6], [.inl a6])) 1 hz rfl ?_
            refine zH_wE (c1 := (55, [zR 8, .inl a1, .inl a2, .inl a3, .inl a4, .inl a5, .inl a6], [])) 0 hz zp_170 (fh_170 a6) (by rfl) ?_
            show zH n (0, 0) 155 (55, [zR 8, .inl a1, .inl a2, .inl a3, .inl a4, .inl a5, .inl a6], [.inl (hf_170 M a6)]) M _
            obtain ⟨x6, hx6⟩ : ∃ x : Int, x = (hf_170 M a6) := ⟨_, rfl⟩
            rw [← hx6]
            refine zH_if_ne hz rfl (fun hb55 => ?_) (fun hb55 => ?_)
            · skip
              rw [hx6, hq_170] at hb55
              have hok : wOkk M Nc a1 a2 a3 a4 a5 a6 := ⟨by omega, by omega, by omega, by omega, by omega, by omega⟩
              have hA : a2.toNat < 2 ^ Nc := by have := hok.2.1; omega
              have hA14 := wN_14 hco hA
              have hPr := jPs_r M (hCt M a6 (-1) (M 98 4).toNat (M 98 4).toNat) a1 (P (oBi (M 98) a1 a5)) (M 98 0).toNat (by have := hco.1; omega)
              rw [hPn, show (M 98 0).toNat = Nc by omega] at hPr
              have hP14 : Pn < 2 ^ 14 := wN_14 hco (by omega)
              refine zH_w (c' := (68, [zR 8, .inl a1, .inl a2, .inl a3, .inl a4, .inl a5, .inl a6], [.inl (-1), .inl a6, zR 60])) 4 hz rfl ?_
              refine zH_wC (c1 := (71, [zR 8, .inl a1, .inl a2, .inl a3, .inl a4, .inl a5, .inl a6], [])) 0 hz zp_41 (fh_41_60 hj.1 a6 (-1)) (by rfl) ?_
              rintro _ M1 ⟨rfl, hG1⟩
              show zH n (0, 0) 155 (71, [zR 8, .inl a1, .inl a2, .inl a3, .inl a4, .inl a5, .inl a6], []) M1 _
              have hk1 := jK.of hj.1 (M := M1) (by rw [hG1.1 72 (by decide) (by decide) (by decide) (by decide)]; exact hr3) hG1
              refine zH_wC (c1 := (86, [zR 8, .inl a1, .inl a2, .inl a3, .inl a4, .inl a5, .inl a6], [.inl a2, zR 81])) 7 hz zp_32 (fh_32_76 hj hk1 a1 a5 (by omega) (hj.bi (s := a1) (by omega) a5).1 (hc.at hj (s := a1) (by omega) a5).1) (by rfl) ?_
              rintro _ M2 ⟨rfl, hk2⟩
              show zH n (0, 0) 155 (86, [zR 8, .inl a1, .inl a2, .inl a3, .inl a4, .inl a5, .inl a6], [.inl (jPs M (hCt M a6 (-1) (M 98 4).toNat (M 98 4).toNat) a1 (P (oBi (M 98) a1 a5)) (M 98 0).toNat), .inl a2, zR 81]) M2 _
              rw [hPn]
              have hT2 : wTb L T M2 := by unfold wTb; rw [hk2.eq 10 (by omega), hk2.eq 11 (by omega), hk2.eq 83 (by omega), hk2.eq 85 (by omega)]; exact hw
              refine zH_w (c' := (88, [zR 8, .inl a1, .inl a2, .inl a3, .inl a4, .inl a5, .inl a6], [.inl a4, .inl ((Pn : Nat) : Int), .inl a2, zR 81])) 1 hz rfl ?_
              refine zH_wC (c1 := (91, [zR 8, .inl a1, .inl a2, .inl a3, .inl a4, .inl a5, .inl a6], [])) 0 hz zp_112 (fh_112_81 hT2 hco.2.1 a2 ((Pn : Nat) : Int) a4 (by omega) (by omega) (by rw [Int.toNat_natCast]; exact wWd_T hco hA)) (by rfl) ?_
              rintro _ M3 ⟨rfl, l2, l3, l4, l5, l6⟩
              show zH n (0, 0) 155 (91, [zR 8, .inl a1, .inl a2, .inl a3, .inl a4, .inl a5, .inl a6], []) M3 _
              rw [Int.toNat_natCast] at l4 l6
              have hw3 : wOk L T a4.toNat M3 := by
                refine ⟨?_, by rw [l5]; have := hok.2.2.2.1; omega⟩
                unfold wTb
                rw [l2 10 (by decide) (by decide), l2 11 (by decide) (by decide), l2 83 (by decide) (by decide), l2 85 (by decide) (by decide)]
                exact hT2
              have hMe3 : wMe L T a4.toNat (wWd L a2.toNat Pn) M3 := fun m t m1 m2 m3 => by
                rw [l6 m m1 m2]
                refine ⟨by decide, .inl ?_⟩
                show (0 : Nat) / 2 ^ (6 * t) % 2 ^ 6 = 0
                rw [Nat.zero_div]
              have hn4 : 1 ≤ a4.toNat ∧ a4.toNat ≤ 4 := by have := hok.2.2.2.1; omega
              refine zH_w (c' := (96, [zR 8, .inl a1, .inl a2, .inl a3, .inl a4, .inl a5, .inl a6], [.inl a3, zR 81])) 3 hz rfl ?_
              refine zH_wC (c1 := (99, [zR 8, .inl a1, .inl a2, .inl a3, .inl a4, .inl a5, .inl a6], [])) 0 hz zp_113 (fh_113_81 hw3 hco.2.1 hn4 (wWd_W hco hA) hMe3 l4 a3 (by omega)) (by rfl) ?_
              rintro _ M4 ⟨v, rfl, v1, v2, v3, v4⟩
              show zH n (0, 0) 155 (99, [zR 8, .inl a1, .inl a2, .inl a3, .inl a4, .inl a5, .inl a6], [.inl (v : Int)]) M4 _
              exact zH_wr (r := some (.inl (v : Int))) 0 hz (by rfl) (⟨(v : Int), rfl, .inr ⟨hok, ⟨v, rfl, v2, v1⟩, hw3.mv (fun r q1 q2 q3 => v3 r q1 q2 q3), v4, (congrFun (v3 81 (by decide) (by decide) (by decide)) 4).trans l4⟩⟩)
            · skip
              rw [hx6, hq_170] at hb55
              have hno : ¬ wOkk M Nc a1 a2 a3 a4 a5 a6 := fun q => hb55 (fun h => h q.2.2.2.2.2)
              refine zH_w (c' := (60, [zR 8, .inl a1, .inl a2, .inl a3, .inl a4, .inl a5, .inl a6], [.inl (-2)])) 1 hz rfl ?_
              exact zH_wr (r := some (.inl (-2))) 0 hz (by rfl) (⟨-2, rfl, .inl ⟨hno, rfl⟩⟩)
      · skip
        rw [hx3, hq_169] at hb26
        have hno : ¬ wOkk M Nc a1 a2 a3 a4 a5 a6 := fun q => hb26 (fun h => h q.2.2.1)
        refine zH_w (c' := (31, [zR 8, .inl a1, .inl a2, .inl a3, .inl a4, .inl a5, .inl a6], [.inl (-2)])) 1 hz rfl ?_
        exact zH_wr (r := some (.inl (-2))) 0 hz (by rfl) (⟨-2, rfl, .inl ⟨hno, rfl⟩⟩)
set_option maxRecDepth 100000 in
theorem fh_156_8 {n : Nat} {M : zM} {L T : Nat → Nat} {Nc Pn : Nat} (hco : wCo L T Nc) (hw : wTb L T M) (hN : M 98 0 = (Nc : Int)) (hj : jH M) (hr3 : 0 ≤ M 72 3 ∧ M 72 3 ≤ 14) {P Q : Int → List Int} (hc : jCs M P Q) (a1 a2 a3 a4 a5 a6 a7 : Int) (hPn : (jPs M (hCt M a6 (-1) (M 98 4).toNat (M 98 4).toNat) a1 (P (oBi (M 98) a1 a5)) (M 98 0).toNat) = (Pn : Int)) : zH n (0, 0) 156 (0, zini [zR 8, .inl a1, .inl a2, .inl a3, .inl a4, .inl a5, .inl a6, .inl a7] 9, []) M (fun r M' => ∃ x : Int, r = some (.inl x) ∧ ((¬ (wOkk M Nc a1 a2 a3 a4 a5 a6 ∧ 0 ≤ a7) ∧ x = -2) ∨ ((wOkk M Nc a1 a2 a3 a4 a5 a6 ∧ 0 ≤ a7) ∧ wWt9 L T a4.toNat (wWd L a2.toNat Pn) a3.toNat a7 x))) := by
  have hz := zp_156
  show zH n (0, 0) 156 (0, [zR 8, .inl a1, .inl a2, .inl a3, .inl a4, .inl a5, .inl a6, .inl a7, zN], []) M _
  refine zH_wf_ge (pc := 2) (n' := 5) (t := 8) (L := [zR 8, .inl a1, .inl a2, .inl a3, .inl a4, .inl a5, .inl a6, .inl a7, zN]) (st := []) (x := a7) 1 hz (by rfl) (fun hb2 => ?_) (fun hb2 => ?_)
  · skip
    refine zH_wC (c1 := (21, [zR 8, .inl a1, .inl a2, .inl a3, .inl a4, .inl a5, .inl a6, .inl a7, zN], [])) 7 hz zp_155 (fh_155_8 hco hw hN hj hr3 hc a1 a2 a3 a4 a5 a6 hPn) (by rfl) ?_
    rintro _ M1 ⟨y, rfl, hy⟩
    show zH n (0, 0) 156 (21, [zR 8, .inl a1, .inl a2, .inl a3, .inl a4, .inl a5, .inl a6, .inl a7, zN], [.inl y]) M1 _
    refine zH_wf_ge (pc := 25) (n' := 28) (t := 33) (L := [zR 8, .inl a1, .inl a2, .inl a3, .inl a4, .inl a5, .inl a6, .inl a7, .inl y]) (st := []) (x := y) 2 hz (by rfl) (fun hb25 => ?_) (fun hb25 => ?_)
    · skip
      have hy9 : wOkk M Nc a1 a2 a3 a4 a5 a6 ∧ wWy L T a4.toNat (wWd L a2.toNat Pn) a3.toNat y ∧ wOk L T a4.toNat M1 ∧ wMe L T a4.toNat (wWd L a2.toNat Pn) M1 ∧ M1 81 4 = ((wWd L a2.toNat Pn) : Nat) := by
        rcases hy with z | z
        · omega
        · exact z
      obtain ⟨hok, ⟨v, v1, v2, v3⟩, w1, w2, w3⟩ := hy9
      have hA : a2.toNat < 2 ^ Nc := by have := hok.2.1; omega
      have hn4 : 1 ≤ a4.toNat ∧ a4.toNat ≤ 4 := by have := hok.2.2.2.1; omega
      have h3 : 0 ≤ a3 ∧ a3 < 3 := by have := hok.2.2.1; omega
      refine zH_wC (c1 := (45, [zR 8, .inl a1, .inl a2, .inl a3, .inl a4, .inl a5, .inl a6, .inl a7, .inl y], [])) 5 hz zp_114 (fh_114_81 w1 hco.2.1 hn4 (wWd_W hco hA) w2 w3 a3 y a7 h3 (by omega) (by omega) (by rw [v1, Int.toNat_natCast]; exact v3)) (by rfl) ?_
      rintro _ M2 ⟨x, rfl, hx⟩
      show zH n (0, 0) 156 (45, [zR 8, .inl a1, .inl a2, .inl a3, .inl a4, .inl a5, .inl a6, .inl a7, .inl y], [.inl x]) M2 _
      refine zH_ret hz rfl rfl ?_
      first
        | exact ⟨y, rfl, .inl ⟨fun q => hy9.1 q.1, hy9.2⟩⟩
        | exact ⟨x, rfl, .inr ⟨⟨hok, by omega⟩, ⟨v, v2, v3, by rw [← v1]; exact hx⟩⟩⟩
    · skip
      have hy9 : ¬ wOkk M Nc a1 a2 a3 a4 a5 a6 ∧ y = -2 := by
        rcases hy with z | ⟨-, ⟨v, z, -⟩, -⟩
        · exact z
        · omega
      have x := True.intro
      have hx := True.intro
      have hok := True.intro
      have v := True.intro
      have v1 := True.intro
      have v2 := True.intro
      have v3 := True.intro
      refine zH_w (c' := (45, [zR 8, .inl a1, .inl a2, .inl a3, .inl a4, .inl a5, .inl a6, .inl a7, .inl y], [.inl y])) 2 hz rfl ?_
      refine zH_ret hz rfl rfl ?_
      first
        | exact ⟨y, rfl, .inl ⟨fun q => hy9.1 q.1, hy9.2⟩⟩
        | exact ⟨x, rfl, .inr ⟨⟨hok, by omega⟩, ⟨v, v2, v3, by rw [← v1]; exact hx⟩⟩⟩
  · skip
    have hn7 : ¬ (wOkk M Nc a1 a2 a3 a4 a5 a6 ∧ 0 ≤ a7) := fun q => by have := q.2; omega
    exact zH_wr (r := some (.inl (-2))) 1 hz (by rfl) (⟨-2, rfl, .inl ⟨hn7, rfl⟩⟩)
set_option maxRecDepth 100000 in
theorem fh_266_97 {n : Nat} {M : zM} {Nc : Nat} {Mo : zM} (hNl : Nc ≤ 14) (hN : Mo 98 0 = (Nc : Int)) (hM : qMI M) (e98 : M 98 = Mo 98) (a1 a2 a3 a4 a5 a6 : Int) : zH n (0, 0) 266 (0, zini [zR 97, .inl a1, .inl a2, .inl a3, .inl a4, .inl a5, .inl a6] 7, []) M (fun r M' => (∃ y : Int, r = some (.inl y) ∧ (y = 0 ↔ ¬ wOkk Mo Nc a1 a2 a3 a4 a5 a6)) ∧ M' = M) := by
  have hz := zp_266
  show zH n (0, 0) 266 (0, [zR 97, .inl a1, .inl a2, .inl a3, .inl a4, .inl a5, .inl a6], []) M _
  have hz1 : M 98 1 = Mo 98 1 := congrFun e98 1
  have hz0 : M 98 0 = (Nc : Int) := (congrFun e98 0).trans hN
  have pn := w2n hNl hz0
  refine zH_wE (c1 := (9, [zR 97, .inl a1, .inl a2, .inl a3, .inl a4, .inl a5, .inl a6], [])) 4 hz zp_245 (fh_245_97 a1 a5 a6) (by rfl) ?_
  show zH n (0, 0) 266 (9, [zR 97, .inl a1, .inl a2, .inl a3, .inl a4, .inl a5, .inl a6], [.inl (hf_245_97 M a1 a5 a6)]) M _
  obtain ⟨x1, hx1⟩ : ∃ x : Int, x = (hf_245_97 M a1 a5 a6) := ⟨_, rfl⟩
  rw [← hx1]
  refine zH_if_eq hz rfl (fun hb9 => ?_) (fun hb9 => ?_)
  · skip
    rw [hx1, hq_245 (mBd hM), hz1] at hb9
    have hno : ¬ wOkk Mo Nc a1 a2 a3 a4 a5 a6 := fun q => hb9 ⟨q.1, q.2.2.2.2.1, q.2.2.2.2.2⟩
    refine zH_w (c' := (54, [zR 97, .inl a1, .inl a2, .inl a3, .inl a4, .inl a5, .inl a6], [.inl 0])) 1 hz rfl ?_
    refine zH_zret hz rfl ?_
    exact ⟨⟨_, rfl, by
      first
        | exact ⟨fun _ => hno, fun _ => rfl⟩
        | exact ⟨fun q => absurd q (by decide), fun q => absurd hok q⟩⟩, rfl⟩
  · skip
    rw [hx1, hq_245 (mBd hM), hz1] at hb9
    refine zH_w (c' := (20, [zR 97, .inl a1, .inl a2, .inl a3, .inl a4, .inl a5, .inl a6], [.inl 0, zR 98, .inl 1, .inl 0, .inl a2])) 6 hz rfl ?_
    refine zH_iald hz rfl rfl (.inl rfl) (fun hin20 => ?_)
    show zH n (0, 0) 266 (21, [zR 97, .inl a1, .inl a2, .inl a3, .inl a4, .inl a5, .inl a6], [.inl (M 98 (0 : Int).toNat), .inl 1, .inl 0, .inl a2]) M _
    rw [show M 98 (0 : Int).toNat = M 98 0 from rfl]
    refine zH_w (c' := (24, [zR 97, .inl a1, .inl a2, .inl a3, .inl a4, .inl a5, .inl a6], [.inl (w32 ((zbshl 1 (M 98 0)) - 1)), .inl 0, .inl a2])) 3 hz rfl ?_
    rw [pn.1]
    refine zH_wE (c1 := (27, [zR 97, .inl a1, .inl a2, .inl a3, .inl a4, .inl a5, .inl a6], [])) 0 hz zp_180 (fh_180 a2 0 (((2 ^ Nc : Nat) : Int) - 1)) (by rfl) ?_
    show zH n (0, 0) 266 (27, [zR 97, .inl a1, .inl a2, .inl a3, .inl a4, .inl a5, .inl a6], [.inl (hf_180 M a2 0 (((2 ^ Nc : Nat) : Int) - 1))]) M _
    obtain ⟨x2, hx2⟩ : ∃ x : Int, x = (hf_180 M a2 0 (((2 ^ Nc : Nat) : Int) - 1)) := ⟨_, rfl⟩
    rw [← hx2]
    refine zH_if_eq hz rfl (fun hb27 => ?_) (fun hb27 => ?_)
    · skip
      rw [hx2, hq_180] at hb27
      have hno : ¬ wOkk Mo Nc a1 a2 a3 a4 a5 a6 := fun q => hb27 q.2.1
      refine zH_w (c' := (54, [zR 97, .inl a1, .inl a2, .inl a3, .inl a4, .inl a5, .inl a6], [.inl 0])) 1 hz rfl ?_
      refine zH_zret hz rfl ?_
      exact ⟨⟨_, rfl, by
        first
          | exact ⟨fun _ => hno, fun _ => rfl⟩
          | exact ⟨fun q => absurd q (by decide), fun q => absurd hok q⟩⟩, rfl⟩
    · skip
      rw [hx2, hq_180] at hb27
      refine zH_w (c' := (33, [zR 97, .inl a1, .inl a2, .inl a3, .inl a4, .inl a5, .inl a6], [.inl 2, .inl 0, .inl a3])) 3 hz rfl ?_
      refine zH_wE (c1 := (36, [zR 97, .inl a1, .inl a2, .inl a3, .inl a4, .inl a5, .inl a6], [])) 0 hz zp_180 (fh_180 a3 0 2) (by rfl) ?_
      show zH n (0, 0) 266 (36, [zR 97, .inl a1, .inl a2, .inl a3, .inl a4, .inl a5, .inl a6], [.inl (hf_180 M a3 0 2)]) M _
      obtain ⟨x3, hx3⟩ : ∃ x : Int, x = (hf_180 M a3 0 2) := ⟨_, rfl⟩
      rw [← hx3]
      refine zH_if_eq hz rfl (fun hb36 => ?_) (fun hb36 => ?_)
      · skip
        rw [hx3, hq_180] at hb36
        have hno : ¬ wOkk Mo Nc a1 a2 a3 a4 a5 a6 := fun q => hb36 q.2.2.1
        refine zH_w (c' := (54, [zR 97, .inl a1, .inl a2, .inl a3, .inl a4, .inl a5, .inl a6], [.inl 0])) 1 hz rfl ?_
        refine zH_zret hz rfl ?_
        exact ⟨⟨_, rfl, by
          first
            | exact ⟨fun _ => hno, fun _ => rfl⟩
            | exact ⟨fun q => absurd q (by decide), fun q => absurd hok q⟩⟩, rfl⟩
      · skip
        rw [hx3, hq_180] at hb36
        refine zH_w (c' := (43, [zR 97, .inl a1, .inl a2, .inl a3, .inl a4, .inl a5, .inl a6], [.inl 4, .inl 1, .inl a4])) 3 hz rfl ?_
        refine zH_wE (c1 := (46, [zR 97, .inl a1, .inl a2, .inl a3, .inl a4, .inl a5, .inl a6], [])) 0 hz zp_180 (fh_180 a4 1 4) (by rfl) ?_
        show zH n (0, 0) 266 (46, [zR 97, .inl a1, .inl a2, .inl a3, .inl a4, .inl a5, .inl a6], [.inl (hf_180 M a4 1 4)]) M _
        obtain ⟨x4, hx4⟩ : ∃ x : Int, x = (hf_180 M a4 1 4) := ⟨_, rfl⟩
        rw [← hx4]
        refine zH_if_eq hz rfl (fun hb46 => ?_) (fun hb46 => ?_)
        · skip
          rw [hx4, hq_180] at hb46
          have hno : ¬ wOkk Mo Nc a1 a2 a3 a4 a5 a6 := fun q => hb46 q.2.2.2.1
          refine zH_w (c' := (54, [zR 97, .inl a1, .inl a2, .inl a3, .inl a4, .inl a5, .inl a6], [.inl 0])) 1 hz rfl ?_
          refine zH_zret hz rfl ?_
          exact ⟨⟨_, rfl, by
            first
              | exact ⟨fun _ => hno, fun _ => rfl⟩
              | exact ⟨fun q => absurd q (by decide), fun q => absurd hok q⟩⟩, rfl⟩
        · skip
          rw [hx4, hq_180] at hb46
          have hok : wOkk Mo Nc a1 a2 a3 a4 a5 a6 := ⟨by omega, by omega, by omega, by omega, by omega, by omega⟩
          refine zH_w (c' := (54, [zR 97, .inl a1, .inl a2, .inl a3, .inl a4, .inl a5, .inl a6], [.inl 1])) 2 hz rfl ?_
          refine zH_zret hz rfl ?_
          exact ⟨⟨_, rfl, by
            first
              | exact ⟨fun _ => hno, fun _ => rfl⟩
              | exact ⟨fun q => absurd q (by decide), fun q => absurd hok q⟩⟩, rfl⟩
set_option maxRecDepth 100000 in
theorem fh_267_97 {n : Nat} {M : zM} {L T : Nat → Nat} {Nc Pn : Nat} (hco : wCo L T Nc) {Mo : zM} (hc9 : ∀ c, c < Nc → Mo 98 (21 + 4 * c) = (L c : Int) ∧ Mo 98 (22 + 4 * c) = (T c : Int)) (hN : Mo 98 0 = (Nc : Int)) (hM : qMI M) (e98 : M 98 = Mo 98) {P Q : Int → List Int} (hH : mH Mo P Q) (hV : wVt L T M) (a1 a2 a3 a4 a5 a6 : Int) (hPn : (jPs Mo (hCt Mo a6 (-1) (Mo 98 4).toNat (Mo 98 4).toNat) a1 (P (oBi (Mo 98) a1 a5)) (Mo 98 0).toNat) = (Pn : Int)) (hok : wOkk Mo Nc a1 a2 a3 a4 a5 a6) : zH n (0, 0) 267 (0, zini [zR 97, .inl a1, .inl a2, .inl a3, .inl a4, .inl a5, .inl a6] 8, []) M (fun r M' => ∃ x : Int, r = some (.inl x) ∧ wWy L T a4.toNat (wWd L a2.toNat Pn) a3.toNat x ∧ wRm L T (wWd L a2.toNat Pn) Pn Nc M' ∧ wLf L T a4.toNat (wWd L a2.toNat Pn) M' ∧ wVt L T M') := by
  have hz := zp_267
  show zH n (0, 0) 267 (0, [zR 97, .inl a1, .inl a2, .inl a3, .inl a4, .inl a5, .inl a6, zN], []) M _
  have hA : a2.toNat < 2 ^ Nc := by have := hok.2.1; omega
  have hA14 := wN_14 hco hA
  have hNl := hco.1
  have hPr := jPs_r Mo (hCt Mo a6 (-1) (Mo 98 4).toNat (Mo 98 4).toNat) a1 (P (oBi (Mo 98) a1 a5)) (Mo 98 0).toNat (by omega)
  rw [hPn, show (Mo 98 0).toNat = Nc by omega] at hPr
  have hP14 : Pn < 2 ^ 14 := wN_14 hco (by omega)
  have h19 : Mo 98 1 ≤ 20 := hH.1.cnt1.2
  have hpw : 1 ≤ 2 ^ Nc ∧ 2 ^ Nc ≤ 16384 := ⟨Nat.one_le_two_pow, Nat.pow_le_pow_right (n := 2) (by decide) hNl⟩
  have hok1 := hok.1
  have hok2 := hok.2.1
  have hok3 := hok.2.2.1
  have hok4 := hok.2.2.2.1
  have hok5 := hok.2.2.2.2.1
  have hok6 := hok.2.2.2.2.2
  have hNc0 := hN
  refine zH_w (c' := (3, [zR 97, .inl a1, .inl a2, .inl a3, .inl a4, .inl a5, .inl a6, zN], [.inl a6, zR 97])) 2 hz rfl ?_
  refine zH_wC (c1 := (6, [zR 97, .inl a1, .inl a2, .inl a3, .inl a4, .inl a5, .inl a6, zN], [])) 0 hz zp_211 (m211w hM (by omega) (fh_211 hH.1 hM e98 a6)) (by rfl) ?_
  rintro _ M1 ⟨⟨rfl, f1, z1⟩, hM1⟩
  show zH n (0, 0) 267 (6, [zR 97, .inl a1, .inl a2, .inl a3, .inl a4, .inl a5, .inl a6, zN], []) M1 _
  have hk1 : mK Mo (hCt Mo a6 (-1) (Mo 98 4).toNat (Mo 98 4).toNat) M1 := ⟨(f1 98 (by decide)).trans e98, z1⟩
  refine zH_wC (c1 := (13, [zR 97, .inl a1, .inl a2, .inl a3, .inl a4, .inl a5, .inl a6, zN], [])) 3 hz zp_240 (m240w hM1 (by omega) (by omega) (fh_240_97 hk1 hH a1 a5 hok.1)) (by rfl) ?_
  rintro _ M2 ⟨⟨rfl, k2⟩, hM2, g2, -⟩
  show zH n (0, 0) 267 (13, [zR 97, .inl a1, .inl a2, .inl a3, .inl a4, .inl a5, .inl a6, zN], []) M2 _
  have h21 : M2 97 21 = (Pn : Int) := k2.2.2.1.trans hPn
  have hV2 : wVt L T M2 := hV.mv (g2.2.1.trans (congrFun (f1 97 (by decide)) 31)) (g2.2.2.trans (congrFun (f1 97 (by decide)) 33)) (g2.1.trans (f1 114 (by decide)))
  refine zH_w (c' := (19, [zR 97, .inl a1, .inl a2, .inl a3, .inl a4, .inl a5, .inl a6, zN], [.inl (M2 97 21), .inl a2, zR 97])) 4 hz rfl ?_
  rw [h21]
  refine zH_w (c' := (22, [zR 97, .inl a1, .inl a2, .inl a3, .inl a4, .inl a5, .inl a6, zN], [.inl (zband a2 (zbxor (Pn : Int) (-1))), zR 97])) 3 hz rfl ?_
  rw [show zband a2 (zbxor (Pn : Int) (-1)) = ((wnp a2.toNat Pn : Nat) : Int) from by rw [wz_np (by omega) (by omega), Int.toNat_natCast]]
  refine zH_w (c' := (25, [zR 97, .inl a1, .inl a2, .inl a3, .inl a4, .inl a5, .inl a6, zN], [])) 1 hz rfl ?_
  obtain ⟨M3, hM3⟩ : ∃ X : zM, X = zput M2 97 28 ((wnp a2.toNat Pn : Nat) : Int) := ⟨_, rfl⟩
  rw [← hM3]
  have h98 : M3 98 = Mo 98 := by rw [hM3, zput_oth (by decide)]; exact k2.1.1
  have hO3 : M3 98 = Mo 98 ∧ M3 114 = M2 114 ∧ M3 97 31 = M2 97 31 ∧ M3 97 33 = M2 97 33 ∧ M3 97 21 = (Pn : Int) := ⟨h98, by rw [hM3, zput_oth (by decide)], by rw [hM3, qput_nk (by decide)], by rw [hM3, qput_nk (by decide)], by rw [hM3, qput_nk (by decide)]; exact h21⟩
  have hx3 : ∃ x : Nat, M3 97 28 = (x : Int) ∧ x < 2 ^ 14 ∧ wcl L Pn ((Nc : Int) - 1 + 1).toNat x = (wWd L a2.toNat Pn) := ⟨_, by rw [hM3, qput_eq], wnp_lt hA14, by rw [show ((Nc : Int) - 1 + 1).toNat = Nc by omega, wWd_N hco hA]⟩
  refine zH_w (c' := (30, [zR 97, .inl a1, .inl a2, .inl a3, .inl a4, .inl a5, .inl a6, zN], [.inl 0, zR 98])) 3 hz rfl ?_
  refine zH_iald hz rfl rfl (.inl rfl) (fun hin30 => ?_)
  show zH n (0, 0) 267 (31, [zR 97, .inl a1, .inl a2, .inl a3, .inl a4, .inl a5, .inl a6, zN], [.inl (M3 98 (0 : Int).toNat)]) M3 _
  rw [show M3 98 (0 : Int).toNat = (Nc : Int) from (congrFun h98 0).trans hN]
  refine zH_w (c' := (33, [zR 97, .inl a1, .inl a2, .inl a3, .inl a4, .inl a5, .inl a6, zN], [.inl (w32 ((Nc : Int) - 1))])) 2 hz rfl ?_
  rw [show w32 ((Nc : Int) - 1) = (Nc : Int) - 1 from w32_id (by omega)]
  refine zH_w (c' := (35, [zR 97, .inl a1, .inl a2, .inl a3, .inl a4, .inl a5, .inl a6, .inl ((Nc : Int) - 1)], [])) 1 hz rfl ?_
  have lp35 : ∀ (N : Nat) (c : Int) (M5 : zM), ((c + 1).toNat) < N → (-1 ≤ c ∧ c < (Nc : Int)) → (M5 98 = Mo 98 ∧ M5 114 = M2 114 ∧ M5 97 31 = M2 97 31 ∧ M5 97 33 = M2 97 33 ∧ M5 97 21 = (Pn : Int)) → (∃ x : Nat, M5 97 28 = (x : Int) ∧ x < 2 ^ 14 ∧ wcl L Pn (c + 1).toNat x = (wWd L a2.toNat Pn)) → zH n (0, 0) 267 (35, [zR 97, .inl a1, .inl a2, .inl a3, .inl a4, .inl a5, .inl a6, .inl c], []) M5 (fun r M' => ∃ x : Int, r = some (.inl x) ∧ wWy L T a4.toNat (wWd L a2.toNat Pn) a3.toNat x ∧ wRm L T (wWd L a2.toNat Pn) Pn Nc M' ∧ wLf L T a4.toNat (wWd L a2.toNat Pn) M' ∧ wVt L T M') := by
    intro N
    induction N with
    | zero => intro c M5 hN; exact absurd hN (Nat.not_lt_zero _)
    | succ N ih35 =>
      intro c M5 hN hi hO hx
      refine zH_w (c' := (37, [zR 97, .inl a1, .inl a2, .inl a3, .inl a4, .inl a5, .inl a6, .inl c], [.inl c])) 1 hz rfl ?_
      refine zH_wf_lt (pc := 37) (n' := 40) (t := 93) (L := [zR 97, .inl a1, .inl a2, .inl a3, .inl a4, .inl a5, .inl a6, .inl c]) (st := []) (x := c) 0 hz (by rfl) (fun hb37 => ?_) (fun hb37 => ?_)
      · skip
        obtain ⟨x, x1, x2, x3⟩ := hx
        rw [show (c + 1).toNat = 0 by omega] at x3
        have hX : M5 97 28 = ((wWd L a2.toNat Pn) : Nat) := by rw [x1, ← x3]; rfl
        have hR5 : wRm L T (wWd L a2.toNat Pn) Pn Nc M5 := ⟨⟨(congrFun hO.1 0).trans hNc0, hNl⟩, fun c hc => by rw [hO.1]; exact hc9 c hc, hX, hO.2.2.2.2⟩
        have hV5 : wVt L T M5 := hV2.mv hO.2.2.1 hO.2.2.2.1 hO.2.1
        have hn4 : 1 ≤ a4.toNat ∧ a4.toNat ≤ 4 := by omega
        have e4 : ((a4.toNat : Nat) : Int) = a4 := by omega
        refine zH_w (c' := (96, [zR 97, .inl a1, .inl a2, .inl a3, .inl a4, .inl a5, .inl a6, .inl c], [.inl a4, zR 97])) 2 hz rfl ?_
        refine zH_wC (c1 := (99, [zR 97, .inl a1, .inl a2, .inl a3, .inl a4, .inl a5, .inl a6, .inl c], [])) 0 hz zp_265 (fh_265_97 hR5 hco.2.1 (wWd_n hco hA hP14) (wWd_W hco hA) hn4 a4 e4.symm (fun q1 q2 q3 => hV5 _ _ q1 (q3.trans e4.symm))) (by rfl) ?_
        rintro _ M6 ⟨rfl, f6, g6, hL6⟩
        show zH n (0, 0) 267 (99, [zR 97, .inl a1, .inl a2, .inl a3, .inl a4, .inl a5, .inl a6, .inl c], []) M6 _
        have hR6 : wRm L T (wWd L a2.toNat Pn) Pn Nc M6 := hR5.mv (f6.1 98 (by decide) (by decide) (by decide)) (f6.2 28 (by decide) (by decide) (by decide) (by decide)) (f6.2 21 (by decide) (by decide) (by decide) (by decide))
        have hV6 : wVt L T M6 := fun W9 n9 q1 q3 => by
          have e1 : W9 = (wWd L a2.toNat Pn) := by have := g6.1; omega
          have e3 : n9 = a4.toNat := by have := g6.2.2; omega
          rw [e1, e3]; exact hL6
        obtain ⟨v, v1, v2⟩ := hL6 0 (fun i q => absurd q wb_0) a3.toNat (by omega)
        rw [Nat.xor_zero] at v2
        rw [show 3 * 0 + a3.toNat = a3.toNat by omega] at v1
        have hv42 : v ≤ 42 := by
          obtain ⟨v', u1, u2⟩ := wFw_some hco.2.1 hn4.1 (wWd_W (A := a2.toNat) (P := Pn) hco hA) (fun _ q => q) (t := a3.toNat) (by omega)
          rw [wFw_u v2 u2]; exact u1
        refine zH_w (c' := (104, [zR 97, .inl a1, .inl a2, .inl a3, .inl a4, .inl a5, .inl a6, .inl c], [.inl a3, zR 114])) 3 hz rfl ?_
        refine zH_iald hz rfl rfl (.inl rfl) (fun hin104 => ?_)
        show zH n (0, 0) 267 (105, [zR 97, .inl a1, .inl a2, .inl a3, .inl a4, .inl a5, .inl a6, .inl c], [.inl (M6 114 (a3 : Int).toNat)]) M6 _
        rw [v1]
        refine zH_w (c' := (107, [zR 97, .inl a1, .inl a2, .inl a3, .inl a4, .inl a5, .inl a6, .inl c], [.inl 60, .inl (v : Int)])) 1 hz rfl ?_
        refine zH_wi_le (pc := 107) (n' := 110) (t := 114) (L := [zR 97, .inl a1, .inl a2, .inl a3, .inl a4, .inl a5, .inl a6, .inl c]) (st := []) (x := (v : Int)) (y := 60) 0 hz (by rfl) (fun hb107 => ?_) (fun hb107 => ?_)
        · skip
          refine zH_w (c' := (119, [zR 97, .inl a1, .inl a2, .inl a3, .inl a4, .inl a5, .inl a6, .inl c], [.inl a3, zR 114])) 3 hz rfl ?_
          refine zH_iald hz rfl rfl (.inl rfl) (fun hin119 => ?_)
          show zH n (0, 0) 267 (120, [zR 97, .inl a1, .inl a2, .inl a3, .inl a4, .inl a5, .inl a6, .inl c], [.inl (M6 114 (a3 : Int).toNat)]) M6 _
          rw [v1]
          refine zH_ret hz rfl rfl ?_
          first
            | exact absurd hv42 (by omega)
            | exact ⟨(v : Int), rfl, ⟨v, rfl, hv42, v2⟩, hR6, hL6, hV6⟩
        · skip
          refine zH_w (c' := (120, [zR 97, .inl a1, .inl a2, .inl a3, .inl a4, .inl a5, .inl a6, .inl c], [.inl (-1)])) 2 hz rfl ?_
          refine zH_ret hz rfl rfl ?_
          first
            | exact absurd hv42 (by omega)
            | exact ⟨(v : Int), rfl, ⟨v, rfl, hv42, v2⟩, hR6, hL6, hV6⟩
      · skip
        obtain ⟨x, x1, x2, x3⟩ := hx
        have hc7 := hc9 c.toNat (by omega)
        have hLc := hco.2.1.1 c.toNat (by omega)
        have hL2 := Nat.pow_le_pow_right (n := 2) (by decide) (show c.toNat ≤ 13 by omega)
        rw [show (c + 1).toNat = c.toNat + 1 by omega] at x3
        refine zH_w (c' := (45, [zR 97, .inl a1, .inl a2, .inl a3, .inl a4, .inl a5, .inl a6, .inl c], [.inl (M5 97 28), zR 97])) 3 hz rfl ?_
        rw [x1]
        refine zH_w (c' := (49, [zR 97, .inl a1, .inl a2, .inl a3, .inl a4, .inl a5, .inl a6, .inl c], [.inl (M5 97 28), .inl (x : Int), zR 97])) 2 hz rfl ?_
        rw [x1]
        refine zH_w (c' := (54, [zR 97, .inl a1, .inl a2, .inl a3, .inl a4, .inl a5, .inl a6, .inl c], [.inl (zband (zbshr (x : Int) c) 1), .inl (x : Int), zR 97])) 4 hz rfl ?_
        rw [wnb x (x : Int) rfl x2 (by omega)]
        refine zH_w (c' := (55, [zR 97, .inl a1, .inl a2, .inl a3, .inl a4, .inl a5, .inl a6, .inl c], [.inl 1, .inl ((x / 2 ^ c.toNat % 2 : Nat) : Int), .inl (x : Int), zR 97])) 1 hz rfl ?_
        refine zH_wi_ne (pc := 55) (n' := 58) (t := 82) (L := [zR 97, .inl a1, .inl a2, .inl a3, .inl a4, .inl a5, .inl a6, .inl c]) (st := [.inl (x : Int), zR 97]) (x := ((x / 2 ^ c.toNat % 2 : Nat) : Int)) (y := 1) 0 hz (by rfl) (fun hb55 => ?_) (fun hb55 => ?_)
        · skip
          have hbn : ¬ x.testBit c.toNat = true := fun q => by have := (wbt _ _).mp q; omega
          refine zH_w (c' := (84, [zR 97, .inl a1, .inl a2, .inl a3, .inl a4, .inl a5, .inl a6, .inl c], [.inl (zbor (x : Int) 0), zR 97])) 2 hz rfl ?_
          rw [show zbor (x : Int) 0 = (x : Int) from wz_or0 x2]
          have hx7 : wcl L Pn c.toNat x = (wWd L a2.toNat Pn) := wWd_n0 x3 hbn
          refine zH_w (c' := (87, [zR 97, .inl a1, .inl a2, .inl a3, .inl a4, .inl a5, .inl a6, .inl c], [])) 1 hz rfl ?_
          obtain ⟨M8, hM8⟩ : ∃ X : zM, X = zput M5 97 28 (x : Int) := ⟨_, rfl⟩
          rw [← hM8]
          have hO8 : M8 98 = Mo 98 ∧ M8 114 = M2 114 ∧ M8 97 31 = M2 97 31 ∧ M8 97 33 = M2 97 33 ∧ M8 97 21 = (Pn : Int) := ⟨by rw [hM8, zput_oth (by decide)]; exact hO.1, by rw [hM8, zput_oth (by decide)]; exact hO.2.1, by rw [hM8, qput_nk (by decide)]; exact hO.2.2.1, by rw [hM8, qput_nk (by decide)]; exact hO.2.2.2.1, by rw [hM8, qput_nk (by decide)]; exact hO.2.2.2.2⟩
          have hx8 : ∃ x : Nat, M8 97 28 = (x : Int) ∧ x < 2 ^ 14 ∧ wcl L Pn c.toNat x = (wWd L a2.toNat Pn) := ⟨_, by rw [hM8, qput_eq], x2, hx7⟩
          refine zH_w (c' := (35, [zR 97, .inl a1, .inl a2, .inl a3, .inl a4, .inl a5, .inl a6, .inl (c - 1)], [])) 2 hz (by rw [show (.inl (c - 1) : zV) = .inl (w32 (c + (-1))) from by rw [w32_id (by omega)]; rfl]; rfl) ?_
          refine ih35 (c - 1) M8 (by omega) ?_ ?_ ?_
          · omega
          · exact hO8
          · rw [show (c - 1 + 1).toNat = c.toNat by omega]; exact hx8
        · skip
          have hby : x.testBit c.toNat = true := (wbt _ _).mpr (by omega)
          refine zH_w (c' := (71, [zR 97, .inl a1, .inl a2, .inl a3, .inl a4, .inl a5, .inl a6, .inl c], [.inl (w32 ((w32 (20 + (w32 (4 * c)))) + 1)), zR 98, .inl (x : Int), zR 97])) 9 hz rfl ?_
          refine zH_iald hz rfl rfl (.inl rfl) (fun hin71 => ?_)
          show zH n (0, 0) 267 (72, [zR 97, .inl a1, .inl a2, .inl a3, .inl a4, .inl a5, .inl a6, .inl c], [.inl (M5 98 (w32 ((w32 (20 + (w32 (4 * c)))) + 1) : Int).toNat), .inl (x : Int), zR 97]) M5 _
          rw [show M5 98 (w32 ((w32 (20 + (w32 (4 * c)))) + 1) : Int).toNat = ((L c.toNat : Nat) : Int) from by rw [show (w32 (w32 (20 + w32 (4 * c)) + 1) : Int).toNat = 21 + 4 * c.toNat by rw [w32_id (x := 4 * c) (by omega), w32_id (x := 20 + 4 * c) (by omega), w32_id (by omega)]; omega, hO.1]; exact hc7.1]
          refine zH_w (c' := (76, [zR 97, .inl a1, .inl a2, .inl a3, .inl a4, .inl a5, .inl a6, .inl c], [.inl (M5 97 21), .inl ((L c.toNat : Nat) : Int), .inl (x : Int), zR 97])) 2 hz rfl ?_
          rw [hO.2.2.2.2]
          refine zH_w (c' := (79, [zR 97, .inl a1, .inl a2, .inl a3, .inl a4, .inl a5, .inl a6, .inl c], [.inl (zband ((L c.toNat : Nat) : Int) (zbxor (Pn : Int) (-1))), .inl (x : Int), zR 97])) 3 hz rfl ?_
          rw [show zband ((L c.toNat : Nat) : Int) (zbxor (Pn : Int) (-1)) = ((wnp (L c.toNat) Pn : Nat) : Int) from by rw [wz_np (by omega) (by omega), Int.toNat_natCast, Int.toNat_natCast]]
          have hwp := wnp_lt (p := Pn) (show L c.toNat < 2 ^ 14 by omega)
          refine zH_w (c' := (84, [zR 97, .inl a1, .inl a2, .inl a3, .inl a4, .inl a5, .inl a6, .inl c], [.inl (zbor (x : Int) ((wnp (L c.toNat) Pn : Nat) : Int)), zR 97])) 2 hz rfl ?_
          rw [show zbor (x : Int) ((wnp (L c.toNat) Pn : Nat) : Int) = ((x ||| wnp (L c.toNat) Pn : Nat) : Int) from wz_or2 x2 hwp]
          have hx7 : wcl L Pn c.toNat (x ||| wnp (L c.toNat) Pn) = (wWd L a2.toNat Pn) := wWd_s x3 hby
          refine zH_w (c' := (87, [zR 97, .inl a1, .inl a2, .inl a3, .inl a4, .inl a5, .inl a6, .inl c], [])) 1 hz rfl ?_
          obtain ⟨M8, hM8⟩ : ∃ X : zM, X = zput M5 97 28 ((x ||| wnp (L c.toNat) Pn : Nat) : Int) := ⟨_, rfl⟩
          rw [← hM8]
          have hO8 : M8 98 = Mo 98 ∧ M8 114 = M2 114 ∧ M8 97 31 = M2 97 31 ∧ M8 97 33 = M2 97 33 ∧ M8 97 21 = (Pn : Int) := ⟨by rw [hM8, zput_oth (by decide)]; exact hO.1, by rw [hM8, zput_oth (by decide)]; exact hO.2.1, by rw [hM8, qput_nk (by decide)]; exact hO.2.2.1, by rw [hM8, qput_nk (by decide)]; exact hO.2.2.2.1, by rw [hM8, qput_nk (by decide)]; exact hO.2.2.2.2⟩
          have hx8 : ∃ x : Nat, M8 97 28 = (x : Int) ∧ x < 2 ^ 14 ∧ wcl L Pn c.toNat x = (wWd L a2.toNat Pn) := ⟨_, by rw [hM8, qput_eq], (Nat.or_lt_two_pow x2 hwp), hx7⟩
          refine zH_w (c' := (35, [zR 97, .inl a1, .inl a2, .inl a3, .inl a4, .inl a5, .inl a6, .inl (c - 1)], [])) 2 hz (by rw [show (.inl (c - 1) : zV) = .inl (w32 (c + (-1))) from by rw [w32_id (by omega)]; rfl]; rfl) ?_
          refine ih35 (c - 1) M8 (by omega) ?_ ?_ ?_
          · omega
          · exact hO8
          · rw [show (c - 1 + 1).toNat = c.toNat by omega]; exact hx8
  refine lp35 (15) ((Nc : Int) - 1) M3 (by omega) ?_ ?_ ?_
  · omega
  · exact hO3
  · exact hx3
set_option maxRecDepth 100000 in
theorem fh_268_97 {n : Nat} {M : zM} {L T : Nat → Nat} {Nc Pn : Nat} (hco : wCo L T Nc) {Mo : zM} (hc9 : ∀ c, c < Nc → Mo 98 (21 + 4 * c) = (L c : Int) ∧ Mo 98 (22 + 4 * c) = (T c : Int)) (hN : Mo 98 0 = (Nc : Int)) (hM : qMI M) (e98 : M 98 = Mo 98) {P Q : Int → List Int} (hH : mH Mo P Q) (hV : wVt L T M) (a1 a2 a3 a4 a5 a6 : Int) (hPn : (jPs Mo (hCt Mo a6 (-1) (Mo 98 4).toNat (Mo 98 4).toNat) a1 (P (oBi (Mo 98) a1 a5)) (Mo 98 0).toNat) = (Pn : Int)) : zH n (0, 0) 268 (0, zini [zR 97, .inl a1, .inl a2, .inl a3, .inl a4, .inl a5, .inl a6] 7, []) M (fun r M' => ∃ x : Int, r = some (.inl x) ∧ ((¬ wOkk Mo Nc a1 a2 a3 a4 a5 a6 ∧ x = -2) ∨ (wOkk Mo Nc a1 a2 a3 a4 a5 a6 ∧ wWy L T a4.toNat (wWd L a2.toNat Pn) a3.toNat x)) ∧ wVt L T M') := by
  have hz := zp_268
  show zH n (0, 0) 268 (0, [zR 97, .inl a1, .inl a2, .inl a3, .inl a4, .inl a5, .inl a6], []) M _
  refine zH_wC (c1 := (13, [zR 97, .inl a1, .inl a2, .inl a3, .inl a4, .inl a5, .inl a6], [])) 7 hz zp_266 (fh_266_97 hco.1 hN hM e98 a1 a2 a3 a4 a5 a6) (by rfl) ?_
  rintro _ M1 ⟨⟨y, rfl, hy⟩, e1⟩
  show zH n (0, 0) 268 (13, [zR 97, .inl a1, .inl a2, .inl a3, .inl a4, .inl a5, .inl a6], [.inl y]) M1 _
  replace e1 := e1.symm
  subst e1
  refine zH_if_eq hz rfl (fun hb13 => ?_) (fun hb13 => ?_)
  · skip
    have hno := hy.mp hb13
    refine zH_w (c' := (34, [zR 97, .inl a1, .inl a2, .inl a3, .inl a4, .inl a5, .inl a6], [.inl (-2)])) 1 hz rfl ?_
    refine zH_ret hz rfl rfl ?_
    first
      | exact ⟨x, rfl, .inr ⟨hok, hx⟩, hV2⟩
      | exact ⟨-2, rfl, .inl ⟨hno, rfl⟩, hV⟩
  · skip
    have hok : wOkk Mo Nc a1 a2 a3 a4 a5 a6 := Classical.byContradiction (fun q => hb13 (hy.mpr q))
    refine zH_w (c' := (26, [zR 97, .inl a1, .inl a2, .inl a3, .inl a4, .inl a5, .inl a6], [.inl a6, .inl a5, .inl a4, .inl a3, .inl a2, .inl a1, zR 97])) 7 hz rfl ?_
    refine zH_wC (c1 := (29, [zR 97, .inl a1, .inl a2, .inl a3, .inl a4, .inl a5, .inl a6], [])) 0 hz zp_267 (fh_267_97 hco hc9 hN hM e98 hH hV a1 a2 a3 a4 a5 a6 hPn hok) (by rfl) ?_
    rintro _ M2 ⟨x, rfl, hx, -, -, hV2⟩
    show zH n (0, 0) 268 (29, [zR 97, .inl a1, .inl a2, .inl a3, .inl a4, .inl a5, .inl a6], [.inl x]) M2 _
    refine zH_w (c' := (34, [zR 97, .inl a1, .inl a2, .inl a3, .inl a4, .inl a5, .inl a6], [.inl x])) 1 hz rfl ?_
    refine zH_ret hz rfl rfl ?_
    first
      | exact ⟨x, rfl, .inr ⟨hok, hx⟩, hV2⟩
      | exact ⟨-2, rfl, .inl ⟨hno, rfl⟩, hV⟩
theorem wSub.xorW {l W : Nat} (h : wSub l W) (hW : W < 2 ^ 14) : W ^^^ l < 2 ^ 14 := Nat.lt_of_le_of_lt (Nat.le_of_testBit h.xor) hW
set_option maxRecDepth 100000 in
theorem fh_270_97 {n : Nat} {M : zM} {L T : Nat → Nat} {Nc Pn : Nat} (hco : wCo L T Nc) {Mo : zM} (hc9 : ∀ c, c < Nc → Mo 98 (21 + 4 * c) = (L c : Int) ∧ Mo 98 (22 + 4 * c) = (T c : Int)) (hN : Mo 98 0 = (Nc : Int)) (hM : qMI M) (e98 : M 98 = Mo 98) {P Q : Int → List Int} (hH : mH Mo P Q) (hV : wVt L T M) (a1 a2 a3 a4 a5 a6 a7 : Int) (hPn : (jPs Mo (hCt Mo a6 (-1) (Mo 98 4).toNat (Mo 98 4).toNat) a1 (P (oBi (Mo 98) a1 a5)) (Mo 98 0).toNat) = (Pn : Int)) : zH n (0, 0) 270 (0, zini [zR 97, .inl a1, .inl a2, .inl a3, .inl a4, .inl a5, .inl a6, .inl a7] 12, []) M (fun r M' => ∃ x : Int, r = some (.inl x) ∧ ((¬ (wOkk Mo Nc a1 a2 a3 a4 a5 a6 ∧ 0 ≤ a7) ∧ x = -2) ∨ ((wOkk Mo Nc a1 a2 a3 a4 a5 a6 ∧ 0 ≤ a7) ∧ wWt9 L T a4.toNat (wWd L a2.toNat Pn) a3.toNat a7 x)) ∧ wVt L T M') := by
  have hz := zp_270
  show zH n (0, 0) 270 (0, [zR 97, .inl a1, .inl a2, .inl a3, .inl a4, .inl a5, .inl a6, .inl a7, zN, zN, zN, zN], []) M _
  refine zH_wC (c1 := (13, [zR 97, .inl a1, .inl a2, .inl a3, .inl a4, .inl a5, .inl a6, .inl a7, zN, zN, zN, zN], [])) 7 hz zp_266 (fh_266_97 hco.1 hN hM e98 a1 a2 a3 a4 a5 a6) (by rfl) ?_
  rintro _ M1 ⟨⟨y, rfl, hy⟩, e1⟩
  show zH n (0, 0) 270 (13, [zR 97, .inl a1, .inl a2, .inl a3, .inl a4, .inl a5, .inl a6, .inl a7, zN, zN, zN, zN], [.inl y]) M1 _
  replace e1 := e1.symm
  subst e1
  refine zH_if_eq hz rfl (fun hb13 => ?_) (fun hb13 => ?_)
  · skip
    have hno : ¬ (wOkk Mo Nc a1 a2 a3 a4 a5 a6 ∧ 0 ≤ a7) := fun q => hy.mp hb13 q.1
    refine zH_w (c' := (23, [zR 97, .inl a1, .inl a2, .inl a3, .inl a4, .inl a5, .inl a6, .inl a7, zN, zN, zN, zN], [.inl (-2)])) 1 hz rfl ?_
    exact zH_wr (r := some (.inl (-2))) 0 hz (by rfl) (⟨-2, rfl, .inl ⟨hno, rfl⟩, hV⟩)
  · skip
    have hok : wOkk Mo Nc a1 a2 a3 a4 a5 a6 := Classical.byContradiction (fun q => hb13 (hy.mpr q))
    refine zH_w (c' := (18, [zR 97, .inl a1, .inl a2, .inl a3, .inl a4, .inl a5, .inl a6, .inl a7, zN, zN, zN, zN], [.inl a7])) 1 hz rfl ?_
    refine zH_wf_ge (pc := 18) (n' := 21) (t := 24) (L := [zR 97, .inl a1, .inl a2, .inl a3, .inl a4, .inl a5, .inl a6, .inl a7, zN, zN, zN, zN]) (st := []) (x := a7) 0 hz (by rfl) (fun hb18 => ?_) (fun hb18 => ?_)
    · skip
      refine zH_wC (c1 := (37, [zR 97, .inl a1, .inl a2, .inl a3, .inl a4, .inl a5, .inl a6, .inl a7, zN, zN, zN, zN], [])) 7 hz zp_267 (fh_267_97 hco hc9 hN hM e98 hH hV a1 a2 a3 a4 a5 a6 hPn hok) (by rfl) ?_
      rintro _ M2 ⟨x, rfl, hx, hR2, hL2, hV2⟩
      show zH n (0, 0) 270 (37, [zR 97, .inl a1, .inl a2, .inl a3, .inl a4, .inl a5, .inl a6, .inl a7, zN, zN, zN, zN], [.inl x]) M2 _
      obtain ⟨v, v1, v2, v3⟩ := hx
      have hA : a2.toNat < 2 ^ Nc := by have := hok.2.1; omega
      have hok3 := hok.2.2.1
      have hok4 := hok.2.2.2.1
      have hn4 : 1 ≤ a4.toNat ∧ a4.toNat ≤ 4 := by omega
      have e4 : a4 = ((a4.toNat : Nat) : Int) := by omega
      have hPr := jPs_r Mo (hCt Mo a6 (-1) (Mo 98 4).toNat (Mo 98 4).toNat) a1 (P (oBi (Mo 98) a1 a5)) (Mo 98 0).toNat (by have := hco.1; omega)
      rw [hPn, show (Mo 98 0).toNat = Nc by omega] at hPr
      have hP14 : Pn < 2 ^ 14 := wN_14 hco (by omega)
      have hW14 := (wWd_W (P := Pn) hco hA).1
      refine zH_w (c' := (43, [zR 97, .inl a1, .inl a2, .inl a3, .inl a4, .inl a5, .inl a6, .inl a7, .inl x, zN, zN, zN], [.inl x, .inl a7])) 3 hz rfl ?_
      refine zH_wi_lt (pc := 43) (n' := 46) (t := 48) (L := [zR 97, .inl a1, .inl a2, .inl a3, .inl a4, .inl a5, .inl a6, .inl a7, .inl x, zN, zN, zN]) (st := []) (x := a7) (y := x) 0 hz (by rfl) (fun hb43 => ?_) (fun hb43 => ?_)
      · skip
        refine zH_w (c' := (57, [zR 97, .inl a1, .inl a2, .inl a3, .inl a4, .inl a5, .inl a6, .inl a7, .inl x, .inl 0, .inl 0, .inl 0], [])) 6 hz rfl ?_
        have lp57 : ∀ (N : Nat) (l : Int) (s : Int) (k : Int) (M5 : zM), ((a7 + 1 - k).toNat) < N → (0 ≤ k ∧ k ≤ a7 + 1) → (0 ≤ l ∧ wSub l.toNat (wWd L a2.toNat Pn)) → (0 ≤ s ∧ wSt L T a4.toNat k.toNat (wWd L a2.toNat Pn) a3.toNat ((wWd L a2.toNat Pn) ^^^ l.toNat) s.toNat) → (wFw L T a4.toNat ((wWd L a2.toNat Pn) ^^^ l.toNat) ((a3.toNat + k.toNat) % 3) (v - k.toNat)) → (wRm L T (wWd L a2.toNat Pn) Pn Nc M5) → (wLf L T a4.toNat (wWd L a2.toNat Pn) M5) → (wVt L T M5) → zH n (0, 0) 270 (57, [zR 97, .inl a1, .inl a2, .inl a3, .inl a4, .inl a5, .inl a6, .inl a7, .inl x, .inl l, .inl s, .inl k], []) M5 (fun r M' => ∃ x : Int, r = some (.inl x) ∧ ((¬ (wOkk Mo Nc a1 a2 a3 a4 a5 a6 ∧ 0 ≤ a7) ∧ x = -2) ∨ ((wOkk Mo Nc a1 a2 a3 a4 a5 a6 ∧ 0 ≤ a7) ∧ wWt9 L T a4.toNat (wWd L a2.toNat Pn) a3.toNat a7 x)) ∧ wVt L T M') := by
          intro N
          induction N with
          | zero => intro l s k M5 hN; exact absurd hN (Nat.not_lt_zero _)
          | succ N ih57 =>
            intro l s k M5 hN hk hl hs hf hR5 hL5 hV5
            refine zH_w (c' := (61, [zR 97, .inl a1, .inl a2, .inl a3, .inl a4, .inl a5, .inl a6, .inl a7, .inl x, .inl l, .inl s, .inl k], [.inl a7, .inl k])) 2 hz rfl ?_
            refine zH_wi_gt (pc := 61) (n' := 64) (t := 93) (L := [zR 97, .inl a1, .inl a2, .inl a3, .inl a4, .inl a5, .inl a6, .inl a7, .inl x, .inl l, .inl s, .inl k]) (st := []) (x := k) (y := a7) 0 hz (by rfl) (fun hb61 => ?_) (fun hb61 => ?_)
            · skip
              exact zH_wr (r := some (.inl s)) 1 hz (by rfl) (⟨s, rfl, .inr ⟨⟨hok, by omega⟩, ⟨v, v2, v3, .inr ⟨by omega, _, s.toNat, by rw [show a7.toNat + 1 = k.toNat by omega]; exact hs.2, by omega⟩⟩⟩, hV5⟩)
            · skip
              have hne : (wWd L a2.toNat Pn) ^^^ l.toNat ≠ 0 := fun z => by
                rw [z] at hf
                have := wFw_u hf (wFw_0 _)
                omega
              refine zH_w (c' := (72, [zR 97, .inl a1, .inl a2, .inl a3, .inl a4, .inl a5, .inl a6, .inl a7, .inl x, .inl l, .inl s, .inl k], [.inl 3, .inl (w32 (a3 + k)), .inl l, zR 97])) 6 hz rfl ?_
              refine zH_irem hz rfl (fun hdv72 => ?_)
              show zH n (0, 0) 270 (73, [zR 97, .inl a1, .inl a2, .inl a3, .inl a4, .inl a5, .inl a6, .inl a7, .inl x, .inl l, .inl s, .inl k], [.inl ((w32 (a3 + k)).tmod 3), .inl l, zR 97]) M5 _
              rw [show (w32 (a3 + k)).tmod 3 = (((a3.toNat + k.toNat) % 3 : Nat) : Int) from by rw [w32_id (by omega), wmod _ (by omega), show (a3 + k).toNat = a3.toNat + k.toNat by omega]]
              refine zH_w (c' := (75, [zR 97, .inl a1, .inl a2, .inl a3, .inl a4, .inl a5, .inl a6, .inl a7, .inl x, .inl l, .inl s, .inl k], [.inl a4, .inl (((a3.toNat + k.toNat) % 3 : Nat) : Int), .inl l, zR 97])) 1 hz rfl ?_
              refine zH_wC (c1 := (78, [zR 97, .inl a1, .inl a2, .inl a3, .inl a4, .inl a5, .inl a6, .inl a7, .inl x, .inl l, .inl s, .inl k], [])) 0 hz zp_269 (fh_269_97 hR5 hco.2.1 (wWd_n hco hA hP14) (wWd_W hco hA) hn4 hL5 l (((a3.toNat + k.toNat) % 3 : Nat) : Int) a4 hl.1 hl.2 hne (by omega) e4) (by rfl) ?_
              rintro _ M7 ⟨S, rfl, hG, f7, g7⟩
              show zH n (0, 0) 270 (78, [zR 97, .inl a1, .inl a2, .inl a3, .inl a4, .inl a5, .inl a6, .inl a7, .inl x, .inl l, .inl s, .inl k], [.inl (S : Int)]) M7 _
              rw [Int.toNat_natCast] at hG
              have hGs := hG.1.1.sub
              have hsn := wXo hl.2 hGs
              have hS14 : S < 2 ^ 14 := hGs.lt (hl.2.xorW hW14)
              have hl14 := hl.2.lt hW14
              have hR7 : wRm L T (wWd L a2.toNat Pn) Pn Nc M7 := hR5.mv (f7 98 (by decide) (by decide)) (g7 28 (by decide)) (g7 21 (by decide))
              have hL7 := hL5.mv (f7 114 (by decide) (by decide))
              have hV7 : wVt L T M7 := hV5.mv (g7 31 (by decide)) (g7 33 (by decide)) (f7 114 (by decide) (by decide))
              have hfn : wFw L T a4.toNat (((wWd L a2.toNat Pn) ^^^ l.toNat) ^^^ S) ((a3.toNat + (k.toNat + 1)) % 3) (v - (k.toNat + 1)) := by
                obtain ⟨-, u, u1, u2⟩ := hG.1
                have := wFw_u u2 hf
                rw [show (a3.toNat + (k.toNat + 1)) % 3 = ((a3.toNat + k.toNat) % 3 + 1) % 3 by omega, show v - (k.toNat + 1) = u by omega]
                exact u1
              refine zH_w (c' := (85, [zR 97, .inl a1, .inl a2, .inl a3, .inl a4, .inl a5, .inl a6, .inl a7, .inl x, .inl l, .inl (S : Int), .inl k], [.inl (zbor l (S : Int))])) 4 hz rfl ?_
              rw [show zbor l (S : Int) = ((l.toNat ||| S : Nat) : Int) from by rw [show zbor l (S : Int) = zbor ((l.toNat : Nat) : Int) (S : Int) from by rw [show ((l.toNat : Nat) : Int) = l by omega]]; exact wz_or2 hl14 hS14]
              refine zH_w (c' := (57, [zR 97, .inl a1, .inl a2, .inl a3, .inl a4, .inl a5, .inl a6, .inl a7, .inl x, .inl ((l.toNat ||| S : Nat) : Int), .inl (S : Int), .inl (k + 1)], [])) 3 hz (by rw [show (.inl (k + 1) : zV) = .inl (w32 (k + 1)) from by rw [w32_id (by omega)]]; rfl) ?_
              refine ih57 ((l.toNat ||| S : Nat) : Int) (S : Int) (k + 1) M7 (by omega) ?_ ?_ ?_ ?_ ?_ ?_ ?_
              · omega
              · exact ⟨by omega, by rw [Int.toNat_natCast]; exact hsn.1⟩
              · exact ⟨by omega, by rw [Int.toNat_natCast, Int.toNat_natCast, show (k + 1).toNat = k.toNat + 1 by omega]; exact ⟨_, _, hs.2, hG, hsn.2⟩⟩
              · rw [Int.toNat_natCast, show (k + 1).toNat = k.toNat + 1 by omega, hsn.2]; exact hfn
              · exact hR7
              · exact hL7
              · exact hV7
        refine lp57 (100) 0 0 0 M2 (by omega) ?_ ?_ ?_ ?_ ?_ ?_ ?_
        · omega
        · exact ⟨by omega, by rw [show (0 : Int).toNat = 0 from rfl]; exact fun i q => absurd q wb_0⟩
        · exact ⟨by omega, by rw [show (0 : Int).toNat = 0 from rfl, Nat.xor_zero]; exact ⟨rfl, rfl⟩⟩
        · rw [show (0 : Int).toNat = 0 from rfl, Nat.xor_zero, show (a3.toNat + 0) % 3 = a3.toNat by omega]; exact v3
        · exact hR2
        · exact hL2
        · exact hV2
      · skip
        exact zH_wr (r := some (.inl (-1))) 1 hz (by rfl) (⟨-1, rfl, .inr ⟨⟨hok, by omega⟩, ⟨v, v2, v3, .inl ⟨by omega, rfl⟩⟩⟩, hV2⟩)
    · skip
      have hno : ¬ (wOkk Mo Nc a1 a2 a3 a4 a5 a6 ∧ 0 ≤ a7) := fun q => absurd q.2 (by omega)
      exact zH_wr (r := some (.inl (-2))) 1 hz (by rfl) (⟨-2, rfl, .inl ⟨hno, rfl⟩, hV⟩)
set_option maxRecDepth 100000 in
theorem fh_291_97 {n : Nat} {M : zM} (a1 : Int) : zH n (0, 0) 291 (0, zini [zR 97, .inl a1] 3, []) M (fun r M' => (M' = M ∧ r ≠ some (.inl 1)) ∨ M' 97 31 = -1) := by
  have hz := zp_291
  show zH n (0, 0) 291 (0, [zR 97, .inl a1, zN], []) M _
  refine zH_wE (c1 := (6, [zR 97, .inl a1, zN], [])) 3 hz zp_180 (fh_180 a1 0 1) (by rfl) ?_
  show zH n (0, 0) 291 (6, [zR 97, .inl a1, zN], [.inl (hf_180 M a1 0 1)]) M _
  refine zH_wf_ne (pc := 6) (n' := 9) (t := 12) (L := [zR 97, .inl a1, zN]) (st := []) (x := (hf_180 M a1 0 1)) 0 hz (by rfl) (fun hb6 => ?_) (fun hb6 => ?_)
  · skip
    refine zH_w (c' := (17, [zR 97, .inl a1, zN], [.inl a1, zR 100])) 3 hz rfl ?_
    refine zH_bald hz rfl rfl (.inl rfl) (fun hin17 => ?_)
    show zH n (0, 0) 291 (18, [zR 97, .inl a1, zN], [.inl (M 100 (a1 : Int).toNat)]) M _
    refine zH_wf_ne (pc := 18) (n' := 21) (t := 24) (L := [zR 97, .inl a1, zN]) (st := []) (x := (M 100 (a1 : Int).toNat)) 0 hz (by rfl) (fun hb18 => ?_) (fun hb18 => ?_)
    · skip
      refine zH_w (c' := (26, [zR 97, .inl a1, .inl 0], [])) 2 hz rfl ?_
      have lp26 : ∀ (N : Nat) (k : Int) (M5 : zM), ((5664 - k).toNat) < N → (0 ≤ k ∧ k ≤ 5664) → zH n (0, 0) 291 (26, [zR 97, .inl a1, .inl k], []) M5 (fun r M' => (M' = M ∧ r ≠ some (.inl 1)) ∨ M' 97 31 = -1) := by
        intro N
        induction N with
        | zero => intro k M5 hN; exact absurd hN (Nat.not_lt_zero _)
        | succ N ih26 =>
          intro k M5 hN hk
          refine zH_w (c' := (30, [zR 97, .inl a1, .inl k], [.inl 5664, .inl k])) 2 hz rfl ?_
          refine zH_wi_ge (pc := 30) (n' := 33) (t := 57) (L := [zR 97, .inl a1, .inl k]) (st := []) (x := k) (y := 5664) 0 hz (by rfl) (fun hb30 => ?_) (fun hb30 => ?_)
          · skip
            refine zH_w (c' := (62, [zR 97, .inl a1, .inl k], [])) 3 hz rfl ?_
            obtain ⟨M7, hM7⟩ : ∃ X : zM, X = zput M5 97 31 (-1) := ⟨_, rfl⟩
            rw [← hM7]
            refine zH_w (c' := (63, [zR 97, .inl a1, .inl k], [.inl 1])) 1 hz rfl ?_
            exact zH_wr (r := some (.inl 1)) 0 hz (by rfl) (.inr (by rw [hM7, qput_eq]))
          · skip
            refine zH_w (c' := (49, [zR 97, .inl a1, .inl k], [.inl (w32 ((w32 (5664 * a1)) + k)), zR 99, .inl k, zR 98])) 10 hz rfl ?_
            refine zH_iald hz rfl rfl (.inl rfl) (fun hin49 => ?_)
            show zH n (0, 0) 291 (50, [zR 97, .inl a1, .inl k], [.inl (M5 99 (w32 ((w32 (5664 * a1)) + k) : Int).toNat), .inl k, zR 98]) M5 _
            refine zH_iast hz rfl rfl (fun hin50 => ?_)
            show zH n (0, 0) 291 (51, [zR 97, .inl a1, .inl k], []) (zput M5 98 (k : Int).toNat (M5 99 (w32 ((w32 (5664 * a1)) + k) : Int).toNat)) _
            obtain ⟨M6, hM6⟩ : ∃ X : zM, X = zput M5 98 (k : Int).toNat (M5 99 (w32 ((w32 (5664 * a1)) + k) : Int).toNat) := ⟨_, rfl⟩
            rw [← hM6]
            refine zH_w (c' := (26, [zR 97, .inl a1, .inl (k + 1)], [])) 2 hz (by rw [show (.inl (k + 1) : zV) = .inl (w32 (k + 1)) from by rw [w32_id (by omega)]]; rfl) ?_
            refine ih26 (k + 1) M6 (by omega) ?_
            · omega
      refine lp26 (5665) 0 M (by omega) ?_
      · omega
    · skip
      exact zH_wr (r := some (.inl (-3))) 1 hz (by rfl) (.inl ⟨rfl, fun h => absurd (Sum.inl.inj (Option.some.inj h)) (by decide)⟩)
  · skip
    exact zH_wr (r := some (.inl (-2))) 1 hz (by rfl) (.inl ⟨rfl, fun h => absurd (Sum.inl.inj (Option.some.inj h)) (by decide)⟩)
