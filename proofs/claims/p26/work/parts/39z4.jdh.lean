/-! HANGS -/
set_option maxRecDepth 100000 in
theorem fh_106_79 {n : Nat} {M : zM} (a1 : Int) (a2 : Int) : zH n (0, 0) 106 (0, zini [zR 79, .inl a1, .inl a2] 3, []) M (fun r M' => r = some (.inl (hR_get M 79 a1 a2)) ∧ M' = M) := by
  have hz := zp_106
  have hE : hR_get M 79 a1 a2 = hR_get M 79 a1 a2 := rfl
  show zH n (0, 0) 106 (0, [zR 79, .inl a1, .inl a2], []) M _
  refine zH_wf_lt (pc := 1) (n' := 4) (t := 24) (L := [zR 79, .inl a1, .inl a2]) (st := []) (x := a1) 1 hz (by rfl) (fun hb => ?_) (fun hb => ?_)
  · have hE := hE.trans (if_pos hb)
    exact zH_wr (r := some (.inl (-1))) 1 hz (by rfl) (hfinP hE)
  · have hE := hE.trans (if_neg hb)
    refine zH_wi_ge (pc := 9) (n' := 12) (t := 24) (L := [zR 79, .inl a1, .inl a2]) (st := []) (x := a1) (y := (M 79 0)) 3 hz (by rfl) (fun hb => ?_) (fun hb => ?_)
    · have hE := hE.trans (if_pos hb)
      exact zH_wr (r := some (.inl (-1))) 1 hz (by rfl) (hfinP hE)
    · have hE := hE.trans (if_neg hb)
      refine zH_wf_lt (pc := 13) (n' := 16) (t := 24) (L := [zR 79, .inl a1, .inl a2]) (st := []) (x := a2) 1 hz (by rfl) (fun hb => ?_) (fun hb => ?_)
      · have hE := hE.trans (if_pos hb)
        exact zH_wr (r := some (.inl (-1))) 1 hz (by rfl) (hfinP hE)
      · have hE := hE.trans (if_neg hb)
        refine zH_wi_lt (pc := 21) (n' := 24) (t := 26) (L := [zR 79, .inl a1, .inl a2]) (st := []) (x := a2) (y := (M 79 1)) 3 hz (by rfl) (fun hb => ?_) (fun hb => ?_)
        · have hE := hE.trans (if_pos hb)
          refine zH_w (c' := (38, [zR 79, .inl a1, .inl a2], [.inl (w32 ((w32 (a1 * (M 79 1))) + a2)), zR 80])) 8 hz rfl ?_
          refine zH_iald hz rfl rfl (.inl rfl) (fun _ => ?_)
          show zH n (0, 0) 106 (39, [zR 79, .inl a1, .inl a2], [.inl (M 80 (w32 ((w32 (a1 * (M 79 1))) + a2) : Int).toNat)]) M _
          exact zH_wr (r := some (.inl (M 80 (w32 ((w32 (a1 * (M 79 1))) + a2) : Int).toNat))) 0 hz (by rfl) (hfinP hE)
        · have hE := hE.trans (if_neg hb)
          exact zH_wr (r := some (.inl (-1))) 1 hz (by rfl) (hfinP hE)
set_option maxRecDepth 100000 in
theorem fh_107_79 {n : Nat} {M : zM} (a1 : Int) (a2 : Int) (a3 : Int) : zH n (0, 0) 107 (0, zini [zR 79, .inl a1, .inl a2, .inl a3] 4, []) M (fun r M' => r = none ∧ M' = hR_set M 79 a1 a2 a3) := by
  have hz := zp_107
  have hE : hR_set M 79 a1 a2 a3 = hR_set M 79 a1 a2 a3 := rfl
  show zH n (0, 0) 107 (0, [zR 79, .inl a1, .inl a2, .inl a3], []) M _
  refine zH_wf_lt (pc := 1) (n' := 4) (t := 24) (L := [zR 79, .inl a1, .inl a2, .inl a3]) (st := []) (x := a1) 1 hz (by rfl) (fun hb => ?_) (fun hb => ?_)
  · have hE := hE.trans (if_pos hb)
    exact zH_wr (r := none) 0 hz (by rfl) ⟨rfl, hE.symm⟩
  · have hE := hE.trans (if_neg hb)
    refine zH_wi_ge (pc := 9) (n' := 12) (t := 24) (L := [zR 79, .inl a1, .inl a2, .inl a3]) (st := []) (x := a1) (y := (M 79 0)) 3 hz (by rfl) (fun hb => ?_) (fun hb => ?_)
    · have hE := hE.trans (if_pos hb)
      exact zH_wr (r := none) 0 hz (by rfl) ⟨rfl, hE.symm⟩
    · have hE := hE.trans (if_neg hb)
      refine zH_wf_lt (pc := 13) (n' := 16) (t := 24) (L := [zR 79, .inl a1, .inl a2, .inl a3]) (st := []) (x := a2) 1 hz (by rfl) (fun hb => ?_) (fun hb => ?_)
      · have hE := hE.trans (if_pos hb)
        exact zH_wr (r := none) 0 hz (by rfl) ⟨rfl, hE.symm⟩
      · have hE := hE.trans (if_neg hb)
        refine zH_wi_lt (pc := 21) (n' := 24) (t := 25) (L := [zR 79, .inl a1, .inl a2, .inl a3]) (st := []) (x := a2) (y := (M 79 1)) 3 hz (by rfl) (fun hb => ?_) (fun hb => ?_)
        · have hE := hE.trans (if_pos hb)
          refine zH_w (c' := (38, [zR 79, .inl a1, .inl a2, .inl a3], [.inl a3, .inl (w32 ((w32 (a1 * (M 79 1))) + a2)), zR 80])) 9 hz rfl ?_
          refine zH_iast hz rfl rfl (fun _ => ?_)
          show zH n (0, 0) 107 (39, [zR 79, .inl a1, .inl a2, .inl a3], []) (zput M 80 (w32 ((w32 (a1 * (M 79 1))) + a2) : Int).toNat a3) _
          exact zH_wr (r := none) 0 hz (by rfl) ⟨rfl, hE.symm⟩
        · have hE := hE.trans (if_neg hb)
          exact zH_wr (r := none) 0 hz (by rfl) ⟨rfl, hE.symm⟩
section HG
variable {M M' : zM} {C C' : Nat → Bool} {P Q : Int → List Int}
/-- only meetings differ -/
noncomputable def hgE (M M' : zM) : Prop := ∀ j, (j < 150 ∨ 350 ≤ j) → M' 98 j = M 98 j
noncomputable def hgG (M M' : zM) (C C' : Nat → Bool) : Prop := hgE M M' ∧ qMI M ∧ ∀ a : Nat, (a : Int) < M 98 4 → C' a = C a
theorem qA_g (e : hgE M M') {a k : Int} (ha : 0 ≤ a) (hk : 0 ≤ k) : qA M' a k = qA M a k := by
  show M' 98 (350 + 12 * a + k).toNat = M 98 (350 + 12 * a + k).toNat
  exact e _ (.inr (by omega))
theorem kR_g (e : hgE M M') {a : Int} (ha : 0 ≤ a) : kR M' a = kR M a := by unfold kR; rw [qA_g e ha (by decide), qA_g e ha (by decide)]
theorem hgG.c (h : hgG M M' C C') {n : Nat} (hn : n + 1 ≤ (M 98 4).toNat) : C' n = C n := h.2.2 n (by omega)
theorem kT_g (h : hgG M M' C C') (r : Int) : ∀ n : Nat, n ≤ (M 98 4).toNat → kT M' C' r n = kT M C r n
  | 0, _ => rfl
  | n + 1, hn => by rw [kT_s, kT_s, kT_g h r n (by omega), h.c hn, qA_g h.1 (by omega) (by decide), kR_g h.1 (by omega)]
theorem kX_g (h : hgG M M' C C') (r : Int) : ∀ n : Nat, n ≤ (M 98 4).toNat → kX M' C' r n = kX M C r n
  | 0, _ => rfl
  | n + 1, hn => by rw [kX_s, kX_s, kX_g h r n (by omega), h.c hn, qA_g h.1 (by omega) (by decide), kR_g h.1 (by omega)]
theorem kF_g (h : hgG M M' C C') (r : Int) : ∀ n : Nat, n ≤ (M 98 4).toNat → kF M' C' r n = kF M C r n
  | 0, _ => rfl
  | n + 1, hn => by
    have q := kF_r M C r n
    rw [kF_s, kF_s, kF_g h r n (by omega), h.c hn, qA_g h.1 (a := (n : Int)) (k := 0) (by omega) (by decide), qA_g h.1 (a := (n : Int)) (k := 1) (by omega) (by decide), kR_g h.1 (by omega)]
    by_cases c : kF M C r n = -1
    · simp only [c, true_or, ↓reduceIte]
    · rw [qA_g h.1 (a := kF M C r n) (by omega) (by decide)]
theorem kL_g (h : hgG M M' C C') (s m : Int) : ∀ n : Nat, n ≤ (M 98 4).toNat → kL M' C' s m n = kL M C s m n
  | 0, _ => rfl
  | n + 1, hn => by rw [kL_s, kL_s, kL_g h s m n (by omega), h.c hn, qA_g h.1 (by omega) (by decide), qA_g h.1 (by omega) (by decide)]
theorem kS_g (h : hgG M M' C C') {m : Int} (hm : 0 ≤ m) : ∀ n : Nat, n ≤ (M 98 4).toNat → kS M' C' m n = kS M C m n
  | 0, _ => rfl
  | n + 1, hn => by rw [kS_s, kS_s, kS_g h hm n (by omega), h.c hn, qA_g h.1 (a := (n : Int)) (k := 0) (by omega) (by decide), qA_g h.1 (a := (n : Int)) (k := 5) (by omega) (by decide), qA_g h.1 (a := (n : Int)) (k := 1) (by omega) (by decide), qA_g h.1 (a := m) (k := 5) hm (by decide), qA_g h.1 (a := m) (k := 1) hm (by decide)]
theorem kCap_g (h : hgG M M' C C') {m : Int} (hm : 0 ≤ m ∧ m < 250) : kCap M' m = kCap M m := by
  have q := (h.2.1.act m hm).2.2.1
  unfold kCap
  rw [qA_g h.1 hm.1 (by decide)]
  exact h.1 _ (.inl (by omega))
theorem kSc_g (h : hgG M M' C C') {m : Int} (hm : 0 ≤ m) (v : Int) {n : Nat} (hn : n ≤ (M 98 4).toNat) : kSc M' C' n m v = kSc M C n m v := by
  have q := kS_r M C m n
  unfold kSc
  rw [kS_g h hm n hn]
  by_cases c : kS M C m n = -1
  · rw [if_pos c, if_pos c]
  · rw [if_neg c, if_neg c, qA_g h.1 (a := kS M C m n) (k := 9) (by omega) (by decide), qA_g h.1 (a := kS M C m n) (k := 10) (by omega) (by decide), qA_g h.1 (a := kS M C m n) (k := 11) (by omega) (by decide)]
theorem kV1_g (h : hgG M M' C C') {m : Int} (hm : 0 ≤ m) (s : Int) {n : Nat} (hn : n ≤ (M 98 4).toNat) : kV1 M' C' n m s = kV1 M C n m s := by
  have q := kL_r M C 1 m n
  unfold kV1
  rw [kL_g h 1 m n hn, qA_g h.1 hm (by decide)]
  by_cases c : 1 ≤ s ∧ ¬ kL M C 1 m n = -1
  · rw [if_pos c, if_pos c, qA_g h.1 (a := kL M C 1 m n) (by omega) (by decide)]
  · rw [if_neg c, if_neg c]
theorem kV2_g (h : hgG M M' C C') {m : Int} (hm : 0 ≤ m) (s : Int) {n : Nat} (hn : n ≤ (M 98 4).toNat) : kV2 M' C' n m s = kV2 M C n m s := by
  have q := kL_r M C 2 m n
  unfold kV2
  rw [kL_g h 2 m n hn, kV1_g h hm s hn]
  by_cases c : 2 ≤ s ∧ ¬ kL M C 2 m n = -1
  · rw [if_pos c, if_pos c, qA_g h.1 (a := kL M C 2 m n) (by omega) (by decide)]
  · rw [if_neg c, if_neg c]
theorem kV3_g (h : hgG M M' C C') {m : Int} (hm : 0 ≤ m) (s : Int) {n : Nat} (hn : n ≤ (M 98 4).toNat) : kV3 M' C' n m s = kV3 M C n m s := by
  unfold kV3
  rw [kV2_g h hm s hn, kSc_g h hm _ hn]
theorem kV4_g (h : hgG M M' C C') {m : Int} (hm : 0 ≤ m ∧ m < 250) (s : Int) {n : Nat} (hn : n ≤ (M 98 4).toNat) : kV4 M' C' n m s = kV4 M C n m s := by
  unfold kV4
  rw [kR_g h.1 hm.1, kF_g h _ n hn, kV3_g h hm.1 s hn, kCap_g h hm]
theorem kZ_g (h : hgG M M' C C') (r : Int) : ∀ n : Nat, n ≤ (M 98 4).toNat → kZ M' C' (M 98 4).toNat r n = kZ M C (M 98 4).toNat r n
  | 0, _ => rfl
  | n + 1, hn => by
    have h4 := h.2.1.cnt4
    rw [kZ_s, kZ_s, kZ_g h r n (by omega), h.c hn, qA_g h.1 (by omega) (by decide), kR_g h.1 (by omega), kV4_g h (by omega) 4 (Nat.le_refl _)]
theorem hgE.n4 (e : hgE M M') : M' 98 4 = M 98 4 := e 4 (.inl (by decide))
theorem hgE.n0 (e : hgE M M') : M' 98 0 = M 98 0 := e 0 (.inl (by decide))
theorem hgE.n1 (e : hgE M M') : M' 98 1 = M 98 1 := e 1 (.inl (by decide))
theorem hgE.n5 (e : hgE M M') : M' 98 5 = M 98 5 := e 5 (.inl (by decide))
theorem jF_g (h : hgG M M' C C') (s : Int) (c : Nat) : jF M' C' s c = jF M C s c := by unfold jF; rw [h.1.n4]; exact kZ_g h _ _ (Nat.le_refl _)
theorem jT_g (h : hgG M M' C C') (s : Int) (c : Nat) : jT M' C' s c = jT M C s c := by unfold jT; rw [h.1.n4]; exact kT_g h _ _ (Nat.le_refl _)
theorem jX_g (h : hgG M M' C C') (s : Int) (c : Nat) : jX M' C' s c = jX M C s c := by unfold jX; rw [h.1.n4]; exact kX_g h _ _ (Nat.le_refl _)
theorem jEc_g (h : hgG M M' C C') (s : Int) {c : Nat} (hc : c < 14) (p : Int) : jEc M' C' s c p = jEc M C s c p := by unfold jEc; rw [jF_g h, jT_g h, jX_g h, h.1 (21 + 4 * c) (.inl (by omega))]
theorem jPs_g (h : hgG M M' C C') (s : Int) (O : List Int) : ∀ c : Nat, c ≤ 14 → jPs M' C' s O c = jPs M C s O c
  | 0, _ => rfl
  | c + 1, hc => by rw [jPs_s, jPs_s, jPs_g h s O c (by omega), jEc_g h s (by omega)]
theorem jAl_g (h : hgG M M' C C') (s p : Int) : ∀ c : Nat, c ≤ 14 → jAl M' C' s p c = jAl M C s p c
  | 0, _ => rfl
  | c + 1, hc => by
    have e1 : jMk M' C' s c = jMk M C s c := by unfold jMk; rw [jF_g h]
    rw [jAl_s, jAl_s, jAl_g h s p c (by omega), e1, h.1 (20 + 4 * c) (.inl (by omega))]
theorem jGr_g (h : hgG M M' C C') (s : Int) (O R : List Int) (more : Int) : jGr M' C' s O R more = jGr M C s O R more := by
  have h0 := h.2.1.cnt0
  unfold jGr
  rw [h.1.n0, jPs_g h s O _ (by omega), jAl_g h s _ _ (by omega)]
theorem oLt_g {f f' : Nat → Int} (e : ∀ j, 350 ≤ j → f' j = f j) (d all : Int) : ∀ n : Nat, oLt f' d all n = oLt f d all n
  | 0 => rfl
  | n + 1 => by rw [oLt_s, oLt_s, oLt_g e d all n, e (4162 + 164 * n) (by omega), e (4163 + 164 * n) (by omega), e (4162 + 164 * (oLt f d all n).toNat) (by omega)]
theorem oBi_g (e : hgE M M') {s d : Int} (hs : 0 ≤ s ∧ s < 20) : oBi (M' 98) s d = oBi (M 98) s d := by
  have q := fun j (hj : 350 ≤ j) => e j (.inr hj)
  unfold oBi
  rw [e.n5, oLt_g q, e (81 + 3 * s.toNat) (.inl (by omega)), e (80 + 3 * s.toNat) (.inl (by omega)), oLt_g q]
theorem jGd_g (h : hgG M M' C C') {s : Int} (hs : 0 ≤ s ∧ s < 20) (d more : Int) : jGd M' C' P Q s d more = jGd M C P Q s d more := by unfold jGd; rw [oBi_g h.1 hs, jGr_g h]
theorem jOn_g (h : hgG M M' C C') (s d : Int) : ∀ n : Nat, n ≤ (M 98 4).toNat → jOn M' C' s d n = jOn M C s d n
  | 0, _ => rfl
  | n + 1, hn => by rw [jOn_s, jOn_s, jOn_g h s d n (by omega), h.c hn, qA_g h.1 (a := (n : Int)) (k := 0) (by omega) (by decide), qA_g h.1 (a := (n : Int)) (k := 4) (by omega) (by decide), qA_g h.1 (a := (n : Int)) (k := 1) (by omega) (by decide)]
theorem jRl_g (h : hgG M M' C C') {s : Int} (hs : 0 ≤ s ∧ s < 20) (d : Int) : jRl M' C' P Q s d = jRl M C P Q s d := by
  unfold jRl
  rw [h.1.n4, jOn_g h s d _ (Nat.le_refl _), jGd_g h hs]
noncomputable def jPd (M : zM) (C : Nat → Bool) (P : Int → List Int) (s d : Int) : Int := jPs M C s (P (oBi (M 98) s d)) (M 98 0).toNat
theorem jPd_g (h : hgG M M' C C') {s : Int} (hs : 0 ≤ s ∧ s < 20) (d : Int) : jPd M' C' P s d = jPd M C P s d := by
  have h0 := h.2.1.cnt0
  unfold jPd
  rw [oBi_g h.1 hs, h.1.n0, jPs_g h s _ _ (by omega)]
/-- who hangs on it -/
noncomputable def jHg (M : zM) (C C' : Nat → Bool) (P Q : Int → List Int) (d : Int) : Nat → Int
  | 0 => 0
  | i + 1 => if jPd M C P (i : Int) d = jPd M C' P (i : Int) d ∧ jGd M C P Q (i : Int) d 0 = jGd M C' P Q (i : Int) d 0 ∧ jRl M C P Q (i : Int) d = jRl M C' P Q (i : Int) d then jHg M C C' P Q d i else zbor (jHg M C C' P Q d i) (zbshl 1 (i : Int))
theorem jHg_s (M : zM) (C C' : Nat → Bool) (P Q : Int → List Int) (d : Int) (i : Nat) : jHg M C C' P Q d (i + 1) = if jPd M C P (i : Int) d = jPd M C' P (i : Int) d ∧ jGd M C P Q (i : Int) d 0 = jGd M C' P Q (i : Int) d 0 ∧ jRl M C P Q (i : Int) d = jRl M C' P Q (i : Int) d then jHg M C C' P Q d i else zbor (jHg M C C' P Q d i) (zbshl 1 (i : Int)) := rfl
theorem jHg_r (M : zM) (C C' : Nat → Bool) (P Q : Int → List Int) (d : Int) : ∀ i : Nat, i ≤ 30 → 0 ≤ jHg M C C' P Q d i ∧ jHg M C C' P Q d i ≤ 2147483647
  | 0, _ => by show 0 ≤ (0 : Int) ∧ (0 : Int) ≤ 2147483647; decide
  | i + 1, hi => by
    have q := jHg_r M C C' P Q d i (by omega)
    rw [jHg_s]
    split
    · exact q
    · have hp : 1 ≤ 2 ^ i ∧ 2 ^ i ≤ 1073741824 := ⟨Nat.one_le_two_pow, Nat.pow_le_pow_right (n := 2) (by decide) (show i ≤ 30 by omega)⟩
      rw [show zbshl 1 (i : Int) = ((2 ^ i : Nat) : Int) from j2p ⟨i, by omega⟩, qbor_N _ _ (by omega) (by omega)]
      have k := Nat.or_lt_two_pow (n := 31) (x := (jHg M C C' P Q d i).toNat) (y := ((2 ^ i : Nat) : Int).toNat) (by omega) (by omega)
      omega
theorem j_or9 {x : Int} (h : 0 ≤ x ∧ x ≤ 2147483647) : zbor x 0 = x := by
  rw [qbor_N x 0 h (by omega), show (0 : Int).toNat = 0 from rfl, Nat.or_zero]
  omega
/-- what counts: alike where the rows are -/
theorem hCt_98 (e : M' 98 = M 98) (k v : Int) (n : Nat) : ∀ j a : Nat, hCt M' k v n j a = hCt M k v n j a
  | 0, a => by show hBs M' k v a = hBs M k v a; unfold hBs qA; rw [e, hst_same e]
  | j + 1, a => by
    rw [hCt_s, hCt_s, hCt_98 e k v n j (n - 1 - j), hCt_98 e k v n j a]
    unfold qA
    rw [e]
theorem qStN_m {m : Int} (hm0 : 0 ≤ m) (hI : qMI M) (e : ∀ j, M' 98 j = if j = (154 + 5 * m).toNat then 1 else M 98 j) {x : Int} (hx : 0 ≤ x ∧ x ≤ 39) (hn : ¬ x = m) : qStN M' x = qStN M x := by
  have f : ∀ k : Int, 0 ≤ k → k ≤ 4 → qMt M' x k = qMt M x k := fun k h1 h2 => by
    show M' 98 (150 + 5 * x + k).toNat = M 98 (150 + 5 * x + k).toNat
    rw [e, if_neg (by omega)]
  have hb := hI.brd x (150 + 5 * x) (by omega) rfl
  have hb0 : 0 ≤ qMt M x 0 ∧ qMt M x 0 ≤ 3 := by
    show 0 ≤ M 98 (150 + 5 * x + 0).toNat ∧ M 98 (150 + 5 * x + 0).toNat ≤ 3
    rw [Int.add_zero]; exact hb
  have s1 : qSeats M' x = qSeats M x := by
    unfold qSeats
    rw [f 0 (by decide) (by decide), e, if_neg (by omega)]
  have s2 : qQuor M' x = qQuor M x := by
    unfold qQuor
    rw [f 0 (by decide) (by decide), e, if_neg (by omega)]
  unfold qStN
  rw [f 4 (by decide) (by decide), f 2 (by decide) (by decide), f 3 (by decide) (by decide), s1, s2]
theorem hCt_m {m : Int} (hm : 0 ≤ m ∧ m < 40) (hI : qMI M) (e : ∀ j, M' 98 j = if j = (154 + 5 * m).toNat then 1 else M 98 j) (k : Int) : ∀ j a : Nat, j ≤ (M 98 4).toNat → a < (M 98 4).toNat → hCt M' k (-1) (M 98 4).toNat j a = hCt M k m (M 98 4).toNat j a
  | 0, a, _, ha => by
    have h4 := hI.cnt4
    have hg : hgE M M' := fun j hj => by rw [e, if_neg (by omega)]
    have hac := (hI.act (a : Int) (by omega)).1
    show hBs M' k (-1) a = hBs M k m a
    unfold hBs
    rw [qA_g hg (by omega) (by decide), qA_g hg (by omega) (by decide)]
    refine decide_eq_decide.mpr ⟨fun q => ⟨q.1, ?_⟩, fun q => ⟨q.1, ?_⟩⟩
    · rcases q.2 with q | ⟨q1, q2⟩
      · exact .inl q
      · refine .inr ⟨fun z => ?_, ?_⟩
        · have h1 : qMt M' (qA M (a : Int) 3) 4 = 1 := by
            show M' 98 (150 + 5 * qA M (a : Int) 3 + 4).toNat = 1
            rw [e, if_pos (by omega)]
          rw [qStN_v (by omega)] at q2
          exact absurd q2 (by decide)
        · by_cases z : qA M (a : Int) 3 = m
          · have h1 : qMt M' (qA M (a : Int) 3) 4 = 1 := by
              show M' 98 (150 + 5 * qA M (a : Int) 3 + 4).toNat = 1
              rw [e, if_pos (by omega)]
            rw [qStN_v (by omega)] at q2
            exact absurd q2 (by decide)
          · rw [qStN_m hm.1 hI e (by omega) z] at q2; exact q2
    · by_cases z : qA M (a : Int) 3 = -1
      · exact .inl z
      · rcases q.2 with q | ⟨q1, q2⟩
        · exact .inl q
        · exact .inr ⟨z, by rw [qStN_m hm.1 hI e (by omega) q1]; exact q2⟩
  | j + 1, a, hj, ha => by
    have h4 := hI.cnt4
    have hg : hgE M M' := fun j hj => by rw [e, if_neg (by omega)]
    rw [hCt_s, hCt_s, hCt_m hm hI e k j ((M 98 4).toNat - 1 - j) (by omega) (by omega), hCt_m hm hI e k j a (by omega) ha, qA_g hg (by omega) (by decide), qA_g hg (by omega) (by decide)]
theorem mH.g (h : mH M P Q) (e : hgE M M') (hI : qMI M') : mH M' P Q := by
  obtain ⟨h1, h2, h3, h4, h5, h6, h7⟩ := h
  have n1 := h1.cnt1
  have n5 := h1.cnt5
  have k5 := e.n5
  have k1 := e.n1
  refine ⟨hI, fun o ho => ?_, fun a ha => ?_, fun a ha => ?_, fun s d hs => ?_, h6, fun q hq1 hq2 => ?_⟩
  · rw [e (4162 + 164 * o) (.inr (by omega))]; exact h2 o (by omega)
  · rw [qA_g e ha.1 (by decide)]; exact h3 a ha
  · rw [qA_g e ha.1 (by decide)]; exact h4 a ha
  · rw [oBi_g e (by omega), k5]; exact h5 s d (by omega)
  · have r := h7 q hq1 (by omega)
    refine ⟨?_, ?_⟩
    · obtain ⟨r1, r2, r3, c, L, r4, r5, r6, r7, r8⟩ := r.1
      exact ⟨r1, r2, r3, c, L, (e _ (.inr (by omega))).trans r4, r5, fun j hj => (e _ (.inr (by omega))).trans (r6 j hj), r7, r8⟩
    · obtain ⟨r1, r2, r3, c, L, r4, r5, r6, r7, r8⟩ := r.2
      exact ⟨r1, r2, r3, c, L, (e _ (.inr (by omega))).trans r4, r5, fun j hj => (e _ (.inr (by omega))).trans (r6 j hj), r7, r8⟩
theorem jG79 (t : M 79 0 = 20 ∧ M 79 1 = 3) {a b : Int} (ha : 0 ≤ a ∧ a < 20) (hb : 0 ≤ b ∧ b < 3) : hR_get M 79 a b = M 80 (3 * a.toNat + b.toNat) := by
  unfold hR_get
  rw [if_neg (by omega), if_neg (by omega), if_neg (by omega), if_pos (by omega), t.2, w32_id (x := a * 3) (by omega), w32_id (by omega), show (a * 3 + b).toNat = 3 * a.toNat + b.toNat by omega]
theorem jS79 (t : M 79 0 = 20 ∧ M 79 1 = 3) {a b x : Int} (ha : 0 ≤ a ∧ a < 20) (hb : 0 ≤ b ∧ b < 3) : hR_set M 79 a b x = zput M 80 (3 * a.toNat + b.toNat) x := by
  unfold hR_set
  rw [if_neg (by omega), if_neg (by omega), if_neg (by omega), if_pos (by omega), t.2, w32_id (x := a * 3) (by omega), w32_id (by omega), show (a * 3 + b).toNat = 3 * a.toNat + b.toNat by omega]
/-- what was noted of the first i -/
noncomputable def jN8 (Mo : zM) (C : Nat → Bool) (P Q : Int → List Int) (d : Int) (i : Nat) (f : Nat → Int) : Prop := ∀ s : Nat, s < i → f (3 * s) = jPd Mo C P (s : Int) d ∧ f (3 * s + 1) = jGd Mo C P Q (s : Int) d 0 ∧ f (3 * s + 2) = jRl Mo C P Q (s : Int) d
theorem jK.kp {Mo : zM} (hj : jH Mo) (h : jK Mo C M) : kP M := by
  obtain ⟨⟨h1, h2, h3, h4, h5, h6⟩, h7, h8⟩ := hj
  refine ⟨h1.sm (fun r hr => h.eq r (by omega)), ?_, ?_, ?_, ?_, h.2.1.1⟩
  · rw [h.eq 98 (by omega)]; exact h2.fr (fun r hr => h.eq r (by omega)) (fun _ _ => rfl)
  · unfold hTb at h3 ⊢
    rw [h.eq 10 (by omega), h.eq 12 (by omega), h.eq 14 (by omega), h.eq 16 (by omega), h.eq 18 (by omega), h.eq 20 (by omega), h.eq 22 (by omega), h.eq 24 (by omega)]
    exact h3
  · rw [h.eq 61 (by omega)]; exact h4
  · rw [h.eq 63 (by omega)]; exact h5
theorem jK.jh {Mo : zM} (hj : jH Mo) (h : jK Mo C M) : jH M := by
  refine ⟨h.kp hj, ?_, ?_⟩
  · rw [h.eq 77 (by omega)]; exact hj.2.1
  · have h8 := hj.2.2
    unfold pCon at h8 ⊢
    rw [h.eq 78 (by omega)]
    exact h8
end HG
theorem j32q {n : Nat} {M : zM} {Q' : Option zV → zM → Prop} (hC : qCI M) {a1 a2 : Int} (h1 : -2147483648 ≤ a1 ∧ a1 ≤ 2147483647) (h2 : -2147483648 ≤ a2 ∧ a2 ≤ 2147483647) (h : zH n (0, 0) 32 (0, zini [zR 76, .inl a1, .inl a2] 6, []) M Q') : zH n (0, 0) 32 (0, zini [zR 76, .inl a1, .inl a2] 6, []) M (fun r M' => Q' r M' ∧ qCI M' ∧ M' 80 = M 80 ∧ (∃ x : Int, r = some (.inl x) ∧ qin x)) :=
  (zG.toH (zG.andH (qm_32_76 (d := 100) (by decide) hC a1 h1 a2 h2) h)).mono (fun r M' q => ⟨q.2, q.1.1.1, funext fun j => q.1.1.2 80 j (by decide), q.1.2⟩)
theorem j33q {n : Nat} {M : zM} {Q' : Option zV → zM → Prop} (hC : qCI M) {a1 a2 : Int} (h1 : -2147483648 ≤ a1 ∧ a1 ≤ 2147483647) (h2 : -2147483648 ≤ a2 ∧ a2 ≤ 2147483647) (h : zH n (0, 0) 33 (0, zini [zR 76, .inl a1, .inl a2] 3, []) M Q') : zH n (0, 0) 33 (0, zini [zR 76, .inl a1, .inl a2] 3, []) M (fun r M' => Q' r M' ∧ qCI M' ∧ M' 80 = M 80 ∧ (∃ x : Int, r = some (.inl x) ∧ qin x)) :=
  (zG.toH (zG.andH (qm_33_76 (d := 100) (by decide) hC a1 h1 a2 h2) h)).mono (fun r M' q => ⟨q.2, q.1.1.1, funext fun j => q.1.1.2 80 j (by decide), q.1.2⟩)
theorem j36q {n : Nat} {M : zM} {Q' : Option zV → zM → Prop} (hC : qCI M) {a1 a2 : Int} (h1 : -2147483648 ≤ a1 ∧ a1 ≤ 2147483647) (h2 : -2147483648 ≤ a2 ∧ a2 ≤ 2147483647) (h : zH n (0, 0) 36 (0, zini [zR 76, .inl a1, .inl a2] 7, []) M Q') : zH n (0, 0) 36 (0, zini [zR 76, .inl a1, .inl a2] 7, []) M (fun r M' => Q' r M' ∧ qCI M' ∧ M' 80 = M 80 ∧ (∃ x : Int, r = some (.inl x) ∧ qin x)) :=
  (zG.toH (zG.andH (qm_36_76 (d := 100) (by decide) hC a1 h1 a2 h2) h)).mono (fun r M' q => ⟨q.2, q.1.1.1, funext fun j => q.1.1.2 80 j (by decide), q.1.2⟩)
theorem j41q {n : Nat} {M : zM} {Q' : Option zV → zM → Prop} (hC : qCI M) {a1 a2 : Int} (h1 : -2147483648 ≤ a1 ∧ a1 ≤ 2147483647) (h2 : -2147483648 ≤ a2 ∧ a2 ≤ 2147483647) (h : zH n (0, 0) 41 (0, zini [zR 60, .inl a1, .inl a2] 5, []) M Q') : zH n (0, 0) 41 (0, zini [zR 60, .inl a1, .inl a2] 5, []) M (fun r M' => Q' r M' ∧ qCI M') :=
  (zG.toH (zG.andH (qm_41_60 (d := 100) (by decide) hC a1 h1 a2 h2) h)).mono (fun r M' q => ⟨q.2, q.1.1.1⟩)
theorem m243q {n : Nat} {M : zM} {Q' : Option zV → zM → Prop} (hM : qMI M) {a1 a2 : Int} (h1 : 0 ≤ a1 ∧ a1 ≤ 19) (h2 : -2147483648 ≤ a2 ∧ a2 ≤ 2147483647) (h : zH n (0, 0) 243 (0, zini [zR 97, .inl a1, .inl a2] 3, []) M Q') : zH n (0, 0) 243 (0, zini [zR 97, .inl a1, .inl a2] 3, []) M (fun r M' => Q' r M' ∧ qMI M' ∧ (M' 111 = M 111 ∧ M' 112 = M 112 ∧ M' 113 = M 113) ∧ (∃ x : Int, r = some (.inl x) ∧ qin x)) :=
  (zG.toH (zG.andH (qm_243_97 (d := 100) (by decide) hM a1 h1 a2 h2) h)).mono (fun r M' q => ⟨q.2, q.1.1.1, ⟨q.1.1.2.fn 111 (by decide) (by decide), q.1.1.2.fn 112 (by decide) (by decide), q.1.1.2.fn 113 (by decide) (by decide)⟩, q.1.2⟩)
theorem m244q {n : Nat} {M : zM} {Q' : Option zV → zM → Prop} (hM : qMI M) {a1 a2 : Int} (h1 : 0 ≤ a1 ∧ a1 ≤ 19) (h2 : -2147483648 ≤ a2 ∧ a2 ≤ 2147483647) (h : zH n (0, 0) 244 (0, zini [zR 97, .inl a1, .inl a2] 6, []) M Q') : zH n (0, 0) 244 (0, zini [zR 97, .inl a1, .inl a2] 6, []) M (fun r M' => Q' r M' ∧ qMI M' ∧ (M' 111 = M 111 ∧ M' 112 = M 112 ∧ M' 113 = M 113) ∧ (∃ x : Int, r = some (.inl x) ∧ qin x)) :=
  (zG.toH (zG.andH (qm_244_97 (d := 100) (by decide) hM a1 h1 a2 h2) h)).mono (fun r M' q => ⟨q.2, q.1.1.1, ⟨q.1.1.2.fn 111 (by decide) (by decide), q.1.1.2.fn 112 (by decide) (by decide), q.1.1.2.fn 113 (by decide) (by decide)⟩, q.1.2⟩)
theorem m211q {n : Nat} {M : zM} {Q' : Option zV → zM → Prop} (hM : qMI M) {a1 : Int} (h1 : -2147483648 ≤ a1 ∧ a1 ≤ 2147483647) (h : zH n (0, 0) 211 (0, zini [zR 97, .inl a1] 3, []) M Q') : zH n (0, 0) 211 (0, zini [zR 97, .inl a1] 3, []) M (fun r M' => Q' r M' ∧ qMI M') :=
  (zG.toH (zG.andH (qm_211_97 (d := 100) (by decide) hM a1 h1) h)).mono (fun r M' q => ⟨q.2, q.1.1.1⟩)
theorem qRg {v : Int} (h : ∃ x : Int, some (.inl v : zV) = some (.inl x) ∧ qin x) : qin v := by
  obtain ⟨x, h1, h2⟩ := h
  cases h1
  exact h2
theorem qMI.p11 {M : zM} {r k : Nat} {x : Int} (h : qMI M) (hr : r = 111 ∨ r = 112 ∨ r = 113) (hx : qin x) : qMI (zput M r k x) := by
  rcases hr with rfl | rfl | rfl <;> exact h.put (by decide) (qCd_a (by decide) (by decide)) (by refine ⟨fun _ => hx, fun h => ?_, fun h => ?_, fun h => ?_, fun h => ?_⟩ <;> first | omega | exact absurd h (by decide))
theorem hgC {M Mb : zM} (hI : qMI M) (e : Mb 98 = M 98) (k v : Int) : hgG M Mb (hCt M k v (M 98 4).toNat (M 98 4).toNat) (hCt Mb k v (Mb 98 4).toNat (Mb 98 4).toNat) := ⟨fun j _ => congrFun e j, hI, fun a _ => by rw [e]; exact hCt_98 e k v (M 98 4).toNat _ a⟩
theorem hgM {M Mb : zM} (hI : qMI M) {m : Int} (hm : 0 ≤ m ∧ m < 40) (e : ∀ j, Mb 98 j = if j = (154 + 5 * m).toNat then 1 else M 98 j) (k : Int) : hgG M Mb (hCt M k m (M 98 4).toNat (M 98 4).toNat) (hCt Mb k (-1) (Mb 98 4).toNat (Mb 98 4).toNat) := by
  have hg : hgE M Mb := fun j hj => by rw [e, if_neg (by omega)]
  refine ⟨hg, hI, fun a ha => ?_⟩
  rw [hg.n4]
  exact hCt_m hm hI e k (M 98 4).toNat a (Nat.le_refl _) (by omega)
noncomputable def mN (Mo : zM) (C : Nat → Bool) (P Q : Int → List Int) (d : Int) (i : Nat) (M : zM) : Prop := ∀ s : Nat, s < i → M 111 s = jPd Mo C P (s : Int) d ∧ M 112 s = jGd Mo C P Q (s : Int) d 0 ∧ M 113 s = jRl Mo C P Q (s : Int) d
theorem mN.mv {Mo M M' : zM} {C : Nat → Bool} {P Q : Int → List Int} {d : Int} {i : Nat} (h : mN Mo C P Q d i M) (e1 : M' 111 = M 111) (e2 : M' 112 = M 112) (e3 : M' 113 = M 113) : mN Mo C P Q d i M' := by unfold mN; rw [e1, e2, e3]; exact h
noncomputable def jHv (M : zM) (P Q : Int → List Int) (a1 a2 a3 : Int) : Int := if (0 ≤ a1 ∧ a1 < M 98 3) ∧ (0 ≤ a2 ∧ a2 ≤ 9999) ∧ 0 ≤ a3 ∧ a3 ≤ 9999 then (if qStN M a1 = 0 then -3 else jHg M (hCt M a3 (-1) (M 98 4).toNat (M 98 4).toNat) (hCt M a3 a1 (M 98 4).toNat (M 98 4).toNat) P Q a2 (M 98 1).toNat) else -2
set_option maxHeartbeats 4000000 in
set_option maxRecDepth 100000 in
theorem fh_37_76 {n : Nat} {M : zM} (hC : qCI M) (hj : jH M) {P Q : Int → List Int} (hc : jCs M P Q) (a1 a2 a3 : Int) (h1 : 0 ≤ a1 ∧ a1 < 40) (h2 : 0 ≤ a2 ∧ a2 ≤ 9999) (h3 : 0 ≤ a3 ∧ a3 ≤ 9999) : zH n (0, 0) 37 (0, zini [zR 76, .inl a1, .inl a2, .inl a3] 7, []) M (fun r M' => r = some (.inl (jHg M (hCt M a3 (-1) (M 98 4).toNat (M 98 4).toNat) (hCt M a3 a1 (M 98 4).toNat (M 98 4).toNat) P Q a2 (M 98 1).toNat))) := by
  have hz := zp_37
  show zH n (0, 0) 37 (0, [zR 76, .inl a1, .inl a2, .inl a3, zN, zN, zN], []) M _
  have hn1 := hj.1.1.cnt1
  have k1 : M 12 3 = M 98 1 := hj.1.2.1.2.1.1
  refine zH_wC (c1 := (9, [zR 76, .inl a1, .inl a2, .inl a3, zN, zN, zN], [])) 4 hz zp_41 (j41q hC (by omega) (by omega) (fh_41_60 hj.1 a3 (-1))) (by rfl) ?_
  rintro _ M1 ⟨⟨rfl, hG1⟩, hC1⟩
  show zH n (0, 0) 37 (9, [zR 76, .inl a1, .inl a2, .inl a3, zN, zN, zN], []) M1 _
  have hk1 := jK.of hj.1 (M := M1) (by rw [hG1.1 72 (by decide) (by decide) (by decide) (by decide)]; exact hC.rk) hG1
  refine zH_w (c' := (12, [zR 76, .inl a1, .inl a2, .inl a3, .inl 0, zN, zN], [])) 2 hz rfl ?_
  have lp12 : ∀ (N : Nat) (i : Int) (u5 : zV) (u6 : zV) (M5 : zM), ((20 - i).toNat) < N → (0 ≤ i ∧ i ≤ M 98 1) → (qCI M5) → (jK M (hCt M a3 (-1) (M 98 4).toNat (M 98 4).toNat) M5) → (jN8 M (hCt M a3 (-1) (M 98 4).toNat (M 98 4).toNat) P Q a2 i.toNat (M5 80)) → zH n (0, 0) 37 (12, [zR 76, .inl a1, .inl a2, .inl a3, .inl i, u5, u6], []) M5 (fun r M' => r = some (.inl (jHg M (hCt M a3 (-1) (M 98 4).toNat (M 98 4).toNat) (hCt M a3 a1 (M 98 4).toNat (M 98 4).toNat) P Q a2 (M 98 1).toNat))) := by
    intro N
    induction N with
    | zero => intro i u5 u6 M5 hN; exact absurd hN (Nat.not_lt_zero _)
    | succ N ih12 =>
      intro i u5 u6 M5 hN hi hC5 hk hn8
      refine zH_w (c' := (21, [zR 76, .inl a1, .inl a2, .inl a3, .inl i, u5, u6], [zR 12, .inl i])) 4 hz rfl ?_
      refine zH_wE (c1 := (24, [zR 76, .inl a1, .inl a2, .inl a3, .inl i, u5, u6], [.inl i])) 0 hz zp_101 (fh_101_12) (by rfl) ?_
      show zH n (0, 0) 37 (24, [zR 76, .inl a1, .inl a2, .inl a3, .inl i, u5, u6], [.inl (hR_size M5 12), .inl i]) M5 _
      rw [show hR_size M5 12 = M 98 1 from by unfold hR_size; rw [hk.eq 12 (by omega)]; exact k1]
      refine zH_icmp_ge hz rfl (fun hb24 => ?_) (fun hb24 => ?_)
      · skip
        have hn8b : jN8 M (hCt M a3 (-1) (M 98 4).toNat (M 98 4).toNat) P Q a2 (M 98 1).toNat (M5 80) := by rw [show (M 98 1).toNat = i.toNat by omega]; exact hn8
        have hjb := hk.jh hj
        obtain ⟨Mb, hMbe⟩ : ∃ X : zM, X = M5 := ⟨_, rfl⟩
        have hMb : ∀ r, ((r < 62 ∨ (76 ≤ r ∧ r ≠ 80)) ∨ r = 63 ∨ r = 61) → Mb r = M r := fun r hr => by rw [hMbe]; exact hk.eq r hr
        rw [← hMbe] at hjb hn8b hC5
        rw [← hMbe]
        have eb : Mb 98 = M 98 := hMb 98 (by omega)
        have hgb : hgG M Mb (hCt M a3 a1 (M 98 4).toNat (M 98 4).toNat) (hCt Mb a3 a1 (Mb 98 4).toNat (Mb 98 4).toNat) := hgC hj.1.1 eb a3 a1
        have hcb := hc.mv eb (hMb 78 (by omega)) (hMb 23 (by omega))
        refine zH_w (c' := (90, [zR 76, .inl a1, .inl a2, .inl a3, .inl i, u5, u6], [.inl a1, .inl a3, zR 60])) 4 hz rfl ?_
        refine zH_wC (c1 := (93, [zR 76, .inl a1, .inl a2, .inl a3, .inl i, u5, u6], [])) 0 hz zp_41 (j41q hC5 (by omega) (by omega) (fh_41_60 hjb.1 a3 a1)) (by rfl) ?_
        rintro _ M2 ⟨⟨rfl, hG2⟩, hC2⟩
        show zH n (0, 0) 37 (93, [zR 76, .inl a1, .inl a2, .inl a3, .inl i, u5, u6], []) M2 _
        have hk2 := jK.of hjb.1 (M := M2) (by rw [hG2.1 72 (by decide) (by decide) (by decide) (by decide)]; exact hC5.rk) hG2
        refine zH_w (c' := (99, [zR 76, .inl a1, .inl a2, .inl a3, .inl 0, .inl 0, u6], [])) 4 hz rfl ?_
        have lp99 : ∀ (N : Nat) (b : Int) (i : Int) (u6 : zV) (M5 : zM), ((20 - i).toNat) < N → (0 ≤ i ∧ i ≤ M 98 1) → (qCI M5) → (jK Mb (hCt Mb a3 a1 (Mb 98 4).toNat (Mb 98 4).toNat) M5) → (jN8 M (hCt M a3 (-1) (M 98 4).toNat (M 98 4).toNat) P Q a2 (M 98 1).toNat (M5 80)) → (b = jHg M (hCt M a3 (-1) (M 98 4).toNat (M 98 4).toNat) (hCt M a3 a1 (M 98 4).toNat (M 98 4).toNat) P Q a2 i.toNat) → zH n (0, 0) 37 (99, [zR 76, .inl a1, .inl a2, .inl a3, .inl b, .inl i, u6], []) M5 (fun r M' => r = some (.inl (jHg M (hCt M a3 (-1) (M 98 4).toNat (M 98 4).toNat) (hCt M a3 a1 (M 98 4).toNat (M 98 4).toNat) P Q a2 (M 98 1).toNat))) := by
          intro N
          induction N with
          | zero => intro b i u6 M5 hN; exact absurd hN (Nat.not_lt_zero _)
          | succ N ih99 =>
            intro b i u6 M5 hN hi hC5 hk hn8 hb
            refine zH_w (c' := (108, [zR 76, .inl a1, .inl a2, .inl a3, .inl b, .inl i, u6], [zR 12, .inl i])) 4 hz rfl ?_
            refine zH_wE (c1 := (111, [zR 76, .inl a1, .inl a2, .inl a3, .inl b, .inl i, u6], [.inl i])) 0 hz zp_101 (fh_101_12) (by rfl) ?_
            show zH n (0, 0) 37 (111, [zR 76, .inl a1, .inl a2, .inl a3, .inl b, .inl i, u6], [.inl (hR_size M5 12), .inl i]) M5 _
            rw [show hR_size M5 12 = M 98 1 from by unfold hR_size; rw [hk.eq 12 (by omega), hMb 12 (by omega)]; exact k1]
            refine zH_icmp_ge hz rfl (fun hb111 => ?_) (fun hb111 => ?_)
            · skip
              refine zH_w (c' := (203, [zR 76, .inl a1, .inl a2, .inl a3, .inl b, .inl i, u6], [.inl b])) 1 hz rfl ?_
              refine zH_ret hz rfl rfl ?_
              show _ = some (Sum.inl _)
              rw [hb, show i.toNat = (M 98 1).toNat by omega]
            · skip
              have ei : ((i.toNat : Nat) : Int) = i := by omega
              have hs : 0 ≤ i ∧ i < M 98 1 := by omega
              have hsb : 0 ≤ i ∧ i < Mb 98 1 := by rw [eb]; omega
              have hn9 := hn8 i.toNat (by omega)
              rw [ei] at hn9
              refine zH_w (c' := (121, [zR 76, .inl a1, .inl a2, .inl a3, .inl b, .inl i, u6], [.inl 0, .inl i, zR 79])) 4 hz rfl ?_
              refine zH_wE (c1 := (124, [zR 76, .inl a1, .inl a2, .inl a3, .inl b, .inl i, u6], [])) 0 hz zp_106 (fh_106_79 i 0) (by rfl) ?_
              show zH n (0, 0) 37 (124, [zR 76, .inl a1, .inl a2, .inl a3, .inl b, .inl i, u6], [.inl (hR_get M5 79 i 0)]) M5 _
              rw [show hR_get M5 79 i 0 = jPd M (hCt M a3 (-1) (M 98 4).toNat (M 98 4).toNat) P i a2 from by rw [jG79 ⟨(hC5.rows 79 20 3 (by decide)).1, (hC5.rows 79 20 3 (by decide)).2.1⟩ (by omega) (by decide)]; exact (congrArg (M5 80) (show 3 * i.toNat + (0 : Int).toNat = 3 * i.toNat by omega)).trans hn9.1]
              refine zH_w (c' := (128, [zR 76, .inl a1, .inl a2, .inl a3, .inl b, .inl i, u6], [.inl a2, .inl i, zR 76, .inl (jPd M (hCt M a3 (-1) (M 98 4).toNat (M 98 4).toNat) P i a2)])) 3 hz rfl ?_
              refine zH_wC (c1 := (131, [zR 76, .inl a1, .inl a2, .inl a3, .inl b, .inl i, u6], [.inl (jPd M (hCt M a3 (-1) (M 98 4).toNat (M 98 4).toNat) P i a2)])) 0 hz zp_32 (j32q hC5 (by omega) (by omega) (fh_32_76 hjb hk i a2 hsb (hjb.bi (s := i) hsb a2).1 (hcb.at hjb (s := i) hsb a2).1)) (by rfl) ?_
              rintro _ M6 ⟨⟨rfl, hk6⟩, hC6, e6, -⟩
              show zH n (0, 0) 37 (131, [zR 76, .inl a1, .inl a2, .inl a3, .inl b, .inl i, u6], [.inl (jPs Mb (hCt Mb a3 a1 (Mb 98 4).toNat (Mb 98 4).toNat) i (P (oBi (Mb 98) i a2)) (Mb 98 0).toNat), .inl (jPd M (hCt M a3 (-1) (M 98 4).toNat (M 98 4).toNat) P i a2)]) M6 _
              rw [show jPs Mb (hCt Mb a3 a1 (Mb 98 4).toNat (Mb 98 4).toNat) i (P (oBi (Mb 98) i a2)) (Mb 98 0).toNat = jPd M (hCt M a3 a1 (M 98 4).toNat (M 98 4).toNat) P i a2 from jPd_g hgb (by omega) a2]
              refine zH_icmp_ne hz rfl (fun hb131 => ?_) (fun hb131 => ?_)
              · skip
                have hbn : zbor b (zbshl 1 i) = if jPd M (hCt M a3 (-1) (M 98 4).toNat (M 98 4).toNat) P i a2 = jPd M (hCt M a3 a1 (M 98 4).toNat (M 98 4).toNat) P i a2 ∧ jGd M (hCt M a3 (-1) (M 98 4).toNat (M 98 4).toNat) P Q i a2 0 = jGd M (hCt M a3 a1 (M 98 4).toNat (M 98 4).toNat) P Q i a2 0 ∧ jRl M (hCt M a3 (-1) (M 98 4).toNat (M 98 4).toNat) P Q i a2 = jRl M (hCt M a3 a1 (M 98 4).toNat (M 98 4).toNat) P Q i a2 then b else zbor b (zbshl 1 i) := by rw [if_neg (fun q => hb131 q.1)]
                have hCC := hC6
                have hkC := hk6
                have hnC : jN8 M (hCt M a3 (-1) (M 98 4).toNat (M 98 4).toNat) P Q a2 (M 98 1).toNat (M6 80) := by rw [e6]; exact hn8
                refine zH_w (c' := (99, [zR 76, .inl a1, .inl a2, .inl a3, .inl (zbor b (zbshl 1 i)), .inl (i + 1), .inl 0], [])) 12 hz (by rw [show (.inl (i + 1) : zV) = .inl (w32 (i + 1)) from by rw [w32_id (by omega)]]; rfl) ?_
                refine ih99 (zbor b (zbshl 1 i)) (i + 1) (.inl 0) M6 (by omega) ?_ ?_ ?_ ?_ ?_
                · omega
                · exact hCC
                · exact hkC
                · exact hnC
                · rw [show (i + 1).toNat = i.toNat + 1 by omega, jHg_s, ei, ← hb]; exact hbn
              · skip
                refine zH_w (c' := (141, [zR 76, .inl a1, .inl a2, .inl a3, .inl b, .inl i, u6], [.inl 1, .inl i, zR 79])) 4 hz rfl ?_
                refine zH_wE (c1 := (144, [zR 76, .inl a1, .inl a2, .inl a3, .inl b, .inl i, u6], [])) 0 hz zp_106 (fh_106_79 i 1) (by rfl) ?_
                show zH n (0, 0) 37 (144, [zR 76, .inl a1, .inl a2, .inl a3, .inl b, .inl i, u6], [.inl (hR_get M6 79 i 1)]) M6 _
                rw [show hR_get M6 79 i 1 = jGd M (hCt M a3 (-1) (M 98 4).toNat (M 98 4).toNat) P Q i a2 0 from by rw [jG79 ⟨(hC6.rows 79 20 3 (by decide)).1, (hC6.rows 79 20 3 (by decide)).2.1⟩ (by omega) (by decide), e6]; exact hn9.2.1]
                refine zH_w (c' := (148, [zR 76, .inl a1, .inl a2, .inl a3, .inl b, .inl i, u6], [.inl a2, .inl i, zR 76, .inl (jGd M (hCt M a3 (-1) (M 98 4).toNat (M 98 4).toNat) P Q i a2 0)])) 3 hz rfl ?_
                refine zH_wC (c1 := (151, [zR 76, .inl a1, .inl a2, .inl a3, .inl b, .inl i, u6], [.inl (jGd M (hCt M a3 (-1) (M 98 4).toNat (M 98 4).toNat) P Q i a2 0)])) 0 hz zp_33 (j33q hC6 (by omega) (by omega) (fh_33_76 hjb hk6 i a2 hsb (hjb.bi (s := i) hsb a2).1 (hcb.at hjb (s := i) hsb a2).1 (hcb.at hjb (s := i) hsb a2).2)) (by rfl) ?_
                rintro _ M8 ⟨⟨rfl, hk8, -⟩, hC8, e8, -⟩
                show zH n (0, 0) 37 (151, [zR 76, .inl a1, .inl a2, .inl a3, .inl b, .inl i, u6], [.inl (jGr Mb (hCt Mb a3 a1 (Mb 98 4).toNat (Mb 98 4).toNat) i (P (oBi (Mb 98) i a2)) (Q (oBi (Mb 98) i a2)) 0), .inl (jGd M (hCt M a3 (-1) (M 98 4).toNat (M 98 4).toNat) P Q i a2 0)]) M8 _
                rw [show jGr Mb (hCt Mb a3 a1 (Mb 98 4).toNat (Mb 98 4).toNat) i (P (oBi (Mb 98) i a2)) (Q (oBi (Mb 98) i a2)) 0 = jGd M (hCt M a3 a1 (M 98 4).toNat (M 98 4).toNat) P Q i a2 0 from jGd_g hgb (by omega) a2 0]
                refine zH_icmp_ne hz rfl (fun hb151 => ?_) (fun hb151 => ?_)
                · skip
                  have hbn : zbor b (zbshl 1 i) = if jPd M (hCt M a3 (-1) (M 98 4).toNat (M 98 4).toNat) P i a2 = jPd M (hCt M a3 a1 (M 98 4).toNat (M 98 4).toNat) P i a2 ∧ jGd M (hCt M a3 (-1) (M 98 4).toNat (M 98 4).toNat) P Q i a2 0 = jGd M (hCt M a3 a1 (M 98 4).toNat (M 98 4).toNat) P Q i a2 0 ∧ jRl M (hCt M a3 (-1) (M 98 4).toNat (M 98 4).toNat) P Q i a2 = jRl M (hCt M a3 a1 (M 98 4).toNat (M 98 4).toNat) P Q i a2 then b else zbor b (zbshl 1 i) := by rw [if_neg (fun q => hb151 q.2.1)]
                  have hCC := hC8
                  have hkC := hk8
                  have hnC : jN8 M (hCt M a3 (-1) (M 98 4).toNat (M 98 4).toNat) P Q a2 (M 98 1).toNat (M8 80) := by rw [e8, e6]; exact hn8
                  refine zH_w (c' := (99, [zR 76, .inl a1, .inl a2, .inl a3, .inl (zbor b (zbshl 1 i)), .inl (i + 1), .inl 0], [])) 12 hz (by rw [show (.inl (i + 1) : zV) = .inl (w32 (i + 1)) from by rw [w32_id (by omega)]]; rfl) ?_
                  refine ih99 (zbor b (zbshl 1 i)) (i + 1) (.inl 0) M8 (by omega) ?_ ?_ ?_ ?_ ?_
                  · omega
                  · exact hCC
                  · exact hkC
                  · exact hnC
                  · rw [show (i + 1).toNat = i.toNat + 1 by omega, jHg_s, ei, ← hb]; exact hbn
                · skip
                  refine zH_w (c' := (161, [zR 76, .inl a1, .inl a2, .inl a3, .inl b, .inl i, u6], [.inl 2, .inl i, zR 79])) 4 hz rfl ?_
                  refine zH_wE (c1 := (164, [zR 76, .inl a1, .inl a2, .inl a3, .inl b, .inl i, u6], [])) 0 hz zp_106 (fh_106_79 i 2) (by rfl) ?_
                  show zH n (0, 0) 37 (164, [zR 76, .inl a1, .inl a2, .inl a3, .inl b, .inl i, u6], [.inl (hR_get M8 79 i 2)]) M8 _
                  rw [show hR_get M8 79 i 2 = jRl M (hCt M a3 (-1) (M 98 4).toNat (M 98 4).toNat) P Q i a2 from by rw [jG79 ⟨(hC8.rows 79 20 3 (by decide)).1, (hC8.rows 79 20 3 (by decide)).2.1⟩ (by omega) (by decide), e8, e6]; exact hn9.2.2]
                  refine zH_w (c' := (168, [zR 76, .inl a1, .inl a2, .inl a3, .inl b, .inl i, u6], [.inl a2, .inl i, zR 76, .inl (jRl M (hCt M a3 (-1) (M 98 4).toNat (M 98 4).toNat) P Q i a2)])) 3 hz rfl ?_
                  refine zH_wC (c1 := (171, [zR 76, .inl a1, .inl a2, .inl a3, .inl b, .inl i, u6], [.inl (jRl M (hCt M a3 (-1) (M 98 4).toNat (M 98 4).toNat) P Q i a2)])) 0 hz zp_36 (j36q hC8 (by omega) (by omega) (fh_36_76 hjb hk8 hcb i a2 hsb)) (by rfl) ?_
                  rintro _ M10 ⟨⟨rfl, hk10⟩, hC10, e10, -⟩
                  show zH n (0, 0) 37 (171, [zR 76, .inl a1, .inl a2, .inl a3, .inl b, .inl i, u6], [.inl (jRl Mb (hCt Mb a3 a1 (Mb 98 4).toNat (Mb 98 4).toNat) P Q i a2), .inl (jRl M (hCt M a3 (-1) (M 98 4).toNat (M 98 4).toNat) P Q i a2)]) M10 _
                  rw [show jRl Mb (hCt Mb a3 a1 (Mb 98 4).toNat (Mb 98 4).toNat) P Q i a2 = jRl M (hCt M a3 a1 (M 98 4).toNat (M 98 4).toNat) P Q i a2 from jRl_g hgb (by omega) a2]
                  refine zH_icmp_ne hz rfl (fun hb171 => ?_) (fun hb171 => ?_)
                  · skip
                    have hbn : zbor b (zbshl 1 i) = if jPd M (hCt M a3 (-1) (M 98 4).toNat (M 98 4).toNat) P i a2 = jPd M (hCt M a3 a1 (M 98 4).toNat (M 98 4).toNat) P i a2 ∧ jGd M (hCt M a3 (-1) (M 98 4).toNat (M 98 4).toNat) P Q i a2 0 = jGd M (hCt M a3 a1 (M 98 4).toNat (M 98 4).toNat) P Q i a2 0 ∧ jRl M (hCt M a3 (-1) (M 98 4).toNat (M 98 4).toNat) P Q i a2 = jRl M (hCt M a3 a1 (M 98 4).toNat (M 98 4).toNat) P Q i a2 then b else zbor b (zbshl 1 i) := by rw [if_neg (fun q => hb171 q.2.2)]
                    have hCC := hC10
                    have hkC := hk10
                    have hnC : jN8 M (hCt M a3 (-1) (M 98 4).toNat (M 98 4).toNat) P Q a2 (M 98 1).toNat (M10 80) := by rw [e10, e8, e6]; exact hn8
                    refine zH_w (c' := (99, [zR 76, .inl a1, .inl a2, .inl a3, .inl (zbor b (zbshl 1 i)), .inl (i + 1), .inl 0], [])) 12 hz (by rw [show (.inl (i + 1) : zV) = .inl (w32 (i + 1)) from by rw [w32_id (by omega)]]; rfl) ?_
                    refine ih99 (zbor b (zbshl 1 i)) (i + 1) (.inl 0) M10 (by omega) ?_ ?_ ?_ ?_ ?_
                    · omega
                    · exact hCC
                    · exact hkC
                    · exact hnC
                    · rw [show (i + 1).toNat = i.toNat + 1 by omega, jHg_s, ei, ← hb]; exact hbn
                  · skip
                    have hbn : b = if jPd M (hCt M a3 (-1) (M 98 4).toNat (M 98 4).toNat) P i a2 = jPd M (hCt M a3 a1 (M 98 4).toNat (M 98 4).toNat) P i a2 ∧ jGd M (hCt M a3 (-1) (M 98 4).toNat (M 98 4).toNat) P Q i a2 0 = jGd M (hCt M a3 a1 (M 98 4).toNat (M 98 4).toNat) P Q i a2 0 ∧ jRl M (hCt M a3 (-1) (M 98 4).toNat (M 98 4).toNat) P Q i a2 = jRl M (hCt M a3 a1 (M 98 4).toNat (M 98 4).toNat) P Q i a2 then b else zbor b (zbshl 1 i) := by rw [if_pos ⟨by omega, by omega, by omega⟩]
                    have hCC := hC10
                    have hkC := hk10
                    have hnC : jN8 M (hCt M a3 (-1) (M 98 4).toNat (M 98 4).toNat) P Q a2 (M 98 1).toNat (M10 80) := by rw [e10, e8, e6]; exact hn8
                    refine zH_w (c' := (99, [zR 76, .inl a1, .inl a2, .inl a3, .inl b, .inl (i + 1), .inl 1], [])) 7 hz (by rw [show (.inl (i + 1) : zV) = .inl (w32 (i + 1)) from by rw [w32_id (by omega)]]; rfl) ?_
                    refine ih99 b (i + 1) (.inl 1) M10 (by omega) ?_ ?_ ?_ ?_ ?_
                    · omega
                    · exact hCC
                    · exact hkC
                    · exact hnC
                    · rw [show (i + 1).toNat = i.toNat + 1 by omega, jHg_s, ei, ← hb]; exact hbn
        refine lp99 (21) 0 0 u6 M2 (by omega) ?_ ?_ ?_ ?_ ?_
        · omega
        · exact hC2
        · exact hk2
        · rw [hG2.1 80 (by decide) (by decide) (by decide) (by decide)]; exact hn8b
        · rfl
      · skip
        have ei : ((i.toNat : Nat) : Int) = i := by omega
        have hs : 0 ≤ i ∧ i < M 98 1 := by omega
        refine zH_w (c' := (38, [zR 76, .inl a1, .inl a2, .inl a3, .inl i, u5, u6], [.inl a2, .inl i, zR 76, .inl 0, .inl i, zR 79])) 7 hz rfl ?_
        refine zH_wC (c1 := (41, [zR 76, .inl a1, .inl a2, .inl a3, .inl i, u5, u6], [.inl 0, .inl i, zR 79])) 0 hz zp_32 (j32q hC5 (by omega) (by omega) (fh_32_76 hj hk i a2 hs (hj.bi (s := i) hs a2).1 (hc.at hj (s := i) hs a2).1)) (by rfl) ?_
        rintro _ M6 ⟨⟨rfl, hk6⟩, hC6, e80a, rM7⟩
        show zH n (0, 0) 37 (41, [zR 76, .inl a1, .inl a2, .inl a3, .inl i, u5, u6], [.inl (jPs M (hCt M a3 (-1) (M 98 4).toNat (M 98 4).toNat) i (P (oBi (M 98) i a2)) (M 98 0).toNat), .inl 0, .inl i, zR 79]) M6 _
        rw [show jPs M (hCt M a3 (-1) (M 98 4).toNat (M 98 4).toNat) i (P (oBi (M 98) i a2)) (M 98 0).toNat = jPd M (hCt M a3 (-1) (M 98 4).toNat (M 98 4).toNat) P i a2 from rfl]
        refine zH_wE (c1 := (44, [zR 76, .inl a1, .inl a2, .inl a3, .inl i, u5, u6], [])) 0 hz zp_107 (fh_107_79 i 0 (jPd M (hCt M a3 (-1) (M 98 4).toNat (M 98 4).toNat) P i a2)) (by rfl) ?_
        show zH n (0, 0) 37 (44, [zR 76, .inl a1, .inl a2, .inl a3, .inl i, u5, u6], []) (hR_set M6 79 i 0 (jPd M (hCt M a3 (-1) (M 98 4).toNat (M 98 4).toNat) P i a2)) _
        obtain ⟨M7, hM7⟩ : ∃ X : zM, X = hR_set M6 79 i 0 (jPd M (hCt M a3 (-1) (M 98 4).toNat (M 98 4).toNat) P i a2) := ⟨_, rfl⟩
        rw [← hM7]
        rw [jS79 ⟨(hC6.rows 79 20 3 (by decide)).1, (hC6.rows 79 20 3 (by decide)).2.1⟩ (by omega) (by decide), show (0 : Int).toNat = 0 from rfl, Nat.add_zero] at hM7
        have hCM7 : qCI M7 := by rw [hM7]; exact hC6.put rfl (.inl (qRg rM7))
        have hkM7 : jK M (hCt M a3 (-1) (M 98 4).toNat (M 98 4).toNat) M7 := hk6.mv (fun r q1 q2 q3 q4 q5 => by rw [hM7, zput_oth q5]) (by rw [hM7, zput_oth (by decide)]; exact hk6.2.2.2)
        refine zH_w (c' := (55, [zR 76, .inl a1, .inl a2, .inl a3, .inl i, u5, u6], [.inl a2, .inl i, zR 76, .inl 1, .inl i, zR 79])) 7 hz rfl ?_
        refine zH_wC (c1 := (58, [zR 76, .inl a1, .inl a2, .inl a3, .inl i, u5, u6], [.inl 1, .inl i, zR 79])) 0 hz zp_33 (j33q hCM7 (by omega) (by omega) (fh_33_76 hj hkM7 i a2 hs (hj.bi (s := i) hs a2).1 (hc.at hj (s := i) hs a2).1 (hc.at hj (s := i) hs a2).2)) (by rfl) ?_
        rintro _ M8 ⟨⟨rfl, hk8, -⟩, hC8, e80b, rM9⟩
        show zH n (0, 0) 37 (58, [zR 76, .inl a1, .inl a2, .inl a3, .inl i, u5, u6], [.inl (jGr M (hCt M a3 (-1) (M 98 4).toNat (M 98 4).toNat) i (P (oBi (M 98) i a2)) (Q (oBi (M 98) i a2)) 0), .inl 1, .inl i, zR 79]) M8 _
        rw [show jGr M (hCt M a3 (-1) (M 98 4).toNat (M 98 4).toNat) i (P (oBi (M 98) i a2)) (Q (oBi (M 98) i a2)) 0 = jGd M (hCt M a3 (-1) (M 98 4).toNat (M 98 4).toNat) P Q i a2 0 from rfl]
        refine zH_wE (c1 := (61, [zR 76, .inl a1, .inl a2, .inl a3, .inl i, u5, u6], [])) 0 hz zp_107 (fh_107_79 i 1 (jGd M (hCt M a3 (-1) (M 98 4).toNat (M 98 4).toNat) P Q i a2 0)) (by rfl) ?_
        show zH n (0, 0) 37 (61, [zR 76, .inl a1, .inl a2, .inl a3, .inl i, u5, u6], []) (hR_set M8 79 i 1 (jGd M (hCt M a3 (-1) (M 98 4).toNat (M 98 4).toNat) P Q i a2 0)) _
        obtain ⟨M9, hM9⟩ : ∃ X : zM, X = hR_set M8 79 i 1 (jGd M (hCt M a3 (-1) (M 98 4).toNat (M 98 4).toNat) P Q i a2 0) := ⟨_, rfl⟩
        rw [← hM9]
        rw [jS79 ⟨(hC8.rows 79 20 3 (by decide)).1, (hC8.rows 79 20 3 (by decide)).2.1⟩ (by omega) (by decide), show (1 : Int).toNat = 1 from rfl] at hM9
        have hCM9 : qCI M9 := by rw [hM9]; exact hC8.put rfl (.inl (qRg rM9))
        have hkM9 : jK M (hCt M a3 (-1) (M 98 4).toNat (M 98 4).toNat) M9 := hk8.mv (fun r q1 q2 q3 q4 q5 => by rw [hM9, zput_oth q5]) (by rw [hM9, zput_oth (by decide)]; exact hk8.2.2.2)
        refine zH_w (c' := (72, [zR 76, .inl a1, .inl a2, .inl a3, .inl i, u5, u6], [.inl a2, .inl i, zR 76, .inl 2, .inl i, zR 79])) 7 hz rfl ?_
        refine zH_wC (c1 := (75, [zR 76, .inl a1, .inl a2, .inl a3, .inl i, u5, u6], [.inl 2, .inl i, zR 79])) 0 hz zp_36 (j36q hCM9 (by omega) (by omega) (fh_36_76 hj hkM9 hc i a2 hs)) (by rfl) ?_
        rintro _ M10 ⟨⟨rfl, hk10⟩, hC10, e80c, rM11⟩
        show zH n (0, 0) 37 (75, [zR 76, .inl a1, .inl a2, .inl a3, .inl i, u5, u6], [.inl (jRl M (hCt M a3 (-1) (M 98 4).toNat (M 98 4).toNat) P Q i a2), .inl 2, .inl i, zR 79]) M10 _
        refine zH_wE (c1 := (78, [zR 76, .inl a1, .inl a2, .inl a3, .inl i, u5, u6], [])) 0 hz zp_107 (fh_107_79 i 2 (jRl M (hCt M a3 (-1) (M 98 4).toNat (M 98 4).toNat) P Q i a2)) (by rfl) ?_
        show zH n (0, 0) 37 (78, [zR 76, .inl a1, .inl a2, .inl a3, .inl i, u5, u6], []) (hR_set M10 79 i 2 (jRl M (hCt M a3 (-1) (M 98 4).toNat (M 98 4).toNat) P Q i a2)) _
        obtain ⟨M11, hM11⟩ : ∃ X : zM, X = hR_set M10 79 i 2 (jRl M (hCt M a3 (-1) (M 98 4).toNat (M 98 4).toNat) P Q i a2) := ⟨_, rfl⟩
        rw [← hM11]
        rw [jS79 ⟨(hC10.rows 79 20 3 (by decide)).1, (hC10.rows 79 20 3 (by decide)).2.1⟩ (by omega) (by decide), show (2 : Int).toNat = 2 from rfl] at hM11
        have hCM11 : qCI M11 := by rw [hM11]; exact hC10.put rfl (.inl (qRg rM11))
        have hkM11 : jK M (hCt M a3 (-1) (M 98 4).toNat (M 98 4).toNat) M11 := hk10.mv (fun r q1 q2 q3 q4 q5 => by rw [hM11, zput_oth q5]) (by rw [hM11, zput_oth (by decide)]; exact hk10.2.2.2)
        have hnn : jN8 M (hCt M a3 (-1) (M 98 4).toNat (M 98 4).toNat) P Q a2 (i + 1).toNat (M11 80) := by
          intro s hs9
          rw [hM11, zput_same, e80c, hM9, zput_same, e80b, hM7, zput_same, e80a]
          by_cases z : s = i.toNat
          · subst z
            rw [ei]
            refine ⟨?_, ?_, hup_eq⟩
            · rw [hup_ne (by omega), hup_ne (by omega)]; exact hup_eq
            · rw [hup_ne (by omega)]; exact hup_eq
          · have q := hn8 s (by omega)
            refine ⟨?_, ?_, ?_⟩
            · rw [hup_ne (by omega), hup_ne (by omega), hup_ne (by omega)]; exact q.1
            · rw [hup_ne (by omega), hup_ne (by omega), hup_ne (by omega)]; exact q.2.1
            · rw [hup_ne (by omega), hup_ne (by omega), hup_ne (by omega)]; exact q.2.2
        refine zH_w (c' := (12, [zR 76, .inl a1, .inl a2, .inl a3, .inl (i + 1), u5, u6], [])) 2 hz (by rw [show (.inl (i + 1) : zV) = .inl (w32 (i + 1)) from by rw [w32_id (by omega)]]; rfl) ?_
        refine ih12 (i + 1) u5 u6 M11 (by omega) ?_ ?_ ?_ ?_
        · omega
        · exact hCM11
        · exact hkM11
        · exact hnn
  refine lp12 (21) 0 zN zN M1 (by omega) ?_ ?_ ?_ ?_
  · omega
  · exact hC1
  · exact hk1
  · exact fun s hs => absurd hs (Nat.not_lt_zero _)
set_option maxRecDepth 100000 in
theorem fh_147_8 {n : Nat} {M : zM} (hC : qCI M) (hj : jH M) {P Q : Int → List Int} (hc : jCs M P Q) (a1 a2 a3 : Int) : zH n (0, 0) 147 (0, zini [zR 8, .inl a1, .inl a2, .inl a3] 4, []) M (fun r M' => r = some (.inl (jHv M P Q a1 a2 a3))) := by
  have hz := zp_147
  show zH n (0, 0) 147 (0, [zR 8, .inl a1, .inl a2, .inl a3], []) M _
  have k3 : M 16 3 = M 98 3 := hj.1.2.1.2.2.2.1.1
  have hn3 := hj.1.1.cnt3
  refine zH_wE (c1 := (11, [zR 8, .inl a1, .inl a2, .inl a3], [])) 4 hz zp_102 (fh_102_16 a1) (by rfl) ?_
  show zH n (0, 0) 147 (11, [zR 8, .inl a1, .inl a2, .inl a3], [.inl (hR_has M 16 a1)]) M _
  obtain ⟨x1, hx1⟩ : ∃ x : Int, x = (hR_has M 16 a1) := ⟨_, rfl⟩
  rw [← hx1]
  refine zH_if_eq hz rfl (fun hb11 => ?_) (fun hb11 => ?_)
  · skip
    rw [hx1, hq_has] at hb11
    refine zH_w (c' := (30, [zR 8, .inl a1, .inl a2, .inl a3], [.inl (-2)])) 1 hz rfl ?_
    refine zH_ret hz rfl rfl ?_
    show _ = some (Sum.inl _)
    unfold jHv
    rw [if_neg (by omega)]
  · skip
    rw [hx1, hq_has] at hb11
    refine zH_w (c' := (15, [zR 8, .inl a1, .inl a2, .inl a3], [.inl a2])) 1 hz rfl ?_
    refine zH_wE (c1 := (18, [zR 8, .inl a1, .inl a2, .inl a3], [])) 0 hz zp_170 (fh_170 a2) (by rfl) ?_
    show zH n (0, 0) 147 (18, [zR 8, .inl a1, .inl a2, .inl a3], [.inl (hf_170 M a2)]) M _
    obtain ⟨x2, hx2⟩ : ∃ x : Int, x = (hf_170 M a2) := ⟨_, rfl⟩
    rw [← hx2]
    refine zH_if_eq hz rfl (fun hb18 => ?_) (fun hb18 => ?_)
    · skip
      rw [hx2, hq_170] at hb18
      refine zH_w (c' := (30, [zR 8, .inl a1, .inl a2, .inl a3], [.inl (-2)])) 1 hz rfl ?_
      refine zH_ret hz rfl rfl ?_
      show _ = some (Sum.inl _)
      unfold jHv
      rw [if_neg (by omega)]
    · skip
      rw [hx2, hq_170] at hb18
      refine zH_w (c' := (22, [zR 8, .inl a1, .inl a2, .inl a3], [.inl a3])) 1 hz rfl ?_
      refine zH_wE (c1 := (25, [zR 8, .inl a1, .inl a2, .inl a3], [])) 0 hz zp_170 (fh_170 a3) (by rfl) ?_
      show zH n (0, 0) 147 (25, [zR 8, .inl a1, .inl a2, .inl a3], [.inl (hf_170 M a3)]) M _
      obtain ⟨x3, hx3⟩ : ∃ x : Int, x = (hf_170 M a3) := ⟨_, rfl⟩
      rw [← hx3]
      refine zH_if_ne hz rfl (fun hb25 => ?_) (fun hb25 => ?_)
      · skip
        rw [hx3, hq_170] at hb25
        refine zH_w (c' := (36, [zR 8, .inl a1, .inl a2, .inl a3], [.inl a1, zR 9])) 3 hz rfl ?_
        refine zH_wE (c1 := (39, [zR 8, .inl a1, .inl a2, .inl a3], [])) 0 hz zp_20 (fh_20_9 a1) (by rfl) ?_
        show zH n (0, 0) 147 (39, [zR 8, .inl a1, .inl a2, .inl a3], [.inl (hf_20_9 M a1)]) M _
        rw [show hf_20_9 M a1 = qStN M a1 from by
  have hb := hj.1.1.brd a1 (150 + 5 * a1) (by omega) rfl
  have hb0 : 0 ≤ qMt M a1 0 ∧ qMt M a1 0 ≤ 3 := by show 0 ≤ M 98 (150 + 5 * a1 + 0).toNat ∧ M 98 (150 + 5 * a1 + 0).toNat ≤ 3; rw [Int.add_zero]; exact hb
  exact hm_20 hj.1.2.1 hj.1.2.2.1 (mBd hj.1.1) (hj.1.1.sin _) hb0 (by omega)]
        refine zH_if_eq hz rfl (fun hb39 => ?_) (fun hb39 => ?_)
        · skip
          refine zH_w (c' := (57, [zR 8, .inl a1, .inl a2, .inl a3], [.inl (-3)])) 1 hz rfl ?_
          refine zH_ret hz rfl rfl ?_
          show _ = some (Sum.inl _)
          unfold jHv
          first
            | rw [if_pos (by omega), if_pos (by omega)]
            | rw [if_pos (by omega), if_neg (by omega)]
        · skip
          refine zH_w (c' := (49, [zR 8, .inl a1, .inl a2, .inl a3], [.inl a3, .inl a2, .inl a1, zR 76])) 5 hz rfl ?_
          refine zH_wC (c1 := (52, [zR 8, .inl a1, .inl a2, .inl a3], [])) 0 hz zp_37 (fh_37_76 hC hj hc a1 a2 a3 (by omega) (by omega) (by omega)) (by rfl) ?_
          rintro _ M1 rfl
          show zH n (0, 0) 147 (52, [zR 8, .inl a1, .inl a2, .inl a3], [.inl (jHg M (hCt M a3 (-1) (M 98 4).toNat (M 98 4).toNat) (hCt M a3 a1 (M 98 4).toNat (M 98 4).toNat) P Q a2 (M 98 1).toNat)]) M1 _
          refine zH_w (c' := (57, [zR 8, .inl a1, .inl a2, .inl a3], [.inl (jHg M (hCt M a3 (-1) (M 98 4).toNat (M 98 4).toNat) (hCt M a3 a1 (M 98 4).toNat (M 98 4).toNat) P Q a2 (M 98 1).toNat)])) 1 hz rfl ?_
          refine zH_ret hz rfl rfl ?_
          show _ = some (Sum.inl _)
          unfold jHv
          first
            | rw [if_pos (by omega), if_pos (by omega)]
            | rw [if_pos (by omega), if_neg (by omega)]
      · skip
        rw [hx3, hq_170] at hb25
        refine zH_w (c' := (30, [zR 8, .inl a1, .inl a2, .inl a3], [.inl (-2)])) 1 hz rfl ?_
        refine zH_ret hz rfl rfl ?_
        show _ = some (Sum.inl _)
        unfold jHv
        rw [if_neg (by omega)]
set_option maxHeartbeats 4000000 in
set_option maxRecDepth 100000 in
theorem fh_251_97 {n : Nat} {M : zM} {Mo : zM} (hM : qMI M) (e98 : M 98 = Mo 98) {P Q : Int → List Int} (hH : mH Mo P Q) (a1 a2 a3 : Int) : zH n (0, 0) 251 (0, zini [zR 97, .inl a1, .inl a2, .inl a3] 7, []) M (fun r M' => r = some (.inl (jHv Mo P Q a1 a2 a3))) := by
  have hz := zp_251
  show zH n (0, 0) 251 (0, [zR 97, .inl a1, .inl a2, .inl a3, zN, zN, zN], []) M _
  have hz3 : M 98 3 = Mo 98 3 := congrFun e98 3
  have hn1 := hH.1.cnt1
  have hn3 := hH.1.cnt3
  refine zH_wE (c1 := (6, [zR 97, .inl a1, .inl a2, .inl a3, zN, zN, zN], [])) 3 hz zp_182 (fh_182_97 3 a1) (by rfl) ?_
  show zH n (0, 0) 251 (6, [zR 97, .inl a1, .inl a2, .inl a3, zN, zN, zN], [.inl (hf_182_97 M 3 a1)]) M _
  obtain ⟨x1, hx1⟩ : ∃ x : Int, x = (hf_182_97 M 3 a1) := ⟨_, rfl⟩
  rw [← hx1]
  refine zH_if_eq hz rfl (fun hb6 => ?_) (fun hb6 => ?_)
  · skip
    rw [hx1, hq_182_3 (mBd hM), hz3] at hb6
    refine zH_w (c' := (25, [zR 97, .inl a1, .inl a2, .inl a3, zN, zN, zN], [.inl (-2)])) 1 hz rfl ?_
    refine zH_ret hz rfl rfl ?_
    show _ = some (Sum.inl _)
    unfold jHv
    rw [if_neg (by omega)]
  · skip
    rw [hx1, hq_182_3 (mBd hM), hz3] at hb6
    refine zH_w (c' := (10, [zR 97, .inl a1, .inl a2, .inl a3, zN, zN, zN], [.inl a2])) 1 hz rfl ?_
    refine zH_wE (c1 := (13, [zR 97, .inl a1, .inl a2, .inl a3, zN, zN, zN], [])) 0 hz zp_184 (fh_184 a2) (by rfl) ?_
    show zH n (0, 0) 251 (13, [zR 97, .inl a1, .inl a2, .inl a3, zN, zN, zN], [.inl (hf_184 M a2)]) M _
    obtain ⟨x2, hx2⟩ : ∃ x : Int, x = (hf_184 M a2) := ⟨_, rfl⟩
    rw [← hx2]
    refine zH_if_eq hz rfl (fun hb13 => ?_) (fun hb13 => ?_)
    · skip
      rw [hx2, hq_184] at hb13
      refine zH_w (c' := (25, [zR 97, .inl a1, .inl a2, .inl a3, zN, zN, zN], [.inl (-2)])) 1 hz rfl ?_
      refine zH_ret hz rfl rfl ?_
      show _ = some (Sum.inl _)
      unfold jHv
      rw [if_neg (by omega)]
    · skip
      rw [hx2, hq_184] at hb13
      refine zH_w (c' := (17, [zR 97, .inl a1, .inl a2, .inl a3, zN, zN, zN], [.inl a3])) 1 hz rfl ?_
      refine zH_wE (c1 := (20, [zR 97, .inl a1, .inl a2, .inl a3, zN, zN, zN], [])) 0 hz zp_184 (fh_184 a3) (by rfl) ?_
      show zH n (0, 0) 251 (20, [zR 97, .inl a1, .inl a2, .inl a3, zN, zN, zN], [.inl (hf_184 M a3)]) M _
      obtain ⟨x3, hx3⟩ : ∃ x : Int, x = (hf_184 M a3) := ⟨_, rfl⟩
      rw [← hx3]
      refine zH_if_ne hz rfl (fun hb20 => ?_) (fun hb20 => ?_)
      · skip
        rw [hx3, hq_184] at hb20
        have hok : (0 ≤ a1 ∧ a1 < Mo 98 3) ∧ (0 ≤ a2 ∧ a2 ≤ 9999) ∧ 0 ≤ a3 ∧ a3 ≤ 9999 := by omega
        refine zH_w (c' := (28, [zR 97, .inl a1, .inl a2, .inl a3, zN, zN, zN], [.inl a1, zR 97])) 2 hz rfl ?_
        refine zH_wE (c1 := (31, [zR 97, .inl a1, .inl a2, .inl a3, zN, zN, zN], [])) 0 hz zp_192 (hst_E hM a1 (by omega)) (by rfl) ?_
        show zH n (0, 0) 251 (31, [zR 97, .inl a1, .inl a2, .inl a3, zN, zN, zN], [.inl (qStN M a1)]) M _
        rw [hst_same e98]
        refine zH_if_ne hz rfl (fun hb31 => ?_) (fun hb31 => ?_)
        · skip
          refine zH_w (c' := (39, [zR 97, .inl a1, .inl a2, .inl a3, zN, zN, zN], [.inl a3, zR 97])) 2 hz rfl ?_
          refine zH_wC (c1 := (42, [zR 97, .inl a1, .inl a2, .inl a3, zN, zN, zN], [])) 0 hz zp_211 (m211q hM (by omega) (fh_211 hH.1 hM e98 a3)) (by rfl) ?_
          rintro _ M1 ⟨⟨rfl, f1, z1⟩, hM1⟩
          show zH n (0, 0) 251 (42, [zR 97, .inl a1, .inl a2, .inl a3, zN, zN, zN], []) M1 _
          have hk1 : mK Mo (hCt Mo a3 (-1) (Mo 98 4).toNat (Mo 98 4).toNat) M1 := ⟨(f1 98 (by decide)).trans e98, z1⟩
          refine zH_w (c' := (45, [zR 97, .inl a1, .inl a2, .inl a3, .inl 0, zN, zN], [])) 2 hz rfl ?_
          have lp45 : ∀ (N : Nat) (i : Int) (u5 : zV) (u6 : zV) (M5 : zM), ((20 - i).toNat) < N → (0 ≤ i ∧ i ≤ Mo 98 1) → (qMI M5) → (mK Mo (hCt Mo a3 (-1) (Mo 98 4).toNat (Mo 98 4).toNat) M5) → (mN Mo (hCt Mo a3 (-1) (Mo 98 4).toNat (Mo 98 4).toNat) P Q a2 i.toNat M5) → zH n (0, 0) 251 (45, [zR 97, .inl a1, .inl a2, .inl a3, .inl i, u5, u6], []) M5 (fun r M' => r = some (.inl (jHv Mo P Q a1 a2 a3))) := by
            intro N
            induction N with
            | zero => intro i u5 u6 M5 hN; exact absurd hN (Nat.not_lt_zero _)
            | succ N ih45 =>
              intro i u5 u6 M5 hN hi hM5 hk hn
              refine zH_w (c' := (52, [zR 97, .inl a1, .inl a2, .inl a3, .inl i, u5, u6], [.inl 1, zR 98, .inl i])) 4 hz rfl ?_
              refine zH_iald hz rfl rfl (.inl rfl) (fun hin52 => ?_)
              show zH n (0, 0) 251 (53, [zR 97, .inl a1, .inl a2, .inl a3, .inl i, u5, u6], [.inl (M5 98 (1 : Int).toNat), .inl i]) M5 _
              rw [show M5 98 (1 : Int).toNat = Mo 98 1 from congrFun hk.1 1]
              refine zH_icmp_ge hz rfl (fun hb53 => ?_) (fun hb53 => ?_)
              · skip
                have hnb0 : mN Mo (hCt Mo a3 (-1) (Mo 98 4).toNat (Mo 98 4).toNat) P Q a2 (Mo 98 1).toNat M5 := by rw [show (Mo 98 1).toNat = i.toNat by omega]; exact hn
                refine zH_w (c' := (115, [zR 97, .inl a1, .inl a2, .inl a3, .inl i, u5, u6], [.inl 1, .inl (w32 ((w32 (150 + (w32 (5 * a1)))) + 4)), zR 98])) 10 hz rfl ?_
                refine zH_iast hz rfl rfl (fun hin115 => ?_)
                show zH n (0, 0) 251 (116, [zR 97, .inl a1, .inl a2, .inl a3, .inl i, u5, u6], []) (zput M5 98 (w32 ((w32 (150 + (w32 (5 * a1)))) + 4) : Int).toNat 1) _
                obtain ⟨Mb, hMb⟩ : ∃ X : zM, X = zput M5 98 (w32 ((w32 (150 + (w32 (5 * a1)))) + 4) : Int).toNat 1 := ⟨_, rfl⟩
                rw [← hMb]
                rw [w32_id (x := 5 * a1) (by omega), w32_id (x := 150 + 5 * a1) (by omega), w32_id (x := 150 + 5 * a1 + 4) (by omega), show (150 + 5 * a1 + 4).toNat = (154 + 5 * a1).toNat by omega] at hMb
                have eb : ∀ j, Mb 98 j = if j = (154 + 5 * a1).toNat then 1 else Mo 98 j := fun j => by
                  rw [hMb, zput_same, hk.1]
                  rfl
                have hMq : qMI Mb := by rw [hMb]; exact hM5.put98' (by refine ⟨by unfold qin; omega, fun _ => by omega, fun _ => by omega, fun _ => by omega, fun _ => by omega, fun _ => by omega, fun _ => by omega, fun _ => by omega, fun c9 hc9 _ => by omega, fun u9 hu9 _ => by omega, fun m9 hm9 _ => by omega, fun a9 ha9 => ⟨fun _ => by omega, fun _ => by omega, fun _ => by omega, fun _ => by omega⟩, fun t9 ht9 _ => by omega, fun o9 ho9 _ => by omega⟩) (by omega) (.inl (by omega))
                have hgE9 : hgE Mo Mb := fun j hj => by rw [eb, if_neg (by omega)]
                have hgb := hgM hH.1 (m := a1) (by omega) eb a3
                have hHb := hH.g hgE9 hMq
                have hnb : mN Mo (hCt Mo a3 (-1) (Mo 98 4).toNat (Mo 98 4).toNat) P Q a2 (Mo 98 1).toNat Mb := hnb0.mv (by rw [hMb, zput_oth (by decide)]) (by rw [hMb, zput_oth (by decide)]) (by rw [hMb, zput_oth (by decide)])
                refine zH_w (c' := (118, [zR 97, .inl a1, .inl a2, .inl a3, .inl i, u5, u6], [.inl a3, zR 97])) 2 hz rfl ?_
                refine zH_wC (c1 := (121, [zR 97, .inl a1, .inl a2, .inl a3, .inl i, u5, u6], [])) 0 hz zp_211 (m211q hMq (by omega) (fh_211 hMq hMq rfl a3)) (by rfl) ?_
                rintro _ M2 ⟨⟨rfl, f2, z2⟩, hM2⟩
                show zH n (0, 0) 251 (121, [zR 97, .inl a1, .inl a2, .inl a3, .inl i, u5, u6], []) M2 _
                have hk2 : mK Mb (hCt Mb a3 (-1) (Mb 98 4).toNat (Mb 98 4).toNat) M2 := ⟨f2 98 (by decide), z2⟩
                refine zH_w (c' := (127, [zR 97, .inl a1, .inl a2, .inl a3, .inl 0, .inl 0, u6], [])) 4 hz rfl ?_
                have lp127 : ∀ (N : Nat) (b : Int) (i : Int) (u6 : zV) (M5 : zM), ((20 - i).toNat) < N → (0 ≤ i ∧ i ≤ Mo 98 1) → (qMI M5) → (mK Mb (hCt Mb a3 (-1) (Mb 98 4).toNat (Mb 98 4).toNat) M5) → (mN Mo (hCt Mo a3 (-1) (Mo 98 4).toNat (Mo 98 4).toNat) P Q a2 (Mo 98 1).toNat M5) → (b = jHg Mo (hCt Mo a3 (-1) (Mo 98 4).toNat (Mo 98 4).toNat) (hCt Mo a3 a1 (Mo 98 4).toNat (Mo 98 4).toNat) P Q a2 i.toNat) → zH n (0, 0) 251 (127, [zR 97, .inl a1, .inl a2, .inl a3, .inl b, .inl i, u6], []) M5 (fun r M' => r = some (.inl (jHv Mo P Q a1 a2 a3))) := by
                  intro N
                  induction N with
                  | zero => intro b i u6 M5 hN; exact absurd hN (Nat.not_lt_zero _)
                  | succ N ih127 =>
                    intro b i u6 M5 hN hi hM5 hk hn hb
                    refine zH_w (c' := (134, [zR 97, .inl a1, .inl a2, .inl a3, .inl b, .inl i, u6], [.inl 1, zR 98, .inl i])) 4 hz rfl ?_
                    refine zH_iald hz rfl rfl (.inl rfl) (fun hin134 => ?_)
                    show zH n (0, 0) 251 (135, [zR 97, .inl a1, .inl a2, .inl a3, .inl b, .inl i, u6], [.inl (M5 98 (1 : Int).toNat), .inl i]) M5 _
                    rw [show M5 98 (1 : Int).toNat = Mo 98 1 from (congrFun hk.1 1).trans hgE9.n1]
                    refine zH_icmp_ge hz rfl (fun hb135 => ?_) (fun hb135 => ?_)
                    · skip
                      refine zH_w (c' := (231, [zR 97, .inl a1, .inl a2, .inl a3, .inl b, .inl i, u6], [.inl 0, .inl (w32 ((w32 (150 + (w32 (5 * a1)))) + 4)), zR 98])) 10 hz rfl ?_
                      refine zH_iast hz rfl rfl (fun hin231 => ?_)
                      show zH n (0, 0) 251 (232, [zR 97, .inl a1, .inl a2, .inl a3, .inl b, .inl i, u6], []) (zput M5 98 (w32 ((w32 (150 + (w32 (5 * a1)))) + 4) : Int).toNat 0) _
                      refine zH_w (c' := (234, [zR 97, .inl a1, .inl a2, .inl a3, .inl b, .inl i, u6], [.inl b])) 1 hz rfl ?_
                      refine zH_ret hz rfl rfl ?_
                      show _ = some (Sum.inl _)
                      unfold jHv
                      rw [if_pos hok, if_neg (by omega), hb, show i.toNat = (Mo 98 1).toNat by omega]
                    · skip
                      have ei : ((i.toNat : Nat) : Int) = i := by omega
                      have hs : 0 ≤ i ∧ i < Mo 98 1 := by omega
                      have hsb : 0 ≤ i ∧ i < Mb 98 1 := by rw [hgE9.n1]; omega
                      have hn9 := hn i.toNat (by omega)
                      rw [ei] at hn9
                      have hbr := jHg_r Mo (hCt Mo a3 (-1) (Mo 98 4).toNat (Mo 98 4).toNat) (hCt Mo a3 a1 (Mo 98 4).toNat (Mo 98 4).toNat) P Q a2 i.toNat (by omega)
                      rw [← hb] at hbr
                      refine zH_w (c' := (142, [zR 97, .inl a1, .inl a2, .inl a3, .inl b, .inl i, u6], [.inl a2, .inl i, zR 97])) 3 hz rfl ?_
                      refine zH_wC (c1 := (145, [zR 97, .inl a1, .inl a2, .inl a3, .inl b, .inl i, u6], [])) 0 hz zp_243 (m243q hM5 (by omega) (by omega) (fh_243_97 hk hHb i a2 hsb)) (by rfl) ?_
                      rintro _ M6 ⟨⟨rfl, hk6, p6⟩, hM6, g6, r6⟩
                      show zH n (0, 0) 251 (145, [zR 97, .inl a1, .inl a2, .inl a3, .inl b, .inl i, u6], [.inl (jGd Mb (hCt Mb a3 (-1) (Mb 98 4).toNat (Mb 98 4).toNat) P Q i a2 0)]) M6 _
                      rw [show jGd Mb (hCt Mb a3 (-1) (Mb 98 4).toNat (Mb 98 4).toNat) P Q i a2 0 = jGd Mo (hCt Mo a3 a1 (Mo 98 4).toNat (Mo 98 4).toNat) P Q i a2 0 from jGd_g hgb (by omega) a2 0]
                      refine zH_w (c' := (151, [zR 97, .inl a1, .inl a2, .inl a3, .inl b, .inl i, u6], [.inl i, zR 112, .inl (jGd Mo (hCt Mo a3 a1 (Mo 98 4).toNat (Mo 98 4).toNat) P Q i a2 0)])) 3 hz rfl ?_
                      refine zH_iald hz rfl rfl (.inl rfl) (fun hin151 => ?_)
                      show zH n (0, 0) 251 (152, [zR 97, .inl a1, .inl a2, .inl a3, .inl b, .inl i, u6], [.inl (M6 112 (i : Int).toNat), .inl (jGd Mo (hCt Mo a3 a1 (Mo 98 4).toNat (Mo 98 4).toNat) P Q i a2 0)]) M6 _
                      rw [show M6 112 (i : Int).toNat = jGd Mo (hCt Mo a3 (-1) (Mo 98 4).toNat (Mo 98 4).toNat) P Q i a2 0 from by rw [g6.2.1]; exact hn9.2.1]
                      refine zH_icmp_ne hz rfl (fun hb152 => ?_) (fun hb152 => ?_)
                      · skip
                        have hbn : zbor b (zbshl 1 i) = if jPd Mo (hCt Mo a3 (-1) (Mo 98 4).toNat (Mo 98 4).toNat) P i a2 = jPd Mo (hCt Mo a3 a1 (Mo 98 4).toNat (Mo 98 4).toNat) P i a2 ∧ jGd Mo (hCt Mo a3 (-1) (Mo 98 4).toNat (Mo 98 4).toNat) P Q i a2 0 = jGd Mo (hCt Mo a3 a1 (Mo 98 4).toNat (Mo 98 4).toNat) P Q i a2 0 ∧ jRl Mo (hCt Mo a3 (-1) (Mo 98 4).toNat (Mo 98 4).toNat) P Q i a2 = jRl Mo (hCt Mo a3 a1 (Mo 98 4).toNat (Mo 98 4).toNat) P Q i a2 then b else zbor b (zbshl 1 i) := by rw [if_neg (fun q => hb152 q.2.1.symm)]
                        have hMC := hM6
                        have hkC := hk6
                        have hnC : mN Mo (hCt Mo a3 (-1) (Mo 98 4).toNat (Mo 98 4).toNat) P Q a2 (Mo 98 1).toNat M6 := hn.mv g6.1 g6.2.1 g6.2.2
                        refine zH_w (c' := (127, [zR 97, .inl a1, .inl a2, .inl a3, .inl (zbor b (zbshl 1 i)), .inl (i + 1), .inl 1], [])) 14 hz (by rw [show (.inl (i + 1) : zV) = .inl (w32 (i + 1)) from by rw [w32_id (by omega)]]; rfl) ?_
                        refine ih127 (zbor b (zbshl 1 i)) (i + 1) (.inl 1) M6 (by omega) ?_ ?_ ?_ ?_ ?_
                        · omega
                        · exact hMC
                        · exact hkC
                        · exact hnC
                        · rw [show (i + 1).toNat = i.toNat + 1 by omega, jHg_s, ei, ← hb]; exact hbn
                      · skip
                        refine zH_w (c' := (159, [zR 97, .inl a1, .inl a2, .inl a3, .inl b, .inl i, u6], [.inl (M6 97 21)])) 2 hz rfl ?_
                        rw [show M6 97 21 = jPd Mo (hCt Mo a3 a1 (Mo 98 4).toNat (Mo 98 4).toNat) P i a2 from p6.trans (jPd_g hgb (by omega) a2)]
                        refine zH_w (c' := (165, [zR 97, .inl a1, .inl a2, .inl a3, .inl b, .inl i, u6], [.inl i, zR 111, .inl (jPd Mo (hCt Mo a3 a1 (Mo 98 4).toNat (Mo 98 4).toNat) P i a2)])) 3 hz rfl ?_
                        refine zH_iald hz rfl rfl (.inl rfl) (fun hin165 => ?_)
                        show zH n (0, 0) 251 (166, [zR 97, .inl a1, .inl a2, .inl a3, .inl b, .inl i, u6], [.inl (M6 111 (i : Int).toNat), .inl (jPd Mo (hCt Mo a3 a1 (Mo 98 4).toNat (Mo 98 4).toNat) P i a2)]) M6 _
                        rw [show M6 111 (i : Int).toNat = jPd Mo (hCt Mo a3 (-1) (Mo 98 4).toNat (Mo 98 4).toNat) P i a2 from by rw [g6.1]; exact hn9.1]
                        refine zH_icmp_eq hz rfl (fun hb166 => ?_) (fun hb166 => ?_)
                        · skip
                          refine zH_w (c' := (187, [zR 97, .inl a1, .inl a2, .inl a3, .inl b, .inl i, .inl 0], [.inl a2, .inl i, zR 97, .inl b])) 8 hz rfl ?_
                          refine zH_wC (c1 := (190, [zR 97, .inl a1, .inl a2, .inl a3, .inl b, .inl i, .inl 0], [.inl b])) 0 hz zp_244 (m244q hM6 (by omega) (by omega) (fh_244_97 hk6 hHb i a2 hsb)) (by rfl) ?_
                          rintro _ M9 ⟨⟨rfl, hk9⟩, hM9, g9, r9⟩
                          show zH n (0, 0) 251 (190, [zR 97, .inl a1, .inl a2, .inl a3, .inl b, .inl i, .inl 0], [.inl (jRl Mb (hCt Mb a3 (-1) (Mb 98 4).toNat (Mb 98 4).toNat) P Q i a2), .inl b]) M9 _
                          rw [show jRl Mb (hCt Mb a3 (-1) (Mb 98 4).toNat (Mb 98 4).toNat) P Q i a2 = jRl Mo (hCt Mo a3 a1 (Mo 98 4).toNat (Mo 98 4).toNat) P Q i a2 from jRl_g hgb (by omega) a2]
                          refine zH_w (c' := (196, [zR 97, .inl a1, .inl a2, .inl a3, .inl b, .inl i, .inl 0], [.inl i, zR 113, .inl (jRl Mo (hCt Mo a3 a1 (Mo 98 4).toNat (Mo 98 4).toNat) P Q i a2), .inl b])) 3 hz rfl ?_
                          refine zH_iald hz rfl rfl (.inl rfl) (fun hin196 => ?_)
                          show zH n (0, 0) 251 (197, [zR 97, .inl a1, .inl a2, .inl a3, .inl b, .inl i, .inl 0], [.inl (M9 113 (i : Int).toNat), .inl (jRl Mo (hCt Mo a3 a1 (Mo 98 4).toNat (Mo 98 4).toNat) P Q i a2), .inl b]) M9 _
                          rw [show M9 113 (i : Int).toNat = jRl Mo (hCt Mo a3 (-1) (Mo 98 4).toNat (Mo 98 4).toNat) P Q i a2 from by rw [g9.2.2, g6.2.2]; exact hn9.2.2]
                          refine zH_icmp_eq hz rfl (fun hb197 => ?_) (fun hb197 => ?_)
                          · skip
                            have hbn : zbor b 0 = if jPd Mo (hCt Mo a3 (-1) (Mo 98 4).toNat (Mo 98 4).toNat) P i a2 = jPd Mo (hCt Mo a3 a1 (Mo 98 4).toNat (Mo 98 4).toNat) P i a2 ∧ jGd Mo (hCt Mo a3 (-1) (Mo 98 4).toNat (Mo 98 4).toNat) P Q i a2 0 = jGd Mo (hCt Mo a3 a1 (Mo 98 4).toNat (Mo 98 4).toNat) P Q i a2 0 ∧ jRl Mo (hCt Mo a3 (-1) (Mo 98 4).toNat (Mo 98 4).toNat) P Q i a2 = jRl Mo (hCt Mo a3 a1 (Mo 98 4).toNat (Mo 98 4).toNat) P Q i a2 then b else zbor b (zbshl 1 i) := by rw [if_pos ⟨by omega, by omega, by omega⟩, j_or9 hbr]
                            have hMC := hM9
                            have hkC := hk9
                            have hnC : mN Mo (hCt Mo a3 (-1) (Mo 98 4).toNat (Mo 98 4).toNat) P Q a2 (Mo 98 1).toNat M9 := hn.mv (g9.1.trans g6.1) (g9.2.1.trans g6.2.1) (g9.2.2.trans g6.2.2)
                            refine zH_w (c' := (127, [zR 97, .inl a1, .inl a2, .inl a3, .inl (zbor b 0), .inl (i + 1), .inl 0], [])) 5 hz (by rw [show (.inl (i + 1) : zV) = .inl (w32 (i + 1)) from by rw [w32_id (by omega)]]; rfl) ?_
                            refine ih127 (zbor b 0) (i + 1) (.inl 0) M9 (by omega) ?_ ?_ ?_ ?_ ?_
                            · omega
                            · exact hMC
                            · exact hkC
                            · exact hnC
                            · rw [show (i + 1).toNat = i.toNat + 1 by omega, jHg_s, ei, ← hb]; exact hbn
                          · skip
                            have hbn : zbor b (zbshl 1 i) = if jPd Mo (hCt Mo a3 (-1) (Mo 98 4).toNat (Mo 98 4).toNat) P i a2 = jPd Mo (hCt Mo a3 a1 (Mo 98 4).toNat (Mo 98 4).toNat) P i a2 ∧ jGd Mo (hCt Mo a3 (-1) (Mo 98 4).toNat (Mo 98 4).toNat) P Q i a2 0 = jGd Mo (hCt Mo a3 a1 (Mo 98 4).toNat (Mo 98 4).toNat) P Q i a2 0 ∧ jRl Mo (hCt Mo a3 (-1) (Mo 98 4).toNat (Mo 98 4).toNat) P Q i a2 = jRl Mo (hCt Mo a3 a1 (Mo 98 4).toNat (Mo 98 4).toNat) P Q i a2 then b else zbor b (zbshl 1 i) := by rw [if_neg (fun q => hb197 q.2.2.symm)]
                            have hMC := hM9
                            have hkC := hk9
                            have hnC : mN Mo (hCt Mo a3 (-1) (Mo 98 4).toNat (Mo 98 4).toNat) P Q a2 (Mo 98 1).toNat M9 := hn.mv (g9.1.trans g6.1) (g9.2.1.trans g6.2.1) (g9.2.2.trans g6.2.2)
                            refine zH_w (c' := (127, [zR 97, .inl a1, .inl a2, .inl a3, .inl (zbor b (zbshl 1 i)), .inl (i + 1), .inl 0], [])) 8 hz (by rw [show (.inl (i + 1) : zV) = .inl (w32 (i + 1)) from by rw [w32_id (by omega)]]; rfl) ?_
                            refine ih127 (zbor b (zbshl 1 i)) (i + 1) (.inl 0) M9 (by omega) ?_ ?_ ?_ ?_ ?_
                            · omega
                            · exact hMC
                            · exact hkC
                            · exact hnC
                            · rw [show (i + 1).toNat = i.toNat + 1 by omega, jHg_s, ei, ← hb]; exact hbn
                        · skip
                          have hbn : zbor b (zbshl 1 i) = if jPd Mo (hCt Mo a3 (-1) (Mo 98 4).toNat (Mo 98 4).toNat) P i a2 = jPd Mo (hCt Mo a3 a1 (Mo 98 4).toNat (Mo 98 4).toNat) P i a2 ∧ jGd Mo (hCt Mo a3 (-1) (Mo 98 4).toNat (Mo 98 4).toNat) P Q i a2 0 = jGd Mo (hCt Mo a3 a1 (Mo 98 4).toNat (Mo 98 4).toNat) P Q i a2 0 ∧ jRl Mo (hCt Mo a3 (-1) (Mo 98 4).toNat (Mo 98 4).toNat) P Q i a2 = jRl Mo (hCt Mo a3 a1 (Mo 98 4).toNat (Mo 98 4).toNat) P Q i a2 then b else zbor b (zbshl 1 i) := by rw [if_neg (fun q => hb166 q.1.symm)]
                          have hMC := hM6
                          have hkC := hk6
                          have hnC : mN Mo (hCt Mo a3 (-1) (Mo 98 4).toNat (Mo 98 4).toNat) P Q a2 (Mo 98 1).toNat M6 := hn.mv g6.1 g6.2.1 g6.2.2
                          refine zH_w (c' := (127, [zR 97, .inl a1, .inl a2, .inl a3, .inl (zbor b (zbshl 1 i)), .inl (i + 1), .inl 1], [])) 14 hz (by rw [show (.inl (i + 1) : zV) = .inl (w32 (i + 1)) from by rw [w32_id (by omega)]]; rfl) ?_
                          refine ih127 (zbor b (zbshl 1 i)) (i + 1) (.inl 1) M6 (by omega) ?_ ?_ ?_ ?_ ?_
                          · omega
                          · exact hMC
                          · exact hkC
                          · exact hnC
                          · rw [show (i + 1).toNat = i.toNat + 1 by omega, jHg_s, ei, ← hb]; exact hbn
                refine lp127 (21) 0 0 u6 M2 (by omega) ?_ ?_ ?_ ?_ ?_
                · omega
                · exact hM2
                · exact hk2
                · exact hnb.mv (f2 111 (by decide)) (f2 112 (by decide)) (f2 113 (by decide))
                · rfl
              · skip
                have ei : ((i.toNat : Nat) : Int) = i := by omega
                have hs : 0 ≤ i ∧ i < Mo 98 1 := by omega
                refine zH_w (c' := (66, [zR 97, .inl a1, .inl a2, .inl a3, .inl i, u5, u6], [.inl a2, .inl i, zR 97, .inl i, zR 112])) 6 hz rfl ?_
                refine zH_wC (c1 := (69, [zR 97, .inl a1, .inl a2, .inl a3, .inl i, u5, u6], [.inl i, zR 112])) 0 hz zp_243 (m243q hM5 (by omega) (by omega) (fh_243_97 hk hH i a2 hs)) (by rfl) ?_
                rintro _ M6 ⟨⟨rfl, hk6, p6⟩, hM6, g6, r6⟩
                show zH n (0, 0) 251 (69, [zR 97, .inl a1, .inl a2, .inl a3, .inl i, u5, u6], [.inl (jGd Mo (hCt Mo a3 (-1) (Mo 98 4).toNat (Mo 98 4).toNat) P Q i a2 0), .inl i, zR 112]) M6 _
                refine zH_iast hz rfl rfl (fun hin69 => ?_)
                show zH n (0, 0) 251 (70, [zR 97, .inl a1, .inl a2, .inl a3, .inl i, u5, u6], []) (zput M6 112 (i : Int).toNat (jGd Mo (hCt Mo a3 (-1) (Mo 98 4).toNat (Mo 98 4).toNat) P Q i a2 0)) _
                obtain ⟨M7, hM7⟩ : ∃ X : zM, X = zput M6 112 (i : Int).toNat (jGd Mo (hCt Mo a3 (-1) (Mo 98 4).toNat (Mo 98 4).toNat) P Q i a2 0) := ⟨_, rfl⟩
                rw [← hM7]
                have hMM7 : qMI M7 := by rw [hM7]; exact hM6.p11 (by omega) (qRg r6)
                refine zH_w (c' := (80, [zR 97, .inl a1, .inl a2, .inl a3, .inl i, u5, u6], [.inl (M7 97 21), .inl i, zR 111])) 5 hz rfl ?_
                rw [show M7 97 21 = jPd Mo (hCt Mo a3 (-1) (Mo 98 4).toNat (Mo 98 4).toNat) P i a2 from by rw [hM7, zput_oth (by decide)]; exact p6]
                have rp : qin (jPd Mo (hCt Mo a3 (-1) (Mo 98 4).toNat (Mo 98 4).toNat) P i a2) := by
                  have q1 := jPs_r Mo (hCt Mo a3 (-1) (Mo 98 4).toNat (Mo 98 4).toNat) i (P (oBi (Mo 98) i a2)) (Mo 98 0).toNat (by have := hH.1.cnt0; omega)
                  have q2 := Nat.pow_le_pow_right (n := 2) (by decide) (show (Mo 98 0).toNat ≤ 14 by have := hH.1.cnt0; omega)
                  unfold jPd qin
                  omega
                refine zH_iast hz rfl rfl (fun hin80 => ?_)
                show zH n (0, 0) 251 (81, [zR 97, .inl a1, .inl a2, .inl a3, .inl i, u5, u6], []) (zput M7 111 (i : Int).toNat (jPd Mo (hCt Mo a3 (-1) (Mo 98 4).toNat (Mo 98 4).toNat) P i a2)) _
                obtain ⟨M8, hM8⟩ : ∃ X : zM, X = zput M7 111 (i : Int).toNat (jPd Mo (hCt Mo a3 (-1) (Mo 98 4).toNat (Mo 98 4).toNat) P i a2) := ⟨_, rfl⟩
                rw [← hM8]
                have hMM8 : qMI M8 := by rw [hM8]; exact hMM7.p11 (by omega) rp
                have hk8 : mK Mo (hCt Mo a3 (-1) (Mo 98 4).toNat (Mo 98 4).toNat) M8 := hk6.mv (by rw [hM8, zput_oth (by decide), hM7, zput_oth (by decide)]) (by rw [hM8, zput_oth (by decide), hM7, zput_oth (by decide)])
                refine zH_w (c' := (91, [zR 97, .inl a1, .inl a2, .inl a3, .inl i, u5, u6], [.inl a2, .inl i, zR 97, .inl i, zR 113])) 6 hz rfl ?_
                refine zH_wC (c1 := (94, [zR 97, .inl a1, .inl a2, .inl a3, .inl i, u5, u6], [.inl i, zR 113])) 0 hz zp_244 (m244q hMM8 (by omega) (by omega) (fh_244_97 hk8 hH i a2 hs)) (by rfl) ?_
                rintro _ M9 ⟨⟨rfl, hk9⟩, hM9, g9, r9⟩
                show zH n (0, 0) 251 (94, [zR 97, .inl a1, .inl a2, .inl a3, .inl i, u5, u6], [.inl (jRl Mo (hCt Mo a3 (-1) (Mo 98 4).toNat (Mo 98 4).toNat) P Q i a2), .inl i, zR 113]) M9 _
                refine zH_iast hz rfl rfl (fun hin94 => ?_)
                show zH n (0, 0) 251 (95, [zR 97, .inl a1, .inl a2, .inl a3, .inl i, u5, u6], []) (zput M9 113 (i : Int).toNat (jRl Mo (hCt Mo a3 (-1) (Mo 98 4).toNat (Mo 98 4).toNat) P Q i a2)) _
                obtain ⟨M10, hM10⟩ : ∃ X : zM, X = zput M9 113 (i : Int).toNat (jRl Mo (hCt Mo a3 (-1) (Mo 98 4).toNat (Mo 98 4).toNat) P Q i a2) := ⟨_, rfl⟩
                rw [← hM10]
                have hMM10 : qMI M10 := by rw [hM10]; exact hM9.p11 (by omega) (qRg r9)
                have hkC : mK Mo (hCt Mo a3 (-1) (Mo 98 4).toNat (Mo 98 4).toNat) M10 := hk9.mv (by rw [hM10, zput_oth (by decide)]) (by rw [hM10, zput_oth (by decide)])
                have hnn : mN Mo (hCt Mo a3 (-1) (Mo 98 4).toNat (Mo 98 4).toNat) P Q a2 (i + 1).toNat M10 := by
                  have e1 : M10 111 = hup (M5 111) i.toNat (jPd Mo (hCt Mo a3 (-1) (Mo 98 4).toNat (Mo 98 4).toNat) P i a2) := by rw [hM10, zput_oth (by decide), g9.1, hM8, zput_same, hM7, zput_oth (by decide), g6.1]
                  have e2 : M10 112 = hup (M5 112) i.toNat (jGd Mo (hCt Mo a3 (-1) (Mo 98 4).toNat (Mo 98 4).toNat) P Q i a2 0) := by rw [hM10, zput_oth (by decide), g9.2.1, hM8, zput_oth (by decide), hM7, zput_same, g6.2.1]
                  have e3 : M10 113 = hup (M5 113) i.toNat (jRl Mo (hCt Mo a3 (-1) (Mo 98 4).toNat (Mo 98 4).toNat) P Q i a2) := by rw [hM10, zput_same, g9.2.2, hM8, zput_oth (by decide), hM7, zput_oth (by decide), g6.2.2]
                  intro s hs9
                  rw [e1, e2, e3]
                  by_cases z : s = i.toNat
                  · subst z
                    rw [ei, hup_eq, hup_eq, hup_eq]
                    exact ⟨rfl, rfl, rfl⟩
                  · rw [hup_ne z, hup_ne z, hup_ne z]
                    exact hn s (by omega)
                refine zH_w (c' := (45, [zR 97, .inl a1, .inl a2, .inl a3, .inl (i + 1), u5, u6], [])) 2 hz (by rw [show (.inl (i + 1) : zV) = .inl (w32 (i + 1)) from by rw [w32_id (by omega)]]; rfl) ?_
                refine ih45 (i + 1) u5 u6 M10 (by omega) ?_ ?_ ?_ ?_
                · omega
                · exact hMM10
                · exact hkC
                · exact hnn
          refine lp45 (21) 0 zN zN M1 (by omega) ?_ ?_ ?_ ?_
          · omega
          · exact hM1
          · exact hk1
          · exact fun s hs => absurd hs (Nat.not_lt_zero _)
        · skip
          refine zH_w (c' := (36, [zR 97, .inl a1, .inl a2, .inl a3, zN, zN, zN], [.inl (-3)])) 1 hz rfl ?_
          refine zH_ret hz rfl rfl ?_
          show _ = some (Sum.inl _)
          unfold jHv
          rw [if_pos hok, if_pos (by omega)]
      · skip
        rw [hx3, hq_184] at hb20
        refine zH_w (c' := (25, [zR 97, .inl a1, .inl a2, .inl a3, zN, zN, zN], [.inl (-2)])) 1 hz rfl ?_
        refine zH_ret hz rfl rfl ?_
        show _ = some (Sum.inl _)
        unfold jHv
        rw [if_neg (by omega)]
