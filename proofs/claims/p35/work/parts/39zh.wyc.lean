/-! WAYS: THE CLASS -/
set_option maxRecDepth 100000 in
theorem fh_106_83 {n : Nat} {M : zM} (a1 : Int) (a2 : Int) : zH n (0, 0) 106 (0, zini [zR 83, .inl a1, .inl a2] 3, []) M (fun r M' => r = some (.inl (hR_get M 83 a1 a2)) ∧ M' = M) := by
  have hz := zp_106
  have hE : hR_get M 83 a1 a2 = hR_get M 83 a1 a2 := rfl
  show zH n (0, 0) 106 (0, [zR 83, .inl a1, .inl a2], []) M _
  refine zH_wf_lt (pc := 1) (n' := 4) (t := 24) (L := [zR 83, .inl a1, .inl a2]) (st := []) (x := a1) 1 hz (by rfl) (fun hb => ?_) (fun hb => ?_)
  · have hE := hE.trans (if_pos hb)
    exact zH_wr (r := some (.inl (-1))) 1 hz (by rfl) (hfinP hE)
  · have hE := hE.trans (if_neg hb)
    refine zH_wi_ge (pc := 9) (n' := 12) (t := 24) (L := [zR 83, .inl a1, .inl a2]) (st := []) (x := a1) (y := (M 83 0)) 3 hz (by rfl) (fun hb => ?_) (fun hb => ?_)
    · have hE := hE.trans (if_pos hb)
      exact zH_wr (r := some (.inl (-1))) 1 hz (by rfl) (hfinP hE)
    · have hE := hE.trans (if_neg hb)
      refine zH_wf_lt (pc := 13) (n' := 16) (t := 24) (L := [zR 83, .inl a1, .inl a2]) (st := []) (x := a2) 1 hz (by rfl) (fun hb => ?_) (fun hb => ?_)
      · have hE := hE.trans (if_pos hb)
        exact zH_wr (r := some (.inl (-1))) 1 hz (by rfl) (hfinP hE)
      · have hE := hE.trans (if_neg hb)
        refine zH_wi_lt (pc := 21) (n' := 24) (t := 26) (L := [zR 83, .inl a1, .inl a2]) (st := []) (x := a2) (y := (M 83 1)) 3 hz (by rfl) (fun hb => ?_) (fun hb => ?_)
        · have hE := hE.trans (if_pos hb)
          refine zH_w (c' := (38, [zR 83, .inl a1, .inl a2], [.inl (w32 ((w32 (a1 * (M 83 1))) + a2)), zR 84])) 8 hz rfl ?_
          refine zH_iald hz rfl rfl (.inl rfl) (fun _ => ?_)
          show zH n (0, 0) 106 (39, [zR 83, .inl a1, .inl a2], [.inl (M 84 (w32 ((w32 (a1 * (M 83 1))) + a2) : Int).toNat)]) M _
          exact zH_wr (r := some (.inl (M 84 (w32 ((w32 (a1 * (M 83 1))) + a2) : Int).toNat))) 0 hz (by rfl) (hfinP hE)
        · have hE := hE.trans (if_neg hb)
          exact zH_wr (r := some (.inl (-1))) 1 hz (by rfl) (hfinP hE)
set_option maxRecDepth 100000 in
theorem fh_107_83 {n : Nat} {M : zM} (a1 : Int) (a2 : Int) (a3 : Int) : zH n (0, 0) 107 (0, zini [zR 83, .inl a1, .inl a2, .inl a3] 4, []) M (fun r M' => r = none ∧ M' = hR_set M 83 a1 a2 a3) := by
  have hz := zp_107
  have hE : hR_set M 83 a1 a2 a3 = hR_set M 83 a1 a2 a3 := rfl
  show zH n (0, 0) 107 (0, [zR 83, .inl a1, .inl a2, .inl a3], []) M _
  refine zH_wf_lt (pc := 1) (n' := 4) (t := 24) (L := [zR 83, .inl a1, .inl a2, .inl a3]) (st := []) (x := a1) 1 hz (by rfl) (fun hb => ?_) (fun hb => ?_)
  · have hE := hE.trans (if_pos hb)
    exact zH_wr (r := none) 0 hz (by rfl) ⟨rfl, hE.symm⟩
  · have hE := hE.trans (if_neg hb)
    refine zH_wi_ge (pc := 9) (n' := 12) (t := 24) (L := [zR 83, .inl a1, .inl a2, .inl a3]) (st := []) (x := a1) (y := (M 83 0)) 3 hz (by rfl) (fun hb => ?_) (fun hb => ?_)
    · have hE := hE.trans (if_pos hb)
      exact zH_wr (r := none) 0 hz (by rfl) ⟨rfl, hE.symm⟩
    · have hE := hE.trans (if_neg hb)
      refine zH_wf_lt (pc := 13) (n' := 16) (t := 24) (L := [zR 83, .inl a1, .inl a2, .inl a3]) (st := []) (x := a2) 1 hz (by rfl) (fun hb => ?_) (fun hb => ?_)
      · have hE := hE.trans (if_pos hb)
        exact zH_wr (r := none) 0 hz (by rfl) ⟨rfl, hE.symm⟩
      · have hE := hE.trans (if_neg hb)
        refine zH_wi_lt (pc := 21) (n' := 24) (t := 25) (L := [zR 83, .inl a1, .inl a2, .inl a3]) (st := []) (x := a2) (y := (M 83 1)) 3 hz (by rfl) (fun hb => ?_) (fun hb => ?_)
        · have hE := hE.trans (if_pos hb)
          refine zH_w (c' := (38, [zR 83, .inl a1, .inl a2, .inl a3], [.inl a3, .inl (w32 ((w32 (a1 * (M 83 1))) + a2)), zR 84])) 9 hz rfl ?_
          refine zH_iast hz rfl rfl (fun _ => ?_)
          show zH n (0, 0) 107 (39, [zR 83, .inl a1, .inl a2, .inl a3], []) (zput M 84 (w32 ((w32 (a1 * (M 83 1))) + a2) : Int).toNat a3) _
          exact zH_wr (r := none) 0 hz (by rfl) ⟨rfl, hE.symm⟩
        · have hE := hE.trans (if_neg hb)
          exact zH_wr (r := none) 0 hz (by rfl) ⟨rfl, hE.symm⟩
set_option maxRecDepth 100000 in
theorem fh_106_85 {n : Nat} {M : zM} (a1 : Int) (a2 : Int) : zH n (0, 0) 106 (0, zini [zR 85, .inl a1, .inl a2] 3, []) M (fun r M' => r = some (.inl (hR_get M 85 a1 a2)) ∧ M' = M) := by
  have hz := zp_106
  have hE : hR_get M 85 a1 a2 = hR_get M 85 a1 a2 := rfl
  show zH n (0, 0) 106 (0, [zR 85, .inl a1, .inl a2], []) M _
  refine zH_wf_lt (pc := 1) (n' := 4) (t := 24) (L := [zR 85, .inl a1, .inl a2]) (st := []) (x := a1) 1 hz (by rfl) (fun hb => ?_) (fun hb => ?_)
  · have hE := hE.trans (if_pos hb)
    exact zH_wr (r := some (.inl (-1))) 1 hz (by rfl) (hfinP hE)
  · have hE := hE.trans (if_neg hb)
    refine zH_wi_ge (pc := 9) (n' := 12) (t := 24) (L := [zR 85, .inl a1, .inl a2]) (st := []) (x := a1) (y := (M 85 0)) 3 hz (by rfl) (fun hb => ?_) (fun hb => ?_)
    · have hE := hE.trans (if_pos hb)
      exact zH_wr (r := some (.inl (-1))) 1 hz (by rfl) (hfinP hE)
    · have hE := hE.trans (if_neg hb)
      refine zH_wf_lt (pc := 13) (n' := 16) (t := 24) (L := [zR 85, .inl a1, .inl a2]) (st := []) (x := a2) 1 hz (by rfl) (fun hb => ?_) (fun hb => ?_)
      · have hE := hE.trans (if_pos hb)
        exact zH_wr (r := some (.inl (-1))) 1 hz (by rfl) (hfinP hE)
      · have hE := hE.trans (if_neg hb)
        refine zH_wi_lt (pc := 21) (n' := 24) (t := 26) (L := [zR 85, .inl a1, .inl a2]) (st := []) (x := a2) (y := (M 85 1)) 3 hz (by rfl) (fun hb => ?_) (fun hb => ?_)
        · have hE := hE.trans (if_pos hb)
          refine zH_w (c' := (38, [zR 85, .inl a1, .inl a2], [.inl (w32 ((w32 (a1 * (M 85 1))) + a2)), zR 86])) 8 hz rfl ?_
          refine zH_iald hz rfl rfl (.inl rfl) (fun _ => ?_)
          show zH n (0, 0) 106 (39, [zR 85, .inl a1, .inl a2], [.inl (M 86 (w32 ((w32 (a1 * (M 85 1))) + a2) : Int).toNat)]) M _
          exact zH_wr (r := some (.inl (M 86 (w32 ((w32 (a1 * (M 85 1))) + a2) : Int).toNat))) 0 hz (by rfl) (hfinP hE)
        · have hE := hE.trans (if_neg hb)
          exact zH_wr (r := some (.inl (-1))) 1 hz (by rfl) (hfinP hE)
set_option maxRecDepth 100000 in
theorem fh_107_85 {n : Nat} {M : zM} (a1 : Int) (a2 : Int) (a3 : Int) : zH n (0, 0) 107 (0, zini [zR 85, .inl a1, .inl a2, .inl a3] 4, []) M (fun r M' => r = none ∧ M' = hR_set M 85 a1 a2 a3) := by
  have hz := zp_107
  have hE : hR_set M 85 a1 a2 a3 = hR_set M 85 a1 a2 a3 := rfl
  show zH n (0, 0) 107 (0, [zR 85, .inl a1, .inl a2, .inl a3], []) M _
  refine zH_wf_lt (pc := 1) (n' := 4) (t := 24) (L := [zR 85, .inl a1, .inl a2, .inl a3]) (st := []) (x := a1) 1 hz (by rfl) (fun hb => ?_) (fun hb => ?_)
  · have hE := hE.trans (if_pos hb)
    exact zH_wr (r := none) 0 hz (by rfl) ⟨rfl, hE.symm⟩
  · have hE := hE.trans (if_neg hb)
    refine zH_wi_ge (pc := 9) (n' := 12) (t := 24) (L := [zR 85, .inl a1, .inl a2, .inl a3]) (st := []) (x := a1) (y := (M 85 0)) 3 hz (by rfl) (fun hb => ?_) (fun hb => ?_)
    · have hE := hE.trans (if_pos hb)
      exact zH_wr (r := none) 0 hz (by rfl) ⟨rfl, hE.symm⟩
    · have hE := hE.trans (if_neg hb)
      refine zH_wf_lt (pc := 13) (n' := 16) (t := 24) (L := [zR 85, .inl a1, .inl a2, .inl a3]) (st := []) (x := a2) 1 hz (by rfl) (fun hb => ?_) (fun hb => ?_)
      · have hE := hE.trans (if_pos hb)
        exact zH_wr (r := none) 0 hz (by rfl) ⟨rfl, hE.symm⟩
      · have hE := hE.trans (if_neg hb)
        refine zH_wi_lt (pc := 21) (n' := 24) (t := 25) (L := [zR 85, .inl a1, .inl a2, .inl a3]) (st := []) (x := a2) (y := (M 85 1)) 3 hz (by rfl) (fun hb => ?_) (fun hb => ?_)
        · have hE := hE.trans (if_pos hb)
          refine zH_w (c' := (38, [zR 85, .inl a1, .inl a2, .inl a3], [.inl a3, .inl (w32 ((w32 (a1 * (M 85 1))) + a2)), zR 86])) 9 hz rfl ?_
          refine zH_iast hz rfl rfl (fun _ => ?_)
          show zH n (0, 0) 107 (39, [zR 85, .inl a1, .inl a2, .inl a3], []) (zput M 86 (w32 ((w32 (a1 * (M 85 1))) + a2) : Int).toNat a3) _
          exact zH_wr (r := none) 0 hz (by rfl) ⟨rfl, hE.symm⟩
        · have hE := hE.trans (if_neg hb)
          exact zH_wr (r := none) 0 hz (by rfl) ⟨rfl, hE.symm⟩
set_option maxRecDepth 100000 in
theorem fh_108_85 {n : Nat} {M : zM} (a1 : Int) (a2 : Int) (a3 : Int) : zH n (0, 0) 108 (0, zini [zR 85, .inl a1, .inl a2, .inl a3] 4, []) M (fun r M' => r = none ∧ M' = hR_add M 85 a1 a2 a3) := by
  have hz := zp_108
  have hE : hR_add M 85 a1 a2 a3 = hR_add M 85 a1 a2 a3 := rfl
  show zH n (0, 0) 108 (0, [zR 85, .inl a1, .inl a2, .inl a3], []) M _
  refine zH_wE (c1 := (9, [zR 85, .inl a1, .inl a2, .inl a3], [.inl a2, .inl a1, zR 85])) 6 hz zp_106 (fh_106_85 a1 a2) (by rfl) ?_
  show zH n (0, 0) 108 (9, [zR 85, .inl a1, .inl a2, .inl a3], [.inl (hR_get M 85 a1 a2), .inl a2, .inl a1, zR 85]) M _
  refine zH_wW (c1 := (14, [zR 85, .inl a1, .inl a2, .inl a3], [])) 2 hz zp_107 (fh_107_85 a1 a2 (w32 ((hR_get M 85 a1 a2) + a3))) (by rfl) ?_
  intro N1 hN1
  show zH n (0, 0) 108 (14, [zR 85, .inl a1, .inl a2, .inl a3], []) N1 _
  subst hN1
  exact zH_ret hz rfl rfl ⟨rfl, hE.symm⟩
noncomputable def hf_118_81 (M : zM) (a1 : Int) (a2 : Int) : Int :=
  (if ¬ (zband (zbshr (hR_get M 10 a1 2) a2) 1) = 1 then 0 else 1)
set_option maxRecDepth 100000 in
theorem fh_118_81 {n : Nat} {M : zM} (a1 : Int) (a2 : Int) : zH n (0, 0) 118 (0, zini [zR 81, .inl a1, .inl a2] 3, []) M (fun r M' => r = some (.inl (hf_118_81 M a1 a2)) ∧ M' = M) := by
  have hz := zp_118
  have hE : hf_118_81 M a1 a2 = hf_118_81 M a1 a2 := rfl
  show zH n (0, 0) 118 (0, [zR 81, .inl a1, .inl a2], []) M _
  refine zH_wE (c1 := (12, [zR 81, .inl a1, .inl a2], [])) 5 hz zp_106 (fh_106_10 a1 2) (by rfl) ?_
  show zH n (0, 0) 118 (12, [zR 81, .inl a1, .inl a2], [.inl (hR_get M 10 a1 2)]) M _
  refine zH_wi_ne (pc := 17) (n' := 20) (t := 24) (L := [zR 81, .inl a1, .inl a2]) (st := []) (x := (zband (zbshr (hR_get M 10 a1 2) a2) 1)) (y := 1) 5 hz (by rfl) (fun hb => ?_) (fun hb => ?_)
  · have hE := hE.trans (if_pos hb)
    refine zH_w (c' := (25, [zR 81, .inl a1, .inl a2], [.inl 0])) 1 hz rfl ?_
    exact zH_zret hz rfl (hfinP hE)
  · have hE := hE.trans (if_neg hb)
    refine zH_w (c' := (25, [zR 81, .inl a1, .inl a2], [.inl 1])) 2 hz rfl ?_
    exact zH_zret hz rfl (hfinP hE)
section WH
variable {M M' Mo : zM} {L T : Nat → Nat} {n9 : Nat}
/-- what is so of courses -/
noncomputable def wPr (L T : Nat → Nat) : Prop := (∀ c, c < 14 → L c < 2 ^ c) ∧ (∀ c, c < 14 → T c ≤ 7)
/-- the tables that ways read -/
noncomputable def wTb (L T : Nat → Nat) (M : zM) : Prop := (M 10 0 = 14 ∧ M 10 1 = 4) ∧ (M 83 0 = 14 ∧ M 83 1 = 1) ∧ (M 85 0 = 8 ∧ M 85 1 = 1) ∧ (∀ c, c < 14 → 1 ≤ T c → M 11 (4 * c + 1) = (L c : Int) ∧ M 11 (4 * c + 2) = (T c : Int))
noncomputable def wOk (L T : Nat → Nat) (n9 : Nat) (M : zM) : Prop := wTb L T M ∧ M 81 5 = (n9 : Int)
noncomputable def wEq (M M' : zM) : Prop := ∀ r, r ≠ 82 → r ≠ 84 → r ≠ 86 → M r = M' r
theorem wOk.mv (h : wOk L T n9 M) (e : ∀ r, r ≠ 82 → r ≠ 84 → r ≠ 86 → M' r = M r) : wOk L T n9 M' := by
  unfold wOk wTb
  rw [e 10 (by decide) (by decide) (by decide), e 11 (by decide) (by decide) (by decide), e 83 (by decide) (by decide) (by decide), e 85 (by decide) (by decide) (by decide), e 81 (by decide) (by decide) (by decide)]
  exact h
theorem wbt (m i : Nat) : m.testBit i = true ↔ m / 2 ^ i % 2 = 1 := by rw [Nat.testBit_eq_decide_div_mod_eq, decide_eq_true_eq]
theorem wG10 (h : wTb L T M) {a : Int} {b : Int} (ha : 0 ≤ a ∧ a < 14) (hb : 0 ≤ b ∧ b < 4) : hR_get M 10 a b = M 11 (4 * a.toNat + b.toNat) := by
  have ht := h.1
  unfold hR_get
  rw [if_neg (by omega), if_neg (by omega), if_neg (by omega), if_pos (by omega), ht.2]
  rw [show w32 (w32 (a * 4) + b) = a * 4 + b from by rw [w32_id (x := a * 4) (by omega), w32_id (by omega)], show (a * 4 + b).toNat = 4 * a.toNat + b.toNat by omega]
theorem wG1 (h : wTb L T M) {a : Int} (ha : 0 ≤ a ∧ a < 14) (ht : 1 ≤ T a.toNat) : hR_get M 10 a 1 = (L a.toNat : Int) := by
  rw [wG10 h ha (by decide)]; exact (h.2.2.2 a.toNat (by omega) ht).1
theorem wG2 (h : wTb L T M) {a : Int} (ha : 0 ≤ a ∧ a < 14) (ht : 1 ≤ T a.toNat) : hR_get M 10 a 2 = (T a.toNat : Int) := by
  rw [wG10 h ha (by decide)]; exact (h.2.2.2 a.toNat (by omega) ht).2
theorem wGr {r : Nat} {l a : Int} (h : M r 0 = l ∧ M r 1 = 1) (hl : l ≤ 100) (ha : 0 ≤ a ∧ a < l) : hR_get M r a 0 = M (r + 1) a.toNat := by
  unfold hR_get
  rw [if_neg (by omega), if_neg (by omega), if_neg (by omega), if_pos (by omega), h.2]
  rw [show w32 (w32 (a * 1) + 0) = a from by rw [w32_id (x := a * 1) (by omega), w32_id (by omega)]; omega]
theorem wSr {r : Nat} {l a x : Int} (h : M r 0 = l ∧ M r 1 = 1) (hl : l ≤ 100) (ha : 0 ≤ a ∧ a < l) : hR_set M r a 0 x = zput M (r + 1) a.toNat x := by
  unfold hR_set
  rw [if_neg (by omega), if_neg (by omega), if_neg (by omega), if_pos (by omega), h.2]
  rw [show w32 (w32 (a * 1) + 0) = a from by rw [w32_id (x := a * 1) (by omega), w32_id (by omega)]; omega]
theorem wq_118 (h : wOk L T n9 M) (hp : wPr L T) {a b : Int} (ha : 0 ≤ a ∧ a < 14) (hb : 0 ≤ b ∧ b < 3) (ht : 1 ≤ T a.toNat) : hf_118_81 M a b = 0 ↔ ¬ (T a.toNat).testBit b.toNat = true := by
  have t := hp.2 a.toNat (by omega)
  have q := qbit (T a.toNat : Int) b (by omega) (by omega)
  rw [Int.toNat_natCast] at q
  unfold hf_118_81
  rw [wG2 h.1 ha ht, q, wbt]
  have r : T a.toNat / 2 ^ b.toNat % 2 < 2 := Nat.mod_lt _ (by decide)
  (repeat' split) <;> constructor <;> intro z <;> first | omega | (exfalso; omega) | rfl
theorem wz_or {x : Nat} {c : Int} (hx : x < 2 ^ 14) (hc : 0 ≤ c ∧ c < 14) : zbor (x : Int) (zbshl 1 c) = ((x ||| 2 ^ c.toNat : Nat) : Int) := by
  have hp : 1 ≤ 2 ^ c.toNat ∧ 2 ^ c.toNat ≤ 8192 := ⟨Nat.one_le_two_pow, Nat.pow_le_pow_right (n := 2) (by decide) (show c.toNat ≤ 13 by omega)⟩
  have s := qbshl_N 1 c (by decide) (by omega) (by show 1 * 2 ^ c.toNat < 2 ^ 31; omega)
  rw [show (1 : Int).toNat = 1 from rfl, Nat.one_mul] at s
  rw [s, qbor_N _ _ (by omega) (by omega), Int.toNat_natCast, Int.toNat_natCast]
theorem wF_lt2 (left t : Nat) : ∀ c, c ≤ 14 → wF L T left t c < 2 ^ 14 := fun c hc => by
  refine Nat.lt_pow_two_of_testBit _ (fun i hi => Bool.eq_false_iff.mpr (fun q => ?_))
  have := ((wF_b left t i c).mp q).1
  omega
theorem wnb (x : Nat) {c : Int} (a : Int) (ea : a = (x : Int)) (hx : x < 2 ^ 14) (hc : 0 ≤ c ∧ c < 14) : zband (zbshr a c) 1 = ((x / 2 ^ c.toNat % 2 : Nat) : Int) := by
  have q := qbit a c (by omega) (by omega)
  rw [ea, Int.toNat_natCast] at q
  rw [ea]; exact q
theorem wqC (m : Nat) : ∀ k, qpc k m = wC m k
  | 0 => rfl
  | k + 1 => by
    rw [qpc_next, wC_s, wqC m k]
    have q := wbt m k
    by_cases e : m.testBit k = true
    · rw [if_pos e, q.mp e]
    · rw [if_neg e]
      have : ¬ m / 2 ^ k % 2 = 1 := fun z => e (q.mpr z)
      omega
theorem wqC14 {m : Nat} (h : m < 2 ^ 14) (k : Nat) : qpc (14 + k) m = wC m 14 := by rw [qpc_st h k, wqC]
theorem wbc {m : Nat} (h : m < 2 ^ 14) : hf_296 M (m : Int) = (wC m 14 : Int) := by
  rw [hbc20 (by omega), Int.toNat_natCast, show 20 = 14 + 6 from rfl, wqC14 h 6]
theorem wmod (x : Int) (hx : 0 ≤ x ∧ x ≤ 1000) : x.tmod 3 = ((x.toNat % 3 : Nat) : Int) := by
  rw [Int.tmod_eq_emod_of_nonneg hx.1]; omega
end WH
set_option maxRecDepth 100000 in
theorem fh_117_81 {n : Nat} {M : zM} {L T : Nat → Nat} {n9 : Nat} (hw : wOk L T n9 M) (hp : wPr L T) (a1 a2 : Int) (h1 : 0 ≤ a1 ∧ a1 ≤ 16383) (h2 : 0 ≤ a2 ∧ a2 < 3) (hW1 : ∀ i, a1.toNat.testBit i = true → 1 ≤ T i) : zH n (0, 0) 117 (0, zini [zR 81, .inl a1, .inl a2] 6, []) M (fun r M' => r = some (.inl ((wF L T a1.toNat a2.toNat 14 : Nat) : Int)) ∧ M' = M) := by
  have hz := zp_117
  show zH n (0, 0) 117 (0, [zR 81, .inl a1, .inl a2, zN, zN, zN], []) M _
  refine zH_w (c' := (5, [zR 81, .inl a1, .inl a2, .inl 0, .inl 0, zN], [])) 4 hz rfl ?_
  have lp5 : ∀ (N : Nat) (s : Int) (c : Int) (u5 : zV), ((14 - c).toNat) < N → (0 ≤ c ∧ c ≤ 14) → (s = ((wF L T a1.toNat a2.toNat c.toNat : Nat) : Int)) → zH n (0, 0) 117 (5, [zR 81, .inl a1, .inl a2, .inl s, .inl c, u5], []) M (fun r M' => r = some (.inl ((wF L T a1.toNat a2.toNat 14 : Nat) : Int)) ∧ M' = M) := by
    intro N
    induction N with
    | zero => intro s c u5 hN; exact absurd hN (Nat.not_lt_zero _)
    | succ N ih5 =>
      intro s c u5 hN hi hs
      refine zH_w (c' := (9, [zR 81, .inl a1, .inl a2, .inl s, .inl c, u5], [.inl 14, .inl c])) 2 hz rfl ?_
      refine zH_wi_ge (pc := 9) (n' := 12) (t := 75) (L := [zR 81, .inl a1, .inl a2, .inl s, .inl c, u5]) (st := []) (x := c) (y := 14) 0 hz (by rfl) (fun hb9 => ?_) (fun hb9 => ?_)
      · skip
        exact zH_wr (r := some (.inl s)) 1 hz (by rfl) (⟨by rw [hs, show c.toNat = 14 by omega], rfl⟩)
      · skip
        refine zH_w (c' := (18, [zR 81, .inl a1, .inl a2, .inl s, .inl c, u5], [.inl (zband (zbshr a1 c) 1)])) 5 hz rfl ?_
        rw [wnb a1.toNat a1 (by omega) (by omega) (by omega)]
        refine zH_w (c' := (19, [zR 81, .inl a1, .inl a2, .inl s, .inl c, u5], [.inl 1, .inl ((a1.toNat / 2 ^ c.toNat % 2 : Nat) : Int)])) 1 hz rfl ?_
        refine zH_wi_ne (pc := 19) (n' := 22) (t := 44) (L := [zR 81, .inl a1, .inl a2, .inl s, .inl c, u5]) (st := []) (x := ((a1.toNat / 2 ^ c.toNat % 2 : Nat) : Int)) (y := 1) 0 hz (by rfl) (fun hb19 => ?_) (fun hb19 => ?_)
        · skip
          have hnc : ¬ (a1.toNat.testBit c.toNat = true ∧ L c.toNat &&& a1.toNat = 0 ∧ (T c.toNat).testBit a2.toNat = true) := fun q => by have := (wbt _ _).mp q.1; omega
          refine zH_w (c' := (5, [zR 81, .inl a1, .inl a2, .inl s, .inl (c + 1), .inl 0], [])) 6 hz (by rw [show (.inl (c + 1) : zV) = .inl (w32 (c + 1)) from by rw [w32_id (by omega)]]; rfl) ?_
          refine ih5 s (c + 1) (.inl 0) (by omega) ?_ ?_
          · omega
          · rw [show (c + 1).toNat = c.toNat + 1 by omega]
            first
              | done
              | rfl
              | (rw [wF_s, if_neg hnc]; exact hs)
        · skip
          have hb1 : a1.toNat.testBit c.toNat = true := (wbt _ _).mpr (by omega)
          have hLc := hp.1 c.toNat (by omega)
          have hL2 := Nat.pow_le_pow_right (n := 2) (by decide) (show c.toNat ≤ 14 by omega)
          refine zH_wE (c1 := (35, [zR 81, .inl a1, .inl a2, .inl s, .inl c, u5], [])) 5 hz zp_106 (fh_106_10 c 1) (by rfl) ?_
          show zH n (0, 0) 117 (35, [zR 81, .inl a1, .inl a2, .inl s, .inl c, u5], [.inl (hR_get M 10 c 1)]) M _
          rw [wG1 hw.1 (by omega) (hW1 _ hb1)]
          refine zH_w (c' := (37, [zR 81, .inl a1, .inl a2, .inl s, .inl c, u5], [.inl (zband ((L c.toNat : Nat) : Int) a1)])) 2 hz rfl ?_
          rw [show zband ((L c.toNat : Nat) : Int) a1 = ((L c.toNat &&& a1.toNat : Nat) : Int) from by rw [qband_N _ _ (by omega) (by omega), Int.toNat_natCast]]
          refine zH_if_ne hz rfl (fun hb37 => ?_) (fun hb37 => ?_)
          · skip
            have hnc : ¬ (a1.toNat.testBit c.toNat = true ∧ L c.toNat &&& a1.toNat = 0 ∧ (T c.toNat).testBit a2.toNat = true) := fun q => by have := q.2.1; omega
            refine zH_w (c' := (5, [zR 81, .inl a1, .inl a2, .inl s, .inl (c + 1), .inl 0], [])) 6 hz (by rw [show (.inl (c + 1) : zV) = .inl (w32 (c + 1)) from by rw [w32_id (by omega)]]; rfl) ?_
            refine ih5 s (c + 1) (.inl 0) (by omega) ?_ ?_
            · omega
            · rw [show (c + 1).toNat = c.toNat + 1 by omega]
              first
                | done
                | rfl
                | (rw [wF_s, if_neg hnc]; exact hs)
          · skip
            have hb2 : L c.toNat &&& a1.toNat = 0 := by omega
            refine zH_w (c' := (56, [zR 81, .inl a1, .inl a2, .inl s, .inl c, .inl 1], [.inl a2, .inl c, zR 81])) 8 hz rfl ?_
            refine zH_wE (c1 := (59, [zR 81, .inl a1, .inl a2, .inl s, .inl c, .inl 1], [])) 0 hz zp_118 (fh_118_81 c a2) (by rfl) ?_
            show zH n (0, 0) 117 (59, [zR 81, .inl a1, .inl a2, .inl s, .inl c, .inl 1], [.inl (hf_118_81 M c a2)]) M _
            refine zH_wf_eq (pc := 59) (n' := 62) (t := 69) (L := [zR 81, .inl a1, .inl a2, .inl s, .inl c, .inl 1]) (st := []) (x := (hf_118_81 M c a2)) 0 hz (by rfl) (fun hb59 => ?_) (fun hb59 => ?_)
            · skip
              have hnc : ¬ (a1.toNat.testBit c.toNat = true ∧ L c.toNat &&& a1.toNat = 0 ∧ (T c.toNat).testBit a2.toNat = true) := fun q => (wq_118 hw hp (by omega) (by omega) (hW1 _ hb1)).mp hb59 q.2.2
              refine zH_w (c' := (5, [zR 81, .inl a1, .inl a2, .inl s, .inl (c + 1), .inl 1], [])) 2 hz (by rw [show (.inl (c + 1) : zV) = .inl (w32 (c + 1)) from by rw [w32_id (by omega)]]; rfl) ?_
              refine ih5 s (c + 1) (.inl 1) (by omega) ?_ ?_
              · omega
              · rw [show (c + 1).toNat = c.toNat + 1 by omega]
                first
                  | done
                  | rfl
                  | (rw [wF_s, if_neg hnc]; exact hs)
            · skip
              have hcd : a1.toNat.testBit c.toNat = true ∧ L c.toNat &&& a1.toNat = 0 ∧ (T c.toNat).testBit a2.toNat = true := ⟨hb1, hb2, Decidable.byContradiction (fun q => hb59 ((wq_118 hw hp (by omega) (by omega) (hW1 _ hb1)).mpr q))⟩
              have hnc := True.intro
              refine zH_w (c' := (68, [zR 81, .inl a1, .inl a2, .inl s, .inl c, .inl 1], [.inl (zbor s (zbshl 1 c))])) 5 hz rfl ?_
              rw [show zbor s (zbshl 1 c) = ((wF L T a1.toNat a2.toNat (c.toNat + 1) : Nat) : Int) from by rw [hs, wz_or (wF_lt2 _ _ _ (by omega)) (by omega), wF_s, if_pos hcd]]
              refine zH_w (c' := (5, [zR 81, .inl a1, .inl a2, .inl ((wF L T a1.toNat a2.toNat (c.toNat + 1) : Nat) : Int), .inl (c + 1), .inl 1], [])) 3 hz (by rw [show (.inl (c + 1) : zV) = .inl (w32 (c + 1)) from by rw [w32_id (by omega)]]; rfl) ?_
              refine ih5 ((wF L T a1.toNat a2.toNat (c.toNat + 1) : Nat) : Int) (c + 1) (.inl 1) (by omega) ?_ ?_
              · omega
              · rw [show (c + 1).toNat = c.toNat + 1 by omega]
                first
                  | done
                  | rfl
                  | (rw [wF_s, if_neg hnc]; exact hs)
  refine lp5 (15) 0 0 zN (by omega) ?_ ?_
  · omega
  · rfl
/-- what earliest comes to -/
noncomputable def wEa (L T : Nat → Nat) (M : zM) (c left t : Nat) (v : Int) : Prop := 1 ≤ v ∧ v ≤ 45 ∧ ∀ i : Nat, (∀ q, (L c &&& left).testBit q = true → M 84 q ≤ (i : Int)) → (T c).testBit ((t + i) % 3) = true → v ≤ (i : Int) + 1
set_option maxRecDepth 100000 in
theorem fh_121_81 {n : Nat} {M : zM} {L T : Nat → Nat} {n9 : Nat} (hw : wOk L T n9 M) (hp : wPr L T) (a1 a2 a3 : Int) (h1 : 0 ≤ a1 ∧ a1 < 14) (h2 : 0 ≤ a2 ∧ a2 ≤ 16383) (h3 : 0 ≤ a3 ∧ a3 < 3) (hE : ∀ o : Nat, (o : Int) < a1 → a2.toNat.testBit o = true → 0 ≤ M 84 o ∧ M 84 o ≤ 42) (h1T : 1 ≤ T a1.toNat) : zH n (0, 0) 121 (0, zini [zR 81, .inl a1, .inl a2, .inl a3] 7, []) M (fun r M' => ∃ v : Int, r = some (.inl v) ∧ wEa L T M a1.toNat a2.toNat a3.toNat v ∧ M' = M) := by
  have hz := zp_121
  show zH n (0, 0) 121 (0, [zR 81, .inl a1, .inl a2, .inl a3, zN, zN, zN], []) M _
  have hLc := hp.1 a1.toNat (by omega)
  have hL2 := Nat.pow_le_pow_right (n := 2) (by decide) (show a1.toNat ≤ 13 by omega)
  have hll : L a1.toNat &&& a2.toNat ≤ L a1.toNat := Nat.and_le_left
  refine zH_wE (c1 := (12, [zR 81, .inl a1, .inl a2, .inl a3, zN, zN, zN], [])) 5 hz zp_106 (fh_106_10 a1 1) (by rfl) ?_
  show zH n (0, 0) 121 (12, [zR 81, .inl a1, .inl a2, .inl a3, zN, zN, zN], [.inl (hR_get M 10 a1 1)]) M _
  rw [wG1 hw.1 (by omega) h1T]
  refine zH_w (c' := (14, [zR 81, .inl a1, .inl a2, .inl a3, zN, zN, zN], [.inl (zband ((L a1.toNat : Nat) : Int) a2)])) 2 hz rfl ?_
  rw [show zband ((L a1.toNat : Nat) : Int) a2 = ((L a1.toNat &&& a2.toNat : Nat) : Int) from by rw [qband_N _ _ (by omega) (by omega), Int.toNat_natCast]]
  refine zH_w (c' := (22, [zR 81, .inl a1, .inl a2, .inl a3, .inl ((L a1.toNat &&& a2.toNat : Nat) : Int), .inl 1, .inl 0], [])) 5 hz rfl ?_
  have lp22 : ∀ (N : Nat) (t : Int) (o : Int), ((14 - o).toNat) < N → (0 ≤ o ∧ o ≤ a1) → (1 ≤ t ∧ t ≤ 43) → (∀ i : Nat, (∀ q, (L a1.toNat &&& a2.toNat).testBit q = true → M 84 q ≤ (i : Int)) → t ≤ (i : Int) + 1) → zH n (0, 0) 121 (22, [zR 81, .inl a1, .inl a2, .inl a3, .inl ((L a1.toNat &&& a2.toNat : Nat) : Int), .inl t, .inl o], []) M (fun r M' => ∃ v : Int, r = some (.inl v) ∧ wEa L T M a1.toNat a2.toNat a3.toNat v ∧ M' = M) := by
    intro N
    induction N with
    | zero => intro t o hN; exact absurd hN (Nat.not_lt_zero _)
    | succ N ih22 =>
      intro t o hN hi ht hx
      refine zH_w (c' := (25, [zR 81, .inl a1, .inl a2, .inl a3, .inl ((L a1.toNat &&& a2.toNat : Nat) : Int), .inl t, .inl o], [.inl a1, .inl o])) 2 hz rfl ?_
      refine zH_wi_ge (pc := 25) (n' := 28) (t := 64) (L := [zR 81, .inl a1, .inl a2, .inl a3, .inl ((L a1.toNat &&& a2.toNat : Nat) : Int), .inl t, .inl o]) (st := []) (x := o) (y := a1) 0 hz (by rfl) (fun hb25 => ?_) (fun hb25 => ?_)
      · skip
        refine zH_w (c' := (67, [zR 81, .inl a1, .inl a2, .inl a3, .inl ((L a1.toNat &&& a2.toNat : Nat) : Int), .inl t, .inl 1], [])) 2 hz rfl ?_
        have lp67 : ∀ (N : Nat) (u : Int) (k : Int), ((3 - k).toNat) < N → (1 ≤ k ∧ k ≤ 3) → (u = t + (k - 1)) → (∀ i : Nat, t ≤ (i : Int) + 1 → (i : Int) + 1 < u → ¬ (T a1.toNat).testBit ((a3.toNat + i) % 3) = true) → zH n (0, 0) 121 (67, [zR 81, .inl a1, .inl a2, .inl a3, .inl ((L a1.toNat &&& a2.toNat : Nat) : Int), .inl u, .inl k], []) M (fun r M' => ∃ v : Int, r = some (.inl v) ∧ wEa L T M a1.toNat a2.toNat a3.toNat v ∧ M' = M) := by
          intro N
          induction N with
          | zero => intro u k hN; exact absurd hN (Nat.not_lt_zero _)
          | succ N ih67 =>
            intro u k hN hk hu hnt
            refine zH_w (c' := (70, [zR 81, .inl a1, .inl a2, .inl a3, .inl ((L a1.toNat &&& a2.toNat : Nat) : Int), .inl u, .inl k], [.inl 3, .inl k])) 2 hz rfl ?_
            refine zH_wi_ge (pc := 70) (n' := 73) (t := 98) (L := [zR 81, .inl a1, .inl a2, .inl a3, .inl ((L a1.toNat &&& a2.toNat : Nat) : Int), .inl u, .inl k]) (st := []) (x := k) (y := 3) 0 hz (by rfl) (fun hb70 => ?_) (fun hb70 => ?_)
            · skip
              refine zH_w (c' := (100, [zR 81, .inl a1, .inl a2, .inl a3, .inl ((L a1.toNat &&& a2.toNat : Nat) : Int), .inl u, .inl k], [.inl u])) 1 hz rfl ?_
              refine zH_ret hz rfl rfl ?_
              exact ⟨u, rfl, ⟨by omega, by omega, fun i q1 q2 => by
                have w1 := hx i q1
                rcases Int.lt_or_le ((i : Int) + 1) u with z | z
                · exact absurd q2 (hnt i w1 z)
                · exact z⟩, rfl⟩
            · skip
              refine zH_w (c' := (81, [zR 81, .inl a1, .inl a2, .inl a3, .inl ((L a1.toNat &&& a2.toNat : Nat) : Int), .inl u, .inl k], [.inl (w32 ((w32 (a3 + u)) - 1)), .inl a1, zR 81])) 7 hz rfl ?_
              rw [show w32 ((w32 (a3 + u)) - 1) = a3 + u - 1 from by rw [w32_id (x := a3 + u) (by omega), w32_id (by omega)]]
              refine zH_w (c' := (82, [zR 81, .inl a1, .inl a2, .inl a3, .inl ((L a1.toNat &&& a2.toNat : Nat) : Int), .inl u, .inl k], [.inl 3, .inl (a3 + u - 1), .inl a1, zR 81])) 1 hz rfl ?_
              refine zH_irem hz rfl (fun hdv82 => ?_)
              show zH n (0, 0) 121 (83, [zR 81, .inl a1, .inl a2, .inl a3, .inl ((L a1.toNat &&& a2.toNat : Nat) : Int), .inl u, .inl k], [.inl ((a3 + u - 1).tmod 3), .inl a1, zR 81]) M _
              rw [show (a3 + u - 1).tmod 3 = (((a3.toNat + (u - 1).toNat) % 3 : Nat) : Int) from by rw [wmod _ (by omega), show (a3 + u - 1).toNat = a3.toNat + (u - 1).toNat by omega]]
              refine zH_wE (c1 := (86, [zR 81, .inl a1, .inl a2, .inl a3, .inl ((L a1.toNat &&& a2.toNat : Nat) : Int), .inl u, .inl k], [])) 0 hz zp_118 (fh_118_81 a1 (((a3.toNat + (u - 1).toNat) % 3 : Nat) : Int)) (by rfl) ?_
              show zH n (0, 0) 121 (86, [zR 81, .inl a1, .inl a2, .inl a3, .inl ((L a1.toNat &&& a2.toNat : Nat) : Int), .inl u, .inl k], [.inl (hf_118_81 M a1 (((a3.toNat + (u - 1).toNat) % 3 : Nat) : Int))]) M _
              refine zH_wf_ne (pc := 86) (n' := 89) (t := 98) (L := [zR 81, .inl a1, .inl a2, .inl a3, .inl ((L a1.toNat &&& a2.toNat : Nat) : Int), .inl u, .inl k]) (st := []) (x := (hf_118_81 M a1 (((a3.toNat + (u - 1).toNat) % 3 : Nat) : Int))) 0 hz (by rfl) (fun hb86 => ?_) (fun hb86 => ?_)
              · skip
                refine zH_w (c' := (100, [zR 81, .inl a1, .inl a2, .inl a3, .inl ((L a1.toNat &&& a2.toNat : Nat) : Int), .inl u, .inl k], [.inl u])) 1 hz rfl ?_
                refine zH_ret hz rfl rfl ?_
                exact ⟨u, rfl, ⟨by omega, by omega, fun i q1 q2 => by
                  have w1 := hx i q1
                  rcases Int.lt_or_le ((i : Int) + 1) u with z | z
                  · exact absurd q2 (hnt i w1 z)
                  · exact z⟩, rfl⟩
              · skip
                have hno : ¬ (T a1.toNat).testBit ((a3.toNat + (u - 1).toNat) % 3) = true := by
                  have q := (wq_118 hw hp (a := a1) (b := (((a3.toNat + (u - 1).toNat) % 3 : Nat) : Int)) (by omega) (by omega) h1T).mp (by omega)
                  rw [Int.toNat_natCast] at q
                  exact q
                refine zH_w (c' := (67, [zR 81, .inl a1, .inl a2, .inl a3, .inl ((L a1.toNat &&& a2.toNat : Nat) : Int), .inl (u + 1), .inl (k + 1)], [])) 3 hz (by rw [show (.inl (u + 1) : zV) = .inl (w32 (u + 1)) from by rw [w32_id (by omega)], show (.inl (k + 1) : zV) = .inl (w32 (k + 1)) from by rw [w32_id (by omega)]]; rfl) ?_
                refine ih67 (u + 1) (k + 1) (by omega) ?_ ?_ ?_
                · omega
                · omega
                · intro i q1 q2
                  by_cases z : (i : Int) + 1 < u
                  · exact hnt i q1 z
                  · rw [show i = (u - 1).toNat by omega]; exact hno
        refine lp67 (4) t 1 (by omega) ?_ ?_ ?_
        · omega
        · omega
        · exact fun i q1 q2 => absurd q2 (by omega)
      · skip
        refine zH_w (c' := (35, [zR 81, .inl a1, .inl a2, .inl a3, .inl ((L a1.toNat &&& a2.toNat : Nat) : Int), .inl t, .inl o], [.inl (zband (zbshr ((L a1.toNat &&& a2.toNat : Nat) : Int) o) 1)])) 5 hz rfl ?_
        rw [wnb (L a1.toNat &&& a2.toNat) ((L a1.toNat &&& a2.toNat : Nat) : Int) rfl (by omega) (by omega)]
        refine zH_w (c' := (36, [zR 81, .inl a1, .inl a2, .inl a3, .inl ((L a1.toNat &&& a2.toNat : Nat) : Int), .inl t, .inl o], [.inl 1, .inl (((L a1.toNat &&& a2.toNat) / 2 ^ o.toNat % 2 : Nat) : Int)])) 1 hz rfl ?_
        refine zH_wi_ne (pc := 36) (n' := 39) (t := 58) (L := [zR 81, .inl a1, .inl a2, .inl a3, .inl ((L a1.toNat &&& a2.toNat : Nat) : Int), .inl t, .inl o]) (st := []) (x := (((L a1.toNat &&& a2.toNat) / 2 ^ o.toNat % 2 : Nat) : Int)) (y := 1) 0 hz (by rfl) (fun hb36 => ?_) (fun hb36 => ?_)
        · skip
          have hx2 := True.intro
          refine zH_w (c' := (22, [zR 81, .inl a1, .inl a2, .inl a3, .inl ((L a1.toNat &&& a2.toNat : Nat) : Int), .inl t, .inl (o + 1)], [])) 2 hz (by rw [show (.inl (o + 1) : zV) = .inl (w32 (o + 1)) from by rw [w32_id (by omega)]]; rfl) ?_
          refine ih22 t (o + 1) (by omega) ?_ ?_ ?_
          · omega
          · omega
          · first
              | exact hx
              | exact hx2
        · skip
          have hbo : (L a1.toNat &&& a2.toNat).testBit o.toNat = true := (wbt _ _).mpr (by omega)
          have hEo := hE o.toNat (by omega) ((wb_and _ _ _).mp hbo).2
          refine zH_wE (c1 := (51, [zR 81, .inl a1, .inl a2, .inl a3, .inl ((L a1.toNat &&& a2.toNat : Nat) : Int), .inl t, .inl o], [.inl t])) 5 hz zp_106 (fh_106_83 o 0) (by rfl) ?_
          show zH n (0, 0) 121 (51, [zR 81, .inl a1, .inl a2, .inl a3, .inl ((L a1.toNat &&& a2.toNat : Nat) : Int), .inl t, .inl o], [.inl (hR_get M 83 o 0), .inl t]) M _
          rw [show hR_get M 83 o 0 = M 84 o.toNat from wGr hw.1.2.1 (by decide) (by omega)]
          refine zH_w (c' := (53, [zR 81, .inl a1, .inl a2, .inl a3, .inl ((L a1.toNat &&& a2.toNat : Nat) : Int), .inl t, .inl o], [.inl (w32 ((M 84 o.toNat) + 1)), .inl t])) 2 hz rfl ?_
          rw [show w32 ((M 84 o.toNat) + 1) = M 84 o.toNat + 1 from w32_id (by omega)]
          refine zH_w (c' := (56, [zR 81, .inl a1, .inl a2, .inl a3, .inl ((L a1.toNat &&& a2.toNat : Nat) : Int), .inl t, .inl o], [.inl (if t < (M 84 o.toNat + 1) then (M 84 o.toNat + 1) else t)])) 1 hz rfl ?_
          obtain ⟨m, hm⟩ : ∃ x : Int, x = (if t < (M 84 o.toNat + 1) then (M 84 o.toNat + 1) else t) := ⟨_, rfl⟩
          rw [← hm]
          have hx2 : ∀ i : Nat, (∀ q, (L a1.toNat &&& a2.toNat).testBit q = true → M 84 q ≤ (i : Int)) → m ≤ (i : Int) + 1 := fun i q => by
            have w1 := hx i q
            have w2 := q o.toNat hbo
            rw [hm]; split <;> omega
          have hm2 : 1 ≤ m ∧ m ≤ 43 := by rw [hm]; split <;> omega
          refine zH_w (c' := (22, [zR 81, .inl a1, .inl a2, .inl a3, .inl ((L a1.toNat &&& a2.toNat : Nat) : Int), .inl m, .inl (o + 1)], [])) 3 hz (by rw [show (.inl (o + 1) : zV) = .inl (w32 (o + 1)) from by rw [w32_id (by omega)]]; rfl) ?_
          refine ih22 m (o + 1) (by omega) ?_ ?_ ?_
          · omega
          · omega
          · first
              | exact hx
              | exact hx2
  refine lp22 (15) 1 0 (by omega) ?_ ?_ ?_
  · omega
  · omega
  · exact fun i _ => by omega
section WI
variable {L T : Nat → Nat} {n9 : Nat}
theorem wz7 : ∀ x y : Fin 8, zband (x.val : Int) (zbxor (y.val : Int) (-1)) = 0 ↔ x.val &&& y.val = x.val := by decide +kernel
theorem wN_le (left mask : Nat) : ∀ c, wN T left mask c ≤ c
  | 0 => Nat.le_refl _
  | c + 1 => by have q := wN_le left mask c; rw [wN_s]; split <;> omega
end WI
set_option maxRecDepth 100000 in
theorem fh_120_81 {n : Nat} {M : zM} {L T : Nat → Nat} {n9 : Nat} (hw : wOk L T n9 M) (hn : 1 ≤ n9 ∧ n9 ≤ 4) (a1 a2 : Int) (h1 : 1 ≤ a1 ∧ a1 ≤ 7) (h2 : 0 ≤ a2 ∧ a2 < 3) {left : Nat} (hW : ∀ x : Nat, 1 ≤ x → x ≤ 7 → M 86 x = ((wW T left x 14 : Nat) : Int)) : zH n (0, 0) 120 (0, zini [zR 81, .inl a1, .inl a2] 5, []) M (fun r M' => ∃ v : Int, r = some (.inl v) ∧ (0 ≤ v ∧ v ≤ 60) ∧ (∀ k : Nat, wCan L T n9 k left a2.toNat → v ≤ (k : Int)) ∧ M' = M) := by
  have hz := zp_120
  show zH n (0, 0) 120 (0, [zR 81, .inl a1, .inl a2, zN, zN], []) M _
  have hSb : ∀ m, wS T left a1.toNat 14 m ≤ 14 := fun m => Nat.le_trans (wS_N left a1.toNat m 14) (wN_le left a1.toNat 14)
  have hSa := hSb a1.toNat
  refine zH_w (c' := (5, [zR 81, .inl a1, .inl a2, .inl 0, .inl 1], [])) 4 hz rfl ?_
  have lp5 : ∀ (N : Nat) (s : Int) (x : Int), ((8 - x).toNat) < N → (1 ≤ x ∧ x ≤ a1 + 1) → (x = ((x.toNat - 1 : Nat) : Int) + 1 ∧ s = ((wS T left a1.toNat 14 (x.toNat - 1) : Nat) : Int)) → zH n (0, 0) 120 (5, [zR 81, .inl a1, .inl a2, .inl s, .inl x], []) M (fun r M' => ∃ v : Int, r = some (.inl v) ∧ (0 ≤ v ∧ v ≤ 60) ∧ (∀ k : Nat, wCan L T n9 k left a2.toNat → v ≤ (k : Int)) ∧ M' = M) := by
    intro N
    induction N with
    | zero => intro s x hN; exact absurd hN (Nat.not_lt_zero _)
    | succ N ih5 =>
      intro s x hN hi hs
      refine zH_w (c' := (8, [zR 81, .inl a1, .inl a2, .inl s, .inl x], [.inl a1, .inl x])) 2 hz rfl ?_
      refine zH_wi_gt (pc := 8) (n' := 11) (t := 43) (L := [zR 81, .inl a1, .inl a2, .inl s, .inl x]) (st := []) (x := x) (y := a1) 0 hz (by rfl) (fun hb8 => ?_) (fun hb8 => ?_)
      · skip
        refine zH_w (c' := (46, [zR 81, .inl a1, .inl a2, .inl s, .inl 0], [])) 2 hz rfl ?_
        have lp46 : ∀ (N : Nat) (u : Int) (k : Int), ((60 - k).toNat) < N → (0 ≤ k ∧ k ≤ 60) → (u + ((n9 * wR a1.toNat a2.toNat k.toNat : Nat) : Int) = ((wS T left a1.toNat 14 (a1.toNat) : Nat) : Int)) → (∀ j : Nat, wCan L T n9 j left a2.toNat → k ≤ (j : Int)) → (-4 ≤ u ∧ u ≤ 14) → zH n (0, 0) 120 (46, [zR 81, .inl a1, .inl a2, .inl u, .inl k], []) M (fun r M' => ∃ v : Int, r = some (.inl v) ∧ (0 ≤ v ∧ v ≤ 60) ∧ (∀ k : Nat, wCan L T n9 k left a2.toNat → v ≤ (k : Int)) ∧ M' = M) := by
          intro N
          induction N with
          | zero => intro u k hN; exact absurd hN (Nat.not_lt_zero _)
          | succ N ih46 =>
            intro u k hN hk hu hlb hu2
            refine zH_w (c' := (47, [zR 81, .inl a1, .inl a2, .inl u, .inl k], [.inl u])) 1 hz rfl ?_
            refine zH_wf_le (pc := 47) (n' := 50) (t := 84) (L := [zR 81, .inl a1, .inl a2, .inl u, .inl k]) (st := []) (x := u) 0 hz (by rfl) (fun hb47 => ?_) (fun hb47 => ?_)
            · skip
              exact zH_wr (r := some (.inl k)) 1 hz (by rfl) (⟨k, rfl, hk, hlb, rfl⟩)
            · skip
              refine zH_wi_ge (pc := 54) (n' := 57) (t := 84) (L := [zR 81, .inl a1, .inl a2, .inl u, .inl k]) (st := []) (x := k) (y := 60) 2 hz (by rfl) (fun hb54 => ?_) (fun hb54 => ?_)
              · skip
                exact zH_wr (r := some (.inl k)) 1 hz (by rfl) (⟨k, rfl, hk, hlb, rfl⟩)
              · skip
                refine zH_w (c' := (63, [zR 81, .inl a1, .inl a2, .inl u, .inl k], [.inl 3, .inl (w32 (a2 + k)), .inl a1])) 5 hz rfl ?_
                refine zH_irem hz rfl (fun hdv63 => ?_)
                show zH n (0, 0) 120 (64, [zR 81, .inl a1, .inl a2, .inl u, .inl k], [.inl ((w32 (a2 + k)).tmod 3), .inl a1]) M _
                rw [show (w32 (a2 + k)).tmod 3 = (((a2.toNat + k.toNat) % 3 : Nat) : Int) from by rw [w32_id (by omega), wmod _ (by omega), show (a2 + k).toNat = a2.toNat + k.toNat by omega]]
                refine zH_w (c' := (67, [zR 81, .inl a1, .inl a2, .inl u, .inl k], [.inl (zband (zbshr a1 (((a2.toNat + k.toNat) % 3 : Nat) : Int)) 1)])) 3 hz rfl ?_
                rw [show zband (zbshr a1 (((a2.toNat + k.toNat) % 3 : Nat) : Int)) 1 = ((a1.toNat / 2 ^ ((a2.toNat + k.toNat) % 3) % 2 : Nat) : Int) from by rw [wnb a1.toNat a1 (by omega) (by omega) (by omega), Int.toNat_natCast]]
                refine zH_w (c' := (68, [zR 81, .inl a1, .inl a2, .inl u, .inl k], [.inl 1, .inl ((a1.toNat / 2 ^ ((a2.toNat + k.toNat) % 3) % 2 : Nat) : Int)])) 1 hz rfl ?_
                refine zH_wi_ne (pc := 68) (n' := 71) (t := 78) (L := [zR 81, .inl a1, .inl a2, .inl u, .inl k]) (st := []) (x := ((a1.toNat / 2 ^ ((a2.toNat + k.toNat) % 3) % 2 : Nat) : Int)) (y := 1) 0 hz (by rfl) (fun hb68 => ?_) (fun hb68 => ?_)
                · skip
                  have hbn : ¬ a1.toNat.testBit ((a2.toNat + k.toNat) % 3) = true := fun q => by have := (wbt _ _).mp q; omega
                  have hby := True.intro
                  refine zH_w (c' := (46, [zR 81, .inl a1, .inl a2, .inl u, .inl (k + 1)], [])) 2 hz (by rw [show (.inl (k + 1) : zV) = .inl (w32 (k + 1)) from by rw [w32_id (by omega)]]; rfl) ?_
                  refine ih46 u (k + 1) (by omega) ?_ ?_ ?_ ?_
                  · omega
                  · rw [show (k + 1).toNat = k.toNat + 1 by omega, wR_s]
                    first
                      | (rw [if_neg hbn, Nat.add_zero]; exact hu)
                      | (rw [if_pos hby, Nat.mul_add, Nat.mul_one]; omega)
                  · intro j c
                    have q := hlb j c
                    by_cases z : j = k.toNat
                    · exfalso
                      rw [z] at c
                      have q1 := wCap_k (mask := a1.toNat) (by omega) c
                      have q2 := wS_N (tm := T) left a1.toNat a1.toNat 14
                      omega
                    · omega
                  · omega
                · skip
                  have hby : a1.toNat.testBit ((a2.toNat + k.toNat) % 3) = true := (wbt _ _).mpr (by omega)
                  have hbn := True.intro
                  refine zH_w (c' := (76, [zR 81, .inl a1, .inl a2, .inl u, .inl k], [.inl (M 81 5), .inl u])) 3 hz rfl ?_
                  rw [hw.2]
                  refine zH_w (c' := (77, [zR 81, .inl a1, .inl a2, .inl u, .inl k], [.inl (w32 (u - (n9 : Int)))])) 1 hz rfl ?_
                  rw [show w32 (u - (n9 : Int)) = u - (n9 : Int) from w32_id (by omega)]
                  refine zH_w (c' := (46, [zR 81, .inl a1, .inl a2, .inl (u - (n9 : Int)), .inl (k + 1)], [])) 3 hz (by rw [show (.inl (k + 1) : zV) = .inl (w32 (k + 1)) from by rw [w32_id (by omega)]]; rfl) ?_
                  refine ih46 (u - (n9 : Int)) (k + 1) (by omega) ?_ ?_ ?_ ?_
                  · omega
                  · rw [show (k + 1).toNat = k.toNat + 1 by omega, wR_s]
                    first
                      | (rw [if_neg hbn, Nat.add_zero]; exact hu)
                      | (rw [if_pos hby, Nat.mul_add, Nat.mul_one]; omega)
                  · intro j c
                    have q := hlb j c
                    by_cases z : j = k.toNat
                    · exfalso
                      rw [z] at c
                      have q1 := wCap_k (mask := a1.toNat) (by omega) c
                      have q2 := wS_N (tm := T) left a1.toNat a1.toNat 14
                      omega
                    · omega
                  · omega
        refine lp46 (61) s 0 (by omega) ?_ ?_ ?_ ?_
        · omega
        · rw [hs.2, show x.toNat - 1 = a1.toNat by omega]; exact Int.add_zero _
        · exact fun j _ => by omega
        · have := hSb (x.toNat - 1); omega
      · skip
        have hSx := hSb (x.toNat - 1)
        have hSy := hSb (x.toNat - 1 + 1)
        rw [wS_s] at hSy
        have hz7 := wz7 ⟨x.toNat, by omega⟩ ⟨a1.toNat, by omega⟩
        dsimp only at hz7
        rw [show ((x.toNat : Nat) : Int) = x by omega, show ((a1.toNat : Nat) : Int) = a1 by omega] at hz7
        refine zH_w (c' := (18, [zR 81, .inl a1, .inl a2, .inl s, .inl x], [.inl (zband x (zbxor a1 (-1))), .inl s])) 6 hz rfl ?_
        refine zH_wf_ne (pc := 18) (n' := 21) (t := 34) (L := [zR 81, .inl a1, .inl a2, .inl s, .inl x]) (st := [.inl s]) (x := (zband x (zbxor a1 (-1)))) 0 hz (by rfl) (fun hb18 => ?_) (fun hb18 => ?_)
        · skip
          have hxn : ¬ (x.toNat - 1 + 1) &&& a1.toNat = x.toNat - 1 + 1 := by rw [show x.toNat - 1 + 1 = x.toNat by omega]; exact fun q => hb18 (hz7.mpr q)
          have hxy := True.intro
          refine zH_w (c' := (36, [zR 81, .inl a1, .inl a2, .inl s, .inl x], [.inl (w32 (s + 0))])) 2 hz rfl ?_
          rw [show w32 (s + 0) = s + 0 from w32_id (by omega)]
          refine zH_w (c' := (5, [zR 81, .inl a1, .inl a2, .inl (s + 0), .inl (x + 1)], [])) 3 hz (by rw [show (.inl (x + 1) : zV) = .inl (w32 (x + 1)) from by rw [w32_id (by omega)]]; rfl) ?_
          refine ih5 (s + 0) (x + 1) (by omega) ?_ ?_
          · omega
          · refine ⟨by omega, ?_⟩
            rw [show (x + 1).toNat - 1 = (x.toNat - 1) + 1 by omega, wS_s]
            first
              | (rw [if_neg hxn]; omega)
              | (rw [if_pos hxy, show x.toNat - 1 + 1 = x.toNat by omega]; omega)
        · skip
          have hxy : (x.toNat - 1 + 1) &&& a1.toNat = x.toNat - 1 + 1 := by rw [show x.toNat - 1 + 1 = x.toNat by omega]; exact hz7.mp (Decidable.not_not.mp hb18)
          have hxn := True.intro
          rw [if_pos hxy, show x.toNat - 1 + 1 = x.toNat by omega] at hSy
          refine zH_w (c' := (28, [zR 81, .inl a1, .inl a2, .inl s, .inl x], [.inl 0, .inl x, zR 85, .inl s])) 4 hz rfl ?_
          refine zH_wE (c1 := (31, [zR 81, .inl a1, .inl a2, .inl s, .inl x], [.inl s])) 0 hz zp_106 (fh_106_85 x 0) (by rfl) ?_
          show zH n (0, 0) 120 (31, [zR 81, .inl a1, .inl a2, .inl s, .inl x], [.inl (hR_get M 85 x 0), .inl s]) M _
          rw [show hR_get M 85 x 0 = M 86 x.toNat from wGr hw.1.2.2.1 (by decide) (by omega)]
          rw [hW x.toNat (by omega) (by omega)]
          refine zH_w (c' := (36, [zR 81, .inl a1, .inl a2, .inl s, .inl x], [.inl (w32 (s + ((wW T left x.toNat 14 : Nat) : Int)))])) 2 hz rfl ?_
          rw [show w32 (s + ((wW T left x.toNat 14 : Nat) : Int)) = s + ((wW T left x.toNat 14 : Nat) : Int) from w32_id (by omega)]
          refine zH_w (c' := (5, [zR 81, .inl a1, .inl a2, .inl (s + ((wW T left x.toNat 14 : Nat) : Int)), .inl (x + 1)], [])) 3 hz (by rw [show (.inl (x + 1) : zV) = .inl (w32 (x + 1)) from by rw [w32_id (by omega)]]; rfl) ?_
          refine ih5 (s + ((wW T left x.toNat 14 : Nat) : Int)) (x + 1) (by omega) ?_ ?_
          · omega
          · refine ⟨by omega, ?_⟩
            rw [show (x + 1).toNat - 1 = (x.toNat - 1) + 1 by omega, wS_s]
            first
              | (rw [if_neg hxn]; omega)
              | (rw [if_pos hxy, show x.toNat - 1 + 1 = x.toNat by omega]; omega)
  refine lp5 (9) 0 1 (by omega) ?_ ?_
  · omega
  · exact ⟨rfl, rfl⟩
