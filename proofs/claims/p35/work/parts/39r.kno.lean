/-! WHICH ACTS COUNT, ON BOTH SIDES -/
/-- what counts, but for strikes -/
noncomputable def hBs (M : zM) (k v : Int) (a : Nat) : Bool := decide (qA M (a : Int) 2 ≤ k ∧ (qA M (a : Int) 3 = -1 ∨ (¬ qA M (a : Int) 3 = v ∧ qStN M (qA M (a : Int) 3) = 1)))
/-- what counts when the j last acts have struck -/
noncomputable def hCt (M : zM) (k v : Int) (n : Nat) : Nat → Nat → Bool
  | 0, a => hBs M k v a
  | j + 1, a => if hCt M k v n j (n - 1 - j) = true ∧ qA M ((n - 1 - j : Nat) : Int) 0 = 5 ∧ qA M ((n - 1 - j : Nat) : Int) 6 = (a : Int) then false else hCt M k v n j a
theorem hCt_s (M : zM) (k v : Int) (n j a : Nat) : hCt M k v n (j + 1) a = if hCt M k v n j (n - 1 - j) = true ∧ qA M ((n - 1 - j : Nat) : Int) 0 = 5 ∧ qA M ((n - 1 - j : Nat) : Int) 6 = (a : Int) then false else hCt M k v n j a := rfl
theorem hst_E {n : Nat} {M : zM} (hC : qMI M) (a : Int) (ha : 0 ≤ a ∧ a ≤ 39) : zH n (0, 0) 192 (0, zini [zR 97, .inl a] 4, []) M (fun r M' => r = some (.inl (qStN M a)) ∧ M' = M) :=
  ((qm_192_97 (d := 100) (by decide) hC a ha).toH).mono (fun r M' h => by obtain ⟨h1, x, h2, h3, h4⟩ := h; exact ⟨by rw [h2, h4], h1⟩)
theorem hif_n {P : Prop} [Decidable P] {B : Bool} (h : ¬ P) : (if P then false else B) = B := if_neg h
theorem hif_y {P : Prop} [Decidable P] {B : Bool} (h : P) : (if P then false else B) = false := if_pos h
theorem hst01 {M : zM} {a : Int} : qStN M a = 0 ∨ qStN M a = 1 := by unfold qStN; split; exact .inr rfl; exact .inl rfl
theorem hst_same {M M' : zM} (e : M' 98 = M 98) (a : Int) : qStN M' a = qStN M a := by unfold qStN qSeats qQuor qMt; rw [e]
theorem hact_same {M M' : zM} (e : M' 98 = M 98) {a b : Int} (ha : 0 ≤ a ∧ a < 250) (hb : 0 ≤ b ∧ b < 12) : hf_194_97 M' a b = qA M a b := by
  rw [hv_194 ha hb, e]; unfold qA; rw [show (350 + 12 * a + b).toNat = 350 + 12 * a.toNat + b.toNat by omega]
set_option maxRecDepth 100000 in
theorem fh_101_61 {n : Nat} {M : zM} : zH n (0, 0) 101 (0, zini [zR 61] 1, []) M (fun r M' => r = some (.inl (hR_size M 61)) ∧ M' = M) := by
  have hz := zp_101
  have hE : hR_size M 61 = hR_size M 61 := rfl
  show zH n (0, 0) 101 (0, [zR 61], []) M _
  exact zH_wr (r := some (.inl (M 61 3))) 2 hz (by rfl) (hfinP hE)
set_option maxRecDepth 100000 in
theorem fh_102_61 {n : Nat} {M : zM} (a1 : Int) : zH n (0, 0) 102 (0, zini [zR 61, .inl a1] 2, []) M (fun r M' => r = some (.inl (hR_has M 61 a1)) ∧ M' = M) := by
  have hz := zp_102
  have hE : hR_has M 61 a1 = hR_has M 61 a1 := rfl
  show zH n (0, 0) 102 (0, [zR 61, .inl a1], []) M _
  refine zH_wf_lt (pc := 1) (n' := 4) (t := 16) (L := [zR 61, .inl a1]) (st := []) (x := a1) 1 hz (by rfl) (fun hb => ?_) (fun hb => ?_)
  · have hE := hE.trans (if_pos hb)
    refine zH_w (c' := (17, [zR 61, .inl a1], [.inl 0])) 1 hz rfl ?_
    exact zH_zret hz rfl (hfinP hE)
  · have hE := hE.trans (if_neg hb)
    refine zH_wi_ge (pc := 9) (n' := 12) (t := 16) (L := [zR 61, .inl a1]) (st := []) (x := a1) (y := (M 61 3)) 3 hz (by rfl) (fun hb => ?_) (fun hb => ?_)
    · have hE := hE.trans (if_pos hb)
      refine zH_w (c' := (17, [zR 61, .inl a1], [.inl 0])) 1 hz rfl ?_
      exact zH_zret hz rfl (hfinP hE)
    · have hE := hE.trans (if_neg hb)
      refine zH_w (c' := (17, [zR 61, .inl a1], [.inl 1])) 2 hz rfl ?_
      exact zH_zret hz rfl (hfinP hE)
set_option maxRecDepth 100000 in
theorem fh_103_61 {n : Nat} {M : zM} : zH n (0, 0) 103 (0, zini [zR 61] 1, []) M (fun r M' => r = some (.inl (hR_open M 61).1) ∧ M' = (hR_open M 61).2) := by
  have hz := zp_103
  have hE : hR_open M 61 = hR_open M 61 := rfl
  show zH n (0, 0) 103 (0, [zR 61], []) M _
  refine zH_wi_lt (pc := 8) (n' := 11) (t := 14) (L := [zR 61]) (st := []) (x := (M 61 3)) (y := (M 61 0)) 4 hz (by rfl) (fun hb => ?_) (fun hb => ?_)
  · have hE := hE.trans (if_pos hb)
    refine zH_w (c' := (30, [zR 61], [.inl (w32 (((zput M 61 3 (w32 ((M 61 3) + 1))) 61 3) - 1))])) 10 hz rfl ?_
    exact zH_wr (r := some (.inl (w32 (((zput M 61 3 (w32 ((M 61 3) + 1))) 61 3) - 1)))) 0 hz (by rfl) (hfinB hE)
  · have hE := hE.trans (if_neg hb)
    exact zH_wr (r := some (.inl (-4))) 1 hz (by rfl) (hfinB hE)
set_option maxRecDepth 100000 in
theorem fh_106_61 {n : Nat} {M : zM} (a1 : Int) (a2 : Int) : zH n (0, 0) 106 (0, zini [zR 61, .inl a1, .inl a2] 3, []) M (fun r M' => r = some (.inl (hR_get M 61 a1 a2)) ∧ M' = M) := by
  have hz := zp_106
  have hE : hR_get M 61 a1 a2 = hR_get M 61 a1 a2 := rfl
  show zH n (0, 0) 106 (0, [zR 61, .inl a1, .inl a2], []) M _
  refine zH_wf_lt (pc := 1) (n' := 4) (t := 24) (L := [zR 61, .inl a1, .inl a2]) (st := []) (x := a1) 1 hz (by rfl) (fun hb => ?_) (fun hb => ?_)
  · have hE := hE.trans (if_pos hb)
    exact zH_wr (r := some (.inl (-1))) 1 hz (by rfl) (hfinP hE)
  · have hE := hE.trans (if_neg hb)
    refine zH_wi_ge (pc := 9) (n' := 12) (t := 24) (L := [zR 61, .inl a1, .inl a2]) (st := []) (x := a1) (y := (M 61 0)) 3 hz (by rfl) (fun hb => ?_) (fun hb => ?_)
    · have hE := hE.trans (if_pos hb)
      exact zH_wr (r := some (.inl (-1))) 1 hz (by rfl) (hfinP hE)
    · have hE := hE.trans (if_neg hb)
      refine zH_wf_lt (pc := 13) (n' := 16) (t := 24) (L := [zR 61, .inl a1, .inl a2]) (st := []) (x := a2) 1 hz (by rfl) (fun hb => ?_) (fun hb => ?_)
      · have hE := hE.trans (if_pos hb)
        exact zH_wr (r := some (.inl (-1))) 1 hz (by rfl) (hfinP hE)
      · have hE := hE.trans (if_neg hb)
        refine zH_wi_lt (pc := 21) (n' := 24) (t := 26) (L := [zR 61, .inl a1, .inl a2]) (st := []) (x := a2) (y := (M 61 1)) 3 hz (by rfl) (fun hb => ?_) (fun hb => ?_)
        · have hE := hE.trans (if_pos hb)
          refine zH_w (c' := (38, [zR 61, .inl a1, .inl a2], [.inl (w32 ((w32 (a1 * (M 61 1))) + a2)), zR 62])) 8 hz rfl ?_
          refine zH_iald hz rfl rfl (.inl rfl) (fun _ => ?_)
          show zH n (0, 0) 106 (39, [zR 61, .inl a1, .inl a2], [.inl (M 62 (w32 ((w32 (a1 * (M 61 1))) + a2) : Int).toNat)]) M _
          exact zH_wr (r := some (.inl (M 62 (w32 ((w32 (a1 * (M 61 1))) + a2) : Int).toNat))) 0 hz (by rfl) (hfinP hE)
        · have hE := hE.trans (if_neg hb)
          exact zH_wr (r := some (.inl (-1))) 1 hz (by rfl) (hfinP hE)
set_option maxRecDepth 100000 in
theorem fh_107_61 {n : Nat} {M : zM} (a1 : Int) (a2 : Int) (a3 : Int) : zH n (0, 0) 107 (0, zini [zR 61, .inl a1, .inl a2, .inl a3] 4, []) M (fun r M' => r = none ∧ M' = hR_set M 61 a1 a2 a3) := by
  have hz := zp_107
  have hE : hR_set M 61 a1 a2 a3 = hR_set M 61 a1 a2 a3 := rfl
  show zH n (0, 0) 107 (0, [zR 61, .inl a1, .inl a2, .inl a3], []) M _
  refine zH_wf_lt (pc := 1) (n' := 4) (t := 24) (L := [zR 61, .inl a1, .inl a2, .inl a3]) (st := []) (x := a1) 1 hz (by rfl) (fun hb => ?_) (fun hb => ?_)
  · have hE := hE.trans (if_pos hb)
    exact zH_wr (r := none) 0 hz (by rfl) ⟨rfl, hE.symm⟩
  · have hE := hE.trans (if_neg hb)
    refine zH_wi_ge (pc := 9) (n' := 12) (t := 24) (L := [zR 61, .inl a1, .inl a2, .inl a3]) (st := []) (x := a1) (y := (M 61 0)) 3 hz (by rfl) (fun hb => ?_) (fun hb => ?_)
    · have hE := hE.trans (if_pos hb)
      exact zH_wr (r := none) 0 hz (by rfl) ⟨rfl, hE.symm⟩
    · have hE := hE.trans (if_neg hb)
      refine zH_wf_lt (pc := 13) (n' := 16) (t := 24) (L := [zR 61, .inl a1, .inl a2, .inl a3]) (st := []) (x := a2) 1 hz (by rfl) (fun hb => ?_) (fun hb => ?_)
      · have hE := hE.trans (if_pos hb)
        exact zH_wr (r := none) 0 hz (by rfl) ⟨rfl, hE.symm⟩
      · have hE := hE.trans (if_neg hb)
        refine zH_wi_lt (pc := 21) (n' := 24) (t := 25) (L := [zR 61, .inl a1, .inl a2, .inl a3]) (st := []) (x := a2) (y := (M 61 1)) 3 hz (by rfl) (fun hb => ?_) (fun hb => ?_)
        · have hE := hE.trans (if_pos hb)
          refine zH_w (c' := (38, [zR 61, .inl a1, .inl a2, .inl a3], [.inl a3, .inl (w32 ((w32 (a1 * (M 61 1))) + a2)), zR 62])) 9 hz rfl ?_
          refine zH_iast hz rfl rfl (fun _ => ?_)
          show zH n (0, 0) 107 (39, [zR 61, .inl a1, .inl a2, .inl a3], []) (zput M 62 (w32 ((w32 (a1 * (M 61 1))) + a2) : Int).toNat a3) _
          exact zH_wr (r := none) 0 hz (by rfl) ⟨rfl, hE.symm⟩
        · have hE := hE.trans (if_neg hb)
          exact zH_wr (r := none) 0 hz (by rfl) ⟨rfl, hE.symm⟩
set_option maxRecDepth 100000 in
theorem fh_101_63 {n : Nat} {M : zM} : zH n (0, 0) 101 (0, zini [zR 63] 1, []) M (fun r M' => r = some (.inl (hR_size M 63)) ∧ M' = M) := by
  have hz := zp_101
  have hE : hR_size M 63 = hR_size M 63 := rfl
  show zH n (0, 0) 101 (0, [zR 63], []) M _
  exact zH_wr (r := some (.inl (M 63 3))) 2 hz (by rfl) (hfinP hE)
set_option maxRecDepth 100000 in
theorem fh_102_63 {n : Nat} {M : zM} (a1 : Int) : zH n (0, 0) 102 (0, zini [zR 63, .inl a1] 2, []) M (fun r M' => r = some (.inl (hR_has M 63 a1)) ∧ M' = M) := by
  have hz := zp_102
  have hE : hR_has M 63 a1 = hR_has M 63 a1 := rfl
  show zH n (0, 0) 102 (0, [zR 63, .inl a1], []) M _
  refine zH_wf_lt (pc := 1) (n' := 4) (t := 16) (L := [zR 63, .inl a1]) (st := []) (x := a1) 1 hz (by rfl) (fun hb => ?_) (fun hb => ?_)
  · have hE := hE.trans (if_pos hb)
    refine zH_w (c' := (17, [zR 63, .inl a1], [.inl 0])) 1 hz rfl ?_
    exact zH_zret hz rfl (hfinP hE)
  · have hE := hE.trans (if_neg hb)
    refine zH_wi_ge (pc := 9) (n' := 12) (t := 16) (L := [zR 63, .inl a1]) (st := []) (x := a1) (y := (M 63 3)) 3 hz (by rfl) (fun hb => ?_) (fun hb => ?_)
    · have hE := hE.trans (if_pos hb)
      refine zH_w (c' := (17, [zR 63, .inl a1], [.inl 0])) 1 hz rfl ?_
      exact zH_zret hz rfl (hfinP hE)
    · have hE := hE.trans (if_neg hb)
      refine zH_w (c' := (17, [zR 63, .inl a1], [.inl 1])) 2 hz rfl ?_
      exact zH_zret hz rfl (hfinP hE)
set_option maxRecDepth 100000 in
theorem fh_103_63 {n : Nat} {M : zM} : zH n (0, 0) 103 (0, zini [zR 63] 1, []) M (fun r M' => r = some (.inl (hR_open M 63).1) ∧ M' = (hR_open M 63).2) := by
  have hz := zp_103
  have hE : hR_open M 63 = hR_open M 63 := rfl
  show zH n (0, 0) 103 (0, [zR 63], []) M _
  refine zH_wi_lt (pc := 8) (n' := 11) (t := 14) (L := [zR 63]) (st := []) (x := (M 63 3)) (y := (M 63 0)) 4 hz (by rfl) (fun hb => ?_) (fun hb => ?_)
  · have hE := hE.trans (if_pos hb)
    refine zH_w (c' := (30, [zR 63], [.inl (w32 (((zput M 63 3 (w32 ((M 63 3) + 1))) 63 3) - 1))])) 10 hz rfl ?_
    exact zH_wr (r := some (.inl (w32 (((zput M 63 3 (w32 ((M 63 3) + 1))) 63 3) - 1)))) 0 hz (by rfl) (hfinB hE)
  · have hE := hE.trans (if_neg hb)
    exact zH_wr (r := some (.inl (-4))) 1 hz (by rfl) (hfinB hE)
set_option maxRecDepth 100000 in
theorem fh_106_63 {n : Nat} {M : zM} (a1 : Int) (a2 : Int) : zH n (0, 0) 106 (0, zini [zR 63, .inl a1, .inl a2] 3, []) M (fun r M' => r = some (.inl (hR_get M 63 a1 a2)) ∧ M' = M) := by
  have hz := zp_106
  have hE : hR_get M 63 a1 a2 = hR_get M 63 a1 a2 := rfl
  show zH n (0, 0) 106 (0, [zR 63, .inl a1, .inl a2], []) M _
  refine zH_wf_lt (pc := 1) (n' := 4) (t := 24) (L := [zR 63, .inl a1, .inl a2]) (st := []) (x := a1) 1 hz (by rfl) (fun hb => ?_) (fun hb => ?_)
  · have hE := hE.trans (if_pos hb)
    exact zH_wr (r := some (.inl (-1))) 1 hz (by rfl) (hfinP hE)
  · have hE := hE.trans (if_neg hb)
    refine zH_wi_ge (pc := 9) (n' := 12) (t := 24) (L := [zR 63, .inl a1, .inl a2]) (st := []) (x := a1) (y := (M 63 0)) 3 hz (by rfl) (fun hb => ?_) (fun hb => ?_)
    · have hE := hE.trans (if_pos hb)
      exact zH_wr (r := some (.inl (-1))) 1 hz (by rfl) (hfinP hE)
    · have hE := hE.trans (if_neg hb)
      refine zH_wf_lt (pc := 13) (n' := 16) (t := 24) (L := [zR 63, .inl a1, .inl a2]) (st := []) (x := a2) 1 hz (by rfl) (fun hb => ?_) (fun hb => ?_)
      · have hE := hE.trans (if_pos hb)
        exact zH_wr (r := some (.inl (-1))) 1 hz (by rfl) (hfinP hE)
      · have hE := hE.trans (if_neg hb)
        refine zH_wi_lt (pc := 21) (n' := 24) (t := 26) (L := [zR 63, .inl a1, .inl a2]) (st := []) (x := a2) (y := (M 63 1)) 3 hz (by rfl) (fun hb => ?_) (fun hb => ?_)
        · have hE := hE.trans (if_pos hb)
          refine zH_w (c' := (38, [zR 63, .inl a1, .inl a2], [.inl (w32 ((w32 (a1 * (M 63 1))) + a2)), zR 64])) 8 hz rfl ?_
          refine zH_iald hz rfl rfl (.inl rfl) (fun _ => ?_)
          show zH n (0, 0) 106 (39, [zR 63, .inl a1, .inl a2], [.inl (M 64 (w32 ((w32 (a1 * (M 63 1))) + a2) : Int).toNat)]) M _
          exact zH_wr (r := some (.inl (M 64 (w32 ((w32 (a1 * (M 63 1))) + a2) : Int).toNat))) 0 hz (by rfl) (hfinP hE)
        · have hE := hE.trans (if_neg hb)
          exact zH_wr (r := some (.inl (-1))) 1 hz (by rfl) (hfinP hE)
set_option maxRecDepth 100000 in
theorem fh_107_63 {n : Nat} {M : zM} (a1 : Int) (a2 : Int) (a3 : Int) : zH n (0, 0) 107 (0, zini [zR 63, .inl a1, .inl a2, .inl a3] 4, []) M (fun r M' => r = none ∧ M' = hR_set M 63 a1 a2 a3) := by
  have hz := zp_107
  have hE : hR_set M 63 a1 a2 a3 = hR_set M 63 a1 a2 a3 := rfl
  show zH n (0, 0) 107 (0, [zR 63, .inl a1, .inl a2, .inl a3], []) M _
  refine zH_wf_lt (pc := 1) (n' := 4) (t := 24) (L := [zR 63, .inl a1, .inl a2, .inl a3]) (st := []) (x := a1) 1 hz (by rfl) (fun hb => ?_) (fun hb => ?_)
  · have hE := hE.trans (if_pos hb)
    exact zH_wr (r := none) 0 hz (by rfl) ⟨rfl, hE.symm⟩
  · have hE := hE.trans (if_neg hb)
    refine zH_wi_ge (pc := 9) (n' := 12) (t := 24) (L := [zR 63, .inl a1, .inl a2, .inl a3]) (st := []) (x := a1) (y := (M 63 0)) 3 hz (by rfl) (fun hb => ?_) (fun hb => ?_)
    · have hE := hE.trans (if_pos hb)
      exact zH_wr (r := none) 0 hz (by rfl) ⟨rfl, hE.symm⟩
    · have hE := hE.trans (if_neg hb)
      refine zH_wf_lt (pc := 13) (n' := 16) (t := 24) (L := [zR 63, .inl a1, .inl a2, .inl a3]) (st := []) (x := a2) 1 hz (by rfl) (fun hb => ?_) (fun hb => ?_)
      · have hE := hE.trans (if_pos hb)
        exact zH_wr (r := none) 0 hz (by rfl) ⟨rfl, hE.symm⟩
      · have hE := hE.trans (if_neg hb)
        refine zH_wi_lt (pc := 21) (n' := 24) (t := 25) (L := [zR 63, .inl a1, .inl a2, .inl a3]) (st := []) (x := a2) (y := (M 63 1)) 3 hz (by rfl) (fun hb => ?_) (fun hb => ?_)
        · have hE := hE.trans (if_pos hb)
          refine zH_w (c' := (38, [zR 63, .inl a1, .inl a2, .inl a3], [.inl a3, .inl (w32 ((w32 (a1 * (M 63 1))) + a2)), zR 64])) 9 hz rfl ?_
          refine zH_iast hz rfl rfl (fun _ => ?_)
          show zH n (0, 0) 107 (39, [zR 63, .inl a1, .inl a2, .inl a3], []) (zput M 64 (w32 ((w32 (a1 * (M 63 1))) + a2) : Int).toNat a3) _
          exact zH_wr (r := none) 0 hz (by rfl) ⟨rfl, hE.symm⟩
        · have hE := hE.trans (if_neg hb)
          exact zH_wr (r := none) 0 hz (by rfl) ⟨rfl, hE.symm⟩
set_option maxRecDepth 100000 in
theorem fh_101_65 {n : Nat} {M : zM} : zH n (0, 0) 101 (0, zini [zR 65] 1, []) M (fun r M' => r = some (.inl (hR_size M 65)) ∧ M' = M) := by
  have hz := zp_101
  have hE : hR_size M 65 = hR_size M 65 := rfl
  show zH n (0, 0) 101 (0, [zR 65], []) M _
  exact zH_wr (r := some (.inl (M 65 3))) 2 hz (by rfl) (hfinP hE)
set_option maxRecDepth 100000 in
theorem fh_102_65 {n : Nat} {M : zM} (a1 : Int) : zH n (0, 0) 102 (0, zini [zR 65, .inl a1] 2, []) M (fun r M' => r = some (.inl (hR_has M 65 a1)) ∧ M' = M) := by
  have hz := zp_102
  have hE : hR_has M 65 a1 = hR_has M 65 a1 := rfl
  show zH n (0, 0) 102 (0, [zR 65, .inl a1], []) M _
  refine zH_wf_lt (pc := 1) (n' := 4) (t := 16) (L := [zR 65, .inl a1]) (st := []) (x := a1) 1 hz (by rfl) (fun hb => ?_) (fun hb => ?_)
  · have hE := hE.trans (if_pos hb)
    refine zH_w (c' := (17, [zR 65, .inl a1], [.inl 0])) 1 hz rfl ?_
    exact zH_zret hz rfl (hfinP hE)
  · have hE := hE.trans (if_neg hb)
    refine zH_wi_ge (pc := 9) (n' := 12) (t := 16) (L := [zR 65, .inl a1]) (st := []) (x := a1) (y := (M 65 3)) 3 hz (by rfl) (fun hb => ?_) (fun hb => ?_)
    · have hE := hE.trans (if_pos hb)
      refine zH_w (c' := (17, [zR 65, .inl a1], [.inl 0])) 1 hz rfl ?_
      exact zH_zret hz rfl (hfinP hE)
    · have hE := hE.trans (if_neg hb)
      refine zH_w (c' := (17, [zR 65, .inl a1], [.inl 1])) 2 hz rfl ?_
      exact zH_zret hz rfl (hfinP hE)
set_option maxRecDepth 100000 in
theorem fh_103_65 {n : Nat} {M : zM} : zH n (0, 0) 103 (0, zini [zR 65] 1, []) M (fun r M' => r = some (.inl (hR_open M 65).1) ∧ M' = (hR_open M 65).2) := by
  have hz := zp_103
  have hE : hR_open M 65 = hR_open M 65 := rfl
  show zH n (0, 0) 103 (0, [zR 65], []) M _
  refine zH_wi_lt (pc := 8) (n' := 11) (t := 14) (L := [zR 65]) (st := []) (x := (M 65 3)) (y := (M 65 0)) 4 hz (by rfl) (fun hb => ?_) (fun hb => ?_)
  · have hE := hE.trans (if_pos hb)
    refine zH_w (c' := (30, [zR 65], [.inl (w32 (((zput M 65 3 (w32 ((M 65 3) + 1))) 65 3) - 1))])) 10 hz rfl ?_
    exact zH_wr (r := some (.inl (w32 (((zput M 65 3 (w32 ((M 65 3) + 1))) 65 3) - 1)))) 0 hz (by rfl) (hfinB hE)
  · have hE := hE.trans (if_neg hb)
    exact zH_wr (r := some (.inl (-4))) 1 hz (by rfl) (hfinB hE)
set_option maxRecDepth 100000 in
theorem fh_106_65 {n : Nat} {M : zM} (a1 : Int) (a2 : Int) : zH n (0, 0) 106 (0, zini [zR 65, .inl a1, .inl a2] 3, []) M (fun r M' => r = some (.inl (hR_get M 65 a1 a2)) ∧ M' = M) := by
  have hz := zp_106
  have hE : hR_get M 65 a1 a2 = hR_get M 65 a1 a2 := rfl
  show zH n (0, 0) 106 (0, [zR 65, .inl a1, .inl a2], []) M _
  refine zH_wf_lt (pc := 1) (n' := 4) (t := 24) (L := [zR 65, .inl a1, .inl a2]) (st := []) (x := a1) 1 hz (by rfl) (fun hb => ?_) (fun hb => ?_)
  · have hE := hE.trans (if_pos hb)
    exact zH_wr (r := some (.inl (-1))) 1 hz (by rfl) (hfinP hE)
  · have hE := hE.trans (if_neg hb)
    refine zH_wi_ge (pc := 9) (n' := 12) (t := 24) (L := [zR 65, .inl a1, .inl a2]) (st := []) (x := a1) (y := (M 65 0)) 3 hz (by rfl) (fun hb => ?_) (fun hb => ?_)
    · have hE := hE.trans (if_pos hb)
      exact zH_wr (r := some (.inl (-1))) 1 hz (by rfl) (hfinP hE)
    · have hE := hE.trans (if_neg hb)
      refine zH_wf_lt (pc := 13) (n' := 16) (t := 24) (L := [zR 65, .inl a1, .inl a2]) (st := []) (x := a2) 1 hz (by rfl) (fun hb => ?_) (fun hb => ?_)
      · have hE := hE.trans (if_pos hb)
        exact zH_wr (r := some (.inl (-1))) 1 hz (by rfl) (hfinP hE)
      · have hE := hE.trans (if_neg hb)
        refine zH_wi_lt (pc := 21) (n' := 24) (t := 26) (L := [zR 65, .inl a1, .inl a2]) (st := []) (x := a2) (y := (M 65 1)) 3 hz (by rfl) (fun hb => ?_) (fun hb => ?_)
        · have hE := hE.trans (if_pos hb)
          refine zH_w (c' := (38, [zR 65, .inl a1, .inl a2], [.inl (w32 ((w32 (a1 * (M 65 1))) + a2)), zR 66])) 8 hz rfl ?_
          refine zH_iald hz rfl rfl (.inl rfl) (fun _ => ?_)
          show zH n (0, 0) 106 (39, [zR 65, .inl a1, .inl a2], [.inl (M 66 (w32 ((w32 (a1 * (M 65 1))) + a2) : Int).toNat)]) M _
          exact zH_wr (r := some (.inl (M 66 (w32 ((w32 (a1 * (M 65 1))) + a2) : Int).toNat))) 0 hz (by rfl) (hfinP hE)
        · have hE := hE.trans (if_neg hb)
          exact zH_wr (r := some (.inl (-1))) 1 hz (by rfl) (hfinP hE)
set_option maxRecDepth 100000 in
theorem fh_107_65 {n : Nat} {M : zM} (a1 : Int) (a2 : Int) (a3 : Int) : zH n (0, 0) 107 (0, zini [zR 65, .inl a1, .inl a2, .inl a3] 4, []) M (fun r M' => r = none ∧ M' = hR_set M 65 a1 a2 a3) := by
  have hz := zp_107
  have hE : hR_set M 65 a1 a2 a3 = hR_set M 65 a1 a2 a3 := rfl
  show zH n (0, 0) 107 (0, [zR 65, .inl a1, .inl a2, .inl a3], []) M _
  refine zH_wf_lt (pc := 1) (n' := 4) (t := 24) (L := [zR 65, .inl a1, .inl a2, .inl a3]) (st := []) (x := a1) 1 hz (by rfl) (fun hb => ?_) (fun hb => ?_)
  · have hE := hE.trans (if_pos hb)
    exact zH_wr (r := none) 0 hz (by rfl) ⟨rfl, hE.symm⟩
  · have hE := hE.trans (if_neg hb)
    refine zH_wi_ge (pc := 9) (n' := 12) (t := 24) (L := [zR 65, .inl a1, .inl a2, .inl a3]) (st := []) (x := a1) (y := (M 65 0)) 3 hz (by rfl) (fun hb => ?_) (fun hb => ?_)
    · have hE := hE.trans (if_pos hb)
      exact zH_wr (r := none) 0 hz (by rfl) ⟨rfl, hE.symm⟩
    · have hE := hE.trans (if_neg hb)
      refine zH_wf_lt (pc := 13) (n' := 16) (t := 24) (L := [zR 65, .inl a1, .inl a2, .inl a3]) (st := []) (x := a2) 1 hz (by rfl) (fun hb => ?_) (fun hb => ?_)
      · have hE := hE.trans (if_pos hb)
        exact zH_wr (r := none) 0 hz (by rfl) ⟨rfl, hE.symm⟩
      · have hE := hE.trans (if_neg hb)
        refine zH_wi_lt (pc := 21) (n' := 24) (t := 25) (L := [zR 65, .inl a1, .inl a2, .inl a3]) (st := []) (x := a2) (y := (M 65 1)) 3 hz (by rfl) (fun hb => ?_) (fun hb => ?_)
        · have hE := hE.trans (if_pos hb)
          refine zH_w (c' := (38, [zR 65, .inl a1, .inl a2, .inl a3], [.inl a3, .inl (w32 ((w32 (a1 * (M 65 1))) + a2)), zR 66])) 9 hz rfl ?_
          refine zH_iast hz rfl rfl (fun _ => ?_)
          show zH n (0, 0) 107 (39, [zR 65, .inl a1, .inl a2, .inl a3], []) (zput M 66 (w32 ((w32 (a1 * (M 65 1))) + a2) : Int).toNat a3) _
          exact zH_wr (r := none) 0 hz (by rfl) ⟨rfl, hE.symm⟩
        · have hE := hE.trans (if_neg hb)
          exact zH_wr (r := none) 0 hz (by rfl) ⟨rfl, hE.symm⟩
set_option maxRecDepth 100000 in
theorem fh_211 {n : Nat} {M : zM} {Mo : zM} (hC : qMI Mo) (hCM : qMI M) (e98 : M 98 = Mo 98) (a1 : Int) : zH n (0, 0) 211 (0, zini [zR 97, .inl a1] 3, []) M (fun r M' => r = none ∧ (∀ i, i ≠ 101 → M' i = M i) ∧ ∀ a : Nat, (a : Int) < Mo 98 4 → M' 101 a = if hCt Mo a1 (-1) (Mo 98 4).toNat (Mo 98 4).toNat a = true then 1 else 0) := by
  have hz := zp_211
  show zH n (0, 0) 211 (0, [zR 97, .inl a1, zN], []) M _
  have hn := hC.cnt4
  refine zH_w (c' := (2, [zR 97, .inl a1, .inl 0], [])) 2 hz rfl ?_
  have lp2 : ∀ (N : Nat) (i : Int) (M5 : zM), ((250 - i).toNat) < N → (0 ≤ i ∧ i ≤ Mo 98 4) → (qMI M5) → (∀ r, r ≠ 101 → M5 r = M r) → (∀ a : Nat, (a : Int) < i → M5 101 a = if hBs Mo a1 (-1) a = true then 1 else 0) → zH n (0, 0) 211 (2, [zR 97, .inl a1, .inl i], []) M5 (fun r M' => r = none ∧ (∀ i, i ≠ 101 → M' i = M i) ∧ ∀ a : Nat, (a : Int) < Mo 98 4 → M' 101 a = if hCt Mo a1 (-1) (Mo 98 4).toNat (Mo 98 4).toNat a = true then 1 else 0) := by
    intro N
    induction N with
    | zero => intro i M5 hN; exact absurd hN (Nat.not_lt_zero _)
    | succ N ih2 =>
      intro i M5 hN hi hC5 hO hT
      refine zH_w (c' := (8, [zR 97, .inl a1, .inl i], [.inl 4, zR 98, .inl i])) 4 hz rfl ?_
      refine zH_iald hz rfl rfl (.inl rfl) (fun hin8 => ?_)
      show zH n (0, 0) 211 (9, [zR 97, .inl a1, .inl i], [.inl (M5 98 (4 : Int).toNat), .inl i]) M5 _
      rw [show M5 98 (4 : Int).toNat = Mo 98 4 from congrFun ((hO 98 (by decide)).trans e98) 4]
      refine zH_icmp_ge hz rfl (fun hb9 => ?_) (fun hb9 => ?_)
      · skip
        refine zH_w (c' := (67, [zR 97, .inl a1, .inl i], [.inl 4, zR 98])) 3 hz rfl ?_
        refine zH_iald hz rfl rfl (.inl rfl) (fun hin67 => ?_)
        show zH n (0, 0) 211 (68, [zR 97, .inl a1, .inl i], [.inl (M5 98 (4 : Int).toNat)]) M5 _
        rw [show M5 98 (4 : Int).toNat = Mo 98 4 from congrFun ((hO 98 (by decide)).trans e98) 4]
        refine zH_w (c' := (70, [zR 97, .inl a1, .inl i], [.inl (w32 ((Mo 98 4) - 1))])) 2 hz rfl ?_
        rw [w32_id (x := Mo 98 4 - 1) (by omega)]
        refine zH_w (c' := (71, [zR 97, .inl a1, .inl (Mo 98 4 - 1)], [])) 1 hz rfl ?_
        have lp71 : ∀ (N : Nat) (i2 : Int) (M6 : zM), ((i2 + 1).toNat) < N → (-1 ≤ i2 ∧ i2 < Mo 98 4) → (∀ r, r ≠ 101 → M6 r = M r) → (∀ a : Nat, (a : Int) < Mo 98 4 → M6 101 a = if hCt Mo a1 (-1) (Mo 98 4).toNat (Mo 98 4 - 1 - i2).toNat a = true then 1 else 0) → zH n (0, 0) 211 (71, [zR 97, .inl a1, .inl i2], []) M6 (fun r M' => r = none ∧ (∀ i, i ≠ 101 → M' i = M i) ∧ ∀ a : Nat, (a : Int) < Mo 98 4 → M' 101 a = if hCt Mo a1 (-1) (Mo 98 4).toNat (Mo 98 4).toNat a = true then 1 else 0) := by
          intro N
          induction N with
          | zero => intro i2 M6 hN; exact absurd hN (Nat.not_lt_zero _)
          | succ N ih71 =>
            intro i2 M6 hN hi2 hO6 hT6
            refine zH_w (c' := (72, [zR 97, .inl a1, .inl i2], [.inl i2])) 1 hz rfl ?_
            refine zH_wf_lt (pc := 72) (n' := 75) (t := 113) (L := [zR 97, .inl a1, .inl i2]) (st := []) (x := i2) 0 hz (by rfl) (fun hb72 => ?_) (fun hb72 => ?_)
            · skip
              exact zH_wr (r := none) 0 hz (by rfl) (⟨rfl, hO6, fun a ha => by have q := hT6 a ha; rw [show (Mo 98 4 - 1 - i2).toNat = (Mo 98 4).toNat by omega] at q; exact q⟩)
            · skip
              refine zH_w (c' := (80, [zR 97, .inl a1, .inl i2], [.inl i2, zR 101])) 3 hz rfl ?_
              refine zH_bald hz rfl rfl (.inl rfl) (fun hin80 => ?_)
              show zH n (0, 0) 211 (81, [zR 97, .inl a1, .inl i2], [.inl (M6 101 (i2 : Int).toNat)]) M6 _
              rw [hT6 i2.toNat (by omega)]
              obtain ⟨y, hy⟩ : ∃ x : Int, x = (if hCt Mo a1 (-1) (Mo 98 4).toNat (Mo 98 4 - 1 - i2).toNat i2.toNat = true then 1 else 0) := ⟨_, rfl⟩
              rw [← hy]
              refine zH_if_eq hz rfl (fun hb81 => ?_) (fun hb81 => ?_)
              · skip
                have hct : ¬ hCt Mo a1 (-1) (Mo 98 4).toNat (Mo 98 4 - 1 - i2).toNat i2.toNat = true := fun h => by rw [if_pos h] at hy; omega
                refine zH_w (c' := (71, [zR 97, .inl a1, .inl (i2 - 1)], [])) 2 hz (by rw [show (.inl (i2 - 1) : zV) = .inl (w32 (i2 + (-1))) from by rw [w32_id (by omega)]; rfl]; rfl) ?_
                refine ih71 (i2 - 1) M6 (by omega) ?_ ?_ ?_
                · omega
                · first | exact hO6 | exact fun r hr => (zput_oth hr).trans (hO6 r hr)
                · intro a ha
                  have q := hT6 a ha
                  have eb : (Mo 98 4).toNat - 1 - (Mo 98 4 - 1 - i2).toNat = i2.toNat := by omega
                  rw [show (Mo 98 4 - 1 - (i2 - 1)).toNat = (Mo 98 4 - 1 - i2).toNat + 1 by omega, hCt_s, eb, show ((i2.toNat : Nat) : Int) = i2 by omega]
                  first
                    | (rw [hif_n (fun h => hct h.1)]; exact q)
                    | (rw [hif_n (fun h => hb91 h.2.1)]; exact q)
                    | (by_cases e : (a : Int) = qA Mo i2 6
                       · rw [hif_y ⟨hct, by omega, e.symm⟩, show a = (qA Mo i2 6).toNat by omega, qput_eq]; rfl
                       · rw [hif_n (fun h => e h.2.2.symm), qput_nk (by omega)]; exact q)
              · skip
                have hct : hCt Mo a1 (-1) (Mo 98 4).toNat (Mo 98 4 - 1 - i2).toNat i2.toNat = true := by by_cases hq : hCt Mo a1 (-1) (Mo 98 4).toNat (Mo 98 4 - 1 - i2).toNat i2.toNat = true; exact hq; rw [if_neg hq] at hy; exact absurd hy hb81
                have hv6 : ∀ b : Int, 0 ≤ b ∧ b < 12 → hf_194_97 M6 i2 b = qA Mo i2 b := fun b hb => hact_same ((hO6 98 (by decide)).trans e98) (by omega) hb
                refine zH_w (c' := (87, [zR 97, .inl a1, .inl i2], [.inl 0, .inl i2, zR 97])) 3 hz rfl ?_
                refine zH_wE (c1 := (90, [zR 97, .inl a1, .inl i2], [])) 0 hz zp_194 (fh_194_97 i2 0) (by rfl) ?_
                show zH n (0, 0) 211 (90, [zR 97, .inl a1, .inl i2], [.inl (hf_194_97 M6 i2 0)]) M6 _
                rw [hv6 0 (by decide)]
                refine zH_w (c' := (91, [zR 97, .inl a1, .inl i2], [.inl 5, .inl (qA Mo i2 0)])) 1 hz rfl ?_
                refine zH_wi_ne (pc := 91) (n' := 94) (t := 107) (L := [zR 97, .inl a1, .inl i2]) (st := []) (x := (qA Mo i2 0)) (y := 5) 0 hz (by rfl) (fun hb91 => ?_) (fun hb91 => ?_)
                · skip
                  refine zH_w (c' := (71, [zR 97, .inl a1, .inl (i2 - 1)], [])) 2 hz (by rw [show (.inl (i2 - 1) : zV) = .inl (w32 (i2 + (-1))) from by rw [w32_id (by omega)]; rfl]; rfl) ?_
                  refine ih71 (i2 - 1) M6 (by omega) ?_ ?_ ?_
                  · omega
                  · first | exact hO6 | exact fun r hr => (zput_oth hr).trans (hO6 r hr)
                  · intro a ha
                    have q := hT6 a ha
                    have eb : (Mo 98 4).toNat - 1 - (Mo 98 4 - 1 - i2).toNat = i2.toNat := by omega
                    rw [show (Mo 98 4 - 1 - (i2 - 1)).toNat = (Mo 98 4 - 1 - i2).toNat + 1 by omega, hCt_s, eb, show ((i2.toNat : Nat) : Int) = i2 by omega]
                    first
                      | (rw [hif_n (fun h => hct h.1)]; exact q)
                      | (rw [hif_n (fun h => hb91 h.2.1)]; exact q)
                      | (by_cases e : (a : Int) = qA Mo i2 6
                         · rw [hif_y ⟨hct, by omega, e.symm⟩, show a = (qA Mo i2 6).toNat by omega, qput_eq]; rfl
                         · rw [hif_n (fun h => e h.2.2.symm), qput_nk (by omega)]; exact q)
                · skip
                  refine zH_wE (c1 := (105, [zR 97, .inl a1, .inl i2], [zR 101])) 5 hz zp_194 (fh_194_97 i2 6) (by rfl) ?_
                  show zH n (0, 0) 211 (105, [zR 97, .inl a1, .inl i2], [.inl (hf_194_97 M6 i2 6), zR 101]) M6 _
                  rw [hv6 6 (by decide)]
                  refine zH_w (c' := (106, [zR 97, .inl a1, .inl i2], [.inl 0, .inl (qA Mo i2 6), zR 101])) 1 hz rfl ?_
                  refine zH_bast hz rfl rfl (fun hin106 => ?_)
                  show zH n (0, 0) 211 (107, [zR 97, .inl a1, .inl i2], []) (zput M6 101 ((qA Mo i2 6) : Int).toNat 0) _
                  refine zH_w (c' := (71, [zR 97, .inl a1, .inl (i2 - 1)], [])) 2 hz (by rw [show (.inl (i2 - 1) : zV) = .inl (w32 (i2 + (-1))) from by rw [w32_id (by omega)]; rfl]; rfl) ?_
                  refine ih71 (i2 - 1) (zput M6 101 ((qA Mo i2 6) : Int).toNat 0) (by omega) ?_ ?_ ?_
                  · omega
                  · first | exact hO6 | exact fun r hr => (zput_oth hr).trans (hO6 r hr)
                  · intro a ha
                    have q := hT6 a ha
                    have eb : (Mo 98 4).toNat - 1 - (Mo 98 4 - 1 - i2).toNat = i2.toNat := by omega
                    rw [show (Mo 98 4 - 1 - (i2 - 1)).toNat = (Mo 98 4 - 1 - i2).toNat + 1 by omega, hCt_s, eb, show ((i2.toNat : Nat) : Int) = i2 by omega]
                    first
                      | (rw [hif_n (fun h => hct h.1)]; exact q)
                      | (rw [hif_n (fun h => hb91 h.2.1)]; exact q)
                      | (by_cases e : (a : Int) = qA Mo i2 6
                         · rw [hif_y ⟨hct, by omega, e.symm⟩, show a = (qA Mo i2 6).toNat by omega, qput_eq]; rfl
                         · rw [hif_n (fun h => e h.2.2.symm), qput_nk (by omega)]; exact q)
        refine lp71 (252) (Mo 98 4 - 1) M5 (by omega) ?_ ?_ ?_
        · omega
        · exact hO
        · intro a ha
          rw [show (Mo 98 4 - 1 - (Mo 98 4 - 1)).toNat = 0 by omega]
          exact hT a (by omega)
      · skip
        have hv5 : ∀ b : Int, 0 ≤ b ∧ b < 12 → hf_194_97 M5 i b = qA Mo i b := fun b hb => hact_same ((hO 98 (by decide)).trans e98) (by omega) hb
        have hac := (hC.act i (by omega)).1
        have q01 : qStN Mo (qA Mo i 3) = 0 ∨ qStN Mo (qA Mo i 3) = 1 := hst01
        refine zH_w (c' := (20, [zR 97, .inl a1, .inl i], [.inl 2, .inl i, zR 97, .inl i, zR 101])) 6 hz rfl ?_
        refine zH_wE (c1 := (23, [zR 97, .inl a1, .inl i], [.inl i, zR 101])) 0 hz zp_194 (fh_194_97 i 2) (by rfl) ?_
        show zH n (0, 0) 211 (23, [zR 97, .inl a1, .inl i], [.inl (hf_194_97 M5 i 2), .inl i, zR 101]) M5 _
        rw [hv5 2 (by decide)]
        refine zH_w (c' := (24, [zR 97, .inl a1, .inl i], [.inl a1, .inl (qA Mo i 2), .inl i, zR 101])) 1 hz rfl ?_
        refine zH_wi_gt (pc := 24) (n' := 27) (t := 54) (L := [zR 97, .inl a1, .inl i]) (st := [.inl i, zR 101]) (x := (qA Mo i 2)) (y := a1) 0 hz (by rfl) (fun hb24 => ?_) (fun hb24 => ?_)
        · skip
          refine zH_w (c' := (55, [zR 97, .inl a1, .inl i], [.inl 0, .inl i, zR 101])) 1 hz rfl ?_
          refine zH_bast hz rfl rfl (fun hin55 => ?_)
          show zH n (0, 0) 211 (56, [zR 97, .inl a1, .inl i], []) (zput M5 101 (i : Int).toNat 0) _
          refine zH_w (c' := (2, [zR 97, .inl a1, .inl (i + 1)], [])) 2 hz (by rw [show (.inl (i + 1) : zV) = .inl (w32 (i + 1)) from by rw [w32_id (by omega)]]; rfl) ?_
          refine ih2 (i + 1) (zput M5 101 (i : Int).toNat 0) (by omega) ?_ ?_ ?_ ?_
          · omega
          · exact hC5.put (by decide) (qCd_a (by decide) (by decide)) (by refine ⟨fun _ => ?_, fun _ => ?_, fun h => ?_, fun h => ?_, fun h => ?_⟩ <;> first | omega | exact absurd h (by decide))
          · exact fun r hr => (zput_oth hr).trans (hO r hr)
          · intro a ha
            by_cases e : a = i.toNat
            · subst e
              rw [qput_eq]
              unfold hBs
              rw [show ((i.toNat : Nat) : Int) = i by omega]
              first | (rw [decide_eq_true (by omega)]; rfl) | (rw [decide_eq_false (by omega)]; rfl)
            · rw [qput_nk e]; exact hT a (by omega)
        · skip
          refine zH_wE (c1 := (33, [zR 97, .inl a1, .inl i], [.inl i, zR 101])) 3 hz zp_194 (fh_194_97 i 3) (by rfl) ?_
          show zH n (0, 0) 211 (33, [zR 97, .inl a1, .inl i], [.inl (hf_194_97 M5 i 3), .inl i, zR 101]) M5 _
          rw [hv5 3 (by decide)]
          refine zH_w (c' := (34, [zR 97, .inl a1, .inl i], [.inl (-1), .inl (qA Mo i 3), .inl i, zR 101])) 1 hz rfl ?_
          refine zH_wi_eq (pc := 34) (n' := 37) (t := 50) (L := [zR 97, .inl a1, .inl i]) (st := [.inl i, zR 101]) (x := (qA Mo i 3)) (y := (-1)) 0 hz (by rfl) (fun hb34 => ?_) (fun hb34 => ?_)
          · skip
            refine zH_w (c' := (55, [zR 97, .inl a1, .inl i], [.inl 1, .inl i, zR 101])) 2 hz rfl ?_
            refine zH_bast hz rfl rfl (fun hin55 => ?_)
            show zH n (0, 0) 211 (56, [zR 97, .inl a1, .inl i], []) (zput M5 101 (i : Int).toNat 1) _
            refine zH_w (c' := (2, [zR 97, .inl a1, .inl (i + 1)], [])) 2 hz (by rw [show (.inl (i + 1) : zV) = .inl (w32 (i + 1)) from by rw [w32_id (by omega)]]; rfl) ?_
            refine ih2 (i + 1) (zput M5 101 (i : Int).toNat 1) (by omega) ?_ ?_ ?_ ?_
            · omega
            · exact hC5.put (by decide) (qCd_a (by decide) (by decide)) (by refine ⟨fun _ => ?_, fun _ => ?_, fun h => ?_, fun h => ?_, fun h => ?_⟩ <;> first | omega | exact absurd h (by decide))
            · exact fun r hr => (zput_oth hr).trans (hO r hr)
            · intro a ha
              by_cases e : a = i.toNat
              · subst e
                rw [qput_eq]
                unfold hBs
                rw [show ((i.toNat : Nat) : Int) = i by omega]
                first | (rw [decide_eq_true (by omega)]; rfl) | (rw [decide_eq_false (by omega)]; rfl)
              · rw [qput_nk e]; exact hT a (by omega)
          · skip
            refine zH_wE (c1 := (44, [zR 97, .inl a1, .inl i], [zR 97, .inl i, zR 101])) 4 hz zp_194 (fh_194_97 i 3) (by rfl) ?_
            show zH n (0, 0) 211 (44, [zR 97, .inl a1, .inl i], [.inl (hf_194_97 M5 i 3), zR 97, .inl i, zR 101]) M5 _
            rw [hv5 3 (by decide)]
            refine zH_wE (c1 := (47, [zR 97, .inl a1, .inl i], [.inl i, zR 101])) 0 hz zp_192 (hst_E hC5 (qA Mo i 3) (by omega)) (by rfl) ?_
            show zH n (0, 0) 211 (47, [zR 97, .inl a1, .inl i], [.inl (qStN M5 (qA Mo i 3)), .inl i, zR 101]) M5 _
            rw [hst_same ((hO 98 (by decide)).trans e98)]
            refine zH_if_eq hz rfl (fun hb47 => ?_) (fun hb47 => ?_)
            · skip
              refine zH_w (c' := (55, [zR 97, .inl a1, .inl i], [.inl 0, .inl i, zR 101])) 1 hz rfl ?_
              refine zH_bast hz rfl rfl (fun hin55 => ?_)
              show zH n (0, 0) 211 (56, [zR 97, .inl a1, .inl i], []) (zput M5 101 (i : Int).toNat 0) _
              refine zH_w (c' := (2, [zR 97, .inl a1, .inl (i + 1)], [])) 2 hz (by rw [show (.inl (i + 1) : zV) = .inl (w32 (i + 1)) from by rw [w32_id (by omega)]]; rfl) ?_
              refine ih2 (i + 1) (zput M5 101 (i : Int).toNat 0) (by omega) ?_ ?_ ?_ ?_
              · omega
              · exact hC5.put (by decide) (qCd_a (by decide) (by decide)) (by refine ⟨fun _ => ?_, fun _ => ?_, fun h => ?_, fun h => ?_, fun h => ?_⟩ <;> first | omega | exact absurd h (by decide))
              · exact fun r hr => (zput_oth hr).trans (hO r hr)
              · intro a ha
                by_cases e : a = i.toNat
                · subst e
                  rw [qput_eq]
                  unfold hBs
                  rw [show ((i.toNat : Nat) : Int) = i by omega]
                  first | (rw [decide_eq_true (by omega)]; rfl) | (rw [decide_eq_false (by omega)]; rfl)
                · rw [qput_nk e]; exact hT a (by omega)
            · skip
              refine zH_w (c' := (55, [zR 97, .inl a1, .inl i], [.inl 1, .inl i, zR 101])) 2 hz rfl ?_
              refine zH_bast hz rfl rfl (fun hin55 => ?_)
              show zH n (0, 0) 211 (56, [zR 97, .inl a1, .inl i], []) (zput M5 101 (i : Int).toNat 1) _
              refine zH_w (c' := (2, [zR 97, .inl a1, .inl (i + 1)], [])) 2 hz (by rw [show (.inl (i + 1) : zV) = .inl (w32 (i + 1)) from by rw [w32_id (by omega)]]; rfl) ?_
              refine ih2 (i + 1) (zput M5 101 (i : Int).toNat 1) (by omega) ?_ ?_ ?_ ?_
              · omega
              · exact hC5.put (by decide) (qCd_a (by decide) (by decide)) (by refine ⟨fun _ => ?_, fun _ => ?_, fun h => ?_, fun h => ?_, fun h => ?_⟩ <;> first | omega | exact absurd h (by decide))
              · exact fun r hr => (zput_oth hr).trans (hO r hr)
              · intro a ha
                by_cases e : a = i.toNat
                · subst e
                  rw [qput_eq]
                  unfold hBs
                  rw [show ((i.toNat : Nat) : Int) = i by omega]
                  first | (rw [decide_eq_true (by omega)]; rfl) | (rw [decide_eq_false (by omega)]; rfl)
                · rw [qput_nk e]; exact hT a (by omega)
  refine lp2 (251) 0 M (by omega) ?_ ?_ ?_ ?_
  · omega
  · exact hCM
  · exact fun _ _ => rfl
  · exact fun a ha => absurd ha (by omega)
theorem hG_61 {M : zM} {a b : Int} (ht : M 61 0 = 250 ∧ M 61 1 = 4) (ha : 0 ≤ a ∧ a < 250) (hb : 0 ≤ b ∧ b < 4) : hR_get M 61 a b = M 62 (4 * a.toNat + b.toNat) := by
  unfold hR_get
  rw [if_neg (by omega), if_neg (by omega), if_neg (by omega), if_pos (by omega), ht.2]
  rw [show w32 (w32 (a * 4) + b) = a * 4 + b from by rw [w32_id (x := a * 4) (by omega), w32_id (by omega)], show (a * 4 + b).toNat = 4 * a.toNat + b.toNat by omega]
theorem hS_61 {M : zM} {a b x : Int} (ht : M 61 0 = 250 ∧ M 61 1 = 4) (ha : 0 ≤ a ∧ a < 250) (hb : 0 ≤ b ∧ b < 4) : hR_set M 61 a b x = zput M 62 (4 * a.toNat + b.toNat) x := by
  unfold hR_set
  rw [if_neg (by omega), if_neg (by omega), if_neg (by omega), if_pos (by omega), ht.2]
  rw [show w32 (w32 (a * 4) + b) = a * 4 + b from by rw [w32_id (x := a * 4) (by omega), w32_id (by omega)], show (a * 4 + b).toNat = 4 * a.toNat + b.toNat by omega]
theorem hG_63 {M : zM} {a b : Int} (ht : M 63 0 = 280 ∧ M 63 1 = 4) (ha : 0 ≤ a ∧ a < 280) (hb : 0 ≤ b ∧ b < 4) : hR_get M 63 a b = M 64 (4 * a.toNat + b.toNat) := by
  unfold hR_get
  rw [if_neg (by omega), if_neg (by omega), if_neg (by omega), if_pos (by omega), ht.2]
  rw [show w32 (w32 (a * 4) + b) = a * 4 + b from by rw [w32_id (x := a * 4) (by omega), w32_id (by omega)], show (a * 4 + b).toNat = 4 * a.toNat + b.toNat by omega]
theorem hS_63 {M : zM} {a b x : Int} (ht : M 63 0 = 280 ∧ M 63 1 = 4) (ha : 0 ≤ a ∧ a < 280) (hb : 0 ≤ b ∧ b < 4) : hR_set M 63 a b x = zput M 64 (4 * a.toNat + b.toNat) x := by
  unfold hR_set
  rw [if_neg (by omega), if_neg (by omega), if_neg (by omega), if_pos (by omega), ht.2]
  rw [show w32 (w32 (a * 4) + b) = a * 4 + b from by rw [w32_id (x := a * 4) (by omega), w32_id (by omega)], show (a * 4 + b).toNat = 4 * a.toNat + b.toNat by omega]
theorem hG_65 {M : zM} {a b : Int} (ht : M 65 0 = 250 ∧ M 65 1 = 1) (ha : 0 ≤ a ∧ a < 250) (hb : 0 ≤ b ∧ b < 1) : hR_get M 65 a b = M 66 (1 * a.toNat + b.toNat) := by
  unfold hR_get
  rw [if_neg (by omega), if_neg (by omega), if_neg (by omega), if_pos (by omega), ht.2]
  rw [show w32 (w32 (a * 1) + b) = a * 1 + b from by rw [w32_id (x := a * 1) (by omega), w32_id (by omega)], show (a * 1 + b).toNat = 1 * a.toNat + b.toNat by omega]
theorem hS_65 {M : zM} {a b x : Int} (ht : M 65 0 = 250 ∧ M 65 1 = 1) (ha : 0 ≤ a ∧ a < 250) (hb : 0 ≤ b ∧ b < 1) : hR_set M 65 a b x = zput M 66 (1 * a.toNat + b.toNat) x := by
  unfold hR_set
  rw [if_neg (by omega), if_neg (by omega), if_neg (by omega), if_pos (by omega), ht.2]
  rw [show w32 (w32 (a * 1) + b) = a * 1 + b from by rw [w32_id (x := a * 1) (by omega), w32_id (by omega)], show (a * 1 + b).toNat = 1 * a.toNat + b.toNat by omega]
set_option maxRecDepth 100000 in
theorem fh_109_61 {n : Nat} {M : zM} (ht : M 61 0 = 250 ∧ M 61 1 = 4) (a1 a2 a3 : Int) (h1 : 0 ≤ a1 ∧ a1 < 4) (h3 : 0 ≤ a3 ∧ a3 ≤ 250) : zH n (0, 0) 109 (0, zini [zR 61, .inl a1, .inl a2, .inl a3] 5, []) M (fun r M' => r = none ∧ (∀ i, i ≠ 62 → M' i = M i) ∧ ∀ j : Nat, M' 62 j = if j % 4 = a1.toNat ∧ ((j / 4 : Nat) : Int) < a3 then a2 else M 62 j) := by
  have hz := zp_109
  show zH n (0, 0) 109 (0, [zR 61, .inl a1, .inl a2, .inl a3, zN], []) M _
  refine zH_w (c' := (3, [zR 61, .inl a1, .inl a2, .inl a3, .inl 0], [])) 2 hz rfl ?_
  have lp3 : ∀ (N : Nat) (i : Int) (M5 : zM), ((250 - i).toNat) < N → (0 ≤ i ∧ i ≤ a3) → (∀ r, r ≠ 62 → M5 r = M r) → (∀ j : Nat, M5 62 j = if j % 4 = a1.toNat ∧ ((j / 4 : Nat) : Int) < i then a2 else M 62 j) → zH n (0, 0) 109 (3, [zR 61, .inl a1, .inl a2, .inl a3, .inl i], []) M5 (fun r M' => r = none ∧ (∀ i, i ≠ 62 → M' i = M i) ∧ ∀ j : Nat, M' 62 j = if j % 4 = a1.toNat ∧ ((j / 4 : Nat) : Int) < a3 then a2 else M 62 j) := by
    intro N
    induction N with
    | zero => intro i M5 hN; exact absurd hN (Nat.not_lt_zero _)
    | succ N ih3 =>
      intro i M5 hN hi hO hT
      refine zH_w (c' := (6, [zR 61, .inl a1, .inl a2, .inl a3, .inl i], [.inl a3, .inl i])) 2 hz rfl ?_
      refine zH_wi_ge (pc := 6) (n' := 9) (t := 32) (L := [zR 61, .inl a1, .inl a2, .inl a3, .inl i]) (st := []) (x := i) (y := a3) 0 hz (by rfl) (fun hb6 => ?_) (fun hb6 => ?_)
      · skip
        exact zH_wr (r := none) 0 hz (by rfl) (⟨rfl, hO, fun j => by rw [hT j, show i = a3 by omega]⟩)
      · skip
        have ht5 : M5 61 0 = 250 ∧ M5 61 1 = 4 := by rw [hO 61 (by decide)]; exact ht
        have es : hR_set M5 61 i a1 a2 = zput M5 62 (4 * i.toNat + a1.toNat) a2 := hS_61 ht5 (by omega) h1
        refine zH_w (c' := (15, [zR 61, .inl a1, .inl a2, .inl a3, .inl i], [.inl (M5 61 0), .inl i])) 3 hz rfl ?_
        rw [ht5.1]
        refine zH_icmp_ge hz rfl (fun hb15 => ?_) (fun hb15 => ?_)
        · skip
          exact zH_ret hz rfl rfl (⟨rfl, hO, fun j => by rw [hT j, show i = a3 by omega]⟩)
        · skip
          refine zH_w (c' := (23, [zR 61, .inl a1, .inl a2, .inl a3, .inl i], [.inl a2, .inl a1, .inl i, zR 61])) 4 hz rfl ?_
          refine zH_wE (c1 := (26, [zR 61, .inl a1, .inl a2, .inl a3, .inl i], [])) 0 hz zp_107 (fh_107_61 i a1 a2) (by rfl) ?_
          show zH n (0, 0) 109 (26, [zR 61, .inl a1, .inl a2, .inl a3, .inl i], []) (hR_set M5 61 i a1 a2) _
          refine zH_w (c' := (3, [zR 61, .inl a1, .inl a2, .inl a3, .inl (i + 1)], [])) 2 hz (by rw [show (.inl (i + 1) : zV) = .inl (w32 (i + 1)) from by rw [w32_id (by omega)]]; rfl) ?_
          refine ih3 (i + 1) (hR_set M5 61 i a1 a2) (by omega) ?_ ?_ ?_
          · omega
          · rw [es]; exact fun r hr => (zput_oth hr).trans (hO r hr)
          · intro j
            rw [es]
            by_cases e : j = 4 * i.toNat + a1.toNat
            · rw [e, qput_eq, if_pos (by omega)]
            · rw [qput_nk e, hT j]
              by_cases c : j % 4 = a1.toNat ∧ ((j / 4 : Nat) : Int) < i
              · rw [if_pos c, if_pos (by omega)]
              · rw [if_neg c, if_neg (by omega)]
  refine lp3 (251) 0 M (by omega) ?_ ?_ ?_
  · omega
  · exact fun _ _ => rfl
  · exact fun j => by rw [if_neg (by omega)]
set_option maxHeartbeats 4000000 in
set_option maxRecDepth 100000 in
theorem fh_48_60 {n : Nat} {M : zM} (hC : qMI M) (h : hHs M 9 (M 98)) (hT : hTb M) (ht : M 61 0 = 250 ∧ M 61 1 = 4) (a1 a2 : Int) : zH n (0, 0) 48 (0, zini [zR 60, .inl a1, .inl a2] 7, []) M (fun r M' => r = none ∧ (∀ i, i ≠ 62 → M' i = M i) ∧ ∀ a : Nat, (a : Int) < M 98 4 → M' 62 (4 * a) = if hCt M a1 a2 (M 98 4).toNat (M 98 4).toNat a = true then 1 else 0) := by
  have hz := zp_48
  show zH n (0, 0) 48 (0, [zR 60, .inl a1, .inl a2, zN, zN, zN, zN], []) M _
  have hn := hC.cnt4
  have hn3 := hC.cnt3
  have k4 : M 18 3 = M 98 4 := h.2.2.2.2.1.1
  have hB : hBd M := ⟨hC.cnt0, hC.cnt1, hC.cnt2, hC.cnt3, hC.cnt4, hC.cnt5, hC.cnt6⟩
  refine zH_wE (c1 := (16, [zR 60, .inl a1, .inl a2, zN, zN, zN, zN], [.inl (-1), .inl 1, zR 61])) 7 hz zp_101 (fh_101_18) (by rfl) ?_
  show zH n (0, 0) 48 (16, [zR 60, .inl a1, .inl a2, zN, zN, zN, zN], [.inl (hR_size M 18), .inl (-1), .inl 1, zR 61]) M _
  rw [show hR_size M 18 = M 98 4 from k4]
  refine zH_wC (c1 := (19, [zR 60, .inl a1, .inl a2, zN, zN, zN, zN], [])) 0 hz zp_109 (fh_109_61 ht 1 (-1) (M 98 4) (by decide) (by omega)) (by rfl) ?_
  rintro _ M1 ⟨rfl, hO1, hT1⟩
  show zH n (0, 0) 48 (19, [zR 60, .inl a1, .inl a2, zN, zN, zN, zN], []) M1 _
  refine zH_wE (c1 := (29, [zR 60, .inl a1, .inl a2, zN, zN, zN, zN], [])) 3 hz zp_101 (fh_101_18) (by rfl) ?_
  show zH n (0, 0) 48 (29, [zR 60, .inl a1, .inl a2, zN, zN, zN, zN], [.inl (hR_size M1 18)]) M1 _
  rw [show hR_size M1 18 = M 98 4 from by unfold hR_size; rw [hO1 18 (by decide)]; exact k4]
  refine zH_w (c' := (31, [zR 60, .inl a1, .inl a2, zN, zN, zN, zN], [.inl (w32 ((M 98 4) - 1))])) 2 hz rfl ?_
  rw [w32_id (x := M 98 4 - 1) (by omega)]
  refine zH_w (c' := (32, [zR 60, .inl a1, .inl a2, .inl (M 98 4 - 1), zN, zN, zN], [])) 1 hz rfl ?_
  have lp32 : ∀ (N : Nat) (i : Int) (u4 : zV) (u5 : zV) (u6 : zV) (M5 : zM), ((i + 1).toNat) < N → (-1 ≤ i ∧ i < M 98 4) → (∀ r, r ≠ 62 → M5 r = M r) → (∀ a : Nat, i < (a : Int) → (a : Int) < M 98 4 → M5 62 (4 * a) = if hCt M a1 a2 (M 98 4).toNat (M 98 4 - 1 - i).toNat a = true then 1 else 0) → (∀ a : Nat, (a : Int) ≤ i → (hCt M a1 a2 (M 98 4).toNat (M 98 4 - 1 - i).toNat a = true ↔ (hBs M a1 a2 a = true ∧ M5 62 (4 * a + 1) = -1))) → zH n (0, 0) 48 (32, [zR 60, .inl a1, .inl a2, .inl i, u4, u5, u6], []) M5 (fun r M' => r = none ∧ (∀ i, i ≠ 62 → M' i = M i) ∧ ∀ a : Nat, (a : Int) < M 98 4 → M' 62 (4 * a) = if hCt M a1 a2 (M 98 4).toNat (M 98 4).toNat a = true then 1 else 0) := by
    intro N
    induction N with
    | zero => intro i u4 u5 u6 M5 hN; exact absurd hN (Nat.not_lt_zero _)
    | succ N ih32 =>
      intro i u4 u5 u6 M5 hN hi hO hH hS
      refine zH_w (c' := (33, [zR 60, .inl a1, .inl a2, .inl i, u4, u5, u6], [.inl i])) 1 hz rfl ?_
      refine zH_wf_lt (pc := 33) (n' := 36) (t := 190) (L := [zR 60, .inl a1, .inl a2, .inl i, u4, u5, u6]) (st := []) (x := i) 0 hz (by rfl) (fun hb33 => ?_) (fun hb33 => ?_)
      · skip
        exact zH_wr (r := none) 0 hz (by rfl) (⟨rfl, hO, fun a ha => by have q := hH a (by omega) ha; rw [show (M 98 4 - 1 - i).toNat = (M 98 4).toNat by omega] at q; exact q⟩)
      · skip
        have hg18 : ∀ b : Int, 0 ≤ b ∧ b < 8 → hR_get M5 18 i b = qA M i b := fun b hb => by rw [show hR_get M5 18 i b = hR_get M 18 i b from by unfold hR_get; rw [hO 18 (by decide), hO (18 + 1) (by decide)], hrA h hT (by omega) hb]; unfold qA; rw [show (350 + 12 * i + b).toNat = 350 + 12 * i.toNat + b.toNat by omega]
        have q01 := hst01 (M := M) (a := qA M i 3)
        have hbs : hBs M a1 a2 i.toNat = true ↔ (qA M i 2 ≤ a1 ∧ (qA M i 3 = -1 ∨ (¬ qA M i 3 = a2 ∧ qStN M (qA M i 3) = 1))) := by unfold hBs; rw [show ((i.toNat : Nat) : Int) = i by omega]; exact decide_eq_true_iff
        have hac := (hC.act i (by omega)).1
        have hrel := hC.rel i (by omega) (by omega)
        have h6a : qA M i 6 < i := hrel.1
        have h6b : qA M i 0 = 5 → 0 ≤ qA M i 6 := hrel.2.1
        clear hrel
        have hby : qA M i 3 < M 98 3 := by have q := h.2.2.2.2.2.2.2.2.1 i.toNat (by omega) (by omega); rw [show 353 + 12 * i.toNat = (350 + 12 * i + 3).toNat by omega] at q; exact q.1
        have ht5 : M5 61 0 = 250 ∧ M5 61 1 = 4 := by rw [hO 61 (by decide)]; exact ht
        have hctI : hCt M a1 a2 (M 98 4).toNat (M 98 4 - 1 - i).toNat i.toNat = true ↔ (hBs M a1 a2 i.toNat = true ∧ M5 62 (4 * i.toNat + 1) = -1) := hS i.toNat (by omega)
        have hCt1 : ∀ a : Nat, hCt M a1 a2 (M 98 4).toNat (M 98 4 - 1 - (i - 1)).toNat a = if hCt M a1 a2 (M 98 4).toNat (M 98 4 - 1 - i).toNat i.toNat = true ∧ qA M i 0 = 5 ∧ qA M i 6 = (a : Int) then false else hCt M a1 a2 (M 98 4).toNat (M 98 4 - 1 - i).toNat a := by intro a; rw [show (M 98 4 - 1 - (i - 1)).toNat = (M 98 4 - 1 - i).toNat + 1 by omega, hCt_s, show (M 98 4).toNat - 1 - (M 98 4 - 1 - i).toNat = i.toNat by omega, show ((i.toNat : Nat) : Int) = i by omega]
        have hst : ∀ m : Int, 0 ≤ m → m < M 98 3 → hf_20_9 M5 m = qStN M m := fun m h1 h2 => by rw [show hf_20_9 M5 m = hf_20_9 M m from by unfold hf_20_9 hR_has hR_get; rw [hO 14 (by decide), hO 16 (by decide), hO (14 + 1) (by decide), hO (16 + 1) (by decide)]; rfl]; exact hm_20 h hT hB (hC.sin _) (by have q := hC.brd m (150 + 5 * m) (by omega) rfl; rw [show (150 + 5 * m : Int) = 150 + 5 * m + 0 by omega] at q; exact q) ⟨h1, h2⟩
        refine zH_wE (c1 := (48, [zR 60, .inl a1, .inl a2, .inl i, u4, u5, u6], [])) 5 hz zp_106 (fh_106_18 i 3) (by rfl) ?_
        show zH n (0, 0) 48 (48, [zR 60, .inl a1, .inl a2, .inl i, u4, u5, u6], [.inl (hR_get M5 18 i 3)]) M5 _
        rw [hg18 3 (by decide)]
        refine zH_w (c' := (50, [zR 60, .inl a1, .inl a2, .inl i, .inl (qA M i 3), u5, u6], [])) 1 hz rfl ?_
        have lp81 : ∀ (va : Int), ((va = 1 ∧ (qA M i 3 = -1 ∨ (¬ qA M i 3 = a2 ∧ qStN M (qA M i 3) = 1))) ∨ (va = 0 ∧ ¬ (qA M i 3 = -1 ∨ (¬ qA M i 3 = a2 ∧ qStN M (qA M i 3) = 1)))) → zH n (0, 0) 48 (81, [zR 60, .inl a1, .inl a2, .inl i, .inl (qA M i 3), .inl va, u6], []) M5 (fun r M' => r = none ∧ (∀ i, i ≠ 62 → M' i = M i) ∧ ∀ a : Nat, (a : Int) < M 98 4 → M' 62 (4 * a) = if hCt M a1 a2 (M 98 4).toNat (M 98 4).toNat a = true then 1 else 0) := by
          intro va hva
          have lp122 : ∀ (ho : Int), ((ho = 1 ∧ (hBs M a1 a2 i.toNat = true ∧ M5 62 (4 * i.toNat + 1) = -1)) ∨ (ho = 0 ∧ ¬ (hBs M a1 a2 i.toNat = true ∧ M5 62 (4 * i.toNat + 1) = -1))) → zH n (0, 0) 48 (122, [zR 60, .inl a1, .inl a2, .inl i, .inl (qA M i 3), .inl va, .inl ho], []) M5 (fun r M' => r = none ∧ (∀ i, i ≠ 62 → M' i = M i) ∧ ∀ a : Nat, (a : Int) < M 98 4 → M' 62 (4 * a) = if hCt M a1 a2 (M 98 4).toNat (M 98 4).toNat a = true then 1 else 0) := by
            intro ho hho
            clear hva q01 hbs hst
            refine zH_w (c' := (130, [zR 60, .inl a1, .inl a2, .inl i, .inl (qA M i 3), .inl va, .inl ho], [.inl ho, .inl 0, .inl i, zR 61])) 5 hz rfl ?_
            refine zH_wf_eq (pc := 130) (n' := 133) (t := 137) (L := [zR 60, .inl a1, .inl a2, .inl i, .inl (qA M i 3), .inl va, .inl ho]) (st := [.inl 0, .inl i, zR 61]) (x := ho) 0 hz (by rfl) (fun hb130 => ?_) (fun hb130 => ?_)
            · skip
              obtain rfl : ho = 0 := hb130
              have hctT := True.intro
              have e2 := True.intro
              have hb159 := True.intro
              have hctF : ¬ hCt M a1 a2 (M 98 4).toNat (M 98 4 - 1 - i).toNat i.toNat = true := fun q => hho.elim (fun p => absurd p.1 (by decide)) (fun p => p.2 (hctI.mp q))
              refine zH_w (c' := (138, [zR 60, .inl a1, .inl a2, .inl i, .inl (qA M i 3), .inl va, .inl 0], [.inl 0, .inl 0, .inl i, zR 61])) 1 hz rfl ?_
              refine zH_wE (c1 := (141, [zR 60, .inl a1, .inl a2, .inl i, .inl (qA M i 3), .inl va, .inl 0], [])) 0 hz zp_107 (fh_107_61 i 0 0) (by rfl) ?_
              show zH n (0, 0) 48 (141, [zR 60, .inl a1, .inl a2, .inl i, .inl (qA M i 3), .inl va, .inl 0], []) (hR_set M5 61 i 0 0) _
              obtain ⟨M7, hM7⟩ : ∃ X : zM, X = (hR_set M5 61 i 0 0) := ⟨_, rfl⟩
              rw [← hM7]
              have e1 := hM7.trans (hS_61 ht5 (by omega) (by decide))
              simp only [Int.reduceToNat, Nat.add_zero] at e1
              have o18 : M7 18 = M5 18 := by rw [e1]; exact zput_oth (by decide)
              have o19 : M7 (18 + 1) = M5 (18 + 1) := by rw [e1]; exact zput_oth (by decide)
              have hg7 : ∀ b : Int, 0 ≤ b ∧ b < 8 → hR_get M7 18 i b = qA M i b := fun b hb => by rw [show hR_get M7 18 i b = hR_get M5 18 i b from by unfold hR_get; rw [o18, o19]]; exact hg18 b hb
              refine zH_w (c' := (32, [zR 60, .inl a1, .inl a2, .inl (i - 1), .inl (qA M i 3), .inl va, .inl 0], [])) 4 hz (by rw [show (.inl (i - 1) : zV) = .inl (w32 (i + (-1))) from by rw [w32_id (by omega)]; rfl]; rfl) ?_
              refine ih32 (i - 1) (.inl (qA M i 3)) (.inl va) (.inl 0) M7 (by omega) ?_ ?_ ?_ ?_
              · omega
              · first | (rw [e2, e1]; exact fun r hr => (zput_oth hr).trans ((zput_oth hr).trans (hO r hr))) | (rw [e1]; exact fun r hr => (zput_oth hr).trans (hO r hr))
              · intro a h1 h2
                rw [hCt1]
                by_cases e : (a : Int) = i
                · have ea : a = i.toNat := by omega
                  rw [hif_n (by intro h; omega), ea]
                  first
                    | (rw [e2, qput_nk (by omega), e1, qput_eq, if_pos hctT])
                    | (rw [e1, qput_eq, if_pos hctT])
                    | (rw [e1, qput_eq, if_neg hctF])
                · rw [hif_n (by intro h; omega)]
                  first
                    | (rw [e2, qput_nk (by omega), e1, qput_nk (by omega)]; exact hH a (by omega) h2)
                    | (rw [e1, qput_nk (by omega)]; exact hH a (by omega) h2)
              · intro a h1
                rw [hCt1]
                have q := hS a (by omega)
                by_cases c : hCt M a1 a2 (M 98 4).toNat (M 98 4 - 1 - i).toNat i.toNat = true ∧ qA M i 0 = 5 ∧ qA M i 6 = (a : Int)
                · rw [hif_y c]
                  refine ⟨fun h => absurd h (by decide), fun h => ?_⟩
                  first
                    | (have h2 := h.2; rw [e2, show 4 * a + 1 = 4 * (qA M i 6).toNat + 1 by omega, qput_eq] at h2; omega)
                    | (exact absurd c.2.1 hb159)
                    | (exact absurd c.1 hctF)
                · rw [hif_n c]
                  first
                    | (rw [e2, qput_nk (by intro h; exact c ⟨hctT, by omega, by omega⟩), e1, qput_nk (by omega)]; exact q)
                    | (rw [e1, qput_nk (by omega)]; exact q)
            · skip
              have hctF := True.intro
              obtain rfl : ho = 1 := by rcases hho with p | p; exact p.1; exact absurd p.1 hb130
              have hctT : hCt M a1 a2 (M 98 4).toNat (M 98 4 - 1 - i).toNat i.toNat = true := hho.elim (fun p => hctI.mpr p.2) (fun p => absurd p.1 (by decide))
              refine zH_w (c' := (138, [zR 60, .inl a1, .inl a2, .inl i, .inl (qA M i 3), .inl va, .inl 1], [.inl 1, .inl 0, .inl i, zR 61])) 2 hz rfl ?_
              refine zH_wE (c1 := (141, [zR 60, .inl a1, .inl a2, .inl i, .inl (qA M i 3), .inl va, .inl 1], [])) 0 hz zp_107 (fh_107_61 i 0 1) (by rfl) ?_
              show zH n (0, 0) 48 (141, [zR 60, .inl a1, .inl a2, .inl i, .inl (qA M i 3), .inl va, .inl 1], []) (hR_set M5 61 i 0 1) _
              obtain ⟨M7, hM7⟩ : ∃ X : zM, X = (hR_set M5 61 i 0 1) := ⟨_, rfl⟩
              rw [← hM7]
              have e1 := hM7.trans (hS_61 ht5 (by omega) (by decide))
              simp only [Int.reduceToNat, Nat.add_zero] at e1
              have o18 : M7 18 = M5 18 := by rw [e1]; exact zput_oth (by decide)
              have o19 : M7 (18 + 1) = M5 (18 + 1) := by rw [e1]; exact zput_oth (by decide)
              have hg7 : ∀ b : Int, 0 ≤ b ∧ b < 8 → hR_get M7 18 i b = qA M i b := fun b hb => by rw [show hR_get M7 18 i b = hR_get M5 18 i b from by unfold hR_get; rw [o18, o19]]; exact hg18 b hb
              refine zH_w (c' := (155, [zR 60, .inl a1, .inl a2, .inl i, .inl (qA M i 3), .inl va, .inl 1], [.inl 0, .inl i, zR 18])) 7 hz rfl ?_
              refine zH_wE (c1 := (158, [zR 60, .inl a1, .inl a2, .inl i, .inl (qA M i 3), .inl va, .inl 1], [])) 0 hz zp_106 (fh_106_18 i 0) (by rfl) ?_
              show zH n (0, 0) 48 (158, [zR 60, .inl a1, .inl a2, .inl i, .inl (qA M i 3), .inl va, .inl 1], [.inl (hR_get M7 18 i 0)]) M7 _
              rw [hg7 0 (by decide)]
              refine zH_w (c' := (159, [zR 60, .inl a1, .inl a2, .inl i, .inl (qA M i 3), .inl va, .inl 1], [.inl 5, .inl (qA M i 0)])) 1 hz rfl ?_
              refine zH_wi_ne (pc := 159) (n' := 162) (t := 184) (L := [zR 60, .inl a1, .inl a2, .inl i, .inl (qA M i 3), .inl va, .inl 1]) (st := []) (x := (qA M i 0)) (y := 5) 0 hz (by rfl) (fun hb159 => ?_) (fun hb159 => ?_)
              · skip
                have e2 := True.intro
                refine zH_w (c' := (32, [zR 60, .inl a1, .inl a2, .inl (i - 1), .inl (qA M i 3), .inl va, .inl 1], [])) 2 hz (by rw [show (.inl (i - 1) : zV) = .inl (w32 (i + (-1))) from by rw [w32_id (by omega)]; rfl]; rfl) ?_
                refine ih32 (i - 1) (.inl (qA M i 3)) (.inl va) (.inl 1) M7 (by omega) ?_ ?_ ?_ ?_
                · omega
                · first | (rw [e2, e1]; exact fun r hr => (zput_oth hr).trans ((zput_oth hr).trans (hO r hr))) | (rw [e1]; exact fun r hr => (zput_oth hr).trans (hO r hr))
                · intro a h1 h2
                  rw [hCt1]
                  by_cases e : (a : Int) = i
                  · have ea : a = i.toNat := by omega
                    rw [hif_n (by intro h; omega), ea]
                    first
                      | (rw [e2, qput_nk (by omega), e1, qput_eq, if_pos hctT])
                      | (rw [e1, qput_eq, if_pos hctT])
                      | (rw [e1, qput_eq, if_neg hctF])
                  · rw [hif_n (by intro h; omega)]
                    first
                      | (rw [e2, qput_nk (by omega), e1, qput_nk (by omega)]; exact hH a (by omega) h2)
                      | (rw [e1, qput_nk (by omega)]; exact hH a (by omega) h2)
                · intro a h1
                  rw [hCt1]
                  have q := hS a (by omega)
                  by_cases c : hCt M a1 a2 (M 98 4).toNat (M 98 4 - 1 - i).toNat i.toNat = true ∧ qA M i 0 = 5 ∧ qA M i 6 = (a : Int)
                  · rw [hif_y c]
                    refine ⟨fun h => absurd h (by decide), fun h => ?_⟩
                    first
                      | (have h2 := h.2; rw [e2, show 4 * a + 1 = 4 * (qA M i 6).toNat + 1 by omega, qput_eq] at h2; omega)
                      | (exact absurd c.2.1 hb159)
                      | (exact absurd c.1 hctF)
                  · rw [hif_n c]
                    first
                      | (rw [e2, qput_nk (by intro h; exact c ⟨hctT, by omega, by omega⟩), e1, qput_nk (by omega)]; exact q)
                      | (rw [e1, qput_nk (by omega)]; exact q)
              · skip
                have h6 : 0 ≤ qA M i 6 := h6b (by omega)
                refine zH_wE (c1 := (179, [zR 60, .inl a1, .inl a2, .inl i, .inl (qA M i 3), .inl va, .inl 1], [zR 61])) 7 hz zp_106 (fh_106_18 i 6) (by rfl) ?_
                show zH n (0, 0) 48 (179, [zR 60, .inl a1, .inl a2, .inl i, .inl (qA M i 3), .inl va, .inl 1], [.inl (hR_get M7 18 i 6), zR 61]) M7 _
                rw [hg7 6 (by decide)]
                refine zH_w (c' := (181, [zR 60, .inl a1, .inl a2, .inl i, .inl (qA M i 3), .inl va, .inl 1], [.inl i, .inl 1, .inl (qA M i 6), zR 61])) 2 hz rfl ?_
                refine zH_wE (c1 := (184, [zR 60, .inl a1, .inl a2, .inl i, .inl (qA M i 3), .inl va, .inl 1], [])) 0 hz zp_107 (fh_107_61 (qA M i 6) 1 i) (by rfl) ?_
                show zH n (0, 0) 48 (184, [zR 60, .inl a1, .inl a2, .inl i, .inl (qA M i 3), .inl va, .inl 1], []) (hR_set M7 61 (qA M i 6) 1 i) _
                obtain ⟨M8, hM8⟩ : ∃ X : zM, X = (hR_set M7 61 (qA M i 6) 1 i) := ⟨_, rfl⟩
                rw [← hM8]
                have ht7 : M7 61 0 = 250 ∧ M7 61 1 = 4 := by rw [e1, zput_oth (by decide)]; exact ht5
                have e2 := hM8.trans (hS_61 ht7 (by omega) (by decide))
                simp only [Int.reduceToNat] at e2
                refine zH_w (c' := (32, [zR 60, .inl a1, .inl a2, .inl (i - 1), .inl (qA M i 3), .inl va, .inl 1], [])) 2 hz (by rw [show (.inl (i - 1) : zV) = .inl (w32 (i + (-1))) from by rw [w32_id (by omega)]; rfl]; rfl) ?_
                refine ih32 (i - 1) (.inl (qA M i 3)) (.inl va) (.inl 1) M8 (by omega) ?_ ?_ ?_ ?_
                · omega
                · first | (rw [e2, e1]; exact fun r hr => (zput_oth hr).trans ((zput_oth hr).trans (hO r hr))) | (rw [e1]; exact fun r hr => (zput_oth hr).trans (hO r hr))
                · intro a h1 h2
                  rw [hCt1]
                  by_cases e : (a : Int) = i
                  · have ea : a = i.toNat := by omega
                    rw [hif_n (by intro h; omega), ea]
                    first
                      | (rw [e2, qput_nk (by omega), e1, qput_eq, if_pos hctT])
                      | (rw [e1, qput_eq, if_pos hctT])
                      | (rw [e1, qput_eq, if_neg hctF])
                  · rw [hif_n (by intro h; omega)]
                    first
                      | (rw [e2, qput_nk (by omega), e1, qput_nk (by omega)]; exact hH a (by omega) h2)
                      | (rw [e1, qput_nk (by omega)]; exact hH a (by omega) h2)
                · intro a h1
                  rw [hCt1]
                  have q := hS a (by omega)
                  by_cases c : hCt M a1 a2 (M 98 4).toNat (M 98 4 - 1 - i).toNat i.toNat = true ∧ qA M i 0 = 5 ∧ qA M i 6 = (a : Int)
                  · rw [hif_y c]
                    refine ⟨fun h => absurd h (by decide), fun h => ?_⟩
                    first
                      | (have h2 := h.2; rw [e2, show 4 * a + 1 = 4 * (qA M i 6).toNat + 1 by omega, qput_eq] at h2; omega)
                      | (exact absurd c.2.1 hb159)
                      | (exact absurd c.1 hctF)
                  · rw [hif_n c]
                    first
                      | (rw [e2, qput_nk (by intro h; exact c ⟨hctT, by omega, by omega⟩), e1, qput_nk (by omega)]; exact q)
                      | (rw [e1, qput_nk (by omega)]; exact q)
          refine zH_w (c' := (83, [zR 60, .inl a1, .inl a2, .inl i, .inl (qA M i 3), .inl va, u6], [.inl va])) 1 hz rfl ?_
          refine zH_wf_eq (pc := 83) (n' := 86) (t := 119) (L := [zR 60, .inl a1, .inl a2, .inl i, .inl (qA M i 3), .inl va, u6]) (st := []) (x := va) 0 hz (by rfl) (fun hb83 => ?_) (fun hb83 => ?_)
          · skip
            refine zH_w (c' := (122, [zR 60, .inl a1, .inl a2, .inl i, .inl (qA M i 3), .inl va, .inl 0], [])) 2 hz rfl ?_
            refine lp122 0 ?_
            · rw [hbs]; omega
          · skip
            refine zH_wE (c1 := (98, [zR 60, .inl a1, .inl a2, .inl i, .inl (qA M i 3), .inl va, u6], [])) 5 hz zp_106 (fh_106_18 i 2) (by rfl) ?_
            show zH n (0, 0) 48 (98, [zR 60, .inl a1, .inl a2, .inl i, .inl (qA M i 3), .inl va, u6], [.inl (hR_get M5 18 i 2)]) M5 _
            rw [hg18 2 (by decide)]
            refine zH_w (c' := (99, [zR 60, .inl a1, .inl a2, .inl i, .inl (qA M i 3), .inl va, u6], [.inl a1, .inl (qA M i 2)])) 1 hz rfl ?_
            refine zH_wi_gt (pc := 99) (n' := 102) (t := 119) (L := [zR 60, .inl a1, .inl a2, .inl i, .inl (qA M i 3), .inl va, u6]) (st := []) (x := (qA M i 2)) (y := a1) 0 hz (by rfl) (fun hb99 => ?_) (fun hb99 => ?_)
            · skip
              refine zH_w (c' := (122, [zR 60, .inl a1, .inl a2, .inl i, .inl (qA M i 3), .inl va, .inl 0], [])) 2 hz rfl ?_
              refine lp122 0 ?_
              · rw [hbs]; omega
            · skip
              refine zH_wE (c1 := (111, [zR 60, .inl a1, .inl a2, .inl i, .inl (qA M i 3), .inl va, u6], [])) 4 hz zp_106 (fh_106_61 i 1) (by rfl) ?_
              show zH n (0, 0) 48 (111, [zR 60, .inl a1, .inl a2, .inl i, .inl (qA M i 3), .inl va, u6], [.inl (hR_get M5 61 i 1)]) M5 _
              rw [show hR_get M5 61 i 1 = M5 62 (4 * i.toNat + 1) from hG_61 ht5 (by omega) (by decide)]
              refine zH_w (c' := (112, [zR 60, .inl a1, .inl a2, .inl i, .inl (qA M i 3), .inl va, u6], [.inl (-1), .inl (M5 62 (4 * i.toNat + 1))])) 1 hz rfl ?_
              refine zH_wi_ne (pc := 112) (n' := 115) (t := 119) (L := [zR 60, .inl a1, .inl a2, .inl i, .inl (qA M i 3), .inl va, u6]) (st := []) (x := (M5 62 (4 * i.toNat + 1))) (y := (-1)) 0 hz (by rfl) (fun hb112 => ?_) (fun hb112 => ?_)
              · skip
                refine zH_w (c' := (122, [zR 60, .inl a1, .inl a2, .inl i, .inl (qA M i 3), .inl va, .inl 0], [])) 2 hz rfl ?_
                refine lp122 0 ?_
                · rw [hbs]; omega
              · skip
                refine zH_w (c' := (122, [zR 60, .inl a1, .inl a2, .inl i, .inl (qA M i 3), .inl va, .inl 1], [])) 3 hz rfl ?_
                refine lp122 1 ?_
                · rw [hbs]; omega
        refine zH_wi_eq (pc := 53) (n' := 56) (t := 74) (L := [zR 60, .inl a1, .inl a2, .inl i, .inl (qA M i 3), u5, u6]) (st := []) (x := (qA M i 3)) (y := (-1)) 2 hz (by rfl) (fun hb53 => ?_) (fun hb53 => ?_)
        · skip
          refine zH_w (c' := (81, [zR 60, .inl a1, .inl a2, .inl i, .inl (qA M i 3), .inl 1, u6], [])) 3 hz rfl ?_
          refine lp81 1 ?_
          · omega
        · skip
          refine zH_wi_eq (pc := 59) (n' := 62) (t := 78) (L := [zR 60, .inl a1, .inl a2, .inl i, .inl (qA M i 3), u5, u6]) (st := []) (x := (qA M i 3)) (y := a2) 2 hz (by rfl) (fun hb59 => ?_) (fun hb59 => ?_)
          · skip
            refine zH_w (c' := (81, [zR 60, .inl a1, .inl a2, .inl i, .inl (qA M i 3), .inl 0, u6], [])) 2 hz rfl ?_
            refine lp81 0 ?_
            · omega
          · skip
            refine zH_wE (c1 := (71, [zR 60, .inl a1, .inl a2, .inl i, .inl (qA M i 3), u5, u6], [])) 3 hz zp_20 (fh_20_9 (qA M i 3)) (by rfl) ?_
            show zH n (0, 0) 48 (71, [zR 60, .inl a1, .inl a2, .inl i, .inl (qA M i 3), u5, u6], [.inl (hf_20_9 M5 (qA M i 3))]) M5 _
            rw [hst (qA M i 3) (by omega) hby]
            refine zH_if_eq hz rfl (fun hb71 => ?_) (fun hb71 => ?_)
            · skip
              refine zH_w (c' := (81, [zR 60, .inl a1, .inl a2, .inl i, .inl (qA M i 3), .inl 0, u6], [])) 2 hz rfl ?_
              refine lp81 0 ?_
              · omega
            · skip
              refine zH_w (c' := (81, [zR 60, .inl a1, .inl a2, .inl i, .inl (qA M i 3), .inl 1, u6], [])) 3 hz rfl ?_
              refine lp81 1 ?_
              · omega
  refine lp32 (252) (M 98 4 - 1) zN zN zN M1 (by omega) ?_ ?_ ?_ ?_
  · omega
  · exact hO1
  · exact fun a h1 h2 => absurd h1 (by omega)
  · intro a h1
    rw [show (M 98 4 - 1 - (M 98 4 - 1)).toNat = 0 by omega]
    have q := hT1 (4 * a + 1)
    rw [if_pos (by simp only [Int.reduceToNat]; omega)] at q
    exact ⟨fun h => ⟨h, q⟩, fun h => h.1⟩
