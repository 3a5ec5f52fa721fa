/-! WHAT IS PASSED, CLASSES: THE MODEL -/
noncomputable def hf_245_97 (M : zM) (a1 : Int) (a2 : Int) (a3 : Int) : Int :=
  (if (hf_182_97 M 1 a1) = 0 then 0 else (if (hf_184 M a2) = 0 then 0 else (if (hf_184 M a3) = 0 then 0 else 1)))
set_option maxRecDepth 100000 in
theorem fh_245_97 {n : Nat} {M : zM} (a1 : Int) (a2 : Int) (a3 : Int) : zH n (0, 0) 245 (0, zini [zR 97, .inl a1, .inl a2, .inl a3] 4, []) M (fun r M' => r = some (.inl (hf_245_97 M a1 a2 a3)) ∧ M' = M) := by
  have hz := zp_245
  have hE : hf_245_97 M a1 a2 a3 = hf_245_97 M a1 a2 a3 := rfl
  show zH n (0, 0) 245 (0, [zR 97, .inl a1, .inl a2, .inl a3], []) M _
  refine zH_wE (c1 := (6, [zR 97, .inl a1, .inl a2, .inl a3], [])) 3 hz zp_182 (fh_182_97 1 a1) (by rfl) ?_
  show zH n (0, 0) 245 (6, [zR 97, .inl a1, .inl a2, .inl a3], [.inl (hf_182_97 M 1 a1)]) M _
  refine zH_wf_eq (pc := 6) (n' := 9) (t := 27) (L := [zR 97, .inl a1, .inl a2, .inl a3]) (st := []) (x := (hf_182_97 M 1 a1)) 0 hz (by rfl) (fun hb => ?_) (fun hb => ?_)
  · have hE := hE.trans (if_pos hb)
    refine zH_w (c' := (28, [zR 97, .inl a1, .inl a2, .inl a3], [.inl 0])) 1 hz rfl ?_
    exact zH_zret hz rfl (hfinP hE)
  · have hE := hE.trans (if_neg hb)
    refine zH_wE (c1 := (13, [zR 97, .inl a1, .inl a2, .inl a3], [])) 1 hz zp_184 (fh_184 a2) (by rfl) ?_
    show zH n (0, 0) 245 (13, [zR 97, .inl a1, .inl a2, .inl a3], [.inl (hf_184 M a2)]) M _
    refine zH_wf_eq (pc := 13) (n' := 16) (t := 27) (L := [zR 97, .inl a1, .inl a2, .inl a3]) (st := []) (x := (hf_184 M a2)) 0 hz (by rfl) (fun hb => ?_) (fun hb => ?_)
    · have hE := hE.trans (if_pos hb)
      refine zH_w (c' := (28, [zR 97, .inl a1, .inl a2, .inl a3], [.inl 0])) 1 hz rfl ?_
      exact zH_zret hz rfl (hfinP hE)
    · have hE := hE.trans (if_neg hb)
      refine zH_wE (c1 := (20, [zR 97, .inl a1, .inl a2, .inl a3], [])) 1 hz zp_184 (fh_184 a3) (by rfl) ?_
      show zH n (0, 0) 245 (20, [zR 97, .inl a1, .inl a2, .inl a3], [.inl (hf_184 M a3)]) M _
      refine zH_wf_eq (pc := 20) (n' := 23) (t := 27) (L := [zR 97, .inl a1, .inl a2, .inl a3]) (st := []) (x := (hf_184 M a3)) 0 hz (by rfl) (fun hb => ?_) (fun hb => ?_)
      · have hE := hE.trans (if_pos hb)
        refine zH_w (c' := (28, [zR 97, .inl a1, .inl a2, .inl a3], [.inl 0])) 1 hz rfl ?_
        exact zH_zret hz rfl (hfinP hE)
      · have hE := hE.trans (if_neg hb)
        refine zH_w (c' := (28, [zR 97, .inl a1, .inl a2, .inl a3], [.inl 1])) 2 hz rfl ?_
        exact zH_zret hz rfl (hfinP hE)
section MJ
variable {Mo M M' : zM} {C : Nat → Bool}
/-- the model while it judges: what counts lies ready -/
noncomputable def mK (Mo : zM) (C : Nat → Bool) (M : zM) : Prop := M 98 = Mo 98 ∧ ∀ a : Nat, (a : Int) < Mo 98 4 → M 101 a = if C a = true then 1 else 0
theorem mK.mv (h : mK Mo C M) (e : M' 98 = M 98) (e2 : M' 101 = M 101) : mK Mo C M' := ⟨e.trans h.1, by rw [e2]; exact h.2⟩
/-- leans on nothing but what is in p -/
theorem j_lean (l p : Int) (hl : 0 ≤ l ∧ l ≤ 16383) (hp : 0 ≤ p ∧ p ≤ 16383) : zband l (zbxor p (-1)) = 0 ↔ zband l p = l := by
  have im : (Int32.ofInt l).toInt = l := by rw [Int32.toInt_ofInt_of_le (by omega) (by omega)]
  have e6 : Int32.ofInt (zbxor p (-1)) = Int32.ofInt p ^^^ Int32.ofInt (-1) := Int32.ofInt_toInt _
  have hm1 : (Int32.ofInt (-1)).toBitVec = BitVec.allOnes 32 := by decide
  constructor
  · intro h
    have h3 : Int32.ofInt l &&& (Int32.ofInt p ^^^ Int32.ofInt (-1)) = 0 := by rw [← e6]; exact Int32.toInt_inj.mp h
    have h4 := congrArg Int32.toBitVec h3
    rw [Int32.toBitVec_and, Int32.toBitVec_xor, hm1] at h4
    have h5 : (Int32.ofInt l).toBitVec &&& (Int32.ofInt p).toBitVec = (Int32.ofInt l).toBitVec := by
      apply BitVec.eq_of_getLsbD_eq
      intro i hi
      have q := congrArg (fun b => b.getLsbD i) h4
      simp only [BitVec.getLsbD_and, BitVec.getLsbD_xor, BitVec.getLsbD_allOnes, decide_eq_true hi] at q
      rw [show (Int32.toBitVec 0).getLsbD i = false from by first | exact BitVec.getLsbD_zero | simp] at q
      simp only [BitVec.getLsbD_and]
      cases hx : (Int32.ofInt l).toBitVec.getLsbD i <;> cases hm : (Int32.ofInt p).toBitVec.getLsbD i <;> rw [hx, hm] at q <;> first | rfl | exact absurd q (by decide)
    have h6 : Int32.ofInt l &&& Int32.ofInt p = Int32.ofInt l := Int32.toBitVec_inj.mp (by rw [Int32.toBitVec_and]; exact h5)
    exact (congrArg Int32.toInt h6).trans im
  · intro h
    have h3 : Int32.ofInt l &&& Int32.ofInt p = Int32.ofInt l := Int32.toInt_inj.mp (h.trans im.symm)
    have h4 := congrArg Int32.toBitVec h3
    rw [Int32.toBitVec_and] at h4
    have h5 : (Int32.ofInt l).toBitVec &&& ((Int32.ofInt p).toBitVec ^^^ BitVec.allOnes 32) = 0#32 := by
      apply BitVec.eq_of_getLsbD_eq
      intro i hi
      have q := congrArg (fun b => b.getLsbD i) h4
      simp only [BitVec.getLsbD_and] at q
      simp only [BitVec.getLsbD_and, BitVec.getLsbD_xor, BitVec.getLsbD_allOnes, decide_eq_true hi, BitVec.getLsbD_zero]
      cases hx : (Int32.ofInt l).toBitVec.getLsbD i <;> cases hm : (Int32.ofInt p).toBitVec.getLsbD i <;> rw [hx, hm] at q <;> first | rfl | exact absurd q (by decide)
    have h6 : Int32.ofInt l &&& (Int32.ofInt p ^^^ Int32.ofInt (-1)) = 0 := Int32.toBitVec_inj.mp (by rw [Int32.toBitVec_and, Int32.toBitVec_xor, hm1]; exact h5)
    show (Int32.ofInt l &&& Int32.ofInt (zbxor p (-1))).toInt = 0
    rw [e6, h6]
    rfl
/-- what lies ready of a student: finals, tries, excused -/
noncomputable def mR (Mo : zM) (C : Nat → Bool) (s : Int) (M : zM) : Prop := ∀ c : Nat, c < 14 → M 102 c = jF Mo C s c ∧ M 103 c = jT Mo C s c ∧ M 104 c = jX Mo C s c
theorem mR.mv {s : Int} (h : mR Mo C s M) (e2 : M' 102 = M 102) (e3 : M' 103 = M 103) (e4 : M' 104 = M 104) : mR Mo C s M' := by
  unfold mR; rw [e2, e3, e4]; exact h
theorem m8 {M1 M' : zM} {a b c d e f g i : Int} (h : M' = zput (zput (zput (zput (zput (zput (zput (zput M1 108 0 a) 108 1 b) 108 2 c) 108 3 d) 108 4 e) 108 5 f) 108 6 g) 108 7 i) : (M' 108 0 = a ∧ M' 108 1 = b ∧ M' 108 2 = c ∧ M' 108 3 = d ∧ M' 108 4 = e ∧ M' 108 5 = f ∧ M' 108 6 = g ∧ M' 108 7 = i) ∧ ∀ r, r ≠ 108 → M' r = M1 r := by
  rw [h]
  refine ⟨⟨?_, ?_, ?_, ?_, ?_, ?_, ?_, qput_eq⟩, fun r hr => by rw [zput_oth hr, zput_oth hr, zput_oth hr, zput_oth hr, zput_oth hr, zput_oth hr, zput_oth hr, zput_oth hr]⟩
  · rw [qput_nk (by decide), qput_nk (by decide), qput_nk (by decide), qput_nk (by decide), qput_nk (by decide), qput_nk (by decide), qput_nk (by decide), qput_eq]
  · rw [qput_nk (by decide), qput_nk (by decide), qput_nk (by decide), qput_nk (by decide), qput_nk (by decide), qput_nk (by decide), qput_eq]
  · rw [qput_nk (by decide), qput_nk (by decide), qput_nk (by decide), qput_nk (by decide), qput_nk (by decide), qput_eq]
  · rw [qput_nk (by decide), qput_nk (by decide), qput_nk (by decide), qput_nk (by decide), qput_eq]
  · rw [qput_nk (by decide), qput_nk (by decide), qput_nk (by decide), qput_eq]
  · rw [qput_nk (by decide), qput_nk (by decide), qput_eq]
  · rw [qput_nk (by decide), qput_eq]
theorem mEc_al {s p : Int} {c : Nat} {d : Int} (h20 : M' 97 20 = 0) (hv : M' 108 0 = jF Mo C s c ∧ M' 108 1 = jT Mo C s c ∧ M' 108 2 = jX Mo C s c ∧ M' 108 3 = d ∧ M' 108 4 = (c : Int) ∧ M' 108 5 = 0 ∧ M' 108 6 = 0 ∧ M' 108 7 = 0) (hd : d = if zband (Mo 98 (21 + 4 * c)) p = Mo 98 (21 + 4 * c) then 1 else 0) : eAl (eMd M') (jEc Mo C s c p) := by
  obtain ⟨v0, v1, v2, v3, v4, v5, v6, v7⟩ := hv
  refine ⟨fun k h1 h2 => ?_, if_pos h20, fun j hj => absurd hj (by rw [show (eMd M').2.1 = 0 from if_pos h20]; omega), if_pos h20⟩
  unfold eMd jEc
  dsimp only
  rcases (by omega : k = 7 ∨ k = 8 ∨ k = 9 ∨ k = 10 ∨ k = 11 ∨ k = 12 ∨ k = 13 ∨ k = 14) with e | e | e | e | e | e | e | e
  · rw [if_pos e, e]; exact v0
  · rw [if_neg (by omega), if_pos e, e]; exact v1
  · rw [if_neg (by omega), if_neg (by omega), if_pos e, e]; exact v2
  · rw [if_neg (by omega), if_neg (by omega), if_neg (by omega), if_pos e, e, ← hd]; exact v3
  · rw [if_neg (by omega), if_neg (by omega), if_neg (by omega), if_neg (by omega), if_pos e, e]; exact v4
  · rw [if_neg (by omega), if_neg (by omega), if_neg (by omega), if_neg (by omega), if_neg (by omega), e]; exact v5
  · rw [if_neg (by omega), if_neg (by omega), if_neg (by omega), if_neg (by omega), if_neg (by omega), e]; exact v6
  · rw [if_neg (by omega), if_neg (by omega), if_neg (by omega), if_neg (by omega), if_neg (by omega), e]; exact v7
theorem mEa_al {S : jSt} {more : Int} (h20 : M' 97 20 = 1) (hv : M' 108 0 = -1 ∧ M' 108 1 = 0 ∧ M' 108 2 = 0 ∧ M' 108 3 = 0 ∧ M' 108 4 = 0 ∧ M' 108 5 = S.1 ∧ M' 108 6 = w64 (jMn S + more) ∧ M' 108 7 = (S.2.2.1 : Int)) (h18 : M' 97 18 = (S.2.2.1 : Int)) (h19 : M' 97 19 = more) (hg : ∀ j : Nat, j < S.2.2.1 → M' 110 j = S.2.2.2 j) : eAl (eMd M') (jEa S more) := by
  obtain ⟨v0, v1, v2, v3, v4, v5, v6, v7⟩ := hv
  have n20 : ¬ M' 97 20 = 0 := by omega
  refine ⟨fun k h1 h2 => ?_, (if_neg n20).trans h18, fun j hj => hg j (by have hj : (j : Int) < (if M' 97 20 = 0 then 0 else M' 97 18) := hj; rw [if_neg n20] at hj; omega), (if_neg n20).trans h19⟩
  unfold eMd jEa
  dsimp only
  rcases (by omega : k = 7 ∨ k = 8 ∨ k = 9 ∨ k = 10 ∨ k = 11 ∨ k = 12 ∨ k = 13 ∨ k = 14) with e | e | e | e | e | e | e | e
  · rw [if_pos e, e]; exact v0
  · rw [if_neg (by omega), if_neg (by omega), if_neg (by omega), if_neg (by omega), e]; exact v1
  · rw [if_neg (by omega), if_neg (by omega), if_neg (by omega), if_neg (by omega), e]; exact v2
  · rw [if_neg (by omega), if_neg (by omega), if_neg (by omega), if_neg (by omega), e]; exact v3
  · rw [if_neg (by omega), if_neg (by omega), if_neg (by omega), if_neg (by omega), e]; exact v4
  · rw [if_neg (by omega), if_pos e, e]; exact v5
  · rw [if_neg (by omega), if_neg (by omega), if_pos e, e]; exact v6
  · rw [if_neg (by omega), if_neg (by omega), if_neg (by omega), if_pos e, e]; exact v7
/-- where no ordinance binds -/
theorem jPlP {s p : Int} {c : Nat} : (eVal (jEc Mo C s c p) pPas = 0) ↔ ¬ (39 < jF Mo C s c ∧ zband (Mo 98 (21 + 4 * c)) p = Mo 98 (21 + 4 * c)) := by
  have e : eVal (jEc Mo C s c p) pPas = eTw 4 (eTw 16 (jF Mo C s c) 39) (if zband (Mo 98 (21 + 4 * c)) p = Mo 98 (21 + 4 * c) then 1 else 0) := rfl
  rw [e]
  unfold eTw
  simp only [Int.reduceEq, ↓reduceIte]
  by_cases h1 : 39 < jF Mo C s c
  · by_cases h2 : zband (Mo 98 (21 + 4 * c)) p = Mo 98 (21 + 4 * c)
    · rw [if_pos h1, if_pos h2]; exact ⟨fun z => absurd z (by decide), fun z => absurd ⟨h1, h2⟩ z⟩
    · rw [if_pos h1, if_neg h2]; exact ⟨fun _ z => h2 z.2, fun _ => rfl⟩
  · rw [if_neg h1]; exact ⟨fun _ z => h1 z.1, fun _ => by split <;> rfl⟩
theorem jPlC {S : jSt} {more : Int} : eVal (jEa S more) pCls = w64 (S.1.tdiv 10) := by
  have e : eVal (jEa S more) pCls = eTw 21 S.1 10 := rfl
  rw [e]
  unfold eTw
  simp only [Int.reduceEq, ↓reduceIte]
/-- a text that binds: what it says -/
noncomputable def jMd (M : zM) (o : Int) (k : Nat) (O : List Int) : Prop := (O.length ≤ 80 ∧ (∀ x ∈ O, eOk x)) ∧ o < 10 ∧ eD O = 1 ∧ ∃ (c : Nat → Int) (L : Nat), M 98 (4000 + 164 * o.toNat + k) = (L : Int) ∧ L ≤ 80 ∧ (∀ j, j < L → M 98 (4000 + 164 * o.toNat + k + 1 + j) = c j) ∧ xFt c L = -1 ∧ O = xTd c L
noncomputable def jMs (M : zM) (P Q : Int → List Int) : Prop := (P (-1) = pPas ∧ Q (-1) = pCls) ∧ ∀ o : Int, 0 ≤ o → o < M 98 5 → jMd M o 0 (P o) ∧ jMd M o 81 (Q o)
noncomputable def mH (Mo : zM) (P Q : Int → List Int) : Prop := qMI Mo ∧ (∀ o : Nat, (o : Int) < Mo 98 5 → 0 ≤ Mo 98 (4162 + 164 * o)) ∧ (∀ a : Int, 0 ≤ a ∧ a < 250 → -1 ≤ qA Mo a 7 ∧ qA Mo a 7 ≤ 100) ∧ (∀ a : Int, 0 ≤ a ∧ a < 250 → 0 ≤ qA Mo a 1) ∧ (∀ s d : Int, 0 ≤ s ∧ s < Mo 98 1 → -1 ≤ oBi (Mo 98) s d ∧ (oBi (Mo 98) s d < Mo 98 5 ∨ oBi (Mo 98) s d = -1)) ∧ jMs Mo P Q
/-- what was read last: O -/
noncomputable def mT (O : List Int) (M : zM) : Prop := M 97 7 = (O.length : Int) ∧ yC (M 105) (M 106) O
theorem mT.mv {O : List Int} (h : mT O M) (e7 : M' 97 7 = M 97 7) (e5 : M' 105 = M 105) (e6 : M' 106 = M 106) : mT O M' := by unfold mT; rw [e7, e5, e6]; exact h
/-- what was found of a student -/
noncomputable def mFo (S : jSt) (M : zM) : Prop := M 97 22 = S.1 ∧ M 97 23 = jMn S ∧ M 97 18 = (S.2.2.1 : Int) ∧ ∀ j : Nat, j < S.2.2.1 → M 110 j = S.2.2.2 j
theorem mFo.mv {S : jSt} (h : mFo S M) (e : ∀ j, 22 ≤ j → j ≤ 23 → M' 97 j = M 97 j) (e8 : M' 97 18 = M 97 18) (e0 : M' 110 = M 110) : mFo S M' := by unfold mFo; rw [e 22 (by decide) (by decide), e 23 (by decide) (by decide), e8, e0]; exact h
theorem w64_ww (x : Int) : w64 (w64 x) = w64 x := by unfold w64; omega
theorem m_bst {r : Int} {g : Nat → Int} {x : Int} : w64 (eBst r g x + 0) = eBst r g x := by
  unfold eBst
  rw [Int.add_zero]
  split
  · rfl
  · exact w64_ww _
theorem j_or0 {x : Int} (h : 0 ≤ x ∧ x ≤ 16383) : zbor x 0 = x := by
  rw [qbor_N x 0 (by omega) (by omega), show (0 : Int).toNat = 0 from rfl, Nat.or_zero]
  omega
theorem hq_245 (h : hBd M) {a b c : Int} : hf_245_97 M a b c = 0 ↔ ¬ ((0 ≤ a ∧ a < M 98 1) ∧ (0 ≤ b ∧ b ≤ 9999) ∧ 0 ≤ c ∧ c ≤ 9999) := by
  have e1 := hq_182_1 h (a := a)
  have e2 := hq_184 (M := M) (a := b)
  have e3 := hq_184 (M := M) (a := c)
  unfold hf_245_97
  (repeat' split) <;> omega
theorem mBd (h : qMI M) : hBd M := ⟨h.cnt0, h.cnt1, h.cnt2, h.cnt3, h.cnt4, h.cnt5, h.cnt6⟩
/-- the index of the hearing that the roll goes by -/
noncomputable def jOi (M : zM) (C : Nat → Bool) (s d : Int) : Nat → Int
  | 0 => -1
  | n + 1 => if C n = true ∧ qA M (n : Int) 0 = 6 ∧ qA M (n : Int) 4 = s ∧ qA M (n : Int) 1 ≤ d then (if jOi M C s d n = -1 ∨ ¬ qA M (n : Int) 1 < qA M (jOi M C s d n) 1 then (n : Int) else jOi M C s d n) else jOi M C s d n
theorem jOi_s (M : zM) (C : Nat → Bool) (s d : Int) (n : Nat) : jOi M C s d (n + 1) = if C n = true ∧ qA M (n : Int) 0 = 6 ∧ qA M (n : Int) 4 = s ∧ qA M (n : Int) 1 ≤ d then (if jOi M C s d n = -1 ∨ ¬ qA M (n : Int) 1 < qA M (jOi M C s d n) 1 then (n : Int) else jOi M C s d n) else jOi M C s d n := rfl
theorem jOi_on {M : zM} (hD : ∀ a : Int, 0 ≤ a ∧ a < 250 → 0 ≤ qA M a 1) (C : Nat → Bool) (s d : Int) : ∀ n : Nat, n ≤ 250 → (jOi M C s d n = -1 ∧ jOn M C s d n = -1) ∨ (0 ≤ jOi M C s d n ∧ jOi M C s d n < (n : Int) ∧ jOn M C s d n = qA M (jOi M C s d n) 1)
  | 0, _ => .inl ⟨rfl, rfl⟩
  | n + 1, hn => by
    have q := jOi_on hD C s d n (by omega)
    have hd := hD (n : Int) (by omega)
    rw [jOi_s, jOn_s]
    by_cases c : C n = true ∧ qA M (n : Int) 0 = 6 ∧ qA M (n : Int) 4 = s ∧ qA M (n : Int) 1 ≤ d
    · rw [if_pos c, if_pos c]
      rcases q with ⟨q1, q2⟩ | ⟨q1, q2, q3⟩
      · rw [if_pos (.inl q1), q2, if_pos (by omega)]
        exact .inr ⟨by omega, by omega, rfl⟩
      · have hd2 := hD _ ⟨q1, by omega⟩
        by_cases c2 : qA M (n : Int) 1 < qA M (jOi M C s d n) 1
        · rw [if_neg (fun z => z.elim (by omega) (fun z => z c2)), if_neg (by omega)]
          exact .inr ⟨q1, by omega, q3⟩
        · rw [if_pos (.inr c2)]
          refine .inr ⟨by omega, by omega, ?_⟩
          rw [q3]
          split <;> omega
    · rw [if_neg c, if_neg c]
      rcases q with q | ⟨q1, q2, q3⟩
      · exact .inl q
      · exact .inr ⟨q1, by omega, q3⟩
set_option maxRecDepth 100000 in
theorem m231 {n : Nat} {Mo M : zM} {o : Int} {k : Nat} {O : List Int} (hd : jMd Mo o k O) (ho : 0 ≤ o) (hk : k ≤ 81) (e98 : M 98 = Mo 98) (a : Int) (ha : a = 4000 + 164 * o + (k : Int)) : zH n (0, 0) 231 (0, zini [zR 97, .inl a] 8, []) M (fun r M' => r = some (.inl (-1)) ∧ (∀ r, r ≠ 97 → r ≠ 105 → r ≠ 106 → r ≠ 107 → M' r = M r) ∧ (∀ j, 17 ≤ j → M' 97 j = M 97 j) ∧ mT O M') := by
  obtain ⟨-, h10, -, c, L, h1, hL, hc, hF, hO⟩ := hd
  refine (fh_231_97 (Mo := M) (c := c) (L := L) (b := 4000 + 164 * o.toNat + k) (by rw [e98]; exact h1) hL (by omega) (fun j hj => by rw [e98]; exact hc j hj) (fun _ _ _ _ _ => rfl) (fun _ _ => rfl) a (by omega)).mono (fun r M' h => ?_)
  obtain ⟨hr, hy, hs⟩ := h
  obtain ⟨s1, s2, s3, s4, s5⟩ := hs hF
  have hm : mT (xTd c L) M' := by rw [xTd_81]; exact ⟨s2.1, s4⟩
  exact ⟨hr.trans (by rw [hF]), hy, s5, by rw [hO]; exact hm⟩
end MJ
set_option maxRecDepth 100000 in
theorem fh_238_97 {n : Nat} {M : zM} {Mo : zM} {C : Nat → Bool} (h : mK Mo C M) {s : Int} (hR : mR Mo C s M) (a1 : Int) {c : Nat} (h1 : a1 = (c : Int)) (hc : c < 14) {p : Int} (hp : M 97 21 = p) (hpr : 0 ≤ p ∧ p ≤ 16383) (hl : 0 ≤ Mo 98 (21 + 4 * c) ∧ Mo 98 (21 + 4 * c) ≤ 16383) : zH n (0, 0) 238 (0, zini [zR 97, .inl a1] 3, []) M (fun r M' => r = none ∧ (∀ r, r ≠ 97 → r ≠ 108 → M' r = M r) ∧ (∀ j, j ≠ 20 → M' 97 j = M 97 j) ∧ eAl (eMd M') (jEc Mo C s c p)) := by
  have hz := zp_238
  show zH n (0, 0) 238 (0, [zR 97, .inl a1, zN], []) M _
  refine zH_w (c' := (2, [zR 97, .inl a1, zN], [.inl 0, zR 97])) 2 hz rfl ?_
  refine zH_putz hz rfl (by decide) rfl rfl ?_
  show zH n (0, 0) 238 (5, [zR 97, .inl a1, zN], []) (zput M 97 20 0) _
  refine zH_w (c' := (17, [zR 97, .inl a1, zN], [.inl (w32 ((w32 (20 + (w32 (4 * a1)))) + 1)), zR 98])) 9 hz rfl ?_
  refine zH_iald hz rfl rfl (.inl rfl) (fun hin17 => ?_)
  show zH n (0, 0) 238 (18, [zR 97, .inl a1, zN], [.inl ((zput M 97 20 0) 98 (w32 ((w32 (20 + (w32 (4 * a1)))) + 1) : Int).toNat)]) (zput M 97 20 0) _
  rw [show (zput M 97 20 0) 98 (w32 ((w32 (20 + (w32 (4 * a1)))) + 1) : Int).toNat = Mo 98 (21 + 4 * c) from by rw [zput_oth (show (98 : Nat) ≠ 97 by decide), h.1, w32_id (x := 4 * a1) (by omega), w32_id (x := 20 + 4 * a1) (by omega), w32_id (by omega)]; exact congrArg (Mo 98) (by omega)]
  refine zH_w (c' := (29, [zR 97, .inl a1, .inl (Mo 98 (21 + 4 * c))], [.inl a1, zR 102, .inl 0, zR 108])) 7 hz rfl ?_
  refine zH_iald hz rfl rfl (.inl rfl) (fun hin29 => ?_)
  show zH n (0, 0) 238 (30, [zR 97, .inl a1, .inl (Mo 98 (21 + 4 * c))], [.inl ((zput M 97 20 0) 102 (a1 : Int).toNat), .inl 0, zR 108]) (zput M 97 20 0) _
  rw [show (zput M 97 20 0) 102 (a1 : Int).toNat = jF Mo C s c from by rw [zput_oth (show (102 : Nat) ≠ 97 by decide), h1, Int.toNat_natCast]; exact (hR c hc).1]
  refine zH_w (c' := (31, [zR 97, .inl a1, .inl (Mo 98 (21 + 4 * c))], [.inr (.inl (jF Mo C s c)), .inl 0, zR 108])) 1 hz rfl ?_
  refine zH_last hz rfl rfl (fun hin31 => ?_)
  show zH n (0, 0) 238 (32, [zR 97, .inl a1, .inl (Mo 98 (21 + 4 * c))], []) (zput (zput M 97 20 0) 108 (0 : Int).toNat (jF Mo C s c)) _
  refine zH_w (c' := (42, [zR 97, .inl a1, .inl (Mo 98 (21 + 4 * c))], [.inl a1, zR 103, .inl 1, zR 108])) 6 hz rfl ?_
  refine zH_iald hz rfl rfl (.inl rfl) (fun hin42 => ?_)
  show zH n (0, 0) 238 (43, [zR 97, .inl a1, .inl (Mo 98 (21 + 4 * c))], [.inl ((zput (zput M 97 20 0) 108 (0 : Int).toNat (jF Mo C s c)) 103 (a1 : Int).toNat), .inl 1, zR 108]) (zput (zput M 97 20 0) 108 (0 : Int).toNat (jF Mo C s c)) _
  rw [show (zput (zput M 97 20 0) 108 (0 : Int).toNat (jF Mo C s c)) 103 (a1 : Int).toNat = jT Mo C s c from by rw [zput_oth (show (103 : Nat) ≠ 108 by decide), zput_oth (show (103 : Nat) ≠ 97 by decide), h1, Int.toNat_natCast]; exact (hR c hc).2.1]
  refine zH_w (c' := (44, [zR 97, .inl a1, .inl (Mo 98 (21 + 4 * c))], [.inr (.inl (jT Mo C s c)), .inl 1, zR 108])) 1 hz rfl ?_
  refine zH_last hz rfl rfl (fun hin44 => ?_)
  show zH n (0, 0) 238 (45, [zR 97, .inl a1, .inl (Mo 98 (21 + 4 * c))], []) (zput (zput (zput M 97 20 0) 108 (0 : Int).toNat (jF Mo C s c)) 108 (1 : Int).toNat (jT Mo C s c)) _
  refine zH_w (c' := (55, [zR 97, .inl a1, .inl (Mo 98 (21 + 4 * c))], [.inl a1, zR 104, .inl 2, zR 108])) 6 hz rfl ?_
  refine zH_iald hz rfl rfl (.inl rfl) (fun hin55 => ?_)
  show zH n (0, 0) 238 (56, [zR 97, .inl a1, .inl (Mo 98 (21 + 4 * c))], [.inl ((zput (zput (zput M 97 20 0) 108 (0 : Int).toNat (jF Mo C s c)) 108 (1 : Int).toNat (jT Mo C s c)) 104 (a1 : Int).toNat), .inl 2, zR 108]) (zput (zput (zput M 97 20 0) 108 (0 : Int).toNat (jF Mo C s c)) 108 (1 : Int).toNat (jT Mo C s c)) _
  rw [show (zput (zput (zput M 97 20 0) 108 (0 : Int).toNat (jF Mo C s c)) 108 (1 : Int).toNat (jT Mo C s c)) 104 (a1 : Int).toNat = jX Mo C s c from by rw [zput_oth (show (104 : Nat) ≠ 108 by decide), zput_oth (show (104 : Nat) ≠ 108 by decide), zput_oth (show (104 : Nat) ≠ 97 by decide), h1, Int.toNat_natCast]; exact (hR c hc).2.2]
  refine zH_w (c' := (57, [zR 97, .inl a1, .inl (Mo 98 (21 + 4 * c))], [.inr (.inl (jX Mo C s c)), .inl 2, zR 108])) 1 hz rfl ?_
  refine zH_last hz rfl rfl (fun hin57 => ?_)
  show zH n (0, 0) 238 (58, [zR 97, .inl a1, .inl (Mo 98 (21 + 4 * c))], []) (zput (zput (zput (zput M 97 20 0) 108 (0 : Int).toNat (jF Mo C s c)) 108 (1 : Int).toNat (jT Mo C s c)) 108 (2 : Int).toNat (jX Mo C s c)) _
  refine zH_w (c' := (68, [zR 97, .inl a1, .inl (Mo 98 (21 + 4 * c))], [.inl ((zput (zput (zput (zput M 97 20 0) 108 (0 : Int).toNat (jF Mo C s c)) 108 (1 : Int).toNat (jT Mo C s c)) 108 (2 : Int).toNat (jX Mo C s c)) 97 21), .inl (Mo 98 (21 + 4 * c)), .inl 3, zR 108])) 6 hz rfl ?_
  rw [show (zput (zput (zput (zput M 97 20 0) 108 (0 : Int).toNat (jF Mo C s c)) 108 (1 : Int).toNat (jT Mo C s c)) 108 (2 : Int).toNat (jX Mo C s c)) 97 21 = p from hp]
  refine zH_w (c' := (71, [zR 97, .inl a1, .inl (Mo 98 (21 + 4 * c))], [.inl (zband (Mo 98 (21 + 4 * c)) (zbxor p (-1))), .inl 3, zR 108])) 3 hz rfl ?_
  refine zH_wf_ne (pc := 71) (n' := 74) (t := 78) (L := [zR 97, .inl a1, .inl (Mo 98 (21 + 4 * c))]) (st := [.inl 3, zR 108]) (x := (zband (Mo 98 (21 + 4 * c)) (zbxor p (-1)))) 0 hz (by rfl) (fun hb71 => ?_) (fun hb71 => ?_)
  · skip
    have hdd : (0 : Int) = if zband (Mo 98 (21 + 4 * c)) p = Mo 98 (21 + 4 * c) then 1 else 0 := by rw [if_neg (fun q => hb71 ((j_lean _ _ hl hpr).mpr q))]
    refine zH_w (c' := (79, [zR 97, .inl a1, .inl (Mo 98 (21 + 4 * c))], [.inr (.inl 0), .inl 3, zR 108])) 1 hz rfl ?_
    refine zH_last hz rfl rfl (fun hin79 => ?_)
    show zH n (0, 0) 238 (80, [zR 97, .inl a1, .inl (Mo 98 (21 + 4 * c))], []) (zput (zput (zput (zput (zput M 97 20 0) 108 (0 : Int).toNat (jF Mo C s c)) 108 (1 : Int).toNat (jT Mo C s c)) 108 (2 : Int).toNat (jX Mo C s c)) 108 (3 : Int).toNat 0) _
    refine zH_w (c' := (87, [zR 97, .inl a1, .inl (Mo 98 (21 + 4 * c))], [.inr (.inl a1), .inl 4, zR 108])) 5 hz rfl ?_
    refine zH_last hz rfl rfl (fun hin87 => ?_)
    show zH n (0, 0) 238 (88, [zR 97, .inl a1, .inl (Mo 98 (21 + 4 * c))], []) (zput (zput (zput (zput (zput (zput M 97 20 0) 108 (0 : Int).toNat (jF Mo C s c)) 108 (1 : Int).toNat (jT Mo C s c)) 108 (2 : Int).toNat (jX Mo C s c)) 108 (3 : Int).toNat 0) 108 (4 : Int).toNat a1) _
    refine zH_w (c' := (94, [zR 97, .inl a1, .inl (Mo 98 (21 + 4 * c))], [.inr (.inl 0), .inl 5, zR 108])) 4 hz rfl ?_
    refine zH_last hz rfl rfl (fun hin94 => ?_)
    show zH n (0, 0) 238 (95, [zR 97, .inl a1, .inl (Mo 98 (21 + 4 * c))], []) (zput (zput (zput (zput (zput (zput (zput M 97 20 0) 108 (0 : Int).toNat (jF Mo C s c)) 108 (1 : Int).toNat (jT Mo C s c)) 108 (2 : Int).toNat (jX Mo C s c)) 108 (3 : Int).toNat 0) 108 (4 : Int).toNat a1) 108 (5 : Int).toNat 0) _
    refine zH_w (c' := (102, [zR 97, .inl a1, .inl (Mo 98 (21 + 4 * c))], [.inr (.inl 0), .inl 6, zR 108])) 4 hz rfl ?_
    refine zH_last hz rfl rfl (fun hin102 => ?_)
    show zH n (0, 0) 238 (103, [zR 97, .inl a1, .inl (Mo 98 (21 + 4 * c))], []) (zput (zput (zput (zput (zput (zput (zput (zput M 97 20 0) 108 (0 : Int).toNat (jF Mo C s c)) 108 (1 : Int).toNat (jT Mo C s c)) 108 (2 : Int).toNat (jX Mo C s c)) 108 (3 : Int).toNat 0) 108 (4 : Int).toNat a1) 108 (5 : Int).toNat 0) 108 (6 : Int).toNat 0) _
    refine zH_w (c' := (110, [zR 97, .inl a1, .inl (Mo 98 (21 + 4 * c))], [.inr (.inl 0), .inl 7, zR 108])) 4 hz rfl ?_
    refine zH_last hz rfl rfl (fun hin110 => ?_)
    show zH n (0, 0) 238 (111, [zR 97, .inl a1, .inl (Mo 98 (21 + 4 * c))], []) (zput (zput (zput (zput (zput (zput (zput (zput (zput M 97 20 0) 108 (0 : Int).toNat (jF Mo C s c)) 108 (1 : Int).toNat (jT Mo C s c)) 108 (2 : Int).toNat (jX Mo C s c)) 108 (3 : Int).toNat 0) 108 (4 : Int).toNat a1) 108 (5 : Int).toNat 0) 108 (6 : Int).toNat 0) 108 (7 : Int).toNat 0) _
    obtain ⟨M9, hM9⟩ : ∃ X : zM, X = zput (zput (zput (zput (zput (zput (zput (zput (zput M 97 20 0) 108 (0 : Int).toNat (jF Mo C s c)) 108 (1 : Int).toNat (jT Mo C s c)) 108 (2 : Int).toNat (jX Mo C s c)) 108 (3 : Int).toNat 0) 108 (4 : Int).toNat a1) 108 (5 : Int).toNat 0) 108 (6 : Int).toNat 0) 108 (7 : Int).toNat 0 := ⟨_, rfl⟩
    rw [← hM9]
    have q := m8 (M1 := zput M 97 20 0) hM9
    rw [h1] at q
    exact zH_ret hz rfl rfl (⟨rfl, fun r q1 q2 => (q.2 r q2).trans (zput_oth q1), fun j hj => (congrFun (q.2 97 (by decide)) j).trans (qput_nk hj), mEc_al ((congrFun (q.2 97 (by decide)) 20).trans qput_eq) q.1 hdd⟩)
  · skip
    have hdd : (1 : Int) = if zband (Mo 98 (21 + 4 * c)) p = Mo 98 (21 + 4 * c) then 1 else 0 := by rw [if_pos ((j_lean _ _ hl hpr).mp (Decidable.byContradiction hb71))]
    refine zH_w (c' := (79, [zR 97, .inl a1, .inl (Mo 98 (21 + 4 * c))], [.inr (.inl 1), .inl 3, zR 108])) 2 hz rfl ?_
    refine zH_last hz rfl rfl (fun hin79 => ?_)
    show zH n (0, 0) 238 (80, [zR 97, .inl a1, .inl (Mo 98 (21 + 4 * c))], []) (zput (zput (zput (zput (zput M 97 20 0) 108 (0 : Int).toNat (jF Mo C s c)) 108 (1 : Int).toNat (jT Mo C s c)) 108 (2 : Int).toNat (jX Mo C s c)) 108 (3 : Int).toNat 1) _
    refine zH_w (c' := (87, [zR 97, .inl a1, .inl (Mo 98 (21 + 4 * c))], [.inr (.inl a1), .inl 4, zR 108])) 5 hz rfl ?_
    refine zH_last hz rfl rfl (fun hin87 => ?_)
    show zH n (0, 0) 238 (88, [zR 97, .inl a1, .inl (Mo 98 (21 + 4 * c))], []) (zput (zput (zput (zput (zput (zput M 97 20 0) 108 (0 : Int).toNat (jF Mo C s c)) 108 (1 : Int).toNat (jT Mo C s c)) 108 (2 : Int).toNat (jX Mo C s c)) 108 (3 : Int).toNat 1) 108 (4 : Int).toNat a1) _
    refine zH_w (c' := (94, [zR 97, .inl a1, .inl (Mo 98 (21 + 4 * c))], [.inr (.inl 0), .inl 5, zR 108])) 4 hz rfl ?_
    refine zH_last hz rfl rfl (fun hin94 => ?_)
    show zH n (0, 0) 238 (95, [zR 97, .inl a1, .inl (Mo 98 (21 + 4 * c))], []) (zput (zput (zput (zput (zput (zput (zput M 97 20 0) 108 (0 : Int).toNat (jF Mo C s c)) 108 (1 : Int).toNat (jT Mo C s c)) 108 (2 : Int).toNat (jX Mo C s c)) 108 (3 : Int).toNat 1) 108 (4 : Int).toNat a1) 108 (5 : Int).toNat 0) _
    refine zH_w (c' := (102, [zR 97, .inl a1, .inl (Mo 98 (21 + 4 * c))], [.inr (.inl 0), .inl 6, zR 108])) 4 hz rfl ?_
    refine zH_last hz rfl rfl (fun hin102 => ?_)
    show zH n (0, 0) 238 (103, [zR 97, .inl a1, .inl (Mo 98 (21 + 4 * c))], []) (zput (zput (zput (zput (zput (zput (zput (zput M 97 20 0) 108 (0 : Int).toNat (jF Mo C s c)) 108 (1 : Int).toNat (jT Mo C s c)) 108 (2 : Int).toNat (jX Mo C s c)) 108 (3 : Int).toNat 1) 108 (4 : Int).toNat a1) 108 (5 : Int).toNat 0) 108 (6 : Int).toNat 0) _
    refine zH_w (c' := (110, [zR 97, .inl a1, .inl (Mo 98 (21 + 4 * c))], [.inr (.inl 0), .inl 7, zR 108])) 4 hz rfl ?_
    refine zH_last hz rfl rfl (fun hin110 => ?_)
    show zH n (0, 0) 238 (111, [zR 97, .inl a1, .inl (Mo 98 (21 + 4 * c))], []) (zput (zput (zput (zput (zput (zput (zput (zput (zput M 97 20 0) 108 (0 : Int).toNat (jF Mo C s c)) 108 (1 : Int).toNat (jT Mo C s c)) 108 (2 : Int).toNat (jX Mo C s c)) 108 (3 : Int).toNat 1) 108 (4 : Int).toNat a1) 108 (5 : Int).toNat 0) 108 (6 : Int).toNat 0) 108 (7 : Int).toNat 0) _
    obtain ⟨M9, hM9⟩ : ∃ X : zM, X = zput (zput (zput (zput (zput (zput (zput (zput (zput M 97 20 0) 108 (0 : Int).toNat (jF Mo C s c)) 108 (1 : Int).toNat (jT Mo C s c)) 108 (2 : Int).toNat (jX Mo C s c)) 108 (3 : Int).toNat 1) 108 (4 : Int).toNat a1) 108 (5 : Int).toNat 0) 108 (6 : Int).toNat 0) 108 (7 : Int).toNat 0 := ⟨_, rfl⟩
    rw [← hM9]
    have q := m8 (M1 := zput M 97 20 0) hM9
    rw [h1] at q
    exact zH_ret hz rfl rfl (⟨rfl, fun r q1 q2 => (q.2 r q2).trans (zput_oth q1), fun j hj => (congrFun (q.2 97 (by decide)) j).trans (qput_nk hj), mEc_al ((congrFun (q.2 97 (by decide)) 20).trans qput_eq) q.1 hdd⟩)
set_option maxRecDepth 100000 in
theorem fh_239_97 {n : Nat} {M : zM} {S : jSt} {more : Int} (hS : mFo S M) (h19 : M 97 19 = more) : zH n (0, 0) 239 (0, zini [zR 97] 2, []) M (fun r M' => r = none ∧ (∀ r, r ≠ 97 → r ≠ 108 → M' r = M r) ∧ (∀ j, j ≠ 20 → M' 97 j = M 97 j) ∧ eAl (eMd M') (jEa S more)) := by
  have hz := zp_239
  show zH n (0, 0) 239 (0, [zR 97, zN], []) M _
  refine zH_w (c' := (2, [zR 97, zN], [.inl 1, zR 97])) 2 hz rfl ?_
  refine zH_putz hz rfl (by decide) rfl rfl ?_
  show zH n (0, 0) 239 (5, [zR 97, zN], []) (zput M 97 20 1) _
  refine zH_w (c' := (13, [zR 97, zN], [.inr (.inl (-1)), .inl 0, zR 108])) 4 hz rfl ?_
  refine zH_last hz rfl rfl (fun hin13 => ?_)
  show zH n (0, 0) 239 (14, [zR 97, zN], []) (zput (zput M 97 20 1) 108 (0 : Int).toNat (-1)) _
  refine zH_w (c' := (27, [zR 97, .inl 1], [.inr (.inl 0), .inl 1, zR 108])) 9 hz rfl ?_
  refine zH_last hz rfl rfl (fun hin27 => ?_)
  show zH n (0, 0) 239 (28, [zR 97, .inl 1], []) (zput (zput (zput M 97 20 1) 108 (0 : Int).toNat (-1)) 108 (1 : Int).toNat 0) _
  refine zH_w (c' := (27, [zR 97, .inl 2], [.inr (.inl 0), .inl 2, zR 108])) 9 hz rfl ?_
  refine zH_last hz rfl rfl (fun hin27 => ?_)
  show zH n (0, 0) 239 (28, [zR 97, .inl 2], []) (zput (zput (zput (zput M 97 20 1) 108 (0 : Int).toNat (-1)) 108 (1 : Int).toNat 0) 108 (2 : Int).toNat 0) _
  refine zH_w (c' := (27, [zR 97, .inl 3], [.inr (.inl 0), .inl 3, zR 108])) 9 hz rfl ?_
  refine zH_last hz rfl rfl (fun hin27 => ?_)
  show zH n (0, 0) 239 (28, [zR 97, .inl 3], []) (zput (zput (zput (zput (zput M 97 20 1) 108 (0 : Int).toNat (-1)) 108 (1 : Int).toNat 0) 108 (2 : Int).toNat 0) 108 (3 : Int).toNat 0) _
  refine zH_w (c' := (27, [zR 97, .inl 4], [.inr (.inl 0), .inl 4, zR 108])) 9 hz rfl ?_
  refine zH_last hz rfl rfl (fun hin27 => ?_)
  show zH n (0, 0) 239 (28, [zR 97, .inl 4], []) (zput (zput (zput (zput (zput (zput M 97 20 1) 108 (0 : Int).toNat (-1)) 108 (1 : Int).toNat 0) 108 (2 : Int).toNat 0) 108 (3 : Int).toNat 0) 108 (4 : Int).toNat 0) _
  refine zH_w (c' := (43, [zR 97, .inl 5], [.inr (.inl ((zput (zput (zput (zput (zput (zput M 97 20 1) 108 (0 : Int).toNat (-1)) 108 (1 : Int).toNat 0) 108 (2 : Int).toNat 0) 108 (3 : Int).toNat 0) 108 (4 : Int).toNat 0) 97 22)), .inl 5, zR 108])) 10 hz rfl ?_
  rw [show (zput (zput (zput (zput (zput (zput M 97 20 1) 108 (0 : Int).toNat (-1)) 108 (1 : Int).toNat 0) 108 (2 : Int).toNat 0) 108 (3 : Int).toNat 0) 108 (4 : Int).toNat 0) 97 22 = S.1 from hS.1]
  refine zH_last hz rfl rfl (fun hin43 => ?_)
  show zH n (0, 0) 239 (44, [zR 97, .inl 5], []) (zput (zput (zput (zput (zput (zput (zput M 97 20 1) 108 (0 : Int).toNat (-1)) 108 (1 : Int).toNat 0) 108 (2 : Int).toNat 0) 108 (3 : Int).toNat 0) 108 (4 : Int).toNat 0) 108 (5 : Int).toNat S.1) _
  refine zH_w (c' := (54, [zR 97, .inl 5], [.inr (.inl ((zput (zput (zput (zput (zput (zput (zput M 97 20 1) 108 (0 : Int).toNat (-1)) 108 (1 : Int).toNat 0) 108 (2 : Int).toNat 0) 108 (3 : Int).toNat 0) 108 (4 : Int).toNat 0) 108 (5 : Int).toNat S.1) 97 23)), .inl 6, zR 108])) 5 hz rfl ?_
  rw [show (zput (zput (zput (zput (zput (zput (zput M 97 20 1) 108 (0 : Int).toNat (-1)) 108 (1 : Int).toNat 0) 108 (2 : Int).toNat 0) 108 (3 : Int).toNat 0) 108 (4 : Int).toNat 0) 108 (5 : Int).toNat S.1) 97 23 = jMn S from hS.2.1]
  refine zH_w (c' := (58, [zR 97, .inl 5], [.inl ((zput (zput (zput (zput (zput (zput (zput M 97 20 1) 108 (0 : Int).toNat (-1)) 108 (1 : Int).toNat 0) 108 (2 : Int).toNat 0) 108 (3 : Int).toNat 0) 108 (4 : Int).toNat 0) 108 (5 : Int).toNat S.1) 97 19), .inr (.inl (jMn S)), .inl 6, zR 108])) 2 hz rfl ?_
  rw [show (zput (zput (zput (zput (zput (zput (zput M 97 20 1) 108 (0 : Int).toNat (-1)) 108 (1 : Int).toNat 0) 108 (2 : Int).toNat 0) 108 (3 : Int).toNat 0) 108 (4 : Int).toNat 0) 108 (5 : Int).toNat S.1) 97 19 = more from h19]
  refine zH_w (c' := (60, [zR 97, .inl 5], [.inr (.inl (w64 ((jMn S) + more))), .inl 6, zR 108])) 2 hz rfl ?_
  refine zH_last hz rfl rfl (fun hin60 => ?_)
  show zH n (0, 0) 239 (61, [zR 97, .inl 5], []) (zput (zput (zput (zput (zput (zput (zput (zput M 97 20 1) 108 (0 : Int).toNat (-1)) 108 (1 : Int).toNat 0) 108 (2 : Int).toNat 0) 108 (3 : Int).toNat 0) 108 (4 : Int).toNat 0) 108 (5 : Int).toNat S.1) 108 (6 : Int).toNat (w64 ((jMn S) + more))) _
  refine zH_w (c' := (71, [zR 97, .inl 5], [.inl ((zput (zput (zput (zput (zput (zput (zput (zput M 97 20 1) 108 (0 : Int).toNat (-1)) 108 (1 : Int).toNat 0) 108 (2 : Int).toNat 0) 108 (3 : Int).toNat 0) 108 (4 : Int).toNat 0) 108 (5 : Int).toNat S.1) 108 (6 : Int).toNat (w64 ((jMn S) + more))) 97 18), .inl 7, zR 108])) 5 hz rfl ?_
  rw [show (zput (zput (zput (zput (zput (zput (zput (zput M 97 20 1) 108 (0 : Int).toNat (-1)) 108 (1 : Int).toNat 0) 108 (2 : Int).toNat 0) 108 (3 : Int).toNat 0) 108 (4 : Int).toNat 0) 108 (5 : Int).toNat S.1) 108 (6 : Int).toNat (w64 ((jMn S) + more))) 97 18 = (S.2.2.1 : Int) from hS.2.2.1]
  refine zH_w (c' := (72, [zR 97, .inl 5], [.inr (.inl (S.2.2.1 : Int)), .inl 7, zR 108])) 1 hz rfl ?_
  refine zH_last hz rfl rfl (fun hin72 => ?_)
  show zH n (0, 0) 239 (73, [zR 97, .inl 5], []) (zput (zput (zput (zput (zput (zput (zput (zput (zput M 97 20 1) 108 (0 : Int).toNat (-1)) 108 (1 : Int).toNat 0) 108 (2 : Int).toNat 0) 108 (3 : Int).toNat 0) 108 (4 : Int).toNat 0) 108 (5 : Int).toNat S.1) 108 (6 : Int).toNat (w64 ((jMn S) + more))) 108 (7 : Int).toNat (S.2.2.1 : Int)) _
  obtain ⟨M9, hM9⟩ : ∃ X : zM, X = zput (zput (zput (zput (zput (zput (zput (zput (zput M 97 20 1) 108 (0 : Int).toNat (-1)) 108 (1 : Int).toNat 0) 108 (2 : Int).toNat 0) 108 (3 : Int).toNat 0) 108 (4 : Int).toNat 0) 108 (5 : Int).toNat S.1) 108 (6 : Int).toNat (w64 ((jMn S) + more))) 108 (7 : Int).toNat (S.2.2.1 : Int) := ⟨_, rfl⟩
  rw [← hM9]
  have q := m8 (M1 := zput M 97 20 1) hM9
  have e9 := q.2 97 (by decide)
  exact zH_ret hz rfl rfl (⟨rfl, fun r q1 q2 => (q.2 r q2).trans (zput_oth q1), fun j hj => (congrFun e9 j).trans (qput_nk hj), mEa_al ((congrFun e9 20).trans qput_eq) q.1 ((congrFun e9 18).trans ((qput_nk (by decide)).trans hS.2.2.1)) ((congrFun e9 19).trans ((qput_nk (by decide)).trans h19)) (fun j hj => by rw [q.2 110 (by decide), zput_oth (by decide)]; exact hS.2.2.2 j hj)⟩)
set_option maxHeartbeats 8000000 in
set_option maxRecDepth 100000 in
theorem fh_240_97 {n : Nat} {M : zM} {Mo : zM} {C : Nat → Bool} (h : mK Mo C M) {P Q : Int → List Int} (hH : mH Mo P Q) (a1 a2 : Int) (hs : 0 ≤ a1 ∧ a1 < Mo 98 1) : zH n (0, 0) 240 (0, zini [zR 97, .inl a1, .inl a2] 7, []) M (fun r M' => r = none ∧ mK Mo C M' ∧ M' 97 19 = 0 ∧ M' 97 21 = (jPs Mo C a1 (P (oBi (Mo 98) a1 a2)) (Mo 98 0).toNat) ∧ mFo (jAl Mo C a1 (jPs Mo C a1 (P (oBi (Mo 98) a1 a2)) (Mo 98 0).toNat) (Mo 98 0).toNat) M' ∧ mR Mo C a1 M') := by
  have hz := zp_240
  show zH n (0, 0) 240 (0, [zR 97, .inl a1, .inl a2, zN, zN, zN, zN], []) M _
  have hn0 := hH.1.cnt0
  have hn1 := hH.1.cnt1
  obtain ⟨o, ho⟩ : ∃ o : Int, o = oBi (Mo 98) a1 a2 := ⟨_, rfl⟩
  obtain ⟨p, hp⟩ : ∃ p : Int, p = (jPs Mo C a1 (P (oBi (Mo 98) a1 a2)) (Mo 98 0).toNat) := ⟨_, rfl⟩
  have hob := hH.2.2.2.2.1 a1 a2 hs
  rw [← ho] at hob hp
  rw [← ho, ← hp]
  refine zH_w (c' := (2, [zR 97, .inl a1, .inl a2, zN, zN, zN, zN], [.inl a1, zR 97])) 2 hz rfl ?_
  refine zH_wC (c1 := (5, [zR 97, .inl a1, .inl a2, zN, zN, zN, zN], [])) 0 hz zp_218 (fh_218 hH.1 h.1 h.2 hH.2.2.1 a1 hs) (by rfl) ?_
  rintro _ M1 ⟨rfl, f1, z1⟩
  show zH n (0, 0) 240 (5, [zR 97, .inl a1, .inl a2, zN, zN, zN, zN], []) M1 _
  have hR1 : mR Mo C a1 M1 := z1
  refine zH_w (c' := (15, [zR 97, .inl a1, .inl a2, zN, zN, zN, zN], [])) 6 hz rfl ?_
  obtain ⟨M2, hM2⟩ : ∃ X : zM, X = zput (zput M1 97 19 0) 97 21 0 := ⟨_, rfl⟩
  rw [← hM2]
  have e298 : M2 98 = Mo 98 := by rw [hM2, zput_oth (by decide), zput_oth (by decide), f1 98 (by decide) (by decide) (by decide)]; exact h.1
  have hk2 : mK Mo C M2 := h.mv (by rw [hM2, zput_oth (by decide), zput_oth (by decide), f1 98 (by decide) (by decide) (by decide)]) (by rw [hM2, zput_oth (by decide), zput_oth (by decide), f1 101 (by decide) (by decide) (by decide)])
  have hR2 : mR Mo C a1 M2 := hR1.mv (by rw [hM2, zput_oth (by decide), zput_oth (by decide)]) (by rw [hM2, zput_oth (by decide), zput_oth (by decide)]) (by rw [hM2, zput_oth (by decide), zput_oth (by decide)])
  have z219 : M2 97 19 = 0 := by rw [hM2, qput_nk (by decide), qput_eq]
  have z221 : M2 97 21 = 0 := by rw [hM2, qput_eq]
  refine zH_w (c' := (18, [zR 97, .inl a1, .inl a2, zN, zN, zN, zN], [.inl a2, .inl a1, zR 97])) 3 hz rfl ?_
  refine zH_wE (c1 := (21, [zR 97, .inl a1, .inl a2, zN, zN, zN, zN], [])) 0 hz zp_237 (fh_237_97 hH.1 e298 hH.2.1 a1 a2 (by omega)) (by rfl) ?_
  show zH n (0, 0) 240 (21, [zR 97, .inl a1, .inl a2, zN, zN, zN, zN], [.inl (oBi (Mo 98) a1 a2)]) M2 _
  rw [← ho]
  refine zH_w (c' := (22, [zR 97, .inl a1, .inl a2, .inl o, zN, zN, zN], [])) 1 hz rfl ?_
  have lp44 : ∀ (N : Nat) (c : Int) (u5 : zV) (M5 : zM), ((14 - c).toNat) < N → (0 ≤ c ∧ c ≤ Mo 98 0) → (mK Mo C M5) → (mR Mo C a1 M5) → (M5 97 21 = jPs Mo C a1 (P o) c.toNat) → (M5 97 19 = 0) → (0 ≤ o → mT (P o) M5) → zH n (0, 0) 240 (44, [zR 97, .inl a1, .inl a2, .inl o, .inl c, u5, zN], []) M5 (fun r M' => r = none ∧ mK Mo C M' ∧ M' 97 19 = 0 ∧ M' 97 21 = p ∧ mFo (jAl Mo C a1 p (Mo 98 0).toNat) M' ∧ mR Mo C a1 M') := by
    intro N
    induction N with
    | zero => intro c u5 M5 hN; exact absurd hN (Nat.not_lt_zero _)
    | succ N ih44 =>
      intro c u5 M5 hN hi hk hR h21 h19 hT
      refine zH_w (c' := (51, [zR 97, .inl a1, .inl a2, .inl o, .inl c, u5, zN], [.inl 0, zR 98, .inl c])) 4 hz rfl ?_
      refine zH_iald hz rfl rfl (.inl rfl) (fun hin51 => ?_)
      show zH n (0, 0) 240 (52, [zR 97, .inl a1, .inl a2, .inl o, .inl c, u5, zN], [.inl (M5 98 (0 : Int).toNat), .inl c]) M5 _
      rw [show M5 98 (0 : Int).toNat = Mo 98 0 from congrFun hk.1 0]
      refine zH_icmp_ge hz rfl (fun hb52 => ?_) (fun hb52 => ?_)
      · skip
        have h21p : M5 97 21 = p := by rw [h21, show c.toNat = (Mo 98 0).toNat by omega]; exact hp.symm
        refine zH_w (c' := (159, [zR 97, .inl a1, .inl a2, .inl o, .inl 0, u5, zN], [])) 11 hz rfl ?_
        have lp159 : ∀ (N : Nat) (c : Int) (u5 : zV) (u6 : zV) (M9 : zM), ((14 - c).toNat) < N → (0 ≤ c ∧ c ≤ Mo 98 0) → (mK Mo C M9) → (mR Mo C a1 M9) → (M9 97 21 = p) → (M9 97 19 = 0) → (M9 97 22 = (jAl Mo C a1 p c.toNat).1) → (M9 97 23 = (jAl Mo C a1 p c.toNat).2.1) → (M9 97 18 = ((jAl Mo C a1 p c.toNat).2.2.1 : Int)) → (∀ j : Nat, j < (jAl Mo C a1 p c.toNat).2.2.1 → M9 110 j = (jAl Mo C a1 p c.toNat).2.2.2 j) → zH n (0, 0) 240 (159, [zR 97, .inl a1, .inl a2, .inl o, .inl c, u5, u6], []) M9 (fun r M' => r = none ∧ mK Mo C M' ∧ M' 97 19 = 0 ∧ M' 97 21 = p ∧ mFo (jAl Mo C a1 p (Mo 98 0).toNat) M' ∧ mR Mo C a1 M') := by
          intro N
          induction N with
          | zero => intro c u5 u6 M9 hN; exact absurd hN (Nat.not_lt_zero _)
          | succ N ih159 =>
            intro c u5 u6 M9 hN hi hk hR h21 h19 h22 h23 h18 hg
            refine zH_w (c' := (166, [zR 97, .inl a1, .inl a2, .inl o, .inl c, u5, u6], [.inl 0, zR 98, .inl c])) 4 hz rfl ?_
            refine zH_iald hz rfl rfl (.inl rfl) (fun hin166 => ?_)
            show zH n (0, 0) 240 (167, [zR 97, .inl a1, .inl a2, .inl o, .inl c, u5, u6], [.inl (M9 98 (0 : Int).toNat), .inl c]) M9 _
            rw [show M9 98 (0 : Int).toNat = Mo 98 0 from congrFun hk.1 0]
            refine zH_icmp_ge hz rfl (fun hb167 => ?_) (fun hb167 => ?_)
            · skip
              have en : c.toNat = (Mo 98 0).toNat := by omega
              rw [en] at h22 h23 h18 hg
              obtain ⟨S, hS⟩ : ∃ S, S = jAl Mo C a1 p (Mo 98 0).toNat := ⟨_, rfl⟩
              rw [← hS] at h22 h23 h18 hg
              rw [← hS]
              refine zH_w (c' := (331, [zR 97, .inl a1, .inl a2, .inl o, .inl c, u5, u6], [.inr (.inl (M9 97 22)), zR 97])) 3 hz rfl ?_
              rw [h22]
              refine zH_w (c' := (333, [zR 97, .inl a1, .inl a2, .inl o, .inl c, u5, u6], [.inl (if 0 < S.1 then 1 else if S.1 = 0 then 0 else -1), zR 97])) 2 hz rfl ?_
              refine zH_wf_ne (pc := 333) (n' := 336) (t := 340) (L := [zR 97, .inl a1, .inl a2, .inl o, .inl c, u5, u6]) (st := [zR 97]) (x := (if 0 < S.1 then 1 else if S.1 = 0 then 0 else -1)) 0 hz (by rfl) (fun hb333 => ?_) (fun hb333 => ?_)
              · skip
                have hmn : w64 ((w64 (S.2.1 * 100)).tdiv S.1) = jMn S := by unfold jMn; rw [if_neg (fun q => hb333 (elc_eq.mpr q))]
                refine zH_w (c' := (344, [zR 97, .inl a1, .inl a2, .inl o, .inl c, u5, u6], [.inr (.inl (M9 97 23)), zR 97])) 2 hz rfl ?_
                rw [h23]
                refine zH_w (c' := (352, [zR 97, .inl a1, .inl a2, .inl o, .inl c, u5, u6], [.inr (.inl (M9 97 22)), .inr (.inl (w64 (S.2.1 * 100))), zR 97])) 4 hz rfl ?_
                rw [h22]
                refine zH_ldiv hz rfl (fun hdv352 => ?_)
                show zH n (0, 0) 240 (353, [zR 97, .inl a1, .inl a2, .inl o, .inl c, u5, u6], [.inr (.inl (w64 ((w64 (S.2.1 * 100)).tdiv S.1))), zR 97]) M9 _
                refine zH_w (c' := (356, [zR 97, .inl a1, .inl a2, .inl o, .inl c, u5, u6], [])) 1 hz rfl ?_
                obtain ⟨M15, hM15⟩ : ∃ X : zM, X = zput M9 97 23 (w64 ((w64 (S.2.1 * 100)).tdiv S.1)) := ⟨_, rfl⟩
                rw [← hM15]
                exact zH_ret hz rfl rfl (⟨rfl, hk.mv (by rw [hM15, zput_oth (by decide)]) (by rw [hM15, zput_oth (by decide)]), by rw [hM15, qput_nk (by decide)]; exact h19, by rw [hM15, qput_nk (by decide)]; exact h21, ⟨by rw [hM15, qput_nk (by decide)]; exact h22, by rw [hM15, qput_eq]; exact hmn, by rw [hM15, qput_nk (by decide)]; exact h18, fun j hj => by rw [hM15, zput_oth (by decide)]; exact hg j hj⟩, hR.mv (by rw [hM15, zput_oth (by decide)]) (by rw [hM15, zput_oth (by decide)]) (by rw [hM15, zput_oth (by decide)])⟩)
              · skip
                have hmn : (0 : Int) = jMn S := by unfold jMn; rw [if_pos (elc_eq.mp (Decidable.byContradiction hb333))]
                refine zH_w (c' := (356, [zR 97, .inl a1, .inl a2, .inl o, .inl c, u5, u6], [])) 3 hz rfl ?_
                show zH n (0, 0) 240 (356, [zR 97, .inl a1, .inl a2, .inl o, .inl c, u5, u6], []) (zput M9 97 23 0) _
                obtain ⟨M15, hM15⟩ : ∃ X : zM, X = zput M9 97 23 0 := ⟨_, rfl⟩
                rw [← hM15]
                exact zH_ret hz rfl rfl (⟨rfl, hk.mv (by rw [hM15, zput_oth (by decide)]) (by rw [hM15, zput_oth (by decide)]), by rw [hM15, qput_nk (by decide)]; exact h19, by rw [hM15, qput_nk (by decide)]; exact h21, ⟨by rw [hM15, qput_nk (by decide)]; exact h22, by rw [hM15, qput_eq]; exact hmn, by rw [hM15, qput_nk (by decide)]; exact h18, fun j hj => by rw [hM15, zput_oth (by decide)]; exact hg j hj⟩, hR.mv (by rw [hM15, zput_oth (by decide)]) (by rw [hM15, zput_oth (by decide)]) (by rw [hM15, zput_oth (by decide)])⟩)
            · skip
              have ec : ((c.toNat : Nat) : Int) = c := by omega
              have hc14 : c.toNat < 14 := by omega
              refine zH_w (c' := (174, [zR 97, .inl a1, .inl a2, .inl o, .inl c, u5, u6], [.inl (M9 97 21)])) 2 hz rfl ?_
              rw [h21]
              refine zH_w (c' := (180, [zR 97, .inl a1, .inl a2, .inl o, .inl c, u5, u6], [.inl 1, .inl (zband (zbshr p c) 1)])) 5 hz rfl ?_
              refine zH_wi_ne (pc := 180) (n' := 183) (t := 320) (L := [zR 97, .inl a1, .inl a2, .inl o, .inl c, u5, u6]) (st := []) (x := (zband (zbshr p c) 1)) (y := 1) 0 hz (by rfl) (fun hb180 => ?_) (fun hb180 => ?_)
              · skip
                have hbit : ¬ zband (zbshr p c) 1 = 1 := hb180
                have hkn := hk
                have hRn := hR
                have h21n := h21
                have h19n := h19
                have eS : jAl Mo C a1 p (c.toNat + 1) = (jAl Mo C a1 p c.toNat) := by rw [jAl_s, ec, if_neg hbit]
                have h22n : M9 97 22 = (jAl Mo C a1 p (c.toNat + 1)).1 := by rw [eS]; exact h22
                have h23n : M9 97 23 = (jAl Mo C a1 p (c.toNat + 1)).2.1 := by rw [eS]; exact h23
                have h18n : M9 97 18 = ((jAl Mo C a1 p (c.toNat + 1)).2.2.1 : Int) := by rw [eS]; exact h18
                have hgn : ∀ j : Nat, j < (jAl Mo C a1 p (c.toNat + 1)).2.2.1 → M9 110 j = (jAl Mo C a1 p (c.toNat + 1)).2.2.2 j := by rw [eS]; exact hg
                refine zH_w (c' := (159, [zR 97, .inl a1, .inl a2, .inl o, .inl (c + 1), u5, u6], [])) 2 hz (by rw [show (.inl (c + 1) : zV) = .inl (w32 (c + 1)) from by rw [w32_id (by omega)]]; rfl) ?_
                refine ih159 (c + 1) u5 u6 M9 (by omega) ?_ ?_ ?_ ?_ ?_ ?_ ?_ ?_ ?_
                · omega
                · exact hkn
                · exact hRn
                · exact h21n
                · exact h19n
                · rw [show (c + 1).toNat = c.toNat + 1 by omega]; exact h22n
                · rw [show (c + 1).toNat = c.toNat + 1 by omega]; exact h23n
                · rw [show (c + 1).toNat = c.toNat + 1 by omega]; exact h18n
                · rw [show (c + 1).toNat = c.toNat + 1 by omega]; exact hgn
              · skip
                have hbit : zband (zbshr p c) 1 = 1 := Decidable.byContradiction hb180
                have hlr := jAl_r Mo C a1 p c.toNat
                have lp206 : ∀ (m : Int) (u6 : zV), (m = jMk Mo C a1 c.toNat) → zH n (0, 0) 240 (206, [zR 97, .inl a1, .inl a2, .inl o, .inl c, .inl m, u6], []) M9 (fun r M' => r = none ∧ mK Mo C M' ∧ M' 97 19 = 0 ∧ M' 97 21 = p ∧ mFo (jAl Mo C a1 p (Mo 98 0).toNat) M' ∧ mR Mo C a1 M') := by
                  intro m u6 hm
                  refine zH_w (c' := (211, [zR 97, .inl a1, .inl a2, .inl o, .inl c, .inl m, u6], [.inr (.inl (M9 97 22)), zR 97])) 3 hz rfl ?_
                  rw [h22]
                  refine zH_w (c' := (222, [zR 97, .inl a1, .inl a2, .inl o, .inl c, .inl m, u6], [.inl (w32 (20 + (w32 (4 * c)))), zR 98, .inr (.inl ((jAl Mo C a1 p c.toNat).1)), zR 97])) 7 hz rfl ?_
                  refine zH_iald hz rfl rfl (.inl rfl) (fun hin222 => ?_)
                  show zH n (0, 0) 240 (223, [zR 97, .inl a1, .inl a2, .inl o, .inl c, .inl m, u6], [.inl (M9 98 (w32 (20 + (w32 (4 * c))) : Int).toNat), .inr (.inl ((jAl Mo C a1 p c.toNat).1)), zR 97]) M9 _
                  rw [show M9 98 (w32 (20 + (w32 (4 * c))) : Int).toNat = Mo 98 (20 + 4 * c.toNat) from by rw [hk.1, w32_id (x := 4 * c) (by omega), w32_id (by omega)]; exact congrArg (Mo 98) (by omega)]
                  refine zH_w (c' := (228, [zR 97, .inl a1, .inl a2, .inl o, .inl c, .inl m, u6], [])) 3 hz rfl ?_
                  obtain ⟨M10, hM10⟩ : ∃ X : zM, X = zput M9 97 22 (w64 (((jAl Mo C a1 p c.toNat).1) + (Mo 98 (20 + 4 * c.toNat)))) := ⟨_, rfl⟩
                  rw [← hM10]
                  refine zH_w (c' := (233, [zR 97, .inl a1, .inl a2, .inl o, .inl c, .inl m, u6], [.inr (.inl (M10 97 23)), zR 97])) 3 hz rfl ?_
                  rw [show M10 97 23 = (jAl Mo C a1 p c.toNat).2.1 from by rw [hM10, qput_nk (by decide)]; exact h23]
                  refine zH_w (c' := (247, [zR 97, .inl a1, .inl a2, .inl o, .inl c, .inl m, u6], [.inl (w32 (20 + (w32 (4 * c)))), zR 98, .inr (.inl m), .inr (.inl ((jAl Mo C a1 p c.toNat).2.1)), zR 97])) 9 hz rfl ?_
                  refine zH_iald hz rfl rfl (.inl rfl) (fun hin247 => ?_)
                  show zH n (0, 0) 240 (248, [zR 97, .inl a1, .inl a2, .inl o, .inl c, .inl m, u6], [.inl (M10 98 (w32 (20 + (w32 (4 * c))) : Int).toNat), .inr (.inl m), .inr (.inl ((jAl Mo C a1 p c.toNat).2.1)), zR 97]) M10 _
                  rw [show M10 98 (w32 (20 + (w32 (4 * c))) : Int).toNat = Mo 98 (20 + 4 * c.toNat) from by rw [hM10, zput_oth (show (98 : Nat) ≠ 97 by decide), hk.1, w32_id (x := 4 * c) (by omega), w32_id (by omega)]; exact congrArg (Mo 98) (by omega)]
                  refine zH_w (c' := (254, [zR 97, .inl a1, .inl a2, .inl o, .inl c, .inl m, u6], [])) 4 hz rfl ?_
                  obtain ⟨M11, hM11⟩ : ∃ X : zM, X = zput M10 97 23 (w64 (((jAl Mo C a1 p c.toNat).2.1) + (w64 (m * (Mo 98 (20 + 4 * c.toNat)))))) := ⟨_, rfl⟩
                  rw [← hM11]
                  have F11 : ∀ r, r ≠ 97 → M11 r = M9 r := fun r q => by rw [hM11, zput_oth q, hM10, zput_oth q]
                  have G11 : ∀ j, j ≠ 22 → j ≠ 23 → M11 97 j = M9 97 j := fun j q1 q2 => by rw [hM11, qput_nk q2, hM10, qput_nk q1]
                  have z22 : M11 97 22 = w64 ((jAl Mo C a1 p c.toNat).1 + Mo 98 (20 + 4 * c.toNat)) := by rw [hM11, qput_nk (by decide), hM10, qput_eq]
                  have z23 : M11 97 23 = w64 ((jAl Mo C a1 p c.toNat).2.1 + w64 (m * Mo 98 (20 + 4 * c.toNat))) := by rw [hM11, qput_eq]
                  refine zH_w (c' := (258, [zR 97, .inl a1, .inl a2, .inl o, .inl c, .inl m, u6], [.inl (M11 97 18)])) 2 hz rfl ?_
                  rw [show M11 97 18 = ((jAl Mo C a1 p c.toNat).2.2.1 : Int) from (G11 18 (by decide) (by decide)).trans h18]
                  refine zH_w (c' := (260, [zR 97, .inl a1, .inl a2, .inl o, .inl c, .inl m, .inl ((jAl Mo C a1 p c.toNat).2.2.1 : Int)], [])) 1 hz rfl ?_
                  have lp260 : ∀ (N : Nat) (i : Int) (M12 : zM), (i.toNat) < N → (0 ≤ i ∧ i ≤ ((jAl Mo C a1 p c.toNat).2.2.1 : Int)) → (∀ q, q ≠ 110 → M12 q = M11 q) → (insA (M12 110) m i.toNat = insA (M11 110) m (jAl Mo C a1 p c.toNat).2.2.1) → zH n (0, 0) 240 (260, [zR 97, .inl a1, .inl a2, .inl o, .inl c, .inl m, .inl i], []) M12 (fun r M' => r = none ∧ mK Mo C M' ∧ M' 97 19 = 0 ∧ M' 97 21 = p ∧ mFo (jAl Mo C a1 p (Mo 98 0).toNat) M' ∧ mR Mo C a1 M') := by
                    intro N
                    induction N with
                    | zero => intro i M12 hN; exact absurd hN (Nat.not_lt_zero _)
                    | succ N ih260 =>
                      intro i M12 hN hi2 hO hI
                      refine zH_w (c' := (262, [zR 97, .inl a1, .inl a2, .inl o, .inl c, .inl m, .inl i], [.inl i])) 1 hz rfl ?_
                      refine zH_wf_le (pc := 262) (n' := 265) (t := 301) (L := [zR 97, .inl a1, .inl a2, .inl o, .inl c, .inl m, .inl i]) (st := []) (x := i) 0 hz (by rfl) (fun hb262 => ?_) (fun hb262 => ?_)
                      · skip
                        have hIe : hup (M12 110) i.toNat m = insA (M12 110) m i.toNat := by rw [show i.toNat = 0 by omega]; rfl
                        refine zH_w (c' := (309, [zR 97, .inl a1, .inl a2, .inl o, .inl c, .inl m, .inl i], [.inl m, .inl i, zR 110])) 4 hz rfl ?_
                        refine zH_iast hz rfl rfl (fun hin309 => ?_)
                        show zH n (0, 0) 240 (310, [zR 97, .inl a1, .inl a2, .inl o, .inl c, .inl m, .inl i], []) (zput M12 110 (i : Int).toNat m) _
                        obtain ⟨M13, hM13⟩ : ∃ X : zM, X = zput M12 110 (i : Int).toNat m := ⟨_, rfl⟩
                        rw [← hM13]
                        refine zH_w (c' := (315, [zR 97, .inl a1, .inl a2, .inl o, .inl c, .inl m, .inl i], [.inl (M13 97 18), zR 97])) 3 hz rfl ?_
                        rw [show M13 97 18 = ((jAl Mo C a1 p c.toNat).2.2.1 : Int) from by rw [hM13, zput_oth (by decide), hO 97 (by decide), G11 18 (by decide) (by decide)]; exact h18]
                        refine zH_w (c' := (317, [zR 97, .inl a1, .inl a2, .inl o, .inl c, .inl m, .inl i], [.inl (w32 (((jAl Mo C a1 p c.toNat).2.2.1 : Int) + 1)), zR 97])) 2 hz rfl ?_
                        rw [show w32 (((jAl Mo C a1 p c.toNat).2.2.1 : Int) + 1) = ((jAl Mo C a1 p c.toNat).2.2.1 : Int) + 1 from w32_id (by omega)]
                        refine zH_w (c' := (320, [zR 97, .inl a1, .inl a2, .inl o, .inl c, .inl m, .inl i], [])) 1 hz rfl ?_
                        obtain ⟨M14, hM14⟩ : ∃ X : zM, X = zput M13 97 18 (((jAl Mo C a1 p c.toNat).2.2.1 : Int) + 1) := ⟨_, rfl⟩
                        rw [← hM14]
                        have F14 : ∀ r, r ≠ 97 → r ≠ 110 → M14 r = M9 r := fun r q1 q2 => by rw [hM14, zput_oth q1, hM13, zput_oth q2, hO r q2]; exact F11 r q1
                        have G14 : ∀ j, j ≠ 18 → j ≠ 22 → j ≠ 23 → M14 97 j = M9 97 j := fun j q1 q2 q3 => by rw [hM14, qput_nk q1, hM13, zput_oth (by decide), hO 97 (by decide)]; exact G11 j q2 q3
                        have hkn : mK Mo C M14 := hk.mv (F14 98 (by decide) (by decide)) (F14 101 (by decide) (by decide))
                        have hRn : mR Mo C a1 M14 := hR.mv (F14 102 (by decide) (by decide)) (F14 103 (by decide) (by decide)) (F14 104 (by decide) (by decide))
                        have h21n : M14 97 21 = p := (G14 21 (by decide) (by decide) (by decide)).trans h21
                        have h19n : M14 97 19 = 0 := (G14 19 (by decide) (by decide) (by decide)).trans h19
                        have eS : jAl Mo C a1 p (c.toNat + 1) = (w64 ((jAl Mo C a1 p c.toNat).1 + Mo 98 (20 + 4 * c.toNat)), w64 ((jAl Mo C a1 p c.toNat).2.1 + w64 (m * Mo 98 (20 + 4 * c.toNat))), (jAl Mo C a1 p c.toNat).2.2.1 + 1, insA (jAl Mo C a1 p c.toNat).2.2.2 m (jAl Mo C a1 p c.toNat).2.2.1) := by rw [jAl_s, ec, if_pos hbit, hm]
                        have h22n : M14 97 22 = (jAl Mo C a1 p (c.toNat + 1)).1 := by rw [eS, hM14, qput_nk (by decide), hM13, zput_oth (by decide), hO 97 (by decide)]; exact z22
                        have h23n : M14 97 23 = (jAl Mo C a1 p (c.toNat + 1)).2.1 := by rw [eS, hM14, qput_nk (by decide), hM13, zput_oth (by decide), hO 97 (by decide)]; exact z23
                        have h18n : M14 97 18 = ((jAl Mo C a1 p (c.toNat + 1)).2.2.1 : Int) := by rw [eS, hM14, qput_eq]; show _ = ((_ + 1 : Nat) : Int); omega
                        have hgn : ∀ j : Nat, j < (jAl Mo C a1 p (c.toNat + 1)).2.2.1 → M14 110 j = (jAl Mo C a1 p (c.toNat + 1)).2.2.2 j := by
                          rw [eS]
                          intro j hj9
                          have hj9 : j < (jAl Mo C a1 p c.toNat).2.2.1 + 1 := hj9
                          show M14 110 j = insA (jAl Mo C a1 p c.toNat).2.2.2 m (jAl Mo C a1 p c.toNat).2.2.1 j
                          have e14 : M14 110 = insA (M12 110) m i.toNat := by
                            rw [hM14, zput_oth (by decide), hM13, zput_same]
                            exact hIe
                          rw [e14, hI, F11 110 (by decide)]
                          exact insA_cg (jAl Mo C a1 p c.toNat).2.2.1 (N := (jAl Mo C a1 p c.toNat).2.2.1) (Nat.le_refl _) hg (fun i q1 q2 => absurd q1 (by omega)) j (by omega)
                        refine zH_w (c' := (159, [zR 97, .inl a1, .inl a2, .inl o, .inl (c + 1), .inl m, .inl i], [])) 2 hz (by rw [show (.inl (c + 1) : zV) = .inl (w32 (c + 1)) from by rw [w32_id (by omega)]]; rfl) ?_
                        refine ih159 (c + 1) (.inl m) (.inl i) M14 (by omega) ?_ ?_ ?_ ?_ ?_ ?_ ?_ ?_ ?_
                        · omega
                        · exact hkn
                        · exact hRn
                        · exact h21n
                        · exact h19n
                        · rw [show (c + 1).toNat = c.toNat + 1 by omega]; exact h22n
                        · rw [show (c + 1).toNat = c.toNat + 1 by omega]; exact h23n
                        · rw [show (c + 1).toNat = c.toNat + 1 by omega]; exact h18n
                        · rw [show (c + 1).toNat = c.toNat + 1 by omega]; exact hgn
                      · skip
                        refine zH_w (c' := (273, [zR 97, .inl a1, .inl a2, .inl o, .inl c, .inl m, .inl i], [.inl (w32 (i - 1)), zR 110])) 5 hz rfl ?_
                        rw [show w32 (i - 1) = i - 1 from w32_id (by omega)]
                        refine zH_iald hz rfl rfl (.inl rfl) (fun hin273 => ?_)
                        show zH n (0, 0) 240 (274, [zR 97, .inl a1, .inl a2, .inl o, .inl c, .inl m, .inl i], [.inl (M12 110 ((i - 1) : Int).toNat)]) M12 _
                        refine zH_wi_ge (pc := 276) (n' := 279) (t := 301) (L := [zR 97, .inl a1, .inl a2, .inl o, .inl c, .inl m, .inl i]) (st := []) (x := (M12 110 ((i - 1) : Int).toNat)) (y := m) 1 hz (by rfl) (fun hb276 => ?_) (fun hb276 => ?_)
                        · skip
                          have hIe : hup (M12 110) i.toNat m = insA (M12 110) m i.toNat := by
                            rw [show i.toNat = (i - 1).toNat + 1 by omega]
                            show _ = (if M12 110 (i - 1).toNat < m then insA (hup (M12 110) ((i - 1).toNat + 1) (M12 110 (i - 1).toNat)) m (i - 1).toNat else hup (M12 110) ((i - 1).toNat + 1) m)
                            rw [if_neg (by omega)]
                          refine zH_w (c' := (309, [zR 97, .inl a1, .inl a2, .inl o, .inl c, .inl m, .inl i], [.inl m, .inl i, zR 110])) 4 hz rfl ?_
                          refine zH_iast hz rfl rfl (fun hin309 => ?_)
                          show zH n (0, 0) 240 (310, [zR 97, .inl a1, .inl a2, .inl o, .inl c, .inl m, .inl i], []) (zput M12 110 (i : Int).toNat m) _
                          obtain ⟨M13, hM13⟩ : ∃ X : zM, X = zput M12 110 (i : Int).toNat m := ⟨_, rfl⟩
                          rw [← hM13]
                          refine zH_w (c' := (315, [zR 97, .inl a1, .inl a2, .inl o, .inl c, .inl m, .inl i], [.inl (M13 97 18), zR 97])) 3 hz rfl ?_
                          rw [show M13 97 18 = ((jAl Mo C a1 p c.toNat).2.2.1 : Int) from by rw [hM13, zput_oth (by decide), hO 97 (by decide), G11 18 (by decide) (by decide)]; exact h18]
                          refine zH_w (c' := (317, [zR 97, .inl a1, .inl a2, .inl o, .inl c, .inl m, .inl i], [.inl (w32 (((jAl Mo C a1 p c.toNat).2.2.1 : Int) + 1)), zR 97])) 2 hz rfl ?_
                          rw [show w32 (((jAl Mo C a1 p c.toNat).2.2.1 : Int) + 1) = ((jAl Mo C a1 p c.toNat).2.2.1 : Int) + 1 from w32_id (by omega)]
                          refine zH_w (c' := (320, [zR 97, .inl a1, .inl a2, .inl o, .inl c, .inl m, .inl i], [])) 1 hz rfl ?_
                          obtain ⟨M14, hM14⟩ : ∃ X : zM, X = zput M13 97 18 (((jAl Mo C a1 p c.toNat).2.2.1 : Int) + 1) := ⟨_, rfl⟩
                          rw [← hM14]
                          have F14 : ∀ r, r ≠ 97 → r ≠ 110 → M14 r = M9 r := fun r q1 q2 => by rw [hM14, zput_oth q1, hM13, zput_oth q2, hO r q2]; exact F11 r q1
                          have G14 : ∀ j, j ≠ 18 → j ≠ 22 → j ≠ 23 → M14 97 j = M9 97 j := fun j q1 q2 q3 => by rw [hM14, qput_nk q1, hM13, zput_oth (by decide), hO 97 (by decide)]; exact G11 j q2 q3
                          have hkn : mK Mo C M14 := hk.mv (F14 98 (by decide) (by decide)) (F14 101 (by decide) (by decide))
                          have hRn : mR Mo C a1 M14 := hR.mv (F14 102 (by decide) (by decide)) (F14 103 (by decide) (by decide)) (F14 104 (by decide) (by decide))
                          have h21n : M14 97 21 = p := (G14 21 (by decide) (by decide) (by decide)).trans h21
                          have h19n : M14 97 19 = 0 := (G14 19 (by decide) (by decide) (by decide)).trans h19
                          have eS : jAl Mo C a1 p (c.toNat + 1) = (w64 ((jAl Mo C a1 p c.toNat).1 + Mo 98 (20 + 4 * c.toNat)), w64 ((jAl Mo C a1 p c.toNat).2.1 + w64 (m * Mo 98 (20 + 4 * c.toNat))), (jAl Mo C a1 p c.toNat).2.2.1 + 1, insA (jAl Mo C a1 p c.toNat).2.2.2 m (jAl Mo C a1 p c.toNat).2.2.1) := by rw [jAl_s, ec, if_pos hbit, hm]
                          have h22n : M14 97 22 = (jAl Mo C a1 p (c.toNat + 1)).1 := by rw [eS, hM14, qput_nk (by decide), hM13, zput_oth (by decide), hO 97 (by decide)]; exact z22
                          have h23n : M14 97 23 = (jAl Mo C a1 p (c.toNat + 1)).2.1 := by rw [eS, hM14, qput_nk (by decide), hM13, zput_oth (by decide), hO 97 (by decide)]; exact z23
                          have h18n : M14 97 18 = ((jAl Mo C a1 p (c.toNat + 1)).2.2.1 : Int) := by rw [eS, hM14, qput_eq]; show _ = ((_ + 1 : Nat) : Int); omega
                          have hgn : ∀ j : Nat, j < (jAl Mo C a1 p (c.toNat + 1)).2.2.1 → M14 110 j = (jAl Mo C a1 p (c.toNat + 1)).2.2.2 j := by
                            rw [eS]
                            intro j hj9
                            have hj9 : j < (jAl Mo C a1 p c.toNat).2.2.1 + 1 := hj9
                            show M14 110 j = insA (jAl Mo C a1 p c.toNat).2.2.2 m (jAl Mo C a1 p c.toNat).2.2.1 j
                            have e14 : M14 110 = insA (M12 110) m i.toNat := by
                              rw [hM14, zput_oth (by decide), hM13, zput_same]
                              exact hIe
                            rw [e14, hI, F11 110 (by decide)]
                            exact insA_cg (jAl Mo C a1 p c.toNat).2.2.1 (N := (jAl Mo C a1 p c.toNat).2.2.1) (Nat.le_refl _) hg (fun i q1 q2 => absurd q1 (by omega)) j (by omega)
                          refine zH_w (c' := (159, [zR 97, .inl a1, .inl a2, .inl o, .inl (c + 1), .inl m, .inl i], [])) 2 hz (by rw [show (.inl (c + 1) : zV) = .inl (w32 (c + 1)) from by rw [w32_id (by omega)]]; rfl) ?_
                          refine ih159 (c + 1) (.inl m) (.inl i) M14 (by omega) ?_ ?_ ?_ ?_ ?_ ?_ ?_ ?_ ?_
                          · omega
                          · exact hkn
                          · exact hRn
                          · exact h21n
                          · exact h19n
                          · rw [show (c + 1).toNat = c.toNat + 1 by omega]; exact h22n
                          · rw [show (c + 1).toNat = c.toNat + 1 by omega]; exact h23n
                          · rw [show (c + 1).toNat = c.toNat + 1 by omega]; exact h18n
                          · rw [show (c + 1).toNat = c.toNat + 1 by omega]; exact hgn
                        · skip
                          refine zH_w (c' := (293, [zR 97, .inl a1, .inl a2, .inl o, .inl c, .inl m, .inl i], [.inl (w32 (i - 1)), zR 110, .inl i, zR 110])) 8 hz rfl ?_
                          rw [show w32 (i - 1) = i - 1 from w32_id (by omega)]
                          refine zH_iald hz rfl rfl (.inl rfl) (fun hin293 => ?_)
                          show zH n (0, 0) 240 (294, [zR 97, .inl a1, .inl a2, .inl o, .inl c, .inl m, .inl i], [.inl (M12 110 ((i - 1) : Int).toNat), .inl i, zR 110]) M12 _
                          refine zH_iast hz rfl rfl (fun hin294 => ?_)
                          show zH n (0, 0) 240 (295, [zR 97, .inl a1, .inl a2, .inl o, .inl c, .inl m, .inl i], []) (zput M12 110 (i : Int).toNat (M12 110 ((i - 1) : Int).toNat)) _
                          refine zH_w (c' := (260, [zR 97, .inl a1, .inl a2, .inl o, .inl c, .inl m, .inl (i - 1)], [])) 2 hz (by rw [show (.inl (i - 1) : zV) = .inl (w32 (i + (-1))) from by rw [w32_id (by omega)]; rfl]; rfl) ?_
                          refine ih260 (i - 1) (zput M12 110 (i : Int).toNat (M12 110 ((i - 1) : Int).toNat)) (by omega) ?_ ?_ ?_
                          · omega
                          · exact fun q hq => (zput_oth hq).trans (hO q hq)
                          · rw [← hI, show i.toNat = (i - 1).toNat + 1 by omega, zput_same]
                            show insA (hup (M12 110) ((i - 1).toNat + 1) (M12 110 (i - 1).toNat)) m (i - 1).toNat = if M12 110 (i - 1).toNat < m then insA (hup (M12 110) ((i - 1).toNat + 1) (M12 110 (i - 1).toNat)) m (i - 1).toNat else hup (M12 110) ((i - 1).toNat + 1) m
                            rw [if_pos (by omega)]
                  refine lp260 ((jAl Mo C a1 p c.toNat).2.2.1 + 1) ((jAl Mo C a1 p c.toNat).2.2.1 : Int) M11 (by omega) ?_ ?_ ?_
                  · omega
                  · exact fun _ _ => rfl
                  · rw [Int.toNat_natCast]
                refine zH_w (c' := (189, [zR 97, .inl a1, .inl a2, .inl o, .inl c, u5, u6], [.inl c, zR 102])) 3 hz rfl ?_
                refine zH_iald hz rfl rfl (.inl rfl) (fun hin189 => ?_)
                show zH n (0, 0) 240 (190, [zR 97, .inl a1, .inl a2, .inl o, .inl c, u5, u6], [.inl (M9 102 (c : Int).toNat)]) M9 _
                rw [show M9 102 (c : Int).toNat = jF Mo C a1 c.toNat from (hR c.toNat hc14).1]
                refine zH_if_ge hz rfl (fun hb190 => ?_) (fun hb190 => ?_)
                · skip
                  refine zH_w (c' := (203, [zR 97, .inl a1, .inl a2, .inl o, .inl c, u5, u6], [.inl c, zR 102])) 3 hz rfl ?_
                  refine zH_iald hz rfl rfl (.inl rfl) (fun hin203 => ?_)
                  show zH n (0, 0) 240 (204, [zR 97, .inl a1, .inl a2, .inl o, .inl c, u5, u6], [.inl (M9 102 (c : Int).toNat)]) M9 _
                  rw [show M9 102 (c : Int).toNat = jF Mo C a1 c.toNat from (hR c.toNat hc14).1]
                  refine zH_w (c' := (206, [zR 97, .inl a1, .inl a2, .inl o, .inl c, .inl (jF Mo C a1 c.toNat), u6], [])) 1 hz rfl ?_
                  refine lp206 (jF Mo C a1 c.toNat) u6 ?_
                  · unfold jMk; split <;> omega
                · skip
                  refine zH_w (c' := (206, [zR 97, .inl a1, .inl a2, .inl o, .inl c, .inl 0, u6], [])) 3 hz rfl ?_
                  refine lp206 0 u6 ?_
                  · unfold jMk; split <;> omega
        refine lp159 (15) 0 u5 zN (zput (zput (zput M5 97 22 0) 97 23 0) 97 18 0) (by omega) ?_ ?_ ?_ ?_ ?_ ?_ ?_ ?_ ?_
        · omega
        · exact hk.mv (by rw [zput_oth (by decide), zput_oth (by decide), zput_oth (by decide)]) (by rw [zput_oth (by decide), zput_oth (by decide), zput_oth (by decide)])
        · exact hR.mv (by rw [zput_oth (by decide), zput_oth (by decide), zput_oth (by decide)]) (by rw [zput_oth (by decide), zput_oth (by decide), zput_oth (by decide)]) (by rw [zput_oth (by decide), zput_oth (by decide), zput_oth (by decide)])
        · rw [qput_nk (by decide), qput_nk (by decide), qput_nk (by decide)]; exact h21p
        · rw [qput_nk (by decide), qput_nk (by decide), qput_nk (by decide)]; exact h19
        · rw [qput_nk (by decide), qput_nk (by decide), qput_eq]; rfl
        · rw [qput_nk (by decide), qput_eq]; rfl
        · rw [qput_eq]; rfl
        · exact fun j hj => absurd hj (Nat.not_lt_zero _)
      · skip
        have ec : ((c.toNat : Nat) : Int) = c := by omega
        have hc14 : c.toNat < 14 := by omega
        obtain ⟨pc, hpc⟩ : ∃ x : Int, x = jPs Mo C a1 (P o) c.toNat := ⟨_, rfl⟩
        rw [← hpc] at h21
        have hpr : 0 ≤ pc ∧ pc ≤ 16383 := by
          have q1 := jPs_r Mo C a1 (P o) c.toNat (by omega)
          have q2 := Nat.pow_le_pow_right (n := 2) (by decide) (show c.toNat ≤ 14 by omega)
          rw [← hpc] at q1
          omega
        have hl := hH.1.leans c (20 + 4 * c + 1) (by omega) rfl
        rw [show (20 + 4 * c + 1).toNat = 21 + 4 * c.toNat by omega] at hl
        refine zH_w (c' := (58, [zR 97, .inl a1, .inl a2, .inl o, .inl c, u5, zN], [.inl c, zR 97])) 2 hz rfl ?_
        refine zH_wC (c1 := (61, [zR 97, .inl a1, .inl a2, .inl o, .inl c, u5, zN], [])) 0 hz zp_238 (fh_238_97 hk hR c (c := c.toNat) ec.symm hc14 h21 hpr hl) (by rfl) ?_
        rintro _ M6 ⟨rfl, f6, g6, e6⟩
        show zH n (0, 0) 240 (61, [zR 97, .inl a1, .inl a2, .inl o, .inl c, u5, zN], []) M6 _
        refine zH_wi_ne (pc := 63) (n' := 66) (t := 97) (L := [zR 97, .inl a1, .inl a2, .inl o, .inl c, u5, zN]) (st := []) (x := o) (y := (-1)) 2 hz (by rfl) (fun hb63 => ?_) (fun hb63 => ?_)
        · skip
          have ho0 : 0 ≤ o := by omega
          have hMd := (hH.2.2.2.2.2.2 o ho0 (by omega)).1
          refine zH_wC (c1 := (101, [zR 97, .inl a1, .inl a2, .inl o, .inl c, u5, zN], [])) 1 hz zp_235 (fh_235_97 (O := P o) hMd.1.1 hMd.1.2 hMd.2.2.1 ((g6 7 (by decide)).trans (hT ho0).1) (by rw [f6 105 (by decide) (by decide), f6 106 (by decide) (by decide)]; exact (hT ho0).2)) (by rfl) ?_
          rintro _ M8 ⟨rfl, f8, g8⟩
          show zH n (0, 0) 240 (101, [zR 97, .inl a1, .inl a2, .inl o, .inl c, u5, zN], [.inr (.inl (eVal (eMd M6) (P o)))]) M8 _
          rw [show eVal (eMd M6) (P o) = eVal (jEc Mo C a1 c.toNat pc) (P o) from congrArg (fun s => s.headD 0) (eRun_cg e6 (P o))]
          refine zH_w (c' := (103, [zR 97, .inl a1, .inl a2, .inl o, .inl c, u5, zN], [.inl (if 0 < (eVal (jEc Mo C a1 c.toNat pc) (P o)) then 1 else if (eVal (jEc Mo C a1 c.toNat pc) (P o)) = 0 then 0 else -1)])) 2 hz rfl ?_
          refine zH_wf_eq (pc := 103) (n' := 106) (t := 110) (L := [zR 97, .inl a1, .inl a2, .inl o, .inl c, u5, zN]) (st := []) (x := (if 0 < (eVal (jEc Mo C a1 c.toNat pc) (P o)) then 1 else if (eVal (jEc Mo C a1 c.toNat pc) (P o)) = 0 then 0 else -1)) 0 hz (by rfl) (fun hb103 => ?_) (fun hb103 => ?_)
          · skip
            have hev : eVal (jEc Mo C a1 c.toNat pc) (P o) = 0 := elc_eq.mp hb103
            have hk5 : mK Mo C M8 := hk.mv ((f8 98 (by decide) (by decide)).trans (f6 98 (by decide) (by decide))) ((f8 101 (by decide) (by decide)).trans (f6 101 (by decide) (by decide)))
            have hR5 : mR Mo C a1 M8 := hR.mv ((f8 102 (by decide) (by decide)).trans (f6 102 (by decide) (by decide))) ((f8 103 (by decide) (by decide)).trans (f6 103 (by decide) (by decide))) ((f8 104 (by decide) (by decide)).trans (f6 104 (by decide) (by decide)))
            have h215 : M8 97 21 = pc := ((g8 21 (by decide)).trans (g6 21 (by decide))).trans h21
            have h195 : M8 97 19 = 0 := ((g8 19 (by decide)).trans (g6 19 (by decide))).trans h19
            have hT5 : 0 ≤ o → mT (P o) M8 := fun q => (hT q).mv ((g8 7 (by decide)).trans (g6 7 (by decide))) ((f8 105 (by decide) (by decide)).trans (f6 105 (by decide) (by decide))) ((f8 106 (by decide) (by decide)).trans (f6 106 (by decide) (by decide)))
            have hval : zbor pc 0 = if eVal (jEc Mo C a1 c.toNat (jPs Mo C a1 (P o) c.toNat)) (P o) = 0 then jPs Mo C a1 (P o) c.toNat else zbor (jPs Mo C a1 (P o) c.toNat) (zbshl 1 c) := by rw [← hpc, if_pos hev, j_or0 hpr]
            refine zH_w (c' := (118, [zR 97, .inl a1, .inl a2, .inl o, .inl c, .inl 0, zN], [.inl (M8 97 21), zR 97])) 5 hz rfl ?_
            rw [h215]
            refine zH_w (c' := (135, [zR 97, .inl a1, .inl a2, .inl o, .inl c, .inl 0, zN], [])) 5 hz rfl ?_
            obtain ⟨M7, hM7⟩ : ∃ X : zM, X = zput M8 97 21 (zbor pc 0) := ⟨_, rfl⟩
            rw [← hM7]
            skip
            refine zH_w (c' := (44, [zR 97, .inl a1, .inl a2, .inl o, .inl (c + 1), .inl 0, zN], [])) 2 hz (by rw [show (.inl (c + 1) : zV) = .inl (w32 (c + 1)) from by rw [w32_id (by omega)]]; rfl) ?_
            refine ih44 (c + 1) (.inl 0) M7 (by omega) ?_ ?_ ?_ ?_ ?_ ?_
            · omega
            · exact hk5.mv (by rw [hM7, zput_oth (by decide)]) (by rw [hM7, zput_oth (by decide)])
            · exact hR5.mv (by rw [hM7, zput_oth (by decide)]) (by rw [hM7, zput_oth (by decide)]) (by rw [hM7, zput_oth (by decide)])
            · rw [hM7, qput_eq, show (c + 1).toNat = c.toNat + 1 by omega, jPs_s, ec]; exact hval
            · rw [hM7, qput_nk (by decide)]; exact h195
            · exact fun ho => (hT5 ho).mv (by rw [hM7, qput_nk (by decide)]) (by rw [hM7, zput_oth (by decide)]) (by rw [hM7, zput_oth (by decide)])
          · skip
            have hev : ¬ eVal (jEc Mo C a1 c.toNat pc) (P o) = 0 := fun q => hb103 (elc_eq.mpr q)
            have hk5 : mK Mo C M8 := hk.mv ((f8 98 (by decide) (by decide)).trans (f6 98 (by decide) (by decide))) ((f8 101 (by decide) (by decide)).trans (f6 101 (by decide) (by decide)))
            have hR5 : mR Mo C a1 M8 := hR.mv ((f8 102 (by decide) (by decide)).trans (f6 102 (by decide) (by decide))) ((f8 103 (by decide) (by decide)).trans (f6 103 (by decide) (by decide))) ((f8 104 (by decide) (by decide)).trans (f6 104 (by decide) (by decide)))
            have h215 : M8 97 21 = pc := ((g8 21 (by decide)).trans (g6 21 (by decide))).trans h21
            have h195 : M8 97 19 = 0 := ((g8 19 (by decide)).trans (g6 19 (by decide))).trans h19
            have hT5 : 0 ≤ o → mT (P o) M8 := fun q => (hT q).mv ((g8 7 (by decide)).trans (g6 7 (by decide))) ((f8 105 (by decide) (by decide)).trans (f6 105 (by decide) (by decide))) ((f8 106 (by decide) (by decide)).trans (f6 106 (by decide) (by decide)))
            have hval : zbor pc (zbshl 1 c) = if eVal (jEc Mo C a1 c.toNat (jPs Mo C a1 (P o) c.toNat)) (P o) = 0 then jPs Mo C a1 (P o) c.toNat else zbor (jPs Mo C a1 (P o) c.toNat) (zbshl 1 c) := by rw [← hpc, if_neg hev]
            refine zH_w (c' := (118, [zR 97, .inl a1, .inl a2, .inl o, .inl c, .inl 1, zN], [.inl (M8 97 21), zR 97])) 6 hz rfl ?_
            rw [h215]
            refine zH_w (c' := (135, [zR 97, .inl a1, .inl a2, .inl o, .inl c, .inl 1, zN], [])) 8 hz rfl ?_
            obtain ⟨M7, hM7⟩ : ∃ X : zM, X = zput M8 97 21 (zbor pc (zbshl 1 c)) := ⟨_, rfl⟩
            rw [← hM7]
            skip
            refine zH_w (c' := (44, [zR 97, .inl a1, .inl a2, .inl o, .inl (c + 1), .inl 1, zN], [])) 2 hz (by rw [show (.inl (c + 1) : zV) = .inl (w32 (c + 1)) from by rw [w32_id (by omega)]]; rfl) ?_
            refine ih44 (c + 1) (.inl 1) M7 (by omega) ?_ ?_ ?_ ?_ ?_ ?_
            · omega
            · exact hk5.mv (by rw [hM7, zput_oth (by decide)]) (by rw [hM7, zput_oth (by decide)])
            · exact hR5.mv (by rw [hM7, zput_oth (by decide)]) (by rw [hM7, zput_oth (by decide)]) (by rw [hM7, zput_oth (by decide)])
            · rw [hM7, qput_eq, show (c + 1).toNat = c.toNat + 1 by omega, jPs_s, ec]; exact hval
            · rw [hM7, qput_nk (by decide)]; exact h195
            · exact fun ho => (hT5 ho).mv (by rw [hM7, qput_nk (by decide)]) (by rw [hM7, zput_oth (by decide)]) (by rw [hM7, zput_oth (by decide)])
        · skip
          have hP1 : P o = pPas := by rw [show o = -1 by omega]; exact hH.2.2.2.2.2.1.1
          have hpl : eVal (jEc Mo C a1 c.toNat pc) (P o) = 0 ↔ ¬ (39 < jF Mo C a1 c.toNat ∧ zband (Mo 98 (21 + 4 * c.toNat)) pc = Mo 98 (21 + 4 * c.toNat)) := by rw [hP1]; exact jPlP
          refine zH_w (c' := (72, [zR 97, .inl a1, .inl a2, .inl o, .inl c, u5, zN], [.inl c, zR 102])) 3 hz rfl ?_
          refine zH_iald hz rfl rfl (.inl rfl) (fun hin72 => ?_)
          show zH n (0, 0) 240 (73, [zR 97, .inl a1, .inl a2, .inl o, .inl c, u5, zN], [.inl (M6 102 (c : Int).toNat)]) M6 _
          rw [show M6 102 (c : Int).toNat = jF Mo C a1 c.toNat from by rw [f6 102 (by decide) (by decide)]; exact (hR c.toNat hc14).1]
          refine zH_w (c' := (75, [zR 97, .inl a1, .inl a2, .inl o, .inl c, u5, zN], [.inl 39, .inl (jF Mo C a1 c.toNat)])) 1 hz rfl ?_
          refine zH_wi_le (pc := 75) (n' := 78) (t := 93) (L := [zR 97, .inl a1, .inl a2, .inl o, .inl c, u5, zN]) (st := []) (x := (jF Mo C a1 c.toNat)) (y := 39) 0 hz (by rfl) (fun hb75 => ?_) (fun hb75 => ?_)
          · skip
            have hev : eVal (jEc Mo C a1 c.toNat pc) (P o) = 0 := hpl.mpr (fun q => by have := q.1; omega)
            have hk5 : mK Mo C M6 := hk.mv (f6 98 (by decide) (by decide)) (f6 101 (by decide) (by decide))
            have hR5 : mR Mo C a1 M6 := hR.mv (f6 102 (by decide) (by decide)) (f6 103 (by decide) (by decide)) (f6 104 (by decide) (by decide))
            have h215 : M6 97 21 = pc := (g6 21 (by decide)).trans h21
            have h195 : M6 97 19 = 0 := (g6 19 (by decide)).trans h19
            have hT5 : 0 ≤ o → mT (P o) M6 := fun q => (hT q).mv (g6 7 (by decide)) (f6 105 (by decide) (by decide)) (f6 106 (by decide) (by decide))
            have hval : zbor pc 0 = if eVal (jEc Mo C a1 c.toNat (jPs Mo C a1 (P o) c.toNat)) (P o) = 0 then jPs Mo C a1 (P o) c.toNat else zbor (jPs Mo C a1 (P o) c.toNat) (zbshl 1 c) := by rw [← hpc, if_pos hev, j_or0 hpr]
            refine zH_w (c' := (118, [zR 97, .inl a1, .inl a2, .inl o, .inl c, .inl 0, zN], [.inl (M6 97 21), zR 97])) 6 hz rfl ?_
            rw [h215]
            refine zH_w (c' := (135, [zR 97, .inl a1, .inl a2, .inl o, .inl c, .inl 0, zN], [])) 5 hz rfl ?_
            obtain ⟨M7, hM7⟩ : ∃ X : zM, X = zput M6 97 21 (zbor pc 0) := ⟨_, rfl⟩
            rw [← hM7]
            skip
            refine zH_w (c' := (44, [zR 97, .inl a1, .inl a2, .inl o, .inl (c + 1), .inl 0, zN], [])) 2 hz (by rw [show (.inl (c + 1) : zV) = .inl (w32 (c + 1)) from by rw [w32_id (by omega)]]; rfl) ?_
            refine ih44 (c + 1) (.inl 0) M7 (by omega) ?_ ?_ ?_ ?_ ?_ ?_
            · omega
            · exact hk5.mv (by rw [hM7, zput_oth (by decide)]) (by rw [hM7, zput_oth (by decide)])
            · exact hR5.mv (by rw [hM7, zput_oth (by decide)]) (by rw [hM7, zput_oth (by decide)]) (by rw [hM7, zput_oth (by decide)])
            · rw [hM7, qput_eq, show (c + 1).toNat = c.toNat + 1 by omega, jPs_s, ec]; exact hval
            · rw [hM7, qput_nk (by decide)]; exact h195
            · exact fun ho => (hT5 ho).mv (by rw [hM7, qput_nk (by decide)]) (by rw [hM7, zput_oth (by decide)]) (by rw [hM7, zput_oth (by decide)])
          · skip
            refine zH_w (c' := (83, [zR 97, .inl a1, .inl a2, .inl o, .inl c, u5, zN], [.inl 3, zR 108])) 3 hz rfl ?_
            refine zH_lald hz rfl rfl (.inl rfl) (fun hin83 => ?_)
            show zH n (0, 0) 240 (84, [zR 97, .inl a1, .inl a2, .inl o, .inl c, u5, zN], [.inr (.inl (M6 108 (3 : Int).toNat))]) M6 _
            obtain ⟨dd, hdd⟩ : ∃ x : Int, x = M6 108 (3 : Int).toNat := ⟨_, rfl⟩
            rw [← hdd]
            have hd2 : dd = if zband (Mo 98 (21 + 4 * c.toNat)) pc = Mo 98 (21 + 4 * c.toNat) then 1 else 0 := hdd.trans (e6.1 10 (by decide) (by decide))
            refine zH_w (c' := (86, [zR 97, .inl a1, .inl a2, .inl o, .inl c, u5, zN], [.inl (if 1 < dd then 1 else if dd = 1 then 0 else -1)])) 2 hz rfl ?_
            refine zH_wf_ne (pc := 86) (n' := 89) (t := 93) (L := [zR 97, .inl a1, .inl a2, .inl o, .inl c, u5, zN]) (st := []) (x := (if 1 < dd then 1 else if dd = 1 then 0 else -1)) 0 hz (by rfl) (fun hb86 => ?_) (fun hb86 => ?_)
            · skip
              have hev : eVal (jEc Mo C a1 c.toNat pc) (P o) = 0 := hpl.mpr (fun q => hb86 (elc_eq.mpr (by rw [hd2, if_pos q.2])))
              have hk5 : mK Mo C M6 := hk.mv (f6 98 (by decide) (by decide)) (f6 101 (by decide) (by decide))
              have hR5 : mR Mo C a1 M6 := hR.mv (f6 102 (by decide) (by decide)) (f6 103 (by decide) (by decide)) (f6 104 (by decide) (by decide))
              have h215 : M6 97 21 = pc := (g6 21 (by decide)).trans h21
              have h195 : M6 97 19 = 0 := (g6 19 (by decide)).trans h19
              have hT5 : 0 ≤ o → mT (P o) M6 := fun q => (hT q).mv (g6 7 (by decide)) (f6 105 (by decide) (by decide)) (f6 106 (by decide) (by decide))
              have hval : zbor pc 0 = if eVal (jEc Mo C a1 c.toNat (jPs Mo C a1 (P o) c.toNat)) (P o) = 0 then jPs Mo C a1 (P o) c.toNat else zbor (jPs Mo C a1 (P o) c.toNat) (zbshl 1 c) := by rw [← hpc, if_pos hev, j_or0 hpr]
              refine zH_w (c' := (118, [zR 97, .inl a1, .inl a2, .inl o, .inl c, .inl 0, zN], [.inl (M6 97 21), zR 97])) 6 hz rfl ?_
              rw [h215]
              refine zH_w (c' := (135, [zR 97, .inl a1, .inl a2, .inl o, .inl c, .inl 0, zN], [])) 5 hz rfl ?_
              obtain ⟨M7, hM7⟩ : ∃ X : zM, X = zput M6 97 21 (zbor pc 0) := ⟨_, rfl⟩
              rw [← hM7]
              skip
              refine zH_w (c' := (44, [zR 97, .inl a1, .inl a2, .inl o, .inl (c + 1), .inl 0, zN], [])) 2 hz (by rw [show (.inl (c + 1) : zV) = .inl (w32 (c + 1)) from by rw [w32_id (by omega)]]; rfl) ?_
              refine ih44 (c + 1) (.inl 0) M7 (by omega) ?_ ?_ ?_ ?_ ?_ ?_
              · omega
              · exact hk5.mv (by rw [hM7, zput_oth (by decide)]) (by rw [hM7, zput_oth (by decide)])
              · exact hR5.mv (by rw [hM7, zput_oth (by decide)]) (by rw [hM7, zput_oth (by decide)]) (by rw [hM7, zput_oth (by decide)])
              · rw [hM7, qput_eq, show (c + 1).toNat = c.toNat + 1 by omega, jPs_s, ec]; exact hval
              · rw [hM7, qput_nk (by decide)]; exact h195
              · exact fun ho => (hT5 ho).mv (by rw [hM7, qput_nk (by decide)]) (by rw [hM7, zput_oth (by decide)]) (by rw [hM7, zput_oth (by decide)])
            · skip
              have hev : ¬ eVal (jEc Mo C a1 c.toNat pc) (P o) = 0 := fun q => hpl.mp q ⟨by omega, by by_cases z : zband (Mo 98 (21 + 4 * c.toNat)) pc = Mo 98 (21 + 4 * c.toNat); exact z; (rw [if_neg z] at hd2; exact absurd hd2 (by have := elc_eq.mp (Decidable.byContradiction hb86); omega))⟩
              have hk5 : mK Mo C M6 := hk.mv (f6 98 (by decide) (by decide)) (f6 101 (by decide) (by decide))
              have hR5 : mR Mo C a1 M6 := hR.mv (f6 102 (by decide) (by decide)) (f6 103 (by decide) (by decide)) (f6 104 (by decide) (by decide))
              have h215 : M6 97 21 = pc := (g6 21 (by decide)).trans h21
              have h195 : M6 97 19 = 0 := (g6 19 (by decide)).trans h19
              have hT5 : 0 ≤ o → mT (P o) M6 := fun q => (hT q).mv (g6 7 (by decide)) (f6 105 (by decide) (by decide)) (f6 106 (by decide) (by decide))
              have hval : zbor pc (zbshl 1 c) = if eVal (jEc Mo C a1 c.toNat (jPs Mo C a1 (P o) c.toNat)) (P o) = 0 then jPs Mo C a1 (P o) c.toNat else zbor (jPs Mo C a1 (P o) c.toNat) (zbshl 1 c) := by rw [← hpc, if_neg hev]
              refine zH_w (c' := (118, [zR 97, .inl a1, .inl a2, .inl o, .inl c, .inl 1, zN], [.inl (M6 97 21), zR 97])) 6 hz rfl ?_
              rw [h215]
              refine zH_w (c' := (135, [zR 97, .inl a1, .inl a2, .inl o, .inl c, .inl 1, zN], [])) 8 hz rfl ?_
              obtain ⟨M7, hM7⟩ : ∃ X : zM, X = zput M6 97 21 (zbor pc (zbshl 1 c)) := ⟨_, rfl⟩
              rw [← hM7]
              skip
              refine zH_w (c' := (44, [zR 97, .inl a1, .inl a2, .inl o, .inl (c + 1), .inl 1, zN], [])) 2 hz (by rw [show (.inl (c + 1) : zV) = .inl (w32 (c + 1)) from by rw [w32_id (by omega)]]; rfl) ?_
              refine ih44 (c + 1) (.inl 1) M7 (by omega) ?_ ?_ ?_ ?_ ?_ ?_
              · omega
              · exact hk5.mv (by rw [hM7, zput_oth (by decide)]) (by rw [hM7, zput_oth (by decide)])
              · exact hR5.mv (by rw [hM7, zput_oth (by decide)]) (by rw [hM7, zput_oth (by decide)]) (by rw [hM7, zput_oth (by decide)])
              · rw [hM7, qput_eq, show (c + 1).toNat = c.toNat + 1 by omega, jPs_s, ec]; exact hval
              · rw [hM7, qput_nk (by decide)]; exact h195
              · exact fun ho => (hT5 ho).mv (by rw [hM7, qput_nk (by decide)]) (by rw [hM7, zput_oth (by decide)]) (by rw [hM7, zput_oth (by decide)])
  refine zH_wi_eq (pc := 24) (n' := 27) (t := 41) (L := [zR 97, .inl a1, .inl a2, .inl o, zN, zN, zN]) (st := []) (x := o) (y := (-1)) 2 hz (by rfl) (fun hb24 => ?_) (fun hb24 => ?_)
  · skip
    have hk4 := hk2
    have hR4 := hR2
    have z21 : M2 97 21 = jPs Mo C a1 (P o) (0 : Int).toNat := z221
    have z19 := z219
    have hT4 : 0 ≤ o → mT (P o) M2 := fun q => absurd q (by omega)
    refine zH_w (c' := (44, [zR 97, .inl a1, .inl a2, .inl o, .inl 0, zN, zN], [])) 2 hz rfl ?_
    refine lp44 (15) 0 zN M2 (by omega) ?_ ?_ ?_ ?_ ?_ ?_
    · omega
    · exact hk4
    · exact hR4
    · exact z21
    · exact z19
    · exact hT4
  · skip
    have ho0 : 0 ≤ o := by omega
    have hMd := (hH.2.2.2.2.2.2 o ho0 (by omega)).1
    have h10 := hMd.2.1
    refine zH_wC (c1 := (40, [zR 97, .inl a1, .inl a2, .inl o, zN, zN, zN], [])) 6 hz zp_231 (m231 hMd ho0 (by decide) e298 (w32 (4000 + (w32 (164 * o)))) (by rw [w32_id (x := 164 * o) (by omega), w32_id (by omega)]; omega)) (by rfl) ?_
    rintro _ M4 ⟨rfl, f4, g4, hT3⟩
    show zH n (0, 0) 240 (40, [zR 97, .inl a1, .inl a2, .inl o, zN, zN, zN], [.inl (-1)]) M4 _
    have hk4 : mK Mo C M4 := hk2.mv (f4 98 (by decide) (by decide) (by decide) (by decide)) (f4 101 (by decide) (by decide) (by decide) (by decide))
    have hR4 : mR Mo C a1 M4 := hR2.mv (f4 102 (by decide) (by decide) (by decide) (by decide)) (f4 103 (by decide) (by decide) (by decide) (by decide)) (f4 104 (by decide) (by decide) (by decide) (by decide))
    have z21 : M4 97 21 = jPs Mo C a1 (P o) (0 : Int).toNat := (g4 21 (by decide)).trans z221
    have z19 : M4 97 19 = 0 := (g4 19 (by decide)).trans z219
    have hT4 : 0 ≤ o → mT (P o) M4 := fun _ => hT3
    refine zH_w (c' := (44, [zR 97, .inl a1, .inl a2, .inl o, .inl 0, zN, zN], [])) 3 hz rfl ?_
    refine lp44 (15) 0 zN M4 (by omega) ?_ ?_ ?_ ?_ ?_ ?_
    · omega
    · exact hk4
    · exact hR4
    · exact z21
    · exact z19
    · exact hT4
set_option maxRecDepth 100000 in
theorem fh_241_97 {n : Nat} {M : zM} {S : jSt} {more : Int} (hS : mFo S M) (h19 : M 97 19 = more) (a1 : Int) {O : List Int} (hO1 : a1 = -1 → O = pCls) (hO : ¬ a1 = -1 → (O.length ≤ 80 ∧ (∀ x ∈ O, eOk x)) ∧ eD O = 1 ∧ mT O M) : zH n (0, 0) 241 (0, zini [zR 97, .inl a1] 4, []) M (fun r M' => r = some (.inl (jCp (eVal (jEa S more) O))) ∧ (∀ r, r ≠ 97 → r ≠ 108 → r ≠ 109 → M' r = M r) ∧ ∀ j, j ≠ 16 → j ≠ 20 → M' 97 j = M 97 j) := by
  have hz := zp_241
  show zH n (0, 0) 241 (0, [zR 97, .inl a1, zN, zN], []) M _
  refine zH_wC (c1 := (4, [zR 97, .inl a1, zN, zN], [])) 1 hz zp_239 (fh_239_97 hS h19) (by rfl) ?_
  rintro _ M1 ⟨rfl, f1, g1, e1⟩
  show zH n (0, 0) 241 (4, [zR 97, .inl a1, zN, zN], []) M1 _
  refine zH_wi_ne (pc := 6) (n' := 9) (t := 20) (L := [zR 97, .inl a1, zN, zN]) (st := []) (x := a1) (y := (-1)) 2 hz (by rfl) (fun hb6 => ?_) (fun hb6 => ?_)
  · skip
    have hO9 := hO hb6
    refine zH_wC (c1 := (24, [zR 97, .inl a1, zN, zN], [])) 1 hz zp_235 (fh_235_97 hO9.1.1 hO9.1.2 hO9.2.1 ((g1 7 (by decide)).trans hO9.2.2.1) (by rw [f1 105 (by decide) (by decide), f1 106 (by decide) (by decide)]; exact hO9.2.2.2)) (by rfl) ?_
    rintro _ M2 ⟨rfl, f2, g2⟩
    show zH n (0, 0) 241 (24, [zR 97, .inl a1, zN, zN], [.inr (.inl (eVal (eMd M1) O))]) M2 _
    rw [show eVal (eMd M1) O = eVal (jEa S more) O from congrArg (fun s => s.headD 0) (eRun_cg e1 O)]
    obtain ⟨v, hv⟩ : ∃ x : Int, x = (eVal (jEa S more) O) := ⟨_, rfl⟩
    rw [← hv]
    have hfr : ∀ r, r ≠ 97 → r ≠ 108 → r ≠ 109 → M2 r = M r := fun r q1 q2 q3 => (f2 r q1 q3).trans (f1 r q1 q2)
    have hgr : ∀ j, j ≠ 16 → j ≠ 20 → M2 97 j = M 97 j := fun j q1 q2 => (g2 j q1).trans (g1 j q2)
    refine zH_w (c' := (28, [zR 97, .inl a1, .inr (.inl v), zN], [.inl (if 0 < v then 1 else if v = 0 then 0 else -1)])) 4 hz rfl ?_
    refine zH_wf_ge (pc := 28) (n' := 31) (t := 35) (L := [zR 97, .inl a1, .inr (.inl v), zN]) (st := []) (x := (if 0 < v then 1 else if v = 0 then 0 else -1)) 0 hz (by rfl) (fun hb28 => ?_) (fun hb28 => ?_)
    · skip
      have k1 : 0 ≤ v := elc_ge.mp hb28
      refine zH_wf_le (pc := 40) (n' := 43) (t := 48) (L := [zR 97, .inl a1, .inr (.inl v), zN]) (st := []) (x := (if 9 < v then 1 else if v = 9 then 0 else -1)) 3 hz (by rfl) (fun hb40 => ?_) (fun hb40 => ?_)
      · skip
        have k2 : v ≤ 9 := elc_le.mp hb40
        have hcp : jCp v = w32 v := by unfold jCp; rw [if_neg (by omega), if_neg (by omega), w32_id (by omega)]
        exact zH_wr (r := some (.inl (w32 v))) 2 hz (by rfl) (⟨by rw [hcp], hfr, hgr⟩)
      · skip
        have k2 : 9 < v := Int.not_le.mp (fun q => hb40 (elc_le.mpr q))
        have hcp : jCp v = 9 := by unfold jCp; rw [if_neg (by omega), if_pos k2]
        exact zH_wr (r := some (.inl 9)) 2 hz (by rfl) (⟨by rw [hcp], hfr, hgr⟩)
    · skip
      have k1 : v < 0 := Int.not_le.mp (fun q => hb28 (elc_ge.mpr q))
      have hcp : jCp v = 0 := by unfold jCp; rw [if_pos k1]
      exact zH_wr (r := some (.inl 0)) 2 hz (by rfl) (⟨by rw [hcp], hfr, hgr⟩)
  · skip
    refine zH_w (c' := (13, [zR 97, .inl a1, zN, zN], [.inr (.inl (M1 97 22))])) 2 hz rfl ?_
    rw [show M1 97 22 = S.1 from (g1 22 (by decide)).trans hS.1]
    refine zH_w (c' := (16, [zR 97, .inl a1, zN, zN], [.inr (.inl 10), .inr (.inl S.1)])) 1 hz rfl ?_
    refine zH_ldiv hz rfl (fun hdv16 => ?_)
    show zH n (0, 0) 241 (17, [zR 97, .inl a1, zN, zN], [.inr (.inl (w64 (S.1.tdiv 10)))]) M1 _
    rw [show w64 (S.1.tdiv 10) = eVal (jEa S more) O from by rw [hO1 (by omega)]; exact jPlC.symm]
    obtain ⟨v, hv⟩ : ∃ x : Int, x = (eVal (jEa S more) O) := ⟨_, rfl⟩
    rw [← hv]
    have hfr : ∀ r, r ≠ 97 → r ≠ 108 → r ≠ 109 → M1 r = M r := fun r q1 q2 _ => f1 r q1 q2
    have hgr : ∀ j, j ≠ 16 → j ≠ 20 → M1 97 j = M 97 j := fun j _ q => g1 j q
    refine zH_w (c' := (28, [zR 97, .inl a1, .inr (.inl v), zN], [.inl (if 0 < v then 1 else if v = 0 then 0 else -1)])) 5 hz rfl ?_
    refine zH_wf_ge (pc := 28) (n' := 31) (t := 35) (L := [zR 97, .inl a1, .inr (.inl v), zN]) (st := []) (x := (if 0 < v then 1 else if v = 0 then 0 else -1)) 0 hz (by rfl) (fun hb28 => ?_) (fun hb28 => ?_)
    · skip
      have k1 : 0 ≤ v := elc_ge.mp hb28
      refine zH_wf_le (pc := 40) (n' := 43) (t := 48) (L := [zR 97, .inl a1, .inr (.inl v), zN]) (st := []) (x := (if 9 < v then 1 else if v = 9 then 0 else -1)) 3 hz (by rfl) (fun hb40 => ?_) (fun hb40 => ?_)
      · skip
        have k2 : v ≤ 9 := elc_le.mp hb40
        have hcp : jCp v = w32 v := by unfold jCp; rw [if_neg (by omega), if_neg (by omega), w32_id (by omega)]
        exact zH_wr (r := some (.inl (w32 v))) 2 hz (by rfl) (⟨by rw [hcp], hfr, hgr⟩)
      · skip
        have k2 : 9 < v := Int.not_le.mp (fun q => hb40 (elc_le.mpr q))
        have hcp : jCp v = 9 := by unfold jCp; rw [if_neg (by omega), if_pos k2]
        exact zH_wr (r := some (.inl 9)) 2 hz (by rfl) (⟨by rw [hcp], hfr, hgr⟩)
    · skip
      have k1 : v < 0 := Int.not_le.mp (fun q => hb28 (elc_ge.mpr q))
      have hcp : jCp v = 0 := by unfold jCp; rw [if_pos k1]
      exact zH_wr (r := some (.inl 0)) 2 hz (by rfl) (⟨by rw [hcp], hfr, hgr⟩)
set_option maxRecDepth 100000 in
theorem fh_242_97 {n : Nat} {M : zM} {Mo : zM} {C : Nat → Bool} (h : mK Mo C M) {P Q : Int → List Int} (hH : mH Mo P Q) (a1 a2 : Int) (hs : 0 ≤ a1 ∧ a1 < Mo 98 1) : zH n (0, 0) 242 (0, zini [zR 97, .inl a1, .inl a2] 4, []) M (fun r M' => r = some (.inl (oBi (Mo 98) a1 a2)) ∧ (∀ r, r ≠ 97 → r ≠ 105 → r ≠ 106 → r ≠ 107 → M' r = M r) ∧ (∀ j, 17 ≤ j → M' 97 j = M 97 j) ∧ (0 ≤ oBi (Mo 98) a1 a2 → mT (Q (oBi (Mo 98) a1 a2)) M')) := by
  have hz := zp_242
  show zH n (0, 0) 242 (0, [zR 97, .inl a1, .inl a2, zN], []) M _
  have hn1 := hH.1.cnt1
  obtain ⟨o, ho⟩ : ∃ o : Int, o = oBi (Mo 98) a1 a2 := ⟨_, rfl⟩
  have hob := hH.2.2.2.2.1 a1 a2 hs
  rw [← ho] at hob
  rw [← ho]
  refine zH_w (c' := (3, [zR 97, .inl a1, .inl a2, zN], [.inl a2, .inl a1, zR 97])) 3 hz rfl ?_
  refine zH_wE (c1 := (6, [zR 97, .inl a1, .inl a2, zN], [])) 0 hz zp_237 (fh_237_97 hH.1 h.1 hH.2.1 a1 a2 (by omega)) (by rfl) ?_
  show zH n (0, 0) 242 (6, [zR 97, .inl a1, .inl a2, zN], [.inl (oBi (Mo 98) a1 a2)]) M _
  rw [← ho]
  refine zH_w (c' := (9, [zR 97, .inl a1, .inl a2, .inl o], [.inl (-1), .inl o])) 3 hz rfl ?_
  refine zH_wi_eq (pc := 9) (n' := 12) (t := 29) (L := [zR 97, .inl a1, .inl a2, .inl o]) (st := []) (x := o) (y := (-1)) 0 hz (by rfl) (fun hb9 => ?_) (fun hb9 => ?_)
  · skip
    have f4 := True.intro
    have g4 := True.intro
    have hT3 := True.intro
    refine zH_w (c' := (30, [zR 97, .inl a1, .inl a2, .inl o], [.inl o])) 1 hz rfl ?_
    refine zH_ret hz rfl rfl ?_
    first
      | exact ⟨rfl, f4, g4, fun _ => hT3⟩
      | exact ⟨rfl, fun _ _ _ _ _ => rfl, fun _ _ => rfl, fun q => absurd q (by omega)⟩
  · skip
    have ho0 : 0 ≤ o := by omega
    have hMd := (hH.2.2.2.2.2.2 o ho0 (by omega)).2
    have h10 := hMd.2.1
    refine zH_wC (c1 := (28, [zR 97, .inl a1, .inl a2, .inl o], [])) 8 hz zp_231 (m231 hMd ho0 (by decide) h.1 (w32 ((w32 (4000 + (w32 (164 * o)))) + 81)) (by rw [w32_id (x := 164 * o) (by omega), w32_id (x := 4000 + 164 * o) (by omega), w32_id (by omega)]; omega)) (by rfl) ?_
    rintro _ M4 ⟨rfl, f4, g4, hT3⟩
    show zH n (0, 0) 242 (28, [zR 97, .inl a1, .inl a2, .inl o], [.inl (-1)]) M4 _
    refine zH_w (c' := (30, [zR 97, .inl a1, .inl a2, .inl o], [.inl o])) 2 hz rfl ?_
    refine zH_ret hz rfl rfl ?_
    first
      | exact ⟨rfl, f4, g4, fun _ => hT3⟩
      | exact ⟨rfl, fun _ _ _ _ _ => rfl, fun _ _ => rfl, fun q => absurd q (by omega)⟩
theorem m_cls {Mo M : zM} {P Q : Int → List Int} (hH : mH Mo P Q) {s d : Int} (hs : 0 ≤ s ∧ s < Mo 98 1) (hT : 0 ≤ oBi (Mo 98) s d → mT (Q (oBi (Mo 98) s d)) M) : (oBi (Mo 98) s d = -1 → Q (oBi (Mo 98) s d) = pCls) ∧ (¬ oBi (Mo 98) s d = -1 → ((Q (oBi (Mo 98) s d)).length ≤ 80 ∧ (∀ x ∈ Q (oBi (Mo 98) s d), eOk x)) ∧ eD (Q (oBi (Mo 98) s d)) = 1 ∧ mT (Q (oBi (Mo 98) s d)) M) := by
  have hob := hH.2.2.2.2.1 s d hs
  refine ⟨fun e => by rw [e]; exact hH.2.2.2.2.2.1.2, fun e => ?_⟩
  have q := (hH.2.2.2.2.2.2 (oBi (Mo 98) s d) (by omega) (by omega)).2
  exact ⟨q.1, q.2.2.1, hT (by omega)⟩
set_option maxRecDepth 100000 in
theorem fh_243_97 {n : Nat} {M : zM} {Mo : zM} {C : Nat → Bool} (h : mK Mo C M) {P Q : Int → List Int} (hH : mH Mo P Q) (a1 a2 : Int) (hs : 0 ≤ a1 ∧ a1 < Mo 98 1) : zH n (0, 0) 243 (0, zini [zR 97, .inl a1, .inl a2] 3, []) M (fun r M' => r = some (.inl (jGd Mo C P Q a1 a2 0)) ∧ mK Mo C M' ∧ M' 97 21 = (jPs Mo C a1 (P (oBi (Mo 98) a1 a2)) (Mo 98 0).toNat)) := by
  have hz := zp_243
  show zH n (0, 0) 243 (0, [zR 97, .inl a1, .inl a2], []) M _
  refine zH_wC (c1 := (6, [zR 97, .inl a1, .inl a2], [])) 3 hz zp_240 (fh_240_97 h hH a1 a2 hs) (by rfl) ?_
  rintro _ M1 ⟨rfl, k1⟩
  show zH n (0, 0) 243 (6, [zR 97, .inl a1, .inl a2], []) M1 _
  have hS1 := k1.2.2.2.1
  refine zH_wC (c1 := (13, [zR 97, .inl a1, .inl a2], [zR 97])) 4 hz zp_242 (fh_242_97 k1.1 hH a1 a2 hs) (by rfl) ?_
  rintro _ M2 ⟨rfl, f2, g2, hT2⟩
  show zH n (0, 0) 243 (13, [zR 97, .inl a1, .inl a2], [.inl (oBi (Mo 98) a1 a2), zR 97]) M2 _
  have hS2 := hS1.mv (fun j q1 q2 => g2 j (by omega)) (g2 18 (by decide)) (f2 110 (by decide) (by decide) (by decide) (by decide))
  have hq := m_cls hH hs hT2
  refine zH_wC (c1 := (16, [zR 97, .inl a1, .inl a2], [])) 0 hz zp_241 (fh_241_97 hS2 ((g2 19 (by decide)).trans k1.2.1) (oBi (Mo 98) a1 a2) hq.1 hq.2) (by rfl) ?_
  rintro _ M3 ⟨rfl, f3, g3⟩
  show zH n (0, 0) 243 (16, [zR 97, .inl a1, .inl a2], [.inl (jGd Mo C P Q a1 a2 0)]) M3 _
  exact zH_wr (r := some (.inl (jGd Mo C P Q a1 a2 0))) 0 hz (by rfl) (⟨rfl, k1.1.mv ((f3 98 (by decide) (by decide) (by decide)).trans (f2 98 (by decide) (by decide) (by decide) (by decide))) ((f3 101 (by decide) (by decide) (by decide)).trans (f2 101 (by decide) (by decide) (by decide) (by decide))), (g3 21 (by decide) (by decide)).trans ((g2 21 (by decide)).trans k1.2.2.1)⟩)
set_option maxRecDepth 100000 in
theorem fh_244_97 {n : Nat} {M : zM} {Mo : zM} {C : Nat → Bool} (h : mK Mo C M) {P Q : Int → List Int} (hH : mH Mo P Q) (a1 a2 : Int) (hs : 0 ≤ a1 ∧ a1 < Mo 98 1) : zH n (0, 0) 244 (0, zini [zR 97, .inl a1, .inl a2] 6, []) M (fun r M' => r = some (.inl (jRl Mo C P Q a1 a2)) ∧ mK Mo C M') := by
  have hz := zp_244
  show zH n (0, 0) 244 (0, [zR 97, .inl a1, .inl a2, zN, zN, zN], []) M _
  have hn4 := hH.1.cnt4
  have hv : ∀ a b : Int, 0 ≤ a ∧ a < 250 → 0 ≤ b ∧ b < 12 → hf_194_97 M a b = qA Mo a b := fun a b ha hb => hact_same h.1 ha hb
  refine zH_w (c' := (5, [zR 97, .inl a1, .inl a2, .inl (-1), .inl 0, zN], [])) 4 hz rfl ?_
  have lp5 : ∀ (N : Nat) (on : Int) (i : Int) (u5 : zV), ((250 - i).toNat) < N → (0 ≤ i ∧ i ≤ Mo 98 4) → (on = jOi Mo C a1 a2 i.toNat) → zH n (0, 0) 244 (5, [zR 97, .inl a1, .inl a2, .inl on, .inl i, u5], []) M (fun r M' => r = some (.inl (jRl Mo C P Q a1 a2)) ∧ mK Mo C M') := by
    intro N
    induction N with
    | zero => intro on i u5 hN; exact absurd hN (Nat.not_lt_zero _)
    | succ N ih5 =>
      intro on i u5 hN hi hon
      refine zH_w (c' := (12, [zR 97, .inl a1, .inl a2, .inl on, .inl i, u5], [.inl 4, zR 98, .inl i])) 4 hz rfl ?_
      refine zH_iald hz rfl rfl (.inl rfl) (fun hin12 => ?_)
      show zH n (0, 0) 244 (13, [zR 97, .inl a1, .inl a2, .inl on, .inl i, u5], [.inl (M 98 (4 : Int).toNat), .inl i]) M _
      rw [show M 98 (4 : Int).toNat = Mo 98 4 from congrFun h.1 4]
      refine zH_icmp_ge hz rfl (fun hb13 => ?_) (fun hb13 => ?_)
      · skip
        have hoi := jOi_on hH.2.2.2.1 C a1 a2 i.toNat (by omega)
        rw [← hon] at hoi
        rw [show i.toNat = (Mo 98 4).toNat by omega] at hoi
        refine zH_w (c' := (108, [zR 97, .inl a1, .inl a2, .inl on, .inl i, u5], [.inl (-1), .inl on])) 2 hz rfl ?_
        refine zH_wi_ne (pc := 108) (n' := 111) (t := 115) (L := [zR 97, .inl a1, .inl a2, .inl on, .inl i, u5]) (st := []) (x := on) (y := (-1)) 0 hz (by rfl) (fun hb108 => ?_) (fun hb108 => ?_)
        · skip
          have hqd := hH.2.2.2.1 on (by omega)
          have hqn : ¬ jOn Mo C a1 a2 (Mo 98 4).toNat = -1 := by omega
          refine zH_wE (c1 := (123, [zR 97, .inl a1, .inl a2, .inl on, .inl i, u5], [.inl a1, zR 97])) 5 hz zp_194 (fh_194_97 on 1) (by rfl) ?_
          show zH n (0, 0) 244 (123, [zR 97, .inl a1, .inl a2, .inl on, .inl i, u5], [.inl (hf_194_97 M on 1), .inl a1, zR 97]) M _
          rw [hv on 1 (by omega) (by decide)]
          refine zH_wC (c1 := (126, [zR 97, .inl a1, .inl a2, .inl on, .inl i, u5], [])) 0 hz zp_243 (fh_243_97 h hH a1 (qA Mo on 1) hs) (by rfl) ?_
          rintro _ M2 ⟨rfl, k2, -⟩
          show zH n (0, 0) 244 (126, [zR 97, .inl a1, .inl a2, .inl on, .inl i, u5], [.inl (jGd Mo C P Q a1 (qA Mo on 1) 0)]) M2 _
          refine zH_ret hz rfl rfl ?_
          unfold jRl
          first
            | exact ⟨by rw [if_pos (by omega)], h⟩
            | exact ⟨by rw [if_neg (by omega), show jOn Mo C a1 a2 (Mo 98 4).toNat = qA Mo on 1 by omega], k2⟩
        · skip
          have k2 := True.intro
          have hqn : jOn Mo C a1 a2 (Mo 98 4).toNat = -1 := by omega
          refine zH_w (c' := (126, [zR 97, .inl a1, .inl a2, .inl on, .inl i, u5], [.inl (-1)])) 2 hz rfl ?_
          refine zH_ret hz rfl rfl ?_
          unfold jRl
          first
            | exact ⟨by rw [if_pos (by omega)], h⟩
            | exact ⟨by rw [if_neg (by omega), show jOn Mo C a1 a2 (Mo 98 4).toNat = qA Mo on 1 by omega], k2⟩
      · skip
        have ei : ((i.toNat : Nat) : Int) = i := by omega
        have hoi := jOi_on hH.2.2.2.1 C a1 a2 i.toNat (by omega)
        rw [← hon] at hoi
        have hs9 := jOi_s Mo C a1 a2 i.toNat
        rw [ei, ← hon] at hs9
        refine zH_w (c' := (22, [zR 97, .inl a1, .inl a2, .inl on, .inl i, u5], [.inl i, zR 101])) 3 hz rfl ?_
        refine zH_bald hz rfl rfl (.inl rfl) (fun hin22 => ?_)
        show zH n (0, 0) 244 (23, [zR 97, .inl a1, .inl a2, .inl on, .inl i, u5], [.inl (M 101 (i : Int).toNat)]) M _
        rw [show M 101 (i : Int).toNat = if C i.toNat = true then 1 else 0 from h.2 i.toNat (by omega)]
        obtain ⟨y, hy⟩ : ∃ x : Int, x = (if C i.toNat = true then 1 else 0) := ⟨_, rfl⟩
        rw [← hy]
        refine zH_if_eq hz rfl (fun hb23 => ?_) (fun hb23 => ?_)
        · skip
          have hct : ¬ C i.toNat = true := fun z => by rw [if_pos z] at hy; omega
          have hst := hs9.trans (if_neg (fun q => hct q.1))
          refine zH_w (c' := (5, [zR 97, .inl a1, .inl a2, .inl on, .inl (i + 1), .inl 0], [])) 8 hz (by rw [show (.inl (i + 1) : zV) = .inl (w32 (i + 1)) from by rw [w32_id (by omega)]]; rfl) ?_
          refine ih5 on (i + 1) (.inl 0) (by omega) ?_ ?_
          · omega
          · rw [show (i + 1).toNat = i.toNat + 1 by omega]; exact hst.symm
        · skip
          have hct : C i.toNat = true := by by_cases hq : C i.toNat = true; exact hq; rw [if_neg hq] at hy; exact absurd hy hb23
          refine zH_w (c' := (30, [zR 97, .inl a1, .inl a2, .inl on, .inl i, u5], [.inl 0, .inl i, zR 97])) 3 hz rfl ?_
          refine zH_wE (c1 := (33, [zR 97, .inl a1, .inl a2, .inl on, .inl i, u5], [])) 0 hz zp_194 (fh_194_97 i 0) (by rfl) ?_
          show zH n (0, 0) 244 (33, [zR 97, .inl a1, .inl a2, .inl on, .inl i, u5], [.inl (hf_194_97 M i 0)]) M _
          rw [hv i 0 (by omega) (by decide)]
          refine zH_w (c' := (35, [zR 97, .inl a1, .inl a2, .inl on, .inl i, u5], [.inl 6, .inl (qA Mo i 0)])) 1 hz rfl ?_
          refine zH_wi_ne (pc := 35) (n' := 38) (t := 64) (L := [zR 97, .inl a1, .inl a2, .inl on, .inl i, u5]) (st := []) (x := (qA Mo i 0)) (y := 6) 0 hz (by rfl) (fun hb35 => ?_) (fun hb35 => ?_)
          · skip
            have hst := hs9.trans (if_neg (fun q => absurd q.2.1 (by omega)))
            refine zH_w (c' := (5, [zR 97, .inl a1, .inl a2, .inl on, .inl (i + 1), .inl 0], [])) 8 hz (by rw [show (.inl (i + 1) : zV) = .inl (w32 (i + 1)) from by rw [w32_id (by omega)]]; rfl) ?_
            refine ih5 on (i + 1) (.inl 0) (by omega) ?_ ?_
            · omega
            · rw [show (i + 1).toNat = i.toNat + 1 by omega]; exact hst.symm
          · skip
            refine zH_wE (c1 := (45, [zR 97, .inl a1, .inl a2, .inl on, .inl i, u5], [])) 3 hz zp_194 (fh_194_97 i 4) (by rfl) ?_
            show zH n (0, 0) 244 (45, [zR 97, .inl a1, .inl a2, .inl on, .inl i, u5], [.inl (hf_194_97 M i 4)]) M _
            rw [hv i 4 (by omega) (by decide)]
            refine zH_w (c' := (46, [zR 97, .inl a1, .inl a2, .inl on, .inl i, u5], [.inl a1, .inl (qA Mo i 4)])) 1 hz rfl ?_
            refine zH_wi_ne (pc := 46) (n' := 49) (t := 64) (L := [zR 97, .inl a1, .inl a2, .inl on, .inl i, u5]) (st := []) (x := (qA Mo i 4)) (y := a1) 0 hz (by rfl) (fun hb46 => ?_) (fun hb46 => ?_)
            · skip
              have hst := hs9.trans (if_neg (fun q => absurd q.2.2.1 (by omega)))
              refine zH_w (c' := (5, [zR 97, .inl a1, .inl a2, .inl on, .inl (i + 1), .inl 0], [])) 8 hz (by rw [show (.inl (i + 1) : zV) = .inl (w32 (i + 1)) from by rw [w32_id (by omega)]]; rfl) ?_
              refine ih5 on (i + 1) (.inl 0) (by omega) ?_ ?_
              · omega
              · rw [show (i + 1).toNat = i.toNat + 1 by omega]; exact hst.symm
            · skip
              refine zH_wE (c1 := (56, [zR 97, .inl a1, .inl a2, .inl on, .inl i, u5], [])) 3 hz zp_194 (fh_194_97 i 1) (by rfl) ?_
              show zH n (0, 0) 244 (56, [zR 97, .inl a1, .inl a2, .inl on, .inl i, u5], [.inl (hf_194_97 M i 1)]) M _
              rw [hv i 1 (by omega) (by decide)]
              refine zH_w (c' := (57, [zR 97, .inl a1, .inl a2, .inl on, .inl i, u5], [.inl a2, .inl (qA Mo i 1)])) 1 hz rfl ?_
              refine zH_wi_gt (pc := 57) (n' := 60) (t := 64) (L := [zR 97, .inl a1, .inl a2, .inl on, .inl i, u5]) (st := []) (x := (qA Mo i 1)) (y := a2) 0 hz (by rfl) (fun hb57 => ?_) (fun hb57 => ?_)
              · skip
                have hst := hs9.trans (if_neg (fun q => absurd q.2.2.2 (by omega)))
                refine zH_w (c' := (5, [zR 97, .inl a1, .inl a2, .inl on, .inl (i + 1), .inl 0], [])) 8 hz (by rw [show (.inl (i + 1) : zV) = .inl (w32 (i + 1)) from by rw [w32_id (by omega)]]; rfl) ?_
                refine ih5 on (i + 1) (.inl 0) (by omega) ?_ ?_
                · omega
                · rw [show (i + 1).toNat = i.toNat + 1 by omega]; exact hst.symm
              · skip
                have hs8 := hs9.trans (if_pos ⟨hct, by omega, by omega, by omega⟩)
                refine zH_w (c' := (74, [zR 97, .inl a1, .inl a2, .inl on, .inl i, .inl 1], [.inl (-1), .inl on])) 7 hz rfl ?_
                refine zH_wi_eq (pc := 74) (n' := 77) (t := 93) (L := [zR 97, .inl a1, .inl a2, .inl on, .inl i, .inl 1]) (st := []) (x := on) (y := (-1)) 0 hz (by rfl) (fun hb74 => ?_) (fun hb74 => ?_)
                · skip
                  have hst := hs8.trans (if_pos (.inl hb74))
                  refine zH_w (c' := (5, [zR 97, .inl a1, .inl a2, .inl i, .inl (i + 1), .inl 1], [])) 5 hz (by rw [show (.inl (i + 1) : zV) = .inl (w32 (i + 1)) from by rw [w32_id (by omega)]]; rfl) ?_
                  refine ih5 i (i + 1) (.inl 1) (by omega) ?_ ?_
                  · omega
                  · rw [show (i + 1).toNat = i.toNat + 1 by omega]; exact hst.symm
                · skip
                  refine zH_wE (c1 := (84, [zR 97, .inl a1, .inl a2, .inl on, .inl i, .inl 1], [])) 3 hz zp_194 (fh_194_97 i 1) (by rfl) ?_
                  show zH n (0, 0) 244 (84, [zR 97, .inl a1, .inl a2, .inl on, .inl i, .inl 1], [.inl (hf_194_97 M i 1)]) M _
                  rw [hv i 1 (by omega) (by decide)]
                  refine zH_w (c' := (87, [zR 97, .inl a1, .inl a2, .inl on, .inl i, .inl 1], [.inl 1, .inl on, zR 97, .inl (qA Mo i 1)])) 3 hz rfl ?_
                  refine zH_wE (c1 := (90, [zR 97, .inl a1, .inl a2, .inl on, .inl i, .inl 1], [.inl (qA Mo i 1)])) 0 hz zp_194 (fh_194_97 on 1) (by rfl) ?_
                  show zH n (0, 0) 244 (90, [zR 97, .inl a1, .inl a2, .inl on, .inl i, .inl 1], [.inl (hf_194_97 M on 1), .inl (qA Mo i 1)]) M _
                  rw [hv on 1 (by omega) (by decide)]
                  refine zH_icmp_lt hz rfl (fun hb90 => ?_) (fun hb90 => ?_)
                  · skip
                    have hst := hs8.trans (if_neg (fun q => q.elim (by omega) (fun z => z hb90)))
                    refine zH_w (c' := (5, [zR 97, .inl a1, .inl a2, .inl on, .inl (i + 1), .inl 1], [])) 4 hz (by rw [show (.inl (i + 1) : zV) = .inl (w32 (i + 1)) from by rw [w32_id (by omega)]]; rfl) ?_
                    refine ih5 on (i + 1) (.inl 1) (by omega) ?_ ?_
                    · omega
                    · rw [show (i + 1).toNat = i.toNat + 1 by omega]; exact hst.symm
                  · skip
                    have hst := hs8.trans (if_pos (.inr hb90))
                    refine zH_w (c' := (5, [zR 97, .inl a1, .inl a2, .inl i, .inl (i + 1), .inl 1], [])) 5 hz (by rw [show (.inl (i + 1) : zV) = .inl (w32 (i + 1)) from by rw [w32_id (by omega)]]; rfl) ?_
                    refine ih5 i (i + 1) (.inl 1) (by omega) ?_ ?_
                    · omega
                    · rw [show (i + 1).toNat = i.toNat + 1 by omega]; exact hst.symm
  refine lp5 (251) (-1) 0 zN (by omega) ?_ ?_
  · omega
  · rfl

set_option maxRecDepth 100000 in
theorem fh_246_97 {n : Nat} {M : zM} {Mo : zM} (hM : qMI M) (e98 : M 98 = Mo 98) {P Q : Int → List Int} (hH : mH Mo P Q) (a1 a2 a3 : Int) : zH n (0, 0) 246 (0, zini [zR 97, .inl a1, .inl a2, .inl a3] 4, []) M (fun r M' => r = some (.inl (if ((0 ≤ a1 ∧ a1 < Mo 98 1) ∧ (0 ≤ a2 ∧ a2 ≤ 9999) ∧ 0 ≤ a3 ∧ a3 ≤ 9999) then (jPs Mo (hCt Mo a3 (-1) (Mo 98 4).toNat (Mo 98 4).toNat) a1 (P (oBi (Mo 98) a1 a2)) (Mo 98 0).toNat) else -2))) := by
  have hz := zp_246
  show zH n (0, 0) 246 (0, [zR 97, .inl a1, .inl a2, .inl a3], []) M _
  have hz1 : M 98 1 = Mo 98 1 := congrFun e98 1
  refine zH_wE (c1 := (7, [zR 97, .inl a1, .inl a2, .inl a3], [])) 4 hz zp_245 (fh_245_97 a1 a2 a3) (by rfl) ?_
  show zH n (0, 0) 246 (7, [zR 97, .inl a1, .inl a2, .inl a3], [.inl (hf_245_97 M a1 a2 a3)]) M _
  obtain ⟨x1, hx1⟩ : ∃ x : Int, x = (hf_245_97 M a1 a2 a3) := ⟨_, rfl⟩
  rw [← hx1]
  refine zH_if_ne hz rfl (fun hb7 => ?_) (fun hb7 => ?_)
  · skip
    rw [hx1, hq_245 (mBd hM), hz1] at hb7
    have hok : ((0 ≤ a1 ∧ a1 < Mo 98 1) ∧ (0 ≤ a2 ∧ a2 ≤ 9999) ∧ 0 ≤ a3 ∧ a3 ≤ 9999) := by omega
    refine zH_w (c' := (15, [zR 97, .inl a1, .inl a2, .inl a3], [.inl a3, zR 97])) 2 hz rfl ?_
    refine zH_wC (c1 := (18, [zR 97, .inl a1, .inl a2, .inl a3], [])) 0 hz zp_211 (fh_211 hH.1 hM e98 a3) (by rfl) ?_
    rintro _ M1 ⟨rfl, f1, z1⟩
    show zH n (0, 0) 246 (18, [zR 97, .inl a1, .inl a2, .inl a3], []) M1 _
    have hk1 : mK Mo (hCt Mo a3 (-1) (Mo 98 4).toNat (Mo 98 4).toNat) M1 := ⟨(f1 98 (by decide)).trans e98, z1⟩
    refine zH_wC (c1 := (24, [zR 97, .inl a1, .inl a2, .inl a3], [])) 3 hz zp_240 (fh_240_97 hk1 hH a1 a2 hok.1) (by rfl) ?_
    rintro _ M2 ⟨rfl, k2⟩
    show zH n (0, 0) 246 (24, [zR 97, .inl a1, .inl a2, .inl a3], []) M2 _
    refine zH_w (c' := (28, [zR 97, .inl a1, .inl a2, .inl a3], [.inl (M2 97 21)])) 2 hz rfl ?_
    rw [k2.2.2.1]
    refine zH_ret hz rfl rfl ?_
    show _ = some (Sum.inl _)
    rw [if_pos hok]
  · skip
    rw [hx1, hq_245 (mBd hM), hz1] at hb7
    have hno : ¬ ((0 ≤ a1 ∧ a1 < Mo 98 1) ∧ (0 ≤ a2 ∧ a2 ≤ 9999) ∧ 0 ≤ a3 ∧ a3 ≤ 9999) := by omega
    refine zH_w (c' := (12, [zR 97, .inl a1, .inl a2, .inl a3], [.inl (-2)])) 1 hz rfl ?_
    refine zH_ret hz rfl rfl ?_
    show _ = some (Sum.inl _)
    rw [if_neg hno]
set_option maxRecDepth 100000 in
theorem fh_247_97 {n : Nat} {M : zM} {Mo : zM} (hM : qMI M) (e98 : M 98 = Mo 98) {P Q : Int → List Int} (hH : mH Mo P Q) (a1 a2 a3 : Int) : zH n (0, 0) 247 (0, zini [zR 97, .inl a1, .inl a2, .inl a3] 4, []) M (fun r M' => r = some (.inl (if ((0 ≤ a1 ∧ a1 < Mo 98 1) ∧ (0 ≤ a2 ∧ a2 ≤ 9999) ∧ 0 ≤ a3 ∧ a3 ≤ 9999) then (jGd Mo (hCt Mo a3 (-1) (Mo 98 4).toNat (Mo 98 4).toNat) P Q a1 a2 0) else -2))) := by
  have hz := zp_247
  show zH n (0, 0) 247 (0, [zR 97, .inl a1, .inl a2, .inl a3], []) M _
  have hz1 : M 98 1 = Mo 98 1 := congrFun e98 1
  refine zH_wE (c1 := (7, [zR 97, .inl a1, .inl a2, .inl a3], [])) 4 hz zp_245 (fh_245_97 a1 a2 a3) (by rfl) ?_
  show zH n (0, 0) 247 (7, [zR 97, .inl a1, .inl a2, .inl a3], [.inl (hf_245_97 M a1 a2 a3)]) M _
  obtain ⟨x1, hx1⟩ : ∃ x : Int, x = (hf_245_97 M a1 a2 a3) := ⟨_, rfl⟩
  rw [← hx1]
  refine zH_if_ne hz rfl (fun hb7 => ?_) (fun hb7 => ?_)
  · skip
    rw [hx1, hq_245 (mBd hM), hz1] at hb7
    have hok : ((0 ≤ a1 ∧ a1 < Mo 98 1) ∧ (0 ≤ a2 ∧ a2 ≤ 9999) ∧ 0 ≤ a3 ∧ a3 ≤ 9999) := by omega
    refine zH_w (c' := (15, [zR 97, .inl a1, .inl a2, .inl a3], [.inl a3, zR 97])) 2 hz rfl ?_
    refine zH_wC (c1 := (18, [zR 97, .inl a1, .inl a2, .inl a3], [])) 0 hz zp_211 (fh_211 hH.1 hM e98 a3) (by rfl) ?_
    rintro _ M1 ⟨rfl, f1, z1⟩
    show zH n (0, 0) 247 (18, [zR 97, .inl a1, .inl a2, .inl a3], []) M1 _
    have hk1 : mK Mo (hCt Mo a3 (-1) (Mo 98 4).toNat (Mo 98 4).toNat) M1 := ⟨(f1 98 (by decide)).trans e98, z1⟩
    refine zH_wC (c1 := (24, [zR 97, .inl a1, .inl a2, .inl a3], [])) 3 hz zp_243 (fh_243_97 hk1 hH a1 a2 hok.1) (by rfl) ?_
    rintro _ M2 ⟨rfl, -⟩
    show zH n (0, 0) 247 (24, [zR 97, .inl a1, .inl a2, .inl a3], [.inl (jGd Mo (hCt Mo a3 (-1) (Mo 98 4).toNat (Mo 98 4).toNat) P Q a1 a2 0)]) M2 _
    refine zH_ret hz rfl rfl ?_
    show _ = some (Sum.inl _)
    rw [if_pos hok]
  · skip
    rw [hx1, hq_245 (mBd hM), hz1] at hb7
    have hno : ¬ ((0 ≤ a1 ∧ a1 < Mo 98 1) ∧ (0 ≤ a2 ∧ a2 ≤ 9999) ∧ 0 ≤ a3 ∧ a3 ≤ 9999) := by omega
    refine zH_w (c' := (12, [zR 97, .inl a1, .inl a2, .inl a3], [.inl (-2)])) 1 hz rfl ?_
    refine zH_ret hz rfl rfl ?_
    show _ = some (Sum.inl _)
    rw [if_neg hno]
set_option maxRecDepth 100000 in
theorem fh_250_97 {n : Nat} {M : zM} {Mo : zM} (hM : qMI M) (e98 : M 98 = Mo 98) {P Q : Int → List Int} (hH : mH Mo P Q) (a1 a2 a3 : Int) : zH n (0, 0) 250 (0, zini [zR 97, .inl a1, .inl a2, .inl a3] 4, []) M (fun r M' => r = some (.inl (if ((0 ≤ a1 ∧ a1 < Mo 98 1) ∧ (0 ≤ a2 ∧ a2 ≤ 9999) ∧ 0 ≤ a3 ∧ a3 ≤ 9999) then (jRl Mo (hCt Mo a3 (-1) (Mo 98 4).toNat (Mo 98 4).toNat) P Q a1 a2) else -2))) := by
  have hz := zp_250
  show zH n (0, 0) 250 (0, [zR 97, .inl a1, .inl a2, .inl a3], []) M _
  have hz1 : M 98 1 = Mo 98 1 := congrFun e98 1
  refine zH_wE (c1 := (7, [zR 97, .inl a1, .inl a2, .inl a3], [])) 4 hz zp_245 (fh_245_97 a1 a2 a3) (by rfl) ?_
  show zH n (0, 0) 250 (7, [zR 97, .inl a1, .inl a2, .inl a3], [.inl (hf_245_97 M a1 a2 a3)]) M _
  obtain ⟨x1, hx1⟩ : ∃ x : Int, x = (hf_245_97 M a1 a2 a3) := ⟨_, rfl⟩
  rw [← hx1]
  refine zH_if_ne hz rfl (fun hb7 => ?_) (fun hb7 => ?_)
  · skip
    rw [hx1, hq_245 (mBd hM), hz1] at hb7
    have hok : ((0 ≤ a1 ∧ a1 < Mo 98 1) ∧ (0 ≤ a2 ∧ a2 ≤ 9999) ∧ 0 ≤ a3 ∧ a3 ≤ 9999) := by omega
    refine zH_w (c' := (15, [zR 97, .inl a1, .inl a2, .inl a3], [.inl a3, zR 97])) 2 hz rfl ?_
    refine zH_wC (c1 := (18, [zR 97, .inl a1, .inl a2, .inl a3], [])) 0 hz zp_211 (fh_211 hH.1 hM e98 a3) (by rfl) ?_
    rintro _ M1 ⟨rfl, f1, z1⟩
    show zH n (0, 0) 250 (18, [zR 97, .inl a1, .inl a2, .inl a3], []) M1 _
    have hk1 : mK Mo (hCt Mo a3 (-1) (Mo 98 4).toNat (Mo 98 4).toNat) M1 := ⟨(f1 98 (by decide)).trans e98, z1⟩
    refine zH_wC (c1 := (24, [zR 97, .inl a1, .inl a2, .inl a3], [])) 3 hz zp_244 (fh_244_97 hk1 hH a1 a2 hok.1) (by rfl) ?_
    rintro _ M2 ⟨rfl, -⟩
    show zH n (0, 0) 250 (24, [zR 97, .inl a1, .inl a2, .inl a3], [.inl (jRl Mo (hCt Mo a3 (-1) (Mo 98 4).toNat (Mo 98 4).toNat) P Q a1 a2)]) M2 _
    refine zH_ret hz rfl rfl ?_
    show _ = some (Sum.inl _)
    rw [if_pos hok]
  · skip
    rw [hx1, hq_245 (mBd hM), hz1] at hb7
    have hno : ¬ ((0 ≤ a1 ∧ a1 < Mo 98 1) ∧ (0 ≤ a2 ∧ a2 ≤ 9999) ∧ 0 ≤ a3 ∧ a3 ≤ 9999) := by omega
    refine zH_w (c' := (12, [zR 97, .inl a1, .inl a2, .inl a3], [.inl (-2)])) 1 hz rfl ?_
    refine zH_ret hz rfl rfl ?_
    show _ = some (Sum.inl _)
    rw [if_neg hno]
set_option maxRecDepth 100000 in
theorem fh_249_97 {n : Nat} {M : zM} {Mo : zM} (hM : qMI M) (e98 : M 98 = Mo 98) {P Q : Int → List Int} (hH : mH Mo P Q) (a1 a2 a3 : Int) : zH n (0, 0) 249 (0, zini [zR 97, .inl a1, .inl a2, .inl a3] 7, []) M (fun r M' => r = some (.inl (if ((0 ≤ a1 ∧ a1 < Mo 98 1) ∧ (0 ≤ a2 ∧ a2 ≤ 9999) ∧ 0 ≤ a3 ∧ a3 ≤ 9999) then (jEd (fun d => jGd Mo (hCt Mo a3 (-1) (Mo 98 4).toNat (Mo 98 4).toNat) P Q a1 a2 d) 2000 1) else -2))) := by
  have hz := zp_249
  show zH n (0, 0) 249 (0, [zR 97, .inl a1, .inl a2, .inl a3, zN, zN, zN], []) M _
  have hz1 : M 98 1 = Mo 98 1 := congrFun e98 1
  refine zH_wE (c1 := (7, [zR 97, .inl a1, .inl a2, .inl a3, zN, zN, zN], [])) 4 hz zp_245 (fh_245_97 a1 a2 a3) (by rfl) ?_
  show zH n (0, 0) 249 (7, [zR 97, .inl a1, .inl a2, .inl a3, zN, zN, zN], [.inl (hf_245_97 M a1 a2 a3)]) M _
  obtain ⟨x1, hx1⟩ : ∃ x : Int, x = (hf_245_97 M a1 a2 a3) := ⟨_, rfl⟩
  rw [← hx1]
  refine zH_if_ne hz rfl (fun hb7 => ?_) (fun hb7 => ?_)
  · skip
    rw [hx1, hq_245 (mBd hM), hz1] at hb7
    have hok : ((0 ≤ a1 ∧ a1 < Mo 98 1) ∧ (0 ≤ a2 ∧ a2 ≤ 9999) ∧ 0 ≤ a3 ∧ a3 ≤ 9999) := by omega
    refine zH_w (c' := (15, [zR 97, .inl a1, .inl a2, .inl a3, zN, zN, zN], [.inl a3, zR 97])) 2 hz rfl ?_
    refine zH_wC (c1 := (18, [zR 97, .inl a1, .inl a2, .inl a3, zN, zN, zN], [])) 0 hz zp_211 (fh_211 hH.1 hM e98 a3) (by rfl) ?_
    rintro _ M1 ⟨rfl, f1, z1⟩
    show zH n (0, 0) 249 (18, [zR 97, .inl a1, .inl a2, .inl a3, zN, zN, zN], []) M1 _
    have hk1 : mK Mo (hCt Mo a3 (-1) (Mo 98 4).toNat (Mo 98 4).toNat) M1 := ⟨(f1 98 (by decide)).trans e98, z1⟩
    refine zH_wC (c1 := (24, [zR 97, .inl a1, .inl a2, .inl a3, zN, zN, zN], [])) 3 hz zp_240 (fh_240_97 hk1 hH a1 a2 hok.1) (by rfl) ?_
    rintro _ M2 ⟨rfl, k2⟩
    show zH n (0, 0) 249 (24, [zR 97, .inl a1, .inl a2, .inl a3, zN, zN, zN], []) M2 _
    have hS2 := k2.2.2.2.1
    refine zH_wC (c1 := (30, [zR 97, .inl a1, .inl a2, .inl a3, zN, zN, zN], [])) 3 hz zp_242 (fh_242_97 k2.1 hH a1 a2 hok.1) (by rfl) ?_
    rintro _ M3 ⟨rfl, f3, g3, hT3⟩
    show zH n (0, 0) 249 (30, [zR 97, .inl a1, .inl a2, .inl a3, zN, zN, zN], [.inl (oBi (Mo 98) a1 a2)]) M3 _
    have hS3 := hS2.mv (fun j q1 q2 => g3 j (by omega)) (g3 18 (by decide)) (f3 110 (by decide) (by decide) (by decide) (by decide))
    have hq3 := m_cls hH hok.1 hT3
    obtain ⟨o, ho⟩ : ∃ x : Int, x = (oBi (Mo 98) a1 a2) := ⟨_, rfl⟩
    rw [← ho]
    have hT3o : 0 ≤ o → mT (Q o) M3 := by rw [ho]; exact hT3
    rw [← ho] at hq3
    refine zH_w (c' := (35, [zR 97, .inl a1, .inl a2, .inl a3, .inl o, zN, zN], [.inl o, zR 97])) 3 hz rfl ?_
    refine zH_wC (c1 := (38, [zR 97, .inl a1, .inl a2, .inl a3, .inl o, zN, zN], [])) 0 hz zp_241 (fh_241_97 hS3 ((g3 19 (by decide)).trans k2.2.1) o hq3.1 hq3.2) (by rfl) ?_
    rintro _ M4 ⟨rfl, f4, g4⟩
    show zH n (0, 0) 249 (38, [zR 97, .inl a1, .inl a2, .inl a3, .inl o, zN, zN], [.inl (jCp (eVal (jEa (jAl Mo (hCt Mo a3 (-1) (Mo 98 4).toNat (Mo 98 4).toNat) a1 (jPs Mo (hCt Mo a3 (-1) (Mo 98 4).toNat (Mo 98 4).toNat) a1 (P (oBi (Mo 98) a1 a2)) (Mo 98 0).toNat) (Mo 98 0).toNat) 0) (Q o)))]) M4 _
    obtain ⟨y0, hy0⟩ : ∃ x : Int, x = (jCp (eVal (jEa (jAl Mo (hCt Mo a3 (-1) (Mo 98 4).toNat (Mo 98 4).toNat) a1 (jPs Mo (hCt Mo a3 (-1) (Mo 98 4).toNat (Mo 98 4).toNat) a1 (P (oBi (Mo 98) a1 a2)) (Mo 98 0).toNat) (Mo 98 0).toNat) 0) (Q o))) := ⟨_, rfl⟩
    rw [← hy0]
    rw [ho] at hy0
    have hy0 : y0 = (fun d => jGd Mo (hCt Mo a3 (-1) (Mo 98 4).toNat (Mo 98 4).toNat) P Q a1 a2 d) 0 := hy0
    refine zH_w (c' := (43, [zR 97, .inl a1, .inl a2, .inl a3, .inl o, .inl y0, .inl 1], [])) 3 hz rfl ?_
    have lp43 : ∀ (N : Nat) (i : Int) (M5 : zM), ((2001 - i).toNat) < N → (1 ≤ i ∧ i ≤ 2001) → (jEd (fun d => jGd Mo (hCt Mo a3 (-1) (Mo 98 4).toNat (Mo 98 4).toNat) P Q a1 a2 d) 2000 1 = jEd (fun d => jGd Mo (hCt Mo a3 (-1) (Mo 98 4).toNat (Mo 98 4).toNat) P Q a1 a2 d) (2001 - i.toNat) i.toNat) → (mFo (jAl Mo (hCt Mo a3 (-1) (Mo 98 4).toNat (Mo 98 4).toNat) a1 (jPs Mo (hCt Mo a3 (-1) (Mo 98 4).toNat (Mo 98 4).toNat) a1 (P (oBi (Mo 98) a1 a2)) (Mo 98 0).toNat) (Mo 98 0).toNat) M5) → (0 ≤ o → mT (Q o) M5) → zH n (0, 0) 249 (43, [zR 97, .inl a1, .inl a2, .inl a3, .inl o, .inl y0, .inl i], []) M5 (fun r M' => r = some (.inl (if ((0 ≤ a1 ∧ a1 < Mo 98 1) ∧ (0 ≤ a2 ∧ a2 ≤ 9999) ∧ 0 ≤ a3 ∧ a3 ≤ 9999) then (jEd (fun d => jGd Mo (hCt Mo a3 (-1) (Mo 98 4).toNat (Mo 98 4).toNat) P Q a1 a2 d) 2000 1) else -2))) := by
      intro N
      induction N with
      | zero => intro i M5 hN; exact absurd hN (Nat.not_lt_zero _)
      | succ N ih43 =>
        intro i M5 hN hi hv hS hT
        refine zH_w (c' := (48, [zR 97, .inl a1, .inl a2, .inl a3, .inl o, .inl y0, .inl i], [.inl 2000, .inl i])) 2 hz rfl ?_
        refine zH_wi_gt (pc := 48) (n' := 51) (t := 77) (L := [zR 97, .inl a1, .inl a2, .inl a3, .inl o, .inl y0, .inl i]) (st := []) (x := i) (y := 2000) 0 hz (by rfl) (fun hb48 => ?_) (fun hb48 => ?_)
        · skip
          refine zH_w (c' := (78, [zR 97, .inl a1, .inl a2, .inl a3, .inl o, .inl y0, .inl i], [.inl (-1)])) 1 hz rfl ?_
          refine zH_ret hz rfl rfl ?_
          show _ = some (Sum.inl _)
          rw [if_pos hok, hv, show 2001 - i.toNat = 0 by omega]; rfl
        · skip
          have hst : jEd (fun d => jGd Mo (hCt Mo a3 (-1) (Mo 98 4).toNat (Mo 98 4).toNat) P Q a1 a2 d) 2000 1 = if (fun d => jGd Mo (hCt Mo a3 (-1) (Mo 98 4).toNat (Mo 98 4).toNat) P Q a1 a2 d) ((i.toNat : Nat) : Int) = (fun d => jGd Mo (hCt Mo a3 (-1) (Mo 98 4).toNat (Mo 98 4).toNat) P Q a1 a2 d) 0 then jEd (fun d => jGd Mo (hCt Mo a3 (-1) (Mo 98 4).toNat (Mo 98 4).toNat) P Q a1 a2 d) (2000 - i.toNat) (i.toNat + 1) else ((i.toNat : Nat) : Int) := by
            rw [hv, show 2001 - i.toNat = (2000 - i.toNat) + 1 by omega]; rfl
          have ei : ((i.toNat : Nat) : Int) = i := by omega
          refine zH_w (c' := (57, [zR 97, .inl a1, .inl a2, .inl a3, .inl o, .inl y0, .inl i], [])) 3 hz rfl ?_
          obtain ⟨M6, hM6⟩ : ∃ X : zM, X = zput M5 97 19 i := ⟨_, rfl⟩
          rw [← hM6]
          have hS6 := hS.mv (M' := M6) (fun j q1 q2 => by rw [hM6, qput_nk (by omega)]) (by rw [hM6, qput_nk (by decide)]) (by rw [hM6, zput_oth (by decide)])
          have hT6 : 0 ≤ o → mT (Q o) M6 := fun q => (hT q).mv (by rw [hM6, qput_nk (by decide)]) (by rw [hM6, zput_oth (by decide)]) (by rw [hM6, zput_oth (by decide)])
          rw [ho] at hT6
          have hq6 := m_cls hH hok.1 hT6
          rw [← ho] at hq6
          refine zH_w (c' := (60, [zR 97, .inl a1, .inl a2, .inl a3, .inl o, .inl y0, .inl i], [.inl o, zR 97])) 2 hz rfl ?_
          refine zH_wC (c1 := (63, [zR 97, .inl a1, .inl a2, .inl a3, .inl o, .inl y0, .inl i], [])) 0 hz zp_241 (fh_241_97 (more := i) hS6 (by rw [hM6, qput_eq]) o hq6.1 hq6.2) (by rfl) ?_
          rintro _ M7 ⟨rfl, f7, g7⟩
          show zH n (0, 0) 249 (63, [zR 97, .inl a1, .inl a2, .inl a3, .inl o, .inl y0, .inl i], [.inl (jCp (eVal (jEa (jAl Mo (hCt Mo a3 (-1) (Mo 98 4).toNat (Mo 98 4).toNat) a1 (jPs Mo (hCt Mo a3 (-1) (Mo 98 4).toNat (Mo 98 4).toNat) a1 (P (oBi (Mo 98) a1 a2)) (Mo 98 0).toNat) (Mo 98 0).toNat) i) (Q o)))]) M7 _
          obtain ⟨y, hy⟩ : ∃ x : Int, x = (jCp (eVal (jEa (jAl Mo (hCt Mo a3 (-1) (Mo 98 4).toNat (Mo 98 4).toNat) a1 (jPs Mo (hCt Mo a3 (-1) (Mo 98 4).toNat (Mo 98 4).toNat) a1 (P (oBi (Mo 98) a1 a2)) (Mo 98 0).toNat) (Mo 98 0).toNat) i) (Q o))) := ⟨_, rfl⟩
          rw [← hy]
          rw [ho] at hy
          have hy : y = (fun d => jGd Mo (hCt Mo a3 (-1) (Mo 98 4).toNat (Mo 98 4).toNat) P Q a1 a2 d) i := hy
          refine zH_w (c' := (65, [zR 97, .inl a1, .inl a2, .inl a3, .inl o, .inl y0, .inl i], [.inl y0, .inl y])) 1 hz rfl ?_
          refine zH_wi_eq (pc := 65) (n' := 68) (t := 71) (L := [zR 97, .inl a1, .inl a2, .inl a3, .inl o, .inl y0, .inl i]) (st := []) (x := y) (y := y0) 0 hz (by rfl) (fun hb65 => ?_) (fun hb65 => ?_)
          · skip
            have heq : (fun d => jGd Mo (hCt Mo a3 (-1) (Mo 98 4).toNat (Mo 98 4).toNat) P Q a1 a2 d) i = (fun d => jGd Mo (hCt Mo a3 (-1) (Mo 98 4).toNat (Mo 98 4).toNat) P Q a1 a2 d) 0 := hy.symm.trans (hb65.trans hy0)
            refine zH_w (c' := (43, [zR 97, .inl a1, .inl a2, .inl a3, .inl o, .inl y0, .inl (i + 1)], [])) 2 hz (by rw [show (.inl (i + 1) : zV) = .inl (w32 (i + 1)) from by rw [w32_id (by omega)]]; rfl) ?_
            refine ih43 (i + 1) M7 (by omega) ?_ ?_ ?_ ?_
            · omega
            · rw [hst, if_pos (by rw [ei]; exact heq), show (i + 1).toNat = i.toNat + 1 by omega, show 2001 - (i.toNat + 1) = 2000 - i.toNat by omega]
            · exact hS6.mv (fun j q1 q2 => g7 j (by omega) (by omega)) (g7 18 (by decide) (by decide)) (f7 110 (by decide) (by decide) (by decide))
            · exact fun q => (by rw [← ho] at hT6; exact hT6 q : mT (Q o) M6).mv (g7 7 (by decide) (by decide)) (f7 105 (by decide) (by decide) (by decide)) (f7 106 (by decide) (by decide) (by decide))
          · skip
            have hne : ¬ (fun d => jGd Mo (hCt Mo a3 (-1) (Mo 98 4).toNat (Mo 98 4).toNat) P Q a1 a2 d) i = (fun d => jGd Mo (hCt Mo a3 (-1) (Mo 98 4).toNat (Mo 98 4).toNat) P Q a1 a2 d) 0 := fun q => hb65 (hy.trans (q.trans hy0.symm))
            refine zH_w (c' := (70, [zR 97, .inl a1, .inl a2, .inl a3, .inl o, .inl y0, .inl i], [.inl i])) 1 hz rfl ?_
            refine zH_ret hz rfl rfl ?_
            show _ = some (Sum.inl _)
            rw [if_pos hok, hst, if_neg (by rw [ei]; exact hne), ei]
    refine lp43 (2002) 1 M4 (by omega) ?_ ?_ ?_ ?_
    · omega
    · rfl
    · exact hS3.mv (fun j q1 q2 => g4 j (by omega) (by omega)) (g4 18 (by decide) (by decide)) (f4 110 (by decide) (by decide) (by decide))
    · exact fun q => (hT3o q).mv (g4 7 (by decide) (by decide)) (f4 105 (by decide) (by decide) (by decide)) (f4 106 (by decide) (by decide) (by decide))
  · skip
    rw [hx1, hq_245 (mBd hM), hz1] at hb7
    have hno : ¬ ((0 ≤ a1 ∧ a1 < Mo 98 1) ∧ (0 ≤ a2 ∧ a2 ≤ 9999) ∧ 0 ≤ a3 ∧ a3 ≤ 9999) := by omega
    refine zH_w (c' := (12, [zR 97, .inl a1, .inl a2, .inl a3, zN, zN, zN], [.inl (-2)])) 1 hz rfl ?_
    refine zH_ret hz rfl rfl ?_
    show _ = some (Sum.inl _)
    rw [if_neg hno]
set_option maxRecDepth 100000 in
theorem fh_248_97 {n : Nat} {M : zM} {Mo : zM} (hM : qMI M) (e98 : M 98 = Mo 98) {P Q : Int → List Int} (hH : mH Mo P Q) (a1 a2 a3 a4 : Int) : zH n (0, 0) 248 (0, zini [zR 97, .inl a1, .inl a2, .inl a3, .inl a4] 5, []) M (fun r M' => r = some (.inr (.inl (if ((0 ≤ a1 ∧ a1 < Mo 98 1) ∧ (0 ≤ a2 ∧ a2 ≤ 9999) ∧ (0 ≤ a3 ∧ a3 ≤ 9999) ∧ 0 ≤ a4 ∧ a4 ≤ 15) then (if a4 = 0 then jMn (jAl Mo (hCt Mo a3 (-1) (Mo 98 4).toNat (Mo 98 4).toNat) a1 (jPs Mo (hCt Mo a3 (-1) (Mo 98 4).toNat (Mo 98 4).toNat) a1 (P (oBi (Mo 98) a1 a2)) (Mo 98 0).toNat) (Mo 98 0).toNat) else if a4 = 15 then (jAl Mo (hCt Mo a3 (-1) (Mo 98 4).toNat (Mo 98 4).toNat) a1 (jPs Mo (hCt Mo a3 (-1) (Mo 98 4).toNat (Mo 98 4).toNat) a1 (P (oBi (Mo 98) a1 a2)) (Mo 98 0).toNat) (Mo 98 0).toNat).1 else eBst ((jAl Mo (hCt Mo a3 (-1) (Mo 98 4).toNat (Mo 98 4).toNat) a1 (jPs Mo (hCt Mo a3 (-1) (Mo 98 4).toNat (Mo 98 4).toNat) a1 (P (oBi (Mo 98) a1 a2)) (Mo 98 0).toNat) (Mo 98 0).toNat).2.2.1 : Int) (jAl Mo (hCt Mo a3 (-1) (Mo 98 4).toNat (Mo 98 4).toNat) a1 (jPs Mo (hCt Mo a3 (-1) (Mo 98 4).toNat (Mo 98 4).toNat) a1 (P (oBi (Mo 98) a1 a2)) (Mo 98 0).toNat) (Mo 98 0).toNat).2.2.2 a4) else -2)))) := by
  have hz := zp_248
  show zH n (0, 0) 248 (0, [zR 97, .inl a1, .inl a2, .inl a3, .inl a4], []) M _
  have hz1 : M 98 1 = Mo 98 1 := congrFun e98 1
  obtain ⟨S, hS⟩ : ∃ S, S = (jAl Mo (hCt Mo a3 (-1) (Mo 98 4).toNat (Mo 98 4).toNat) a1 (jPs Mo (hCt Mo a3 (-1) (Mo 98 4).toNat (Mo 98 4).toNat) a1 (P (oBi (Mo 98) a1 a2)) (Mo 98 0).toNat) (Mo 98 0).toNat) := ⟨_, rfl⟩
  rw [← hS]
  refine zH_w (c' := (4, [zR 97, .inl a1, .inl a2, .inl a3, .inl a4], [.inl a3, .inl a2, .inl a1, zR 97])) 4 hz rfl ?_
  refine zH_wE (c1 := (7, [zR 97, .inl a1, .inl a2, .inl a3, .inl a4], [])) 0 hz zp_245 (fh_245_97 a1 a2 a3) (by rfl) ?_
  show zH n (0, 0) 248 (7, [zR 97, .inl a1, .inl a2, .inl a3, .inl a4], [.inl (hf_245_97 M a1 a2 a3)]) M _
  obtain ⟨x1, hx1⟩ : ∃ x : Int, x = (hf_245_97 M a1 a2 a3) := ⟨_, rfl⟩
  rw [← hx1]
  refine zH_if_eq hz rfl (fun hb7 => ?_) (fun hb7 => ?_)
  · skip
    rw [hx1, hq_245 (mBd hM), hz1] at hb7
    refine zH_w (c' := (24, [zR 97, .inl a1, .inl a2, .inl a3, .inl a4], [.inr (.inl (-2))])) 1 hz rfl ?_
    refine zH_ret hz rfl rfl ?_
    show _ = some (Sum.inr (Sum.inl _))
    rw [if_neg (by omega)]
  · skip
    rw [hx1, hq_245 (mBd hM), hz1] at hb7
    refine zH_w (c' := (15, [zR 97, .inl a1, .inl a2, .inl a3, .inl a4], [.inl 15, .inl 0, .inl a4])) 3 hz rfl ?_
    refine zH_wE (c1 := (18, [zR 97, .inl a1, .inl a2, .inl a3, .inl a4], [])) 0 hz zp_180 (fh_180 a4 0 15) (by rfl) ?_
    show zH n (0, 0) 248 (18, [zR 97, .inl a1, .inl a2, .inl a3, .inl a4], [.inl (hf_180 M a4 0 15)]) M _
    obtain ⟨x2, hx2⟩ : ∃ x : Int, x = (hf_180 M a4 0 15) := ⟨_, rfl⟩
    rw [← hx2]
    refine zH_if_ne hz rfl (fun hb18 => ?_) (fun hb18 => ?_)
    · skip
      rw [hx2, hq_180] at hb18
      have hok : ((0 ≤ a1 ∧ a1 < Mo 98 1) ∧ (0 ≤ a2 ∧ a2 ≤ 9999) ∧ (0 ≤ a3 ∧ a3 ≤ 9999) ∧ 0 ≤ a4 ∧ a4 ≤ 15) := by omega
      refine zH_w (c' := (27, [zR 97, .inl a1, .inl a2, .inl a3, .inl a4], [.inl a3, zR 97])) 2 hz rfl ?_
      refine zH_wC (c1 := (30, [zR 97, .inl a1, .inl a2, .inl a3, .inl a4], [])) 0 hz zp_211 (fh_211 hH.1 hM e98 a3) (by rfl) ?_
      rintro _ M1 ⟨rfl, f1, z1⟩
      show zH n (0, 0) 248 (30, [zR 97, .inl a1, .inl a2, .inl a3, .inl a4], []) M1 _
      have hk1 : mK Mo (hCt Mo a3 (-1) (Mo 98 4).toNat (Mo 98 4).toNat) M1 := ⟨(f1 98 (by decide)).trans e98, z1⟩
      refine zH_wC (c1 := (36, [zR 97, .inl a1, .inl a2, .inl a3, .inl a4], [])) 3 hz zp_240 (fh_240_97 hk1 hH a1 a2 hok.1) (by rfl) ?_
      rintro _ M2 ⟨rfl, k2⟩
      show zH n (0, 0) 248 (36, [zR 97, .inl a1, .inl a2, .inl a3, .inl a4], []) M2 _
      have hS2 := k2.2.2.2.1
      rw [← hS] at hS2
      refine zH_w (c' := (38, [zR 97, .inl a1, .inl a2, .inl a3, .inl a4], [.inl 1, zR 97])) 2 hz rfl ?_
      refine zH_putz hz rfl (by decide) rfl rfl ?_
      show zH n (0, 0) 248 (41, [zR 97, .inl a1, .inl a2, .inl a3, .inl a4], []) (zput M2 97 20 1) _
      obtain ⟨M3, hM3⟩ : ∃ X : zM, X = zput M2 97 20 1 := ⟨_, rfl⟩
      rw [← hM3]
      have hS3 := hS2.mv (M' := M3) (fun j q1 q2 => by rw [hM3, qput_nk (by omega)]) (by rw [hM3, qput_nk (by decide)]) (by rw [hM3, zput_oth (by decide)])
      have h19 : M3 97 19 = 0 := by rw [hM3, qput_nk (by decide)]; exact k2.2.1
      have h20 : M3 97 20 = 1 := by rw [hM3, qput_eq]
      refine zH_w (c' := (43, [zR 97, .inl a1, .inl a2, .inl a3, .inl a4], [.inl a4])) 1 hz rfl ?_
      refine zH_wf_ne (pc := 43) (n' := 46) (t := 53) (L := [zR 97, .inl a1, .inl a2, .inl a3, .inl a4]) (st := []) (x := a4) 0 hz (by rfl) (fun hb43 => ?_) (fun hb43 => ?_)
      · skip
        refine zH_wi_ne (pc := 57) (n' := 60) (t := 67) (L := [zR 97, .inl a1, .inl a2, .inl a3, .inl a4]) (st := []) (x := a4) (y := 15) 2 hz (by rfl) (fun hb57 => ?_) (fun hb57 => ?_)
        · skip
          refine zH_wE (c1 := (74, [zR 97, .inl a1, .inl a2, .inl a3, .inl a4], [])) 3 hz zp_233 (fh_233_97 a4) (by rfl) ?_
          show zH n (0, 0) 248 (74, [zR 97, .inl a1, .inl a2, .inl a3, .inl a4], [.inr (.inl (w64 (eBst (eMd M3).2.1 (eMd M3).2.2.1 a4 + (eMd M3).2.2.2)))]) M3 _
          rw [show w64 (eBst (eMd M3).2.1 (eMd M3).2.2.1 a4 + (eMd M3).2.2.2) = eBst (S.2.2.1 : Int) S.2.2.2 a4 from by
  have e1 : (eMd M3).2.1 = (S.2.2.1 : Int) := (if_neg (by omega)).trans hS3.2.2.1
  have e2 : (eMd M3).2.2.2 = 0 := (if_neg (by omega)).trans h19
  rw [e1, e2, m_bst]
  exact eBst_cg (fun j hj9 => hS3.2.2.2 j (by omega)) a4]
          refine zH_ret hz rfl rfl ?_
          show _ = some (Sum.inr (Sum.inl _))
          first
            | rw [if_pos hok, if_pos (by omega)]
            | rw [if_pos hok, if_neg (by omega), if_pos (by omega)]
            | rw [if_pos hok, if_neg (by omega), if_neg (by omega)]
        · skip
          refine zH_w (c' := (64, [zR 97, .inl a1, .inl a2, .inl a3, .inl a4], [.inr (.inl (M3 97 22))])) 2 hz rfl ?_
          rw [hS3.1]
          refine zH_w (c' := (74, [zR 97, .inl a1, .inl a2, .inl a3, .inl a4], [.inr (.inl S.1)])) 1 hz rfl ?_
          refine zH_ret hz rfl rfl ?_
          show _ = some (Sum.inr (Sum.inl _))
          first
            | rw [if_pos hok, if_pos (by omega)]
            | rw [if_pos hok, if_neg (by omega), if_pos (by omega)]
            | rw [if_pos hok, if_neg (by omega), if_neg (by omega)]
      · skip
        refine zH_w (c' := (50, [zR 97, .inl a1, .inl a2, .inl a3, .inl a4], [.inr (.inl (M3 97 23))])) 2 hz rfl ?_
        rw [hS3.2.1]
        refine zH_w (c' := (74, [zR 97, .inl a1, .inl a2, .inl a3, .inl a4], [.inr (.inl (jMn S))])) 1 hz rfl ?_
        refine zH_ret hz rfl rfl ?_
        show _ = some (Sum.inr (Sum.inl _))
        first
          | rw [if_pos hok, if_pos (by omega)]
          | rw [if_pos hok, if_neg (by omega), if_pos (by omega)]
          | rw [if_pos hok, if_neg (by omega), if_neg (by omega)]
    · skip
      rw [hx2, hq_180] at hb18
      refine zH_w (c' := (24, [zR 97, .inl a1, .inl a2, .inl a3, .inl a4], [.inr (.inl (-2))])) 1 hz rfl ?_
      refine zH_ret hz rfl rfl ?_
      show _ = some (Sum.inr (Sum.inl _))
      rw [if_neg (by omega)]
