/-! WAYS: THE REFERENCE -/
noncomputable def hf_264_97 (M : zM) (a1 : Int) : Int :=
  (if a1 ≤ (M 97 30) then a1 else M 97 30)
set_option maxRecDepth 100000 in
theorem fh_264_97 {n : Nat} {M : zM} (a1 : Int) : zH n (0, 0) 264 (0, zini [zR 97, .inl a1] 2, []) M (fun r M' => r = some (.inl (hf_264_97 M a1)) ∧ M' = M) := by
  have hz := zp_264
  have hE : hf_264_97 M a1 = hf_264_97 M a1 := rfl
  show zH n (0, 0) 264 (0, [zR 97, .inl a1], []) M _
  refine zH_wi_ge (pc := 5) (n' := 8) (t := 15) (L := [zR 97, .inl a1]) (st := []) (x := (M 97 30)) (y := a1) 3 hz (by rfl) (fun hb => ?_) (fun hb => ?_)
  · have hE := hE.trans (if_pos hb)
    exact zH_wr (r := some (.inl a1)) 1 hz (by rfl) (hfinP hE)
  · have hE := hE.trans (if_neg hb)
    exact zH_wr (r := some (.inl (M 97 30))) 3 hz (by rfl) (hfinP hE)
section WT
variable {L T : Nat → Nat} {n9 W P Nc : Nat} {M M' : zM}
/-- what ways read of the reference -/
noncomputable def wRm (L T : Nat → Nat) (W P Nc : Nat) (M : zM) : Prop := (M 98 0 = (Nc : Int) ∧ Nc ≤ 14) ∧ (∀ c, c < Nc → M 98 (21 + 4 * c) = (L c : Int) ∧ M 98 (22 + 4 * c) = (T c : Int)) ∧ M 97 28 = (W : Int) ∧ M 97 21 = (P : Int)
/-- all that is wanted is there, and on what it leans -/
noncomputable def wWn (L : Nat → Nat) (W P Nc : Nat) : Prop := W < 2 ^ Nc ∧ P < 2 ^ 14 ∧ (∀ i, W.testBit i = true → ¬ P.testBit i = true) ∧ (∀ c, W.testBit c = true → ∀ j, (L c).testBit j = true → ¬ P.testBit j = true → W.testBit j = true)
theorem wRm.mv (h : wRm L T W P Nc M) (e1 : M' 98 = M 98) (e2 : M' 97 28 = M 97 28) (e3 : M' 97 21 = M 97 21) : wRm L T W P Nc M' := by unfold wRm; rw [e1, e2, e3]; exact h
theorem wFr {c x : Nat} (h : wWn L W P Nc) (hx : wSub x W) (hc : W.testBit c = true) : wnp (wnp (L c) x) P = 0 ↔ L c &&& (W ^^^ x) = 0 := by
  rw [wb_andz]
  constructor
  · intro z j a b
    have q := (wb_xor hx j).mp b
    have r := (wnp_b (wnp (L c) x) P j).mpr ⟨(wnp_b (L c) x j).mpr ⟨a, q.2⟩, h.2.2.1 j q.1⟩
    rw [z] at r
    exact wb_0 r
  · intro z
    refine wb_z (fun j q => ?_)
    have a := (wnp_b _ _ j).mp q
    have b := (wnp_b _ _ j).mp a.1
    exact z j b.1 ((wb_xor hx j).mpr ⟨h.2.2.2 c hc j b.1 a.2, b.2⟩)
theorem wF_N {l t : Nat} (hl : l < 2 ^ Nc) : ∀ d, wF L T l t (Nc + d) = wF L T l t Nc
  | 0 => rfl
  | d + 1 => by
    rw [show Nc + (d + 1) = (Nc + d) + 1 by omega, wF_s, if_neg (fun q => by
      have a := Nat.ge_two_pow_of_testBit q.1
      have := Nat.pow_le_pow_right (n := 2) (by decide) (show Nc ≤ Nc + d by omega)
      omega)]
    exact wF_N hl d
theorem wN14 (h : wWn L W P Nc) (hN : Nc ≤ 14) : W < 2 ^ 14 := Nat.lt_of_lt_of_le h.1 (Nat.pow_le_pow_right (by decide) hN)
theorem wz_np2 {x : Nat} (hx : x < 2 ^ 14) {p : Int} (hp : 0 ≤ p ∧ p ≤ 2147483647) : zband (x : Int) (zbxor p (-1)) = ((wnp x p.toNat : Nat) : Int) := by
  rw [wz_np (by omega) hp, Int.toNat_natCast]
theorem wz_neg {v : Int} (h : 1 ≤ v ∧ v ≤ 16383) : zband v (w32 (-v)) = ((v.toNat &&& (2 ^ 32 - v.toNat) : Nat) : Int) := by
  rw [w32_id (by omega)]
  unfold zband
  rw [← Int32.toInt_toBitVec]
  have e : (Int32.ofInt v &&& Int32.ofInt (-v)).toBitVec = BitVec.ofInt 32 v &&& BitVec.ofInt 32 (-v) := rfl
  have h1 : (BitVec.ofInt 32 (-v)).toNat = 2 ^ 32 - v.toNat := by rw [BitVec.toNat_ofInt]; omega
  have hn : (BitVec.ofInt 32 v &&& BitVec.ofInt 32 (-v)).toNat = v.toNat &&& (2 ^ 32 - v.toNat) := by rw [BitVec.toNat_and, h1, qnat_of (by omega)]
  have hle : v.toNat &&& (2 ^ 32 - v.toNat) ≤ v.toNat := Nat.and_le_left
  rw [e, BitVec.toInt_eq_toNat_of_lt (by omega), hn]
end WT
theorem wSub.xor_lt {L : Nat → Nat} {W P Nc x : Nat} (h : wSub x W) (hW : wWn L W P Nc) : W ^^^ x < 2 ^ Nc := Nat.lt_of_le_of_lt (Nat.le_of_testBit h.xor) hW.1
theorem wz_or0 {x : Nat} (hx : x < 2 ^ 14) : zbor (x : Int) 0 = (x : Int) := by
  rw [qbor_N _ _ (by omega) (by decide), Int.toNat_natCast, show (0 : Int).toNat = 0 from rfl, Nat.or_zero]
set_option maxRecDepth 100000 in
theorem fh_260_97 {n : Nat} {M : zM} {L T : Nat → Nat} {W P Nc : Nat} (hr : wRm L T W P Nc M) (hp : wPr L T) (hW : wWn L W P Nc) (a1 a2 : Int) (h0 : 0 ≤ a1) (h1 : wSub a1.toNat W) (h2 : 0 ≤ a2 ∧ a2 < 3) : zH n (0, 0) 260 (0, zini [zR 97, .inl a1, .inl a2] 7, []) M (fun r M' => r = some (.inl ((wF L T (W ^^^ a1.toNat) a2.toNat 14 : Nat) : Int)) ∧ M' = M) := by
  have hz := zp_260
  show zH n (0, 0) 260 (0, [zR 97, .inl a1, .inl a2, zN, zN, zN, zN], []) M _
  have hN := hr.1.2
  have hW14 := wN14 hW hN
  have ha14 := h1.lt hW14
  refine zH_w (c' := (5, [zR 97, .inl a1, .inl a2, .inl 0, .inl 0, zN, zN], [])) 4 hz rfl ?_
  have lp5 : ∀ (N : Nat) (s : Int) (c : Int) (u5 : zV) (u6 : zV), (((Nc : Int) - c).toNat) < N → (0 ≤ c ∧ c ≤ (Nc : Int)) → (s = ((wF L T (W ^^^ a1.toNat) a2.toNat c.toNat : Nat) : Int)) → zH n (0, 0) 260 (5, [zR 97, .inl a1, .inl a2, .inl s, .inl c, u5, u6], []) M (fun r M' => r = some (.inl ((wF L T (W ^^^ a1.toNat) a2.toNat 14 : Nat) : Int)) ∧ M' = M) := by
    intro N
    induction N with
    | zero => intro s c u5 u6 hN; exact absurd hN (Nat.not_lt_zero _)
    | succ N ih5 =>
      intro s c u5 u6 hN hi hs
      refine zH_w (c' := (12, [zR 97, .inl a1, .inl a2, .inl s, .inl c, u5, u6], [.inl 0, zR 98, .inl c])) 4 hz rfl ?_
      refine zH_iald hz rfl rfl (.inl rfl) (fun hin12 => ?_)
      show zH n (0, 0) 260 (13, [zR 97, .inl a1, .inl a2, .inl s, .inl c, u5, u6], [.inl (M 98 (0 : Int).toNat), .inl c]) M _
      rw [show M 98 (0 : Int).toNat = (Nc : Int) from hr.1.1]
      refine zH_icmp_ge hz rfl (fun hb13 => ?_) (fun hb13 => ?_)
      · skip
        refine zH_w (c' := (117, [zR 97, .inl a1, .inl a2, .inl s, .inl c, u5, u6], [.inl s])) 1 hz rfl ?_
        exact zH_wr (r := some (.inl s)) 0 hz (by rfl) (⟨by rw [hs, show c.toNat = Nc by omega, show 14 = Nc + (14 - Nc) by omega, wF_N (h1.xor_lt hW)], rfl⟩)
      · skip
        have hc14 : c.toNat < 14 := by omega
        have hct := hr.2.1 c.toNat (by omega)
        have hLc := hp.1 c.toNat hc14
        have hT7 := hp.2 c.toNat hc14
        have hL2 := Nat.pow_le_pow_right (n := 2) (by decide) (show c.toNat ≤ 13 by omega)
        have hlb := wb_xor h1 c.toNat
        have hs2 := hs
        refine zH_w (c' := (34, [zR 97, .inl a1, .inl a2, .inl s, .inl c, .inl (w32 (20 + (w32 (4 * c)))), u6], [.inl (zband (zbshr (M 97 28) c) 1)])) 12 hz rfl ?_
        rw [show M 97 28 = (W : Int) from hr.2.2.1, wnb W (c := c) (W : Int) rfl hW14 (by omega)]
        refine zH_w (c' := (35, [zR 97, .inl a1, .inl a2, .inl s, .inl c, .inl (w32 (20 + (w32 (4 * c)))), u6], [.inl 1, .inl ((W / 2 ^ c.toNat % 2 : Nat) : Int)])) 1 hz rfl ?_
        refine zH_wi_ne (pc := 35) (n' := 38) (t := 91) (L := [zR 97, .inl a1, .inl a2, .inl s, .inl c, .inl (w32 (20 + (w32 (4 * c)))), u6]) (st := []) (x := ((W / 2 ^ c.toNat % 2 : Nat) : Int)) (y := 1) 0 hz (by rfl) (fun hb35 => ?_) (fun hb35 => ?_)
        · skip
          have hnc : ¬ ((W ^^^ a1.toNat).testBit c.toNat = true ∧ L c.toNat &&& (W ^^^ a1.toNat) = 0 ∧ (T c.toNat).testBit a2.toNat = true) := fun q => by have := (wbt _ _).mp (hlb.mp q.1).1; omega
          refine zH_w (c' := (109, [zR 97, .inl a1, .inl a2, .inl s, .inl c, .inl (w32 (20 + (w32 (4 * c)))), .inl 0], [.inl (zbor s 0)])) 7 hz rfl ?_
          rw [show zbor s 0 = s from by rw [hs]; exact wz_or0 (wF_lt2 _ _ _ (by omega))]
          refine zH_w (c' := (5, [zR 97, .inl a1, .inl a2, .inl s, .inl (c + 1), .inl (w32 (20 + (w32 (4 * c)))), .inl 0], [])) 3 hz (by rw [show (.inl (c + 1) : zV) = .inl (w32 (c + 1)) from by rw [w32_id (by omega)]]; rfl) ?_
          refine ih5 s (c + 1) (.inl (w32 (20 + (w32 (4 * c))))) (.inl 0) (by omega) ?_ ?_
          · omega
          · rw [show (c + 1).toNat = c.toNat + 1 by omega]
            first
              | done
              | rfl
              | (rw [wF_s, if_neg hnc]; exact hs2)
        · skip
          have hbW : W.testBit c.toNat = true := (wbt _ _).mpr (by omega)
          refine zH_w (c' := (44, [zR 97, .inl a1, .inl a2, .inl s, .inl c, .inl (w32 (20 + (w32 (4 * c)))), u6], [.inl (zband (zbshr a1 c) 1)])) 5 hz rfl ?_
          rw [wnb a1.toNat a1 (by omega) (by omega) (by omega)]
          refine zH_if_ne hz rfl (fun hb44 => ?_) (fun hb44 => ?_)
          · skip
            have hnc : ¬ ((W ^^^ a1.toNat).testBit c.toNat = true ∧ L c.toNat &&& (W ^^^ a1.toNat) = 0 ∧ (T c.toNat).testBit a2.toNat = true) := fun q => (hlb.mp q.1).2 ((wbt _ _).mpr (by omega))
            refine zH_w (c' := (109, [zR 97, .inl a1, .inl a2, .inl s, .inl c, .inl (w32 (20 + (w32 (4 * c)))), .inl 0], [.inl (zbor s 0)])) 7 hz rfl ?_
            rw [show zbor s 0 = s from by rw [hs]; exact wz_or0 (wF_lt2 _ _ _ (by omega))]
            refine zH_w (c' := (5, [zR 97, .inl a1, .inl a2, .inl s, .inl (c + 1), .inl (w32 (20 + (w32 (4 * c)))), .inl 0], [])) 3 hz (by rw [show (.inl (c + 1) : zV) = .inl (w32 (c + 1)) from by rw [w32_id (by omega)]]; rfl) ?_
            refine ih5 s (c + 1) (.inl (w32 (20 + (w32 (4 * c))))) (.inl 0) (by omega) ?_ ?_
            · omega
            · rw [show (c + 1).toNat = c.toNat + 1 by omega]
              first
                | done
                | rfl
                | (rw [wF_s, if_neg hnc]; exact hs2)
          · skip
            have hbl : (W ^^^ a1.toNat).testBit c.toNat = true := hlb.mpr ⟨hbW, fun q => by have := (wbt _ _).mp q; omega⟩
            refine zH_w (c' := (55, [zR 97, .inl a1, .inl a2, .inl s, .inl c, .inl (w32 (20 + (w32 (4 * c)))), u6], [.inl (w32 ((w32 (20 + (w32 (4 * c)))) + 2)), zR 98])) 5 hz rfl ?_
            refine zH_iald hz rfl rfl (.inl rfl) (fun hin55 => ?_)
            show zH n (0, 0) 260 (56, [zR 97, .inl a1, .inl a2, .inl s, .inl c, .inl (w32 (20 + (w32 (4 * c)))), u6], [.inl (M 98 (w32 ((w32 (20 + (w32 (4 * c)))) + 2) : Int).toNat)]) M _
            rw [show M 98 (w32 ((w32 (20 + (w32 (4 * c)))) + 2) : Int).toNat = ((T c.toNat : Nat) : Int) from by rw [show (w32 (w32 (20 + w32 (4 * c)) + 2) : Int).toNat = 22 + 4 * c.toNat by rw [w32_id (x := 4 * c) (by omega), w32_id (x := 20 + 4 * c) (by omega), w32_id (by omega)]; omega]; exact hct.2]
            refine zH_w (c' := (60, [zR 97, .inl a1, .inl a2, .inl s, .inl c, .inl (w32 (20 + (w32 (4 * c)))), u6], [.inl (zband (zbshr ((T c.toNat : Nat) : Int) a2) 1)])) 4 hz rfl ?_
            rw [wnb (T c.toNat) ((T c.toNat : Nat) : Int) rfl (by omega) (by omega)]
            refine zH_w (c' := (61, [zR 97, .inl a1, .inl a2, .inl s, .inl c, .inl (w32 (20 + (w32 (4 * c)))), u6], [.inl 1, .inl ((T c.toNat / 2 ^ a2.toNat % 2 : Nat) : Int)])) 1 hz rfl ?_
            refine zH_wi_ne (pc := 61) (n' := 64) (t := 91) (L := [zR 97, .inl a1, .inl a2, .inl s, .inl c, .inl (w32 (20 + (w32 (4 * c)))), u6]) (st := []) (x := ((T c.toNat / 2 ^ a2.toNat % 2 : Nat) : Int)) (y := 1) 0 hz (by rfl) (fun hb61 => ?_) (fun hb61 => ?_)
            · skip
              have hnc : ¬ ((W ^^^ a1.toNat).testBit c.toNat = true ∧ L c.toNat &&& (W ^^^ a1.toNat) = 0 ∧ (T c.toNat).testBit a2.toNat = true) := fun q => by have := (wbt _ _).mp q.2.2; omega
              refine zH_w (c' := (109, [zR 97, .inl a1, .inl a2, .inl s, .inl c, .inl (w32 (20 + (w32 (4 * c)))), .inl 0], [.inl (zbor s 0)])) 7 hz rfl ?_
              rw [show zbor s 0 = s from by rw [hs]; exact wz_or0 (wF_lt2 _ _ _ (by omega))]
              refine zH_w (c' := (5, [zR 97, .inl a1, .inl a2, .inl s, .inl (c + 1), .inl (w32 (20 + (w32 (4 * c)))), .inl 0], [])) 3 hz (by rw [show (.inl (c + 1) : zV) = .inl (w32 (c + 1)) from by rw [w32_id (by omega)]]; rfl) ?_
              refine ih5 s (c + 1) (.inl (w32 (20 + (w32 (4 * c))))) (.inl 0) (by omega) ?_ ?_
              · omega
              · rw [show (c + 1).toNat = c.toNat + 1 by omega]
                first
                  | done
                  | rfl
                  | (rw [wF_s, if_neg hnc]; exact hs2)
            · skip
              have hbT : (T c.toNat).testBit a2.toNat = true := (wbt _ _).mpr (by omega)
              refine zH_w (c' := (72, [zR 97, .inl a1, .inl a2, .inl s, .inl c, .inl (w32 (20 + (w32 (4 * c)))), u6], [.inl (w32 ((w32 (20 + (w32 (4 * c)))) + 1)), zR 98])) 5 hz rfl ?_
              refine zH_iald hz rfl rfl (.inl rfl) (fun hin72 => ?_)
              show zH n (0, 0) 260 (73, [zR 97, .inl a1, .inl a2, .inl s, .inl c, .inl (w32 (20 + (w32 (4 * c)))), u6], [.inl (M 98 (w32 ((w32 (20 + (w32 (4 * c)))) + 1) : Int).toNat)]) M _
              rw [show M 98 (w32 ((w32 (20 + (w32 (4 * c)))) + 1) : Int).toNat = ((L c.toNat : Nat) : Int) from by rw [show (w32 (w32 (20 + w32 (4 * c)) + 1) : Int).toNat = 21 + 4 * c.toNat by rw [w32_id (x := 4 * c) (by omega), w32_id (x := 20 + 4 * c) (by omega), w32_id (by omega)]; omega]; exact hct.1]
              refine zH_w (c' := (77, [zR 97, .inl a1, .inl a2, .inl s, .inl c, .inl (w32 (20 + (w32 (4 * c)))), u6], [.inl (zband ((L c.toNat : Nat) : Int) (zbxor a1 (-1)))])) 4 hz rfl ?_
              rw [wz_np2 (show L c.toNat < 2 ^ 14 by omega) (by omega)]
              have hwp := wnp_lt (p := a1.toNat) (show L c.toNat < 2 ^ 14 by omega)
              refine zH_w (c' := (81, [zR 97, .inl a1, .inl a2, .inl s, .inl c, .inl (w32 (20 + (w32 (4 * c)))), u6], [.inl (M 97 21), .inl ((wnp (L c.toNat) a1.toNat : Nat) : Int)])) 2 hz rfl ?_
              rw [hr.2.2.2]
              refine zH_w (c' := (84, [zR 97, .inl a1, .inl a2, .inl s, .inl c, .inl (w32 (20 + (w32 (4 * c)))), u6], [.inl (zband ((wnp (L c.toNat) a1.toNat : Nat) : Int) (zbxor (P : Int) (-1)))])) 3 hz rfl ?_
              rw [show zband ((wnp (L c.toNat) a1.toNat : Nat) : Int) (zbxor (P : Int) (-1)) = ((wnp (wnp (L c.toNat) a1.toNat) P : Nat) : Int) from by rw [wz_np2 hwp (by have := hW.2.1; omega), Int.toNat_natCast]]
              refine zH_if_ne hz rfl (fun hb84 => ?_) (fun hb84 => ?_)
              · skip
                have hnc : ¬ ((W ^^^ a1.toNat).testBit c.toNat = true ∧ L c.toNat &&& (W ^^^ a1.toNat) = 0 ∧ (T c.toNat).testBit a2.toNat = true) := fun q => by have := (wFr hW h1 hbW).mpr q.2.1; omega
                refine zH_w (c' := (109, [zR 97, .inl a1, .inl a2, .inl s, .inl c, .inl (w32 (20 + (w32 (4 * c)))), .inl 0], [.inl (zbor s 0)])) 7 hz rfl ?_
                rw [show zbor s 0 = s from by rw [hs]; exact wz_or0 (wF_lt2 _ _ _ (by omega))]
                refine zH_w (c' := (5, [zR 97, .inl a1, .inl a2, .inl s, .inl (c + 1), .inl (w32 (20 + (w32 (4 * c)))), .inl 0], [])) 3 hz (by rw [show (.inl (c + 1) : zV) = .inl (w32 (c + 1)) from by rw [w32_id (by omega)]]; rfl) ?_
                refine ih5 s (c + 1) (.inl (w32 (20 + (w32 (4 * c))))) (.inl 0) (by omega) ?_ ?_
                · omega
                · rw [show (c + 1).toNat = c.toNat + 1 by omega]
                  first
                    | done
                    | rfl
                    | (rw [wF_s, if_neg hnc]; exact hs2)
              · skip
                have hcd : (W ^^^ a1.toNat).testBit c.toNat = true ∧ L c.toNat &&& (W ^^^ a1.toNat) = 0 ∧ (T c.toNat).testBit a2.toNat = true := ⟨hbl, (wFr hW h1 hbW).mp (by omega), hbT⟩
                have hnc := True.intro
                refine zH_w (c' := (109, [zR 97, .inl a1, .inl a2, .inl s, .inl c, .inl (w32 (20 + (w32 (4 * c)))), .inl 1], [.inl (zbor s (zbshl 1 c))])) 11 hz rfl ?_
                rw [show zbor s (zbshl 1 c) = ((wF L T (W ^^^ a1.toNat) a2.toNat (c.toNat + 1) : Nat) : Int) from by rw [hs, wz_or (wF_lt2 _ _ _ (by omega)) (by omega), wF_s, if_pos hcd]]
                refine zH_w (c' := (5, [zR 97, .inl a1, .inl a2, .inl ((wF L T (W ^^^ a1.toNat) a2.toNat (c.toNat + 1) : Nat) : Int), .inl (c + 1), .inl (w32 (20 + (w32 (4 * c)))), .inl 1], [])) 3 hz (by rw [show (.inl (c + 1) : zV) = .inl (w32 (c + 1)) from by rw [w32_id (by omega)]]; rfl) ?_
                refine ih5 ((wF L T (W ^^^ a1.toNat) a2.toNat (c.toNat + 1) : Nat) : Int) (c + 1) (.inl (w32 (20 + (w32 (4 * c))))) (.inl 1) (by omega) ?_ ?_
                · omega
                · rw [show (c + 1).toNat = c.toNat + 1 by omega]
                  first
                    | done
                    | rfl
                    | (rw [wF_s, if_neg hnc]; exact hs2)
  refine lp5 (15) 0 0 zN zN (by omega) ?_ ?_
  · omega
  · rfl
/-- the list of what may be taken -/
noncomputable def wMy (F : Nat) (M : zM) : Prop := M 97 30 = ((wC F 14 : Nat) : Int) ∧ ∀ d : Nat, d < 14 → F.testBit d = true → M 115 (wC F d) = (d : Int)
set_option maxRecDepth 100000 in
theorem fh_261_97 {n : Nat} {M : zM} {L T : Nat → Nat} {W P Nc : Nat} (hr : wRm L T W P Nc M) (hp : wPr L T) (hW : wWn L W P Nc) (a1 a2 : Int) (h0 : 0 ≤ a1) (h1 : wSub a1.toNat W) (h2 : 0 ≤ a2 ∧ a2 < 3) : zH n (0, 0) 261 (0, zini [zR 97, .inl a1, .inl a2] 5, []) M (fun r M' => r = none ∧ (∀ r, r ≠ 97 → r ≠ 115 → M' r = M r) ∧ (∀ k, k ≠ 30 → M' 97 k = M 97 k) ∧ wMy (wF L T (W ^^^ a1.toNat) a2.toNat 14) M') := by
  have hz := zp_261
  show zH n (0, 0) 261 (0, [zR 97, .inl a1, .inl a2, zN, zN], []) M _
  refine zH_wE (c1 := (6, [zR 97, .inl a1, .inl a2, zN, zN], [])) 3 hz zp_260 (fh_260_97 hr hp hW a1 a2 h0 h1 h2) (by rfl) ?_
  show zH n (0, 0) 261 (6, [zR 97, .inl a1, .inl a2, zN, zN], [.inl ((wF L T (W ^^^ a1.toNat) a2.toNat 14 : Nat) : Int)]) M _
  obtain ⟨F, hF⟩ : ∃ F, F = wF L T (W ^^^ a1.toNat) a2.toNat 14 := ⟨_, rfl⟩
  rw [← hF]
  have hF14 : F < 2 ^ 14 := by rw [hF]; exact wF_lt _ _
  refine zH_w (c' := (12, [zR 97, .inl a1, .inl a2, .inl (F : Int), zN], [])) 4 hz rfl ?_
  obtain ⟨M1, hM1⟩ : ∃ X : zM, X = zput M 97 30 0 := ⟨_, rfl⟩
  rw [← hM1]
  have hO1 : (∀ r, r ≠ 97 → r ≠ 115 → M1 r = M r) ∧ (∀ k, k ≠ 30 → M1 97 k = M 97 k) := ⟨fun r q1 q2 => by rw [hM1, zput_oth q1], fun k q => by rw [hM1, qput_nk q]⟩
  refine zH_w (c' := (15, [zR 97, .inl a1, .inl a2, .inl (F : Int), .inl 0], [])) 2 hz rfl ?_
  have lp15 : ∀ (N : Nat) (c : Int) (M5 : zM), ((14 - c).toNat) < N → (0 ≤ c ∧ c ≤ 14) → ((∀ r, r ≠ 97 → r ≠ 115 → M5 r = M r) ∧ (∀ k, k ≠ 30 → M5 97 k = M 97 k)) → (M5 97 30 = ((wC F c.toNat : Nat) : Int)) → (∀ d : Nat, d < c.toNat → F.testBit d = true → M5 115 (wC F d) = (d : Int)) → zH n (0, 0) 261 (15, [zR 97, .inl a1, .inl a2, .inl (F : Int), .inl c], []) M5 (fun r M' => r = none ∧ (∀ r, r ≠ 97 → r ≠ 115 → M' r = M r) ∧ (∀ k, k ≠ 30 → M' 97 k = M 97 k) ∧ wMy F M') := by
    intro N
    induction N with
    | zero => intro c M5 hN; exact absurd hN (Nat.not_lt_zero _)
    | succ N ih15 =>
      intro c M5 hN hi hO h30 hM
      refine zH_w (c' := (19, [zR 97, .inl a1, .inl a2, .inl (F : Int), .inl c], [.inl 14, .inl c])) 2 hz rfl ?_
      refine zH_wi_ge (pc := 19) (n' := 22) (t := 59) (L := [zR 97, .inl a1, .inl a2, .inl (F : Int), .inl c]) (st := []) (x := c) (y := 14) 0 hz (by rfl) (fun hb19 => ?_) (fun hb19 => ?_)
      · skip
        exact zH_wr (r := none) 0 hz (by rfl) (⟨rfl, hO.1, hO.2, ⟨by rw [h30, show c.toNat = 14 by omega], fun d d1 d2 => hM d (by omega) d2⟩⟩)
      · skip
        have hcs := wC_s F c.toNat
        have hcl := wC_le F c.toNat
        refine zH_w (c' := (28, [zR 97, .inl a1, .inl a2, .inl (F : Int), .inl c], [.inl (zband (zbshr (F : Int) c) 1)])) 5 hz rfl ?_
        rw [wnb F (F : Int) rfl hF14 (by omega)]
        refine zH_w (c' := (29, [zR 97, .inl a1, .inl a2, .inl (F : Int), .inl c], [.inl 1, .inl ((F / 2 ^ c.toNat % 2 : Nat) : Int)])) 1 hz rfl ?_
        refine zH_wi_ne (pc := 29) (n' := 32) (t := 53) (L := [zR 97, .inl a1, .inl a2, .inl (F : Int), .inl c]) (st := []) (x := ((F / 2 ^ c.toNat % 2 : Nat) : Int)) (y := 1) 0 hz (by rfl) (fun hb29 => ?_) (fun hb29 => ?_)
        · skip
          have hbn : ¬ F.testBit c.toNat = true := fun q => by have := (wbt _ _).mp q; omega
          rw [if_neg hbn, Nat.add_zero] at hcs
          have hOn := hO
          have h30n : M5 97 30 = ((wC F (c.toNat + 1) : Nat) : Int) := by rw [hcs]; exact h30
          have hMn : ∀ d : Nat, d < c.toNat + 1 → F.testBit d = true → M5 115 (wC F d) = (d : Int) := fun d q1 q2 => hM d (by
            rcases (by omega : d < c.toNat ∨ d = c.toNat) with y | y
            · exact y
            · rw [y] at q2; exact absurd q2 hbn) q2
          refine zH_w (c' := (15, [zR 97, .inl a1, .inl a2, .inl (F : Int), .inl (c + 1)], [])) 2 hz (by rw [show (.inl (c + 1) : zV) = .inl (w32 (c + 1)) from by rw [w32_id (by omega)]]; rfl) ?_
          refine ih15 (c + 1) M5 (by omega) ?_ ?_ ?_ ?_
          · omega
          · exact hOn
          · rw [show (c + 1).toNat = c.toNat + 1 by omega]; exact h30n
          · rw [show (c + 1).toNat = c.toNat + 1 by omega]; exact hMn
        · skip
          have hby : F.testBit c.toNat = true := (wbt _ _).mpr (by omega)
          rw [if_pos hby] at hcs
          refine zH_w (c' := (40, [zR 97, .inl a1, .inl a2, .inl (F : Int), .inl c], [.inl (M5 97 30), zR 115])) 4 hz rfl ?_
          rw [h30]
          refine zH_w (c' := (42, [zR 97, .inl a1, .inl a2, .inl (F : Int), .inl c], [.inl c, .inl ((wC F c.toNat : Nat) : Int), zR 115])) 1 hz rfl ?_
          refine zH_iast hz rfl rfl (fun hin42 => ?_)
          show zH n (0, 0) 261 (43, [zR 97, .inl a1, .inl a2, .inl (F : Int), .inl c], []) (zput M5 115 (((wC F c.toNat : Nat) : Int) : Int).toNat c) _
          obtain ⟨M6, hM6⟩ : ∃ X : zM, X = zput M5 115 (((wC F c.toNat : Nat) : Int) : Int).toNat c := ⟨_, rfl⟩
          rw [← hM6]
          refine zH_w (c' := (48, [zR 97, .inl a1, .inl a2, .inl (F : Int), .inl c], [.inl (M6 97 30), zR 97])) 3 hz rfl ?_
          rw [show M6 97 30 = ((wC F c.toNat : Nat) : Int) from by rw [hM6, zput_oth (by decide)]; exact h30]
          refine zH_w (c' := (50, [zR 97, .inl a1, .inl a2, .inl (F : Int), .inl c], [.inl (w32 (((wC F c.toNat : Nat) : Int) + 1)), zR 97])) 2 hz rfl ?_
          rw [show w32 (((wC F c.toNat : Nat) : Int) + 1) = ((wC F c.toNat : Nat) : Int) + 1 from w32_id (by omega)]
          refine zH_w (c' := (53, [zR 97, .inl a1, .inl a2, .inl (F : Int), .inl c], [])) 1 hz rfl ?_
          obtain ⟨M7, hM7⟩ : ∃ X : zM, X = zput M6 97 30 (((wC F c.toNat : Nat) : Int) + 1) := ⟨_, rfl⟩
          rw [← hM7]
          have hOn : (∀ r, r ≠ 97 → r ≠ 115 → M7 r = M r) ∧ (∀ k, k ≠ 30 → M7 97 k = M 97 k) := ⟨fun r q1 q2 => by rw [hM7, zput_oth q1, hM6, zput_oth q2]; exact hO.1 r q1 q2, fun k q => by rw [hM7, qput_nk q, hM6, zput_oth (by decide)]; exact hO.2 k q⟩
          have h30n : M7 97 30 = ((wC F (c.toNat + 1) : Nat) : Int) := by rw [hM7, qput_eq, hcs]; rfl
          have hMn : ∀ d : Nat, d < c.toNat + 1 → F.testBit d = true → M7 115 (wC F d) = (d : Int) := fun d q1 q2 => by
            rw [hM7, zput_oth (by decide), hM6, Int.toNat_natCast]
            by_cases y : d = c.toNat
            · rw [y, qput_eq]; omega
            · rw [qput_nk (fun z => y (wC_inj q2 hby z))]; exact hM d (by omega) q2
          refine zH_w (c' := (15, [zR 97, .inl a1, .inl a2, .inl (F : Int), .inl (c + 1)], [])) 2 hz (by rw [show (.inl (c + 1) : zV) = .inl (w32 (c + 1)) from by rw [w32_id (by omega)]]; rfl) ?_
          refine ih15 (c + 1) M7 (by omega) ?_ ?_ ?_ ?_
          · omega
          · exact hOn
          · rw [show (c + 1).toNat = c.toNat + 1 by omega]; exact h30n
          · rw [show (c + 1).toNat = c.toNat + 1 by omega]; exact hMn
  refine lp15 (15) 0 M1 (by omega) ?_ ?_ ?_ ?_
  · omega
  · exact hO1
  · rw [hM1]; exact qput_eq
  · exact fun d hd => absurd hd (Nat.not_lt_zero _)
set_option maxRecDepth 100000 in
theorem fh_262_97 {n : Nat} {M : zM} {F : Nat} (hF : F < 2 ^ 14) (hM : wMy F M) (a1 : Int) (h1 : 0 ≤ a1 ∧ a1 ≤ 16383) : zH n (0, 0) 262 (0, zini [zR 97, .inl a1] 4, []) M (fun r M' => (∃ S : Nat, r = some (.inl (S : Int)) ∧ wSpr F a1.toNat S) ∧ M' = M) := by
  have hz := zp_262
  show zH n (0, 0) 262 (0, [zR 97, .inl a1, zN, zN], []) M _
  have hC14 := wC_le F 14
  refine zH_w (c' := (4, [zR 97, .inl a1, .inl 0, .inl 0], [])) 4 hz rfl ?_
  have lp4 : ∀ (N : Nat) (s : Int) (i : Int), ((14 - i).toNat) < N → (0 ≤ i ∧ i ≤ ((wC F 14 : Nat) : Int)) → (∃ S : Nat, s = (S : Int) ∧ S < 2 ^ 14 ∧ ∀ d, S.testBit d = true ↔ (F.testBit d = true ∧ wC F d < i.toNat ∧ a1.toNat.testBit (wC F d) = true)) → zH n (0, 0) 262 (4, [zR 97, .inl a1, .inl s, .inl i], []) M (fun r M' => (∃ S : Nat, r = some (.inl (S : Int)) ∧ wSpr F a1.toNat S) ∧ M' = M) := by
    intro N
    induction N with
    | zero => intro s i hN; exact absurd hN (Nat.not_lt_zero _)
    | succ N ih4 =>
      intro s i hN hi hs
      refine zH_w (c' := (9, [zR 97, .inl a1, .inl s, .inl i], [.inl (M 97 30), .inl i])) 3 hz rfl ?_
      rw [hM.1]
      refine zH_icmp_ge hz rfl (fun hb9 => ?_) (fun hb9 => ?_)
      · skip
        obtain ⟨S, s1, s2, s3⟩ := hs
        refine zH_w (c' := (34, [zR 97, .inl a1, .inl s, .inl i], [.inl s])) 1 hz rfl ?_
        refine zH_ret hz rfl rfl ?_
        exact ⟨⟨S, by rw [s1], s2, fun d => (s3 d).trans ⟨fun q => ⟨q.1, q.2.2⟩, fun q => ⟨q.1, by
          have z : d < 14 := wb_lt hF q.1
          have := wC_lt2 z q.1
          omega, q.2⟩⟩⟩, rfl⟩
      · skip
        obtain ⟨S, s1, s2, s3⟩ := hs
        obtain ⟨d, d1, d2, d3⟩ := wC_at (m := F) (i := i.toNat) 14 (by omega)
        have hpd := Nat.pow_le_pow_right (n := 2) (by decide) (show d ≤ 13 by omega)
        have hb2 : a1.toNat / 2 ^ i.toNat % 2 < 2 := Nat.mod_lt _ (by decide)
        refine zH_w (c' := (18, [zR 97, .inl a1, .inl s, .inl i], [.inl (zband (zbshr a1 i) 1), .inl s])) 6 hz rfl ?_
        rw [wnb a1.toNat a1 (by omega) (by omega) (by omega)]
        refine zH_w (c' := (23, [zR 97, .inl a1, .inl s, .inl i], [.inl i, zR 115, .inl ((a1.toNat / 2 ^ i.toNat % 2 : Nat) : Int), .inl s])) 3 hz rfl ?_
        refine zH_iald hz rfl rfl (.inl rfl) (fun hin23 => ?_)
        show zH n (0, 0) 262 (24, [zR 97, .inl a1, .inl s, .inl i], [.inl (M 115 (i : Int).toNat), .inl ((a1.toNat / 2 ^ i.toNat % 2 : Nat) : Int), .inl s]) M _
        rw [show M 115 (i : Int).toNat = (d : Int) from by rw [← d3]; exact hM.2 d d1 d2]
        refine zH_w (c' := (26, [zR 97, .inl a1, .inl s, .inl i], [.inl (zbor s (zbshl ((a1.toNat / 2 ^ i.toNat % 2 : Nat) : Int) (d : Int)))])) 2 hz rfl ?_
        obtain ⟨sn, hsn⟩ : ∃ x : Int, x = zbor s (zbshl ((a1.toNat / 2 ^ i.toNat % 2 : Nat) : Int) (d : Int)) := ⟨_, rfl⟩
        rw [← hsn]
        have hsn : ∃ S : Nat, sn = (S : Int) ∧ S < 2 ^ 14 ∧ ∀ d, S.testBit d = true ↔ (F.testBit d = true ∧ wC F d < i.toNat + 1 ∧ a1.toNat.testBit (wC F d) = true) := by
          have hx : ∀ x, F.testBit x = true → wC F x = i.toNat → x = d := fun x x1 x2 => wC_inj x1 d2 (x2.trans d3.symm)
          by_cases b : a1.toNat / 2 ^ i.toNat % 2 = 1
          · rw [b, s1] at hsn
            rw [show (((1 : Nat) : Int)) = 1 from rfl, wz_or s2 (by omega), Int.toNat_natCast] at hsn
            refine ⟨_, hsn, Nat.or_lt_two_pow s2 (by omega), fun x => ?_⟩
            rw [wb_or, s3]
            constructor
            · rintro (q | q)
              · exact ⟨q.1, by omega, q.2.2⟩
              · rw [← q, d3]; exact ⟨d2, by omega, (wbt _ _).mpr b⟩
            · rintro ⟨q1, q2, q3⟩
              rcases (by omega : wC F x < i.toNat ∨ wC F x = i.toNat) with y | y
              · exact .inl ⟨q1, y, q3⟩
              · exact .inr (hx x q1 y).symm
          · rw [show a1.toNat / 2 ^ i.toNat % 2 = 0 by omega, s1] at hsn
            rw [show (((0 : Nat) : Int)) = 0 from rfl, show zbshl 0 (d : Int) = 0 from (qbshl_N 0 (d : Int) (by decide) (by omega) (by rw [show (0 : Int).toNat = 0 from rfl, Nat.zero_mul]; decide)).trans (by rw [show (0 : Int).toNat = 0 from rfl, Nat.zero_mul]; rfl), wz_or0 s2] at hsn
            refine ⟨S, hsn, s2, fun x => ?_⟩
            rw [s3]
            constructor
            · rintro ⟨q1, q2, q3⟩; exact ⟨q1, by omega, q3⟩
            · rintro ⟨q1, q2, q3⟩
              rcases (by omega : wC F x < i.toNat ∨ wC F x = i.toNat) with y | y
              · exact ⟨q1, y, q3⟩
              · rw [y] at q3; exact absurd ((wbt _ _).mp q3) b
        refine zH_w (c' := (4, [zR 97, .inl a1, .inl sn, .inl (i + 1)], [])) 3 hz (by rw [show (.inl (i + 1) : zV) = .inl (w32 (i + 1)) from by rw [w32_id (by omega)]]; rfl) ?_
        refine ih4 sn (i + 1) (by omega) ?_ ?_
        · omega
        · rw [show (i + 1).toNat = i.toNat + 1 by omega]; exact hsn
  refine lp4 (15) 0 0 (by omega) ?_ ?_
  · omega
  · exact ⟨0, rfl, by decide, fun d => ⟨fun q => absurd q wb_0, fun q => absurd q.2.1 (Nat.not_lt_zero _)⟩⟩
theorem wLo_pos {v lo : Nat} (h : 1 ≤ v) (h2 : v < 2 ^ 14) (e : lo = v &&& (2 ^ 32 - v)) : 0 < lo := by
  obtain ⟨i, m, a, m1, m2, d⟩ := wDe 14 v h2 h
  have pm : 2 ^ m = 2 * 2 ^ (m - 1) := by rw [show m = (m - 1) + 1 by omega, Nat.pow_succ, Nat.mul_comm]; rfl
  have zm := Nat.two_pow_pos (m - 1)
  have zi := Nat.two_pow_pos i
  have e2 : 2 ^ m * (2 * a) = 2 * (2 ^ m * a) := by rw [← Nat.mul_assoc, Nat.mul_comm (2 ^ m) 2, Nat.mul_assoc]
  have q := wLow2 (i := i) (o := 2 ^ m * (2 * a) + (2 ^ m - 1)) (by omega) (by omega) (by rw [← d]; exact Nat.lt_trans h2 (by decide))
  rw [← d, ← e] at q
  omega
set_option maxRecDepth 100000 in
theorem fh_263 {n : Nat} {M : zM} (a0 : Int) (h1 : 1 ≤ a0 ∧ a0 ≤ 16383) : zH n (0, 0) 263 (0, zini [.inl a0] 3, []) M (fun r M' => r = some (.inl ((wGp a0.toNat : Nat) : Int)) ∧ M' = M) := by
  have hz := zp_263
  show zH n (0, 0) 263 (0, [.inl a0, zN, zN], []) M _
  obtain ⟨lo, hlo⟩ : ∃ lo, lo = a0.toNat &&& (2 ^ 32 - a0.toNat) := ⟨_, rfl⟩
  have l1 : lo ≤ a0.toNat := by rw [hlo]; exact Nat.and_le_left
  have l0 : 0 < lo := wLo_pos (by omega) (by omega) hlo
  have lx : (a0.toNat ^^^ (a0.toNat + lo)) < 2 ^ 15 := Nat.xor_lt_two_pow (by omega) (by omega)
  have ld : (a0.toNat ^^^ (a0.toNat + lo)) / lo ≤ a0.toNat ^^^ (a0.toNat + lo) := Nat.div_le_self _ _
  obtain ⟨G, hG⟩ : ∃ G, G = (a0.toNat ^^^ (a0.toNat + lo)) / lo := ⟨_, rfl⟩
  rw [← hG] at ld
  refine zH_w (c' := (4, [.inl a0, zN, zN], [.inl (zband a0 (w32 (-a0)))])) 4 hz rfl ?_
  rw [show zband a0 (w32 (-a0)) = (lo : Int) from by rw [hlo]; exact wz_neg h1]
  refine zH_w (c' := (8, [.inl a0, .inl (lo : Int), zN], [.inl (w32 (a0 + (lo : Int)))])) 4 hz rfl ?_
  rw [show w32 (a0 + (lo : Int)) = a0 + (lo : Int) from w32_id (by omega)]
  refine zH_w (c' := (13, [.inl a0, .inl (lo : Int), .inl (a0 + (lo : Int))], [.inl (zbxor a0 (a0 + (lo : Int))), .inl (a0 + (lo : Int))])) 5 hz rfl ?_
  rw [show zbxor a0 (a0 + (lo : Int)) = ((a0.toNat ^^^ (a0.toNat + lo) : Nat) : Int) from by rw [qbxor_N _ _ (by omega) (by omega), show (a0 + (lo : Int)).toNat = a0.toNat + lo by omega]]
  refine zH_w (c' := (14, [.inl a0, .inl (lo : Int), .inl (a0 + (lo : Int))], [.inl (lo : Int), .inl ((a0.toNat ^^^ (a0.toNat + lo) : Nat) : Int), .inl (a0 + (lo : Int))])) 1 hz rfl ?_
  refine zH_idiv hz rfl (fun hdv14 => ?_)
  show zH n (0, 0) 263 (15, [.inl a0, .inl (lo : Int), .inl (a0 + (lo : Int))], [.inl (w32 (((a0.toNat ^^^ (a0.toNat + lo) : Nat) : Int).tdiv (lo : Int))), .inl (a0 + (lo : Int))]) M _
  rw [show w32 (((a0.toNat ^^^ (a0.toNat + lo) : Nat) : Int).tdiv (lo : Int)) = (G : Int) from by rw [Int.tdiv_eq_ediv_of_nonneg (by omega)]; rw [← Int.natCast_ediv, ← hG]; exact w32_id (by omega)]
  refine zH_w (c' := (17, [.inl a0, .inl (lo : Int), .inl (a0 + (lo : Int))], [.inl (zbshr (G : Int) 2), .inl (a0 + (lo : Int))])) 2 hz rfl ?_
  rw [show zbshr (G : Int) 2 = ((G / 4 : Nat) : Int) from by rw [qbshr_N _ 2 (by omega) (by decide), Int.toNat_natCast]; rfl]
  refine zH_w (c' := (18, [.inl a0, .inl (lo : Int), .inl (a0 + (lo : Int))], [.inl (zbor (a0 + (lo : Int)) ((G / 4 : Nat) : Int))])) 1 hz rfl ?_
  rw [show zbor (a0 + (lo : Int)) ((G / 4 : Nat) : Int) = ((wGp a0.toNat : Nat) : Int) from by rw [qbor_N _ _ (by omega) (by omega), Int.toNat_natCast, show (a0 + (lo : Int)).toNat = a0.toNat + lo by omega, hG, hlo]; rfl]
  exact zH_ret hz rfl rfl (⟨rfl, rfl⟩)
