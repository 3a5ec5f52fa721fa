/-! WHAT IS PASSED, CLASSES: THE CLASS -/
noncomputable def hf_57_72 (M : zM) (a1 : Int) (a2 : Int) : zM :=
  (if a1 < 0 then M else (if 15 ≤ a1 then M else zput M 74 (a1 : Int).toNat a2))
set_option maxRecDepth 100000 in
theorem fh_57_72 {n : Nat} {M : zM} (a1 : Int) (a2 : Int) : zH n (0, 0) 57 (0, zini [zR 72, .inl a1, .inr (.inl a2)] 4, []) M (fun r M' => r = none ∧ M' = hf_57_72 M a1 a2) := by
  have hz := zp_57
  have hE : hf_57_72 M a1 a2 = hf_57_72 M a1 a2 := rfl
  show zH n (0, 0) 57 (0, [zR 72, .inl a1, .inr (.inl a2), zN], []) M _
  refine zH_wf_lt (pc := 1) (n' := 4) (t := 20) (L := [zR 72, .inl a1, .inr (.inl a2), zN]) (st := []) (x := a1) 1 hz (by rfl) (fun hb => ?_) (fun hb => ?_)
  · have hE := hE.trans (if_pos hb)
    exact zH_wr (r := none) 0 hz (by rfl) ⟨rfl, hE.symm⟩
  · have hE := hE.trans (if_neg hb)
    refine zH_wi_ge (pc := 10) (n' := 13) (t := 20) (L := [zR 72, .inl a1, .inr (.inl a2), zN]) (st := []) (x := a1) (y := 15) 4 hz (by rfl) (fun hb => ?_) (fun hb => ?_)
    · have hE := hE.trans (if_pos hb)
      exact zH_wr (r := none) 0 hz (by rfl) ⟨rfl, hE.symm⟩
    · have hE := hE.trans (if_neg hb)
      refine zH_w (c' := (19, [zR 72, .inl a1, .inr (.inl a2), zN], [.inr (.inl a2), .inl a1, zR 74])) 4 hz rfl ?_
      refine zH_last hz rfl rfl (fun _ => ?_)
      show zH n (0, 0) 57 (20, [zR 72, .inl a1, .inr (.inl a2), zN], []) (zput M 74 (a1 : Int).toNat a2) _
      exact zH_wr (r := none) 0 hz (by rfl) ⟨rfl, hE.symm⟩
section JP
variable {Mo M M' : zM} {C : Nat → Bool}
/-- final, tries, excused of a student in a course -/
noncomputable def jF (M : zM) (C : Nat → Bool) (s : Int) (c : Nat) : Int := kZ M C (M 98 4).toNat (s * 14 + (c : Int)) (M 98 4).toNat
noncomputable def jT (M : zM) (C : Nat → Bool) (s : Int) (c : Nat) : Int := kT M C (s * 14 + (c : Int)) (M 98 4).toNat
noncomputable def jX (M : zM) (C : Nat → Bool) (s : Int) (c : Nat) : Int := kX M C (s * 14 + (c : Int)) (M 98 4).toNat
noncomputable def jEc (M : zM) (C : Nat → Bool) (s : Int) (c : Nat) (p : Int) : eEn := (fun k => if k = 7 then jF M C s c else if k = 8 then jT M C s c else if k = 9 then jX M C s c else if k = 10 then (if zband (M 98 (21 + 4 * c)) p = M 98 (21 + 4 * c) then 1 else 0) else if k = 11 then (c : Int) else 0, 0, fun _ => 0, 0)
noncomputable def jPs (M : zM) (C : Nat → Bool) (s : Int) (O : List Int) : Nat → Int
  | 0 => 0
  | c + 1 => if eVal (jEc M C s c (jPs M C s O c)) O = 0 then jPs M C s O c else zbor (jPs M C s O c) (zbshl 1 (c : Int))
theorem jPs_s (M : zM) (C : Nat → Bool) (s : Int) (O : List Int) (c : Nat) : jPs M C s O (c + 1) = if eVal (jEc M C s c (jPs M C s O c)) O = 0 then jPs M C s O c else zbor (jPs M C s O c) (zbshl 1 (c : Int)) := rfl
noncomputable def insA (g : Nat → Int) (v : Int) : Nat → Nat → Int
  | 0 => hup g 0 v
  | k + 1 => if g k < v then insA (hup g (k + 1) (g k)) v k else hup g (k + 1) v
theorem insA_cg {g h : Nat → Int} {v : Int} : ∀ (r : Nat) {N : Nat}, r ≤ N → (∀ j, j < r → g j = h j) → (∀ j, r < j → j ≤ N → g j = h j) → ∀ j, j ≤ N → insA g v r j = insA h v r j
  | 0, N, _, _, q, j, hj => by
    show hup g 0 v j = hup h 0 v j
    by_cases e : j = 0
    · rw [e, hup_eq, hup_eq]
    · rw [hup_ne e, hup_ne e]; exact q j (by omega) hj
  | k + 1, N, hr, p, q, j, hj => by
    show (if g k < v then insA (hup g (k + 1) (g k)) v k else hup g (k + 1) v) j = (if h k < v then insA (hup h (k + 1) (h k)) v k else hup h (k + 1) v) j
    rw [p k (by omega)]
    by_cases c : h k < v
    · rw [if_pos c, if_pos c]
      refine insA_cg k (N := N) (by omega) (fun i hi => ?_) (fun i h1 h2 => ?_) j hj
      · rw [hup_ne (by omega), hup_ne (by omega)]; exact p i (by omega)
      · by_cases e : i = k + 1
        · rw [e, hup_eq, hup_eq]
        · rw [hup_ne e, hup_ne e]; exact q i (by omega) h2
    · rw [if_neg c, if_neg c]
      by_cases e : j = k + 1
      · rw [e, hup_eq, hup_eq]
      · rw [hup_ne e, hup_ne e]
        by_cases e2 : j < k + 1
        · exact p j e2
        · exact q j (by omega) hj
abbrev jSt : Type := Int × Int × Nat × (Nat → Int)
noncomputable def jMk (M : zM) (C : Nat → Bool) (s : Int) (c : Nat) : Int := if 0 < jF M C s c then jF M C s c else 0
noncomputable def jAl (M : zM) (C : Nat → Bool) (s p : Int) : Nat → jSt
  | 0 => (0, 0, 0, fun _ => 0)
  | c + 1 => if zband (zbshr p (c : Int)) 1 = 1 then (w64 ((jAl M C s p c).1 + M 98 (20 + 4 * c)), w64 ((jAl M C s p c).2.1 + w64 (jMk M C s c * M 98 (20 + 4 * c))), (jAl M C s p c).2.2.1 + 1, insA (jAl M C s p c).2.2.2 (jMk M C s c) (jAl M C s p c).2.2.1) else jAl M C s p c
theorem jAl_s (M : zM) (C : Nat → Bool) (s p : Int) (c : Nat) : jAl M C s p (c + 1) = if zband (zbshr p (c : Int)) 1 = 1 then (w64 ((jAl M C s p c).1 + M 98 (20 + 4 * c)), w64 ((jAl M C s p c).2.1 + w64 (jMk M C s c * M 98 (20 + 4 * c))), (jAl M C s p c).2.2.1 + 1, insA (jAl M C s p c).2.2.2 (jMk M C s c) (jAl M C s p c).2.2.1) else jAl M C s p c := rfl
theorem jAl_r (M : zM) (C : Nat → Bool) (s p : Int) : ∀ c : Nat, (jAl M C s p c).2.2.1 ≤ c
  | 0 => Nat.le_refl _
  | c + 1 => by
    have q := jAl_r M C s p c
    rw [jAl_s]
    split
    · exact Nat.succ_le_succ q
    · exact Nat.le_succ_of_le q
noncomputable def jMn (S : jSt) : Int := if S.1 = 0 then 0 else w64 ((w64 (S.2.1 * 100)).tdiv S.1)
noncomputable def jEa (S : jSt) (more : Int) : eEn := (fun k => if k = 7 then -1 else if k = 12 then S.1 else if k = 13 then w64 (jMn S + more) else if k = 14 then (S.2.2.1 : Int) else 0, (S.2.2.1 : Int), S.2.2.2, more)
noncomputable def jCp (v : Int) : Int := if v < 0 then 0 else if 9 < v then 9 else v
/-- bits -/
theorem j2p : ∀ k : Fin 31, zbshl 1 (k.val : Int) = ((2 ^ k.val : Nat) : Int) := by decide +kernel
theorem j_or {x : Int} {c : Nat} (hc : c ≤ 13) (hx : 0 ≤ x ∧ x < ((2 ^ c : Nat) : Int)) : zbor x (zbshl 1 (c : Int)) = x + ((2 ^ c : Nat) : Int) := by
  have hp : 1 ≤ 2 ^ c ∧ 2 ^ c ≤ 8192 := ⟨Nat.one_le_two_pow, Nat.pow_le_pow_right (n := 2) (by decide) (show c ≤ 13 by omega)⟩
  have hc2 : x.toNat < 2 ^ c := by omega
  rw [show zbshl 1 (c : Int) = ((2 ^ c : Nat) : Int) from j2p ⟨c, by omega⟩, qbor_N x _ (by omega) (by omega), Int.toNat_natCast, Nat.or_two_pow_eq_add_of_lt hc2]
  omega
theorem jPs_r (M : zM) (C : Nat → Bool) (s : Int) (O : List Int) : ∀ c : Nat, c ≤ 14 → 0 ≤ jPs M C s O c ∧ jPs M C s O c < ((2 ^ c : Nat) : Int)
  | 0, _ => by show 0 ≤ (0 : Int) ∧ (0 : Int) < ((2 ^ 0 : Nat) : Int); decide
  | c + 1, hc => by
    have q := jPs_r M C s O c (by omega)
    rw [jPs_s, Nat.pow_succ]
    split
    · omega
    · rw [j_or (by omega) q]; omega
/-- how many are counted: the bits -/
theorem jAl_c (M : zM) (C : Nat → Bool) (s p : Int) (hp : 0 ≤ p ∧ p < 16384) : ∀ c : Nat, c ≤ 14 → (jAl M C s p c).2.2.1 = qpc c p.toNat
  | 0, _ => rfl
  | c + 1, hc => by
    have q := jAl_c M C s p hp c (by omega)
    have hb := qbit p (c : Int) (by omega) (by omega)
    rw [show ((c : Int)).toNat = c from Int.toNat_natCast c] at hb
    rw [jAl_s, qpc_next]
    split
    · rename_i h
      show (jAl M C s p c).2.2.1 + 1 = _
      omega
    · rename_i h
      rw [q]
      omega
theorem qpc_up {c p : Nat} (h : p < 2 ^ c) : ∀ k : Nat, qpc (c + k) p = qpc c p
  | 0 => rfl
  | k + 1 => by
    show qpc (c + k + 1) p = qpc c p
    rw [qpc_big (c + k) p (Nat.lt_of_lt_of_le h (Nat.pow_le_pow_right (by decide) (Nat.le_add_right c k))), qpc_up h k]
theorem hbc14 {M : zM} {a : Int} (ha : 0 ≤ a ∧ a < 16384) : hf_296 M a = (qpc 31 a.toNat : Nat) := hbc31 (by omega)
noncomputable def jH (M : zM) : Prop := kP M ∧ (M 77 0 = 1 ∧ M 77 1 = 164) ∧ pCon M
noncomputable def jK (Mo : zM) (C : Nat → Bool) (M : zM) : Prop := (∀ r, r ≠ 62 → r ≠ 64 → r ≠ 65 → r ≠ 66 → r ≠ 72 → r ≠ 73 → r ≠ 74 → r ≠ 75 → r ≠ 80 → M r = Mo r) ∧ ((M 65 0 = 250 ∧ M 65 1 = 1) ∧ ∀ a : Nat, (a : Int) < Mo 98 4 → M 62 (4 * a) = if C a = true then 1 else 0) ∧ (∀ r : Nat, (r : Int) < 14 * Mo 98 1 → M 64 (4 * r) = kZ Mo C (Mo 98 4).toNat (r : Int) (Mo 98 4).toNat ∧ M 64 (4 * r + 1) = kT Mo C (r : Int) (Mo 98 4).toNat ∧ M 64 (4 * r + 2) = kX Mo C (r : Int) (Mo 98 4).toNat) ∧ 0 ≤ M 72 3 ∧ M 72 3 ≤ 14
theorem jK.mv (h : jK Mo C M) (e : ∀ r, r ≠ 72 → r ≠ 73 → r ≠ 74 → r ≠ 75 → r ≠ 80 → M' r = M r) (hr : 0 ≤ M' 72 3 ∧ M' 72 3 ≤ 14) : jK Mo C M' := by
  obtain ⟨h1, h2, h3, -⟩ := h
  refine ⟨fun r q1 q2 q3 q4 q5 q6 q7 q8 q9 => (e r q5 q6 q7 q8 q9).trans (h1 r q1 q2 q3 q4 q5 q6 q7 q8 q9), ?_, ?_, hr⟩
  · rw [e 65 (by decide) (by decide) (by decide) (by decide) (by decide), e 62 (by decide) (by decide) (by decide) (by decide) (by decide)]; exact h2
  · rw [e 64 (by decide) (by decide) (by decide) (by decide) (by decide)]; exact h3
theorem jK.eq (h : jK Mo C M) (r : Nat) (hr : (r < 62 ∨ (76 ≤ r ∧ r ≠ 80)) ∨ r = 63 ∨ r = 61) : M r = Mo r := h.1 r (by omega) (by omega) (by omega) (by omega) (by omega) (by omega) (by omega) (by omega) (by omega)
theorem jK.bi (hj : jH Mo) (h : jK Mo C M) : hc9 (M 22 3) (M 23) (M 98) ∧ (M 22 0 = 10 ∧ M 22 1 = 164) ∧ (M 12 0 = 20 ∧ M 12 1 = 3) ∧ hc1 (M 12 3) (M 13) (M 98) ∧ hcA (M 13) (M 98) := by
  rw [h.eq 22 (by omega), h.eq 23 (by omega), h.eq 98 (by omega), h.eq 12 (by omega), h.eq 13 (by omega)]
  obtain ⟨⟨-, hh, hT, -⟩, -⟩ := hj
  exact ⟨hh.2.2.2.2.2.2.2.2.2.1, hT.t22, hT.t12, hh.2.1, hh.2.2.2.2.2.2.2.2.2.2.1⟩
/-- what the outcomes' table says -/
theorem jK.fin (hj : jH Mo) (h : jK Mo C M) (e63 : M' 63 = M 63) (e64 : M' 64 = M 64) {s : Int} {c : Nat} (hs : 0 ≤ s ∧ s < Mo 98 1) (hc : c < 14) : hf_44_60 M' s (c : Int) = jF Mo C s c ∧ hf_45_60 M' s (c : Int) = jT Mo C s c ∧ hf_46_60 M' s (c : Int) = jX Mo C s c := by
  have hn := hj.1.1.cnt1
  have t63 : M' 63 0 = 280 ∧ M' 63 1 = 4 := by rw [e63, h.eq 63 (by omega)]; exact hj.1.2.2.2.2.1
  have q := h.2.2.1 (s * 14 + (c : Int)).toNat (by omega)
  rw [show (((s * 14 + (c : Int)).toNat : Nat) : Int) = s * 14 + (c : Int) by omega] at q
  have ix : w32 (w32 (s * 14) + (c : Int)) = s * 14 + (c : Int) := by rw [w32_id (x := s * 14) (by omega), w32_id (by omega)]
  unfold hf_44_60 hf_45_60 hf_46_60
  rw [ix, hG_63 t63 (by omega) (by decide), hG_63 t63 (by omega) (by decide), hG_63 t63 (by omega) (by decide), e64]
  exact ⟨(congrArg (M 64) (by simp only [Int.reduceToNat]; omega)).trans q.1, (congrArg (M 64) (by simp only [Int.reduceToNat])).trans q.2.1, (congrArg (M 64) (by simp only [Int.reduceToNat])).trans q.2.2⟩
theorem jtell {d : Int} {v : Int} (hd : 0 ≤ d ∧ d < 15) : hf_57_72 M d v = zput M 74 d.toNat v := by
  unfold hf_57_72
  rw [if_neg (by omega), if_neg (by omega)]
end JP
set_option maxRecDepth 100000 in
theorem fh_298_74 {n : Nat} {M : zM} (a1 : Int) : zH n (0, 0) 298 (0, zini [zR 74, .inr (.inl a1)] 5, []) M (fun r M' => r = none ∧ (∀ r, r ≠ 74 → M' r = M r) ∧ ∀ j : Nat, j < 15 → M' 74 j = a1) := by
  have hz := zp_298
  show zH n (0, 0) 298 (0, [zR 74, .inr (.inl a1), zN, zN, zN], []) M _
  refine zH_w (c' := (6, [zR 74, .inr (.inl a1), zN, .inl 0, .inl 15], [])) 5 hz rfl ?_
  have lp6 : ∀ (N : Nat) (i : Int) (M5 : zM), ((15 - i).toNat) < N → (0 ≤ i ∧ i ≤ 15) → (∀ r, r ≠ 74 → M5 r = M r) → (∀ j : Nat, (j : Int) < i → M5 74 j = a1) → zH n (0, 0) 298 (6, [zR 74, .inr (.inl a1), zN, .inl i, .inl 15], []) M5 (fun r M' => r = none ∧ (∀ r, r ≠ 74 → M' r = M r) ∧ ∀ j : Nat, j < 15 → M' 74 j = a1) := by
    intro N
    induction N with
    | zero => intro i M5 hN; exact absurd hN (Nat.not_lt_zero _)
    | succ N ih6 =>
      intro i M5 hN hi hO hz7
      refine zH_w (c' := (9, [zR 74, .inr (.inl a1), zN, .inl i, .inl 15], [.inl 15, .inl i])) 2 hz rfl ?_
      refine zH_wi_ge (pc := 9) (n' := 12) (t := 22) (L := [zR 74, .inr (.inl a1), zN, .inl i, .inl 15]) (st := []) (x := i) (y := 15) 0 hz (by rfl) (fun hb9 => ?_) (fun hb9 => ?_)
      · skip
        exact zH_wr (r := none) 0 hz (by rfl) (⟨rfl, hO, fun j hj => hz7 j (by omega)⟩)
      · skip
        refine zH_w (c' := (15, [zR 74, .inr (.inl a1), zN, .inl i, .inl 15], [.inr (.inl a1), .inl i, zR 74])) 3 hz rfl ?_
        refine zH_last hz rfl rfl (fun hin15 => ?_)
        show zH n (0, 0) 298 (16, [zR 74, .inr (.inl a1), zN, .inl i, .inl 15], []) (zput M5 74 (i : Int).toNat a1) _
        refine zH_w (c' := (6, [zR 74, .inr (.inl a1), zN, .inl (i + 1), .inl 15], [])) 2 hz (by rw [show (.inl (i + 1) : zV) = .inl (w32 (i + 1)) from by rw [w32_id (by omega)]]; rfl) ?_
        refine ih6 (i + 1) (zput M5 74 (i : Int).toNat a1) (by omega) ?_ ?_ ?_
        · omega
        · exact fun r hr => (zput_oth hr).trans (hO r hr)
        · intro j hj
          by_cases e : j = i.toNat
          · rw [e]; exact qput_eq
          · rw [qput_nk e]; exact hz7 j (by omega)
  refine lp6 (16) 0 M (by omega) ?_ ?_ ?_
  · omega
  · exact fun _ _ => rfl
  · exact fun j hj => absurd hj (by omega)
set_option maxRecDepth 100000 in
theorem fh_56_72 {n : Nat} {M : zM}  : zH n (0, 0) 56 (0, zini [zR 72] 1, []) M (fun r M' => r = none ∧ (∀ r, r ≠ 72 → r ≠ 74 → M' r = M r) ∧ (∀ j, j ≠ 3 → M' 72 j = M 72 j) ∧ M' 72 3 = 0 ∧ ∀ j : Nat, j < 15 → M' 74 j = 0) := by
  have hz := zp_56
  show zH n (0, 0) 56 (0, [zR 72], []) M _
  refine zH_wC (c1 := (8, [zR 72], [])) 3 hz zp_298 (fh_298_74 0) (by rfl) ?_
  rintro _ M1 ⟨rfl, f1, z1⟩
  show zH n (0, 0) 56 (8, [zR 72], []) M1 _
  refine zH_w (c' := (13, [zR 72], [])) 3 hz rfl ?_
  exact zH_wr (r := none) 0 hz (by rfl) (⟨rfl, fun r q1 q2 => (zput_oth q1).trans (f1 r q2), fun j hj => (qput_nk hj).trans (congrFun (f1 72 (by decide)) j), qput_eq, fun j hj => by rw [zput_oth (by decide)]; exact z1 j hj⟩)
theorem j5 {M1 M' : zM} {a b c d e : Int} (z : ∀ j : Nat, j < 15 → M1 74 j = 0) (h : M' = zput (zput (zput (zput (zput M1 74 7 a) 74 8 b) 74 9 c) 74 10 d) 74 11 e) : (M' 74 7 = a ∧ M' 74 8 = b ∧ M' 74 9 = c ∧ M' 74 10 = d ∧ M' 74 11 = e ∧ M' 74 12 = 0 ∧ M' 74 13 = 0 ∧ M' 74 14 = 0) ∧ ∀ r, r ≠ 74 → M' r = M1 r := by
  rw [h]
  refine ⟨⟨?_, ?_, ?_, ?_, qput_eq, ?_, ?_, ?_⟩, fun r hr => by rw [zput_oth hr, zput_oth hr, zput_oth hr, zput_oth hr, zput_oth hr]⟩
  · rw [qput_nk (by decide), qput_nk (by decide), qput_nk (by decide), qput_nk (by decide), qput_eq]
  · rw [qput_nk (by decide), qput_nk (by decide), qput_nk (by decide), qput_eq]
  · rw [qput_nk (by decide), qput_nk (by decide), qput_eq]
  · rw [qput_nk (by decide), qput_eq]
  · rw [qput_nk (by decide), qput_nk (by decide), qput_nk (by decide), qput_nk (by decide), qput_nk (by decide)]; exact z 12 (by decide)
  · rw [qput_nk (by decide), qput_nk (by decide), qput_nk (by decide), qput_nk (by decide), qput_nk (by decide)]; exact z 13 (by decide)
  · rw [qput_nk (by decide), qput_nk (by decide), qput_nk (by decide), qput_nk (by decide), qput_nk (by decide)]; exact z 14 (by decide)
theorem w64_0 : w64 0 = 0 := by decide
theorem jEc_al {Mo M' : zM} {C : Nat → Bool} {s p : Int} {c : Nat} {d : Int} (hv : M' 74 7 = jF Mo C s c ∧ M' 74 8 = jT Mo C s c ∧ M' 74 9 = jX Mo C s c ∧ M' 74 10 = d ∧ M' 74 11 = (c : Int) ∧ M' 74 12 = 0 ∧ M' 74 13 = 0 ∧ M' 74 14 = 0) (hd : d = if zband (Mo 98 (21 + 4 * c)) p = Mo 98 (21 + 4 * c) then 1 else 0) (h3 : M' 72 3 = 0) : eAl (eCl M' 0) (jEc Mo C s c p) := by
  obtain ⟨v7, v8, v9, v10, v11, v12, v13, v14⟩ := hv
  refine ⟨fun k h1 h2 => ?_, h3, fun j hj => absurd hj (by rw [show (eCl M' 0).2.1 = 0 from h3]; omega), rfl⟩
  unfold eCl jEc
  dsimp only
  rcases (by omega : k = 7 ∨ k = 8 ∨ k = 9 ∨ k = 10 ∨ k = 11 ∨ k = 12 ∨ k = 13 ∨ k = 14) with e | e | e | e | e | e | e | e
  · rw [if_neg (by omega), if_pos e, e]; exact v7
  · rw [if_neg (by omega), if_neg (by omega), if_pos e, e]; exact v8
  · rw [if_neg (by omega), if_neg (by omega), if_neg (by omega), if_pos e, e]; exact v9
  · rw [if_neg (by omega), if_neg (by omega), if_neg (by omega), if_neg (by omega), if_pos e, e, ← hd]; exact v10
  · rw [if_neg (by omega), if_neg (by omega), if_neg (by omega), if_neg (by omega), if_neg (by omega), if_pos e, e]; exact v11
  · rw [if_neg (by omega), if_neg (by omega), if_neg (by omega), if_neg (by omega), if_neg (by omega), if_neg (by omega), e]; exact v12
  · rw [if_pos e, if_neg (by omega), if_neg (by omega), if_neg (by omega), if_neg (by omega), if_neg (by omega), v13]; exact w64_0
  · rw [if_neg (by omega), if_neg (by omega), if_neg (by omega), if_neg (by omega), if_neg (by omega), if_neg (by omega), e]; exact v14
set_option maxRecDepth 100000 in
theorem fh_38_76 {n : Nat} {M : zM} {Mo : zM} {C : Nat → Bool} (hj : jH Mo) (h : jK Mo C M) (a1 a2 a3 : Int) {c : Nat} (h2 : a2 = (c : Int)) (hc : c < 14) (hs : 0 ≤ a1 ∧ a1 < Mo 98 1) : zH n (0, 0) 38 (0, zini [zR 76, .inl a1, .inl a2, .inl a3] 5, []) M (fun r M' => r = none ∧ jK Mo C M' ∧ eAl (eCl M' 0) (jEc Mo C a1 c a3)) := by
  have hz := zp_38
  show zH n (0, 0) 38 (0, [zR 76, .inl a1, .inl a2, .inl a3, zN], []) M _
  have eL : hR_get M 10 a2 1 = Mo 98 (21 + 4 * c) := by
    rw [show hR_get M 10 a2 1 = hR_get Mo 10 a2 1 from by unfold hR_get; rw [h.eq 10 (by omega), show M (10 + 1) = Mo (10 + 1) from h.eq 11 (by omega)], hG_10 hj.1.2.2.1 (by omega) (by decide), hj.1.2.1.1.2 _ (by omega)]
    exact congrArg (Mo 98) (by simp only [Int.reduceToNat]; omega)
  refine zH_wE (c1 := (12, [zR 76, .inl a1, .inl a2, .inl a3, zN], [])) 5 hz zp_106 (fh_106_10 a2 1) (by rfl) ?_
  show zH n (0, 0) 38 (12, [zR 76, .inl a1, .inl a2, .inl a3, zN], [.inl (hR_get M 10 a2 1)]) M _
  rw [eL]
  refine zH_w (c' := (18, [zR 76, .inl a1, .inl a2, .inl a3, .inl (Mo 98 (21 + 4 * c))], [zR 72])) 3 hz rfl ?_
  refine zH_wC (c1 := (21, [zR 76, .inl a1, .inl a2, .inl a3, .inl (Mo 98 (21 + 4 * c))], [])) 0 hz zp_56 (fh_56_72) (by rfl) ?_
  rintro _ M1 ⟨rfl, f1, g1, z3, z74⟩
  show zH n (0, 0) 38 (21, [zR 76, .inl a1, .inl a2, .inl a3, .inl (Mo 98 (21 + 4 * c))], []) M1 _
  refine zH_wE (c1 := (36, [zR 76, .inl a1, .inl a2, .inl a3, .inl (Mo 98 (21 + 4 * c))], [.inl 7, zR 72])) 7 hz zp_44 (fh_44_60 a1 a2) (by rfl) ?_
  show zH n (0, 0) 38 (36, [zR 76, .inl a1, .inl a2, .inl a3, .inl (Mo 98 (21 + 4 * c))], [.inl (hf_44_60 M1 a1 a2), .inl 7, zR 72]) M1 _
  rw [show hf_44_60 M1 a1 a2 = jF Mo C a1 c from by rw [h2]; exact (jK.fin hj h (M' := M1) (by exact f1 63 (by decide) (by decide)) (by exact f1 64 (by decide) (by decide)) hs hc).1]
  refine zH_w (c' := (37, [zR 76, .inl a1, .inl a2, .inl a3, .inl (Mo 98 (21 + 4 * c))], [.inr (.inl (jF Mo C a1 c)), .inl 7, zR 72])) 1 hz rfl ?_
  refine zH_wE (c1 := (40, [zR 76, .inl a1, .inl a2, .inl a3, .inl (Mo 98 (21 + 4 * c))], [])) 0 hz zp_57 (fh_57_72 7 (jF Mo C a1 c)) (by rfl) ?_
  show zH n (0, 0) 38 (40, [zR 76, .inl a1, .inl a2, .inl a3, .inl (Mo 98 (21 + 4 * c))], []) (hf_57_72 M1 7 (jF Mo C a1 c)) _
  obtain ⟨M2, hM2⟩ : ∃ X : zM, X = hf_57_72 M1 7 (jF Mo C a1 c) := ⟨_, rfl⟩
  rw [← hM2]
  rw [jtell (by decide), show (7 : Int).toNat = 7 from rfl] at hM2
  refine zH_w (c' := (52, [zR 76, .inl a1, .inl a2, .inl a3, .inl (Mo 98 (21 + 4 * c))], [.inl a2, .inl a1, zR 60, .inl 8, zR 72])) 7 hz rfl ?_
  refine zH_wE (c1 := (55, [zR 76, .inl a1, .inl a2, .inl a3, .inl (Mo 98 (21 + 4 * c))], [.inl 8, zR 72])) 0 hz zp_45 (fh_45_60 a1 a2) (by rfl) ?_
  show zH n (0, 0) 38 (55, [zR 76, .inl a1, .inl a2, .inl a3, .inl (Mo 98 (21 + 4 * c))], [.inl (hf_45_60 M2 a1 a2), .inl 8, zR 72]) M2 _
  rw [show hf_45_60 M2 a1 a2 = jT Mo C a1 c from by rw [h2]; exact (jK.fin hj h (M' := M2) (by rw [hM2, zput_oth (by decide)]; exact f1 63 (by decide) (by decide)) (by rw [hM2, zput_oth (by decide)]; exact f1 64 (by decide) (by decide)) hs hc).2.1]
  refine zH_w (c' := (56, [zR 76, .inl a1, .inl a2, .inl a3, .inl (Mo 98 (21 + 4 * c))], [.inr (.inl (jT Mo C a1 c)), .inl 8, zR 72])) 1 hz rfl ?_
  refine zH_wE (c1 := (59, [zR 76, .inl a1, .inl a2, .inl a3, .inl (Mo 98 (21 + 4 * c))], [])) 0 hz zp_57 (fh_57_72 8 (jT Mo C a1 c)) (by rfl) ?_
  show zH n (0, 0) 38 (59, [zR 76, .inl a1, .inl a2, .inl a3, .inl (Mo 98 (21 + 4 * c))], []) (hf_57_72 M2 8 (jT Mo C a1 c)) _
  obtain ⟨M3, hM3⟩ : ∃ X : zM, X = hf_57_72 M2 8 (jT Mo C a1 c) := ⟨_, rfl⟩
  rw [← hM3]
  rw [jtell (by decide), show (8 : Int).toNat = 8 from rfl] at hM3
  refine zH_w (c' := (71, [zR 76, .inl a1, .inl a2, .inl a3, .inl (Mo 98 (21 + 4 * c))], [.inl a2, .inl a1, zR 60, .inl 9, zR 72])) 7 hz rfl ?_
  refine zH_wE (c1 := (74, [zR 76, .inl a1, .inl a2, .inl a3, .inl (Mo 98 (21 + 4 * c))], [.inl 9, zR 72])) 0 hz zp_46 (fh_46_60 a1 a2) (by rfl) ?_
  show zH n (0, 0) 38 (74, [zR 76, .inl a1, .inl a2, .inl a3, .inl (Mo 98 (21 + 4 * c))], [.inl (hf_46_60 M3 a1 a2), .inl 9, zR 72]) M3 _
  rw [show hf_46_60 M3 a1 a2 = jX Mo C a1 c from by rw [h2]; exact (jK.fin hj h (M' := M3) (by rw [hM3, zput_oth (by decide), hM2, zput_oth (by decide)]; exact f1 63 (by decide) (by decide)) (by rw [hM3, zput_oth (by decide), hM2, zput_oth (by decide)]; exact f1 64 (by decide) (by decide)) hs hc).2.2]
  refine zH_w (c' := (75, [zR 76, .inl a1, .inl a2, .inl a3, .inl (Mo 98 (21 + 4 * c))], [.inr (.inl (jX Mo C a1 c)), .inl 9, zR 72])) 1 hz rfl ?_
  refine zH_wE (c1 := (78, [zR 76, .inl a1, .inl a2, .inl a3, .inl (Mo 98 (21 + 4 * c))], [])) 0 hz zp_57 (fh_57_72 9 (jX Mo C a1 c)) (by rfl) ?_
  show zH n (0, 0) 38 (78, [zR 76, .inl a1, .inl a2, .inl a3, .inl (Mo 98 (21 + 4 * c))], []) (hf_57_72 M3 9 (jX Mo C a1 c)) _
  obtain ⟨M4, hM4⟩ : ∃ X : zM, X = hf_57_72 M3 9 (jX Mo C a1 c) := ⟨_, rfl⟩
  rw [← hM4]
  rw [jtell (by decide), show (9 : Int).toNat = 9 from rfl] at hM4
  refine zH_w (c' := (90, [zR 76, .inl a1, .inl a2, .inl a3, .inl (Mo 98 (21 + 4 * c))], [.inl (Mo 98 (21 + 4 * c)), .inl (zband (Mo 98 (21 + 4 * c)) a3), .inl 10, zR 72])) 7 hz rfl ?_
  refine zH_wi_ne (pc := 90) (n' := 93) (t := 97) (L := [zR 76, .inl a1, .inl a2, .inl a3, .inl (Mo 98 (21 + 4 * c))]) (st := [.inl 10, zR 72]) (x := (zband (Mo 98 (21 + 4 * c)) a3)) (y := (Mo 98 (21 + 4 * c))) 0 hz (by rfl) (fun hb90 => ?_) (fun hb90 => ?_)
  · skip
    refine zH_wE (c1 := (101, [zR 76, .inl a1, .inl a2, .inl a3, .inl (Mo 98 (21 + 4 * c))], [])) 1 hz zp_57 (fh_57_72 10 0) (by rfl) ?_
    show zH n (0, 0) 38 (101, [zR 76, .inl a1, .inl a2, .inl a3, .inl (Mo 98 (21 + 4 * c))], []) (hf_57_72 M4 10 0) _
    obtain ⟨M5, hM5⟩ : ∃ X : zM, X = hf_57_72 M4 10 0 := ⟨_, rfl⟩
    rw [← hM5]
    rw [jtell (by decide), show (10 : Int).toNat = 10 from rfl] at hM5
    refine zH_w (c' := (109, [zR 76, .inl a1, .inl a2, .inl a3, .inl (Mo 98 (21 + 4 * c))], [.inr (.inl a2), .inl 11, zR 72])) 5 hz rfl ?_
    refine zH_wE (c1 := (112, [zR 76, .inl a1, .inl a2, .inl a3, .inl (Mo 98 (21 + 4 * c))], [])) 0 hz zp_57 (fh_57_72 11 a2) (by rfl) ?_
    show zH n (0, 0) 38 (112, [zR 76, .inl a1, .inl a2, .inl a3, .inl (Mo 98 (21 + 4 * c))], []) (hf_57_72 M5 11 a2) _
    obtain ⟨M6, hM6⟩ : ∃ X : zM, X = hf_57_72 M5 11 a2 := ⟨_, rfl⟩
    rw [← hM6]
    rw [jtell (by decide), show (11 : Int).toNat = 11 from rfl] at hM6
    refine zH_ret hz rfl rfl ?_
    first
      | (have q5 := j5 z74 (show M6 = zput (zput (zput (zput (zput M1 74 7 (jF Mo C a1 c)) 74 8 (jT Mo C a1 c)) 74 9 (jX Mo C a1 c)) 74 10 1) 74 11 (c : Int) by rw [hM6, hM5, hM4, hM3, hM2, h2])
         have hdd : (1 : Int) = if zband (Mo 98 (21 + 4 * c)) a3 = Mo 98 (21 + 4 * c) then 1 else 0 := by rw [if_pos (Decidable.byContradiction hb90)]
         exact ⟨rfl, h.mv (fun r q1 q2 q3 q4 q6 => (q5.2 r q3).trans (f1 r q1 q3)) (by rw [q5.2 72 (by decide), z3]; decide), jEc_al q5.1 hdd (by rw [q5.2 72 (by decide)]; exact z3)⟩)
      | (have q5 := j5 z74 (show M6 = zput (zput (zput (zput (zput M1 74 7 (jF Mo C a1 c)) 74 8 (jT Mo C a1 c)) 74 9 (jX Mo C a1 c)) 74 10 0) 74 11 (c : Int) by rw [hM6, hM5, hM4, hM3, hM2, h2])
         have hdd : (0 : Int) = if zband (Mo 98 (21 + 4 * c)) a3 = Mo 98 (21 + 4 * c) then 1 else 0 := by rw [if_neg hb90]
         exact ⟨rfl, h.mv (fun r q1 q2 q3 q4 q6 => (q5.2 r q3).trans (f1 r q1 q3)) (by rw [q5.2 72 (by decide), z3]; decide), jEc_al q5.1 hdd (by rw [q5.2 72 (by decide)]; exact z3)⟩)
  · skip
    refine zH_wE (c1 := (101, [zR 76, .inl a1, .inl a2, .inl a3, .inl (Mo 98 (21 + 4 * c))], [])) 2 hz zp_57 (fh_57_72 10 1) (by rfl) ?_
    show zH n (0, 0) 38 (101, [zR 76, .inl a1, .inl a2, .inl a3, .inl (Mo 98 (21 + 4 * c))], []) (hf_57_72 M4 10 1) _
    obtain ⟨M5, hM5⟩ : ∃ X : zM, X = hf_57_72 M4 10 1 := ⟨_, rfl⟩
    rw [← hM5]
    rw [jtell (by decide), show (10 : Int).toNat = 10 from rfl] at hM5
    refine zH_w (c' := (109, [zR 76, .inl a1, .inl a2, .inl a3, .inl (Mo 98 (21 + 4 * c))], [.inr (.inl a2), .inl 11, zR 72])) 5 hz rfl ?_
    refine zH_wE (c1 := (112, [zR 76, .inl a1, .inl a2, .inl a3, .inl (Mo 98 (21 + 4 * c))], [])) 0 hz zp_57 (fh_57_72 11 a2) (by rfl) ?_
    show zH n (0, 0) 38 (112, [zR 76, .inl a1, .inl a2, .inl a3, .inl (Mo 98 (21 + 4 * c))], []) (hf_57_72 M5 11 a2) _
    obtain ⟨M6, hM6⟩ : ∃ X : zM, X = hf_57_72 M5 11 a2 := ⟨_, rfl⟩
    rw [← hM6]
    rw [jtell (by decide), show (11 : Int).toNat = 11 from rfl] at hM6
    refine zH_ret hz rfl rfl ?_
    first
      | (have q5 := j5 z74 (show M6 = zput (zput (zput (zput (zput M1 74 7 (jF Mo C a1 c)) 74 8 (jT Mo C a1 c)) 74 9 (jX Mo C a1 c)) 74 10 1) 74 11 (c : Int) by rw [hM6, hM5, hM4, hM3, hM2, h2])
         have hdd : (1 : Int) = if zband (Mo 98 (21 + 4 * c)) a3 = Mo 98 (21 + 4 * c) then 1 else 0 := by rw [if_pos (Decidable.byContradiction hb90)]
         exact ⟨rfl, h.mv (fun r q1 q2 q3 q4 q6 => (q5.2 r q3).trans (f1 r q1 q3)) (by rw [q5.2 72 (by decide), z3]; decide), jEc_al q5.1 hdd (by rw [q5.2 72 (by decide)]; exact z3)⟩)
      | (have q5 := j5 z74 (show M6 = zput (zput (zput (zput (zput M1 74 7 (jF Mo C a1 c)) 74 8 (jT Mo C a1 c)) 74 9 (jX Mo C a1 c)) 74 10 0) 74 11 (c : Int) by rw [hM6, hM5, hM4, hM3, hM2, h2])
         have hdd : (0 : Int) = if zband (Mo 98 (21 + 4 * c)) a3 = Mo 98 (21 + 4 * c) then 1 else 0 := by rw [if_neg hb90]
         exact ⟨rfl, h.mv (fun r q1 q2 q3 q4 q6 => (q5.2 r q3).trans (f1 r q1 q3)) (by rw [q5.2 72 (by decide), z3]; decide), jEc_al q5.1 hdd (by rw [q5.2 72 (by decide)]; exact z3)⟩)
set_option maxRecDepth 100000 in
theorem fh_59_72 {n : Nat} {M : zM} {r : Nat} (hr : r ≤ 13) (h3 : M 72 3 = (r : Int)) (a1 : Int) : zH n (0, 0) 59 (0, zini [zR 72, .inl a1] 3, []) M (fun v M' => v = none ∧ (∀ i, i ≠ 72 → i ≠ 75 → M' i = M i) ∧ (∀ j, j ≠ 3 → M' 72 j = M 72 j) ∧ M' 72 3 = (r : Int) + 1 ∧ ∀ j, j ≤ 13 → M' 75 j = insA (M 75) a1 r j) := by
  have hz := zp_59
  show zH n (0, 0) 59 (0, [zR 72, .inl a1, zN], []) M _
  refine zH_w (c' := (4, [zR 72, .inl a1, zN], [.inl (M 72 3)])) 2 hz rfl ?_
  rw [h3]
  refine zH_w (c' := (14, [zR 72, .inl a1, zN], [.inl (if (w32 (14 - 1)) < ((r : Nat) : Int) then (w32 (14 - 1)) else ((r : Nat) : Int))])) 6 hz rfl ?_
  rw [show (if (w32 (14 - 1)) < ((r : Nat) : Int) then (w32 (14 - 1)) else ((r : Nat) : Int)) = ((r : Nat) : Int) from by rw [w32_id (by omega)]; exact if_neg (by omega)]
  refine zH_w (c' := (15, [zR 72, .inl a1, .inl ((r : Nat) : Int)], [])) 1 hz rfl ?_
  have lp15 : ∀ (N : Nat) (i : Int) (M5 : zM), ((i + 1).toNat) < N → (0 ≤ i ∧ i ≤ (r : Int)) → (∀ q, q ≠ 75 → M5 q = M q) → (insA (M5 75) a1 i.toNat = insA (M 75) a1 r) → zH n (0, 0) 59 (15, [zR 72, .inl a1, .inl i], []) M5 (fun v M' => v = none ∧ (∀ i, i ≠ 72 → i ≠ 75 → M' i = M i) ∧ (∀ j, j ≠ 3 → M' 72 j = M 72 j) ∧ M' 72 3 = (r : Int) + 1 ∧ ∀ j, j ≤ 13 → M' 75 j = insA (M 75) a1 r j) := by
    intro N
    induction N with
    | zero => intro i M5 hN; exact absurd hN (Nat.not_lt_zero _)
    | succ N ih15 =>
      intro i M5 hN hi hO hI
      refine zH_w (c' := (16, [zR 72, .inl a1, .inl i], [.inl i])) 1 hz rfl ?_
      refine zH_wf_le (pc := 16) (n' := 19) (t := 51) (L := [zR 72, .inl a1, .inl i]) (st := []) (x := i) 0 hz (by rfl) (fun hb16 => ?_) (fun hb16 => ?_)
      · skip
        refine zH_w (c' := (57, [zR 72, .inl a1, .inl i], [.inl a1, .inl i, zR 75])) 4 hz rfl ?_
        refine zH_iast hz rfl rfl (fun hin57 => ?_)
        show zH n (0, 0) 59 (58, [zR 72, .inl a1, .inl i], []) (zput M5 75 (i : Int).toNat a1) _
        refine zH_w (c' := (63, [zR 72, .inl a1, .inl i], [.inl ((zput M5 75 (i : Int).toNat a1) 72 3), zR 72])) 3 hz rfl ?_
        rw [show (zput M5 75 (i : Int).toNat a1) 72 3 = ((r : Nat) : Int) from by rw [zput_oth (show (72 : Nat) ≠ 75 by decide), hO 72 (by decide)]; exact h3]
        refine zH_w (c' := (73, [zR 72, .inl a1, .inl i], [.inl (if 14 < (w32 (((r : Nat) : Int) + 1)) then 14 else (w32 (((r : Nat) : Int) + 1))), zR 72])) 6 hz rfl ?_
        rw [show (if 14 < (w32 (((r : Nat) : Int) + 1)) then 14 else (w32 (((r : Nat) : Int) + 1))) = (r : Int) + 1 from by rw [w32_id (by omega)]; exact if_neg (by omega)]
        refine zH_w (c' := (76, [zR 72, .inl a1, .inl i], [])) 1 hz rfl ?_
        show zH n (0, 0) 59 (76, [zR 72, .inl a1, .inl i], []) (zput (zput M5 75 (i : Int).toNat a1) 72 3 ((r : Int) + 1)) _
        refine zH_ret hz rfl rfl ?_
        refine ⟨rfl, fun q q1 q2 => by rw [zput_oth q1, zput_oth q2]; exact hO q q2, fun j hj => by rw [qput_nk hj, zput_oth (by decide), hO 72 (by decide)], qput_eq, fun j hj => ?_⟩
        rw [zput_oth (by decide), zput_same, ← hI]
        first
          | (rw [show i.toNat = 0 by omega]; rfl)
          | (rw [show i.toNat = (i - 1).toNat + 1 by omega]
             show _ = (if M5 75 (i - 1).toNat < a1 then insA (hup (M5 75) ((i - 1).toNat + 1) (M5 75 (i - 1).toNat)) a1 (i - 1).toNat else hup (M5 75) ((i - 1).toNat + 1) a1) j
             rw [if_neg (by omega)])
      · skip
        refine zH_w (c' := (26, [zR 72, .inl a1, .inl i], [.inl (w32 (i - 1)), zR 75])) 5 hz rfl ?_
        rw [show w32 (i - 1) = i - 1 from w32_id (by omega)]
        refine zH_iald hz rfl rfl (.inl rfl) (fun hin26 => ?_)
        show zH n (0, 0) 59 (27, [zR 72, .inl a1, .inl i], [.inl (M5 75 ((i - 1) : Int).toNat)]) M5 _
        refine zH_wi_ge (pc := 28) (n' := 31) (t := 51) (L := [zR 72, .inl a1, .inl i]) (st := []) (x := (M5 75 ((i - 1) : Int).toNat)) (y := a1) 1 hz (by rfl) (fun hb28 => ?_) (fun hb28 => ?_)
        · skip
          refine zH_w (c' := (57, [zR 72, .inl a1, .inl i], [.inl a1, .inl i, zR 75])) 4 hz rfl ?_
          refine zH_iast hz rfl rfl (fun hin57 => ?_)
          show zH n (0, 0) 59 (58, [zR 72, .inl a1, .inl i], []) (zput M5 75 (i : Int).toNat a1) _
          refine zH_w (c' := (63, [zR 72, .inl a1, .inl i], [.inl ((zput M5 75 (i : Int).toNat a1) 72 3), zR 72])) 3 hz rfl ?_
          rw [show (zput M5 75 (i : Int).toNat a1) 72 3 = ((r : Nat) : Int) from by rw [zput_oth (show (72 : Nat) ≠ 75 by decide), hO 72 (by decide)]; exact h3]
          refine zH_w (c' := (73, [zR 72, .inl a1, .inl i], [.inl (if 14 < (w32 (((r : Nat) : Int) + 1)) then 14 else (w32 (((r : Nat) : Int) + 1))), zR 72])) 6 hz rfl ?_
          rw [show (if 14 < (w32 (((r : Nat) : Int) + 1)) then 14 else (w32 (((r : Nat) : Int) + 1))) = (r : Int) + 1 from by rw [w32_id (by omega)]; exact if_neg (by omega)]
          refine zH_w (c' := (76, [zR 72, .inl a1, .inl i], [])) 1 hz rfl ?_
          show zH n (0, 0) 59 (76, [zR 72, .inl a1, .inl i], []) (zput (zput M5 75 (i : Int).toNat a1) 72 3 ((r : Int) + 1)) _
          refine zH_ret hz rfl rfl ?_
          refine ⟨rfl, fun q q1 q2 => by rw [zput_oth q1, zput_oth q2]; exact hO q q2, fun j hj => by rw [qput_nk hj, zput_oth (by decide), hO 72 (by decide)], qput_eq, fun j hj => ?_⟩
          rw [zput_oth (by decide), zput_same, ← hI]
          first
            | (rw [show i.toNat = 0 by omega]; rfl)
            | (rw [show i.toNat = (i - 1).toNat + 1 by omega]
               show _ = (if M5 75 (i - 1).toNat < a1 then insA (hup (M5 75) ((i - 1).toNat + 1) (M5 75 (i - 1).toNat)) a1 (i - 1).toNat else hup (M5 75) ((i - 1).toNat + 1) a1) j
               rw [if_neg (by omega)])
        · skip
          refine zH_w (c' := (43, [zR 72, .inl a1, .inl i], [.inl (w32 (i - 1)), zR 75, .inl i, zR 75])) 8 hz rfl ?_
          rw [show w32 (i - 1) = i - 1 from w32_id (by omega)]
          refine zH_iald hz rfl rfl (.inl rfl) (fun hin43 => ?_)
          show zH n (0, 0) 59 (44, [zR 72, .inl a1, .inl i], [.inl (M5 75 ((i - 1) : Int).toNat), .inl i, zR 75]) M5 _
          refine zH_iast hz rfl rfl (fun hin44 => ?_)
          show zH n (0, 0) 59 (45, [zR 72, .inl a1, .inl i], []) (zput M5 75 (i : Int).toNat (M5 75 ((i - 1) : Int).toNat)) _
          refine zH_w (c' := (15, [zR 72, .inl a1, .inl (i - 1)], [])) 2 hz (by rw [show (.inl (i - 1) : zV) = .inl (w32 (i + (-1))) from by rw [w32_id (by omega)]; rfl]; rfl) ?_
          refine ih15 (i - 1) (zput M5 75 (i : Int).toNat (M5 75 ((i - 1) : Int).toNat)) (by omega) ?_ ?_ ?_
          · omega
          · exact fun q hq => (zput_oth hq).trans (hO q hq)
          · rw [← hI, show i.toNat = (i - 1).toNat + 1 by omega, zput_same]
            show insA (hup (M5 75) ((i - 1).toNat + 1) (M5 75 (i - 1).toNat)) a1 (i - 1).toNat = if M5 75 (i - 1).toNat < a1 then insA (hup (M5 75) ((i - 1).toNat + 1) (M5 75 (i - 1).toNat)) a1 (i - 1).toNat else hup (M5 75) ((i - 1).toNat + 1) a1
            rw [if_pos (by omega)]
  refine lp15 (r + 2) ((r : Nat) : Int) M (by omega) ?_ ?_ ?_
  · omega
  · exact fun _ _ => rfl
  · rw [Int.toNat_natCast]
theorem j4 {M1 M' : zM} {a b c d : Int} (z : ∀ j : Nat, j < 15 → M1 74 j = 0) (h : M' = zput (zput (zput (zput M1 74 7 a) 74 12 b) 74 13 c) 74 14 d) : (M' 74 7 = a ∧ M' 74 8 = 0 ∧ M' 74 9 = 0 ∧ M' 74 10 = 0 ∧ M' 74 11 = 0 ∧ M' 74 12 = b ∧ M' 74 13 = c ∧ M' 74 14 = d) ∧ ∀ r, r ≠ 74 → M' r = M1 r := by
  rw [h]
  refine ⟨⟨?_, ?_, ?_, ?_, ?_, ?_, ?_, qput_eq⟩, fun r hr => by rw [zput_oth hr, zput_oth hr, zput_oth hr, zput_oth hr]⟩
  · rw [qput_nk (by decide), qput_nk (by decide), qput_nk (by decide), qput_eq]
  · rw [qput_nk (by decide), qput_nk (by decide), qput_nk (by decide), qput_nk (by decide)]; exact z 8 (by decide)
  · rw [qput_nk (by decide), qput_nk (by decide), qput_nk (by decide), qput_nk (by decide)]; exact z 9 (by decide)
  · rw [qput_nk (by decide), qput_nk (by decide), qput_nk (by decide), qput_nk (by decide)]; exact z 10 (by decide)
  · rw [qput_nk (by decide), qput_nk (by decide), qput_nk (by decide), qput_nk (by decide)]; exact z 11 (by decide)
  · rw [qput_nk (by decide), qput_nk (by decide), qput_eq]
  · rw [qput_nk (by decide), qput_eq]
theorem jEa_al {M' : zM} {S : jSt} {c d : Int} (hv : M' 74 7 = -1 ∧ M' 74 8 = 0 ∧ M' 74 9 = 0 ∧ M' 74 10 = 0 ∧ M' 74 11 = 0 ∧ M' 74 12 = S.1 ∧ M' 74 13 = c ∧ M' 74 14 = d) (hc : c = jMn S) (hd : d = (S.2.2.1 : Int)) (h3 : M' 72 3 = (S.2.2.1 : Int)) (hg : ∀ j : Nat, j < S.2.2.1 → M' 75 j = S.2.2.2 j) (more : Int) : eAl (eCl M' more) (jEa S more) := by
  obtain ⟨v7, v8, v9, v10, v11, v12, v13, v14⟩ := hv
  refine ⟨fun k h1 h2 => ?_, h3, fun j hj => hg j (by have hj : (j : Int) < M' 72 3 := hj; omega), rfl⟩
  unfold eCl jEa
  dsimp only
  rcases (by omega : k = 7 ∨ k = 8 ∨ k = 9 ∨ k = 10 ∨ k = 11 ∨ k = 12 ∨ k = 13 ∨ k = 14) with e | e | e | e | e | e | e | e
  · rw [if_neg (by omega), if_pos e, e]; exact v7
  · rw [if_neg (by omega), if_neg (by omega), if_neg (by omega), if_neg (by omega), if_neg (by omega), e]; exact v8
  · rw [if_neg (by omega), if_neg (by omega), if_neg (by omega), if_neg (by omega), if_neg (by omega), e]; exact v9
  · rw [if_neg (by omega), if_neg (by omega), if_neg (by omega), if_neg (by omega), if_neg (by omega), e]; exact v10
  · rw [if_neg (by omega), if_neg (by omega), if_neg (by omega), if_neg (by omega), if_neg (by omega), e]; exact v11
  · rw [if_neg (by omega), if_neg (by omega), if_pos e, e]; exact v12
  · rw [if_pos e, if_neg (by omega), if_neg (by omega), if_pos e, v13, hc]
  · rw [if_neg (by omega), if_neg (by omega), if_neg (by omega), if_neg (by omega), if_pos e, e, ← hd]; exact v14
set_option maxRecDepth 100000 in
theorem fh_39_76 {n : Nat} {M : zM} {Mo : zM} {C : Nat → Bool} (hj : jH Mo) (h : jK Mo C M) (a1 a2 : Int) (hs : 0 ≤ a1 ∧ a1 < Mo 98 1) (hp : 0 ≤ a2 ∧ a2 < ((2 ^ (Mo 98 0).toNat : Nat) : Int)) : zH n (0, 0) 39 (0, zini [zR 76, .inl a1, .inl a2] 10, []) M (fun r M' => r = none ∧ jK Mo C M' ∧ (∀ more : Int, eAl (eCl M' more) (jEa (jAl Mo C a1 a2 (Mo 98 0).toNat) more)) ∧ M' 74 13 = jMn (jAl Mo C a1 a2 (Mo 98 0).toNat)) := by
  have hz := zp_39
  show zH n (0, 0) 39 (0, [zR 76, .inl a1, .inl a2, zN, zN, zN, zN, zN, zN, zN], []) M _
  have hn0 := hj.1.1.cnt0
  have hp14 : a2 < 16384 := by have := Nat.pow_le_pow_right (n := 2) (by decide) (show (Mo 98 0).toNat ≤ 14 by omega); omega
  refine zH_wC (c1 := (12, [zR 76, .inl a1, .inl a2, .inr (.inl 0), zN, .inr (.inl 0), zN, zN, zN, zN], [])) 6 hz zp_56 (fh_56_72) (by rfl) ?_
  rintro _ M1 ⟨rfl, f1, g1, z3, z74⟩
  show zH n (0, 0) 39 (12, [zR 76, .inl a1, .inl a2, .inr (.inl 0), zN, .inr (.inl 0), zN, zN, zN, zN], []) M1 _
  refine zH_w (c' := (15, [zR 76, .inl a1, .inl a2, .inr (.inl 0), zN, .inr (.inl 0), zN, .inl 0, zN, zN], [])) 2 hz rfl ?_
  have lp15 : ∀ (N : Nat) (c : Int) (cr : Int) (we : Int) (u8 : zV) (u9 : zV) (M5 : zM), ((14 - c).toNat) < N → (0 ≤ c ∧ c ≤ Mo 98 0) → (cr = (jAl Mo C a1 a2 c.toNat).1) → (we = (jAl Mo C a1 a2 c.toNat).2.1) → (M5 72 3 = ((jAl Mo C a1 a2 c.toNat).2.2.1 : Int)) → (∀ j : Nat, j < (jAl Mo C a1 a2 c.toNat).2.2.1 → M5 75 j = (jAl Mo C a1 a2 c.toNat).2.2.2 j) → (∀ j : Nat, j < 15 → M5 74 j = 0) → (∀ r, r ≠ 72 → r ≠ 74 → r ≠ 75 → M5 r = M r) → zH n (0, 0) 39 (15, [zR 76, .inl a1, .inl a2, .inr (.inl cr), zN, .inr (.inl we), zN, .inl c, u8, u9], []) M5 (fun r M' => r = none ∧ jK Mo C M' ∧ (∀ more : Int, eAl (eCl M' more) (jEa (jAl Mo C a1 a2 (Mo 98 0).toNat) more)) ∧ M' 74 13 = jMn (jAl Mo C a1 a2 (Mo 98 0).toNat)) := by
    intro N
    induction N with
    | zero => intro c cr we u8 u9 M5 hN; exact absurd hN (Nat.not_lt_zero _)
    | succ N ih15 =>
      intro c cr we u8 u9 M5 hN hi hcr hwe hr3 hg hz7 hF
      refine zH_w (c' := (24, [zR 76, .inl a1, .inl a2, .inr (.inl cr), zN, .inr (.inl we), zN, .inl c, u8, u9], [zR 10, .inl c])) 4 hz rfl ?_
      refine zH_wE (c1 := (27, [zR 76, .inl a1, .inl a2, .inr (.inl cr), zN, .inr (.inl we), zN, .inl c, u8, u9], [.inl c])) 0 hz zp_101 (fh_101_10) (by rfl) ?_
      show zH n (0, 0) 39 (27, [zR 76, .inl a1, .inl a2, .inr (.inl cr), zN, .inr (.inl we), zN, .inl c, u8, u9], [.inl (hR_size M5 10), .inl c]) M5 _
      rw [show hR_size M5 10 = Mo 98 0 from by unfold hR_size; rw [hF 10 (by decide) (by decide) (by decide), h.eq 10 (by omega)]; exact hj.1.2.1.1.1]
      refine zH_icmp_ge hz rfl (fun hb27 => ?_) (fun hb27 => ?_)
      · skip
        refine zH_w (c' := (113, [zR 76, .inl a1, .inl a2, .inr (.inl cr), zN, .inr (.inl we), zN, .inl c, u8, u9], [.inr (.inl (-1)), .inl 7, zR 72])) 4 hz rfl ?_
        refine zH_wE (c1 := (116, [zR 76, .inl a1, .inl a2, .inr (.inl cr), zN, .inr (.inl we), zN, .inl c, u8, u9], [])) 0 hz zp_57 (fh_57_72 7 (-1)) (by rfl) ?_
        show zH n (0, 0) 39 (116, [zR 76, .inl a1, .inl a2, .inr (.inl cr), zN, .inr (.inl we), zN, .inl c, u8, u9], []) (hf_57_72 M5 7 (-1)) _
        obtain ⟨M7, hM7⟩ : ∃ X : zM, X = hf_57_72 M5 7 (-1) := ⟨_, rfl⟩
        rw [← hM7]
        rw [jtell (by decide), show (7 : Int).toNat = 7 from rfl] at hM7
        refine zH_w (c' := (123, [zR 76, .inl a1, .inl a2, .inr (.inl cr), zN, .inr (.inl we), zN, .inl c, u8, u9], [.inr (.inl cr), .inl 12, zR 72])) 4 hz rfl ?_
        refine zH_wE (c1 := (126, [zR 76, .inl a1, .inl a2, .inr (.inl cr), zN, .inr (.inl we), zN, .inl c, u8, u9], [])) 0 hz zp_57 (fh_57_72 12 cr) (by rfl) ?_
        show zH n (0, 0) 39 (126, [zR 76, .inl a1, .inl a2, .inr (.inl cr), zN, .inr (.inl we), zN, .inl c, u8, u9], []) (hf_57_72 M7 12 cr) _
        obtain ⟨M8, hM8⟩ : ∃ X : zM, X = hf_57_72 M7 12 cr := ⟨_, rfl⟩
        rw [← hM8]
        rw [jtell (by decide), show (12 : Int).toNat = 12 from rfl] at hM8
        refine zH_w (c' := (135, [zR 76, .inl a1, .inl a2, .inr (.inl cr), zN, .inr (.inl we), zN, .inl c, u8, u9], [.inl (if 0 < cr then 1 else if cr = 0 then 0 else -1), .inl 13, zR 72])) 6 hz rfl ?_
        refine zH_wf_ne (pc := 135) (n' := 138) (t := 142) (L := [zR 76, .inl a1, .inl a2, .inr (.inl cr), zN, .inr (.inl we), zN, .inl c, u8, u9]) (st := [.inl 13, zR 72]) (x := (if 0 < cr then 1 else if cr = 0 then 0 else -1)) 0 hz (by rfl) (fun hb135 => ?_) (fun hb135 => ?_)
        · skip
          refine zH_w (c' := (149, [zR 76, .inl a1, .inl a2, .inr (.inl cr), zN, .inr (.inl we), zN, .inl c, u8, u9], [.inr (.inl cr), .inr (.inl (w64 (we * 100))), .inl 13, zR 72])) 4 hz rfl ?_
          refine zH_ldiv hz rfl (fun hdv149 => ?_)
          show zH n (0, 0) 39 (150, [zR 76, .inl a1, .inl a2, .inr (.inl cr), zN, .inr (.inl we), zN, .inl c, u8, u9], [.inr (.inl (w64 ((w64 (we * 100)).tdiv cr))), .inl 13, zR 72]) M8 _
          refine zH_wE (c1 := (153, [zR 76, .inl a1, .inl a2, .inr (.inl cr), zN, .inr (.inl we), zN, .inl c, u8, u9], [])) 0 hz zp_57 (fh_57_72 13 (w64 ((w64 (we * 100)).tdiv cr))) (by rfl) ?_
          show zH n (0, 0) 39 (153, [zR 76, .inl a1, .inl a2, .inr (.inl cr), zN, .inr (.inl we), zN, .inl c, u8, u9], []) (hf_57_72 M8 13 (w64 ((w64 (we * 100)).tdiv cr))) _
          obtain ⟨M9, hM9⟩ : ∃ X : zM, X = hf_57_72 M8 13 (w64 ((w64 (we * 100)).tdiv cr)) := ⟨_, rfl⟩
          rw [← hM9]
          rw [jtell (by decide), show (13 : Int).toNat = 13 from rfl] at hM9
          refine zH_w (c' := (160, [zR 76, .inl a1, .inl a2, .inr (.inl cr), zN, .inr (.inl we), zN, .inl c, u8, u9], [.inl a2, .inl 14, zR 72])) 4 hz rfl ?_
          refine zH_wE (c1 := (163, [zR 76, .inl a1, .inl a2, .inr (.inl cr), zN, .inr (.inl we), zN, .inl c, u8, u9], [.inl 14, zR 72])) 0 hz zp_296 (fh_296 a2) (by rfl) ?_
          show zH n (0, 0) 39 (163, [zR 76, .inl a1, .inl a2, .inr (.inl cr), zN, .inr (.inl we), zN, .inl c, u8, u9], [.inl (hf_296 M9 a2), .inl 14, zR 72]) M9 _
          rw [hbc14 ⟨hp.1, hp14⟩]
          refine zH_w (c' := (164, [zR 76, .inl a1, .inl a2, .inr (.inl cr), zN, .inr (.inl we), zN, .inl c, u8, u9], [.inr (.inl ((qpc 31 a2.toNat : Nat) : Int)), .inl 14, zR 72])) 1 hz rfl ?_
          refine zH_wE (c1 := (167, [zR 76, .inl a1, .inl a2, .inr (.inl cr), zN, .inr (.inl we), zN, .inl c, u8, u9], [])) 0 hz zp_57 (fh_57_72 14 ((qpc 31 a2.toNat : Nat) : Int)) (by rfl) ?_
          show zH n (0, 0) 39 (167, [zR 76, .inl a1, .inl a2, .inr (.inl cr), zN, .inr (.inl we), zN, .inl c, u8, u9], []) (hf_57_72 M9 14 ((qpc 31 a2.toNat : Nat) : Int)) _
          obtain ⟨M10, hM10⟩ : ∃ X : zM, X = hf_57_72 M9 14 ((qpc 31 a2.toNat : Nat) : Int) := ⟨_, rfl⟩
          rw [← hM10]
          rw [jtell (by decide), show (14 : Int).toNat = 14 from rfl] at hM10
          refine zH_ret hz rfl rfl ?_
          have en : c.toNat = (Mo 98 0).toNat := by omega
          rw [en] at hcr hwe hr3 hg
          subst hcr
          subst hwe
          have q4 := j4 hz7 (show M10 = zput (zput (zput (zput M5 74 7 (-1)) 74 12 (jAl Mo C a1 a2 (Mo 98 0).toNat).1) 74 13 (w64 ((w64 ((jAl Mo C a1 a2 (Mo 98 0).toNat).2.1 * 100)).tdiv (jAl Mo C a1 a2 (Mo 98 0).toNat).1))) 74 14 ((qpc 31 a2.toNat : Nat) : Int) by rw [hM10, hM9, hM8, hM7])
          have hcnt : ((qpc 31 a2.toNat : Nat) : Int) = ((jAl Mo C a1 a2 (Mo 98 0).toNat).2.2.1 : Int) := by
            rw [jAl_c Mo C a1 a2 ⟨hp.1, hp14⟩ (Mo 98 0).toNat (by omega)]
            have q := qpc_up (c := (Mo 98 0).toNat) (p := a2.toNat) (by omega) (31 - (Mo 98 0).toNat)
            rw [show (Mo 98 0).toNat + (31 - (Mo 98 0).toNat) = 31 by omega] at q
            rw [q]
          have hlr := jAl_r Mo C a1 a2 (Mo 98 0).toNat
          have hmn : w64 ((w64 ((jAl Mo C a1 a2 (Mo 98 0).toNat).2.1 * 100)).tdiv (jAl Mo C a1 a2 (Mo 98 0).toNat).1) = jMn (jAl Mo C a1 a2 (Mo 98 0).toNat) := by
            unfold jMn
            rw [if_neg (fun q => hb135 (elc_eq.mpr q))]
          exact ⟨rfl, h.mv (fun r q1 q2 q3 q5 q6 => (q4.2 r q3).trans (hF r q1 q3 q5)) (by rw [q4.2 72 (by decide), hr3]; omega), fun more => jEa_al q4.1 hmn hcnt (by rw [q4.2 72 (by decide)]; exact hr3) (fun j hj9 => by rw [q4.2 75 (by decide)]; exact hg j hj9) more, q4.1.2.2.2.2.2.2.1.trans hmn⟩
        · skip
          refine zH_wE (c1 := (153, [zR 76, .inl a1, .inl a2, .inr (.inl cr), zN, .inr (.inl we), zN, .inl c, u8, u9], [])) 2 hz zp_57 (fh_57_72 13 0) (by rfl) ?_
          show zH n (0, 0) 39 (153, [zR 76, .inl a1, .inl a2, .inr (.inl cr), zN, .inr (.inl we), zN, .inl c, u8, u9], []) (hf_57_72 M8 13 0) _
          obtain ⟨M9, hM9⟩ : ∃ X : zM, X = hf_57_72 M8 13 0 := ⟨_, rfl⟩
          rw [← hM9]
          rw [jtell (by decide), show (13 : Int).toNat = 13 from rfl] at hM9
          refine zH_w (c' := (160, [zR 76, .inl a1, .inl a2, .inr (.inl cr), zN, .inr (.inl we), zN, .inl c, u8, u9], [.inl a2, .inl 14, zR 72])) 4 hz rfl ?_
          refine zH_wE (c1 := (163, [zR 76, .inl a1, .inl a2, .inr (.inl cr), zN, .inr (.inl we), zN, .inl c, u8, u9], [.inl 14, zR 72])) 0 hz zp_296 (fh_296 a2) (by rfl) ?_
          show zH n (0, 0) 39 (163, [zR 76, .inl a1, .inl a2, .inr (.inl cr), zN, .inr (.inl we), zN, .inl c, u8, u9], [.inl (hf_296 M9 a2), .inl 14, zR 72]) M9 _
          rw [hbc14 ⟨hp.1, hp14⟩]
          refine zH_w (c' := (164, [zR 76, .inl a1, .inl a2, .inr (.inl cr), zN, .inr (.inl we), zN, .inl c, u8, u9], [.inr (.inl ((qpc 31 a2.toNat : Nat) : Int)), .inl 14, zR 72])) 1 hz rfl ?_
          refine zH_wE (c1 := (167, [zR 76, .inl a1, .inl a2, .inr (.inl cr), zN, .inr (.inl we), zN, .inl c, u8, u9], [])) 0 hz zp_57 (fh_57_72 14 ((qpc 31 a2.toNat : Nat) : Int)) (by rfl) ?_
          show zH n (0, 0) 39 (167, [zR 76, .inl a1, .inl a2, .inr (.inl cr), zN, .inr (.inl we), zN, .inl c, u8, u9], []) (hf_57_72 M9 14 ((qpc 31 a2.toNat : Nat) : Int)) _
          obtain ⟨M10, hM10⟩ : ∃ X : zM, X = hf_57_72 M9 14 ((qpc 31 a2.toNat : Nat) : Int) := ⟨_, rfl⟩
          rw [← hM10]
          rw [jtell (by decide), show (14 : Int).toNat = 14 from rfl] at hM10
          refine zH_ret hz rfl rfl ?_
          have en : c.toNat = (Mo 98 0).toNat := by omega
          rw [en] at hcr hwe hr3 hg
          subst hcr
          subst hwe
          have q4 := j4 hz7 (show M10 = zput (zput (zput (zput M5 74 7 (-1)) 74 12 (jAl Mo C a1 a2 (Mo 98 0).toNat).1) 74 13 ((0 : Int))) 74 14 ((qpc 31 a2.toNat : Nat) : Int) by rw [hM10, hM9, hM8, hM7])
          have hcnt : ((qpc 31 a2.toNat : Nat) : Int) = ((jAl Mo C a1 a2 (Mo 98 0).toNat).2.2.1 : Int) := by
            rw [jAl_c Mo C a1 a2 ⟨hp.1, hp14⟩ (Mo 98 0).toNat (by omega)]
            have q := qpc_up (c := (Mo 98 0).toNat) (p := a2.toNat) (by omega) (31 - (Mo 98 0).toNat)
            rw [show (Mo 98 0).toNat + (31 - (Mo 98 0).toNat) = 31 by omega] at q
            rw [q]
          have hlr := jAl_r Mo C a1 a2 (Mo 98 0).toNat
          have hmn : (0 : Int) = jMn (jAl Mo C a1 a2 (Mo 98 0).toNat) := by
            unfold jMn
            rw [if_pos (Decidable.byContradiction (fun q => hb135 (fun q2 => q (elc_eq.mp q2))))]
          exact ⟨rfl, h.mv (fun r q1 q2 q3 q5 q6 => (q4.2 r q3).trans (hF r q1 q3 q5)) (by rw [q4.2 72 (by decide), hr3]; omega), fun more => jEa_al q4.1 hmn hcnt (by rw [q4.2 72 (by decide)]; exact hr3) (fun j hj9 => by rw [q4.2 75 (by decide)]; exact hg j hj9) more, q4.1.2.2.2.2.2.2.1.trans hmn⟩
      · skip
        have ec : ((c.toNat : Nat) : Int) = c := by omega
        have hlr := jAl_r Mo C a1 a2 c.toNat
        have k1 := True.intro
        have k3 := True.intro
        have hgn := True.intro
        refine zH_w (c' := (37, [zR 76, .inl a1, .inl a2, .inr (.inl cr), zN, .inr (.inl we), zN, .inl c, u8, u9], [.inl 1, .inl (zband (zbshr a2 c) 1)])) 6 hz rfl ?_
        refine zH_wi_ne (pc := 37) (n' := 40) (t := 98) (L := [zR 76, .inl a1, .inl a2, .inr (.inl cr), zN, .inr (.inl we), zN, .inl c, u8, u9]) (st := []) (x := (zband (zbshr a2 c) 1)) (y := 1) 0 hz (by rfl) (fun hb37 => ?_) (fun hb37 => ?_)
        · skip
          have hbit : ¬ zband (zbshr a2 c) 1 = 1 := hb37
          refine zH_w (c' := (15, [zR 76, .inl a1, .inl a2, .inr (.inl cr), zN, .inr (.inl we), zN, .inl (c + 1), u8, u9], [])) 2 hz (by rw [show (.inl (c + 1) : zV) = .inl (w32 (c + 1)) from by rw [w32_id (by omega)]]; rfl) ?_
          refine ih15 (c + 1) cr we u8 u9 M5 (by omega) ?_ ?_ ?_ ?_ ?_ ?_ ?_
          · omega
          · rw [show (c + 1).toNat = c.toNat + 1 by omega, jAl_s, ec]
            first
              | (rw [if_pos hbit, hcr])
              | (rw [if_neg hbit]; exact hcr)
          · rw [show (c + 1).toNat = c.toNat + 1 by omega, jAl_s, ec]
            first
              | (rw [if_pos hbit, hwe])
              | (rw [if_neg hbit]; exact hwe)
          · rw [show (c + 1).toNat = c.toNat + 1 by omega, jAl_s, ec]
            first
              | (rw [if_pos hbit]; exact k3.trans (by show _ = ((_ + 1 : Nat) : Int); omega))
              | (rw [if_neg hbit]; exact hr3)
          · rw [show (c + 1).toNat = c.toNat + 1 by omega, jAl_s, ec]
            first
              | (rw [if_pos hbit]; exact hgn)
              | (rw [if_neg hbit]; exact hg)
          · first
              | exact fun j hj => by rw [k1 74 (by decide) (by decide)]; exact hz7 j hj
              | exact hz7
          · first
              | exact fun r q1 q2 q3 => (k1 r q1 q3).trans (hF r q1 q2 q3)
              | exact hF
        · skip
          have hbit : zband (zbshr a2 c) 1 = 1 := Decidable.byContradiction hb37
          refine zH_wE (c1 := (53, [zR 76, .inl a1, .inl a2, .inr (.inl cr), zN, .inr (.inl we), zN, .inl c, u8, u9], [])) 5 hz zp_106 (fh_106_10 c 0) (by rfl) ?_
          show zH n (0, 0) 39 (53, [zR 76, .inl a1, .inl a2, .inr (.inl cr), zN, .inr (.inl we), zN, .inl c, u8, u9], [.inl (hR_get M5 10 c 0)]) M5 _
          rw [show hR_get M5 10 c 0 = Mo 98 (20 + 4 * c.toNat) from by rw [show hR_get M5 10 c 0 = hR_get Mo 10 c 0 from by unfold hR_get; rw [hF 10 (by decide) (by decide) (by decide), show M5 (10 + 1) = M (10 + 1) from hF 11 (by decide) (by decide) (by decide), h.eq 10 (by omega), show M (10 + 1) = Mo (10 + 1) from h.eq 11 (by omega)], hG_10 hj.1.2.2.1 (by omega) (by decide), hj.1.2.1.1.2 _ (by simp only [Int.reduceToNat]; omega)]; rfl]
          refine zH_w (c' := (63, [zR 76, .inl a1, .inl a2, .inr (.inl cr), zN, .inr (.inl we), zN, .inl c, .inl (Mo 98 (20 + 4 * c.toNat)), u9], [.inl c, .inl a1, zR 60, .inl 0])) 6 hz rfl ?_
          refine zH_wE (c1 := (66, [zR 76, .inl a1, .inl a2, .inr (.inl cr), zN, .inr (.inl we), zN, .inl c, .inl (Mo 98 (20 + 4 * c.toNat)), u9], [.inl 0])) 0 hz zp_44 (fh_44_60 a1 c) (by rfl) ?_
          show zH n (0, 0) 39 (66, [zR 76, .inl a1, .inl a2, .inr (.inl cr), zN, .inr (.inl we), zN, .inl c, .inl (Mo 98 (20 + 4 * c.toNat)), u9], [.inl (hf_44_60 M5 a1 c), .inl 0]) M5 _
          rw [show hf_44_60 M5 a1 c = jF Mo C a1 c.toNat from by have q := (jK.fin hj h (M' := M5) (hF 63 (by decide) (by decide) (by decide)) (hF 64 (by decide) (by decide) (by decide)) hs (c := c.toNat) (by omega)).1; rw [ec] at q; exact q]
          refine zH_w (c' := (69, [zR 76, .inl a1, .inl a2, .inr (.inl cr), zN, .inr (.inl we), zN, .inl c, .inl (Mo 98 (20 + 4 * c.toNat)), u9], [.inl (if 0 < (jF Mo C a1 c.toNat) then (jF Mo C a1 c.toNat) else 0)])) 1 hz rfl ?_
          rw [show (if 0 < (jF Mo C a1 c.toNat) then (jF Mo C a1 c.toNat) else 0) = jMk Mo C a1 c.toNat from rfl]
          refine zH_w (c' := (95, [zR 76, .inl a1, .inl a2, .inr (.inl (w64 (cr + (Mo 98 (20 + 4 * c.toNat))))), zN, .inr (.inl (w64 (we + (w64 ((jMk Mo C a1 c.toNat) * (Mo 98 (20 + 4 * c.toNat))))))), zN, .inl c, .inl (Mo 98 (20 + 4 * c.toNat)), .inl (jMk Mo C a1 c.toNat)], [.inl (jMk Mo C a1 c.toNat), zR 72])) 17 hz rfl ?_
          refine zH_wC (c1 := (98, [zR 76, .inl a1, .inl a2, .inr (.inl (w64 (cr + (Mo 98 (20 + 4 * c.toNat))))), zN, .inr (.inl (w64 (we + (w64 ((jMk Mo C a1 c.toNat) * (Mo 98 (20 + 4 * c.toNat))))))), zN, .inl c, .inl (Mo 98 (20 + 4 * c.toNat)), .inl (jMk Mo C a1 c.toNat)], [])) 0 hz zp_59 (fh_59_72 (r := (jAl Mo C a1 a2 c.toNat).2.2.1) (by omega) hr3 (jMk Mo C a1 c.toNat)) (by rfl) ?_
          rintro _ M6 ⟨rfl, k1, k2, k3, k4⟩
          show zH n (0, 0) 39 (98, [zR 76, .inl a1, .inl a2, .inr (.inl (w64 (cr + (Mo 98 (20 + 4 * c.toNat))))), zN, .inr (.inl (w64 (we + (w64 ((jMk Mo C a1 c.toNat) * (Mo 98 (20 + 4 * c.toNat))))))), zN, .inl c, .inl (Mo 98 (20 + 4 * c.toNat)), .inl (jMk Mo C a1 c.toNat)], []) M6 _
          have hgn : ∀ j : Nat, j < (jAl Mo C a1 a2 c.toNat).2.2.1 + 1 → M6 75 j = insA (jAl Mo C a1 a2 c.toNat).2.2.2 (jMk Mo C a1 c.toNat) (jAl Mo C a1 a2 c.toNat).2.2.1 j := fun j hj9 => by
            rw [k4 j (by omega)]
            exact insA_cg (jAl Mo C a1 a2 c.toNat).2.2.1 (N := (jAl Mo C a1 a2 c.toNat).2.2.1) (Nat.le_refl _) hg (fun i q1 q2 => absurd q1 (by omega)) j (by omega)
          refine zH_w (c' := (15, [zR 76, .inl a1, .inl a2, .inr (.inl (w64 (cr + (Mo 98 (20 + 4 * c.toNat))))), zN, .inr (.inl (w64 (we + (w64 ((jMk Mo C a1 c.toNat) * (Mo 98 (20 + 4 * c.toNat))))))), zN, .inl (c + 1), .inl (Mo 98 (20 + 4 * c.toNat)), .inl (jMk Mo C a1 c.toNat)], [])) 2 hz (by rw [show (.inl (c + 1) : zV) = .inl (w32 (c + 1)) from by rw [w32_id (by omega)]]; rfl) ?_
          refine ih15 (c + 1) (w64 (cr + (Mo 98 (20 + 4 * c.toNat)))) (w64 (we + (w64 ((jMk Mo C a1 c.toNat) * (Mo 98 (20 + 4 * c.toNat)))))) (.inl (Mo 98 (20 + 4 * c.toNat))) (.inl (jMk Mo C a1 c.toNat)) M6 (by omega) ?_ ?_ ?_ ?_ ?_ ?_ ?_
          · omega
          · rw [show (c + 1).toNat = c.toNat + 1 by omega, jAl_s, ec]
            first
              | (rw [if_pos hbit, hcr])
              | (rw [if_neg hbit]; exact hcr)
          · rw [show (c + 1).toNat = c.toNat + 1 by omega, jAl_s, ec]
            first
              | (rw [if_pos hbit, hwe])
              | (rw [if_neg hbit]; exact hwe)
          · rw [show (c + 1).toNat = c.toNat + 1 by omega, jAl_s, ec]
            first
              | (rw [if_pos hbit]; exact k3.trans (by show _ = ((_ + 1 : Nat) : Int); omega))
              | (rw [if_neg hbit]; exact hr3)
          · rw [show (c + 1).toNat = c.toNat + 1 by omega, jAl_s, ec]
            first
              | (rw [if_pos hbit]; exact hgn)
              | (rw [if_neg hbit]; exact hg)
          · first
              | exact fun j hj => by rw [k1 74 (by decide) (by decide)]; exact hz7 j hj
              | exact hz7
          · first
              | exact fun r q1 q2 q3 => (k1 r q1 q3).trans (hF r q1 q2 q3)
              | exact hF
  refine lp15 (15) 0 0 0 zN zN M1 (by omega) ?_ ?_ ?_ ?_ ?_ ?_ ?_
  · omega
  · rfl
  · rfl
  · exact z3
  · exact fun j hj => absurd hj (Nat.not_lt_zero _)
  · exact z74
  · exact fun r q1 q2 q3 => f1 r q1 q2
set_option maxRecDepth 100000 in
theorem fh_31_n {n : Nat} {M : zM} (a1 : Int) (h1 : a1 = -1) : zH n (0, 0) 31 (0, zini [zR 76, .inl a1] 2, []) M (fun r M' => r = some (zR 77) ∧ M' = M) := by
  have hz := zp_31
  show zH n (0, 0) 31 (0, [zR 76, .inl a1], []) M _
  refine zH_wi_ne (pc := 2) (n' := 5) (t := 12) (L := [zR 76, .inl a1]) (st := []) (x := a1) (y := (-1)) 2 hz (by rfl) (fun hb2 => ?_) (fun hb2 => ?_)
  · skip
    exact absurd h1 hb2
  · skip
    exact zH_wr (r := some (zR 77)) 3 hz (by rfl) (⟨rfl, rfl⟩)
set_option maxRecDepth 100000 in
theorem fh_31_o {n : Nat} {M : zM} (a1 : Int) (h1 : 0 ≤ a1) : zH n (0, 0) 31 (0, zini [zR 76, .inl a1] 2, []) M (fun r M' => r = some (zR 22) ∧ M' = M) := by
  have hz := zp_31
  show zH n (0, 0) 31 (0, [zR 76, .inl a1], []) M _
  refine zH_wi_ne (pc := 2) (n' := 5) (t := 12) (L := [zR 76, .inl a1]) (st := []) (x := a1) (y := (-1)) 2 hz (by rfl) (fun hb2 => ?_) (fun hb2 => ?_)
  · skip
    exact zH_wr (r := some (zR 22)) 3 hz (by rfl) (⟨rfl, rfl⟩)
  · skip
    exact absurd (Decidable.byContradiction hb2) (by omega)
/-- the code of an ordinance, of none: where it lies -/
noncomputable def jCd (M : zM) (o : Int) (k : Nat) (O : List Int) : Prop := (O.length ≤ 80 ∧ ∀ x ∈ O, eOk x) ∧ (o = -1 → M 78 k = (O.length : Int) ∧ xC (fun j => M 78 (k + j)) O) ∧ (0 ≤ o → o < 10 ∧ M 23 (164 * o.toNat + k) = (O.length : Int) ∧ xC (fun j => M 23 (164 * o.toNat + k + j)) O)
theorem jg77 {M : zM} (t : M 77 0 = 1 ∧ M 77 1 = 164) {b : Int} (hb : 0 ≤ b ∧ b < 164) : hR_get M 77 0 b = M 78 b.toNat := by
  unfold hR_get
  rw [if_neg (by omega), if_neg (by omega), if_neg (by omega), if_pos (by omega), t.2, w32_id (x := 0 * 164) (by omega), w32_id (by omega), show (0 * 164 + b).toNat = b.toNat by omega]
theorem jBnd {Mo M : zM} {C : Nat → Bool} (hj : jH Mo) (h : jK Mo C M) {k : Nat} {o : Int} {O : List Int} (hk : k = 2 ∨ k = 83) (hc : jCd Mo o k O) : (o = -1 → hR_get M 77 0 (k : Int) = (O.length : Int) ∧ (∀ j : Nat, 1 ≤ j → j ≤ O.length → hR_get M 77 0 (w32 ((k : Int) + (j : Int))) = (fun j => Mo 78 (k + j)) j) ∧ xC (fun j => Mo 78 (k + j)) O) ∧ (0 ≤ o → hR_get M 22 o (k : Int) = (O.length : Int) ∧ (∀ j : Nat, 1 ≤ j → j ≤ O.length → hR_get M 22 o (w32 ((k : Int) + (j : Int))) = (fun j => Mo 23 (164 * o.toNat + k + j)) j) ∧ xC (fun j => Mo 23 (164 * o.toNat + k + j)) O) := by
  obtain ⟨⟨hl, -⟩, h1, h2⟩ := hc
  have t77 : M 77 0 = 1 ∧ M 77 1 = 164 := by rw [h.eq 77 (by omega)]; exact hj.2.1
  have t22 : M 22 0 = 10 ∧ M 22 1 = 164 := by rw [h.eq 22 (by omega)]; exact hj.1.2.2.1.t22
  have e78 : M 78 = Mo 78 := h.eq 78 (by omega)
  have e23 : M 23 = Mo 23 := h.eq 23 (by omega)
  refine ⟨fun ho => ?_, fun ho => ?_⟩
  · have q := h1 ho
    refine ⟨?_, fun j j1 j2 => ?_, q.2⟩
    · rw [jg77 t77 (by omega), Int.toNat_natCast, e78]; exact q.1
    · rw [w32_id (by omega), jg77 t77 (by omega), e78, show ((k : Int) + (j : Int)).toNat = k + j by omega]
  · have q := h2 ho
    refine ⟨?_, fun j j1 j2 => ?_, q.2.2⟩
    · rw [oG22 t22 (by omega) (by omega), Int.toNat_natCast, e23]; exact q.2.1
    · rw [w32_id (by omega), oG22 t22 (by omega) (by omega), e23, show 164 * o.toNat + ((k : Int) + (j : Int)).toNat = 164 * o.toNat + k + j by omega]
set_option maxRecDepth 100000 in
theorem fh_32_n {n : Nat} {M : zM} {Mo : zM} {C : Nat → Bool} (hj : jH Mo) (h : jK Mo C M) (a1 a2 : Int) (hs : 0 ≤ a1 ∧ a1 < Mo 98 1) (hb : oBi (Mo 98) a1 a2 = -1) {O : List Int} (hO : jCd Mo (-1) 2 O) : zH n (0, 0) 32 (0, zini [zR 76, .inl a1, .inl a2] 6, []) M (fun r M' => r = some (.inl (jPs Mo C a1 O (Mo 98 0).toNat)) ∧ jK Mo C M') := by
  have hz := zp_32
  show zH n (0, 0) 32 (0, [zR 76, .inl a1, .inl a2, zN, zN, zN], []) M _
  have hn1 := hj.1.1.cnt1
  have hn0 := hj.1.1.cnt0
  have hbi := h.bi hj
  refine zH_wE (c1 := (6, [zR 76, .inl a1, .inl a2, zN, zN, zN], [])) 3 hz zp_29 (fh_29_76 hbi.1 hbi.2.1 hbi.2.2.1 hbi.2.2.2.1 hbi.2.2.2.2 a1 a2 (by omega)) (by rfl) ?_
  show zH n (0, 0) 32 (6, [zR 76, .inl a1, .inl a2, zN, zN, zN], [.inl (oBi (M 98) a1 a2)]) M _
  rw [show oBi (M 98) a1 a2 = (-1) from by rw [h.eq 98 (by omega)]; exact hb]
  refine zH_w (c' := (13, [zR 76, .inl a1, .inl a2, .inl (-1), .inl 0, .inl 0], [])) 5 hz rfl ?_
  have lp13 : ∀ (N : Nat) (p : Int) (c : Int) (M5 : zM), ((14 - c).toNat) < N → (0 ≤ c ∧ c ≤ Mo 98 0) → (p = jPs Mo C a1 O c.toNat) → (jK Mo C M5) → zH n (0, 0) 32 (13, [zR 76, .inl a1, .inl a2, .inl (-1), .inl p, .inl c], []) M5 (fun r M' => r = some (.inl (jPs Mo C a1 O (Mo 98 0).toNat)) ∧ jK Mo C M') := by
    intro N
    induction N with
    | zero => intro p c M5 hN; exact absurd hN (Nat.not_lt_zero _)
    | succ N ih13 =>
      intro p c M5 hN hi hp hk
      refine zH_w (c' := (22, [zR 76, .inl a1, .inl a2, .inl (-1), .inl p, .inl c], [zR 10, .inl c])) 4 hz rfl ?_
      refine zH_wE (c1 := (25, [zR 76, .inl a1, .inl a2, .inl (-1), .inl p, .inl c], [.inl c])) 0 hz zp_101 (fh_101_10) (by rfl) ?_
      show zH n (0, 0) 32 (25, [zR 76, .inl a1, .inl a2, .inl (-1), .inl p, .inl c], [.inl (hR_size M5 10), .inl c]) M5 _
      rw [show hR_size M5 10 = Mo 98 0 from by unfold hR_size; rw [hk.eq 10 (by omega)]; exact hj.1.2.1.1.1]
      refine zH_icmp_ge hz rfl (fun hb25 => ?_) (fun hb25 => ?_)
      · skip
        refine zH_w (c' := (78, [zR 76, .inl a1, .inl a2, .inl (-1), .inl p, .inl c], [.inl p])) 1 hz rfl ?_
        exact zH_wr (r := some (.inl p)) 0 hz (by rfl) (⟨by rw [hp, show c.toNat = (Mo 98 0).toNat by omega], hk⟩)
      · skip
        have ec : ((c.toNat : Nat) : Int) = c := by omega
        refine zH_w (c' := (34, [zR 76, .inl a1, .inl a2, .inl (-1), .inl p, .inl c], [.inl p, .inl c, .inl a1, zR 76])) 4 hz rfl ?_
        refine zH_wC (c1 := (37, [zR 76, .inl a1, .inl a2, .inl (-1), .inl p, .inl c], [])) 0 hz zp_38 (fh_38_76 hj hk a1 c p (c := c.toNat) ec.symm (by omega) hs) (by rfl) ?_
        rintro _ M6 ⟨rfl, hk6, he6⟩
        show zH n (0, 0) 32 (37, [zR 76, .inl a1, .inl a2, .inl (-1), .inl p, .inl c], []) M6 _
        refine zH_wE (c1 := (46, [zR 76, .inl a1, .inl a2, .inl (-1), .inl p, .inl c], [zR 72])) 4 hz zp_31 (fh_31_n (-1) rfl) (by rfl) ?_
        show zH n (0, 0) 32 (46, [zR 76, .inl a1, .inl a2, .inl (-1), .inl p, .inl c], [zR 77, zR 72]) M6 _
        refine zH_w (c' := (51, [zR 76, .inl a1, .inl a2, .inl (-1), .inl p, .inl c], [.inl (if (-1) < 0 then 0 else (-1)), zR 77, zR 72])) 3 hz rfl ?_
        rw [show (if (-1) < 0 then 0 else (-1)) = 0 from rfl]
        refine zH_w (c' := (53, [zR 76, .inl a1, .inl a2, .inl (-1), .inl p, .inl c], [.inl 0, .inl 2, .inl 0, zR 77, zR 72])) 2 hz rfl ?_
        refine zH_wC (c1 := (56, [zR 76, .inl a1, .inl a2, .inl (-1), .inl p, .inl c], [])) 0 hz zp_62 (fh_62_77 hk6.2.2.2.2 hO.1.1 hO.1.2 0 2 0 ((jBnd hj hk6 (k := 2) (.inl rfl) hO).1 rfl).1 ((jBnd hj hk6 (k := 2) (.inl rfl) hO).1 rfl).2.1 ((jBnd hj hk6 (k := 2) (.inl rfl) hO).1 rfl).2.2) (by rfl) ?_
        rintro _ M7 ⟨rfl, f7, g7, u7⟩
        show zH n (0, 0) 32 (56, [zR 76, .inl a1, .inl a2, .inl (-1), .inl p, .inl c], [.inr (.inl (eVal (eCl M6 0) O))]) M7 _
        have hk7 : jK Mo C M7 := hk6.mv (fun r q1 q2 q3 q4 q5 => f7 r q1 q2) (by rw [g7 3 (by decide) (by decide)]; exact hk6.2.2.2)
        rw [show eVal (eCl M6 0) O = eVal (jEc Mo C a1 c.toNat p) O from congrArg (fun s => s.headD 0) (eRun_cg he6 O)]
        refine zH_w (c' := (58, [zR 76, .inl a1, .inl a2, .inl (-1), .inl p, .inl c], [.inl (if 0 < (eVal (jEc Mo C a1 c.toNat p) O) then 1 else if (eVal (jEc Mo C a1 c.toNat p) O) = 0 then 0 else -1)])) 2 hz rfl ?_
        refine zH_wf_eq (pc := 58) (n' := 61) (t := 70) (L := [zR 76, .inl a1, .inl a2, .inl (-1), .inl p, .inl c]) (st := []) (x := (if 0 < (eVal (jEc Mo C a1 c.toNat p) O) then 1 else if (eVal (jEc Mo C a1 c.toNat p) O) = 0 then 0 else -1)) 0 hz (by rfl) (fun hb58 => ?_) (fun hb58 => ?_)
        · skip
          have hev : eVal (jEc Mo C a1 c.toNat p) O = 0 := elc_eq.mp hb58
          refine zH_w (c' := (13, [zR 76, .inl a1, .inl a2, .inl (-1), .inl p, .inl (c + 1)], [])) 2 hz (by rw [show (.inl (c + 1) : zV) = .inl (w32 (c + 1)) from by rw [w32_id (by omega)]]; rfl) ?_
          refine ih13 p (c + 1) M7 (by omega) ?_ ?_ ?_
          · omega
          · rw [show (c + 1).toNat = c.toNat + 1 by omega, jPs_s, ← hp, ec]
            first
              | rw [if_pos hev]
              | rw [if_neg hev]
          · exact hk7
        · skip
          have hev : ¬ eVal (jEc Mo C a1 c.toNat p) O = 0 := fun q => hb58 (elc_eq.mpr q)
          refine zH_w (c' := (13, [zR 76, .inl a1, .inl a2, .inl (-1), .inl (zbor p (zbshl 1 c)), .inl (c + 1)], [])) 8 hz (by rw [show (.inl (c + 1) : zV) = .inl (w32 (c + 1)) from by rw [w32_id (by omega)]]; rfl) ?_
          refine ih13 (zbor p (zbshl 1 c)) (c + 1) M7 (by omega) ?_ ?_ ?_
          · omega
          · rw [show (c + 1).toNat = c.toNat + 1 by omega, jPs_s, ← hp, ec]
            first
              | rw [if_pos hev]
              | rw [if_neg hev]
          · exact hk7
  refine lp13 (15) 0 0 M (by omega) ?_ ?_ ?_
  · omega
  · rfl
  · exact h
set_option maxRecDepth 100000 in
theorem fh_32_o {n : Nat} {M : zM} {Mo : zM} {C : Nat → Bool} (hj : jH Mo) (h : jK Mo C M) (a1 a2 : Int) (hs : 0 ≤ a1 ∧ a1 < Mo 98 1) {a9 : Int} (h9 : 0 ≤ a9) (hb : oBi (Mo 98) a1 a2 = a9) {O : List Int} (hO : jCd Mo a9 2 O) : zH n (0, 0) 32 (0, zini [zR 76, .inl a1, .inl a2] 6, []) M (fun r M' => r = some (.inl (jPs Mo C a1 O (Mo 98 0).toNat)) ∧ jK Mo C M') := by
  have hz := zp_32
  show zH n (0, 0) 32 (0, [zR 76, .inl a1, .inl a2, zN, zN, zN], []) M _
  have hn1 := hj.1.1.cnt1
  have hn0 := hj.1.1.cnt0
  have hbi := h.bi hj
  refine zH_wE (c1 := (6, [zR 76, .inl a1, .inl a2, zN, zN, zN], [])) 3 hz zp_29 (fh_29_76 hbi.1 hbi.2.1 hbi.2.2.1 hbi.2.2.2.1 hbi.2.2.2.2 a1 a2 (by omega)) (by rfl) ?_
  show zH n (0, 0) 32 (6, [zR 76, .inl a1, .inl a2, zN, zN, zN], [.inl (oBi (M 98) a1 a2)]) M _
  rw [show oBi (M 98) a1 a2 = a9 from by rw [h.eq 98 (by omega)]; exact hb]
  refine zH_w (c' := (13, [zR 76, .inl a1, .inl a2, .inl a9, .inl 0, .inl 0], [])) 5 hz rfl ?_
  have lp13 : ∀ (N : Nat) (p : Int) (c : Int) (M5 : zM), ((14 - c).toNat) < N → (0 ≤ c ∧ c ≤ Mo 98 0) → (p = jPs Mo C a1 O c.toNat) → (jK Mo C M5) → zH n (0, 0) 32 (13, [zR 76, .inl a1, .inl a2, .inl a9, .inl p, .inl c], []) M5 (fun r M' => r = some (.inl (jPs Mo C a1 O (Mo 98 0).toNat)) ∧ jK Mo C M') := by
    intro N
    induction N with
    | zero => intro p c M5 hN; exact absurd hN (Nat.not_lt_zero _)
    | succ N ih13 =>
      intro p c M5 hN hi hp hk
      refine zH_w (c' := (22, [zR 76, .inl a1, .inl a2, .inl a9, .inl p, .inl c], [zR 10, .inl c])) 4 hz rfl ?_
      refine zH_wE (c1 := (25, [zR 76, .inl a1, .inl a2, .inl a9, .inl p, .inl c], [.inl c])) 0 hz zp_101 (fh_101_10) (by rfl) ?_
      show zH n (0, 0) 32 (25, [zR 76, .inl a1, .inl a2, .inl a9, .inl p, .inl c], [.inl (hR_size M5 10), .inl c]) M5 _
      rw [show hR_size M5 10 = Mo 98 0 from by unfold hR_size; rw [hk.eq 10 (by omega)]; exact hj.1.2.1.1.1]
      refine zH_icmp_ge hz rfl (fun hb25 => ?_) (fun hb25 => ?_)
      · skip
        refine zH_w (c' := (78, [zR 76, .inl a1, .inl a2, .inl a9, .inl p, .inl c], [.inl p])) 1 hz rfl ?_
        exact zH_wr (r := some (.inl p)) 0 hz (by rfl) (⟨by rw [hp, show c.toNat = (Mo 98 0).toNat by omega], hk⟩)
      · skip
        have ec : ((c.toNat : Nat) : Int) = c := by omega
        refine zH_w (c' := (34, [zR 76, .inl a1, .inl a2, .inl a9, .inl p, .inl c], [.inl p, .inl c, .inl a1, zR 76])) 4 hz rfl ?_
        refine zH_wC (c1 := (37, [zR 76, .inl a1, .inl a2, .inl a9, .inl p, .inl c], [])) 0 hz zp_38 (fh_38_76 hj hk a1 c p (c := c.toNat) ec.symm (by omega) hs) (by rfl) ?_
        rintro _ M6 ⟨rfl, hk6, he6⟩
        show zH n (0, 0) 32 (37, [zR 76, .inl a1, .inl a2, .inl a9, .inl p, .inl c], []) M6 _
        refine zH_wE (c1 := (46, [zR 76, .inl a1, .inl a2, .inl a9, .inl p, .inl c], [zR 72])) 4 hz zp_31 (fh_31_o a9 h9) (by rfl) ?_
        show zH n (0, 0) 32 (46, [zR 76, .inl a1, .inl a2, .inl a9, .inl p, .inl c], [zR 22, zR 72]) M6 _
        refine zH_w (c' := (51, [zR 76, .inl a1, .inl a2, .inl a9, .inl p, .inl c], [.inl (if a9 < 0 then 0 else a9), zR 22, zR 72])) 3 hz rfl ?_
        rw [show (if a9 < 0 then 0 else a9) = a9 from if_neg (by omega)]
        refine zH_w (c' := (53, [zR 76, .inl a1, .inl a2, .inl a9, .inl p, .inl c], [.inl 0, .inl 2, .inl a9, zR 22, zR 72])) 2 hz rfl ?_
        refine zH_wC (c1 := (56, [zR 76, .inl a1, .inl a2, .inl a9, .inl p, .inl c], [])) 0 hz zp_62 (fh_62_22 hk6.2.2.2.2 hO.1.1 hO.1.2 a9 2 0 ((jBnd hj hk6 (k := 2) (.inl rfl) hO).2 h9).1 ((jBnd hj hk6 (k := 2) (.inl rfl) hO).2 h9).2.1 ((jBnd hj hk6 (k := 2) (.inl rfl) hO).2 h9).2.2) (by rfl) ?_
        rintro _ M7 ⟨rfl, f7, g7, u7⟩
        show zH n (0, 0) 32 (56, [zR 76, .inl a1, .inl a2, .inl a9, .inl p, .inl c], [.inr (.inl (eVal (eCl M6 0) O))]) M7 _
        have hk7 : jK Mo C M7 := hk6.mv (fun r q1 q2 q3 q4 q5 => f7 r q1 q2) (by rw [g7 3 (by decide) (by decide)]; exact hk6.2.2.2)
        rw [show eVal (eCl M6 0) O = eVal (jEc Mo C a1 c.toNat p) O from congrArg (fun s => s.headD 0) (eRun_cg he6 O)]
        refine zH_w (c' := (58, [zR 76, .inl a1, .inl a2, .inl a9, .inl p, .inl c], [.inl (if 0 < (eVal (jEc Mo C a1 c.toNat p) O) then 1 else if (eVal (jEc Mo C a1 c.toNat p) O) = 0 then 0 else -1)])) 2 hz rfl ?_
        refine zH_wf_eq (pc := 58) (n' := 61) (t := 70) (L := [zR 76, .inl a1, .inl a2, .inl a9, .inl p, .inl c]) (st := []) (x := (if 0 < (eVal (jEc Mo C a1 c.toNat p) O) then 1 else if (eVal (jEc Mo C a1 c.toNat p) O) = 0 then 0 else -1)) 0 hz (by rfl) (fun hb58 => ?_) (fun hb58 => ?_)
        · skip
          have hev : eVal (jEc Mo C a1 c.toNat p) O = 0 := elc_eq.mp hb58
          refine zH_w (c' := (13, [zR 76, .inl a1, .inl a2, .inl a9, .inl p, .inl (c + 1)], [])) 2 hz (by rw [show (.inl (c + 1) : zV) = .inl (w32 (c + 1)) from by rw [w32_id (by omega)]]; rfl) ?_
          refine ih13 p (c + 1) M7 (by omega) ?_ ?_ ?_
          · omega
          · rw [show (c + 1).toNat = c.toNat + 1 by omega, jPs_s, ← hp, ec]
            first
              | rw [if_pos hev]
              | rw [if_neg hev]
          · exact hk7
        · skip
          have hev : ¬ eVal (jEc Mo C a1 c.toNat p) O = 0 := fun q => hb58 (elc_eq.mpr q)
          refine zH_w (c' := (13, [zR 76, .inl a1, .inl a2, .inl a9, .inl (zbor p (zbshl 1 c)), .inl (c + 1)], [])) 8 hz (by rw [show (.inl (c + 1) : zV) = .inl (w32 (c + 1)) from by rw [w32_id (by omega)]]; rfl) ?_
          refine ih13 (zbor p (zbshl 1 c)) (c + 1) M7 (by omega) ?_ ?_ ?_
          · omega
          · rw [show (c + 1).toNat = c.toNat + 1 by omega, jPs_s, ← hp, ec]
            first
              | rw [if_pos hev]
              | rw [if_neg hev]
          · exact hk7
  refine lp13 (15) 0 0 M (by omega) ?_ ?_ ?_
  · omega
  · rfl
  · exact h
theorem fh_32_76 {n : Nat} {M Mo : zM} {C : Nat → Bool} (hj : jH Mo) (h : jK Mo C M) (a1 a2 : Int) (hs : 0 ≤ a1 ∧ a1 < Mo 98 1) (hr : -1 ≤ oBi (Mo 98) a1 a2) {O : List Int} (hO : jCd Mo (oBi (Mo 98) a1 a2) 2 O) : zH n (0, 0) 32 (0, zini [zR 76, .inl a1, .inl a2] 6, []) M (fun r M' => r = some (.inl (jPs Mo C a1 O (Mo 98 0).toNat)) ∧ jK Mo C M') := by
  by_cases e : oBi (Mo 98) a1 a2 = -1
  · rw [e] at hO; exact fh_32_n hj h a1 a2 hs e hO
  · exact fh_32_o hj h a1 a2 hs (show 0 ≤ oBi (Mo 98) a1 a2 by omega) rfl hO
set_option maxRecDepth 100000 in
theorem fh_34_n {n : Nat} {M : zM} {Mo : zM} {C : Nat → Bool} (hj : jH Mo) (h : jK Mo C M) (a1 a2 : Int) (h1 : a1 = -1) {O : List Int} (hO : jCd Mo a1 83 O) {e : eEn} (he : eAl (eCl M a2) e) : zH n (0, 0) 34 (0, zini [zR 76, .inl a1, .inl a2] 5, []) M (fun r M' => r = some (.inl (jCp (eVal e O))) ∧ jK Mo C M' ∧ (∀ r, r ≠ 72 → r ≠ 73 → M' r = M r) ∧ (∀ j, j ≠ 4 → j ≠ 5 → M' 72 j = M 72 j) ∧ M' 72 5 = eUse O) := by
  have hz := zp_34
  show zH n (0, 0) 34 (0, [zR 76, .inl a1, .inl a2, zN, zN], []) M _
  refine zH_wE (c1 := (9, [zR 76, .inl a1, .inl a2, zN, zN], [zR 72])) 4 hz zp_31 (fh_31_n a1 h1) (by rfl) ?_
  show zH n (0, 0) 34 (9, [zR 76, .inl a1, .inl a2, zN, zN], [zR 77, zR 72]) M _
  refine zH_w (c' := (14, [zR 76, .inl a1, .inl a2, zN, zN], [.inl (if a1 < 0 then 0 else a1), zR 77, zR 72])) 3 hz rfl ?_
  rw [show (if a1 < 0 then 0 else a1) = 0 from by rw [h1]; rfl]
  refine zH_w (c' := (17, [zR 76, .inl a1, .inl a2, zN, zN], [.inl a2, .inl 83, .inl 0, zR 77, zR 72])) 2 hz rfl ?_
  refine zH_wC (c1 := (20, [zR 76, .inl a1, .inl a2, zN, zN], [])) 0 hz zp_62 (fh_62_77 h.2.2.2.2 hO.1.1 hO.1.2 0 83 a2 ((jBnd hj h (k := 83) (.inr rfl) hO).1 h1).1 ((jBnd hj h (k := 83) (.inr rfl) hO).1 h1).2.1 ((jBnd hj h (k := 83) (.inr rfl) hO).1 h1).2.2) (by rfl) ?_
  rintro _ M7 ⟨rfl, f7, g7, u7⟩
  show zH n (0, 0) 34 (20, [zR 76, .inl a1, .inl a2, zN, zN], [.inr (.inl (eVal (eCl M a2) O))]) M7 _
  rw [show eVal (eCl M a2) O = eVal e O from congrArg (fun s => s.headD 0) (eRun_cg he O)]
  have hk7 : jK Mo C M7 := h.mv (fun r q1 q2 q3 q4 q5 => f7 r q1 q2) (by rw [g7 3 (by decide) (by decide)]; exact h.2.2.2)
  refine zH_w (c' := (33, [zR 76, .inl a1, .inl a2, .inr (.inl (eVal e O)), zN], [.inl (w32 (if (if (eVal e O) < 9 then (eVal e O) else 9) < 0 then 0 else (if (eVal e O) < 9 then (eVal e O) else 9)))])) 7 hz rfl ?_
  rw [show w32 (if (if (eVal e O) < 9 then (eVal e O) else 9) < 0 then 0 else (if (eVal e O) < 9 then (eVal e O) else 9)) = jCp (eVal e O) from by
  unfold jCp
  (repeat' split) <;> first | omega | (rw [w32_id (by omega)]; omega) | (rw [w32_id (by omega)])]
  exact zH_ret hz rfl rfl (⟨rfl, hk7, f7, g7, u7⟩)
set_option maxRecDepth 100000 in
theorem fh_34_o {n : Nat} {M : zM} {Mo : zM} {C : Nat → Bool} (hj : jH Mo) (h : jK Mo C M) (a1 a2 : Int) (h1 : 0 ≤ a1) {O : List Int} (hO : jCd Mo a1 83 O) {e : eEn} (he : eAl (eCl M a2) e) : zH n (0, 0) 34 (0, zini [zR 76, .inl a1, .inl a2] 5, []) M (fun r M' => r = some (.inl (jCp (eVal e O))) ∧ jK Mo C M' ∧ (∀ r, r ≠ 72 → r ≠ 73 → M' r = M r) ∧ (∀ j, j ≠ 4 → j ≠ 5 → M' 72 j = M 72 j) ∧ M' 72 5 = eUse O) := by
  have hz := zp_34
  show zH n (0, 0) 34 (0, [zR 76, .inl a1, .inl a2, zN, zN], []) M _
  refine zH_wE (c1 := (9, [zR 76, .inl a1, .inl a2, zN, zN], [zR 72])) 4 hz zp_31 (fh_31_o a1 h1) (by rfl) ?_
  show zH n (0, 0) 34 (9, [zR 76, .inl a1, .inl a2, zN, zN], [zR 22, zR 72]) M _
  refine zH_w (c' := (14, [zR 76, .inl a1, .inl a2, zN, zN], [.inl (if a1 < 0 then 0 else a1), zR 22, zR 72])) 3 hz rfl ?_
  rw [show (if a1 < 0 then 0 else a1) = a1 from if_neg (by omega)]
  refine zH_w (c' := (17, [zR 76, .inl a1, .inl a2, zN, zN], [.inl a2, .inl 83, .inl a1, zR 22, zR 72])) 2 hz rfl ?_
  refine zH_wC (c1 := (20, [zR 76, .inl a1, .inl a2, zN, zN], [])) 0 hz zp_62 (fh_62_22 h.2.2.2.2 hO.1.1 hO.1.2 a1 83 a2 ((jBnd hj h (k := 83) (.inr rfl) hO).2 h1).1 ((jBnd hj h (k := 83) (.inr rfl) hO).2 h1).2.1 ((jBnd hj h (k := 83) (.inr rfl) hO).2 h1).2.2) (by rfl) ?_
  rintro _ M7 ⟨rfl, f7, g7, u7⟩
  show zH n (0, 0) 34 (20, [zR 76, .inl a1, .inl a2, zN, zN], [.inr (.inl (eVal (eCl M a2) O))]) M7 _
  rw [show eVal (eCl M a2) O = eVal e O from congrArg (fun s => s.headD 0) (eRun_cg he O)]
  have hk7 : jK Mo C M7 := h.mv (fun r q1 q2 q3 q4 q5 => f7 r q1 q2) (by rw [g7 3 (by decide) (by decide)]; exact h.2.2.2)
  refine zH_w (c' := (33, [zR 76, .inl a1, .inl a2, .inr (.inl (eVal e O)), zN], [.inl (w32 (if (if (eVal e O) < 9 then (eVal e O) else 9) < 0 then 0 else (if (eVal e O) < 9 then (eVal e O) else 9)))])) 7 hz rfl ?_
  rw [show w32 (if (if (eVal e O) < 9 then (eVal e O) else 9) < 0 then 0 else (if (eVal e O) < 9 then (eVal e O) else 9)) = jCp (eVal e O) from by
  unfold jCp
  (repeat' split) <;> first | omega | (rw [w32_id (by omega)]; omega) | (rw [w32_id (by omega)])]
  exact zH_ret hz rfl rfl (⟨rfl, hk7, f7, g7, u7⟩)
theorem fh_34_76 {n : Nat} {M Mo : zM} {C : Nat → Bool} (hj : jH Mo) (h : jK Mo C M) (a1 a2 : Int) (hr : -1 ≤ a1) {O : List Int} (hO : jCd Mo a1 83 O) {e : eEn} (he : eAl (eCl M a2) e) : zH n (0, 0) 34 (0, zini [zR 76, .inl a1, .inl a2] 5, []) M (fun r M' => r = some (.inl (jCp (eVal e O))) ∧ jK Mo C M' ∧ (∀ r, r ≠ 72 → r ≠ 73 → M' r = M r) ∧ (∀ j, j ≠ 4 → j ≠ 5 → M' 72 j = M 72 j) ∧ M' 72 5 = eUse O) := by
  by_cases q : a1 = -1
  · exact fh_34_n hj h a1 a2 q hO he
  · exact fh_34_o hj h a1 a2 (by omega) hO he
/-- the class of a student on a day -/
noncomputable def jGr (M : zM) (C : Nat → Bool) (s : Int) (P Q : List Int) (more : Int) : Int := jCp (eVal (jEa (jAl M C s (jPs M C s P (M 98 0).toNat) (M 98 0).toNat) more) Q)
theorem eCl_cg {M M' : zM} (f : ∀ r, r ≠ 72 → r ≠ 73 → M' r = M r) (g : ∀ j, j ≠ 4 → j ≠ 5 → M' 72 j = M 72 j) (more : Int) : eCl M' more = eCl M more := by
  unfold eCl
  rw [f 74 (by decide) (by decide), f 75 (by decide) (by decide), g 3 (by decide) (by decide)]
set_option maxRecDepth 100000 in
theorem fh_33_76 {n : Nat} {M : zM} {Mo : zM} {C : Nat → Bool} (hj : jH Mo) (h : jK Mo C M) (a1 a2 : Int) (hs : 0 ≤ a1 ∧ a1 < Mo 98 1) (hr : -1 ≤ oBi (Mo 98) a1 a2) {P Q : List Int} (hP : jCd Mo (oBi (Mo 98) a1 a2) 2 P) (hQ : jCd Mo (oBi (Mo 98) a1 a2) 83 Q) : zH n (0, 0) 33 (0, zini [zR 76, .inl a1, .inl a2] 3, []) M (fun r M' => r = some (.inl (jGr Mo C a1 P Q 0)) ∧ jK Mo C M' ∧ (∀ more : Int, eAl (eCl M' more) (jEa (jAl Mo C a1 (jPs Mo C a1 P (Mo 98 0).toNat) (Mo 98 0).toNat) more)) ∧ M' 72 5 = eUse Q) := by
  have hz := zp_33
  show zH n (0, 0) 33 (0, [zR 76, .inl a1, .inl a2], []) M _
  refine zH_wC (c1 := (8, [zR 76, .inl a1, .inl a2], [.inl a1, zR 76])) 5 hz zp_32 (fh_32_76 hj h a1 a2 hs hr hP) (by rfl) ?_
  rintro _ M1 ⟨rfl, hk1⟩
  show zH n (0, 0) 33 (8, [zR 76, .inl a1, .inl a2], [.inl (jPs Mo C a1 P (Mo 98 0).toNat), .inl a1, zR 76]) M1 _
  refine zH_wC (c1 := (11, [zR 76, .inl a1, .inl a2], [])) 0 hz zp_39 (fh_39_76 hj hk1 a1 (jPs Mo C a1 P (Mo 98 0).toNat) hs (jPs_r Mo C a1 P (Mo 98 0).toNat (by have := hj.1.1.cnt0; omega))) (by rfl) ?_
  rintro _ M2 ⟨rfl, hk2, he2, -⟩
  show zH n (0, 0) 33 (11, [zR 76, .inl a1, .inl a2], []) M2 _
  refine zH_wE (c1 := (18, [zR 76, .inl a1, .inl a2], [zR 76])) 4 hz zp_29 (fh_29_76 (hk2.bi hj).1 (hk2.bi hj).2.1 (hk2.bi hj).2.2.1 (hk2.bi hj).2.2.2.1 (hk2.bi hj).2.2.2.2 a1 a2 (by have := hj.1.1.cnt1; omega)) (by rfl) ?_
  show zH n (0, 0) 33 (18, [zR 76, .inl a1, .inl a2], [.inl (oBi (M2 98) a1 a2), zR 76]) M2 _
  rw [show oBi (M2 98) a1 a2 = oBi (Mo 98) a1 a2 from by rw [hk2.eq 98 (by omega)]]
  refine zH_w (c' := (19, [zR 76, .inl a1, .inl a2], [.inl 0, .inl (oBi (Mo 98) a1 a2), zR 76])) 1 hz rfl ?_
  refine zH_wC (c1 := (22, [zR 76, .inl a1, .inl a2], [])) 0 hz zp_34 (fh_34_76 hj hk2 (oBi (Mo 98) a1 a2) 0 hr hQ (he2 0)) (by rfl) ?_
  rintro _ M3 ⟨rfl, hk3, f3, g3, u3⟩
  show zH n (0, 0) 33 (22, [zR 76, .inl a1, .inl a2], [.inl (jGr Mo C a1 P Q 0)]) M3 _
  exact zH_wr (r := some (.inl (jGr Mo C a1 P Q 0))) 0 hz (by rfl) (⟨rfl, hk3, fun more => by rw [eCl_cg f3 g3]; exact he2 more, u3⟩)
/-- the least d of 1 .. by which the class is another; -1: none up to n -/
noncomputable def jEd (g : Int → Int) : Nat → Nat → Int
  | 0, _ => -1
  | k + 1, d => if g (d : Int) = g 0 then jEd g k (d + 1) else (d : Int)
theorem jEd_no {g : Int → Int} (h : ∀ d, g d = g 0) : ∀ (k d : Nat), jEd g k d = -1
  | 0, _ => rfl
  | k + 1, d => by show (if g (d : Int) = g 0 then jEd g k (d + 1) else (d : Int)) = -1; rw [if_pos (h _), jEd_no h k]
theorem jGr_no {M : zM} {C : Nat → Bool} {s : Int} {P Q : List Int} (h : eUse Q = 0) (d : Int) : jGr M C s P Q d = jGr M C s P Q 0 := by
  unfold jGr eVal
  rw [eRun_no (e := jEa (jAl M C s (jPs M C s P (M 98 0).toNat) (M 98 0).toNat) d) (f := jEa (jAl M C s (jPs M C s P (M 98 0).toNat) (M 98 0).toNat) 0) (fun k h1 h2 h3 => by unfold jEa; dsimp only; rw [if_neg h3, if_neg h3]) Q h]
set_option maxRecDepth 100000 in
theorem fh_35_76 {n : Nat} {M : zM} {Mo : zM} {C : Nat → Bool} (hj : jH Mo) (h : jK Mo C M) (a1 a2 : Int) (hs : 0 ≤ a1 ∧ a1 < Mo 98 1) (hr : -1 ≤ oBi (Mo 98) a1 a2) {P Q : List Int} (hP : jCd Mo (oBi (Mo 98) a1 a2) 2 P) (hQ : jCd Mo (oBi (Mo 98) a1 a2) 83 Q) : zH n (0, 0) 35 (0, zini [zR 76, .inl a1, .inl a2] 6, []) M (fun r M' => r = some (.inl (jEd (fun d => jGr Mo C a1 P Q d) 2000 1))) := by
  have hz := zp_35
  show zH n (0, 0) 35 (0, [zR 76, .inl a1, .inl a2, zN, zN, zN], []) M _
  refine zH_wC (c1 := (6, [zR 76, .inl a1, .inl a2, zN, zN, zN], [])) 3 hz zp_33 (fh_33_76 hj h a1 a2 hs hr hP hQ) (by rfl) ?_
  rintro _ M1 ⟨rfl, hk1, he1, u1⟩
  show zH n (0, 0) 35 (6, [zR 76, .inl a1, .inl a2, zN, zN, zN], [.inl (jGr Mo C a1 P Q 0)]) M1 _
  obtain ⟨is, his⟩ : ∃ x : Int, x = (jGr Mo C a1 P Q 0) := ⟨_, rfl⟩
  rw [← his]
  refine zH_w (c' := (10, [zR 76, .inl a1, .inl a2, .inl is, zN, zN], [.inl a2, .inl a1, zR 76])) 4 hz rfl ?_
  refine zH_wE (c1 := (13, [zR 76, .inl a1, .inl a2, .inl is, zN, zN], [])) 0 hz zp_29 (fh_29_76 (hk1.bi hj).1 (hk1.bi hj).2.1 (hk1.bi hj).2.2.1 (hk1.bi hj).2.2.2.1 (hk1.bi hj).2.2.2.2 a1 a2 (by have := hj.1.1.cnt1; omega)) (by rfl) ?_
  show zH n (0, 0) 35 (13, [zR 76, .inl a1, .inl a2, .inl is, zN, zN], [.inl (oBi (M1 98) a1 a2)]) M1 _
  rw [show oBi (M1 98) a1 a2 = oBi (Mo 98) a1 a2 from by rw [hk1.eq 98 (by omega)]]
  refine zH_w (c' := (19, [zR 76, .inl a1, .inl a2, .inl is, .inl (oBi (Mo 98) a1 a2), zN], [zR 72])) 3 hz rfl ?_
  refine zH_wE (c1 := (22, [zR 76, .inl a1, .inl a2, .inl is, .inl (oBi (Mo 98) a1 a2), zN], [])) 0 hz zp_61 (fh_61_72) (by rfl) ?_
  show zH n (0, 0) 35 (22, [zR 76, .inl a1, .inl a2, .inl is, .inl (oBi (Mo 98) a1 a2), zN], [.inl (hf_61_72 M1)]) M1 _
  rw [show hf_61_72 M1 = eUse Q from u1]
  refine zH_if_ne hz rfl (fun hb22 => ?_) (fun hb22 => ?_)
  · skip
    refine zH_w (c' := (30, [zR 76, .inl a1, .inl a2, .inl is, .inl (oBi (Mo 98) a1 a2), .inl 1], [])) 2 hz rfl ?_
    have lp30 : ∀ (N : Nat) (i : Int) (M5 : zM), ((2001 - i).toNat) < N → (1 ≤ i ∧ i ≤ 2001) → (jEd (fun d => jGr Mo C a1 P Q d) 2000 1 = jEd (fun d => jGr Mo C a1 P Q d) (2001 - i.toNat) i.toNat) → (jK Mo C M5) → (∀ more : Int, eAl (eCl M5 more) (jEa (jAl Mo C a1 (jPs Mo C a1 P (Mo 98 0).toNat) (Mo 98 0).toNat) more)) → zH n (0, 0) 35 (30, [zR 76, .inl a1, .inl a2, .inl is, .inl (oBi (Mo 98) a1 a2), .inl i], []) M5 (fun r M' => r = some (.inl (jEd (fun d => jGr Mo C a1 P Q d) 2000 1))) := by
      intro N
      induction N with
      | zero => intro i M5 hN; exact absurd hN (Nat.not_lt_zero _)
      | succ N ih30 =>
        intro i M5 hN hi hv hk he
        refine zH_w (c' := (35, [zR 76, .inl a1, .inl a2, .inl is, .inl (oBi (Mo 98) a1 a2), .inl i], [.inl 2000, .inl i])) 2 hz rfl ?_
        refine zH_wi_gt (pc := 35) (n' := 38) (t := 59) (L := [zR 76, .inl a1, .inl a2, .inl is, .inl (oBi (Mo 98) a1 a2), .inl i]) (st := []) (x := i) (y := 2000) 0 hz (by rfl) (fun hb35 => ?_) (fun hb35 => ?_)
        · skip
          refine zH_w (c' := (60, [zR 76, .inl a1, .inl a2, .inl is, .inl (oBi (Mo 98) a1 a2), .inl i], [.inl (-1)])) 1 hz rfl ?_
          refine zH_ret hz rfl rfl ?_
          show _ = some (Sum.inl _)
          rw [hv, show 2001 - i.toNat = 0 by omega]; rfl
        · skip
          have hst : jEd (fun d => jGr Mo C a1 P Q d) 2000 1 = if (fun d => jGr Mo C a1 P Q d) ((i.toNat : Nat) : Int) = (fun d => jGr Mo C a1 P Q d) 0 then jEd (fun d => jGr Mo C a1 P Q d) (2000 - i.toNat) (i.toNat + 1) else ((i.toNat : Nat) : Int) := by
            rw [hv, show 2001 - i.toNat = (2000 - i.toNat) + 1 by omega]; rfl
          have ei : ((i.toNat : Nat) : Int) = i := by omega
          refine zH_wC (c1 := (46, [zR 76, .inl a1, .inl a2, .inl is, .inl (oBi (Mo 98) a1 a2), .inl i], [])) 3 hz zp_34 (fh_34_76 hj hk (oBi (Mo 98) a1 a2) i hr hQ (he i)) (by rfl) ?_
          rintro _ M6 ⟨rfl, hk6, f6, g6, u6⟩
          show zH n (0, 0) 35 (46, [zR 76, .inl a1, .inl a2, .inl is, .inl (oBi (Mo 98) a1 a2), .inl i], [.inl (jGr Mo C a1 P Q i)]) M6 _
          obtain ⟨y, hy⟩ : ∃ x : Int, x = (jGr Mo C a1 P Q i) := ⟨_, rfl⟩
          rw [← hy]
          refine zH_w (c' := (47, [zR 76, .inl a1, .inl a2, .inl is, .inl (oBi (Mo 98) a1 a2), .inl i], [.inl is, .inl y])) 1 hz rfl ?_
          refine zH_wi_eq (pc := 47) (n' := 50) (t := 53) (L := [zR 76, .inl a1, .inl a2, .inl is, .inl (oBi (Mo 98) a1 a2), .inl i]) (st := []) (x := y) (y := is) 0 hz (by rfl) (fun hb47 => ?_) (fun hb47 => ?_)
          · skip
            refine zH_w (c' := (30, [zR 76, .inl a1, .inl a2, .inl is, .inl (oBi (Mo 98) a1 a2), .inl (i + 1)], [])) 2 hz (by rw [show (.inl (i + 1) : zV) = .inl (w32 (i + 1)) from by rw [w32_id (by omega)]]; rfl) ?_
            refine ih30 (i + 1) M6 (by omega) ?_ ?_ ?_ ?_
            · omega
            · rw [hst, if_pos (by rw [ei]; show jGr Mo C a1 P Q i = jGr Mo C a1 P Q 0; omega), show (i + 1).toNat = i.toNat + 1 by omega, show 2001 - (i.toNat + 1) = 2000 - i.toNat by omega]
            · exact hk6
            · exact fun more => by rw [eCl_cg f6 g6]; exact he more
          · skip
            refine zH_w (c' := (52, [zR 76, .inl a1, .inl a2, .inl is, .inl (oBi (Mo 98) a1 a2), .inl i], [.inl i])) 1 hz rfl ?_
            refine zH_ret hz rfl rfl ?_
            show _ = some (Sum.inl _)
            rw [hst, if_neg (by rw [ei]; show ¬ jGr Mo C a1 P Q i = jGr Mo C a1 P Q 0; omega), ei]
    refine lp30 (2002) 1 M1 (by omega) ?_ ?_ ?_ ?_
    · omega
    · rfl
    · exact hk1
    · exact he1
  · skip
    have h0 : eUse Q = 0 := Decidable.byContradiction hb22
    refine zH_w (c' := (26, [zR 76, .inl a1, .inl a2, .inl is, .inl (oBi (Mo 98) a1 a2), zN], [.inl (-1)])) 1 hz rfl ?_
    refine zH_ret hz rfl rfl ?_
    show _ = some (Sum.inl _)
    rw [jEd_no (fun d => jGr_no h0 d)]
noncomputable def jOn (M : zM) (C : Nat → Bool) (s d : Int) : Nat → Int
  | 0 => -1
  | n + 1 => if C n = true ∧ qA M (n : Int) 0 = 6 ∧ qA M (n : Int) 4 = s ∧ qA M (n : Int) 1 ≤ d then (if jOn M C s d n < qA M (n : Int) 1 then qA M (n : Int) 1 else jOn M C s d n) else jOn M C s d n
theorem jOn_s (M : zM) (C : Nat → Bool) (s d : Int) (n : Nat) : jOn M C s d (n + 1) = if C n = true ∧ qA M (n : Int) 0 = 6 ∧ qA M (n : Int) 4 = s ∧ qA M (n : Int) 1 ≤ d then (if jOn M C s d n < qA M (n : Int) 1 then qA M (n : Int) 1 else jOn M C s d n) else jOn M C s d n := rfl
/-- the codes of all ordinances -/
noncomputable def jCs (M : zM) (P Q : Int → List Int) : Prop := ∀ o : Int, -1 ≤ o → o < M 98 5 → jCd M o 2 (P o) ∧ jCd M o 83 (Q o)
theorem oBi_r {M : zM} (hA : hcA (M 13) (M 98)) (h5 : 0 ≤ M 98 5) (s d : Int) (hs : 0 ≤ s ∧ s < M 98 1 ∧ s < 20) : -1 ≤ oBi (M 98) s d ∧ (oBi (M 98) s d < M 98 5 ∨ oBi (M 98) s d = -1) := by
  have q1 := oLt_r (M 98) d 1 (M 98 5).toNat
  have q2 := oLt_r (M 98) (M 98 (80 + 3 * s.toNat)) 0 (M 98 5).toNat
  have q3 := (hA s.toNat (by omega)).2 (by omega)
  unfold oBi
  (repeat' split) <;> omega
noncomputable def jBn (M : zM) (s d : Int) : Int := oBi (M 98) s d
noncomputable def jGd (M : zM) (C : Nat → Bool) (P Q : Int → List Int) (s d more : Int) : Int := jGr M C s (P (oBi (M 98) s d)) (Q (oBi (M 98) s d)) more
noncomputable def jRl (M : zM) (C : Nat → Bool) (P Q : Int → List Int) (s d : Int) : Int := if jOn M C s d (M 98 4).toNat = -1 then -1 else jGd M C P Q s (jOn M C s d (M 98 4).toNat) 0
theorem jH.bi {M : zM} (h : jH M) {s : Int} (hs : 0 ≤ s ∧ s < M 98 1) (d : Int) : -1 ≤ oBi (M 98) s d ∧ (oBi (M 98) s d < M 98 5 ∨ oBi (M 98) s d = -1) := by
  have hn := h.1.1.cnt1
  exact oBi_r h.1.2.1.2.2.2.2.2.2.2.2.2.2.1 h.1.1.cnt5.1 s d ⟨hs.1, hs.2, by omega⟩
theorem jCs.at {M : zM} {P Q : Int → List Int} (h : jCs M P Q) (hj : jH M) {s : Int} (hs : 0 ≤ s ∧ s < M 98 1) (d : Int) : jCd M (oBi (M 98) s d) 2 (P (oBi (M 98) s d)) ∧ jCd M (oBi (M 98) s d) 83 (Q (oBi (M 98) s d)) := by
  have q := hj.bi hs d
  exact h _ q.1 (by have := hj.1.1.cnt5; omega)
set_option maxRecDepth 100000 in
theorem fh_36_76 {n : Nat} {M : zM} {Mo : zM} {C : Nat → Bool} (hj : jH Mo) (h : jK Mo C M) {P Q : Int → List Int} (hc : jCs Mo P Q) (a1 a2 : Int) (hs : 0 ≤ a1 ∧ a1 < Mo 98 1) : zH n (0, 0) 36 (0, zini [zR 76, .inl a1, .inl a2] 7, []) M (fun r M' => r = some (.inl (jRl Mo C P Q a1 a2)) ∧ jK Mo C M') := by
  have hz := zp_36
  show zH n (0, 0) 36 (0, [zR 76, .inl a1, .inl a2, zN, zN, zN, zN], []) M _
  have hn4 := hj.1.1.cnt4
  refine zH_w (c' := (5, [zR 76, .inl a1, .inl a2, .inl (-1), .inl 0, zN, zN], [])) 4 hz rfl ?_
  have lp5 : ∀ (N : Nat) (on : Int) (i : Int) (u5 : zV) (u6 : zV), ((250 - i).toNat) < N → (0 ≤ i ∧ i ≤ Mo 98 4) → (on = jOn Mo C a1 a2 i.toNat) → zH n (0, 0) 36 (5, [zR 76, .inl a1, .inl a2, .inl on, .inl i, u5, u6], []) M (fun r M' => r = some (.inl (jRl Mo C P Q a1 a2)) ∧ jK Mo C M') := by
    intro N
    induction N with
    | zero => intro on i u5 u6 hN; exact absurd hN (Nat.not_lt_zero _)
    | succ N ih5 =>
      intro on i u5 u6 hN hi hon
      refine zH_w (c' := (14, [zR 76, .inl a1, .inl a2, .inl on, .inl i, u5, u6], [zR 18, .inl i])) 4 hz rfl ?_
      refine zH_wE (c1 := (17, [zR 76, .inl a1, .inl a2, .inl on, .inl i, u5, u6], [.inl i])) 0 hz zp_101 (fh_101_18) (by rfl) ?_
      show zH n (0, 0) 36 (17, [zR 76, .inl a1, .inl a2, .inl on, .inl i, u5, u6], [.inl (hR_size M 18), .inl i]) M _
      rw [show hR_size M 18 = Mo 98 4 from by unfold hR_size; rw [h.eq 18 (by omega)]; exact hj.1.2.1.2.2.2.2.1.1]
      refine zH_icmp_ge hz rfl (fun hb17 => ?_) (fun hb17 => ?_)
      · skip
        refine zH_w (c' := (111, [zR 76, .inl a1, .inl a2, .inl on, .inl i, u5, u6], [.inl (-1), .inl on])) 2 hz rfl ?_
        refine zH_wi_ne (pc := 111) (n' := 114) (t := 118) (L := [zR 76, .inl a1, .inl a2, .inl on, .inl i, u5, u6]) (st := []) (x := on) (y := (-1)) 0 hz (by rfl) (fun hb111 => ?_) (fun hb111 => ?_)
        · skip
          have eon : on = jOn Mo C a1 a2 (Mo 98 4).toNat := by rw [hon, show i.toNat = (Mo 98 4).toNat by omega]
          refine zH_wC (c1 := (124, [zR 76, .inl a1, .inl a2, .inl on, .inl i, u5, u6], [])) 3 hz zp_33 (fh_33_76 hj h a1 on hs (hj.bi hs on).1 (hc.at hj hs on).1 (hc.at hj hs on).2) (by rfl) ?_
          rintro _ M1 ⟨rfl, hk1, he1, u1⟩
          show zH n (0, 0) 36 (124, [zR 76, .inl a1, .inl a2, .inl on, .inl i, u5, u6], [.inl (jGd Mo C P Q a1 on 0)]) M1 _
          refine zH_ret hz rfl rfl ?_
          first
            | exact ⟨by unfold jRl; rw [← eon, if_neg hb111], hk1⟩
            | exact ⟨by unfold jRl; rw [← eon, if_pos (Decidable.byContradiction hb111)], h⟩
        · skip
          have eon : on = jOn Mo C a1 a2 (Mo 98 4).toNat := by rw [hon, show i.toNat = (Mo 98 4).toNat by omega]
          have hk1 := True.intro
          refine zH_w (c' := (124, [zR 76, .inl a1, .inl a2, .inl on, .inl i, u5, u6], [.inl (-1)])) 2 hz rfl ?_
          refine zH_ret hz rfl rfl ?_
          first
            | exact ⟨by unfold jRl; rw [← eon, if_neg hb111], hk1⟩
            | exact ⟨by unfold jRl; rw [← eon, if_pos (Decidable.byContradiction hb111)], h⟩
      · skip
        have ei : ((i.toNat : Nat) : Int) = i := by omega
        have q19 : hf_19_9 M 6 i = 0 ↔ ¬ qA Mo i 0 = 6 := by
          rw [hq_19, hj.1.rd (h.eq 18 (by omega)) (h.eq 19 (by omega)) (by omega) (by decide), show M 18 3 = Mo 98 4 from by rw [h.eq 18 (by omega)]; exact hj.1.2.1.2.2.2.2.1.1]
          constructor <;> intro q <;> omega
        have hK1 : hf_42_60 M i = 0 ↔ ¬ C i.toNat = true := by
          have q := h.2.1.2 i.toNat (by omega)
          have t61 : M 61 0 = 250 ∧ M 61 1 = 4 := by rw [h.eq 61 (by omega)]; exact hj.1.2.2.2.1
          unfold hf_42_60
          rw [hG_61 t61 (by omega) (by decide), show 4 * i.toNat + (0 : Int).toNat = 4 * i.toNat by simp only [Int.reduceToNat]; omega, q]
          by_cases c : C i.toNat = true
          · rw [if_pos c, if_neg (by omega)]; exact ⟨fun z => absurd z (by decide), fun z => absurd c z⟩
          · rw [if_neg c, if_pos (by omega)]; exact ⟨fun _ => c, fun _ => rfl⟩
        have hno := True.intro
        have hyes := True.intro
        refine zH_w (c' := (30, [zR 76, .inl a1, .inl a2, .inl on, .inl i, u5, u6], [.inl 1, .inl i, zR 18])) 5 hz rfl ?_
        refine zH_wE (c1 := (33, [zR 76, .inl a1, .inl a2, .inl on, .inl i, u5, u6], [])) 0 hz zp_106 (fh_106_18 i 1) (by rfl) ?_
        show zH n (0, 0) 36 (33, [zR 76, .inl a1, .inl a2, .inl on, .inl i, u5, u6], [.inl (hR_get M 18 i 1)]) M _
        rw [hj.1.rd (h.eq 18 (by omega)) (h.eq 19 (by omega)) (a := i) (b := 1) (by omega) (by decide)]
        refine zH_w (c' := (43, [zR 76, .inl a1, .inl a2, .inl on, .inl i, .inl (qA Mo i 1), u6], [.inl i, .inl 6, zR 9])) 5 hz rfl ?_
        refine zH_wE (c1 := (46, [zR 76, .inl a1, .inl a2, .inl on, .inl i, .inl (qA Mo i 1), u6], [])) 0 hz zp_19 (fh_19_9 6 i) (by rfl) ?_
        show zH n (0, 0) 36 (46, [zR 76, .inl a1, .inl a2, .inl on, .inl i, .inl (qA Mo i 1), u6], [.inl (hf_19_9 M 6 i)]) M _
        obtain ⟨y, hy⟩ : ∃ x : Int, x = (hf_19_9 M 6 i) := ⟨_, rfl⟩
        rw [← hy]
        refine zH_if_eq hz rfl (fun hb46 => ?_) (fun hb46 => ?_)
        · skip
          have z0 : ¬ qA Mo i 0 = 6 := q19.mp (hy.symm.trans hb46)
          have hno : ¬ (C i.toNat = true ∧ qA Mo i 0 = 6 ∧ qA Mo i 4 = a1 ∧ qA Mo i 1 ≤ a2) := fun q => z0 q.2.1
          refine zH_w (c' := (5, [zR 76, .inl a1, .inl a2, .inl on, .inl (i + 1), .inl (qA Mo i 1), .inl 0], [])) 6 hz (by rw [show (.inl (i + 1) : zV) = .inl (w32 (i + 1)) from by rw [w32_id (by omega)]]; rfl) ?_
          refine ih5 on (i + 1) (.inl (qA Mo i 1)) (.inl 0) (by omega) ?_ ?_
          · omega
          · rw [show (i + 1).toNat = i.toNat + 1 by omega, jOn_s, ei, ← hon]
            first
              | (rw [if_neg (fun q => hno q)])
              | (rw [if_pos hyes])
        · skip
          have z0 : qA Mo i 0 = 6 := Decidable.byContradiction (fun q => hb46 (hy.trans (q19.mpr q)))
          refine zH_w (c' := (59, [zR 76, .inl a1, .inl a2, .inl on, .inl i, .inl (qA Mo i 1), u6], [.inl 4, .inl i, zR 18])) 5 hz rfl ?_
          refine zH_wE (c1 := (62, [zR 76, .inl a1, .inl a2, .inl on, .inl i, .inl (qA Mo i 1), u6], [])) 0 hz zp_106 (fh_106_18 i 4) (by rfl) ?_
          show zH n (0, 0) 36 (62, [zR 76, .inl a1, .inl a2, .inl on, .inl i, .inl (qA Mo i 1), u6], [.inl (hR_get M 18 i 4)]) M _
          rw [hj.1.rd (h.eq 18 (by omega)) (h.eq 19 (by omega)) (a := i) (b := 4) (by omega) (by decide)]
          refine zH_w (c' := (63, [zR 76, .inl a1, .inl a2, .inl on, .inl i, .inl (qA Mo i 1), u6], [.inl a1, .inl (qA Mo i 4)])) 1 hz rfl ?_
          refine zH_wi_ne (pc := 63) (n' := 66) (t := 70) (L := [zR 76, .inl a1, .inl a2, .inl on, .inl i, .inl (qA Mo i 1), u6]) (st := []) (x := (qA Mo i 4)) (y := a1) 0 hz (by rfl) (fun hb63 => ?_) (fun hb63 => ?_)
          · skip
            have hno : ¬ (C i.toNat = true ∧ qA Mo i 0 = 6 ∧ qA Mo i 4 = a1 ∧ qA Mo i 1 ≤ a2) := fun q => hb63 q.2.2.1
            refine zH_w (c' := (5, [zR 76, .inl a1, .inl a2, .inl on, .inl (i + 1), .inl (qA Mo i 1), .inl 0], [])) 6 hz (by rw [show (.inl (i + 1) : zV) = .inl (w32 (i + 1)) from by rw [w32_id (by omega)]]; rfl) ?_
            refine ih5 on (i + 1) (.inl (qA Mo i 1)) (.inl 0) (by omega) ?_ ?_
            · omega
            · rw [show (i + 1).toNat = i.toNat + 1 by omega, jOn_s, ei, ← hon]
              first
                | (rw [if_neg (fun q => hno q)])
                | (rw [if_pos hyes])
          · skip
            refine zH_w (c' := (84, [zR 76, .inl a1, .inl a2, .inl on, .inl i, .inl (qA Mo i 1), .inl 1], [.inl i, zR 60])) 8 hz rfl ?_
            refine zH_wE (c1 := (87, [zR 76, .inl a1, .inl a2, .inl on, .inl i, .inl (qA Mo i 1), .inl 1], [])) 0 hz zp_42 (fh_42_60 i) (by rfl) ?_
            show zH n (0, 0) 36 (87, [zR 76, .inl a1, .inl a2, .inl on, .inl i, .inl (qA Mo i 1), .inl 1], [.inl (hf_42_60 M i)]) M _
            obtain ⟨z, hz_⟩ : ∃ x : Int, x = (hf_42_60 M i) := ⟨_, rfl⟩
            rw [← hz_]
            refine zH_if_eq hz rfl (fun hb87 => ?_) (fun hb87 => ?_)
            · skip
              have hno : ¬ (C i.toNat = true ∧ qA Mo i 0 = 6 ∧ qA Mo i 4 = a1 ∧ qA Mo i 1 ≤ a2) := fun q => hK1.mp (hz_.symm.trans hb87) q.1
              refine zH_w (c' := (5, [zR 76, .inl a1, .inl a2, .inl on, .inl (i + 1), .inl (qA Mo i 1), .inl 1], [])) 2 hz (by rw [show (.inl (i + 1) : zV) = .inl (w32 (i + 1)) from by rw [w32_id (by omega)]]; rfl) ?_
              refine ih5 on (i + 1) (.inl (qA Mo i 1)) (.inl 1) (by omega) ?_ ?_
              · omega
              · rw [show (i + 1).toNat = i.toNat + 1 by omega, jOn_s, ei, ← hon]
                first
                  | (rw [if_neg (fun q => hno q)])
                  | (rw [if_pos hyes])
            · skip
              have zc : C i.toNat = true := Decidable.byContradiction (fun q => hb87 (hz_.trans (hK1.mpr q)))
              refine zH_w (c' := (93, [zR 76, .inl a1, .inl a2, .inl on, .inl i, .inl (qA Mo i 1), .inl 1], [.inl a2, .inl (qA Mo i 1)])) 2 hz rfl ?_
              refine zH_wi_gt (pc := 93) (n' := 96) (t := 103) (L := [zR 76, .inl a1, .inl a2, .inl on, .inl i, .inl (qA Mo i 1), .inl 1]) (st := []) (x := (qA Mo i 1)) (y := a2) 0 hz (by rfl) (fun hb93 => ?_) (fun hb93 => ?_)
              · skip
                have hno : ¬ (C i.toNat = true ∧ qA Mo i 0 = 6 ∧ qA Mo i 4 = a1 ∧ qA Mo i 1 ≤ a2) := fun q => absurd q.2.2.2 (by omega)
                refine zH_w (c' := (5, [zR 76, .inl a1, .inl a2, .inl on, .inl (i + 1), .inl (qA Mo i 1), .inl 1], [])) 2 hz (by rw [show (.inl (i + 1) : zV) = .inl (w32 (i + 1)) from by rw [w32_id (by omega)]]; rfl) ?_
                refine ih5 on (i + 1) (.inl (qA Mo i 1)) (.inl 1) (by omega) ?_ ?_
                · omega
                · rw [show (i + 1).toNat = i.toNat + 1 by omega, jOn_s, ei, ← hon]
                  first
                    | (rw [if_neg (fun q => hno q)])
                    | (rw [if_pos hyes])
              · skip
                have hyes : C i.toNat = true ∧ qA Mo i 0 = 6 ∧ qA Mo i 4 = a1 ∧ qA Mo i 1 ≤ a2 := ⟨zc, z0, Decidable.byContradiction hb63, by omega⟩
                refine zH_w (c' := (5, [zR 76, .inl a1, .inl a2, .inl (if on < (qA Mo i 1) then (qA Mo i 1) else on), .inl (i + 1), .inl (qA Mo i 1), .inl 1], [])) 6 hz (by rw [show (.inl (i + 1) : zV) = .inl (w32 (i + 1)) from by rw [w32_id (by omega)]]; rfl) ?_
                refine ih5 (if on < (qA Mo i 1) then (qA Mo i 1) else on) (i + 1) (.inl (qA Mo i 1)) (.inl 1) (by omega) ?_ ?_
                · omega
                · rw [show (i + 1).toNat = i.toNat + 1 by omega, jOn_s, ei, ← hon]
                  first
                    | (rw [if_neg (fun q => hno q)])
                    | (rw [if_pos hyes])
  refine lp5 (251) (-1) 0 zN zN (by omega) ?_ ?_
  · omega
  · rfl
theorem jK.of {Mo M : zM} (hp : kP Mo) {k v : Int} (hr : 0 ≤ M 72 3 ∧ M 72 3 ≤ 14) (h : kG Mo (hCt Mo k v (Mo 98 4).toNat (Mo 98 4).toNat) (fun r => kZ Mo (hCt Mo k v (Mo 98 4).toNat (Mo 98 4).toNat) (Mo 98 4).toNat (r : Int) (Mo 98 4).toNat) (Mo 98 4).toNat M) : jK Mo (hCt Mo k v (Mo 98 4).toNat (Mo 98 4).toNat) M := by
  obtain ⟨h1, h2, h3, h4, h5, h6⟩ := h
  refine ⟨fun r q1 q2 q3 q4 q5 q6 q7 q8 q9 => h1 r q1 q2 q3 q4, ⟨⟨h2.1, h2.2.1⟩, h3⟩, fun r hr => ?_, hr⟩
  have q := h5 r hr
  exact ⟨q.1, q.2.1, q.2.2.1⟩
/-- whom and when is asked -/
noncomputable def jAs (M : zM) (s d k : Int) : Prop := (0 ≤ s ∧ s < M 98 1) ∧ (0 ≤ d ∧ d ≤ 9999) ∧ 0 ≤ k ∧ k ≤ 9999

set_option maxRecDepth 100000 in
theorem fh_142 {n : Nat} {M : zM} (hj : jH M) (hr3 : 0 ≤ M 72 3 ∧ M 72 3 ≤ 14) {P Q : Int → List Int} (hc : jCs M P Q) (a1 a2 a3 : Int) : zH n (0, 0) 142 (0, zini [zR 8, .inl a1, .inl a2, .inl a3] 4, []) M (fun r M' => r = some (.inl (if (0 ≤ a1 ∧ a1 < M 98 1) ∧ (0 ≤ a2 ∧ a2 ≤ 9999) ∧ 0 ≤ a3 ∧ a3 ≤ 9999 then (jPs M (hCt M a3 (-1) (M 98 4).toNat (M 98 4).toNat) a1 (P (oBi (M 98) a1 a2)) (M 98 0).toNat) else -2))) := by
  have hz := zp_142
  show zH n (0, 0) 142 (0, [zR 8, .inl a1, .inl a2, .inl a3], []) M _
  have k1 : M 12 3 = M 98 1 := hj.1.2.1.2.1.1
  refine zH_wE (c1 := (5, [zR 8, .inl a1, .inl a2, .inl a3], [])) 2 hz zp_174 (fh_174_8 a1) (by rfl) ?_
  show zH n (0, 0) 142 (5, [zR 8, .inl a1, .inl a2, .inl a3], [.inl (hf_174_8 M a1)]) M _
  obtain ⟨x1, hx1⟩ : ∃ x : Int, x = (hf_174_8 M a1) := ⟨_, rfl⟩
  rw [← hx1]
  refine zH_if_eq hz rfl (fun hb5 => ?_) (fun hb5 => ?_)
  · skip
    rw [hx1, hq_174] at hb5
    refine zH_w (c' := (24, [zR 8, .inl a1, .inl a2, .inl a3], [.inl (-2)])) 1 hz rfl ?_
    refine zH_ret hz rfl rfl ?_
    show _ = some (Sum.inl _)
    rw [if_neg (by omega)]
  · skip
    rw [hx1, hq_174] at hb5
    refine zH_w (c' := (9, [zR 8, .inl a1, .inl a2, .inl a3], [.inl a2])) 1 hz rfl ?_
    refine zH_wE (c1 := (12, [zR 8, .inl a1, .inl a2, .inl a3], [])) 0 hz zp_170 (fh_170 a2) (by rfl) ?_
    show zH n (0, 0) 142 (12, [zR 8, .inl a1, .inl a2, .inl a3], [.inl (hf_170 M a2)]) M _
    obtain ⟨x2, hx2⟩ : ∃ x : Int, x = (hf_170 M a2) := ⟨_, rfl⟩
    rw [← hx2]
    refine zH_if_eq hz rfl (fun hb12 => ?_) (fun hb12 => ?_)
    · skip
      rw [hx2, hq_170] at hb12
      refine zH_w (c' := (24, [zR 8, .inl a1, .inl a2, .inl a3], [.inl (-2)])) 1 hz rfl ?_
      refine zH_ret hz rfl rfl ?_
      show _ = some (Sum.inl _)
      rw [if_neg (by omega)]
    · skip
      rw [hx2, hq_170] at hb12
      refine zH_w (c' := (16, [zR 8, .inl a1, .inl a2, .inl a3], [.inl a3])) 1 hz rfl ?_
      refine zH_wE (c1 := (19, [zR 8, .inl a1, .inl a2, .inl a3], [])) 0 hz zp_170 (fh_170 a3) (by rfl) ?_
      show zH n (0, 0) 142 (19, [zR 8, .inl a1, .inl a2, .inl a3], [.inl (hf_170 M a3)]) M _
      obtain ⟨x3, hx3⟩ : ∃ x : Int, x = (hf_170 M a3) := ⟨_, rfl⟩
      rw [← hx3]
      refine zH_if_ne hz rfl (fun hb19 => ?_) (fun hb19 => ?_)
      · skip
        rw [hx3, hq_170] at hb19
        refine zH_w (c' := (31, [zR 8, .inl a1, .inl a2, .inl a3], [.inl (-1), .inl a3, zR 60])) 4 hz rfl ?_
        refine zH_wC (c1 := (34, [zR 8, .inl a1, .inl a2, .inl a3], [])) 0 hz zp_41 (fh_41_60 hj.1 a3 (-1)) (by rfl) ?_
        rintro _ M1 ⟨rfl, hG1⟩
        show zH n (0, 0) 142 (34, [zR 8, .inl a1, .inl a2, .inl a3], []) M1 _
        have hk1 := jK.of hj.1 (M := M1) (by rw [hG1.1 72 (by decide) (by decide) (by decide) (by decide)]; exact hr3) hG1
        refine zH_wC (c1 := (43, [zR 8, .inl a1, .inl a2, .inl a3], [])) 4 hz zp_32 (fh_32_76 hj hk1 a1 a2 (by omega) (hj.bi (s := a1) (by omega) a2).1 (hc.at hj (s := a1) (by omega) a2).1) (by rfl) ?_
        rintro _ M2 ⟨rfl, -⟩
        show zH n (0, 0) 142 (43, [zR 8, .inl a1, .inl a2, .inl a3], [.inl (jPs M (hCt M a3 (-1) (M 98 4).toNat (M 98 4).toNat) a1 (P (oBi (M 98) a1 a2)) (M 98 0).toNat)]) M2 _
        refine zH_ret hz rfl rfl ?_
        show _ = some (Sum.inl _)
        rw [if_pos (by omega)]
      · skip
        rw [hx3, hq_170] at hb19
        refine zH_w (c' := (24, [zR 8, .inl a1, .inl a2, .inl a3], [.inl (-2)])) 1 hz rfl ?_
        refine zH_ret hz rfl rfl ?_
        show _ = some (Sum.inl _)
        rw [if_neg (by omega)]
set_option maxRecDepth 100000 in
theorem fh_143 {n : Nat} {M : zM} (hj : jH M) (hr3 : 0 ≤ M 72 3 ∧ M 72 3 ≤ 14) {P Q : Int → List Int} (hc : jCs M P Q) (a1 a2 a3 : Int) : zH n (0, 0) 143 (0, zini [zR 8, .inl a1, .inl a2, .inl a3] 4, []) M (fun r M' => r = some (.inl (if (0 ≤ a1 ∧ a1 < M 98 1) ∧ (0 ≤ a2 ∧ a2 ≤ 9999) ∧ 0 ≤ a3 ∧ a3 ≤ 9999 then (jGd M (hCt M a3 (-1) (M 98 4).toNat (M 98 4).toNat) P Q a1 a2 0) else -2))) := by
  have hz := zp_143
  show zH n (0, 0) 143 (0, [zR 8, .inl a1, .inl a2, .inl a3], []) M _
  have k1 : M 12 3 = M 98 1 := hj.1.2.1.2.1.1
  refine zH_wE (c1 := (5, [zR 8, .inl a1, .inl a2, .inl a3], [])) 2 hz zp_174 (fh_174_8 a1) (by rfl) ?_
  show zH n (0, 0) 143 (5, [zR 8, .inl a1, .inl a2, .inl a3], [.inl (hf_174_8 M a1)]) M _
  obtain ⟨x1, hx1⟩ : ∃ x : Int, x = (hf_174_8 M a1) := ⟨_, rfl⟩
  rw [← hx1]
  refine zH_if_eq hz rfl (fun hb5 => ?_) (fun hb5 => ?_)
  · skip
    rw [hx1, hq_174] at hb5
    refine zH_w (c' := (24, [zR 8, .inl a1, .inl a2, .inl a3], [.inl (-2)])) 1 hz rfl ?_
    refine zH_ret hz rfl rfl ?_
    show _ = some (Sum.inl _)
    rw [if_neg (by omega)]
  · skip
    rw [hx1, hq_174] at hb5
    refine zH_w (c' := (9, [zR 8, .inl a1, .inl a2, .inl a3], [.inl a2])) 1 hz rfl ?_
    refine zH_wE (c1 := (12, [zR 8, .inl a1, .inl a2, .inl a3], [])) 0 hz zp_170 (fh_170 a2) (by rfl) ?_
    show zH n (0, 0) 143 (12, [zR 8, .inl a1, .inl a2, .inl a3], [.inl (hf_170 M a2)]) M _
    obtain ⟨x2, hx2⟩ : ∃ x : Int, x = (hf_170 M a2) := ⟨_, rfl⟩
    rw [← hx2]
    refine zH_if_eq hz rfl (fun hb12 => ?_) (fun hb12 => ?_)
    · skip
      rw [hx2, hq_170] at hb12
      refine zH_w (c' := (24, [zR 8, .inl a1, .inl a2, .inl a3], [.inl (-2)])) 1 hz rfl ?_
      refine zH_ret hz rfl rfl ?_
      show _ = some (Sum.inl _)
      rw [if_neg (by omega)]
    · skip
      rw [hx2, hq_170] at hb12
      refine zH_w (c' := (16, [zR 8, .inl a1, .inl a2, .inl a3], [.inl a3])) 1 hz rfl ?_
      refine zH_wE (c1 := (19, [zR 8, .inl a1, .inl a2, .inl a3], [])) 0 hz zp_170 (fh_170 a3) (by rfl) ?_
      show zH n (0, 0) 143 (19, [zR 8, .inl a1, .inl a2, .inl a3], [.inl (hf_170 M a3)]) M _
      obtain ⟨x3, hx3⟩ : ∃ x : Int, x = (hf_170 M a3) := ⟨_, rfl⟩
      rw [← hx3]
      refine zH_if_ne hz rfl (fun hb19 => ?_) (fun hb19 => ?_)
      · skip
        rw [hx3, hq_170] at hb19
        refine zH_w (c' := (31, [zR 8, .inl a1, .inl a2, .inl a3], [.inl (-1), .inl a3, zR 60])) 4 hz rfl ?_
        refine zH_wC (c1 := (34, [zR 8, .inl a1, .inl a2, .inl a3], [])) 0 hz zp_41 (fh_41_60 hj.1 a3 (-1)) (by rfl) ?_
        rintro _ M1 ⟨rfl, hG1⟩
        show zH n (0, 0) 143 (34, [zR 8, .inl a1, .inl a2, .inl a3], []) M1 _
        have hk1 := jK.of hj.1 (M := M1) (by rw [hG1.1 72 (by decide) (by decide) (by decide) (by decide)]; exact hr3) hG1
        refine zH_wC (c1 := (43, [zR 8, .inl a1, .inl a2, .inl a3], [])) 4 hz zp_33 (fh_33_76 hj hk1 a1 a2 (by omega) (hj.bi (s := a1) (by omega) a2).1 (hc.at hj (s := a1) (by omega) a2).1 (hc.at hj (s := a1) (by omega) a2).2) (by rfl) ?_
        rintro _ M2 ⟨rfl, -⟩
        show zH n (0, 0) 143 (43, [zR 8, .inl a1, .inl a2, .inl a3], [.inl (jGd M (hCt M a3 (-1) (M 98 4).toNat (M 98 4).toNat) P Q a1 a2 0)]) M2 _
        refine zH_ret hz rfl rfl ?_
        show _ = some (Sum.inl _)
        rw [if_pos (by omega)]
      · skip
        rw [hx3, hq_170] at hb19
        refine zH_w (c' := (24, [zR 8, .inl a1, .inl a2, .inl a3], [.inl (-2)])) 1 hz rfl ?_
        refine zH_ret hz rfl rfl ?_
        show _ = some (Sum.inl _)
        rw [if_neg (by omega)]
set_option maxRecDepth 100000 in
theorem fh_145 {n : Nat} {M : zM} (hj : jH M) (hr3 : 0 ≤ M 72 3 ∧ M 72 3 ≤ 14) {P Q : Int → List Int} (hc : jCs M P Q) (a1 a2 a3 : Int) : zH n (0, 0) 145 (0, zini [zR 8, .inl a1, .inl a2, .inl a3] 4, []) M (fun r M' => r = some (.inl (if (0 ≤ a1 ∧ a1 < M 98 1) ∧ (0 ≤ a2 ∧ a2 ≤ 9999) ∧ 0 ≤ a3 ∧ a3 ≤ 9999 then (jEd (fun d => jGd M (hCt M a3 (-1) (M 98 4).toNat (M 98 4).toNat) P Q a1 a2 d) 2000 1) else -2))) := by
  have hz := zp_145
  show zH n (0, 0) 145 (0, [zR 8, .inl a1, .inl a2, .inl a3], []) M _
  have k1 : M 12 3 = M 98 1 := hj.1.2.1.2.1.1
  refine zH_wE (c1 := (5, [zR 8, .inl a1, .inl a2, .inl a3], [])) 2 hz zp_174 (fh_174_8 a1) (by rfl) ?_
  show zH n (0, 0) 145 (5, [zR 8, .inl a1, .inl a2, .inl a3], [.inl (hf_174_8 M a1)]) M _
  obtain ⟨x1, hx1⟩ : ∃ x : Int, x = (hf_174_8 M a1) := ⟨_, rfl⟩
  rw [← hx1]
  refine zH_if_eq hz rfl (fun hb5 => ?_) (fun hb5 => ?_)
  · skip
    rw [hx1, hq_174] at hb5
    refine zH_w (c' := (24, [zR 8, .inl a1, .inl a2, .inl a3], [.inl (-2)])) 1 hz rfl ?_
    refine zH_ret hz rfl rfl ?_
    show _ = some (Sum.inl _)
    rw [if_neg (by omega)]
  · skip
    rw [hx1, hq_174] at hb5
    refine zH_w (c' := (9, [zR 8, .inl a1, .inl a2, .inl a3], [.inl a2])) 1 hz rfl ?_
    refine zH_wE (c1 := (12, [zR 8, .inl a1, .inl a2, .inl a3], [])) 0 hz zp_170 (fh_170 a2) (by rfl) ?_
    show zH n (0, 0) 145 (12, [zR 8, .inl a1, .inl a2, .inl a3], [.inl (hf_170 M a2)]) M _
    obtain ⟨x2, hx2⟩ : ∃ x : Int, x = (hf_170 M a2) := ⟨_, rfl⟩
    rw [← hx2]
    refine zH_if_eq hz rfl (fun hb12 => ?_) (fun hb12 => ?_)
    · skip
      rw [hx2, hq_170] at hb12
      refine zH_w (c' := (24, [zR 8, .inl a1, .inl a2, .inl a3], [.inl (-2)])) 1 hz rfl ?_
      refine zH_ret hz rfl rfl ?_
      show _ = some (Sum.inl _)
      rw [if_neg (by omega)]
    · skip
      rw [hx2, hq_170] at hb12
      refine zH_w (c' := (16, [zR 8, .inl a1, .inl a2, .inl a3], [.inl a3])) 1 hz rfl ?_
      refine zH_wE (c1 := (19, [zR 8, .inl a1, .inl a2, .inl a3], [])) 0 hz zp_170 (fh_170 a3) (by rfl) ?_
      show zH n (0, 0) 145 (19, [zR 8, .inl a1, .inl a2, .inl a3], [.inl (hf_170 M a3)]) M _
      obtain ⟨x3, hx3⟩ : ∃ x : Int, x = (hf_170 M a3) := ⟨_, rfl⟩
      rw [← hx3]
      refine zH_if_ne hz rfl (fun hb19 => ?_) (fun hb19 => ?_)
      · skip
        rw [hx3, hq_170] at hb19
        refine zH_w (c' := (31, [zR 8, .inl a1, .inl a2, .inl a3], [.inl (-1), .inl a3, zR 60])) 4 hz rfl ?_
        refine zH_wC (c1 := (34, [zR 8, .inl a1, .inl a2, .inl a3], [])) 0 hz zp_41 (fh_41_60 hj.1 a3 (-1)) (by rfl) ?_
        rintro _ M1 ⟨rfl, hG1⟩
        show zH n (0, 0) 145 (34, [zR 8, .inl a1, .inl a2, .inl a3], []) M1 _
        have hk1 := jK.of hj.1 (M := M1) (by rw [hG1.1 72 (by decide) (by decide) (by decide) (by decide)]; exact hr3) hG1
        refine zH_wC (c1 := (43, [zR 8, .inl a1, .inl a2, .inl a3], [])) 4 hz zp_35 (fh_35_76 hj hk1 a1 a2 (by omega) (hj.bi (s := a1) (by omega) a2).1 (hc.at hj (s := a1) (by omega) a2).1 (hc.at hj (s := a1) (by omega) a2).2) (by rfl) ?_
        rintro _ M2 rfl
        show zH n (0, 0) 145 (43, [zR 8, .inl a1, .inl a2, .inl a3], [.inl (jEd (fun d => jGd M (hCt M a3 (-1) (M 98 4).toNat (M 98 4).toNat) P Q a1 a2 d) 2000 1)]) M2 _
        refine zH_ret hz rfl rfl ?_
        show _ = some (Sum.inl _)
        rw [if_pos (by omega)]
      · skip
        rw [hx3, hq_170] at hb19
        refine zH_w (c' := (24, [zR 8, .inl a1, .inl a2, .inl a3], [.inl (-2)])) 1 hz rfl ?_
        refine zH_ret hz rfl rfl ?_
        show _ = some (Sum.inl _)
        rw [if_neg (by omega)]
set_option maxRecDepth 100000 in
theorem fh_146 {n : Nat} {M : zM} (hj : jH M) (hr3 : 0 ≤ M 72 3 ∧ M 72 3 ≤ 14) {P Q : Int → List Int} (hc : jCs M P Q) (a1 a2 a3 : Int) : zH n (0, 0) 146 (0, zini [zR 8, .inl a1, .inl a2, .inl a3] 4, []) M (fun r M' => r = some (.inl (if (0 ≤ a1 ∧ a1 < M 98 1) ∧ (0 ≤ a2 ∧ a2 ≤ 9999) ∧ 0 ≤ a3 ∧ a3 ≤ 9999 then (jRl M (hCt M a3 (-1) (M 98 4).toNat (M 98 4).toNat) P Q a1 a2) else -2))) := by
  have hz := zp_146
  show zH n (0, 0) 146 (0, [zR 8, .inl a1, .inl a2, .inl a3], []) M _
  have k1 : M 12 3 = M 98 1 := hj.1.2.1.2.1.1
  refine zH_wE (c1 := (5, [zR 8, .inl a1, .inl a2, .inl a3], [])) 2 hz zp_174 (fh_174_8 a1) (by rfl) ?_
  show zH n (0, 0) 146 (5, [zR 8, .inl a1, .inl a2, .inl a3], [.inl (hf_174_8 M a1)]) M _
  obtain ⟨x1, hx1⟩ : ∃ x : Int, x = (hf_174_8 M a1) := ⟨_, rfl⟩
  rw [← hx1]
  refine zH_if_eq hz rfl (fun hb5 => ?_) (fun hb5 => ?_)
  · skip
    rw [hx1, hq_174] at hb5
    refine zH_w (c' := (24, [zR 8, .inl a1, .inl a2, .inl a3], [.inl (-2)])) 1 hz rfl ?_
    refine zH_ret hz rfl rfl ?_
    show _ = some (Sum.inl _)
    rw [if_neg (by omega)]
  · skip
    rw [hx1, hq_174] at hb5
    refine zH_w (c' := (9, [zR 8, .inl a1, .inl a2, .inl a3], [.inl a2])) 1 hz rfl ?_
    refine zH_wE (c1 := (12, [zR 8, .inl a1, .inl a2, .inl a3], [])) 0 hz zp_170 (fh_170 a2) (by rfl) ?_
    show zH n (0, 0) 146 (12, [zR 8, .inl a1, .inl a2, .inl a3], [.inl (hf_170 M a2)]) M _
    obtain ⟨x2, hx2⟩ : ∃ x : Int, x = (hf_170 M a2) := ⟨_, rfl⟩
    rw [← hx2]
    refine zH_if_eq hz rfl (fun hb12 => ?_) (fun hb12 => ?_)
    · skip
      rw [hx2, hq_170] at hb12
      refine zH_w (c' := (24, [zR 8, .inl a1, .inl a2, .inl a3], [.inl (-2)])) 1 hz rfl ?_
      refine zH_ret hz rfl rfl ?_
      show _ = some (Sum.inl _)
      rw [if_neg (by omega)]
    · skip
      rw [hx2, hq_170] at hb12
      refine zH_w (c' := (16, [zR 8, .inl a1, .inl a2, .inl a3], [.inl a3])) 1 hz rfl ?_
      refine zH_wE (c1 := (19, [zR 8, .inl a1, .inl a2, .inl a3], [])) 0 hz zp_170 (fh_170 a3) (by rfl) ?_
      show zH n (0, 0) 146 (19, [zR 8, .inl a1, .inl a2, .inl a3], [.inl (hf_170 M a3)]) M _
      obtain ⟨x3, hx3⟩ : ∃ x : Int, x = (hf_170 M a3) := ⟨_, rfl⟩
      rw [← hx3]
      refine zH_if_ne hz rfl (fun hb19 => ?_) (fun hb19 => ?_)
      · skip
        rw [hx3, hq_170] at hb19
        refine zH_w (c' := (31, [zR 8, .inl a1, .inl a2, .inl a3], [.inl (-1), .inl a3, zR 60])) 4 hz rfl ?_
        refine zH_wC (c1 := (34, [zR 8, .inl a1, .inl a2, .inl a3], [])) 0 hz zp_41 (fh_41_60 hj.1 a3 (-1)) (by rfl) ?_
        rintro _ M1 ⟨rfl, hG1⟩
        show zH n (0, 0) 146 (34, [zR 8, .inl a1, .inl a2, .inl a3], []) M1 _
        have hk1 := jK.of hj.1 (M := M1) (by rw [hG1.1 72 (by decide) (by decide) (by decide) (by decide)]; exact hr3) hG1
        refine zH_wC (c1 := (43, [zR 8, .inl a1, .inl a2, .inl a3], [])) 4 hz zp_36 (fh_36_76 hj hk1 hc a1 a2 (by omega)) (by rfl) ?_
        rintro _ M2 ⟨rfl, -⟩
        show zH n (0, 0) 146 (43, [zR 8, .inl a1, .inl a2, .inl a3], [.inl (jRl M (hCt M a3 (-1) (M 98 4).toNat (M 98 4).toNat) P Q a1 a2)]) M2 _
        refine zH_ret hz rfl rfl ?_
        show _ = some (Sum.inl _)
        rw [if_pos (by omega)]
      · skip
        rw [hx3, hq_170] at hb19
        refine zH_w (c' := (24, [zR 8, .inl a1, .inl a2, .inl a3], [.inl (-2)])) 1 hz rfl ?_
        refine zH_ret hz rfl rfl ?_
        show _ = some (Sum.inl _)
        rw [if_neg (by omega)]
set_option maxRecDepth 100000 in
theorem fh_144 {n : Nat} {M : zM} (hj : jH M) (hr3 : 0 ≤ M 72 3 ∧ M 72 3 ≤ 14) {P Q : Int → List Int} (hc : jCs M P Q) (a1 a2 a3 a4 : Int) : zH n (0, 0) 144 (0, zini [zR 8, .inl a1, .inl a2, .inl a3, .inl a4] 5, []) M (fun r M' => r = some (.inr (.inl (if (0 ≤ a1 ∧ a1 < M 98 1) ∧ (0 ≤ a2 ∧ a2 ≤ 9999) ∧ (0 ≤ a3 ∧ a3 ≤ 9999) ∧ 0 ≤ a4 ∧ a4 ≤ 15 then (if a4 = 0 then jMn (jAl M (hCt M a3 (-1) (M 98 4).toNat (M 98 4).toNat) a1 (jPs M (hCt M a3 (-1) (M 98 4).toNat (M 98 4).toNat) a1 (P (oBi (M 98) a1 a2)) (M 98 0).toNat) (M 98 0).toNat) else if a4 = 15 then (jAl M (hCt M a3 (-1) (M 98 4).toNat (M 98 4).toNat) a1 (jPs M (hCt M a3 (-1) (M 98 4).toNat (M 98 4).toNat) a1 (P (oBi (M 98) a1 a2)) (M 98 0).toNat) (M 98 0).toNat).1 else eBst ((jAl M (hCt M a3 (-1) (M 98 4).toNat (M 98 4).toNat) a1 (jPs M (hCt M a3 (-1) (M 98 4).toNat (M 98 4).toNat) a1 (P (oBi (M 98) a1 a2)) (M 98 0).toNat) (M 98 0).toNat).2.2.1 : Int) (jAl M (hCt M a3 (-1) (M 98 4).toNat (M 98 4).toNat) a1 (jPs M (hCt M a3 (-1) (M 98 4).toNat (M 98 4).toNat) a1 (P (oBi (M 98) a1 a2)) (M 98 0).toNat) (M 98 0).toNat).2.2.2 a4) else -2)))) := by
  have hz := zp_144
  show zH n (0, 0) 144 (0, [zR 8, .inl a1, .inl a2, .inl a3, .inl a4], []) M _
  have k1 : M 12 3 = M 98 1 := hj.1.2.1.2.1.1
  obtain ⟨S, hS⟩ : ∃ S, S = (jAl M (hCt M a3 (-1) (M 98 4).toNat (M 98 4).toNat) a1 (jPs M (hCt M a3 (-1) (M 98 4).toNat (M 98 4).toNat) a1 (P (oBi (M 98) a1 a2)) (M 98 0).toNat) (M 98 0).toNat) := ⟨_, rfl⟩
  rw [← hS]
  refine zH_w (c' := (2, [zR 8, .inl a1, .inl a2, .inl a3, .inl a4], [.inl a1, zR 8])) 2 hz rfl ?_
  refine zH_wE (c1 := (5, [zR 8, .inl a1, .inl a2, .inl a3, .inl a4], [])) 0 hz zp_174 (fh_174_8 a1) (by rfl) ?_
  show zH n (0, 0) 144 (5, [zR 8, .inl a1, .inl a2, .inl a3, .inl a4], [.inl (hf_174_8 M a1)]) M _
  obtain ⟨x1, hx1⟩ : ∃ x : Int, x = (hf_174_8 M a1) := ⟨_, rfl⟩
  rw [← hx1]
  refine zH_if_eq hz rfl (fun hb5 => ?_) (fun hb5 => ?_)
  · skip
    rw [hx1, hq_174] at hb5
    refine zH_w (c' := (36, [zR 8, .inl a1, .inl a2, .inl a3, .inl a4], [.inr (.inl (-2))])) 1 hz rfl ?_
    refine zH_ret hz rfl rfl ?_
    show _ = some (Sum.inr (Sum.inl _))
    rw [if_neg (by omega)]
  · skip
    rw [hx1, hq_174] at hb5
    refine zH_w (c' := (9, [zR 8, .inl a1, .inl a2, .inl a3, .inl a4], [.inl a2])) 1 hz rfl ?_
    refine zH_wE (c1 := (12, [zR 8, .inl a1, .inl a2, .inl a3, .inl a4], [])) 0 hz zp_170 (fh_170 a2) (by rfl) ?_
    show zH n (0, 0) 144 (12, [zR 8, .inl a1, .inl a2, .inl a3, .inl a4], [.inl (hf_170 M a2)]) M _
    obtain ⟨x2, hx2⟩ : ∃ x : Int, x = (hf_170 M a2) := ⟨_, rfl⟩
    rw [← hx2]
    refine zH_if_eq hz rfl (fun hb12 => ?_) (fun hb12 => ?_)
    · skip
      rw [hx2, hq_170] at hb12
      refine zH_w (c' := (36, [zR 8, .inl a1, .inl a2, .inl a3, .inl a4], [.inr (.inl (-2))])) 1 hz rfl ?_
      refine zH_ret hz rfl rfl ?_
      show _ = some (Sum.inr (Sum.inl _))
      rw [if_neg (by omega)]
    · skip
      rw [hx2, hq_170] at hb12
      refine zH_w (c' := (16, [zR 8, .inl a1, .inl a2, .inl a3, .inl a4], [.inl a3])) 1 hz rfl ?_
      refine zH_wE (c1 := (19, [zR 8, .inl a1, .inl a2, .inl a3, .inl a4], [])) 0 hz zp_170 (fh_170 a3) (by rfl) ?_
      show zH n (0, 0) 144 (19, [zR 8, .inl a1, .inl a2, .inl a3, .inl a4], [.inl (hf_170 M a3)]) M _
      obtain ⟨x3, hx3⟩ : ∃ x : Int, x = (hf_170 M a3) := ⟨_, rfl⟩
      rw [← hx3]
      refine zH_if_eq hz rfl (fun hb19 => ?_) (fun hb19 => ?_)
      · skip
        rw [hx3, hq_170] at hb19
        refine zH_w (c' := (36, [zR 8, .inl a1, .inl a2, .inl a3, .inl a4], [.inr (.inl (-2))])) 1 hz rfl ?_
        refine zH_ret hz rfl rfl ?_
        show _ = some (Sum.inr (Sum.inl _))
        rw [if_neg (by omega)]
      · skip
        rw [hx3, hq_170] at hb19
        refine zH_w (c' := (27, [zR 8, .inl a1, .inl a2, .inl a3, .inl a4], [.inl 15, .inl 0, .inl a4])) 3 hz rfl ?_
        refine zH_wE (c1 := (30, [zR 8, .inl a1, .inl a2, .inl a3, .inl a4], [])) 0 hz zp_169 (fh_169 a4 0 15) (by rfl) ?_
        show zH n (0, 0) 144 (30, [zR 8, .inl a1, .inl a2, .inl a3, .inl a4], [.inl (hf_169 M a4 0 15)]) M _
        obtain ⟨x4, hx4⟩ : ∃ x : Int, x = (hf_169 M a4 0 15) := ⟨_, rfl⟩
        rw [← hx4]
        refine zH_if_ne hz rfl (fun hb30 => ?_) (fun hb30 => ?_)
        · skip
          rw [hx4, hq_169] at hb30
          refine zH_w (c' := (43, [zR 8, .inl a1, .inl a2, .inl a3, .inl a4], [.inl (-1), .inl a3, zR 60])) 4 hz rfl ?_
          refine zH_wC (c1 := (46, [zR 8, .inl a1, .inl a2, .inl a3, .inl a4], [])) 0 hz zp_41 (fh_41_60 hj.1 a3 (-1)) (by rfl) ?_
          rintro _ M1 ⟨rfl, hG1⟩
          show zH n (0, 0) 144 (46, [zR 8, .inl a1, .inl a2, .inl a3, .inl a4], []) M1 _
          have hk1 := jK.of hj.1 (M := M1) (by rw [hG1.1 72 (by decide) (by decide) (by decide) (by decide)]; exact hr3) hG1
          refine zH_wC (c1 := (60, [zR 8, .inl a1, .inl a2, .inl a3, .inl a4], [.inl a1, zR 76])) 7 hz zp_32 (fh_32_76 hj hk1 a1 a2 (by omega) (hj.bi (s := a1) (by omega) a2).1 (hc.at hj (s := a1) (by omega) a2).1) (by rfl) ?_
          rintro _ M2 ⟨rfl, hk2⟩
          show zH n (0, 0) 144 (60, [zR 8, .inl a1, .inl a2, .inl a3, .inl a4], [.inl (jPs M (hCt M a3 (-1) (M 98 4).toNat (M 98 4).toNat) a1 (P (oBi (M 98) a1 a2)) (M 98 0).toNat), .inl a1, zR 76]) M2 _
          refine zH_wC (c1 := (63, [zR 8, .inl a1, .inl a2, .inl a3, .inl a4], [])) 0 hz zp_39 (fh_39_76 hj hk2 a1 (jPs M (hCt M a3 (-1) (M 98 4).toNat (M 98 4).toNat) a1 (P (oBi (M 98) a1 a2)) (M 98 0).toNat) (by omega) (jPs_r M (hCt M a3 (-1) (M 98 4).toNat (M 98 4).toNat) a1 (P (oBi (M 98) a1 a2)) (M 98 0).toNat (by have := hj.1.1.cnt0; omega))) (by rfl) ?_
          rintro _ M3 ⟨rfl, hk3, he3⟩
          show zH n (0, 0) 144 (63, [zR 8, .inl a1, .inl a2, .inl a3, .inl a4], []) M3 _
          rw [← hS] at he3
          have e0 := he3.1 0
          have hm13 : M3 74 13 = jMn S := he3.2
          refine zH_w (c' := (65, [zR 8, .inl a1, .inl a2, .inl a3, .inl a4], [.inl a4])) 1 hz rfl ?_
          refine zH_wf_ne (pc := 65) (n' := 68) (t := 78) (L := [zR 8, .inl a1, .inl a2, .inl a3, .inl a4]) (st := []) (x := a4) 0 hz (by rfl) (fun hb65 => ?_) (fun hb65 => ?_)
          · skip
            refine zH_wi_ne (pc := 82) (n' := 85) (t := 97) (L := [zR 8, .inl a1, .inl a2, .inl a3, .inl a4]) (st := []) (x := a4) (y := 15) 2 hz (by rfl) (fun hb82 => ?_) (fun hb82 => ?_)
            · skip
              refine zH_wE (c1 := (107, [zR 8, .inl a1, .inl a2, .inl a3, .inl a4], [])) 4 hz zp_60 (fh_60_72 hk3.2.2.2.2 a4) (by rfl) ?_
              show zH n (0, 0) 144 (107, [zR 8, .inl a1, .inl a2, .inl a3, .inl a4], [.inr (.inl (eBst (M3 72 3) (fun j => M3 75 j) a4))]) M3 _
              rw [show eBst (M3 72 3) (fun j => M3 75 j) a4 = eBst (S.2.2.1 : Int) S.2.2.2 a4 from by rw [show M3 72 3 = (S.2.2.1 : Int) from e0.2.1]; exact eBst_cg (fun j hj9 => e0.2.2.1 j (by rw [show (eCl M3 0).2.1 = (S.2.2.1 : Int) from e0.2.1]; exact hj9)) a4]
              refine zH_ret hz rfl rfl ?_
              show _ = some (Sum.inr (Sum.inl _))
              first
                | (rw [if_pos (by omega), if_neg (by omega), if_neg (by omega)])
                | (rw [if_pos (by omega), if_neg (by omega), if_pos (by omega), show hf_58_72 M3 12 = S.1 from e0.1 12 (by decide) (by decide)])
            · skip
              refine zH_wE (c1 := (94, [zR 8, .inl a1, .inl a2, .inl a3, .inl a4], [])) 3 hz zp_58 (fh_58_72 12) (by rfl) ?_
              show zH n (0, 0) 144 (94, [zR 8, .inl a1, .inl a2, .inl a3, .inl a4], [.inr (.inl (hf_58_72 M3 12))]) M3 _
              refine zH_w (c' := (107, [zR 8, .inl a1, .inl a2, .inl a3, .inl a4], [.inr (.inl (hf_58_72 M3 12))])) 1 hz rfl ?_
              refine zH_ret hz rfl rfl ?_
              show _ = some (Sum.inr (Sum.inl _))
              first
                | (rw [if_pos (by omega), if_neg (by omega), if_neg (by omega)])
                | (rw [if_pos (by omega), if_neg (by omega), if_pos (by omega), show hf_58_72 M3 12 = S.1 from e0.1 12 (by decide) (by decide)])
          · skip
            refine zH_wE (c1 := (77, [zR 8, .inl a1, .inl a2, .inl a3, .inl a4], [])) 3 hz zp_58 (fh_58_72 13) (by rfl) ?_
            show zH n (0, 0) 144 (77, [zR 8, .inl a1, .inl a2, .inl a3, .inl a4], [.inr (.inl (hf_58_72 M3 13))]) M3 _
            skip
            refine zH_ret hz rfl rfl ?_
            show _ = some (Sum.inr (Sum.inl _))
            rw [if_pos (by omega), if_pos (by omega), show hf_58_72 M3 13 = M3 74 13 from rfl]
            exact congrArg (fun x => some (Sum.inr (Sum.inl x))) hm13
        · skip
          rw [hx4, hq_169] at hb30
          refine zH_w (c' := (36, [zR 8, .inl a1, .inl a2, .inl a3, .inl a4], [.inr (.inl (-2))])) 1 hz rfl ?_
          refine zH_ret hz rfl rfl ?_
          show _ = some (Sum.inr (Sum.inl _))
          rw [if_neg (by omega)]
