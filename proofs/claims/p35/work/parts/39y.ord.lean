/-! ORDINANCES: TOLD, CHOSEN, BINDING -/
section YO
variable {M Mo : zM} {a b : Int}
theorem zrow_next {M : zM} {r s n : Nat} {v : Nat → Int} : zput (zrow M r s n v) r (s + n) (v n) = zrow M r s (n + 1) v := by
  funext i j
  by_cases hi : i = r
  · subst hi
    by_cases hk : j = s + n
    · subst hk; rw [qput_eq, zrow_in (by omega), show s + n - s = n by omega]
    · rw [qput_nk hk]
      by_cases hj : s ≤ j ∧ j < s + n
      · rw [zrow_in hj, zrow_in (by omega)]
      · rw [zrow_out hj, zrow_out (by omega)]
  · rw [qput_ne hi, zrow_ne hi, zrow_ne hi]
theorem zrow_0 {M : zM} {r s : Nat} {v : Nat → Int} : zrow M r s 0 v = M := by
  funext i j
  by_cases hi : i = r
  · subst hi; rw [zrow_out (by omega)]
  · rw [zrow_ne hi]
theorem oNx {M : zM} {A n : Nat} {v x : Nat → Int} (hn : n < 81) : zput (zput (zrow (zrow M 98 A n v) 98 (A + 81) n x) 98 (A + n) (v n)) 98 (A + 81 + n) (x n) = zrow (zrow M 98 A (n + 1) v) 98 (A + 81) (n + 1) x := by
  rw [← zrow_next (M := zrow M 98 A (n + 1) v)]
  congr 1
  rw [← zrow_next (M := M)]
  funext i j
  by_cases hi : i = 98
  · subst hi
    by_cases hk : j = A + n
    · subst hk; rw [qput_eq, zrow_out (by omega), qput_eq]
    · rw [qput_nk hk]
      by_cases hj : A + 81 ≤ j ∧ j < A + 81 + n
      · rw [zrow_in hj, zrow_in hj]
      · rw [zrow_out hj, zrow_out hj, qput_nk hk]
  · rw [qput_ne hi, zrow_ne hi, zrow_ne hi, zrow_ne hi, qput_ne hi, zrow_ne hi]
theorem oS22 {x : Int} (t : M 22 0 = 10 ∧ M 22 1 = 164) (ha : 0 ≤ a ∧ a < 10) (hb : 0 ≤ b ∧ b < 164) : hR_set M 22 a b x = zput M 23 (164 * a.toNat + b.toNat) x := by
  unfold hR_set
  rw [if_neg (by omega), if_neg (by omega), if_neg (by omega), if_pos (by omega), t.2, show w32 (w32 (a * 164) + b) = a * 164 + b from by rw [w32_id (x := a * 164) (by omega), w32_id (by omega)], show (a * 164 + b).toNat = 164 * a.toNat + b.toNat by omega]
theorem oG68 (t : M 68 0 = 1 ∧ M 68 1 = 81) (hb : 0 ≤ b ∧ b < 81) : hR_get M 68 0 b = M 69 b.toNat := by
  unfold hR_get
  rw [if_neg (by omega), if_neg (by omega), if_neg (by omega), if_pos (by omega), t.2, w32_id (x := 0 * 81) (by omega), w32_id (by omega), show (0 * 81 + b).toNat = b.toNat by omega]
theorem xP.cg (h : xP Mo a) (e : ∀ r, r ≠ 22 → r ≠ 23 → r ≠ 67 → r ≠ 69 → r ≠ 70 → r ≠ 71 → M r = Mo r) (e2 : M 22 0 = Mo 22 0 ∧ M 22 1 = Mo 22 1) : xP M a := by
  obtain ⟨h1, h2, h3, h4, h5, h6, h7⟩ := h
  have d : ∀ r, (r < 22 ∨ (23 < r ∧ r < 67) ∨ r = 68 ∨ 72 ≤ r) → M r = Mo r := fun r hr => e r (by omega) (by omega) (by omega) (by omega) (by omega) (by omega)
  have e98 : M 98 = Mo 98 := d 98 (by decide)
  refine ⟨⟨?_, ?_, ?_, fun r k hr => by rw [d r (by omega)]; exact h1.2.2.2.1 r k hr, ?_⟩, ?_, ?_, ?_, ?_, h6, ?_⟩
  · rw [e98]; exact h1.1
  · rw [d 99 (by decide)]; exact h1.2.1
  · rw [d 99 (by decide)]; exact h1.2.2.1
  · have ht := h1.2.2.2.2
    unfold qTS at ht ⊢
    rw [d 105 (by decide), d 106 (by decide), d 97 (by decide)]
    exact ht
  · rw [e98, d 21 (by decide)]; exact h2
  · unfold hTb at h3 ⊢
    rw [e2.1, e2.2, d 10 (by decide), d 12 (by decide), d 14 (by decide), d 16 (by decide), d 18 (by decide), d 20 (by decide), d 24 (by decide)]; exact h3
  · unfold xCon at h4 ⊢
    rw [d 4 (by decide), d 6 (by decide), d 5 (by decide), d 7 (by decide), d 1 (by decide)]; exact h4
  · rw [d 68 (by decide)]; exact h5
  · rw [e98]; exact h7
theorem xc_cg (e : M 98 = Mo 98) : xc M a = xc Mo a ∧ xL M a = xL Mo a := ⟨funext fun j => congrFun e _, congrArg Int.toNat (congrFun e _)⟩
theorem oFin {M M2 M5 M6 M7 M8 : zM} {u : Nat} {a3 a4 : Int} (h5 : M5 = zput (zput (zput M2 22 3 ((u : Int) + 1)) 23 (164 * u) a3) 23 (164 * u + 1) a4) (h6 : M6 = zrow M5 23 (164 * u + 83) 81 (M5 69)) (f7 : ∀ r, r ≠ 67 → r ≠ 69 → r ≠ 70 → r ≠ 71 → M7 r = M6 r) (h8 : M8 = zrow M7 23 (164 * u + 2) 81 (M7 69)) (f2 : ∀ r, r ≠ 67 → r ≠ 69 → r ≠ 70 → r ≠ 71 → M2 r = M r) : (∀ r, r ≠ 22 → r ≠ 23 → r ≠ 67 → r ≠ 69 → r ≠ 70 → r ≠ 71 → M8 r = M r) ∧ (M8 22 3 = (u : Int) + 1 ∧ ∀ j, j ≠ 3 → M8 22 j = M 22 j) ∧ (∀ j, ¬ (164 * u ≤ j ∧ j < 164 * u + 164) → M8 23 j = M 23 j) ∧ M8 23 (164 * u) = a3 ∧ M8 23 (164 * u + 1) = a4 ∧ (∀ j, j < 81 → M8 23 (164 * u + 2 + j) = M7 69 j) ∧ (∀ j, j < 81 → M8 23 (164 * u + 83 + j) = M2 69 j) := by
  have g5 : ∀ r, r ≠ 22 → r ≠ 23 → M5 r = M2 r := fun r q1 q2 => by rw [h5, zput_oth q2, zput_oth q2, zput_oth q1]
  have g6 : ∀ r, r ≠ 23 → M6 r = M5 r := fun r hr => by rw [h6, zrow_oth hr]
  have g8 : ∀ r, r ≠ 23 → M8 r = M7 r := fun r hr => by rw [h8, zrow_oth hr]
  have z22 : ∀ j, M8 22 j = zput M2 22 3 ((u : Int) + 1) 22 j := fun j => by
    rw [g8 22 (by decide), f7 22 (by decide) (by decide) (by decide) (by decide), g6 22 (by decide), h5, zput_oth (by decide), zput_oth (by decide)]
  have z23 : ∀ j, M7 23 j = zrow M5 23 (164 * u + 83) 81 (M5 69) 23 j := fun j => by
    rw [f7 23 (by decide) (by decide) (by decide) (by decide), h6]
  refine ⟨fun r q1 q2 q3 q4 q5 q6 => (g8 r q2).trans ((f7 r q3 q4 q5 q6).trans ((g6 r q2).trans ((g5 r q1 q2).trans (f2 r q3 q4 q5 q6)))), ⟨?_, fun j hj => ?_⟩, fun j hj => ?_, ?_, ?_, fun j hj => ?_, fun j hj => ?_⟩
  · rw [z22, qput_eq]
  · rw [z22, qput_nk hj, f2 22 (by decide) (by decide) (by decide) (by decide)]
  · rw [h8, zrow_out (by omega), z23, zrow_out (by omega), h5, qput_nk (by omega), qput_nk (by omega), qput_ne (by decide), f2 23 (by decide) (by decide) (by decide) (by decide)]
  · rw [h8, zrow_out (by omega), z23, zrow_out (by omega), h5, qput_nk (by omega), qput_eq]
  · rw [h8, zrow_out (by omega), z23, zrow_out (by omega), h5, qput_eq]
  · rw [h8, zrow_in (by omega), show 164 * u + 2 + j - (164 * u + 2) = j by omega]
  · rw [h8, zrow_out (by omega), z23, zrow_in (by omega), show 164 * u + 83 + j - (164 * u + 83) = j by omega, g5 69 (by decide) (by decide)]
/-- what ordain answers -/
noncomputable def kO (M : zM) (a1 a2 a3 : Int) : Int := if (0 ≤ a1 ∧ a1 ≤ 7) ∧ (0 ≤ a2 ∧ a2 ≤ 7) ∧ 0 ≤ a3 ∧ a3 ≤ 9999 then (if xFt (xc M a1) (xL M a1) = -1 ∧ xFt (xc M a2) (xL M a2) = -1 then (if M 98 5 = 10 then -4 else M 98 5) else -3) else -2
theorem kO_cg {a1 a2 a3 : Int} (e : M 98 = Mo 98) : kO M a1 a2 a3 = kO Mo a1 a2 a3 := by
  unfold kO
  rw [(xc_cg e).1, (xc_cg e).2, (xc_cg (a := a2) e).1, (xc_cg (a := a2) e).2, e]
theorem xRel.len {a : Int} {S : xSt} (h : xRel Mo a S M) (hL : xL Mo a ≤ 80) (h1 : S.2.2.2.2.2.1 = -1) : S.2.2.2.2.1.length ≤ 80 ∧ M 69 0 = (S.2.2.2.2.1.length : Int) ∧ xC (M 69) S.2.2.2.2.1 := by
  obtain ⟨z1, -, z3, z4, -⟩ := h.2.2 h1
  exact ⟨by omega, z1.2.2.2.1, z1.2.2.2.2⟩
end YO
set_option maxRecDepth 100000 in
theorem fh_76_22 {n : Nat} {M : zM} (t22 : M 22 0 = 10 ∧ M 22 1 = 164) (t68 : M 68 0 = 1 ∧ M 68 1 = 81) {u c : Nat} (a2 a3 : Int) (h2 : a2 = (u : Int)) (h3 : a3 = (c : Int)) (hu : u < 10) (hc : c ≤ 83) : zH n (0, 0) 76 (0, zini [zR 67, zR 22, .inl a2, .inl a3] 5, []) M (fun r M' => r = none ∧ M' = zrow M 23 (164 * u + c) 81 (M 69)) := by
  have hz := zp_76
  show zH n (0, 0) 76 (0, [zR 67, zR 22, .inl a2, .inl a3, zN], []) M _
  refine zH_w (c' := (3, [zR 67, zR 22, .inl a2, .inl a3, .inl 0], [])) 2 hz rfl ?_
  have lp3 : ∀ (N : Nat) (i : Int) (M5 : zM), ((81 - i).toNat) < N → (0 ≤ i ∧ i ≤ 81) → (M5 = zrow M 23 (164 * u + c) i.toNat (M 69)) → zH n (0, 0) 76 (3, [zR 67, zR 22, .inl a2, .inl a3, .inl i], []) M5 (fun r M' => r = none ∧ M' = zrow M 23 (164 * u + c) 81 (M 69)) := by
    intro N
    induction N with
    | zero => intro i M5 hN; exact absurd hN (Nat.not_lt_zero _)
    | succ N ih3 =>
      intro i M5 hN hi hM
      refine zH_w (c' := (7, [zR 67, zR 22, .inl a2, .inl a3, .inl i], [.inl 81, .inl i])) 2 hz rfl ?_
      refine zH_wi_ge (pc := 7) (n' := 10) (t := 35) (L := [zR 67, zR 22, .inl a2, .inl a3, .inl i]) (st := []) (x := i) (y := 81) 0 hz (by rfl) (fun hb7 => ?_) (fun hb7 => ?_)
      · skip
        exact zH_wr (r := none) 0 hz (by rfl) (⟨rfl, by rw [hM, show i.toNat = 81 by omega]⟩)
      · skip
        refine zH_wE (c1 := (26, [zR 67, zR 22, .inl a2, .inl a3, .inl i], [.inl (w32 (a3 + i)), .inl a2, zR 22])) 9 hz zp_106 (fh_106_68 0 i) (by rfl) ?_
        show zH n (0, 0) 76 (26, [zR 67, zR 22, .inl a2, .inl a3, .inl i], [.inl (hR_get M5 68 0 i), .inl (w32 (a3 + i)), .inl a2, zR 22]) M5 _
        rw [show hR_get M5 68 0 i = M 69 i.toNat from by rw [oG68 (by rw [hM, zrow_oth (by decide)]; exact t68) (by omega), hM, zrow_oth (by decide)]]
        refine zH_wE (c1 := (29, [zR 67, zR 22, .inl a2, .inl a3, .inl i], [])) 0 hz zp_107 (fh_107_22 a2 (w32 (a3 + i)) (M 69 i.toNat)) (by rfl) ?_
        show zH n (0, 0) 76 (29, [zR 67, zR 22, .inl a2, .inl a3, .inl i], []) (hR_set M5 22 a2 (w32 (a3 + i)) (M 69 i.toNat)) _
        refine zH_w (c' := (3, [zR 67, zR 22, .inl a2, .inl a3, .inl (i + 1)], [])) 2 hz (by rw [show (.inl (i + 1) : zV) = .inl (w32 (i + 1)) from by rw [w32_id (by omega)]]; rfl) ?_
        refine ih3 (i + 1) (hR_set M5 22 a2 (w32 (a3 + i)) (M 69 i.toNat)) (by omega) ?_ ?_
        · omega
        · have t5 : M5 22 0 = 10 ∧ M5 22 1 = 164 := by rw [hM, zrow_oth (by decide)]; exact t22
          rw [oS22 t5 (by omega) (by rw [w32_id (by omega)]; omega), w32_id (by omega), h2, h3, show 164 * ((u : Nat) : Int).toNat + (((c : Nat) : Int) + i).toNat = 164 * u + c + i.toNat by omega, show (i + 1).toNat = i.toNat + 1 by omega, hM]
          exact zrow_next
  refine lp3 (82) 0 M (by omega) ?_ ?_
  · omega
  · exact zrow_0.symm
set_option maxRecDepth 100000 in
theorem fh_76_n {n : Nat} {M : zM} (a2 a3 : Int) (h2 : a2 < 0) : zH n (0, 0) 76 (0, zini [zR 67, zR 22, .inl a2, .inl a3] 5, []) M (fun r M' => r = none ∧ M' = M) := by
  have hz := zp_76
  show zH n (0, 0) 76 (0, [zR 67, zR 22, .inl a2, .inl a3, zN], []) M _
  refine zH_w (c' := (3, [zR 67, zR 22, .inl a2, .inl a3, .inl 0], [])) 2 hz rfl ?_
  have lp3 : ∀ (N : Nat) (i : Int) (M5 : zM), ((81 - i).toNat) < N → (0 ≤ i ∧ i ≤ 81) → (M5 = M) → zH n (0, 0) 76 (3, [zR 67, zR 22, .inl a2, .inl a3, .inl i], []) M5 (fun r M' => r = none ∧ M' = M) := by
    intro N
    induction N with
    | zero => intro i M5 hN; exact absurd hN (Nat.not_lt_zero _)
    | succ N ih3 =>
      intro i M5 hN hi hM
      refine zH_w (c' := (7, [zR 67, zR 22, .inl a2, .inl a3, .inl i], [.inl 81, .inl i])) 2 hz rfl ?_
      refine zH_wi_ge (pc := 7) (n' := 10) (t := 35) (L := [zR 67, zR 22, .inl a2, .inl a3, .inl i]) (st := []) (x := i) (y := 81) 0 hz (by rfl) (fun hb7 => ?_) (fun hb7 => ?_)
      · skip
        exact zH_wr (r := none) 0 hz (by rfl) (⟨rfl, hM⟩)
      · skip
        refine zH_wE (c1 := (26, [zR 67, zR 22, .inl a2, .inl a3, .inl i], [.inl (w32 (a3 + i)), .inl a2, zR 22])) 9 hz zp_106 (fh_106_68 0 i) (by rfl) ?_
        show zH n (0, 0) 76 (26, [zR 67, zR 22, .inl a2, .inl a3, .inl i], [.inl (hR_get M5 68 0 i), .inl (w32 (a3 + i)), .inl a2, zR 22]) M5 _
        refine zH_wE (c1 := (29, [zR 67, zR 22, .inl a2, .inl a3, .inl i], [])) 0 hz zp_107 (fh_107_22 a2 (w32 (a3 + i)) (hR_get M5 68 0 i)) (by rfl) ?_
        show zH n (0, 0) 76 (29, [zR 67, zR 22, .inl a2, .inl a3, .inl i], []) (hR_set M5 22 a2 (w32 (a3 + i)) (hR_get M5 68 0 i)) _
        refine zH_w (c' := (3, [zR 67, zR 22, .inl a2, .inl a3, .inl (i + 1)], [])) 2 hz (by rw [show (.inl (i + 1) : zV) = .inl (w32 (i + 1)) from by rw [w32_id (by omega)]]; rfl) ?_
        refine ih3 (i + 1) (hR_set M5 22 a2 (w32 (a3 + i)) (hR_get M5 68 0 i)) (by omega) ?_ ?_
        · omega
        · rw [hS_neg h2]; exact hM
  refine lp3 (82) 0 M (by omega) ?_ ?_
  · omega
  · rfl
set_option maxRecDepth 100000 in
theorem fh_152_f {n : Nat} {M : zM} {u : Nat} (hu : M 98 5 = (u : Int)) (h10 : u = 10) (k5 : M 22 3 = M 98 5) (t22 : M 22 0 = 10 ∧ M 22 1 = 164) (t70 : M 70 0 = 80 ∧ M 70 1 = 1) (a1 a2 a3 a4 : Int) (hp : ∀ a : Int, 0 ≤ a ∧ a ≤ 7 → xP M a) (h4 : a4 = 0 ∨ a4 = 1) : zH n (0, 0) 152 (0, zini [zR 8, .inl a1, .inl a2, .inl a3, .inl a4] 6, []) M (fun r M' => r = some (.inl (kO M a1 a2 a3)) ∧ (∀ r, r ≠ 22 → r ≠ 23 → r ≠ 67 → r ≠ 69 → r ≠ 70 → r ≠ 71 → M' r = M r) ∧ (kO M a1 a2 a3 < 0 → M' 22 = M 22 ∧ M' 23 = M 23) ∧ (0 ≤ kO M a1 a2 a3 → (M' 22 3 = M 98 5 + 1 ∧ ∀ j, j ≠ 3 → M' 22 j = M 22 j) ∧ (∀ j, ¬ (164 * (M 98 5).toNat ≤ j ∧ j < 164 * (M 98 5).toNat + 164) → M' 23 j = M 23 j) ∧ M' 23 (164 * (M 98 5).toNat) = a3 ∧ M' 23 (164 * (M 98 5).toNat + 1) = a4 ∧ ((xTd (xc M a1) (xL M a1)).length ≤ 80 ∧ M' 23 (164 * (M 98 5).toNat + 2) = ((xTd (xc M a1) (xL M a1)).length : Int) ∧ xC (fun j => M' 23 (164 * (M 98 5).toNat + 2 + j)) (xTd (xc M a1) (xL M a1))) ∧ ((xTd (xc M a2) (xL M a2)).length ≤ 80 ∧ M' 23 (164 * (M 98 5).toNat + 83) = ((xTd (xc M a2) (xL M a2)).length : Int) ∧ xC (fun j => M' 23 (164 * (M 98 5).toNat + 83 + j)) (xTd (xc M a2) (xL M a2))))) := by
  have hz := zp_152
  show zH n (0, 0) 152 (0, [zR 8, .inl a1, .inl a2, .inl a3, .inl a4, zN], []) M _
  refine zH_wE (c1 := (4, [zR 8, .inl a1, .inl a2, .inl a3, .inl a4, zN], [])) 1 hz zp_173 (fh_173 a1) (by rfl) ?_
  show zH n (0, 0) 152 (4, [zR 8, .inl a1, .inl a2, .inl a3, .inl a4, zN], [.inl (hf_173 M a1)]) M _
  obtain ⟨x1, hx1⟩ : ∃ x : Int, x = (hf_173 M a1) := ⟨_, rfl⟩
  rw [← hx1]
  refine zH_if_eq hz rfl (fun hb4 => ?_) (fun hb4 => ?_)
  · skip
    rw [hx1, hq_173] at hb4
    refine zH_w (c' := (23, [zR 8, .inl a1, .inl a2, .inl a3, .inl a4, zN], [.inl (-2)])) 1 hz rfl ?_
    refine zH_ret hz rfl rfl ?_
    have hk : kO M a1 a2 a3 = -2 := by unfold kO; rw [if_neg (by omega)]
    exact ⟨by rw [hk], fun _ _ _ _ _ _ _ => rfl, fun _ => ⟨rfl, rfl⟩, fun q => absurd q (by omega)⟩
  · skip
    rw [hx1, hq_173] at hb4
    refine zH_w (c' := (8, [zR 8, .inl a1, .inl a2, .inl a3, .inl a4, zN], [.inl a2])) 1 hz rfl ?_
    refine zH_wE (c1 := (11, [zR 8, .inl a1, .inl a2, .inl a3, .inl a4, zN], [])) 0 hz zp_173 (fh_173 a2) (by rfl) ?_
    show zH n (0, 0) 152 (11, [zR 8, .inl a1, .inl a2, .inl a3, .inl a4, zN], [.inl (hf_173 M a2)]) M _
    obtain ⟨x2, hx2⟩ : ∃ x : Int, x = (hf_173 M a2) := ⟨_, rfl⟩
    rw [← hx2]
    refine zH_if_eq hz rfl (fun hb11 => ?_) (fun hb11 => ?_)
    · skip
      rw [hx2, hq_173] at hb11
      refine zH_w (c' := (23, [zR 8, .inl a1, .inl a2, .inl a3, .inl a4, zN], [.inl (-2)])) 1 hz rfl ?_
      refine zH_ret hz rfl rfl ?_
      have hk : kO M a1 a2 a3 = -2 := by unfold kO; rw [if_neg (by omega)]
      exact ⟨by rw [hk], fun _ _ _ _ _ _ _ => rfl, fun _ => ⟨rfl, rfl⟩, fun q => absurd q (by omega)⟩
    · skip
      rw [hx2, hq_173] at hb11
      refine zH_w (c' := (15, [zR 8, .inl a1, .inl a2, .inl a3, .inl a4, zN], [.inl a3])) 1 hz rfl ?_
      refine zH_wE (c1 := (18, [zR 8, .inl a1, .inl a2, .inl a3, .inl a4, zN], [])) 0 hz zp_170 (fh_170 a3) (by rfl) ?_
      show zH n (0, 0) 152 (18, [zR 8, .inl a1, .inl a2, .inl a3, .inl a4, zN], [.inl (hf_170 M a3)]) M _
      obtain ⟨x3, hx3⟩ : ∃ x : Int, x = (hf_170 M a3) := ⟨_, rfl⟩
      rw [← hx3]
      refine zH_if_ne hz rfl (fun hb18 => ?_) (fun hb18 => ?_)
      · skip
        rw [hx3, hq_170] at hb18
        refine zH_w (c' := (29, [zR 8, .inl a1, .inl a2, .inl a3, .inl a4, zN], [.inl a1, zR 67])) 3 hz rfl ?_
        refine zH_wC (c1 := (32, [zR 8, .inl a1, .inl a2, .inl a3, .inl a4, zN], [])) 0 hz zp_75 (fh_75_67 a1 (hp a1 (by omega)) t70) (by rfl) ?_
        rintro _ M1 ⟨rfl, hr1⟩
        show zH n (0, 0) 152 (32, [zR 8, .inl a1, .inl a2, .inl a3, .inl a4, zN], [.inl ((xIt (xc M a1) (xL M a1) 81).2.2.2.2.2.1)]) M1 _
        rw [← xFt_81]
        obtain ⟨y1, hy1⟩ : ∃ x : Int, x = (xFt (xc M a1) (xL M a1)) := ⟨_, rfl⟩
        rw [← hy1]
        refine zH_w (c' := (33, [zR 8, .inl a1, .inl a2, .inl a3, .inl a4, zN], [.inl (-1), .inl y1])) 1 hz rfl ?_
        refine zH_wi_ne (pc := 33) (n' := 36) (t := 48) (L := [zR 8, .inl a1, .inl a2, .inl a3, .inl a4, zN]) (st := []) (x := y1) (y := (-1)) 0 hz (by rfl) (fun hb33 => ?_) (fun hb33 => ?_)
        · skip
          have hk : kO M a1 a2 a3 = -3 := by unfold kO; rw [if_pos (by omega), if_neg (fun q => by have := q.1; omega)]
          have hF := hr1.2.1
          exact zH_wr (r := some (.inl (-3))) 1 hz (by rfl) (⟨by rw [hk], fun r _ _ q1 q2 q3 q4 => hF r q1 q2 q3 q4, fun _ => ⟨hF 22 (by decide) (by decide) (by decide) (by decide), hF 23 (by decide) (by decide) (by decide) (by decide)⟩, fun q => absurd q (by omega)⟩)
        · skip
          have q1 : xFt (xc M a1) (xL M a1) = -1 := by omega
          have z1 := hr1.2.2 (by rw [← xFt_81]; exact q1)
          have f1 := hr1.2.1
          have p2 : xP M1 a2 := (hp a2 (by omega)).cg (fun r _ _ q1 q2 q3 q4 => f1 r q1 q2 q3 q4) (by rw [f1 22 (by decide) (by decide) (by decide) (by decide)]; exact ⟨rfl, rfl⟩)
          have t71 : M1 70 0 = 80 ∧ M1 70 1 = 1 := ⟨z1.1.2.1.1, z1.1.2.1.2.1⟩
          have c2 := xc_cg (a := a2) (f1 98 (by decide) (by decide) (by decide) (by decide))
          refine zH_wC (c1 := (44, [zR 8, .inl a1, .inl a2, .inl a3, .inl a4, zN], [])) 3 hz zp_75 (fh_75_67 a2 p2 t71) (by rfl) ?_
          rintro _ M2 ⟨rfl, hr2⟩
          show zH n (0, 0) 152 (44, [zR 8, .inl a1, .inl a2, .inl a3, .inl a4, zN], [.inl ((xIt (xc M1 a2) (xL M1 a2) 81).2.2.2.2.2.1)]) M2 _
          rw [← xFt_81]
          rw [show xFt (xc M1 a2) (xL M1 a2) = xFt (xc M a2) (xL M a2) from by rw [c2.1, c2.2]]
          obtain ⟨y2, hy2⟩ : ∃ x : Int, x = (xFt (xc M a2) (xL M a2)) := ⟨_, rfl⟩
          rw [← hy2]
          refine zH_w (c' := (45, [zR 8, .inl a1, .inl a2, .inl a3, .inl a4, zN], [.inl (-1), .inl y2])) 1 hz rfl ?_
          refine zH_wi_eq (pc := 45) (n' := 48) (t := 51) (L := [zR 8, .inl a1, .inl a2, .inl a3, .inl a4, zN]) (st := []) (x := y2) (y := (-1)) 0 hz (by rfl) (fun hb45 => ?_) (fun hb45 => ?_)
          · skip
            have q2 : xFt (xc M a2) (xL M a2) = -1 := by omega
            rw [c2.1, c2.2] at hr2
            have z2 := hr2.2.2 (by rw [← xFt_81]; exact q2)
            have f2 : ∀ r, r ≠ 67 → r ≠ 69 → r ≠ 70 → r ≠ 71 → M2 r = M r := fun r q1 q2 q3 q4 => (hr2.2.1 r q1 q2 q3 q4).trans (f1 r q1 q2 q3 q4)
            have t72 : M2 70 0 = 80 ∧ M2 70 1 = 1 := ⟨z2.1.2.1.1, z2.1.2.1.2.1⟩
            have e22 : M2 22 = M 22 := f2 22 (by decide) (by decide) (by decide) (by decide)
            have eop : hR_open M2 22 = (-4, M2) := by
              unfold hR_open
              rw [e22, k5, hu, t22.1]
              rw [if_neg (by omega)]
            have hk : kO M a1 a2 a3 = -4 := by unfold kO; rw [if_pos (by omega), if_pos ⟨q1, q2⟩, hu]; rw [if_pos (by omega)]
            have t68 := (hp a1 (by omega)).2.2.2.2.1
            refine zH_w (c' := (58, [zR 8, .inl a1, .inl a2, .inl a3, .inl a4, zN], [zR 22])) 3 hz rfl ?_
            refine zH_wC (c1 := (61, [zR 8, .inl a1, .inl a2, .inl a3, .inl a4, zN], [])) 0 hz zp_103 ((zH.mono (Q' := fun r M' => r = some (.inl (-4)) ∧ M' = M2) fh_103_22 (fun r M' h => by rw [eop] at h; exact h))) (by rfl) ?_
            rintro _ M3 ⟨rfl, hM3⟩
            show zH n (0, 0) 152 (61, [zR 8, .inl a1, .inl a2, .inl a3, .inl a4, zN], [.inl (-4)]) M3 _
            refine zH_wE (c1 := (77, [zR 8, .inl a1, .inl a2, .inl a3, .inl a4, .inl (-4)], [])) 7 hz zp_107 (fh_107_22 (-4) 0 a3) (by rfl) ?_
            show zH n (0, 0) 152 (77, [zR 8, .inl a1, .inl a2, .inl a3, .inl a4, .inl (-4)], []) (hR_set M3 22 (-4) 0 a3) _
            obtain ⟨M4, hM4⟩ : ∃ X : zM, X = hR_set M3 22 (-4) 0 a3 := ⟨_, rfl⟩
            rw [← hM4]
            have lp100 : ∀ (M5 : zM), (M5 = M2) → zH n (0, 0) 152 (100, [zR 8, .inl a1, .inl a2, .inl a3, .inl a4, .inl (-4)], []) M5 (fun r M' => r = some (.inl (kO M a1 a2 a3)) ∧ (∀ r, r ≠ 22 → r ≠ 23 → r ≠ 67 → r ≠ 69 → r ≠ 70 → r ≠ 71 → M' r = M r) ∧ (kO M a1 a2 a3 < 0 → M' 22 = M 22 ∧ M' 23 = M 23) ∧ (0 ≤ kO M a1 a2 a3 → (M' 22 3 = M 98 5 + 1 ∧ ∀ j, j ≠ 3 → M' 22 j = M 22 j) ∧ (∀ j, ¬ (164 * (M 98 5).toNat ≤ j ∧ j < 164 * (M 98 5).toNat + 164) → M' 23 j = M 23 j) ∧ M' 23 (164 * (M 98 5).toNat) = a3 ∧ M' 23 (164 * (M 98 5).toNat + 1) = a4 ∧ ((xTd (xc M a1) (xL M a1)).length ≤ 80 ∧ M' 23 (164 * (M 98 5).toNat + 2) = ((xTd (xc M a1) (xL M a1)).length : Int) ∧ xC (fun j => M' 23 (164 * (M 98 5).toNat + 2 + j)) (xTd (xc M a1) (xL M a1))) ∧ ((xTd (xc M a2) (xL M a2)).length ≤ 80 ∧ M' 23 (164 * (M 98 5).toNat + 83) = ((xTd (xc M a2) (xL M a2)).length : Int) ∧ xC (fun j => M' 23 (164 * (M 98 5).toNat + 83 + j)) (xTd (xc M a2) (xL M a2))))) := by
              intro M5 h100
              refine zH_w (c' := (115, [zR 8, .inl a1, .inl a2, .inl a3, .inl a4, .inl (-4)], [.inl 83, .inl (-4), zR 22, zR 67])) 7 hz rfl ?_
              refine zH_wE (c1 := (118, [zR 8, .inl a1, .inl a2, .inl a3, .inl a4, .inl (-4)], [])) 0 hz zp_76 (fh_76_n (-4) 83 (by omega)) (by rfl) ?_
              show zH n (0, 0) 152 (118, [zR 8, .inl a1, .inl a2, .inl a3, .inl a4, .inl (-4)], []) M5 _
              have f5 : ∀ r, r ≠ 67 → r ≠ 69 → r ≠ 70 → r ≠ 71 → M5 r = M r := by rw [h100]; exact f2
              have p6 : xP M5 a1 := (hp a1 (by omega)).cg (fun r _ _ q1 q2 q3 q4 => f5 r q1 q2 q3 q4) (by rw [f5 22 (by decide) (by decide) (by decide) (by decide)]; exact ⟨rfl, rfl⟩)
              have t76 : M5 70 0 = 80 ∧ M5 70 1 = 1 := by rw [h100]; exact t72
              refine zH_wC (c1 := (126, [zR 8, .inl a1, .inl a2, .inl a3, .inl a4, .inl (-4)], [])) 3 hz zp_75 (fh_75_67 a1 p6 t76) (by rfl) ?_
              rintro _ M7 ⟨rfl, hr7⟩
              show zH n (0, 0) 152 (126, [zR 8, .inl a1, .inl a2, .inl a3, .inl a4, .inl (-4)], [.inl ((xIt (xc M5 a1) (xL M5 a1) 81).2.2.2.2.2.1)]) M7 _
              refine zH_wE (c1 := (144, [zR 8, .inl a1, .inl a2, .inl a3, .inl a4, .inl (-4)], [])) 8 hz zp_76 (fh_76_n (-4) 2 (by omega)) (by rfl) ?_
              show zH n (0, 0) 152 (144, [zR 8, .inl a1, .inl a2, .inl a3, .inl a4, .inl (-4)], []) M7 _
              exact zH_wr (r := some (.inl (-4))) 1 hz (by rfl) (⟨by rw [hk], fun r _ _ q1 q2 q3 q4 => (hr7.2.1 r q1 q2 q3 q4).trans (f5 r q1 q2 q3 q4), fun _ => ⟨(hr7.2.1 22 (by decide) (by decide) (by decide) (by decide)).trans (f5 22 (by decide) (by decide) (by decide) (by decide)), (hr7.2.1 23 (by decide) (by decide) (by decide) (by decide)).trans (f5 23 (by decide) (by decide) (by decide) (by decide))⟩, fun q => absurd q (by omega)⟩)
            refine zH_w (c' := (89, [zR 8, .inl a1, .inl a2, .inl a3, .inl a4, .inl (-4)], [.inl a4, .inl 1, .inl (-4), zR 22])) 6 hz rfl ?_
            refine zH_wf_eq (pc := 89) (n' := 92) (t := 96) (L := [zR 8, .inl a1, .inl a2, .inl a3, .inl a4, .inl (-4)]) (st := [.inl 1, .inl (-4), zR 22]) (x := a4) 0 hz (by rfl) (fun hb89 => ?_) (fun hb89 => ?_)
            · skip
              refine zH_wE (c1 := (100, [zR 8, .inl a1, .inl a2, .inl a3, .inl a4, .inl (-4)], [])) 1 hz zp_107 (fh_107_22 (-4) 1 0) (by rfl) ?_
              show zH n (0, 0) 152 (100, [zR 8, .inl a1, .inl a2, .inl a3, .inl a4, .inl (-4)], []) (hR_set M4 22 (-4) 1 0) _
              refine lp100 (hR_set M4 22 (-4) 1 0) ?_
              · rw [hS_neg (by omega), hM4, hS_neg (by omega)]; exact hM3
            · skip
              refine zH_wE (c1 := (100, [zR 8, .inl a1, .inl a2, .inl a3, .inl a4, .inl (-4)], [])) 2 hz zp_107 (fh_107_22 (-4) 1 1) (by rfl) ?_
              show zH n (0, 0) 152 (100, [zR 8, .inl a1, .inl a2, .inl a3, .inl a4, .inl (-4)], []) (hR_set M4 22 (-4) 1 1) _
              refine lp100 (hR_set M4 22 (-4) 1 1) ?_
              · rw [hS_neg (by omega), hM4, hS_neg (by omega)]; exact hM3
          · skip
            have hk : kO M a1 a2 a3 = -3 := by unfold kO; rw [if_pos (by omega), if_neg (fun q => by have := q.2; omega)]
            have hF : ∀ r, r ≠ 67 → r ≠ 69 → r ≠ 70 → r ≠ 71 → M2 r = M r := fun r q1 q2 q3 q4 => (hr2.2.1 r q1 q2 q3 q4).trans (f1 r q1 q2 q3 q4)
            exact zH_wr (r := some (.inl (-3))) 1 hz (by rfl) (⟨by rw [hk], fun r _ _ q1 q2 q3 q4 => hF r q1 q2 q3 q4, fun _ => ⟨hF 22 (by decide) (by decide) (by decide) (by decide), hF 23 (by decide) (by decide) (by decide) (by decide)⟩, fun q => absurd q (by omega)⟩)
      · skip
        rw [hx3, hq_170] at hb18
        refine zH_w (c' := (23, [zR 8, .inl a1, .inl a2, .inl a3, .inl a4, zN], [.inl (-2)])) 1 hz rfl ?_
        refine zH_ret hz rfl rfl ?_
        have hk : kO M a1 a2 a3 = -2 := by unfold kO; rw [if_neg (by omega)]
        exact ⟨by rw [hk], fun _ _ _ _ _ _ _ => rfl, fun _ => ⟨rfl, rfl⟩, fun q => absurd q (by omega)⟩
set_option maxRecDepth 100000 in
theorem fh_152_g {n : Nat} {M : zM} {u : Nat} (hu : M 98 5 = (u : Int)) (h10 : u < 10) (k5 : M 22 3 = M 98 5) (t22 : M 22 0 = 10 ∧ M 22 1 = 164) (t70 : M 70 0 = 80 ∧ M 70 1 = 1) (a1 a2 a3 a4 : Int) (hp : ∀ a : Int, 0 ≤ a ∧ a ≤ 7 → xP M a) (h4 : a4 = 0 ∨ a4 = 1) : zH n (0, 0) 152 (0, zini [zR 8, .inl a1, .inl a2, .inl a3, .inl a4] 6, []) M (fun r M' => r = some (.inl (kO M a1 a2 a3)) ∧ (∀ r, r ≠ 22 → r ≠ 23 → r ≠ 67 → r ≠ 69 → r ≠ 70 → r ≠ 71 → M' r = M r) ∧ (kO M a1 a2 a3 < 0 → M' 22 = M 22 ∧ M' 23 = M 23) ∧ (0 ≤ kO M a1 a2 a3 → (M' 22 3 = M 98 5 + 1 ∧ ∀ j, j ≠ 3 → M' 22 j = M 22 j) ∧ (∀ j, ¬ (164 * (M 98 5).toNat ≤ j ∧ j < 164 * (M 98 5).toNat + 164) → M' 23 j = M 23 j) ∧ M' 23 (164 * (M 98 5).toNat) = a3 ∧ M' 23 (164 * (M 98 5).toNat + 1) = a4 ∧ ((xTd (xc M a1) (xL M a1)).length ≤ 80 ∧ M' 23 (164 * (M 98 5).toNat + 2) = ((xTd (xc M a1) (xL M a1)).length : Int) ∧ xC (fun j => M' 23 (164 * (M 98 5).toNat + 2 + j)) (xTd (xc M a1) (xL M a1))) ∧ ((xTd (xc M a2) (xL M a2)).length ≤ 80 ∧ M' 23 (164 * (M 98 5).toNat + 83) = ((xTd (xc M a2) (xL M a2)).length : Int) ∧ xC (fun j => M' 23 (164 * (M 98 5).toNat + 83 + j)) (xTd (xc M a2) (xL M a2))))) := by
  have hz := zp_152
  show zH n (0, 0) 152 (0, [zR 8, .inl a1, .inl a2, .inl a3, .inl a4, zN], []) M _
  refine zH_wE (c1 := (4, [zR 8, .inl a1, .inl a2, .inl a3, .inl a4, zN], [])) 1 hz zp_173 (fh_173 a1) (by rfl) ?_
  show zH n (0, 0) 152 (4, [zR 8, .inl a1, .inl a2, .inl a3, .inl a4, zN], [.inl (hf_173 M a1)]) M _
  obtain ⟨x1, hx1⟩ : ∃ x : Int, x = (hf_173 M a1) := ⟨_, rfl⟩
  rw [← hx1]
  refine zH_if_eq hz rfl (fun hb4 => ?_) (fun hb4 => ?_)
  · skip
    rw [hx1, hq_173] at hb4
    refine zH_w (c' := (23, [zR 8, .inl a1, .inl a2, .inl a3, .inl a4, zN], [.inl (-2)])) 1 hz rfl ?_
    refine zH_ret hz rfl rfl ?_
    have hk : kO M a1 a2 a3 = -2 := by unfold kO; rw [if_neg (by omega)]
    exact ⟨by rw [hk], fun _ _ _ _ _ _ _ => rfl, fun _ => ⟨rfl, rfl⟩, fun q => absurd q (by omega)⟩
  · skip
    rw [hx1, hq_173] at hb4
    refine zH_w (c' := (8, [zR 8, .inl a1, .inl a2, .inl a3, .inl a4, zN], [.inl a2])) 1 hz rfl ?_
    refine zH_wE (c1 := (11, [zR 8, .inl a1, .inl a2, .inl a3, .inl a4, zN], [])) 0 hz zp_173 (fh_173 a2) (by rfl) ?_
    show zH n (0, 0) 152 (11, [zR 8, .inl a1, .inl a2, .inl a3, .inl a4, zN], [.inl (hf_173 M a2)]) M _
    obtain ⟨x2, hx2⟩ : ∃ x : Int, x = (hf_173 M a2) := ⟨_, rfl⟩
    rw [← hx2]
    refine zH_if_eq hz rfl (fun hb11 => ?_) (fun hb11 => ?_)
    · skip
      rw [hx2, hq_173] at hb11
      refine zH_w (c' := (23, [zR 8, .inl a1, .inl a2, .inl a3, .inl a4, zN], [.inl (-2)])) 1 hz rfl ?_
      refine zH_ret hz rfl rfl ?_
      have hk : kO M a1 a2 a3 = -2 := by unfold kO; rw [if_neg (by omega)]
      exact ⟨by rw [hk], fun _ _ _ _ _ _ _ => rfl, fun _ => ⟨rfl, rfl⟩, fun q => absurd q (by omega)⟩
    · skip
      rw [hx2, hq_173] at hb11
      refine zH_w (c' := (15, [zR 8, .inl a1, .inl a2, .inl a3, .inl a4, zN], [.inl a3])) 1 hz rfl ?_
      refine zH_wE (c1 := (18, [zR 8, .inl a1, .inl a2, .inl a3, .inl a4, zN], [])) 0 hz zp_170 (fh_170 a3) (by rfl) ?_
      show zH n (0, 0) 152 (18, [zR 8, .inl a1, .inl a2, .inl a3, .inl a4, zN], [.inl (hf_170 M a3)]) M _
      obtain ⟨x3, hx3⟩ : ∃ x : Int, x = (hf_170 M a3) := ⟨_, rfl⟩
      rw [← hx3]
      refine zH_if_ne hz rfl (fun hb18 => ?_) (fun hb18 => ?_)
      · skip
        rw [hx3, hq_170] at hb18
        refine zH_w (c' := (29, [zR 8, .inl a1, .inl a2, .inl a3, .inl a4, zN], [.inl a1, zR 67])) 3 hz rfl ?_
        refine zH_wC (c1 := (32, [zR 8, .inl a1, .inl a2, .inl a3, .inl a4, zN], [])) 0 hz zp_75 (fh_75_67 a1 (hp a1 (by omega)) t70) (by rfl) ?_
        rintro _ M1 ⟨rfl, hr1⟩
        show zH n (0, 0) 152 (32, [zR 8, .inl a1, .inl a2, .inl a3, .inl a4, zN], [.inl ((xIt (xc M a1) (xL M a1) 81).2.2.2.2.2.1)]) M1 _
        rw [← xFt_81]
        obtain ⟨y1, hy1⟩ : ∃ x : Int, x = (xFt (xc M a1) (xL M a1)) := ⟨_, rfl⟩
        rw [← hy1]
        refine zH_w (c' := (33, [zR 8, .inl a1, .inl a2, .inl a3, .inl a4, zN], [.inl (-1), .inl y1])) 1 hz rfl ?_
        refine zH_wi_ne (pc := 33) (n' := 36) (t := 48) (L := [zR 8, .inl a1, .inl a2, .inl a3, .inl a4, zN]) (st := []) (x := y1) (y := (-1)) 0 hz (by rfl) (fun hb33 => ?_) (fun hb33 => ?_)
        · skip
          have hk : kO M a1 a2 a3 = -3 := by unfold kO; rw [if_pos (by omega), if_neg (fun q => by have := q.1; omega)]
          have hF := hr1.2.1
          exact zH_wr (r := some (.inl (-3))) 1 hz (by rfl) (⟨by rw [hk], fun r _ _ q1 q2 q3 q4 => hF r q1 q2 q3 q4, fun _ => ⟨hF 22 (by decide) (by decide) (by decide) (by decide), hF 23 (by decide) (by decide) (by decide) (by decide)⟩, fun q => absurd q (by omega)⟩)
        · skip
          have q1 : xFt (xc M a1) (xL M a1) = -1 := by omega
          have z1 := hr1.2.2 (by rw [← xFt_81]; exact q1)
          have f1 := hr1.2.1
          have p2 : xP M1 a2 := (hp a2 (by omega)).cg (fun r _ _ q1 q2 q3 q4 => f1 r q1 q2 q3 q4) (by rw [f1 22 (by decide) (by decide) (by decide) (by decide)]; exact ⟨rfl, rfl⟩)
          have t71 : M1 70 0 = 80 ∧ M1 70 1 = 1 := ⟨z1.1.2.1.1, z1.1.2.1.2.1⟩
          have c2 := xc_cg (a := a2) (f1 98 (by decide) (by decide) (by decide) (by decide))
          refine zH_wC (c1 := (44, [zR 8, .inl a1, .inl a2, .inl a3, .inl a4, zN], [])) 3 hz zp_75 (fh_75_67 a2 p2 t71) (by rfl) ?_
          rintro _ M2 ⟨rfl, hr2⟩
          show zH n (0, 0) 152 (44, [zR 8, .inl a1, .inl a2, .inl a3, .inl a4, zN], [.inl ((xIt (xc M1 a2) (xL M1 a2) 81).2.2.2.2.2.1)]) M2 _
          rw [← xFt_81]
          rw [show xFt (xc M1 a2) (xL M1 a2) = xFt (xc M a2) (xL M a2) from by rw [c2.1, c2.2]]
          obtain ⟨y2, hy2⟩ : ∃ x : Int, x = (xFt (xc M a2) (xL M a2)) := ⟨_, rfl⟩
          rw [← hy2]
          refine zH_w (c' := (45, [zR 8, .inl a1, .inl a2, .inl a3, .inl a4, zN], [.inl (-1), .inl y2])) 1 hz rfl ?_
          refine zH_wi_eq (pc := 45) (n' := 48) (t := 51) (L := [zR 8, .inl a1, .inl a2, .inl a3, .inl a4, zN]) (st := []) (x := y2) (y := (-1)) 0 hz (by rfl) (fun hb45 => ?_) (fun hb45 => ?_)
          · skip
            have q2 : xFt (xc M a2) (xL M a2) = -1 := by omega
            rw [c2.1, c2.2] at hr2
            have z2 := hr2.2.2 (by rw [← xFt_81]; exact q2)
            have f2 : ∀ r, r ≠ 67 → r ≠ 69 → r ≠ 70 → r ≠ 71 → M2 r = M r := fun r q1 q2 q3 q4 => (hr2.2.1 r q1 q2 q3 q4).trans (f1 r q1 q2 q3 q4)
            have t72 : M2 70 0 = 80 ∧ M2 70 1 = 1 := ⟨z2.1.2.1.1, z2.1.2.1.2.1⟩
            have e22 : M2 22 = M 22 := f2 22 (by decide) (by decide) (by decide) (by decide)
            have eop : hR_open M2 22 = ((u : Int), zput M2 22 3 ((u : Int) + 1)) := by
              unfold hR_open
              rw [e22, k5, hu, t22.1]
              rw [if_pos (by omega), qput_eq, w32_id (x := ((u : Nat) : Int) + 1) (by omega), w32_id (by omega), show ((u : Nat) : Int) + 1 - 1 = u by omega]
            have hk : kO M a1 a2 a3 = (u : Int) := by unfold kO; rw [if_pos (by omega), if_pos ⟨q1, q2⟩, hu]; rw [if_neg (by omega)]
            have t68 := (hp a1 (by omega)).2.2.2.2.1
            refine zH_w (c' := (58, [zR 8, .inl a1, .inl a2, .inl a3, .inl a4, zN], [zR 22])) 3 hz rfl ?_
            refine zH_wC (c1 := (61, [zR 8, .inl a1, .inl a2, .inl a3, .inl a4, zN], [])) 0 hz zp_103 ((zH.mono (Q' := fun r M' => r = some (.inl ((u : Int))) ∧ M' = zput M2 22 3 ((u : Int) + 1)) fh_103_22 (fun r M' h => by rw [eop] at h; exact h))) (by rfl) ?_
            rintro _ M3 ⟨rfl, hM3⟩
            show zH n (0, 0) 152 (61, [zR 8, .inl a1, .inl a2, .inl a3, .inl a4, zN], [.inl ((u : Nat) : Int)]) M3 _
            refine zH_wE (c1 := (77, [zR 8, .inl a1, .inl a2, .inl a3, .inl a4, .inl ((u : Nat) : Int)], [])) 7 hz zp_107 (fh_107_22 ((u : Nat) : Int) 0 a3) (by rfl) ?_
            show zH n (0, 0) 152 (77, [zR 8, .inl a1, .inl a2, .inl a3, .inl a4, .inl ((u : Nat) : Int)], []) (hR_set M3 22 ((u : Nat) : Int) 0 a3) _
            obtain ⟨M4, hM4⟩ : ∃ X : zM, X = hR_set M3 22 ((u : Nat) : Int) 0 a3 := ⟨_, rfl⟩
            rw [← hM4]
            have lp100 : ∀ (M5 : zM), (M5 = zput (zput (zput M2 22 3 ((u : Int) + 1)) 23 (164 * u) a3) 23 (164 * u + 1) a4) → zH n (0, 0) 152 (100, [zR 8, .inl a1, .inl a2, .inl a3, .inl a4, .inl ((u : Nat) : Int)], []) M5 (fun r M' => r = some (.inl (kO M a1 a2 a3)) ∧ (∀ r, r ≠ 22 → r ≠ 23 → r ≠ 67 → r ≠ 69 → r ≠ 70 → r ≠ 71 → M' r = M r) ∧ (kO M a1 a2 a3 < 0 → M' 22 = M 22 ∧ M' 23 = M 23) ∧ (0 ≤ kO M a1 a2 a3 → (M' 22 3 = M 98 5 + 1 ∧ ∀ j, j ≠ 3 → M' 22 j = M 22 j) ∧ (∀ j, ¬ (164 * (M 98 5).toNat ≤ j ∧ j < 164 * (M 98 5).toNat + 164) → M' 23 j = M 23 j) ∧ M' 23 (164 * (M 98 5).toNat) = a3 ∧ M' 23 (164 * (M 98 5).toNat + 1) = a4 ∧ ((xTd (xc M a1) (xL M a1)).length ≤ 80 ∧ M' 23 (164 * (M 98 5).toNat + 2) = ((xTd (xc M a1) (xL M a1)).length : Int) ∧ xC (fun j => M' 23 (164 * (M 98 5).toNat + 2 + j)) (xTd (xc M a1) (xL M a1))) ∧ ((xTd (xc M a2) (xL M a2)).length ≤ 80 ∧ M' 23 (164 * (M 98 5).toNat + 83) = ((xTd (xc M a2) (xL M a2)).length : Int) ∧ xC (fun j => M' 23 (164 * (M 98 5).toNat + 83 + j)) (xTd (xc M a2) (xL M a2))))) := by
              intro M5 h100
              have g5 : ∀ r, r ≠ 22 → r ≠ 23 → M5 r = M2 r := fun r q1 q2 => by rw [h100, zput_oth q2, zput_oth q2, zput_oth q1]
              have t522 : M5 22 0 = 10 ∧ M5 22 1 = 164 := by rw [h100, zput_oth (by decide), zput_oth (by decide), qput_nk (by decide), qput_nk (by decide), e22]; exact t22
              have t568 : M5 68 0 = 1 ∧ M5 68 1 = 81 := by rw [g5 68 (by decide) (by decide), f2 68 (by decide) (by decide) (by decide) (by decide)]; exact t68
              refine zH_w (c' := (115, [zR 8, .inl a1, .inl a2, .inl a3, .inl a4, .inl ((u : Nat) : Int)], [.inl 83, .inl ((u : Nat) : Int), zR 22, zR 67])) 7 hz rfl ?_
              refine zH_wE (c1 := (118, [zR 8, .inl a1, .inl a2, .inl a3, .inl a4, .inl ((u : Nat) : Int)], [])) 0 hz zp_76 (fh_76_22 t522 t568 (u := u) (c := 83) ((u : Nat) : Int) 83 rfl rfl h10 (by omega)) (by rfl) ?_
              show zH n (0, 0) 152 (118, [zR 8, .inl a1, .inl a2, .inl a3, .inl a4, .inl ((u : Nat) : Int)], []) (zrow M5 23 (164 * u + 83) 81 (M5 69)) _
              obtain ⟨M6, hM6⟩ : ∃ X : zM, X = (zrow M5 23 (164 * u + 83) 81 (M5 69)) := ⟨_, rfl⟩
              rw [← hM6]
              have g6 : ∀ r, r ≠ 23 → M6 r = M5 r := fun r hr => by rw [hM6, zrow_oth hr]
              have f6 : ∀ r, r ≠ 22 → r ≠ 23 → r ≠ 67 → r ≠ 69 → r ≠ 70 → r ≠ 71 → M6 r = M r := fun r p1 p2 q1 q2 q3 q4 => (g6 r p2).trans ((g5 r p1 p2).trans (f2 r q1 q2 q3 q4))
              have t622 : M6 22 0 = 10 ∧ M6 22 1 = 164 := by rw [g6 22 (by decide)]; exact t522
              have p6 : xP M6 a1 := (hp a1 (by omega)).cg f6 (by rw [t22.1, t22.2]; exact t622)
              have t76 : M6 70 0 = 80 ∧ M6 70 1 = 1 := by rw [g6 70 (by decide), g5 70 (by decide) (by decide)]; exact t72
              refine zH_w (c' := (123, [zR 8, .inl a1, .inl a2, .inl a3, .inl a4, .inl ((u : Nat) : Int)], [.inl a1, zR 67])) 3 hz rfl ?_
              refine zH_wC (c1 := (126, [zR 8, .inl a1, .inl a2, .inl a3, .inl a4, .inl ((u : Nat) : Int)], [])) 0 hz zp_75 (fh_75_67 a1 p6 t76) (by rfl) ?_
              rintro _ M7 ⟨rfl, hr7⟩
              show zH n (0, 0) 152 (126, [zR 8, .inl a1, .inl a2, .inl a3, .inl a4, .inl ((u : Nat) : Int)], [.inl ((xIt (xc M6 a1) (xL M6 a1) 81).2.2.2.2.2.1)]) M7 _
              refine zH_w (c' := (127, [zR 8, .inl a1, .inl a2, .inl a3, .inl a4, .inl ((u : Nat) : Int)], [])) 1 hz rfl ?_
              have c7 := xc_cg (a := a1) (f6 98 (by decide) (by decide) (by decide) (by decide) (by decide) (by decide))
              rw [c7.1, c7.2] at hr7
              have z7 := hr7.2.2 (by rw [← xFt_81]; exact q1)
              have t722 : M7 22 0 = 10 ∧ M7 22 1 = 164 := by rw [hr7.2.1 22 (by decide) (by decide) (by decide) (by decide)]; exact t622
              have t768 : M7 68 0 = 1 ∧ M7 68 1 = 81 := by rw [hr7.2.1 68 (by decide) (by decide) (by decide) (by decide), f6 68 (by decide) (by decide) (by decide) (by decide) (by decide) (by decide)]; exact t68
              refine zH_w (c' := (141, [zR 8, .inl a1, .inl a2, .inl a3, .inl a4, .inl ((u : Nat) : Int)], [.inl 2, .inl ((u : Nat) : Int), zR 22, zR 67])) 7 hz rfl ?_
              refine zH_wE (c1 := (144, [zR 8, .inl a1, .inl a2, .inl a3, .inl a4, .inl ((u : Nat) : Int)], [])) 0 hz zp_76 (fh_76_22 t722 t768 (u := u) (c := 2) ((u : Nat) : Int) 2 rfl rfl h10 (by omega)) (by rfl) ?_
              show zH n (0, 0) 152 (144, [zR 8, .inl a1, .inl a2, .inl a3, .inl a4, .inl ((u : Nat) : Int)], []) (zrow M7 23 (164 * u + 2) 81 (M7 69)) _
              refine zH_w (c' := (146, [zR 8, .inl a1, .inl a2, .inl a3, .inl a4, .inl ((u : Nat) : Int)], [.inl ((u : Nat) : Int)])) 1 hz rfl ?_
              refine zH_ret hz rfl rfl ?_
              have hfn := oFin (M := M) h100 hM6 hr7.2.1 rfl f2
              obtain ⟨n1, n2, n3, n4, n5, n6, n7⟩ := hfn
              have l1 := (hp a1 (by omega)).len.1
              have l2 := (hp a2 (by omega)).len.1
              have b1 : (xTd (xc M a1) (xL M a1)).length ≤ 80 ∧ M7 69 0 = ((xTd (xc M a1) (xL M a1)).length : Int) ∧ xC (M7 69) (xTd (xc M a1) (xL M a1)) := by rw [xTd_81]; exact hr7.len (by rw [(xc_cg (a := a1) (f6 98 (by decide) (by decide) (by decide) (by decide) (by decide) (by decide))).2]; exact l1) (by rw [← xFt_81]; exact q1)
              have b2 : (xTd (xc M a2) (xL M a2)).length ≤ 80 ∧ M2 69 0 = ((xTd (xc M a2) (xL M a2)).length : Int) ∧ xC (M2 69) (xTd (xc M a2) (xL M a2)) := by rw [xTd_81]; exact hr2.len (by rw [(xc_cg (a := a2) (f1 98 (by decide) (by decide) (by decide) (by decide))).2]; exact l2) (by rw [← xFt_81]; exact q2)
              rw [show (M 98 5).toNat = u by omega, hu, hk]
              refine ⟨rfl, n1, fun q => absurd q (by omega), fun _ => ⟨n2, n3, n4, n5, ⟨b1.1, ?_, ?_⟩, b2.1, ?_, ?_⟩⟩
              · exact (n6 0 (by decide)).trans b1.2.1
              · exact b1.2.2.cg (fun j hj => n6 j (by have := b1.1; omega))
              · exact (n7 0 (by decide)).trans b2.2.1
              · exact b2.2.2.cg (fun j hj => n7 j (by have := b2.1; omega))
            refine zH_w (c' := (89, [zR 8, .inl a1, .inl a2, .inl a3, .inl a4, .inl ((u : Nat) : Int)], [.inl a4, .inl 1, .inl ((u : Nat) : Int), zR 22])) 6 hz rfl ?_
            refine zH_wf_eq (pc := 89) (n' := 92) (t := 96) (L := [zR 8, .inl a1, .inl a2, .inl a3, .inl a4, .inl ((u : Nat) : Int)]) (st := [.inl 1, .inl ((u : Nat) : Int), zR 22]) (x := a4) 0 hz (by rfl) (fun hb89 => ?_) (fun hb89 => ?_)
            · skip
              refine zH_wE (c1 := (100, [zR 8, .inl a1, .inl a2, .inl a3, .inl a4, .inl ((u : Nat) : Int)], [])) 1 hz zp_107 (fh_107_22 ((u : Nat) : Int) 1 0) (by rfl) ?_
              show zH n (0, 0) 152 (100, [zR 8, .inl a1, .inl a2, .inl a3, .inl a4, .inl ((u : Nat) : Int)], []) (hR_set M4 22 ((u : Nat) : Int) 1 0) _
              refine lp100 (hR_set M4 22 ((u : Nat) : Int) 1 0) ?_
              · have t32 : M3 22 0 = 10 ∧ M3 22 1 = 164 := by rw [hM3, qput_nk (by decide), qput_nk (by decide), e22]; exact t22
                have e4 : M4 = zput M3 23 (164 * u) a3 := by rw [hM4, oS22 t32 (by omega) (by decide)]; rfl
                have t42 : M4 22 0 = 10 ∧ M4 22 1 = 164 := by rw [e4, zput_oth (by decide)]; exact t32
                rw [oS22 t42 (by omega) (by decide), e4, hM3]
                first
                  | (rw [show a4 = 0 by omega]; rfl)
                  | (rw [show a4 = 1 by omega]; rfl)
            · skip
              refine zH_wE (c1 := (100, [zR 8, .inl a1, .inl a2, .inl a3, .inl a4, .inl ((u : Nat) : Int)], [])) 2 hz zp_107 (fh_107_22 ((u : Nat) : Int) 1 1) (by rfl) ?_
              show zH n (0, 0) 152 (100, [zR 8, .inl a1, .inl a2, .inl a3, .inl a4, .inl ((u : Nat) : Int)], []) (hR_set M4 22 ((u : Nat) : Int) 1 1) _
              refine lp100 (hR_set M4 22 ((u : Nat) : Int) 1 1) ?_
              · have t32 : M3 22 0 = 10 ∧ M3 22 1 = 164 := by rw [hM3, qput_nk (by decide), qput_nk (by decide), e22]; exact t22
                have e4 : M4 = zput M3 23 (164 * u) a3 := by rw [hM4, oS22 t32 (by omega) (by decide)]; rfl
                have t42 : M4 22 0 = 10 ∧ M4 22 1 = 164 := by rw [e4, zput_oth (by decide)]; exact t32
                rw [oS22 t42 (by omega) (by decide), e4, hM3]
                first
                  | (rw [show a4 = 0 by omega]; rfl)
                  | (rw [show a4 = 1 by omega]; rfl)
          · skip
            have hk : kO M a1 a2 a3 = -3 := by unfold kO; rw [if_pos (by omega), if_neg (fun q => by have := q.2; omega)]
            have hF : ∀ r, r ≠ 67 → r ≠ 69 → r ≠ 70 → r ≠ 71 → M2 r = M r := fun r q1 q2 q3 q4 => (hr2.2.1 r q1 q2 q3 q4).trans (f1 r q1 q2 q3 q4)
            exact zH_wr (r := some (.inl (-3))) 1 hz (by rfl) (⟨by rw [hk], fun r _ _ q1 q2 q3 q4 => hF r q1 q2 q3 q4, fun _ => ⟨hF 22 (by decide) (by decide) (by decide) (by decide), hF 23 (by decide) (by decide) (by decide) (by decide)⟩, fun q => absurd q (by omega)⟩)
      · skip
        rw [hx3, hq_170] at hb18
        refine zH_w (c' := (23, [zR 8, .inl a1, .inl a2, .inl a3, .inl a4, zN], [.inl (-2)])) 1 hz rfl ?_
        refine zH_ret hz rfl rfl ?_
        have hk : kO M a1 a2 a3 = -2 := by unfold kO; rw [if_neg (by omega)]
        exact ⟨by rw [hk], fun _ _ _ _ _ _ _ => rfl, fun _ => ⟨rfl, rfl⟩, fun q => absurd q (by omega)⟩
theorem fh_152 {n : Nat} {M : zM} (h5 : 0 ≤ M 98 5 ∧ M 98 5 ≤ 10) (k5 : M 22 3 = M 98 5) (t22 : M 22 0 = 10 ∧ M 22 1 = 164) (t70 : M 70 0 = 80 ∧ M 70 1 = 1) (hp : ∀ a : Int, 0 ≤ a ∧ a ≤ 7 → xP M a) (a1 a2 a3 a4 : Int) (h4 : a4 = 0 ∨ a4 = 1) : zH n (0, 0) 152 (0, zini [zR 8, .inl a1, .inl a2, .inl a3, .inl a4] 6, []) M (fun r M' => r = some (.inl (kO M a1 a2 a3)) ∧ (∀ r, r ≠ 22 → r ≠ 23 → r ≠ 67 → r ≠ 69 → r ≠ 70 → r ≠ 71 → M' r = M r) ∧ (kO M a1 a2 a3 < 0 → M' 22 = M 22 ∧ M' 23 = M 23) ∧ (0 ≤ kO M a1 a2 a3 → (M' 22 3 = M 98 5 + 1 ∧ ∀ j, j ≠ 3 → M' 22 j = M 22 j) ∧ (∀ j, ¬ (164 * (M 98 5).toNat ≤ j ∧ j < 164 * (M 98 5).toNat + 164) → M' 23 j = M 23 j) ∧ M' 23 (164 * (M 98 5).toNat) = a3 ∧ M' 23 (164 * (M 98 5).toNat + 1) = a4 ∧ ((xTd (xc M a1) (xL M a1)).length ≤ 80 ∧ M' 23 (164 * (M 98 5).toNat + 2) = ((xTd (xc M a1) (xL M a1)).length : Int) ∧ xC (fun j => M' 23 (164 * (M 98 5).toNat + 2 + j)) (xTd (xc M a1) (xL M a1))) ∧ ((xTd (xc M a2) (xL M a2)).length ≤ 80 ∧ M' 23 (164 * (M 98 5).toNat + 83) = ((xTd (xc M a2) (xL M a2)).length : Int) ∧ xC (fun j => M' 23 (164 * (M 98 5).toNat + 83 + j)) (xTd (xc M a2) (xL M a2))))) := by
  by_cases h : M 98 5 = 10
  · exact fh_152_f (u := (M 98 5).toNat) (by omega) (by omega) k5 t22 t70 a1 a2 a3 a4 hp h4
  · exact fh_152_g (u := (M 98 5).toNat) (by omega) (by omega) k5 t22 t70 a1 a2 a3 a4 hp h4
set_option maxRecDepth 100000 in
theorem fh_257 {n : Nat} {M : zM} (hq : qMI M) {u : Nat} (hu : M 98 5 = (u : Int)) (h10 : u ≤ 10) (a1 a2 a3 a4 : Int) (h4 : a4 = 0 ∨ a4 = 1) : zH n (0, 0) 257 (0, zini [zR 97, .inl a1, .inl a2, .inl a3, .inl a4] 7, []) M (fun r M' => r = some (.inl (kO M a1 a2 a3)) ∧ (∀ r, r ≠ 97 → r ≠ 98 → r ≠ 105 → r ≠ 106 → r ≠ 107 → M' r = M r) ∧ (kO M a1 a2 a3 < 0 → M' 98 = M 98) ∧ (0 ≤ kO M a1 a2 a3 → M' 98 5 = M 98 5 + 1 ∧ (∀ j, j < 81 → M' 98 (4000 + 164 * (M 98 5).toNat + j) = M 98 (3350 + 81 * a1.toNat + j)) ∧ (∀ j, j < 81 → M' 98 (4081 + 164 * (M 98 5).toNat + j) = M 98 (3350 + 81 * a2.toNat + j)) ∧ M' 98 (4162 + 164 * (M 98 5).toNat) = a3 ∧ M' 98 (4163 + 164 * (M 98 5).toNat) = a4 ∧ ∀ j, j ≠ 5 → ¬ (4000 + 164 * (M 98 5).toNat ≤ j ∧ j < 4164 + 164 * (M 98 5).toNat) → M' 98 j = M 98 j)) := by
  have hz := zp_257
  show zH n (0, 0) 257 (0, [zR 97, .inl a1, .inl a2, .inl a3, .inl a4, zN, zN], []) M _
  refine zH_wE (c1 := (4, [zR 97, .inl a1, .inl a2, .inl a3, .inl a4, zN, zN], [])) 1 hz zp_252 (fh_252 a1) (by rfl) ?_
  show zH n (0, 0) 257 (4, [zR 97, .inl a1, .inl a2, .inl a3, .inl a4, zN, zN], [.inl (hf_252 M a1)]) M _
  obtain ⟨x1, hx1⟩ : ∃ x : Int, x = (hf_252 M a1) := ⟨_, rfl⟩
  rw [← hx1]
  refine zH_if_eq hz rfl (fun hb4 => ?_) (fun hb4 => ?_)
  · skip
    rw [hx1, hq_252] at hb4
    refine zH_w (c' := (23, [zR 97, .inl a1, .inl a2, .inl a3, .inl a4, zN, zN], [.inl (-2)])) 1 hz rfl ?_
    refine zH_ret hz rfl rfl ?_
    have hk : kO M a1 a2 a3 = -2 := by unfold kO; rw [if_neg (by omega)]
    exact ⟨by rw [hk], fun _ _ _ _ _ _ => rfl, fun _ => rfl, fun q => absurd q (by omega)⟩
  · skip
    rw [hx1, hq_252] at hb4
    refine zH_w (c' := (8, [zR 97, .inl a1, .inl a2, .inl a3, .inl a4, zN, zN], [.inl a2])) 1 hz rfl ?_
    refine zH_wE (c1 := (11, [zR 97, .inl a1, .inl a2, .inl a3, .inl a4, zN, zN], [])) 0 hz zp_252 (fh_252 a2) (by rfl) ?_
    show zH n (0, 0) 257 (11, [zR 97, .inl a1, .inl a2, .inl a3, .inl a4, zN, zN], [.inl (hf_252 M a2)]) M _
    obtain ⟨x2, hx2⟩ : ∃ x : Int, x = (hf_252 M a2) := ⟨_, rfl⟩
    rw [← hx2]
    refine zH_if_eq hz rfl (fun hb11 => ?_) (fun hb11 => ?_)
    · skip
      rw [hx2, hq_252] at hb11
      refine zH_w (c' := (23, [zR 97, .inl a1, .inl a2, .inl a3, .inl a4, zN, zN], [.inl (-2)])) 1 hz rfl ?_
      refine zH_ret hz rfl rfl ?_
      have hk : kO M a1 a2 a3 = -2 := by unfold kO; rw [if_neg (by omega)]
      exact ⟨by rw [hk], fun _ _ _ _ _ _ => rfl, fun _ => rfl, fun q => absurd q (by omega)⟩
    · skip
      rw [hx2, hq_252] at hb11
      refine zH_w (c' := (15, [zR 97, .inl a1, .inl a2, .inl a3, .inl a4, zN, zN], [.inl a3])) 1 hz rfl ?_
      refine zH_wE (c1 := (18, [zR 97, .inl a1, .inl a2, .inl a3, .inl a4, zN, zN], [])) 0 hz zp_184 (fh_184 a3) (by rfl) ?_
      show zH n (0, 0) 257 (18, [zR 97, .inl a1, .inl a2, .inl a3, .inl a4, zN, zN], [.inl (hf_184 M a3)]) M _
      obtain ⟨x3, hx3⟩ : ∃ x : Int, x = (hf_184 M a3) := ⟨_, rfl⟩
      rw [← hx3]
      refine zH_if_ne hz rfl (fun hb18 => ?_) (fun hb18 => ?_)
      · skip
        rw [hx3, hq_184] at hb18
        have q1 := hq.txt a1 (3350 + 81 * a1) (by omega) rfl
        rw [show (3350 + 81 * a1).toNat = 3350 + 81 * a1.toNat by omega] at q1
        have hLb1 : M 98 (3350 + 81 * a1.toNat) = (xL M a1 : Int) := by unfold xL; omega
        have hL1 : xL M a1 ≤ 80 := by unfold xL; omega
        have hc1 : ∀ j, j < xL M a1 → M 98 (3350 + 81 * a1.toNat + 1 + j) = xc M a1 j := fun j _ => by unfold xc; rw [show 3350 + 81 * a1.toNat + 1 + j = 3351 + 81 * a1.toNat + j by omega]
        have q2 := hq.txt a2 (3350 + 81 * a2) (by omega) rfl
        rw [show (3350 + 81 * a2).toNat = 3350 + 81 * a2.toNat by omega] at q2
        have hLb2 : M 98 (3350 + 81 * a2.toNat) = (xL M a2 : Int) := by unfold xL; omega
        have hL2 : xL M a2 ≤ 80 := by unfold xL; omega
        have hc2 : ∀ j, j < xL M a2 → M 98 (3350 + 81 * a2.toNat + 1 + j) = xc M a2 j := fun j _ => by unfold xc; rw [show 3350 + 81 * a2.toNat + 1 + j = 3351 + 81 * a2.toNat + j by omega]
        refine zH_w (c' := (33, [zR 97, .inl a1, .inl a2, .inl a3, .inl a4, zN, zN], [.inl (w32 (3350 + (w32 (81 * a1)))), zR 97])) 6 hz rfl ?_
        refine zH_wC (c1 := (36, [zR 97, .inl a1, .inl a2, .inl a3, .inl a4, zN, zN], [])) 0 hz zp_231 (fh_231_97 (Mo := M) hLb1 hL1 (by omega) hc1 (fun _ _ _ _ _ => rfl) (fun _ _ => rfl) (w32 (3350 + (w32 (81 * a1)))) (by rw [w32_id (x := 81 * a1) (by omega), w32_id (by omega)]; omega)) (by rfl) ?_
        rintro _ M1 ⟨rfl, hO1, -⟩
        show zH n (0, 0) 257 (36, [zR 97, .inl a1, .inl a2, .inl a3, .inl a4, zN, zN], [.inl (xFt (xc M a1) (xL M a1))]) M1 _
        obtain ⟨y1, hy1⟩ : ∃ x : Int, x = (xFt (xc M a1) (xL M a1)) := ⟨_, rfl⟩
        rw [← hy1]
        refine zH_w (c' := (37, [zR 97, .inl a1, .inl a2, .inl a3, .inl a4, zN, zN], [.inl (-1), .inl y1])) 1 hz rfl ?_
        refine zH_wi_ne (pc := 37) (n' := 40) (t := 56) (L := [zR 97, .inl a1, .inl a2, .inl a3, .inl a4, zN, zN]) (st := []) (x := y1) (y := (-1)) 0 hz (by rfl) (fun hb37 => ?_) (fun hb37 => ?_)
        · skip
          have hk : kO M a1 a2 a3 = -3 := by unfold kO; rw [if_pos (by omega), if_neg (fun q => by have := q.1; omega)]
          have hF := hO1
          exact zH_wr (r := some (.inl (-3))) 1 hz (by rfl) (⟨by rw [hk], fun r q1 _ q2 q3 q4 => hF r q1 q2 q3 q4, fun _ => hF 98 (by decide) (by decide) (by decide) (by decide), fun q => absurd q (by omega)⟩)
        · skip
          refine zH_wC (c1 := (52, [zR 97, .inl a1, .inl a2, .inl a3, .inl a4, zN, zN], [])) 6 hz zp_231 (fh_231_97 (Mo := M1) (c := xc M a2) (L := xL M a2) (b := 3350 + 81 * a2.toNat) (by rw [hO1 98 (by decide) (by decide) (by decide) (by decide)]; exact hLb2) hL2 (by omega) (fun j hj => by rw [hO1 98 (by decide) (by decide) (by decide) (by decide)]; exact hc2 j hj) (fun _ _ _ _ _ => rfl) (fun _ _ => rfl) (w32 (3350 + (w32 (81 * a2)))) (by rw [w32_id (x := 81 * a2) (by omega), w32_id (by omega)]; omega)) (by rfl) ?_
          rintro _ M2 ⟨rfl, hO2b, -⟩
          show zH n (0, 0) 257 (52, [zR 97, .inl a1, .inl a2, .inl a3, .inl a4, zN, zN], [.inl (xFt (xc M a2) (xL M a2))]) M2 _
          have hO2 : yO M M2 := fun r q1 q2 q3 q4 => (hO2b r q1 q2 q3 q4).trans (hO1 r q1 q2 q3 q4)
          obtain ⟨y2, hy2⟩ : ∃ x : Int, x = (xFt (xc M a2) (xL M a2)) := ⟨_, rfl⟩
          rw [← hy2]
          refine zH_w (c' := (53, [zR 97, .inl a1, .inl a2, .inl a3, .inl a4, zN, zN], [.inl (-1), .inl y2])) 1 hz rfl ?_
          refine zH_wi_eq (pc := 53) (n' := 56) (t := 59) (L := [zR 97, .inl a1, .inl a2, .inl a3, .inl a4, zN, zN]) (st := []) (x := y2) (y := (-1)) 0 hz (by rfl) (fun hb53 => ?_) (fun hb53 => ?_)
          · skip
            have e98 : M2 98 = M 98 := hO2 98 (by decide) (by decide) (by decide) (by decide)
            refine zH_w (c' := (64, [zR 97, .inl a1, .inl a2, .inl a3, .inl a4, zN, zN], [.inl 5, zR 98])) 3 hz rfl ?_
            refine zH_iald hz rfl rfl (.inl rfl) (fun hin64 => ?_)
            show zH n (0, 0) 257 (65, [zR 97, .inl a1, .inl a2, .inl a3, .inl a4, zN, zN], [.inl (M2 98 (5 : Int).toNat)]) M2 _
            rw [show M2 98 (5 : Int).toNat = ((u : Nat) : Int) from (congrFun e98 5).trans hu]
            refine zH_w (c' := (67, [zR 97, .inl a1, .inl a2, .inl a3, .inl a4, zN, zN], [.inl 10, .inl ((u : Nat) : Int)])) 1 hz rfl ?_
            refine zH_wi_ne (pc := 67) (n' := 70) (t := 73) (L := [zR 97, .inl a1, .inl a2, .inl a3, .inl a4, zN, zN]) (st := []) (x := ((u : Nat) : Int)) (y := 10) 0 hz (by rfl) (fun hb67 => ?_) (fun hb67 => ?_)
            · skip
              have hk : kO M a1 a2 a3 = (u : Int) := by unfold kO; rw [if_pos (by omega), if_pos ⟨by omega, by omega⟩, if_neg (by omega), hu]
              refine zH_w (c' := (84, [zR 97, .inl a1, .inl a2, .inl a3, .inl a4, zN, zN], [.inl 5, zR 98, .inl 164, .inl 4000])) 5 hz rfl ?_
              refine zH_iald hz rfl rfl (.inl rfl) (fun hin84 => ?_)
              show zH n (0, 0) 257 (85, [zR 97, .inl a1, .inl a2, .inl a3, .inl a4, zN, zN], [.inl (M2 98 (5 : Int).toNat), .inl 164, .inl 4000]) M2 _
              rw [show M2 98 (5 : Int).toNat = ((u : Nat) : Int) from (congrFun e98 5).trans hu]
              refine zH_w (c' := (86, [zR 97, .inl a1, .inl a2, .inl a3, .inl a4, zN, zN], [.inl (w32 (164 * ((u : Nat) : Int))), .inl 4000])) 1 hz rfl ?_
              rw [show w32 (164 * ((u : Nat) : Int)) = 164 * ((u : Nat) : Int) from by rw [w32_id (by omega)]]
              refine zH_w (c' := (87, [zR 97, .inl a1, .inl a2, .inl a3, .inl a4, zN, zN], [.inl (w32 (4000 + (164 * ((u : Nat) : Int))))])) 1 hz rfl ?_
              rw [show w32 (4000 + (164 * ((u : Nat) : Int))) = 4000 + 164 * ((u : Nat) : Int) from by rw [w32_id (by omega)]]
              refine zH_w (c' := (92, [zR 97, .inl a1, .inl a2, .inl a3, .inl a4, .inl (4000 + 164 * ((u : Nat) : Int)), .inl 0], [])) 3 hz rfl ?_
              have lp92 : ∀ (N : Nat) (i : Int) (M5 : zM), ((81 - i).toNat) < N → (0 ≤ i ∧ i ≤ 81) → (M5 = zrow (zrow M2 98 (4000 + 164 * u) i.toNat (fun j => M 98 (3350 + 81 * a1.toNat + j))) 98 (4000 + 164 * u + 81) i.toNat (fun j => M 98 (3350 + 81 * a2.toNat + j))) → zH n (0, 0) 257 (92, [zR 97, .inl a1, .inl a2, .inl a3, .inl a4, .inl (4000 + 164 * ((u : Nat) : Int)), .inl i], []) M5 (fun r M' => r = some (.inl (kO M a1 a2 a3)) ∧ (∀ r, r ≠ 97 → r ≠ 98 → r ≠ 105 → r ≠ 106 → r ≠ 107 → M' r = M r) ∧ (kO M a1 a2 a3 < 0 → M' 98 = M 98) ∧ (0 ≤ kO M a1 a2 a3 → M' 98 5 = M 98 5 + 1 ∧ (∀ j, j < 81 → M' 98 (4000 + 164 * (M 98 5).toNat + j) = M 98 (3350 + 81 * a1.toNat + j)) ∧ (∀ j, j < 81 → M' 98 (4081 + 164 * (M 98 5).toNat + j) = M 98 (3350 + 81 * a2.toNat + j)) ∧ M' 98 (4162 + 164 * (M 98 5).toNat) = a3 ∧ M' 98 (4163 + 164 * (M 98 5).toNat) = a4 ∧ ∀ j, j ≠ 5 → ¬ (4000 + 164 * (M 98 5).toNat ≤ j ∧ j < 4164 + 164 * (M 98 5).toNat) → M' 98 j = M 98 j)) := by
                intro N
                induction N with
                | zero => intro i M5 hN; exact absurd hN (Nat.not_lt_zero _)
                | succ N ih92 =>
                  intro i M5 hN hi hM
                  refine zH_w (c' := (96, [zR 97, .inl a1, .inl a2, .inl a3, .inl a4, .inl (4000 + 164 * ((u : Nat) : Int)), .inl i], [.inl 81, .inl i])) 2 hz rfl ?_
                  refine zH_wi_ge (pc := 96) (n' := 99) (t := 160) (L := [zR 97, .inl a1, .inl a2, .inl a3, .inl a4, .inl (4000 + 164 * ((u : Nat) : Int)), .inl i]) (st := []) (x := i) (y := 81) 0 hz (by rfl) (fun hb96 => ?_) (fun hb96 => ?_)
                  · skip
                    refine zH_w (c' := (170, [zR 97, .inl a1, .inl a2, .inl a3, .inl a4, .inl (4000 + 164 * ((u : Nat) : Int)), .inl i], [.inl (w32 ((4000 + 164 * ((u : Nat) : Int)) + 162)), zR 98])) 5 hz rfl ?_
                    rw [show w32 ((4000 + 164 * ((u : Nat) : Int)) + 162) = 4000 + 164 * ((u : Nat) : Int) + 162 from by rw [w32_id (by omega)]]
                    refine zH_w (c' := (171, [zR 97, .inl a1, .inl a2, .inl a3, .inl a4, .inl (4000 + 164 * ((u : Nat) : Int)), .inl i], [.inl a3, .inl (4000 + 164 * ((u : Nat) : Int) + 162), zR 98])) 1 hz rfl ?_
                    refine zH_iast hz rfl rfl (fun hin171 => ?_)
                    show zH n (0, 0) 257 (172, [zR 97, .inl a1, .inl a2, .inl a3, .inl a4, .inl (4000 + 164 * ((u : Nat) : Int)), .inl i], []) (zput M5 98 ((4000 + 164 * ((u : Nat) : Int) + 162) : Int).toNat a3) _
                    obtain ⟨M8, hM8⟩ : ∃ X : zM, X = zput M5 98 ((4000 + 164 * ((u : Nat) : Int) + 162) : Int).toNat a3 := ⟨_, rfl⟩
                    rw [← hM8]
                    have lp193 : ∀ (u6 : zV) (M9 : zM), (M9 = zput (zput (zrow (zrow M2 98 (4000 + 164 * u) 81 (fun j => M 98 (3350 + 81 * a1.toNat + j))) 98 (4000 + 164 * u + 81) 81 (fun j => M 98 (3350 + 81 * a2.toNat + j))) 98 (4162 + 164 * u) a3) 98 (4163 + 164 * u) a4) → zH n (0, 0) 257 (193, [zR 97, .inl a1, .inl a2, .inl a3, .inl a4, .inl (4000 + 164 * ((u : Nat) : Int)), u6], []) M9 (fun r M' => r = some (.inl (kO M a1 a2 a3)) ∧ (∀ r, r ≠ 97 → r ≠ 98 → r ≠ 105 → r ≠ 106 → r ≠ 107 → M' r = M r) ∧ (kO M a1 a2 a3 < 0 → M' 98 = M 98) ∧ (0 ≤ kO M a1 a2 a3 → M' 98 5 = M 98 5 + 1 ∧ (∀ j, j < 81 → M' 98 (4000 + 164 * (M 98 5).toNat + j) = M 98 (3350 + 81 * a1.toNat + j)) ∧ (∀ j, j < 81 → M' 98 (4081 + 164 * (M 98 5).toNat + j) = M 98 (3350 + 81 * a2.toNat + j)) ∧ M' 98 (4162 + 164 * (M 98 5).toNat) = a3 ∧ M' 98 (4163 + 164 * (M 98 5).toNat) = a4 ∧ ∀ j, j ≠ 5 → ¬ (4000 + 164 * (M 98 5).toNat ≤ j ∧ j < 4164 + 164 * (M 98 5).toNat) → M' 98 j = M 98 j)) := by
                      intro u6 M9 hM9
                      have z5 : M9 98 5 = (u : Int) := by rw [hM9, qput_nk (by omega), qput_nk (by omega), zrow_out (by omega), zrow_out (by omega), e98, hu]
                      have eon := hN183 (M := M9) (c := 5) (by show 0 ≤ M9 98 5 ∧ M9 98 5 < 300; omega)
                      simp only [Int.reduceToNat, z5] at eon
                      refine zH_w (c' := (195, [zR 97, .inl a1, .inl a2, .inl a3, .inl a4, .inl (4000 + 164 * ((u : Nat) : Int)), u6], [.inl 5, zR 97])) 2 hz rfl ?_
                      refine zH_wC (c1 := (198, [zR 97, .inl a1, .inl a2, .inl a3, .inl a4, .inl (4000 + 164 * ((u : Nat) : Int)), u6], [])) 0 hz zp_183 ((zH.mono (Q' := fun r M' => r = some (.inl (u : Int)) ∧ M' = zput M9 98 5 ((u : Int) + 1)) (fh_183_97 5) (fun r M' h => by rw [eon] at h; exact h))) (by rfl) ?_
                      rintro _ _ ⟨rfl, rfl⟩
                      show zH n (0, 0) 257 (198, [zR 97, .inl a1, .inl a2, .inl a3, .inl a4, .inl (4000 + 164 * ((u : Nat) : Int)), u6], [.inl ((u : Nat) : Int)]) (zput M9 98 5 ((u : Int) + 1)) _
                      refine zH_ret hz rfl rfl ?_
                      rw [show (M 98 5).toNat = u by omega, hu, hk]
                      refine ⟨rfl, fun r q1 q2 q3 q4 q5 => ?_, fun q => absurd q (by omega), fun _ => ⟨qput_eq, fun j hj => ?_, fun j hj => ?_, ?_, ?_, fun j h5 hj => ?_⟩⟩
                      · rw [zput_oth q2, hM9, zput_oth q2, zput_oth q2, zrow_oth q2, zrow_oth q2]; exact hO2 r q1 q3 q4 q5
                      · rw [qput_nk (by omega), hM9, qput_nk (by omega), qput_nk (by omega), zrow_out (by omega), zrow_in (by omega), show 4000 + 164 * u + j - (4000 + 164 * u) = j by omega]
                      · rw [qput_nk (by omega), hM9, qput_nk (by omega), qput_nk (by omega), zrow_in (by omega), show 4081 + 164 * u + j - (4000 + 164 * u + 81) = j by omega]
                      · rw [qput_nk (by omega), hM9, qput_nk (by omega), qput_eq]
                      · rw [qput_nk (by omega), hM9, qput_eq]
                      · rw [qput_nk h5, hM9, qput_nk (by omega), qput_nk (by omega), zrow_out (by omega), zrow_out (by omega), e98]
                    refine zH_w (c' := (182, [zR 97, .inl a1, .inl a2, .inl a3, .inl a4, .inl (4000 + 164 * ((u : Nat) : Int)), .inl i], [.inl (w32 ((4000 + 164 * ((u : Nat) : Int)) + 163)), zR 98])) 5 hz rfl ?_
                    rw [show w32 ((4000 + 164 * ((u : Nat) : Int)) + 163) = 4000 + 164 * ((u : Nat) : Int) + 163 from by rw [w32_id (by omega)]]
                    refine zH_w (c' := (184, [zR 97, .inl a1, .inl a2, .inl a3, .inl a4, .inl (4000 + 164 * ((u : Nat) : Int)), .inl i], [.inl a4, .inl (4000 + 164 * ((u : Nat) : Int) + 163), zR 98])) 1 hz rfl ?_
                    refine zH_wf_eq (pc := 184) (n' := 187) (t := 191) (L := [zR 97, .inl a1, .inl a2, .inl a3, .inl a4, .inl (4000 + 164 * ((u : Nat) : Int)), .inl i]) (st := [.inl (4000 + 164 * ((u : Nat) : Int) + 163), zR 98]) (x := a4) 0 hz (by rfl) (fun hb184 => ?_) (fun hb184 => ?_)
                    · skip
                      refine zH_w (c' := (192, [zR 97, .inl a1, .inl a2, .inl a3, .inl a4, .inl (4000 + 164 * ((u : Nat) : Int)), .inl i], [.inl 0, .inl (4000 + 164 * ((u : Nat) : Int) + 163), zR 98])) 1 hz rfl ?_
                      refine zH_iast hz rfl rfl (fun hin192 => ?_)
                      show zH n (0, 0) 257 (193, [zR 97, .inl a1, .inl a2, .inl a3, .inl a4, .inl (4000 + 164 * ((u : Nat) : Int)), .inl i], []) (zput M8 98 ((4000 + 164 * ((u : Nat) : Int) + 163) : Int).toNat 0) _
                      refine lp193 (.inl i) (zput M8 98 ((4000 + 164 * ((u : Nat) : Int) + 163) : Int).toNat 0) ?_
                      · rw [hM8, hM, show i.toNat = 81 by omega, show (4000 + 164 * ((u : Nat) : Int) + 162).toNat = 4162 + 164 * u by omega, show (4000 + 164 * ((u : Nat) : Int) + 163).toNat = 4163 + 164 * u by omega]
                        first
                          | rw [show a4 = 0 by omega]
                          | rw [show a4 = 1 by omega]
                    · skip
                      refine zH_w (c' := (192, [zR 97, .inl a1, .inl a2, .inl a3, .inl a4, .inl (4000 + 164 * ((u : Nat) : Int)), .inl i], [.inl 1, .inl (4000 + 164 * ((u : Nat) : Int) + 163), zR 98])) 2 hz rfl ?_
                      refine zH_iast hz rfl rfl (fun hin192 => ?_)
                      show zH n (0, 0) 257 (193, [zR 97, .inl a1, .inl a2, .inl a3, .inl a4, .inl (4000 + 164 * ((u : Nat) : Int)), .inl i], []) (zput M8 98 ((4000 + 164 * ((u : Nat) : Int) + 163) : Int).toNat 1) _
                      refine lp193 (.inl i) (zput M8 98 ((4000 + 164 * ((u : Nat) : Int) + 163) : Int).toNat 1) ?_
                      · rw [hM8, hM, show i.toNat = 81 by omega, show (4000 + 164 * ((u : Nat) : Int) + 162).toNat = 4162 + 164 * u by omega, show (4000 + 164 * ((u : Nat) : Int) + 163).toNat = 4163 + 164 * u by omega]
                        first
                          | rw [show a4 = 0 by omega]
                          | rw [show a4 = 1 by omega]
                  · skip
                    refine zH_w (c' := (108, [zR 97, .inl a1, .inl a2, .inl a3, .inl a4, .inl (4000 + 164 * ((u : Nat) : Int)), .inl i], [.inl (w32 ((4000 + 164 * ((u : Nat) : Int)) + i)), zR 98])) 5 hz rfl ?_
                    rw [show w32 ((4000 + 164 * ((u : Nat) : Int)) + i) = 4000 + 164 * ((u : Nat) : Int) + i from by rw [w32_id (by omega)]]
                    refine zH_w (c' := (119, [zR 97, .inl a1, .inl a2, .inl a3, .inl a4, .inl (4000 + 164 * ((u : Nat) : Int)), .inl i], [.inl (w32 (81 * a1)), .inl 3350, zR 98, .inl (4000 + 164 * ((u : Nat) : Int) + i), zR 98])) 6 hz rfl ?_
                    rw [show w32 (81 * a1) = 81 * a1 from by rw [w32_id (by omega)]]
                    refine zH_w (c' := (120, [zR 97, .inl a1, .inl a2, .inl a3, .inl a4, .inl (4000 + 164 * ((u : Nat) : Int)), .inl i], [.inl (w32 (3350 + (81 * a1))), zR 98, .inl (4000 + 164 * ((u : Nat) : Int) + i), zR 98])) 1 hz rfl ?_
                    rw [show w32 (3350 + (81 * a1)) = 3350 + 81 * a1 from by rw [w32_id (by omega)]]
                    refine zH_w (c' := (123, [zR 97, .inl a1, .inl a2, .inl a3, .inl a4, .inl (4000 + 164 * ((u : Nat) : Int)), .inl i], [.inl (w32 ((3350 + 81 * a1) + i)), zR 98, .inl (4000 + 164 * ((u : Nat) : Int) + i), zR 98])) 2 hz rfl ?_
                    rw [show w32 ((3350 + 81 * a1) + i) = 3350 + 81 * a1 + i from by rw [w32_id (by omega)]]
                    refine zH_iald hz rfl rfl (.inl rfl) (fun hin123 => ?_)
                    show zH n (0, 0) 257 (124, [zR 97, .inl a1, .inl a2, .inl a3, .inl a4, .inl (4000 + 164 * ((u : Nat) : Int)), .inl i], [.inl (M5 98 ((3350 + 81 * a1 + i) : Int).toNat), .inl (4000 + 164 * ((u : Nat) : Int) + i), zR 98]) M5 _
                    rw [show M5 98 (3350 + 81 * a1 + i).toNat = M 98 (3350 + 81 * a1.toNat + i.toNat) from by rw [hM, zrow_out (by omega), zrow_out (by omega), e98, show (3350 + 81 * a1 + i).toNat = 3350 + 81 * a1.toNat + i.toNat by omega]]
                    refine zH_iast hz rfl rfl (fun hin124 => ?_)
                    show zH n (0, 0) 257 (125, [zR 97, .inl a1, .inl a2, .inl a3, .inl a4, .inl (4000 + 164 * ((u : Nat) : Int)), .inl i], []) (zput M5 98 ((4000 + 164 * ((u : Nat) : Int) + i) : Int).toNat (M 98 (3350 + 81 * a1.toNat + i.toNat))) _
                    obtain ⟨M6, hM6⟩ : ∃ X : zM, X = zput M5 98 ((4000 + 164 * ((u : Nat) : Int) + i) : Int).toNat (M 98 (3350 + 81 * a1.toNat + i.toNat)) := ⟨_, rfl⟩
                    rw [← hM6]
                    refine zH_w (c' := (134, [zR 97, .inl a1, .inl a2, .inl a3, .inl a4, .inl (4000 + 164 * ((u : Nat) : Int)), .inl i], [.inl (w32 ((4000 + 164 * ((u : Nat) : Int)) + 81)), zR 98])) 5 hz rfl ?_
                    rw [show w32 ((4000 + 164 * ((u : Nat) : Int)) + 81) = 4000 + 164 * ((u : Nat) : Int) + 81 from by rw [w32_id (by omega)]]
                    refine zH_w (c' := (137, [zR 97, .inl a1, .inl a2, .inl a3, .inl a4, .inl (4000 + 164 * ((u : Nat) : Int)), .inl i], [.inl (w32 ((4000 + 164 * ((u : Nat) : Int) + 81) + i)), zR 98])) 2 hz rfl ?_
                    rw [show w32 ((4000 + 164 * ((u : Nat) : Int) + 81) + i) = 4000 + 164 * ((u : Nat) : Int) + 81 + i from by rw [w32_id (by omega)]]
                    refine zH_w (c' := (148, [zR 97, .inl a1, .inl a2, .inl a3, .inl a4, .inl (4000 + 164 * ((u : Nat) : Int)), .inl i], [.inl (w32 (81 * a2)), .inl 3350, zR 98, .inl (4000 + 164 * ((u : Nat) : Int) + 81 + i), zR 98])) 6 hz rfl ?_
                    rw [show w32 (81 * a2) = 81 * a2 from by rw [w32_id (by omega)]]
                    refine zH_w (c' := (149, [zR 97, .inl a1, .inl a2, .inl a3, .inl a4, .inl (4000 + 164 * ((u : Nat) : Int)), .inl i], [.inl (w32 (3350 + (81 * a2))), zR 98, .inl (4000 + 164 * ((u : Nat) : Int) + 81 + i), zR 98])) 1 hz rfl ?_
                    rw [show w32 (3350 + (81 * a2)) = 3350 + 81 * a2 from by rw [w32_id (by omega)]]
                    refine zH_w (c' := (152, [zR 97, .inl a1, .inl a2, .inl a3, .inl a4, .inl (4000 + 164 * ((u : Nat) : Int)), .inl i], [.inl (w32 ((3350 + 81 * a2) + i)), zR 98, .inl (4000 + 164 * ((u : Nat) : Int) + 81 + i), zR 98])) 2 hz rfl ?_
                    rw [show w32 ((3350 + 81 * a2) + i) = 3350 + 81 * a2 + i from by rw [w32_id (by omega)]]
                    refine zH_iald hz rfl rfl (.inl rfl) (fun hin152 => ?_)
                    show zH n (0, 0) 257 (153, [zR 97, .inl a1, .inl a2, .inl a3, .inl a4, .inl (4000 + 164 * ((u : Nat) : Int)), .inl i], [.inl (M6 98 ((3350 + 81 * a2 + i) : Int).toNat), .inl (4000 + 164 * ((u : Nat) : Int) + 81 + i), zR 98]) M6 _
                    rw [show M6 98 (3350 + 81 * a2 + i).toNat = M 98 (3350 + 81 * a2.toNat + i.toNat) from by rw [hM6, qput_nk (by omega), hM, zrow_out (by omega), zrow_out (by omega), e98, show (3350 + 81 * a2 + i).toNat = 3350 + 81 * a2.toNat + i.toNat by omega]]
                    refine zH_iast hz rfl rfl (fun hin153 => ?_)
                    show zH n (0, 0) 257 (154, [zR 97, .inl a1, .inl a2, .inl a3, .inl a4, .inl (4000 + 164 * ((u : Nat) : Int)), .inl i], []) (zput M6 98 ((4000 + 164 * ((u : Nat) : Int) + 81 + i) : Int).toNat (M 98 (3350 + 81 * a2.toNat + i.toNat))) _
                    refine zH_w (c' := (92, [zR 97, .inl a1, .inl a2, .inl a3, .inl a4, .inl (4000 + 164 * ((u : Nat) : Int)), .inl (i + 1)], [])) 2 hz (by rw [show (.inl (i + 1) : zV) = .inl (w32 (i + 1)) from by rw [w32_id (by omega)]]; rfl) ?_
                    refine ih92 (i + 1) (zput M6 98 ((4000 + 164 * ((u : Nat) : Int) + 81 + i) : Int).toNat (M 98 (3350 + 81 * a2.toNat + i.toNat))) (by omega) ?_ ?_
                    · omega
                    · have s := oNx (M := M2) (A := 4000 + 164 * u) (n := i.toNat) (v := (fun j => M 98 (3350 + 81 * a1.toNat + j))) (x := (fun j => M 98 (3350 + 81 * a2.toNat + j))) (by omega)
                      rw [show (i + 1).toNat = i.toNat + 1 by omega, ← s, hM6, hM]
                      rw [show (4000 + 164 * ((u : Nat) : Int) + i).toNat = 4000 + 164 * u + i.toNat by omega, show (4000 + 164 * ((u : Nat) : Int) + 81 + i).toNat = 4000 + 164 * u + 81 + i.toNat by omega]
              refine lp92 (82) 0 M2 (by omega) ?_ ?_
              · omega
              · rw [show (0 : Int).toNat = 0 from rfl, zrow_0, zrow_0]
            · skip
              have hk : kO M a1 a2 a3 = -4 := by unfold kO; rw [if_pos (by omega), if_pos ⟨by omega, by omega⟩, if_pos (by omega)]
              have hF := hO2
              exact zH_wr (r := some (.inl (-4))) 1 hz (by rfl) (⟨by rw [hk], fun r q1 _ q2 q3 q4 => hF r q1 q2 q3 q4, fun _ => hF 98 (by decide) (by decide) (by decide) (by decide), fun q => absurd q (by omega)⟩)
          · skip
            have hk : kO M a1 a2 a3 = -3 := by unfold kO; rw [if_pos (by omega), if_neg (fun q => by have := q.2; omega)]
            have hF := hO2
            exact zH_wr (r := some (.inl (-3))) 1 hz (by rfl) (⟨by rw [hk], fun r q1 _ q2 q3 q4 => hF r q1 q2 q3 q4, fun _ => hF 98 (by decide) (by decide) (by decide) (by decide), fun q => absurd q (by omega)⟩)
      · skip
        rw [hx3, hq_184] at hb18
        refine zH_w (c' := (23, [zR 97, .inl a1, .inl a2, .inl a3, .inl a4, zN, zN], [.inl (-2)])) 1 hz rfl ?_
        refine zH_ret hz rfl rfl ?_
        have hk : kO M a1 a2 a3 = -2 := by unfold kO; rw [if_neg (by omega)]
        exact ⟨by rw [hk], fun _ _ _ _ _ _ => rfl, fun _ => rfl, fun q => absurd q (by omega)⟩
theorem oOk.mk {f g : Nat → Int} {M : zM} {a : Int} {s t : Nat} (hL : xL M a ≤ 80) (hl : M 98 (3350 + 81 * a.toNat) = (xL M a : Int)) (hf : ∀ j, j < 81 → f (s + j) = M 98 (3350 + 81 * a.toNat + j)) (hF : xFt (xc M a) (xL M a) = -1) (hO : (xTd (xc M a) (xL M a)).length ≤ 80 ∧ g t = ((xTd (xc M a) (xL M a)).length : Int) ∧ xC (fun j => g (t + j)) (xTd (xc M a) (xL M a))) : oOk f g s t := by
  refine ⟨xc M a, xL M a, (hf 0 (by decide)).trans hl, hL, fun j hj => ?_, hF, hO.1, hO.2.1, hO.2.2⟩
  have q := hf (1 + j) (by omega)
  rw [show s + (1 + j) = s + 1 + j by omega, show 3350 + 81 * a.toNat + (1 + j) = 3351 + 81 * a.toNat + j by omega] at q
  exact q
/-- an ordinance told on both sides: the tables stay coupled -/
theorem hm_152 {M M1 M2 : zM} {a1 a2 a3 a4 : Int} (h : hHs M 9 (M 98)) (hq : qMI M) (h4 : a4 = 0 ∨ a4 = 1)
  (f1 : ∀ r, r ≠ 22 → r ≠ 23 → r ≠ 67 → r ≠ 69 → r ≠ 70 → r ≠ 71 → M1 r = M r) (n1 : kO M a1 a2 a3 < 0 → M1 22 = M 22 ∧ M1 23 = M 23)
  (g1 : 0 ≤ kO M a1 a2 a3 → (M1 22 3 = M 98 5 + 1 ∧ ∀ j, j ≠ 3 → M1 22 j = M 22 j) ∧ (∀ j, ¬ (164 * (M 98 5).toNat ≤ j ∧ j < 164 * (M 98 5).toNat + 164) → M1 23 j = M 23 j) ∧ M1 23 (164 * (M 98 5).toNat) = a3 ∧ M1 23 (164 * (M 98 5).toNat + 1) = a4 ∧ ((xTd (xc M a1) (xL M a1)).length ≤ 80 ∧ M1 23 (164 * (M 98 5).toNat + 2) = ((xTd (xc M a1) (xL M a1)).length : Int) ∧ xC (fun j => M1 23 (164 * (M 98 5).toNat + 2 + j)) (xTd (xc M a1) (xL M a1))) ∧ ((xTd (xc M a2) (xL M a2)).length ≤ 80 ∧ M1 23 (164 * (M 98 5).toNat + 83) = ((xTd (xc M a2) (xL M a2)).length : Int) ∧ xC (fun j => M1 23 (164 * (M 98 5).toNat + 83 + j)) (xTd (xc M a2) (xL M a2))))
  (f2 : ∀ r, r < 97 → M2 r = M1 r) (n2 : kO M a1 a2 a3 < 0 → M2 98 = M 98)
  (g2 : 0 ≤ kO M a1 a2 a3 → M2 98 5 = M 98 5 + 1 ∧ (∀ j, j < 81 → M2 98 (4000 + 164 * (M 98 5).toNat + j) = M 98 (3350 + 81 * a1.toNat + j)) ∧ (∀ j, j < 81 → M2 98 (4081 + 164 * (M 98 5).toNat + j) = M 98 (3350 + 81 * a2.toNat + j)) ∧ M2 98 (4162 + 164 * (M 98 5).toNat) = a3 ∧ M2 98 (4163 + 164 * (M 98 5).toNat) = a4 ∧ ∀ j, j ≠ 5 → ¬ (4000 + 164 * (M 98 5).toNat ≤ j ∧ j < 4164 + 164 * (M 98 5).toNat) → M2 98 j = M 98 j) : hHs M2 9 (M2 98) := by
  have h9 : hc9 (M 22 3) (M 23) (M 98) := h.2.2.2.2.2.2.2.2.2.1
  by_cases hk : kO M a1 a2 a3 < 0
  · obtain ⟨e1, e2⟩ := n1 hk
    refine h.fr (fun r hr => (f2 r (by omega)).trans ?_) (fun j _ => congrFun (n2 hk) j)
    by_cases r22 : r = 22
    · rw [r22]; exact e1
    · by_cases r23 : r = 23
      · rw [r23]; exact e2
      · exact f1 r r22 r23 (by omega) (by omega) (by omega) (by omega)
  · have hk0 : 0 ≤ kO M a1 a2 a3 := by omega
    obtain ⟨⟨c1, -⟩, c3, c4, c5, c6, c7⟩ := g1 hk0
    obtain ⟨d1, d2, d3, d4, d5, d6⟩ := g2 hk0
    have hb := h9.1
    have hkk : ((0 ≤ a1 ∧ a1 ≤ 7) ∧ (0 ≤ a2 ∧ a2 ≤ 7) ∧ 0 ≤ a3 ∧ a3 ≤ 9999) ∧ (xFt (xc M a1) (xL M a1) = -1 ∧ xFt (xc M a2) (xL M a2) = -1) ∧ ¬ M 98 5 = 10 := by
      unfold kO at hk0
      split at hk0
      · rename_i q1
        split at hk0
        · rename_i q2
          split at hk0
          · omega
          · rename_i q3; exact ⟨q1, q2, q3⟩
        · omega
      · omega
    obtain ⟨⟨ha1, ha2, ha3⟩, ⟨hF1, hF2⟩, h10⟩ := hkk
    have txt : ∀ a : Int, 0 ≤ a ∧ a ≤ 7 → xL M a ≤ 80 ∧ M 98 (3350 + 81 * a.toNat) = (xL M a : Int) := fun a ha => by
      have q := hq.txt a (3350 + 81 * a) (by omega) rfl
      rw [show (3350 + 81 * a).toNat = 3350 + 81 * a.toNat by omega] at q
      unfold xL
      omega
    have e23 : M2 23 = M1 23 := f2 23 (by decide)
    refine hHs.t9 h (fun r r1 r2 r3 r4 => (f2 r (by omega)).trans (f1 r r3 r4 (by omega) (by omega) (by omega) (by omega))) (fun j j1 j2 => d6 j j1 (by omega)) (by omega) ⟨⟨?_, by omega, by omega⟩, fun o ho hlt => ?_⟩
    · rw [f2 22 (by decide), c1, d1]
    · rw [e23]
      by_cases hou : o = (M 98 5).toNat
      · subst hou
        have x1 := txt a1 ha1
        have x2 := txt a2 ha2
        refine ⟨by rw [c4, d4], by rw [d4]; omega, by rw [c5, d5], by rw [d5]; exact h4, oOk.mk x1.1 x1.2 d2 hF1 c6, ?_⟩
        exact oOk.mk x2.1 x2.2 d3 hF2 c7
      · refine (h9.2 o ho (by omega)).gf (fun j q1 q2 => d6 j (by omega) (by omega)) (fun j q1 q2 => c3 j (by omega))
/-- the latest of the first n ordinances from a day or earlier; all: 1: those for all alone -/
noncomputable def oLt (f : Nat → Int) (d all : Int) : Nat → Int
  | 0 => -1
  | n + 1 => if (f (4162 + 164 * n) ≤ d ∧ (all = 0 ∨ f (4163 + 164 * n) = 1)) ∧ (oLt f d all n = -1 ∨ f (4162 + 164 * (oLt f d all n).toNat) ≤ f (4162 + 164 * n)) then (n : Int) else oLt f d all n
theorem oLt_s (f : Nat → Int) (d all : Int) (n : Nat) : oLt f d all (n + 1) = if (f (4162 + 164 * n) ≤ d ∧ (all = 0 ∨ f (4163 + 164 * n) = 1)) ∧ (oLt f d all n = -1 ∨ f (4162 + 164 * (oLt f d all n).toNat) ≤ f (4162 + 164 * n)) then (n : Int) else oLt f d all n := rfl
theorem oLt_r (f : Nat → Int) (d all : Int) : ∀ n : Nat, -1 ≤ oLt f d all n ∧ oLt f d all n < n
  | 0 => by show -1 ≤ (-1 : Int) ∧ (-1 : Int) < ((0 : Nat) : Int); omega
  | n + 1 => by have q := oLt_r f d all n; rw [oLt_s]; split <;> omega
/-- the class's row: the best and its day -/
noncomputable def oLp (f : Nat → Int) (b l : Int) : Prop := l = if b = -1 then -1 else f (4162 + 164 * b.toNat)
theorem oL_c {f : Nat → Int} {d all b l : Int} {n : Nat} (hb : b = oLt f d all n) (hl : oLp f b l) (h0 : 0 ≤ f (4162 + 164 * n)) : ((f (4162 + 164 * n) ≤ d ∧ (all = 0 ∨ f (4163 + 164 * n) = 1)) ∧ l ≤ f (4162 + 164 * n) → (n : Int) = oLt f d all (n + 1) ∧ oLp f n (f (4162 + 164 * n))) ∧ (¬ ((f (4162 + 164 * n) ≤ d ∧ (all = 0 ∨ f (4163 + 164 * n) = 1)) ∧ l ≤ f (4162 + 164 * n)) → b = oLt f d all (n + 1)) := by
  unfold oLp at hl ⊢
  rw [oLt_s, ← hb]
  constructor
  · intro h
    refine ⟨?_, ?_⟩
    · have hc : b = -1 ∨ f (4162 + 164 * b.toNat) ≤ f (4162 + 164 * n) := by
        by_cases e : b = -1
        · exact .inl e
        · rw [if_neg e] at hl; exact .inr (by omega)
      rw [if_pos ⟨h.1, hc⟩]
    · rw [if_neg (by omega), Int.toNat_natCast]
  · intro h
    rw [if_neg]
    rintro ⟨h1, h2⟩
    apply h
    refine ⟨h1, ?_⟩
    by_cases e : b = -1
    · rw [if_pos e] at hl; omega
    · rw [if_neg e] at hl
      rcases h2 with h2 | h2
      · exact absurd h2 e
      · omega
/-- which ordinance binds -/
noncomputable def oBi (f : Nat → Int) (s d : Int) : Int := if ¬ oLt f d 1 (f 5).toNat = -1 then oLt f d 1 (f 5).toNat else if ¬ f (81 + 3 * s.toNat) = -1 then f (81 + 3 * s.toNat) else oLt f (f (80 + 3 * s.toNat)) 0 (f 5).toNat
theorem oG22 {M : zM} {a b : Int} (t : M 22 0 = 10 ∧ M 22 1 = 164) (ha : 0 ≤ a ∧ a < 10) (hb : 0 ≤ b ∧ b < 164) : hR_get M 22 a b = M 23 (164 * a.toNat + b.toNat) := by
  unfold hR_get
  rw [if_neg (by omega), if_neg (by omega), if_neg (by omega), if_pos (by omega), t.2, show w32 (w32 (a * 164) + b) = a * 164 + b from by rw [w32_id (x := a * 164) (by omega), w32_id (by omega)], show (a * 164 + b).toNat = 164 * a.toNat + b.toNat by omega]
theorem oG12 {M : zM} {a b : Int} (t : M 12 0 = 20 ∧ M 12 1 = 3) (ha : 0 ≤ a ∧ a < 20) (hb : 0 ≤ b ∧ b < 3) : hR_get M 12 a b = M 13 (3 * a.toNat + b.toNat) := by
  unfold hR_get
  rw [if_neg (by omega), if_neg (by omega), if_neg (by omega), if_pos (by omega), t.2, show w32 (w32 (a * 3) + b) = a * 3 + b from by rw [w32_id (x := a * 3) (by omega), w32_id (by omega)], show (a * 3 + b).toNat = 3 * a.toNat + b.toNat by omega]
set_option maxRecDepth 100000 in
theorem fh_30_76 {n : Nat} {M : zM} (h9 : hc9 (M 22 3) (M 23) (M 98)) (t22 : M 22 0 = 10 ∧ M 22 1 = 164) (a1 a2 : Int) : zH n (0, 0) 30 (0, zini [zR 76, .inl a1, .inl a2] 8, []) M (fun r M' => r = some (.inl (oLt (M 98) a1 a2 (M 98 5).toNat)) ∧ M' = M) := by
  have hz := zp_30
  show zH n (0, 0) 30 (0, [zR 76, .inl a1, .inl a2, zN, zN, zN, zN, zN], []) M _
  have k5 := h9.1
  refine zH_w (c' := (8, [zR 76, .inl a1, .inl a2, .inl (-1), .inl (-1), .inl 0, zN, zN], [])) 6 hz rfl ?_
  have lp8 : ∀ (N : Nat) (b : Int) (l : Int) (i : Int) (u6 : zV) (u7 : zV), ((10 - i).toNat) < N → (0 ≤ i ∧ i ≤ M 98 5) → (b = oLt (M 98) a1 a2 i.toNat) → (oLp (M 98) b l) → zH n (0, 0) 30 (8, [zR 76, .inl a1, .inl a2, .inl b, .inl l, .inl i, u6, u7], []) M (fun r M' => r = some (.inl (oLt (M 98) a1 a2 (M 98 5).toNat)) ∧ M' = M) := by
    intro N
    induction N with
    | zero => intro b l i u6 u7 hN; exact absurd hN (Nat.not_lt_zero _)
    | succ N ih8 =>
      intro b l i u6 u7 hN hi hb hl
      refine zH_w (c' := (17, [zR 76, .inl a1, .inl a2, .inl b, .inl l, .inl i, u6, u7], [zR 22, .inl i])) 4 hz rfl ?_
      refine zH_wE (c1 := (20, [zR 76, .inl a1, .inl a2, .inl b, .inl l, .inl i, u6, u7], [.inl i])) 0 hz zp_101 (fh_101_22) (by rfl) ?_
      show zH n (0, 0) 30 (20, [zR 76, .inl a1, .inl a2, .inl b, .inl l, .inl i, u6, u7], [.inl (hR_size M 22), .inl i]) M _
      rw [show hR_size M 22 = M 98 5 from k5.1]
      refine zH_icmp_ge hz rfl (fun hb20 => ?_) (fun hb20 => ?_)
      · skip
        refine zH_w (c' := (98, [zR 76, .inl a1, .inl a2, .inl b, .inl l, .inl i, u6, u7], [.inl b])) 1 hz rfl ?_
        exact zH_wr (r := some (.inl b)) 0 hz (by rfl) (⟨by rw [hb, show i.toNat = (M 98 5).toNat by omega], rfl⟩)
      · skip
        have ei : ((i.toNat : Nat) : Int) = i := by omega
        have hrw := h9.2 i.toNat (by omega) (by omega)
        have g0 : hR_get M 22 i 0 = M 98 (4162 + 164 * i.toNat) := by
          rw [oG22 t22 (by omega) (by decide)]; exact hrw.1
        have g1 : hR_get M 22 i 1 = M 98 (4163 + 164 * i.toNat) := by
          rw [oG22 t22 (by omega) (by decide)]; exact hrw.2.2.1
        have hst := oL_c hb hl hrw.2.1.1
        refine zH_w (c' := (33, [zR 76, .inl a1, .inl a2, .inl b, .inl l, .inl i, u6, u7], [.inl 0, .inl i, zR 22])) 5 hz rfl ?_
        refine zH_wE (c1 := (36, [zR 76, .inl a1, .inl a2, .inl b, .inl l, .inl i, u6, u7], [])) 0 hz zp_106 (fh_106_22 i 0) (by rfl) ?_
        show zH n (0, 0) 30 (36, [zR 76, .inl a1, .inl a2, .inl b, .inl l, .inl i, u6, u7], [.inl (hR_get M 22 i 0)]) M _
        rw [g0]
        refine zH_w (c' := (39, [zR 76, .inl a1, .inl a2, .inl b, .inl l, .inl i, .inl (M 98 (4162 + 164 * i.toNat)), u7], [.inl a2])) 2 hz rfl ?_
        refine zH_wf_eq (pc := 39) (n' := 42) (t := 59) (L := [zR 76, .inl a1, .inl a2, .inl b, .inl l, .inl i, .inl (M 98 (4162 + 164 * i.toNat)), u7]) (st := []) (x := a2) 0 hz (by rfl) (fun hb39 => ?_) (fun hb39 => ?_)
        · skip
          refine zH_w (c' := (74, [zR 76, .inl a1, .inl a2, .inl b, .inl l, .inl i, .inl (M 98 (4162 + 164 * i.toNat)), .inl 1], [.inl a1, .inl (M 98 (4162 + 164 * i.toNat))])) 7 hz rfl ?_
          refine zH_wi_gt (pc := 74) (n' := 77) (t := 91) (L := [zR 76, .inl a1, .inl a2, .inl b, .inl l, .inl i, .inl (M 98 (4162 + 164 * i.toNat)), .inl 1]) (st := []) (x := (M 98 (4162 + 164 * i.toNat))) (y := a1) 0 hz (by rfl) (fun hb74 => ?_) (fun hb74 => ?_)
          · skip
            refine zH_w (c' := (8, [zR 76, .inl a1, .inl a2, .inl b, .inl l, .inl (i + 1), .inl (M 98 (4162 + 164 * i.toNat)), .inl 1], [])) 2 hz (by rw [show (.inl (i + 1) : zV) = .inl (w32 (i + 1)) from by rw [w32_id (by omega)]]; rfl) ?_
            refine ih8 b l (i + 1) (.inl (M 98 (4162 + 164 * i.toNat))) (.inl 1) (by omega) ?_ ?_ ?_
            · omega
            · rw [show (i + 1).toNat = i.toNat + 1 by omega]
              first
                | exact hst.2 (fun q => by omega)
                | (have q := (hst.1 ⟨⟨by omega, by omega⟩, by omega⟩).1; rw [ei] at q; exact q)
            · first
                | exact hl
                | (have q := (hst.1 ⟨⟨by omega, by omega⟩, by omega⟩).2; rw [ei] at q; exact q)
          · skip
            refine zH_wi_lt (pc := 81) (n' := 84) (t := 91) (L := [zR 76, .inl a1, .inl a2, .inl b, .inl l, .inl i, .inl (M 98 (4162 + 164 * i.toNat)), .inl 1]) (st := []) (x := (M 98 (4162 + 164 * i.toNat))) (y := l) 2 hz (by rfl) (fun hb81 => ?_) (fun hb81 => ?_)
            · skip
              refine zH_w (c' := (8, [zR 76, .inl a1, .inl a2, .inl b, .inl l, .inl (i + 1), .inl (M 98 (4162 + 164 * i.toNat)), .inl 1], [])) 2 hz (by rw [show (.inl (i + 1) : zV) = .inl (w32 (i + 1)) from by rw [w32_id (by omega)]]; rfl) ?_
              refine ih8 b l (i + 1) (.inl (M 98 (4162 + 164 * i.toNat))) (.inl 1) (by omega) ?_ ?_ ?_
              · omega
              · rw [show (i + 1).toNat = i.toNat + 1 by omega]
                first
                  | exact hst.2 (fun q => by omega)
                  | (have q := (hst.1 ⟨⟨by omega, by omega⟩, by omega⟩).1; rw [ei] at q; exact q)
              · first
                  | exact hl
                  | (have q := (hst.1 ⟨⟨by omega, by omega⟩, by omega⟩).2; rw [ei] at q; exact q)
            · skip
              refine zH_w (c' := (8, [zR 76, .inl a1, .inl a2, .inl i, .inl (M 98 (4162 + 164 * i.toNat)), .inl (i + 1), .inl (M 98 (4162 + 164 * i.toNat)), .inl 1], [])) 6 hz (by rw [show (.inl (i + 1) : zV) = .inl (w32 (i + 1)) from by rw [w32_id (by omega)]]; rfl) ?_
              refine ih8 i (M 98 (4162 + 164 * i.toNat)) (i + 1) (.inl (M 98 (4162 + 164 * i.toNat))) (.inl 1) (by omega) ?_ ?_ ?_
              · omega
              · rw [show (i + 1).toNat = i.toNat + 1 by omega]
                first
                  | exact hst.2 (fun q => by omega)
                  | (have q := (hst.1 ⟨⟨by omega, by omega⟩, by omega⟩).1; rw [ei] at q; exact q)
              · first
                  | exact hl
                  | (have q := (hst.1 ⟨⟨by omega, by omega⟩, by omega⟩).2; rw [ei] at q; exact q)
        · skip
          refine zH_wE (c1 := (55, [zR 76, .inl a1, .inl a2, .inl b, .inl l, .inl i, .inl (M 98 (4162 + 164 * i.toNat)), u7], [])) 5 hz zp_106 (fh_106_22 i 1) (by rfl) ?_
          show zH n (0, 0) 30 (55, [zR 76, .inl a1, .inl a2, .inl b, .inl l, .inl i, .inl (M 98 (4162 + 164 * i.toNat)), u7], [.inl (hR_get M 22 i 1)]) M _
          rw [g1]
          refine zH_w (c' := (56, [zR 76, .inl a1, .inl a2, .inl b, .inl l, .inl i, .inl (M 98 (4162 + 164 * i.toNat)), u7], [.inl 1, .inl (M 98 (4163 + 164 * i.toNat))])) 1 hz rfl ?_
          refine zH_wi_ne (pc := 56) (n' := 59) (t := 63) (L := [zR 76, .inl a1, .inl a2, .inl b, .inl l, .inl i, .inl (M 98 (4162 + 164 * i.toNat)), u7]) (st := []) (x := (M 98 (4163 + 164 * i.toNat))) (y := 1) 0 hz (by rfl) (fun hb56 => ?_) (fun hb56 => ?_)
          · skip
            refine zH_w (c' := (8, [zR 76, .inl a1, .inl a2, .inl b, .inl l, .inl (i + 1), .inl (M 98 (4162 + 164 * i.toNat)), .inl 0], [])) 6 hz (by rw [show (.inl (i + 1) : zV) = .inl (w32 (i + 1)) from by rw [w32_id (by omega)]]; rfl) ?_
            refine ih8 b l (i + 1) (.inl (M 98 (4162 + 164 * i.toNat))) (.inl 0) (by omega) ?_ ?_ ?_
            · omega
            · rw [show (i + 1).toNat = i.toNat + 1 by omega]
              first
                | exact hst.2 (fun q => by omega)
                | (have q := (hst.1 ⟨⟨by omega, by omega⟩, by omega⟩).1; rw [ei] at q; exact q)
            · first
                | exact hl
                | (have q := (hst.1 ⟨⟨by omega, by omega⟩, by omega⟩).2; rw [ei] at q; exact q)
          · skip
            refine zH_w (c' := (74, [zR 76, .inl a1, .inl a2, .inl b, .inl l, .inl i, .inl (M 98 (4162 + 164 * i.toNat)), .inl 1], [.inl a1, .inl (M 98 (4162 + 164 * i.toNat))])) 7 hz rfl ?_
            refine zH_wi_gt (pc := 74) (n' := 77) (t := 91) (L := [zR 76, .inl a1, .inl a2, .inl b, .inl l, .inl i, .inl (M 98 (4162 + 164 * i.toNat)), .inl 1]) (st := []) (x := (M 98 (4162 + 164 * i.toNat))) (y := a1) 0 hz (by rfl) (fun hb74 => ?_) (fun hb74 => ?_)
            · skip
              refine zH_w (c' := (8, [zR 76, .inl a1, .inl a2, .inl b, .inl l, .inl (i + 1), .inl (M 98 (4162 + 164 * i.toNat)), .inl 1], [])) 2 hz (by rw [show (.inl (i + 1) : zV) = .inl (w32 (i + 1)) from by rw [w32_id (by omega)]]; rfl) ?_
              refine ih8 b l (i + 1) (.inl (M 98 (4162 + 164 * i.toNat))) (.inl 1) (by omega) ?_ ?_ ?_
              · omega
              · rw [show (i + 1).toNat = i.toNat + 1 by omega]
                first
                  | exact hst.2 (fun q => by omega)
                  | (have q := (hst.1 ⟨⟨by omega, by omega⟩, by omega⟩).1; rw [ei] at q; exact q)
              · first
                  | exact hl
                  | (have q := (hst.1 ⟨⟨by omega, by omega⟩, by omega⟩).2; rw [ei] at q; exact q)
            · skip
              refine zH_wi_lt (pc := 81) (n' := 84) (t := 91) (L := [zR 76, .inl a1, .inl a2, .inl b, .inl l, .inl i, .inl (M 98 (4162 + 164 * i.toNat)), .inl 1]) (st := []) (x := (M 98 (4162 + 164 * i.toNat))) (y := l) 2 hz (by rfl) (fun hb81 => ?_) (fun hb81 => ?_)
              · skip
                refine zH_w (c' := (8, [zR 76, .inl a1, .inl a2, .inl b, .inl l, .inl (i + 1), .inl (M 98 (4162 + 164 * i.toNat)), .inl 1], [])) 2 hz (by rw [show (.inl (i + 1) : zV) = .inl (w32 (i + 1)) from by rw [w32_id (by omega)]]; rfl) ?_
                refine ih8 b l (i + 1) (.inl (M 98 (4162 + 164 * i.toNat))) (.inl 1) (by omega) ?_ ?_ ?_
                · omega
                · rw [show (i + 1).toNat = i.toNat + 1 by omega]
                  first
                    | exact hst.2 (fun q => by omega)
                    | (have q := (hst.1 ⟨⟨by omega, by omega⟩, by omega⟩).1; rw [ei] at q; exact q)
                · first
                    | exact hl
                    | (have q := (hst.1 ⟨⟨by omega, by omega⟩, by omega⟩).2; rw [ei] at q; exact q)
              · skip
                refine zH_w (c' := (8, [zR 76, .inl a1, .inl a2, .inl i, .inl (M 98 (4162 + 164 * i.toNat)), .inl (i + 1), .inl (M 98 (4162 + 164 * i.toNat)), .inl 1], [])) 6 hz (by rw [show (.inl (i + 1) : zV) = .inl (w32 (i + 1)) from by rw [w32_id (by omega)]]; rfl) ?_
                refine ih8 i (M 98 (4162 + 164 * i.toNat)) (i + 1) (.inl (M 98 (4162 + 164 * i.toNat))) (.inl 1) (by omega) ?_ ?_ ?_
                · omega
                · rw [show (i + 1).toNat = i.toNat + 1 by omega]
                  first
                    | exact hst.2 (fun q => by omega)
                    | (have q := (hst.1 ⟨⟨by omega, by omega⟩, by omega⟩).1; rw [ei] at q; exact q)
                · first
                    | exact hl
                    | (have q := (hst.1 ⟨⟨by omega, by omega⟩, by omega⟩).2; rw [ei] at q; exact q)
  refine lp8 (11) (-1) (-1) 0 zN zN (by omega) ?_ ?_ ?_
  · omega
  · rfl
  · exact (if_pos rfl).symm
set_option maxRecDepth 100000 in
theorem fh_29_76 {n : Nat} {M : zM} (h9 : hc9 (M 22 3) (M 23) (M 98)) (t22 : M 22 0 = 10 ∧ M 22 1 = 164) (t12 : M 12 0 = 20 ∧ M 12 1 = 3) (h1 : hc1 (M 12 3) (M 13) (M 98)) (hA : hcA (M 13) (M 98)) (a1 a2 : Int) (hs : 0 ≤ a1 ∧ a1 < 20) : zH n (0, 0) 29 (0, zini [zR 76, .inl a1, .inl a2] 5, []) M (fun r M' => r = some (.inl (oBi (M 98) a1 a2)) ∧ M' = M) := by
  have hz := zp_29
  show zH n (0, 0) 29 (0, [zR 76, .inl a1, .inl a2, zN, zN], []) M _
  have g1 : hR_get M 12 a1 1 = M 98 (81 + 3 * a1.toNat) := by
    rw [oG12 t12 (by omega) (by decide)]; exact (hA a1.toNat (by omega)).1
  have g0 : hR_get M 12 a1 0 = M 98 (80 + 3 * a1.toNat) := by
    rw [oG12 t12 (by omega) (by decide)]; exact (h1.2 a1.toNat (by omega)).1
  refine zH_wE (c1 := (6, [zR 76, .inl a1, .inl a2, zN, zN], [])) 3 hz zp_30 (fh_30_76 h9 t22 a2 1) (by rfl) ?_
  show zH n (0, 0) 29 (6, [zR 76, .inl a1, .inl a2, zN, zN], [.inl (oLt (M 98) a2 1 (M 98 5).toNat)]) M _
  refine zH_wi_eq (pc := 9) (n' := 12) (t := 14) (L := [zR 76, .inl a1, .inl a2, .inl (oLt (M 98) a2 1 (M 98 5).toNat), zN]) (st := []) (x := (oLt (M 98) a2 1 (M 98 5).toNat)) (y := (-1)) 3 hz (by rfl) (fun hb9 => ?_) (fun hb9 => ?_)
  · skip
    refine zH_wE (c1 := (26, [zR 76, .inl a1, .inl a2, .inl (oLt (M 98) a2 1 (M 98 5).toNat), zN], [])) 5 hz zp_106 (fh_106_12 a1 1) (by rfl) ?_
    show zH n (0, 0) 29 (26, [zR 76, .inl a1, .inl a2, .inl (oLt (M 98) a2 1 (M 98 5).toNat), zN], [.inl (hR_get M 12 a1 1)]) M _
    rw [g1]
    refine zH_w (c' := (31, [zR 76, .inl a1, .inl a2, .inl (oLt (M 98) a2 1 (M 98 5).toNat), .inl (M 98 (81 + 3 * a1.toNat))], [.inl (-1), .inl (M 98 (81 + 3 * a1.toNat))])) 3 hz rfl ?_
    refine zH_wi_eq (pc := 31) (n' := 34) (t := 39) (L := [zR 76, .inl a1, .inl a2, .inl (oLt (M 98) a2 1 (M 98 5).toNat), .inl (M 98 (81 + 3 * a1.toNat))]) (st := []) (x := (M 98 (81 + 3 * a1.toNat))) (y := (-1)) 0 hz (by rfl) (fun hb31 => ?_) (fun hb31 => ?_)
    · skip
      refine zH_wE (c1 := (52, [zR 76, .inl a1, .inl a2, .inl (oLt (M 98) a2 1 (M 98 5).toNat), .inl (M 98 (81 + 3 * a1.toNat))], [zR 76])) 6 hz zp_106 (fh_106_12 a1 0) (by rfl) ?_
      show zH n (0, 0) 29 (52, [zR 76, .inl a1, .inl a2, .inl (oLt (M 98) a2 1 (M 98 5).toNat), .inl (M 98 (81 + 3 * a1.toNat))], [.inl (hR_get M 12 a1 0), zR 76]) M _
      rw [g0]
      refine zH_w (c' := (53, [zR 76, .inl a1, .inl a2, .inl (oLt (M 98) a2 1 (M 98 5).toNat), .inl (M 98 (81 + 3 * a1.toNat))], [.inl 0, .inl (M 98 (80 + 3 * a1.toNat)), zR 76])) 1 hz rfl ?_
      refine zH_wE (c1 := (56, [zR 76, .inl a1, .inl a2, .inl (oLt (M 98) a2 1 (M 98 5).toNat), .inl (M 98 (81 + 3 * a1.toNat))], [])) 0 hz zp_30 (fh_30_76 h9 t22 (M 98 (80 + 3 * a1.toNat)) 0) (by rfl) ?_
      show zH n (0, 0) 29 (56, [zR 76, .inl a1, .inl a2, .inl (oLt (M 98) a2 1 (M 98 5).toNat), .inl (M 98 (81 + 3 * a1.toNat))], [.inl (oLt (M 98) (M 98 (80 + 3 * a1.toNat)) 0 (M 98 5).toNat)]) M _
      exact zH_wr (r := some (.inl (oLt (M 98) (M 98 (80 + 3 * a1.toNat)) 0 (M 98 5).toNat))) 0 hz (by rfl) (⟨by unfold oBi; rw [if_neg (fun q => q hb9)]; first | rw [if_pos hb31] | rw [if_neg (fun q => q hb31)], rfl⟩)
    · skip
      exact zH_wr (r := some (.inl (M 98 (81 + 3 * a1.toNat)))) 2 hz (by rfl) (⟨by unfold oBi; rw [if_neg (fun q => q hb9)]; first | rw [if_pos hb31] | rw [if_neg (fun q => q hb31)], rfl⟩)
  · skip
    exact zH_wr (r := some (.inl (oLt (M 98) a2 1 (M 98 5).toNat))) 1 hz (by rfl) (⟨by unfold oBi; rw [if_pos hb9], rfl⟩)
set_option maxRecDepth 100000 in
theorem fh_154_8 {n : Nat} {M : zM} (h9 : hc9 (M 22 3) (M 23) (M 98)) (t22 : M 22 0 = 10 ∧ M 22 1 = 164) (t12 : M 12 0 = 20 ∧ M 12 1 = 3) (h1 : hc1 (M 12 3) (M 13) (M 98)) (hA : hcA (M 13) (M 98)) (hn : M 98 1 ≤ 20) (a1 a2 : Int) : zH n (0, 0) 154 (0, zini [zR 8, .inl a1, .inl a2] 3, []) M (fun r M' => r = some (.inl (if (0 ≤ a1 ∧ a1 < M 98 1) ∧ 0 ≤ a2 ∧ a2 ≤ 9999 then oBi (M 98) a1 a2 else -2)) ∧ M' = M) := by
  have hz := zp_154
  show zH n (0, 0) 154 (0, [zR 8, .inl a1, .inl a2], []) M _
  have k1 : M 12 3 = M 98 1 := h1.1
  refine zH_wE (c1 := (5, [zR 8, .inl a1, .inl a2], [])) 2 hz zp_174 (fh_174_8 a1) (by rfl) ?_
  show zH n (0, 0) 154 (5, [zR 8, .inl a1, .inl a2], [.inl (hf_174_8 M a1)]) M _
  obtain ⟨x1, hx1⟩ : ∃ x : Int, x = (hf_174_8 M a1) := ⟨_, rfl⟩
  rw [← hx1]
  refine zH_if_eq hz rfl (fun hb5 => ?_) (fun hb5 => ?_)
  · skip
    rw [hx1, hq_174] at hb5
    refine zH_w (c' := (29, [zR 8, .inl a1, .inl a2], [.inl (-2)])) 1 hz rfl ?_
    exact zH_wr (r := some (.inl (-2))) 0 hz (by rfl) (⟨by first | rw [if_pos (by omega)] | rw [if_neg (by omega)], rfl⟩)
  · skip
    rw [hx1, hq_174] at hb5
    refine zH_w (c' := (9, [zR 8, .inl a1, .inl a2], [.inl a2])) 1 hz rfl ?_
    refine zH_wE (c1 := (12, [zR 8, .inl a1, .inl a2], [])) 0 hz zp_170 (fh_170 a2) (by rfl) ?_
    show zH n (0, 0) 154 (12, [zR 8, .inl a1, .inl a2], [.inl (hf_170 M a2)]) M _
    obtain ⟨x2, hx2⟩ : ∃ x : Int, x = (hf_170 M a2) := ⟨_, rfl⟩
    rw [← hx2]
    refine zH_if_eq hz rfl (fun hb12 => ?_) (fun hb12 => ?_)
    · skip
      rw [hx2, hq_170] at hb12
      refine zH_w (c' := (29, [zR 8, .inl a1, .inl a2], [.inl (-2)])) 1 hz rfl ?_
      exact zH_wr (r := some (.inl (-2))) 0 hz (by rfl) (⟨by first | rw [if_pos (by omega)] | rw [if_neg (by omega)], rfl⟩)
    · skip
      rw [hx2, hq_170] at hb12
      refine zH_w (c' := (21, [zR 8, .inl a1, .inl a2], [.inl a2, .inl a1, zR 76])) 4 hz rfl ?_
      refine zH_wE (c1 := (24, [zR 8, .inl a1, .inl a2], [])) 0 hz zp_29 (fh_29_76 h9 t22 t12 h1 hA a1 a2 (by omega)) (by rfl) ?_
      show zH n (0, 0) 154 (24, [zR 8, .inl a1, .inl a2], [.inl (oBi (M 98) a1 a2)]) M _
      exact zH_wr (r := some (.inl (oBi (M 98) a1 a2))) 1 hz (by rfl) (⟨by first | rw [if_pos (by omega)] | rw [if_neg (by omega)], rfl⟩)
set_option maxRecDepth 100000 in
theorem fh_236_97 {n : Nat} {M : zM} {Mo : zM} (hC : qMI Mo) (e98 : M 98 = Mo 98) (h0 : ∀ o : Nat, (o : Int) < Mo 98 5 → 0 ≤ Mo 98 (4162 + 164 * o)) (a1 a2 : Int) : zH n (0, 0) 236 (0, zini [zR 97, .inl a1, .inl a2] 7, []) M (fun r M' => r = some (.inl (oLt (Mo 98) a1 a2 (Mo 98 5).toNat)) ∧ M' = M) := by
  have hz := zp_236
  show zH n (0, 0) 236 (0, [zR 97, .inl a1, .inl a2, zN, zN, zN, zN], []) M _
  have hn5 := hC.cnt5
  refine zH_w (c' := (5, [zR 97, .inl a1, .inl a2, .inl (-1), .inl 0, zN, zN], [])) 4 hz rfl ?_
  have lp5 : ∀ (N : Nat) (b : Int) (i : Int) (u5 : zV) (u6 : zV), ((10 - i).toNat) < N → (0 ≤ i ∧ i ≤ Mo 98 5) → (b = oLt (Mo 98) a1 a2 i.toNat) → (-1 ≤ b ∧ b < 10) → zH n (0, 0) 236 (5, [zR 97, .inl a1, .inl a2, .inl b, .inl i, u5, u6], []) M (fun r M' => r = some (.inl (oLt (Mo 98) a1 a2 (Mo 98 5).toNat)) ∧ M' = M) := by
    intro N
    induction N with
    | zero => intro b i u5 u6 hN; exact absurd hN (Nat.not_lt_zero _)
    | succ N ih5 =>
      intro b i u5 u6 hN hi hb hl
      refine zH_w (c' := (12, [zR 97, .inl a1, .inl a2, .inl b, .inl i, u5, u6], [.inl 5, zR 98, .inl i])) 4 hz rfl ?_
      refine zH_iald hz rfl rfl (.inl rfl) (fun hin12 => ?_)
      show zH n (0, 0) 236 (13, [zR 97, .inl a1, .inl a2, .inl b, .inl i, u5, u6], [.inl (M 98 (5 : Int).toNat), .inl i]) M _
      rw [show M 98 (5 : Int).toNat = Mo 98 5 from congrFun e98 5]
      refine zH_icmp_ge hz rfl (fun hb13 => ?_) (fun hb13 => ?_)
      · skip
        refine zH_w (c' := (125, [zR 97, .inl a1, .inl a2, .inl b, .inl i, u5, u6], [.inl b])) 1 hz rfl ?_
        exact zH_wr (r := some (.inl b)) 0 hz (by rfl) (⟨by rw [hb, show i.toNat = (Mo 98 5).toNat by omega], rfl⟩)
      · skip
        refine zH_w (c' := (25, [zR 97, .inl a1, .inl a2, .inl b, .inl i, u5, u6], [.inl (w32 (164 * i)), .inl 4000])) 4 hz rfl ?_
        rw [show w32 (164 * i) = 164 * i from by rw [w32_id (by omega)]]
        refine zH_w (c' := (26, [zR 97, .inl a1, .inl a2, .inl b, .inl i, u5, u6], [.inl (w32 (4000 + (164 * i)))])) 1 hz rfl ?_
        rw [show w32 (4000 + (164 * i)) = 4000 + 164 * i from by rw [w32_id (by omega)]]
        refine zH_w (c' := (38, [zR 97, .inl a1, .inl a2, .inl b, .inl i, .inl (4000 + 164 * i), u6], [.inl (w32 ((4000 + 164 * i) + 162)), zR 98])) 6 hz rfl ?_
        rw [show w32 ((4000 + 164 * i) + 162) = 4000 + 164 * i + 162 from by rw [w32_id (by omega)]]
        refine zH_iald hz rfl rfl (.inl rfl) (fun hin38 => ?_)
        show zH n (0, 0) 236 (39, [zR 97, .inl a1, .inl a2, .inl b, .inl i, .inl (4000 + 164 * i), u6], [.inl (M 98 ((4000 + 164 * i + 162) : Int).toNat)]) M _
        rw [show M 98 (4000 + 164 * i + 162).toNat = Mo 98 (4162 + 164 * i.toNat) from by rw [e98, show (4000 + 164 * i + 162).toNat = 4162 + 164 * i.toNat by omega]]
        refine zH_w (c' := (40, [zR 97, .inl a1, .inl a2, .inl b, .inl i, .inl (4000 + 164 * i), u6], [.inl a1, .inl (Mo 98 (4162 + 164 * i.toNat))])) 1 hz rfl ?_
        refine zH_wi_gt (pc := 40) (n' := 43) (t := 66) (L := [zR 97, .inl a1, .inl a2, .inl b, .inl i, .inl (4000 + 164 * i), u6]) (st := []) (x := (Mo 98 (4162 + 164 * i.toNat))) (y := a1) 0 hz (by rfl) (fun hb40 => ?_) (fun hb40 => ?_)
        · skip
          refine zH_w (c' := (5, [zR 97, .inl a1, .inl a2, .inl b, .inl (i + 1), .inl (4000 + 164 * i), .inl 0], [])) 8 hz (by rw [show (.inl (i + 1) : zV) = .inl (w32 (i + 1)) from by rw [w32_id (by omega)]]; rfl) ?_
          refine ih5 b (i + 1) (.inl (4000 + 164 * i)) (.inl 0) (by omega) ?_ ?_ ?_
          · omega
          · rw [show (i + 1).toNat = i.toNat + 1 by omega, oLt_s, ← hb]
            first
              | (rw [if_pos ⟨⟨by omega, by omega⟩, by omega⟩]; omega)
              | (rw [if_neg (fun q => by omega)])
          · omega
        · skip
          refine zH_wf_eq (pc := 44) (n' := 47) (t := 62) (L := [zR 97, .inl a1, .inl a2, .inl b, .inl i, .inl (4000 + 164 * i), u6]) (st := []) (x := a2) 1 hz (by rfl) (fun hb44 => ?_) (fun hb44 => ?_)
          · skip
            refine zH_w (c' := (76, [zR 97, .inl a1, .inl a2, .inl b, .inl i, .inl (4000 + 164 * i), .inl 1], [.inl (-1), .inl b])) 7 hz rfl ?_
            refine zH_wi_eq (pc := 76) (n' := 79) (t := 111) (L := [zR 97, .inl a1, .inl a2, .inl b, .inl i, .inl (4000 + 164 * i), .inl 1]) (st := []) (x := b) (y := (-1)) 0 hz (by rfl) (fun hb76 => ?_) (fun hb76 => ?_)
            · skip
              refine zH_w (c' := (5, [zR 97, .inl a1, .inl a2, .inl i, .inl (i + 1), .inl (4000 + 164 * i), .inl 1], [])) 5 hz (by rw [show (.inl (i + 1) : zV) = .inl (w32 (i + 1)) from by rw [w32_id (by omega)]]; rfl) ?_
              refine ih5 i (i + 1) (.inl (4000 + 164 * i)) (.inl 1) (by omega) ?_ ?_ ?_
              · omega
              · rw [show (i + 1).toNat = i.toNat + 1 by omega, oLt_s, ← hb]
                first
                  | (rw [if_pos ⟨⟨by omega, by omega⟩, by omega⟩]; omega)
                  | (rw [if_neg (fun q => by omega)])
              · omega
            · skip
              refine zH_w (c' := (89, [zR 97, .inl a1, .inl a2, .inl b, .inl i, .inl (4000 + 164 * i), .inl 1], [.inl (w32 ((4000 + 164 * i) + 162)), zR 98])) 5 hz rfl ?_
              rw [show w32 ((4000 + 164 * i) + 162) = 4000 + 164 * i + 162 from by rw [w32_id (by omega)]]
              refine zH_iald hz rfl rfl (.inl rfl) (fun hin89 => ?_)
              show zH n (0, 0) 236 (90, [zR 97, .inl a1, .inl a2, .inl b, .inl i, .inl (4000 + 164 * i), .inl 1], [.inl (M 98 ((4000 + 164 * i + 162) : Int).toNat)]) M _
              rw [show M 98 (4000 + 164 * i + 162).toNat = Mo 98 (4162 + 164 * i.toNat) from by rw [e98, show (4000 + 164 * i + 162).toNat = 4162 + 164 * i.toNat by omega]]
              refine zH_w (c' := (102, [zR 97, .inl a1, .inl a2, .inl b, .inl i, .inl (4000 + 164 * i), .inl 1], [.inl (w32 (164 * b)), .inl 4000, zR 98, .inl (Mo 98 (4162 + 164 * i.toNat))])) 6 hz rfl ?_
              rw [show w32 (164 * b) = 164 * b from by rw [w32_id (by omega)]]
              refine zH_w (c' := (103, [zR 97, .inl a1, .inl a2, .inl b, .inl i, .inl (4000 + 164 * i), .inl 1], [.inl (w32 (4000 + (164 * b))), zR 98, .inl (Mo 98 (4162 + 164 * i.toNat))])) 1 hz rfl ?_
              rw [show w32 (4000 + (164 * b)) = 4000 + 164 * b from by rw [w32_id (by omega)]]
              refine zH_w (c' := (107, [zR 97, .inl a1, .inl a2, .inl b, .inl i, .inl (4000 + 164 * i), .inl 1], [.inl (w32 ((4000 + 164 * b) + 162)), zR 98, .inl (Mo 98 (4162 + 164 * i.toNat))])) 2 hz rfl ?_
              rw [show w32 ((4000 + 164 * b) + 162) = 4000 + 164 * b + 162 from by rw [w32_id (by omega)]]
              refine zH_iald hz rfl rfl (.inl rfl) (fun hin107 => ?_)
              show zH n (0, 0) 236 (108, [zR 97, .inl a1, .inl a2, .inl b, .inl i, .inl (4000 + 164 * i), .inl 1], [.inl (M 98 ((4000 + 164 * b + 162) : Int).toNat), .inl (Mo 98 (4162 + 164 * i.toNat))]) M _
              rw [show M 98 (4000 + 164 * b + 162).toNat = Mo 98 (4162 + 164 * b.toNat) from by rw [e98, show (4000 + 164 * b + 162).toNat = 4162 + 164 * b.toNat by omega]]
              refine zH_icmp_lt hz rfl (fun hb108 => ?_) (fun hb108 => ?_)
              · skip
                refine zH_w (c' := (5, [zR 97, .inl a1, .inl a2, .inl b, .inl (i + 1), .inl (4000 + 164 * i), .inl 1], [])) 4 hz (by rw [show (.inl (i + 1) : zV) = .inl (w32 (i + 1)) from by rw [w32_id (by omega)]]; rfl) ?_
                refine ih5 b (i + 1) (.inl (4000 + 164 * i)) (.inl 1) (by omega) ?_ ?_ ?_
                · omega
                · rw [show (i + 1).toNat = i.toNat + 1 by omega, oLt_s, ← hb]
                  first
                    | (rw [if_pos ⟨⟨by omega, by omega⟩, by omega⟩]; omega)
                    | (rw [if_neg (fun q => by omega)])
                · omega
              · skip
                refine zH_w (c' := (5, [zR 97, .inl a1, .inl a2, .inl i, .inl (i + 1), .inl (4000 + 164 * i), .inl 1], [])) 5 hz (by rw [show (.inl (i + 1) : zV) = .inl (w32 (i + 1)) from by rw [w32_id (by omega)]]; rfl) ?_
                refine ih5 i (i + 1) (.inl (4000 + 164 * i)) (.inl 1) (by omega) ?_ ?_ ?_
                · omega
                · rw [show (i + 1).toNat = i.toNat + 1 by omega, oLt_s, ← hb]
                  first
                    | (rw [if_pos ⟨⟨by omega, by omega⟩, by omega⟩]; omega)
                    | (rw [if_neg (fun q => by omega)])
                · omega
          · skip
            refine zH_w (c' := (57, [zR 97, .inl a1, .inl a2, .inl b, .inl i, .inl (4000 + 164 * i), u6], [.inl (w32 ((4000 + 164 * i) + 163)), zR 98])) 5 hz rfl ?_
            rw [show w32 ((4000 + 164 * i) + 163) = 4000 + 164 * i + 163 from by rw [w32_id (by omega)]]
            refine zH_iald hz rfl rfl (.inl rfl) (fun hin57 => ?_)
            show zH n (0, 0) 236 (58, [zR 97, .inl a1, .inl a2, .inl b, .inl i, .inl (4000 + 164 * i), u6], [.inl (M 98 ((4000 + 164 * i + 163) : Int).toNat)]) M _
            rw [show M 98 (4000 + 164 * i + 163).toNat = Mo 98 (4163 + 164 * i.toNat) from by rw [e98, show (4000 + 164 * i + 163).toNat = 4163 + 164 * i.toNat by omega]]
            refine zH_w (c' := (59, [zR 97, .inl a1, .inl a2, .inl b, .inl i, .inl (4000 + 164 * i), u6], [.inl 1, .inl (Mo 98 (4163 + 164 * i.toNat))])) 1 hz rfl ?_
            refine zH_wi_ne (pc := 59) (n' := 62) (t := 66) (L := [zR 97, .inl a1, .inl a2, .inl b, .inl i, .inl (4000 + 164 * i), u6]) (st := []) (x := (Mo 98 (4163 + 164 * i.toNat))) (y := 1) 0 hz (by rfl) (fun hb59 => ?_) (fun hb59 => ?_)
            · skip
              refine zH_w (c' := (5, [zR 97, .inl a1, .inl a2, .inl b, .inl (i + 1), .inl (4000 + 164 * i), .inl 0], [])) 8 hz (by rw [show (.inl (i + 1) : zV) = .inl (w32 (i + 1)) from by rw [w32_id (by omega)]]; rfl) ?_
              refine ih5 b (i + 1) (.inl (4000 + 164 * i)) (.inl 0) (by omega) ?_ ?_ ?_
              · omega
              · rw [show (i + 1).toNat = i.toNat + 1 by omega, oLt_s, ← hb]
                first
                  | (rw [if_pos ⟨⟨by omega, by omega⟩, by omega⟩]; omega)
                  | (rw [if_neg (fun q => by omega)])
              · omega
            · skip
              refine zH_w (c' := (76, [zR 97, .inl a1, .inl a2, .inl b, .inl i, .inl (4000 + 164 * i), .inl 1], [.inl (-1), .inl b])) 7 hz rfl ?_
              refine zH_wi_eq (pc := 76) (n' := 79) (t := 111) (L := [zR 97, .inl a1, .inl a2, .inl b, .inl i, .inl (4000 + 164 * i), .inl 1]) (st := []) (x := b) (y := (-1)) 0 hz (by rfl) (fun hb76 => ?_) (fun hb76 => ?_)
              · skip
                refine zH_w (c' := (5, [zR 97, .inl a1, .inl a2, .inl i, .inl (i + 1), .inl (4000 + 164 * i), .inl 1], [])) 5 hz (by rw [show (.inl (i + 1) : zV) = .inl (w32 (i + 1)) from by rw [w32_id (by omega)]]; rfl) ?_
                refine ih5 i (i + 1) (.inl (4000 + 164 * i)) (.inl 1) (by omega) ?_ ?_ ?_
                · omega
                · rw [show (i + 1).toNat = i.toNat + 1 by omega, oLt_s, ← hb]
                  first
                    | (rw [if_pos ⟨⟨by omega, by omega⟩, by omega⟩]; omega)
                    | (rw [if_neg (fun q => by omega)])
                · omega
              · skip
                refine zH_w (c' := (89, [zR 97, .inl a1, .inl a2, .inl b, .inl i, .inl (4000 + 164 * i), .inl 1], [.inl (w32 ((4000 + 164 * i) + 162)), zR 98])) 5 hz rfl ?_
                rw [show w32 ((4000 + 164 * i) + 162) = 4000 + 164 * i + 162 from by rw [w32_id (by omega)]]
                refine zH_iald hz rfl rfl (.inl rfl) (fun hin89 => ?_)
                show zH n (0, 0) 236 (90, [zR 97, .inl a1, .inl a2, .inl b, .inl i, .inl (4000 + 164 * i), .inl 1], [.inl (M 98 ((4000 + 164 * i + 162) : Int).toNat)]) M _
                rw [show M 98 (4000 + 164 * i + 162).toNat = Mo 98 (4162 + 164 * i.toNat) from by rw [e98, show (4000 + 164 * i + 162).toNat = 4162 + 164 * i.toNat by omega]]
                refine zH_w (c' := (102, [zR 97, .inl a1, .inl a2, .inl b, .inl i, .inl (4000 + 164 * i), .inl 1], [.inl (w32 (164 * b)), .inl 4000, zR 98, .inl (Mo 98 (4162 + 164 * i.toNat))])) 6 hz rfl ?_
                rw [show w32 (164 * b) = 164 * b from by rw [w32_id (by omega)]]
                refine zH_w (c' := (103, [zR 97, .inl a1, .inl a2, .inl b, .inl i, .inl (4000 + 164 * i), .inl 1], [.inl (w32 (4000 + (164 * b))), zR 98, .inl (Mo 98 (4162 + 164 * i.toNat))])) 1 hz rfl ?_
                rw [show w32 (4000 + (164 * b)) = 4000 + 164 * b from by rw [w32_id (by omega)]]
                refine zH_w (c' := (107, [zR 97, .inl a1, .inl a2, .inl b, .inl i, .inl (4000 + 164 * i), .inl 1], [.inl (w32 ((4000 + 164 * b) + 162)), zR 98, .inl (Mo 98 (4162 + 164 * i.toNat))])) 2 hz rfl ?_
                rw [show w32 ((4000 + 164 * b) + 162) = 4000 + 164 * b + 162 from by rw [w32_id (by omega)]]
                refine zH_iald hz rfl rfl (.inl rfl) (fun hin107 => ?_)
                show zH n (0, 0) 236 (108, [zR 97, .inl a1, .inl a2, .inl b, .inl i, .inl (4000 + 164 * i), .inl 1], [.inl (M 98 ((4000 + 164 * b + 162) : Int).toNat), .inl (Mo 98 (4162 + 164 * i.toNat))]) M _
                rw [show M 98 (4000 + 164 * b + 162).toNat = Mo 98 (4162 + 164 * b.toNat) from by rw [e98, show (4000 + 164 * b + 162).toNat = 4162 + 164 * b.toNat by omega]]
                refine zH_icmp_lt hz rfl (fun hb108 => ?_) (fun hb108 => ?_)
                · skip
                  refine zH_w (c' := (5, [zR 97, .inl a1, .inl a2, .inl b, .inl (i + 1), .inl (4000 + 164 * i), .inl 1], [])) 4 hz (by rw [show (.inl (i + 1) : zV) = .inl (w32 (i + 1)) from by rw [w32_id (by omega)]]; rfl) ?_
                  refine ih5 b (i + 1) (.inl (4000 + 164 * i)) (.inl 1) (by omega) ?_ ?_ ?_
                  · omega
                  · rw [show (i + 1).toNat = i.toNat + 1 by omega, oLt_s, ← hb]
                    first
                      | (rw [if_pos ⟨⟨by omega, by omega⟩, by omega⟩]; omega)
                      | (rw [if_neg (fun q => by omega)])
                  · omega
                · skip
                  refine zH_w (c' := (5, [zR 97, .inl a1, .inl a2, .inl i, .inl (i + 1), .inl (4000 + 164 * i), .inl 1], [])) 5 hz (by rw [show (.inl (i + 1) : zV) = .inl (w32 (i + 1)) from by rw [w32_id (by omega)]]; rfl) ?_
                  refine ih5 i (i + 1) (.inl (4000 + 164 * i)) (.inl 1) (by omega) ?_ ?_ ?_
                  · omega
                  · rw [show (i + 1).toNat = i.toNat + 1 by omega, oLt_s, ← hb]
                    first
                      | (rw [if_pos ⟨⟨by omega, by omega⟩, by omega⟩]; omega)
                      | (rw [if_neg (fun q => by omega)])
                  · omega
  refine lp5 (11) (-1) 0 zN zN (by omega) ?_ ?_ ?_
  · omega
  · rfl
  · omega
set_option maxRecDepth 100000 in
theorem fh_237_97 {n : Nat} {M : zM} {Mo : zM} (hC : qMI Mo) (e98 : M 98 = Mo 98) (h0 : ∀ o : Nat, (o : Int) < Mo 98 5 → 0 ≤ Mo 98 (4162 + 164 * o)) (a1 a2 : Int) (hs : 0 ≤ a1 ∧ a1 < 20) : zH n (0, 0) 237 (0, zini [zR 97, .inl a1, .inl a2] 5, []) M (fun r M' => r = some (.inl (oBi (Mo 98) a1 a2)) ∧ M' = M) := by
  have hz := zp_237
  show zH n (0, 0) 237 (0, [zR 97, .inl a1, .inl a2, zN, zN], []) M _
  refine zH_wE (c1 := (6, [zR 97, .inl a1, .inl a2, zN, zN], [])) 3 hz zp_236 (fh_236_97 hC e98 h0 a2 1) (by rfl) ?_
  show zH n (0, 0) 237 (6, [zR 97, .inl a1, .inl a2, zN, zN], [.inl (oLt (Mo 98) a2 1 (Mo 98 5).toNat)]) M _
  refine zH_wi_eq (pc := 9) (n' := 12) (t := 14) (L := [zR 97, .inl a1, .inl a2, .inl (oLt (Mo 98) a2 1 (Mo 98 5).toNat), zN]) (st := []) (x := (oLt (Mo 98) a2 1 (Mo 98 5).toNat)) (y := (-1)) 3 hz (by rfl) (fun hb9 => ?_) (fun hb9 => ?_)
  · skip
    refine zH_w (c' := (23, [zR 97, .inl a1, .inl a2, .inl (oLt (Mo 98) a2 1 (Mo 98 5).toNat), zN], [.inl (w32 (3 * a1)), .inl 80, zR 98])) 6 hz rfl ?_
    rw [show w32 (3 * a1) = 3 * a1 from by rw [w32_id (by omega)]]
    refine zH_w (c' := (24, [zR 97, .inl a1, .inl a2, .inl (oLt (Mo 98) a2 1 (Mo 98 5).toNat), zN], [.inl (w32 (80 + (3 * a1))), zR 98])) 1 hz rfl ?_
    rw [show w32 (80 + (3 * a1)) = 80 + 3 * a1 from by rw [w32_id (by omega)]]
    refine zH_w (c' := (26, [zR 97, .inl a1, .inl a2, .inl (oLt (Mo 98) a2 1 (Mo 98 5).toNat), zN], [.inl (w32 ((80 + 3 * a1) + 1)), zR 98])) 2 hz rfl ?_
    rw [show w32 ((80 + 3 * a1) + 1) = 81 + 3 * a1 from by rw [w32_id (by omega)]; omega]
    refine zH_iald hz rfl rfl (.inl rfl) (fun hin26 => ?_)
    show zH n (0, 0) 237 (27, [zR 97, .inl a1, .inl a2, .inl (oLt (Mo 98) a2 1 (Mo 98 5).toNat), zN], [.inl (M 98 ((81 + 3 * a1) : Int).toNat)]) M _
    rw [show M 98 (81 + 3 * a1).toNat = Mo 98 (81 + 3 * a1.toNat) from by rw [e98, show (81 + 3 * a1).toNat = 81 + 3 * a1.toNat by omega]]
    refine zH_w (c' := (32, [zR 97, .inl a1, .inl a2, .inl (oLt (Mo 98) a2 1 (Mo 98 5).toNat), .inl (Mo 98 (81 + 3 * a1.toNat))], [.inl (-1), .inl (Mo 98 (81 + 3 * a1.toNat))])) 3 hz rfl ?_
    refine zH_wi_eq (pc := 32) (n' := 35) (t := 40) (L := [zR 97, .inl a1, .inl a2, .inl (oLt (Mo 98) a2 1 (Mo 98 5).toNat), .inl (Mo 98 (81 + 3 * a1.toNat))]) (st := []) (x := (Mo 98 (81 + 3 * a1.toNat))) (y := (-1)) 0 hz (by rfl) (fun hb32 => ?_) (fun hb32 => ?_)
    · skip
      refine zH_w (c' := (50, [zR 97, .inl a1, .inl a2, .inl (oLt (Mo 98) a2 1 (Mo 98 5).toNat), .inl (Mo 98 (81 + 3 * a1.toNat))], [.inl (w32 (3 * a1)), .inl 80, zR 98, zR 97])) 7 hz rfl ?_
      rw [show w32 (3 * a1) = 3 * a1 from by rw [w32_id (by omega)]]
      refine zH_w (c' := (51, [zR 97, .inl a1, .inl a2, .inl (oLt (Mo 98) a2 1 (Mo 98 5).toNat), .inl (Mo 98 (81 + 3 * a1.toNat))], [.inl (w32 (80 + (3 * a1))), zR 98, zR 97])) 1 hz rfl ?_
      rw [show w32 (80 + (3 * a1)) = 80 + 3 * a1 from by rw [w32_id (by omega)]]
      refine zH_iald hz rfl rfl (.inl rfl) (fun hin51 => ?_)
      show zH n (0, 0) 237 (52, [zR 97, .inl a1, .inl a2, .inl (oLt (Mo 98) a2 1 (Mo 98 5).toNat), .inl (Mo 98 (81 + 3 * a1.toNat))], [.inl (M 98 ((80 + 3 * a1) : Int).toNat), zR 97]) M _
      rw [show M 98 (80 + 3 * a1).toNat = Mo 98 (80 + 3 * a1.toNat) from by rw [e98, show (80 + 3 * a1).toNat = 80 + 3 * a1.toNat by omega]]
      refine zH_w (c' := (53, [zR 97, .inl a1, .inl a2, .inl (oLt (Mo 98) a2 1 (Mo 98 5).toNat), .inl (Mo 98 (81 + 3 * a1.toNat))], [.inl 0, .inl (Mo 98 (80 + 3 * a1.toNat)), zR 97])) 1 hz rfl ?_
      refine zH_wE (c1 := (56, [zR 97, .inl a1, .inl a2, .inl (oLt (Mo 98) a2 1 (Mo 98 5).toNat), .inl (Mo 98 (81 + 3 * a1.toNat))], [])) 0 hz zp_236 (fh_236_97 hC e98 h0 (Mo 98 (80 + 3 * a1.toNat)) 0) (by rfl) ?_
      show zH n (0, 0) 237 (56, [zR 97, .inl a1, .inl a2, .inl (oLt (Mo 98) a2 1 (Mo 98 5).toNat), .inl (Mo 98 (81 + 3 * a1.toNat))], [.inl (oLt (Mo 98) (Mo 98 (80 + 3 * a1.toNat)) 0 (Mo 98 5).toNat)]) M _
      exact zH_wr (r := some (.inl (oLt (Mo 98) (Mo 98 (80 + 3 * a1.toNat)) 0 (Mo 98 5).toNat))) 0 hz (by rfl) (⟨by unfold oBi; rw [if_neg (fun q => q hb9)]; first | rw [if_pos hb32] | rw [if_neg (fun q => q hb32)], rfl⟩)
    · skip
      exact zH_wr (r := some (.inl (Mo 98 (81 + 3 * a1.toNat)))) 2 hz (by rfl) (⟨by unfold oBi; rw [if_neg (fun q => q hb9)]; first | rw [if_pos hb32] | rw [if_neg (fun q => q hb32)], rfl⟩)
  · skip
    exact zH_wr (r := some (.inl (oLt (Mo 98) a2 1 (Mo 98 5).toNat))) 1 hz (by rfl) (⟨by unfold oBi; rw [if_pos hb9], rfl⟩)
set_option maxRecDepth 100000 in
theorem fh_259_97 {n : Nat} {M : zM} {Mo : zM} (hC : qMI Mo) (e98 : M 98 = Mo 98) (h0 : ∀ o : Nat, (o : Int) < Mo 98 5 → 0 ≤ Mo 98 (4162 + 164 * o)) (a1 a2 : Int) : zH n (0, 0) 259 (0, zini [zR 97, .inl a1, .inl a2] 3, []) M (fun r M' => r = some (.inl (if (0 ≤ a1 ∧ a1 < Mo 98 1) ∧ 0 ≤ a2 ∧ a2 ≤ 9999 then oBi (Mo 98) a1 a2 else -2)) ∧ M' = M) := by
  have hz := zp_259
  show zH n (0, 0) 259 (0, [zR 97, .inl a1, .inl a2], []) M _
  have hb8 : hBd M := (show hBd Mo from ⟨hC.cnt0, hC.cnt1, hC.cnt2, hC.cnt3, hC.cnt4, hC.cnt5, hC.cnt6⟩).same e98
  have z1 : M 98 1 = Mo 98 1 := congrFun e98 1
  have hs1 := hC.cnt1
  refine zH_wE (c1 := (6, [zR 97, .inl a1, .inl a2], [])) 3 hz zp_182 (fh_182_97 1 a1) (by rfl) ?_
  show zH n (0, 0) 259 (6, [zR 97, .inl a1, .inl a2], [.inl (hf_182_97 M 1 a1)]) M _
  obtain ⟨x1, hx1⟩ : ∃ x : Int, x = (hf_182_97 M 1 a1) := ⟨_, rfl⟩
  rw [← hx1]
  refine zH_if_eq hz rfl (fun hb6 => ?_) (fun hb6 => ?_)
  · skip
    rw [hx1, hq_182_1 hb8] at hb6
    refine zH_w (c' := (27, [zR 97, .inl a1, .inl a2], [.inl (-2)])) 1 hz rfl ?_
    exact zH_wr (r := some (.inl (-2))) 0 hz (by rfl) (⟨by first | rw [if_pos (by omega)] | rw [if_neg (by omega)], rfl⟩)
  · skip
    rw [hx1, hq_182_1 hb8] at hb6
    refine zH_w (c' := (10, [zR 97, .inl a1, .inl a2], [.inl a2])) 1 hz rfl ?_
    refine zH_wE (c1 := (13, [zR 97, .inl a1, .inl a2], [])) 0 hz zp_184 (fh_184 a2) (by rfl) ?_
    show zH n (0, 0) 259 (13, [zR 97, .inl a1, .inl a2], [.inl (hf_184 M a2)]) M _
    obtain ⟨x2, hx2⟩ : ∃ x : Int, x = (hf_184 M a2) := ⟨_, rfl⟩
    rw [← hx2]
    refine zH_if_eq hz rfl (fun hb13 => ?_) (fun hb13 => ?_)
    · skip
      rw [hx2, hq_184] at hb13
      refine zH_w (c' := (27, [zR 97, .inl a1, .inl a2], [.inl (-2)])) 1 hz rfl ?_
      exact zH_wr (r := some (.inl (-2))) 0 hz (by rfl) (⟨by first | rw [if_pos (by omega)] | rw [if_neg (by omega)], rfl⟩)
    · skip
      rw [hx2, hq_184] at hb13
      refine zH_w (c' := (19, [zR 97, .inl a1, .inl a2], [.inl a2, .inl a1, zR 97])) 3 hz rfl ?_
      refine zH_wE (c1 := (22, [zR 97, .inl a1, .inl a2], [])) 0 hz zp_237 (fh_237_97 hC e98 h0 a1 a2 (by omega)) (by rfl) ?_
      show zH n (0, 0) 259 (22, [zR 97, .inl a1, .inl a2], [.inl (oBi (Mo 98) a1 a2)]) M _
      exact zH_wr (r := some (.inl (oBi (Mo 98) a1 a2))) 1 hz (by rfl) (⟨by first | rw [if_pos (by omega)] | rw [if_neg (by omega)], rfl⟩)
