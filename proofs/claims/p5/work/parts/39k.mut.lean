/-! EACH CALL THAT TELLS: BOTH SIDES ANSWER ALIKE AND STAY ALIKE -/
theorem zput_same {M : zM} {r k : Nat} {x : Int} : zput M r k x r = hup (M r) k x := by funext j; simp only [zput, hup, if_true]
theorem zput_oth {M : zM} {r k i : Nat} {x : Int} (h : i ≠ r) : zput M r k x i = M i := by funext j; exact qput_ne h
theorem zrow_ne {M : zM} {r s n i j : Nat} {v : Nat → Int} (h : i ≠ r) : zrow M r s n v i j = M i j := if_neg h
theorem zrow_oth {M : zM} {r s n i : Nat} {v : Nat → Int} (h : i ≠ r) : zrow M r s n v i = M i := by funext j; exact if_neg h
theorem zrow_in {M : zM} {r s n j : Nat} {v : Nat → Int} (h : s ≤ j ∧ j < s + n) : zrow M r s n v r j = v (j - s) := by unfold zrow; rw [if_pos rfl, if_pos h]
theorem zrow_out {M : zM} {r s n j : Nat} {v : Nat → Int} (h : ¬ (s ≤ j ∧ j < s + n)) : zrow M r s n v r j = M r j := by unfold zrow; rw [if_pos rfl, if_neg h]
theorem zrow_id {M : zM} {r s n : Nat} : zrow M r s n (fun k => M r (s + k)) = M := by
  funext i j
  by_cases hi : i = r
  · subst hi
    by_cases hj : s ≤ j ∧ j < s + n
    · rw [zrow_in hj, show s + (j - s) = j by omega]
    · rw [zrow_out hj]
  · rw [zrow_ne hi]
theorem zrow_put {M : zM} {r s n b : Nat} {x : Int} {v : Nat → Int} (hb : b < n) : zput (zrow M r s n v) r (s + b) x = zrow M r s n (hup v b x) := by
  funext i j
  by_cases hi : i = r
  · subst hi
    by_cases hj : s ≤ j ∧ j < s + n
    · rw [zrow_in hj]
      by_cases hk : j = s + b
      · subst hk; rw [qput_eq, show s + b - s = b by omega, hup_eq]
      · rw [qput_nk hk, zrow_in hj, hup_ne (by omega)]
    · rw [zrow_out hj, qput_nk (by omega), zrow_out hj]
  · rw [zrow_ne hi, qput_ne hi, zrow_ne hi]
theorem hTb.row {M : zM} {r s n : Nat} {v : Nat → Int} (h : hTb M) (hr : r % 2 = 1) : hTb (zrow M r s n v) := by
  unfold hTb
  rw [zrow_ne (show 10 ≠ r by omega), zrow_ne (show 10 ≠ r by omega), zrow_ne (show 12 ≠ r by omega), zrow_ne (show 12 ≠ r by omega), zrow_ne (show 14 ≠ r by omega), zrow_ne (show 14 ≠ r by omega), zrow_ne (show 16 ≠ r by omega), zrow_ne (show 16 ≠ r by omega), zrow_ne (show 18 ≠ r by omega), zrow_ne (show 18 ≠ r by omega), zrow_ne (show 20 ≠ r by omega), zrow_ne (show 20 ≠ r by omega), zrow_ne (show 22 ≠ r by omega), zrow_ne (show 22 ≠ r by omega), zrow_ne (show 24 ≠ r by omega), zrow_ne (show 24 ≠ r by omega)]
  exact h
def hD (M : zM) (u : Int) (v : Nat → Int) : zM := zrow (zput M 18 3 (u + 1)) 19 (11 * u.toNat) 11 v
def hE (M : zM) (u : Int) (q : Nat → Int) : zM := zrow M 98 (350 + 12 * u.toNat) 12 q
section HK
variable {M : zM} {a b c d u x : Int} {v q : Nat → Int}
theorem hD_set (h : hTb M) (hu : 0 ≤ u ∧ u < 250) (hb : 0 ≤ b ∧ b < 11) : hR_set (hD M u v) 18 u b x = hD M u (hup v b.toNat x) := by
  rw [hS_18 (M := hD M u v) (h.p3.row rfl) hu hb]
  exact zrow_put (by omega)
theorem hD0 : zput M 18 3 (u + 1) = hD M u (fun k => zput M 18 3 (u + 1) 19 (11 * u.toNat + k)) := zrow_id.symm
theorem hN18 (h : hTb M) (hu : 0 ≤ M 18 3 ∧ M 18 3 < 250) : ∃ v : Nat → Int, hf_18_9 M a b c d = (M 18 3, hD M (M 18 3) v) ∧ (v 0 = a ∧ v 1 = b ∧ v 2 = c ∧ v 3 = d) ∧ (v 4 = -1 ∧ v 5 = -1 ∧ v 6 = -1 ∧ v 7 = -1) ∧ v 8 = -1 ∧ v 9 = -1 ∧ v 10 = -1 := by
  unfold hf_18_9
  rw [hO_18 h hu]
  dsimp only
  rw [hD0]
  repeat rw [hD_set h hu (by decide)]
  exact ⟨_, rfl, ⟨rfl, rfl, rfl, rfl⟩, ⟨rfl, rfl, rfl, rfl⟩, rfl, rfl, rfl⟩
theorem hN18f (h : hTb M) (hu : 250 ≤ M 18 3) : hf_18_9 M a b c d = (-4, M) := by
  unfold hf_18_9
  rw [hF_18 h hu]
  dsimp only
  repeat rw [hS_neg (by decide)]
theorem hE_put (hu : 0 ≤ M 98 4 ∧ M 98 4 < 250) (hb : 0 ≤ b ∧ b < 12) : hf_195_97 (hE M (M 98 4) q) b x = hE M (M 98 4) (hup q b.toNat x) := by
  unfold hf_195_97
  have e4 : (hE M (M 98 4) q) 98 (4 : Int).toNat = M 98 4 := zrow_out (by simp only [Int.reduceToNat]; omega)
  rw [e4, w32_id (x := 12 * M 98 4) (by omega), w32_id (x := 350 + 12 * M 98 4) (by omega), w32_id (by omega), show (350 + 12 * M 98 4 + b).toNat = 350 + 12 * (M 98 4).toNat + b.toNat by omega]
  exact zrow_put (by omega)
theorem hN196 (hu : 0 ≤ M 98 4 ∧ M 98 4 < 250) : ∃ q : Nat → Int, hf_196_97 M a b c d = hE M (M 98 4) q ∧ (q 0 = a ∧ q 1 = b ∧ q 2 = c ∧ q 3 = d) ∧ (q 4 = -1 ∧ q 5 = -1 ∧ q 6 = -1 ∧ q 7 = -1) ∧ q 8 = -1 ∧ q 9 = -1 ∧ q 10 = -1 ∧ q 11 = -1 := by
  have h0 := hE_put (M := M) (q := fun k => M 98 (350 + 12 * (M 98 4).toNat + k)) (b := 0) (x := a) hu (by decide)
  rw [show hE M (M 98 4) (fun k => M 98 (350 + 12 * (M 98 4).toNat + k)) = M from zrow_id] at h0
  unfold hf_196_97
  rw [h0]
  repeat rw [hE_put hu (by decide)]
  exact ⟨_, rfl, ⟨rfl, rfl, rfl, rfl⟩, ⟨rfl, rfl, rfl, rfl⟩, rfl, rfl, rfl, rfl⟩
theorem hN183 (hu : 0 ≤ M 98 c.toNat ∧ M 98 c.toNat < 300) : hf_183_97 M c = (M 98 c.toNat, zput M 98 c.toNat (M 98 c.toNat + 1)) := by
  unfold hf_183_97
  rw [qput_eq, w32_id (x := M 98 c.toNat + 1) (by omega), w32_id (by omega), show M 98 c.toNat + 1 - 1 = M 98 c.toNat by omega]
def hRel (v q : Nat → Int) : Prop := (∀ k, k < 8 → v k = q k) ∧ (q 0 ≠ 3 → v 8 = q 8) ∧ (q 0 = 3 → v 8 = q 9 ∧ v 9 = q 10 ∧ v 10 = q 11) ∧ 0 ≤ q 1 ∧ q 1 ≤ 9999
theorem hAct (h : hHs M 9 (M 98)) (hu : 0 ≤ u ∧ u < 250) (hr : hRel v q) : hHs (zput (hE (hD M u v) u q) 98 4 (u + 1)) 9 (zput (hE (hD M u v) u q) 98 4 (u + 1) 98) := by
  have gA : ∀ i k, i < 250 → k < 11 → (zput (hE (hD M u v) u q) 98 4 (u + 1)) 19 (11 * i + k) = if i = u.toNat then v k else M 19 (11 * i + k) := by
    intro i k hi hk
    rw [qput_ne (by decide)]
    unfold hE
    rw [zrow_ne (by decide)]
    unfold hD
    by_cases e : i = u.toNat
    · rw [if_pos e, zrow_in (by omega), show 11 * i + k - 11 * u.toNat = k by omega]
    · rw [if_neg e, zrow_out (by omega), qput_ne (by decide)]
  have fA : ∀ i k, i < 250 → k < 12 → (zput (hE (hD M u v) u q) 98 4 (u + 1)) 98 (350 + 12 * i + k) = if i = u.toNat then q k else M 98 (350 + 12 * i + k) := by
    intro i k hi hk
    rw [qput_nk (by omega)]
    unfold hE
    by_cases e : i = u.toNat
    · rw [if_pos e, zrow_in (by omega), show 350 + 12 * i + k - (350 + 12 * u.toNat) = k by omega]
    · rw [if_neg e, zrow_out (by omega)]; rfl
  have h4 := h.2.2.2.2.1.2
  refine hHs.t4 h rfl rfl rfl rfl rfl rfl rfl rfl rfl rfl rfl rfl (fun j h1 h2 => ?_) ⟨rfl, fun i hi => ?_⟩
  · rw [qput_nk h1]
    unfold hE
    rw [zrow_out (by omega)]; rfl
  · have g8 := gA i 8 hi (by decide)
    have g9 := gA i 9 hi (by decide)
    have g10 := gA i 10 hi (by decide)
    have f0 := fA i 0 hi (by decide)
    have f1 := fA i 1 hi (by decide)
    have f8 := fA i 8 hi (by decide)
    have f9 := fA i 9 hi (by decide)
    have f10 := fA i 10 hi (by decide)
    have f11 := fA i 11 hi (by decide)
    rw [Nat.add_zero] at f0
    rw [show 350 + 12 * i + 1 = 351 + 12 * i by omega] at f1
    rw [show 350 + 12 * i + 8 = 358 + 12 * i by omega] at f8
    rw [show 350 + 12 * i + 9 = 359 + 12 * i by omega] at f9
    rw [show 350 + 12 * i + 10 = 360 + 12 * i by omega] at f10
    rw [show 350 + 12 * i + 11 = 361 + 12 * i by omega] at f11
    refine ⟨fun k hk => ?_, ?_, ?_, ?_⟩
    · rw [gA i k hi (by omega), fA i k hi (by omega)]
      by_cases e : i = u.toNat
      · rw [if_pos e, if_pos e]; exact hr.1 k hk
      · rw [if_neg e, if_neg e]; exact (h4 i hi).1 k hk
    · rw [g8, f0, f8]
      by_cases e : i = u.toNat
      · rw [if_pos e, if_pos e, if_pos e]; exact hr.2.1
      · rw [if_neg e, if_neg e, if_neg e]; exact (h4 i hi).2.1
    · rw [g8, g9, g10, f0, f9, f10, f11]
      by_cases e : i = u.toNat
      · simp only [if_pos e]; exact hr.2.2.1
      · simp only [if_neg e]; exact (h4 i hi).2.2.1
    · rw [f1]
      by_cases e : i = u.toNat
      · rw [if_pos e]; exact hr.2.2.2
      · rw [if_neg e]; exact (h4 i hi).2.2.2
/-- what both sides read of an act -/
theorem hrA (h : hHs M 9 (M 98)) (hT : hTb M) (ha : 0 ≤ a ∧ a < 250) (hb : 0 ≤ b ∧ b < 8) : hR_get M 18 a b = M 98 (350 + 12 * a.toNat + b.toNat) := by
  rw [hG_18 hT ha (by omega)]; exact (h.2.2.2.2.1.2 a.toNat (by omega)).1 b.toNat (by omega)
theorem hrE (h : hHs M 9 (M 98)) (hT : hTb M) (ha : 0 ≤ a ∧ a < 250) (h3 : M 98 (350 + 12 * a.toNat) ≠ 3) : hR_get M 18 a 8 = M 98 (358 + 12 * a.toNat) := by
  rw [hG_18 hT ha (by omega)]; exact (h.2.2.2.2.1.2 a.toNat (by omega)).2.1 h3
theorem hrM (h : hHs M 9 (M 98)) (hT : hTb M) (ha : 0 ≤ a ∧ a < 40) : hR_get M 16 a 1 = M 98 (151 + 5 * a.toNat) := by
  rw [hG_16 hT ha (by omega), h.2.2.2.1.2.1 _ (by omega), show 150 + (5 * a.toNat + (1 : Int).toNat) = 151 + 5 * a.toNat by simp only [Int.reduceToNat]; omega]
theorem hm_129 (h : hHs M 9 (M 98)) (hT : hTb M) (hB : hBd M) {a1 a2 a3 a4 a5 a6 : Int} : (hf_129_8 M a1 a2 a3 a4 a5 a6).1 = (hf_201_97 (hf_129_8 M a1 a2 a3 a4 a5 a6).2 a1 a2 a3 a4 a5 a6).1 ∧ hHs (hf_201_97 (hf_129_8 M a1 a2 a3 a4 a5 a6).2 a1 a2 a3 a4 a5 a6).2 9 ((hf_201_97 (hf_129_8 M a1 a2 a3 a4 a5 a6).2 a1 a2 a3 a4 a5 a6).2 98) := by
  have k0 : M 10 3 = M 98 0 := h.1.1
  have k1 : M 12 3 = M 98 1 := h.2.1.1
  have k2 : M 14 3 = M 98 2 := h.2.2.1.1
  have k3 : M 16 3 = M 98 3 := h.2.2.2.1.1
  have k4 : M 18 3 = M 98 4 := h.2.2.2.2.1.1
  have k6 : M 24 3 = M 98 6 := h.2.2.2.2.2.2.1.1
  have k7 : M 9 8 = M 98 7 := h.2.2.2.2.2.2.2.1
  have k8 : M 9 9 = M 98 8 := h.2.2.2.2.2.2.2.2.1
  have b7 : 0 ≤ M 98 7 ∧ M 98 7 ≤ 1000 := h.2.2.2.2.2.2.2.2.2
  obtain ⟨b0, b1, b2, b3, b4, b5, b6⟩ := id hB
  by_cases C : (0 ≤ a1 ∧ a1 < M 98 1) ∧ (0 ≤ a2 ∧ a2 < M 98 0) ∧ (0 ≤ a3 ∧ a3 ≤ 100) ∧ (0 ≤ a4 ∧ a4 ≤ 4) ∧ (0 ≤ a5 ∧ a5 ≤ 9999) ∧ (a5 ≤ a6 ∧ a6 ≤ 9999)
  · by_cases hf : M 98 4 < 250
    · obtain ⟨v, ev, ⟨v0, v1, v2, v3⟩, ⟨v4, v5, v6, v7⟩, v8, v9, v10⟩ := hN18 (a := 0) (b := a5) (c := a6) (d := (-1)) hT (by omega)
      have e1 : hf_129_8 M a1 a2 a3 a4 a5 a6 = (M 18 3, hD M (M 18 3) (hup (hup (hup (hup v 4 a1) 5 a2) 7 a3) 8 a4)) := by
        unfold hf_129_8; simp only [hq_174, hq_175, hq_171, hq_172, hq_170, hq_169, hq_178, hq_19, hq_has, hq_173]
        (repeat' split) <;> first | omega | (rw [ev]; dsimp only; (repeat rw [hD_set hT (by omega) (by decide)]) <;> rfl)
      rw [e1, k4]; dsimp only
      obtain ⟨X, hXe⟩ : ∃ X, X = hD M (M 98 4) (hup (hup (hup (hup v 4 a1) 5 a2) 7 a3) 8 a4) := ⟨_, rfl⟩
      rw [← hXe]
      have hX : X 98 = M 98 := by rw [hXe]; rfl
      have hBX : hBd X := hB.same hX
      obtain ⟨q, eq, ⟨q0, q1, q2, q3⟩, ⟨q4, q5, q6, q7⟩, q8, q9, q10, q11⟩ := hN196 (M := X) (a := 0) (b := a5) (c := a6) (d := (-1)) (by rw [hX]; omega)
      have e2 : hf_201_97 X a1 a2 a3 a4 a5 a6 = (M 98 4, zput (hE X (M 98 4) (hup (hup (hup (hup q 4 a1) 5 a2) 7 a3) 8 a4)) 98 4 (M 98 4 + 1)) := by
        have e3 : (hE X (X 98 4) (hup (hup (hup (hup q 4 a1) 5 a2) 7 a3) 8 a4)) 98 (4 : Int).toNat = M 98 4 := by rw [show (hE X (X 98 4) (hup (hup (hup (hup q 4 a1) 5 a2) 7 a3) 8 a4)) 98 (4 : Int).toNat = X 98 4 from zrow_out (by simp only [Int.reduceToNat]; omega), hX]
        have e5 := hN183 (M := hE X (X 98 4) (hup (hup (hup (hup q 4 a1) 5 a2) 7 a3) 8 a4)) (c := 4) (by rw [e3]; omega)
        rw [e3] at e5
        unfold hf_201_97; simp only [hq_182_0 hBX, hq_182_1 hBX, hq_182_2 hBX, hq_182_3 hBX, hq_182_4 hBX, hq_182_5 hBX, hq_185, hq_184, hq_180, hq_197, hq_198 hBX, hq_200 hBX, hq_252, hX]
        (repeat' split) <;> first | omega | (rw [eq]; (repeat rw [hE_put (M := X) (by rw [hX]; omega) (by decide)]); rw [hX] at e5 ⊢; first | (simp only [Int.reduceToNat] at e5 ⊢; rw [e5]) | (rw [show hf_183_97 _ _ = _ from e5]; rfl))
      rw [e2, hXe]
      refine ⟨rfl, hAct h (by omega) ⟨fun k hk => ?_, ?_, ?_, ?_⟩⟩
      · have em : True := trivial
        rcases (by omega : k = 0 ∨ k = 1 ∨ k = 2 ∨ k = 3 ∨ k = 4 ∨ k = 5 ∨ k = 6 ∨ k = 7) with rfl | rfl | rfl | rfl | rfl | rfl | rfl | rfl <;> simp [hup, v0, v1, v2, v3, v4, v5, v6, v7, q0, q1, q2, q3, q4, q5, q6, q7, em]
      · simp [hup, v8, q0, q8]
      · simp [hup, v8, v9, v10, q0, q9, q10, q11]
      · simp only [hup]; simp [q1]; omega
    · have e1 : hf_129_8 M a1 a2 a3 a4 a5 a6 = (-4, M) := by
        unfold hf_129_8; simp only [hq_174, hq_175, hq_171, hq_172, hq_170, hq_169, hq_178, hq_19, hq_has, hq_173]
        (repeat' split) <;> first | omega | (rw [hN18f hT (by omega)]; dsimp only; (repeat rw [hS_neg (by decide)]) <;> rfl)
      rw [e1]; dsimp only
      have hX : M 98 = M 98 := rfl
      have e2 : hf_201_97 M a1 a2 a3 a4 a5 a6 = (-4, M) := by
        unfold hf_201_97; simp only [hq_182_0 hB, hq_182_1 hB, hq_182_2 hB, hq_182_3 hB, hq_182_4 hB, hq_182_5 hB, hq_185, hq_184, hq_180, hq_197, hq_198 hB, hq_200 hB, hq_252]
        (repeat' split) <;> first | omega | rfl
      rw [e2]; exact ⟨rfl, h⟩
  · skip
    have e1 : hf_129_8 M a1 a2 a3 a4 a5 a6 = (-2, M) := by
      unfold hf_129_8; simp only [hq_174, hq_175, hq_171, hq_172, hq_170, hq_169, hq_178, hq_19, hq_has, hq_173]
      (repeat' split) <;> first | omega | rfl
    rw [e1]; dsimp only
    have hX : M 98 = M 98 := rfl
    have e2 : hf_201_97 M a1 a2 a3 a4 a5 a6 = (-2, M) := by
      unfold hf_201_97; simp only [hq_182_0 hB, hq_182_1 hB, hq_182_2 hB, hq_182_3 hB, hq_182_4 hB, hq_182_5 hB, hq_185, hq_184, hq_180, hq_197, hq_198 hB, hq_200 hB, hq_252]
      (repeat' split) <;> first | omega | rfl
    rw [e2]; exact ⟨rfl, h⟩
theorem hm_130 (h : hHs M 9 (M 98)) (hT : hTb M) (hB : hBd M) {a1 a2 a3 a4 a5 : Int} : (hf_130_8 M a1 a2 a3 a4 a5).1 = (hf_202_97 (hf_130_8 M a1 a2 a3 a4 a5).2 a1 a2 a3 a4 a5).1 ∧ hHs (hf_202_97 (hf_130_8 M a1 a2 a3 a4 a5).2 a1 a2 a3 a4 a5).2 9 ((hf_202_97 (hf_130_8 M a1 a2 a3 a4 a5).2 a1 a2 a3 a4 a5).2 98) := by
  have k0 : M 10 3 = M 98 0 := h.1.1
  have k1 : M 12 3 = M 98 1 := h.2.1.1
  have k2 : M 14 3 = M 98 2 := h.2.2.1.1
  have k3 : M 16 3 = M 98 3 := h.2.2.2.1.1
  have k4 : M 18 3 = M 98 4 := h.2.2.2.2.1.1
  have k6 : M 24 3 = M 98 6 := h.2.2.2.2.2.2.1.1
  have k7 : M 9 8 = M 98 7 := h.2.2.2.2.2.2.2.1
  have k8 : M 9 9 = M 98 8 := h.2.2.2.2.2.2.2.2.1
  have b7 : 0 ≤ M 98 7 ∧ M 98 7 ≤ 1000 := h.2.2.2.2.2.2.2.2.2
  obtain ⟨b0, b1, b2, b3, b4, b5, b6⟩ := id hB
  have ra1_0 : (0 ≤ a1 ∧ a1 < M 98 4) → hR_get M 18 a1 0 = M 98 (350 + 12 * (a1).toNat) := fun q => by rw [hrA h hT (by omega) (by decide), show 350 + 12 * (a1).toNat + (0 : Int).toNat = 350 + 12 * (a1).toNat by simp only [Int.reduceToNat]; omega]
  have ra1_8 : (0 ≤ a1 ∧ a1 < M 98 4) → ¬ M 98 (350 + 12 * (a1).toNat) = 3 → hR_get M 18 a1 8 = M 98 (358 + 12 * (a1).toNat) := fun q q2 => hrE h hT (by omega) q2
  have ra1_1 : (0 ≤ a1 ∧ a1 < M 98 4) → hR_get M 18 a1 1 = M 98 (351 + 12 * (a1).toNat) := fun q => by rw [hrA h hT (by omega) (by decide), show 350 + 12 * (a1).toNat + (1 : Int).toNat = 351 + 12 * (a1).toNat by simp only [Int.reduceToNat]; omega]
  have ga1 : (0 ≤ a1 ∧ a1 < M 98 4) → 0 ≤ M 98 (351 + 12 * (a1).toNat) ∧ M 98 (351 + 12 * (a1).toNat) ≤ 9999 := fun q => (h.2.2.2.2.1.2 (a1).toNat (by omega)).2.2.2
  by_cases C : ((0 ≤ a1 ∧ a1 < M 98 4) ∧ M 98 (350 + 12 * (a1).toNat) = 0) ∧ (0 ≤ a2 ∧ a2 ≤ 100) ∧ (0 ≤ a3 ∧ a3 ≤ 4) ∧ (¬ a3 = M 98 (358 + 12 * (a1).toNat)) ∧ (M 98 (351 + 12 * (a1).toNat) ≤ a4 ∧ a4 ≤ 9999) ∧ (a4 ≤ a5 ∧ a5 ≤ 9999)
  · by_cases hf : M 98 4 < 250
    · obtain ⟨v, ev, ⟨v0, v1, v2, v3⟩, ⟨v4, v5, v6, v7⟩, v8, v9, v10⟩ := hN18 (a := 1) (b := a4) (c := a5) (d := (-1)) hT (by omega)
      have e1 : hf_130_8 M a1 a2 a3 a4 a5 = (M 18 3, hD M (M 18 3) (hup (hup (hup v 6 a1) 7 a2) 8 a3)) := by
        unfold hf_130_8; simp only [hq_174, hq_175, hq_171, hq_172, hq_170, hq_169, hq_178, hq_19, hq_has, hq_173]
        (repeat' split) <;> first | omega | (rw [ev]; dsimp only; (repeat rw [hD_set hT (by omega) (by decide)]) <;> rfl)
      rw [e1, k4]; dsimp only
      obtain ⟨X, hXe⟩ : ∃ X, X = hD M (M 98 4) (hup (hup (hup v 6 a1) 7 a2) 8 a3) := ⟨_, rfl⟩
      rw [← hXe]
      have hX : X 98 = M 98 := by rw [hXe]; rfl
      have hBX : hBd X := hB.same hX
      have sa1_0 : (0 ≤ a1 ∧ a1 < M 98 4) → hf_194_97 X a1 0 = M 98 (350 + 12 * (a1).toNat) := fun q => by rw [hv_194 (by omega) (by decide), hX, show 350 + 12 * (a1).toNat + (0 : Int).toNat = 350 + 12 * (a1).toNat by simp only [Int.reduceToNat]; omega]
      have sa1_8 : (0 ≤ a1 ∧ a1 < M 98 4) → hf_194_97 X a1 8 = M 98 (358 + 12 * (a1).toNat) := fun q => by rw [hv_194 (by omega) (by decide), hX, show 350 + 12 * (a1).toNat + (8 : Int).toNat = 358 + 12 * (a1).toNat by simp only [Int.reduceToNat]; omega]
      have sa1_1 : (0 ≤ a1 ∧ a1 < M 98 4) → hf_194_97 X a1 1 = M 98 (351 + 12 * (a1).toNat) := fun q => by rw [hv_194 (by omega) (by decide), hX, show 350 + 12 * (a1).toNat + (1 : Int).toNat = 351 + 12 * (a1).toNat by simp only [Int.reduceToNat]; omega]
      obtain ⟨q, eq, ⟨q0, q1, q2, q3⟩, ⟨q4, q5, q6, q7⟩, q8, q9, q10, q11⟩ := hN196 (M := X) (a := 1) (b := a4) (c := a5) (d := (-1)) (by rw [hX]; omega)
      have e2 : hf_202_97 X a1 a2 a3 a4 a5 = (M 98 4, zput (hE X (M 98 4) (hup (hup (hup q 6 a1) 7 a2) 8 a3)) 98 4 (M 98 4 + 1)) := by
        have e3 : (hE X (X 98 4) (hup (hup (hup q 6 a1) 7 a2) 8 a3)) 98 (4 : Int).toNat = M 98 4 := by rw [show (hE X (X 98 4) (hup (hup (hup q 6 a1) 7 a2) 8 a3)) 98 (4 : Int).toNat = X 98 4 from zrow_out (by simp only [Int.reduceToNat]; omega), hX]
        have e5 := hN183 (M := hE X (X 98 4) (hup (hup (hup q 6 a1) 7 a2) 8 a3)) (c := 4) (by rw [e3]; omega)
        rw [e3] at e5
        unfold hf_202_97; simp only [hq_182_0 hBX, hq_182_1 hBX, hq_182_2 hBX, hq_182_3 hBX, hq_182_4 hBX, hq_182_5 hBX, hq_185, hq_184, hq_180, hq_197, hq_198 hBX, hq_200 hBX, hq_252, hX]
        (repeat' split) <;> first | omega | (rw [eq]; (repeat rw [hE_put (M := X) (by rw [hX]; omega) (by decide)]); rw [hX] at e5 ⊢; first | (simp only [Int.reduceToNat] at e5 ⊢; rw [e5]) | (rw [show hf_183_97 _ _ = _ from e5]; rfl))
      rw [e2, hXe]
      refine ⟨rfl, hAct h (by omega) ⟨fun k hk => ?_, ?_, ?_, ?_⟩⟩
      · have em : True := trivial
        rcases (by omega : k = 0 ∨ k = 1 ∨ k = 2 ∨ k = 3 ∨ k = 4 ∨ k = 5 ∨ k = 6 ∨ k = 7) with rfl | rfl | rfl | rfl | rfl | rfl | rfl | rfl <;> simp [hup, v0, v1, v2, v3, v4, v5, v6, v7, q0, q1, q2, q3, q4, q5, q6, q7, em]
      · simp [hup, v8, q0, q8]
      · simp [hup, v8, v9, v10, q0, q9, q10, q11]
      · simp only [hup]; simp [q1]; omega
    · have e1 : hf_130_8 M a1 a2 a3 a4 a5 = (-4, M) := by
        unfold hf_130_8; simp only [hq_174, hq_175, hq_171, hq_172, hq_170, hq_169, hq_178, hq_19, hq_has, hq_173]
        (repeat' split) <;> first | omega | (rw [hN18f hT (by omega)]; dsimp only; (repeat rw [hS_neg (by decide)]) <;> rfl)
      rw [e1]; dsimp only
      have hX : M 98 = M 98 := rfl
      have sa1_0 : (0 ≤ a1 ∧ a1 < M 98 4) → hf_194_97 M a1 0 = M 98 (350 + 12 * (a1).toNat) := fun q => by rw [hv_194 (by omega) (by decide), hX, show 350 + 12 * (a1).toNat + (0 : Int).toNat = 350 + 12 * (a1).toNat by simp only [Int.reduceToNat]; omega]
      have sa1_8 : (0 ≤ a1 ∧ a1 < M 98 4) → hf_194_97 M a1 8 = M 98 (358 + 12 * (a1).toNat) := fun q => by rw [hv_194 (by omega) (by decide), hX, show 350 + 12 * (a1).toNat + (8 : Int).toNat = 358 + 12 * (a1).toNat by simp only [Int.reduceToNat]; omega]
      have sa1_1 : (0 ≤ a1 ∧ a1 < M 98 4) → hf_194_97 M a1 1 = M 98 (351 + 12 * (a1).toNat) := fun q => by rw [hv_194 (by omega) (by decide), hX, show 350 + 12 * (a1).toNat + (1 : Int).toNat = 351 + 12 * (a1).toNat by simp only [Int.reduceToNat]; omega]
      have e2 : hf_202_97 M a1 a2 a3 a4 a5 = (-4, M) := by
        unfold hf_202_97; simp only [hq_182_0 hB, hq_182_1 hB, hq_182_2 hB, hq_182_3 hB, hq_182_4 hB, hq_182_5 hB, hq_185, hq_184, hq_180, hq_197, hq_198 hB, hq_200 hB, hq_252]
        (repeat' split) <;> first | omega | rfl
      rw [e2]; exact ⟨rfl, h⟩
  · skip
    have e1 : hf_130_8 M a1 a2 a3 a4 a5 = (-2, M) := by
      unfold hf_130_8; simp only [hq_174, hq_175, hq_171, hq_172, hq_170, hq_169, hq_178, hq_19, hq_has, hq_173]
      (repeat' split) <;> first | omega | rfl
    rw [e1]; dsimp only
    have hX : M 98 = M 98 := rfl
    have sa1_0 : (0 ≤ a1 ∧ a1 < M 98 4) → hf_194_97 M a1 0 = M 98 (350 + 12 * (a1).toNat) := fun q => by rw [hv_194 (by omega) (by decide), hX, show 350 + 12 * (a1).toNat + (0 : Int).toNat = 350 + 12 * (a1).toNat by simp only [Int.reduceToNat]; omega]
    have sa1_8 : (0 ≤ a1 ∧ a1 < M 98 4) → hf_194_97 M a1 8 = M 98 (358 + 12 * (a1).toNat) := fun q => by rw [hv_194 (by omega) (by decide), hX, show 350 + 12 * (a1).toNat + (8 : Int).toNat = 358 + 12 * (a1).toNat by simp only [Int.reduceToNat]; omega]
    have sa1_1 : (0 ≤ a1 ∧ a1 < M 98 4) → hf_194_97 M a1 1 = M 98 (351 + 12 * (a1).toNat) := fun q => by rw [hv_194 (by omega) (by decide), hX, show 350 + 12 * (a1).toNat + (1 : Int).toNat = 351 + 12 * (a1).toNat by simp only [Int.reduceToNat]; omega]
    have e2 : hf_202_97 M a1 a2 a3 a4 a5 = (-2, M) := by
      unfold hf_202_97; simp only [hq_182_0 hB, hq_182_1 hB, hq_182_2 hB, hq_182_3 hB, hq_182_4 hB, hq_182_5 hB, hq_185, hq_184, hq_180, hq_197, hq_198 hB, hq_200 hB, hq_252]
      (repeat' split) <;> first | omega | rfl
    rw [e2]; exact ⟨rfl, h⟩
theorem hm_131 (h : hHs M 9 (M 98)) (hT : hTb M) (hB : hBd M) {a1 a2 a3 a4 : Int} : (hf_131_8 M a1 a2 a3 a4).1 = (hf_203_97 (hf_131_8 M a1 a2 a3 a4).2 a1 a2 a3 a4).1 ∧ hHs (hf_203_97 (hf_131_8 M a1 a2 a3 a4).2 a1 a2 a3 a4).2 9 ((hf_203_97 (hf_131_8 M a1 a2 a3 a4).2 a1 a2 a3 a4).2 98) := by
  have k0 : M 10 3 = M 98 0 := h.1.1
  have k1 : M 12 3 = M 98 1 := h.2.1.1
  have k2 : M 14 3 = M 98 2 := h.2.2.1.1
  have k3 : M 16 3 = M 98 3 := h.2.2.2.1.1
  have k4 : M 18 3 = M 98 4 := h.2.2.2.2.1.1
  have k6 : M 24 3 = M 98 6 := h.2.2.2.2.2.2.1.1
  have k7 : M 9 8 = M 98 7 := h.2.2.2.2.2.2.2.1
  have k8 : M 9 9 = M 98 8 := h.2.2.2.2.2.2.2.2.1
  have b7 : 0 ≤ M 98 7 ∧ M 98 7 ≤ 1000 := h.2.2.2.2.2.2.2.2.2
  obtain ⟨b0, b1, b2, b3, b4, b5, b6⟩ := id hB
  have ra1_0 : (0 ≤ a1 ∧ a1 < M 98 4) → hR_get M 18 a1 0 = M 98 (350 + 12 * (a1).toNat) := fun q => by rw [hrA h hT (by omega) (by decide), show 350 + 12 * (a1).toNat + (0 : Int).toNat = 350 + 12 * (a1).toNat by simp only [Int.reduceToNat]; omega]
  have ra3_M : (0 ≤ a3 ∧ a3 < M 98 3) → hR_get M 16 a3 1 = M 98 (151 + 5 * (a3).toNat) := fun q => hrM h hT (by omega)
  have ga3 : (0 ≤ a3 ∧ a3 < M 98 3) → 0 ≤ M 98 (151 + 5 * (a3).toNat) ∧ M 98 (151 + 5 * (a3).toNat) ≤ 9999 := fun q => (h.2.2.2.1.2.2 (a3).toNat (by omega)).1
  by_cases C : ((0 ≤ a1 ∧ a1 < M 98 4) ∧ M 98 (350 + 12 * (a1).toNat) = 0) ∧ (0 ≤ a2 ∧ a2 ≤ 100) ∧ ((0 ≤ a3 ∧ a3 < M 98 3) ∧ (M 98 (151 + 5 * (a3).toNat) ≤ a4 ∧ a4 ≤ 9999))
  · by_cases hf : M 98 4 < 250
    · obtain ⟨v, ev, ⟨v0, v1, v2, v3⟩, ⟨v4, v5, v6, v7⟩, v8, v9, v10⟩ := hN18 (a := 2) (b := (hR_get M 16 a3 1)) (c := a4) (d := a3) hT (by omega)
      have e1 : hf_131_8 M a1 a2 a3 a4 = (M 18 3, hD M (M 18 3) (hup (hup v 6 a1) 7 a2)) := by
        unfold hf_131_8 hf_179_8; simp only [hq_174, hq_175, hq_171, hq_172, hq_170, hq_169, hq_178, hq_19, hq_has, hq_173]
        (repeat' split) <;> first | omega | (rw [ev]; dsimp only; (repeat rw [hD_set hT (by omega) (by decide)]) <;> rfl)
      rw [e1, k4]; dsimp only
      obtain ⟨X, hXe⟩ : ∃ X, X = hD M (M 98 4) (hup (hup v 6 a1) 7 a2) := ⟨_, rfl⟩
      rw [← hXe]
      have hX : X 98 = M 98 := by rw [hXe]; rfl
      have hBX : hBd X := hB.same hX
      have sa1_0 : (0 ≤ a1 ∧ a1 < M 98 4) → hf_194_97 X a1 0 = M 98 (350 + 12 * (a1).toNat) := fun q => by rw [hv_194 (by omega) (by decide), hX, show 350 + 12 * (a1).toNat + (0 : Int).toNat = 350 + 12 * (a1).toNat by simp only [Int.reduceToNat]; omega]
      have sa3_M : (0 ≤ a3 ∧ a3 < M 98 3) → hf_199_97 X a3 = M 98 (151 + 5 * (a3).toNat) := fun q => by rw [hv_199 (by omega), hX]
      obtain ⟨q, eq, ⟨q0, q1, q2, q3⟩, ⟨q4, q5, q6, q7⟩, q8, q9, q10, q11⟩ := hN196 (M := X) (a := 2) (b := (hf_199_97 X a3)) (c := a4) (d := a3) (by rw [hX]; omega)
      have e2 : hf_203_97 X a1 a2 a3 a4 = (M 98 4, zput (hE X (M 98 4) (hup (hup q 6 a1) 7 a2)) 98 4 (M 98 4 + 1)) := by
        have e3 : (hE X (X 98 4) (hup (hup q 6 a1) 7 a2)) 98 (4 : Int).toNat = M 98 4 := by rw [show (hE X (X 98 4) (hup (hup q 6 a1) 7 a2)) 98 (4 : Int).toNat = X 98 4 from zrow_out (by simp only [Int.reduceToNat]; omega), hX]
        have e5 := hN183 (M := hE X (X 98 4) (hup (hup q 6 a1) 7 a2)) (c := 4) (by rw [e3]; omega)
        rw [e3] at e5
        unfold hf_203_97; simp only [hq_182_0 hBX, hq_182_1 hBX, hq_182_2 hBX, hq_182_3 hBX, hq_182_4 hBX, hq_182_5 hBX, hq_185, hq_184, hq_180, hq_197, hq_198 hBX, hq_200 hBX, hq_252, hX]
        (repeat' split) <;> first | omega | (rw [eq]; (repeat rw [hE_put (M := X) (by rw [hX]; omega) (by decide)]); rw [hX] at e5 ⊢; first | (simp only [Int.reduceToNat] at e5 ⊢; rw [e5]) | (rw [show hf_183_97 _ _ = _ from e5]; rfl))
      rw [e2, hXe]
      refine ⟨rfl, hAct h (by omega) ⟨fun k hk => ?_, ?_, ?_, ?_⟩⟩
      · have em : hR_get M 16 a3 1 = hf_199_97 X a3 := by rw [ra3_M (by omega), sa3_M (by omega)]
        rcases (by omega : k = 0 ∨ k = 1 ∨ k = 2 ∨ k = 3 ∨ k = 4 ∨ k = 5 ∨ k = 6 ∨ k = 7) with rfl | rfl | rfl | rfl | rfl | rfl | rfl | rfl <;> simp [hup, v0, v1, v2, v3, v4, v5, v6, v7, q0, q1, q2, q3, q4, q5, q6, q7, em]
      · simp [hup, v8, q0, q8]
      · simp [hup, v8, v9, v10, q0, q9, q10, q11]
      · simp only [hup]; simp [q1]; rw [sa3_M (by omega)]; omega
    · have e1 : hf_131_8 M a1 a2 a3 a4 = (-4, M) := by
        unfold hf_131_8 hf_179_8; simp only [hq_174, hq_175, hq_171, hq_172, hq_170, hq_169, hq_178, hq_19, hq_has, hq_173]
        (repeat' split) <;> first | omega | (rw [hN18f hT (by omega)]; dsimp only; (repeat rw [hS_neg (by decide)]) <;> rfl)
      rw [e1]; dsimp only
      have hX : M 98 = M 98 := rfl
      have sa1_0 : (0 ≤ a1 ∧ a1 < M 98 4) → hf_194_97 M a1 0 = M 98 (350 + 12 * (a1).toNat) := fun q => by rw [hv_194 (by omega) (by decide), hX, show 350 + 12 * (a1).toNat + (0 : Int).toNat = 350 + 12 * (a1).toNat by simp only [Int.reduceToNat]; omega]
      have sa3_M : (0 ≤ a3 ∧ a3 < M 98 3) → hf_199_97 M a3 = M 98 (151 + 5 * (a3).toNat) := fun q => by rw [hv_199 (by omega), hX]
      have e2 : hf_203_97 M a1 a2 a3 a4 = (-4, M) := by
        unfold hf_203_97; simp only [hq_182_0 hB, hq_182_1 hB, hq_182_2 hB, hq_182_3 hB, hq_182_4 hB, hq_182_5 hB, hq_185, hq_184, hq_180, hq_197, hq_198 hB, hq_200 hB, hq_252]
        (repeat' split) <;> first | omega | rfl
      rw [e2]; exact ⟨rfl, h⟩
  · skip
    have e1 : hf_131_8 M a1 a2 a3 a4 = (-2, M) := by
      unfold hf_131_8; simp only [hq_174, hq_175, hq_171, hq_172, hq_170, hq_169, hq_178, hq_19, hq_has, hq_173]
      (repeat' split) <;> first | omega | rfl
    rw [e1]; dsimp only
    have hX : M 98 = M 98 := rfl
    have sa1_0 : (0 ≤ a1 ∧ a1 < M 98 4) → hf_194_97 M a1 0 = M 98 (350 + 12 * (a1).toNat) := fun q => by rw [hv_194 (by omega) (by decide), hX, show 350 + 12 * (a1).toNat + (0 : Int).toNat = 350 + 12 * (a1).toNat by simp only [Int.reduceToNat]; omega]
    have sa3_M : (0 ≤ a3 ∧ a3 < M 98 3) → hf_199_97 M a3 = M 98 (151 + 5 * (a3).toNat) := fun q => by rw [hv_199 (by omega), hX]
    have e2 : hf_203_97 M a1 a2 a3 a4 = (-2, M) := by
      unfold hf_203_97; simp only [hq_182_0 hB, hq_182_1 hB, hq_182_2 hB, hq_182_3 hB, hq_182_4 hB, hq_182_5 hB, hq_185, hq_184, hq_180, hq_197, hq_198 hB, hq_200 hB, hq_252]
      (repeat' split) <;> first | omega | rfl
    rw [e2]; exact ⟨rfl, h⟩
theorem hm_132 (h : hHs M 9 (M 98)) (hT : hTb M) (hB : hBd M) {a1 a2 a3 a4 a5 a6 : Int} : (hf_132_8 M a1 a2 a3 a4 a5 a6).1 = (hf_204_97 (hf_132_8 M a1 a2 a3 a4 a5 a6).2 a1 a2 a3 a4 a5 a6).1 ∧ hHs (hf_204_97 (hf_132_8 M a1 a2 a3 a4 a5 a6).2 a1 a2 a3 a4 a5 a6).2 9 ((hf_204_97 (hf_132_8 M a1 a2 a3 a4 a5 a6).2 a1 a2 a3 a4 a5 a6).2 98) := by
  have k0 : M 10 3 = M 98 0 := h.1.1
  have k1 : M 12 3 = M 98 1 := h.2.1.1
  have k2 : M 14 3 = M 98 2 := h.2.2.1.1
  have k3 : M 16 3 = M 98 3 := h.2.2.2.1.1
  have k4 : M 18 3 = M 98 4 := h.2.2.2.2.1.1
  have k6 : M 24 3 = M 98 6 := h.2.2.2.2.2.2.1.1
  have k7 : M 9 8 = M 98 7 := h.2.2.2.2.2.2.2.1
  have k8 : M 9 9 = M 98 8 := h.2.2.2.2.2.2.2.2.1
  have b7 : 0 ≤ M 98 7 ∧ M 98 7 ≤ 1000 := h.2.2.2.2.2.2.2.2.2
  obtain ⟨b0, b1, b2, b3, b4, b5, b6⟩ := id hB
  have ra5_M : (0 ≤ a5 ∧ a5 < M 98 3) → hR_get M 16 a5 1 = M 98 (151 + 5 * (a5).toNat) := fun q => hrM h hT (by omega)
  have ga5 : (0 ≤ a5 ∧ a5 < M 98 3) → 0 ≤ M 98 (151 + 5 * (a5).toNat) ∧ M 98 (151 + 5 * (a5).toNat) ≤ 9999 := fun q => (h.2.2.2.1.2.2 (a5).toNat (by omega)).1
  by_cases C : (0 ≤ a1 ∧ a1 < M 98 0) ∧ (1 ≤ a2 ∧ a2 ≤ 200) ∧ (1 ≤ a3 ∧ a3 ≤ 200) ∧ (-50 ≤ a4 ∧ a4 ≤ 50) ∧ ((0 ≤ a5 ∧ a5 < M 98 3) ∧ (M 98 (151 + 5 * (a5).toNat) ≤ a6 ∧ a6 ≤ 9999))
  · by_cases hf : M 98 4 < 250
    · obtain ⟨v, ev, ⟨v0, v1, v2, v3⟩, ⟨v4, v5, v6, v7⟩, v8, v9, v10⟩ := hN18 (a := 3) (b := (hR_get M 16 a5 1)) (c := a6) (d := a5) hT (by omega)
      have e1 : hf_132_8 M a1 a2 a3 a4 a5 a6 = (M 18 3, hD M (M 18 3) (hup (hup (hup (hup v 5 a1) 8 a2) 9 a3) 10 a4)) := by
        unfold hf_132_8 hf_179_8; simp only [hq_174, hq_175, hq_171, hq_172, hq_170, hq_169, hq_178, hq_19, hq_has, hq_173]
        (repeat' split) <;> first | omega | (rw [ev]; dsimp only; (repeat rw [hD_set hT (by omega) (by decide)]) <;> rfl)
      rw [e1, k4]; dsimp only
      obtain ⟨X, hXe⟩ : ∃ X, X = hD M (M 98 4) (hup (hup (hup (hup v 5 a1) 8 a2) 9 a3) 10 a4) := ⟨_, rfl⟩
      rw [← hXe]
      have hX : X 98 = M 98 := by rw [hXe]; rfl
      have hBX : hBd X := hB.same hX
      have sa5_M : (0 ≤ a5 ∧ a5 < M 98 3) → hf_199_97 X a5 = M 98 (151 + 5 * (a5).toNat) := fun q => by rw [hv_199 (by omega), hX]
      obtain ⟨q, eq, ⟨q0, q1, q2, q3⟩, ⟨q4, q5, q6, q7⟩, q8, q9, q10, q11⟩ := hN196 (M := X) (a := 3) (b := (hf_199_97 X a5)) (c := a6) (d := a5) (by rw [hX]; omega)
      have e2 : hf_204_97 X a1 a2 a3 a4 a5 a6 = (M 98 4, zput (hE X (M 98 4) (hup (hup (hup (hup q 5 a1) 9 a2) 10 a3) 11 a4)) 98 4 (M 98 4 + 1)) := by
        have e3 : (hE X (X 98 4) (hup (hup (hup (hup q 5 a1) 9 a2) 10 a3) 11 a4)) 98 (4 : Int).toNat = M 98 4 := by rw [show (hE X (X 98 4) (hup (hup (hup (hup q 5 a1) 9 a2) 10 a3) 11 a4)) 98 (4 : Int).toNat = X 98 4 from zrow_out (by simp only [Int.reduceToNat]; omega), hX]
        have e5 := hN183 (M := hE X (X 98 4) (hup (hup (hup (hup q 5 a1) 9 a2) 10 a3) 11 a4)) (c := 4) (by rw [e3]; omega)
        rw [e3] at e5
        unfold hf_204_97; simp only [hq_182_0 hBX, hq_182_1 hBX, hq_182_2 hBX, hq_182_3 hBX, hq_182_4 hBX, hq_182_5 hBX, hq_185, hq_184, hq_180, hq_197, hq_198 hBX, hq_200 hBX, hq_252, hX]
        (repeat' split) <;> first | omega | (rw [eq]; (repeat rw [hE_put (M := X) (by rw [hX]; omega) (by decide)]); rw [hX] at e5 ⊢; first | (simp only [Int.reduceToNat] at e5 ⊢; rw [e5]) | (rw [show hf_183_97 _ _ = _ from e5]; rfl))
      rw [e2, hXe]
      refine ⟨rfl, hAct h (by omega) ⟨fun k hk => ?_, ?_, ?_, ?_⟩⟩
      · have em : hR_get M 16 a5 1 = hf_199_97 X a5 := by rw [ra5_M (by omega), sa5_M (by omega)]
        rcases (by omega : k = 0 ∨ k = 1 ∨ k = 2 ∨ k = 3 ∨ k = 4 ∨ k = 5 ∨ k = 6 ∨ k = 7) with rfl | rfl | rfl | rfl | rfl | rfl | rfl | rfl <;> simp [hup, v0, v1, v2, v3, v4, v5, v6, v7, q0, q1, q2, q3, q4, q5, q6, q7, em]
      · simp [hup, v8, q0, q8]
      · simp [hup, v8, v9, v10, q0, q9, q10, q11]
      · simp only [hup]; simp [q1]; rw [sa5_M (by omega)]; omega
    · have e1 : hf_132_8 M a1 a2 a3 a4 a5 a6 = (-4, M) := by
        unfold hf_132_8 hf_179_8; simp only [hq_174, hq_175, hq_171, hq_172, hq_170, hq_169, hq_178, hq_19, hq_has, hq_173]
        (repeat' split) <;> first | omega | (rw [hN18f hT (by omega)]; dsimp only; (repeat rw [hS_neg (by decide)]) <;> rfl)
      rw [e1]; dsimp only
      have hX : M 98 = M 98 := rfl
      have sa5_M : (0 ≤ a5 ∧ a5 < M 98 3) → hf_199_97 M a5 = M 98 (151 + 5 * (a5).toNat) := fun q => by rw [hv_199 (by omega), hX]
      have e2 : hf_204_97 M a1 a2 a3 a4 a5 a6 = (-4, M) := by
        unfold hf_204_97; simp only [hq_182_0 hB, hq_182_1 hB, hq_182_2 hB, hq_182_3 hB, hq_182_4 hB, hq_182_5 hB, hq_185, hq_184, hq_180, hq_197, hq_198 hB, hq_200 hB, hq_252]
        (repeat' split) <;> first | omega | rfl
      rw [e2]; exact ⟨rfl, h⟩
  · skip
    have e1 : hf_132_8 M a1 a2 a3 a4 a5 a6 = (-2, M) := by
      unfold hf_132_8; simp only [hq_174, hq_175, hq_171, hq_172, hq_170, hq_169, hq_178, hq_19, hq_has, hq_173]
      (repeat' split) <;> first | omega | rfl
    rw [e1]; dsimp only
    have hX : M 98 = M 98 := rfl
    have sa5_M : (0 ≤ a5 ∧ a5 < M 98 3) → hf_199_97 M a5 = M 98 (151 + 5 * (a5).toNat) := fun q => by rw [hv_199 (by omega), hX]
    have e2 : hf_204_97 M a1 a2 a3 a4 a5 a6 = (-2, M) := by
      unfold hf_204_97; simp only [hq_182_0 hB, hq_182_1 hB, hq_182_2 hB, hq_182_3 hB, hq_182_4 hB, hq_182_5 hB, hq_185, hq_184, hq_180, hq_197, hq_198 hB, hq_200 hB, hq_252]
      (repeat' split) <;> first | omega | rfl
    rw [e2]; exact ⟨rfl, h⟩
theorem hm_133 (h : hHs M 9 (M 98)) (hT : hTb M) (hB : hBd M) {a1 a2 a3 a4 : Int} : (hf_133_8 M a1 a2 a3 a4).1 = (hf_205_97 (hf_133_8 M a1 a2 a3 a4).2 a1 a2 a3 a4).1 ∧ hHs (hf_205_97 (hf_133_8 M a1 a2 a3 a4).2 a1 a2 a3 a4).2 9 ((hf_205_97 (hf_133_8 M a1 a2 a3 a4).2 a1 a2 a3 a4).2 98) := by
  have k0 : M 10 3 = M 98 0 := h.1.1
  have k1 : M 12 3 = M 98 1 := h.2.1.1
  have k2 : M 14 3 = M 98 2 := h.2.2.1.1
  have k3 : M 16 3 = M 98 3 := h.2.2.2.1.1
  have k4 : M 18 3 = M 98 4 := h.2.2.2.2.1.1
  have k6 : M 24 3 = M 98 6 := h.2.2.2.2.2.2.1.1
  have k7 : M 9 8 = M 98 7 := h.2.2.2.2.2.2.2.1
  have k8 : M 9 9 = M 98 8 := h.2.2.2.2.2.2.2.2.1
  have b7 : 0 ≤ M 98 7 ∧ M 98 7 ≤ 1000 := h.2.2.2.2.2.2.2.2.2
  obtain ⟨b0, b1, b2, b3, b4, b5, b6⟩ := id hB
  have ra3_M : (0 ≤ a3 ∧ a3 < M 98 3) → hR_get M 16 a3 1 = M 98 (151 + 5 * (a3).toNat) := fun q => hrM h hT (by omega)
  have ga3 : (0 ≤ a3 ∧ a3 < M 98 3) → 0 ≤ M 98 (151 + 5 * (a3).toNat) ∧ M 98 (151 + 5 * (a3).toNat) ≤ 9999 := fun q => (h.2.2.2.1.2.2 (a3).toNat (by omega)).1
  by_cases C : (0 ≤ a1 ∧ a1 < M 98 1) ∧ (0 ≤ a2 ∧ a2 < M 98 0) ∧ ((0 ≤ a3 ∧ a3 < M 98 3) ∧ (M 98 (151 + 5 * (a3).toNat) ≤ a4 ∧ a4 ≤ 9999))
  · by_cases hf : M 98 4 < 250
    · obtain ⟨v, ev, ⟨v0, v1, v2, v3⟩, ⟨v4, v5, v6, v7⟩, v8, v9, v10⟩ := hN18 (a := 4) (b := (hR_get M 16 a3 1)) (c := a4) (d := a3) hT (by omega)
      have e1 : hf_133_8 M a1 a2 a3 a4 = (M 18 3, hD M (M 18 3) (hup (hup v 4 a1) 5 a2)) := by
        unfold hf_133_8 hf_179_8; simp only [hq_174, hq_175, hq_171, hq_172, hq_170, hq_169, hq_178, hq_19, hq_has, hq_173]
        (repeat' split) <;> first | omega | (rw [ev]; dsimp only; (repeat rw [hD_set hT (by omega) (by decide)]) <;> rfl)
      rw [e1, k4]; dsimp only
      obtain ⟨X, hXe⟩ : ∃ X, X = hD M (M 98 4) (hup (hup v 4 a1) 5 a2) := ⟨_, rfl⟩
      rw [← hXe]
      have hX : X 98 = M 98 := by rw [hXe]; rfl
      have hBX : hBd X := hB.same hX
      have sa3_M : (0 ≤ a3 ∧ a3 < M 98 3) → hf_199_97 X a3 = M 98 (151 + 5 * (a3).toNat) := fun q => by rw [hv_199 (by omega), hX]
      obtain ⟨q, eq, ⟨q0, q1, q2, q3⟩, ⟨q4, q5, q6, q7⟩, q8, q9, q10, q11⟩ := hN196 (M := X) (a := 4) (b := (hf_199_97 X a3)) (c := a4) (d := a3) (by rw [hX]; omega)
      have e2 : hf_205_97 X a1 a2 a3 a4 = (M 98 4, zput (hE X (M 98 4) (hup (hup q 4 a1) 5 a2)) 98 4 (M 98 4 + 1)) := by
        have e3 : (hE X (X 98 4) (hup (hup q 4 a1) 5 a2)) 98 (4 : Int).toNat = M 98 4 := by rw [show (hE X (X 98 4) (hup (hup q 4 a1) 5 a2)) 98 (4 : Int).toNat = X 98 4 from zrow_out (by simp only [Int.reduceToNat]; omega), hX]
        have e5 := hN183 (M := hE X (X 98 4) (hup (hup q 4 a1) 5 a2)) (c := 4) (by rw [e3]; omega)
        rw [e3] at e5
        unfold hf_205_97; simp only [hq_182_0 hBX, hq_182_1 hBX, hq_182_2 hBX, hq_182_3 hBX, hq_182_4 hBX, hq_182_5 hBX, hq_185, hq_184, hq_180, hq_197, hq_198 hBX, hq_200 hBX, hq_252, hX]
        (repeat' split) <;> first | omega | (rw [eq]; (repeat rw [hE_put (M := X) (by rw [hX]; omega) (by decide)]); rw [hX] at e5 ⊢; first | (simp only [Int.reduceToNat] at e5 ⊢; rw [e5]) | (rw [show hf_183_97 _ _ = _ from e5]; rfl))
      rw [e2, hXe]
      refine ⟨rfl, hAct h (by omega) ⟨fun k hk => ?_, ?_, ?_, ?_⟩⟩
      · have em : hR_get M 16 a3 1 = hf_199_97 X a3 := by rw [ra3_M (by omega), sa3_M (by omega)]
        rcases (by omega : k = 0 ∨ k = 1 ∨ k = 2 ∨ k = 3 ∨ k = 4 ∨ k = 5 ∨ k = 6 ∨ k = 7) with rfl | rfl | rfl | rfl | rfl | rfl | rfl | rfl <;> simp [hup, v0, v1, v2, v3, v4, v5, v6, v7, q0, q1, q2, q3, q4, q5, q6, q7, em]
      · simp [hup, v8, q0, q8]
      · simp [hup, v8, v9, v10, q0, q9, q10, q11]
      · simp only [hup]; simp [q1]; rw [sa3_M (by omega)]; omega
    · have e1 : hf_133_8 M a1 a2 a3 a4 = (-4, M) := by
        unfold hf_133_8 hf_179_8; simp only [hq_174, hq_175, hq_171, hq_172, hq_170, hq_169, hq_178, hq_19, hq_has, hq_173]
        (repeat' split) <;> first | omega | (rw [hN18f hT (by omega)]; dsimp only; (repeat rw [hS_neg (by decide)]) <;> rfl)
      rw [e1]; dsimp only
      have hX : M 98 = M 98 := rfl
      have sa3_M : (0 ≤ a3 ∧ a3 < M 98 3) → hf_199_97 M a3 = M 98 (151 + 5 * (a3).toNat) := fun q => by rw [hv_199 (by omega), hX]
      have e2 : hf_205_97 M a1 a2 a3 a4 = (-4, M) := by
        unfold hf_205_97; simp only [hq_182_0 hB, hq_182_1 hB, hq_182_2 hB, hq_182_3 hB, hq_182_4 hB, hq_182_5 hB, hq_185, hq_184, hq_180, hq_197, hq_198 hB, hq_200 hB, hq_252]
        (repeat' split) <;> first | omega | rfl
      rw [e2]; exact ⟨rfl, h⟩
  · skip
    have e1 : hf_133_8 M a1 a2 a3 a4 = (-2, M) := by
      unfold hf_133_8; simp only [hq_174, hq_175, hq_171, hq_172, hq_170, hq_169, hq_178, hq_19, hq_has, hq_173]
      (repeat' split) <;> first | omega | rfl
    rw [e1]; dsimp only
    have hX : M 98 = M 98 := rfl
    have sa3_M : (0 ≤ a3 ∧ a3 < M 98 3) → hf_199_97 M a3 = M 98 (151 + 5 * (a3).toNat) := fun q => by rw [hv_199 (by omega), hX]
    have e2 : hf_205_97 M a1 a2 a3 a4 = (-2, M) := by
      unfold hf_205_97; simp only [hq_182_0 hB, hq_182_1 hB, hq_182_2 hB, hq_182_3 hB, hq_182_4 hB, hq_182_5 hB, hq_185, hq_184, hq_180, hq_197, hq_198 hB, hq_200 hB, hq_252]
      (repeat' split) <;> first | omega | rfl
    rw [e2]; exact ⟨rfl, h⟩
theorem hm_134 (h : hHs M 9 (M 98)) (hT : hTb M) (hB : hBd M) {a1 a2 a3 : Int} : (hf_134_8 M a1 a2 a3).1 = (hf_206_97 (hf_134_8 M a1 a2 a3).2 a1 a2 a3).1 ∧ hHs (hf_206_97 (hf_134_8 M a1 a2 a3).2 a1 a2 a3).2 9 ((hf_206_97 (hf_134_8 M a1 a2 a3).2 a1 a2 a3).2 98) := by
  have k0 : M 10 3 = M 98 0 := h.1.1
  have k1 : M 12 3 = M 98 1 := h.2.1.1
  have k2 : M 14 3 = M 98 2 := h.2.2.1.1
  have k3 : M 16 3 = M 98 3 := h.2.2.2.1.1
  have k4 : M 18 3 = M 98 4 := h.2.2.2.2.1.1
  have k6 : M 24 3 = M 98 6 := h.2.2.2.2.2.2.1.1
  have k7 : M 9 8 = M 98 7 := h.2.2.2.2.2.2.2.1
  have k8 : M 9 9 = M 98 8 := h.2.2.2.2.2.2.2.2.1
  have b7 : 0 ≤ M 98 7 ∧ M 98 7 ≤ 1000 := h.2.2.2.2.2.2.2.2.2
  obtain ⟨b0, b1, b2, b3, b4, b5, b6⟩ := id hB
  have ra2_M : (0 ≤ a2 ∧ a2 < M 98 3) → hR_get M 16 a2 1 = M 98 (151 + 5 * (a2).toNat) := fun q => hrM h hT (by omega)
  have ga2 : (0 ≤ a2 ∧ a2 < M 98 3) → 0 ≤ M 98 (151 + 5 * (a2).toNat) ∧ M 98 (151 + 5 * (a2).toNat) ≤ 9999 := fun q => (h.2.2.2.1.2.2 (a2).toNat (by omega)).1
  by_cases C : (0 ≤ a1 ∧ a1 < M 98 4) ∧ ((0 ≤ a2 ∧ a2 < M 98 3) ∧ (M 98 (151 + 5 * (a2).toNat) ≤ a3 ∧ a3 ≤ 9999))
  · by_cases hf : M 98 4 < 250
    · obtain ⟨v, ev, ⟨v0, v1, v2, v3⟩, ⟨v4, v5, v6, v7⟩, v8, v9, v10⟩ := hN18 (a := 5) (b := (hR_get M 16 a2 1)) (c := a3) (d := a2) hT (by omega)
      have e1 : hf_134_8 M a1 a2 a3 = (M 18 3, hD M (M 18 3) (hup v 6 a1)) := by
        unfold hf_134_8 hf_179_8; simp only [hq_174, hq_175, hq_171, hq_172, hq_170, hq_169, hq_178, hq_19, hq_has, hq_173]
        (repeat' split) <;> first | omega | (rw [ev]; dsimp only; (repeat rw [hD_set hT (by omega) (by decide)]) <;> rfl)
      rw [e1, k4]; dsimp only
      obtain ⟨X, hXe⟩ : ∃ X, X = hD M (M 98 4) (hup v 6 a1) := ⟨_, rfl⟩
      rw [← hXe]
      have hX : X 98 = M 98 := by rw [hXe]; rfl
      have hBX : hBd X := hB.same hX
      have sa2_M : (0 ≤ a2 ∧ a2 < M 98 3) → hf_199_97 X a2 = M 98 (151 + 5 * (a2).toNat) := fun q => by rw [hv_199 (by omega), hX]
      obtain ⟨q, eq, ⟨q0, q1, q2, q3⟩, ⟨q4, q5, q6, q7⟩, q8, q9, q10, q11⟩ := hN196 (M := X) (a := 5) (b := (hf_199_97 X a2)) (c := a3) (d := a2) (by rw [hX]; omega)
      have e2 : hf_206_97 X a1 a2 a3 = (M 98 4, zput (hE X (M 98 4) (hup q 6 a1)) 98 4 (M 98 4 + 1)) := by
        have e3 : (hE X (X 98 4) (hup q 6 a1)) 98 (4 : Int).toNat = M 98 4 := by rw [show (hE X (X 98 4) (hup q 6 a1)) 98 (4 : Int).toNat = X 98 4 from zrow_out (by simp only [Int.reduceToNat]; omega), hX]
        have e5 := hN183 (M := hE X (X 98 4) (hup q 6 a1)) (c := 4) (by rw [e3]; omega)
        rw [e3] at e5
        unfold hf_206_97; simp only [hq_182_0 hBX, hq_182_1 hBX, hq_182_2 hBX, hq_182_3 hBX, hq_182_4 hBX, hq_182_5 hBX, hq_185, hq_184, hq_180, hq_197, hq_198 hBX, hq_200 hBX, hq_252, hX]
        (repeat' split) <;> first | omega | (rw [eq]; (repeat rw [hE_put (M := X) (by rw [hX]; omega) (by decide)]); rw [hX] at e5 ⊢; first | (simp only [Int.reduceToNat] at e5 ⊢; rw [e5]) | (rw [show hf_183_97 _ _ = _ from e5]; rfl))
      rw [e2, hXe]
      refine ⟨rfl, hAct h (by omega) ⟨fun k hk => ?_, ?_, ?_, ?_⟩⟩
      · have em : hR_get M 16 a2 1 = hf_199_97 X a2 := by rw [ra2_M (by omega), sa2_M (by omega)]
        rcases (by omega : k = 0 ∨ k = 1 ∨ k = 2 ∨ k = 3 ∨ k = 4 ∨ k = 5 ∨ k = 6 ∨ k = 7) with rfl | rfl | rfl | rfl | rfl | rfl | rfl | rfl <;> simp [hup, v0, v1, v2, v3, v4, v5, v6, v7, q0, q1, q2, q3, q4, q5, q6, q7, em]
      · simp [hup, v8, q0, q8]
      · simp [hup, v8, v9, v10, q0, q9, q10, q11]
      · simp only [hup]; simp [q1]; rw [sa2_M (by omega)]; omega
    · have e1 : hf_134_8 M a1 a2 a3 = (-4, M) := by
        unfold hf_134_8 hf_179_8; simp only [hq_174, hq_175, hq_171, hq_172, hq_170, hq_169, hq_178, hq_19, hq_has, hq_173]
        (repeat' split) <;> first | omega | (rw [hN18f hT (by omega)]; dsimp only; (repeat rw [hS_neg (by decide)]) <;> rfl)
      rw [e1]; dsimp only
      have hX : M 98 = M 98 := rfl
      have sa2_M : (0 ≤ a2 ∧ a2 < M 98 3) → hf_199_97 M a2 = M 98 (151 + 5 * (a2).toNat) := fun q => by rw [hv_199 (by omega), hX]
      have e2 : hf_206_97 M a1 a2 a3 = (-4, M) := by
        unfold hf_206_97; simp only [hq_182_0 hB, hq_182_1 hB, hq_182_2 hB, hq_182_3 hB, hq_182_4 hB, hq_182_5 hB, hq_185, hq_184, hq_180, hq_197, hq_198 hB, hq_200 hB, hq_252]
        (repeat' split) <;> first | omega | rfl
      rw [e2]; exact ⟨rfl, h⟩
  · skip
    have e1 : hf_134_8 M a1 a2 a3 = (-2, M) := by
      unfold hf_134_8; simp only [hq_174, hq_175, hq_171, hq_172, hq_170, hq_169, hq_178, hq_19, hq_has, hq_173]
      (repeat' split) <;> first | omega | rfl
    rw [e1]; dsimp only
    have hX : M 98 = M 98 := rfl
    have sa2_M : (0 ≤ a2 ∧ a2 < M 98 3) → hf_199_97 M a2 = M 98 (151 + 5 * (a2).toNat) := fun q => by rw [hv_199 (by omega), hX]
    have e2 : hf_206_97 M a1 a2 a3 = (-2, M) := by
      unfold hf_206_97; simp only [hq_182_0 hB, hq_182_1 hB, hq_182_2 hB, hq_182_3 hB, hq_182_4 hB, hq_182_5 hB, hq_185, hq_184, hq_180, hq_197, hq_198 hB, hq_200 hB, hq_252]
      (repeat' split) <;> first | omega | rfl
    rw [e2]; exact ⟨rfl, h⟩
theorem hm_135 (h : hHs M 9 (M 98)) (hT : hTb M) (hB : hBd M) {a1 a2 a3 : Int} : (hf_135_8 M a1 a2 a3).1 = (hf_207_97 (hf_135_8 M a1 a2 a3).2 a1 a2 a3).1 ∧ hHs (hf_207_97 (hf_135_8 M a1 a2 a3).2 a1 a2 a3).2 9 ((hf_207_97 (hf_135_8 M a1 a2 a3).2 a1 a2 a3).2 98) := by
  have k0 : M 10 3 = M 98 0 := h.1.1
  have k1 : M 12 3 = M 98 1 := h.2.1.1
  have k2 : M 14 3 = M 98 2 := h.2.2.1.1
  have k3 : M 16 3 = M 98 3 := h.2.2.2.1.1
  have k4 : M 18 3 = M 98 4 := h.2.2.2.2.1.1
  have k6 : M 24 3 = M 98 6 := h.2.2.2.2.2.2.1.1
  have k7 : M 9 8 = M 98 7 := h.2.2.2.2.2.2.2.1
  have k8 : M 9 9 = M 98 8 := h.2.2.2.2.2.2.2.2.1
  have b7 : 0 ≤ M 98 7 ∧ M 98 7 ≤ 1000 := h.2.2.2.2.2.2.2.2.2
  obtain ⟨b0, b1, b2, b3, b4, b5, b6⟩ := id hB
  have ra2_M : (0 ≤ a2 ∧ a2 < M 98 3) → hR_get M 16 a2 1 = M 98 (151 + 5 * (a2).toNat) := fun q => hrM h hT (by omega)
  have ga2 : (0 ≤ a2 ∧ a2 < M 98 3) → 0 ≤ M 98 (151 + 5 * (a2).toNat) ∧ M 98 (151 + 5 * (a2).toNat) ≤ 9999 := fun q => (h.2.2.2.1.2.2 (a2).toNat (by omega)).1
  by_cases C : (0 ≤ a1 ∧ a1 < M 98 1) ∧ ((0 ≤ a2 ∧ a2 < M 98 3) ∧ (M 98 (151 + 5 * (a2).toNat) ≤ a3 ∧ a3 ≤ 9999))
  · by_cases hf : M 98 4 < 250
    · obtain ⟨v, ev, ⟨v0, v1, v2, v3⟩, ⟨v4, v5, v6, v7⟩, v8, v9, v10⟩ := hN18 (a := 6) (b := (hR_get M 16 a2 1)) (c := a3) (d := a2) hT (by omega)
      have e1 : hf_135_8 M a1 a2 a3 = (M 18 3, hD M (M 18 3) (hup v 4 a1)) := by
        unfold hf_135_8 hf_179_8; simp only [hq_174, hq_175, hq_171, hq_172, hq_170, hq_169, hq_178, hq_19, hq_has, hq_173]
        (repeat' split) <;> first | omega | (rw [ev]; dsimp only; (repeat rw [hD_set hT (by omega) (by decide)]) <;> rfl)
      rw [e1, k4]; dsimp only
      obtain ⟨X, hXe⟩ : ∃ X, X = hD M (M 98 4) (hup v 4 a1) := ⟨_, rfl⟩
      rw [← hXe]
      have hX : X 98 = M 98 := by rw [hXe]; rfl
      have hBX : hBd X := hB.same hX
      have sa2_M : (0 ≤ a2 ∧ a2 < M 98 3) → hf_199_97 X a2 = M 98 (151 + 5 * (a2).toNat) := fun q => by rw [hv_199 (by omega), hX]
      obtain ⟨q, eq, ⟨q0, q1, q2, q3⟩, ⟨q4, q5, q6, q7⟩, q8, q9, q10, q11⟩ := hN196 (M := X) (a := 6) (b := (hf_199_97 X a2)) (c := a3) (d := a2) (by rw [hX]; omega)
      have e2 : hf_207_97 X a1 a2 a3 = (M 98 4, zput (hE X (M 98 4) (hup q 4 a1)) 98 4 (M 98 4 + 1)) := by
        have e3 : (hE X (X 98 4) (hup q 4 a1)) 98 (4 : Int).toNat = M 98 4 := by rw [show (hE X (X 98 4) (hup q 4 a1)) 98 (4 : Int).toNat = X 98 4 from zrow_out (by simp only [Int.reduceToNat]; omega), hX]
        have e5 := hN183 (M := hE X (X 98 4) (hup q 4 a1)) (c := 4) (by rw [e3]; omega)
        rw [e3] at e5
        unfold hf_207_97; simp only [hq_182_0 hBX, hq_182_1 hBX, hq_182_2 hBX, hq_182_3 hBX, hq_182_4 hBX, hq_182_5 hBX, hq_185, hq_184, hq_180, hq_197, hq_198 hBX, hq_200 hBX, hq_252, hX]
        (repeat' split) <;> first | omega | (rw [eq]; (repeat rw [hE_put (M := X) (by rw [hX]; omega) (by decide)]); rw [hX] at e5 ⊢; first | (simp only [Int.reduceToNat] at e5 ⊢; rw [e5]) | (rw [show hf_183_97 _ _ = _ from e5]; rfl))
      rw [e2, hXe]
      refine ⟨rfl, hAct h (by omega) ⟨fun k hk => ?_, ?_, ?_, ?_⟩⟩
      · have em : hR_get M 16 a2 1 = hf_199_97 X a2 := by rw [ra2_M (by omega), sa2_M (by omega)]
        rcases (by omega : k = 0 ∨ k = 1 ∨ k = 2 ∨ k = 3 ∨ k = 4 ∨ k = 5 ∨ k = 6 ∨ k = 7) with rfl | rfl | rfl | rfl | rfl | rfl | rfl | rfl <;> simp [hup, v0, v1, v2, v3, v4, v5, v6, v7, q0, q1, q2, q3, q4, q5, q6, q7, em]
      · simp [hup, v8, q0, q8]
      · simp [hup, v8, v9, v10, q0, q9, q10, q11]
      · simp only [hup]; simp [q1]; rw [sa2_M (by omega)]; omega
    · have e1 : hf_135_8 M a1 a2 a3 = (-4, M) := by
        unfold hf_135_8 hf_179_8; simp only [hq_174, hq_175, hq_171, hq_172, hq_170, hq_169, hq_178, hq_19, hq_has, hq_173]
        (repeat' split) <;> first | omega | (rw [hN18f hT (by omega)]; dsimp only; (repeat rw [hS_neg (by decide)]) <;> rfl)
      rw [e1]; dsimp only
      have hX : M 98 = M 98 := rfl
      have sa2_M : (0 ≤ a2 ∧ a2 < M 98 3) → hf_199_97 M a2 = M 98 (151 + 5 * (a2).toNat) := fun q => by rw [hv_199 (by omega), hX]
      have e2 : hf_207_97 M a1 a2 a3 = (-4, M) := by
        unfold hf_207_97; simp only [hq_182_0 hB, hq_182_1 hB, hq_182_2 hB, hq_182_3 hB, hq_182_4 hB, hq_182_5 hB, hq_185, hq_184, hq_180, hq_197, hq_198 hB, hq_200 hB, hq_252]
        (repeat' split) <;> first | omega | rfl
      rw [e2]; exact ⟨rfl, h⟩
  · skip
    have e1 : hf_135_8 M a1 a2 a3 = (-2, M) := by
      unfold hf_135_8; simp only [hq_174, hq_175, hq_171, hq_172, hq_170, hq_169, hq_178, hq_19, hq_has, hq_173]
      (repeat' split) <;> first | omega | rfl
    rw [e1]; dsimp only
    have hX : M 98 = M 98 := rfl
    have sa2_M : (0 ≤ a2 ∧ a2 < M 98 3) → hf_199_97 M a2 = M 98 (151 + 5 * (a2).toNat) := fun q => by rw [hv_199 (by omega), hX]
    have e2 : hf_207_97 M a1 a2 a3 = (-2, M) := by
      unfold hf_207_97; simp only [hq_182_0 hB, hq_182_1 hB, hq_182_2 hB, hq_182_3 hB, hq_182_4 hB, hq_182_5 hB, hq_185, hq_184, hq_180, hq_197, hq_198 hB, hq_200 hB, hq_252]
      (repeat' split) <;> first | omega | rfl
    rw [e2]; exact ⟨rfl, h⟩
end HK
