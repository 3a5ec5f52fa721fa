section HK
variable {M : zM} {a b c d u x : Int} {v q : Nat → Int}
theorem hm_134 (h : hHs M 9 (M 98)) (hT : hTb M) (hB : hBd M) {a1 a2 a3 : Int} : (hf_134_8 M a1 a2 a3).1 = (hf_206_97 (hf_134_8 M a1 a2 a3).2 a1 a2 a3).1 ∧ hHs (hf_206_97 (hf_134_8 M a1 a2 a3).2 a1 a2 a3).2 9 ((hf_206_97 (hf_134_8 M a1 a2 a3).2 a1 a2 a3).2 98) := by
  have k3 : M 16 3 = M 98 3 := h.2.2.2.1.1
  have b3 := hB.2.2.2.1
  have k4 : M 18 3 = M 98 4 := h.2.2.2.2.1.1
  have b4 := hB.2.2.2.2.1
  have ra2_M : (0 ≤ a2 ∧ a2 < M 98 3) → hR_get M 16 a2 1 = M 98 (151 + 5 * (a2).toNat) := fun q => hrM h hT (by omega)
  have ga2 : (0 ≤ a2 ∧ a2 < M 98 3) → 0 ≤ M 98 (151 + 5 * (a2).toNat) ∧ M 98 (151 + 5 * (a2).toNat) ≤ 9999 := fun q => (h.2.2.2.1.2.2 (a2).toNat (by omega)).1
  by_cases C : (0 ≤ a1 ∧ a1 < M 98 4) ∧ ((0 ≤ a2 ∧ a2 < M 98 3) ∧ (M 98 (151 + 5 * (a2).toNat) ≤ a3 ∧ a3 ≤ 9999))
  · by_cases hf : M 98 4 < 250
    · obtain ⟨v, ev, ⟨v0, v1, v2, v3⟩, ⟨v4, v5, v6, v7⟩, v8, v9, v10⟩ := hN18 (a := 5) (b := (hR_get M 16 a2 1)) (c := a3) (d := a2) hT (by omega)
      have e1 : hf_134_8 M a1 a2 a3 = (M 18 3, hD M (M 18 3) (hup v 6 a1)) := by
        unfold hf_134_8 hf_179_8; simp only [hq_174, hq_175, hq_171, hq_172, hq_170, hq_169, hq_178, hq_19, hq_has, hq_173]
        (repeat' split) <;> first | omega | (rw [ev]; dsimp only; (repeat rw [hD_set hT (by omega) (by decide)]) <;> rfl)
      rw [e1, k4]; dsimp only
      obtain ⟨X, hXe⟩ : ∃ X, X = hD M (M 98 4) (hup v 6 a1) := ⟨_, rfl⟩
      rw [← hXe]
      have hX : X 98 = M 98 := by rw [hXe]; rfl
      have hBX : hBd X := hB.same hX
      have sa2_M : (0 ≤ a2 ∧ a2 < M 98 3) → hf_199_97 X a2 = M 98 (151 + 5 * (a2).toNat) := fun q => by rw [hv_199 (by omega), hX]
      obtain ⟨q, eq, ⟨q0, q1, q2, q3⟩, ⟨q4, q5, q6, q7⟩, q8, q9, q10, q11⟩ := hN196 (M := X) (a := 5) (b := (hf_199_97 X a2)) (c := a3) (d := a2) (by rw [hX]; omega)
      have e2 : hf_206_97 X a1 a2 a3 = (M 98 4, zput (hE X (M 98 4) (hup q 6 a1)) 98 4 (M 98 4 + 1)) := by
        have e3 : (hE X (X 98 4) (hup q 6 a1)) 98 (4 : Int).toNat = M 98 4 := by rw [show (hE X (X 98 4) (hup q 6 a1)) 98 (4 : Int).toNat = X 98 4 from zrow_out (by simp only [Int.reduceToNat]; omega), hX]
        have e5 := hN183 (M := hE X (X 98 4) (hup q 6 a1)) (c := 4) (by rw [e3]; omega)
        rw [e3] at e5
        unfold hf_206_97; simp only [hq_182_0 hBX, hq_182_1 hBX, hq_182_2 hBX, hq_182_3 hBX, hq_182_4 hBX, hq_182_5 hBX, hq_185, hq_184, hq_180, hq_197, hq_198 hBX, hq_200 hBX, hq_252, hX]
        (repeat' split) <;> first | omega | (rw [eq]; (repeat rw [hE_put (M := X) (by rw [hX]; omega) (by decide)]); rw [hX] at e5 ⊢; first | (simp only [Int.reduceToNat] at e5 ⊢; rw [e5]) | (rw [show hf_183_97 _ _ = _ from e5]; rfl))
      rw [e2, hXe]
      refine ⟨rfl, hAct h (by omega) rfl ⟨by simp only [hup]; simp [q3]; try omega, by simp only [hup]; simp [q0, q4]; try omega⟩ ⟨fun k hk => ?_, ?_, ?_, ?_, ?_⟩⟩
      · have em : hR_get M 16 a2 1 = hf_199_97 X a2 := by rw [ra2_M (by omega), sa2_M (by omega)]
        rcases (by omega : k = 0 ∨ k = 1 ∨ k = 2 ∨ k = 3 ∨ k = 4 ∨ k = 5 ∨ k = 6 ∨ k = 7) with rfl | rfl | rfl | rfl | rfl | rfl | rfl | rfl <;> simp [hup, v0, v1, v2, v3, v4, v5, v6, v7, q0, q1, q2, q3, q4, q5, q6, q7, em]
      · simp [hup, v8, q0, q8]
      · simp [hup, v8, v9, v10, q0, q9, q10, q11]
      · simp only [hup]; simp [q1]; rw [sa2_M (by omega)]; omega
      · simp only [hup]; simp [q7]; try omega
    · have e1 : hf_134_8 M a1 a2 a3 = (-4, M) := by
        unfold hf_134_8 hf_179_8; simp only [hq_174, hq_175, hq_171, hq_172, hq_170, hq_169, hq_178, hq_19, hq_has, hq_173]
        (repeat' split) <;> first | omega | (rw [hN18f hT (by omega)]; dsimp only; (repeat rw [hS_neg (by decide)]) <;> rfl)
      rw [e1]; dsimp only
      have hX : M 98 = M 98 := rfl
      have sa2_M : (0 ≤ a2 ∧ a2 < M 98 3) → hf_199_97 M a2 = M 98 (151 + 5 * (a2).toNat) := fun q => by rw [hv_199 (by omega), hX]
      have e2 : hf_206_97 M a1 a2 a3 = (-4, M) := by
        unfold hf_206_97; simp only [hq_182_0 hB, hq_182_1 hB, hq_182_2 hB, hq_182_3 hB, hq_182_4 hB, hq_182_5 hB, hq_185, hq_184, hq_180, hq_197, hq_198 hB, hq_200 hB, hq_252]
        (repeat' split) <;> first | omega | rfl
      rw [e2]; exact ⟨rfl, h⟩
  · skip
    have e1 : hf_134_8 M a1 a2 a3 = (-2, M) := by
      unfold hf_134_8; simp only [hq_174, hq_175, hq_171, hq_172, hq_170, hq_169, hq_178, hq_19, hq_has, hq_173]
      (repeat' split) <;> first | omega | rfl
    rw [e1]; dsimp only
    have hX : M 98 = M 98 := rfl
    have sa2_M : (0 ≤ a2 ∧ a2 < M 98 3) → hf_199_97 M a2 = M 98 (151 + 5 * (a2).toNat) := fun q => by rw [hv_199 (by omega), hX]
    have e2 : hf_206_97 M a1 a2 a3 = (-2, M) := by
      unfold hf_206_97; simp only [hq_182_0 hB, hq_182_1 hB, hq_182_2 hB, hq_182_3 hB, hq_182_4 hB, hq_182_5 hB, hq_185, hq_184, hq_180, hq_197, hq_198 hB, hq_200 hB, hq_252]
      (repeat' split) <;> first | omega | rfl
    rw [e2]; exact ⟨rfl, h⟩
end HK
