section HL
variable {M : zM}
theorem hm_136 (h : hHs M 9 (M 98)) (hT : hTb M) (hB : hBd M) {a1 a2 : Int} : (hf_136_8 M a1 a2).1 = (hf_208_97 (hf_136_8 M a1 a2).2 a1 a2).1 ∧ hHs (hf_208_97 (hf_136_8 M a1 a2).2 a1 a2).2 9 ((hf_208_97 (hf_136_8 M a1 a2).2 a1 a2).2 98) := by
  have k3 : M 16 3 = M 98 3 := h.2.2.2.1.1
  have b3 := hB.2.2.2.1
  have k4 : M 18 3 = M 98 4 := h.2.2.2.2.1.1
  have b4 := hB.2.2.2.2.1
  have k7 : M 9 8 = M 98 7 := h.2.2.2.2.2.2.2.1.1
  have b7 : 0 ≤ M 98 7 ∧ M 98 7 ≤ 1000 := h.2.2.2.2.2.2.2.1.2.2
  have ra1_3 : (0 ≤ a1 ∧ a1 < M 98 4) → hR_get M 18 a1 3 = M 98 (353 + 12 * (a1).toNat) := fun q => by rw [hrA h hT (by omega) (by decide), show 350 + 12 * (a1).toNat + (3 : Int).toNat = 353 + 12 * (a1).toNat by simp only [Int.reduceToNat]; omega]
  have ra1_1 : (0 ≤ a1 ∧ a1 < M 98 4) → hR_get M 18 a1 1 = M 98 (351 + 12 * (a1).toNat) := fun q => by rw [hrA h hT (by omega) (by decide), show 350 + 12 * (a1).toNat + (1 : Int).toNat = 351 + 12 * (a1).toNat by simp only [Int.reduceToNat]; omega]
  have ga : (0 ≤ a1 ∧ a1 < M 98 4) → 0 ≤ M 98 (351 + 12 * a1.toNat) ∧ M 98 (351 + 12 * a1.toNat) ≤ 9999 := fun q => (h.2.2.2.2.1.2 a1.toNat (by omega)).2.2.2.1
  by_cases C : (0 ≤ a1 ∧ a1 < M 98 4) ∧ (0 ≤ a2 ∧ a2 ≤ 9999)
  · have r1 := ra1_1 C.1
    have r3 := ra1_3 C.1
    have g1 := ga C.1
    obtain ⟨D1, hD1⟩ : ∃ x : Int, x = M 98 (351 + 12 * a1.toNat) := ⟨_, rfl⟩
    rw [← hD1] at r1 g1
    have wd : w32 (D1 + M 98 7) = D1 + M 98 7 := w32_id (by omega)
    have wm : w32 (a2 - D1) = a2 - D1 := w32_id (by omega)
    by_cases D : ¬ M 98 (353 + 12 * a1.toNat) = -1 ∧ (D1 ≤ a2 ∧ a2 ≤ D1 + M 98 7)
    · by_cases hf : M 98 4 < 250
      · obtain ⟨v, ev, ⟨v0, v1, v2, v3⟩, ⟨v4, v5, v6, v7⟩, v8, v9, v10⟩ := hN18 (a := 5) (b := a2) (c := a2) (d := (-1)) hT (by omega)
        have e1 : hf_136_8 M a1 a2 = (M 18 3, hD M (M 18 3) (hup v 6 a1)) := by
          unfold hf_136_8; simp only [hq_174, hq_175, hq_171, hq_172, hq_170, hq_169, hq_178, hq_19, hq_has, hq_173, r1, r3, k7, wd]
          (repeat' split) <;> first | omega | (rw [ev]; dsimp only; (repeat rw [hD_set hT (by omega) (by decide)]) <;> rfl)
        rw [e1, k4]; dsimp only
        obtain ⟨X, hXe⟩ : ∃ X, X = hD M (M 98 4) (hup v 6 a1) := ⟨_, rfl⟩
        rw [← hXe]
        have hX : X 98 = M 98 := by rw [hXe]; rfl
        have hBX : hBd X := hB.same hX
        have sa1_3 : (0 ≤ a1 ∧ a1 < M 98 4) → hf_194_97 X a1 3 = M 98 (353 + 12 * (a1).toNat) := fun q => by rw [hv_194 (by omega) (by decide), hX, show 350 + 12 * (a1).toNat + (3 : Int).toNat = 353 + 12 * (a1).toNat by simp only [Int.reduceToNat]; omega]
        have sa1_1 : (0 ≤ a1 ∧ a1 < M 98 4) → hf_194_97 X a1 1 = M 98 (351 + 12 * (a1).toNat) := fun q => by rw [hv_194 (by omega) (by decide), hX, show 350 + 12 * (a1).toNat + (1 : Int).toNat = 351 + 12 * (a1).toNat by simp only [Int.reduceToNat]; omega]
        have s1 := sa1_1 C.1
        have s3 := sa1_3 C.1
        rw [← hD1] at s1
        obtain ⟨q, eq, ⟨q0, q1, q2, q3⟩, ⟨q4, q5, q6, q7⟩, q8, q9, q10, q11⟩ := hN196 (M := X) (a := 5) (b := a2) (c := a2) (d := (-1)) (by rw [hX]; omega)
        have e2 : hf_208_97 X a1 a2 = (M 98 4, zput (hE X (M 98 4) (hup q 6 a1)) 98 4 (M 98 4 + 1)) := by
          have e3 : (hE X (X 98 4) (hup q 6 a1)) 98 (4 : Int).toNat = M 98 4 := by rw [show (hE X (X 98 4) (hup q 6 a1)) 98 (4 : Int).toNat = X 98 4 from zrow_out (by simp only [Int.reduceToNat]; omega), hX]
          have e5 := hN183 (M := hE X (X 98 4) (hup q 6 a1)) (c := 4) (by rw [e3]; omega)
          rw [e3] at e5
          unfold hf_208_97; simp only [hq_182_0 hBX, hq_182_1 hBX, hq_182_2 hBX, hq_182_3 hBX, hq_182_4 hBX, hq_182_5 hBX, hq_185, hq_184, hq_180, hq_197, hq_198 hBX, hq_200 hBX, hq_252, s1, s3, wm, hX, Int.reduceToNat]
          (repeat' split) <;> first | omega | (rw [eq]; (repeat rw [hE_put (M := X) (by rw [hX]; omega) (by decide)]); rw [hX] at e5 ⊢; simp only [Int.reduceToNat] at e5 ⊢; rw [e5])
        rw [e2, hXe]; dsimp only
        refine ⟨rfl, hAct h (by omega) rfl ⟨by simp only [hup]; simp [q3]; try omega, by simp only [hup]; simp [q0, q4]; try omega⟩ ⟨fun k hk => ?_, ?_, ?_, ?_, ?_⟩⟩
        · rcases (by omega : k = 0 ∨ k = 1 ∨ k = 2 ∨ k = 3 ∨ k = 4 ∨ k = 5 ∨ k = 6 ∨ k = 7) with rfl | rfl | rfl | rfl | rfl | rfl | rfl | rfl <;> simp [hup, v0, v1, v2, v3, v4, v5, v6, v7, q0, q1, q2, q3, q4, q5, q6, q7]
        · simp [hup, v8, q0, q8]
        · simp [hup, v8, v9, v10, q0, q9, q10, q11]
        · simp only [hup]; simp [q1]; omega
        · simp only [hup]; simp [q7]; try omega
      · skip
        have e1 : hf_136_8 M a1 a2 = (-4, M) := by
          unfold hf_136_8; simp only [hq_174, hq_175, hq_171, hq_172, hq_170, hq_169, hq_178, hq_19, hq_has, hq_173, r1, r3, k7, wd]
          (repeat' split) <;> first | omega | rfl | (rw [hN18f hT (by omega)]; dsimp only; (repeat rw [hS_neg (by decide)]) <;> rfl)
        rw [e1]; dsimp only
        have hX : M 98 = M 98 := rfl
        have sa1_3 : (0 ≤ a1 ∧ a1 < M 98 4) → hf_194_97 M a1 3 = M 98 (353 + 12 * (a1).toNat) := fun q => by rw [hv_194 (by omega) (by decide), hX, show 350 + 12 * (a1).toNat + (3 : Int).toNat = 353 + 12 * (a1).toNat by simp only [Int.reduceToNat]; omega]
        have sa1_1 : (0 ≤ a1 ∧ a1 < M 98 4) → hf_194_97 M a1 1 = M 98 (351 + 12 * (a1).toNat) := fun q => by rw [hv_194 (by omega) (by decide), hX, show 350 + 12 * (a1).toNat + (1 : Int).toNat = 351 + 12 * (a1).toNat by simp only [Int.reduceToNat]; omega]
        have s1 := sa1_1 C.1
        have s3 := sa1_3 C.1
        rw [← hD1] at s1
        have e2 : hf_208_97 M a1 a2 = (-4, M) := by
          unfold hf_208_97; simp only [hq_182_0 hB, hq_182_1 hB, hq_182_2 hB, hq_182_3 hB, hq_182_4 hB, hq_182_5 hB, hq_185, hq_184, hq_180, hq_197, hq_198 hB, hq_200 hB, hq_252, s1, s3, wm, Int.reduceToNat]
          (repeat' split) <;> first | omega | rfl
        rw [e2]; exact ⟨rfl, h⟩
    · skip
      have e1 : hf_136_8 M a1 a2 = (-3, M) := by
        unfold hf_136_8; simp only [hq_174, hq_175, hq_171, hq_172, hq_170, hq_169, hq_178, hq_19, hq_has, hq_173, r1, r3, k7, wd]
        (repeat' split) <;> first | omega | rfl
      rw [e1]; dsimp only
      have hX : M 98 = M 98 := rfl
      have sa1_3 : (0 ≤ a1 ∧ a1 < M 98 4) → hf_194_97 M a1 3 = M 98 (353 + 12 * (a1).toNat) := fun q => by rw [hv_194 (by omega) (by decide), hX, show 350 + 12 * (a1).toNat + (3 : Int).toNat = 353 + 12 * (a1).toNat by simp only [Int.reduceToNat]; omega]
      have sa1_1 : (0 ≤ a1 ∧ a1 < M 98 4) → hf_194_97 M a1 1 = M 98 (351 + 12 * (a1).toNat) := fun q => by rw [hv_194 (by omega) (by decide), hX, show 350 + 12 * (a1).toNat + (1 : Int).toNat = 351 + 12 * (a1).toNat by simp only [Int.reduceToNat]; omega]
      have s1 := sa1_1 C.1
      have s3 := sa1_3 C.1
      rw [← hD1] at s1
      have e2 : hf_208_97 M a1 a2 = (-3, M) := by
        unfold hf_208_97; simp only [hq_182_0 hB, hq_182_1 hB, hq_182_2 hB, hq_182_3 hB, hq_182_4 hB, hq_182_5 hB, hq_185, hq_184, hq_180, hq_197, hq_198 hB, hq_200 hB, hq_252, s1, s3, wm, Int.reduceToNat]
        (repeat' split) <;> first | omega | rfl
      rw [e2]; exact ⟨rfl, h⟩
  · skip
    have e1 : hf_136_8 M a1 a2 = (-2, M) := by
      unfold hf_136_8; simp only [hq_174, hq_175, hq_171, hq_172, hq_170, hq_169, hq_178, hq_19, hq_has, hq_173]
      (repeat' split) <;> first | omega | rfl
    rw [e1]; dsimp only
    have e2 : hf_208_97 M a1 a2 = (-2, M) := by
      unfold hf_208_97; simp only [hq_182_0 hB, hq_182_1 hB, hq_182_2 hB, hq_182_3 hB, hq_182_4 hB, hq_182_5 hB, hq_185, hq_184, hq_180, hq_197, hq_198 hB, hq_200 hB, hq_252, Int.reduceToNat]
      (repeat' split) <;> first | omega | rfl
    rw [e2]; exact ⟨rfl, h⟩
end HL
