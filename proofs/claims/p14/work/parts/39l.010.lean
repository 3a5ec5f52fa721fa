section HL
variable {M : zM}
theorem hm_127 (h : hHs M 9 (M 98)) (hT : hTb M) (hB : hBd M) {a1 a2 : Int} (ha : a2 = 0 ∨ a2 = 1) : (hf_127_8 M a1 a2).1 = (hf_191_97 (hf_127_8 M a1 a2).2 a1 a2).1 ∧ hHs (hf_191_97 (hf_127_8 M a1 a2).2 a1 a2).2 9 ((hf_191_97 (hf_127_8 M a1 a2).2 a1 a2).2 98) := by
  have k3 : M 16 3 = M 98 3 := h.2.2.2.1.1
  have b3 := hB.2.2.2.1
  by_cases C : 0 ≤ a1 ∧ a1 < M 98 3
  · have g := (h.2.2.2.1.2.2 a1.toNat (by omega)).2.1
    have r4 : hR_get M 16 a1 4 = M 98 (154 + 5 * a1.toNat) := by
      rw [hG_16 hT (by omega) (by decide), h.2.2.2.1.2.1 _ (by simp only [Int.reduceToNat]; omega), show 150 + (5 * a1.toNat + (4 : Int).toNat) = 154 + 5 * a1.toNat by simp only [Int.reduceToNat]; omega]
    have jx : (w32 (w32 (150 + w32 (5 * a1)) + 4)).toNat = 154 + 5 * a1.toNat := by rw [w32_id (x := 5 * a1) (by omega), w32_id (x := 150 + 5 * a1) (by omega), w32_id (by omega)]; omega
    by_cases D : M 98 (154 + 5 * a1.toNat) = a2
    · skip
      have e1 : hf_127_8 M a1 a2 = (-3, M) := by
        unfold hf_127_8; simp only [hq_174, hq_175, hq_171, hq_172, hq_170, hq_169, hq_178, hq_19, hq_has, hq_173, r4]
        (repeat' split) <;> first | omega | rfl
      rw [e1]; dsimp only
      have e2 : hf_191_97 M a1 a2 = (-3, M) := by
        unfold hf_191_97; simp only [hq_182_0 hB, hq_182_1 hB, hq_182_2 hB, hq_182_3 hB, hq_182_4 hB, hq_182_5 hB, hq_185, hq_184, hq_180, hq_197, hq_198 hB, hq_200 hB, hq_252, jx]
        (repeat' split) <;> first | omega | rfl
      rw [e2]; exact ⟨rfl, h⟩
    · have e1 : hf_127_8 M a1 a2 = (1, zput M 17 (5 * a1.toNat + 4) a2) := by
        have es : ∀ x, hR_set M 16 a1 4 x = zput M 17 (5 * a1.toNat + 4) x := fun x => by rw [hS_16 hT (by omega) (by decide)]; rfl
        unfold hf_127_8; simp only [hq_174, hq_175, hq_171, hq_172, hq_170, hq_169, hq_178, hq_19, hq_has, hq_173, r4, es]
        rcases ha with rfl | rfl <;> (repeat' split) <;> first | omega | rfl
      rw [e1]; dsimp only
      obtain ⟨X, hXe⟩ : ∃ X, X = zput M 17 (5 * a1.toNat + 4) a2 := ⟨_, rfl⟩
      rw [← hXe]
      have hX : X 98 = M 98 := by rw [hXe]; rfl
      have hBX : hBd X := hB.same hX
      have e2 : hf_191_97 X a1 a2 = (1, zput X 98 (154 + 5 * a1.toNat) a2) := by
        unfold hf_191_97; simp only [hq_182_0 hBX, hq_182_1 hBX, hq_182_2 hBX, hq_182_3 hBX, hq_182_4 hBX, hq_182_5 hBX, hq_185, hq_184, hq_180, hq_197, hq_198 hBX, hq_200 hBX, hq_252, jx, hX]
        rcases ha with rfl | rfl <;> (repeat' split) <;> first | omega | rfl
      rw [e2, hXe]; dsimp only
      refine ⟨rfl, hHs.t3 h rfl rfl rfl rfl rfl rfl rfl rfl rfl rfl rfl rfl (fun j h1 h2 => ?_) ⟨?_, fun j hj => ?_, fun i hi => ?_⟩ (by rw [qput_nk (by omega)]; exact Int.le_refl _)⟩
      · rw [qput_nk (by omega)]; rfl
      · show M 16 3 = (zput (zput M 17 (5 * a1.toNat + 4) a2) 98 (154 + 5 * a1.toNat) a2) 98 3
        rw [qput_nk (by omega)]; exact k3
      · have q := h.2.2.2.1.2.1 j hj
        simp only [zput_same, zput_oth (show (17 : Nat) ≠ 98 by decide), zput_oth (show (98 : Nat) ≠ 17 by decide), hup]; (repeat' split) <;> omega
      · have q := h.2.2.2.1.2.2 i hi
        simp only [zput_same, zput_oth (show (98 : Nat) ≠ 17 by decide), hup]; (repeat' split) <;> omega
  · skip
    have e1 : hf_127_8 M a1 a2 = (-2, M) := by
      unfold hf_127_8; simp only [hq_174, hq_175, hq_171, hq_172, hq_170, hq_169, hq_178, hq_19, hq_has, hq_173]
      (repeat' split) <;> first | omega | rfl
    rw [e1]; dsimp only
    have e2 : hf_191_97 M a1 a2 = (-2, M) := by
      unfold hf_191_97; simp only [hq_182_0 hB, hq_182_1 hB, hq_182_2 hB, hq_182_3 hB, hq_182_4 hB, hq_182_5 hB, hq_185, hq_184, hq_180, hq_197, hq_198 hB, hq_200 hB, hq_252, Int.reduceToNat]
      (repeat' split) <;> first | omega | rfl
    rw [e2]; exact ⟨rfl, h⟩
end HL
