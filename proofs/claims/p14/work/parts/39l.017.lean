section HL
variable {M : zM}
theorem hm_157 (h : hHs M 9 (M 98)) (hT : hTb M) (hB : hBd M) {a1 a2 a3 : Int} (ha : a3 = 0 ∨ a3 = 1) : (hf_157_8 M a1 a2 a3).1 = (hf_271_97 (hf_157_8 M a1 a2 a3).2 a1 a2 a3).1 ∧ hHs (hf_271_97 (hf_157_8 M a1 a2 a3).2 a1 a2 a3).2 9 ((hf_271_97 (hf_157_8 M a1 a2 a3).2 a1 a2 a3).2 98) := by
  have k0 : M 10 3 = M 98 0 := h.1.1
  have b0 := hB.1
  have k1 : M 12 3 = M 98 1 := h.2.1.1
  have b1 := hB.2.1
  by_cases C : (0 ≤ a1 ∧ a1 < M 98 1) ∧ (0 ≤ a2 ∧ a2 < M 98 0)
  · have g := h.2.1.2 a1.toNat (by omega)
    have r2 : hR_get M 12 a1 2 = M 98 (82 + 3 * a1.toNat) := by rw [hG_12 hT (by omega) (by decide)]; exact g.2.1
    have jx : (w32 (w32 (80 + w32 (3 * a1)) + 2)).toNat = 82 + 3 * a1.toNat := by rw [w32_id (x := 3 * a1) (by omega), w32_id (x := 80 + 3 * a1) (by omega), w32_id (by omega)]; omega
    obtain ⟨S, hS⟩ : ∃ x : Int, x = M 98 (82 + 3 * a1.toNat) := ⟨_, rfl⟩
    rw [← hS] at r2
    have hS2 : 0 ≤ S ∧ S ≤ 16383 := by rw [hS]; exact g.2.2
    obtain ⟨t1, t2, t3⟩ := hs_bits hS2 (show 0 ≤ a2 ∧ a2 ≤ 13 by omega)
    obtain ⟨N, hN⟩ : ∃ x : Int, x = zbxor S (zbshl 1 a2) := ⟨_, rfl⟩
    rw [← hN] at t1 t2 t3
    by_cases D : (zband (zbshr S a2) 1 = 1 ∧ a3 = 1) ∨ (¬ zband (zbshr S a2) 1 = 1 ∧ a3 = 0)
    · have e1 : hf_157_8 M a1 a2 a3 = (-3, M) := by
        unfold hf_157_8; simp only [hq_174, hq_175, hq_171, hq_172, hq_170, hq_169, hq_178, hq_19, hq_has, hq_173, r2]
        (repeat' split) <;> first | omega | rfl
      rw [e1]; dsimp only
      have e2 : hf_271_97 M a1 a2 a3 = (-3, M) := by
        unfold hf_271_97; simp only [hq_182_0 hB, hq_182_1 hB, hq_182_2 hB, hq_182_3 hB, hq_182_4 hB, hq_182_5 hB, hq_185, hq_184, hq_180, hq_197, hq_198 hB, hq_200 hB, hq_252, jx, ← hS]
        (repeat' split) <;> first | omega | rfl
      rw [e2]; exact ⟨rfl, h⟩
    · have e1 : hf_157_8 M a1 a2 a3 = (1, zput M 13 (3 * a1.toNat + 2) N) := by
        have es : ∀ x, hR_set M 12 a1 2 x = zput M 13 (3 * a1.toNat + 2) x := fun x => by rw [hS_12 hT (by omega) (by decide)]; rfl
        unfold hf_157_8; simp only [hq_174, hq_175, hq_171, hq_172, hq_170, hq_169, hq_178, hq_19, hq_has, hq_173, r2, es, ← hN]
        (repeat' split) <;> first | omega | rfl
      rw [e1]; dsimp only
      obtain ⟨X, hXe⟩ : ∃ X, X = zput M 13 (3 * a1.toNat + 2) N := ⟨_, rfl⟩
      rw [← hXe]
      have hX : X 98 = M 98 := by rw [hXe]; rfl
      have hBX : hBd X := hB.same hX
      have e2 : hf_271_97 X a1 a2 a3 = (1, zput X 98 (82 + 3 * a1.toNat) N) := by
        unfold hf_271_97; simp only [hq_182_0 hBX, hq_182_1 hBX, hq_182_2 hBX, hq_182_3 hBX, hq_182_4 hBX, hq_182_5 hBX, hq_185, hq_184, hq_180, hq_197, hq_198 hBX, hq_200 hBX, hq_252, jx, hX, ← hS]
        by_cases B : zband (zbshr S a2) 1 = 1
        · rw [← t1 B]; (repeat' split) <;> first | omega | rfl
        · rw [← t2 B]; (repeat' split) <;> first | omega | rfl
      rw [e2, hXe]; dsimp only
      refine ⟨rfl, hHs.t1 h rfl rfl rfl rfl rfl rfl rfl rfl rfl rfl rfl rfl (fun j h1 h2 => ?_) ⟨?_, fun i hi => ?_⟩ (by rw [qput_nk (by omega)]; exact Int.le_refl _)⟩
      · rw [qput_nk (by omega)]; rfl
      · show M 12 3 = (zput (zput M 13 (3 * a1.toNat + 2) N) 98 (82 + 3 * a1.toNat) N) 98 1
        rw [qput_nk (by omega)]; exact k1
      · obtain ⟨q1, q2, q3⟩ := h.2.1.2 i hi
        have q1 : M 13 (3 * i) = M 98 (80 + 3 * i) := q1
        have q2 : M 13 (3 * i + 2) = M 98 (82 + 3 * i) := q2
        refine ⟨?_, ?_, ?_⟩ <;> (simp only [zput_same, zput_oth (show (13 : Nat) ≠ 98 by decide), zput_oth (show (98 : Nat) ≠ 13 by decide), hup]; (repeat' split) <;> omega)
  · skip
    have e1 : hf_157_8 M a1 a2 a3 = (-2, M) := by
      unfold hf_157_8; simp only [hq_174, hq_175, hq_171, hq_172, hq_170, hq_169, hq_178, hq_19, hq_has, hq_173]
      (repeat' split) <;> first | omega | rfl
    rw [e1]; dsimp only
    have e2 : hf_271_97 M a1 a2 a3 = (-2, M) := by
      unfold hf_271_97; simp only [hq_182_0 hB, hq_182_1 hB, hq_182_2 hB, hq_182_3 hB, hq_182_4 hB, hq_182_5 hB, hq_185, hq_184, hq_180, hq_197, hq_198 hB, hq_200 hB, hq_252, Int.reduceToNat]
      (repeat' split) <;> first | omega | rfl
    rw [e2]; exact ⟨rfl, h⟩
end HL
