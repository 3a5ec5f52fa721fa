section HL
variable {M : zM}
theorem hm_153 (h : hHs M 9 (M 98)) (hT : hTb M) (hB : hBd M) {a1 a2 : Int} : hHs (hf_258_97 (hf_153_8 M a1 a2).2 a1 a2).2 9 ((hf_258_97 (hf_153_8 M a1 a2).2 a1 a2).2 98) := by
  have b1 := hB.2.1
  have k1 : M 12 3 = M 98 1 := h.2.1.1
  have c1 : (hf_153_8 M a1 a2).2 = M ∨ ∃ (k : Nat) (v : Int), k % 3 = 1 ∧ (hf_153_8 M a1 a2).2 = zput M 13 k v := by
    by_cases C : 0 ≤ a1 ∧ a1 < M 12 3
    · have es : ∀ x, hR_set M 12 a1 1 x = zput M 13 (3 * a1.toNat + 1) x := fun x => by rw [hS_12 hT (by omega) (by decide)]; rfl
      unfold hf_153_8; simp only [hq_174, hq_175, hq_171, hq_172, hq_170, hq_169, hq_178, hq_19, hq_has, hq_173, hR_size, es]
      (repeat' split) <;> first | exact .inl rfl | exact .inr ⟨3 * a1.toNat + 1, _, by omega, rfl⟩
    · left; unfold hf_153_8; simp only [hq_174, hq_175, hq_171, hq_172, hq_170, hq_169, hq_178, hq_19, hq_has, hq_173]
      (repeat' split) <;> first | omega | rfl
  obtain ⟨X, hXe⟩ : ∃ X, X = (hf_153_8 M a1 a2).2 := ⟨_, rfl⟩
  rw [← hXe] at c1 ⊢
  have hX : X 98 = M 98 := by
    rcases c1 with c1 | ⟨k, v, -, c1⟩
    · rw [c1]
    · rw [c1]; exact zput_oth (by decide)
  have hBX : hBd X := hB.same hX
  refine hSt_fr h c1 ?_
  by_cases C : 0 ≤ a1 ∧ a1 < M 98 1
  · have jx : (w32 (w32 (80 + w32 (3 * a1)) + 1)).toNat = 81 + 3 * a1.toNat := by rw [w32_id (x := 3 * a1) (by omega), w32_id (x := 80 + 3 * a1) (by omega), w32_id (by omega)]; omega
    unfold hf_258_97; simp only [hq_182_0 hBX, hq_182_1 hBX, hq_182_2 hBX, hq_182_3 hBX, hq_182_4 hBX, hq_182_5 hBX, hq_185, hq_184, hq_180, hq_197, hq_198 hBX, hq_200 hBX, hq_252, jx]
    (repeat' split) <;> first | exact .inl rfl | exact .inr ⟨81 + 3 * a1.toNat, _, by omega, rfl⟩
  · left; unfold hf_258_97; simp only [hq_182_0 hBX, hq_182_1 hBX, hq_182_2 hBX, hq_182_3 hBX, hq_182_4 hBX, hq_182_5 hBX, hq_185, hq_184, hq_180, hq_197, hq_198 hBX, hq_200 hBX, hq_252, hX]
    (repeat' split) <;> first | omega | rfl
end HL
