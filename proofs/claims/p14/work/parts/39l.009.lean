section HL
variable {M : zM}
theorem hm_138 (h : hHs M 9 (M 98)) (hT : hTb M) (hB : hBd M) {a1 a2 : Int} : hf_138_8 M a1 a2 = hf_210_97 M a1 a2 := by
  have k4 : M 18 3 = M 98 4 := h.2.2.2.2.1.1
  have b4 := hB.2.2.2.2.1
  unfold hf_138_8 hf_210_97
  simp only [hq_174, hq_175, hq_171, hq_172, hq_170, hq_169, hq_178, hq_19, hq_has, hq_173, hq_182_0 hB, hq_182_1 hB, hq_182_2 hB, hq_182_3 hB, hq_182_4 hB, hq_182_5 hB, hq_185, hq_184, hq_180, hq_197, hq_198 hB, hq_200 hB, hq_252]
  by_cases C : (0 ≤ a1 ∧ a1 < M 98 4) ∧ (0 ≤ a2 ∧ a2 ≤ 7)
  · have e : hR_get M 18 a1 a2 = hf_194_97 M a1 a2 := by rw [hrA h hT (by omega) (by omega), hv_194 (by omega) (by omega)]
    rw [e, k4]
  · (repeat' split) <;> first | omega | rfl
end HL
