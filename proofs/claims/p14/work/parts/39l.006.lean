section HL
variable {M : zM}
theorem hm_137 (h : hHs M 9 (M 98)) (hT : hTb M) (hB : hBd M) {a1 : Int} : (hf_137_8 M a1).1 = (hf_209_97 (hf_137_8 M a1).2 a1).1 ∧ hHs (hf_209_97 (hf_137_8 M a1).2 a1).2 9 ((hf_209_97 (hf_137_8 M a1).2 a1).2 98) := by
  have k7 : M 9 8 = M 98 7 := h.2.2.2.2.2.2.2.1.1
  have b7 : 0 ≤ M 98 7 ∧ M 98 7 ≤ 1000 := h.2.2.2.2.2.2.2.1.2.2
  have k8 : M 9 9 = M 98 8 := h.2.2.2.2.2.2.2.1.2.1
  by_cases C : 0 ≤ a1 ∧ a1 ≤ 1000
  · have e1 : hf_137_8 M a1 = (M 98 7, zput M 9 8 a1) := by
      unfold hf_137_8; simp only [hq_174, hq_175, hq_171, hq_172, hq_170, hq_169, hq_178, hq_19, hq_has, hq_173]
      (repeat' split) <;> first | omega | rw [k7]
    rw [e1]; dsimp only
    have e2 : hf_209_97 (zput M 9 8 a1) a1 = (M 98 7, zput (zput M 9 8 a1) 98 7 a1) := by
      unfold hf_209_97; simp only [hq_180]
      (repeat' split) <;> first | omega | rfl
    rw [e2]; dsimp only
    refine ⟨rfl, hHs.t7 h (fun r h1 h2 => ?_) (fun j hj => ?_) ⟨rfl, k8, C.1, C.2⟩⟩
    · rw [zput_oth (by omega), zput_oth (by omega)]
    · rw [qput_nk (by omega)]; rfl
  · have e1 : hf_137_8 M a1 = (-2, M) := by
      unfold hf_137_8; simp only [hq_174, hq_175, hq_171, hq_172, hq_170, hq_169, hq_178, hq_19, hq_has, hq_173]
      (repeat' split) <;> first | omega | rfl
    rw [e1]; dsimp only
    have e2 : hf_209_97 M a1 = (-2, M) := by
      unfold hf_209_97; simp only [hq_180]
      (repeat' split) <;> first | omega | rfl
    rw [e2]; exact ⟨rfl, h⟩
end HL
