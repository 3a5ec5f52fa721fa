section HL
variable {M : zM}
theorem hm_163 (h : hHs M 9 (M 98)) : (hf_163_8 M).1 = (hf_287_97 (hf_163_8 M).2).1 ∧ hHs (hf_287_97 (hf_163_8 M).2).2 9 ((hf_287_97 (hf_163_8 M).2).2 98) := by
  have k6 : M 24 3 = M 98 6 := h.2.2.2.2.2.2.1.1
  refine ⟨k6, hHs.t6 h rfl rfl rfl rfl rfl rfl rfl rfl rfl rfl rfl rfl (fun j h1 h2 => ?_) ⟨rfl, fun j hj => ?_⟩⟩
  · show (zput (zput M 24 3 0) 98 6 0) 98 j = M 98 j
    rw [qput_nk h1]; rfl
  · show (zput (zput M 24 3 0) 98 6 0) 25 j = (zput (zput M 24 3 0) 98 6 0) 98 (5640 + j)
    rw [qput_ne (by decide), qput_ne (by decide), qput_nk (by omega), qput_ne (by decide)]; exact h.2.2.2.2.2.2.1.2 j hj
end HL
