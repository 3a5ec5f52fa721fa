section HL
variable {M : zM}
theorem hm_148 (h : hHs M 9 (M 98)) (hT : hTb M) (hB : hBd M) {a1 a2 : Int} (hL : ∀ t : Nat, t < 8 → 0 ≤ M 98 (3350 + 81 * t) ∧ M 98 (3350 + 81 * t) ≤ 80) : (hf_148_8 M a1 a2).1 = (hf_253_97 (hf_148_8 M a1 a2).2 a1 a2).1 ∧ hHs (hf_253_97 (hf_148_8 M a1 a2).2 a1 a2).2 9 ((hf_253_97 (hf_148_8 M a1 a2).2 a1 a2).2 98) := by
  by_cases C : 0 ≤ a1 ∧ a1 ≤ 7 ∧ 0 ≤ a2 ∧ a2 ≤ 127
  · have g := hL a1.toNat (by omega)
    have r0 : hR_get M 20 a1 0 = M 98 (3350 + 81 * a1.toNat) := by
      rw [hG_20 hT (by omega) (by decide), show (81 * a1.toNat + (0 : Int).toNat) = 81 * a1.toNat by simp only [Int.reduceToNat]; omega]; exact h.2.2.2.2.2.1 _ (by omega)
    have jx : (w32 (3350 + w32 (81 * a1))).toNat = 3350 + 81 * a1.toNat := by rw [w32_id (x := 81 * a1) (by omega), w32_id (by omega)]; omega
    obtain ⟨Ln, hLn9⟩ : ∃ x : Int, x = M 98 (3350 + 81 * a1.toNat) := ⟨_, rfl⟩
    rw [← hLn9] at g r0
    by_cases D : Ln < 80
    · have e1 : hf_148_8 M a1 a2 = (Ln + 1, zput (zput M 21 (81 * a1.toNat + (Ln.toNat + 1)) a2) 21 (81 * a1.toNat + 0) (Ln + 1)) := by
        unfold hf_148_8; simp only [hq_174, hq_175, hq_171, hq_172, hq_170, hq_169, hq_178, hq_19, hq_has, hq_173, r0]
        rw [w32_id (x := Ln + 1) (by omega), w32_id (x := 1 + Ln) (by omega)]
        have s1 : hR_set M 20 a1 (1 + Ln) a2 = zput M 21 (81 * a1.toNat + (Ln.toNat + 1)) a2 := by rw [hS_20 hT (by omega) (by omega), show (1 + Ln).toNat = Ln.toNat + 1 by omega]
        rw [s1]
        (repeat' split) <;> first | omega | (rw [hS_20 (hTb.pc hT (by decide)) (by omega) (by decide)] <;> rfl)
      rw [e1]; dsimp only
      obtain ⟨X, hXe⟩ : ∃ X, X = zput (zput M 21 (81 * a1.toNat + (Ln.toNat + 1)) a2) 21 (81 * a1.toNat + 0) (Ln + 1) := ⟨_, rfl⟩
      rw [← hXe]
      have hX : X 98 = M 98 := by rw [hXe]; rfl
      have jy : (w32 (w32 (3350 + w32 (81 * a1)) + (Ln + 1))).toNat = 3350 + (81 * a1.toNat + (Ln.toNat + 1)) := by rw [w32_id (x := 81 * a1) (by omega), w32_id (x := 3350 + 81 * a1) (by omega), w32_id (by omega)]; omega
      have e2 : hf_253_97 X a1 a2 = (Ln + 1, zput (zput X 98 (3350 + 81 * a1.toNat) (Ln + 1)) 98 (3350 + (81 * a1.toNat + (Ln.toNat + 1))) a2) := by
        unfold hf_253_97; simp only [hq_252, hq_180, jx, hX, ← hLn9]
        rw [w32_id (x := Ln + 1) (by omega), qput_eq, jy, qput_nk (show 3350 + 81 * a1.toNat ≠ 3350 + (81 * a1.toNat + (Ln.toNat + 1)) by omega), qput_eq]
        (repeat' split) <;> first | omega | rfl
      rw [e2, hXe]; dsimp only
      refine ⟨rfl, hHs.t5 h rfl rfl rfl rfl rfl rfl rfl rfl rfl rfl rfl rfl rfl (fun j h2 => ?_) (fun j hj => ?_)⟩
      · rw [qput_nk (by omega), qput_nk (by omega)]; rfl
      · have q := h.2.2.2.2.2.1 j hj
        simp only [zput_same, zput_oth (show (21 : Nat) ≠ 98 by decide), zput_oth (show (98 : Nat) ≠ 21 by decide), hup]; (repeat' split) <;> omega
    · have e1 : hf_148_8 M a1 a2 = (-4, M) := by
        unfold hf_148_8; simp only [hq_174, hq_175, hq_171, hq_172, hq_170, hq_169, hq_178, hq_19, hq_has, hq_173, r0]
        (repeat' split) <;> first | omega | rfl
      rw [e1]; dsimp only
      have e2 : hf_253_97 M a1 a2 = (-4, M) := by
        unfold hf_253_97; simp only [hq_252, hq_180, jx, ← hLn9]
        (repeat' split) <;> first | omega | rfl
      rw [e2]; exact ⟨rfl, h⟩
  · skip
    have e1 : hf_148_8 M a1 a2 = (-2, M) := by
      unfold hf_148_8; simp only [hq_174, hq_175, hq_171, hq_172, hq_170, hq_169, hq_178, hq_19, hq_has, hq_173]
      (repeat' split) <;> first | omega | rfl
    rw [e1]; dsimp only
    have e2 : hf_253_97 M a1 a2 = (-2, M) := by
      unfold hf_253_97; simp only [hq_252, hq_180]
      (repeat' split) <;> first | omega | rfl
    rw [e2]; exact ⟨rfl, h⟩
end HL
