section HL
variable {M : zM}
theorem hm_162 (h : hHs M 9 (M 98)) (hT : hTb M) (hB : hBd M) {a1 a2 : Int} : (hf_162_8 M a1 a2).1 = (hf_286_97 (hf_162_8 M a1 a2).2 a1 a2).1 ∧ hHs (hf_286_97 (hf_162_8 M a1 a2).2 a1 a2).2 9 ((hf_286_97 (hf_162_8 M a1 a2).2 a1 a2).2 98) := by
  have k6 : M 24 3 = M 98 6 := h.2.2.2.2.2.2.1.1
  have b6 := hB.2.2.2.2.2.2
  by_cases C : (0 ≤ a1 ∧ a1 ≤ 1000) ∧ (0 ≤ a2 ∧ a2 ≤ 1000)
  · by_cases hf : M 98 6 < 12
    · have e1 : hf_162_8 M a1 a2 = (M 98 6 + 1, zput (zput (zput M 24 3 (M 98 6 + 1)) 25 (2 * (M 98 6).toNat + 0) a1) 25 (2 * (M 98 6).toNat + 1) a2) := by
        have eo : hR_open M 24 = (M 98 6, zput M 24 3 (M 98 6 + 1)) := by rw [hO_24 hT (by omega), k6]
        unfold hf_162_8; simp only [hq_174, hq_175, hq_171, hq_172, hq_170, hq_169, hq_178, hq_19, hq_has, hq_173, eo]
        (repeat' split) <;> first | omega | (rw [hS_24 (hTb.p3 hT) (by omega) (by decide), hS_24 (hTb.pc (hTb.p3 hT) (by decide)) (by omega) (by decide), w32_id (by omega)] <;> rfl)
      rw [e1]; dsimp only
      obtain ⟨X, hXe⟩ : ∃ X, X = zput (zput (zput M 24 3 (M 98 6 + 1)) 25 (2 * (M 98 6).toNat + 0) a1) 25 (2 * (M 98 6).toNat + 1) a2 := ⟨_, rfl⟩
      rw [← hXe]
      have hX : X 98 = M 98 := by rw [hXe]; rfl
      have hBX : hBd X := hB.same hX
      have j0 : w32 (5640 + w32 (2 * M 98 6)) = 5640 + 2 * M 98 6 := by rw [w32_id (x := 2 * M 98 6) (by omega), w32_id (by omega)]
      have n0 : (5640 + 2 * M 98 6 : Int).toNat = 5640 + (2 * (M 98 6).toNat + 0) := by omega
      have j1 : w32 (5640 + 2 * M 98 6 + 1) = 5640 + 2 * M 98 6 + 1 := w32_id (by omega)
      have n1 : (5640 + 2 * M 98 6 + 1 : Int).toNat = 5640 + (2 * (M 98 6).toNat + 1) := by omega
      have z0 : zput X 98 (5640 + (2 * (M 98 6).toNat + 0)) a1 98 6 = M 98 6 := (qput_nk (by omega)).trans (congrFun hX 6)
      have e3 : (zput (zput X 98 (5640 + (2 * (M 98 6).toNat + 0)) a1) 98 (5640 + (2 * (M 98 6).toNat + 1)) a2) 98 6 = M 98 6 := by rw [qput_nk (by omega), qput_nk (by omega)]; exact congrFun hX 6
      have e5 := hN183 (M := zput (zput X 98 (5640 + (2 * (M 98 6).toNat + 0)) a1) 98 (5640 + (2 * (M 98 6).toNat + 1)) a2) (c := 6) (by show 0 ≤ (zput (zput X 98 (5640 + (2 * (M 98 6).toNat + 0)) a1) 98 (5640 + (2 * (M 98 6).toNat + 1)) a2) 98 6 ∧ (zput (zput X 98 (5640 + (2 * (M 98 6).toNat + 0)) a1) 98 (5640 + (2 * (M 98 6).toNat + 1)) a2) 98 6 < 300; rw [e3]; omega)
      simp only [Int.reduceToNat, e3] at e5
      have e2 : hf_286_97 X a1 a2 = (M 98 6 + 1, zput (zput (zput X 98 (5640 + (2 * (M 98 6).toNat + 0)) a1) 98 (5640 + (2 * (M 98 6).toNat + 1)) a2) 98 6 (M 98 6 + 1)) := by
        unfold hf_286_97; simp only [hq_182_0 hBX, hq_182_1 hBX, hq_182_2 hBX, hq_182_3 hBX, hq_182_4 hBX, hq_182_5 hBX, hq_185, hq_184, hq_180, hq_197, hq_198 hBX, hq_200 hBX, hq_252, hX, Int.reduceToNat, j0, n0, j1, n1, z0]
        (repeat' split) <;> first | omega | (rw [e5]; rw [w32_id (by omega)])
      rw [e2, hXe]; dsimp only
      refine ⟨rfl, hHs.t6 h rfl rfl rfl rfl rfl rfl rfl rfl rfl rfl rfl rfl (fun j h1 h2 => ?_) ?_⟩
      · rw [qput_nk h1, qput_nk (by omega), qput_nk (by omega)]; rfl
      · refine ⟨rfl, fun j hj => ?_⟩
        · have q := h.2.2.2.2.2.2.1.2 j hj
          simp only [zput_same, zput_oth (show (98 : Nat) ≠ 97 by decide), zput_oth (show (25 : Nat) ≠ 98 by decide), zput_oth (show (25 : Nat) ≠ 97 by decide), zput_oth (show (25 : Nat) ≠ 24 by decide), zput_oth (show (98 : Nat) ≠ 24 by decide), zput_oth (show (98 : Nat) ≠ 25 by decide), hup]; (repeat' split) <;> omega
    · have e1 : hf_162_8 M a1 a2 = (-4, M) := by
        have eo : hR_open M 24 = (-4, M) := hF_24 hT (by omega)
        unfold hf_162_8; simp only [hq_174, hq_175, hq_171, hq_172, hq_170, hq_169, hq_178, hq_19, hq_has, hq_173, eo]
        (repeat' split) <;> first | omega | (rename_i hq; exact absurd trivial hq) | ((repeat rw [hS_neg (by decide)]) <;> rfl)
      rw [e1]; dsimp only
      have e2 : hf_286_97 M a1 a2 = (-4, M) := by
        unfold hf_286_97; simp only [hq_182_0 hB, hq_182_1 hB, hq_182_2 hB, hq_182_3 hB, hq_182_4 hB, hq_182_5 hB, hq_185, hq_184, hq_180, hq_197, hq_198 hB, hq_200 hB, hq_252, Int.reduceToNat]
        (repeat' split) <;> first | omega | rfl
      rw [e2]; exact ⟨rfl, h⟩
  · have e1 : hf_162_8 M a1 a2 = (-2, M) := by
      unfold hf_162_8; simp only [hq_174, hq_175, hq_171, hq_172, hq_170, hq_169, hq_178, hq_19, hq_has, hq_173]
      (repeat' split) <;> first | omega | rfl
    rw [e1]; dsimp only
    have e2 : hf_286_97 M a1 a2 = (-2, M) := by
      unfold hf_286_97; simp only [hq_182_0 hB, hq_182_1 hB, hq_182_2 hB, hq_182_3 hB, hq_182_4 hB, hq_182_5 hB, hq_185, hq_184, hq_180, hq_197, hq_198 hB, hq_200 hB, hq_252, Int.reduceToNat]
      (repeat' split) <;> first | omega | rfl
    rw [e2]; exact ⟨rfl, h⟩
end HL
