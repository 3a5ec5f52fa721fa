section HL
variable {M : zM}
theorem hm_124 (h : hHs M 9 (M 98)) (hT : hTb M) (hB : hBd M) {a1 : Int} : (hf_124_8 M a1).1 = (hf_188_97 (hf_124_8 M a1).2 a1).1 ∧ hHs (hf_188_97 (hf_124_8 M a1).2 a1).2 9 ((hf_188_97 (hf_124_8 M a1).2 a1).2 98) := by
  have k1 : M 12 3 = M 98 1 := h.2.1.1
  have b1 := hB.2.1
  by_cases C : (0 ≤ a1 ∧ a1 ≤ 9999)
  · by_cases hf : M 98 1 < 20
    · have e1 : hf_124_8 M a1 = (M 98 1, zput (zput (zput (zput M 12 3 (M 98 1 + 1)) 13 (3 * (M 98 1).toNat + 0) a1) 13 (3 * (M 98 1).toNat + 1) (-1)) 13 (3 * (M 98 1).toNat + 2) 0) := by
        have eo : hR_open M 12 = (M 98 1, zput M 12 3 (M 98 1 + 1)) := by rw [hO_12 hT (by omega), k1]
        unfold hf_124_8; simp only [hq_174, hq_175, hq_171, hq_172, hq_170, hq_169, hq_178, hq_19, hq_has, hq_173, eo]
        (repeat' split) <;> first | omega | (rw [hS_12 (hTb.p3 hT) (by omega) (by decide), hS_12 (hTb.pc (hTb.p3 hT) (by decide)) (by omega) (by decide), hS_12 (hTb.pc (hTb.pc (hTb.p3 hT) (by decide)) (by decide)) (by omega) (by decide)] <;> rfl)
      rw [e1]; dsimp only
      obtain ⟨X, hXe⟩ : ∃ X, X = zput (zput (zput (zput M 12 3 (M 98 1 + 1)) 13 (3 * (M 98 1).toNat + 0) a1) 13 (3 * (M 98 1).toNat + 1) (-1)) 13 (3 * (M 98 1).toNat + 2) 0 := ⟨_, rfl⟩
      rw [← hXe]
      have hX : X 98 = M 98 := by rw [hXe]; rfl
      have hBX : hBd X := hB.same hX
      have j0 : w32 (80 + w32 (3 * M 98 1)) = 80 + 3 * M 98 1 := by rw [w32_id (x := 3 * M 98 1) (by omega), w32_id (by omega)]
      have n0 : (80 + 3 * M 98 1 : Int).toNat = 80 + (3 * (M 98 1).toNat + 0) := by omega
      have j1 : w32 (80 + 3 * M 98 1 + 1) = 80 + 3 * M 98 1 + 1 := w32_id (by omega)
      have n1 : (80 + 3 * M 98 1 + 1 : Int).toNat = 80 + (3 * (M 98 1).toNat + 1) := by omega
      have j2 : w32 (80 + 3 * M 98 1 + 2) = 80 + 3 * M 98 1 + 2 := w32_id (by omega)
      have n2 : (80 + 3 * M 98 1 + 2 : Int).toNat = 80 + (3 * (M 98 1).toNat + 2) := by omega
      have e3 : (zput (zput (zput X 98 (80 + (3 * (M 98 1).toNat + 0)) a1) 98 (80 + (3 * (M 98 1).toNat + 1)) (-1)) 98 (80 + (3 * (M 98 1).toNat + 2)) 0) 98 1 = M 98 1 := by rw [qput_nk (by omega), qput_nk (by omega), qput_nk (by omega)]; exact congrFun hX 1
      have e5 := hN183 (M := zput (zput (zput X 98 (80 + (3 * (M 98 1).toNat + 0)) a1) 98 (80 + (3 * (M 98 1).toNat + 1)) (-1)) 98 (80 + (3 * (M 98 1).toNat + 2)) 0) (c := 1) (by show 0 ≤ (zput (zput (zput X 98 (80 + (3 * (M 98 1).toNat + 0)) a1) 98 (80 + (3 * (M 98 1).toNat + 1)) (-1)) 98 (80 + (3 * (M 98 1).toNat + 2)) 0) 98 1 ∧ (zput (zput (zput X 98 (80 + (3 * (M 98 1).toNat + 0)) a1) 98 (80 + (3 * (M 98 1).toNat + 1)) (-1)) 98 (80 + (3 * (M 98 1).toNat + 2)) 0) 98 1 < 300; rw [e3]; omega)
      simp only [Int.reduceToNat, e3] at e5
      have e2 : hf_188_97 X a1 = (M 98 1, zput (zput (zput (zput X 98 (80 + (3 * (M 98 1).toNat + 0)) a1) 98 (80 + (3 * (M 98 1).toNat + 1)) (-1)) 98 (80 + (3 * (M 98 1).toNat + 2)) 0) 98 1 (M 98 1 + 1)) := by
        unfold hf_188_97; simp only [hq_182_0 hBX, hq_182_1 hBX, hq_182_2 hBX, hq_182_3 hBX, hq_182_4 hBX, hq_182_5 hBX, hq_185, hq_184, hq_180, hq_197, hq_198 hBX, hq_200 hBX, hq_252, hX, Int.reduceToNat, j0, n0, j1, n1, j2, n2]
        (repeat' split) <;> first | omega | (rw [e5])
      rw [e2, hXe]; dsimp only
      refine ⟨rfl, hHs.t1 h rfl rfl rfl rfl rfl rfl rfl rfl rfl rfl rfl rfl (fun j h1 h2 => ?_) ?_ (by rw [qput_eq]; omega)⟩
      · rw [qput_nk h1, qput_nk (by omega), qput_nk (by omega), qput_nk (by omega)]; rfl
      · refine ⟨rfl, fun i hi => ?_⟩
        obtain ⟨q1, q2, q3⟩ := h.2.1.2 i hi
        have q1 : M 13 (3 * i) = M 98 (80 + 3 * i) := q1
        have q2 : M 13 (3 * i + 2) = M 98 (82 + 3 * i) := q2
        refine ⟨?_, ?_, ?_⟩ <;> (simp only [zput_same, zput_oth (show (98 : Nat) ≠ 97 by decide), zput_oth (show (13 : Nat) ≠ 98 by decide), zput_oth (show (13 : Nat) ≠ 97 by decide), zput_oth (show (13 : Nat) ≠ 12 by decide), zput_oth (show (98 : Nat) ≠ 12 by decide), zput_oth (show (98 : Nat) ≠ 13 by decide), hup]; (repeat' split) <;> omega)
    · have e1 : hf_124_8 M a1 = (-4, M) := by
        have eo : hR_open M 12 = (-4, M) := hF_12 hT (by omega)
        unfold hf_124_8; simp only [hq_174, hq_175, hq_171, hq_172, hq_170, hq_169, hq_178, hq_19, hq_has, hq_173, eo]
        (repeat' split) <;> first | omega | ((repeat rw [hS_neg (by decide)]) <;> rfl)
      rw [e1]; dsimp only
      have e2 : hf_188_97 M a1 = (-4, M) := by
        unfold hf_188_97; simp only [hq_182_0 hB, hq_182_1 hB, hq_182_2 hB, hq_182_3 hB, hq_182_4 hB, hq_182_5 hB, hq_185, hq_184, hq_180, hq_197, hq_198 hB, hq_200 hB, hq_252, Int.reduceToNat]
        (repeat' split) <;> first | omega | rfl
      rw [e2]; exact ⟨rfl, h⟩
  · have e1 : hf_124_8 M a1 = (-2, M) := by
      unfold hf_124_8; simp only [hq_174, hq_175, hq_171, hq_172, hq_170, hq_169, hq_178, hq_19, hq_has, hq_173]
      (repeat' split) <;> first | omega | rfl
    rw [e1]; dsimp only
    have e2 : hf_188_97 M a1 = (-2, M) := by
      unfold hf_188_97; simp only [hq_182_0 hB, hq_182_1 hB, hq_182_2 hB, hq_182_3 hB, hq_182_4 hB, hq_182_5 hB, hq_185, hq_184, hq_180, hq_197, hq_198 hB, hq_200 hB, hq_252, Int.reduceToNat]
      (repeat' split) <;> first | omega | rfl
    rw [e2]; exact ⟨rfl, h⟩
end HL
