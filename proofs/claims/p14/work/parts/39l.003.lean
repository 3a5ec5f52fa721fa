section HL
variable {M : zM}
theorem hm_123 (h : hHs M 9 (M 98)) (hT : hTb M) (hB : hBd M) {a1 a2 a3 a4 : Int} : (hf_123_8 M a1 a2 a3 a4).1 = (hf_187_97 (hf_123_8 M a1 a2 a3 a4).2 a1 a2 a3 a4).1 ∧ hHs (hf_187_97 (hf_123_8 M a1 a2 a3 a4).2 a1 a2 a3 a4).2 9 ((hf_187_97 (hf_123_8 M a1 a2 a3 a4).2 a1 a2 a3 a4).2 98) := by
  have k0 : M 10 3 = M 98 0 := h.1.1
  have b0 := hB.1
  by_cases C : (1 ≤ a1 ∧ a1 ≤ 60) ∧ (0 ≤ a2 ∧ a2 ≤ w32 (zbshl 1 (M 98 0) - 1)) ∧ (1 ≤ a3 ∧ a3 ≤ 7) ∧ (0 ≤ a4 ∧ a4 ≤ 100)
  · by_cases hf : M 98 0 < 14
    · have e1 : hf_123_8 M a1 a2 a3 a4 = (M 98 0, zput (zput (zput (zput (zput M 10 3 (M 98 0 + 1)) 11 (4 * (M 98 0).toNat + 0) a1) 11 (4 * (M 98 0).toNat + 1) a2) 11 (4 * (M 98 0).toNat + 2) a3) 11 (4 * (M 98 0).toNat + 3) a4) := by
        have eo : hR_open M 10 = (M 98 0, zput M 10 3 (M 98 0 + 1)) := by rw [hO_10 hT (by omega), k0]
        unfold hf_123_8 hf_177_8 hR_size; simp only [hq_174, hq_175, hq_171, hq_172, hq_170, hq_169, hq_178, hq_19, hq_has, hq_173, eo, k0]
        (repeat' split) <;> first | omega | (rw [hS_10 (hTb.p3 hT) (by omega) (by decide), hS_10 (hTb.pc (hTb.p3 hT) (by decide)) (by omega) (by decide), hS_10 (hTb.pc (hTb.pc (hTb.p3 hT) (by decide)) (by decide)) (by omega) (by decide), hS_10 (hTb.pc (hTb.pc (hTb.pc (hTb.p3 hT) (by decide)) (by decide)) (by decide)) (by omega) (by decide)] <;> rfl)
      rw [e1]; dsimp only
      obtain ⟨X, hXe⟩ : ∃ X, X = zput (zput (zput (zput (zput M 10 3 (M 98 0 + 1)) 11 (4 * (M 98 0).toNat + 0) a1) 11 (4 * (M 98 0).toNat + 1) a2) 11 (4 * (M 98 0).toNat + 2) a3) 11 (4 * (M 98 0).toNat + 3) a4 := ⟨_, rfl⟩
      rw [← hXe]
      have hX : X 98 = M 98 := by rw [hXe]; rfl
      have hBX : hBd X := hB.same hX
      have j0 : w32 (20 + w32 (4 * M 98 0)) = 20 + 4 * M 98 0 := by rw [w32_id (x := 4 * M 98 0) (by omega), w32_id (by omega)]
      have n0 : (20 + 4 * M 98 0 : Int).toNat = 20 + (4 * (M 98 0).toNat + 0) := by omega
      have j1 : w32 (20 + 4 * M 98 0 + 1) = 20 + 4 * M 98 0 + 1 := w32_id (by omega)
      have n1 : (20 + 4 * M 98 0 + 1 : Int).toNat = 20 + (4 * (M 98 0).toNat + 1) := by omega
      have j2 : w32 (20 + 4 * M 98 0 + 2) = 20 + 4 * M 98 0 + 2 := w32_id (by omega)
      have n2 : (20 + 4 * M 98 0 + 2 : Int).toNat = 20 + (4 * (M 98 0).toNat + 2) := by omega
      have j3 : w32 (20 + 4 * M 98 0 + 3) = 20 + 4 * M 98 0 + 3 := w32_id (by omega)
      have n3 : (20 + 4 * M 98 0 + 3 : Int).toNat = 20 + (4 * (M 98 0).toNat + 3) := by omega
      have e3 : (zput (zput (zput (zput (zput X 98 (20 + (4 * (M 98 0).toNat + 0)) a1) 98 (20 + (4 * (M 98 0).toNat + 1)) a2) 98 (20 + (4 * (M 98 0).toNat + 2)) a3) 98 (20 + (4 * (M 98 0).toNat + 3)) a4) 97 31 (-1)) 98 0 = M 98 0 := by rw [qput_ne (by decide), qput_nk (by omega), qput_nk (by omega), qput_nk (by omega), qput_nk (by omega)]; exact congrFun hX 0
      have e5 := hN183 (M := zput (zput (zput (zput (zput X 98 (20 + (4 * (M 98 0).toNat + 0)) a1) 98 (20 + (4 * (M 98 0).toNat + 1)) a2) 98 (20 + (4 * (M 98 0).toNat + 2)) a3) 98 (20 + (4 * (M 98 0).toNat + 3)) a4) 97 31 (-1)) (c := 0) (by show 0 ≤ (zput (zput (zput (zput (zput X 98 (20 + (4 * (M 98 0).toNat + 0)) a1) 98 (20 + (4 * (M 98 0).toNat + 1)) a2) 98 (20 + (4 * (M 98 0).toNat + 2)) a3) 98 (20 + (4 * (M 98 0).toNat + 3)) a4) 97 31 (-1)) 98 0 ∧ (zput (zput (zput (zput (zput X 98 (20 + (4 * (M 98 0).toNat + 0)) a1) 98 (20 + (4 * (M 98 0).toNat + 1)) a2) 98 (20 + (4 * (M 98 0).toNat + 2)) a3) 98 (20 + (4 * (M 98 0).toNat + 3)) a4) 97 31 (-1)) 98 0 < 300; rw [e3]; omega)
      simp only [Int.reduceToNat, e3] at e5
      have e2 : hf_187_97 X a1 a2 a3 a4 = (M 98 0, zput (zput (zput (zput (zput (zput X 98 (20 + (4 * (M 98 0).toNat + 0)) a1) 98 (20 + (4 * (M 98 0).toNat + 1)) a2) 98 (20 + (4 * (M 98 0).toNat + 2)) a3) 98 (20 + (4 * (M 98 0).toNat + 3)) a4) 97 31 (-1)) 98 0 (M 98 0 + 1)) := by
        unfold hf_187_97; simp only [hq_182_0 hBX, hq_182_1 hBX, hq_182_2 hBX, hq_182_3 hBX, hq_182_4 hBX, hq_182_5 hBX, hq_185, hq_184, hq_180, hq_197, hq_198 hBX, hq_200 hBX, hq_252, hX, Int.reduceToNat, j0, n0, j1, n1, j2, n2, j3, n3]
        (repeat' split) <;> first | omega | (rw [e5])
      rw [e2, hXe]; dsimp only
      refine ⟨rfl, hHs.t0 h rfl rfl rfl rfl rfl rfl rfl rfl rfl rfl rfl rfl (fun j h1 h2 => ?_) ?_⟩
      · rw [qput_nk h1, qput_ne (by decide), qput_nk (by omega), qput_nk (by omega), qput_nk (by omega), qput_nk (by omega)]; rfl
      · refine ⟨rfl, fun j hj => ?_⟩
        · have q := h.1.2 j hj
          simp only [zput_same, zput_oth (show (98 : Nat) ≠ 97 by decide), zput_oth (show (11 : Nat) ≠ 98 by decide), zput_oth (show (11 : Nat) ≠ 97 by decide), zput_oth (show (11 : Nat) ≠ 10 by decide), zput_oth (show (98 : Nat) ≠ 10 by decide), zput_oth (show (98 : Nat) ≠ 11 by decide), hup]; (repeat' split) <;> omega
    · have e1 : hf_123_8 M a1 a2 a3 a4 = (-4, M) := by
        have eo : hR_open M 10 = (-4, M) := hF_10 hT (by omega)
        unfold hf_123_8 hf_177_8 hR_size; simp only [hq_174, hq_175, hq_171, hq_172, hq_170, hq_169, hq_178, hq_19, hq_has, hq_173, eo, k0]
        (repeat' split) <;> first | omega | ((repeat rw [hS_neg (by decide)]) <;> rfl)
      rw [e1]; dsimp only
      have e2 : hf_187_97 M a1 a2 a3 a4 = (-4, M) := by
        unfold hf_187_97; simp only [hq_182_0 hB, hq_182_1 hB, hq_182_2 hB, hq_182_3 hB, hq_182_4 hB, hq_182_5 hB, hq_185, hq_184, hq_180, hq_197, hq_198 hB, hq_200 hB, hq_252, Int.reduceToNat]
        (repeat' split) <;> first | omega | rfl
      rw [e2]; exact ⟨rfl, h⟩
  · have e1 : hf_123_8 M a1 a2 a3 a4 = (-2, M) := by
      unfold hf_123_8 hf_177_8 hR_size; simp only [hq_174, hq_175, hq_171, hq_172, hq_170, hq_169, hq_178, hq_19, hq_has, hq_173, k0]
      (repeat' split) <;> first | omega | rfl
    rw [e1]; dsimp only
    have e2 : hf_187_97 M a1 a2 a3 a4 = (-2, M) := by
      unfold hf_187_97; simp only [hq_182_0 hB, hq_182_1 hB, hq_182_2 hB, hq_182_3 hB, hq_182_4 hB, hq_182_5 hB, hq_185, hq_184, hq_180, hq_197, hq_198 hB, hq_200 hB, hq_252, Int.reduceToNat]
      (repeat' split) <;> first | omega | rfl
    rw [e2]; exact ⟨rfl, h⟩
end HL
