section HL
variable {M : zM}
theorem hm_126 (h : hHs M 9 (M 98)) (hT : hTb M) (hB : hBd M) {a1 a2 a3 a4 : Int} : (hf_126_8 M a1 a2 a3 a4).1 = (hf_190_97 (hf_126_8 M a1 a2 a3 a4).2 a1 a2 a3 a4).1 ∧ hHs (hf_190_97 (hf_126_8 M a1 a2 a3 a4).2 a1 a2 a3 a4).2 9 ((hf_190_97 (hf_126_8 M a1 a2 a3 a4).2 a1 a2 a3 a4).2 98) := by
  have k2 : M 14 3 = M 98 2 := h.2.2.1.1
  have b2 := hB.2.2.1
  have k3 : M 16 3 = M 98 3 := h.2.2.2.1.1
  have b3 := hB.2.2.2.1
  by_cases C : (0 ≤ a1 ∧ a1 < M 98 2) ∧ (0 ≤ a2 ∧ a2 ≤ 9999) ∧ (0 ≤ a3 ∧ a3 ≤ 1023) ∧ (0 ≤ a4 ∧ a4 ≤ 1023)
  · by_cases hf : M 98 3 < 40
    · have e1 : hf_126_8 M a1 a2 a3 a4 = (M 98 3, zput (zput (zput (zput (zput (zput M 16 3 (M 98 3 + 1)) 17 (5 * (M 98 3).toNat + 0) a1) 17 (5 * (M 98 3).toNat + 1) a2) 17 (5 * (M 98 3).toNat + 2) a3) 17 (5 * (M 98 3).toNat + 3) a4) 17 (5 * (M 98 3).toNat + 4) 0) := by
        have eo : hR_open M 16 = (M 98 3, zput M 16 3 (M 98 3 + 1)) := by rw [hO_16 hT (by omega), k3]
        unfold hf_126_8; simp only [hq_174, hq_175, hq_171, hq_172, hq_170, hq_169, hq_178, hq_19, hq_has, hq_173, eo]
        (repeat' split) <;> first | omega | (rw [hS_16 (hTb.p3 hT) (by omega) (by decide), hS_16 (hTb.pc (hTb.p3 hT) (by decide)) (by omega) (by decide), hS_16 (hTb.pc (hTb.pc (hTb.p3 hT) (by decide)) (by decide)) (by omega) (by decide), hS_16 (hTb.pc (hTb.pc (hTb.pc (hTb.p3 hT) (by decide)) (by decide)) (by decide)) (by omega) (by decide), hS_16 (hTb.pc (hTb.pc (hTb.pc (hTb.pc (hTb.p3 hT) (by decide)) (by decide)) (by decide)) (by decide)) (by omega) (by decide)] <;> rfl)
      rw [e1]; dsimp only
      obtain ⟨X, hXe⟩ : ∃ X, X = zput (zput (zput (zput (zput (zput M 16 3 (M 98 3 + 1)) 17 (5 * (M 98 3).toNat + 0) a1) 17 (5 * (M 98 3).toNat + 1) a2) 17 (5 * (M 98 3).toNat + 2) a3) 17 (5 * (M 98 3).toNat + 3) a4) 17 (5 * (M 98 3).toNat + 4) 0 := ⟨_, rfl⟩
      rw [← hXe]
      have hX : X 98 = M 98 := by rw [hXe]; rfl
      have hBX : hBd X := hB.same hX
      have j0 : w32 (150 + w32 (5 * M 98 3)) = 150 + 5 * M 98 3 := by rw [w32_id (x := 5 * M 98 3) (by omega), w32_id (by omega)]
      have n0 : (150 + 5 * M 98 3 : Int).toNat = 150 + (5 * (M 98 3).toNat + 0) := by omega
      have j1 : w32 (150 + 5 * M 98 3 + 1) = 150 + 5 * M 98 3 + 1 := w32_id (by omega)
      have n1 : (150 + 5 * M 98 3 + 1 : Int).toNat = 150 + (5 * (M 98 3).toNat + 1) := by omega
      have j2 : w32 (150 + 5 * M 98 3 + 2) = 150 + 5 * M 98 3 + 2 := w32_id (by omega)
      have n2 : (150 + 5 * M 98 3 + 2 : Int).toNat = 150 + (5 * (M 98 3).toNat + 2) := by omega
      have j3 : w32 (150 + 5 * M 98 3 + 3) = 150 + 5 * M 98 3 + 3 := w32_id (by omega)
      have n3 : (150 + 5 * M 98 3 + 3 : Int).toNat = 150 + (5 * (M 98 3).toNat + 3) := by omega
      have j4 : w32 (150 + 5 * M 98 3 + 4) = 150 + 5 * M 98 3 + 4 := w32_id (by omega)
      have n4 : (150 + 5 * M 98 3 + 4 : Int).toNat = 150 + (5 * (M 98 3).toNat + 4) := by omega
      have e3 : (zput (zput (zput (zput (zput X 98 (150 + (5 * (M 98 3).toNat + 0)) a1) 98 (150 + (5 * (M 98 3).toNat + 1)) a2) 98 (150 + (5 * (M 98 3).toNat + 2)) a3) 98 (150 + (5 * (M 98 3).toNat + 3)) a4) 98 (150 + (5 * (M 98 3).toNat + 4)) 0) 98 3 = M 98 3 := by rw [qput_nk (by omega), qput_nk (by omega), qput_nk (by omega), qput_nk (by omega), qput_nk (by omega)]; exact congrFun hX 3
      have e5 := hN183 (M := zput (zput (zput (zput (zput X 98 (150 + (5 * (M 98 3).toNat + 0)) a1) 98 (150 + (5 * (M 98 3).toNat + 1)) a2) 98 (150 + (5 * (M 98 3).toNat + 2)) a3) 98 (150 + (5 * (M 98 3).toNat + 3)) a4) 98 (150 + (5 * (M 98 3).toNat + 4)) 0) (c := 3) (by show 0 ≤ (zput (zput (zput (zput (zput X 98 (150 + (5 * (M 98 3).toNat + 0)) a1) 98 (150 + (5 * (M 98 3).toNat + 1)) a2) 98 (150 + (5 * (M 98 3).toNat + 2)) a3) 98 (150 + (5 * (M 98 3).toNat + 3)) a4) 98 (150 + (5 * (M 98 3).toNat + 4)) 0) 98 3 ∧ (zput (zput (zput (zput (zput X 98 (150 + (5 * (M 98 3).toNat + 0)) a1) 98 (150 + (5 * (M 98 3).toNat + 1)) a2) 98 (150 + (5 * (M 98 3).toNat + 2)) a3) 98 (150 + (5 * (M 98 3).toNat + 3)) a4) 98 (150 + (5 * (M 98 3).toNat + 4)) 0) 98 3 < 300; rw [e3]; omega)
      simp only [Int.reduceToNat, e3] at e5
      have e2 : hf_190_97 X a1 a2 a3 a4 = (M 98 3, zput (zput (zput (zput (zput (zput X 98 (150 + (5 * (M 98 3).toNat + 0)) a1) 98 (150 + (5 * (M 98 3).toNat + 1)) a2) 98 (150 + (5 * (M 98 3).toNat + 2)) a3) 98 (150 + (5 * (M 98 3).toNat + 3)) a4) 98 (150 + (5 * (M 98 3).toNat + 4)) 0) 98 3 (M 98 3 + 1)) := by
        unfold hf_190_97; simp only [hq_182_0 hBX, hq_182_1 hBX, hq_182_2 hBX, hq_182_3 hBX, hq_182_4 hBX, hq_182_5 hBX, hq_185, hq_184, hq_180, hq_197, hq_198 hBX, hq_200 hBX, hq_252, hX, Int.reduceToNat, j0, n0, j1, n1, j2, n2, j3, n3, j4, n4]
        (repeat' split) <;> first | omega | (rw [e5])
      rw [e2, hXe]; dsimp only
      refine ⟨rfl, hHs.t3 h rfl rfl rfl rfl rfl rfl rfl rfl rfl rfl rfl rfl (fun j h1 h2 => ?_) ?_ (by rw [qput_eq]; omega)⟩
      · rw [qput_nk h1, qput_nk (by omega), qput_nk (by omega), qput_nk (by omega), qput_nk (by omega), qput_nk (by omega)]; rfl
      · refine ⟨rfl, ⟨fun j hj => ?_, fun i hi => ?_⟩⟩
        · have q := h.2.2.2.1.2.1 j hj
          simp only [zput_same, zput_oth (show (98 : Nat) ≠ 97 by decide), zput_oth (show (17 : Nat) ≠ 98 by decide), zput_oth (show (17 : Nat) ≠ 97 by decide), zput_oth (show (17 : Nat) ≠ 16 by decide), zput_oth (show (98 : Nat) ≠ 16 by decide), zput_oth (show (98 : Nat) ≠ 17 by decide), hup]; (repeat' split) <;> omega
        · have q := h.2.2.2.1.2.2 i hi
          refine ⟨?_, ?_, ?_⟩ <;> (simp only [zput_same, zput_oth (show (98 : Nat) ≠ 97 by decide), zput_oth (show (17 : Nat) ≠ 98 by decide), zput_oth (show (17 : Nat) ≠ 97 by decide), zput_oth (show (17 : Nat) ≠ 16 by decide), zput_oth (show (98 : Nat) ≠ 16 by decide), zput_oth (show (98 : Nat) ≠ 17 by decide), hup]; (repeat' split) <;> omega)
    · have e1 : hf_126_8 M a1 a2 a3 a4 = (-4, M) := by
        have eo : hR_open M 16 = (-4, M) := hF_16 hT (by omega)
        unfold hf_126_8; simp only [hq_174, hq_175, hq_171, hq_172, hq_170, hq_169, hq_178, hq_19, hq_has, hq_173, eo]
        (repeat' split) <;> first | omega | ((repeat rw [hS_neg (by decide)]) <;> rfl)
      rw [e1]; dsimp only
      have e2 : hf_190_97 M a1 a2 a3 a4 = (-4, M) := by
        unfold hf_190_97; simp only [hq_182_0 hB, hq_182_1 hB, hq_182_2 hB, hq_182_3 hB, hq_182_4 hB, hq_182_5 hB, hq_185, hq_184, hq_180, hq_197, hq_198 hB, hq_200 hB, hq_252, Int.reduceToNat]
        (repeat' split) <;> first | omega | rfl
      rw [e2]; exact ⟨rfl, h⟩
  · have e1 : hf_126_8 M a1 a2 a3 a4 = (-2, M) := by
      unfold hf_126_8; simp only [hq_174, hq_175, hq_171, hq_172, hq_170, hq_169, hq_178, hq_19, hq_has, hq_173]
      (repeat' split) <;> first | omega | rfl
    rw [e1]; dsimp only
    have e2 : hf_190_97 M a1 a2 a3 a4 = (-2, M) := by
      unfold hf_190_97; simp only [hq_182_0 hB, hq_182_1 hB, hq_182_2 hB, hq_182_3 hB, hq_182_4 hB, hq_182_5 hB, hq_185, hq_184, hq_180, hq_197, hq_198 hB, hq_200 hB, hq_252, Int.reduceToNat]
      (repeat' split) <;> first | omega | rfl
    rw [e2]; exact ⟨rfl, h⟩
end HL
