/-! THE OTHER CALLS THAT TELL -/
section HL
variable {M : zM}
theorem hm_124 (h : hHs M 9 (M 98)) (hT : hTb M) (hB : hBd M) {a1 : Int} : (hf_124_8 M a1).1 = (hf_188_97 (hf_124_8 M a1).2 a1).1 ∧ hHs (hf_188_97 (hf_124_8 M a1).2 a1).2 9 ((hf_188_97 (hf_124_8 M a1).2 a1).2 98) := by
  have k0 : M 10 3 = M 98 0 := h.1.1
  have k1 : M 12 3 = M 98 1 := h.2.1.1
  have k2 : M 14 3 = M 98 2 := h.2.2.1.1
  have k3 : M 16 3 = M 98 3 := h.2.2.2.1.1
  have k4 : M 18 3 = M 98 4 := h.2.2.2.2.1.1
  have k6 : M 24 3 = M 98 6 := h.2.2.2.2.2.2.1.1
  have k7 : M 9 8 = M 98 7 := h.2.2.2.2.2.2.2.1
  have k8 : M 9 9 = M 98 8 := h.2.2.2.2.2.2.2.2.1
  have b7 : 0 ≤ M 98 7 ∧ M 98 7 ≤ 1000 := h.2.2.2.2.2.2.2.2.2
  obtain ⟨b0, b1, b2, b3, b4, b5, b6⟩ := id hB
  by_cases C : (0 ≤ a1 ∧ a1 ≤ 9999)
  · by_cases hf : M 98 1 < 20
    · have e1 : hf_124_8 M a1 = (M 98 1, zput (zput (zput (zput M 12 3 (M 98 1 + 1)) 13 (3 * (M 98 1).toNat + 0) a1) 13 (3 * (M 98 1).toNat + 1) (-1)) 13 (3 * (M 98 1).toNat + 2) 0) := by
        have eo : hR_open M 12 = (M 98 1, zput M 12 3 (M 98 1 + 1)) := by rw [hO_12 hT (by omega), k1]
        unfold hf_124_8; simp only [hq_174, hq_175, hq_171, hq_172, hq_170, hq_169, hq_178, hq_19, hq_has, hq_173, eo]
        (repeat' split) <;> first | omega | (rw [hS_12 (hTb.p3 hT) (by omega) (by decide), hS_12 (hTb.pc (hTb.p3 hT) (by decide)) (by omega) (by decide), hS_12 (hTb.pc (hTb.pc (hTb.p3 hT) (by decide)) (by decide)) (by omega) (by decide)] <;> rfl)
      rw [e1]; dsimp only
      obtain ⟨X, hXe⟩ : ∃ X, X = zput (zput (zput (zput M 12 3 (M 98 1 + 1)) 13 (3 * (M 98 1).toNat + 0) a1) 13 (3 * (M 98 1).toNat + 1) (-1)) 13 (3 * (M 98 1).toNat + 2) 0 := ⟨_, rfl⟩
      rw [← hXe]
      have hX : X 98 = M 98 := by rw [hXe]; rfl
      have hBX : hBd X := hB.same hX
      have j0 : w32 (80 + w32 (3 * M 98 1)) = 80 + 3 * M 98 1 := by rw [w32_id (x := 3 * M 98 1) (by omega), w32_id (by omega)]
      have n0 : (80 + 3 * M 98 1 : Int).toNat = 80 + (3 * (M 98 1).toNat + 0) := by omega
      have j1 : w32 (80 + 3 * M 98 1 + 1) = 80 + 3 * M 98 1 + 1 := w32_id (by omega)
      have n1 : (80 + 3 * M 98 1 + 1 : Int).toNat = 80 + (3 * (M 98 1).toNat + 1) := by omega
      have j2 : w32 (80 + 3 * M 98 1 + 2) = 80 + 3 * M 98 1 + 2 := w32_id (by omega)
      have n2 : (80 + 3 * M 98 1 + 2 : Int).toNat = 80 + (3 * (M 98 1).toNat + 2) := by omega
      have e3 : (zput (zput (zput X 98 (80 + (3 * (M 98 1).toNat + 0)) a1) 98 (80 + (3 * (M 98 1).toNat + 1)) (-1)) 98 (80 + (3 * (M 98 1).toNat + 2)) 0) 98 1 = M 98 1 := by rw [qput_nk (by omega), qput_nk (by omega), qput_nk (by omega)]; exact congrFun hX 1
      have e5 := hN183 (M := zput (zput (zput X 98 (80 + (3 * (M 98 1).toNat + 0)) a1) 98 (80 + (3 * (M 98 1).toNat + 1)) (-1)) 98 (80 + (3 * (M 98 1).toNat + 2)) 0) (c := 1) (by show 0 ≤ (zput (zput (zput X 98 (80 + (3 * (M 98 1).toNat + 0)) a1) 98 (80 + (3 * (M 98 1).toNat + 1)) (-1)) 98 (80 + (3 * (M 98 1).toNat + 2)) 0) 98 1 ∧ (zput (zput (zput X 98 (80 + (3 * (M 98 1).toNat + 0)) a1) 98 (80 + (3 * (M 98 1).toNat + 1)) (-1)) 98 (80 + (3 * (M 98 1).toNat + 2)) 0) 98 1 < 300; rw [e3]; omega)
      simp only [Int.reduceToNat, e3] at e5
      have e2 : hf_188_97 X a1 = (M 98 1, zput (zput (zput (zput X 98 (80 + (3 * (M 98 1).toNat + 0)) a1) 98 (80 + (3 * (M 98 1).toNat + 1)) (-1)) 98 (80 + (3 * (M 98 1).toNat + 2)) 0) 98 1 (M 98 1 + 1)) := by
        unfold hf_188_97; simp only [hq_182_0 hBX, hq_182_1 hBX, hq_182_2 hBX, hq_182_3 hBX, hq_182_4 hBX, hq_182_5 hBX, hq_185, hq_184, hq_180, hq_197, hq_198 hBX, hq_200 hBX, hq_252, hX, Int.reduceToNat, j0, n0, j1, n1, j2, n2]
        (repeat' split) <;> first | omega | (rw [e5])
      rw [e2, hXe]; dsimp only
      refine ⟨rfl, hHs.t1 h rfl rfl rfl rfl rfl rfl rfl rfl rfl rfl rfl rfl (fun j h1 h2 => ?_) ?_⟩
      · rw [qput_nk h1, qput_nk (by omega), qput_nk (by omega), qput_nk (by omega)]; rfl
      · refine ⟨rfl, fun i hi => ?_⟩
        have q := h.2.1.2 i hi
        simp only [zput_same, zput_oth (show (98 : Nat) ≠ 97 by decide), zput_oth (show (13 : Nat) ≠ 98 by decide), zput_oth (show (13 : Nat) ≠ 97 by decide), zput_oth (show (13 : Nat) ≠ 12 by decide), zput_oth (show (98 : Nat) ≠ 12 by decide), zput_oth (show (98 : Nat) ≠ 13 by decide), hup]; (repeat' split) <;> omega
    · have e1 : hf_124_8 M a1 = (-4, M) := by
        have eo : hR_open M 12 = (-4, M) := hF_12 hT (by omega)
        unfold hf_124_8; simp only [hq_174, hq_175, hq_171, hq_172, hq_170, hq_169, hq_178, hq_19, hq_has, hq_173, eo]
        (repeat' split) <;> first | omega | ((repeat rw [hS_neg (by decide)]) <;> rfl)
      rw [e1]; dsimp only
      have e2 : hf_188_97 M a1 = (-4, M) := by
        unfold hf_188_97; simp only [hq_182_0 hB, hq_182_1 hB, hq_182_2 hB, hq_182_3 hB, hq_182_4 hB, hq_182_5 hB, hq_185, hq_184, hq_180, hq_197, hq_198 hB, hq_200 hB, hq_252, Int.reduceToNat]
        (repeat' split) <;> first | omega | rfl
      rw [e2]; exact ⟨rfl, h⟩
  · have e1 : hf_124_8 M a1 = (-2, M) := by
      unfold hf_124_8; simp only [hq_174, hq_175, hq_171, hq_172, hq_170, hq_169, hq_178, hq_19, hq_has, hq_173]
      (repeat' split) <;> first | omega | rfl
    rw [e1]; dsimp only
    have e2 : hf_188_97 M a1 = (-2, M) := by
      unfold hf_188_97; simp only [hq_182_0 hB, hq_182_1 hB, hq_182_2 hB, hq_182_3 hB, hq_182_4 hB, hq_182_5 hB, hq_185, hq_184, hq_180, hq_197, hq_198 hB, hq_200 hB, hq_252, Int.reduceToNat]
      (repeat' split) <;> first | omega | rfl
    rw [e2]; exact ⟨rfl, h⟩
theorem hm_125 (h : hHs M 9 (M 98)) (hT : hTb M) (hB : hBd M) {a1 a2 : Int} : (hf_125_8 M a1 a2).1 = (hf_189_97 (hf_125_8 M a1 a2).2 a1 a2).1 ∧ hHs (hf_189_97 (hf_125_8 M a1 a2).2 a1 a2).2 9 ((hf_189_97 (hf_125_8 M a1 a2).2 a1 a2).2 98) := by
  have k0 : M 10 3 = M 98 0 := h.1.1
  have k1 : M 12 3 = M 98 1 := h.2.1.1
  have k2 : M 14 3 = M 98 2 := h.2.2.1.1
  have k3 : M 16 3 = M 98 3 := h.2.2.2.1.1
  have k4 : M 18 3 = M 98 4 := h.2.2.2.2.1.1
  have k6 : M 24 3 = M 98 6 := h.2.2.2.2.2.2.1.1
  have k7 : M 9 8 = M 98 7 := h.2.2.2.2.2.2.2.1
  have k8 : M 9 9 = M 98 8 := h.2.2.2.2.2.2.2.2.1
  have b7 : 0 ≤ M 98 7 ∧ M 98 7 ≤ 1000 := h.2.2.2.2.2.2.2.2.2
  obtain ⟨b0, b1, b2, b3, b4, b5, b6⟩ := id hB
  by_cases C : (1 ≤ a1 ∧ a1 ≤ 1023) ∧ (1 ≤ a2 ∧ a2 ≤ 10)
  · by_cases hf : M 98 2 < 4
    · have e1 : hf_125_8 M a1 a2 = (M 98 2, zput (zput (zput M 14 3 (M 98 2 + 1)) 15 (2 * (M 98 2).toNat + 0) a1) 15 (2 * (M 98 2).toNat + 1) a2) := by
        have eo : hR_open M 14 = (M 98 2, zput M 14 3 (M 98 2 + 1)) := by rw [hO_14 hT (by omega), k2]
        unfold hf_125_8; simp only [hq_174, hq_175, hq_171, hq_172, hq_170, hq_169, hq_178, hq_19, hq_has, hq_173, eo]
        (repeat' split) <;> first | omega | (rw [hS_14 (hTb.p3 hT) (by omega) (by decide), hS_14 (hTb.pc (hTb.p3 hT) (by decide)) (by omega) (by decide)] <;> rfl)
      rw [e1]; dsimp only
      obtain ⟨X, hXe⟩ : ∃ X, X = zput (zput (zput M 14 3 (M 98 2 + 1)) 15 (2 * (M 98 2).toNat + 0) a1) 15 (2 * (M 98 2).toNat + 1) a2 := ⟨_, rfl⟩
      rw [← hXe]
      have hX : X 98 = M 98 := by rw [hXe]; rfl
      have hBX : hBd X := hB.same hX
      have j0 : w32 (140 + w32 (2 * M 98 2)) = 140 + 2 * M 98 2 := by rw [w32_id (x := 2 * M 98 2) (by omega), w32_id (by omega)]
      have n0 : (140 + 2 * M 98 2 : Int).toNat = 140 + (2 * (M 98 2).toNat + 0) := by omega
      have j1 : w32 (140 + 2 * M 98 2 + 1) = 140 + 2 * M 98 2 + 1 := w32_id (by omega)
      have n1 : (140 + 2 * M 98 2 + 1 : Int).toNat = 140 + (2 * (M 98 2).toNat + 1) := by omega
      have z0 : zput X 98 (140 + (2 * (M 98 2).toNat + 0)) a1 98 2 = M 98 2 := (qput_nk (by omega)).trans (congrFun hX 2)
      have e3 : (zput (zput X 98 (140 + (2 * (M 98 2).toNat + 0)) a1) 98 (140 + (2 * (M 98 2).toNat + 1)) a2) 98 2 = M 98 2 := by rw [qput_nk (by omega), qput_nk (by omega)]; exact congrFun hX 2
      have e5 := hN183 (M := zput (zput X 98 (140 + (2 * (M 98 2).toNat + 0)) a1) 98 (140 + (2 * (M 98 2).toNat + 1)) a2) (c := 2) (by show 0 ≤ (zput (zput X 98 (140 + (2 * (M 98 2).toNat + 0)) a1) 98 (140 + (2 * (M 98 2).toNat + 1)) a2) 98 2 ∧ (zput (zput X 98 (140 + (2 * (M 98 2).toNat + 0)) a1) 98 (140 + (2 * (M 98 2).toNat + 1)) a2) 98 2 < 300; rw [e3]; omega)
      simp only [Int.reduceToNat, e3] at e5
      have e2 : hf_189_97 X a1 a2 = (M 98 2, zput (zput (zput X 98 (140 + (2 * (M 98 2).toNat + 0)) a1) 98 (140 + (2 * (M 98 2).toNat + 1)) a2) 98 2 (M 98 2 + 1)) := by
        unfold hf_189_97; simp only [hq_182_0 hBX, hq_182_1 hBX, hq_182_2 hBX, hq_182_3 hBX, hq_182_4 hBX, hq_182_5 hBX, hq_185, hq_184, hq_180, hq_197, hq_198 hBX, hq_200 hBX, hq_252, hX, Int.reduceToNat, j0, n0, j1, n1, z0]
        (repeat' split) <;> first | omega | (rw [e5])
      rw [e2, hXe]; dsimp only
      refine ⟨rfl, hHs.t2 h rfl rfl rfl rfl rfl rfl rfl rfl rfl rfl rfl rfl (fun j h1 h2 => ?_) ?_⟩
      · rw [qput_nk h1, qput_nk (by omega), qput_nk (by omega)]; rfl
      · refine ⟨rfl, fun j hj => ?_⟩
        · have q := h.2.2.1.2 j hj
          simp only [zput_same, zput_oth (show (98 : Nat) ≠ 97 by decide), zput_oth (show (15 : Nat) ≠ 98 by decide), zput_oth (show (15 : Nat) ≠ 97 by decide), zput_oth (show (15 : Nat) ≠ 14 by decide), zput_oth (show (98 : Nat) ≠ 14 by decide), zput_oth (show (98 : Nat) ≠ 15 by decide), hup]; (repeat' split) <;> omega
    · have e1 : hf_125_8 M a1 a2 = (-4, M) := by
        have eo : hR_open M 14 = (-4, M) := hF_14 hT (by omega)
        unfold hf_125_8; simp only [hq_174, hq_175, hq_171, hq_172, hq_170, hq_169, hq_178, hq_19, hq_has, hq_173, eo]
        (repeat' split) <;> first | omega | ((repeat rw [hS_neg (by decide)]) <;> rfl)
      rw [e1]; dsimp only
      have e2 : hf_189_97 M a1 a2 = (-4, M) := by
        unfold hf_189_97; simp only [hq_182_0 hB, hq_182_1 hB, hq_182_2 hB, hq_182_3 hB, hq_182_4 hB, hq_182_5 hB, hq_185, hq_184, hq_180, hq_197, hq_198 hB, hq_200 hB, hq_252, Int.reduceToNat]
        (repeat' split) <;> first | omega | rfl
      rw [e2]; exact ⟨rfl, h⟩
  · have e1 : hf_125_8 M a1 a2 = (-2, M) := by
      unfold hf_125_8; simp only [hq_174, hq_175, hq_171, hq_172, hq_170, hq_169, hq_178, hq_19, hq_has, hq_173]
      (repeat' split) <;> first | omega | rfl
    rw [e1]; dsimp only
    have e2 : hf_189_97 M a1 a2 = (-2, M) := by
      unfold hf_189_97; simp only [hq_182_0 hB, hq_182_1 hB, hq_182_2 hB, hq_182_3 hB, hq_182_4 hB, hq_182_5 hB, hq_185, hq_184, hq_180, hq_197, hq_198 hB, hq_200 hB, hq_252, Int.reduceToNat]
      (repeat' split) <;> first | omega | rfl
    rw [e2]; exact ⟨rfl, h⟩
theorem hm_123 (h : hHs M 9 (M 98)) (hT : hTb M) (hB : hBd M) {a1 a2 a3 a4 : Int} : (hf_123_8 M a1 a2 a3 a4).1 = (hf_187_97 (hf_123_8 M a1 a2 a3 a4).2 a1 a2 a3 a4).1 ∧ hHs (hf_187_97 (hf_123_8 M a1 a2 a3 a4).2 a1 a2 a3 a4).2 9 ((hf_187_97 (hf_123_8 M a1 a2 a3 a4).2 a1 a2 a3 a4).2 98) := by
  have k0 : M 10 3 = M 98 0 := h.1.1
  have k1 : M 12 3 = M 98 1 := h.2.1.1
  have k2 : M 14 3 = M 98 2 := h.2.2.1.1
  have k3 : M 16 3 = M 98 3 := h.2.2.2.1.1
  have k4 : M 18 3 = M 98 4 := h.2.2.2.2.1.1
  have k6 : M 24 3 = M 98 6 := h.2.2.2.2.2.2.1.1
  have k7 : M 9 8 = M 98 7 := h.2.2.2.2.2.2.2.1
  have k8 : M 9 9 = M 98 8 := h.2.2.2.2.2.2.2.2.1
  have b7 : 0 ≤ M 98 7 ∧ M 98 7 ≤ 1000 := h.2.2.2.2.2.2.2.2.2
  obtain ⟨b0, b1, b2, b3, b4, b5, b6⟩ := id hB
  by_cases C : (1 ≤ a1 ∧ a1 ≤ 60) ∧ (0 ≤ a2 ∧ a2 ≤ w32 (zbshl 1 (M 98 0) - 1)) ∧ (1 ≤ a3 ∧ a3 ≤ 7) ∧ (0 ≤ a4 ∧ a4 ≤ 100)
  · by_cases hf : M 98 0 < 14
    · have e1 : hf_123_8 M a1 a2 a3 a4 = (M 98 0, zput (zput (zput (zput (zput M 10 3 (M 98 0 + 1)) 11 (4 * (M 98 0).toNat + 0) a1) 11 (4 * (M 98 0).toNat + 1) a2) 11 (4 * (M 98 0).toNat + 2) a3) 11 (4 * (M 98 0).toNat + 3) a4) := by
        have eo : hR_open M 10 = (M 98 0, zput M 10 3 (M 98 0 + 1)) := by rw [hO_10 hT (by omega), k0]
        unfold hf_123_8 hf_177_8 hR_size; simp only [hq_174, hq_175, hq_171, hq_172, hq_170, hq_169, hq_178, hq_19, hq_has, hq_173, eo, k0]
        (repeat' split) <;> first | omega | (rw [hS_10 (hTb.p3 hT) (by omega) (by decide), hS_10 (hTb.pc (hTb.p3 hT) (by decide)) (by omega) (by decide), hS_10 (hTb.pc (hTb.pc (hTb.p3 hT) (by decide)) (by decide)) (by omega) (by decide), hS_10 (hTb.pc (hTb.pc (hTb.pc (hTb.p3 hT) (by decide)) (by decide)) (by decide)) (by omega) (by decide)] <;> rfl)
      rw [e1]; dsimp only
      obtain ⟨X, hXe⟩ : ∃ X, X = zput (zput (zput (zput (zput M 10 3 (M 98 0 + 1)) 11 (4 * (M 98 0).toNat + 0) a1) 11 (4 * (M 98 0).toNat + 1) a2) 11 (4 * (M 98 0).toNat + 2) a3) 11 (4 * (M 98 0).toNat + 3) a4 := ⟨_, rfl⟩
      rw [← hXe]
      have hX : X 98 = M 98 := by rw [hXe]; rfl
      have hBX : hBd X := hB.same hX
      have j0 : w32 (20 + w32 (4 * M 98 0)) = 20 + 4 * M 98 0 := by rw [w32_id (x := 4 * M 98 0) (by omega), w32_id (by omega)]
      have n0 : (20 + 4 * M 98 0 : Int).toNat = 20 + (4 * (M 98 0).toNat + 0) := by omega
      have j1 : w32 (20 + 4 * M 98 0 + 1) = 20 + 4 * M 98 0 + 1 := w32_id (by omega)
      have n1 : (20 + 4 * M 98 0 + 1 : Int).toNat = 20 + (4 * (M 98 0).toNat + 1) := by omega
      have j2 : w32 (20 + 4 * M 98 0 + 2) = 20 + 4 * M 98 0 + 2 := w32_id (by omega)
      have n2 : (20 + 4 * M 98 0 + 2 : Int).toNat = 20 + (4 * (M 98 0).toNat + 2) := by omega
      have j3 : w32 (20 + 4 * M 98 0 + 3) = 20 + 4 * M 98 0 + 3 := w32_id (by omega)
      have n3 : (20 + 4 * M 98 0 + 3 : Int).toNat = 20 + (4 * (M 98 0).toNat + 3) := by omega
      have e3 : (zput (zput (zput (zput (zput X 98 (20 + (4 * (M 98 0).toNat + 0)) a1) 98 (20 + (4 * (M 98 0).toNat + 1)) a2) 98 (20 + (4 * (M 98 0).toNat + 2)) a3) 98 (20 + (4 * (M 98 0).toNat + 3)) a4) 97 31 (-1)) 98 0 = M 98 0 := by rw [qput_ne (by decide), qput_nk (by omega), qput_nk (by omega), qput_nk (by omega), qput_nk (by omega)]; exact congrFun hX 0
      have e5 := hN183 (M := zput (zput (zput (zput (zput X 98 (20 + (4 * (M 98 0).toNat + 0)) a1) 98 (20 + (4 * (M 98 0).toNat + 1)) a2) 98 (20 + (4 * (M 98 0).toNat + 2)) a3) 98 (20 + (4 * (M 98 0).toNat + 3)) a4) 97 31 (-1)) (c := 0) (by show 0 ≤ (zput (zput (zput (zput (zput X 98 (20 + (4 * (M 98 0).toNat + 0)) a1) 98 (20 + (4 * (M 98 0).toNat + 1)) a2) 98 (20 + (4 * (M 98 0).toNat + 2)) a3) 98 (20 + (4 * (M 98 0).toNat + 3)) a4) 97 31 (-1)) 98 0 ∧ (zput (zput (zput (zput (zput X 98 (20 + (4 * (M 98 0).toNat + 0)) a1) 98 (20 + (4 * (M 98 0).toNat + 1)) a2) 98 (20 + (4 * (M 98 0).toNat + 2)) a3) 98 (20 + (4 * (M 98 0).toNat + 3)) a4) 97 31 (-1)) 98 0 < 300; rw [e3]; omega)
      simp only [Int.reduceToNat, e3] at e5
      have e2 : hf_187_97 X a1 a2 a3 a4 = (M 98 0, zput (zput (zput (zput (zput (zput X 98 (20 + (4 * (M 98 0).toNat + 0)) a1) 98 (20 + (4 * (M 98 0).toNat + 1)) a2) 98 (20 + (4 * (M 98 0).toNat + 2)) a3) 98 (20 + (4 * (M 98 0).toNat + 3)) a4) 97 31 (-1)) 98 0 (M 98 0 + 1)) := by
        unfold hf_187_97; simp only [hq_182_0 hBX, hq_182_1 hBX, hq_182_2 hBX, hq_182_3 hBX, hq_182_4 hBX, hq_182_5 hBX, hq_185, hq_184, hq_180, hq_197, hq_198 hBX, hq_200 hBX, hq_252, hX, Int.reduceToNat, j0, n0, j1, n1, j2, n2, j3, n3]
        (repeat' split) <;> first | omega | (rw [e5])
      rw [e2, hXe]; dsimp only
      refine ⟨rfl, hHs.t0 h rfl rfl rfl rfl rfl rfl rfl rfl rfl rfl rfl rfl (fun j h1 h2 => ?_) ?_⟩
      · rw [qput_nk h1, qput_ne (by decide), qput_nk (by omega), qput_nk (by omega), qput_nk (by omega), qput_nk (by omega)]; rfl
      · refine ⟨rfl, fun j hj => ?_⟩
        · have q := h.1.2 j hj
          simp only [zput_same, zput_oth (show (98 : Nat) ≠ 97 by decide), zput_oth (show (11 : Nat) ≠ 98 by decide), zput_oth (show (11 : Nat) ≠ 97 by decide), zput_oth (show (11 : Nat) ≠ 10 by decide), zput_oth (show (98 : Nat) ≠ 10 by decide), zput_oth (show (98 : Nat) ≠ 11 by decide), hup]; (repeat' split) <;> omega
    · have e1 : hf_123_8 M a1 a2 a3 a4 = (-4, M) := by
        have eo : hR_open M 10 = (-4, M) := hF_10 hT (by omega)
        unfold hf_123_8 hf_177_8 hR_size; simp only [hq_174, hq_175, hq_171, hq_172, hq_170, hq_169, hq_178, hq_19, hq_has, hq_173, eo, k0]
        (repeat' split) <;> first | omega | ((repeat rw [hS_neg (by decide)]) <;> rfl)
      rw [e1]; dsimp only
      have e2 : hf_187_97 M a1 a2 a3 a4 = (-4, M) := by
        unfold hf_187_97; simp only [hq_182_0 hB, hq_182_1 hB, hq_182_2 hB, hq_182_3 hB, hq_182_4 hB, hq_182_5 hB, hq_185, hq_184, hq_180, hq_197, hq_198 hB, hq_200 hB, hq_252, Int.reduceToNat]
        (repeat' split) <;> first | omega | rfl
      rw [e2]; exact ⟨rfl, h⟩
  · have e1 : hf_123_8 M a1 a2 a3 a4 = (-2, M) := by
      unfold hf_123_8 hf_177_8 hR_size; simp only [hq_174, hq_175, hq_171, hq_172, hq_170, hq_169, hq_178, hq_19, hq_has, hq_173, k0]
      (repeat' split) <;> first | omega | rfl
    rw [e1]; dsimp only
    have e2 : hf_187_97 M a1 a2 a3 a4 = (-2, M) := by
      unfold hf_187_97; simp only [hq_182_0 hB, hq_182_1 hB, hq_182_2 hB, hq_182_3 hB, hq_182_4 hB, hq_182_5 hB, hq_185, hq_184, hq_180, hq_197, hq_198 hB, hq_200 hB, hq_252, Int.reduceToNat]
      (repeat' split) <;> first | omega | rfl
    rw [e2]; exact ⟨rfl, h⟩
theorem hm_126 (h : hHs M 9 (M 98)) (hT : hTb M) (hB : hBd M) {a1 a2 a3 a4 : Int} : (hf_126_8 M a1 a2 a3 a4).1 = (hf_190_97 (hf_126_8 M a1 a2 a3 a4).2 a1 a2 a3 a4).1 ∧ hHs (hf_190_97 (hf_126_8 M a1 a2 a3 a4).2 a1 a2 a3 a4).2 9 ((hf_190_97 (hf_126_8 M a1 a2 a3 a4).2 a1 a2 a3 a4).2 98) := by
  have k0 : M 10 3 = M 98 0 := h.1.1
  have k1 : M 12 3 = M 98 1 := h.2.1.1
  have k2 : M 14 3 = M 98 2 := h.2.2.1.1
  have k3 : M 16 3 = M 98 3 := h.2.2.2.1.1
  have k4 : M 18 3 = M 98 4 := h.2.2.2.2.1.1
  have k6 : M 24 3 = M 98 6 := h.2.2.2.2.2.2.1.1
  have k7 : M 9 8 = M 98 7 := h.2.2.2.2.2.2.2.1
  have k8 : M 9 9 = M 98 8 := h.2.2.2.2.2.2.2.2.1
  have b7 : 0 ≤ M 98 7 ∧ M 98 7 ≤ 1000 := h.2.2.2.2.2.2.2.2.2
  obtain ⟨b0, b1, b2, b3, b4, b5, b6⟩ := id hB
  by_cases C : (0 ≤ a1 ∧ a1 < M 98 2) ∧ (0 ≤ a2 ∧ a2 ≤ 9999) ∧ (0 ≤ a3 ∧ a3 ≤ 1023) ∧ (0 ≤ a4 ∧ a4 ≤ 1023)
  · by_cases hf : M 98 3 < 40
    · have e1 : hf_126_8 M a1 a2 a3 a4 = (M 98 3, zput (zput (zput (zput (zput (zput M 16 3 (M 98 3 + 1)) 17 (5 * (M 98 3).toNat + 0) a1) 17 (5 * (M 98 3).toNat + 1) a2) 17 (5 * (M 98 3).toNat + 2) a3) 17 (5 * (M 98 3).toNat + 3) a4) 17 (5 * (M 98 3).toNat + 4) 0) := by
        have eo : hR_open M 16 = (M 98 3, zput M 16 3 (M 98 3 + 1)) := by rw [hO_16 hT (by omega), k3]
        unfold hf_126_8; simp only [hq_174, hq_175, hq_171, hq_172, hq_170, hq_169, hq_178, hq_19, hq_has, hq_173, eo]
        (repeat' split) <;> first | omega | (rw [hS_16 (hTb.p3 hT) (by omega) (by decide), hS_16 (hTb.pc (hTb.p3 hT) (by decide)) (by omega) (by decide), hS_16 (hTb.pc (hTb.pc (hTb.p3 hT) (by decide)) (by decide)) (by omega) (by decide), hS_16 (hTb.pc (hTb.pc (hTb.pc (hTb.p3 hT) (by decide)) (by decide)) (by decide)) (by omega) (by decide), hS_16 (hTb.pc (hTb.pc (hTb.pc (hTb.pc (hTb.p3 hT) (by decide)) (by decide)) (by decide)) (by decide)) (by omega) (by decide)] <;> rfl)
      rw [e1]; dsimp only
      obtain ⟨X, hXe⟩ : ∃ X, X = zput (zput (zput (zput (zput (zput M 16 3 (M 98 3 + 1)) 17 (5 * (M 98 3).toNat + 0) a1) 17 (5 * (M 98 3).toNat + 1) a2) 17 (5 * (M 98 3).toNat + 2) a3) 17 (5 * (M 98 3).toNat + 3) a4) 17 (5 * (M 98 3).toNat + 4) 0 := ⟨_, rfl⟩
      rw [← hXe]
      have hX : X 98 = M 98 := by rw [hXe]; rfl
      have hBX : hBd X := hB.same hX
      have j0 : w32 (150 + w32 (5 * M 98 3)) = 150 + 5 * M 98 3 := by rw [w32_id (x := 5 * M 98 3) (by omega), w32_id (by omega)]
      have n0 : (150 + 5 * M 98 3 : Int).toNat = 150 + (5 * (M 98 3).toNat + 0) := by omega
      have j1 : w32 (150 + 5 * M 98 3 + 1) = 150 + 5 * M 98 3 + 1 := w32_id (by omega)
      have n1 : (150 + 5 * M 98 3 + 1 : Int).toNat = 150 + (5 * (M 98 3).toNat + 1) := by omega
      have j2 : w32 (150 + 5 * M 98 3 + 2) = 150 + 5 * M 98 3 + 2 := w32_id (by omega)
      have n2 : (150 + 5 * M 98 3 + 2 : Int).toNat = 150 + (5 * (M 98 3).toNat + 2) := by omega
      have j3 : w32 (150 + 5 * M 98 3 + 3) = 150 + 5 * M 98 3 + 3 := w32_id (by omega)
      have n3 : (150 + 5 * M 98 3 + 3 : Int).toNat = 150 + (5 * (M 98 3).toNat + 3) := by omega
      have j4 : w32 (150 + 5 * M 98 3 + 4) = 150 + 5 * M 98 3 + 4 := w32_id (by omega)
      have n4 : (150 + 5 * M 98 3 + 4 : Int).toNat = 150 + (5 * (M 98 3).toNat + 4) := by omega
      have e3 : (zput (zput (zput (zput (zput X 98 (150 + (5 * (M 98 3).toNat + 0)) a1) 98 (150 + (5 * (M 98 3).toNat + 1)) a2) 98 (150 + (5 * (M 98 3).toNat + 2)) a3) 98 (150 + (5 * (M 98 3).toNat + 3)) a4) 98 (150 + (5 * (M 98 3).toNat + 4)) 0) 98 3 = M 98 3 := by rw [qput_nk (by omega), qput_nk (by omega), qput_nk (by omega), qput_nk (by omega), qput_nk (by omega)]; exact congrFun hX 3
      have e5 := hN183 (M := zput (zput (zput (zput (zput X 98 (150 + (5 * (M 98 3).toNat + 0)) a1) 98 (150 + (5 * (M 98 3).toNat + 1)) a2) 98 (150 + (5 * (M 98 3).toNat + 2)) a3) 98 (150 + (5 * (M 98 3).toNat + 3)) a4) 98 (150 + (5 * (M 98 3).toNat + 4)) 0) (c := 3) (by show 0 ≤ (zput (zput (zput (zput (zput X 98 (150 + (5 * (M 98 3).toNat + 0)) a1) 98 (150 + (5 * (M 98 3).toNat + 1)) a2) 98 (150 + (5 * (M 98 3).toNat + 2)) a3) 98 (150 + (5 * (M 98 3).toNat + 3)) a4) 98 (150 + (5 * (M 98 3).toNat + 4)) 0) 98 3 ∧ (zput (zput (zput (zput (zput X 98 (150 + (5 * (M 98 3).toNat + 0)) a1) 98 (150 + (5 * (M 98 3).toNat + 1)) a2) 98 (150 + (5 * (M 98 3).toNat + 2)) a3) 98 (150 + (5 * (M 98 3).toNat + 3)) a4) 98 (150 + (5 * (M 98 3).toNat + 4)) 0) 98 3 < 300; rw [e3]; omega)
      simp only [Int.reduceToNat, e3] at e5
      have e2 : hf_190_97 X a1 a2 a3 a4 = (M 98 3, zput (zput (zput (zput (zput (zput X 98 (150 + (5 * (M 98 3).toNat + 0)) a1) 98 (150 + (5 * (M 98 3).toNat + 1)) a2) 98 (150 + (5 * (M 98 3).toNat + 2)) a3) 98 (150 + (5 * (M 98 3).toNat + 3)) a4) 98 (150 + (5 * (M 98 3).toNat + 4)) 0) 98 3 (M 98 3 + 1)) := by
        unfold hf_190_97; simp only [hq_182_0 hBX, hq_182_1 hBX, hq_182_2 hBX, hq_182_3 hBX, hq_182_4 hBX, hq_182_5 hBX, hq_185, hq_184, hq_180, hq_197, hq_198 hBX, hq_200 hBX, hq_252, hX, Int.reduceToNat, j0, n0, j1, n1, j2, n2, j3, n3, j4, n4]
        (repeat' split) <;> first | omega | (rw [e5])
      rw [e2, hXe]; dsimp only
      refine ⟨rfl, hHs.t3 h rfl rfl rfl rfl rfl rfl rfl rfl rfl rfl rfl rfl (fun j h1 h2 => ?_) ?_⟩
      · rw [qput_nk h1, qput_nk (by omega), qput_nk (by omega), qput_nk (by omega), qput_nk (by omega), qput_nk (by omega)]; rfl
      · refine ⟨rfl, ⟨fun j hj => ?_, fun i hi => ?_⟩⟩
        · have q := h.2.2.2.1.2.1 j hj
          simp only [zput_same, zput_oth (show (98 : Nat) ≠ 97 by decide), zput_oth (show (17 : Nat) ≠ 98 by decide), zput_oth (show (17 : Nat) ≠ 97 by decide), zput_oth (show (17 : Nat) ≠ 16 by decide), zput_oth (show (98 : Nat) ≠ 16 by decide), zput_oth (show (98 : Nat) ≠ 17 by decide), hup]; (repeat' split) <;> omega
        · have q := h.2.2.2.1.2.2 i hi
          simp only [zput_same, zput_oth (show (98 : Nat) ≠ 97 by decide), zput_oth (show (17 : Nat) ≠ 98 by decide), zput_oth (show (17 : Nat) ≠ 97 by decide), zput_oth (show (17 : Nat) ≠ 16 by decide), zput_oth (show (98 : Nat) ≠ 16 by decide), zput_oth (show (98 : Nat) ≠ 17 by decide), hup]; (repeat' split) <;> omega
    · have e1 : hf_126_8 M a1 a2 a3 a4 = (-4, M) := by
        have eo : hR_open M 16 = (-4, M) := hF_16 hT (by omega)
        unfold hf_126_8; simp only [hq_174, hq_175, hq_171, hq_172, hq_170, hq_169, hq_178, hq_19, hq_has, hq_173, eo]
        (repeat' split) <;> first | omega | ((repeat rw [hS_neg (by decide)]) <;> rfl)
      rw [e1]; dsimp only
      have e2 : hf_190_97 M a1 a2 a3 a4 = (-4, M) := by
        unfold hf_190_97; simp only [hq_182_0 hB, hq_182_1 hB, hq_182_2 hB, hq_182_3 hB, hq_182_4 hB, hq_182_5 hB, hq_185, hq_184, hq_180, hq_197, hq_198 hB, hq_200 hB, hq_252, Int.reduceToNat]
        (repeat' split) <;> first | omega | rfl
      rw [e2]; exact ⟨rfl, h⟩
  · have e1 : hf_126_8 M a1 a2 a3 a4 = (-2, M) := by
      unfold hf_126_8; simp only [hq_174, hq_175, hq_171, hq_172, hq_170, hq_169, hq_178, hq_19, hq_has, hq_173]
      (repeat' split) <;> first | omega | rfl
    rw [e1]; dsimp only
    have e2 : hf_190_97 M a1 a2 a3 a4 = (-2, M) := by
      unfold hf_190_97; simp only [hq_182_0 hB, hq_182_1 hB, hq_182_2 hB, hq_182_3 hB, hq_182_4 hB, hq_182_5 hB, hq_185, hq_184, hq_180, hq_197, hq_198 hB, hq_200 hB, hq_252, Int.reduceToNat]
      (repeat' split) <;> first | omega | rfl
    rw [e2]; exact ⟨rfl, h⟩
theorem hm_162 (h : hHs M 9 (M 98)) (hT : hTb M) (hB : hBd M) {a1 a2 : Int} : (hf_162_8 M a1 a2).1 = (hf_286_97 (hf_162_8 M a1 a2).2 a1 a2).1 ∧ hHs (hf_286_97 (hf_162_8 M a1 a2).2 a1 a2).2 9 ((hf_286_97 (hf_162_8 M a1 a2).2 a1 a2).2 98) := by
  have k0 : M 10 3 = M 98 0 := h.1.1
  have k1 : M 12 3 = M 98 1 := h.2.1.1
  have k2 : M 14 3 = M 98 2 := h.2.2.1.1
  have k3 : M 16 3 = M 98 3 := h.2.2.2.1.1
  have k4 : M 18 3 = M 98 4 := h.2.2.2.2.1.1
  have k6 : M 24 3 = M 98 6 := h.2.2.2.2.2.2.1.1
  have k7 : M 9 8 = M 98 7 := h.2.2.2.2.2.2.2.1
  have k8 : M 9 9 = M 98 8 := h.2.2.2.2.2.2.2.2.1
  have b7 : 0 ≤ M 98 7 ∧ M 98 7 ≤ 1000 := h.2.2.2.2.2.2.2.2.2
  obtain ⟨b0, b1, b2, b3, b4, b5, b6⟩ := id hB
  by_cases C : (0 ≤ a1 ∧ a1 ≤ 1000) ∧ (0 ≤ a2 ∧ a2 ≤ 1000)
  · by_cases hf : M 98 6 < 12
    · have e1 : hf_162_8 M a1 a2 = (M 98 6 + 1, zput (zput (zput M 24 3 (M 98 6 + 1)) 25 (2 * (M 98 6).toNat + 0) a1) 25 (2 * (M 98 6).toNat + 1) a2) := by
        have eo : hR_open M 24 = (M 98 6, zput M 24 3 (M 98 6 + 1)) := by rw [hO_24 hT (by omega), k6]
        unfold hf_162_8; simp only [hq_174, hq_175, hq_171, hq_172, hq_170, hq_169, hq_178, hq_19, hq_has, hq_173, eo]
        (repeat' split) <;> first | omega | (rw [hS_24 (hTb.p3 hT) (by omega) (by decide), hS_24 (hTb.pc (hTb.p3 hT) (by decide)) (by omega) (by decide), w32_id (by omega)] <;> rfl)
      rw [e1]; dsimp only
      obtain ⟨X, hXe⟩ : ∃ X, X = zput (zput (zput M 24 3 (M 98 6 + 1)) 25 (2 * (M 98 6).toNat + 0) a1) 25 (2 * (M 98 6).toNat + 1) a2 := ⟨_, rfl⟩
      rw [← hXe]
      have hX : X 98 = M 98 := by rw [hXe]; rfl
      have hBX : hBd X := hB.same hX
      have j0 : w32 (5640 + w32 (2 * M 98 6)) = 5640 + 2 * M 98 6 := by rw [w32_id (x := 2 * M 98 6) (by omega), w32_id (by omega)]
      have n0 : (5640 + 2 * M 98 6 : Int).toNat = 5640 + (2 * (M 98 6).toNat + 0) := by omega
      have j1 : w32 (5640 + 2 * M 98 6 + 1) = 5640 + 2 * M 98 6 + 1 := w32_id (by omega)
      have n1 : (5640 + 2 * M 98 6 + 1 : Int).toNat = 5640 + (2 * (M 98 6).toNat + 1) := by omega
      have z0 : zput X 98 (5640 + (2 * (M 98 6).toNat + 0)) a1 98 6 = M 98 6 := (qput_nk (by omega)).trans (congrFun hX 6)
      have e3 : (zput (zput X 98 (5640 + (2 * (M 98 6).toNat + 0)) a1) 98 (5640 + (2 * (M 98 6).toNat + 1)) a2) 98 6 = M 98 6 := by rw [qput_nk (by omega), qput_nk (by omega)]; exact congrFun hX 6
      have e5 := hN183 (M := zput (zput X 98 (5640 + (2 * (M 98 6).toNat + 0)) a1) 98 (5640 + (2 * (M 98 6).toNat + 1)) a2) (c := 6) (by show 0 ≤ (zput (zput X 98 (5640 + (2 * (M 98 6).toNat + 0)) a1) 98 (5640 + (2 * (M 98 6).toNat + 1)) a2) 98 6 ∧ (zput (zput X 98 (5640 + (2 * (M 98 6).toNat + 0)) a1) 98 (5640 + (2 * (M 98 6).toNat + 1)) a2) 98 6 < 300; rw [e3]; omega)
      simp only [Int.reduceToNat, e3] at e5
      have e2 : hf_286_97 X a1 a2 = (M 98 6 + 1, zput (zput (zput X 98 (5640 + (2 * (M 98 6).toNat + 0)) a1) 98 (5640 + (2 * (M 98 6).toNat + 1)) a2) 98 6 (M 98 6 + 1)) := by
        unfold hf_286_97; simp only [hq_182_0 hBX, hq_182_1 hBX, hq_182_2 hBX, hq_182_3 hBX, hq_182_4 hBX, hq_182_5 hBX, hq_185, hq_184, hq_180, hq_197, hq_198 hBX, hq_200 hBX, hq_252, hX, Int.reduceToNat, j0, n0, j1, n1, z0]
        (repeat' split) <;> first | omega | (rw [e5]; rw [w32_id (by omega)])
      rw [e2, hXe]; dsimp only
      refine ⟨rfl, hHs.t6 h rfl rfl rfl rfl rfl rfl rfl rfl rfl rfl rfl rfl (fun j h1 h2 => ?_) ?_⟩
      · rw [qput_nk h1, qput_nk (by omega), qput_nk (by omega)]; rfl
      · refine ⟨rfl, fun j hj => ?_⟩
        · have q := h.2.2.2.2.2.2.1.2 j hj
          simp only [zput_same, zput_oth (show (98 : Nat) ≠ 97 by decide), zput_oth (show (25 : Nat) ≠ 98 by decide), zput_oth (show (25 : Nat) ≠ 97 by decide), zput_oth (show (25 : Nat) ≠ 24 by decide), zput_oth (show (98 : Nat) ≠ 24 by decide), zput_oth (show (98 : Nat) ≠ 25 by decide), hup]; (repeat' split) <;> omega
    · have e1 : hf_162_8 M a1 a2 = (-4, M) := by
        have eo : hR_open M 24 = (-4, M) := hF_24 hT (by omega)
        unfold hf_162_8; simp only [hq_174, hq_175, hq_171, hq_172, hq_170, hq_169, hq_178, hq_19, hq_has, hq_173, eo]
        (repeat' split) <;> first | omega | (rename_i hq; exact absurd trivial hq) | ((repeat rw [hS_neg (by decide)]) <;> rfl)
      rw [e1]; dsimp only
      have e2 : hf_286_97 M a1 a2 = (-4, M) := by
        unfold hf_286_97; simp only [hq_182_0 hB, hq_182_1 hB, hq_182_2 hB, hq_182_3 hB, hq_182_4 hB, hq_182_5 hB, hq_185, hq_184, hq_180, hq_197, hq_198 hB, hq_200 hB, hq_252, Int.reduceToNat]
        (repeat' split) <;> first | omega | rfl
      rw [e2]; exact ⟨rfl, h⟩
  · have e1 : hf_162_8 M a1 a2 = (-2, M) := by
      unfold hf_162_8; simp only [hq_174, hq_175, hq_171, hq_172, hq_170, hq_169, hq_178, hq_19, hq_has, hq_173]
      (repeat' split) <;> first | omega | rfl
    rw [e1]; dsimp only
    have e2 : hf_286_97 M a1 a2 = (-2, M) := by
      unfold hf_286_97; simp only [hq_182_0 hB, hq_182_1 hB, hq_182_2 hB, hq_182_3 hB, hq_182_4 hB, hq_182_5 hB, hq_185, hq_184, hq_180, hq_197, hq_198 hB, hq_200 hB, hq_252, Int.reduceToNat]
      (repeat' split) <;> first | omega | rfl
    rw [e2]; exact ⟨rfl, h⟩
theorem hm_137 (h : hHs M 9 (M 98)) (hT : hTb M) (hB : hBd M) {a1 : Int} : (hf_137_8 M a1).1 = (hf_209_97 (hf_137_8 M a1).2 a1).1 ∧ hHs (hf_209_97 (hf_137_8 M a1).2 a1).2 9 ((hf_209_97 (hf_137_8 M a1).2 a1).2 98) := by
  have k0 : M 10 3 = M 98 0 := h.1.1
  have k1 : M 12 3 = M 98 1 := h.2.1.1
  have k2 : M 14 3 = M 98 2 := h.2.2.1.1
  have k3 : M 16 3 = M 98 3 := h.2.2.2.1.1
  have k4 : M 18 3 = M 98 4 := h.2.2.2.2.1.1
  have k6 : M 24 3 = M 98 6 := h.2.2.2.2.2.2.1.1
  have k7 : M 9 8 = M 98 7 := h.2.2.2.2.2.2.2.1
  have k8 : M 9 9 = M 98 8 := h.2.2.2.2.2.2.2.2.1
  have b7 : 0 ≤ M 98 7 ∧ M 98 7 ≤ 1000 := h.2.2.2.2.2.2.2.2.2
  obtain ⟨b0, b1, b2, b3, b4, b5, b6⟩ := id hB
  by_cases C : 0 ≤ a1 ∧ a1 ≤ 1000
  · have e1 : hf_137_8 M a1 = (M 98 7, zput M 9 8 a1) := by
      unfold hf_137_8; simp only [hq_174, hq_175, hq_171, hq_172, hq_170, hq_169, hq_178, hq_19, hq_has, hq_173]
      (repeat' split) <;> first | omega | rw [k7]
    rw [e1]; dsimp only
    have e2 : hf_209_97 (zput M 9 8 a1) a1 = (M 98 7, zput (zput M 9 8 a1) 98 7 a1) := by
      unfold hf_209_97; simp only [hq_180]
      (repeat' split) <;> first | omega | rfl
    rw [e2]; dsimp only
    refine ⟨rfl, hHs.t7 h (fun r h1 h2 => ?_) (fun j hj => ?_) ⟨rfl, k8, C.1, C.2⟩⟩
    · rw [zput_oth (by omega), zput_oth (by omega)]
    · rw [qput_nk (by omega)]; rfl
  · have e1 : hf_137_8 M a1 = (-2, M) := by
      unfold hf_137_8; simp only [hq_174, hq_175, hq_171, hq_172, hq_170, hq_169, hq_178, hq_19, hq_has, hq_173]
      (repeat' split) <;> first | omega | rfl
    rw [e1]; dsimp only
    have e2 : hf_209_97 M a1 = (-2, M) := by
      unfold hf_209_97; simp only [hq_180]
      (repeat' split) <;> first | omega | rfl
    rw [e2]; exact ⟨rfl, h⟩
theorem hm_161 (h : hHs M 9 (M 98)) (hT : hTb M) (hB : hBd M) {a1 : Int} : (hf_161_8 M a1).1 = (hf_285_97 (hf_161_8 M a1).2 a1).1 ∧ hHs (hf_285_97 (hf_161_8 M a1).2 a1).2 9 ((hf_285_97 (hf_161_8 M a1).2 a1).2 98) := by
  have k0 : M 10 3 = M 98 0 := h.1.1
  have k1 : M 12 3 = M 98 1 := h.2.1.1
  have k2 : M 14 3 = M 98 2 := h.2.2.1.1
  have k3 : M 16 3 = M 98 3 := h.2.2.2.1.1
  have k4 : M 18 3 = M 98 4 := h.2.2.2.2.1.1
  have k6 : M 24 3 = M 98 6 := h.2.2.2.2.2.2.1.1
  have k7 : M 9 8 = M 98 7 := h.2.2.2.2.2.2.2.1
  have k8 : M 9 9 = M 98 8 := h.2.2.2.2.2.2.2.2.1
  have b7 : 0 ≤ M 98 7 ∧ M 98 7 ≤ 1000 := h.2.2.2.2.2.2.2.2.2
  obtain ⟨b0, b1, b2, b3, b4, b5, b6⟩ := id hB
  by_cases C : 1 ≤ a1 ∧ a1 ≤ 10000
  · have e1 : hf_161_8 M a1 = (M 98 8, zput M 9 9 a1) := by
      unfold hf_161_8; simp only [hq_174, hq_175, hq_171, hq_172, hq_170, hq_169, hq_178, hq_19, hq_has, hq_173]
      (repeat' split) <;> first | omega | rw [k8]
    rw [e1]; dsimp only
    have e2 : hf_285_97 (zput M 9 9 a1) a1 = (M 98 8, zput (zput M 9 9 a1) 98 8 a1) := by
      unfold hf_285_97; simp only [hq_180]
      (repeat' split) <;> first | omega | rfl
    rw [e2]; dsimp only
    refine ⟨rfl, hHs.t7 h (fun r h1 h2 => ?_) (fun j hj => ?_) ⟨k7, rfl, b7.1, b7.2⟩⟩
    · rw [zput_oth (by omega), zput_oth (by omega)]
    · rw [qput_nk (by omega)]; rfl
  · have e1 : hf_161_8 M a1 = (-2, M) := by
      unfold hf_161_8; simp only [hq_174, hq_175, hq_171, hq_172, hq_170, hq_169, hq_178, hq_19, hq_has, hq_173]
      (repeat' split) <;> first | omega | rfl
    rw [e1]; dsimp only
    have e2 : hf_285_97 M a1 = (-2, M) := by
      unfold hf_285_97; simp only [hq_180]
      (repeat' split) <;> first | omega | rfl
    rw [e2]; exact ⟨rfl, h⟩
theorem hm_163 (h : hHs M 9 (M 98)) : (hf_163_8 M).1 = (hf_287_97 (hf_163_8 M).2).1 ∧ hHs (hf_287_97 (hf_163_8 M).2).2 9 ((hf_287_97 (hf_163_8 M).2).2 98) := by
  have k6 : M 24 3 = M 98 6 := h.2.2.2.2.2.2.1.1
  refine ⟨k6, hHs.t6 h rfl rfl rfl rfl rfl rfl rfl rfl rfl rfl rfl rfl (fun j h1 h2 => ?_) ⟨rfl, fun j hj => ?_⟩⟩
  · show (zput (zput M 24 3 0) 98 6 0) 98 j = M 98 j
    rw [qput_nk h1]; rfl
  · show (zput (zput M 24 3 0) 98 6 0) 25 j = (zput (zput M 24 3 0) 98 6 0) 98 (5640 + j)
    rw [qput_ne (by decide), qput_ne (by decide), qput_nk (by omega), qput_ne (by decide)]; exact h.2.2.2.2.2.2.1.2 j hj
theorem hm_138 (h : hHs M 9 (M 98)) (hT : hTb M) (hB : hBd M) {a1 a2 : Int} : hf_138_8 M a1 a2 = hf_210_97 M a1 a2 := by
  have k4 : M 18 3 = M 98 4 := h.2.2.2.2.1.1
  have b4 := hB.2.2.2.2.1
  unfold hf_138_8 hf_210_97
  simp only [hq_174, hq_175, hq_171, hq_172, hq_170, hq_169, hq_178, hq_19, hq_has, hq_173, hq_182_0 hB, hq_182_1 hB, hq_182_2 hB, hq_182_3 hB, hq_182_4 hB, hq_182_5 hB, hq_185, hq_184, hq_180, hq_197, hq_198 hB, hq_200 hB, hq_252]
  by_cases C : (0 ≤ a1 ∧ a1 < M 98 4) ∧ (0 ≤ a2 ∧ a2 ≤ 7)
  · have e : hR_get M 18 a1 a2 = hf_194_97 M a1 a2 := by rw [hrA h hT (by omega) (by omega), hv_194 (by omega) (by omega)]
    rw [e, k4]
  · (repeat' split) <;> first | omega | rfl
theorem hm_127 (h : hHs M 9 (M 98)) (hT : hTb M) (hB : hBd M) {a1 a2 : Int} (ha : a2 = 0 ∨ a2 = 1) : (hf_127_8 M a1 a2).1 = (hf_191_97 (hf_127_8 M a1 a2).2 a1 a2).1 ∧ hHs (hf_191_97 (hf_127_8 M a1 a2).2 a1 a2).2 9 ((hf_191_97 (hf_127_8 M a1 a2).2 a1 a2).2 98) := by
  have k0 : M 10 3 = M 98 0 := h.1.1
  have k1 : M 12 3 = M 98 1 := h.2.1.1
  have k2 : M 14 3 = M 98 2 := h.2.2.1.1
  have k3 : M 16 3 = M 98 3 := h.2.2.2.1.1
  have k4 : M 18 3 = M 98 4 := h.2.2.2.2.1.1
  have k6 : M 24 3 = M 98 6 := h.2.2.2.2.2.2.1.1
  have k7 : M 9 8 = M 98 7 := h.2.2.2.2.2.2.2.1
  have k8 : M 9 9 = M 98 8 := h.2.2.2.2.2.2.2.2.1
  have b7 : 0 ≤ M 98 7 ∧ M 98 7 ≤ 1000 := h.2.2.2.2.2.2.2.2.2
  obtain ⟨b0, b1, b2, b3, b4, b5, b6⟩ := id hB
  by_cases C : 0 ≤ a1 ∧ a1 < M 98 3
  · have g := (h.2.2.2.1.2.2 a1.toNat (by omega)).2
    have r4 : hR_get M 16 a1 4 = M 98 (154 + 5 * a1.toNat) := by
      rw [hG_16 hT (by omega) (by decide), h.2.2.2.1.2.1 _ (by simp only [Int.reduceToNat]; omega), show 150 + (5 * a1.toNat + (4 : Int).toNat) = 154 + 5 * a1.toNat by simp only [Int.reduceToNat]; omega]
    have jx : (w32 (w32 (150 + w32 (5 * a1)) + 4)).toNat = 154 + 5 * a1.toNat := by rw [w32_id (x := 5 * a1) (by omega), w32_id (x := 150 + 5 * a1) (by omega), w32_id (by omega)]; omega
    by_cases D : M 98 (154 + 5 * a1.toNat) = a2
    · skip
      have e1 : hf_127_8 M a1 a2 = (-3, M) := by
        unfold hf_127_8; simp only [hq_174, hq_175, hq_171, hq_172, hq_170, hq_169, hq_178, hq_19, hq_has, hq_173, r4]
        (repeat' split) <;> first | omega | rfl
      rw [e1]; dsimp only
      have e2 : hf_191_97 M a1 a2 = (-3, M) := by
        unfold hf_191_97; simp only [hq_182_0 hB, hq_182_1 hB, hq_182_2 hB, hq_182_3 hB, hq_182_4 hB, hq_182_5 hB, hq_185, hq_184, hq_180, hq_197, hq_198 hB, hq_200 hB, hq_252, jx]
        (repeat' split) <;> first | omega | rfl
      rw [e2]; exact ⟨rfl, h⟩
    · have e1 : hf_127_8 M a1 a2 = (1, zput M 17 (5 * a1.toNat + 4) a2) := by
        have es : ∀ x, hR_set M 16 a1 4 x = zput M 17 (5 * a1.toNat + 4) x := fun x => by rw [hS_16 hT (by omega) (by decide)]; rfl
        unfold hf_127_8; simp only [hq_174, hq_175, hq_171, hq_172, hq_170, hq_169, hq_178, hq_19, hq_has, hq_173, r4, es]
        rcases ha with rfl | rfl <;> (repeat' split) <;> first | omega | rfl
      rw [e1]; dsimp only
      obtain ⟨X, hXe⟩ : ∃ X, X = zput M 17 (5 * a1.toNat + 4) a2 := ⟨_, rfl⟩
      rw [← hXe]
      have hX : X 98 = M 98 := by rw [hXe]; rfl
      have hBX : hBd X := hB.same hX
      have e2 : hf_191_97 X a1 a2 = (1, zput X 98 (154 + 5 * a1.toNat) a2) := by
        unfold hf_191_97; simp only [hq_182_0 hBX, hq_182_1 hBX, hq_182_2 hBX, hq_182_3 hBX, hq_182_4 hBX, hq_182_5 hBX, hq_185, hq_184, hq_180, hq_197, hq_198 hBX, hq_200 hBX, hq_252, jx, hX]
        rcases ha with rfl | rfl <;> (repeat' split) <;> first | omega | rfl
      rw [e2, hXe]; dsimp only
      refine ⟨rfl, hHs.t3 h rfl rfl rfl rfl rfl rfl rfl rfl rfl rfl rfl rfl (fun j h1 h2 => ?_) ⟨?_, fun j hj => ?_, fun i hi => ?_⟩⟩
      · rw [qput_nk (by omega)]; rfl
      · show M 16 3 = (zput (zput M 17 (5 * a1.toNat + 4) a2) 98 (154 + 5 * a1.toNat) a2) 98 3
        rw [qput_nk (by omega)]; exact k3
      · have q := h.2.2.2.1.2.1 j hj
        simp only [zput_same, zput_oth (show (17 : Nat) ≠ 98 by decide), zput_oth (show (98 : Nat) ≠ 17 by decide), hup]; (repeat' split) <;> omega
      · have q := h.2.2.2.1.2.2 i hi
        simp only [zput_same, zput_oth (show (98 : Nat) ≠ 17 by decide), hup]; (repeat' split) <;> omega
  · skip
    have e1 : hf_127_8 M a1 a2 = (-2, M) := by
      unfold hf_127_8; simp only [hq_174, hq_175, hq_171, hq_172, hq_170, hq_169, hq_178, hq_19, hq_has, hq_173]
      (repeat' split) <;> first | omega | rfl
    rw [e1]; dsimp only
    have e2 : hf_191_97 M a1 a2 = (-2, M) := by
      unfold hf_191_97; simp only [hq_182_0 hB, hq_182_1 hB, hq_182_2 hB, hq_182_3 hB, hq_182_4 hB, hq_182_5 hB, hq_185, hq_184, hq_180, hq_197, hq_198 hB, hq_200 hB, hq_252, Int.reduceToNat]
      (repeat' split) <;> first | omega | rfl
    rw [e2]; exact ⟨rfl, h⟩
theorem hSt_fr {X Y : zM} (h : hHs M 9 (M 98)) (c1 : X = M ∨ ∃ (k : Nat) (v : Int), k % 3 ≠ 0 ∧ X = zput M 13 k v) (c2 : Y = X ∨ ∃ (k : Nat) (v : Int), (80 ≤ k ∧ k < 140 ∧ (k - 80) % 3 ≠ 0) ∧ Y = zput X 98 k v) : hHs Y 9 (Y 98) := by
  have k1 : M 12 3 = M 98 1 := h.2.1.1
  have hX : ∀ r, r ≠ 13 → X r = M r := fun r hr => by
    rcases c1 with c1 | ⟨k, v, -, c1⟩
    · rw [c1]
    · rw [c1]; exact zput_oth hr
  have hS : ∀ j, j % 3 = 0 → X 13 j = M 13 j := fun j hj => by
    rcases c1 with c1 | ⟨k, v, hk, c1⟩
    · rw [c1]
    · rw [c1]; exact qput_nk (by intro e; subst e; exact hk hj)
  have eR : ∀ r, r ≠ 13 → r ≠ 98 → Y r = M r := fun r h1 h2 => by
    rcases c2 with c2 | ⟨k, v, -, c2⟩
    · rw [c2]; exact hX r h1
    · rw [c2]; exact (zput_oth h2).trans (hX r h1)
  have eS : ∀ j, j % 3 = 0 → Y 13 j = M 13 j := fun j hj => by
    rcases c2 with c2 | ⟨k, v, -, c2⟩
    · rw [c2]; exact hS j hj
    · rw [c2]; exact (congrFun (zput_oth (by decide)) j).trans (hS j hj)
  have eF : ∀ j, ¬ (80 ≤ j ∧ j < 140 ∧ (j - 80) % 3 ≠ 0) → Y 98 j = M 98 j := fun j hj => by
    rcases c2 with c2 | ⟨k, v, hk, c2⟩
    · rw [c2]; exact congrFun (hX 98 (by decide)) j
    · rw [c2, qput_nk (by intro e; subst e; exact hj hk)]; exact congrFun (hX 98 (by decide)) j
  refine hHs.t1 h (eR _ (by decide) (by decide)) (eR _ (by decide) (by decide)) (eR _ (by decide) (by decide)) (eR _ (by decide) (by decide)) (eR _ (by decide) (by decide)) (eR _ (by decide) (by decide)) (eR _ (by decide) (by decide)) (eR _ (by decide) (by decide)) (eR _ (by decide) (by decide)) (eR _ (by decide) (by decide)) (eR _ (by decide) (by decide)) (eR _ (by decide) (by decide)) (fun j h1 h2 => eF j (by omega)) ⟨?_, fun i hi => ?_⟩
  · rw [show Y (9 + 3) 3 = M 12 3 from congrFun (eR 12 (by decide) (by decide)) 3, eF 1 (by omega)]; exact k1
  · have q := h.2.1.2 i hi
    rw [show Y (9 + 4) (3 * i) = M 13 (3 * i) from eS _ (by omega), eF _ (by omega)]
    exact q
theorem hm_153 (h : hHs M 9 (M 98)) (hT : hTb M) (hB : hBd M) {a1 a2 : Int} : hHs (hf_258_97 (hf_153_8 M a1 a2).2 a1 a2).2 9 ((hf_258_97 (hf_153_8 M a1 a2).2 a1 a2).2 98) := by
  have b1 := hB.2.1
  have k1 : M 12 3 = M 98 1 := h.2.1.1
  have c1 : (hf_153_8 M a1 a2).2 = M ∨ ∃ (k : Nat) (v : Int), k % 3 ≠ 0 ∧ (hf_153_8 M a1 a2).2 = zput M 13 k v := by
    by_cases C : 0 ≤ a1 ∧ a1 < M 12 3
    · have es : ∀ x, hR_set M 12 a1 1 x = zput M 13 (3 * a1.toNat + 1) x := fun x => by rw [hS_12 hT (by omega) (by decide)]; rfl
      unfold hf_153_8; simp only [hq_174, hq_175, hq_171, hq_172, hq_170, hq_169, hq_178, hq_19, hq_has, hq_173, hR_size, es]
      (repeat' split) <;> first | exact .inl rfl | exact .inr ⟨3 * a1.toNat + 1, _, by omega, rfl⟩
    · left; unfold hf_153_8; simp only [hq_174, hq_175, hq_171, hq_172, hq_170, hq_169, hq_178, hq_19, hq_has, hq_173]
      (repeat' split) <;> first | omega | rfl
  obtain ⟨X, hXe⟩ : ∃ X, X = (hf_153_8 M a1 a2).2 := ⟨_, rfl⟩
  rw [← hXe] at c1 ⊢
  have hX : X 98 = M 98 := by
    rcases c1 with c1 | ⟨k, v, -, c1⟩
    · rw [c1]
    · rw [c1]; exact zput_oth (by decide)
  have hBX : hBd X := hB.same hX
  refine hSt_fr h c1 ?_
  by_cases C : 0 ≤ a1 ∧ a1 < M 98 1
  · have jx : (w32 (w32 (80 + w32 (3 * a1)) + 1)).toNat = 81 + 3 * a1.toNat := by rw [w32_id (x := 3 * a1) (by omega), w32_id (x := 80 + 3 * a1) (by omega), w32_id (by omega)]; omega
    unfold hf_258_97; simp only [hq_182_0 hBX, hq_182_1 hBX, hq_182_2 hBX, hq_182_3 hBX, hq_182_4 hBX, hq_182_5 hBX, hq_185, hq_184, hq_180, hq_197, hq_198 hBX, hq_200 hBX, hq_252, jx]
    (repeat' split) <;> first | exact .inl rfl | exact .inr ⟨81 + 3 * a1.toNat, _, by omega, rfl⟩
  · left; unfold hf_258_97; simp only [hq_182_0 hBX, hq_182_1 hBX, hq_182_2 hBX, hq_182_3 hBX, hq_182_4 hBX, hq_182_5 hBX, hq_185, hq_184, hq_180, hq_197, hq_198 hBX, hq_200 hBX, hq_252, hX]
    (repeat' split) <;> first | omega | rfl
theorem hm_157 (h : hHs M 9 (M 98)) (hT : hTb M) (hB : hBd M) {a1 a2 a3 : Int} : hHs (hf_271_97 (hf_157_8 M a1 a2 a3).2 a1 a2 a3).2 9 ((hf_271_97 (hf_157_8 M a1 a2 a3).2 a1 a2 a3).2 98) := by
  have b1 := hB.2.1
  have k1 : M 12 3 = M 98 1 := h.2.1.1
  have c1 : (hf_157_8 M a1 a2 a3).2 = M ∨ ∃ (k : Nat) (v : Int), k % 3 ≠ 0 ∧ (hf_157_8 M a1 a2 a3).2 = zput M 13 k v := by
    by_cases C : 0 ≤ a1 ∧ a1 < M 12 3
    · have es : ∀ x, hR_set M 12 a1 2 x = zput M 13 (3 * a1.toNat + 2) x := fun x => by rw [hS_12 hT (by omega) (by decide)]; rfl
      unfold hf_157_8; simp only [hq_174, hq_175, hq_171, hq_172, hq_170, hq_169, hq_178, hq_19, hq_has, hq_173, hR_size, es]
      (repeat' split) <;> first | exact .inl rfl | exact .inr ⟨3 * a1.toNat + 2, _, by omega, rfl⟩
    · left; unfold hf_157_8; simp only [hq_174, hq_175, hq_171, hq_172, hq_170, hq_169, hq_178, hq_19, hq_has, hq_173]
      (repeat' split) <;> first | omega | rfl
  obtain ⟨X, hXe⟩ : ∃ X, X = (hf_157_8 M a1 a2 a3).2 := ⟨_, rfl⟩
  rw [← hXe] at c1 ⊢
  have hX : X 98 = M 98 := by
    rcases c1 with c1 | ⟨k, v, -, c1⟩
    · rw [c1]
    · rw [c1]; exact zput_oth (by decide)
  have hBX : hBd X := hB.same hX
  refine hSt_fr h c1 ?_
  by_cases C : 0 ≤ a1 ∧ a1 < M 98 1
  · have jx : (w32 (w32 (80 + w32 (3 * a1)) + 2)).toNat = 82 + 3 * a1.toNat := by rw [w32_id (x := 3 * a1) (by omega), w32_id (x := 80 + 3 * a1) (by omega), w32_id (by omega)]; omega
    unfold hf_271_97; simp only [hq_182_0 hBX, hq_182_1 hBX, hq_182_2 hBX, hq_182_3 hBX, hq_182_4 hBX, hq_182_5 hBX, hq_185, hq_184, hq_180, hq_197, hq_198 hBX, hq_200 hBX, hq_252, jx]
    (repeat' split) <;> first | exact .inl rfl | exact .inr ⟨82 + 3 * a1.toNat, _, by omega, rfl⟩
  · left; unfold hf_271_97; simp only [hq_182_0 hBX, hq_182_1 hBX, hq_182_2 hBX, hq_182_3 hBX, hq_182_4 hBX, hq_182_5 hBX, hq_185, hq_184, hq_180, hq_197, hq_198 hBX, hq_200 hBX, hq_252, hX]
    (repeat' split) <;> first | omega | rfl
theorem hm_148 (h : hHs M 9 (M 98)) (hT : hTb M) (hB : hBd M) {a1 a2 : Int} (hL : ∀ t : Nat, t < 8 → 0 ≤ M 98 (3350 + 81 * t) ∧ M 98 (3350 + 81 * t) ≤ 80) : (hf_148_8 M a1 a2).1 = (hf_253_97 (hf_148_8 M a1 a2).2 a1 a2).1 ∧ hHs (hf_253_97 (hf_148_8 M a1 a2).2 a1 a2).2 9 ((hf_253_97 (hf_148_8 M a1 a2).2 a1 a2).2 98) := by
  have k0 : M 10 3 = M 98 0 := h.1.1
  have k1 : M 12 3 = M 98 1 := h.2.1.1
  have k2 : M 14 3 = M 98 2 := h.2.2.1.1
  have k3 : M 16 3 = M 98 3 := h.2.2.2.1.1
  have k4 : M 18 3 = M 98 4 := h.2.2.2.2.1.1
  have k6 : M 24 3 = M 98 6 := h.2.2.2.2.2.2.1.1
  have k7 : M 9 8 = M 98 7 := h.2.2.2.2.2.2.2.1
  have k8 : M 9 9 = M 98 8 := h.2.2.2.2.2.2.2.2.1
  have b7 : 0 ≤ M 98 7 ∧ M 98 7 ≤ 1000 := h.2.2.2.2.2.2.2.2.2
  obtain ⟨b0, b1, b2, b3, b4, b5, b6⟩ := id hB
  by_cases C : 0 ≤ a1 ∧ a1 ≤ 7 ∧ 0 ≤ a2 ∧ a2 ≤ 127
  · have g := hL a1.toNat (by omega)
    have r0 : hR_get M 20 a1 0 = M 98 (3350 + 81 * a1.toNat) := by
      rw [hG_20 hT (by omega) (by decide), show (81 * a1.toNat + (0 : Int).toNat) = 81 * a1.toNat by simp only [Int.reduceToNat]; omega]; exact h.2.2.2.2.2.1 _ (by omega)
    have jx : (w32 (3350 + w32 (81 * a1))).toNat = 3350 + 81 * a1.toNat := by rw [w32_id (x := 81 * a1) (by omega), w32_id (by omega)]; omega
    obtain ⟨Ln, hLn9⟩ : ∃ x : Int, x = M 98 (3350 + 81 * a1.toNat) := ⟨_, rfl⟩
    rw [← hLn9] at g r0
    by_cases D : Ln < 80
    · have e1 : hf_148_8 M a1 a2 = (Ln + 1, zput (zput M 21 (81 * a1.toNat + (Ln.toNat + 1)) a2) 21 (81 * a1.toNat + 0) (Ln + 1)) := by
        unfold hf_148_8; simp only [hq_174, hq_175, hq_171, hq_172, hq_170, hq_169, hq_178, hq_19, hq_has, hq_173, r0]
        rw [w32_id (x := Ln + 1) (by omega), w32_id (x := 1 + Ln) (by omega)]
        have s1 : hR_set M 20 a1 (1 + Ln) a2 = zput M 21 (81 * a1.toNat + (Ln.toNat + 1)) a2 := by rw [hS_20 hT (by omega) (by omega), show (1 + Ln).toNat = Ln.toNat + 1 by omega]
        rw [s1]
        (repeat' split) <;> first | omega | (rw [hS_20 (hTb.pc hT (by decide)) (by omega) (by decide)] <;> rfl)
      rw [e1]; dsimp only
      obtain ⟨X, hXe⟩ : ∃ X, X = zput (zput M 21 (81 * a1.toNat + (Ln.toNat + 1)) a2) 21 (81 * a1.toNat + 0) (Ln + 1) := ⟨_, rfl⟩
      rw [← hXe]
      have hX : X 98 = M 98 := by rw [hXe]; rfl
      have jy : (w32 (w32 (3350 + w32 (81 * a1)) + (Ln + 1))).toNat = 3350 + (81 * a1.toNat + (Ln.toNat + 1)) := by rw [w32_id (x := 81 * a1) (by omega), w32_id (x := 3350 + 81 * a1) (by omega), w32_id (by omega)]; omega
      have e2 : hf_253_97 X a1 a2 = (Ln + 1, zput (zput X 98 (3350 + 81 * a1.toNat) (Ln + 1)) 98 (3350 + (81 * a1.toNat + (Ln.toNat + 1))) a2) := by
        unfold hf_253_97; simp only [hq_252, hq_180, jx, hX, ← hLn9]
        rw [w32_id (x := Ln + 1) (by omega), qput_eq, jy, qput_nk (show 3350 + 81 * a1.toNat ≠ 3350 + (81 * a1.toNat + (Ln.toNat + 1)) by omega), qput_eq]
        (repeat' split) <;> first | omega | rfl
      rw [e2, hXe]; dsimp only
      refine ⟨rfl, hHs.t5 h rfl rfl rfl rfl rfl rfl rfl rfl rfl rfl rfl rfl rfl (fun j h2 => ?_) (fun j hj => ?_)⟩
      · rw [qput_nk (by omega), qput_nk (by omega)]; rfl
      · have q := h.2.2.2.2.2.1 j hj
        simp only [zput_same, zput_oth (show (21 : Nat) ≠ 98 by decide), zput_oth (show (98 : Nat) ≠ 21 by decide), hup]; (repeat' split) <;> omega
    · have e1 : hf_148_8 M a1 a2 = (-4, M) := by
        unfold hf_148_8; simp only [hq_174, hq_175, hq_171, hq_172, hq_170, hq_169, hq_178, hq_19, hq_has, hq_173, r0]
        (repeat' split) <;> first | omega | rfl
      rw [e1]; dsimp only
      have e2 : hf_253_97 M a1 a2 = (-4, M) := by
        unfold hf_253_97; simp only [hq_252, hq_180, jx, ← hLn9]
        (repeat' split) <;> first | omega | rfl
      rw [e2]; exact ⟨rfl, h⟩
  · skip
    have e1 : hf_148_8 M a1 a2 = (-2, M) := by
      unfold hf_148_8; simp only [hq_174, hq_175, hq_171, hq_172, hq_170, hq_169, hq_178, hq_19, hq_has, hq_173]
      (repeat' split) <;> first | omega | rfl
    rw [e1]; dsimp only
    have e2 : hf_253_97 M a1 a2 = (-2, M) := by
      unfold hf_253_97; simp only [hq_252, hq_180]
      (repeat' split) <;> first | omega | rfl
    rw [e2]; exact ⟨rfl, h⟩
theorem hm_149 (h : hHs M 9 (M 98)) (hT : hTb M) (hB : hBd M) {a1 : Int} (hL : ∀ t : Nat, t < 8 → 0 ≤ M 98 (3350 + 81 * t) ∧ M 98 (3350 + 81 * t) ≤ 80) : (hf_149_8 M a1).1 = (hf_254_97 (hf_149_8 M a1).2 a1).1 ∧ hHs (hf_254_97 (hf_149_8 M a1).2 a1).2 9 ((hf_254_97 (hf_149_8 M a1).2 a1).2 98) := by
  have k0 : M 10 3 = M 98 0 := h.1.1
  have k1 : M 12 3 = M 98 1 := h.2.1.1
  have k2 : M 14 3 = M 98 2 := h.2.2.1.1
  have k3 : M 16 3 = M 98 3 := h.2.2.2.1.1
  have k4 : M 18 3 = M 98 4 := h.2.2.2.2.1.1
  have k6 : M 24 3 = M 98 6 := h.2.2.2.2.2.2.1.1
  have k7 : M 9 8 = M 98 7 := h.2.2.2.2.2.2.2.1
  have k8 : M 9 9 = M 98 8 := h.2.2.2.2.2.2.2.2.1
  have b7 : 0 ≤ M 98 7 ∧ M 98 7 ≤ 1000 := h.2.2.2.2.2.2.2.2.2
  obtain ⟨b0, b1, b2, b3, b4, b5, b6⟩ := id hB
  by_cases C : 0 ≤ a1 ∧ a1 ≤ 7
  · have g := hL a1.toNat (by omega)
    have r0 : hR_get M 20 a1 0 = M 98 (3350 + 81 * a1.toNat) := by
      rw [hG_20 hT (by omega) (by decide), show (81 * a1.toNat + (0 : Int).toNat) = 81 * a1.toNat by simp only [Int.reduceToNat]; omega]; exact h.2.2.2.2.2.1 _ (by omega)
    have jx : (w32 (3350 + w32 (81 * a1))).toNat = 3350 + 81 * a1.toNat := by rw [w32_id (x := 81 * a1) (by omega), w32_id (by omega)]; omega
    obtain ⟨Ln, hLn9⟩ : ∃ x : Int, x = M 98 (3350 + 81 * a1.toNat) := ⟨_, rfl⟩
    rw [← hLn9] at g r0
    have e1 : hf_149_8 M a1 = (Ln, zput M 21 (81 * a1.toNat + 0) 0) := by
      unfold hf_149_8; simp only [hq_174, hq_175, hq_171, hq_172, hq_170, hq_169, hq_178, hq_19, hq_has, hq_173, r0]
      (repeat' split) <;> first | omega | (rw [hS_20 hT (by omega) (by decide)] <;> rfl)
    rw [e1]; dsimp only
    obtain ⟨X, hXe⟩ : ∃ X, X = zput M 21 (81 * a1.toNat + 0) 0 := ⟨_, rfl⟩
    rw [← hXe]
    have hX : X 98 = M 98 := by rw [hXe]; rfl
    have e2 : hf_254_97 X a1 = (Ln, zput X 98 (3350 + 81 * a1.toNat) 0) := by
      unfold hf_254_97; simp only [hq_252, jx, hX, ← hLn9]
      (repeat' split) <;> first | omega | rfl
    rw [e2, hXe]; dsimp only
    refine ⟨rfl, hHs.t5 h rfl rfl rfl rfl rfl rfl rfl rfl rfl rfl rfl rfl rfl (fun j h2 => ?_) (fun j hj => ?_)⟩
    · rw [qput_nk (by omega)]; rfl
    · have q := h.2.2.2.2.2.1 j hj
      simp only [zput_same, zput_oth (show (21 : Nat) ≠ 98 by decide), zput_oth (show (98 : Nat) ≠ 21 by decide), hup]; (repeat' split) <;> omega
  · skip
    have e1 : hf_149_8 M a1 = (-2, M) := by
      unfold hf_149_8; simp only [hq_174, hq_175, hq_171, hq_172, hq_170, hq_169, hq_178, hq_19, hq_has, hq_173]
      (repeat' split) <;> first | omega | rfl
    rw [e1]; dsimp only
    have e2 : hf_254_97 M a1 = (-2, M) := by
      unfold hf_254_97; simp only [hq_252, hq_180]
      (repeat' split) <;> first | omega | rfl
    rw [e2]; exact ⟨rfl, h⟩
theorem hm_136 (h : hHs M 9 (M 98)) (hT : hTb M) (hB : hBd M) {a1 a2 : Int} : (hf_136_8 M a1 a2).1 = (hf_208_97 (hf_136_8 M a1 a2).2 a1 a2).1 ∧ hHs (hf_208_97 (hf_136_8 M a1 a2).2 a1 a2).2 9 ((hf_208_97 (hf_136_8 M a1 a2).2 a1 a2).2 98) := by
  have k0 : M 10 3 = M 98 0 := h.1.1
  have k1 : M 12 3 = M 98 1 := h.2.1.1
  have k2 : M 14 3 = M 98 2 := h.2.2.1.1
  have k3 : M 16 3 = M 98 3 := h.2.2.2.1.1
  have k4 : M 18 3 = M 98 4 := h.2.2.2.2.1.1
  have k6 : M 24 3 = M 98 6 := h.2.2.2.2.2.2.1.1
  have k7 : M 9 8 = M 98 7 := h.2.2.2.2.2.2.2.1
  have k8 : M 9 9 = M 98 8 := h.2.2.2.2.2.2.2.2.1
  have b7 : 0 ≤ M 98 7 ∧ M 98 7 ≤ 1000 := h.2.2.2.2.2.2.2.2.2
  obtain ⟨b0, b1, b2, b3, b4, b5, b6⟩ := id hB
  have ra1_3 : (0 ≤ a1 ∧ a1 < M 98 4) → hR_get M 18 a1 3 = M 98 (353 + 12 * (a1).toNat) := fun q => by rw [hrA h hT (by omega) (by decide), show 350 + 12 * (a1).toNat + (3 : Int).toNat = 353 + 12 * (a1).toNat by simp only [Int.reduceToNat]; omega]
  have ra1_1 : (0 ≤ a1 ∧ a1 < M 98 4) → hR_get M 18 a1 1 = M 98 (351 + 12 * (a1).toNat) := fun q => by rw [hrA h hT (by omega) (by decide), show 350 + 12 * (a1).toNat + (1 : Int).toNat = 351 + 12 * (a1).toNat by simp only [Int.reduceToNat]; omega]
  have ga : (0 ≤ a1 ∧ a1 < M 98 4) → 0 ≤ M 98 (351 + 12 * a1.toNat) ∧ M 98 (351 + 12 * a1.toNat) ≤ 9999 := fun q => (h.2.2.2.2.1.2 a1.toNat (by omega)).2.2.2
  by_cases C : (0 ≤ a1 ∧ a1 < M 98 4) ∧ (0 ≤ a2 ∧ a2 ≤ 9999)
  · have r1 := ra1_1 C.1
    have r3 := ra1_3 C.1
    have g1 := ga C.1
    obtain ⟨D1, hD1⟩ : ∃ x : Int, x = M 98 (351 + 12 * a1.toNat) := ⟨_, rfl⟩
    rw [← hD1] at r1 g1
    have wd : w32 (D1 + M 98 7) = D1 + M 98 7 := w32_id (by omega)
    have wm : w32 (a2 - D1) = a2 - D1 := w32_id (by omega)
    by_cases D : ¬ M 98 (353 + 12 * a1.toNat) = -1 ∧ (D1 ≤ a2 ∧ a2 ≤ D1 + M 98 7)
    · by_cases hf : M 98 4 < 250
      · obtain ⟨v, ev, ⟨v0, v1, v2, v3⟩, ⟨v4, v5, v6, v7⟩, v8, v9, v10⟩ := hN18 (a := 5) (b := a2) (c := a2) (d := (-1)) hT (by omega)
        have e1 : hf_136_8 M a1 a2 = (M 18 3, hD M (M 18 3) (hup v 6 a1)) := by
          unfold hf_136_8; simp only [hq_174, hq_175, hq_171, hq_172, hq_170, hq_169, hq_178, hq_19, hq_has, hq_173, r1, r3, k7, wd]
          (repeat' split) <;> first | omega | (rw [ev]; dsimp only; (repeat rw [hD_set hT (by omega) (by decide)]) <;> rfl)
        rw [e1, k4]; dsimp only
        obtain ⟨X, hXe⟩ : ∃ X, X = hD M (M 98 4) (hup v 6 a1) := ⟨_, rfl⟩
        rw [← hXe]
        have hX : X 98 = M 98 := by rw [hXe]; rfl
        have hBX : hBd X := hB.same hX
        have sa1_3 : (0 ≤ a1 ∧ a1 < M 98 4) → hf_194_97 X a1 3 = M 98 (353 + 12 * (a1).toNat) := fun q => by rw [hv_194 (by omega) (by decide), hX, show 350 + 12 * (a1).toNat + (3 : Int).toNat = 353 + 12 * (a1).toNat by simp only [Int.reduceToNat]; omega]
        have sa1_1 : (0 ≤ a1 ∧ a1 < M 98 4) → hf_194_97 X a1 1 = M 98 (351 + 12 * (a1).toNat) := fun q => by rw [hv_194 (by omega) (by decide), hX, show 350 + 12 * (a1).toNat + (1 : Int).toNat = 351 + 12 * (a1).toNat by simp only [Int.reduceToNat]; omega]
        have s1 := sa1_1 C.1
        have s3 := sa1_3 C.1
        rw [← hD1] at s1
        obtain ⟨q, eq, ⟨q0, q1, q2, q3⟩, ⟨q4, q5, q6, q7⟩, q8, q9, q10, q11⟩ := hN196 (M := X) (a := 5) (b := a2) (c := a2) (d := (-1)) (by rw [hX]; omega)
        have e2 : hf_208_97 X a1 a2 = (M 98 4, zput (hE X (M 98 4) (hup q 6 a1)) 98 4 (M 98 4 + 1)) := by
          have e3 : (hE X (X 98 4) (hup q 6 a1)) 98 (4 : Int).toNat = M 98 4 := by rw [show (hE X (X 98 4) (hup q 6 a1)) 98 (4 : Int).toNat = X 98 4 from zrow_out (by simp only [Int.reduceToNat]; omega), hX]
          have e5 := hN183 (M := hE X (X 98 4) (hup q 6 a1)) (c := 4) (by rw [e3]; omega)
          rw [e3] at e5
          unfold hf_208_97; simp only [hq_182_0 hBX, hq_182_1 hBX, hq_182_2 hBX, hq_182_3 hBX, hq_182_4 hBX, hq_182_5 hBX, hq_185, hq_184, hq_180, hq_197, hq_198 hBX, hq_200 hBX, hq_252, s1, s3, wm, hX, Int.reduceToNat]
          (repeat' split) <;> first | omega | (rw [eq]; (repeat rw [hE_put (M := X) (by rw [hX]; omega) (by decide)]); rw [hX] at e5 ⊢; simp only [Int.reduceToNat] at e5 ⊢; rw [e5])
        rw [e2, hXe]; dsimp only
        refine ⟨rfl, hAct h (by omega) ⟨fun k hk => ?_, ?_, ?_, ?_⟩⟩
        · rcases (by omega : k = 0 ∨ k = 1 ∨ k = 2 ∨ k = 3 ∨ k = 4 ∨ k = 5 ∨ k = 6 ∨ k = 7) with rfl | rfl | rfl | rfl | rfl | rfl | rfl | rfl <;> simp [hup, v0, v1, v2, v3, v4, v5, v6, v7, q0, q1, q2, q3, q4, q5, q6, q7]
        · simp [hup, v8, q0, q8]
        · simp [hup, v8, v9, v10, q0, q9, q10, q11]
        · simp only [hup]; simp [q1]; omega
      · skip
        have e1 : hf_136_8 M a1 a2 = (-4, M) := by
          unfold hf_136_8; simp only [hq_174, hq_175, hq_171, hq_172, hq_170, hq_169, hq_178, hq_19, hq_has, hq_173, r1, r3, k7, wd]
          (repeat' split) <;> first | omega | rfl | (rw [hN18f hT (by omega)]; dsimp only; (repeat rw [hS_neg (by decide)]) <;> rfl)
        rw [e1]; dsimp only
        have hX : M 98 = M 98 := rfl
        have sa1_3 : (0 ≤ a1 ∧ a1 < M 98 4) → hf_194_97 M a1 3 = M 98 (353 + 12 * (a1).toNat) := fun q => by rw [hv_194 (by omega) (by decide), hX, show 350 + 12 * (a1).toNat + (3 : Int).toNat = 353 + 12 * (a1).toNat by simp only [Int.reduceToNat]; omega]
        have sa1_1 : (0 ≤ a1 ∧ a1 < M 98 4) → hf_194_97 M a1 1 = M 98 (351 + 12 * (a1).toNat) := fun q => by rw [hv_194 (by omega) (by decide), hX, show 350 + 12 * (a1).toNat + (1 : Int).toNat = 351 + 12 * (a1).toNat by simp only [Int.reduceToNat]; omega]
        have s1 := sa1_1 C.1
        have s3 := sa1_3 C.1
        rw [← hD1] at s1
        have e2 : hf_208_97 M a1 a2 = (-4, M) := by
          unfold hf_208_97; simp only [hq_182_0 hB, hq_182_1 hB, hq_182_2 hB, hq_182_3 hB, hq_182_4 hB, hq_182_5 hB, hq_185, hq_184, hq_180, hq_197, hq_198 hB, hq_200 hB, hq_252, s1, s3, wm, Int.reduceToNat]
          (repeat' split) <;> first | omega | rfl
        rw [e2]; exact ⟨rfl, h⟩
    · skip
      have e1 : hf_136_8 M a1 a2 = (-3, M) := by
        unfold hf_136_8; simp only [hq_174, hq_175, hq_171, hq_172, hq_170, hq_169, hq_178, hq_19, hq_has, hq_173, r1, r3, k7, wd]
        (repeat' split) <;> first | omega | rfl
      rw [e1]; dsimp only
      have hX : M 98 = M 98 := rfl
      have sa1_3 : (0 ≤ a1 ∧ a1 < M 98 4) → hf_194_97 M a1 3 = M 98 (353 + 12 * (a1).toNat) := fun q => by rw [hv_194 (by omega) (by decide), hX, show 350 + 12 * (a1).toNat + (3 : Int).toNat = 353 + 12 * (a1).toNat by simp only [Int.reduceToNat]; omega]
      have sa1_1 : (0 ≤ a1 ∧ a1 < M 98 4) → hf_194_97 M a1 1 = M 98 (351 + 12 * (a1).toNat) := fun q => by rw [hv_194 (by omega) (by decide), hX, show 350 + 12 * (a1).toNat + (1 : Int).toNat = 351 + 12 * (a1).toNat by simp only [Int.reduceToNat]; omega]
      have s1 := sa1_1 C.1
      have s3 := sa1_3 C.1
      rw [← hD1] at s1
      have e2 : hf_208_97 M a1 a2 = (-3, M) := by
        unfold hf_208_97; simp only [hq_182_0 hB, hq_182_1 hB, hq_182_2 hB, hq_182_3 hB, hq_182_4 hB, hq_182_5 hB, hq_185, hq_184, hq_180, hq_197, hq_198 hB, hq_200 hB, hq_252, s1, s3, wm, Int.reduceToNat]
        (repeat' split) <;> first | omega | rfl
      rw [e2]; exact ⟨rfl, h⟩
  · skip
    have e1 : hf_136_8 M a1 a2 = (-2, M) := by
      unfold hf_136_8; simp only [hq_174, hq_175, hq_171, hq_172, hq_170, hq_169, hq_178, hq_19, hq_has, hq_173]
      (repeat' split) <;> first | omega | rfl
    rw [e1]; dsimp only
    have e2 : hf_208_97 M a1 a2 = (-2, M) := by
      unfold hf_208_97; simp only [hq_182_0 hB, hq_182_1 hB, hq_182_2 hB, hq_182_3 hB, hq_182_4 hB, hq_182_5 hB, hq_185, hq_184, hq_180, hq_197, hq_198 hB, hq_200 hB, hq_252, Int.reduceToNat]
      (repeat' split) <;> first | omega | rfl
    rw [e2]; exact ⟨rfl, h⟩
end HL
