theorem qm_263 {n d : Nat} {M : zM} (hd : 1 ≤ d) (hC : qMI M)  (a0 : Int) (ha0 : 1 ≤ a0 ∧ a0 ≤ 16383) : qOkP n d 263 [.inl a0] 3 M (fun v => ∃ x : Int, v = some (.inl x) ∧ (2 ≤ x ∧ x ≤ 32767) ∧ (a0 < x)) := by
  have hz := zp_263
  have hd0 : 0 < d := by omega
  show zG n (0, 0) d 263 (0, [.inl a0, zN, zN], []) M _
  obtain ⟨x1, hx1⟩ : ∃ x : Int, x = w32 (-a0) := ⟨_, rfl⟩
  have hx1r : qin x1 := by rw [hx1]; exact w32_in _
  obtain ⟨x2, hx2⟩ : ∃ x : Int, x = zband a0 x1 := ⟨_, rfl⟩
  have hx2r := qband_l a0 x1 (by omega) (by omega); rw [← hx2] at hx2r
  have hlw : 1 ≤ x2 ∧ x2 ≤ a0 := by rw [hx2, hx1]; exact qlow a0 (by first | with_reducible exact ha0 | omega)
  obtain ⟨x3, hx3⟩ : ∃ x : Int, x = w32 (a0 + x2) := ⟨_, rfl⟩
  have hx3e : x3 = a0 + x2 := by rw [hx3]; exact w32_id (by omega)
  obtain ⟨x4, hx4⟩ : ∃ x : Int, x = zbxor a0 x3 := ⟨_, rfl⟩
  have hx4r := qbxor_in a0 x3 32768 15 (by decide) (by decide) (by omega) (by omega); rw [← hx4] at hx4r
  refine zG_blk (c' := (14, [.inl a0, .inl x2, .inl x3], [.inl x2, .inl x4, .inl x3])) 14 hd0 hz (by subst hx4; subst hx3; subst hx2; subst hx1; rfl) ?_
  refine zG_idiv hd0 hz rfl (by omega) ?_
  have hx5 := qtdiv_in x4 x2 (by omega) (by omega)
  generalize w32 (x4.tdiv x2) = x5 at hx5 ⊢
  show zG n (0, 0) d 263 (15, [.inl a0, .inl x2, .inl x3], [.inl x5, .inl x3]) M _
  obtain ⟨x6, hx6⟩ : ∃ x : Int, x = zbshr x5 2 := ⟨_, rfl⟩
  have hx6r := qbshr_n x5 2 (by first | decide | omega); rw [← hx6] at hx6r
  obtain ⟨x7, hx7⟩ : ∃ x : Int, x = zbor x3 x6 := ⟨_, rfl⟩
  have hx7r := qbor_in x3 x6 32768 15 (by decide) (by decide) (by omega) (by omega); rw [← hx7] at hx7r
  refine zG_blk (c' := (18, [.inl a0, .inl x2, .inl x3], [.inl x7])) 3 hd0 hz (by subst hx7; subst hx6; rfl) ?_
  exact zG_ret hd0 hz rfl rfl ⟨rfl, _, rfl, by omega, by omega⟩
