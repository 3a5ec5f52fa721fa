theorem qm_269_97 {n d : Nat} {M : zM} (hd : 3 ≤ d) (hC : qMI M)  (a1 : Int) (ha1 : 0 ≤ a1 ∧ a1 ≤ 16383) (a2 : Int) (ha2 : 0 ≤ a2 ∧ a2 ≤ 2) (a3 : Int) (ha3 : 1 ≤ a3 ∧ a3 ≤ 4) : qOkN n d 269 [.inr (.inr (some 97)), .inl a1, .inl a2, .inl a3] 9 [115, 1030] M (fun v M' => ∃ x : Int, v = some (.inl x) ∧ (0 ≤ x ∧ x ≤ 16383)) := by
  have hz := zp_269
  have hd0 : 0 < d := by omega
  have hW : qFm [115, 1030] M M := qFm.rfl
  show zG n (0, 0) d 269 (0, [.inr (.inr (some 97)), .inl a1, .inl a2, .inl a3, zN, zN, zN, zN, zN], []) M _
  obtain ⟨x1, hx1⟩ : ∃ x : Int, x = w32 (3 * a1) := ⟨_, rfl⟩
  have hx1e : x1 = 3 * a1 := by rw [hx1]; exact w32_id (by omega)
  obtain ⟨x2, hx2⟩ : ∃ x : Int, x = w32 (x1 + a2) := ⟨_, rfl⟩
  have hx2e : x2 = x1 + a2 := by rw [hx2]; exact w32_id (by omega)
  refine zG_blk (c' := (9, [.inr (.inr (some 97)), .inl a1, .inl a2, .inl a3, zN, zN, zN, zN, zN], [.inl x2, .inr (.inr (some 114))])) 7 hd0 hz (by subst hx2; subst hx1; rfl) ?_
  refine zG_iald hd0 hz rfl rfl (.inl rfl) (by omega) ?_
  obtain ⟨x3, hx3⟩ : ∃ x : Int, x = M 114 (x2 : Int).toNat := ⟨_, rfl⟩
  rw [← hx3]
  have hx3r : qin x3 := by rw [hx3]; exact hC.ra 114 _ (by decide) (by decide)
  show zG n (0, 0) d 269 (10, [.inr (.inr (some 97)), .inl a1, .inl a2, .inl a3, zN, zN, zN, zN, zN], [.inl x3]) M _
  refine zG_blk (c' := (18, [.inr (.inr (some 97)), .inl a1, .inl a2, .inl a3, .inl x3, .inl 0, zN, zN, zN], [.inl a2, .inl a1, .inr (.inr (some 97))])) 6 hd0 hz (by rfl) ?_
  refine zG_call hd0 hz zp_261 rfl rfl (Nat.le_of_ble_eq_true rfl) ⟨Nat.le_refl _, Nat.le_refl _⟩ (qm_261_97 (by first | exact zdp hd (by decide) | omega) hC   a1 (by first | with_reducible exact ha1 | omega) a2 (by first | with_reducible exact ha2 | omega) ) (fun vr M4 hr => ?_)
  obtain ⟨⟨hCM4, hFM4⟩, rfl⟩ := hr
  have hWM4 : qFm [115, 1030] M M4 := hW.tr hFM4 (by decide)
  show zG n (0, 0) d 269 (21, [.inr (.inr (some 97)), .inl a1, .inl a2, .inl a3, .inl x3, .inl 0, zN, zN, zN], []) M4 _
  refine zG_blk (c' := (23, [.inr (.inr (some 97)), .inl a1, .inl a2, .inl a3, .inl x3, .inl 0, zN, zN, zN], [.inl a3, .inr (.inr (some 97))])) 2 hd0 hz (by rfl) ?_
  refine zG_call hd0 hz zp_264 rfl rfl (Nat.le_of_ble_eq_true rfl) ⟨Nat.le_refl _, Nat.le_refl _⟩ (qm_264_97 (by first | exact zdp hd (by decide) | omega) hCM4   a3 (by first | with_reducible exact ha3 | omega) ) (fun vr M6 hr => ?_)
  obtain ⟨hq, x7, rfl, hx7⟩ := hr
  replace hq := hq.symm; subst hq
  show zG n (0, 0) d 269 (26, [.inr (.inr (some 97)), .inl a1, .inl a2, .inl a3, .inl x3, .inl 0, zN, zN, zN], [.inl x7]) M4 _
  obtain ⟨x8, hx8⟩ : ∃ x : Int, x = zbshl 1 x7 := ⟨_, rfl⟩
  have hx8r := qshl1_in x7 16384 14 (by decide) (by decide) (by omega); rw [← hx8] at hx8r
  obtain ⟨x9, hx9⟩ : ∃ x : Int, x = w32 (x8 - 1) := ⟨_, rfl⟩
  have hx9e : x9 = x8 - 1 := by rw [hx9]; exact w32_id (by omega)
  refine zG_blk (c' := (36, [.inr (.inr (some 97)), .inl a1, .inl a2, .inl a3, .inl x3, .inl 0, .inl x7, .inl x9, zN], [])) 7 hd0 hz (by subst hx9; subst hx8; rfl) ?_
  have j36 : ∀ (N : Nat) (v10 v11 : Int) , (32768 - v11 : Int).toNat < N → 0 ≤ v10 ∧ v10 ≤ 16383 → 0 ≤ v11 ∧ v11 ≤ 32767 → (0 < x7 → 1 ≤ v11) → zG n (0, 0) d 269 (36, [.inr (.inr (some 97)), .inl a1, .inl a2, .inl a3, .inl x3, .inl v10, .inl x7, .inl v11, zN], []) M4 (fun v M' => (qMI M' ∧ qFm [115, 1030] M M') ∧ ∃ x : Int, v = some (.inl x) ∧ (0 ≤ x ∧ x ≤ 16383)) := by
    intro N
    induction N with
    | zero => intro v10 v11 hN hv10 hv11 hx0_36; exact absurd hN (Nat.not_lt_zero _)
    | succ N ih36 =>
      intro v10 v11 hN hv10 hv11 hx0_36
      refine zG_blk (c' := (38, [.inr (.inr (some 97)), .inl a1, .inl a2, .inl a3, .inl x3, .inl v10, .inl x7, .inl v11, zN], [.inl x7])) 1 hd0 hz (by rfl) ?_
      have j103 : zG n (0, 0) d 269 (103, [.inr (.inr (some 97)), .inl a1, .inl a2, .inl a3, .inl x3, .inl v10, .inl x7, .inl v11, zN], []) M4 (fun v M' => (qMI M' ∧ qFm [115, 1030] M M') ∧ ∃ x : Int, v = some (.inl x) ∧ (0 ≤ x ∧ x ≤ 16383)) := by
        refine zG_blk (c' := (105, [.inr (.inr (some 97)), .inl a1, .inl a2, .inl a3, .inl x3, .inl v10, .inl x7, .inl v11, zN], [.inl v10])) 1 hd0 hz (by rfl) ?_
        exact zG_ret hd0 hz rfl rfl ⟨⟨hCM4, hWM4⟩, _, rfl, by omega⟩
      refine zG_if_le hd0 hz rfl (fun hb12 => ?_) (fun hb12 => ?_)
      · exact j103
      · have r13 := hCM4.f30
        obtain ⟨x14, hx14⟩ : ∃ x : Int, x = zbshl 1 (M4 97 30) := ⟨_, rfl⟩
        have hx14r := qshl1_in (M4 97 30) 16384 14 (by decide) (by decide) (by omega); rw [← hx14] at hx14r
        refine zG_blk (c' := (49, [.inr (.inr (some 97)), .inl a1, .inl a2, .inl a3, .inl x3, .inl v10, .inl x7, .inl v11, zN], [.inl x14, .inl v11])) 5 hd0 hz (by subst hx14; rfl) ?_
        refine zG_icmp_ge hd0 hz rfl (fun hb15 => ?_) (fun hb15 => ?_)
        · exact j103
        · refine zG_blk (c' := (55, [.inr (.inr (some 97)), .inl a1, .inl a2, .inl a3, .inl x3, .inl v10, .inl x7, .inl v11, zN], [.inl v11, .inr (.inr (some 97))])) 2 hd0 hz (by rfl) ?_
          refine zG_call hd0 hz zp_262 rfl rfl (Nat.le_of_ble_eq_true rfl) ⟨Nat.le_refl _, Nat.le_refl _⟩ (qm_262_97 (by first | exact zdp hd (by decide) | omega) hCM4   v11 (by first | with_reducible exact hv11 | omega) ) (fun vr M16 hr => ?_)
          obtain ⟨hq, x17, rfl, hx17⟩ := hr
          replace hq := hq.symm; subst hq
          show zG n (0, 0) d 269 (58, [.inr (.inr (some 97)), .inl a1, .inl a2, .inl a3, .inl x3, .inl v10, .inl x7, .inl v11, zN], [.inl x17]) M4 _
          obtain ⟨x18, hx18⟩ : ∃ x : Int, x = zbor a1 x17 := ⟨_, rfl⟩
          have hx18r := qbor_in a1 x17 16384 14 (by decide) (by decide) (by omega) (by omega); rw [← hx18] at hx18r
          obtain ⟨x19, hx19⟩ : ∃ x : Int, x = w32 (3 * x18) := ⟨_, rfl⟩
          have hx19e : x19 = 3 * x18 := by rw [hx19]; exact w32_id (by omega)
          obtain ⟨x20, hx20⟩ : ∃ x : Int, x = w32 (a2 + 1) := ⟨_, rfl⟩
          have hx20e : x20 = a2 + 1 := by rw [hx20]; exact w32_id (by omega)
          refine zG_blk (c' := (75, [.inr (.inr (some 97)), .inl a1, .inl a2, .inl a3, .inl x3, .inl v10, .inl x7, .inl v11, .inl x17], [.inl 3, .inl x20, .inl x19, .inr (.inr (some 114)), .inl 1])) 13 hd0 hz (by subst hx20; subst hx19; subst hx18; rfl) ?_
          refine zG_irem hd0 hz rfl (by omega) ?_
          have hx21 := qtmod_in x20 3 (by first | decide | omega)
          generalize x20.tmod 3 = x21 at hx21 ⊢
          show zG n (0, 0) d 269 (76, [.inr (.inr (some 97)), .inl a1, .inl a2, .inl a3, .inl x3, .inl v10, .inl x7, .inl v11, .inl x17], [.inl x21, .inl x19, .inr (.inr (some 114)), .inl 1]) M4 _
          obtain ⟨x22, hx22⟩ : ∃ x : Int, x = w32 (x19 + x21) := ⟨_, rfl⟩
          have hx22e : x22 = x19 + x21 := by rw [hx22]; exact w32_id (by omega)
          refine zG_blk (c' := (77, [.inr (.inr (some 97)), .inl a1, .inl a2, .inl a3, .inl x3, .inl v10, .inl x7, .inl v11, .inl x17], [.inl x22, .inr (.inr (some 114)), .inl 1])) 1 hd0 hz (by subst hx22; rfl) ?_
          refine zG_iald hd0 hz rfl rfl (.inl rfl) (by omega) ?_
          obtain ⟨x23, hx23⟩ : ∃ x : Int, x = M4 114 (x22 : Int).toNat := ⟨_, rfl⟩
          rw [← hx23]
          have hx23r : qin x23 := by rw [hx23]; exact hCM4.ra 114 _ (by decide) (by decide)
          show zG n (0, 0) d 269 (78, [.inr (.inr (some 97)), .inl a1, .inl a2, .inl a3, .inl x3, .inl v10, .inl x7, .inl v11, .inl x17], [.inl x23, .inl 1]) M4 _
          obtain ⟨x24, hx24⟩ : ∃ x : Int, x = w32 (1 + x23) := ⟨_, rfl⟩
          have hx24r : x24 = (1 + x23 + 2147483648) % 4294967296 - 2147483648 := hx24
          refine zG_blk (c' := (81, [.inr (.inr (some 97)), .inl a1, .inl a2, .inl a3, .inl x3, .inl v10, .inl x7, .inl v11, .inl x17], [.inl x3, .inl x24])) 2 hd0 hz (by subst hx24; rfl) ?_
          have j91 : ∀ (v25 : Int) , 0 ≤ v25 ∧ v25 ≤ 16383 → zG n (0, 0) d 269 (91, [.inr (.inr (some 97)), .inl a1, .inl a2, .inl a3, .inl x3, .inl v10, .inl x7, .inl v11, .inl x17], [.inl v25]) M4 (fun v M' => (qMI M' ∧ qFm [115, 1030] M M') ∧ ∃ x : Int, v = some (.inl x) ∧ (0 ≤ x ∧ x ≤ 16383)) := by
            intro v25 hv25
            refine zG_blk (c' := (95, [.inr (.inr (some 97)), .inl a1, .inl a2, .inl a3, .inl x3, .inl v25, .inl x7, .inl v11, .inl x17], [.inl v11])) 2 hd0 hz (by rfl) ?_
            refine zG_call hd0 hz zp_263 rfl rfl (Nat.le_of_ble_eq_true rfl) ⟨Nat.le_refl _, Nat.le_refl _⟩ (qm_263 (by first | exact zdp hd (by decide) | omega) hCM4   v11 (by first | with_reducible exact hv11 | omega) ) (fun vr M26 hr => ?_)
            obtain ⟨hq, x27, rfl, hx27, hpx27_0⟩ := hr
            replace hq := hq.symm; subst hq
            show zG n (0, 0) d 269 (98, [.inr (.inr (some 97)), .inl a1, .inl a2, .inl a3, .inl x3, .inl v25, .inl x7, .inl v11, .inl x17], [.inl x27]) M4 _
            refine zG_blk (c' := (36, [.inr (.inr (some 97)), .inl a1, .inl a2, .inl a3, .inl x3, .inl v25, .inl x7, .inl x27, .inl x17], [])) 2 hd0 hz (by rfl) ?_
            exact zG_weak (ih36 v25 x27 (by omega) (by omega) (by omega) (by omega)) ⟨.inr rfl, .inr rfl, .inr rfl, .inr rfl, .inr rfl, .inr rfl, .inr rfl, .inr rfl, .inl rfl, trivial⟩
          refine zG_icmp_ne hd0 hz rfl (fun hb28 => ?_) (fun hb28 => ?_)
          · refine zG_blk (c' := (91, [.inr (.inr (some 97)), .inl a1, .inl a2, .inl a3, .inl x3, .inl v10, .inl x7, .inl v11, .inl x17], [.inl v10])) 1 hd0 hz (by rfl) ?_
            exact j91 v10 (by first | with_reducible exact hv10 | omega)
          · refine zG_blk (c' := (91, [.inr (.inr (some 97)), .inl a1, .inl a2, .inl a3, .inl x3, .inl v10, .inl x7, .inl v11, .inl x17], [.inl x17])) 2 hd0 hz (by rfl) ?_
            exact j91 x17 (by omega)
  exact j36 ((32768 - x9 : Int).toNat + 1) 0 x9 (by omega) (by omega) (by omega) (by omega)
