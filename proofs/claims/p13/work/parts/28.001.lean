theorem qm_224_97 {n d : Nat} {M : zM} (hd : 2 ≤ d) (hC : qMI M)  (a1 : Int) (ha1 : 3 ≤ a1 ∧ a1 ≤ 8) (hp0 : 0 ≤ M 97 10) (hp1 : qD M = qWt M + 1) (hp2 : M 97 7 + M 97 10 ≤ 80) : qOkN n d 224 [.inr (.inr (some 97)), .inl a1] 2 [105, 106, 1007, 1010] M (fun v M' => v = none ∧ (0 ≤ M' 97 10) ∧ (qD M' = qWt M' + 1) ∧ (M' 97 7 + M' 97 10 = M 97 7 + M 97 10)) := by
  have hz := zp_224
  have hd0 : 0 < d := by omega
  have hW : qFm [105, 106, 1007, 1010] M M := qFm.rfl
  have r1 := hC.steps
  have r2 := hC.rg 97 10 (by decide) (by decide)
  show zG n (0, 0) d 224 (0, [.inr (.inr (some 97)), .inl a1], []) M _
  have j0 : ∀ (N : Nat) (M3 : zM) , (M3 97 10 : Int).toNat < N → (0 ≤ M3 97 10) → (qD M3 = qWt M3 + 1) → (M3 97 7 + M3 97 10 = M 97 7 + M 97 10) → qMI M3 → qFm [105, 106, 1007, 1010] M M3 → zG n (0, 0) d 224 (0, [.inr (.inr (some 97)), .inl a1], []) M3 (fun v M' => (qMI M' ∧ qFm [105, 106, 1007, 1010] M M') ∧ v = none ∧ (0 ≤ M' 97 10) ∧ (qD M' = qWt M' + 1) ∧ (M' 97 7 + M' 97 10 = M 97 7 + M 97 10)) := by
    intro N
    induction N with
    | zero => intro M3 hN hx0_0 hx1_0 hx2_0 hCM3 hWM3; exact absurd hN (Nat.not_lt_zero _)
    | succ N ih0 =>
      intro M3 hN hx0_0 hx1_0 hx2_0 hCM3 hWM3
      have r4 := hCM3.steps
      have r5 := hCM3.rg 97 10 (by decide) (by decide)
      refine zG_blk (c' := (4, [.inr (.inr (some 97)), .inl a1], [.inl (M3 97 10)])) 2 hd0 hz (by rfl) ?_
      have j52 : zG n (0, 0) d 224 (52, [.inr (.inr (some 97)), .inl a1], []) M3 (fun v M' => (qMI M' ∧ qFm [105, 106, 1007, 1010] M M') ∧ v = none ∧ (0 ≤ M' 97 10) ∧ (qD M' = qWt M' + 1) ∧ (M' 97 7 + M' 97 10 = M 97 7 + M 97 10)) := by
        exact zG_ret hd0 hz rfl rfl ⟨⟨hCM3, hWM3⟩, rfl, by omega, by omega, by omega⟩
      refine zG_if_le hd0 hz rfl (fun hb6 => ?_) (fun hb6 => ?_)
      · exact j52
      · obtain ⟨x7, hx7⟩ : ∃ x : Int, x = w32 ((M3 97 10) - 1) := ⟨_, rfl⟩
        have hx7r : x7 = ((M3 97 10) - 1 + 2147483648) % 4294967296 - 2147483648 := hx7
        refine zG_blk (c' := (17, [.inr (.inr (some 97)), .inl a1], [.inl x7, .inr (.inr (some 107))])) 6 hd0 hz (by subst hx7; rfl) ?_
        refine zG_iald hd0 hz rfl rfl (.inl rfl) (by omega) ?_
        obtain ⟨x8, hx8⟩ : ∃ x : Int, x = M3 107 (x7 : Int).toNat := ⟨_, rfl⟩
        rw [← hx8]
        have hx8r : qin x8 := by rw [hx8]; exact hCM3.ra 107 _ (by decide) (by decide)
        obtain ⟨y17, hy17⟩ : ∃ y : Int, y = x8 := ⟨_, rfl⟩
        have hz17 : y17 = M3 107 (M3 97 10 - 1).toNat := by rw [hy17, hx8, show x7 = M3 97 10 - 1 by omega]
        show zG n (0, 0) d 224 (18, [.inr (.inr (some 97)), .inl a1], [.inl x8]) M3 _
        refine zG_call hd0 hz zp_221 rfl rfl (Nat.le_of_ble_eq_true rfl) ⟨Nat.le_refl _, Nat.le_refl _⟩ (qx_holds (by first | exact zdp hd (by decide) | omega) hCM3   x8 (by omega) ) (fun vr M9 hr => ?_)
        obtain ⟨hq, x10, rfl, hx10⟩ := hr
        replace hq := hq.symm; subst hq
        show zG n (0, 0) d 224 (21, [.inr (.inr (some 97)), .inl a1], [.inl x10]) M3 _
        refine zG_blk (c' := (22, [.inr (.inr (some 97)), .inl a1], [.inl a1, .inl x10])) 1 hd0 hz (by rfl) ?_
        refine zG_icmp_lt hd0 hz rfl (fun hb11 => ?_) (fun hb11 => ?_)
        · exact j52
        · obtain ⟨x12, hx12⟩ : ∃ x : Int, x = w32 ((M3 97 10) - 1) := ⟨_, rfl⟩
          have hx12r : x12 = ((M3 97 10) - 1 + 2147483648) % 4294967296 - 2147483648 := hx12
          refine zG_blk (c' := (32, [.inr (.inr (some 97)), .inl a1], [.inl x12, .inr (.inr (some 97))])) 5 hd0 hz (by subst hx12; rfl) ?_
          refine zG_putf (.inl rfl) hd0 hz rfl (by decide) rfl rfl ?_
          obtain ⟨M13, hM13⟩ : ∃ X : zM, X = zput M3 97 10 x12 := ⟨_, rfl⟩
          rw [← hM13]
          have hCM13 : qMI M13 := by rw [hM13]; exact hCM3.put (by decide) (by decide) (by refine ⟨fun _ => ?_, fun _ => ?_, fun h => ⟨fun _ => ?_, fun _ => ?_, fun _ => ?_, fun _ => ?_, fun _ => ?_⟩, fun h => ?_, fun h => ?_⟩ <;> first | omega | exact absurd rfl (by assumption) | (rename_i h9; exact absurd h9 (by decide)))
          have hWM13 : qFm [105, 106, 1007, 1010] M M13 := by rw [hM13]; exact hWM3.put (by decide)
          have e14 : M13 97 7 = M3 97 7 := by rw [hM13]; exact qput_nk (by decide)
          have e15 : qD M13 = qD M3 := by rw [hM13]; exact qD_put (by decide) (by decide)
          have e16 : M13 97 10 = x12 := by rw [hM13]; exact qput_eq
          have hpp := hM13
          have hpx : x12 = M3 97 10 - 1 := by omega
          have hpy : M13 97 10 = x12 := by rw [hpp]; exact qput_eq
          have hpop := qWt_pop (y := y17) hpp hpx (by omega) (by rw [hpx]; exact hz17)
          have hwt := qwt_is y17
          have hnn : 0 ≤ qWt M13 := qWs_nn _ _
          show zG n (0, 0) d 224 (35, [.inr (.inr (some 97)), .inl a1], []) M13 _
          refine zG_blk (c' := (44, [.inr (.inr (some 97)), .inl a1], [.inl (M13 97 10), .inr (.inr (some 107)), .inr (.inr (some 97))])) 5 hd0 hz (by rfl) ?_
          refine zG_iald hd0 hz rfl rfl (.inl rfl) (by omega) ?_
          obtain ⟨x17, hx17⟩ : ∃ x : Int, x = M13 107 ((M13 97 10) : Int).toNat := ⟨_, rfl⟩
          rw [← hx17]
          have hx17r : qin x17 := by rw [hx17]; exact hCM13.ra 107 _ (by decide) (by decide)
          have hyy : x17 = y17 := by rw [hx17, hpy, hpp, hz17, hpx]; exact qput_ne (by decide)
          show zG n (0, 0) d 224 (45, [.inr (.inr (some 97)), .inl a1], [.inl x17, .inr (.inr (some 97))]) M13 _
          refine zG_blk (c' := (46, [.inr (.inr (some 97)), .inl a1], [.inl 0, .inl x17, .inr (.inr (some 97))])) 1 hd0 hz (by rfl) ?_
          refine zG_call hd0 hz zp_220 rfl rfl (Nat.le_of_ble_eq_true rfl) ⟨Nat.le_refl _, Nat.le_refl _⟩ (qx_emits (by first | exact zdp hd (by decide) | omega) hCM13   x17 (by omega) 0 (by first | decide | omega) (by omega) (by omega) (by omega)) (fun vr M18 hr => ?_)
          obtain ⟨⟨hCM18, hFM18⟩, rfl, hpx19_0, hpx19_1⟩ := hr
          have hWM18 : qFm [105, 106, 1007, 1010] M M18 := hWM13.tr hFM18 (by decide)
          have e22 : M18 97 10 = M13 97 10 := hFM18 97 10 (by decide)
          have e23 : qWt M18 = qWt M13 := qWt_fr hFM18 (by decide) (by decide)
          have r24 := hCM18.steps
          show zG n (0, 0) d 224 (49, [.inr (.inr (some 97)), .inl a1], []) M18 _
          refine zG_blk (c' := (0, [.inr (.inr (some 97)), .inl a1], [])) 1 hd0 hz (by rfl) ?_
          exact ih0 M18 (by omega) (by omega) (by omega) (by omega) hCM18 hWM18
  exact j0 ((M 97 10 : Int).toNat + 1) M (by omega) (by omega) (by omega) (by omega) hC hW
