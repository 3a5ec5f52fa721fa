/-! THE MODEL'S METHODS, BY PROGRAM -/
theorem qn_257_97 {n d : Nat} {M : zM} (hd : 7 ≤ d) (hC : qMI M)  (a1 : Int) (ha1 : (-2147483648) ≤ a1 ∧ a1 ≤ 2147483647) (a2 : Int) (ha2 : (-2147483648) ≤ a2 ∧ a2 ≤ 2147483647) (a3 : Int) (ha3 : (-2147483648) ≤ a3 ∧ a3 ≤ 2147483647) (a4 : Int) (ha4 : 0 ≤ a4 ∧ a4 ≤ 1) : qOkN n d 257 [.inr (.inr (some 97)), .inl a1, .inl a2, .inl a3, .inl a4] 7 [98, 105, 106, 107, 1007, 1010, 1012, 1013] M (fun v M' => ∃ x : Int, v = some (.inl x) ∧ ((-2147483648) ≤ x ∧ x ≤ 2147483647) ∧ (M' 98 6 = M 98 6) ∧ (∀ j : Nat, j ≠ 5 ∧ ((j : Int) < 4000 ∨ 5640 ≤ j) → M' 98 j = M 98 j)) := by
  have hz : zP 257 = (zk_X11_ordain, 7, (0, 0)) := rfl
  have hd0 : 0 < d := by omega
  have hW : qFm [98, 105, 106, 107, 1007, 1010, 1012, 1013] M M := qFm.rfl
  have hX98_M : ∀ j : Nat, j ≠ 5 ∧ ((j : Int) < 4000 ∨ 5640 ≤ j) → M 98 j = M 98 j := fun _ _ => rfl
  have r1 := hC.cnt6
  have r2 := hC.cnt5
  show zG n (0, 0) d 257 (0, [.inr (.inr (some 97)), .inl a1, .inl a2, .inl a3, .inl a4, zN, zN], []) M _
  refine zG_blk (c' := (1, [.inr (.inr (some 97)), .inl a1, .inl a2, .inl a3, .inl a4, zN, zN], [.inl a1])) 1 hd0 hz (by rfl) ?_
  refine zG_call hd0 hz (rfl : zP 252 = (zk_X11_isText, 1, (0, 0))) rfl rfl (Nat.le_of_ble_eq_true rfl) ⟨Nat.le_refl _, Nat.le_refl _⟩ (qm_252 (by omega) hC   a1 (by omega) ) (fun vr M3 hr => ?_)
  obtain ⟨hq, x4, rfl, hx4, hpx4_0⟩ := hr
  replace hq := hq.symm; subst hq
  show zG n (0, 0) d 257 (4, [.inr (.inr (some 97)), .inl a1, .inl a2, .inl a3, .inl a4, zN, zN], [.inl x4]) M _
  have j21 : zG n (0, 0) d 257 (21, [.inr (.inr (some 97)), .inl a1, .inl a2, .inl a3, .inl a4, zN, zN], []) M (fun v M' => (qMI M' ∧ qFm [98, 105, 106, 107, 1007, 1010, 1012, 1013] M M') ∧ ∃ x : Int, v = some (.inl x) ∧ ((-2147483648) ≤ x ∧ x ≤ 2147483647) ∧ (M' 98 6 = M 98 6) ∧ (∀ j : Nat, j ≠ 5 ∧ ((j : Int) < 4000 ∨ 5640 ≤ j) → M' 98 j = M 98 j)) := by
    refine zG_blk (c' := (23, [.inr (.inr (some 97)), .inl a1, .inl a2, .inl a3, .inl a4, zN, zN], [.inl (-2)])) 1 hd0 hz (by rfl) ?_
    exact zG_ret hd0 hz rfl rfl ⟨⟨hC, hW⟩, _, rfl, by omega, by omega, hX98_M⟩
  refine zG_if_eq hd0 hz rfl (fun hb5 => ?_) (fun hb5 => ?_)
  · exact j21
  · refine zG_blk (c' := (8, [.inr (.inr (some 97)), .inl a1, .inl a2, .inl a3, .inl a4, zN, zN], [.inl a2])) 1 hd0 hz (by rfl) ?_
    refine zG_call hd0 hz (rfl : zP 252 = (zk_X11_isText, 1, (0, 0))) rfl rfl (Nat.le_of_ble_eq_true rfl) ⟨Nat.le_refl _, Nat.le_refl _⟩ (qm_252 (by omega) hC   a2 (by omega) ) (fun vr M6 hr => ?_)
    obtain ⟨hq, x7, rfl, hx7, hpx7_0⟩ := hr
    replace hq := hq.symm; subst hq
    show zG n (0, 0) d 257 (11, [.inr (.inr (some 97)), .inl a1, .inl a2, .inl a3, .inl a4, zN, zN], [.inl x7]) M _
    refine zG_if_eq hd0 hz rfl (fun hb8 => ?_) (fun hb8 => ?_)
    · exact j21
    · refine zG_blk (c' := (15, [.inr (.inr (some 97)), .inl a1, .inl a2, .inl a3, .inl a4, zN, zN], [.inl a3])) 1 hd0 hz (by rfl) ?_
      refine zG_call hd0 hz (rfl : zP 184 = (zk_X11_isDay, 1, (0, 0))) rfl rfl (Nat.le_of_ble_eq_true rfl) ⟨Nat.le_refl _, Nat.le_refl _⟩ (qm_184 (by omega) hC   a3 (by omega) ) (fun vr M9 hr => ?_)
      obtain ⟨hq, x10, rfl, hx10, hpx10_0⟩ := hr
      replace hq := hq.symm; subst hq
      show zG n (0, 0) d 257 (18, [.inr (.inr (some 97)), .inl a1, .inl a2, .inl a3, .inl a4, zN, zN], [.inl x10]) M _
      refine zG_if_ne hd0 hz rfl (fun hb11 => ?_) (fun hb11 => ?_)
      · obtain ⟨x12, hx12⟩ : ∃ x : Int, x = w32 (81 * a1) := ⟨_, rfl⟩
        have hx12e : x12 = 81 * a1 := by rw [hx12]; exact w32_id (by omega)
        obtain ⟨x13, hx13⟩ : ∃ x : Int, x = w32 (3350 + x12) := ⟨_, rfl⟩
        have hx13e : x13 = 3350 + x12 := by rw [hx13]; exact w32_id (by omega)
        refine zG_blk (c' := (33, [.inr (.inr (some 97)), .inl a1, .inl a2, .inl a3, .inl a4, zN, zN], [.inl x13, .inr (.inr (some 97))])) 6 hd0 hz (by subst hx13; subst hx12; rfl) ?_
        refine zG_call hd0 hz (rfl : zP 231 = (zk_X11_reads, 8, (0, 0))) rfl rfl (Nat.le_of_ble_eq_true rfl) ⟨Nat.le_refl _, Nat.le_refl _⟩ (qm_231_97 (by omega) hC   x13 (by omega) (by exact hC.txt a1 _ (by omega) (by omega))) (fun vr M14 hr => ?_)
        obtain ⟨⟨hCM14, hFM14⟩, x15, rfl, hx15⟩ := hr
        have hWM14 : qFm [98, 105, 106, 107, 1007, 1010, 1012, 1013] M M14 := hW.tr hFM14 (by decide)
        have e16 : M14 98 6 = M 98 6 := hFM14 98 6 (by decide)
        have e17 : M14 98 5 = M 98 5 := hFM14 98 5 (by decide)
        have hX98_M14 : ∀ j : Nat, j ≠ 5 ∧ ((j : Int) < 4000 ∨ 5640 ≤ j) → M14 98 j = M 98 j := fun j hj => (hFM14.ar 98 j (by decide) (by decide)).trans (hX98_M j hj)
        show zG n (0, 0) d 257 (36, [.inr (.inr (some 97)), .inl a1, .inl a2, .inl a3, .inl a4, zN, zN], [.inl x15]) M14 _
        refine zG_blk (c' := (37, [.inr (.inr (some 97)), .inl a1, .inl a2, .inl a3, .inl a4, zN, zN], [.inl (-1), .inl x15])) 1 hd0 hz (by rfl) ?_
        have j56 : ∀ (M18 : zM) , (M18 98 6 = M 98 6) → qMI M18 → qFm [98, 105, 106, 107, 1007, 1010, 1012, 1013] M M18 → (∀ j : Nat, j ≠ 5 ∧ ((j : Int) < 4000 ∨ 5640 ≤ j) → M18 98 j = M 98 j) → zG n (0, 0) d 257 (56, [.inr (.inr (some 97)), .inl a1, .inl a2, .inl a3, .inl a4, zN, zN], []) M18 (fun v M' => (qMI M' ∧ qFm [98, 105, 106, 107, 1007, 1010, 1012, 1013] M M') ∧ ∃ x : Int, v = some (.inl x) ∧ ((-2147483648) ≤ x ∧ x ≤ 2147483647) ∧ (M' 98 6 = M 98 6) ∧ (∀ j : Nat, j ≠ 5 ∧ ((j : Int) < 4000 ∨ 5640 ≤ j) → M' 98 j = M 98 j)) := by
          intro M18 hx0_56 hCM18 hWM18 hX98_M18
          have r19 := hCM18.cnt6
          refine zG_blk (c' := (58, [.inr (.inr (some 97)), .inl a1, .inl a2, .inl a3, .inl a4, zN, zN], [.inl (-3)])) 1 hd0 hz (by rfl) ?_
          exact zG_ret hd0 hz rfl rfl ⟨⟨hCM18, hWM18⟩, _, rfl, by omega, by omega, hX98_M18⟩
        refine zG_icmp_ne hd0 hz rfl (fun hb20 => ?_) (fun hb20 => ?_)
        · exact j56 M14 (by omega) hCM14 hWM14 hX98_M14
        · obtain ⟨x21, hx21⟩ : ∃ x : Int, x = w32 (81 * a2) := ⟨_, rfl⟩
          have hx21e : x21 = 81 * a2 := by rw [hx21]; exact w32_id (by omega)
          obtain ⟨x22, hx22⟩ : ∃ x : Int, x = w32 (3350 + x21) := ⟨_, rfl⟩
          have hx22e : x22 = 3350 + x21 := by rw [hx22]; exact w32_id (by omega)
          refine zG_blk (c' := (49, [.inr (.inr (some 97)), .inl a1, .inl a2, .inl a3, .inl a4, zN, zN], [.inl x22, .inr (.inr (some 97))])) 6 hd0 hz (by subst hx22; subst hx21; rfl) ?_
          refine zG_call hd0 hz (rfl : zP 231 = (zk_X11_reads, 8, (0, 0))) rfl rfl (Nat.le_of_ble_eq_true rfl) ⟨Nat.le_refl _, Nat.le_refl _⟩ (qm_231_97 (by omega) hCM14   x22 (by omega) (by exact hCM14.txt a2 _ (by omega) (by omega))) (fun vr M23 hr => ?_)
          obtain ⟨⟨hCM23, hFM23⟩, x24, rfl, hx24⟩ := hr
          have hWM23 : qFm [98, 105, 106, 107, 1007, 1010, 1012, 1013] M M23 := hWM14.tr hFM23 (by decide)
          have e25 : M23 98 6 = M14 98 6 := hFM23 98 6 (by decide)
          have e26 : M23 98 5 = M14 98 5 := hFM23 98 5 (by decide)
          have hX98_M23 : ∀ j : Nat, j ≠ 5 ∧ ((j : Int) < 4000 ∨ 5640 ≤ j) → M23 98 j = M 98 j := fun j hj => (hFM23.ar 98 j (by decide) (by decide)).trans (hX98_M14 j hj)
          show zG n (0, 0) d 257 (52, [.inr (.inr (some 97)), .inl a1, .inl a2, .inl a3, .inl a4, zN, zN], [.inl x24]) M23 _
          refine zG_blk (c' := (53, [.inr (.inr (some 97)), .inl a1, .inl a2, .inl a3, .inl a4, zN, zN], [.inl (-1), .inl x24])) 1 hd0 hz (by rfl) ?_
          refine zG_icmp_eq hd0 hz rfl (fun hb27 => ?_) (fun hb27 => ?_)
          · refine zG_blk (c' := (64, [.inr (.inr (some 97)), .inl a1, .inl a2, .inl a3, .inl a4, zN, zN], [.inl 5, .inr (.inr (some 98))])) 3 hd0 hz (by rfl) ?_
            refine zG_iald hd0 hz rfl rfl (.inl rfl) (by omega) ?_
            show zG n (0, 0) d 257 (65, [.inr (.inr (some 97)), .inl a1, .inl a2, .inl a3, .inl a4, zN, zN], [.inl (M23 98 5)]) M23 _
            refine zG_blk (c' := (67, [.inr (.inr (some 97)), .inl a1, .inl a2, .inl a3, .inl a4, zN, zN], [.inl 10, .inl (M23 98 5)])) 1 hd0 hz (by rfl) ?_
            refine zG_icmp_ne hd0 hz rfl (fun hb28 => ?_) (fun hb28 => ?_)
            · refine zG_blk (c' := (84, [.inr (.inr (some 97)), .inl a1, .inl a2, .inl a3, .inl a4, zN, zN], [.inl 5, .inr (.inr (some 98)), .inl 164, .inl 4000])) 5 hd0 hz (by rfl) ?_
              refine zG_iald hd0 hz rfl rfl (.inl rfl) (by omega) ?_
              show zG n (0, 0) d 257 (85, [.inr (.inr (some 97)), .inl a1, .inl a2, .inl a3, .inl a4, zN, zN], [.inl (M23 98 5), .inl 164, .inl 4000]) M23 _
              obtain ⟨x29, hx29⟩ : ∃ x : Int, x = w32 (164 * (M23 98 5)) := ⟨_, rfl⟩
              have hx29e : x29 = 164 * (M23 98 5) := by rw [hx29]; exact w32_id (by omega)
              obtain ⟨x30, hx30⟩ : ∃ x : Int, x = w32 (4000 + x29) := ⟨_, rfl⟩
              have hx30e : x30 = 4000 + x29 := by rw [hx30]; exact w32_id (by omega)
              refine zG_blk (c' := (92, [.inr (.inr (some 97)), .inl a1, .inl a2, .inl a3, .inl a4, .inl x30, .inl 0], [])) 5 hd0 hz (by subst hx30; subst hx29; rfl) ?_
              have j92 : ∀ (N : Nat) (v31 : Int) (M32 : zM) , (81 - v31 : Int).toNat < N → 0 ≤ v31 ∧ v31 ≤ 81 → (M32 98 6 = M 98 6) → (M32 98 5 = M 98 5) → qMI M32 → qFm [98, 105, 106, 107, 1007, 1010, 1012, 1013] M M32 → (∀ j : Nat, j ≠ 5 ∧ ((j : Int) < 4000 ∨ 5640 ≤ j) → M32 98 j = M 98 j) → zG n (0, 0) d 257 (92, [.inr (.inr (some 97)), .inl a1, .inl a2, .inl a3, .inl a4, .inl x30, .inl v31], []) M32 (fun v M' => (qMI M' ∧ qFm [98, 105, 106, 107, 1007, 1010, 1012, 1013] M M') ∧ ∃ x : Int, v = some (.inl x) ∧ ((-2147483648) ≤ x ∧ x ≤ 2147483647) ∧ (M' 98 6 = M 98 6) ∧ (∀ j : Nat, j ≠ 5 ∧ ((j : Int) < 4000 ∨ 5640 ≤ j) → M' 98 j = M 98 j)) := by
                intro N
                induction N with
                | zero => intro v31 M32 hN hv31 hx0_92 hx1_92 hCM32 hWM32 hX98_M32; exact absurd hN (Nat.not_lt_zero _)
                | succ N ih92 =>
                  intro v31 M32 hN hv31 hx0_92 hx1_92 hCM32 hWM32 hX98_M32
                  have r33 := hCM32.cnt6
                  have r34 := hCM32.cnt5
                  refine zG_blk (c' := (96, [.inr (.inr (some 97)), .inl a1, .inl a2, .inl a3, .inl a4, .inl x30, .inl v31], [.inl 81, .inl v31])) 2 hd0 hz (by rfl) ?_
                  refine zG_icmp_ge hd0 hz rfl (fun hb35 => ?_) (fun hb35 => ?_)
                  · obtain ⟨x36, hx36⟩ : ∃ x : Int, x = w32 (x30 + 162) := ⟨_, rfl⟩
                    have hx36e : x36 = x30 + 162 := by rw [hx36]; exact w32_id (by omega)
                    refine zG_blk (c' := (171, [.inr (.inr (some 97)), .inl a1, .inl a2, .inl a3, .inl a4, .inl x30, .inl v31], [.inl a3, .inl x36, .inr (.inr (some 98))])) 6 hd0 hz (by subst hx36; rfl) ?_
                    refine zG_iast hd0 hz rfl rfl (by omega) ?_
                    obtain ⟨M37, hM37⟩ : ∃ X : zM, X = zput M32 98 (x36 : Int).toNat a3 := ⟨_, rfl⟩
                    rw [← hM37]
                    have hCM37 : qMI M37 := by rw [hM37]; exact hCM32.put98' (by refine ⟨by omega, fun _ => by omega, fun _ => by omega, fun _ => by omega, fun _ => by omega, fun _ => by omega, fun _ => by omega, fun _ => by omega, fun c9 hc9 _ => by omega, fun u9 hu9 _ => by omega, fun m9 hm9 _ => by omega, fun a9 ha9 => ⟨fun _ => by omega, fun _ => by omega, fun _ => by omega, fun _ => by omega⟩, fun t9 ht9 _ => by omega, fun o9 ho9 _ => by omega⟩) (by omega) (by omega)
                    have hWM37 : qFm [98, 105, 106, 107, 1007, 1010, 1012, 1013] M M37 := by rw [hM37]; exact hWM32.pa (by decide) (by decide)
                    have e38 : M37 98 6 = M32 98 6 := by rw [hM37]; exact qput_nk (by omega)
                    have e39 : M37 98 5 = M32 98 5 := by rw [hM37]; exact qput_nk (by omega)
                    have hX98_M37 : ∀ j : Nat, j ≠ 5 ∧ ((j : Int) < 4000 ∨ 5640 ≤ j) → M37 98 j = M 98 j := fun j hj => by rw [hM37, qput_nk (by omega)]; exact hX98_M32 j hj
                    show zG n (0, 0) d 257 (172, [.inr (.inr (some 97)), .inl a1, .inl a2, .inl a3, .inl a4, .inl x30, .inl v31], []) M37 _
                    obtain ⟨x40, hx40⟩ : ∃ x : Int, x = w32 (x30 + 163) := ⟨_, rfl⟩
                    have hx40e : x40 = x30 + 163 := by rw [hx40]; exact w32_id (by omega)
                    refine zG_blk (c' := (184, [.inr (.inr (some 97)), .inl a1, .inl a2, .inl a3, .inl a4, .inl x30, .inl v31], [.inl a4, .inl x40, .inr (.inr (some 98))])) 6 hd0 hz (by subst hx40; rfl) ?_
                    have j192 : ∀ (v41 : Int) , 0 ≤ v41 ∧ v41 ≤ 1 → zG n (0, 0) d 257 (192, [.inr (.inr (some 97)), .inl a1, .inl a2, .inl a3, .inl a4, .inl x30, .inl v31], [.inl v41, .inl x40, .inr (.inr (some 98))]) M37 (fun v M' => (qMI M' ∧ qFm [98, 105, 106, 107, 1007, 1010, 1012, 1013] M M') ∧ ∃ x : Int, v = some (.inl x) ∧ ((-2147483648) ≤ x ∧ x ≤ 2147483647) ∧ (M' 98 6 = M 98 6) ∧ (∀ j : Nat, j ≠ 5 ∧ ((j : Int) < 4000 ∨ 5640 ≤ j) → M' 98 j = M 98 j)) := by
                      intro v41 hv41
                      refine zG_iast hd0 hz rfl rfl (by omega) ?_
                      obtain ⟨M42, hM42⟩ : ∃ X : zM, X = zput M37 98 (x40 : Int).toNat v41 := ⟨_, rfl⟩
                      rw [← hM42]
                      have hCM42 : qMI M42 := by rw [hM42]; exact hCM37.put98' (by refine ⟨by omega, fun _ => by omega, fun _ => by omega, fun _ => by omega, fun _ => by omega, fun _ => by omega, fun _ => by omega, fun _ => by omega, fun c9 hc9 _ => by omega, fun u9 hu9 _ => by omega, fun m9 hm9 _ => by omega, fun a9 ha9 => ⟨fun _ => by omega, fun _ => by omega, fun _ => by omega, fun _ => by omega⟩, fun t9 ht9 _ => by omega, fun o9 ho9 _ => by omega⟩) (by omega) (by omega)
                      have hWM42 : qFm [98, 105, 106, 107, 1007, 1010, 1012, 1013] M M42 := by rw [hM42]; exact hWM37.pa (by decide) (by decide)
                      have e43 : M42 98 6 = M37 98 6 := by rw [hM42]; exact qput_nk (by omega)
                      have e44 : M42 98 5 = M37 98 5 := by rw [hM42]; exact qput_nk (by omega)
                      have hX98_M42 : ∀ j : Nat, j ≠ 5 ∧ ((j : Int) < 4000 ∨ 5640 ≤ j) → M42 98 j = M 98 j := fun j hj => by rw [hM42, qput_nk (by omega)]; exact hX98_M37 j hj
                      show zG n (0, 0) d 257 (193, [.inr (.inr (some 97)), .inl a1, .inl a2, .inl a3, .inl a4, .inl x30, .inl v31], []) M42 _
                      refine zG_blk (c' := (195, [.inr (.inr (some 97)), .inl a1, .inl a2, .inl a3, .inl a4, .inl x30, .inl v31], [.inl 5, .inr (.inr (some 97))])) 2 hd0 hz (by rfl) ?_
                      refine zG_call hd0 hz (rfl : zP 183 = (zk_X11_one, 2, (0, 0))) rfl rfl (Nat.le_of_ble_eq_true rfl) ⟨Nat.le_refl _, Nat.le_refl _⟩ (qx_oneC (by omega) hCM42   5 (by decide) (by decide) (by refine ⟨by omega, fun _ => by omega, fun _ => by omega, fun _ => by omega, fun _ => by omega, fun _ => by omega, fun _ => by omega, fun _ => by omega, fun c9 hc9 _ => by omega, fun u9 hu9 _ => by omega, fun m9 hm9 _ => by omega, fun a9 ha9 => ⟨fun _ => by omega, fun _ => by omega, fun _ => by omega, fun _ => by omega⟩, fun t9 ht9 _ => by omega, fun o9 ho9 _ => by omega⟩) ) (fun vr M45 hr => ?_)
                      obtain ⟨⟨hCM45, hFM45⟩, x46, rfl, hx46, hpx46_0, hpx46_1⟩ := hr
                      have hWM45 : qFm [98, 105, 106, 107, 1007, 1010, 1012, 1013] M M45 := hWM42.tr hFM45 (by decide)
                      have e47 : M45 98 6 = M42 98 6 := hpx46_1 _ (by omega)
                      have hX98_M45 : ∀ j : Nat, j ≠ 5 ∧ ((j : Int) < 4000 ∨ 5640 ≤ j) → M45 98 j = M 98 j := fun j hj => (hpx46_1 j (by omega)).trans (hX98_M42 j hj)
                      show zG n (0, 0) d 257 (198, [.inr (.inr (some 97)), .inl a1, .inl a2, .inl a3, .inl a4, .inl x30, .inl v31], [.inl x46]) M45 _
                      exact zG_ret hd0 hz rfl rfl ⟨⟨hCM45, hWM45⟩, _, rfl, by omega, by omega, hX98_M45⟩
                    refine zG_if_eq hd0 hz rfl (fun hb49 => ?_) (fun hb49 => ?_)
                    · refine zG_blk (c' := (192, [.inr (.inr (some 97)), .inl a1, .inl a2, .inl a3, .inl a4, .inl x30, .inl v31], [.inl 0, .inl x40, .inr (.inr (some 98))])) 1 hd0 hz (by rfl) ?_
                      exact j192 0 (by omega)
                    · refine zG_blk (c' := (192, [.inr (.inr (some 97)), .inl a1, .inl a2, .inl a3, .inl a4, .inl x30, .inl v31], [.inl 1, .inl x40, .inr (.inr (some 98))])) 2 hd0 hz (by rfl) ?_
                      exact j192 1 (by omega)
                  · obtain ⟨x50, hx50⟩ : ∃ x : Int, x = w32 (x30 + v31) := ⟨_, rfl⟩
                    have hx50e : x50 = x30 + v31 := by rw [hx50]; exact w32_id (by omega)
                    obtain ⟨x51, hx51⟩ : ∃ x : Int, x = w32 (81 * a1) := ⟨_, rfl⟩
                    have hx51e : x51 = 81 * a1 := by rw [hx51]; exact w32_id (by omega)
                    obtain ⟨x52, hx52⟩ : ∃ x : Int, x = w32 (3350 + x51) := ⟨_, rfl⟩
                    have hx52e : x52 = 3350 + x51 := by rw [hx52]; exact w32_id (by omega)
                    obtain ⟨x53, hx53⟩ : ∃ x : Int, x = w32 (x52 + v31) := ⟨_, rfl⟩
                    have hx53e : x53 = x52 + v31 := by rw [hx53]; exact w32_id (by omega)
                    refine zG_blk (c' := (123, [.inr (.inr (some 97)), .inl a1, .inl a2, .inl a3, .inl a4, .inl x30, .inl v31], [.inl x53, .inr (.inr (some 98)), .inl x50, .inr (.inr (some 98))])) 14 hd0 hz (by subst hx53; subst hx52; subst hx51; subst hx50; rfl) ?_
                    refine zG_iald hd0 hz rfl rfl (.inl rfl) (by omega) ?_
                    obtain ⟨x54, hx54⟩ : ∃ x : Int, x = M32 98 (x53 : Int).toNat := ⟨_, rfl⟩
                    rw [← hx54]
                    have hx54r : qin x54 := by rw [hx54]; exact hCM32.sin _
                    have hl0 : v31 = 0 → 0 ≤ x54 ∧ x54 ≤ 80 := fun h9 => by rw [hx54]; exact hCM32.txt a1 _ (by omega) (by omega)
                    show zG n (0, 0) d 257 (124, [.inr (.inr (some 97)), .inl a1, .inl a2, .inl a3, .inl a4, .inl x30, .inl v31], [.inl x54, .inl x50, .inr (.inr (some 98))]) M32 _
                    refine zG_iast hd0 hz rfl rfl (by omega) ?_
                    obtain ⟨M55, hM55⟩ : ∃ X : zM, X = zput M32 98 (x50 : Int).toNat x54 := ⟨_, rfl⟩
                    rw [← hM55]
                    have hCM55 : qMI M55 := by rw [hM55]; exact hCM32.put98' (by refine ⟨by omega, fun _ => by omega, fun _ => by omega, fun _ => by omega, fun _ => by omega, fun _ => by omega, fun _ => by omega, fun _ => by omega, fun c9 hc9 _ => by omega, fun u9 hu9 _ => by omega, fun m9 hm9 _ => by omega, fun a9 ha9 => ⟨fun _ => by omega, fun _ => by omega, fun _ => by omega, fun _ => by omega⟩, fun t9 ht9 _ => by omega, fun o9 ho9 _ => by omega⟩) (by omega) (by omega)
                    have hWM55 : qFm [98, 105, 106, 107, 1007, 1010, 1012, 1013] M M55 := by rw [hM55]; exact hWM32.pa (by decide) (by decide)
                    have e56 : M55 98 6 = M32 98 6 := by rw [hM55]; exact qput_nk (by omega)
                    have e57 : M55 98 5 = M32 98 5 := by rw [hM55]; exact qput_nk (by omega)
                    have hX98_M55 : ∀ j : Nat, j ≠ 5 ∧ ((j : Int) < 4000 ∨ 5640 ≤ j) → M55 98 j = M 98 j := fun j hj => by rw [hM55, qput_nk (by omega)]; exact hX98_M32 j hj
                    show zG n (0, 0) d 257 (125, [.inr (.inr (some 97)), .inl a1, .inl a2, .inl a3, .inl a4, .inl x30, .inl v31], []) M55 _
                    obtain ⟨x58, hx58⟩ : ∃ x : Int, x = w32 (x30 + 81) := ⟨_, rfl⟩
                    have hx58e : x58 = x30 + 81 := by rw [hx58]; exact w32_id (by omega)
                    obtain ⟨x59, hx59⟩ : ∃ x : Int, x = w32 (x58 + v31) := ⟨_, rfl⟩
                    have hx59e : x59 = x58 + v31 := by rw [hx59]; exact w32_id (by omega)
                    obtain ⟨x60, hx60⟩ : ∃ x : Int, x = w32 (81 * a2) := ⟨_, rfl⟩
                    have hx60e : x60 = 81 * a2 := by rw [hx60]; exact w32_id (by omega)
                    obtain ⟨x61, hx61⟩ : ∃ x : Int, x = w32 (3350 + x60) := ⟨_, rfl⟩
                    have hx61e : x61 = 3350 + x60 := by rw [hx61]; exact w32_id (by omega)
                    obtain ⟨x62, hx62⟩ : ∃ x : Int, x = w32 (x61 + v31) := ⟨_, rfl⟩
                    have hx62e : x62 = x61 + v31 := by rw [hx62]; exact w32_id (by omega)
                    refine zG_blk (c' := (152, [.inr (.inr (some 97)), .inl a1, .inl a2, .inl a3, .inl a4, .inl x30, .inl v31], [.inl x62, .inr (.inr (some 98)), .inl x59, .inr (.inr (some 98))])) 16 hd0 hz (by subst hx62; subst hx61; subst hx60; subst hx59; subst hx58; rfl) ?_
                    refine zG_iald hd0 hz rfl rfl (.inl rfl) (by omega) ?_
                    obtain ⟨x63, hx63⟩ : ∃ x : Int, x = M55 98 (x62 : Int).toNat := ⟨_, rfl⟩
                    rw [← hx63]
                    have hx63r : qin x63 := by rw [hx63]; exact hCM55.sin _
                    have hl1 : v31 = 0 → 0 ≤ x63 ∧ x63 ≤ 80 := fun h9 => by rw [hx63]; exact hCM55.txt a2 _ (by omega) (by omega)
                    show zG n (0, 0) d 257 (153, [.inr (.inr (some 97)), .inl a1, .inl a2, .inl a3, .inl a4, .inl x30, .inl v31], [.inl x63, .inl x59, .inr (.inr (some 98))]) M55 _
                    refine zG_iast hd0 hz rfl rfl (by omega) ?_
                    obtain ⟨M64, hM64⟩ : ∃ X : zM, X = zput M55 98 (x59 : Int).toNat x63 := ⟨_, rfl⟩
                    rw [← hM64]
                    have hCM64 : qMI M64 := by rw [hM64]; exact hCM55.put98' (by refine ⟨by omega, fun _ => by omega, fun _ => by omega, fun _ => by omega, fun _ => by omega, fun _ => by omega, fun _ => by omega, fun _ => by omega, fun c9 hc9 _ => by omega, fun u9 hu9 _ => by omega, fun m9 hm9 _ => by omega, fun a9 ha9 => ⟨fun _ => by omega, fun _ => by omega, fun _ => by omega, fun _ => by omega⟩, fun t9 ht9 _ => by omega, fun o9 ho9 _ => by omega⟩) (by omega) (by omega)
                    have hWM64 : qFm [98, 105, 106, 107, 1007, 1010, 1012, 1013] M M64 := by rw [hM64]; exact hWM55.pa (by decide) (by decide)
                    have e65 : M64 98 6 = M55 98 6 := by rw [hM64]; exact qput_nk (by omega)
                    have e66 : M64 98 5 = M55 98 5 := by rw [hM64]; exact qput_nk (by omega)
                    have hX98_M64 : ∀ j : Nat, j ≠ 5 ∧ ((j : Int) < 4000 ∨ 5640 ≤ j) → M64 98 j = M 98 j := fun j hj => by rw [hM64, qput_nk (by omega)]; exact hX98_M55 j hj
                    show zG n (0, 0) d 257 (154, [.inr (.inr (some 97)), .inl a1, .inl a2, .inl a3, .inl a4, .inl x30, .inl v31], []) M64 _
                    obtain ⟨x67, hx67⟩ : ∃ x : Int, x = w32 (v31 + 1) := ⟨_, rfl⟩
                    have hx67e : x67 = v31 + 1 := by rw [hx67]; exact w32_id (by omega)
                    refine zG_blk (c' := (92, [.inr (.inr (some 97)), .inl a1, .inl a2, .inl a3, .inl a4, .inl x30, .inl x67], [])) 2 hd0 hz (by subst hx67; rfl) ?_
                    exact ih92 x67 M64 (by omega) (by omega) (by omega) (by omega) hCM64 hWM64 hX98_M64
              exact j92 ((81 - 0 : Int).toNat + 1) 0 M23 (by omega) (by omega) (by omega) (by omega) hCM23 hWM23 hX98_M23
            · refine zG_blk (c' := (72, [.inr (.inr (some 97)), .inl a1, .inl a2, .inl a3, .inl a4, zN, zN], [.inl (-4)])) 1 hd0 hz (by rfl) ?_
              exact zG_ret hd0 hz rfl rfl ⟨⟨hCM23, hWM23⟩, _, rfl, by omega, by omega, hX98_M23⟩
          · exact j56 M23 (by omega) hCM23 hWM23 hX98_M23
      · exact j21
