/-! THE MODEL'S METHODS, BY PROGRAM -/
theorem qn_251_97 {n d : Nat} {M : zM} (hd : 10 ≤ d) (hC : qMI M)  (a1 : Int) (ha1 : (-2147483648) ≤ a1 ∧ a1 ≤ 2147483647) (a2 : Int) (ha2 : (-2147483648) ≤ a2 ∧ a2 ≤ 2147483647) (a3 : Int) (ha3 : (-2147483648) ≤ a3 ∧ a3 ≤ 2147483647) : qOkN n d 251 [.inr (.inr (some 97)), .inl a1, .inl a2, .inl a3] 7 [98, 101, 102, 103, 104, 105, 106, 107, 108, 109, 110, 111, 112, 113, 1007, 1010, 1012, 1013, 1016, 1018, 1019, 1020, 1021, 1022, 1023] M (fun v M' => ∃ x : Int, v = some (.inl x) ∧ ((-3) ≤ x ∧ x ≤ 2147483647) ∧ (M' 98 6 = M 98 6) ∧ (M' 98 (154 + 5 * a1).toNat = M 98 (154 + 5 * a1).toNat) ∧ (∀ j : Nat, (j : Int) ≠ 154 + 5 * a1 → M' 98 j = M 98 j)) := by
  have hz : zP 251 = (zk_X11_hangs, 7, (0, 0)) := rfl
  have hd0 : 0 < d := by omega
  have hW : qFm [98, 101, 102, 103, 104, 105, 106, 107, 108, 109, 110, 111, 112, 113, 1007, 1010, 1012, 1013, 1016, 1018, 1019, 1020, 1021, 1022, 1023] M M := qFm.rfl
  have hX98_M : ∀ j : Nat, (j : Int) ≠ 154 + 5 * a1 → M 98 j = M 98 j := fun _ _ => rfl
  have r1 := hC.cnt6
  have r2 := hC.cnt1
  have r3 := hC.cnt3
  show zG n (0, 0) d 251 (0, [.inr (.inr (some 97)), .inl a1, .inl a2, .inl a3, zN, zN, zN], []) M _
  refine zG_blk (c' := (3, [.inr (.inr (some 97)), .inl a1, .inl a2, .inl a3, zN, zN, zN], [.inl a1, .inl 3, .inr (.inr (some 97))])) 3 hd0 hz (by rfl) ?_
  refine zG_call hd0 hz (rfl : zP 182 = (zk_X11_is, 3, (0, 0))) rfl rfl (Nat.le_of_ble_eq_true rfl) ⟨Nat.le_refl _, Nat.le_refl _⟩ (qx_is (by omega) hC   3 (by omega) a1 (by omega) ) (fun vr M4 hr => ?_)
  obtain ⟨hq, x5, rfl, hx5⟩ := hr
  replace hq := hq.symm; subst hq
  show zG n (0, 0) d 251 (6, [.inr (.inr (some 97)), .inl a1, .inl a2, .inl a3, zN, zN, zN], [.inl x5]) M _
  have j23 : zG n (0, 0) d 251 (23, [.inr (.inr (some 97)), .inl a1, .inl a2, .inl a3, zN, zN, zN], []) M (fun v M' => (qMI M' ∧ qFm [98, 101, 102, 103, 104, 105, 106, 107, 108, 109, 110, 111, 112, 113, 1007, 1010, 1012, 1013, 1016, 1018, 1019, 1020, 1021, 1022, 1023] M M') ∧ ∃ x : Int, v = some (.inl x) ∧ ((-3) ≤ x ∧ x ≤ 2147483647) ∧ (M' 98 6 = M 98 6) ∧ (M' 98 (154 + 5 * a1).toNat = M 98 (154 + 5 * a1).toNat) ∧ (∀ j : Nat, (j : Int) ≠ 154 + 5 * a1 → M' 98 j = M 98 j)) := by
    refine zG_blk (c' := (25, [.inr (.inr (some 97)), .inl a1, .inl a2, .inl a3, zN, zN, zN], [.inl (-2)])) 1 hd0 hz (by rfl) ?_
    exact zG_ret hd0 hz rfl rfl ⟨⟨hC, hW⟩, _, rfl, by omega, by omega, by omega, hX98_M⟩
  refine zG_if_eq hd0 hz rfl (fun hb6 => ?_) (fun hb6 => ?_)
  · exact j23
  · refine zG_blk (c' := (10, [.inr (.inr (some 97)), .inl a1, .inl a2, .inl a3, zN, zN, zN], [.inl a2])) 1 hd0 hz (by rfl) ?_
    refine zG_call hd0 hz (rfl : zP 184 = (zk_X11_isDay, 1, (0, 0))) rfl rfl (Nat.le_of_ble_eq_true rfl) ⟨Nat.le_refl _, Nat.le_refl _⟩ (qm_184 (by omega) hC   a2 (by omega) ) (fun vr M7 hr => ?_)
    obtain ⟨hq, x8, rfl, hx8, hpx8_0⟩ := hr
    replace hq := hq.symm; subst hq
    show zG n (0, 0) d 251 (13, [.inr (.inr (some 97)), .inl a1, .inl a2, .inl a3, zN, zN, zN], [.inl x8]) M _
    refine zG_if_eq hd0 hz rfl (fun hb9 => ?_) (fun hb9 => ?_)
    · exact j23
    · refine zG_blk (c' := (17, [.inr (.inr (some 97)), .inl a1, .inl a2, .inl a3, zN, zN, zN], [.inl a3])) 1 hd0 hz (by rfl) ?_
      refine zG_call hd0 hz (rfl : zP 184 = (zk_X11_isDay, 1, (0, 0))) rfl rfl (Nat.le_of_ble_eq_true rfl) ⟨Nat.le_refl _, Nat.le_refl _⟩ (qm_184 (by omega) hC   a3 (by omega) ) (fun vr M10 hr => ?_)
      obtain ⟨hq, x11, rfl, hx11, hpx11_0⟩ := hr
      replace hq := hq.symm; subst hq
      show zG n (0, 0) d 251 (20, [.inr (.inr (some 97)), .inl a1, .inl a2, .inl a3, zN, zN, zN], [.inl x11]) M _
      refine zG_if_ne hd0 hz rfl (fun hb12 => ?_) (fun hb12 => ?_)
      · refine zG_blk (c' := (28, [.inr (.inr (some 97)), .inl a1, .inl a2, .inl a3, zN, zN, zN], [.inl a1, .inr (.inr (some 97))])) 2 hd0 hz (by rfl) ?_
        refine zG_call hd0 hz (rfl : zP 192 = (zk_X11_isStanding, 4, (0, 0))) rfl rfl (Nat.le_of_ble_eq_true rfl) ⟨Nat.le_refl _, Nat.le_refl _⟩ (qm_192_97 (by omega) hC   a1 (by omega) ) (fun vr M13 hr => ?_)
        obtain ⟨hq, x14, rfl, hx14, hpx14_0⟩ := hr
        replace hq := hq.symm; subst hq
        have hst0 : x14 = 1 → M 98 (154 + 5 * a1).toNat = 0 := fun h9 => by have h8 := qStN_4 (hpx14_0.symm.trans h9); unfold qMt at h8; rw [show 150 + 5 * a1 + 4 = 154 + 5 * a1 by omega] at h8; exact h8
        show zG n (0, 0) d 251 (31, [.inr (.inr (some 97)), .inl a1, .inl a2, .inl a3, zN, zN, zN], [.inl x14]) M _
        refine zG_if_ne hd0 hz rfl (fun hb15 => ?_) (fun hb15 => ?_)
        · refine zG_blk (c' := (39, [.inr (.inr (some 97)), .inl a1, .inl a2, .inl a3, zN, zN, zN], [.inl a3, .inr (.inr (some 97))])) 2 hd0 hz (by rfl) ?_
          refine zG_call hd0 hz (rfl : zP 211 = (zk_X11_finds, 3, (0, 0))) rfl rfl (Nat.le_of_ble_eq_true rfl) ⟨Nat.le_refl _, Nat.le_refl _⟩ (qm_211_97 (by omega) hC   a3 (by omega) ) (fun vr M16 hr => ?_)
          obtain ⟨⟨hCM16, hFM16⟩, rfl⟩ := hr
          have hWM16 : qFm [98, 101, 102, 103, 104, 105, 106, 107, 108, 109, 110, 111, 112, 113, 1007, 1010, 1012, 1013, 1016, 1018, 1019, 1020, 1021, 1022, 1023] M M16 := hW.tr hFM16 (by decide)
          have e18 : M16 98 6 = M 98 6 := hFM16 98 6 (by decide)
          have e19 : M16 98 1 = M 98 1 := hFM16 98 1 (by decide)
          have e20 : M16 98 3 = M 98 3 := hFM16 98 3 (by decide)
          have hX98_M16 : ∀ j : Nat, (j : Int) ≠ 154 + 5 * a1 → M16 98 j = M 98 j := fun j hj => (hFM16.ar 98 j (by decide) (by decide)).trans (hX98_M j hj)
          show zG n (0, 0) d 251 (42, [.inr (.inr (some 97)), .inl a1, .inl a2, .inl a3, zN, zN, zN], []) M16 _
          refine zG_blk (c' := (45, [.inr (.inr (some 97)), .inl a1, .inl a2, .inl a3, .inl 0, zN, zN], [])) 2 hd0 hz (by rfl) ?_
          have j45 : ∀ (N : Nat) (v21 : Int) (M22 : zM) , (20 - v21 : Int).toNat < N → 0 ≤ v21 ∧ v21 ≤ 20 → (M22 98 6 = M 98 6) → (M22 98 1 = M 98 1) → qMI M22 → qFm [98, 101, 102, 103, 104, 105, 106, 107, 108, 109, 110, 111, 112, 113, 1007, 1010, 1012, 1013, 1016, 1018, 1019, 1020, 1021, 1022, 1023] M M22 → (∀ j : Nat, (j : Int) ≠ 154 + 5 * a1 → M22 98 j = M 98 j) → zG n (0, 0) d 251 (45, [.inr (.inr (some 97)), .inl a1, .inl a2, .inl a3, .inl v21, zN, zN], []) M22 (fun v M' => (qMI M' ∧ qFm [98, 101, 102, 103, 104, 105, 106, 107, 108, 109, 110, 111, 112, 113, 1007, 1010, 1012, 1013, 1016, 1018, 1019, 1020, 1021, 1022, 1023] M M') ∧ ∃ x : Int, v = some (.inl x) ∧ ((-3) ≤ x ∧ x ≤ 2147483647) ∧ (M' 98 6 = M 98 6) ∧ (M' 98 (154 + 5 * a1).toNat = M 98 (154 + 5 * a1).toNat) ∧ (∀ j : Nat, (j : Int) ≠ 154 + 5 * a1 → M' 98 j = M 98 j)) := by
            intro N
            induction N with
            | zero => intro v21 M22 hN hv21 hx0_45 hx1_45 hCM22 hWM22 hX98_M22; exact absurd hN (Nat.not_lt_zero _)
            | succ N ih45 =>
              intro v21 M22 hN hv21 hx0_45 hx1_45 hCM22 hWM22 hX98_M22
              have r23 := hCM22.cnt6
              have r24 := hCM22.cnt1
              refine zG_blk (c' := (52, [.inr (.inr (some 97)), .inl a1, .inl a2, .inl a3, .inl v21, zN, zN], [.inl 1, .inr (.inr (some 98)), .inl v21])) 4 hd0 hz (by rfl) ?_
              refine zG_iald hd0 hz rfl rfl (.inl rfl) (by omega) ?_
              show zG n (0, 0) d 251 (53, [.inr (.inr (some 97)), .inl a1, .inl a2, .inl a3, .inl v21, zN, zN], [.inl (M22 98 1), .inl v21]) M22 _
              refine zG_icmp_ge hd0 hz rfl (fun hb25 => ?_) (fun hb25 => ?_)
              · obtain ⟨x26, hx26⟩ : ∃ x : Int, x = w32 (5 * a1) := ⟨_, rfl⟩
                have hx26e : x26 = 5 * a1 := by rw [hx26]; exact w32_id (by omega)
                obtain ⟨x27, hx27⟩ : ∃ x : Int, x = w32 (150 + x26) := ⟨_, rfl⟩
                have hx27e : x27 = 150 + x26 := by rw [hx27]; exact w32_id (by omega)
                obtain ⟨x28, hx28⟩ : ∃ x : Int, x = w32 (x27 + 4) := ⟨_, rfl⟩
                have hx28e : x28 = x27 + 4 := by rw [hx28]; exact w32_id (by omega)
                refine zG_blk (c' := (115, [.inr (.inr (some 97)), .inl a1, .inl a2, .inl a3, .inl v21, zN, zN], [.inl 1, .inl x28, .inr (.inr (some 98))])) 10 hd0 hz (by subst hx28; subst hx27; subst hx26; rfl) ?_
                refine zG_iast hd0 hz rfl rfl (by omega) ?_
                obtain ⟨M29, hM29⟩ : ∃ X : zM, X = zput M22 98 (x28 : Int).toNat 1 := ⟨_, rfl⟩
                rw [← hM29]
                have hCM29 : qMI M29 := by rw [hM29]; exact hCM22.put98' (by refine ⟨by omega, fun _ => by omega, fun _ => by omega, fun _ => by omega, fun _ => by omega, fun _ => by omega, fun _ => by omega, fun _ => by omega, fun c9 hc9 _ => by omega, fun u9 hu9 _ => by omega, fun m9 hm9 _ => by omega, fun a9 ha9 => ⟨fun _ => by omega, fun _ => by omega, fun _ => by omega, fun _ => by omega⟩, fun t9 ht9 _ => by omega, fun o9 ho9 _ => by omega⟩) (by omega) (by omega)
                have hWM29 : qFm [98, 101, 102, 103, 104, 105, 106, 107, 108, 109, 110, 111, 112, 113, 1007, 1010, 1012, 1013, 1016, 1018, 1019, 1020, 1021, 1022, 1023] M M29 := by rw [hM29]; exact hWM22.pa (by decide) (by decide)
                have e30 : M29 98 6 = M22 98 6 := by rw [hM29]; exact qput_nk (by omega)
                have e31 : M29 98 1 = M22 98 1 := by rw [hM29]; exact qput_nk (by omega)
                have hX98_M29 : ∀ j : Nat, (j : Int) ≠ 154 + 5 * a1 → M29 98 j = M 98 j := fun j hj => by rw [hM29, qput_nk (by omega)]; exact hX98_M22 j hj
                show zG n (0, 0) d 251 (116, [.inr (.inr (some 97)), .inl a1, .inl a2, .inl a3, .inl v21, zN, zN], []) M29 _
                refine zG_blk (c' := (118, [.inr (.inr (some 97)), .inl a1, .inl a2, .inl a3, .inl v21, zN, zN], [.inl a3, .inr (.inr (some 97))])) 2 hd0 hz (by rfl) ?_
                refine zG_call hd0 hz (rfl : zP 211 = (zk_X11_finds, 3, (0, 0))) rfl rfl (Nat.le_of_ble_eq_true rfl) ⟨Nat.le_refl _, Nat.le_refl _⟩ (qm_211_97 (by omega) hCM29   a3 (by omega) ) (fun vr M32 hr => ?_)
                obtain ⟨⟨hCM32, hFM32⟩, rfl⟩ := hr
                have hWM32 : qFm [98, 101, 102, 103, 104, 105, 106, 107, 108, 109, 110, 111, 112, 113, 1007, 1010, 1012, 1013, 1016, 1018, 1019, 1020, 1021, 1022, 1023] M M32 := hWM29.tr hFM32 (by decide)
                have e34 : M32 98 6 = M29 98 6 := hFM32 98 6 (by decide)
                have e35 : M32 98 1 = M29 98 1 := hFM32 98 1 (by decide)
                have hX98_M32 : ∀ j : Nat, (j : Int) ≠ 154 + 5 * a1 → M32 98 j = M 98 j := fun j hj => (hFM32.ar 98 j (by decide) (by decide)).trans (hX98_M29 j hj)
                show zG n (0, 0) d 251 (121, [.inr (.inr (some 97)), .inl a1, .inl a2, .inl a3, .inl v21, zN, zN], []) M32 _
                refine zG_blk (c' := (127, [.inr (.inr (some 97)), .inl a1, .inl a2, .inl a3, .inl 0, .inl 0, zN], [])) 4 hd0 hz (by rfl) ?_
                have j127 : ∀ (N : Nat) (v36 v37 : Int) (M38 : zM) , (20 - v37 : Int).toNat < N → 0 ≤ v36 ∧ v36 ≤ 2147483647 → 0 ≤ v37 ∧ v37 ≤ 20 → (M38 98 6 = M 98 6) → (M38 98 1 = M 98 1) → qMI M38 → qFm [98, 101, 102, 103, 104, 105, 106, 107, 108, 109, 110, 111, 112, 113, 1007, 1010, 1012, 1013, 1016, 1018, 1019, 1020, 1021, 1022, 1023] M M38 → (∀ j : Nat, (j : Int) ≠ 154 + 5 * a1 → M38 98 j = M 98 j) → zG n (0, 0) d 251 (127, [.inr (.inr (some 97)), .inl a1, .inl a2, .inl a3, .inl v36, .inl v37, zN], []) M38 (fun v M' => (qMI M' ∧ qFm [98, 101, 102, 103, 104, 105, 106, 107, 108, 109, 110, 111, 112, 113, 1007, 1010, 1012, 1013, 1016, 1018, 1019, 1020, 1021, 1022, 1023] M M') ∧ ∃ x : Int, v = some (.inl x) ∧ ((-3) ≤ x ∧ x ≤ 2147483647) ∧ (M' 98 6 = M 98 6) ∧ (M' 98 (154 + 5 * a1).toNat = M 98 (154 + 5 * a1).toNat) ∧ (∀ j : Nat, (j : Int) ≠ 154 + 5 * a1 → M' 98 j = M 98 j)) := by
                  intro N
                  induction N with
                  | zero => intro v36 v37 M38 hN hv36 hv37 hx0_127 hx1_127 hCM38 hWM38 hX98_M38; exact absurd hN (Nat.not_lt_zero _)
                  | succ N ih127 =>
                    intro v36 v37 M38 hN hv36 hv37 hx0_127 hx1_127 hCM38 hWM38 hX98_M38
                    have r39 := hCM38.cnt6
                    have r40 := hCM38.cnt1
                    refine zG_blk (c' := (134, [.inr (.inr (some 97)), .inl a1, .inl a2, .inl a3, .inl v36, .inl v37, zN], [.inl 1, .inr (.inr (some 98)), .inl v37])) 4 hd0 hz (by rfl) ?_
                    refine zG_iald hd0 hz rfl rfl (.inl rfl) (by omega) ?_
                    show zG n (0, 0) d 251 (135, [.inr (.inr (some 97)), .inl a1, .inl a2, .inl a3, .inl v36, .inl v37, zN], [.inl (M38 98 1), .inl v37]) M38 _
                    refine zG_icmp_ge hd0 hz rfl (fun hb41 => ?_) (fun hb41 => ?_)
                    · obtain ⟨x42, hx42⟩ : ∃ x : Int, x = w32 (5 * a1) := ⟨_, rfl⟩
                      have hx42e : x42 = 5 * a1 := by rw [hx42]; exact w32_id (by omega)
                      obtain ⟨x43, hx43⟩ : ∃ x : Int, x = w32 (150 + x42) := ⟨_, rfl⟩
                      have hx43e : x43 = 150 + x42 := by rw [hx43]; exact w32_id (by omega)
                      obtain ⟨x44, hx44⟩ : ∃ x : Int, x = w32 (x43 + 4) := ⟨_, rfl⟩
                      have hx44e : x44 = x43 + 4 := by rw [hx44]; exact w32_id (by omega)
                      refine zG_blk (c' := (231, [.inr (.inr (some 97)), .inl a1, .inl a2, .inl a3, .inl v36, .inl v37, zN], [.inl 0, .inl x44, .inr (.inr (some 98))])) 10 hd0 hz (by subst hx44; subst hx43; subst hx42; rfl) ?_
                      refine zG_iast hd0 hz rfl rfl (by omega) ?_
                      obtain ⟨M45, hM45⟩ : ∃ X : zM, X = zput M38 98 (x44 : Int).toNat 0 := ⟨_, rfl⟩
                      rw [← hM45]
                      have hCM45 : qMI M45 := by rw [hM45]; exact hCM38.put98' (by refine ⟨by omega, fun _ => by omega, fun _ => by omega, fun _ => by omega, fun _ => by omega, fun _ => by omega, fun _ => by omega, fun _ => by omega, fun c9 hc9 _ => by omega, fun u9 hu9 _ => by omega, fun m9 hm9 _ => by omega, fun a9 ha9 => ⟨fun _ => by omega, fun _ => by omega, fun _ => by omega, fun _ => by omega⟩, fun t9 ht9 _ => by omega, fun o9 ho9 _ => by omega⟩) (by omega) (by omega)
                      have hWM45 : qFm [98, 101, 102, 103, 104, 105, 106, 107, 108, 109, 110, 111, 112, 113, 1007, 1010, 1012, 1013, 1016, 1018, 1019, 1020, 1021, 1022, 1023] M M45 := by rw [hM45]; exact hWM38.pa (by decide) (by decide)
                      have e46 : M45 98 6 = M38 98 6 := by rw [hM45]; exact qput_nk (by omega)
                      have e47 : M45 98 1 = M38 98 1 := by rw [hM45]; exact qput_nk (by omega)
                      have hX98_M45 : ∀ j : Nat, (j : Int) ≠ 154 + 5 * a1 → M45 98 j = M 98 j := fun j hj => by rw [hM45, qput_nk (by omega)]; exact hX98_M38 j hj
                      have hsl : M45 98 (154 + 5 * a1).toNat = 0 := by rw [hM45, show (x44 : Int).toNat = (154 + 5 * a1).toNat by omega]; exact qput_eq
                      show zG n (0, 0) d 251 (232, [.inr (.inr (some 97)), .inl a1, .inl a2, .inl a3, .inl v36, .inl v37, zN], []) M45 _
                      refine zG_blk (c' := (234, [.inr (.inr (some 97)), .inl a1, .inl a2, .inl a3, .inl v36, .inl v37, zN], [.inl v36])) 1 hd0 hz (by rfl) ?_
                      exact zG_ret hd0 hz rfl rfl ⟨⟨hCM45, hWM45⟩, _, rfl, by omega, by omega, by omega, hX98_M45⟩
                    · refine zG_blk (c' := (142, [.inr (.inr (some 97)), .inl a1, .inl a2, .inl a3, .inl v36, .inl v37, zN], [.inl a2, .inl v37, .inr (.inr (some 97))])) 3 hd0 hz (by rfl) ?_
                      refine zG_call hd0 hz (rfl : zP 243 = (zk_X11_gradeOf, 3, (0, 0))) rfl rfl (Nat.le_of_ble_eq_true rfl) ⟨Nat.le_refl _, Nat.le_refl _⟩ (qm_243_97 (by omega) hCM38   v37 (by omega) a2 (by omega) ) (fun vr M48 hr => ?_)
                      obtain ⟨⟨hCM48, hFM48⟩, x49, rfl, hx49⟩ := hr
                      have hWM48 : qFm [98, 101, 102, 103, 104, 105, 106, 107, 108, 109, 110, 111, 112, 113, 1007, 1010, 1012, 1013, 1016, 1018, 1019, 1020, 1021, 1022, 1023] M M48 := hWM38.tr hFM48 (by decide)
                      have e50 : M48 98 6 = M38 98 6 := hFM48 98 6 (by decide)
                      have e51 : M48 98 1 = M38 98 1 := hFM48 98 1 (by decide)
                      have hX98_M48 : ∀ j : Nat, (j : Int) ≠ 154 + 5 * a1 → M48 98 j = M 98 j := fun j hj => (hFM48.ar 98 j (by decide) (by decide)).trans (hX98_M38 j hj)
                      show zG n (0, 0) d 251 (145, [.inr (.inr (some 97)), .inl a1, .inl a2, .inl a3, .inl v36, .inl v37, zN], [.inl x49]) M48 _
                      refine zG_blk (c' := (151, [.inr (.inr (some 97)), .inl a1, .inl a2, .inl a3, .inl v36, .inl v37, zN], [.inl v37, .inr (.inr (some 112)), .inl x49])) 3 hd0 hz (by rfl) ?_
                      refine zG_iald hd0 hz rfl rfl (.inl rfl) (by omega) ?_
                      obtain ⟨x52, hx52⟩ : ∃ x : Int, x = M48 112 (v37 : Int).toNat := ⟨_, rfl⟩
                      rw [← hx52]
                      have hx52r : qin x52 := by rw [hx52]; exact hCM48.ra 112 _ (by decide) (by decide)
                      show zG n (0, 0) d 251 (152, [.inr (.inr (some 97)), .inl a1, .inl a2, .inl a3, .inl v36, .inl v37, zN], [.inl x52, .inl x49]) M48 _
                      have j174 : ∀ (v53 : Int) , 0 ≤ v53 ∧ v53 ≤ 1 → zG n (0, 0) d 251 (174, [.inr (.inr (some 97)), .inl a1, .inl a2, .inl a3, .inl v36, .inl v37, zN], [.inl v53]) M48 (fun v M' => (qMI M' ∧ qFm [98, 101, 102, 103, 104, 105, 106, 107, 108, 109, 110, 111, 112, 113, 1007, 1010, 1012, 1013, 1016, 1018, 1019, 1020, 1021, 1022, 1023] M M') ∧ ∃ x : Int, v = some (.inl x) ∧ ((-3) ≤ x ∧ x ≤ 2147483647) ∧ (M' 98 6 = M 98 6) ∧ (M' 98 (154 + 5 * a1).toNat = M 98 (154 + 5 * a1).toNat) ∧ (∀ j : Nat, (j : Int) ≠ 154 + 5 * a1 → M' 98 j = M 98 j)) := by
                        intro v53 hv53
                        refine zG_blk (c' := (180, [.inr (.inr (some 97)), .inl a1, .inl a2, .inl a3, .inl v36, .inl v37, .inl v53], [.inl v53, .inl v36])) 3 hd0 hz (by rfl) ?_
                        have j208 : ∀ (v54 : Int) (M55 : zM) , 0 ≤ v54 ∧ v54 ≤ 524288 → (M55 98 6 = M 98 6) → (M55 98 1 = M 98 1) → qMI M55 → qFm [98, 101, 102, 103, 104, 105, 106, 107, 108, 109, 110, 111, 112, 113, 1007, 1010, 1012, 1013, 1016, 1018, 1019, 1020, 1021, 1022, 1023] M M55 → (∀ j : Nat, (j : Int) ≠ 154 + 5 * a1 → M55 98 j = M 98 j) → zG n (0, 0) d 251 (208, [.inr (.inr (some 97)), .inl a1, .inl a2, .inl a3, .inl v36, .inl v37, .inl v53], [.inl v54, .inl v36]) M55 (fun v M' => (qMI M' ∧ qFm [98, 101, 102, 103, 104, 105, 106, 107, 108, 109, 110, 111, 112, 113, 1007, 1010, 1012, 1013, 1016, 1018, 1019, 1020, 1021, 1022, 1023] M M') ∧ ∃ x : Int, v = some (.inl x) ∧ ((-3) ≤ x ∧ x ≤ 2147483647) ∧ (M' 98 6 = M 98 6) ∧ (M' 98 (154 + 5 * a1).toNat = M 98 (154 + 5 * a1).toNat) ∧ (∀ j : Nat, (j : Int) ≠ 154 + 5 * a1 → M' 98 j = M 98 j)) := by
                          intro v54 M55 hv54 hx0_208 hx1_208 hCM55 hWM55 hX98_M55
                          have r56 := hCM55.cnt6
                          have r57 := hCM55.cnt1
                          obtain ⟨x58, hx58⟩ : ∃ x : Int, x = zbor v36 v54 := ⟨_, rfl⟩
                          have hx58r := qbor_in v36 v54 2147483648 31 (by decide) (by decide) (by omega) (by omega); rw [← hx58] at hx58r
                          obtain ⟨x59, hx59⟩ : ∃ x : Int, x = w32 (v37 + 1) := ⟨_, rfl⟩
                          have hx59e : x59 = v37 + 1 := by rw [hx59]; exact w32_id (by omega)
                          refine zG_blk (c' := (127, [.inr (.inr (some 97)), .inl a1, .inl a2, .inl a3, .inl x58, .inl x59, .inl v53], [])) 4 hd0 hz (by subst hx59; subst hx58; rfl) ?_
                          exact zG_weak (ih127 x58 x59 M55 (by omega) (by omega) (by omega) (by omega) (by omega) hCM55 hWM55 hX98_M55) ⟨.inr rfl, .inr rfl, .inr rfl, .inr rfl, .inr rfl, .inr rfl, .inl rfl, trivial⟩
                        have j200 : ∀ (M60 : zM) , (M60 98 6 = M 98 6) → (M60 98 1 = M 98 1) → qMI M60 → qFm [98, 101, 102, 103, 104, 105, 106, 107, 108, 109, 110, 111, 112, 113, 1007, 1010, 1012, 1013, 1016, 1018, 1019, 1020, 1021, 1022, 1023] M M60 → (∀ j : Nat, (j : Int) ≠ 154 + 5 * a1 → M60 98 j = M 98 j) → zG n (0, 0) d 251 (200, [.inr (.inr (some 97)), .inl a1, .inl a2, .inl a3, .inl v36, .inl v37, .inl v53], [.inl v36]) M60 (fun v M' => (qMI M' ∧ qFm [98, 101, 102, 103, 104, 105, 106, 107, 108, 109, 110, 111, 112, 113, 1007, 1010, 1012, 1013, 1016, 1018, 1019, 1020, 1021, 1022, 1023] M M') ∧ ∃ x : Int, v = some (.inl x) ∧ ((-3) ≤ x ∧ x ≤ 2147483647) ∧ (M' 98 6 = M 98 6) ∧ (M' 98 (154 + 5 * a1).toNat = M 98 (154 + 5 * a1).toNat) ∧ (∀ j : Nat, (j : Int) ≠ 154 + 5 * a1 → M' 98 j = M 98 j)) := by
                          intro M60 hx0_200 hx1_200 hCM60 hWM60 hX98_M60
                          have r61 := hCM60.cnt6
                          have r62 := hCM60.cnt1
                          obtain ⟨x63, hx63⟩ : ∃ x : Int, x = zbshl 1 v37 := ⟨_, rfl⟩
                          have hx63r := qshl1_in v37 524288 19 (by decide) (by decide) (by omega); rw [← hx63] at hx63r
                          refine zG_blk (c' := (208, [.inr (.inr (some 97)), .inl a1, .inl a2, .inl a3, .inl v36, .inl v37, .inl v53], [.inl x63, .inl v36])) 4 hd0 hz (by subst hx63; rfl) ?_
                          exact j208 x63 M60 (by omega) (by omega) (by omega) hCM60 hWM60 hX98_M60
                        refine zG_if_ne hd0 hz rfl (fun hb64 => ?_) (fun hb64 => ?_)
                        · exact j200 M48 (by omega) (by omega) hCM48 hWM48 hX98_M48
                        · refine zG_blk (c' := (187, [.inr (.inr (some 97)), .inl a1, .inl a2, .inl a3, .inl v36, .inl v37, .inl v53], [.inl a2, .inl v37, .inr (.inr (some 97)), .inl v36])) 3 hd0 hz (by rfl) ?_
                          refine zG_call hd0 hz (rfl : zP 244 = (zk_X11_rollOf, 6, (0, 0))) rfl rfl (Nat.le_of_ble_eq_true rfl) ⟨Nat.le_refl _, Nat.le_refl _⟩ (qm_244_97 (by omega) hCM48   v37 (by omega) a2 (by omega) ) (fun vr M65 hr => ?_)
                          obtain ⟨⟨hCM65, hFM65⟩, x66, rfl, hx66⟩ := hr
                          have hWM65 : qFm [98, 101, 102, 103, 104, 105, 106, 107, 108, 109, 110, 111, 112, 113, 1007, 1010, 1012, 1013, 1016, 1018, 1019, 1020, 1021, 1022, 1023] M M65 := hWM48.tr hFM65 (by decide)
                          have e67 : M65 98 6 = M48 98 6 := hFM65 98 6 (by decide)
                          have e68 : M65 98 1 = M48 98 1 := hFM65 98 1 (by decide)
                          have hX98_M65 : ∀ j : Nat, (j : Int) ≠ 154 + 5 * a1 → M65 98 j = M 98 j := fun j hj => (hFM65.ar 98 j (by decide) (by decide)).trans (hX98_M48 j hj)
                          show zG n (0, 0) d 251 (190, [.inr (.inr (some 97)), .inl a1, .inl a2, .inl a3, .inl v36, .inl v37, .inl v53], [.inl x66, .inl v36]) M65 _
                          refine zG_blk (c' := (196, [.inr (.inr (some 97)), .inl a1, .inl a2, .inl a3, .inl v36, .inl v37, .inl v53], [.inl v37, .inr (.inr (some 113)), .inl x66, .inl v36])) 3 hd0 hz (by rfl) ?_
                          refine zG_iald hd0 hz rfl rfl (.inl rfl) (by omega) ?_
                          obtain ⟨x69, hx69⟩ : ∃ x : Int, x = M65 113 (v37 : Int).toNat := ⟨_, rfl⟩
                          rw [← hx69]
                          have hx69r : qin x69 := by rw [hx69]; exact hCM65.ra 113 _ (by decide) (by decide)
                          show zG n (0, 0) d 251 (197, [.inr (.inr (some 97)), .inl a1, .inl a2, .inl a3, .inl v36, .inl v37, .inl v53], [.inl x69, .inl x66, .inl v36]) M65 _
                          refine zG_icmp_eq hd0 hz rfl (fun hb70 => ?_) (fun hb70 => ?_)
                          · refine zG_blk (c' := (208, [.inr (.inr (some 97)), .inl a1, .inl a2, .inl a3, .inl v36, .inl v37, .inl v53], [.inl 0, .inl v36])) 1 hd0 hz (by rfl) ?_
                            exact j208 0 M65 (by omega) (by omega) (by omega) hCM65 hWM65 hX98_M65
                          · exact j200 M65 (by omega) (by omega) hCM65 hWM65 hX98_M65
                      have j169 : zG n (0, 0) d 251 (169, [.inr (.inr (some 97)), .inl a1, .inl a2, .inl a3, .inl v36, .inl v37, zN], []) M48 (fun v M' => (qMI M' ∧ qFm [98, 101, 102, 103, 104, 105, 106, 107, 108, 109, 110, 111, 112, 113, 1007, 1010, 1012, 1013, 1016, 1018, 1019, 1020, 1021, 1022, 1023] M M') ∧ ∃ x : Int, v = some (.inl x) ∧ ((-3) ≤ x ∧ x ≤ 2147483647) ∧ (M' 98 6 = M 98 6) ∧ (M' 98 (154 + 5 * a1).toNat = M 98 (154 + 5 * a1).toNat) ∧ (∀ j : Nat, (j : Int) ≠ 154 + 5 * a1 → M' 98 j = M 98 j)) := by
                        refine zG_blk (c' := (174, [.inr (.inr (some 97)), .inl a1, .inl a2, .inl a3, .inl v36, .inl v37, zN], [.inl 1])) 2 hd0 hz (by rfl) ?_
                        exact j174 1 (by omega)
                      refine zG_icmp_ne hd0 hz rfl (fun hb71 => ?_) (fun hb71 => ?_)
                      · exact j169
                      · have r72 := hCM48.rg 97 21 (by decide) (by decide)
                        refine zG_blk (c' := (165, [.inr (.inr (some 97)), .inl a1, .inl a2, .inl a3, .inl v36, .inl v37, zN], [.inl v37, .inr (.inr (some 111)), .inl (M48 97 21)])) 5 hd0 hz (by rfl) ?_
                        refine zG_iald hd0 hz rfl rfl (.inl rfl) (by omega) ?_
                        obtain ⟨x73, hx73⟩ : ∃ x : Int, x = M48 111 (v37 : Int).toNat := ⟨_, rfl⟩
                        rw [← hx73]
                        have hx73r : qin x73 := by rw [hx73]; exact hCM48.ra 111 _ (by decide) (by decide)
                        show zG n (0, 0) d 251 (166, [.inr (.inr (some 97)), .inl a1, .inl a2, .inl a3, .inl v36, .inl v37, zN], [.inl x73, .inl (M48 97 21)]) M48 _
                        refine zG_icmp_eq hd0 hz rfl (fun hb74 => ?_) (fun hb74 => ?_)
                        · refine zG_blk (c' := (174, [.inr (.inr (some 97)), .inl a1, .inl a2, .inl a3, .inl v36, .inl v37, zN], [.inl 0])) 1 hd0 hz (by rfl) ?_
                          exact j174 0 (by omega)
                        · exact j169
                exact j127 ((20 - 0 : Int).toNat + 1) 0 0 M32 (by omega) (by omega) (by omega) (by omega) (by omega) hCM32 hWM32 hX98_M32
              · refine zG_blk (c' := (66, [.inr (.inr (some 97)), .inl a1, .inl a2, .inl a3, .inl v21, zN, zN], [.inl a2, .inl v21, .inr (.inr (some 97)), .inl v21, .inr (.inr (some 112))])) 6 hd0 hz (by rfl) ?_
                refine zG_call hd0 hz (rfl : zP 243 = (zk_X11_gradeOf, 3, (0, 0))) rfl rfl (Nat.le_of_ble_eq_true rfl) ⟨Nat.le_refl _, Nat.le_refl _⟩ (qm_243_97 (by omega) hCM22   v21 (by omega) a2 (by omega) ) (fun vr M75 hr => ?_)
                obtain ⟨⟨hCM75, hFM75⟩, x76, rfl, hx76⟩ := hr
                have hWM75 : qFm [98, 101, 102, 103, 104, 105, 106, 107, 108, 109, 110, 111, 112, 113, 1007, 1010, 1012, 1013, 1016, 1018, 1019, 1020, 1021, 1022, 1023] M M75 := hWM22.tr hFM75 (by decide)
                have e77 : M75 98 6 = M22 98 6 := hFM75 98 6 (by decide)
                have e78 : M75 98 1 = M22 98 1 := hFM75 98 1 (by decide)
                have hX98_M75 : ∀ j : Nat, (j : Int) ≠ 154 + 5 * a1 → M75 98 j = M 98 j := fun j hj => (hFM75.ar 98 j (by decide) (by decide)).trans (hX98_M22 j hj)
                show zG n (0, 0) d 251 (69, [.inr (.inr (some 97)), .inl a1, .inl a2, .inl a3, .inl v21, zN, zN], [.inl x76, .inl v21, .inr (.inr (some 112))]) M75 _
                refine zG_iast hd0 hz rfl rfl (by omega) ?_
                obtain ⟨M79, hM79⟩ : ∃ X : zM, X = zput M75 112 (v21 : Int).toNat x76 := ⟨_, rfl⟩
                rw [← hM79]
                have hCM79 : qMI M79 := by rw [hM79]; exact hCM75.put (by decide) (qCd_a (by decide) (by decide)) (by refine ⟨fun h => ?_, fun _ => ?_, fun h => ?_, fun h => ?_, fun h => ?_⟩ <;> first | omega | exact absurd h (by decide))
                have hWM79 : qFm [98, 101, 102, 103, 104, 105, 106, 107, 108, 109, 110, 111, 112, 113, 1007, 1010, 1012, 1013, 1016, 1018, 1019, 1020, 1021, 1022, 1023] M M79 := by rw [hM79]; exact hWM75.pa (by decide) (by decide)
                have e80 : M79 98 6 = M75 98 6 := by rw [hM79]; exact qput_ne (by decide)
                have e81 : M79 98 1 = M75 98 1 := by rw [hM79]; exact qput_ne (by decide)
                have hX98_M79 : ∀ j : Nat, (j : Int) ≠ 154 + 5 * a1 → M79 98 j = M 98 j := fun j hj => by rw [hM79, qput_ne (by decide)]; exact hX98_M75 j hj
                show zG n (0, 0) d 251 (70, [.inr (.inr (some 97)), .inl a1, .inl a2, .inl a3, .inl v21, zN, zN], []) M79 _
                have r82 := hCM79.rg 97 21 (by decide) (by decide)
                refine zG_blk (c' := (80, [.inr (.inr (some 97)), .inl a1, .inl a2, .inl a3, .inl v21, zN, zN], [.inl (M79 97 21), .inl v21, .inr (.inr (some 111))])) 5 hd0 hz (by rfl) ?_
                refine zG_iast hd0 hz rfl rfl (by omega) ?_
                obtain ⟨M83, hM83⟩ : ∃ X : zM, X = zput M79 111 (v21 : Int).toNat (M79 97 21) := ⟨_, rfl⟩
                rw [← hM83]
                have hCM83 : qMI M83 := by rw [hM83]; exact hCM79.put (by decide) (qCd_a (by decide) (by decide)) (by refine ⟨fun h => ?_, fun _ => ?_, fun h => ?_, fun h => ?_, fun h => ?_⟩ <;> first | omega | exact absurd h (by decide))
                have hWM83 : qFm [98, 101, 102, 103, 104, 105, 106, 107, 108, 109, 110, 111, 112, 113, 1007, 1010, 1012, 1013, 1016, 1018, 1019, 1020, 1021, 1022, 1023] M M83 := by rw [hM83]; exact hWM79.pa (by decide) (by decide)
                have e84 : M83 98 6 = M79 98 6 := by rw [hM83]; exact qput_ne (by decide)
                have e85 : M83 98 1 = M79 98 1 := by rw [hM83]; exact qput_ne (by decide)
                have e86 : M83 97 21 = M79 97 21 := by rw [hM83]; exact qput_ne (by decide)
                have hX98_M83 : ∀ j : Nat, (j : Int) ≠ 154 + 5 * a1 → M83 98 j = M 98 j := fun j hj => by rw [hM83, qput_ne (by decide)]; exact hX98_M79 j hj
                show zG n (0, 0) d 251 (81, [.inr (.inr (some 97)), .inl a1, .inl a2, .inl a3, .inl v21, zN, zN], []) M83 _
                refine zG_blk (c' := (91, [.inr (.inr (some 97)), .inl a1, .inl a2, .inl a3, .inl v21, zN, zN], [.inl a2, .inl v21, .inr (.inr (some 97)), .inl v21, .inr (.inr (some 113))])) 6 hd0 hz (by rfl) ?_
                refine zG_call hd0 hz (rfl : zP 244 = (zk_X11_rollOf, 6, (0, 0))) rfl rfl (Nat.le_of_ble_eq_true rfl) ⟨Nat.le_refl _, Nat.le_refl _⟩ (qm_244_97 (by omega) hCM83   v21 (by omega) a2 (by omega) ) (fun vr M87 hr => ?_)
                obtain ⟨⟨hCM87, hFM87⟩, x88, rfl, hx88⟩ := hr
                have hWM87 : qFm [98, 101, 102, 103, 104, 105, 106, 107, 108, 109, 110, 111, 112, 113, 1007, 1010, 1012, 1013, 1016, 1018, 1019, 1020, 1021, 1022, 1023] M M87 := hWM83.tr hFM87 (by decide)
                have e89 : M87 98 6 = M83 98 6 := hFM87 98 6 (by decide)
                have e90 : M87 98 1 = M83 98 1 := hFM87 98 1 (by decide)
                have hX98_M87 : ∀ j : Nat, (j : Int) ≠ 154 + 5 * a1 → M87 98 j = M 98 j := fun j hj => (hFM87.ar 98 j (by decide) (by decide)).trans (hX98_M83 j hj)
                show zG n (0, 0) d 251 (94, [.inr (.inr (some 97)), .inl a1, .inl a2, .inl a3, .inl v21, zN, zN], [.inl x88, .inl v21, .inr (.inr (some 113))]) M87 _
                refine zG_iast hd0 hz rfl rfl (by omega) ?_
                obtain ⟨M92, hM92⟩ : ∃ X : zM, X = zput M87 113 (v21 : Int).toNat x88 := ⟨_, rfl⟩
                rw [← hM92]
                have hCM92 : qMI M92 := by rw [hM92]; exact hCM87.put (by decide) (qCd_a (by decide) (by decide)) (by refine ⟨fun h => ?_, fun _ => ?_, fun h => ?_, fun h => ?_, fun h => ?_⟩ <;> first | omega | exact absurd h (by decide))
                have hWM92 : qFm [98, 101, 102, 103, 104, 105, 106, 107, 108, 109, 110, 111, 112, 113, 1007, 1010, 1012, 1013, 1016, 1018, 1019, 1020, 1021, 1022, 1023] M M92 := by rw [hM92]; exact hWM87.pa (by decide) (by decide)
                have e93 : M92 98 6 = M87 98 6 := by rw [hM92]; exact qput_ne (by decide)
                have e94 : M92 98 1 = M87 98 1 := by rw [hM92]; exact qput_ne (by decide)
                have hX98_M92 : ∀ j : Nat, (j : Int) ≠ 154 + 5 * a1 → M92 98 j = M 98 j := fun j hj => by rw [hM92, qput_ne (by decide)]; exact hX98_M87 j hj
                show zG n (0, 0) d 251 (95, [.inr (.inr (some 97)), .inl a1, .inl a2, .inl a3, .inl v21, zN, zN], []) M92 _
                obtain ⟨x95, hx95⟩ : ∃ x : Int, x = w32 (v21 + 1) := ⟨_, rfl⟩
                have hx95e : x95 = v21 + 1 := by rw [hx95]; exact w32_id (by omega)
                refine zG_blk (c' := (45, [.inr (.inr (some 97)), .inl a1, .inl a2, .inl a3, .inl x95, zN, zN], [])) 2 hd0 hz (by subst hx95; rfl) ?_
                exact ih45 x95 M92 (by omega) (by omega) (by omega) (by omega) hCM92 hWM92 hX98_M92
          exact j45 ((20 - 0 : Int).toNat + 1) 0 M16 (by omega) (by omega) (by omega) (by omega) hCM16 hWM16 hX98_M16
        · refine zG_blk (c' := (36, [.inr (.inr (some 97)), .inl a1, .inl a2, .inl a3, zN, zN, zN], [.inl (-3)])) 1 hd0 hz (by rfl) ?_
          exact zG_ret hd0 hz rfl rfl ⟨⟨hC, hW⟩, _, rfl, by omega, by omega, by omega, hX98_M⟩
      · exact j23
