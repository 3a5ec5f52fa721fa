/-! THE MODEL'S METHODS, BY PROGRAM -/
theorem qn_257_97 {n d : Nat} {M : zM} (hd : 7 ≤ d) (hC : qMI M)  (a1 : Int) (ha1 : (-2147483648) ≤ a1 ∧ a1 ≤ 2147483647) (a2 : Int) (ha2 : (-2147483648) ≤ a2 ∧ a2 ≤ 2147483647) (a3 : Int) (ha3 : (-2147483648) ≤ a3 ∧ a3 ≤ 2147483647) (a4 : Int) (ha4 : 0 ≤ a4 ∧ a4 ≤ 1) : qOkN n d 257 [.inr (.inr (some 97)), .inl a1, .inl a2, .inl a3, .inl a4] 7 [98, 105, 106, 107, 1007, 1010, 1012, 1013] M (fun v M' => ∃ x : Int, v = some (.inl x) ∧ ((-2147483648) ≤ x ∧ x ≤ 2147483647) ∧ (∀ j : Nat, j ≠ 5 ∧ ((j : Int) < 4000 ∨ 5640 ≤ j) → M' 98 j = M 98 j)) := by
  have hz := zp_257
  have hd0 : 0 < d := by omega
  have hW : qFm [98, 105, 106, 107, 1007, 1010, 1012, 1013] M M := qFm.rfl
  have hX98_M : ∀ j : Nat, j ≠ 5 ∧ ((j : Int) < 4000 ∨ 5640 ≤ j) → M 98 j = M 98 j := fun _ _ => rfl
  have r1 := hC.cnt5
  show zG n (0, 0) d 257 (0, [.inr (.inr (some 97)), .inl a1, .inl a2, .inl a3, .inl a4, zN, zN], []) M _
  refine zG_wp (pc := 4) (L := [.inr (.inr (some 97)), .inl a1, .inl a2, .inl a3, .inl a4, zN, zN]) (st := []) 1 hd0 hz zp_252 (qm_252 (by first | exact zdk hd rfl | omega) hC   a1 (by first | with_reducible exact ha1 | omega) ) (by rfl) (fun x3 hr => ?_)
  obtain ⟨hx3, hpx3_0⟩ := hr
  have j21 : zG n (0, 0) d 257 (21, [.inr (.inr (some 97)), .inl a1, .inl a2, .inl a3, .inl a4, zN, zN], []) M (fun v M' => (qMI M' ∧ qFm [98, 105, 106, 107, 1007, 1010, 1012, 1013] M M') ∧ ∃ x : Int, v = some (.inl x) ∧ ((-2147483648) ≤ x ∧ x ≤ 2147483647) ∧ (∀ j : Nat, j ≠ 5 ∧ ((j : Int) < 4000 ∨ 5640 ≤ j) → M' 98 j = M 98 j)) := by
    exact zG_wr (r := some (.inl (-2))) 1 hd0 hz (by rfl) ⟨⟨hC, hW⟩, _, rfl, by omega, hX98_M⟩
  refine zG_wf_eq (pc := 4) (n' := 7) (t := 21) (L := [.inr (.inr (some 97)), .inl a1, .inl a2, .inl a3, .inl a4, zN, zN]) (st := []) (x := x3) 0 hd0 hz (by rfl) (fun hb4 => ?_) (fun hb4 => ?_)
  · exact j21
  · have hcx3 := hpx3_0.mp (by omega)
    clear hx3 hpx3_0 hb4
    refine zG_wp (pc := 11) (L := [.inr (.inr (some 97)), .inl a1, .inl a2, .inl a3, .inl a4, zN, zN]) (st := []) 1 hd0 hz zp_252 (qm_252 (by first | exact zdk hd rfl | omega) hC   a2 (by first | with_reducible exact ha2 | omega) ) (by rfl) (fun x6 hr => ?_)
    obtain ⟨hx6, hpx6_0⟩ := hr
    refine zG_wf_eq (pc := 11) (n' := 14) (t := 21) (L := [.inr (.inr (some 97)), .inl a1, .inl a2, .inl a3, .inl a4, zN, zN]) (st := []) (x := x6) 0 hd0 hz (by rfl) (fun hb7 => ?_) (fun hb7 => ?_)
    · exact j21
    · have hcx6 := hpx6_0.mp (by omega)
      clear hx6 hpx6_0 hb7
      refine zG_wp (pc := 18) (L := [.inr (.inr (some 97)), .inl a1, .inl a2, .inl a3, .inl a4, zN, zN]) (st := []) 1 hd0 hz zp_184 (qm_184 (by first | exact zdk hd rfl | omega) hC   a3 (by first | with_reducible exact ha3 | omega) ) (by rfl) (fun x9 hr => ?_)
      obtain ⟨hx9, hpx9_0⟩ := hr
      refine zG_wf_ne (pc := 18) (n' := 21) (t := 24) (L := [.inr (.inr (some 97)), .inl a1, .inl a2, .inl a3, .inl a4, zN, zN]) (st := []) (x := x9) 0 hd0 hz (by rfl) (fun hb10 => ?_) (fun hb10 => ?_)
      · have hcx9 := hpx9_0.mp (by omega)
        clear hx9 hpx9_0 hb10
        obtain ⟨x11, hx11⟩ : ∃ x : Int, x = w32 (81 * a1) := ⟨_, rfl⟩
        have hx11e : x11 = 81 * a1 := by rw [hx11]; exact w32_id (by omega)
        obtain ⟨x12, hx12⟩ : ∃ x : Int, x = w32 (3350 + x11) := ⟨_, rfl⟩
        have hx12e : x12 = 3350 + x11 := by rw [hx12]; exact w32_id (by omega)
        refine zG_wn (pc := 36) (L := [.inr (.inr (some 97)), .inl a1, .inl a2, .inl a3, .inl a4, zN, zN]) (st := []) 6 hd0 hz zp_231 (qm_231_97 (by first | exact zdk hd rfl | omega) hC   x12 (by omega) (by exact hC.txt a1 _ (by omega) (by omega))) (by subst hx12; subst hx11; rfl) (fun x14 M13 hr hx14 => ?_)
        obtain ⟨hCM13, hFM13⟩ := hr
        have hWM13 : qFm [98, 105, 106, 107, 1007, 1010, 1012, 1013] M M13 := hW.tr hFM13 (by decide)
        have e15 : M13 98 5 = M 98 5 := hFM13 98 5 (by decide)
        have hX98_M13 : ∀ j : Nat, j ≠ 5 ∧ ((j : Int) < 4000 ∨ 5640 ≤ j) → M13 98 j = M 98 j := fun j hj => (hFM13.ar 98 j (by decide) (by decide)).trans (hX98_M j hj)
        refine zG_w (c' := (37, [.inr (.inr (some 97)), .inl a1, .inl a2, .inl a3, .inl a4, zN, zN], [.inl (-1), .inl x14])) 1 hd0 hz (by rfl) ?_
        have j56 : ∀ (M16 : zM) , qMI M16 → qFm [98, 105, 106, 107, 1007, 1010, 1012, 1013] M M16 → (∀ j : Nat, j ≠ 5 ∧ ((j : Int) < 4000 ∨ 5640 ≤ j) → M16 98 j = M 98 j) → zG n (0, 0) d 257 (56, [.inr (.inr (some 97)), .inl a1, .inl a2, .inl a3, .inl a4, zN, zN], []) M16 (fun v M' => (qMI M' ∧ qFm [98, 105, 106, 107, 1007, 1010, 1012, 1013] M M') ∧ ∃ x : Int, v = some (.inl x) ∧ ((-2147483648) ≤ x ∧ x ≤ 2147483647) ∧ (∀ j : Nat, j ≠ 5 ∧ ((j : Int) < 4000 ∨ 5640 ≤ j) → M' 98 j = M 98 j)) := by
          intro M16 hCM16 hWM16 hX98_M16
          exact zG_wr (r := some (.inl (-3))) 1 hd0 hz (by rfl) ⟨⟨hCM16, hWM16⟩, _, rfl, by omega, hX98_M16⟩
        refine zG_wi_ne (pc := 37) (n' := 40) (t := 56) (L := [.inr (.inr (some 97)), .inl a1, .inl a2, .inl a3, .inl a4, zN, zN]) (st := []) (x := x14) (y := (-1)) 0 hd0 hz (by rfl) (fun hb17 => ?_) (fun hb17 => ?_)
        · exact j56 M13 hCM13 hWM13 hX98_M13
        · obtain ⟨x18, hx18⟩ : ∃ x : Int, x = w32 (81 * a2) := ⟨_, rfl⟩
          have hx18e : x18 = 81 * a2 := by rw [hx18]; exact w32_id (by omega)
          obtain ⟨x19, hx19⟩ : ∃ x : Int, x = w32 (3350 + x18) := ⟨_, rfl⟩
          have hx19e : x19 = 3350 + x18 := by rw [hx19]; exact w32_id (by omega)
          refine zG_wn (pc := 52) (L := [.inr (.inr (some 97)), .inl a1, .inl a2, .inl a3, .inl a4, zN, zN]) (st := []) 6 hd0 hz zp_231 (qm_231_97 (by first | exact zdk hd rfl | omega) hCM13   x19 (by omega) (by exact hCM13.txt a2 _ (by omega) (by omega))) (by subst hx19; subst hx18; rfl) (fun x21 M20 hr hx21 => ?_)
          obtain ⟨hCM20, hFM20⟩ := hr
          have hWM20 : qFm [98, 105, 106, 107, 1007, 1010, 1012, 1013] M M20 := hWM13.tr hFM20 (by decide)
          have e22 : M20 98 5 = M13 98 5 := hFM20 98 5 (by decide)
          have hX98_M20 : ∀ j : Nat, j ≠ 5 ∧ ((j : Int) < 4000 ∨ 5640 ≤ j) → M20 98 j = M 98 j := fun j hj => (hFM20.ar 98 j (by decide) (by decide)).trans (hX98_M13 j hj)
          refine zG_wi_eq (pc := 53) (n' := 56) (t := 59) (L := [.inr (.inr (some 97)), .inl a1, .inl a2, .inl a3, .inl a4, zN, zN]) (st := []) (x := x21) (y := (-1)) 1 hd0 hz (by rfl) (fun hb23 => ?_) (fun hb23 => ?_)
          · refine zG_w (c' := (64, [.inr (.inr (some 97)), .inl a1, .inl a2, .inl a3, .inl a4, zN, zN], [.inl 5, .inr (.inr (some 98))])) 3 hd0 hz (by rfl) ?_
            refine zG_iald hd0 hz rfl rfl (.inl rfl) (by omega) ?_
            show zG n (0, 0) d 257 (65, [.inr (.inr (some 97)), .inl a1, .inl a2, .inl a3, .inl a4, zN, zN], [.inl (M20 98 5)]) M20 _
            refine zG_wi_ne (pc := 67) (n' := 70) (t := 73) (L := [.inr (.inr (some 97)), .inl a1, .inl a2, .inl a3, .inl a4, zN, zN]) (st := []) (x := (M20 98 5)) (y := 10) 1 hd0 hz (by rfl) (fun hb24 => ?_) (fun hb24 => ?_)
            · refine zG_w (c' := (84, [.inr (.inr (some 97)), .inl a1, .inl a2, .inl a3, .inl a4, zN, zN], [.inl 5, .inr (.inr (some 98)), .inl 164, .inl 4000])) 5 hd0 hz (by rfl) ?_
              refine zG_iald hd0 hz rfl rfl (.inl rfl) (by omega) ?_
              show zG n (0, 0) d 257 (85, [.inr (.inr (some 97)), .inl a1, .inl a2, .inl a3, .inl a4, zN, zN], [.inl (M20 98 5), .inl 164, .inl 4000]) M20 _
              obtain ⟨x25, hx25⟩ : ∃ x : Int, x = w32 (164 * (M20 98 5)) := ⟨_, rfl⟩
              have hx25e : x25 = 164 * (M20 98 5) := by rw [hx25]; exact w32_id (by omega)
              obtain ⟨x26, hx26⟩ : ∃ x : Int, x = w32 (4000 + x25) := ⟨_, rfl⟩
              have hx26e : x26 = 4000 + x25 := by rw [hx26]; exact w32_id (by omega)
              refine zG_w (c' := (92, [.inr (.inr (some 97)), .inl a1, .inl a2, .inl a3, .inl a4, .inl x26, .inl 0], [])) 5 hd0 hz (by subst hx26; subst hx25; rfl) ?_
              have j92 : ∀ (N : Nat) (v27 : Int) (M28 : zM) , (81 - v27 : Int).toNat < N → 0 ≤ v27 ∧ v27 ≤ 81 → (M28 98 5 = M 98 5) → qMI M28 → qFm [98, 105, 106, 107, 1007, 1010, 1012, 1013] M M28 → (∀ j : Nat, j ≠ 5 ∧ ((j : Int) < 4000 ∨ 5640 ≤ j) → M28 98 j = M 98 j) → zG n (0, 0) d 257 (92, [.inr (.inr (some 97)), .inl a1, .inl a2, .inl a3, .inl a4, .inl x26, .inl v27], []) M28 (fun v M' => (qMI M' ∧ qFm [98, 105, 106, 107, 1007, 1010, 1012, 1013] M M') ∧ ∃ x : Int, v = some (.inl x) ∧ ((-2147483648) ≤ x ∧ x ≤ 2147483647) ∧ (∀ j : Nat, j ≠ 5 ∧ ((j : Int) < 4000 ∨ 5640 ≤ j) → M' 98 j = M 98 j)) := by
                intro N
                induction N with
                | zero => intro v27 M28 hN hv27 hx0_92 hCM28 hWM28 hX98_M28; exact absurd hN (Nat.not_lt_zero _)
                | succ N ih92 =>
                  intro v27 M28 hN hv27 hx0_92 hCM28 hWM28 hX98_M28
                  replace hN : 81 - v27 < (N : Int) + 1 := by omega
                  have r29 := hCM28.cnt5
                  refine zG_wi_ge (pc := 96) (n' := 99) (t := 160) (L := [.inr (.inr (some 97)), .inl a1, .inl a2, .inl a3, .inl a4, .inl x26, .inl v27]) (st := []) (x := v27) (y := 81) 2 hd0 hz (by rfl) (fun hb30 => ?_) (fun hb30 => ?_)
                  · obtain ⟨x31, hx31⟩ : ∃ x : Int, x = w32 (x26 + 162) := ⟨_, rfl⟩
                    have hx31e : x31 = x26 + 162 := by rw [hx31]; exact w32_id (by omega)
                    refine zG_w (c' := (171, [.inr (.inr (some 97)), .inl a1, .inl a2, .inl a3, .inl a4, .inl x26, .inl v27], [.inl a3, .inl x31, .inr (.inr (some 98))])) 6 hd0 hz (by subst hx31; rfl) ?_
                    refine zG_iast hd0 hz rfl rfl (by omega) ?_
                    obtain ⟨M32, hM32⟩ : ∃ X : zM, X = zput M28 98 (x31 : Int).toNat a3 := ⟨_, rfl⟩
                    rw [← hM32]
                    have hCM32 : qMI M32 := by rw [hM32]; exact hCM28.put98' (qOS_or (by omega) (by omega) (fun _ _ _ => by omega)) (by omega) (by omega)
                    have hWM32 : qFm [98, 105, 106, 107, 1007, 1010, 1012, 1013] M M32 := by rw [hM32]; exact hWM28.pa (by decide) (by decide)
                    have e33 : M32 98 5 = M28 98 5 := by rw [hM32]; exact qput_nk (by omega)
                    have hX98_M32 : ∀ j : Nat, j ≠ 5 ∧ ((j : Int) < 4000 ∨ 5640 ≤ j) → M32 98 j = M 98 j := fun j hj => by rw [hM32, qput_nk (by omega)]; exact hX98_M28 j hj
                    show zG n (0, 0) d 257 (172, [.inr (.inr (some 97)), .inl a1, .inl a2, .inl a3, .inl a4, .inl x26, .inl v27], []) M32 _
                    obtain ⟨x34, hx34⟩ : ∃ x : Int, x = w32 (x26 + 163) := ⟨_, rfl⟩
                    have hx34e : x34 = x26 + 163 := by rw [hx34]; exact w32_id (by omega)
                    refine zG_w (c' := (184, [.inr (.inr (some 97)), .inl a1, .inl a2, .inl a3, .inl a4, .inl x26, .inl v27], [.inl a4, .inl x34, .inr (.inr (some 98))])) 6 hd0 hz (by subst hx34; rfl) ?_
                    have j192 : ∀ (v35 : Int) , 0 ≤ v35 ∧ v35 ≤ 1 → zG n (0, 0) d 257 (192, [.inr (.inr (some 97)), .inl a1, .inl a2, .inl a3, .inl a4, .inl x26, .inl v27], [.inl v35, .inl x34, .inr (.inr (some 98))]) M32 (fun v M' => (qMI M' ∧ qFm [98, 105, 106, 107, 1007, 1010, 1012, 1013] M M') ∧ ∃ x : Int, v = some (.inl x) ∧ ((-2147483648) ≤ x ∧ x ≤ 2147483647) ∧ (∀ j : Nat, j ≠ 5 ∧ ((j : Int) < 4000 ∨ 5640 ≤ j) → M' 98 j = M 98 j)) := by
                      intro v35 hv35
                      refine zG_iast hd0 hz rfl rfl (by omega) ?_
                      obtain ⟨M36, hM36⟩ : ∃ X : zM, X = zput M32 98 (x34 : Int).toNat v35 := ⟨_, rfl⟩
                      rw [← hM36]
                      have hCM36 : qMI M36 := by rw [hM36]; exact hCM32.put98' (qOS_or (by omega) (by omega) (fun _ _ _ => by omega)) (by omega) (by omega)
                      have hWM36 : qFm [98, 105, 106, 107, 1007, 1010, 1012, 1013] M M36 := by rw [hM36]; exact hWM32.pa (by decide) (by decide)
                      have e37 : M36 98 5 = M32 98 5 := by rw [hM36]; exact qput_nk (by omega)
                      have hX98_M36 : ∀ j : Nat, j ≠ 5 ∧ ((j : Int) < 4000 ∨ 5640 ≤ j) → M36 98 j = M 98 j := fun j hj => by rw [hM36, qput_nk (by omega)]; exact hX98_M32 j hj
                      show zG n (0, 0) d 257 (193, [.inr (.inr (some 97)), .inl a1, .inl a2, .inl a3, .inl a4, .inl x26, .inl v27], []) M36 _
                      refine zG_wc (c1 := (198, [.inr (.inr (some 97)), .inl a1, .inl a2, .inl a3, .inl a4, .inl x26, .inl v27], [])) 2 hd0 hz zp_183 (qx_oneC (by first | exact zdk hd rfl | omega) hCM36   5 (by decide) (by decide) (by refine ⟨by omega, fun _ => by omega, fun _ => by omega, fun _ => by omega, fun _ => by omega, fun _ => by omega, fun _ => by omega, fun _ => by omega, fun c9 hc9 _ => by omega, fun u9 hu9 _ => by omega, fun m9 hm9 _ => by omega, fun a9 ha9 => ⟨fun _ => by omega, fun _ => by omega, fun _ => by omega, fun _ => by omega⟩, fun t9 ht9 _ => by omega, fun o9 ho9 _ => by omega⟩) ) (by rfl) (fun vr M38 hr => ?_)
                      obtain ⟨⟨hCM38, hFM38⟩, x39, rfl, hx39, hpx39_0, hpx39_1⟩ := hr
                      have hWM38 : qFm [98, 105, 106, 107, 1007, 1010, 1012, 1013] M M38 := hWM36.tr hFM38 (by decide)
                      have hX98_M38 : ∀ j : Nat, j ≠ 5 ∧ ((j : Int) < 4000 ∨ 5640 ≤ j) → M38 98 j = M 98 j := fun j hj => (hpx39_1 j (by omega)).trans (hX98_M36 j hj)
                      show zG n (0, 0) d 257 (198, [.inr (.inr (some 97)), .inl a1, .inl a2, .inl a3, .inl a4, .inl x26, .inl v27], [.inl x39]) M38 _
                      exact zG_wr (r := some (.inl x39)) 0 hd0 hz (by rfl) ⟨⟨hCM38, hWM38⟩, _, rfl, by omega, hX98_M38⟩
                    refine zG_wf_eq (pc := 184) (n' := 187) (t := 191) (L := [.inr (.inr (some 97)), .inl a1, .inl a2, .inl a3, .inl a4, .inl x26, .inl v27]) (st := [.inl x34, .inr (.inr (some 98))]) (x := a4) 0 hd0 hz (by rfl) (fun hb41 => ?_) (fun hb41 => ?_)
                    · refine zG_w (c' := (192, [.inr (.inr (some 97)), .inl a1, .inl a2, .inl a3, .inl a4, .inl x26, .inl v27], [.inl 0, .inl x34, .inr (.inr (some 98))])) 1 hd0 hz (by rfl) ?_
                      exact j192 0 (by first | decide | omega)
                    · refine zG_w (c' := (192, [.inr (.inr (some 97)), .inl a1, .inl a2, .inl a3, .inl a4, .inl x26, .inl v27], [.inl 1, .inl x34, .inr (.inr (some 98))])) 2 hd0 hz (by rfl) ?_
                      exact j192 1 (by first | decide | omega)
                  · obtain ⟨x42, hx42⟩ : ∃ x : Int, x = w32 (x26 + v27) := ⟨_, rfl⟩
                    have hx42e : x42 = x26 + v27 := by rw [hx42]; exact w32_id (by omega)
                    obtain ⟨x43, hx43⟩ : ∃ x : Int, x = w32 (81 * a1) := ⟨_, rfl⟩
                    have hx43e : x43 = 81 * a1 := by rw [hx43]; exact w32_id (by omega)
                    obtain ⟨x44, hx44⟩ : ∃ x : Int, x = w32 (3350 + x43) := ⟨_, rfl⟩
                    have hx44e : x44 = 3350 + x43 := by rw [hx44]; exact w32_id (by omega)
                    obtain ⟨x45, hx45⟩ : ∃ x : Int, x = w32 (x44 + v27) := ⟨_, rfl⟩
                    have hx45e : x45 = x44 + v27 := by rw [hx45]; exact w32_id (by omega)
                    refine zG_w (c' := (123, [.inr (.inr (some 97)), .inl a1, .inl a2, .inl a3, .inl a4, .inl x26, .inl v27], [.inl x45, .inr (.inr (some 98)), .inl x42, .inr (.inr (some 98))])) 14 hd0 hz (by subst hx45; subst hx44; subst hx43; subst hx42; rfl) ?_
                    refine zG_iald hd0 hz rfl rfl (.inl rfl) (by omega) ?_
                    obtain ⟨x46, hx46⟩ : ∃ x : Int, x = M28 98 (x45 : Int).toNat := ⟨_, rfl⟩
                    rw [← hx46]
                    have hx46r : qin x46 := by rw [hx46]; exact hCM28.sin _
                    have hl0 : v27 = 0 → 0 ≤ x46 ∧ x46 ≤ 80 := fun h9 => by rw [hx46]; exact hCM28.txt a1 _ (by omega) (by omega)
                    show zG n (0, 0) d 257 (124, [.inr (.inr (some 97)), .inl a1, .inl a2, .inl a3, .inl a4, .inl x26, .inl v27], [.inl x46, .inl x42, .inr (.inr (some 98))]) M28 _
                    refine zG_iast hd0 hz rfl rfl (by omega) ?_
                    obtain ⟨M47, hM47⟩ : ∃ X : zM, X = zput M28 98 (x42 : Int).toNat x46 := ⟨_, rfl⟩
                    rw [← hM47]
                    have hCM47 : qMI M47 := by rw [hM47]; exact hCM28.put98' (qOS_or (by omega) (by omega) (fun _ _ _ => by omega)) (by omega) (by omega)
                    have hWM47 : qFm [98, 105, 106, 107, 1007, 1010, 1012, 1013] M M47 := by rw [hM47]; exact hWM28.pa (by decide) (by decide)
                    have e48 : M47 98 5 = M28 98 5 := by rw [hM47]; exact qput_nk (by omega)
                    have hX98_M47 : ∀ j : Nat, j ≠ 5 ∧ ((j : Int) < 4000 ∨ 5640 ≤ j) → M47 98 j = M 98 j := fun j hj => by rw [hM47, qput_nk (by omega)]; exact hX98_M28 j hj
                    show zG n (0, 0) d 257 (125, [.inr (.inr (some 97)), .inl a1, .inl a2, .inl a3, .inl a4, .inl x26, .inl v27], []) M47 _
                    obtain ⟨x49, hx49⟩ : ∃ x : Int, x = w32 (x26 + 81) := ⟨_, rfl⟩
                    have hx49e : x49 = x26 + 81 := by rw [hx49]; exact w32_id (by omega)
                    obtain ⟨x50, hx50⟩ : ∃ x : Int, x = w32 (x49 + v27) := ⟨_, rfl⟩
                    have hx50e : x50 = x49 + v27 := by rw [hx50]; exact w32_id (by omega)
                    obtain ⟨x51, hx51⟩ : ∃ x : Int, x = w32 (81 * a2) := ⟨_, rfl⟩
                    have hx51e : x51 = 81 * a2 := by rw [hx51]; exact w32_id (by omega)
                    obtain ⟨x52, hx52⟩ : ∃ x : Int, x = w32 (3350 + x51) := ⟨_, rfl⟩
                    have hx52e : x52 = 3350 + x51 := by rw [hx52]; exact w32_id (by omega)
                    obtain ⟨x53, hx53⟩ : ∃ x : Int, x = w32 (x52 + v27) := ⟨_, rfl⟩
                    have hx53e : x53 = x52 + v27 := by rw [hx53]; exact w32_id (by omega)
                    refine zG_w (c' := (152, [.inr (.inr (some 97)), .inl a1, .inl a2, .inl a3, .inl a4, .inl x26, .inl v27], [.inl x53, .inr (.inr (some 98)), .inl x50, .inr (.inr (some 98))])) 16 hd0 hz (by subst hx53; subst hx52; subst hx51; subst hx50; subst hx49; rfl) ?_
                    refine zG_iald hd0 hz rfl rfl (.inl rfl) (by omega) ?_
                    obtain ⟨x54, hx54⟩ : ∃ x : Int, x = M47 98 (x53 : Int).toNat := ⟨_, rfl⟩
                    rw [← hx54]
                    have hx54r : qin x54 := by rw [hx54]; exact hCM47.sin _
                    have hl1 : v27 = 0 → 0 ≤ x54 ∧ x54 ≤ 80 := fun h9 => by rw [hx54]; exact hCM47.txt a2 _ (by omega) (by omega)
                    show zG n (0, 0) d 257 (153, [.inr (.inr (some 97)), .inl a1, .inl a2, .inl a3, .inl a4, .inl x26, .inl v27], [.inl x54, .inl x50, .inr (.inr (some 98))]) M47 _
                    refine zG_iast hd0 hz rfl rfl (by omega) ?_
                    obtain ⟨M55, hM55⟩ : ∃ X : zM, X = zput M47 98 (x50 : Int).toNat x54 := ⟨_, rfl⟩
                    rw [← hM55]
                    have hCM55 : qMI M55 := by rw [hM55]; exact hCM47.put98' (qOS_or (by omega) (by omega) (fun _ _ _ => by omega)) (by omega) (by omega)
                    have hWM55 : qFm [98, 105, 106, 107, 1007, 1010, 1012, 1013] M M55 := by rw [hM55]; exact hWM47.pa (by decide) (by decide)
                    have e56 : M55 98 5 = M47 98 5 := by rw [hM55]; exact qput_nk (by omega)
                    have hX98_M55 : ∀ j : Nat, j ≠ 5 ∧ ((j : Int) < 4000 ∨ 5640 ≤ j) → M55 98 j = M 98 j := fun j hj => by rw [hM55, qput_nk (by omega)]; exact hX98_M47 j hj
                    show zG n (0, 0) d 257 (154, [.inr (.inr (some 97)), .inl a1, .inl a2, .inl a3, .inl a4, .inl x26, .inl v27], []) M55 _
                    obtain ⟨x57, hx57⟩ : ∃ x : Int, x = w32 (v27 + 1) := ⟨_, rfl⟩
                    have hx57e : x57 = v27 + 1 := by rw [hx57]; exact w32_id (by omega)
                    refine zG_w (c' := (92, [.inr (.inr (some 97)), .inl a1, .inl a2, .inl a3, .inl a4, .inl x26, .inl x57], [])) 2 hd0 hz (by subst hx57; rfl) ?_
                    exact ih92 x57 M55 (by omega) (by omega) (by omega) hCM55 hWM55 hX98_M55
              exact j92 ((81 - 0 : Int).toNat + 1) 0 M20 (by omega) (by omega) (by omega) hCM20 hWM20 hX98_M20
            · exact zG_wr (r := some (.inl (-4))) 1 hd0 hz (by rfl) ⟨⟨hCM20, hWM20⟩, _, rfl, by omega, hX98_M20⟩
          · exact j56 M20 hCM20 hWM20 hX98_M20
      · exact j21
