/-! THE MODEL'S METHODS, BY PROGRAM -/
theorem qn_251_97 {n d : Nat} {M : zM} (hd : 10 ≤ d) (hC : qMI M)  (a1 : Int) (ha1 : (-2147483648) ≤ a1 ∧ a1 ≤ 2147483647) (a2 : Int) (ha2 : (-2147483648) ≤ a2 ∧ a2 ≤ 2147483647) (a3 : Int) (ha3 : (-2147483648) ≤ a3 ∧ a3 ≤ 2147483647) : qOkN n d 251 [.inr (.inr (some 97)), .inl a1, .inl a2, .inl a3] 7 [98, 101, 102, 103, 104, 105, 106, 107, 108, 109, 110, 111, 112, 113, 1007, 1010, 1012, 1013, 1016, 1018, 1019, 1020, 1021, 1022, 1023] M (fun v M' => ∃ x : Int, v = some (.inl x) ∧ ((-3) ≤ x ∧ x ≤ 2147483647) ∧ (M' 98 (154 + 5 * a1).toNat = M 98 (154 + 5 * a1).toNat) ∧ (∀ j : Nat, (j : Int) ≠ 154 + 5 * a1 → M' 98 j = M 98 j)) := by
  have hz := zp_251
  have hd0 : 0 < d := by omega
  have hW : qFm [98, 101, 102, 103, 104, 105, 106, 107, 108, 109, 110, 111, 112, 113, 1007, 1010, 1012, 1013, 1016, 1018, 1019, 1020, 1021, 1022, 1023] M M := qFm.rfl
  have hX98_M : ∀ j : Nat, (j : Int) ≠ 154 + 5 * a1 → M 98 j = M 98 j := fun _ _ => rfl
  have r1 := hC.cnt1
  have r2 := hC.cnt3
  show zG n (0, 0) d 251 (0, [.inr (.inr (some 97)), .inl a1, .inl a2, .inl a3, zN, zN, zN], []) M _
  refine zG_wp (pc := 6) (L := [.inr (.inr (some 97)), .inl a1, .inl a2, .inl a3, zN, zN, zN]) (st := []) 3 hd0 hz zp_182 (qx_is (by first | exact zdk hd rfl | omega) hC   3 (by first | decide | omega) a1 (by first | with_reducible exact ha1 | omega) ) (by rfl) (fun x4 hx4 => ?_)
  have j23 : zG n (0, 0) d 251 (23, [.inr (.inr (some 97)), .inl a1, .inl a2, .inl a3, zN, zN, zN], []) M (fun v M' => (qMI M' ∧ qFm [98, 101, 102, 103, 104, 105, 106, 107, 108, 109, 110, 111, 112, 113, 1007, 1010, 1012, 1013, 1016, 1018, 1019, 1020, 1021, 1022, 1023] M M') ∧ ∃ x : Int, v = some (.inl x) ∧ ((-3) ≤ x ∧ x ≤ 2147483647) ∧ (M' 98 (154 + 5 * a1).toNat = M 98 (154 + 5 * a1).toNat) ∧ (∀ j : Nat, (j : Int) ≠ 154 + 5 * a1 → M' 98 j = M 98 j)) := by
    exact zG_wr (r := some (.inl (-2))) 1 hd0 hz (by rfl) ⟨⟨hC, hW⟩, _, rfl, by omega, by omega, hX98_M⟩
  refine zG_wf_eq (pc := 6) (n' := 9) (t := 23) (L := [.inr (.inr (some 97)), .inl a1, .inl a2, .inl a3, zN, zN, zN]) (st := []) (x := x4) 0 hd0 hz (by rfl) (fun hb5 => ?_) (fun hb5 => ?_)
  · exact j23
  · have hcx4 := hx4.2.2.mp (by omega)
    clear hx4 hb5
    refine zG_wp (pc := 13) (L := [.inr (.inr (some 97)), .inl a1, .inl a2, .inl a3, zN, zN, zN]) (st := []) 1 hd0 hz zp_184 (qm_184 (by first | exact zdk hd rfl | omega) hC   a2 (by first | with_reducible exact ha2 | omega) ) (by rfl) (fun x7 hr => ?_)
    obtain ⟨hx7, hpx7_0⟩ := hr
    refine zG_wf_eq (pc := 13) (n' := 16) (t := 23) (L := [.inr (.inr (some 97)), .inl a1, .inl a2, .inl a3, zN, zN, zN]) (st := []) (x := x7) 0 hd0 hz (by rfl) (fun hb8 => ?_) (fun hb8 => ?_)
    · exact j23
    · have hcx7 := hpx7_0.mp (by omega)
      clear hx7 hpx7_0 hb8
      refine zG_wp (pc := 20) (L := [.inr (.inr (some 97)), .inl a1, .inl a2, .inl a3, zN, zN, zN]) (st := []) 1 hd0 hz zp_184 (qm_184 (by first | exact zdk hd rfl | omega) hC   a3 (by first | with_reducible exact ha3 | omega) ) (by rfl) (fun x10 hr => ?_)
      obtain ⟨hx10, hpx10_0⟩ := hr
      refine zG_wf_ne (pc := 20) (n' := 23) (t := 26) (L := [.inr (.inr (some 97)), .inl a1, .inl a2, .inl a3, zN, zN, zN]) (st := []) (x := x10) 0 hd0 hz (by rfl) (fun hb11 => ?_) (fun hb11 => ?_)
      · have hcx10 := hpx10_0.mp (by omega)
        clear hx10 hpx10_0 hb11
        refine zG_wp (pc := 31) (L := [.inr (.inr (some 97)), .inl a1, .inl a2, .inl a3, zN, zN, zN]) (st := []) 2 hd0 hz zp_192 (qm_192_97 (by first | exact zdk hd rfl | omega) hC   a1 (by first | with_reducible exact ha1 | omega) ) (by rfl) (fun x13 hr => ?_)
        obtain ⟨hx13, hpx13_0⟩ := hr
        have hst0 : x13 = 1 → M 98 (154 + 5 * a1).toNat = 0 := fun h9 => by have h8 := qStN_4 (hpx13_0.symm.trans h9); unfold qMt at h8; rw [show 150 + 5 * a1 + 4 = 154 + 5 * a1 by omega] at h8; exact h8
        refine zG_wf_ne (pc := 31) (n' := 34) (t := 37) (L := [.inr (.inr (some 97)), .inl a1, .inl a2, .inl a3, zN, zN, zN]) (st := []) (x := x13) 0 hd0 hz (by rfl) (fun hb14 => ?_) (fun hb14 => ?_)
        · refine zG_wv (pc := 42) (L := [.inr (.inr (some 97)), .inl a1, .inl a2, .inl a3, zN, zN, zN]) (st := []) 2 hd0 hz zp_211 (qm_211_97 (by first | exact zdk hd rfl | omega) hC   a3 (by first | with_reducible exact ha3 | omega) ) (by rfl) (fun M15 hr => ?_)
          obtain ⟨hCM15, hFM15⟩ := hr
          have hWM15 : qFm [98, 101, 102, 103, 104, 105, 106, 107, 108, 109, 110, 111, 112, 113, 1007, 1010, 1012, 1013, 1016, 1018, 1019, 1020, 1021, 1022, 1023] M M15 := hW.tr hFM15 (by decide)
          have e17 : M15 98 1 = M 98 1 := hFM15 98 1 (by decide)
          have e18 : M15 98 3 = M 98 3 := hFM15 98 3 (by decide)
          have hX98_M15 : ∀ j : Nat, (j : Int) ≠ 154 + 5 * a1 → M15 98 j = M 98 j := fun j hj => (hFM15.ar 98 j (by decide) (by decide)).trans (hX98_M j hj)
          refine zG_w (c' := (45, [.inr (.inr (some 97)), .inl a1, .inl a2, .inl a3, .inl 0, zN, zN], [])) 2 hd0 hz (by rfl) ?_
          have j45 : ∀ (N : Nat) (v19 : Int) (M20 : zM) , (20 - v19 : Int).toNat < N → 0 ≤ v19 ∧ v19 ≤ 20 → (M20 98 1 = M 98 1) → qMI M20 → qFm [98, 101, 102, 103, 104, 105, 106, 107, 108, 109, 110, 111, 112, 113, 1007, 1010, 1012, 1013, 1016, 1018, 1019, 1020, 1021, 1022, 1023] M M20 → (∀ j : Nat, (j : Int) ≠ 154 + 5 * a1 → M20 98 j = M 98 j) → zG n (0, 0) d 251 (45, [.inr (.inr (some 97)), .inl a1, .inl a2, .inl a3, .inl v19, zN, zN], []) M20 (fun v M' => (qMI M' ∧ qFm [98, 101, 102, 103, 104, 105, 106, 107, 108, 109, 110, 111, 112, 113, 1007, 1010, 1012, 1013, 1016, 1018, 1019, 1020, 1021, 1022, 1023] M M') ∧ ∃ x : Int, v = some (.inl x) ∧ ((-3) ≤ x ∧ x ≤ 2147483647) ∧ (M' 98 (154 + 5 * a1).toNat = M 98 (154 + 5 * a1).toNat) ∧ (∀ j : Nat, (j : Int) ≠ 154 + 5 * a1 → M' 98 j = M 98 j)) := by
            intro N
            induction N with
            | zero => intro v19 M20 hN hv19 hx0_45 hCM20 hWM20 hX98_M20; exact absurd hN (Nat.not_lt_zero _)
            | succ N ih45 =>
              intro v19 M20 hN hv19 hx0_45 hCM20 hWM20 hX98_M20
              replace hN : 20 - v19 < (N : Int) + 1 := by omega
              have r21 := hCM20.cnt1
              refine zG_w (c' := (52, [.inr (.inr (some 97)), .inl a1, .inl a2, .inl a3, .inl v19, zN, zN], [.inl 1, .inr (.inr (some 98)), .inl v19])) 4 hd0 hz (by rfl) ?_
              refine zG_iald hd0 hz rfl rfl (.inl rfl) (by omega) ?_
              show zG n (0, 0) d 251 (53, [.inr (.inr (some 97)), .inl a1, .inl a2, .inl a3, .inl v19, zN, zN], [.inl (M20 98 1), .inl v19]) M20 _
              refine zG_wi_ge (pc := 53) (n' := 56) (t := 101) (L := [.inr (.inr (some 97)), .inl a1, .inl a2, .inl a3, .inl v19, zN, zN]) (st := []) (x := v19) (y := (M20 98 1)) 0 hd0 hz (by rfl) (fun hb22 => ?_) (fun hb22 => ?_)
              · obtain ⟨x23, hx23⟩ : ∃ x : Int, x = w32 (5 * a1) := ⟨_, rfl⟩
                have hx23e : x23 = 5 * a1 := by rw [hx23]; exact w32_id (by omega)
                obtain ⟨x24, hx24⟩ : ∃ x : Int, x = w32 (150 + x23) := ⟨_, rfl⟩
                have hx24e : x24 = 150 + x23 := by rw [hx24]; exact w32_id (by omega)
                obtain ⟨x25, hx25⟩ : ∃ x : Int, x = w32 (x24 + 4) := ⟨_, rfl⟩
                have hx25e : x25 = x24 + 4 := by rw [hx25]; exact w32_id (by omega)
                refine zG_w (c' := (115, [.inr (.inr (some 97)), .inl a1, .inl a2, .inl a3, .inl v19, zN, zN], [.inl 1, .inl x25, .inr (.inr (some 98))])) 10 hd0 hz (by subst hx25; subst hx24; subst hx23; rfl) ?_
                refine zG_iast hd0 hz rfl rfl (by omega) ?_
                obtain ⟨M26, hM26⟩ : ∃ X : zM, X = zput M20 98 (x25 : Int).toNat 1 := ⟨_, rfl⟩
                rw [← hM26]
                have hCM26 : qMI M26 := by rw [hM26]; exact hCM20.put98' (qOS_mt (by omega) (by omega) (fun _ _ _ => by omega)) (by omega) (by omega)
                have hWM26 : qFm [98, 101, 102, 103, 104, 105, 106, 107, 108, 109, 110, 111, 112, 113, 1007, 1010, 1012, 1013, 1016, 1018, 1019, 1020, 1021, 1022, 1023] M M26 := by rw [hM26]; exact hWM20.pa (by decide) (by decide)
                have e27 : M26 98 1 = M20 98 1 := by rw [hM26]; exact qput_nk (by omega)
                have hX98_M26 : ∀ j : Nat, (j : Int) ≠ 154 + 5 * a1 → M26 98 j = M 98 j := fun j hj => by rw [hM26, qput_nk (by omega)]; exact hX98_M20 j hj
                show zG n (0, 0) d 251 (116, [.inr (.inr (some 97)), .inl a1, .inl a2, .inl a3, .inl v19, zN, zN], []) M26 _
                refine zG_wv (pc := 121) (L := [.inr (.inr (some 97)), .inl a1, .inl a2, .inl a3, .inl v19, zN, zN]) (st := []) 2 hd0 hz zp_211 (qm_211_97 (by first | exact zdk hd rfl | omega) hCM26   a3 (by first | with_reducible exact ha3 | omega) ) (by rfl) (fun M28 hr => ?_)
                obtain ⟨hCM28, hFM28⟩ := hr
                have hWM28 : qFm [98, 101, 102, 103, 104, 105, 106, 107, 108, 109, 110, 111, 112, 113, 1007, 1010, 1012, 1013, 1016, 1018, 1019, 1020, 1021, 1022, 1023] M M28 := hWM26.tr hFM28 (by decide)
                have e30 : M28 98 1 = M26 98 1 := hFM28 98 1 (by decide)
                have hX98_M28 : ∀ j : Nat, (j : Int) ≠ 154 + 5 * a1 → M28 98 j = M 98 j := fun j hj => (hFM28.ar 98 j (by decide) (by decide)).trans (hX98_M26 j hj)
                refine zG_w (c' := (127, [.inr (.inr (some 97)), .inl a1, .inl a2, .inl a3, .inl 0, .inl 0, zN], [])) 4 hd0 hz (by rfl) ?_
                have j127 : ∀ (N : Nat) (v31 v32 : Int) (M33 : zM) , (20 - v32 : Int).toNat < N → 0 ≤ v31 ∧ v31 ≤ 2147483647 → 0 ≤ v32 ∧ v32 ≤ 20 → (M33 98 1 = M 98 1) → qMI M33 → qFm [98, 101, 102, 103, 104, 105, 106, 107, 108, 109, 110, 111, 112, 113, 1007, 1010, 1012, 1013, 1016, 1018, 1019, 1020, 1021, 1022, 1023] M M33 → (∀ j : Nat, (j : Int) ≠ 154 + 5 * a1 → M33 98 j = M 98 j) → zG n (0, 0) d 251 (127, [.inr (.inr (some 97)), .inl a1, .inl a2, .inl a3, .inl v31, .inl v32, zN], []) M33 (fun v M' => (qMI M' ∧ qFm [98, 101, 102, 103, 104, 105, 106, 107, 108, 109, 110, 111, 112, 113, 1007, 1010, 1012, 1013, 1016, 1018, 1019, 1020, 1021, 1022, 1023] M M') ∧ ∃ x : Int, v = some (.inl x) ∧ ((-3) ≤ x ∧ x ≤ 2147483647) ∧ (M' 98 (154 + 5 * a1).toNat = M 98 (154 + 5 * a1).toNat) ∧ (∀ j : Nat, (j : Int) ≠ 154 + 5 * a1 → M' 98 j = M 98 j)) := by
                  intro N
                  induction N with
                  | zero => intro v31 v32 M33 hN hv31 hv32 hx0_127 hCM33 hWM33 hX98_M33; exact absurd hN (Nat.not_lt_zero _)
                  | succ N ih127 =>
                    intro v31 v32 M33 hN hv31 hv32 hx0_127 hCM33 hWM33 hX98_M33
                    replace hN : 20 - v32 < (N : Int) + 1 := by omega
                    have r34 := hCM33.cnt1
                    refine zG_w (c' := (134, [.inr (.inr (some 97)), .inl a1, .inl a2, .inl a3, .inl v31, .inl v32, zN], [.inl 1, .inr (.inr (some 98)), .inl v32])) 4 hd0 hz (by rfl) ?_
                    refine zG_iald hd0 hz rfl rfl (.inl rfl) (by omega) ?_
                    show zG n (0, 0) d 251 (135, [.inr (.inr (some 97)), .inl a1, .inl a2, .inl a3, .inl v31, .inl v32, zN], [.inl (M33 98 1), .inl v32]) M33 _
                    refine zG_wi_ge (pc := 135) (n' := 138) (t := 217) (L := [.inr (.inr (some 97)), .inl a1, .inl a2, .inl a3, .inl v31, .inl v32, zN]) (st := []) (x := v32) (y := (M33 98 1)) 0 hd0 hz (by rfl) (fun hb35 => ?_) (fun hb35 => ?_)
                    · obtain ⟨x36, hx36⟩ : ∃ x : Int, x = w32 (5 * a1) := ⟨_, rfl⟩
                      have hx36e : x36 = 5 * a1 := by rw [hx36]; exact w32_id (by omega)
                      obtain ⟨x37, hx37⟩ : ∃ x : Int, x = w32 (150 + x36) := ⟨_, rfl⟩
                      have hx37e : x37 = 150 + x36 := by rw [hx37]; exact w32_id (by omega)
                      obtain ⟨x38, hx38⟩ : ∃ x : Int, x = w32 (x37 + 4) := ⟨_, rfl⟩
                      have hx38e : x38 = x37 + 4 := by rw [hx38]; exact w32_id (by omega)
                      refine zG_w (c' := (231, [.inr (.inr (some 97)), .inl a1, .inl a2, .inl a3, .inl v31, .inl v32, zN], [.inl 0, .inl x38, .inr (.inr (some 98))])) 10 hd0 hz (by subst hx38; subst hx37; subst hx36; rfl) ?_
                      refine zG_iast hd0 hz rfl rfl (by omega) ?_
                      obtain ⟨M39, hM39⟩ : ∃ X : zM, X = zput M33 98 (x38 : Int).toNat 0 := ⟨_, rfl⟩
                      rw [← hM39]
                      have hCM39 : qMI M39 := by rw [hM39]; exact hCM33.put98' (qOS_mt (by omega) (by omega) (fun _ _ _ => by omega)) (by omega) (by omega)
                      have hWM39 : qFm [98, 101, 102, 103, 104, 105, 106, 107, 108, 109, 110, 111, 112, 113, 1007, 1010, 1012, 1013, 1016, 1018, 1019, 1020, 1021, 1022, 1023] M M39 := by rw [hM39]; exact hWM33.pa (by decide) (by decide)
                      have e40 : M39 98 1 = M33 98 1 := by rw [hM39]; exact qput_nk (by omega)
                      have hX98_M39 : ∀ j : Nat, (j : Int) ≠ 154 + 5 * a1 → M39 98 j = M 98 j := fun j hj => by rw [hM39, qput_nk (by omega)]; exact hX98_M33 j hj
                      have hsl : M39 98 (154 + 5 * a1).toNat = 0 := by rw [hM39, show (x38 : Int).toNat = (154 + 5 * a1).toNat by omega]; exact qput_eq
                      show zG n (0, 0) d 251 (232, [.inr (.inr (some 97)), .inl a1, .inl a2, .inl a3, .inl v31, .inl v32, zN], []) M39 _
                      exact zG_wr (r := some (.inl v31)) 1 hd0 hz (by rfl) ⟨⟨hCM39, hWM39⟩, _, rfl, by omega, by omega, hX98_M39⟩
                    · refine zG_wn (pc := 145) (L := [.inr (.inr (some 97)), .inl a1, .inl a2, .inl a3, .inl v31, .inl v32, zN]) (st := []) 3 hd0 hz zp_243 (qm_243_97 (by first | exact zdk hd rfl | omega) hCM33   v32 (by first | with_reducible exact hv32 | omega) a2 (by first | with_reducible exact ha2 | omega) ) (by rfl) (fun x42 M41 hr hx42 => ?_)
                      obtain ⟨hCM41, hFM41⟩ := hr
                      have hWM41 : qFm [98, 101, 102, 103, 104, 105, 106, 107, 108, 109, 110, 111, 112, 113, 1007, 1010, 1012, 1013, 1016, 1018, 1019, 1020, 1021, 1022, 1023] M M41 := hWM33.tr hFM41 (by decide)
                      have e43 : M41 98 1 = M33 98 1 := hFM41 98 1 (by decide)
                      have hX98_M41 : ∀ j : Nat, (j : Int) ≠ 154 + 5 * a1 → M41 98 j = M 98 j := fun j hj => (hFM41.ar 98 j (by decide) (by decide)).trans (hX98_M33 j hj)
                      refine zG_w (c' := (151, [.inr (.inr (some 97)), .inl a1, .inl a2, .inl a3, .inl v31, .inl v32, zN], [.inl v32, .inr (.inr (some 112)), .inl x42])) 3 hd0 hz (by rfl) ?_
                      refine zG_iald hd0 hz rfl rfl (.inl rfl) (by omega) ?_
                      obtain ⟨x44, hx44⟩ : ∃ x : Int, x = M41 112 (v32 : Int).toNat := ⟨_, rfl⟩
                      rw [← hx44]
                      have hx44r : qin x44 := by rw [hx44]; exact hCM41.ra 112 _ (by decide) (by decide)
                      show zG n (0, 0) d 251 (152, [.inr (.inr (some 97)), .inl a1, .inl a2, .inl a3, .inl v31, .inl v32, zN], [.inl x44, .inl x42]) M41 _
                      have j174 : ∀ (v45 : Int) , 0 ≤ v45 ∧ v45 ≤ 1 → zG n (0, 0) d 251 (174, [.inr (.inr (some 97)), .inl a1, .inl a2, .inl a3, .inl v31, .inl v32, zN], [.inl v45]) M41 (fun v M' => (qMI M' ∧ qFm [98, 101, 102, 103, 104, 105, 106, 107, 108, 109, 110, 111, 112, 113, 1007, 1010, 1012, 1013, 1016, 1018, 1019, 1020, 1021, 1022, 1023] M M') ∧ ∃ x : Int, v = some (.inl x) ∧ ((-3) ≤ x ∧ x ≤ 2147483647) ∧ (M' 98 (154 + 5 * a1).toNat = M 98 (154 + 5 * a1).toNat) ∧ (∀ j : Nat, (j : Int) ≠ 154 + 5 * a1 → M' 98 j = M 98 j)) := by
                        intro v45 hv45
                        refine zG_w (c' := (180, [.inr (.inr (some 97)), .inl a1, .inl a2, .inl a3, .inl v31, .inl v32, .inl v45], [.inl v45, .inl v31])) 3 hd0 hz (by rfl) ?_
                        have j208 : ∀ (v46 : Int) (M47 : zM) , 0 ≤ v46 ∧ v46 ≤ 524288 → (M47 98 1 = M 98 1) → qMI M47 → qFm [98, 101, 102, 103, 104, 105, 106, 107, 108, 109, 110, 111, 112, 113, 1007, 1010, 1012, 1013, 1016, 1018, 1019, 1020, 1021, 1022, 1023] M M47 → (∀ j : Nat, (j : Int) ≠ 154 + 5 * a1 → M47 98 j = M 98 j) → zG n (0, 0) d 251 (208, [.inr (.inr (some 97)), .inl a1, .inl a2, .inl a3, .inl v31, .inl v32, .inl v45], [.inl v46, .inl v31]) M47 (fun v M' => (qMI M' ∧ qFm [98, 101, 102, 103, 104, 105, 106, 107, 108, 109, 110, 111, 112, 113, 1007, 1010, 1012, 1013, 1016, 1018, 1019, 1020, 1021, 1022, 1023] M M') ∧ ∃ x : Int, v = some (.inl x) ∧ ((-3) ≤ x ∧ x ≤ 2147483647) ∧ (M' 98 (154 + 5 * a1).toNat = M 98 (154 + 5 * a1).toNat) ∧ (∀ j : Nat, (j : Int) ≠ 154 + 5 * a1 → M' 98 j = M 98 j)) := by
                          intro v46 M47 hv46 hx0_208 hCM47 hWM47 hX98_M47
                          have r48 := hCM47.cnt1
                          obtain ⟨x49, hx49⟩ : ∃ x : Int, x = zbor v31 v46 := ⟨_, rfl⟩
                          have hx49r := qbor_in v31 v46 2147483648 31 (by decide) (by decide) (by omega) (by omega); rw [← hx49] at hx49r
                          obtain ⟨x50, hx50⟩ : ∃ x : Int, x = w32 (v32 + 1) := ⟨_, rfl⟩
                          have hx50e : x50 = v32 + 1 := by rw [hx50]; exact w32_id (by omega)
                          refine zG_w (c' := (127, [.inr (.inr (some 97)), .inl a1, .inl a2, .inl a3, .inl x49, .inl x50, .inl v45], [])) 4 hd0 hz (by subst hx50; subst hx49; rfl) ?_
                          exact zG_weak (ih127 x49 x50 M47 (by omega) (by omega) (by omega) (by omega) hCM47 hWM47 hX98_M47) ⟨.inr rfl, .inr rfl, .inr rfl, .inr rfl, .inr rfl, .inr rfl, .inl rfl, trivial⟩
                        have j200 : ∀ (M51 : zM) , (M51 98 1 = M 98 1) → qMI M51 → qFm [98, 101, 102, 103, 104, 105, 106, 107, 108, 109, 110, 111, 112, 113, 1007, 1010, 1012, 1013, 1016, 1018, 1019, 1020, 1021, 1022, 1023] M M51 → (∀ j : Nat, (j : Int) ≠ 154 + 5 * a1 → M51 98 j = M 98 j) → zG n (0, 0) d 251 (200, [.inr (.inr (some 97)), .inl a1, .inl a2, .inl a3, .inl v31, .inl v32, .inl v45], [.inl v31]) M51 (fun v M' => (qMI M' ∧ qFm [98, 101, 102, 103, 104, 105, 106, 107, 108, 109, 110, 111, 112, 113, 1007, 1010, 1012, 1013, 1016, 1018, 1019, 1020, 1021, 1022, 1023] M M') ∧ ∃ x : Int, v = some (.inl x) ∧ ((-3) ≤ x ∧ x ≤ 2147483647) ∧ (M' 98 (154 + 5 * a1).toNat = M 98 (154 + 5 * a1).toNat) ∧ (∀ j : Nat, (j : Int) ≠ 154 + 5 * a1 → M' 98 j = M 98 j)) := by
                          intro M51 hx0_200 hCM51 hWM51 hX98_M51
                          have r52 := hCM51.cnt1
                          obtain ⟨x53, hx53⟩ : ∃ x : Int, x = zbshl 1 v32 := ⟨_, rfl⟩
                          have hx53r := qshl1_in v32 524288 19 (by decide) (by decide) (by omega); rw [← hx53] at hx53r
                          refine zG_w (c' := (208, [.inr (.inr (some 97)), .inl a1, .inl a2, .inl a3, .inl v31, .inl v32, .inl v45], [.inl x53, .inl v31])) 4 hd0 hz (by subst hx53; rfl) ?_
                          exact j208 x53 M51 (by omega) (by omega) hCM51 hWM51 hX98_M51
                        refine zG_wf_ne (pc := 180) (n' := 183) (t := 200) (L := [.inr (.inr (some 97)), .inl a1, .inl a2, .inl a3, .inl v31, .inl v32, .inl v45]) (st := [.inl v31]) (x := v45) 0 hd0 hz (by rfl) (fun hb54 => ?_) (fun hb54 => ?_)
                        · exact j200 M41 (by omega) hCM41 hWM41 hX98_M41
                        · refine zG_wn (pc := 190) (L := [.inr (.inr (some 97)), .inl a1, .inl a2, .inl a3, .inl v31, .inl v32, .inl v45]) (st := [.inl v31]) 3 hd0 hz zp_244 (qm_244_97 (by first | exact zdk hd rfl | omega) hCM41   v32 (by first | with_reducible exact hv32 | omega) a2 (by first | with_reducible exact ha2 | omega) ) (by rfl) (fun x56 M55 hr hx56 => ?_)
                          obtain ⟨hCM55, hFM55⟩ := hr
                          have hWM55 : qFm [98, 101, 102, 103, 104, 105, 106, 107, 108, 109, 110, 111, 112, 113, 1007, 1010, 1012, 1013, 1016, 1018, 1019, 1020, 1021, 1022, 1023] M M55 := hWM41.tr hFM55 (by decide)
                          have e57 : M55 98 1 = M41 98 1 := hFM55 98 1 (by decide)
                          have hX98_M55 : ∀ j : Nat, (j : Int) ≠ 154 + 5 * a1 → M55 98 j = M 98 j := fun j hj => (hFM55.ar 98 j (by decide) (by decide)).trans (hX98_M41 j hj)
                          refine zG_w (c' := (196, [.inr (.inr (some 97)), .inl a1, .inl a2, .inl a3, .inl v31, .inl v32, .inl v45], [.inl v32, .inr (.inr (some 113)), .inl x56, .inl v31])) 3 hd0 hz (by rfl) ?_
                          refine zG_iald hd0 hz rfl rfl (.inl rfl) (by omega) ?_
                          obtain ⟨x58, hx58⟩ : ∃ x : Int, x = M55 113 (v32 : Int).toNat := ⟨_, rfl⟩
                          rw [← hx58]
                          have hx58r : qin x58 := by rw [hx58]; exact hCM55.ra 113 _ (by decide) (by decide)
                          show zG n (0, 0) d 251 (197, [.inr (.inr (some 97)), .inl a1, .inl a2, .inl a3, .inl v31, .inl v32, .inl v45], [.inl x58, .inl x56, .inl v31]) M55 _
                          refine zG_wi_eq (pc := 197) (n' := 200) (t := 207) (L := [.inr (.inr (some 97)), .inl a1, .inl a2, .inl a3, .inl v31, .inl v32, .inl v45]) (st := [.inl v31]) (x := x56) (y := x58) 0 hd0 hz (by rfl) (fun hb59 => ?_) (fun hb59 => ?_)
                          · refine zG_w (c' := (208, [.inr (.inr (some 97)), .inl a1, .inl a2, .inl a3, .inl v31, .inl v32, .inl v45], [.inl 0, .inl v31])) 1 hd0 hz (by rfl) ?_
                            exact j208 0 M55 (by omega) (by omega) hCM55 hWM55 hX98_M55
                          · exact j200 M55 (by omega) hCM55 hWM55 hX98_M55
                      have j169 : zG n (0, 0) d 251 (169, [.inr (.inr (some 97)), .inl a1, .inl a2, .inl a3, .inl v31, .inl v32, zN], []) M41 (fun v M' => (qMI M' ∧ qFm [98, 101, 102, 103, 104, 105, 106, 107, 108, 109, 110, 111, 112, 113, 1007, 1010, 1012, 1013, 1016, 1018, 1019, 1020, 1021, 1022, 1023] M M') ∧ ∃ x : Int, v = some (.inl x) ∧ ((-3) ≤ x ∧ x ≤ 2147483647) ∧ (M' 98 (154 + 5 * a1).toNat = M 98 (154 + 5 * a1).toNat) ∧ (∀ j : Nat, (j : Int) ≠ 154 + 5 * a1 → M' 98 j = M 98 j)) := by
                        refine zG_w (c' := (174, [.inr (.inr (some 97)), .inl a1, .inl a2, .inl a3, .inl v31, .inl v32, zN], [.inl 1])) 2 hd0 hz (by rfl) ?_
                        exact j174 1 (by first | decide | omega)
                      refine zG_wi_ne (pc := 152) (n' := 155) (t := 169) (L := [.inr (.inr (some 97)), .inl a1, .inl a2, .inl a3, .inl v31, .inl v32, zN]) (st := []) (x := x42) (y := x44) 0 hd0 hz (by rfl) (fun hb60 => ?_) (fun hb60 => ?_)
                      · exact j169
                      · have r61 := hCM41.rg 97 21 (by decide) (by decide)
                        refine zG_w (c' := (165, [.inr (.inr (some 97)), .inl a1, .inl a2, .inl a3, .inl v31, .inl v32, zN], [.inl v32, .inr (.inr (some 111)), .inl (M41 97 21)])) 5 hd0 hz (by rfl) ?_
                        refine zG_iald hd0 hz rfl rfl (.inl rfl) (by omega) ?_
                        obtain ⟨x62, hx62⟩ : ∃ x : Int, x = M41 111 (v32 : Int).toNat := ⟨_, rfl⟩
                        rw [← hx62]
                        have hx62r : qin x62 := by rw [hx62]; exact hCM41.ra 111 _ (by decide) (by decide)
                        show zG n (0, 0) d 251 (166, [.inr (.inr (some 97)), .inl a1, .inl a2, .inl a3, .inl v31, .inl v32, zN], [.inl x62, .inl (M41 97 21)]) M41 _
                        refine zG_wi_eq (pc := 166) (n' := 169) (t := 173) (L := [.inr (.inr (some 97)), .inl a1, .inl a2, .inl a3, .inl v31, .inl v32, zN]) (st := []) (x := (M41 97 21)) (y := x62) 0 hd0 hz (by rfl) (fun hb63 => ?_) (fun hb63 => ?_)
                        · refine zG_w (c' := (174, [.inr (.inr (some 97)), .inl a1, .inl a2, .inl a3, .inl v31, .inl v32, zN], [.inl 0])) 1 hd0 hz (by rfl) ?_
                          exact j174 0 (by first | decide | omega)
                        · exact j169
                exact j127 ((20 - 0 : Int).toNat + 1) 0 0 M28 (by omega) (by omega) (by omega) (by omega) hCM28 hWM28 hX98_M28
              · refine zG_wn (pc := 69) (L := [.inr (.inr (some 97)), .inl a1, .inl a2, .inl a3, .inl v19, zN, zN]) (st := [.inl v19, .inr (.inr (some 112))]) 6 hd0 hz zp_243 (qm_243_97 (by first | exact zdk hd rfl | omega) hCM20   v19 (by first | with_reducible exact hv19 | omega) a2 (by first | with_reducible exact ha2 | omega) ) (by rfl) (fun x65 M64 hr hx65 => ?_)
                obtain ⟨hCM64, hFM64⟩ := hr
                have hWM64 : qFm [98, 101, 102, 103, 104, 105, 106, 107, 108, 109, 110, 111, 112, 113, 1007, 1010, 1012, 1013, 1016, 1018, 1019, 1020, 1021, 1022, 1023] M M64 := hWM20.tr hFM64 (by decide)
                have e66 : M64 98 1 = M20 98 1 := hFM64 98 1 (by decide)
                have hX98_M64 : ∀ j : Nat, (j : Int) ≠ 154 + 5 * a1 → M64 98 j = M 98 j := fun j hj => (hFM64.ar 98 j (by decide) (by decide)).trans (hX98_M20 j hj)
                refine zG_iast hd0 hz rfl rfl (by omega) ?_
                obtain ⟨M67, hM67⟩ : ∃ X : zM, X = zput M64 112 (v19 : Int).toNat x65 := ⟨_, rfl⟩
                rw [← hM67]
                have hCM67 : qMI M67 := by rw [hM67]; exact hCM64.put (by decide) (qCd_a (by decide) (by decide)) (by first | exact qMC_ar (by decide) (fun _ => by omega) | (refine ⟨fun h => ?_, fun _ => ?_, fun h => ?_, fun h => ?_, fun h => ?_⟩ <;> first | omega | exact absurd h (by decide)))
                have hWM67 : qFm [98, 101, 102, 103, 104, 105, 106, 107, 108, 109, 110, 111, 112, 113, 1007, 1010, 1012, 1013, 1016, 1018, 1019, 1020, 1021, 1022, 1023] M M67 := by rw [hM67]; exact hWM64.pa (by decide) (by decide)
                have e68 : M67 98 1 = M64 98 1 := by rw [hM67]; exact qput_ne (by decide)
                have hX98_M67 : ∀ j : Nat, (j : Int) ≠ 154 + 5 * a1 → M67 98 j = M 98 j := fun j hj => by rw [hM67, qput_ne (by decide)]; exact hX98_M64 j hj
                show zG n (0, 0) d 251 (70, [.inr (.inr (some 97)), .inl a1, .inl a2, .inl a3, .inl v19, zN, zN], []) M67 _
                have r69 := hCM67.rg 97 21 (by decide) (by decide)
                refine zG_w (c' := (80, [.inr (.inr (some 97)), .inl a1, .inl a2, .inl a3, .inl v19, zN, zN], [.inl (M67 97 21), .inl v19, .inr (.inr (some 111))])) 5 hd0 hz (by rfl) ?_
                refine zG_iast hd0 hz rfl rfl (by omega) ?_
                obtain ⟨M70, hM70⟩ : ∃ X : zM, X = zput M67 111 (v19 : Int).toNat (M67 97 21) := ⟨_, rfl⟩
                rw [← hM70]
                have hCM70 : qMI M70 := by rw [hM70]; exact hCM67.put (by decide) (qCd_a (by decide) (by decide)) (by first | exact qMC_ar (by decide) (fun _ => by omega) | (refine ⟨fun h => ?_, fun _ => ?_, fun h => ?_, fun h => ?_, fun h => ?_⟩ <;> first | omega | exact absurd h (by decide)))
                have hWM70 : qFm [98, 101, 102, 103, 104, 105, 106, 107, 108, 109, 110, 111, 112, 113, 1007, 1010, 1012, 1013, 1016, 1018, 1019, 1020, 1021, 1022, 1023] M M70 := by rw [hM70]; exact hWM67.pa (by decide) (by decide)
                have e71 : M70 98 1 = M67 98 1 := by rw [hM70]; exact qput_ne (by decide)
                have e72 : M70 97 21 = M67 97 21 := by rw [hM70]; exact qput_ne (by decide)
                have hX98_M70 : ∀ j : Nat, (j : Int) ≠ 154 + 5 * a1 → M70 98 j = M 98 j := fun j hj => by rw [hM70, qput_ne (by decide)]; exact hX98_M67 j hj
                show zG n (0, 0) d 251 (81, [.inr (.inr (some 97)), .inl a1, .inl a2, .inl a3, .inl v19, zN, zN], []) M70 _
                refine zG_wn (pc := 94) (L := [.inr (.inr (some 97)), .inl a1, .inl a2, .inl a3, .inl v19, zN, zN]) (st := [.inl v19, .inr (.inr (some 113))]) 6 hd0 hz zp_244 (qm_244_97 (by first | exact zdk hd rfl | omega) hCM70   v19 (by first | with_reducible exact hv19 | omega) a2 (by first | with_reducible exact ha2 | omega) ) (by rfl) (fun x74 M73 hr hx74 => ?_)
                obtain ⟨hCM73, hFM73⟩ := hr
                have hWM73 : qFm [98, 101, 102, 103, 104, 105, 106, 107, 108, 109, 110, 111, 112, 113, 1007, 1010, 1012, 1013, 1016, 1018, 1019, 1020, 1021, 1022, 1023] M M73 := hWM70.tr hFM73 (by decide)
                have e75 : M73 98 1 = M70 98 1 := hFM73 98 1 (by decide)
                have hX98_M73 : ∀ j : Nat, (j : Int) ≠ 154 + 5 * a1 → M73 98 j = M 98 j := fun j hj => (hFM73.ar 98 j (by decide) (by decide)).trans (hX98_M70 j hj)
                refine zG_iast hd0 hz rfl rfl (by omega) ?_
                obtain ⟨M77, hM77⟩ : ∃ X : zM, X = zput M73 113 (v19 : Int).toNat x74 := ⟨_, rfl⟩
                rw [← hM77]
                have hCM77 : qMI M77 := by rw [hM77]; exact hCM73.put (by decide) (qCd_a (by decide) (by decide)) (by first | exact qMC_ar (by decide) (fun _ => by omega) | (refine ⟨fun h => ?_, fun _ => ?_, fun h => ?_, fun h => ?_, fun h => ?_⟩ <;> first | omega | exact absurd h (by decide)))
                have hWM77 : qFm [98, 101, 102, 103, 104, 105, 106, 107, 108, 109, 110, 111, 112, 113, 1007, 1010, 1012, 1013, 1016, 1018, 1019, 1020, 1021, 1022, 1023] M M77 := by rw [hM77]; exact hWM73.pa (by decide) (by decide)
                have e78 : M77 98 1 = M73 98 1 := by rw [hM77]; exact qput_ne (by decide)
                have hX98_M77 : ∀ j : Nat, (j : Int) ≠ 154 + 5 * a1 → M77 98 j = M 98 j := fun j hj => by rw [hM77, qput_ne (by decide)]; exact hX98_M73 j hj
                show zG n (0, 0) d 251 (95, [.inr (.inr (some 97)), .inl a1, .inl a2, .inl a3, .inl v19, zN, zN], []) M77 _
                obtain ⟨x79, hx79⟩ : ∃ x : Int, x = w32 (v19 + 1) := ⟨_, rfl⟩
                have hx79e : x79 = v19 + 1 := by rw [hx79]; exact w32_id (by omega)
                refine zG_w (c' := (45, [.inr (.inr (some 97)), .inl a1, .inl a2, .inl a3, .inl x79, zN, zN], [])) 2 hd0 hz (by subst hx79; rfl) ?_
                exact ih45 x79 M77 (by omega) (by omega) (by omega) hCM77 hWM77 hX98_M77
          exact j45 ((20 - 0 : Int).toNat + 1) 0 M15 (by omega) (by omega) (by omega) hCM15 hWM15 hX98_M15
        · exact zG_wr (r := some (.inl (-3))) 1 hd0 hz (by rfl) ⟨⟨hC, hW⟩, _, rfl, by omega, by omega, hX98_M⟩
      · exact j23
