theorem qm_270_97 {n d : Nat} {M : zM} (hd : 9 ≤ d) (hC : qMI M)  (a1 : Int) (ha1 : (-2147483648) ≤ a1 ∧ a1 ≤ 2147483647) (a2 : Int) (ha2 : (-2147483648) ≤ a2 ∧ a2 ≤ 2147483647) (a3 : Int) (ha3 : (-2147483648) ≤ a3 ∧ a3 ≤ 2147483647) (a4 : Int) (ha4 : (-2147483648) ≤ a4 ∧ a4 ≤ 2147483647) (a5 : Int) (ha5 : (-2147483648) ≤ a5 ∧ a5 ≤ 2147483647) (a6 : Int) (ha6 : (-2147483648) ≤ a6 ∧ a6 ≤ 2147483647) (a7 : Int) (ha7 : (-2147483648) ≤ a7 ∧ a7 ≤ 2147483647) : qOkN n d 270 [.inr (.inr (some 97)), .inl a1, .inl a2, .inl a3, .inl a4, .inl a5, .inl a6, .inl a7] 12 [101, 102, 103, 104, 105, 106, 107, 108, 109, 110, 114, 115, 1007, 1010, 1012, 1013, 1016, 1018, 1019, 1020, 1021, 1022, 1023, 1028, 1030, 1031, 1032, 1033] M (fun v M' => ∃ x : Int, v = some (.inl x) ∧ ((-2) ≤ x ∧ x ≤ 16383)) := by
  have hz := zp_270
  have hd0 : 0 < d := by omega
  have hW : qFm [101, 102, 103, 104, 105, 106, 107, 108, 109, 110, 114, 115, 1007, 1010, 1012, 1013, 1016, 1018, 1019, 1020, 1021, 1022, 1023, 1028, 1030, 1031, 1032, 1033] M M := qFm.rfl
  have r1 := hC.cnt1
  show zG n (0, 0) d 270 (0, [.inr (.inr (some 97)), .inl a1, .inl a2, .inl a3, .inl a4, .inl a5, .inl a6, .inl a7, zN, zN, zN, zN], []) M _
  refine zG_blk (c' := (10, [.inr (.inr (some 97)), .inl a1, .inl a2, .inl a3, .inl a4, .inl a5, .inl a6, .inl a7, zN, zN, zN, zN], [.inl a6, .inl a5, .inl a4, .inl a3, .inl a2, .inl a1, .inr (.inr (some 97))])) 7 hd0 hz (by rfl) ?_
  refine zG_call hd0 hz zp_266 rfl rfl (Nat.le_of_ble_eq_true rfl) ⟨Nat.le_refl _, Nat.le_refl _⟩ (qm_266_97 (by first | exact zdp hd (by decide) | omega) hC   a1 (by first | with_reducible exact ha1 | omega) a2 (by first | with_reducible exact ha2 | omega) a3 (by first | with_reducible exact ha3 | omega) a4 (by first | with_reducible exact ha4 | omega) a5 (by first | with_reducible exact ha5 | omega) a6 (by first | with_reducible exact ha6 | omega) ) (fun vr M2 hr => ?_)
  obtain ⟨hq, x3, rfl, hx3, hpx3_0⟩ := hr
  replace hq := hq.symm; subst hq
  show zG n (0, 0) d 270 (13, [.inr (.inr (some 97)), .inl a1, .inl a2, .inl a3, .inl a4, .inl a5, .inl a6, .inl a7, zN, zN, zN, zN], [.inl x3]) M _
  have j21 : zG n (0, 0) d 270 (21, [.inr (.inr (some 97)), .inl a1, .inl a2, .inl a3, .inl a4, .inl a5, .inl a6, .inl a7, zN, zN, zN, zN], []) M (fun v M' => (qMI M' ∧ qFm [101, 102, 103, 104, 105, 106, 107, 108, 109, 110, 114, 115, 1007, 1010, 1012, 1013, 1016, 1018, 1019, 1020, 1021, 1022, 1023, 1028, 1030, 1031, 1032, 1033] M M') ∧ ∃ x : Int, v = some (.inl x) ∧ ((-2) ≤ x ∧ x ≤ 16383)) := by
    refine zG_blk (c' := (23, [.inr (.inr (some 97)), .inl a1, .inl a2, .inl a3, .inl a4, .inl a5, .inl a6, .inl a7, zN, zN, zN, zN], [.inl (-2)])) 1 hd0 hz (by rfl) ?_
    exact zG_ret hd0 hz rfl rfl ⟨⟨hC, hW⟩, _, rfl, by omega⟩
  refine zG_if_eq hd0 hz rfl (fun hb4 => ?_) (fun hb4 => ?_)
  · exact j21
  · refine zG_blk (c' := (18, [.inr (.inr (some 97)), .inl a1, .inl a2, .inl a3, .inl a4, .inl a5, .inl a6, .inl a7, zN, zN, zN, zN], [.inl a7])) 1 hd0 hz (by rfl) ?_
    refine zG_if_ge hd0 hz rfl (fun hb5 => ?_) (fun hb5 => ?_)
    · refine zG_blk (c' := (34, [.inr (.inr (some 97)), .inl a1, .inl a2, .inl a3, .inl a4, .inl a5, .inl a6, .inl a7, zN, zN, zN, zN], [.inl a6, .inl a5, .inl a4, .inl a3, .inl a2, .inl a1, .inr (.inr (some 97))])) 7 hd0 hz (by rfl) ?_
      refine zG_call hd0 hz zp_267 rfl rfl (Nat.le_of_ble_eq_true rfl) ⟨Nat.le_refl _, Nat.le_refl _⟩ (qm_267_97 (by first | exact zdp hd (by decide) | omega) hC   a1 (by first | with_reducible exact ha1 | omega) a2 (by first | with_reducible exact ha2 | omega) a3 (by first | with_reducible exact ha3 | omega) a4 (by first | with_reducible exact ha4 | omega) a5 (by first | with_reducible exact ha5 | omega) a6 (by first | with_reducible exact ha6 | omega) ) (fun vr M6 hr => ?_)
      obtain ⟨⟨hCM6, hFM6⟩, x7, rfl, hx7, hpx7_0⟩ := hr
      have hWM6 : qFm [101, 102, 103, 104, 105, 106, 107, 108, 109, 110, 114, 115, 1007, 1010, 1012, 1013, 1016, 1018, 1019, 1020, 1021, 1022, 1023, 1028, 1030, 1031, 1032, 1033] M M6 := hW.tr hFM6 (by decide)
      have e8 : M6 98 1 = M 98 1 := hFM6 98 1 (by decide)
      show zG n (0, 0) d 270 (37, [.inr (.inr (some 97)), .inl a1, .inl a2, .inl a3, .inl a4, .inl a5, .inl a6, .inl a7, zN, zN, zN, zN], [.inl x7]) M6 _
      refine zG_blk (c' := (43, [.inr (.inr (some 97)), .inl a1, .inl a2, .inl a3, .inl a4, .inl a5, .inl a6, .inl a7, .inl x7, zN, zN, zN], [.inl x7, .inl a7])) 3 hd0 hz (by rfl) ?_
      refine zG_icmp_lt hd0 hz rfl (fun hb9 => ?_) (fun hb9 => ?_)
      · refine zG_blk (c' := (57, [.inr (.inr (some 97)), .inl a1, .inl a2, .inl a3, .inl a4, .inl a5, .inl a6, .inl a7, .inl x7, .inl 0, .inl 0, .inl 0], [])) 6 hd0 hz (by rfl) ?_
        have j57 : ∀ (N : Nat) (v10 v11 v12 : Int) (M13 : zM) , (a7 - v12 + 1 : Int).toNat < N → 0 ≤ v10 ∧ v10 ≤ 16383 → 0 ≤ v11 ∧ v11 ≤ 16383 → 0 ≤ v12 ∧ v12 ≤ 2147483647 → qMI M13 → qFm [101, 102, 103, 104, 105, 106, 107, 108, 109, 110, 114, 115, 1007, 1010, 1012, 1013, 1016, 1018, 1019, 1020, 1021, 1022, 1023, 1028, 1030, 1031, 1032, 1033] M M13 → zG n (0, 0) d 270 (57, [.inr (.inr (some 97)), .inl a1, .inl a2, .inl a3, .inl a4, .inl a5, .inl a6, .inl a7, .inl x7, .inl v10, .inl v11, .inl v12], []) M13 (fun v M' => (qMI M' ∧ qFm [101, 102, 103, 104, 105, 106, 107, 108, 109, 110, 114, 115, 1007, 1010, 1012, 1013, 1016, 1018, 1019, 1020, 1021, 1022, 1023, 1028, 1030, 1031, 1032, 1033] M M') ∧ ∃ x : Int, v = some (.inl x) ∧ ((-2) ≤ x ∧ x ≤ 16383)) := by
          intro N
          induction N with
          | zero => intro v10 v11 v12 M13 hN hv10 hv11 hv12 hCM13 hWM13; exact absurd hN (Nat.not_lt_zero _)
          | succ N ih57 =>
            intro v10 v11 v12 M13 hN hv10 hv11 hv12 hCM13 hWM13
            have e14 : M13 98 1 = M 98 1 := hWM13 98 1 (by decide)
            refine zG_blk (c' := (61, [.inr (.inr (some 97)), .inl a1, .inl a2, .inl a3, .inl a4, .inl a5, .inl a6, .inl a7, .inl x7, .inl v10, .inl v11, .inl v12], [.inl a7, .inl v12])) 2 hd0 hz (by rfl) ?_
            refine zG_icmp_gt hd0 hz rfl (fun hb15 => ?_) (fun hb15 => ?_)
            · refine zG_blk (c' := (95, [.inr (.inr (some 97)), .inl a1, .inl a2, .inl a3, .inl a4, .inl a5, .inl a6, .inl a7, .inl x7, .inl v10, .inl v11, .inl v12], [.inl v11])) 1 hd0 hz (by rfl) ?_
              exact zG_ret hd0 hz rfl rfl ⟨⟨hCM13, hWM13⟩, _, rfl, by omega⟩
            · obtain ⟨x16, hx16⟩ : ∃ x : Int, x = w32 (a3 + v12) := ⟨_, rfl⟩
              have hx16r : x16 = (a3 + v12 + 2147483648) % 4294967296 - 2147483648 := hx16
              refine zG_blk (c' := (72, [.inr (.inr (some 97)), .inl a1, .inl a2, .inl a3, .inl a4, .inl a5, .inl a6, .inl a7, .inl x7, .inl v10, .inl v11, .inl v12], [.inl 3, .inl x16, .inl v10, .inr (.inr (some 97))])) 6 hd0 hz (by subst hx16; rfl) ?_
              refine zG_irem hd0 hz rfl (by omega) ?_
              have hx17 := qtmod_in x16 3 (by first | decide | omega)
              generalize x16.tmod 3 = x17 at hx17 ⊢
              show zG n (0, 0) d 270 (73, [.inr (.inr (some 97)), .inl a1, .inl a2, .inl a3, .inl a4, .inl a5, .inl a6, .inl a7, .inl x7, .inl v10, .inl v11, .inl v12], [.inl x17, .inl v10, .inr (.inr (some 97))]) M13 _
              refine zG_blk (c' := (75, [.inr (.inr (some 97)), .inl a1, .inl a2, .inl a3, .inl a4, .inl a5, .inl a6, .inl a7, .inl x7, .inl v10, .inl v11, .inl v12], [.inl a4, .inl x17, .inl v10, .inr (.inr (some 97))])) 1 hd0 hz (by rfl) ?_
              refine zG_call hd0 hz zp_269 rfl rfl (Nat.le_of_ble_eq_true rfl) ⟨Nat.le_refl _, Nat.le_refl _⟩ (qm_269_97 (by first | exact zdp hd (by decide) | omega) hCM13   v10 (by first | with_reducible exact hv10 | omega) x17 (by omega) a4 (by first | with_reducible exact ha4 | omega) ) (fun vr M18 hr => ?_)
              obtain ⟨⟨hCM18, hFM18⟩, x19, rfl, hx19⟩ := hr
              have hWM18 : qFm [101, 102, 103, 104, 105, 106, 107, 108, 109, 110, 114, 115, 1007, 1010, 1012, 1013, 1016, 1018, 1019, 1020, 1021, 1022, 1023, 1028, 1030, 1031, 1032, 1033] M M18 := hWM13.tr hFM18 (by decide)
              have e20 : M18 98 1 = M13 98 1 := hFM18 98 1 (by decide)
              show zG n (0, 0) d 270 (78, [.inr (.inr (some 97)), .inl a1, .inl a2, .inl a3, .inl a4, .inl a5, .inl a6, .inl a7, .inl x7, .inl v10, .inl v11, .inl v12], [.inl x19]) M18 _
              obtain ⟨x21, hx21⟩ : ∃ x : Int, x = zbor v10 x19 := ⟨_, rfl⟩
              have hx21r := qbor_in v10 x19 16384 14 (by decide) (by decide) (by omega) (by omega); rw [← hx21] at hx21r
              obtain ⟨x22, hx22⟩ : ∃ x : Int, x = w32 (v12 + 1) := ⟨_, rfl⟩
              have hx22e : x22 = v12 + 1 := by rw [hx22]; exact w32_id (by omega)
              refine zG_blk (c' := (57, [.inr (.inr (some 97)), .inl a1, .inl a2, .inl a3, .inl a4, .inl a5, .inl a6, .inl a7, .inl x7, .inl x21, .inl x19, .inl x22], [])) 7 hd0 hz (by subst hx22; subst hx21; rfl) ?_
              exact ih57 x21 x19 x22 M18 (by omega) (by omega) (by omega) (by omega) hCM18 hWM18
        exact j57 ((a7 - 0 + 1 : Int).toNat + 1) 0 0 0 M6 (by omega) (by omega) (by omega) (by omega) hCM6 hWM6
      · refine zG_blk (c' := (47, [.inr (.inr (some 97)), .inl a1, .inl a2, .inl a3, .inl a4, .inl a5, .inl a6, .inl a7, .inl x7, zN, zN, zN], [.inl (-1)])) 1 hd0 hz (by rfl) ?_
        exact zG_ret hd0 hz rfl rfl ⟨⟨hCM6, hWM6⟩, _, rfl, by omega⟩
    · exact j21
