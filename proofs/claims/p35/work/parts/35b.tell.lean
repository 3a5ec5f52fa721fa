/-! THE MODEL'S METHODS, BY PROGRAM -/
theorem qm_201_97 {n d : Nat} {M : zM} (hd : 3 ≤ d) (hC : qMI M)  (a1 : Int) (ha1 : (-2147483648) ≤ a1 ∧ a1 ≤ 2147483647) (a2 : Int) (ha2 : (-2147483648) ≤ a2 ∧ a2 ≤ 2147483647) (a3 : Int) (ha3 : (-2147483648) ≤ a3 ∧ a3 ≤ 2147483647) (a4 : Int) (ha4 : (-2147483648) ≤ a4 ∧ a4 ≤ 2147483647) (a5 : Int) (ha5 : (-2147483648) ≤ a5 ∧ a5 ≤ 2147483647) (a6 : Int) (ha6 : (-2147483648) ≤ a6 ∧ a6 ≤ 2147483647) : qOkN n d 201 [.inr (.inr (some 97)), .inl a1, .inl a2, .inl a3, .inl a4, .inl a5, .inl a6] 7 [98] M (fun v M' => ∃ x : Int, v = some (.inl x) ∧ ((-2147483648) ≤ x ∧ x ≤ 2147483647)) := by
  have hz := zp_201
  have hd0 : 0 < d := by omega
  have hW : qFm [98] M M := qFm.rfl
  have r1 := hC.cnt4
  have r2 := hC.cnt1
  have r3 := hC.cnt0
  show zG n (0, 0) d 201 (0, [.inr (.inr (some 97)), .inl a1, .inl a2, .inl a3, .inl a4, .inl a5, .inl a6], []) M _
  refine zG_wp (pc := 6) (L := [.inr (.inr (some 97)), .inl a1, .inl a2, .inl a3, .inl a4, .inl a5, .inl a6]) (st := []) 3 hd0 hz zp_182 (qx_is (by first | exact zdk hd rfl | omega) hC   1 (by first | decide | omega) a1 (by first | with_reducible exact ha1 | omega) ) (by rfl) (fun x5 hx5 => ?_)
  have j56 : zG n (0, 0) d 201 (56, [.inr (.inr (some 97)), .inl a1, .inl a2, .inl a3, .inl a4, .inl a5, .inl a6], []) M (fun v M' => (qMI M' ∧ qFm [98] M M') ∧ ∃ x : Int, v = some (.inl x) ∧ ((-2147483648) ≤ x ∧ x ≤ 2147483647)) := by
    exact zG_wr (r := some (.inl (-2))) 1 hd0 hz (by rfl) ⟨⟨hC, hW⟩, _, rfl, by omega⟩
  refine zG_wf_eq (pc := 6) (n' := 9) (t := 56) (L := [.inr (.inr (some 97)), .inl a1, .inl a2, .inl a3, .inl a4, .inl a5, .inl a6]) (st := []) (x := x5) 0 hd0 hz (by rfl) (fun hb6 => ?_) (fun hb6 => ?_)
  · exact j56
  · have hcx5 := hx5.2.2.mp (by omega)
    clear hx5 hb6
    refine zG_wp (pc := 15) (L := [.inr (.inr (some 97)), .inl a1, .inl a2, .inl a3, .inl a4, .inl a5, .inl a6]) (st := []) 3 hd0 hz zp_182 (qx_is (by first | exact zdk hd rfl | omega) hC   0 (by first | decide | omega) a2 (by first | with_reducible exact ha2 | omega) ) (by rfl) (fun x8 hx8 => ?_)
    refine zG_wf_eq (pc := 15) (n' := 18) (t := 56) (L := [.inr (.inr (some 97)), .inl a1, .inl a2, .inl a3, .inl a4, .inl a5, .inl a6]) (st := []) (x := x8) 0 hd0 hz (by rfl) (fun hb9 => ?_) (fun hb9 => ?_)
    · exact j56
    · have hcx8 := hx8.2.2.mp (by omega)
      clear hx8 hb9
      refine zG_wp (pc := 22) (L := [.inr (.inr (some 97)), .inl a1, .inl a2, .inl a3, .inl a4, .inl a5, .inl a6]) (st := []) 1 hd0 hz zp_185 (qm_185 (by first | exact zdk hd rfl | omega) hC   a3 (by first | with_reducible exact ha3 | omega) ) (by rfl) (fun x11 hr => ?_)
      obtain ⟨hx11, hpx11_0⟩ := hr
      refine zG_wf_eq (pc := 22) (n' := 25) (t := 56) (L := [.inr (.inr (some 97)), .inl a1, .inl a2, .inl a3, .inl a4, .inl a5, .inl a6]) (st := []) (x := x11) 0 hd0 hz (by rfl) (fun hb12 => ?_) (fun hb12 => ?_)
      · exact j56
      · have hcx11 := hpx11_0.mp (by omega)
        clear hx11 hpx11_0 hb12
        refine zG_wp (pc := 32) (L := [.inr (.inr (some 97)), .inl a1, .inl a2, .inl a3, .inl a4, .inl a5, .inl a6]) (st := []) 3 hd0 hz zp_180 (qx_in (by first | exact zdk hd rfl | omega) hC   a4 (by first | with_reducible exact ha4 | omega) 0 (by first | decide | omega) 4 (by first | decide | omega) ) (by rfl) (fun x14 hx14 => ?_)
        refine zG_wf_eq (pc := 32) (n' := 35) (t := 56) (L := [.inr (.inr (some 97)), .inl a1, .inl a2, .inl a3, .inl a4, .inl a5, .inl a6]) (st := []) (x := x14) 0 hd0 hz (by rfl) (fun hb15 => ?_) (fun hb15 => ?_)
        · exact j56
        · have hcx14 := hx14.2.2.mp (by omega)
          clear hx14 hb15
          refine zG_wp (pc := 40) (L := [.inr (.inr (some 97)), .inl a1, .inl a2, .inl a3, .inl a4, .inl a5, .inl a6]) (st := []) 1 hd0 hz zp_184 (qm_184 (by first | exact zdk hd rfl | omega) hC   a5 (by first | with_reducible exact ha5 | omega) ) (by rfl) (fun x17 hr => ?_)
          obtain ⟨hx17, hpx17_0⟩ := hr
          refine zG_wf_eq (pc := 40) (n' := 43) (t := 56) (L := [.inr (.inr (some 97)), .inl a1, .inl a2, .inl a3, .inl a4, .inl a5, .inl a6]) (st := []) (x := x17) 0 hd0 hz (by rfl) (fun hb18 => ?_) (fun hb18 => ?_)
          · exact j56
          · have hcx17 := hpx17_0.mp (by omega)
            clear hx17 hpx17_0 hb18
            refine zG_wp (pc := 53) (L := [.inr (.inr (some 97)), .inl a1, .inl a2, .inl a3, .inl a4, .inl a5, .inl a6]) (st := []) 3 hd0 hz zp_180 (qx_in (by first | exact zdk hd rfl | omega) hC   a6 (by first | with_reducible exact ha6 | omega) a5 (by first | with_reducible exact ha5 | omega) 9999 (by first | decide | omega) ) (by rfl) (fun x20 hx20 => ?_)
            refine zG_wf_ne (pc := 53) (n' := 56) (t := 59) (L := [.inr (.inr (some 97)), .inl a1, .inl a2, .inl a3, .inl a4, .inl a5, .inl a6]) (st := []) (x := x20) 0 hd0 hz (by rfl) (fun hb21 => ?_) (fun hb21 => ?_)
            · have hcx20 := hx20.2.2.mp (by omega)
              clear hx20 hb21
              refine zG_wp (pc := 63) (L := [.inr (.inr (some 97)), .inl a1, .inl a2, .inl a3, .inl a4, .inl a5, .inl a6]) (st := []) 1 hd0 hz zp_197 (qx_isFull (by first | exact zdk hd rfl | omega) hC    ) (by rfl) (fun x23 hx23 => ?_)
              refine zG_wf_eq (pc := 63) (n' := 66) (t := 69) (L := [.inr (.inr (some 97)), .inl a1, .inl a2, .inl a3, .inl a4, .inl a5, .inl a6]) (st := []) (x := x23) 0 hd0 hz (by rfl) (fun hb24 => ?_) (fun hb24 => ?_)
              · have hcx23 : M 98 4 < 250 := by omega
                clear hx23 hb24
                refine zG_wc (c1 := (79, [.inr (.inr (some 97)), .inl a1, .inl a2, .inl a3, .inl a4, .inl a5, .inl a6], [])) 5 hd0 hz zp_196 (qx_begins (by first | exact zdk hd rfl | omega) hC   0 a5 a6 (-1) (by first | decide | omega) (by omega) (by omega) (M 98 4) (by omega) (by omega) (by omega) ) (by rfl) (fun vr M25 hr => ?_)
                obtain ⟨⟨hCM25, hFM25⟩, rfl, hpx26_0, hpx26_1, hpx26_2, hpx26_3, hpx26_4, hpx26_5, hpx26_6, hpx26_7, hpx26_8, hpx26_9, hpx26_10, hpx26_11, hpx26_12⟩ := hr
                have hWM25 : qFm [98] M M25 := hW.tr hFM25 (by decide)
                have e27 : M25 98 4 = M 98 4 := by first | exact qN_keep hpx26_12 r1.1 4 (by decide) (by decide) | exact qB_keep hpx26_12 r1.1 4 (by decide) | exact hpx26_12 _ (by omega)
                have e28 : M25 98 1 = M 98 1 := by first | exact qN_keep hpx26_12 r1.1 1 (by decide) (by decide) | exact qB_keep hpx26_12 r1.1 1 (by decide) | exact hpx26_12 _ (by omega)
                have e29 : M25 98 0 = M 98 0 := by first | exact qN_keep hpx26_12 r1.1 0 (by decide) (by decide) | exact qB_keep hpx26_12 r1.1 0 (by decide) | exact hpx26_12 _ (by omega)
                show zG n (0, 0) d 201 (79, [.inr (.inr (some 97)), .inl a1, .inl a2, .inl a3, .inl a4, .inl a5, .inl a6], []) M25 _
                refine zG_w (c' := (82, [.inr (.inr (some 97)), .inl a1, .inl a2, .inl a3, .inl a4, .inl a5, .inl a6], [.inl a1, .inl 4, .inr (.inr (some 97))])) 3 hd0 hz (by rfl) ?_
                refine zG_call hd0 hz zp_195 rfl rfl (Nat.le_of_ble_eq_true rfl) ⟨Nat.le_refl _, Nat.le_refl _⟩ (qx_putsM (by first | exact zdk hd rfl | omega) hCM25   4 a1 (by first | with_reducible exact ha1 | omega) (M 98 4) (by omega) (by omega) (by omega) (by first | exact qPv (by decide) | (refine ⟨fun _ => ?_, fun _ => ?_, fun _ => ?_, fun _ => ?_⟩ <;> omega)) ) (fun vr M30 hr => ?_)
                obtain ⟨⟨hCM30, hFM30⟩, rfl, hpx31_0, hpx31_1⟩ := hr
                have hWM30 : qFm [98] M M30 := hWM25.tr hFM30 (by decide)
                have e32 : M30 98 4 = M25 98 4 := by first | exact qN_keep hpx31_1 r1.1 4 (by decide) (by decide) | exact qB_keep hpx31_1 r1.1 4 (by decide) | exact hpx31_1 _ (by omega)
                have e33 : M30 98 1 = M25 98 1 := by first | exact qN_keep hpx31_1 r1.1 1 (by decide) (by decide) | exact qB_keep hpx31_1 r1.1 1 (by decide) | exact hpx31_1 _ (by omega)
                have e34 : M30 98 0 = M25 98 0 := by first | exact qN_keep hpx31_1 r1.1 0 (by decide) (by decide) | exact qB_keep hpx31_1 r1.1 0 (by decide) | exact hpx31_1 _ (by omega)
                have e35 : qA M30 (M 98 4) 0 = qA M25 (M 98 4) 0 := by first | exact qA_keep hpx31_1 r1.1 0 (by decide) (by decide) | (unfold qA; exact hpx31_1 _ (by omega))
                have e36 : qA M30 (M 98 4) 1 = qA M25 (M 98 4) 1 := by first | exact qA_keep hpx31_1 r1.1 1 (by decide) (by decide) | (unfold qA; exact hpx31_1 _ (by omega))
                have e37 : qA M30 (M 98 4) 2 = qA M25 (M 98 4) 2 := by first | exact qA_keep hpx31_1 r1.1 2 (by decide) (by decide) | (unfold qA; exact hpx31_1 _ (by omega))
                have e38 : qA M30 (M 98 4) 3 = qA M25 (M 98 4) 3 := by first | exact qA_keep hpx31_1 r1.1 3 (by decide) (by decide) | (unfold qA; exact hpx31_1 _ (by omega))
                have e40 : qA M30 (M 98 4) 5 = qA M25 (M 98 4) 5 := by first | exact qA_keep hpx31_1 r1.1 5 (by decide) (by decide) | (unfold qA; exact hpx31_1 _ (by omega))
                have e41 : qA M30 (M 98 4) 6 = qA M25 (M 98 4) 6 := by first | exact qA_keep hpx31_1 r1.1 6 (by decide) (by decide) | (unfold qA; exact hpx31_1 _ (by omega))
                have e42 : qA M30 (M 98 4) 7 = qA M25 (M 98 4) 7 := by first | exact qA_keep hpx31_1 r1.1 7 (by decide) (by decide) | (unfold qA; exact hpx31_1 _ (by omega))
                have e43 : qA M30 (M 98 4) 8 = qA M25 (M 98 4) 8 := by first | exact qA_keep hpx31_1 r1.1 8 (by decide) (by decide) | (unfold qA; exact hpx31_1 _ (by omega))
                have e44 : qA M30 (M 98 4) 9 = qA M25 (M 98 4) 9 := by first | exact qA_keep hpx31_1 r1.1 9 (by decide) (by decide) | (unfold qA; exact hpx31_1 _ (by omega))
                have e45 : qA M30 (M 98 4) 10 = qA M25 (M 98 4) 10 := by first | exact qA_keep hpx31_1 r1.1 10 (by decide) (by decide) | (unfold qA; exact hpx31_1 _ (by omega))
                have e46 : qA M30 (M 98 4) 11 = qA M25 (M 98 4) 11 := by first | exact qA_keep hpx31_1 r1.1 11 (by decide) (by decide) | (unfold qA; exact hpx31_1 _ (by omega))
                show zG n (0, 0) d 201 (85, [.inr (.inr (some 97)), .inl a1, .inl a2, .inl a3, .inl a4, .inl a5, .inl a6], []) M30 _
                refine zG_w (c' := (88, [.inr (.inr (some 97)), .inl a1, .inl a2, .inl a3, .inl a4, .inl a5, .inl a6], [.inl a2, .inl 5, .inr (.inr (some 97))])) 3 hd0 hz (by rfl) ?_
                refine zG_call hd0 hz zp_195 rfl rfl (Nat.le_of_ble_eq_true rfl) ⟨Nat.le_refl _, Nat.le_refl _⟩ (qx_putsM (by first | exact zdk hd rfl | omega) hCM30   5 a2 (by first | with_reducible exact ha2 | omega) (M 98 4) (by omega) (by omega) (by omega) (by first | exact qPv (by decide) | (refine ⟨fun _ => ?_, fun _ => ?_, fun _ => ?_, fun _ => ?_⟩ <;> omega)) ) (fun vr M47 hr => ?_)
                obtain ⟨⟨hCM47, hFM47⟩, rfl, hpx48_0, hpx48_1⟩ := hr
                have hWM47 : qFm [98] M M47 := hWM30.tr hFM47 (by decide)
                have e49 : M47 98 4 = M30 98 4 := by first | exact qN_keep hpx48_1 r1.1 4 (by decide) (by decide) | exact qB_keep hpx48_1 r1.1 4 (by decide) | exact hpx48_1 _ (by omega)
                have e50 : M47 98 1 = M30 98 1 := by first | exact qN_keep hpx48_1 r1.1 1 (by decide) (by decide) | exact qB_keep hpx48_1 r1.1 1 (by decide) | exact hpx48_1 _ (by omega)
                have e51 : M47 98 0 = M30 98 0 := by first | exact qN_keep hpx48_1 r1.1 0 (by decide) (by decide) | exact qB_keep hpx48_1 r1.1 0 (by decide) | exact hpx48_1 _ (by omega)
                have e52 : qA M47 (M 98 4) 0 = qA M30 (M 98 4) 0 := by first | exact qA_keep hpx48_1 r1.1 0 (by decide) (by decide) | (unfold qA; exact hpx48_1 _ (by omega))
                have e53 : qA M47 (M 98 4) 1 = qA M30 (M 98 4) 1 := by first | exact qA_keep hpx48_1 r1.1 1 (by decide) (by decide) | (unfold qA; exact hpx48_1 _ (by omega))
                have e54 : qA M47 (M 98 4) 2 = qA M30 (M 98 4) 2 := by first | exact qA_keep hpx48_1 r1.1 2 (by decide) (by decide) | (unfold qA; exact hpx48_1 _ (by omega))
                have e55 : qA M47 (M 98 4) 3 = qA M30 (M 98 4) 3 := by first | exact qA_keep hpx48_1 r1.1 3 (by decide) (by decide) | (unfold qA; exact hpx48_1 _ (by omega))
                have e57 : qA M47 (M 98 4) 6 = qA M30 (M 98 4) 6 := by first | exact qA_keep hpx48_1 r1.1 6 (by decide) (by decide) | (unfold qA; exact hpx48_1 _ (by omega))
                have e58 : qA M47 (M 98 4) 7 = qA M30 (M 98 4) 7 := by first | exact qA_keep hpx48_1 r1.1 7 (by decide) (by decide) | (unfold qA; exact hpx48_1 _ (by omega))
                have e59 : qA M47 (M 98 4) 8 = qA M30 (M 98 4) 8 := by first | exact qA_keep hpx48_1 r1.1 8 (by decide) (by decide) | (unfold qA; exact hpx48_1 _ (by omega))
                have e60 : qA M47 (M 98 4) 9 = qA M30 (M 98 4) 9 := by first | exact qA_keep hpx48_1 r1.1 9 (by decide) (by decide) | (unfold qA; exact hpx48_1 _ (by omega))
                have e61 : qA M47 (M 98 4) 10 = qA M30 (M 98 4) 10 := by first | exact qA_keep hpx48_1 r1.1 10 (by decide) (by decide) | (unfold qA; exact hpx48_1 _ (by omega))
                have e62 : qA M47 (M 98 4) 11 = qA M30 (M 98 4) 11 := by first | exact qA_keep hpx48_1 r1.1 11 (by decide) (by decide) | (unfold qA; exact hpx48_1 _ (by omega))
                have e63 : qA M47 (M 98 4) 4 = qA M30 (M 98 4) 4 := by first | exact qA_keep hpx48_1 r1.1 4 (by decide) (by decide) | (unfold qA; exact hpx48_1 _ (by omega))
                show zG n (0, 0) d 201 (91, [.inr (.inr (some 97)), .inl a1, .inl a2, .inl a3, .inl a4, .inl a5, .inl a6], []) M47 _
                refine zG_w (c' := (95, [.inr (.inr (some 97)), .inl a1, .inl a2, .inl a3, .inl a4, .inl a5, .inl a6], [.inl a3, .inl 7, .inr (.inr (some 97))])) 3 hd0 hz (by rfl) ?_
                refine zG_call hd0 hz zp_195 rfl rfl (Nat.le_of_ble_eq_true rfl) ⟨Nat.le_refl _, Nat.le_refl _⟩ (qx_putsM (by first | exact zdk hd rfl | omega) hCM47   7 a3 (by first | with_reducible exact ha3 | omega) (M 98 4) (by omega) (by omega) (by omega) (by first | exact qPv (by decide) | (refine ⟨fun _ => ?_, fun _ => ?_, fun _ => ?_, fun _ => ?_⟩ <;> omega)) ) (fun vr M64 hr => ?_)
                obtain ⟨⟨hCM64, hFM64⟩, rfl, hpx65_0, hpx65_1⟩ := hr
                have hWM64 : qFm [98] M M64 := hWM47.tr hFM64 (by decide)
                have e66 : M64 98 4 = M47 98 4 := by first | exact qN_keep hpx65_1 r1.1 4 (by decide) (by decide) | exact qB_keep hpx65_1 r1.1 4 (by decide) | exact hpx65_1 _ (by omega)
                have e67 : M64 98 1 = M47 98 1 := by first | exact qN_keep hpx65_1 r1.1 1 (by decide) (by decide) | exact qB_keep hpx65_1 r1.1 1 (by decide) | exact hpx65_1 _ (by omega)
                have e68 : M64 98 0 = M47 98 0 := by first | exact qN_keep hpx65_1 r1.1 0 (by decide) (by decide) | exact qB_keep hpx65_1 r1.1 0 (by decide) | exact hpx65_1 _ (by omega)
                have e69 : qA M64 (M 98 4) 0 = qA M47 (M 98 4) 0 := by first | exact qA_keep hpx65_1 r1.1 0 (by decide) (by decide) | (unfold qA; exact hpx65_1 _ (by omega))
                have e70 : qA M64 (M 98 4) 1 = qA M47 (M 98 4) 1 := by first | exact qA_keep hpx65_1 r1.1 1 (by decide) (by decide) | (unfold qA; exact hpx65_1 _ (by omega))
                have e71 : qA M64 (M 98 4) 2 = qA M47 (M 98 4) 2 := by first | exact qA_keep hpx65_1 r1.1 2 (by decide) (by decide) | (unfold qA; exact hpx65_1 _ (by omega))
                have e72 : qA M64 (M 98 4) 3 = qA M47 (M 98 4) 3 := by first | exact qA_keep hpx65_1 r1.1 3 (by decide) (by decide) | (unfold qA; exact hpx65_1 _ (by omega))
                have e73 : qA M64 (M 98 4) 6 = qA M47 (M 98 4) 6 := by first | exact qA_keep hpx65_1 r1.1 6 (by decide) (by decide) | (unfold qA; exact hpx65_1 _ (by omega))
                have e75 : qA M64 (M 98 4) 8 = qA M47 (M 98 4) 8 := by first | exact qA_keep hpx65_1 r1.1 8 (by decide) (by decide) | (unfold qA; exact hpx65_1 _ (by omega))
                have e76 : qA M64 (M 98 4) 9 = qA M47 (M 98 4) 9 := by first | exact qA_keep hpx65_1 r1.1 9 (by decide) (by decide) | (unfold qA; exact hpx65_1 _ (by omega))
                have e77 : qA M64 (M 98 4) 10 = qA M47 (M 98 4) 10 := by first | exact qA_keep hpx65_1 r1.1 10 (by decide) (by decide) | (unfold qA; exact hpx65_1 _ (by omega))
                have e78 : qA M64 (M 98 4) 11 = qA M47 (M 98 4) 11 := by first | exact qA_keep hpx65_1 r1.1 11 (by decide) (by decide) | (unfold qA; exact hpx65_1 _ (by omega))
                have e79 : qA M64 (M 98 4) 4 = qA M47 (M 98 4) 4 := by first | exact qA_keep hpx65_1 r1.1 4 (by decide) (by decide) | (unfold qA; exact hpx65_1 _ (by omega))
                have e80 : qA M64 (M 98 4) 5 = qA M47 (M 98 4) 5 := by first | exact qA_keep hpx65_1 r1.1 5 (by decide) (by decide) | (unfold qA; exact hpx65_1 _ (by omega))
                show zG n (0, 0) d 201 (98, [.inr (.inr (some 97)), .inl a1, .inl a2, .inl a3, .inl a4, .inl a5, .inl a6], []) M64 _
                refine zG_w (c' := (103, [.inr (.inr (some 97)), .inl a1, .inl a2, .inl a3, .inl a4, .inl a5, .inl a6], [.inl a4, .inl 8, .inr (.inr (some 97))])) 3 hd0 hz (by rfl) ?_
                refine zG_call hd0 hz zp_195 rfl rfl (Nat.le_of_ble_eq_true rfl) ⟨Nat.le_refl _, Nat.le_refl _⟩ (qx_putsM (by first | exact zdk hd rfl | omega) hCM64   8 a4 (by first | with_reducible exact ha4 | omega) (M 98 4) (by omega) (by omega) (by omega) (by first | exact qPv (by decide) | (refine ⟨fun _ => ?_, fun _ => ?_, fun _ => ?_, fun _ => ?_⟩ <;> omega)) ) (fun vr M81 hr => ?_)
                obtain ⟨⟨hCM81, hFM81⟩, rfl, hpx82_0, hpx82_1⟩ := hr
                have hWM81 : qFm [98] M M81 := hWM64.tr hFM81 (by decide)
                have e83 : M81 98 4 = M64 98 4 := by first | exact qN_keep hpx82_1 r1.1 4 (by decide) (by decide) | exact qB_keep hpx82_1 r1.1 4 (by decide) | exact hpx82_1 _ (by omega)
                have e84 : M81 98 1 = M64 98 1 := by first | exact qN_keep hpx82_1 r1.1 1 (by decide) (by decide) | exact qB_keep hpx82_1 r1.1 1 (by decide) | exact hpx82_1 _ (by omega)
                have e85 : M81 98 0 = M64 98 0 := by first | exact qN_keep hpx82_1 r1.1 0 (by decide) (by decide) | exact qB_keep hpx82_1 r1.1 0 (by decide) | exact hpx82_1 _ (by omega)
                have e86 : qA M81 (M 98 4) 0 = qA M64 (M 98 4) 0 := by first | exact qA_keep hpx82_1 r1.1 0 (by decide) (by decide) | (unfold qA; exact hpx82_1 _ (by omega))
                have e87 : qA M81 (M 98 4) 1 = qA M64 (M 98 4) 1 := by first | exact qA_keep hpx82_1 r1.1 1 (by decide) (by decide) | (unfold qA; exact hpx82_1 _ (by omega))
                have e88 : qA M81 (M 98 4) 2 = qA M64 (M 98 4) 2 := by first | exact qA_keep hpx82_1 r1.1 2 (by decide) (by decide) | (unfold qA; exact hpx82_1 _ (by omega))
                have e89 : qA M81 (M 98 4) 3 = qA M64 (M 98 4) 3 := by first | exact qA_keep hpx82_1 r1.1 3 (by decide) (by decide) | (unfold qA; exact hpx82_1 _ (by omega))
                have e90 : qA M81 (M 98 4) 6 = qA M64 (M 98 4) 6 := by first | exact qA_keep hpx82_1 r1.1 6 (by decide) (by decide) | (unfold qA; exact hpx82_1 _ (by omega))
                have e92 : qA M81 (M 98 4) 9 = qA M64 (M 98 4) 9 := by first | exact qA_keep hpx82_1 r1.1 9 (by decide) (by decide) | (unfold qA; exact hpx82_1 _ (by omega))
                have e93 : qA M81 (M 98 4) 10 = qA M64 (M 98 4) 10 := by first | exact qA_keep hpx82_1 r1.1 10 (by decide) (by decide) | (unfold qA; exact hpx82_1 _ (by omega))
                have e94 : qA M81 (M 98 4) 11 = qA M64 (M 98 4) 11 := by first | exact qA_keep hpx82_1 r1.1 11 (by decide) (by decide) | (unfold qA; exact hpx82_1 _ (by omega))
                have e95 : qA M81 (M 98 4) 4 = qA M64 (M 98 4) 4 := by first | exact qA_keep hpx82_1 r1.1 4 (by decide) (by decide) | (unfold qA; exact hpx82_1 _ (by omega))
                have e96 : qA M81 (M 98 4) 5 = qA M64 (M 98 4) 5 := by first | exact qA_keep hpx82_1 r1.1 5 (by decide) (by decide) | (unfold qA; exact hpx82_1 _ (by omega))
                have e97 : qA M81 (M 98 4) 7 = qA M64 (M 98 4) 7 := by first | exact qA_keep hpx82_1 r1.1 7 (by decide) (by decide) | (unfold qA; exact hpx82_1 _ (by omega))
                show zG n (0, 0) d 201 (106, [.inr (.inr (some 97)), .inl a1, .inl a2, .inl a3, .inl a4, .inl a5, .inl a6], []) M81 _
                refine zG_w (c' := (108, [.inr (.inr (some 97)), .inl a1, .inl a2, .inl a3, .inl a4, .inl a5, .inl a6], [.inl 4, .inr (.inr (some 97))])) 2 hd0 hz (by rfl) ?_
                refine zG_call hd0 hz zp_183 rfl rfl (Nat.le_of_ble_eq_true rfl) ⟨Nat.le_refl _, Nat.le_refl _⟩ (qx_one4 (by first | exact zdk hd rfl | omega) hCM81   (M 98 4) (by omega) (by omega) (by refine ⟨?_, fun _ => ?_, fun _ => ?_, fun _ => ?_, fun _ => ?_, fun _ => ?_, fun _ => ?_, fun _ => ?_, fun _ => ?_, fun _ => ?_⟩ <;> omega) ) (fun vr M98 hr => ?_)
                obtain ⟨⟨hCM98, hFM98⟩, x99, rfl, hx99, hpx99_0, hpx99_1⟩ := hr
                have hWM98 : qFm [98] M M98 := hWM81.tr hFM98 (by decide)
                have e101 : M98 98 1 = M81 98 1 := by first | exact qN_keep hpx99_1 r1.1 1 (by decide) (by decide) | exact qB_keep hpx99_1 r1.1 1 (by decide) | exact hpx99_1 _ (by omega)
                have e102 : M98 98 0 = M81 98 0 := by first | exact qN_keep hpx99_1 r1.1 0 (by decide) (by decide) | exact qB_keep hpx99_1 r1.1 0 (by decide) | exact hpx99_1 _ (by omega)
                have e103 : qA M98 (M 98 4) 0 = qA M81 (M 98 4) 0 := by first | exact qA_keep hpx99_1 r1.1 0 (by decide) (by decide) | (unfold qA; exact hpx99_1 _ (by omega))
                have e104 : qA M98 (M 98 4) 1 = qA M81 (M 98 4) 1 := by first | exact qA_keep hpx99_1 r1.1 1 (by decide) (by decide) | (unfold qA; exact hpx99_1 _ (by omega))
                have e105 : qA M98 (M 98 4) 2 = qA M81 (M 98 4) 2 := by first | exact qA_keep hpx99_1 r1.1 2 (by decide) (by decide) | (unfold qA; exact hpx99_1 _ (by omega))
                have e106 : qA M98 (M 98 4) 3 = qA M81 (M 98 4) 3 := by first | exact qA_keep hpx99_1 r1.1 3 (by decide) (by decide) | (unfold qA; exact hpx99_1 _ (by omega))
                have e107 : qA M98 (M 98 4) 6 = qA M81 (M 98 4) 6 := by first | exact qA_keep hpx99_1 r1.1 6 (by decide) (by decide) | (unfold qA; exact hpx99_1 _ (by omega))
                have e108 : qA M98 (M 98 4) 9 = qA M81 (M 98 4) 9 := by first | exact qA_keep hpx99_1 r1.1 9 (by decide) (by decide) | (unfold qA; exact hpx99_1 _ (by omega))
                have e109 : qA M98 (M 98 4) 10 = qA M81 (M 98 4) 10 := by first | exact qA_keep hpx99_1 r1.1 10 (by decide) (by decide) | (unfold qA; exact hpx99_1 _ (by omega))
                have e110 : qA M98 (M 98 4) 11 = qA M81 (M 98 4) 11 := by first | exact qA_keep hpx99_1 r1.1 11 (by decide) (by decide) | (unfold qA; exact hpx99_1 _ (by omega))
                have e111 : qA M98 (M 98 4) 4 = qA M81 (M 98 4) 4 := by first | exact qA_keep hpx99_1 r1.1 4 (by decide) (by decide) | (unfold qA; exact hpx99_1 _ (by omega))
                have e112 : qA M98 (M 98 4) 5 = qA M81 (M 98 4) 5 := by first | exact qA_keep hpx99_1 r1.1 5 (by decide) (by decide) | (unfold qA; exact hpx99_1 _ (by omega))
                have e113 : qA M98 (M 98 4) 7 = qA M81 (M 98 4) 7 := by first | exact qA_keep hpx99_1 r1.1 7 (by decide) (by decide) | (unfold qA; exact hpx99_1 _ (by omega))
                have e114 : qA M98 (M 98 4) 8 = qA M81 (M 98 4) 8 := by first | exact qA_keep hpx99_1 r1.1 8 (by decide) (by decide) | (unfold qA; exact hpx99_1 _ (by omega))
                show zG n (0, 0) d 201 (111, [.inr (.inr (some 97)), .inl a1, .inl a2, .inl a3, .inl a4, .inl a5, .inl a6], [.inl x99]) M98 _
                exact zG_wr (r := some (.inl x99)) 0 hd0 hz (by rfl) ⟨⟨hCM98, hWM98⟩, _, rfl, by omega⟩
              · exact zG_wr (r := some (.inl (-4))) 1 hd0 hz (by rfl) ⟨⟨hC, hW⟩, _, rfl, by omega⟩
            · exact j56
theorem qm_202_97 {n d : Nat} {M : zM} (hd : 4 ≤ d) (hC : qMI M)  (a1 : Int) (ha1 : (-2147483648) ≤ a1 ∧ a1 ≤ 2147483647) (a2 : Int) (ha2 : (-2147483648) ≤ a2 ∧ a2 ≤ 2147483647) (a3 : Int) (ha3 : (-2147483648) ≤ a3 ∧ a3 ≤ 2147483647) (a4 : Int) (ha4 : (-2147483648) ≤ a4 ∧ a4 ≤ 2147483647) (a5 : Int) (ha5 : (-2147483648) ≤ a5 ∧ a5 ≤ 2147483647) : qOkN n d 202 [.inr (.inr (some 97)), .inl a1, .inl a2, .inl a3, .inl a4, .inl a5] 6 [98] M (fun v M' => ∃ x : Int, v = some (.inl x) ∧ ((-2147483648) ≤ x ∧ x ≤ 2147483647)) := by
  have hz := zp_202
  have hd0 : 0 < d := by omega
  have hW : qFm [98] M M := qFm.rfl
  have r1 := hC.cnt4
  show zG n (0, 0) d 202 (0, [.inr (.inr (some 97)), .inl a1, .inl a2, .inl a3, .inl a4, .inl a5], []) M _
  refine zG_wp (pc := 5) (L := [.inr (.inr (some 97)), .inl a1, .inl a2, .inl a3, .inl a4, .inl a5]) (st := []) 2 hd0 hz zp_198 (qm_198_97 (by first | exact zdk hd rfl | omega) hC   a1 (by first | with_reducible exact ha1 | omega) ) (by rfl) (fun x3 hr => ?_)
  obtain ⟨hx3, hpx3_0⟩ := hr
  have j65 : zG n (0, 0) d 202 (65, [.inr (.inr (some 97)), .inl a1, .inl a2, .inl a3, .inl a4, .inl a5], []) M (fun v M' => (qMI M' ∧ qFm [98] M M') ∧ ∃ x : Int, v = some (.inl x) ∧ ((-2147483648) ≤ x ∧ x ≤ 2147483647)) := by
    exact zG_wr (r := some (.inl (-2))) 1 hd0 hz (by rfl) ⟨⟨hC, hW⟩, _, rfl, by omega⟩
  refine zG_wf_eq (pc := 5) (n' := 8) (t := 65) (L := [.inr (.inr (some 97)), .inl a1, .inl a2, .inl a3, .inl a4, .inl a5]) (st := []) (x := x3) 0 hd0 hz (by rfl) (fun hb4 => ?_) (fun hb4 => ?_)
  · exact j65
  · have hcx3 := hpx3_0.mp (by omega)
    clear hx3 hpx3_0 hb4
    refine zG_wp (pc := 12) (L := [.inr (.inr (some 97)), .inl a1, .inl a2, .inl a3, .inl a4, .inl a5]) (st := []) 1 hd0 hz zp_185 (qm_185 (by first | exact zdk hd rfl | omega) hC   a2 (by first | with_reducible exact ha2 | omega) ) (by rfl) (fun x6 hr => ?_)
    obtain ⟨hx6, hpx6_0⟩ := hr
    refine zG_wf_eq (pc := 12) (n' := 15) (t := 65) (L := [.inr (.inr (some 97)), .inl a1, .inl a2, .inl a3, .inl a4, .inl a5]) (st := []) (x := x6) 0 hd0 hz (by rfl) (fun hb7 => ?_) (fun hb7 => ?_)
    · exact j65
    · have hcx6 := hpx6_0.mp (by omega)
      clear hx6 hpx6_0 hb7
      refine zG_wp (pc := 21) (L := [.inr (.inr (some 97)), .inl a1, .inl a2, .inl a3, .inl a4, .inl a5]) (st := []) 3 hd0 hz zp_180 (qx_in (by first | exact zdk hd rfl | omega) hC   a3 (by first | with_reducible exact ha3 | omega) 0 (by first | decide | omega) 4 (by first | decide | omega) ) (by rfl) (fun x9 hx9 => ?_)
      refine zG_wf_eq (pc := 21) (n' := 24) (t := 65) (L := [.inr (.inr (some 97)), .inl a1, .inl a2, .inl a3, .inl a4, .inl a5]) (st := []) (x := x9) 0 hd0 hz (by rfl) (fun hb10 => ?_) (fun hb10 => ?_)
      · exact j65
      · have hcx9 := hx9.2.2.mp (by omega)
        clear hx9 hb10
        refine zG_wp (pc := 32) (L := [.inr (.inr (some 97)), .inl a1, .inl a2, .inl a3, .inl a4, .inl a5]) (st := [.inl a3]) 4 hd0 hz zp_194 (qx_act0 (by first | exact zdk hd rfl | omega) hC   a1 (by first | with_reducible exact ha1 | omega) 8 (by first | decide | omega) ) (by rfl) (fun x12 hx12 => ?_)
        refine zG_wi_eq (pc := 32) (n' := 35) (t := 65) (L := [.inr (.inr (some 97)), .inl a1, .inl a2, .inl a3, .inl a4, .inl a5]) (st := []) (x := a3) (y := x12) 0 hd0 hz (by rfl) (fun hb13 => ?_) (fun hb13 => ?_)
        · exact j65
        · refine zG_wp (pc := 43) (L := [.inr (.inr (some 97)), .inl a1, .inl a2, .inl a3, .inl a4, .inl a5]) (st := [.inl a4]) 4 hd0 hz zp_194 (qx_act0 (by first | exact zdk hd rfl | omega) hC   a1 (by first | with_reducible exact ha1 | omega) 1 (by first | decide | omega) ) (by rfl) (fun x15 hx15 => ?_)
          refine zG_wp (pc := 49) (L := [.inr (.inr (some 97)), .inl a1, .inl a2, .inl a3, .inl a4, .inl a5]) (st := []) 1 hd0 hz zp_180 (qx_in (by first | exact zdk hd rfl | omega) hC   a4 (by first | with_reducible exact ha4 | omega) x15 (by omega) 9999 (by first | decide | omega) ) (by rfl) (fun x17 hx17 => ?_)
          refine zG_wf_eq (pc := 49) (n' := 52) (t := 65) (L := [.inr (.inr (some 97)), .inl a1, .inl a2, .inl a3, .inl a4, .inl a5]) (st := []) (x := x17) 0 hd0 hz (by rfl) (fun hb18 => ?_) (fun hb18 => ?_)
          · exact j65
          · have hcx17 := hx17.2.2.mp (by omega)
            clear hx17 hb18
            refine zG_wp (pc := 62) (L := [.inr (.inr (some 97)), .inl a1, .inl a2, .inl a3, .inl a4, .inl a5]) (st := []) 3 hd0 hz zp_180 (qx_in (by first | exact zdk hd rfl | omega) hC   a5 (by first | with_reducible exact ha5 | omega) a4 (by first | with_reducible exact ha4 | omega) 9999 (by first | decide | omega) ) (by rfl) (fun x20 hx20 => ?_)
            refine zG_wf_ne (pc := 62) (n' := 65) (t := 68) (L := [.inr (.inr (some 97)), .inl a1, .inl a2, .inl a3, .inl a4, .inl a5]) (st := []) (x := x20) 0 hd0 hz (by rfl) (fun hb21 => ?_) (fun hb21 => ?_)
            · have hcx20 := hx20.2.2.mp (by omega)
              clear hx20 hb21
              refine zG_wp (pc := 72) (L := [.inr (.inr (some 97)), .inl a1, .inl a2, .inl a3, .inl a4, .inl a5]) (st := []) 1 hd0 hz zp_197 (qx_isFull (by first | exact zdk hd rfl | omega) hC    ) (by rfl) (fun x23 hx23 => ?_)
              refine zG_wf_eq (pc := 72) (n' := 75) (t := 78) (L := [.inr (.inr (some 97)), .inl a1, .inl a2, .inl a3, .inl a4, .inl a5]) (st := []) (x := x23) 0 hd0 hz (by rfl) (fun hb24 => ?_) (fun hb24 => ?_)
              · have hcx23 : M 98 4 < 250 := by omega
                clear hx23 hb24
                refine zG_wc (c1 := (88, [.inr (.inr (some 97)), .inl a1, .inl a2, .inl a3, .inl a4, .inl a5], [])) 5 hd0 hz zp_196 (qx_begins (by first | exact zdk hd rfl | omega) hC   1 a4 a5 (-1) (by first | decide | omega) (by omega) (by omega) (M 98 4) (by omega) (by omega) (by omega) ) (by rfl) (fun vr M25 hr => ?_)
                obtain ⟨⟨hCM25, hFM25⟩, rfl, hpx26_0, hpx26_1, hpx26_2, hpx26_3, hpx26_4, hpx26_5, hpx26_6, hpx26_7, hpx26_8, hpx26_9, hpx26_10, hpx26_11, hpx26_12⟩ := hr
                have hWM25 : qFm [98] M M25 := hW.tr hFM25 (by decide)
                have e27 : M25 98 4 = M 98 4 := by first | exact qN_keep hpx26_12 r1.1 4 (by decide) (by decide) | exact qB_keep hpx26_12 r1.1 4 (by decide) | exact hpx26_12 _ (by omega)
                show zG n (0, 0) d 202 (88, [.inr (.inr (some 97)), .inl a1, .inl a2, .inl a3, .inl a4, .inl a5], []) M25 _
                refine zG_w (c' := (92, [.inr (.inr (some 97)), .inl a1, .inl a2, .inl a3, .inl a4, .inl a5], [.inl a1, .inl 6, .inr (.inr (some 97))])) 3 hd0 hz (by rfl) ?_
                refine zG_call hd0 hz zp_195 rfl rfl (Nat.le_of_ble_eq_true rfl) ⟨Nat.le_refl _, Nat.le_refl _⟩ (qx_putsM (by first | exact zdk hd rfl | omega) hCM25   6 a1 (by first | with_reducible exact ha1 | omega) (M 98 4) (by omega) (by omega) (by omega) (by first | exact qPv (by decide) | (refine ⟨fun _ => ?_, fun _ => ?_, fun _ => ?_, fun _ => ?_⟩ <;> omega)) ) (fun vr M28 hr => ?_)
                obtain ⟨⟨hCM28, hFM28⟩, rfl, hpx29_0, hpx29_1⟩ := hr
                have hWM28 : qFm [98] M M28 := hWM25.tr hFM28 (by decide)
                have e30 : M28 98 4 = M25 98 4 := by first | exact qN_keep hpx29_1 r1.1 4 (by decide) (by decide) | exact qB_keep hpx29_1 r1.1 4 (by decide) | exact hpx29_1 _ (by omega)
                have e31 : qA M28 (M 98 4) 0 = qA M25 (M 98 4) 0 := by first | exact qA_keep hpx29_1 r1.1 0 (by decide) (by decide) | (unfold qA; exact hpx29_1 _ (by omega))
                have e32 : qA M28 (M 98 4) 1 = qA M25 (M 98 4) 1 := by first | exact qA_keep hpx29_1 r1.1 1 (by decide) (by decide) | (unfold qA; exact hpx29_1 _ (by omega))
                have e33 : qA M28 (M 98 4) 2 = qA M25 (M 98 4) 2 := by first | exact qA_keep hpx29_1 r1.1 2 (by decide) (by decide) | (unfold qA; exact hpx29_1 _ (by omega))
                have e34 : qA M28 (M 98 4) 3 = qA M25 (M 98 4) 3 := by first | exact qA_keep hpx29_1 r1.1 3 (by decide) (by decide) | (unfold qA; exact hpx29_1 _ (by omega))
                have e35 : qA M28 (M 98 4) 4 = qA M25 (M 98 4) 4 := by first | exact qA_keep hpx29_1 r1.1 4 (by decide) (by decide) | (unfold qA; exact hpx29_1 _ (by omega))
                have e36 : qA M28 (M 98 4) 5 = qA M25 (M 98 4) 5 := by first | exact qA_keep hpx29_1 r1.1 5 (by decide) (by decide) | (unfold qA; exact hpx29_1 _ (by omega))
                have e38 : qA M28 (M 98 4) 7 = qA M25 (M 98 4) 7 := by first | exact qA_keep hpx29_1 r1.1 7 (by decide) (by decide) | (unfold qA; exact hpx29_1 _ (by omega))
                have e39 : qA M28 (M 98 4) 8 = qA M25 (M 98 4) 8 := by first | exact qA_keep hpx29_1 r1.1 8 (by decide) (by decide) | (unfold qA; exact hpx29_1 _ (by omega))
                have e40 : qA M28 (M 98 4) 9 = qA M25 (M 98 4) 9 := by first | exact qA_keep hpx29_1 r1.1 9 (by decide) (by decide) | (unfold qA; exact hpx29_1 _ (by omega))
                have e41 : qA M28 (M 98 4) 10 = qA M25 (M 98 4) 10 := by first | exact qA_keep hpx29_1 r1.1 10 (by decide) (by decide) | (unfold qA; exact hpx29_1 _ (by omega))
                have e42 : qA M28 (M 98 4) 11 = qA M25 (M 98 4) 11 := by first | exact qA_keep hpx29_1 r1.1 11 (by decide) (by decide) | (unfold qA; exact hpx29_1 _ (by omega))
                show zG n (0, 0) d 202 (95, [.inr (.inr (some 97)), .inl a1, .inl a2, .inl a3, .inl a4, .inl a5], []) M28 _
                refine zG_w (c' := (99, [.inr (.inr (some 97)), .inl a1, .inl a2, .inl a3, .inl a4, .inl a5], [.inl a2, .inl 7, .inr (.inr (some 97))])) 3 hd0 hz (by rfl) ?_
                refine zG_call hd0 hz zp_195 rfl rfl (Nat.le_of_ble_eq_true rfl) ⟨Nat.le_refl _, Nat.le_refl _⟩ (qx_putsM (by first | exact zdk hd rfl | omega) hCM28   7 a2 (by first | with_reducible exact ha2 | omega) (M 98 4) (by omega) (by omega) (by omega) (by first | exact qPv (by decide) | (refine ⟨fun _ => ?_, fun _ => ?_, fun _ => ?_, fun _ => ?_⟩ <;> omega)) ) (fun vr M43 hr => ?_)
                obtain ⟨⟨hCM43, hFM43⟩, rfl, hpx44_0, hpx44_1⟩ := hr
                have hWM43 : qFm [98] M M43 := hWM28.tr hFM43 (by decide)
                have e45 : M43 98 4 = M28 98 4 := by first | exact qN_keep hpx44_1 r1.1 4 (by decide) (by decide) | exact qB_keep hpx44_1 r1.1 4 (by decide) | exact hpx44_1 _ (by omega)
                have e46 : qA M43 (M 98 4) 0 = qA M28 (M 98 4) 0 := by first | exact qA_keep hpx44_1 r1.1 0 (by decide) (by decide) | (unfold qA; exact hpx44_1 _ (by omega))
                have e47 : qA M43 (M 98 4) 1 = qA M28 (M 98 4) 1 := by first | exact qA_keep hpx44_1 r1.1 1 (by decide) (by decide) | (unfold qA; exact hpx44_1 _ (by omega))
                have e48 : qA M43 (M 98 4) 2 = qA M28 (M 98 4) 2 := by first | exact qA_keep hpx44_1 r1.1 2 (by decide) (by decide) | (unfold qA; exact hpx44_1 _ (by omega))
                have e49 : qA M43 (M 98 4) 3 = qA M28 (M 98 4) 3 := by first | exact qA_keep hpx44_1 r1.1 3 (by decide) (by decide) | (unfold qA; exact hpx44_1 _ (by omega))
                have e50 : qA M43 (M 98 4) 4 = qA M28 (M 98 4) 4 := by first | exact qA_keep hpx44_1 r1.1 4 (by decide) (by decide) | (unfold qA; exact hpx44_1 _ (by omega))
                have e51 : qA M43 (M 98 4) 5 = qA M28 (M 98 4) 5 := by first | exact qA_keep hpx44_1 r1.1 5 (by decide) (by decide) | (unfold qA; exact hpx44_1 _ (by omega))
                have e53 : qA M43 (M 98 4) 8 = qA M28 (M 98 4) 8 := by first | exact qA_keep hpx44_1 r1.1 8 (by decide) (by decide) | (unfold qA; exact hpx44_1 _ (by omega))
                have e54 : qA M43 (M 98 4) 9 = qA M28 (M 98 4) 9 := by first | exact qA_keep hpx44_1 r1.1 9 (by decide) (by decide) | (unfold qA; exact hpx44_1 _ (by omega))
                have e55 : qA M43 (M 98 4) 10 = qA M28 (M 98 4) 10 := by first | exact qA_keep hpx44_1 r1.1 10 (by decide) (by decide) | (unfold qA; exact hpx44_1 _ (by omega))
                have e56 : qA M43 (M 98 4) 11 = qA M28 (M 98 4) 11 := by first | exact qA_keep hpx44_1 r1.1 11 (by decide) (by decide) | (unfold qA; exact hpx44_1 _ (by omega))
                have e57 : qA M43 (M 98 4) 6 = qA M28 (M 98 4) 6 := by first | exact qA_keep hpx44_1 r1.1 6 (by decide) (by decide) | (unfold qA; exact hpx44_1 _ (by omega))
                show zG n (0, 0) d 202 (102, [.inr (.inr (some 97)), .inl a1, .inl a2, .inl a3, .inl a4, .inl a5], []) M43 _
                refine zG_w (c' := (106, [.inr (.inr (some 97)), .inl a1, .inl a2, .inl a3, .inl a4, .inl a5], [.inl a3, .inl 8, .inr (.inr (some 97))])) 3 hd0 hz (by rfl) ?_
                refine zG_call hd0 hz zp_195 rfl rfl (Nat.le_of_ble_eq_true rfl) ⟨Nat.le_refl _, Nat.le_refl _⟩ (qx_putsM (by first | exact zdk hd rfl | omega) hCM43   8 a3 (by first | with_reducible exact ha3 | omega) (M 98 4) (by omega) (by omega) (by omega) (by first | exact qPv (by decide) | (refine ⟨fun _ => ?_, fun _ => ?_, fun _ => ?_, fun _ => ?_⟩ <;> omega)) ) (fun vr M58 hr => ?_)
                obtain ⟨⟨hCM58, hFM58⟩, rfl, hpx59_0, hpx59_1⟩ := hr
                have hWM58 : qFm [98] M M58 := hWM43.tr hFM58 (by decide)
                have e60 : M58 98 4 = M43 98 4 := by first | exact qN_keep hpx59_1 r1.1 4 (by decide) (by decide) | exact qB_keep hpx59_1 r1.1 4 (by decide) | exact hpx59_1 _ (by omega)
                have e61 : qA M58 (M 98 4) 0 = qA M43 (M 98 4) 0 := by first | exact qA_keep hpx59_1 r1.1 0 (by decide) (by decide) | (unfold qA; exact hpx59_1 _ (by omega))
                have e62 : qA M58 (M 98 4) 1 = qA M43 (M 98 4) 1 := by first | exact qA_keep hpx59_1 r1.1 1 (by decide) (by decide) | (unfold qA; exact hpx59_1 _ (by omega))
                have e63 : qA M58 (M 98 4) 2 = qA M43 (M 98 4) 2 := by first | exact qA_keep hpx59_1 r1.1 2 (by decide) (by decide) | (unfold qA; exact hpx59_1 _ (by omega))
                have e64 : qA M58 (M 98 4) 3 = qA M43 (M 98 4) 3 := by first | exact qA_keep hpx59_1 r1.1 3 (by decide) (by decide) | (unfold qA; exact hpx59_1 _ (by omega))
                have e65 : qA M58 (M 98 4) 4 = qA M43 (M 98 4) 4 := by first | exact qA_keep hpx59_1 r1.1 4 (by decide) (by decide) | (unfold qA; exact hpx59_1 _ (by omega))
                have e66 : qA M58 (M 98 4) 5 = qA M43 (M 98 4) 5 := by first | exact qA_keep hpx59_1 r1.1 5 (by decide) (by decide) | (unfold qA; exact hpx59_1 _ (by omega))
                have e68 : qA M58 (M 98 4) 9 = qA M43 (M 98 4) 9 := by first | exact qA_keep hpx59_1 r1.1 9 (by decide) (by decide) | (unfold qA; exact hpx59_1 _ (by omega))
                have e69 : qA M58 (M 98 4) 10 = qA M43 (M 98 4) 10 := by first | exact qA_keep hpx59_1 r1.1 10 (by decide) (by decide) | (unfold qA; exact hpx59_1 _ (by omega))
                have e70 : qA M58 (M 98 4) 11 = qA M43 (M 98 4) 11 := by first | exact qA_keep hpx59_1 r1.1 11 (by decide) (by decide) | (unfold qA; exact hpx59_1 _ (by omega))
                have e71 : qA M58 (M 98 4) 6 = qA M43 (M 98 4) 6 := by first | exact qA_keep hpx59_1 r1.1 6 (by decide) (by decide) | (unfold qA; exact hpx59_1 _ (by omega))
                have e72 : qA M58 (M 98 4) 7 = qA M43 (M 98 4) 7 := by first | exact qA_keep hpx59_1 r1.1 7 (by decide) (by decide) | (unfold qA; exact hpx59_1 _ (by omega))
                show zG n (0, 0) d 202 (109, [.inr (.inr (some 97)), .inl a1, .inl a2, .inl a3, .inl a4, .inl a5], []) M58 _
                refine zG_w (c' := (111, [.inr (.inr (some 97)), .inl a1, .inl a2, .inl a3, .inl a4, .inl a5], [.inl 4, .inr (.inr (some 97))])) 2 hd0 hz (by rfl) ?_
                refine zG_call hd0 hz zp_183 rfl rfl (Nat.le_of_ble_eq_true rfl) ⟨Nat.le_refl _, Nat.le_refl _⟩ (qx_one4 (by first | exact zdk hd rfl | omega) hCM58   (M 98 4) (by omega) (by omega) (by refine ⟨?_, fun _ => ?_, fun _ => ?_, fun _ => ?_, fun _ => ?_, fun _ => ?_, fun _ => ?_, fun _ => ?_, fun _ => ?_, fun _ => ?_⟩ <;> omega) ) (fun vr M73 hr => ?_)
                obtain ⟨⟨hCM73, hFM73⟩, x74, rfl, hx74, hpx74_0, hpx74_1⟩ := hr
                have hWM73 : qFm [98] M M73 := hWM58.tr hFM73 (by decide)
                have e76 : qA M73 (M 98 4) 0 = qA M58 (M 98 4) 0 := by first | exact qA_keep hpx74_1 r1.1 0 (by decide) (by decide) | (unfold qA; exact hpx74_1 _ (by omega))
                have e77 : qA M73 (M 98 4) 1 = qA M58 (M 98 4) 1 := by first | exact qA_keep hpx74_1 r1.1 1 (by decide) (by decide) | (unfold qA; exact hpx74_1 _ (by omega))
                have e78 : qA M73 (M 98 4) 2 = qA M58 (M 98 4) 2 := by first | exact qA_keep hpx74_1 r1.1 2 (by decide) (by decide) | (unfold qA; exact hpx74_1 _ (by omega))
                have e79 : qA M73 (M 98 4) 3 = qA M58 (M 98 4) 3 := by first | exact qA_keep hpx74_1 r1.1 3 (by decide) (by decide) | (unfold qA; exact hpx74_1 _ (by omega))
                have e80 : qA M73 (M 98 4) 4 = qA M58 (M 98 4) 4 := by first | exact qA_keep hpx74_1 r1.1 4 (by decide) (by decide) | (unfold qA; exact hpx74_1 _ (by omega))
                have e81 : qA M73 (M 98 4) 5 = qA M58 (M 98 4) 5 := by first | exact qA_keep hpx74_1 r1.1 5 (by decide) (by decide) | (unfold qA; exact hpx74_1 _ (by omega))
                have e82 : qA M73 (M 98 4) 9 = qA M58 (M 98 4) 9 := by first | exact qA_keep hpx74_1 r1.1 9 (by decide) (by decide) | (unfold qA; exact hpx74_1 _ (by omega))
                have e83 : qA M73 (M 98 4) 10 = qA M58 (M 98 4) 10 := by first | exact qA_keep hpx74_1 r1.1 10 (by decide) (by decide) | (unfold qA; exact hpx74_1 _ (by omega))
                have e84 : qA M73 (M 98 4) 11 = qA M58 (M 98 4) 11 := by first | exact qA_keep hpx74_1 r1.1 11 (by decide) (by decide) | (unfold qA; exact hpx74_1 _ (by omega))
                have e85 : qA M73 (M 98 4) 6 = qA M58 (M 98 4) 6 := by first | exact qA_keep hpx74_1 r1.1 6 (by decide) (by decide) | (unfold qA; exact hpx74_1 _ (by omega))
                have e86 : qA M73 (M 98 4) 7 = qA M58 (M 98 4) 7 := by first | exact qA_keep hpx74_1 r1.1 7 (by decide) (by decide) | (unfold qA; exact hpx74_1 _ (by omega))
                have e87 : qA M73 (M 98 4) 8 = qA M58 (M 98 4) 8 := by first | exact qA_keep hpx74_1 r1.1 8 (by decide) (by decide) | (unfold qA; exact hpx74_1 _ (by omega))
                show zG n (0, 0) d 202 (114, [.inr (.inr (some 97)), .inl a1, .inl a2, .inl a3, .inl a4, .inl a5], [.inl x74]) M73 _
                exact zG_wr (r := some (.inl x74)) 0 hd0 hz (by rfl) ⟨⟨hCM73, hWM73⟩, _, rfl, by omega⟩
              · exact zG_wr (r := some (.inl (-4))) 1 hd0 hz (by rfl) ⟨⟨hC, hW⟩, _, rfl, by omega⟩
            · exact j65
theorem qm_203_97 {n d : Nat} {M : zM} (hd : 4 ≤ d) (hC : qMI M)  (a1 : Int) (ha1 : (-2147483648) ≤ a1 ∧ a1 ≤ 2147483647) (a2 : Int) (ha2 : (-2147483648) ≤ a2 ∧ a2 ≤ 2147483647) (a3 : Int) (ha3 : (-2147483648) ≤ a3 ∧ a3 ≤ 2147483647) (a4 : Int) (ha4 : (-2147483648) ≤ a4 ∧ a4 ≤ 2147483647) : qOkN n d 203 [.inr (.inr (some 97)), .inl a1, .inl a2, .inl a3, .inl a4] 5 [98] M (fun v M' => ∃ x : Int, v = some (.inl x) ∧ ((-2147483648) ≤ x ∧ x ≤ 2147483647)) := by
  have hz := zp_203
  have hd0 : 0 < d := by omega
  have hW : qFm [98] M M := qFm.rfl
  have r1 := hC.cnt4
  have r2 := hC.cnt3
  show zG n (0, 0) d 203 (0, [.inr (.inr (some 97)), .inl a1, .inl a2, .inl a3, .inl a4], []) M _
  refine zG_wp (pc := 5) (L := [.inr (.inr (some 97)), .inl a1, .inl a2, .inl a3, .inl a4]) (st := []) 2 hd0 hz zp_198 (qm_198_97 (by first | exact zdk hd rfl | omega) hC   a1 (by first | with_reducible exact ha1 | omega) ) (by rfl) (fun x4 hr => ?_)
  obtain ⟨hx4, hpx4_0⟩ := hr
  have j25 : zG n (0, 0) d 203 (25, [.inr (.inr (some 97)), .inl a1, .inl a2, .inl a3, .inl a4], []) M (fun v M' => (qMI M' ∧ qFm [98] M M') ∧ ∃ x : Int, v = some (.inl x) ∧ ((-2147483648) ≤ x ∧ x ≤ 2147483647)) := by
    exact zG_wr (r := some (.inl (-2))) 1 hd0 hz (by rfl) ⟨⟨hC, hW⟩, _, rfl, by omega⟩
  refine zG_wf_eq (pc := 5) (n' := 8) (t := 25) (L := [.inr (.inr (some 97)), .inl a1, .inl a2, .inl a3, .inl a4]) (st := []) (x := x4) 0 hd0 hz (by rfl) (fun hb5 => ?_) (fun hb5 => ?_)
  · exact j25
  · have hcx4 := hpx4_0.mp (by omega)
    clear hx4 hpx4_0 hb5
    refine zG_wp (pc := 12) (L := [.inr (.inr (some 97)), .inl a1, .inl a2, .inl a3, .inl a4]) (st := []) 1 hd0 hz zp_185 (qm_185 (by first | exact zdk hd rfl | omega) hC   a2 (by first | with_reducible exact ha2 | omega) ) (by rfl) (fun x7 hr => ?_)
    obtain ⟨hx7, hpx7_0⟩ := hr
    refine zG_wf_eq (pc := 12) (n' := 15) (t := 25) (L := [.inr (.inr (some 97)), .inl a1, .inl a2, .inl a3, .inl a4]) (st := []) (x := x7) 0 hd0 hz (by rfl) (fun hb8 => ?_) (fun hb8 => ?_)
    · exact j25
    · have hcx7 := hpx7_0.mp (by omega)
      clear hx7 hpx7_0 hb8
      refine zG_wp (pc := 22) (L := [.inr (.inr (some 97)), .inl a1, .inl a2, .inl a3, .inl a4]) (st := []) 3 hd0 hz zp_200 (qm_200_97 (by first | exact zdk hd rfl | omega) hC   a3 (by first | with_reducible exact ha3 | omega) a4 (by first | with_reducible exact ha4 | omega) ) (by rfl) (fun x10 hr => ?_)
      obtain ⟨hx10, hpx10_0⟩ := hr
      refine zG_wf_ne (pc := 22) (n' := 25) (t := 28) (L := [.inr (.inr (some 97)), .inl a1, .inl a2, .inl a3, .inl a4]) (st := []) (x := x10) 0 hd0 hz (by rfl) (fun hb11 => ?_) (fun hb11 => ?_)
      · have hcx10 := hpx10_0.mp (by omega)
        clear hx10 hpx10_0 hb11
        refine zG_wp (pc := 32) (L := [.inr (.inr (some 97)), .inl a1, .inl a2, .inl a3, .inl a4]) (st := []) 1 hd0 hz zp_197 (qx_isFull (by first | exact zdk hd rfl | omega) hC    ) (by rfl) (fun x13 hx13 => ?_)
        refine zG_wf_eq (pc := 32) (n' := 35) (t := 38) (L := [.inr (.inr (some 97)), .inl a1, .inl a2, .inl a3, .inl a4]) (st := []) (x := x13) 0 hd0 hz (by rfl) (fun hb14 => ?_) (fun hb14 => ?_)
        · have hcx13 : M 98 4 < 250 := by omega
          clear hx13 hb14
          refine zG_wp (pc := 45) (L := [.inr (.inr (some 97)), .inl a1, .inl a2, .inl a3, .inl a4]) (st := [.inl 2, .inr (.inr (some 97))]) 4 hd0 hz zp_199 (qx_dayOf (by first | exact zdk hd rfl | omega) hC   a3 (by first | with_reducible exact ha3 | omega) ) (by rfl) (fun x16 hx16 => ?_)
          refine zG_wc (c1 := (51, [.inr (.inr (some 97)), .inl a1, .inl a2, .inl a3, .inl a4], [])) 2 hd0 hz zp_196 (qx_begins (by first | exact zdk hd rfl | omega) hC   2 x16 a4 a3 (by first | with_reducible exact ha3 | omega) (by omega) (by omega) (M 98 4) (by omega) (by omega) (by omega) ) (by rfl) (fun vr M17 hr => ?_)
          obtain ⟨⟨hCM17, hFM17⟩, rfl, hpx18_0, hpx18_1, hpx18_2, hpx18_3, hpx18_4, hpx18_5, hpx18_6, hpx18_7, hpx18_8, hpx18_9, hpx18_10, hpx18_11, hpx18_12⟩ := hr
          have hWM17 : qFm [98] M M17 := hW.tr hFM17 (by decide)
          have e19 : M17 98 4 = M 98 4 := by first | exact qN_keep hpx18_12 r1.1 4 (by decide) (by decide) | exact qB_keep hpx18_12 r1.1 4 (by decide) | exact hpx18_12 _ (by omega)
          have e20 : M17 98 3 = M 98 3 := by first | exact qN_keep hpx18_12 r1.1 3 (by decide) (by decide) | exact qB_keep hpx18_12 r1.1 3 (by decide) | exact hpx18_12 _ (by omega)
          show zG n (0, 0) d 203 (51, [.inr (.inr (some 97)), .inl a1, .inl a2, .inl a3, .inl a4], []) M17 _
          refine zG_w (c' := (55, [.inr (.inr (some 97)), .inl a1, .inl a2, .inl a3, .inl a4], [.inl a1, .inl 6, .inr (.inr (some 97))])) 3 hd0 hz (by rfl) ?_
          refine zG_call hd0 hz zp_195 rfl rfl (Nat.le_of_ble_eq_true rfl) ⟨Nat.le_refl _, Nat.le_refl _⟩ (qx_putsM (by first | exact zdk hd rfl | omega) hCM17   6 a1 (by first | with_reducible exact ha1 | omega) (M 98 4) (by omega) (by omega) (by omega) (by first | exact qPv (by decide) | (refine ⟨fun _ => ?_, fun _ => ?_, fun _ => ?_, fun _ => ?_⟩ <;> omega)) ) (fun vr M21 hr => ?_)
          obtain ⟨⟨hCM21, hFM21⟩, rfl, hpx22_0, hpx22_1⟩ := hr
          have hWM21 : qFm [98] M M21 := hWM17.tr hFM21 (by decide)
          have e23 : M21 98 4 = M17 98 4 := by first | exact qN_keep hpx22_1 r1.1 4 (by decide) (by decide) | exact qB_keep hpx22_1 r1.1 4 (by decide) | exact hpx22_1 _ (by omega)
          have e24 : M21 98 3 = M17 98 3 := by first | exact qN_keep hpx22_1 r1.1 3 (by decide) (by decide) | exact qB_keep hpx22_1 r1.1 3 (by decide) | exact hpx22_1 _ (by omega)
          have e25 : qA M21 (M 98 4) 0 = qA M17 (M 98 4) 0 := by first | exact qA_keep hpx22_1 r1.1 0 (by decide) (by decide) | (unfold qA; exact hpx22_1 _ (by omega))
          have e26 : qA M21 (M 98 4) 1 = qA M17 (M 98 4) 1 := by first | exact qA_keep hpx22_1 r1.1 1 (by decide) (by decide) | (unfold qA; exact hpx22_1 _ (by omega))
          have e27 : qA M21 (M 98 4) 2 = qA M17 (M 98 4) 2 := by first | exact qA_keep hpx22_1 r1.1 2 (by decide) (by decide) | (unfold qA; exact hpx22_1 _ (by omega))
          have e28 : qA M21 (M 98 4) 3 = qA M17 (M 98 4) 3 := by first | exact qA_keep hpx22_1 r1.1 3 (by decide) (by decide) | (unfold qA; exact hpx22_1 _ (by omega))
          have e29 : qA M21 (M 98 4) 4 = qA M17 (M 98 4) 4 := by first | exact qA_keep hpx22_1 r1.1 4 (by decide) (by decide) | (unfold qA; exact hpx22_1 _ (by omega))
          have e30 : qA M21 (M 98 4) 5 = qA M17 (M 98 4) 5 := by first | exact qA_keep hpx22_1 r1.1 5 (by decide) (by decide) | (unfold qA; exact hpx22_1 _ (by omega))
          have e32 : qA M21 (M 98 4) 7 = qA M17 (M 98 4) 7 := by first | exact qA_keep hpx22_1 r1.1 7 (by decide) (by decide) | (unfold qA; exact hpx22_1 _ (by omega))
          have e33 : qA M21 (M 98 4) 8 = qA M17 (M 98 4) 8 := by first | exact qA_keep hpx22_1 r1.1 8 (by decide) (by decide) | (unfold qA; exact hpx22_1 _ (by omega))
          have e34 : qA M21 (M 98 4) 9 = qA M17 (M 98 4) 9 := by first | exact qA_keep hpx22_1 r1.1 9 (by decide) (by decide) | (unfold qA; exact hpx22_1 _ (by omega))
          have e35 : qA M21 (M 98 4) 10 = qA M17 (M 98 4) 10 := by first | exact qA_keep hpx22_1 r1.1 10 (by decide) (by decide) | (unfold qA; exact hpx22_1 _ (by omega))
          have e36 : qA M21 (M 98 4) 11 = qA M17 (M 98 4) 11 := by first | exact qA_keep hpx22_1 r1.1 11 (by decide) (by decide) | (unfold qA; exact hpx22_1 _ (by omega))
          show zG n (0, 0) d 203 (58, [.inr (.inr (some 97)), .inl a1, .inl a2, .inl a3, .inl a4], []) M21 _
          refine zG_w (c' := (62, [.inr (.inr (some 97)), .inl a1, .inl a2, .inl a3, .inl a4], [.inl a2, .inl 7, .inr (.inr (some 97))])) 3 hd0 hz (by rfl) ?_
          refine zG_call hd0 hz zp_195 rfl rfl (Nat.le_of_ble_eq_true rfl) ⟨Nat.le_refl _, Nat.le_refl _⟩ (qx_putsM (by first | exact zdk hd rfl | omega) hCM21   7 a2 (by first | with_reducible exact ha2 | omega) (M 98 4) (by omega) (by omega) (by omega) (by first | exact qPv (by decide) | (refine ⟨fun _ => ?_, fun _ => ?_, fun _ => ?_, fun _ => ?_⟩ <;> omega)) ) (fun vr M37 hr => ?_)
          obtain ⟨⟨hCM37, hFM37⟩, rfl, hpx38_0, hpx38_1⟩ := hr
          have hWM37 : qFm [98] M M37 := hWM21.tr hFM37 (by decide)
          have e39 : M37 98 4 = M21 98 4 := by first | exact qN_keep hpx38_1 r1.1 4 (by decide) (by decide) | exact qB_keep hpx38_1 r1.1 4 (by decide) | exact hpx38_1 _ (by omega)
          have e40 : M37 98 3 = M21 98 3 := by first | exact qN_keep hpx38_1 r1.1 3 (by decide) (by decide) | exact qB_keep hpx38_1 r1.1 3 (by decide) | exact hpx38_1 _ (by omega)
          have e41 : qA M37 (M 98 4) 0 = qA M21 (M 98 4) 0 := by first | exact qA_keep hpx38_1 r1.1 0 (by decide) (by decide) | (unfold qA; exact hpx38_1 _ (by omega))
          have e42 : qA M37 (M 98 4) 1 = qA M21 (M 98 4) 1 := by first | exact qA_keep hpx38_1 r1.1 1 (by decide) (by decide) | (unfold qA; exact hpx38_1 _ (by omega))
          have e43 : qA M37 (M 98 4) 2 = qA M21 (M 98 4) 2 := by first | exact qA_keep hpx38_1 r1.1 2 (by decide) (by decide) | (unfold qA; exact hpx38_1 _ (by omega))
          have e44 : qA M37 (M 98 4) 3 = qA M21 (M 98 4) 3 := by first | exact qA_keep hpx38_1 r1.1 3 (by decide) (by decide) | (unfold qA; exact hpx38_1 _ (by omega))
          have e45 : qA M37 (M 98 4) 4 = qA M21 (M 98 4) 4 := by first | exact qA_keep hpx38_1 r1.1 4 (by decide) (by decide) | (unfold qA; exact hpx38_1 _ (by omega))
          have e46 : qA M37 (M 98 4) 5 = qA M21 (M 98 4) 5 := by first | exact qA_keep hpx38_1 r1.1 5 (by decide) (by decide) | (unfold qA; exact hpx38_1 _ (by omega))
          have e48 : qA M37 (M 98 4) 8 = qA M21 (M 98 4) 8 := by first | exact qA_keep hpx38_1 r1.1 8 (by decide) (by decide) | (unfold qA; exact hpx38_1 _ (by omega))
          have e49 : qA M37 (M 98 4) 9 = qA M21 (M 98 4) 9 := by first | exact qA_keep hpx38_1 r1.1 9 (by decide) (by decide) | (unfold qA; exact hpx38_1 _ (by omega))
          have e50 : qA M37 (M 98 4) 10 = qA M21 (M 98 4) 10 := by first | exact qA_keep hpx38_1 r1.1 10 (by decide) (by decide) | (unfold qA; exact hpx38_1 _ (by omega))
          have e51 : qA M37 (M 98 4) 11 = qA M21 (M 98 4) 11 := by first | exact qA_keep hpx38_1 r1.1 11 (by decide) (by decide) | (unfold qA; exact hpx38_1 _ (by omega))
          have e52 : qA M37 (M 98 4) 6 = qA M21 (M 98 4) 6 := by first | exact qA_keep hpx38_1 r1.1 6 (by decide) (by decide) | (unfold qA; exact hpx38_1 _ (by omega))
          show zG n (0, 0) d 203 (65, [.inr (.inr (some 97)), .inl a1, .inl a2, .inl a3, .inl a4], []) M37 _
          refine zG_w (c' := (67, [.inr (.inr (some 97)), .inl a1, .inl a2, .inl a3, .inl a4], [.inl 4, .inr (.inr (some 97))])) 2 hd0 hz (by rfl) ?_
          refine zG_call hd0 hz zp_183 rfl rfl (Nat.le_of_ble_eq_true rfl) ⟨Nat.le_refl _, Nat.le_refl _⟩ (qx_one4 (by first | exact zdk hd rfl | omega) hCM37   (M 98 4) (by omega) (by omega) (by refine ⟨?_, fun _ => ?_, fun _ => ?_, fun _ => ?_, fun _ => ?_, fun _ => ?_, fun _ => ?_, fun _ => ?_, fun _ => ?_, fun _ => ?_⟩ <;> omega) ) (fun vr M53 hr => ?_)
          obtain ⟨⟨hCM53, hFM53⟩, x54, rfl, hx54, hpx54_0, hpx54_1⟩ := hr
          have hWM53 : qFm [98] M M53 := hWM37.tr hFM53 (by decide)
          have e56 : M53 98 3 = M37 98 3 := by first | exact qN_keep hpx54_1 r1.1 3 (by decide) (by decide) | exact qB_keep hpx54_1 r1.1 3 (by decide) | exact hpx54_1 _ (by omega)
          have e57 : qA M53 (M 98 4) 0 = qA M37 (M 98 4) 0 := by first | exact qA_keep hpx54_1 r1.1 0 (by decide) (by decide) | (unfold qA; exact hpx54_1 _ (by omega))
          have e58 : qA M53 (M 98 4) 1 = qA M37 (M 98 4) 1 := by first | exact qA_keep hpx54_1 r1.1 1 (by decide) (by decide) | (unfold qA; exact hpx54_1 _ (by omega))
          have e59 : qA M53 (M 98 4) 2 = qA M37 (M 98 4) 2 := by first | exact qA_keep hpx54_1 r1.1 2 (by decide) (by decide) | (unfold qA; exact hpx54_1 _ (by omega))
          have e60 : qA M53 (M 98 4) 3 = qA M37 (M 98 4) 3 := by first | exact qA_keep hpx54_1 r1.1 3 (by decide) (by decide) | (unfold qA; exact hpx54_1 _ (by omega))
          have e61 : qA M53 (M 98 4) 4 = qA M37 (M 98 4) 4 := by first | exact qA_keep hpx54_1 r1.1 4 (by decide) (by decide) | (unfold qA; exact hpx54_1 _ (by omega))
          have e62 : qA M53 (M 98 4) 5 = qA M37 (M 98 4) 5 := by first | exact qA_keep hpx54_1 r1.1 5 (by decide) (by decide) | (unfold qA; exact hpx54_1 _ (by omega))
          have e63 : qA M53 (M 98 4) 8 = qA M37 (M 98 4) 8 := by first | exact qA_keep hpx54_1 r1.1 8 (by decide) (by decide) | (unfold qA; exact hpx54_1 _ (by omega))
          have e64 : qA M53 (M 98 4) 9 = qA M37 (M 98 4) 9 := by first | exact qA_keep hpx54_1 r1.1 9 (by decide) (by decide) | (unfold qA; exact hpx54_1 _ (by omega))
          have e65 : qA M53 (M 98 4) 10 = qA M37 (M 98 4) 10 := by first | exact qA_keep hpx54_1 r1.1 10 (by decide) (by decide) | (unfold qA; exact hpx54_1 _ (by omega))
          have e66 : qA M53 (M 98 4) 11 = qA M37 (M 98 4) 11 := by first | exact qA_keep hpx54_1 r1.1 11 (by decide) (by decide) | (unfold qA; exact hpx54_1 _ (by omega))
          have e67 : qA M53 (M 98 4) 6 = qA M37 (M 98 4) 6 := by first | exact qA_keep hpx54_1 r1.1 6 (by decide) (by decide) | (unfold qA; exact hpx54_1 _ (by omega))
          have e68 : qA M53 (M 98 4) 7 = qA M37 (M 98 4) 7 := by first | exact qA_keep hpx54_1 r1.1 7 (by decide) (by decide) | (unfold qA; exact hpx54_1 _ (by omega))
          show zG n (0, 0) d 203 (70, [.inr (.inr (some 97)), .inl a1, .inl a2, .inl a3, .inl a4], [.inl x54]) M53 _
          exact zG_wr (r := some (.inl x54)) 0 hd0 hz (by rfl) ⟨⟨hCM53, hWM53⟩, _, rfl, by omega⟩
        · exact zG_wr (r := some (.inl (-4))) 1 hd0 hz (by rfl) ⟨⟨hC, hW⟩, _, rfl, by omega⟩
      · exact j25
theorem qm_204_97 {n d : Nat} {M : zM} (hd : 4 ≤ d) (hC : qMI M)  (a1 : Int) (ha1 : (-2147483648) ≤ a1 ∧ a1 ≤ 2147483647) (a2 : Int) (ha2 : (-2147483648) ≤ a2 ∧ a2 ≤ 2147483647) (a3 : Int) (ha3 : (-2147483648) ≤ a3 ∧ a3 ≤ 2147483647) (a4 : Int) (ha4 : (-2147483648) ≤ a4 ∧ a4 ≤ 2147483647) (a5 : Int) (ha5 : (-2147483648) ≤ a5 ∧ a5 ≤ 2147483647) (a6 : Int) (ha6 : (-2147483648) ≤ a6 ∧ a6 ≤ 2147483647) : qOkN n d 204 [.inr (.inr (some 97)), .inl a1, .inl a2, .inl a3, .inl a4, .inl a5, .inl a6] 7 [98] M (fun v M' => ∃ x : Int, v = some (.inl x) ∧ ((-2147483648) ≤ x ∧ x ≤ 2147483647)) := by
  have hz := zp_204
  have hd0 : 0 < d := by omega
  have hW : qFm [98] M M := qFm.rfl
  have r1 := hC.cnt4
  have r2 := hC.cnt0
  have r3 := hC.cnt3
  show zG n (0, 0) d 204 (0, [.inr (.inr (some 97)), .inl a1, .inl a2, .inl a3, .inl a4, .inl a5, .inl a6], []) M _
  refine zG_wp (pc := 6) (L := [.inr (.inr (some 97)), .inl a1, .inl a2, .inl a3, .inl a4, .inl a5, .inl a6]) (st := []) 3 hd0 hz zp_182 (qx_is (by first | exact zdk hd rfl | omega) hC   0 (by first | decide | omega) a1 (by first | with_reducible exact ha1 | omega) ) (by rfl) (fun x5 hx5 => ?_)
  have j54 : zG n (0, 0) d 204 (54, [.inr (.inr (some 97)), .inl a1, .inl a2, .inl a3, .inl a4, .inl a5, .inl a6], []) M (fun v M' => (qMI M' ∧ qFm [98] M M') ∧ ∃ x : Int, v = some (.inl x) ∧ ((-2147483648) ≤ x ∧ x ≤ 2147483647)) := by
    exact zG_wr (r := some (.inl (-2))) 1 hd0 hz (by rfl) ⟨⟨hC, hW⟩, _, rfl, by omega⟩
  refine zG_wf_eq (pc := 6) (n' := 9) (t := 54) (L := [.inr (.inr (some 97)), .inl a1, .inl a2, .inl a3, .inl a4, .inl a5, .inl a6]) (st := []) (x := x5) 0 hd0 hz (by rfl) (fun hb6 => ?_) (fun hb6 => ?_)
  · exact j54
  · have hcx5 := hx5.2.2.mp (by omega)
    clear hx5 hb6
    refine zG_wp (pc := 17) (L := [.inr (.inr (some 97)), .inl a1, .inl a2, .inl a3, .inl a4, .inl a5, .inl a6]) (st := []) 3 hd0 hz zp_180 (qx_in (by first | exact zdk hd rfl | omega) hC   a2 (by first | with_reducible exact ha2 | omega) 1 (by first | decide | omega) 200 (by first | decide | omega) ) (by rfl) (fun x8 hx8 => ?_)
    refine zG_wf_eq (pc := 17) (n' := 20) (t := 54) (L := [.inr (.inr (some 97)), .inl a1, .inl a2, .inl a3, .inl a4, .inl a5, .inl a6]) (st := []) (x := x8) 0 hd0 hz (by rfl) (fun hb9 => ?_) (fun hb9 => ?_)
    · exact j54
    · have hcx8 := hx8.2.2.mp (by omega)
      clear hx8 hb9
      refine zG_wp (pc := 28) (L := [.inr (.inr (some 97)), .inl a1, .inl a2, .inl a3, .inl a4, .inl a5, .inl a6]) (st := []) 3 hd0 hz zp_180 (qx_in (by first | exact zdk hd rfl | omega) hC   a3 (by first | with_reducible exact ha3 | omega) 1 (by first | decide | omega) 200 (by first | decide | omega) ) (by rfl) (fun x11 hx11 => ?_)
      refine zG_wf_eq (pc := 28) (n' := 31) (t := 54) (L := [.inr (.inr (some 97)), .inl a1, .inl a2, .inl a3, .inl a4, .inl a5, .inl a6]) (st := []) (x := x11) 0 hd0 hz (by rfl) (fun hb12 => ?_) (fun hb12 => ?_)
      · exact j54
      · have hcx11 := hx11.2.2.mp (by omega)
        clear hx11 hb12
        refine zG_wp (pc := 40) (L := [.inr (.inr (some 97)), .inl a1, .inl a2, .inl a3, .inl a4, .inl a5, .inl a6]) (st := []) 3 hd0 hz zp_180 (qx_in (by first | exact zdk hd rfl | omega) hC   a4 (by first | with_reducible exact ha4 | omega) (-50) (by first | decide | omega) 50 (by first | decide | omega) ) (by rfl) (fun x14 hx14 => ?_)
        refine zG_wf_eq (pc := 40) (n' := 43) (t := 54) (L := [.inr (.inr (some 97)), .inl a1, .inl a2, .inl a3, .inl a4, .inl a5, .inl a6]) (st := []) (x := x14) 0 hd0 hz (by rfl) (fun hb15 => ?_) (fun hb15 => ?_)
        · exact j54
        · have hcx14 := hx14.2.2.mp (by omega)
          clear hx14 hb15
          refine zG_wp (pc := 51) (L := [.inr (.inr (some 97)), .inl a1, .inl a2, .inl a3, .inl a4, .inl a5, .inl a6]) (st := []) 3 hd0 hz zp_200 (qm_200_97 (by first | exact zdk hd rfl | omega) hC   a5 (by first | with_reducible exact ha5 | omega) a6 (by first | with_reducible exact ha6 | omega) ) (by rfl) (fun x17 hr => ?_)
          obtain ⟨hx17, hpx17_0⟩ := hr
          refine zG_wf_ne (pc := 51) (n' := 54) (t := 57) (L := [.inr (.inr (some 97)), .inl a1, .inl a2, .inl a3, .inl a4, .inl a5, .inl a6]) (st := []) (x := x17) 0 hd0 hz (by rfl) (fun hb18 => ?_) (fun hb18 => ?_)
          · have hcx17 := hpx17_0.mp (by omega)
            clear hx17 hpx17_0 hb18
            refine zG_wp (pc := 61) (L := [.inr (.inr (some 97)), .inl a1, .inl a2, .inl a3, .inl a4, .inl a5, .inl a6]) (st := []) 1 hd0 hz zp_197 (qx_isFull (by first | exact zdk hd rfl | omega) hC    ) (by rfl) (fun x20 hx20 => ?_)
            refine zG_wf_eq (pc := 61) (n' := 64) (t := 67) (L := [.inr (.inr (some 97)), .inl a1, .inl a2, .inl a3, .inl a4, .inl a5, .inl a6]) (st := []) (x := x20) 0 hd0 hz (by rfl) (fun hb21 => ?_) (fun hb21 => ?_)
            · have hcx20 : M 98 4 < 250 := by omega
              clear hx20 hb21
              refine zG_wp (pc := 75) (L := [.inr (.inr (some 97)), .inl a1, .inl a2, .inl a3, .inl a4, .inl a5, .inl a6]) (st := [.inl 3, .inr (.inr (some 97))]) 4 hd0 hz zp_199 (qx_dayOf (by first | exact zdk hd rfl | omega) hC   a5 (by first | with_reducible exact ha5 | omega) ) (by rfl) (fun x23 hx23 => ?_)
              refine zG_wc (c1 := (82, [.inr (.inr (some 97)), .inl a1, .inl a2, .inl a3, .inl a4, .inl a5, .inl a6], [])) 2 hd0 hz zp_196 (qx_begins (by first | exact zdk hd rfl | omega) hC   3 x23 a6 a5 (by first | with_reducible exact ha5 | omega) (by omega) (by omega) (M 98 4) (by omega) (by omega) (by omega) ) (by rfl) (fun vr M24 hr => ?_)
              obtain ⟨⟨hCM24, hFM24⟩, rfl, hpx25_0, hpx25_1, hpx25_2, hpx25_3, hpx25_4, hpx25_5, hpx25_6, hpx25_7, hpx25_8, hpx25_9, hpx25_10, hpx25_11, hpx25_12⟩ := hr
              have hWM24 : qFm [98] M M24 := hW.tr hFM24 (by decide)
              have e26 : M24 98 4 = M 98 4 := by first | exact qN_keep hpx25_12 r1.1 4 (by decide) (by decide) | exact qB_keep hpx25_12 r1.1 4 (by decide) | exact hpx25_12 _ (by omega)
              have e27 : M24 98 0 = M 98 0 := by first | exact qN_keep hpx25_12 r1.1 0 (by decide) (by decide) | exact qB_keep hpx25_12 r1.1 0 (by decide) | exact hpx25_12 _ (by omega)
              have e28 : M24 98 3 = M 98 3 := by first | exact qN_keep hpx25_12 r1.1 3 (by decide) (by decide) | exact qB_keep hpx25_12 r1.1 3 (by decide) | exact hpx25_12 _ (by omega)
              show zG n (0, 0) d 204 (82, [.inr (.inr (some 97)), .inl a1, .inl a2, .inl a3, .inl a4, .inl a5, .inl a6], []) M24 _
              refine zG_w (c' := (85, [.inr (.inr (some 97)), .inl a1, .inl a2, .inl a3, .inl a4, .inl a5, .inl a6], [.inl a1, .inl 5, .inr (.inr (some 97))])) 3 hd0 hz (by rfl) ?_
              refine zG_call hd0 hz zp_195 rfl rfl (Nat.le_of_ble_eq_true rfl) ⟨Nat.le_refl _, Nat.le_refl _⟩ (qx_putsM (by first | exact zdk hd rfl | omega) hCM24   5 a1 (by first | with_reducible exact ha1 | omega) (M 98 4) (by omega) (by omega) (by omega) (by first | exact qPv (by decide) | (refine ⟨fun _ => ?_, fun _ => ?_, fun _ => ?_, fun _ => ?_⟩ <;> omega)) ) (fun vr M29 hr => ?_)
              obtain ⟨⟨hCM29, hFM29⟩, rfl, hpx30_0, hpx30_1⟩ := hr
              have hWM29 : qFm [98] M M29 := hWM24.tr hFM29 (by decide)
              have e31 : M29 98 4 = M24 98 4 := by first | exact qN_keep hpx30_1 r1.1 4 (by decide) (by decide) | exact qB_keep hpx30_1 r1.1 4 (by decide) | exact hpx30_1 _ (by omega)
              have e32 : M29 98 0 = M24 98 0 := by first | exact qN_keep hpx30_1 r1.1 0 (by decide) (by decide) | exact qB_keep hpx30_1 r1.1 0 (by decide) | exact hpx30_1 _ (by omega)
              have e33 : M29 98 3 = M24 98 3 := by first | exact qN_keep hpx30_1 r1.1 3 (by decide) (by decide) | exact qB_keep hpx30_1 r1.1 3 (by decide) | exact hpx30_1 _ (by omega)
              have e34 : qA M29 (M 98 4) 0 = qA M24 (M 98 4) 0 := by first | exact qA_keep hpx30_1 r1.1 0 (by decide) (by decide) | (unfold qA; exact hpx30_1 _ (by omega))
              have e35 : qA M29 (M 98 4) 1 = qA M24 (M 98 4) 1 := by first | exact qA_keep hpx30_1 r1.1 1 (by decide) (by decide) | (unfold qA; exact hpx30_1 _ (by omega))
              have e36 : qA M29 (M 98 4) 2 = qA M24 (M 98 4) 2 := by first | exact qA_keep hpx30_1 r1.1 2 (by decide) (by decide) | (unfold qA; exact hpx30_1 _ (by omega))
              have e37 : qA M29 (M 98 4) 3 = qA M24 (M 98 4) 3 := by first | exact qA_keep hpx30_1 r1.1 3 (by decide) (by decide) | (unfold qA; exact hpx30_1 _ (by omega))
              have e38 : qA M29 (M 98 4) 4 = qA M24 (M 98 4) 4 := by first | exact qA_keep hpx30_1 r1.1 4 (by decide) (by decide) | (unfold qA; exact hpx30_1 _ (by omega))
              have e40 : qA M29 (M 98 4) 6 = qA M24 (M 98 4) 6 := by first | exact qA_keep hpx30_1 r1.1 6 (by decide) (by decide) | (unfold qA; exact hpx30_1 _ (by omega))
              have e41 : qA M29 (M 98 4) 7 = qA M24 (M 98 4) 7 := by first | exact qA_keep hpx30_1 r1.1 7 (by decide) (by decide) | (unfold qA; exact hpx30_1 _ (by omega))
              have e42 : qA M29 (M 98 4) 8 = qA M24 (M 98 4) 8 := by first | exact qA_keep hpx30_1 r1.1 8 (by decide) (by decide) | (unfold qA; exact hpx30_1 _ (by omega))
              have e43 : qA M29 (M 98 4) 9 = qA M24 (M 98 4) 9 := by first | exact qA_keep hpx30_1 r1.1 9 (by decide) (by decide) | (unfold qA; exact hpx30_1 _ (by omega))
              have e44 : qA M29 (M 98 4) 10 = qA M24 (M 98 4) 10 := by first | exact qA_keep hpx30_1 r1.1 10 (by decide) (by decide) | (unfold qA; exact hpx30_1 _ (by omega))
              have e45 : qA M29 (M 98 4) 11 = qA M24 (M 98 4) 11 := by first | exact qA_keep hpx30_1 r1.1 11 (by decide) (by decide) | (unfold qA; exact hpx30_1 _ (by omega))
              show zG n (0, 0) d 204 (88, [.inr (.inr (some 97)), .inl a1, .inl a2, .inl a3, .inl a4, .inl a5, .inl a6], []) M29 _
              refine zG_w (c' := (92, [.inr (.inr (some 97)), .inl a1, .inl a2, .inl a3, .inl a4, .inl a5, .inl a6], [.inl a2, .inl 9, .inr (.inr (some 97))])) 3 hd0 hz (by rfl) ?_
              refine zG_call hd0 hz zp_195 rfl rfl (Nat.le_of_ble_eq_true rfl) ⟨Nat.le_refl _, Nat.le_refl _⟩ (qx_putsM (by first | exact zdk hd rfl | omega) hCM29   9 a2 (by first | with_reducible exact ha2 | omega) (M 98 4) (by omega) (by omega) (by omega) (by first | exact qPv (by decide) | (refine ⟨fun _ => ?_, fun _ => ?_, fun _ => ?_, fun _ => ?_⟩ <;> omega)) ) (fun vr M46 hr => ?_)
              obtain ⟨⟨hCM46, hFM46⟩, rfl, hpx47_0, hpx47_1⟩ := hr
              have hWM46 : qFm [98] M M46 := hWM29.tr hFM46 (by decide)
              have e48 : M46 98 4 = M29 98 4 := by first | exact qN_keep hpx47_1 r1.1 4 (by decide) (by decide) | exact qB_keep hpx47_1 r1.1 4 (by decide) | exact hpx47_1 _ (by omega)
              have e49 : M46 98 0 = M29 98 0 := by first | exact qN_keep hpx47_1 r1.1 0 (by decide) (by decide) | exact qB_keep hpx47_1 r1.1 0 (by decide) | exact hpx47_1 _ (by omega)
              have e50 : M46 98 3 = M29 98 3 := by first | exact qN_keep hpx47_1 r1.1 3 (by decide) (by decide) | exact qB_keep hpx47_1 r1.1 3 (by decide) | exact hpx47_1 _ (by omega)
              have e51 : qA M46 (M 98 4) 0 = qA M29 (M 98 4) 0 := by first | exact qA_keep hpx47_1 r1.1 0 (by decide) (by decide) | (unfold qA; exact hpx47_1 _ (by omega))
              have e52 : qA M46 (M 98 4) 1 = qA M29 (M 98 4) 1 := by first | exact qA_keep hpx47_1 r1.1 1 (by decide) (by decide) | (unfold qA; exact hpx47_1 _ (by omega))
              have e53 : qA M46 (M 98 4) 2 = qA M29 (M 98 4) 2 := by first | exact qA_keep hpx47_1 r1.1 2 (by decide) (by decide) | (unfold qA; exact hpx47_1 _ (by omega))
              have e54 : qA M46 (M 98 4) 3 = qA M29 (M 98 4) 3 := by first | exact qA_keep hpx47_1 r1.1 3 (by decide) (by decide) | (unfold qA; exact hpx47_1 _ (by omega))
              have e55 : qA M46 (M 98 4) 4 = qA M29 (M 98 4) 4 := by first | exact qA_keep hpx47_1 r1.1 4 (by decide) (by decide) | (unfold qA; exact hpx47_1 _ (by omega))
              have e56 : qA M46 (M 98 4) 6 = qA M29 (M 98 4) 6 := by first | exact qA_keep hpx47_1 r1.1 6 (by decide) (by decide) | (unfold qA; exact hpx47_1 _ (by omega))
              have e57 : qA M46 (M 98 4) 7 = qA M29 (M 98 4) 7 := by first | exact qA_keep hpx47_1 r1.1 7 (by decide) (by decide) | (unfold qA; exact hpx47_1 _ (by omega))
              have e58 : qA M46 (M 98 4) 8 = qA M29 (M 98 4) 8 := by first | exact qA_keep hpx47_1 r1.1 8 (by decide) (by decide) | (unfold qA; exact hpx47_1 _ (by omega))
              have e60 : qA M46 (M 98 4) 10 = qA M29 (M 98 4) 10 := by first | exact qA_keep hpx47_1 r1.1 10 (by decide) (by decide) | (unfold qA; exact hpx47_1 _ (by omega))
              have e61 : qA M46 (M 98 4) 11 = qA M29 (M 98 4) 11 := by first | exact qA_keep hpx47_1 r1.1 11 (by decide) (by decide) | (unfold qA; exact hpx47_1 _ (by omega))
              have e62 : qA M46 (M 98 4) 5 = qA M29 (M 98 4) 5 := by first | exact qA_keep hpx47_1 r1.1 5 (by decide) (by decide) | (unfold qA; exact hpx47_1 _ (by omega))
              show zG n (0, 0) d 204 (95, [.inr (.inr (some 97)), .inl a1, .inl a2, .inl a3, .inl a4, .inl a5, .inl a6], []) M46 _
              refine zG_w (c' := (99, [.inr (.inr (some 97)), .inl a1, .inl a2, .inl a3, .inl a4, .inl a5, .inl a6], [.inl a3, .inl 10, .inr (.inr (some 97))])) 3 hd0 hz (by rfl) ?_
              refine zG_call hd0 hz zp_195 rfl rfl (Nat.le_of_ble_eq_true rfl) ⟨Nat.le_refl _, Nat.le_refl _⟩ (qx_putsM (by first | exact zdk hd rfl | omega) hCM46   10 a3 (by first | with_reducible exact ha3 | omega) (M 98 4) (by omega) (by omega) (by omega) (by first | exact qPv (by decide) | (refine ⟨fun _ => ?_, fun _ => ?_, fun _ => ?_, fun _ => ?_⟩ <;> omega)) ) (fun vr M63 hr => ?_)
              obtain ⟨⟨hCM63, hFM63⟩, rfl, hpx64_0, hpx64_1⟩ := hr
              have hWM63 : qFm [98] M M63 := hWM46.tr hFM63 (by decide)
              have e65 : M63 98 4 = M46 98 4 := by first | exact qN_keep hpx64_1 r1.1 4 (by decide) (by decide) | exact qB_keep hpx64_1 r1.1 4 (by decide) | exact hpx64_1 _ (by omega)
              have e66 : M63 98 0 = M46 98 0 := by first | exact qN_keep hpx64_1 r1.1 0 (by decide) (by decide) | exact qB_keep hpx64_1 r1.1 0 (by decide) | exact hpx64_1 _ (by omega)
              have e67 : M63 98 3 = M46 98 3 := by first | exact qN_keep hpx64_1 r1.1 3 (by decide) (by decide) | exact qB_keep hpx64_1 r1.1 3 (by decide) | exact hpx64_1 _ (by omega)
              have e68 : qA M63 (M 98 4) 0 = qA M46 (M 98 4) 0 := by first | exact qA_keep hpx64_1 r1.1 0 (by decide) (by decide) | (unfold qA; exact hpx64_1 _ (by omega))
              have e69 : qA M63 (M 98 4) 1 = qA M46 (M 98 4) 1 := by first | exact qA_keep hpx64_1 r1.1 1 (by decide) (by decide) | (unfold qA; exact hpx64_1 _ (by omega))
              have e70 : qA M63 (M 98 4) 2 = qA M46 (M 98 4) 2 := by first | exact qA_keep hpx64_1 r1.1 2 (by decide) (by decide) | (unfold qA; exact hpx64_1 _ (by omega))
              have e71 : qA M63 (M 98 4) 3 = qA M46 (M 98 4) 3 := by first | exact qA_keep hpx64_1 r1.1 3 (by decide) (by decide) | (unfold qA; exact hpx64_1 _ (by omega))
              have e72 : qA M63 (M 98 4) 4 = qA M46 (M 98 4) 4 := by first | exact qA_keep hpx64_1 r1.1 4 (by decide) (by decide) | (unfold qA; exact hpx64_1 _ (by omega))
              have e73 : qA M63 (M 98 4) 6 = qA M46 (M 98 4) 6 := by first | exact qA_keep hpx64_1 r1.1 6 (by decide) (by decide) | (unfold qA; exact hpx64_1 _ (by omega))
              have e74 : qA M63 (M 98 4) 7 = qA M46 (M 98 4) 7 := by first | exact qA_keep hpx64_1 r1.1 7 (by decide) (by decide) | (unfold qA; exact hpx64_1 _ (by omega))
              have e75 : qA M63 (M 98 4) 8 = qA M46 (M 98 4) 8 := by first | exact qA_keep hpx64_1 r1.1 8 (by decide) (by decide) | (unfold qA; exact hpx64_1 _ (by omega))
              have e77 : qA M63 (M 98 4) 11 = qA M46 (M 98 4) 11 := by first | exact qA_keep hpx64_1 r1.1 11 (by decide) (by decide) | (unfold qA; exact hpx64_1 _ (by omega))
              have e78 : qA M63 (M 98 4) 5 = qA M46 (M 98 4) 5 := by first | exact qA_keep hpx64_1 r1.1 5 (by decide) (by decide) | (unfold qA; exact hpx64_1 _ (by omega))
              have e79 : qA M63 (M 98 4) 9 = qA M46 (M 98 4) 9 := by first | exact qA_keep hpx64_1 r1.1 9 (by decide) (by decide) | (unfold qA; exact hpx64_1 _ (by omega))
              show zG n (0, 0) d 204 (102, [.inr (.inr (some 97)), .inl a1, .inl a2, .inl a3, .inl a4, .inl a5, .inl a6], []) M63 _
              refine zG_w (c' := (107, [.inr (.inr (some 97)), .inl a1, .inl a2, .inl a3, .inl a4, .inl a5, .inl a6], [.inl a4, .inl 11, .inr (.inr (some 97))])) 3 hd0 hz (by rfl) ?_
              refine zG_call hd0 hz zp_195 rfl rfl (Nat.le_of_ble_eq_true rfl) ⟨Nat.le_refl _, Nat.le_refl _⟩ (qx_putsM (by first | exact zdk hd rfl | omega) hCM63   11 a4 (by first | with_reducible exact ha4 | omega) (M 98 4) (by omega) (by omega) (by omega) (by first | exact qPv (by decide) | (refine ⟨fun _ => ?_, fun _ => ?_, fun _ => ?_, fun _ => ?_⟩ <;> omega)) ) (fun vr M80 hr => ?_)
              obtain ⟨⟨hCM80, hFM80⟩, rfl, hpx81_0, hpx81_1⟩ := hr
              have hWM80 : qFm [98] M M80 := hWM63.tr hFM80 (by decide)
              have e82 : M80 98 4 = M63 98 4 := by first | exact qN_keep hpx81_1 r1.1 4 (by decide) (by decide) | exact qB_keep hpx81_1 r1.1 4 (by decide) | exact hpx81_1 _ (by omega)
              have e83 : M80 98 0 = M63 98 0 := by first | exact qN_keep hpx81_1 r1.1 0 (by decide) (by decide) | exact qB_keep hpx81_1 r1.1 0 (by decide) | exact hpx81_1 _ (by omega)
              have e84 : M80 98 3 = M63 98 3 := by first | exact qN_keep hpx81_1 r1.1 3 (by decide) (by decide) | exact qB_keep hpx81_1 r1.1 3 (by decide) | exact hpx81_1 _ (by omega)
              have e85 : qA M80 (M 98 4) 0 = qA M63 (M 98 4) 0 := by first | exact qA_keep hpx81_1 r1.1 0 (by decide) (by decide) | (unfold qA; exact hpx81_1 _ (by omega))
              have e86 : qA M80 (M 98 4) 1 = qA M63 (M 98 4) 1 := by first | exact qA_keep hpx81_1 r1.1 1 (by decide) (by decide) | (unfold qA; exact hpx81_1 _ (by omega))
              have e87 : qA M80 (M 98 4) 2 = qA M63 (M 98 4) 2 := by first | exact qA_keep hpx81_1 r1.1 2 (by decide) (by decide) | (unfold qA; exact hpx81_1 _ (by omega))
              have e88 : qA M80 (M 98 4) 3 = qA M63 (M 98 4) 3 := by first | exact qA_keep hpx81_1 r1.1 3 (by decide) (by decide) | (unfold qA; exact hpx81_1 _ (by omega))
              have e89 : qA M80 (M 98 4) 4 = qA M63 (M 98 4) 4 := by first | exact qA_keep hpx81_1 r1.1 4 (by decide) (by decide) | (unfold qA; exact hpx81_1 _ (by omega))
              have e90 : qA M80 (M 98 4) 6 = qA M63 (M 98 4) 6 := by first | exact qA_keep hpx81_1 r1.1 6 (by decide) (by decide) | (unfold qA; exact hpx81_1 _ (by omega))
              have e91 : qA M80 (M 98 4) 7 = qA M63 (M 98 4) 7 := by first | exact qA_keep hpx81_1 r1.1 7 (by decide) (by decide) | (unfold qA; exact hpx81_1 _ (by omega))
              have e92 : qA M80 (M 98 4) 8 = qA M63 (M 98 4) 8 := by first | exact qA_keep hpx81_1 r1.1 8 (by decide) (by decide) | (unfold qA; exact hpx81_1 _ (by omega))
              have e94 : qA M80 (M 98 4) 5 = qA M63 (M 98 4) 5 := by first | exact qA_keep hpx81_1 r1.1 5 (by decide) (by decide) | (unfold qA; exact hpx81_1 _ (by omega))
              have e95 : qA M80 (M 98 4) 9 = qA M63 (M 98 4) 9 := by first | exact qA_keep hpx81_1 r1.1 9 (by decide) (by decide) | (unfold qA; exact hpx81_1 _ (by omega))
              have e96 : qA M80 (M 98 4) 10 = qA M63 (M 98 4) 10 := by first | exact qA_keep hpx81_1 r1.1 10 (by decide) (by decide) | (unfold qA; exact hpx81_1 _ (by omega))
              show zG n (0, 0) d 204 (110, [.inr (.inr (some 97)), .inl a1, .inl a2, .inl a3, .inl a4, .inl a5, .inl a6], []) M80 _
              refine zG_w (c' := (112, [.inr (.inr (some 97)), .inl a1, .inl a2, .inl a3, .inl a4, .inl a5, .inl a6], [.inl 4, .inr (.inr (some 97))])) 2 hd0 hz (by rfl) ?_
              refine zG_call hd0 hz zp_183 rfl rfl (Nat.le_of_ble_eq_true rfl) ⟨Nat.le_refl _, Nat.le_refl _⟩ (qx_one4 (by first | exact zdk hd rfl | omega) hCM80   (M 98 4) (by omega) (by omega) (by refine ⟨?_, fun _ => ?_, fun _ => ?_, fun _ => ?_, fun _ => ?_, fun _ => ?_, fun _ => ?_, fun _ => ?_, fun _ => ?_, fun _ => ?_⟩ <;> omega) ) (fun vr M97 hr => ?_)
              obtain ⟨⟨hCM97, hFM97⟩, x98, rfl, hx98, hpx98_0, hpx98_1⟩ := hr
              have hWM97 : qFm [98] M M97 := hWM80.tr hFM97 (by decide)
              have e100 : M97 98 0 = M80 98 0 := by first | exact qN_keep hpx98_1 r1.1 0 (by decide) (by decide) | exact qB_keep hpx98_1 r1.1 0 (by decide) | exact hpx98_1 _ (by omega)
              have e101 : M97 98 3 = M80 98 3 := by first | exact qN_keep hpx98_1 r1.1 3 (by decide) (by decide) | exact qB_keep hpx98_1 r1.1 3 (by decide) | exact hpx98_1 _ (by omega)
              have e102 : qA M97 (M 98 4) 0 = qA M80 (M 98 4) 0 := by first | exact qA_keep hpx98_1 r1.1 0 (by decide) (by decide) | (unfold qA; exact hpx98_1 _ (by omega))
              have e103 : qA M97 (M 98 4) 1 = qA M80 (M 98 4) 1 := by first | exact qA_keep hpx98_1 r1.1 1 (by decide) (by decide) | (unfold qA; exact hpx98_1 _ (by omega))
              have e104 : qA M97 (M 98 4) 2 = qA M80 (M 98 4) 2 := by first | exact qA_keep hpx98_1 r1.1 2 (by decide) (by decide) | (unfold qA; exact hpx98_1 _ (by omega))
              have e105 : qA M97 (M 98 4) 3 = qA M80 (M 98 4) 3 := by first | exact qA_keep hpx98_1 r1.1 3 (by decide) (by decide) | (unfold qA; exact hpx98_1 _ (by omega))
              have e106 : qA M97 (M 98 4) 4 = qA M80 (M 98 4) 4 := by first | exact qA_keep hpx98_1 r1.1 4 (by decide) (by decide) | (unfold qA; exact hpx98_1 _ (by omega))
              have e107 : qA M97 (M 98 4) 6 = qA M80 (M 98 4) 6 := by first | exact qA_keep hpx98_1 r1.1 6 (by decide) (by decide) | (unfold qA; exact hpx98_1 _ (by omega))
              have e108 : qA M97 (M 98 4) 7 = qA M80 (M 98 4) 7 := by first | exact qA_keep hpx98_1 r1.1 7 (by decide) (by decide) | (unfold qA; exact hpx98_1 _ (by omega))
              have e109 : qA M97 (M 98 4) 8 = qA M80 (M 98 4) 8 := by first | exact qA_keep hpx98_1 r1.1 8 (by decide) (by decide) | (unfold qA; exact hpx98_1 _ (by omega))
              have e110 : qA M97 (M 98 4) 5 = qA M80 (M 98 4) 5 := by first | exact qA_keep hpx98_1 r1.1 5 (by decide) (by decide) | (unfold qA; exact hpx98_1 _ (by omega))
              have e111 : qA M97 (M 98 4) 9 = qA M80 (M 98 4) 9 := by first | exact qA_keep hpx98_1 r1.1 9 (by decide) (by decide) | (unfold qA; exact hpx98_1 _ (by omega))
              have e112 : qA M97 (M 98 4) 10 = qA M80 (M 98 4) 10 := by first | exact qA_keep hpx98_1 r1.1 10 (by decide) (by decide) | (unfold qA; exact hpx98_1 _ (by omega))
              have e113 : qA M97 (M 98 4) 11 = qA M80 (M 98 4) 11 := by first | exact qA_keep hpx98_1 r1.1 11 (by decide) (by decide) | (unfold qA; exact hpx98_1 _ (by omega))
              show zG n (0, 0) d 204 (115, [.inr (.inr (some 97)), .inl a1, .inl a2, .inl a3, .inl a4, .inl a5, .inl a6], [.inl x98]) M97 _
              exact zG_wr (r := some (.inl x98)) 0 hd0 hz (by rfl) ⟨⟨hCM97, hWM97⟩, _, rfl, by omega⟩
            · exact zG_wr (r := some (.inl (-4))) 1 hd0 hz (by rfl) ⟨⟨hC, hW⟩, _, rfl, by omega⟩
          · exact j54
