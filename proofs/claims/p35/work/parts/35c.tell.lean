/-! THE MODEL'S METHODS, BY PROGRAM -/
theorem qm_205_97 {n d : Nat} {M : zM} (hd : 4 ≤ d) (hC : qMI M)  (a1 : Int) (ha1 : (-2147483648) ≤ a1 ∧ a1 ≤ 2147483647) (a2 : Int) (ha2 : (-2147483648) ≤ a2 ∧ a2 ≤ 2147483647) (a3 : Int) (ha3 : (-2147483648) ≤ a3 ∧ a3 ≤ 2147483647) (a4 : Int) (ha4 : (-2147483648) ≤ a4 ∧ a4 ≤ 2147483647) : qOkN n d 205 [.inr (.inr (some 97)), .inl a1, .inl a2, .inl a3, .inl a4] 5 [98] M (fun v M' => ∃ x : Int, v = some (.inl x) ∧ ((-2147483648) ≤ x ∧ x ≤ 2147483647)) := by
  have hz := zp_205
  have hd0 : 0 < d := by omega
  have hW : qFm [98] M M := qFm.rfl
  have r1 := hC.cnt4
  have r2 := hC.cnt1
  have r3 := hC.cnt0
  have r4 := hC.cnt3
  show zG n (0, 0) d 205 (0, [.inr (.inr (some 97)), .inl a1, .inl a2, .inl a3, .inl a4], []) M _
  refine zG_wp (pc := 6) (L := [.inr (.inr (some 97)), .inl a1, .inl a2, .inl a3, .inl a4]) (st := []) 3 hd0 hz zp_182 (qx_is (by first | exact zdk hd rfl | omega) hC   1 (by first | decide | omega) a1 (by first | with_reducible exact ha1 | omega) ) (by rfl) (fun x6 hx6 => ?_)
  have j28 : zG n (0, 0) d 205 (28, [.inr (.inr (some 97)), .inl a1, .inl a2, .inl a3, .inl a4], []) M (fun v M' => (qMI M' ∧ qFm [98] M M') ∧ ∃ x : Int, v = some (.inl x) ∧ ((-2147483648) ≤ x ∧ x ≤ 2147483647)) := by
    exact zG_wr (r := some (.inl (-2))) 1 hd0 hz (by rfl) ⟨⟨hC, hW⟩, _, rfl, by omega⟩
  refine zG_wf_eq (pc := 6) (n' := 9) (t := 28) (L := [.inr (.inr (some 97)), .inl a1, .inl a2, .inl a3, .inl a4]) (st := []) (x := x6) 0 hd0 hz (by rfl) (fun hb7 => ?_) (fun hb7 => ?_)
  · exact j28
  · have hcx6 := hx6.2.2.mp (by omega)
    clear hx6 hb7
    refine zG_wp (pc := 15) (L := [.inr (.inr (some 97)), .inl a1, .inl a2, .inl a3, .inl a4]) (st := []) 3 hd0 hz zp_182 (qx_is (by first | exact zdk hd rfl | omega) hC   0 (by first | decide | omega) a2 (by first | with_reducible exact ha2 | omega) ) (by rfl) (fun x9 hx9 => ?_)
    refine zG_wf_eq (pc := 15) (n' := 18) (t := 28) (L := [.inr (.inr (some 97)), .inl a1, .inl a2, .inl a3, .inl a4]) (st := []) (x := x9) 0 hd0 hz (by rfl) (fun hb10 => ?_) (fun hb10 => ?_)
    · exact j28
    · have hcx9 := hx9.2.2.mp (by omega)
      clear hx9 hb10
      refine zG_wp (pc := 25) (L := [.inr (.inr (some 97)), .inl a1, .inl a2, .inl a3, .inl a4]) (st := []) 3 hd0 hz zp_200 (qm_200_97 (by first | exact zdk hd rfl | omega) hC   a3 (by first | with_reducible exact ha3 | omega) a4 (by first | with_reducible exact ha4 | omega) ) (by rfl) (fun x12 hr => ?_)
      obtain ⟨hx12, hpx12_0⟩ := hr
      refine zG_wf_ne (pc := 25) (n' := 28) (t := 31) (L := [.inr (.inr (some 97)), .inl a1, .inl a2, .inl a3, .inl a4]) (st := []) (x := x12) 0 hd0 hz (by rfl) (fun hb13 => ?_) (fun hb13 => ?_)
      · have hcx12 := hpx12_0.mp (by omega)
        clear hx12 hpx12_0 hb13
        refine zG_wp (pc := 35) (L := [.inr (.inr (some 97)), .inl a1, .inl a2, .inl a3, .inl a4]) (st := []) 1 hd0 hz zp_197 (qx_isFull (by first | exact zdk hd rfl | omega) hC    ) (by rfl) (fun x15 hx15 => ?_)
        refine zG_wf_eq (pc := 35) (n' := 38) (t := 41) (L := [.inr (.inr (some 97)), .inl a1, .inl a2, .inl a3, .inl a4]) (st := []) (x := x15) 0 hd0 hz (by rfl) (fun hb16 => ?_) (fun hb16 => ?_)
        · have hcx15 : M 98 4 < 250 := by omega
          clear hx15 hb16
          refine zG_wp (pc := 48) (L := [.inr (.inr (some 97)), .inl a1, .inl a2, .inl a3, .inl a4]) (st := [.inl 4, .inr (.inr (some 97))]) 4 hd0 hz zp_199 (qx_dayOf (by first | exact zdk hd rfl | omega) hC   a3 (by first | with_reducible exact ha3 | omega) ) (by rfl) (fun x18 hx18 => ?_)
          refine zG_wc (c1 := (54, [.inr (.inr (some 97)), .inl a1, .inl a2, .inl a3, .inl a4], [])) 2 hd0 hz zp_196 (qx_begins (by first | exact zdk hd rfl | omega) hC   4 x18 a4 a3 (by first | with_reducible exact ha3 | omega) (by omega) (by omega) (M 98 4) (by omega) (by omega) (by omega) ) (by rfl) (fun vr M19 hr => ?_)
          obtain ⟨⟨hCM19, hFM19⟩, rfl, hpx20_0, hpx20_1, hpx20_2, hpx20_3, hpx20_4, hpx20_5, hpx20_6, hpx20_7, hpx20_8, hpx20_9, hpx20_10, hpx20_11, hpx20_12⟩ := hr
          have hWM19 : qFm [98] M M19 := hW.tr hFM19 (by decide)
          have e21 : M19 98 4 = M 98 4 := by first | exact qN_keep hpx20_12 r1.1 4 (by decide) (by decide) | exact qB_keep hpx20_12 r1.1 4 (by decide) | exact hpx20_12 _ (by omega)
          have e22 : M19 98 1 = M 98 1 := by first | exact qN_keep hpx20_12 r1.1 1 (by decide) (by decide) | exact qB_keep hpx20_12 r1.1 1 (by decide) | exact hpx20_12 _ (by omega)
          have e23 : M19 98 0 = M 98 0 := by first | exact qN_keep hpx20_12 r1.1 0 (by decide) (by decide) | exact qB_keep hpx20_12 r1.1 0 (by decide) | exact hpx20_12 _ (by omega)
          have e24 : M19 98 3 = M 98 3 := by first | exact qN_keep hpx20_12 r1.1 3 (by decide) (by decide) | exact qB_keep hpx20_12 r1.1 3 (by decide) | exact hpx20_12 _ (by omega)
          show zG n (0, 0) d 205 (54, [.inr (.inr (some 97)), .inl a1, .inl a2, .inl a3, .inl a4], []) M19 _
          refine zG_w (c' := (57, [.inr (.inr (some 97)), .inl a1, .inl a2, .inl a3, .inl a4], [.inl a1, .inl 4, .inr (.inr (some 97))])) 3 hd0 hz (by rfl) ?_
          refine zG_call hd0 hz zp_195 rfl rfl (Nat.le_of_ble_eq_true rfl) ⟨Nat.le_refl _, Nat.le_refl _⟩ (qx_putsM (by first | exact zdk hd rfl | omega) hCM19   4 a1 (by first | with_reducible exact ha1 | omega) (M 98 4) (by omega) (by omega) (by omega) (by first | exact qPv (by decide) | (refine ⟨fun _ => ?_, fun _ => ?_, fun _ => ?_, fun _ => ?_⟩ <;> omega)) ) (fun vr M25 hr => ?_)
          obtain ⟨⟨hCM25, hFM25⟩, rfl, hpx26_0, hpx26_1⟩ := hr
          have hWM25 : qFm [98] M M25 := hWM19.tr hFM25 (by decide)
          have e27 : M25 98 4 = M19 98 4 := by first | exact qN_keep hpx26_1 r1.1 4 (by decide) (by decide) | exact qB_keep hpx26_1 r1.1 4 (by decide) | exact hpx26_1 _ (by omega)
          have e28 : M25 98 1 = M19 98 1 := by first | exact qN_keep hpx26_1 r1.1 1 (by decide) (by decide) | exact qB_keep hpx26_1 r1.1 1 (by decide) | exact hpx26_1 _ (by omega)
          have e29 : M25 98 0 = M19 98 0 := by first | exact qN_keep hpx26_1 r1.1 0 (by decide) (by decide) | exact qB_keep hpx26_1 r1.1 0 (by decide) | exact hpx26_1 _ (by omega)
          have e30 : M25 98 3 = M19 98 3 := by first | exact qN_keep hpx26_1 r1.1 3 (by decide) (by decide) | exact qB_keep hpx26_1 r1.1 3 (by decide) | exact hpx26_1 _ (by omega)
          have e31 : qA M25 (M 98 4) 0 = qA M19 (M 98 4) 0 := by first | exact qA_keep hpx26_1 r1.1 0 (by decide) (by decide) | (unfold qA; exact hpx26_1 _ (by omega))
          have e32 : qA M25 (M 98 4) 1 = qA M19 (M 98 4) 1 := by first | exact qA_keep hpx26_1 r1.1 1 (by decide) (by decide) | (unfold qA; exact hpx26_1 _ (by omega))
          have e33 : qA M25 (M 98 4) 2 = qA M19 (M 98 4) 2 := by first | exact qA_keep hpx26_1 r1.1 2 (by decide) (by decide) | (unfold qA; exact hpx26_1 _ (by omega))
          have e34 : qA M25 (M 98 4) 3 = qA M19 (M 98 4) 3 := by first | exact qA_keep hpx26_1 r1.1 3 (by decide) (by decide) | (unfold qA; exact hpx26_1 _ (by omega))
          have e36 : qA M25 (M 98 4) 5 = qA M19 (M 98 4) 5 := by first | exact qA_keep hpx26_1 r1.1 5 (by decide) (by decide) | (unfold qA; exact hpx26_1 _ (by omega))
          have e37 : qA M25 (M 98 4) 6 = qA M19 (M 98 4) 6 := by first | exact qA_keep hpx26_1 r1.1 6 (by decide) (by decide) | (unfold qA; exact hpx26_1 _ (by omega))
          have e38 : qA M25 (M 98 4) 7 = qA M19 (M 98 4) 7 := by first | exact qA_keep hpx26_1 r1.1 7 (by decide) (by decide) | (unfold qA; exact hpx26_1 _ (by omega))
          have e39 : qA M25 (M 98 4) 8 = qA M19 (M 98 4) 8 := by first | exact qA_keep hpx26_1 r1.1 8 (by decide) (by decide) | (unfold qA; exact hpx26_1 _ (by omega))
          have e40 : qA M25 (M 98 4) 9 = qA M19 (M 98 4) 9 := by first | exact qA_keep hpx26_1 r1.1 9 (by decide) (by decide) | (unfold qA; exact hpx26_1 _ (by omega))
          have e41 : qA M25 (M 98 4) 10 = qA M19 (M 98 4) 10 := by first | exact qA_keep hpx26_1 r1.1 10 (by decide) (by decide) | (unfold qA; exact hpx26_1 _ (by omega))
          have e42 : qA M25 (M 98 4) 11 = qA M19 (M 98 4) 11 := by first | exact qA_keep hpx26_1 r1.1 11 (by decide) (by decide) | (unfold qA; exact hpx26_1 _ (by omega))
          show zG n (0, 0) d 205 (60, [.inr (.inr (some 97)), .inl a1, .inl a2, .inl a3, .inl a4], []) M25 _
          refine zG_w (c' := (63, [.inr (.inr (some 97)), .inl a1, .inl a2, .inl a3, .inl a4], [.inl a2, .inl 5, .inr (.inr (some 97))])) 3 hd0 hz (by rfl) ?_
          refine zG_call hd0 hz zp_195 rfl rfl (Nat.le_of_ble_eq_true rfl) ⟨Nat.le_refl _, Nat.le_refl _⟩ (qx_putsM (by first | exact zdk hd rfl | omega) hCM25   5 a2 (by first | with_reducible exact ha2 | omega) (M 98 4) (by omega) (by omega) (by omega) (by first | exact qPv (by decide) | (refine ⟨fun _ => ?_, fun _ => ?_, fun _ => ?_, fun _ => ?_⟩ <;> omega)) ) (fun vr M43 hr => ?_)
          obtain ⟨⟨hCM43, hFM43⟩, rfl, hpx44_0, hpx44_1⟩ := hr
          have hWM43 : qFm [98] M M43 := hWM25.tr hFM43 (by decide)
          have e45 : M43 98 4 = M25 98 4 := by first | exact qN_keep hpx44_1 r1.1 4 (by decide) (by decide) | exact qB_keep hpx44_1 r1.1 4 (by decide) | exact hpx44_1 _ (by omega)
          have e46 : M43 98 1 = M25 98 1 := by first | exact qN_keep hpx44_1 r1.1 1 (by decide) (by decide) | exact qB_keep hpx44_1 r1.1 1 (by decide) | exact hpx44_1 _ (by omega)
          have e47 : M43 98 0 = M25 98 0 := by first | exact qN_keep hpx44_1 r1.1 0 (by decide) (by decide) | exact qB_keep hpx44_1 r1.1 0 (by decide) | exact hpx44_1 _ (by omega)
          have e48 : M43 98 3 = M25 98 3 := by first | exact qN_keep hpx44_1 r1.1 3 (by decide) (by decide) | exact qB_keep hpx44_1 r1.1 3 (by decide) | exact hpx44_1 _ (by omega)
          have e49 : qA M43 (M 98 4) 0 = qA M25 (M 98 4) 0 := by first | exact qA_keep hpx44_1 r1.1 0 (by decide) (by decide) | (unfold qA; exact hpx44_1 _ (by omega))
          have e50 : qA M43 (M 98 4) 1 = qA M25 (M 98 4) 1 := by first | exact qA_keep hpx44_1 r1.1 1 (by decide) (by decide) | (unfold qA; exact hpx44_1 _ (by omega))
          have e51 : qA M43 (M 98 4) 2 = qA M25 (M 98 4) 2 := by first | exact qA_keep hpx44_1 r1.1 2 (by decide) (by decide) | (unfold qA; exact hpx44_1 _ (by omega))
          have e52 : qA M43 (M 98 4) 3 = qA M25 (M 98 4) 3 := by first | exact qA_keep hpx44_1 r1.1 3 (by decide) (by decide) | (unfold qA; exact hpx44_1 _ (by omega))
          have e54 : qA M43 (M 98 4) 6 = qA M25 (M 98 4) 6 := by first | exact qA_keep hpx44_1 r1.1 6 (by decide) (by decide) | (unfold qA; exact hpx44_1 _ (by omega))
          have e55 : qA M43 (M 98 4) 7 = qA M25 (M 98 4) 7 := by first | exact qA_keep hpx44_1 r1.1 7 (by decide) (by decide) | (unfold qA; exact hpx44_1 _ (by omega))
          have e56 : qA M43 (M 98 4) 8 = qA M25 (M 98 4) 8 := by first | exact qA_keep hpx44_1 r1.1 8 (by decide) (by decide) | (unfold qA; exact hpx44_1 _ (by omega))
          have e57 : qA M43 (M 98 4) 9 = qA M25 (M 98 4) 9 := by first | exact qA_keep hpx44_1 r1.1 9 (by decide) (by decide) | (unfold qA; exact hpx44_1 _ (by omega))
          have e58 : qA M43 (M 98 4) 10 = qA M25 (M 98 4) 10 := by first | exact qA_keep hpx44_1 r1.1 10 (by decide) (by decide) | (unfold qA; exact hpx44_1 _ (by omega))
          have e59 : qA M43 (M 98 4) 11 = qA M25 (M 98 4) 11 := by first | exact qA_keep hpx44_1 r1.1 11 (by decide) (by decide) | (unfold qA; exact hpx44_1 _ (by omega))
          have e60 : qA M43 (M 98 4) 4 = qA M25 (M 98 4) 4 := by first | exact qA_keep hpx44_1 r1.1 4 (by decide) (by decide) | (unfold qA; exact hpx44_1 _ (by omega))
          show zG n (0, 0) d 205 (66, [.inr (.inr (some 97)), .inl a1, .inl a2, .inl a3, .inl a4], []) M43 _
          refine zG_w (c' := (68, [.inr (.inr (some 97)), .inl a1, .inl a2, .inl a3, .inl a4], [.inl 4, .inr (.inr (some 97))])) 2 hd0 hz (by rfl) ?_
          refine zG_call hd0 hz zp_183 rfl rfl (Nat.le_of_ble_eq_true rfl) ⟨Nat.le_refl _, Nat.le_refl _⟩ (qx_one4 (by first | exact zdk hd rfl | omega) hCM43   (M 98 4) (by omega) (by omega) (by refine ⟨?_, fun _ => ?_, fun _ => ?_, fun _ => ?_, fun _ => ?_, fun _ => ?_, fun _ => ?_, fun _ => ?_, fun _ => ?_, fun _ => ?_⟩ <;> omega) ) (fun vr M61 hr => ?_)
          obtain ⟨⟨hCM61, hFM61⟩, x62, rfl, hx62, hpx62_0, hpx62_1⟩ := hr
          have hWM61 : qFm [98] M M61 := hWM43.tr hFM61 (by decide)
          have e64 : M61 98 1 = M43 98 1 := by first | exact qN_keep hpx62_1 r1.1 1 (by decide) (by decide) | exact qB_keep hpx62_1 r1.1 1 (by decide) | exact hpx62_1 _ (by omega)
          have e65 : M61 98 0 = M43 98 0 := by first | exact qN_keep hpx62_1 r1.1 0 (by decide) (by decide) | exact qB_keep hpx62_1 r1.1 0 (by decide) | exact hpx62_1 _ (by omega)
          have e66 : M61 98 3 = M43 98 3 := by first | exact qN_keep hpx62_1 r1.1 3 (by decide) (by decide) | exact qB_keep hpx62_1 r1.1 3 (by decide) | exact hpx62_1 _ (by omega)
          have e67 : qA M61 (M 98 4) 0 = qA M43 (M 98 4) 0 := by first | exact qA_keep hpx62_1 r1.1 0 (by decide) (by decide) | (unfold qA; exact hpx62_1 _ (by omega))
          have e68 : qA M61 (M 98 4) 1 = qA M43 (M 98 4) 1 := by first | exact qA_keep hpx62_1 r1.1 1 (by decide) (by decide) | (unfold qA; exact hpx62_1 _ (by omega))
          have e69 : qA M61 (M 98 4) 2 = qA M43 (M 98 4) 2 := by first | exact qA_keep hpx62_1 r1.1 2 (by decide) (by decide) | (unfold qA; exact hpx62_1 _ (by omega))
          have e70 : qA M61 (M 98 4) 3 = qA M43 (M 98 4) 3 := by first | exact qA_keep hpx62_1 r1.1 3 (by decide) (by decide) | (unfold qA; exact hpx62_1 _ (by omega))
          have e71 : qA M61 (M 98 4) 6 = qA M43 (M 98 4) 6 := by first | exact qA_keep hpx62_1 r1.1 6 (by decide) (by decide) | (unfold qA; exact hpx62_1 _ (by omega))
          have e72 : qA M61 (M 98 4) 7 = qA M43 (M 98 4) 7 := by first | exact qA_keep hpx62_1 r1.1 7 (by decide) (by decide) | (unfold qA; exact hpx62_1 _ (by omega))
          have e73 : qA M61 (M 98 4) 8 = qA M43 (M 98 4) 8 := by first | exact qA_keep hpx62_1 r1.1 8 (by decide) (by decide) | (unfold qA; exact hpx62_1 _ (by omega))
          have e74 : qA M61 (M 98 4) 9 = qA M43 (M 98 4) 9 := by first | exact qA_keep hpx62_1 r1.1 9 (by decide) (by decide) | (unfold qA; exact hpx62_1 _ (by omega))
          have e75 : qA M61 (M 98 4) 10 = qA M43 (M 98 4) 10 := by first | exact qA_keep hpx62_1 r1.1 10 (by decide) (by decide) | (unfold qA; exact hpx62_1 _ (by omega))
          have e76 : qA M61 (M 98 4) 11 = qA M43 (M 98 4) 11 := by first | exact qA_keep hpx62_1 r1.1 11 (by decide) (by decide) | (unfold qA; exact hpx62_1 _ (by omega))
          have e77 : qA M61 (M 98 4) 4 = qA M43 (M 98 4) 4 := by first | exact qA_keep hpx62_1 r1.1 4 (by decide) (by decide) | (unfold qA; exact hpx62_1 _ (by omega))
          have e78 : qA M61 (M 98 4) 5 = qA M43 (M 98 4) 5 := by first | exact qA_keep hpx62_1 r1.1 5 (by decide) (by decide) | (unfold qA; exact hpx62_1 _ (by omega))
          show zG n (0, 0) d 205 (71, [.inr (.inr (some 97)), .inl a1, .inl a2, .inl a3, .inl a4], [.inl x62]) M61 _
          exact zG_wr (r := some (.inl x62)) 0 hd0 hz (by rfl) ⟨⟨hCM61, hWM61⟩, _, rfl, by omega⟩
        · exact zG_wr (r := some (.inl (-4))) 1 hd0 hz (by rfl) ⟨⟨hC, hW⟩, _, rfl, by omega⟩
      · exact j28
theorem qm_206_97 {n d : Nat} {M : zM} (hd : 4 ≤ d) (hC : qMI M)  (a1 : Int) (ha1 : (-2147483648) ≤ a1 ∧ a1 ≤ 2147483647) (a2 : Int) (ha2 : (-2147483648) ≤ a2 ∧ a2 ≤ 2147483647) (a3 : Int) (ha3 : (-2147483648) ≤ a3 ∧ a3 ≤ 2147483647) : qOkN n d 206 [.inr (.inr (some 97)), .inl a1, .inl a2, .inl a3] 4 [98] M (fun v M' => ∃ x : Int, v = some (.inl x) ∧ ((-2147483648) ≤ x ∧ x ≤ 2147483647)) := by
  have hz := zp_206
  have hd0 : 0 < d := by omega
  have hW : qFm [98] M M := qFm.rfl
  have r1 := hC.cnt4
  have r2 := hC.cnt3
  show zG n (0, 0) d 206 (0, [.inr (.inr (some 97)), .inl a1, .inl a2, .inl a3], []) M _
  refine zG_wp (pc := 6) (L := [.inr (.inr (some 97)), .inl a1, .inl a2, .inl a3]) (st := []) 3 hd0 hz zp_182 (qx_is (by first | exact zdk hd rfl | omega) hC   4 (by first | decide | omega) a1 (by first | with_reducible exact ha1 | omega) ) (by rfl) (fun x4 hx4 => ?_)
  have j18 : zG n (0, 0) d 206 (18, [.inr (.inr (some 97)), .inl a1, .inl a2, .inl a3], []) M (fun v M' => (qMI M' ∧ qFm [98] M M') ∧ ∃ x : Int, v = some (.inl x) ∧ ((-2147483648) ≤ x ∧ x ≤ 2147483647)) := by
    exact zG_wr (r := some (.inl (-2))) 1 hd0 hz (by rfl) ⟨⟨hC, hW⟩, _, rfl, by omega⟩
  refine zG_wf_eq (pc := 6) (n' := 9) (t := 18) (L := [.inr (.inr (some 97)), .inl a1, .inl a2, .inl a3]) (st := []) (x := x4) 0 hd0 hz (by rfl) (fun hb5 => ?_) (fun hb5 => ?_)
  · exact j18
  · have hcx4 := hx4.2.2.mp (by omega)
    clear hx4 hb5
    refine zG_wp (pc := 15) (L := [.inr (.inr (some 97)), .inl a1, .inl a2, .inl a3]) (st := []) 3 hd0 hz zp_200 (qm_200_97 (by first | exact zdk hd rfl | omega) hC   a2 (by first | with_reducible exact ha2 | omega) a3 (by first | with_reducible exact ha3 | omega) ) (by rfl) (fun x7 hr => ?_)
    obtain ⟨hx7, hpx7_0⟩ := hr
    refine zG_wf_ne (pc := 15) (n' := 18) (t := 21) (L := [.inr (.inr (some 97)), .inl a1, .inl a2, .inl a3]) (st := []) (x := x7) 0 hd0 hz (by rfl) (fun hb8 => ?_) (fun hb8 => ?_)
    · have hcx7 := hpx7_0.mp (by omega)
      clear hx7 hpx7_0 hb8
      refine zG_wp (pc := 25) (L := [.inr (.inr (some 97)), .inl a1, .inl a2, .inl a3]) (st := []) 1 hd0 hz zp_197 (qx_isFull (by first | exact zdk hd rfl | omega) hC    ) (by rfl) (fun x10 hx10 => ?_)
      refine zG_wf_eq (pc := 25) (n' := 28) (t := 31) (L := [.inr (.inr (some 97)), .inl a1, .inl a2, .inl a3]) (st := []) (x := x10) 0 hd0 hz (by rfl) (fun hb11 => ?_) (fun hb11 => ?_)
      · have hcx10 : M 98 4 < 250 := by omega
        clear hx10 hb11
        refine zG_wp (pc := 38) (L := [.inr (.inr (some 97)), .inl a1, .inl a2, .inl a3]) (st := [.inl 5, .inr (.inr (some 97))]) 4 hd0 hz zp_199 (qx_dayOf (by first | exact zdk hd rfl | omega) hC   a2 (by first | with_reducible exact ha2 | omega) ) (by rfl) (fun x13 hx13 => ?_)
        refine zG_wc (c1 := (43, [.inr (.inr (some 97)), .inl a1, .inl a2, .inl a3], [])) 2 hd0 hz zp_196 (qx_begins (by first | exact zdk hd rfl | omega) hC   5 x13 a3 a2 (by first | with_reducible exact ha2 | omega) (by omega) (by omega) (M 98 4) (by omega) (by omega) (by omega) ) (by rfl) (fun vr M14 hr => ?_)
        obtain ⟨⟨hCM14, hFM14⟩, rfl, hpx15_0, hpx15_1, hpx15_2, hpx15_3, hpx15_4, hpx15_5, hpx15_6, hpx15_7, hpx15_8, hpx15_9, hpx15_10, hpx15_11, hpx15_12⟩ := hr
        have hWM14 : qFm [98] M M14 := hW.tr hFM14 (by decide)
        have e16 : M14 98 4 = M 98 4 := by first | exact qN_keep hpx15_12 r1.1 4 (by decide) (by decide) | exact qB_keep hpx15_12 r1.1 4 (by decide) | exact hpx15_12 _ (by omega)
        have e17 : M14 98 3 = M 98 3 := by first | exact qN_keep hpx15_12 r1.1 3 (by decide) (by decide) | exact qB_keep hpx15_12 r1.1 3 (by decide) | exact hpx15_12 _ (by omega)
        show zG n (0, 0) d 206 (43, [.inr (.inr (some 97)), .inl a1, .inl a2, .inl a3], []) M14 _
        refine zG_w (c' := (47, [.inr (.inr (some 97)), .inl a1, .inl a2, .inl a3], [.inl a1, .inl 6, .inr (.inr (some 97))])) 3 hd0 hz (by rfl) ?_
        refine zG_call hd0 hz zp_195 rfl rfl (Nat.le_of_ble_eq_true rfl) ⟨Nat.le_refl _, Nat.le_refl _⟩ (qx_putsM (by first | exact zdk hd rfl | omega) hCM14   6 a1 (by first | with_reducible exact ha1 | omega) (M 98 4) (by omega) (by omega) (by omega) (by first | exact qPv (by decide) | (refine ⟨fun _ => ?_, fun _ => ?_, fun _ => ?_, fun _ => ?_⟩ <;> omega)) ) (fun vr M18 hr => ?_)
        obtain ⟨⟨hCM18, hFM18⟩, rfl, hpx19_0, hpx19_1⟩ := hr
        have hWM18 : qFm [98] M M18 := hWM14.tr hFM18 (by decide)
        have e20 : M18 98 4 = M14 98 4 := by first | exact qN_keep hpx19_1 r1.1 4 (by decide) (by decide) | exact qB_keep hpx19_1 r1.1 4 (by decide) | exact hpx19_1 _ (by omega)
        have e21 : M18 98 3 = M14 98 3 := by first | exact qN_keep hpx19_1 r1.1 3 (by decide) (by decide) | exact qB_keep hpx19_1 r1.1 3 (by decide) | exact hpx19_1 _ (by omega)
        have e22 : qA M18 (M 98 4) 0 = qA M14 (M 98 4) 0 := by first | exact qA_keep hpx19_1 r1.1 0 (by decide) (by decide) | (unfold qA; exact hpx19_1 _ (by omega))
        have e23 : qA M18 (M 98 4) 1 = qA M14 (M 98 4) 1 := by first | exact qA_keep hpx19_1 r1.1 1 (by decide) (by decide) | (unfold qA; exact hpx19_1 _ (by omega))
        have e24 : qA M18 (M 98 4) 2 = qA M14 (M 98 4) 2 := by first | exact qA_keep hpx19_1 r1.1 2 (by decide) (by decide) | (unfold qA; exact hpx19_1 _ (by omega))
        have e25 : qA M18 (M 98 4) 3 = qA M14 (M 98 4) 3 := by first | exact qA_keep hpx19_1 r1.1 3 (by decide) (by decide) | (unfold qA; exact hpx19_1 _ (by omega))
        have e26 : qA M18 (M 98 4) 4 = qA M14 (M 98 4) 4 := by first | exact qA_keep hpx19_1 r1.1 4 (by decide) (by decide) | (unfold qA; exact hpx19_1 _ (by omega))
        have e27 : qA M18 (M 98 4) 5 = qA M14 (M 98 4) 5 := by first | exact qA_keep hpx19_1 r1.1 5 (by decide) (by decide) | (unfold qA; exact hpx19_1 _ (by omega))
        have e29 : qA M18 (M 98 4) 7 = qA M14 (M 98 4) 7 := by first | exact qA_keep hpx19_1 r1.1 7 (by decide) (by decide) | (unfold qA; exact hpx19_1 _ (by omega))
        have e30 : qA M18 (M 98 4) 8 = qA M14 (M 98 4) 8 := by first | exact qA_keep hpx19_1 r1.1 8 (by decide) (by decide) | (unfold qA; exact hpx19_1 _ (by omega))
        have e31 : qA M18 (M 98 4) 9 = qA M14 (M 98 4) 9 := by first | exact qA_keep hpx19_1 r1.1 9 (by decide) (by decide) | (unfold qA; exact hpx19_1 _ (by omega))
        have e32 : qA M18 (M 98 4) 10 = qA M14 (M 98 4) 10 := by first | exact qA_keep hpx19_1 r1.1 10 (by decide) (by decide) | (unfold qA; exact hpx19_1 _ (by omega))
        have e33 : qA M18 (M 98 4) 11 = qA M14 (M 98 4) 11 := by first | exact qA_keep hpx19_1 r1.1 11 (by decide) (by decide) | (unfold qA; exact hpx19_1 _ (by omega))
        show zG n (0, 0) d 206 (50, [.inr (.inr (some 97)), .inl a1, .inl a2, .inl a3], []) M18 _
        refine zG_w (c' := (52, [.inr (.inr (some 97)), .inl a1, .inl a2, .inl a3], [.inl 4, .inr (.inr (some 97))])) 2 hd0 hz (by rfl) ?_
        refine zG_call hd0 hz zp_183 rfl rfl (Nat.le_of_ble_eq_true rfl) ⟨Nat.le_refl _, Nat.le_refl _⟩ (qx_one4 (by first | exact zdk hd rfl | omega) hCM18   (M 98 4) (by omega) (by omega) (by refine ⟨?_, fun _ => ?_, fun _ => ?_, fun _ => ?_, fun _ => ?_, fun _ => ?_, fun _ => ?_, fun _ => ?_, fun _ => ?_, fun _ => ?_⟩ <;> omega) ) (fun vr M34 hr => ?_)
        obtain ⟨⟨hCM34, hFM34⟩, x35, rfl, hx35, hpx35_0, hpx35_1⟩ := hr
        have hWM34 : qFm [98] M M34 := hWM18.tr hFM34 (by decide)
        have e37 : M34 98 3 = M18 98 3 := by first | exact qN_keep hpx35_1 r1.1 3 (by decide) (by decide) | exact qB_keep hpx35_1 r1.1 3 (by decide) | exact hpx35_1 _ (by omega)
        have e38 : qA M34 (M 98 4) 0 = qA M18 (M 98 4) 0 := by first | exact qA_keep hpx35_1 r1.1 0 (by decide) (by decide) | (unfold qA; exact hpx35_1 _ (by omega))
        have e39 : qA M34 (M 98 4) 1 = qA M18 (M 98 4) 1 := by first | exact qA_keep hpx35_1 r1.1 1 (by decide) (by decide) | (unfold qA; exact hpx35_1 _ (by omega))
        have e40 : qA M34 (M 98 4) 2 = qA M18 (M 98 4) 2 := by first | exact qA_keep hpx35_1 r1.1 2 (by decide) (by decide) | (unfold qA; exact hpx35_1 _ (by omega))
        have e41 : qA M34 (M 98 4) 3 = qA M18 (M 98 4) 3 := by first | exact qA_keep hpx35_1 r1.1 3 (by decide) (by decide) | (unfold qA; exact hpx35_1 _ (by omega))
        have e42 : qA M34 (M 98 4) 4 = qA M18 (M 98 4) 4 := by first | exact qA_keep hpx35_1 r1.1 4 (by decide) (by decide) | (unfold qA; exact hpx35_1 _ (by omega))
        have e43 : qA M34 (M 98 4) 5 = qA M18 (M 98 4) 5 := by first | exact qA_keep hpx35_1 r1.1 5 (by decide) (by decide) | (unfold qA; exact hpx35_1 _ (by omega))
        have e44 : qA M34 (M 98 4) 7 = qA M18 (M 98 4) 7 := by first | exact qA_keep hpx35_1 r1.1 7 (by decide) (by decide) | (unfold qA; exact hpx35_1 _ (by omega))
        have e45 : qA M34 (M 98 4) 8 = qA M18 (M 98 4) 8 := by first | exact qA_keep hpx35_1 r1.1 8 (by decide) (by decide) | (unfold qA; exact hpx35_1 _ (by omega))
        have e46 : qA M34 (M 98 4) 9 = qA M18 (M 98 4) 9 := by first | exact qA_keep hpx35_1 r1.1 9 (by decide) (by decide) | (unfold qA; exact hpx35_1 _ (by omega))
        have e47 : qA M34 (M 98 4) 10 = qA M18 (M 98 4) 10 := by first | exact qA_keep hpx35_1 r1.1 10 (by decide) (by decide) | (unfold qA; exact hpx35_1 _ (by omega))
        have e48 : qA M34 (M 98 4) 11 = qA M18 (M 98 4) 11 := by first | exact qA_keep hpx35_1 r1.1 11 (by decide) (by decide) | (unfold qA; exact hpx35_1 _ (by omega))
        have e49 : qA M34 (M 98 4) 6 = qA M18 (M 98 4) 6 := by first | exact qA_keep hpx35_1 r1.1 6 (by decide) (by decide) | (unfold qA; exact hpx35_1 _ (by omega))
        show zG n (0, 0) d 206 (55, [.inr (.inr (some 97)), .inl a1, .inl a2, .inl a3], [.inl x35]) M34 _
        exact zG_wr (r := some (.inl x35)) 0 hd0 hz (by rfl) ⟨⟨hCM34, hWM34⟩, _, rfl, by omega⟩
      · exact zG_wr (r := some (.inl (-4))) 1 hd0 hz (by rfl) ⟨⟨hC, hW⟩, _, rfl, by omega⟩
    · exact j18
theorem qm_207_97 {n d : Nat} {M : zM} (hd : 4 ≤ d) (hC : qMI M)  (a1 : Int) (ha1 : (-2147483648) ≤ a1 ∧ a1 ≤ 2147483647) (a2 : Int) (ha2 : (-2147483648) ≤ a2 ∧ a2 ≤ 2147483647) (a3 : Int) (ha3 : (-2147483648) ≤ a3 ∧ a3 ≤ 2147483647) : qOkN n d 207 [.inr (.inr (some 97)), .inl a1, .inl a2, .inl a3] 4 [98] M (fun v M' => ∃ x : Int, v = some (.inl x) ∧ ((-2147483648) ≤ x ∧ x ≤ 2147483647)) := by
  have hz := zp_207
  have hd0 : 0 < d := by omega
  have hW : qFm [98] M M := qFm.rfl
  have r1 := hC.cnt4
  have r2 := hC.cnt1
  have r3 := hC.cnt3
  show zG n (0, 0) d 207 (0, [.inr (.inr (some 97)), .inl a1, .inl a2, .inl a3], []) M _
  refine zG_wp (pc := 6) (L := [.inr (.inr (some 97)), .inl a1, .inl a2, .inl a3]) (st := []) 3 hd0 hz zp_182 (qx_is (by first | exact zdk hd rfl | omega) hC   1 (by first | decide | omega) a1 (by first | with_reducible exact ha1 | omega) ) (by rfl) (fun x5 hx5 => ?_)
  have j18 : zG n (0, 0) d 207 (18, [.inr (.inr (some 97)), .inl a1, .inl a2, .inl a3], []) M (fun v M' => (qMI M' ∧ qFm [98] M M') ∧ ∃ x : Int, v = some (.inl x) ∧ ((-2147483648) ≤ x ∧ x ≤ 2147483647)) := by
    exact zG_wr (r := some (.inl (-2))) 1 hd0 hz (by rfl) ⟨⟨hC, hW⟩, _, rfl, by omega⟩
  refine zG_wf_eq (pc := 6) (n' := 9) (t := 18) (L := [.inr (.inr (some 97)), .inl a1, .inl a2, .inl a3]) (st := []) (x := x5) 0 hd0 hz (by rfl) (fun hb6 => ?_) (fun hb6 => ?_)
  · exact j18
  · have hcx5 := hx5.2.2.mp (by omega)
    clear hx5 hb6
    refine zG_wp (pc := 15) (L := [.inr (.inr (some 97)), .inl a1, .inl a2, .inl a3]) (st := []) 3 hd0 hz zp_200 (qm_200_97 (by first | exact zdk hd rfl | omega) hC   a2 (by first | with_reducible exact ha2 | omega) a3 (by first | with_reducible exact ha3 | omega) ) (by rfl) (fun x8 hr => ?_)
    obtain ⟨hx8, hpx8_0⟩ := hr
    refine zG_wf_ne (pc := 15) (n' := 18) (t := 21) (L := [.inr (.inr (some 97)), .inl a1, .inl a2, .inl a3]) (st := []) (x := x8) 0 hd0 hz (by rfl) (fun hb9 => ?_) (fun hb9 => ?_)
    · have hcx8 := hpx8_0.mp (by omega)
      clear hx8 hpx8_0 hb9
      refine zG_wp (pc := 25) (L := [.inr (.inr (some 97)), .inl a1, .inl a2, .inl a3]) (st := []) 1 hd0 hz zp_197 (qx_isFull (by first | exact zdk hd rfl | omega) hC    ) (by rfl) (fun x11 hx11 => ?_)
      refine zG_wf_eq (pc := 25) (n' := 28) (t := 31) (L := [.inr (.inr (some 97)), .inl a1, .inl a2, .inl a3]) (st := []) (x := x11) 0 hd0 hz (by rfl) (fun hb12 => ?_) (fun hb12 => ?_)
      · have hcx11 : M 98 4 < 250 := by omega
        clear hx11 hb12
        refine zG_wp (pc := 39) (L := [.inr (.inr (some 97)), .inl a1, .inl a2, .inl a3]) (st := [.inl 6, .inr (.inr (some 97))]) 4 hd0 hz zp_199 (qx_dayOf (by first | exact zdk hd rfl | omega) hC   a2 (by first | with_reducible exact ha2 | omega) ) (by rfl) (fun x14 hx14 => ?_)
        refine zG_wc (c1 := (44, [.inr (.inr (some 97)), .inl a1, .inl a2, .inl a3], [])) 2 hd0 hz zp_196 (qx_begins (by first | exact zdk hd rfl | omega) hC   6 x14 a3 a2 (by first | with_reducible exact ha2 | omega) (by omega) (by omega) (M 98 4) (by omega) (by omega) (by omega) ) (by rfl) (fun vr M15 hr => ?_)
        obtain ⟨⟨hCM15, hFM15⟩, rfl, hpx16_0, hpx16_1, hpx16_2, hpx16_3, hpx16_4, hpx16_5, hpx16_6, hpx16_7, hpx16_8, hpx16_9, hpx16_10, hpx16_11, hpx16_12⟩ := hr
        have hWM15 : qFm [98] M M15 := hW.tr hFM15 (by decide)
        have e17 : M15 98 4 = M 98 4 := by first | exact qN_keep hpx16_12 r1.1 4 (by decide) (by decide) | exact qB_keep hpx16_12 r1.1 4 (by decide) | exact hpx16_12 _ (by omega)
        have e18 : M15 98 1 = M 98 1 := by first | exact qN_keep hpx16_12 r1.1 1 (by decide) (by decide) | exact qB_keep hpx16_12 r1.1 1 (by decide) | exact hpx16_12 _ (by omega)
        have e19 : M15 98 3 = M 98 3 := by first | exact qN_keep hpx16_12 r1.1 3 (by decide) (by decide) | exact qB_keep hpx16_12 r1.1 3 (by decide) | exact hpx16_12 _ (by omega)
        show zG n (0, 0) d 207 (44, [.inr (.inr (some 97)), .inl a1, .inl a2, .inl a3], []) M15 _
        refine zG_w (c' := (47, [.inr (.inr (some 97)), .inl a1, .inl a2, .inl a3], [.inl a1, .inl 4, .inr (.inr (some 97))])) 3 hd0 hz (by rfl) ?_
        refine zG_call hd0 hz zp_195 rfl rfl (Nat.le_of_ble_eq_true rfl) ⟨Nat.le_refl _, Nat.le_refl _⟩ (qx_putsM (by first | exact zdk hd rfl | omega) hCM15   4 a1 (by first | with_reducible exact ha1 | omega) (M 98 4) (by omega) (by omega) (by omega) (by first | exact qPv (by decide) | (refine ⟨fun _ => ?_, fun _ => ?_, fun _ => ?_, fun _ => ?_⟩ <;> omega)) ) (fun vr M20 hr => ?_)
        obtain ⟨⟨hCM20, hFM20⟩, rfl, hpx21_0, hpx21_1⟩ := hr
        have hWM20 : qFm [98] M M20 := hWM15.tr hFM20 (by decide)
        have e22 : M20 98 4 = M15 98 4 := by first | exact qN_keep hpx21_1 r1.1 4 (by decide) (by decide) | exact qB_keep hpx21_1 r1.1 4 (by decide) | exact hpx21_1 _ (by omega)
        have e23 : M20 98 1 = M15 98 1 := by first | exact qN_keep hpx21_1 r1.1 1 (by decide) (by decide) | exact qB_keep hpx21_1 r1.1 1 (by decide) | exact hpx21_1 _ (by omega)
        have e24 : M20 98 3 = M15 98 3 := by first | exact qN_keep hpx21_1 r1.1 3 (by decide) (by decide) | exact qB_keep hpx21_1 r1.1 3 (by decide) | exact hpx21_1 _ (by omega)
        have e25 : qA M20 (M 98 4) 0 = qA M15 (M 98 4) 0 := by first | exact qA_keep hpx21_1 r1.1 0 (by decide) (by decide) | (unfold qA; exact hpx21_1 _ (by omega))
        have e26 : qA M20 (M 98 4) 1 = qA M15 (M 98 4) 1 := by first | exact qA_keep hpx21_1 r1.1 1 (by decide) (by decide) | (unfold qA; exact hpx21_1 _ (by omega))
        have e27 : qA M20 (M 98 4) 2 = qA M15 (M 98 4) 2 := by first | exact qA_keep hpx21_1 r1.1 2 (by decide) (by decide) | (unfold qA; exact hpx21_1 _ (by omega))
        have e28 : qA M20 (M 98 4) 3 = qA M15 (M 98 4) 3 := by first | exact qA_keep hpx21_1 r1.1 3 (by decide) (by decide) | (unfold qA; exact hpx21_1 _ (by omega))
        have e30 : qA M20 (M 98 4) 5 = qA M15 (M 98 4) 5 := by first | exact qA_keep hpx21_1 r1.1 5 (by decide) (by decide) | (unfold qA; exact hpx21_1 _ (by omega))
        have e31 : qA M20 (M 98 4) 6 = qA M15 (M 98 4) 6 := by first | exact qA_keep hpx21_1 r1.1 6 (by decide) (by decide) | (unfold qA; exact hpx21_1 _ (by omega))
        have e32 : qA M20 (M 98 4) 7 = qA M15 (M 98 4) 7 := by first | exact qA_keep hpx21_1 r1.1 7 (by decide) (by decide) | (unfold qA; exact hpx21_1 _ (by omega))
        have e33 : qA M20 (M 98 4) 8 = qA M15 (M 98 4) 8 := by first | exact qA_keep hpx21_1 r1.1 8 (by decide) (by decide) | (unfold qA; exact hpx21_1 _ (by omega))
        have e34 : qA M20 (M 98 4) 9 = qA M15 (M 98 4) 9 := by first | exact qA_keep hpx21_1 r1.1 9 (by decide) (by decide) | (unfold qA; exact hpx21_1 _ (by omega))
        have e35 : qA M20 (M 98 4) 10 = qA M15 (M 98 4) 10 := by first | exact qA_keep hpx21_1 r1.1 10 (by decide) (by decide) | (unfold qA; exact hpx21_1 _ (by omega))
        have e36 : qA M20 (M 98 4) 11 = qA M15 (M 98 4) 11 := by first | exact qA_keep hpx21_1 r1.1 11 (by decide) (by decide) | (unfold qA; exact hpx21_1 _ (by omega))
        show zG n (0, 0) d 207 (50, [.inr (.inr (some 97)), .inl a1, .inl a2, .inl a3], []) M20 _
        refine zG_w (c' := (52, [.inr (.inr (some 97)), .inl a1, .inl a2, .inl a3], [.inl 4, .inr (.inr (some 97))])) 2 hd0 hz (by rfl) ?_
        refine zG_call hd0 hz zp_183 rfl rfl (Nat.le_of_ble_eq_true rfl) ⟨Nat.le_refl _, Nat.le_refl _⟩ (qx_one4 (by first | exact zdk hd rfl | omega) hCM20   (M 98 4) (by omega) (by omega) (by refine ⟨?_, fun _ => ?_, fun _ => ?_, fun _ => ?_, fun _ => ?_, fun _ => ?_, fun _ => ?_, fun _ => ?_, fun _ => ?_, fun _ => ?_⟩ <;> omega) ) (fun vr M37 hr => ?_)
        obtain ⟨⟨hCM37, hFM37⟩, x38, rfl, hx38, hpx38_0, hpx38_1⟩ := hr
        have hWM37 : qFm [98] M M37 := hWM20.tr hFM37 (by decide)
        have e40 : M37 98 1 = M20 98 1 := by first | exact qN_keep hpx38_1 r1.1 1 (by decide) (by decide) | exact qB_keep hpx38_1 r1.1 1 (by decide) | exact hpx38_1 _ (by omega)
        have e41 : M37 98 3 = M20 98 3 := by first | exact qN_keep hpx38_1 r1.1 3 (by decide) (by decide) | exact qB_keep hpx38_1 r1.1 3 (by decide) | exact hpx38_1 _ (by omega)
        have e42 : qA M37 (M 98 4) 0 = qA M20 (M 98 4) 0 := by first | exact qA_keep hpx38_1 r1.1 0 (by decide) (by decide) | (unfold qA; exact hpx38_1 _ (by omega))
        have e43 : qA M37 (M 98 4) 1 = qA M20 (M 98 4) 1 := by first | exact qA_keep hpx38_1 r1.1 1 (by decide) (by decide) | (unfold qA; exact hpx38_1 _ (by omega))
        have e44 : qA M37 (M 98 4) 2 = qA M20 (M 98 4) 2 := by first | exact qA_keep hpx38_1 r1.1 2 (by decide) (by decide) | (unfold qA; exact hpx38_1 _ (by omega))
        have e45 : qA M37 (M 98 4) 3 = qA M20 (M 98 4) 3 := by first | exact qA_keep hpx38_1 r1.1 3 (by decide) (by decide) | (unfold qA; exact hpx38_1 _ (by omega))
        have e46 : qA M37 (M 98 4) 5 = qA M20 (M 98 4) 5 := by first | exact qA_keep hpx38_1 r1.1 5 (by decide) (by decide) | (unfold qA; exact hpx38_1 _ (by omega))
        have e47 : qA M37 (M 98 4) 6 = qA M20 (M 98 4) 6 := by first | exact qA_keep hpx38_1 r1.1 6 (by decide) (by decide) | (unfold qA; exact hpx38_1 _ (by omega))
        have e48 : qA M37 (M 98 4) 7 = qA M20 (M 98 4) 7 := by first | exact qA_keep hpx38_1 r1.1 7 (by decide) (by decide) | (unfold qA; exact hpx38_1 _ (by omega))
        have e49 : qA M37 (M 98 4) 8 = qA M20 (M 98 4) 8 := by first | exact qA_keep hpx38_1 r1.1 8 (by decide) (by decide) | (unfold qA; exact hpx38_1 _ (by omega))
        have e50 : qA M37 (M 98 4) 9 = qA M20 (M 98 4) 9 := by first | exact qA_keep hpx38_1 r1.1 9 (by decide) (by decide) | (unfold qA; exact hpx38_1 _ (by omega))
        have e51 : qA M37 (M 98 4) 10 = qA M20 (M 98 4) 10 := by first | exact qA_keep hpx38_1 r1.1 10 (by decide) (by decide) | (unfold qA; exact hpx38_1 _ (by omega))
        have e52 : qA M37 (M 98 4) 11 = qA M20 (M 98 4) 11 := by first | exact qA_keep hpx38_1 r1.1 11 (by decide) (by decide) | (unfold qA; exact hpx38_1 _ (by omega))
        have e53 : qA M37 (M 98 4) 4 = qA M20 (M 98 4) 4 := by first | exact qA_keep hpx38_1 r1.1 4 (by decide) (by decide) | (unfold qA; exact hpx38_1 _ (by omega))
        show zG n (0, 0) d 207 (55, [.inr (.inr (some 97)), .inl a1, .inl a2, .inl a3], [.inl x38]) M37 _
        exact zG_wr (r := some (.inl x38)) 0 hd0 hz (by rfl) ⟨⟨hCM37, hWM37⟩, _, rfl, by omega⟩
      · exact zG_wr (r := some (.inl (-4))) 1 hd0 hz (by rfl) ⟨⟨hC, hW⟩, _, rfl, by omega⟩
    · exact j18
theorem qm_208_97 {n d : Nat} {M : zM} (hd : 3 ≤ d) (hC : qMI M)  (a1 : Int) (ha1 : (-2147483648) ≤ a1 ∧ a1 ≤ 2147483647) (a2 : Int) (ha2 : (-2147483648) ≤ a2 ∧ a2 ≤ 2147483647) : qOkN n d 208 [.inr (.inr (some 97)), .inl a1, .inl a2] 3 [98] M (fun v M' => ∃ x : Int, v = some (.inl x) ∧ ((-2147483648) ≤ x ∧ x ≤ 2147483647)) := by
  have hz := zp_208
  have hd0 : 0 < d := by omega
  have hW : qFm [98] M M := qFm.rfl
  have r1 := hC.cnt4
  show zG n (0, 0) d 208 (0, [.inr (.inr (some 97)), .inl a1, .inl a2], []) M _
  refine zG_wp (pc := 6) (L := [.inr (.inr (some 97)), .inl a1, .inl a2]) (st := []) 3 hd0 hz zp_182 (qx_is (by first | exact zdk hd rfl | omega) hC   4 (by first | decide | omega) a1 (by first | with_reducible exact ha1 | omega) ) (by rfl) (fun x3 hx3 => ?_)
  have j16 : zG n (0, 0) d 208 (16, [.inr (.inr (some 97)), .inl a1, .inl a2], []) M (fun v M' => (qMI M' ∧ qFm [98] M M') ∧ ∃ x : Int, v = some (.inl x) ∧ ((-2147483648) ≤ x ∧ x ≤ 2147483647)) := by
    exact zG_wr (r := some (.inl (-2))) 1 hd0 hz (by rfl) ⟨⟨hC, hW⟩, _, rfl, by omega⟩
  refine zG_wf_eq (pc := 6) (n' := 9) (t := 16) (L := [.inr (.inr (some 97)), .inl a1, .inl a2]) (st := []) (x := x3) 0 hd0 hz (by rfl) (fun hb4 => ?_) (fun hb4 => ?_)
  · exact j16
  · have hcx3 := hx3.2.2.mp (by omega)
    clear hx3 hb4
    refine zG_wp (pc := 13) (L := [.inr (.inr (some 97)), .inl a1, .inl a2]) (st := []) 1 hd0 hz zp_184 (qm_184 (by first | exact zdk hd rfl | omega) hC   a2 (by first | with_reducible exact ha2 | omega) ) (by rfl) (fun x6 hr => ?_)
    obtain ⟨hx6, hpx6_0⟩ := hr
    refine zG_wf_ne (pc := 13) (n' := 16) (t := 19) (L := [.inr (.inr (some 97)), .inl a1, .inl a2]) (st := []) (x := x6) 0 hd0 hz (by rfl) (fun hb7 => ?_) (fun hb7 => ?_)
    · have hcx6 := hpx6_0.mp (by omega)
      clear hx6 hpx6_0 hb7
      refine zG_wp (pc := 25) (L := [.inr (.inr (some 97)), .inl a1, .inl a2]) (st := []) 3 hd0 hz zp_194 (qx_act3 (by first | exact zdk hd rfl | omega) hC   a1 (by first | with_reducible exact ha1 | omega) ) (by rfl) (fun x9 hx9 => ?_)
      refine zG_w (c' := (26, [.inr (.inr (some 97)), .inl a1, .inl a2], [.inl (-1), .inl x9])) 1 hd0 hz (by rfl) ?_
      have j51 : zG n (0, 0) d 208 (51, [.inr (.inr (some 97)), .inl a1, .inl a2], []) M (fun v M' => (qMI M' ∧ qFm [98] M M') ∧ ∃ x : Int, v = some (.inl x) ∧ ((-2147483648) ≤ x ∧ x ≤ 2147483647)) := by
        exact zG_wr (r := some (.inl (-3))) 1 hd0 hz (by rfl) ⟨⟨hC, hW⟩, _, rfl, by omega⟩
      refine zG_wi_eq (pc := 26) (n' := 29) (t := 51) (L := [.inr (.inr (some 97)), .inl a1, .inl a2]) (st := []) (x := x9) (y := (-1)) 0 hd0 hz (by rfl) (fun hb10 => ?_) (fun hb10 => ?_)
      · exact j51
      · refine zG_wp (pc := 36) (L := [.inr (.inr (some 97)), .inl a1, .inl a2]) (st := [.inl a2]) 4 hd0 hz zp_194 (qx_act0 (by first | exact zdk hd rfl | omega) hC   a1 (by first | with_reducible exact ha1 | omega) 1 (by first | decide | omega) ) (by rfl) (fun x12 hx12 => ?_)
        obtain ⟨x13, hx13⟩ : ∃ x : Int, x = w32 (a2 - x12) := ⟨_, rfl⟩
        have hx13r : x13 = (a2 - x12 + 2147483648) % 4294967296 - 2147483648 := hx13
        refine zG_w (c' := (44, [.inr (.inr (some 97)), .inl a1, .inl a2], [.inl 7, .inr (.inr (some 98)), .inl 0, .inl x13])) 5 hd0 hz (by subst hx13; rfl) ?_
        refine zG_iald hd0 hz rfl rfl (.inl rfl) (by omega) ?_
        have r14 := hC.sin 7
        show zG n (0, 0) d 208 (45, [.inr (.inr (some 97)), .inl a1, .inl a2], [.inl (M 98 7), .inl 0, .inl x13]) M _
        refine zG_wp (pc := 48) (L := [.inr (.inr (some 97)), .inl a1, .inl a2]) (st := []) 0 hd0 hz zp_180 (qx_in (by first | exact zdk hd rfl | omega) hC   x13 (by omega) 0 (by first | decide | omega) (M 98 7) (by omega) ) (by rfl) (fun x16 hx16 => ?_)
        refine zG_wf_ne (pc := 48) (n' := 51) (t := 54) (L := [.inr (.inr (some 97)), .inl a1, .inl a2]) (st := []) (x := x16) 0 hd0 hz (by rfl) (fun hb17 => ?_) (fun hb17 => ?_)
        · have hcx16 := hx16.2.2.mp (by omega)
          clear hx16 hb17
          refine zG_wp (pc := 58) (L := [.inr (.inr (some 97)), .inl a1, .inl a2]) (st := []) 1 hd0 hz zp_197 (qx_isFull (by first | exact zdk hd rfl | omega) hC    ) (by rfl) (fun x19 hx19 => ?_)
          refine zG_wf_eq (pc := 58) (n' := 61) (t := 64) (L := [.inr (.inr (some 97)), .inl a1, .inl a2]) (st := []) (x := x19) 0 hd0 hz (by rfl) (fun hb20 => ?_) (fun hb20 => ?_)
          · have hcx19 : M 98 4 < 250 := by omega
            clear hx19 hb20
            refine zG_wc (c1 := (72, [.inr (.inr (some 97)), .inl a1, .inl a2], [])) 5 hd0 hz zp_196 (qx_begins (by first | exact zdk hd rfl | omega) hC   5 a2 a2 (-1) (by first | decide | omega) (by omega) (by omega) (M 98 4) (by omega) (by omega) (by omega) ) (by rfl) (fun vr M21 hr => ?_)
            obtain ⟨⟨hCM21, hFM21⟩, rfl, hpx22_0, hpx22_1, hpx22_2, hpx22_3, hpx22_4, hpx22_5, hpx22_6, hpx22_7, hpx22_8, hpx22_9, hpx22_10, hpx22_11, hpx22_12⟩ := hr
            have hWM21 : qFm [98] M M21 := hW.tr hFM21 (by decide)
            have e23 : M21 98 4 = M 98 4 := by first | exact qN_keep hpx22_12 r1.1 4 (by decide) (by decide) | exact qB_keep hpx22_12 r1.1 4 (by decide) | exact hpx22_12 _ (by omega)
            have e24 : M21 98 7 = M 98 7 := by first | exact qN_keep hpx22_12 r1.1 7 (by decide) (by decide) | exact qB_keep hpx22_12 r1.1 7 (by decide) | exact hpx22_12 _ (by omega)
            show zG n (0, 0) d 208 (72, [.inr (.inr (some 97)), .inl a1, .inl a2], []) M21 _
            refine zG_w (c' := (76, [.inr (.inr (some 97)), .inl a1, .inl a2], [.inl a1, .inl 6, .inr (.inr (some 97))])) 3 hd0 hz (by rfl) ?_
            refine zG_call hd0 hz zp_195 rfl rfl (Nat.le_of_ble_eq_true rfl) ⟨Nat.le_refl _, Nat.le_refl _⟩ (qx_putsM (by first | exact zdk hd rfl | omega) hCM21   6 a1 (by first | with_reducible exact ha1 | omega) (M 98 4) (by omega) (by omega) (by omega) (by first | exact qPv (by decide) | (refine ⟨fun _ => ?_, fun _ => ?_, fun _ => ?_, fun _ => ?_⟩ <;> omega)) ) (fun vr M25 hr => ?_)
            obtain ⟨⟨hCM25, hFM25⟩, rfl, hpx26_0, hpx26_1⟩ := hr
            have hWM25 : qFm [98] M M25 := hWM21.tr hFM25 (by decide)
            have e27 : M25 98 4 = M21 98 4 := by first | exact qN_keep hpx26_1 r1.1 4 (by decide) (by decide) | exact qB_keep hpx26_1 r1.1 4 (by decide) | exact hpx26_1 _ (by omega)
            have e28 : M25 98 7 = M21 98 7 := by first | exact qN_keep hpx26_1 r1.1 7 (by decide) (by decide) | exact qB_keep hpx26_1 r1.1 7 (by decide) | exact hpx26_1 _ (by omega)
            have e29 : qA M25 (M 98 4) 0 = qA M21 (M 98 4) 0 := by first | exact qA_keep hpx26_1 r1.1 0 (by decide) (by decide) | (unfold qA; exact hpx26_1 _ (by omega))
            have e30 : qA M25 (M 98 4) 1 = qA M21 (M 98 4) 1 := by first | exact qA_keep hpx26_1 r1.1 1 (by decide) (by decide) | (unfold qA; exact hpx26_1 _ (by omega))
            have e31 : qA M25 (M 98 4) 2 = qA M21 (M 98 4) 2 := by first | exact qA_keep hpx26_1 r1.1 2 (by decide) (by decide) | (unfold qA; exact hpx26_1 _ (by omega))
            have e32 : qA M25 (M 98 4) 3 = qA M21 (M 98 4) 3 := by first | exact qA_keep hpx26_1 r1.1 3 (by decide) (by decide) | (unfold qA; exact hpx26_1 _ (by omega))
            have e33 : qA M25 (M 98 4) 4 = qA M21 (M 98 4) 4 := by first | exact qA_keep hpx26_1 r1.1 4 (by decide) (by decide) | (unfold qA; exact hpx26_1 _ (by omega))
            have e34 : qA M25 (M 98 4) 5 = qA M21 (M 98 4) 5 := by first | exact qA_keep hpx26_1 r1.1 5 (by decide) (by decide) | (unfold qA; exact hpx26_1 _ (by omega))
            have e36 : qA M25 (M 98 4) 7 = qA M21 (M 98 4) 7 := by first | exact qA_keep hpx26_1 r1.1 7 (by decide) (by decide) | (unfold qA; exact hpx26_1 _ (by omega))
            have e37 : qA M25 (M 98 4) 8 = qA M21 (M 98 4) 8 := by first | exact qA_keep hpx26_1 r1.1 8 (by decide) (by decide) | (unfold qA; exact hpx26_1 _ (by omega))
            have e38 : qA M25 (M 98 4) 9 = qA M21 (M 98 4) 9 := by first | exact qA_keep hpx26_1 r1.1 9 (by decide) (by decide) | (unfold qA; exact hpx26_1 _ (by omega))
            have e39 : qA M25 (M 98 4) 10 = qA M21 (M 98 4) 10 := by first | exact qA_keep hpx26_1 r1.1 10 (by decide) (by decide) | (unfold qA; exact hpx26_1 _ (by omega))
            have e40 : qA M25 (M 98 4) 11 = qA M21 (M 98 4) 11 := by first | exact qA_keep hpx26_1 r1.1 11 (by decide) (by decide) | (unfold qA; exact hpx26_1 _ (by omega))
            show zG n (0, 0) d 208 (79, [.inr (.inr (some 97)), .inl a1, .inl a2], []) M25 _
            refine zG_w (c' := (81, [.inr (.inr (some 97)), .inl a1, .inl a2], [.inl 4, .inr (.inr (some 97))])) 2 hd0 hz (by rfl) ?_
            refine zG_call hd0 hz zp_183 rfl rfl (Nat.le_of_ble_eq_true rfl) ⟨Nat.le_refl _, Nat.le_refl _⟩ (qx_one4 (by first | exact zdk hd rfl | omega) hCM25   (M 98 4) (by omega) (by omega) (by refine ⟨?_, fun _ => ?_, fun _ => ?_, fun _ => ?_, fun _ => ?_, fun _ => ?_, fun _ => ?_, fun _ => ?_, fun _ => ?_, fun _ => ?_⟩ <;> omega) ) (fun vr M41 hr => ?_)
            obtain ⟨⟨hCM41, hFM41⟩, x42, rfl, hx42, hpx42_0, hpx42_1⟩ := hr
            have hWM41 : qFm [98] M M41 := hWM25.tr hFM41 (by decide)
            have e44 : M41 98 7 = M25 98 7 := by first | exact qN_keep hpx42_1 r1.1 7 (by decide) (by decide) | exact qB_keep hpx42_1 r1.1 7 (by decide) | exact hpx42_1 _ (by omega)
            have e45 : qA M41 (M 98 4) 0 = qA M25 (M 98 4) 0 := by first | exact qA_keep hpx42_1 r1.1 0 (by decide) (by decide) | (unfold qA; exact hpx42_1 _ (by omega))
            have e46 : qA M41 (M 98 4) 1 = qA M25 (M 98 4) 1 := by first | exact qA_keep hpx42_1 r1.1 1 (by decide) (by decide) | (unfold qA; exact hpx42_1 _ (by omega))
            have e47 : qA M41 (M 98 4) 2 = qA M25 (M 98 4) 2 := by first | exact qA_keep hpx42_1 r1.1 2 (by decide) (by decide) | (unfold qA; exact hpx42_1 _ (by omega))
            have e48 : qA M41 (M 98 4) 3 = qA M25 (M 98 4) 3 := by first | exact qA_keep hpx42_1 r1.1 3 (by decide) (by decide) | (unfold qA; exact hpx42_1 _ (by omega))
            have e49 : qA M41 (M 98 4) 4 = qA M25 (M 98 4) 4 := by first | exact qA_keep hpx42_1 r1.1 4 (by decide) (by decide) | (unfold qA; exact hpx42_1 _ (by omega))
            have e50 : qA M41 (M 98 4) 5 = qA M25 (M 98 4) 5 := by first | exact qA_keep hpx42_1 r1.1 5 (by decide) (by decide) | (unfold qA; exact hpx42_1 _ (by omega))
            have e51 : qA M41 (M 98 4) 7 = qA M25 (M 98 4) 7 := by first | exact qA_keep hpx42_1 r1.1 7 (by decide) (by decide) | (unfold qA; exact hpx42_1 _ (by omega))
            have e52 : qA M41 (M 98 4) 8 = qA M25 (M 98 4) 8 := by first | exact qA_keep hpx42_1 r1.1 8 (by decide) (by decide) | (unfold qA; exact hpx42_1 _ (by omega))
            have e53 : qA M41 (M 98 4) 9 = qA M25 (M 98 4) 9 := by first | exact qA_keep hpx42_1 r1.1 9 (by decide) (by decide) | (unfold qA; exact hpx42_1 _ (by omega))
            have e54 : qA M41 (M 98 4) 10 = qA M25 (M 98 4) 10 := by first | exact qA_keep hpx42_1 r1.1 10 (by decide) (by decide) | (unfold qA; exact hpx42_1 _ (by omega))
            have e55 : qA M41 (M 98 4) 11 = qA M25 (M 98 4) 11 := by first | exact qA_keep hpx42_1 r1.1 11 (by decide) (by decide) | (unfold qA; exact hpx42_1 _ (by omega))
            have e56 : qA M41 (M 98 4) 6 = qA M25 (M 98 4) 6 := by first | exact qA_keep hpx42_1 r1.1 6 (by decide) (by decide) | (unfold qA; exact hpx42_1 _ (by omega))
            show zG n (0, 0) d 208 (84, [.inr (.inr (some 97)), .inl a1, .inl a2], [.inl x42]) M41 _
            exact zG_wr (r := some (.inl x42)) 0 hd0 hz (by rfl) ⟨⟨hCM41, hWM41⟩, _, rfl, by omega⟩
          · exact zG_wr (r := some (.inl (-4))) 1 hd0 hz (by rfl) ⟨⟨hC, hW⟩, _, rfl, by omega⟩
        · exact j51
    · exact j16
theorem qm_209_97 {n d : Nat} {M : zM} (hd : 2 ≤ d) (hC : qMI M)  (a1 : Int) (ha1 : (-2147483648) ≤ a1 ∧ a1 ≤ 2147483647) : qOkN n d 209 [.inr (.inr (some 97)), .inl a1] 3 [98] M (fun v M' => ∃ x : Int, v = some (.inl x) ∧ ((-2147483648) ≤ x ∧ x ≤ 2147483647)) := by
  have hz := zp_209
  have hd0 : 0 < d := by omega
  have hW : qFm [98] M M := qFm.rfl
  show zG n (0, 0) d 209 (0, [.inr (.inr (some 97)), .inl a1, zN], []) M _
  refine zG_wp (pc := 8) (L := [.inr (.inr (some 97)), .inl a1, zN]) (st := []) 3 hd0 hz zp_180 (qx_in (by first | exact zdk hd rfl | omega) hC   a1 (by first | with_reducible exact ha1 | omega) 0 (by first | decide | omega) 1000 (by first | decide | omega) ) (by rfl) (fun x2 hx2 => ?_)
  refine zG_wf_ne (pc := 8) (n' := 11) (t := 14) (L := [.inr (.inr (some 97)), .inl a1, zN]) (st := []) (x := x2) 0 hd0 hz (by rfl) (fun hb3 => ?_) (fun hb3 => ?_)
  · have hcx2 := hx2.2.2.mp (by omega)
    clear hx2 hb3
    refine zG_w (c' := (20, [.inr (.inr (some 97)), .inl a1, zN], [.inl 7, .inr (.inr (some 98))])) 3 hd0 hz (by rfl) ?_
    refine zG_iald hd0 hz rfl rfl (.inl rfl) (by omega) ?_
    have r4 := hC.sin 7
    show zG n (0, 0) d 209 (21, [.inr (.inr (some 97)), .inl a1, zN], [.inl (M 98 7)]) M _
    refine zG_w (c' := (29, [.inr (.inr (some 97)), .inl a1, .inl (M 98 7)], [.inl a1, .inl 7, .inr (.inr (some 98))])) 5 hd0 hz (by rfl) ?_
    refine zG_iast hd0 hz rfl rfl (by omega) ?_
    obtain ⟨M5, hM5⟩ : ∃ X : zM, X = zput M 98 (7 : Int).toNat a1 := ⟨_, rfl⟩
    rw [← hM5]
    have hCM5 : qMI M5 := by rw [hM5]; exact hC.put98' (by refine ⟨by omega, fun _ => by omega, fun _ => by omega, fun _ => by omega, fun _ => by omega, fun _ => by omega, fun _ => by omega, fun _ => by omega, fun c9 hc9 _ => by omega, fun u9 hu9 _ => by omega, fun m9 hm9 _ => by omega, fun a9 ha9 => ⟨fun _ => by omega, fun _ => by omega, fun _ => by omega, fun _ => by omega⟩, fun t9 ht9 _ => by omega, fun o9 ho9 _ => by omega⟩) (by omega) (by omega)
    have hWM5 : qFm [98] M M5 := by rw [hM5]; exact hW.pa (by decide) (by decide)
    show zG n (0, 0) d 209 (30, [.inr (.inr (some 97)), .inl a1, .inl (M 98 7)], []) M5 _
    exact zG_wr (r := some (.inl (M 98 7))) 1 hd0 hz (by rfl) ⟨⟨hCM5, hWM5⟩, _, rfl, by omega⟩
  · exact zG_wr (r := some (.inl (-2))) 1 hd0 hz (by rfl) ⟨⟨hC, hW⟩, _, rfl, by omega⟩
theorem qm_253_97 {n d : Nat} {M : zM} (hd : 3 ≤ d) (hC : qMI M)  (a1 : Int) (ha1 : (-2147483648) ≤ a1 ∧ a1 ≤ 2147483647) (a2 : Int) (ha2 : (-2147483648) ≤ a2 ∧ a2 ≤ 2147483647) : qOkN n d 253 [.inr (.inr (some 97)), .inl a1, .inl a2] 4 [98] M (fun v M' => ∃ x : Int, v = some (.inl x) ∧ ((-2147483648) ≤ x ∧ x ≤ 2147483647)) := by
  have hz := zp_253
  have hd0 : 0 < d := by omega
  have hW : qFm [98] M M := qFm.rfl
  show zG n (0, 0) d 253 (0, [.inr (.inr (some 97)), .inl a1, .inl a2, zN], []) M _
  refine zG_wp (pc := 4) (L := [.inr (.inr (some 97)), .inl a1, .inl a2, zN]) (st := []) 1 hd0 hz zp_252 (qm_252 (by first | exact zdk hd rfl | omega) hC   a1 (by first | with_reducible exact ha1 | omega) ) (by rfl) (fun x2 hr => ?_)
  obtain ⟨hx2, hpx2_0⟩ := hr
  have j17 : zG n (0, 0) d 253 (17, [.inr (.inr (some 97)), .inl a1, .inl a2, zN], []) M (fun v M' => (qMI M' ∧ qFm [98] M M') ∧ ∃ x : Int, v = some (.inl x) ∧ ((-2147483648) ≤ x ∧ x ≤ 2147483647)) := by
    exact zG_wr (r := some (.inl (-2))) 1 hd0 hz (by rfl) ⟨⟨hC, hW⟩, _, rfl, by omega⟩
  refine zG_wf_eq (pc := 4) (n' := 7) (t := 17) (L := [.inr (.inr (some 97)), .inl a1, .inl a2, zN]) (st := []) (x := x2) 0 hd0 hz (by rfl) (fun hb3 => ?_) (fun hb3 => ?_)
  · exact j17
  · have hcx2 := hpx2_0.mp (by omega)
    clear hx2 hpx2_0 hb3
    refine zG_wp (pc := 14) (L := [.inr (.inr (some 97)), .inl a1, .inl a2, zN]) (st := []) 3 hd0 hz zp_180 (qx_in (by first | exact zdk hd rfl | omega) hC   a2 (by first | with_reducible exact ha2 | omega) 0 (by first | decide | omega) 127 (by first | decide | omega) ) (by rfl) (fun x5 hx5 => ?_)
    refine zG_wf_ne (pc := 14) (n' := 17) (t := 20) (L := [.inr (.inr (some 97)), .inl a1, .inl a2, zN]) (st := []) (x := x5) 0 hd0 hz (by rfl) (fun hb6 => ?_) (fun hb6 => ?_)
    · have hcx5 := hx5.2.2.mp (by omega)
      clear hx5 hb6
      obtain ⟨x7, hx7⟩ : ∃ x : Int, x = w32 (81 * a1) := ⟨_, rfl⟩
      have hx7e : x7 = 81 * a1 := by rw [hx7]; exact w32_id (by omega)
      obtain ⟨x8, hx8⟩ : ∃ x : Int, x = w32 (3350 + x7) := ⟨_, rfl⟩
      have hx8e : x8 = 3350 + x7 := by rw [hx8]; exact w32_id (by omega)
      refine zG_w (c' := (34, [.inr (.inr (some 97)), .inl a1, .inl a2, .inl x8], [.inl x8, .inr (.inr (some 98))])) 9 hd0 hz (by subst hx8; subst hx7; rfl) ?_
      refine zG_iald hd0 hz rfl rfl (.inl rfl) (by omega) ?_
      obtain ⟨x9, hx9⟩ : ∃ x : Int, x = M 98 (x8 : Int).toNat := ⟨_, rfl⟩
      rw [← hx9]
      have hx9r : qin x9 := by rw [hx9]; exact hC.sin _
      show zG n (0, 0) d 253 (35, [.inr (.inr (some 97)), .inl a1, .inl a2, .inl x8], [.inl x9]) M _
      refine zG_wi_ne (pc := 37) (n' := 40) (t := 43) (L := [.inr (.inr (some 97)), .inl a1, .inl a2, .inl x8]) (st := []) (x := x9) (y := 80) 1 hd0 hz (by rfl) (fun hb10 => ?_) (fun hb10 => ?_)
      · refine zG_w (c' := (49, [.inr (.inr (some 97)), .inl a1, .inl a2, .inl x8], [.inl x8, .inr (.inr (some 98)), .inl x8, .inr (.inr (some 98))])) 4 hd0 hz (by rfl) ?_
        refine zG_iald hd0 hz rfl rfl (.inl rfl) (by omega) ?_
        obtain ⟨x11, hx11⟩ : ∃ x : Int, x = M 98 (x8 : Int).toNat := ⟨_, rfl⟩
        rw [← hx11]
        have hx11r : 0 ≤ x11 ∧ x11 ≤ 80 := by rw [hx11]; exact hC.txt a1 _ (by omega) (by omega)
        show zG n (0, 0) d 253 (50, [.inr (.inr (some 97)), .inl a1, .inl a2, .inl x8], [.inl x11, .inl x8, .inr (.inr (some 98))]) M _
        obtain ⟨x12, hx12⟩ : ∃ x : Int, x = w32 (x11 + 1) := ⟨_, rfl⟩
        have hx12e : x12 = x11 + 1 := by rw [hx12]; exact w32_id (by omega)
        refine zG_w (c' := (52, [.inr (.inr (some 97)), .inl a1, .inl a2, .inl x8], [.inl x12, .inl x8, .inr (.inr (some 98))])) 2 hd0 hz (by subst hx12; rfl) ?_
        refine zG_iast hd0 hz rfl rfl (by omega) ?_
        obtain ⟨M13, hM13⟩ : ∃ X : zM, X = zput M 98 (x8 : Int).toNat x12 := ⟨_, rfl⟩
        rw [← hM13]
        have hCM13 : qMI M13 := by rw [hM13]; exact hC.put98' (qOS_tx (by omega) (by omega) (fun _ _ _ => by omega)) (by omega) (by omega)
        have hWM13 : qFm [98] M M13 := by rw [hM13]; exact hW.pa (by decide) (by decide)
        have hln : M13 98 (x8 : Int).toNat = x12 := by rw [hM13]; exact qput_eq
        show zG n (0, 0) d 253 (53, [.inr (.inr (some 97)), .inl a1, .inl a2, .inl x8], []) M13 _
        refine zG_w (c' := (63, [.inr (.inr (some 97)), .inl a1, .inl a2, .inl x8], [.inl x8, .inr (.inr (some 98)), .inl x8, .inr (.inr (some 98))])) 6 hd0 hz (by rfl) ?_
        refine zG_iald hd0 hz rfl rfl (.inl rfl) (by omega) ?_
        obtain ⟨x14, hx14⟩ : ∃ x : Int, x = M13 98 (x8 : Int).toNat := ⟨_, rfl⟩
        rw [← hx14]
        have hx14r : 0 ≤ x14 ∧ x14 ≤ 80 := by rw [hx14]; exact hCM13.txt a1 _ (by omega) (by omega)
        show zG n (0, 0) d 253 (64, [.inr (.inr (some 97)), .inl a1, .inl a2, .inl x8], [.inl x14, .inl x8, .inr (.inr (some 98))]) M13 _
        obtain ⟨x15, hx15⟩ : ∃ x : Int, x = w32 (x8 + x14) := ⟨_, rfl⟩
        have hx15e : x15 = x8 + x14 := by rw [hx15]; exact w32_id (by omega)
        refine zG_w (c' := (66, [.inr (.inr (some 97)), .inl a1, .inl a2, .inl x8], [.inl a2, .inl x15, .inr (.inr (some 98))])) 2 hd0 hz (by subst hx15; rfl) ?_
        refine zG_iast hd0 hz rfl rfl (by omega) ?_
        obtain ⟨M16, hM16⟩ : ∃ X : zM, X = zput M13 98 (x15 : Int).toNat a2 := ⟨_, rfl⟩
        rw [← hM16]
        have hCM16 : qMI M16 := by rw [hM16]; exact hCM13.put98' (qOS_tx (by omega) (by omega) (fun _ _ _ => by omega)) (by omega) (by omega)
        have hWM16 : qFm [98] M M16 := by rw [hM16]; exact hWM13.pa (by decide) (by decide)
        show zG n (0, 0) d 253 (67, [.inr (.inr (some 97)), .inl a1, .inl a2, .inl x8], []) M16 _
        refine zG_w (c' := (72, [.inr (.inr (some 97)), .inl a1, .inl a2, .inl x8], [.inl x8, .inr (.inr (some 98))])) 3 hd0 hz (by rfl) ?_
        refine zG_iald hd0 hz rfl rfl (.inl rfl) (by omega) ?_
        obtain ⟨x17, hx17⟩ : ∃ x : Int, x = M16 98 (x8 : Int).toNat := ⟨_, rfl⟩
        rw [← hx17]
        have hx17r : qin x17 := by rw [hx17]; exact hCM16.sin _
        show zG n (0, 0) d 253 (73, [.inr (.inr (some 97)), .inl a1, .inl a2, .inl x8], [.inl x17]) M16 _
        exact zG_wr (r := some (.inl x17)) 0 hd0 hz (by rfl) ⟨⟨hCM16, hWM16⟩, _, rfl, by omega⟩
      · exact zG_wr (r := some (.inl (-4))) 1 hd0 hz (by rfl) ⟨⟨hC, hW⟩, _, rfl, by omega⟩
    · exact j17
theorem qm_254_97 {n d : Nat} {M : zM} (hd : 3 ≤ d) (hC : qMI M)  (a1 : Int) (ha1 : (-2147483648) ≤ a1 ∧ a1 ≤ 2147483647) : qOkN n d 254 [.inr (.inr (some 97)), .inl a1] 3 [98] M (fun v M' => ∃ x : Int, v = some (.inl x) ∧ ((-2) ≤ x ∧ x ≤ 80)) := by
  have hz := zp_254
  have hd0 : 0 < d := by omega
  have hW : qFm [98] M M := qFm.rfl
  show zG n (0, 0) d 254 (0, [.inr (.inr (some 97)), .inl a1, zN], []) M _
  refine zG_wp (pc := 4) (L := [.inr (.inr (some 97)), .inl a1, zN]) (st := []) 1 hd0 hz zp_252 (qm_252 (by first | exact zdk hd rfl | omega) hC   a1 (by first | with_reducible exact ha1 | omega) ) (by rfl) (fun x2 hr => ?_)
  obtain ⟨hx2, hpx2_0⟩ := hr
  refine zG_wf_ne (pc := 4) (n' := 7) (t := 10) (L := [.inr (.inr (some 97)), .inl a1, zN]) (st := []) (x := x2) 0 hd0 hz (by rfl) (fun hb3 => ?_) (fun hb3 => ?_)
  · have hcx2 := hpx2_0.mp (by omega)
    clear hx2 hpx2_0 hb3
    obtain ⟨x4, hx4⟩ : ∃ x : Int, x = w32 (81 * a1) := ⟨_, rfl⟩
    have hx4e : x4 = 81 * a1 := by rw [hx4]; exact w32_id (by omega)
    obtain ⟨x5, hx5⟩ : ∃ x : Int, x = w32 (3350 + x4) := ⟨_, rfl⟩
    have hx5e : x5 = 3350 + x4 := by rw [hx5]; exact w32_id (by omega)
    refine zG_w (c' := (22, [.inr (.inr (some 97)), .inl a1, zN], [.inl x5, .inr (.inr (some 98))])) 7 hd0 hz (by subst hx5; subst hx4; rfl) ?_
    refine zG_iald hd0 hz rfl rfl (.inl rfl) (by omega) ?_
    obtain ⟨x6, hx6⟩ : ∃ x : Int, x = M 98 (x5 : Int).toNat := ⟨_, rfl⟩
    rw [← hx6]
    have hx6r : 0 ≤ x6 ∧ x6 ≤ 80 := by rw [hx6]; exact hC.txt a1 _ (by omega) (by omega)
    show zG n (0, 0) d 254 (23, [.inr (.inr (some 97)), .inl a1, zN], [.inl x6]) M _
    obtain ⟨x7, hx7⟩ : ∃ x : Int, x = w32 (81 * a1) := ⟨_, rfl⟩
    have hx7e : x7 = 81 * a1 := by rw [hx7]; exact w32_id (by omega)
    obtain ⟨x8, hx8⟩ : ∃ x : Int, x = w32 (3350 + x7) := ⟨_, rfl⟩
    have hx8e : x8 = 3350 + x7 := by rw [hx8]; exact w32_id (by omega)
    refine zG_w (c' := (37, [.inr (.inr (some 97)), .inl a1, .inl x6], [.inl 0, .inl x8, .inr (.inr (some 98))])) 9 hd0 hz (by subst hx8; subst hx7; rfl) ?_
    refine zG_iast hd0 hz rfl rfl (by omega) ?_
    obtain ⟨M9, hM9⟩ : ∃ X : zM, X = zput M 98 (x8 : Int).toNat 0 := ⟨_, rfl⟩
    rw [← hM9]
    have hCM9 : qMI M9 := by rw [hM9]; exact hC.put98' (qOS_tx (by omega) (by omega) (fun _ _ _ => by omega)) (by omega) (by omega)
    have hWM9 : qFm [98] M M9 := by rw [hM9]; exact hW.pa (by decide) (by decide)
    show zG n (0, 0) d 254 (38, [.inr (.inr (some 97)), .inl a1, .inl x6], []) M9 _
    exact zG_wr (r := some (.inl x6)) 1 hd0 hz (by rfl) ⟨⟨hCM9, hWM9⟩, _, rfl, by omega⟩
  · exact zG_wr (r := some (.inl (-2))) 1 hd0 hz (by rfl) ⟨⟨hC, hW⟩, _, rfl, by omega⟩
