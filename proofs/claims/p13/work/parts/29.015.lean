theorem qm_248_97 {n d : Nat} {M : zM} (hd : 8 ≤ d) (hC : qMI M)  (a1 : Int) (ha1 : (-2147483648) ≤ a1 ∧ a1 ≤ 2147483647) (a2 : Int) (ha2 : (-2147483648) ≤ a2 ∧ a2 ≤ 2147483647) (a3 : Int) (ha3 : (-2147483648) ≤ a3 ∧ a3 ≤ 2147483647) (a4 : Int) (ha4 : (-2147483648) ≤ a4 ∧ a4 ≤ 2147483647) : qOkN n d 248 [.inr (.inr (some 97)), .inl a1, .inl a2, .inl a3, .inl a4] 5 [101, 102, 103, 104, 105, 106, 107, 108, 109, 110, 1007, 1010, 1012, 1013, 1016, 1018, 1019, 1020, 1021, 1022, 1023] M (fun v M' => ∃ x : Int, v = some (.inr (.inl x))) := by
  have hz := zp_248
  have hd0 : 0 < d := by omega
  have hW : qFm [101, 102, 103, 104, 105, 106, 107, 108, 109, 110, 1007, 1010, 1012, 1013, 1016, 1018, 1019, 1020, 1021, 1022, 1023] M M := qFm.rfl
  have r1 := hC.cnt1
  show zG n (0, 0) d 248 (0, [.inr (.inr (some 97)), .inl a1, .inl a2, .inl a3, .inl a4], []) M _
  refine zG_blk (c' := (4, [.inr (.inr (some 97)), .inl a1, .inl a2, .inl a3, .inl a4], [.inl a3, .inl a2, .inl a1, .inr (.inr (some 97))])) 4 hd0 hz (by rfl) ?_
  refine zG_call hd0 hz zp_245 rfl rfl (Nat.le_of_ble_eq_true rfl) ⟨Nat.le_refl _, Nat.le_refl _⟩ (qm_245_97 (by first | exact zdp hd (by decide) | omega) hC   a1 (by first | with_reducible exact ha1 | omega) a2 (by first | with_reducible exact ha2 | omega) a3 (by first | with_reducible exact ha3 | omega) ) (fun vr M2 hr => ?_)
  obtain ⟨hq, x3, rfl, hx3, hpx3_0⟩ := hr
  replace hq := hq.symm; subst hq
  show zG n (0, 0) d 248 (7, [.inr (.inr (some 97)), .inl a1, .inl a2, .inl a3, .inl a4], [.inl x3]) M _
  have j21 : zG n (0, 0) d 248 (21, [.inr (.inr (some 97)), .inl a1, .inl a2, .inl a3, .inl a4], []) M (fun v M' => (qMI M' ∧ qFm [101, 102, 103, 104, 105, 106, 107, 108, 109, 110, 1007, 1010, 1012, 1013, 1016, 1018, 1019, 1020, 1021, 1022, 1023] M M') ∧ ∃ x : Int, v = some (.inr (.inl x))) := by
    refine zG_blk (c' := (24, [.inr (.inr (some 97)), .inl a1, .inl a2, .inl a3, .inl a4], [.inr (.inl ((-2)))])) 1 hd0 hz (by rfl) ?_
    exact zG_ret hd0 hz rfl rfl ⟨⟨hC, hW⟩, _, rfl⟩
  refine zG_if_eq hd0 hz rfl (fun hb4 => ?_) (fun hb4 => ?_)
  · exact j21
  · refine zG_blk (c' := (15, [.inr (.inr (some 97)), .inl a1, .inl a2, .inl a3, .inl a4], [.inl 15, .inl 0, .inl a4])) 3 hd0 hz (by rfl) ?_
    refine zG_call hd0 hz zp_180 rfl rfl (Nat.le_of_ble_eq_true rfl) ⟨Nat.le_refl _, Nat.le_refl _⟩ (qx_in (by first | exact zdp hd (by decide) | omega) hC   a4 (by first | with_reducible exact ha4 | omega) 0 (by first | decide | omega) 15 (by first | decide | omega) ) (fun vr M5 hr => ?_)
    obtain ⟨hq, x6, rfl, hx6⟩ := hr
    replace hq := hq.symm; subst hq
    show zG n (0, 0) d 248 (18, [.inr (.inr (some 97)), .inl a1, .inl a2, .inl a3, .inl a4], [.inl x6]) M _
    refine zG_if_ne hd0 hz rfl (fun hb7 => ?_) (fun hb7 => ?_)
    · have hcx6 := hx6.2.2.mp (by omega)
      clear hx6 hb7
      refine zG_blk (c' := (27, [.inr (.inr (some 97)), .inl a1, .inl a2, .inl a3, .inl a4], [.inl a3, .inr (.inr (some 97))])) 2 hd0 hz (by rfl) ?_
      refine zG_call hd0 hz zp_211 rfl rfl (Nat.le_of_ble_eq_true rfl) ⟨Nat.le_refl _, Nat.le_refl _⟩ (qm_211_97 (by first | exact zdp hd (by decide) | omega) hC   a3 (by first | with_reducible exact ha3 | omega) ) (fun vr M8 hr => ?_)
      obtain ⟨⟨hCM8, hFM8⟩, rfl⟩ := hr
      have hWM8 : qFm [101, 102, 103, 104, 105, 106, 107, 108, 109, 110, 1007, 1010, 1012, 1013, 1016, 1018, 1019, 1020, 1021, 1022, 1023] M M8 := hW.tr hFM8 (by decide)
      have e10 : M8 98 1 = M 98 1 := hFM8 98 1 (by decide)
      show zG n (0, 0) d 248 (30, [.inr (.inr (some 97)), .inl a1, .inl a2, .inl a3, .inl a4], []) M8 _
      refine zG_blk (c' := (33, [.inr (.inr (some 97)), .inl a1, .inl a2, .inl a3, .inl a4], [.inl a2, .inl a1, .inr (.inr (some 97))])) 3 hd0 hz (by rfl) ?_
      refine zG_call hd0 hz zp_240 rfl rfl (Nat.le_of_ble_eq_true rfl) ⟨Nat.le_refl _, Nat.le_refl _⟩ (qm_240_97 (by first | exact zdp hd (by decide) | omega) hCM8   a1 (by first | with_reducible exact ha1 | omega) a2 (by first | with_reducible exact ha2 | omega) ) (fun vr M11 hr => ?_)
      obtain ⟨⟨hCM11, hFM11⟩, rfl⟩ := hr
      have hWM11 : qFm [101, 102, 103, 104, 105, 106, 107, 108, 109, 110, 1007, 1010, 1012, 1013, 1016, 1018, 1019, 1020, 1021, 1022, 1023] M M11 := hWM8.tr hFM11 (by decide)
      have e13 : M11 98 1 = M8 98 1 := hFM11 98 1 (by decide)
      show zG n (0, 0) d 248 (36, [.inr (.inr (some 97)), .inl a1, .inl a2, .inl a3, .inl a4], []) M11 _
      refine zG_blk (c' := (38, [.inr (.inr (some 97)), .inl a1, .inl a2, .inl a3, .inl a4], [.inl 1, .inr (.inr (some 97))])) 2 hd0 hz (by rfl) ?_
      refine zG_putf (.inr ⟨rfl, by omega⟩) hd0 hz rfl (by decide) rfl rfl ?_
      obtain ⟨M14, hM14⟩ : ∃ X : zM, X = zput M11 97 20 1 := ⟨_, rfl⟩
      rw [← hM14]
      have hCM14 : qMI M14 := by rw [hM14]; exact hCM11.put (by decide) (by decide) (by refine ⟨fun _ => ?_, fun _ => ?_, fun h => ⟨fun _ => ?_, fun _ => ?_, fun _ => ?_, fun _ => ?_, fun _ => ?_⟩, fun h => ?_, fun h => ?_⟩ <;> first | omega | exact absurd rfl (by assumption) | (rename_i h9; exact absurd h9 (by decide)))
      have hWM14 : qFm [101, 102, 103, 104, 105, 106, 107, 108, 109, 110, 1007, 1010, 1012, 1013, 1016, 1018, 1019, 1020, 1021, 1022, 1023] M M14 := by rw [hM14]; exact hWM11.put (by decide)
      have e15 : M14 98 1 = M11 98 1 := by rw [hM14]; exact qput_ne (by decide)
      have e16 : M14 97 20 = 1 := by rw [hM14]; exact qput_eq
      show zG n (0, 0) d 248 (41, [.inr (.inr (some 97)), .inl a1, .inl a2, .inl a3, .inl a4], []) M14 _
      refine zG_blk (c' := (43, [.inr (.inr (some 97)), .inl a1, .inl a2, .inl a3, .inl a4], [.inl a4])) 1 hd0 hz (by rfl) ?_
      have j74 : ∀ (v17 : Int) , zG n (0, 0) d 248 (74, [.inr (.inr (some 97)), .inl a1, .inl a2, .inl a3, .inl a4], [.inr (.inl (v17))]) M14 (fun v M' => (qMI M' ∧ qFm [101, 102, 103, 104, 105, 106, 107, 108, 109, 110, 1007, 1010, 1012, 1013, 1016, 1018, 1019, 1020, 1021, 1022, 1023] M M') ∧ ∃ x : Int, v = some (.inr (.inl x))) := by
        intro v17
        exact zG_ret hd0 hz rfl rfl ⟨⟨hCM14, hWM14⟩, _, rfl⟩
      refine zG_if_ne hd0 hz rfl (fun hb18 => ?_) (fun hb18 => ?_)
      · refine zG_blk (c' := (57, [.inr (.inr (some 97)), .inl a1, .inl a2, .inl a3, .inl a4], [.inl 15, .inl a4])) 2 hd0 hz (by rfl) ?_
        refine zG_icmp_ne hd0 hz rfl (fun hb19 => ?_) (fun hb19 => ?_)
        · refine zG_blk (c' := (71, [.inr (.inr (some 97)), .inl a1, .inl a2, .inl a3, .inl a4], [.inr (.inl (a4)), .inr (.inr (some 97))])) 3 hd0 hz (by rfl) ?_
          refine zG_call hd0 hz zp_233 rfl rfl (Nat.le_of_ble_eq_true rfl) ⟨Nat.le_refl _, Nat.le_refl _⟩ (qm_233_97 (by first | exact zdp hd (by decide) | omega) hCM14   a4 ) (fun vr M20 hr => ?_)
          obtain ⟨hq, x21, rfl⟩ := hr
          replace hq := hq.symm; subst hq
          show zG n (0, 0) d 248 (74, [.inr (.inr (some 97)), .inl a1, .inl a2, .inl a3, .inl a4], [.inr (.inl (x21))]) M14 _
          exact j74 x21
        · refine zG_blk (c' := (74, [.inr (.inr (some 97)), .inl a1, .inl a2, .inl a3, .inl a4], [.inr (.inl (M14 97 22))])) 3 hd0 hz (by rfl) ?_
          exact j74 (M14 97 22)
      · refine zG_blk (c' := (74, [.inr (.inr (some 97)), .inl a1, .inl a2, .inl a3, .inl a4], [.inr (.inl (M14 97 23))])) 3 hd0 hz (by rfl) ?_
        exact j74 (M14 97 23)
    · exact j21
