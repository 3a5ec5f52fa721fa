theorem qm_249_97 {n d : Nat} {M : zM} (hd : 8 ≤ d) (hC : qMI M)  (a1 : Int) (ha1 : (-2147483648) ≤ a1 ∧ a1 ≤ 2147483647) (a2 : Int) (ha2 : (-2147483648) ≤ a2 ∧ a2 ≤ 2147483647) (a3 : Int) (ha3 : (-2147483648) ≤ a3 ∧ a3 ≤ 2147483647) : qOkN n d 249 [.inr (.inr (some 97)), .inl a1, .inl a2, .inl a3] 7 [101, 102, 103, 104, 105, 106, 107, 108, 109, 110, 1007, 1010, 1012, 1013, 1016, 1018, 1019, 1020, 1021, 1022, 1023] M (fun v M' => ∃ x : Int, v = some (.inl x) ∧ ((-2) ≤ x ∧ x ≤ 2000)) := by
  have hz := zp_249
  have hd0 : 0 < d := by omega
  have hW : qFm [101, 102, 103, 104, 105, 106, 107, 108, 109, 110, 1007, 1010, 1012, 1013, 1016, 1018, 1019, 1020, 1021, 1022, 1023] M M := qFm.rfl
  have r1 := hC.cnt1
  show zG n (0, 0) d 249 (0, [.inr (.inr (some 97)), .inl a1, .inl a2, .inl a3, zN, zN, zN], []) M _
  refine zG_blk (c' := (4, [.inr (.inr (some 97)), .inl a1, .inl a2, .inl a3, zN, zN, zN], [.inl a3, .inl a2, .inl a1, .inr (.inr (some 97))])) 4 hd0 hz (by rfl) ?_
  refine zG_call hd0 hz zp_245 rfl rfl (Nat.le_of_ble_eq_true rfl) ⟨Nat.le_refl _, Nat.le_refl _⟩ (qm_245_97 (by first | exact zdp hd (by decide) | omega) hC   a1 (by first | with_reducible exact ha1 | omega) a2 (by first | with_reducible exact ha2 | omega) a3 (by first | with_reducible exact ha3 | omega) ) (fun vr M2 hr => ?_)
  obtain ⟨hq, x3, rfl, hx3, hpx3_0⟩ := hr
  replace hq := hq.symm; subst hq
  show zG n (0, 0) d 249 (7, [.inr (.inr (some 97)), .inl a1, .inl a2, .inl a3, zN, zN, zN], [.inl x3]) M _
  refine zG_if_ne hd0 hz rfl (fun hb4 => ?_) (fun hb4 => ?_)
  · refine zG_blk (c' := (15, [.inr (.inr (some 97)), .inl a1, .inl a2, .inl a3, zN, zN, zN], [.inl a3, .inr (.inr (some 97))])) 2 hd0 hz (by rfl) ?_
    refine zG_call hd0 hz zp_211 rfl rfl (Nat.le_of_ble_eq_true rfl) ⟨Nat.le_refl _, Nat.le_refl _⟩ (qm_211_97 (by first | exact zdp hd (by decide) | omega) hC   a3 (by first | with_reducible exact ha3 | omega) ) (fun vr M5 hr => ?_)
    obtain ⟨⟨hCM5, hFM5⟩, rfl⟩ := hr
    have hWM5 : qFm [101, 102, 103, 104, 105, 106, 107, 108, 109, 110, 1007, 1010, 1012, 1013, 1016, 1018, 1019, 1020, 1021, 1022, 1023] M M5 := hW.tr hFM5 (by decide)
    have e7 : M5 98 1 = M 98 1 := hFM5 98 1 (by decide)
    show zG n (0, 0) d 249 (18, [.inr (.inr (some 97)), .inl a1, .inl a2, .inl a3, zN, zN, zN], []) M5 _
    refine zG_blk (c' := (21, [.inr (.inr (some 97)), .inl a1, .inl a2, .inl a3, zN, zN, zN], [.inl a2, .inl a1, .inr (.inr (some 97))])) 3 hd0 hz (by rfl) ?_
    refine zG_call hd0 hz zp_240 rfl rfl (Nat.le_of_ble_eq_true rfl) ⟨Nat.le_refl _, Nat.le_refl _⟩ (qm_240_97 (by first | exact zdp hd (by decide) | omega) hCM5   a1 (by first | with_reducible exact ha1 | omega) a2 (by first | with_reducible exact ha2 | omega) ) (fun vr M8 hr => ?_)
    obtain ⟨⟨hCM8, hFM8⟩, rfl⟩ := hr
    have hWM8 : qFm [101, 102, 103, 104, 105, 106, 107, 108, 109, 110, 1007, 1010, 1012, 1013, 1016, 1018, 1019, 1020, 1021, 1022, 1023] M M8 := hWM5.tr hFM8 (by decide)
    have e10 : M8 98 1 = M5 98 1 := hFM8 98 1 (by decide)
    show zG n (0, 0) d 249 (24, [.inr (.inr (some 97)), .inl a1, .inl a2, .inl a3, zN, zN, zN], []) M8 _
    refine zG_blk (c' := (27, [.inr (.inr (some 97)), .inl a1, .inl a2, .inl a3, zN, zN, zN], [.inl a2, .inl a1, .inr (.inr (some 97))])) 3 hd0 hz (by rfl) ?_
    refine zG_call hd0 hz zp_242 rfl rfl (Nat.le_of_ble_eq_true rfl) ⟨Nat.le_refl _, Nat.le_refl _⟩ (qm_242_97 (by first | exact zdp hd (by decide) | omega) hCM8   a1 (by first | with_reducible exact ha1 | omega) a2 (by first | with_reducible exact ha2 | omega) ) (fun vr M11 hr => ?_)
    obtain ⟨⟨hCM11, hFM11⟩, x12, rfl, hx12⟩ := hr
    have hWM11 : qFm [101, 102, 103, 104, 105, 106, 107, 108, 109, 110, 1007, 1010, 1012, 1013, 1016, 1018, 1019, 1020, 1021, 1022, 1023] M M11 := hWM8.tr hFM11 (by decide)
    have e13 : M11 98 1 = M8 98 1 := hFM11 98 1 (by decide)
    show zG n (0, 0) d 249 (30, [.inr (.inr (some 97)), .inl a1, .inl a2, .inl a3, zN, zN, zN], [.inl x12]) M11 _
    refine zG_blk (c' := (35, [.inr (.inr (some 97)), .inl a1, .inl a2, .inl a3, .inl x12, zN, zN], [.inl x12, .inr (.inr (some 97))])) 3 hd0 hz (by rfl) ?_
    refine zG_call hd0 hz zp_241 rfl rfl (Nat.le_of_ble_eq_true rfl) ⟨Nat.le_refl _, Nat.le_refl _⟩ (qm_241_97 (by first | exact zdp hd (by decide) | omega) hCM11   x12 (by omega) ) (fun vr M14 hr => ?_)
    obtain ⟨⟨hCM14, hFM14⟩, x15, rfl, hx15⟩ := hr
    have hWM14 : qFm [101, 102, 103, 104, 105, 106, 107, 108, 109, 110, 1007, 1010, 1012, 1013, 1016, 1018, 1019, 1020, 1021, 1022, 1023] M M14 := hWM11.tr hFM14 (by decide)
    have e16 : M14 98 1 = M11 98 1 := hFM14 98 1 (by decide)
    show zG n (0, 0) d 249 (38, [.inr (.inr (some 97)), .inl a1, .inl a2, .inl a3, .inl x12, zN, zN], [.inl x15]) M14 _
    refine zG_blk (c' := (43, [.inr (.inr (some 97)), .inl a1, .inl a2, .inl a3, .inl x12, .inl x15, .inl 1], [])) 3 hd0 hz (by rfl) ?_
    have j43 : ∀ (N : Nat) (v17 : Int) (M18 : zM) , (2001 - v17 : Int).toNat < N → 1 ≤ v17 ∧ v17 ≤ 2001 → qMI M18 → qFm [101, 102, 103, 104, 105, 106, 107, 108, 109, 110, 1007, 1010, 1012, 1013, 1016, 1018, 1019, 1020, 1021, 1022, 1023] M M18 → zG n (0, 0) d 249 (43, [.inr (.inr (some 97)), .inl a1, .inl a2, .inl a3, .inl x12, .inl x15, .inl v17], []) M18 (fun v M' => (qMI M' ∧ qFm [101, 102, 103, 104, 105, 106, 107, 108, 109, 110, 1007, 1010, 1012, 1013, 1016, 1018, 1019, 1020, 1021, 1022, 1023] M M') ∧ ∃ x : Int, v = some (.inl x) ∧ ((-2) ≤ x ∧ x ≤ 2000)) := by
      intro N
      induction N with
      | zero => intro v17 M18 hN hv17 hCM18 hWM18; exact absurd hN (Nat.not_lt_zero _)
      | succ N ih43 =>
        intro v17 M18 hN hv17 hCM18 hWM18
        have e19 : M18 98 1 = M 98 1 := hWM18 98 1 (by decide)
        refine zG_blk (c' := (48, [.inr (.inr (some 97)), .inl a1, .inl a2, .inl a3, .inl x12, .inl x15, .inl v17], [.inl 2000, .inl v17])) 2 hd0 hz (by rfl) ?_
        refine zG_icmp_gt hd0 hz rfl (fun hb20 => ?_) (fun hb20 => ?_)
        · refine zG_blk (c' := (78, [.inr (.inr (some 97)), .inl a1, .inl a2, .inl a3, .inl x12, .inl x15, .inl v17], [.inl (-1)])) 1 hd0 hz (by rfl) ?_
          exact zG_ret hd0 hz rfl rfl ⟨⟨hCM18, hWM18⟩, _, rfl, by omega⟩
        · refine zG_blk (c' := (54, [.inr (.inr (some 97)), .inl a1, .inl a2, .inl a3, .inl x12, .inl x15, .inl v17], [.inl v17, .inr (.inr (some 97))])) 2 hd0 hz (by rfl) ?_
          refine zG_putf (.inl rfl) hd0 hz rfl (by decide) rfl rfl ?_
          obtain ⟨M21, hM21⟩ : ∃ X : zM, X = zput M18 97 19 v17 := ⟨_, rfl⟩
          rw [← hM21]
          have hCM21 : qMI M21 := by rw [hM21]; exact hCM18.put (by decide) (by decide) (by refine ⟨fun _ => ?_, fun _ => ?_, fun h => ⟨fun _ => ?_, fun _ => ?_, fun _ => ?_, fun _ => ?_, fun _ => ?_⟩, fun h => ?_, fun h => ?_⟩ <;> first | omega | exact absurd rfl (by assumption) | (rename_i h9; exact absurd h9 (by decide)))
          have hWM21 : qFm [101, 102, 103, 104, 105, 106, 107, 108, 109, 110, 1007, 1010, 1012, 1013, 1016, 1018, 1019, 1020, 1021, 1022, 1023] M M21 := by rw [hM21]; exact hWM18.put (by decide)
          have e22 : M21 98 1 = M18 98 1 := by rw [hM21]; exact qput_ne (by decide)
          have e23 : M21 97 19 = v17 := by rw [hM21]; exact qput_eq
          show zG n (0, 0) d 249 (57, [.inr (.inr (some 97)), .inl a1, .inl a2, .inl a3, .inl x12, .inl x15, .inl v17], []) M21 _
          refine zG_blk (c' := (60, [.inr (.inr (some 97)), .inl a1, .inl a2, .inl a3, .inl x12, .inl x15, .inl v17], [.inl x12, .inr (.inr (some 97))])) 2 hd0 hz (by rfl) ?_
          refine zG_call hd0 hz zp_241 rfl rfl (Nat.le_of_ble_eq_true rfl) ⟨Nat.le_refl _, Nat.le_refl _⟩ (qm_241_97 (by first | exact zdp hd (by decide) | omega) hCM21   x12 (by omega) ) (fun vr M24 hr => ?_)
          obtain ⟨⟨hCM24, hFM24⟩, x25, rfl, hx25⟩ := hr
          have hWM24 : qFm [101, 102, 103, 104, 105, 106, 107, 108, 109, 110, 1007, 1010, 1012, 1013, 1016, 1018, 1019, 1020, 1021, 1022, 1023] M M24 := hWM21.tr hFM24 (by decide)
          have e26 : M24 98 1 = M21 98 1 := hFM24 98 1 (by decide)
          have e27 : M24 97 19 = M21 97 19 := hFM24 97 19 (by decide)
          show zG n (0, 0) d 249 (63, [.inr (.inr (some 97)), .inl a1, .inl a2, .inl a3, .inl x12, .inl x15, .inl v17], [.inl x25]) M24 _
          refine zG_blk (c' := (65, [.inr (.inr (some 97)), .inl a1, .inl a2, .inl a3, .inl x12, .inl x15, .inl v17], [.inl x15, .inl x25])) 1 hd0 hz (by rfl) ?_
          refine zG_icmp_eq hd0 hz rfl (fun hb28 => ?_) (fun hb28 => ?_)
          · obtain ⟨x29, hx29⟩ : ∃ x : Int, x = w32 (v17 + 1) := ⟨_, rfl⟩
            have hx29e : x29 = v17 + 1 := by rw [hx29]; exact w32_id (by omega)
            refine zG_blk (c' := (43, [.inr (.inr (some 97)), .inl a1, .inl a2, .inl a3, .inl x12, .inl x15, .inl x29], [])) 2 hd0 hz (by subst hx29; rfl) ?_
            exact ih43 x29 M24 (by omega) (by omega) hCM24 hWM24
          · refine zG_blk (c' := (70, [.inr (.inr (some 97)), .inl a1, .inl a2, .inl a3, .inl x12, .inl x15, .inl v17], [.inl v17])) 1 hd0 hz (by rfl) ?_
            exact zG_ret hd0 hz rfl rfl ⟨⟨hCM24, hWM24⟩, _, rfl, by omega⟩
    exact j43 ((2001 - 1 : Int).toNat + 1) 1 M14 (by omega) (by omega) hCM14 hWM14
  · refine zG_blk (c' := (12, [.inr (.inr (some 97)), .inl a1, .inl a2, .inl a3, zN, zN, zN], [.inl (-2)])) 1 hd0 hz (by rfl) ?_
    exact zG_ret hd0 hz rfl rfl ⟨⟨hC, hW⟩, _, rfl, by omega⟩
