/-! THE MODEL'S METHODS, BY PROGRAM -/
theorem qm_187_97 {n d : Nat} {M : zM} (hd : 2 ≤ d) (hC : qMI M)  (a1 : Int) (ha1 : (-2147483648) ≤ a1 ∧ a1 ≤ 2147483647) (a2 : Int) (ha2 : (-2147483648) ≤ a2 ∧ a2 ≤ 2147483647) (a3 : Int) (ha3 : (-2147483648) ≤ a3 ∧ a3 ≤ 2147483647) (a4 : Int) (ha4 : (-2147483648) ≤ a4 ∧ a4 ≤ 2147483647) : qOkN n d 187 [.inr (.inr (some 97)), .inl a1, .inl a2, .inl a3, .inl a4] 6 [98, 1031] M (fun v M' => ∃ x : Int, v = some (.inl x) ∧ ((-2147483648) ≤ x ∧ x ≤ 2147483647) ∧ (M' 98 6 = M 98 6)) := by
  have hz : zP 187 = (zk_X11_course, 6, (0, 0)) := rfl
  have hd0 : 0 < d := by omega
  have hW : qFm [98, 1031] M M := qFm.rfl
  have r1 := hC.cnt6
  have r2 := hC.cnt0
  show zG n (0, 0) d 187 (0, [.inr (.inr (some 97)), .inl a1, .inl a2, .inl a3, .inl a4, zN], []) M _
  refine zG_blk (c' := (4, [.inr (.inr (some 97)), .inl a1, .inl a2, .inl a3, .inl a4, zN], [.inl 60, .inl 1, .inl a1])) 3 hd0 hz (by rfl) ?_
  refine zG_call hd0 hz (rfl : zP 180 = (zk_X11_in, 3, (0, 0))) rfl rfl (Nat.le_of_ble_eq_true rfl) ⟨Nat.le_refl _, Nat.le_refl _⟩ (qx_in (by omega) hC   a1 (by omega) 1 (by omega) 60 (by omega) ) (fun vr M3 hr => ?_)
  obtain ⟨hq, x4, rfl, hx4⟩ := hr
  replace hq := hq.symm; subst hq
  show zG n (0, 0) d 187 (7, [.inr (.inr (some 97)), .inl a1, .inl a2, .inl a3, .inl a4, zN], [.inl x4]) M _
  have j49 : zG n (0, 0) d 187 (49, [.inr (.inr (some 97)), .inl a1, .inl a2, .inl a3, .inl a4, zN], []) M (fun v M' => (qMI M' ∧ qFm [98, 1031] M M') ∧ ∃ x : Int, v = some (.inl x) ∧ ((-2147483648) ≤ x ∧ x ≤ 2147483647) ∧ (M' 98 6 = M 98 6)) := by
    refine zG_blk (c' := (51, [.inr (.inr (some 97)), .inl a1, .inl a2, .inl a3, .inl a4, zN], [.inl (-2)])) 1 hd0 hz (by rfl) ?_
    exact zG_ret hd0 hz rfl rfl ⟨⟨hC, hW⟩, _, rfl, by omega, by omega⟩
  refine zG_if_eq hd0 hz rfl (fun hb5 => ?_) (fun hb5 => ?_)
  · exact j49
  · refine zG_blk (c' := (18, [.inr (.inr (some 97)), .inl a1, .inl a2, .inl a3, .inl a4, zN], [.inl 0, .inr (.inr (some 98)), .inl 1, .inl 0, .inl a2])) 6 hd0 hz (by rfl) ?_
    refine zG_iald hd0 hz rfl rfl (.inl rfl) (by omega) ?_
    show zG n (0, 0) d 187 (19, [.inr (.inr (some 97)), .inl a1, .inl a2, .inl a3, .inl a4, zN], [.inl (M 98 0), .inl 1, .inl 0, .inl a2]) M _
    obtain ⟨x6, hx6⟩ : ∃ x : Int, x = zbshl 1 (M 98 0) := ⟨_, rfl⟩
    have hx6r := qshl1_in (M 98 0) 16384 14 (by decide) (by decide) (by omega); rw [← hx6] at hx6r
    obtain ⟨x7, hx7⟩ : ∃ x : Int, x = w32 (x6 - 1) := ⟨_, rfl⟩
    have hx7e : x7 = x6 - 1 := by rw [hx7]; exact w32_id (by omega)
    refine zG_blk (c' := (22, [.inr (.inr (some 97)), .inl a1, .inl a2, .inl a3, .inl a4, zN], [.inl x7, .inl 0, .inl a2])) 3 hd0 hz (by subst hx7; subst hx6; rfl) ?_
    refine zG_call hd0 hz (rfl : zP 180 = (zk_X11_in, 3, (0, 0))) rfl rfl (Nat.le_of_ble_eq_true rfl) ⟨Nat.le_refl _, Nat.le_refl _⟩ (qx_in (by omega) hC   a2 (by omega) 0 (by omega) x7 (by omega) ) (fun vr M8 hr => ?_)
    obtain ⟨hq, x9, rfl, hx9⟩ := hr
    replace hq := hq.symm; subst hq
    show zG n (0, 0) d 187 (25, [.inr (.inr (some 97)), .inl a1, .inl a2, .inl a3, .inl a4, zN], [.inl x9]) M _
    refine zG_if_eq hd0 hz rfl (fun hb10 => ?_) (fun hb10 => ?_)
    · exact j49
    · refine zG_blk (c' := (32, [.inr (.inr (some 97)), .inl a1, .inl a2, .inl a3, .inl a4, zN], [.inl 7, .inl 1, .inl a3])) 3 hd0 hz (by rfl) ?_
      refine zG_call hd0 hz (rfl : zP 180 = (zk_X11_in, 3, (0, 0))) rfl rfl (Nat.le_of_ble_eq_true rfl) ⟨Nat.le_refl _, Nat.le_refl _⟩ (qx_in (by omega) hC   a3 (by omega) 1 (by omega) 7 (by omega) ) (fun vr M11 hr => ?_)
      obtain ⟨hq, x12, rfl, hx12⟩ := hr
      replace hq := hq.symm; subst hq
      show zG n (0, 0) d 187 (35, [.inr (.inr (some 97)), .inl a1, .inl a2, .inl a3, .inl a4, zN], [.inl x12]) M _
      refine zG_if_eq hd0 hz rfl (fun hb13 => ?_) (fun hb13 => ?_)
      · exact j49
      · refine zG_blk (c' := (43, [.inr (.inr (some 97)), .inl a1, .inl a2, .inl a3, .inl a4, zN], [.inl 100, .inl 0, .inl a4])) 3 hd0 hz (by rfl) ?_
        refine zG_call hd0 hz (rfl : zP 180 = (zk_X11_in, 3, (0, 0))) rfl rfl (Nat.le_of_ble_eq_true rfl) ⟨Nat.le_refl _, Nat.le_refl _⟩ (qx_in (by omega) hC   a4 (by omega) 0 (by omega) 100 (by omega) ) (fun vr M14 hr => ?_)
        obtain ⟨hq, x15, rfl, hx15⟩ := hr
        replace hq := hq.symm; subst hq
        show zG n (0, 0) d 187 (46, [.inr (.inr (some 97)), .inl a1, .inl a2, .inl a3, .inl a4, zN], [.inl x15]) M _
        refine zG_if_ne hd0 hz rfl (fun hb16 => ?_) (fun hb16 => ?_)
        · refine zG_blk (c' := (57, [.inr (.inr (some 97)), .inl a1, .inl a2, .inl a3, .inl a4, zN], [.inl 0, .inr (.inr (some 98))])) 3 hd0 hz (by rfl) ?_
          refine zG_iald hd0 hz rfl rfl (.inl rfl) (by omega) ?_
          show zG n (0, 0) d 187 (58, [.inr (.inr (some 97)), .inl a1, .inl a2, .inl a3, .inl a4, zN], [.inl (M 98 0)]) M _
          refine zG_blk (c' := (60, [.inr (.inr (some 97)), .inl a1, .inl a2, .inl a3, .inl a4, zN], [.inl 14, .inl (M 98 0)])) 1 hd0 hz (by rfl) ?_
          refine zG_icmp_ne hd0 hz rfl (fun hb17 => ?_) (fun hb17 => ?_)
          · refine zG_blk (c' := (74, [.inr (.inr (some 97)), .inl a1, .inl a2, .inl a3, .inl a4, zN], [.inl 0, .inr (.inr (some 98)), .inl 4, .inl 20])) 5 hd0 hz (by rfl) ?_
            refine zG_iald hd0 hz rfl rfl (.inl rfl) (by omega) ?_
            show zG n (0, 0) d 187 (75, [.inr (.inr (some 97)), .inl a1, .inl a2, .inl a3, .inl a4, zN], [.inl (M 98 0), .inl 4, .inl 20]) M _
            obtain ⟨x18, hx18⟩ : ∃ x : Int, x = w32 (4 * (M 98 0)) := ⟨_, rfl⟩
            have hx18e : x18 = 4 * (M 98 0) := by rw [hx18]; exact w32_id (by omega)
            obtain ⟨x19, hx19⟩ : ∃ x : Int, x = w32 (20 + x18) := ⟨_, rfl⟩
            have hx19e : x19 = 20 + x18 := by rw [hx19]; exact w32_id (by omega)
            refine zG_blk (c' := (86, [.inr (.inr (some 97)), .inl a1, .inl a2, .inl a3, .inl a4, .inl x19], [.inl a1, .inl x19, .inr (.inr (some 98))])) 7 hd0 hz (by subst hx19; subst hx18; rfl) ?_
            refine zG_iast hd0 hz rfl rfl (by omega) ?_
            obtain ⟨M20, hM20⟩ : ∃ X : zM, X = zput M 98 (x19 : Int).toNat a1 := ⟨_, rfl⟩
            rw [← hM20]
            have hCM20 : qMI M20 := by rw [hM20]; exact hC.put98' (by refine ⟨by omega, fun _ => by omega, fun _ => by omega, fun _ => by omega, fun _ => by omega, fun _ => by omega, fun _ => by omega, fun _ => by omega, fun c9 hc9 _ => by omega, fun u9 hu9 _ => by omega, fun m9 hm9 _ => by omega, fun a9 ha9 => ⟨fun _ => by omega, fun _ => by omega, fun _ => by omega, fun _ => by omega⟩, fun t9 ht9 _ => by omega, fun o9 ho9 _ => by omega⟩) (by omega) (by omega)
            have hWM20 : qFm [98, 1031] M M20 := by rw [hM20]; exact hW.pa (by decide) (by decide)
            have e21 : M20 98 6 = M 98 6 := by rw [hM20]; exact qput_nk (by omega)
            have e22 : M20 98 0 = M 98 0 := by rw [hM20]; exact qput_nk (by omega)
            show zG n (0, 0) d 187 (87, [.inr (.inr (some 97)), .inl a1, .inl a2, .inl a3, .inl a4, .inl x19], []) M20 _
            obtain ⟨x23, hx23⟩ : ∃ x : Int, x = w32 (x19 + 1) := ⟨_, rfl⟩
            have hx23e : x23 = x19 + 1 := by rw [hx23]; exact w32_id (by omega)
            refine zG_blk (c' := (96, [.inr (.inr (some 97)), .inl a1, .inl a2, .inl a3, .inl a4, .inl x19], [.inl a2, .inl x23, .inr (.inr (some 98))])) 6 hd0 hz (by subst hx23; rfl) ?_
            refine zG_iast hd0 hz rfl rfl (by omega) ?_
            obtain ⟨M24, hM24⟩ : ∃ X : zM, X = zput M20 98 (x23 : Int).toNat a2 := ⟨_, rfl⟩
            rw [← hM24]
            have hCM24 : qMI M24 := by rw [hM24]; exact hCM20.put98' (by refine ⟨by omega, fun _ => by omega, fun _ => by omega, fun _ => by omega, fun _ => by omega, fun _ => by omega, fun _ => by omega, fun _ => by omega, fun c9 hc9 _ => by omega, fun u9 hu9 _ => by omega, fun m9 hm9 _ => by omega, fun a9 ha9 => ⟨fun _ => by omega, fun _ => by omega, fun _ => by omega, fun _ => by omega⟩, fun t9 ht9 _ => by omega, fun o9 ho9 _ => by omega⟩) (by omega) (by omega)
            have hWM24 : qFm [98, 1031] M M24 := by rw [hM24]; exact hWM20.pa (by decide) (by decide)
            have e25 : M24 98 6 = M20 98 6 := by rw [hM24]; exact qput_nk (by omega)
            have e26 : M24 98 0 = M20 98 0 := by rw [hM24]; exact qput_nk (by omega)
            show zG n (0, 0) d 187 (97, [.inr (.inr (some 97)), .inl a1, .inl a2, .inl a3, .inl a4, .inl x19], []) M24 _
            obtain ⟨x27, hx27⟩ : ∃ x : Int, x = w32 (x19 + 2) := ⟨_, rfl⟩
            have hx27e : x27 = x19 + 2 := by rw [hx27]; exact w32_id (by omega)
            refine zG_blk (c' := (106, [.inr (.inr (some 97)), .inl a1, .inl a2, .inl a3, .inl a4, .inl x19], [.inl a3, .inl x27, .inr (.inr (some 98))])) 6 hd0 hz (by subst hx27; rfl) ?_
            refine zG_iast hd0 hz rfl rfl (by omega) ?_
            obtain ⟨M28, hM28⟩ : ∃ X : zM, X = zput M24 98 (x27 : Int).toNat a3 := ⟨_, rfl⟩
            rw [← hM28]
            have hCM28 : qMI M28 := by rw [hM28]; exact hCM24.put98' (by refine ⟨by omega, fun _ => by omega, fun _ => by omega, fun _ => by omega, fun _ => by omega, fun _ => by omega, fun _ => by omega, fun _ => by omega, fun c9 hc9 _ => by omega, fun u9 hu9 _ => by omega, fun m9 hm9 _ => by omega, fun a9 ha9 => ⟨fun _ => by omega, fun _ => by omega, fun _ => by omega, fun _ => by omega⟩, fun t9 ht9 _ => by omega, fun o9 ho9 _ => by omega⟩) (by omega) (by omega)
            have hWM28 : qFm [98, 1031] M M28 := by rw [hM28]; exact hWM24.pa (by decide) (by decide)
            have e29 : M28 98 6 = M24 98 6 := by rw [hM28]; exact qput_nk (by omega)
            have e30 : M28 98 0 = M24 98 0 := by rw [hM28]; exact qput_nk (by omega)
            show zG n (0, 0) d 187 (107, [.inr (.inr (some 97)), .inl a1, .inl a2, .inl a3, .inl a4, .inl x19], []) M28 _
            obtain ⟨x31, hx31⟩ : ∃ x : Int, x = w32 (x19 + 3) := ⟨_, rfl⟩
            have hx31e : x31 = x19 + 3 := by rw [hx31]; exact w32_id (by omega)
            refine zG_blk (c' := (117, [.inr (.inr (some 97)), .inl a1, .inl a2, .inl a3, .inl a4, .inl x19], [.inl a4, .inl x31, .inr (.inr (some 98))])) 6 hd0 hz (by subst hx31; rfl) ?_
            refine zG_iast hd0 hz rfl rfl (by omega) ?_
            obtain ⟨M32, hM32⟩ : ∃ X : zM, X = zput M28 98 (x31 : Int).toNat a4 := ⟨_, rfl⟩
            rw [← hM32]
            have hCM32 : qMI M32 := by rw [hM32]; exact hCM28.put98' (by refine ⟨by omega, fun _ => by omega, fun _ => by omega, fun _ => by omega, fun _ => by omega, fun _ => by omega, fun _ => by omega, fun _ => by omega, fun c9 hc9 _ => by omega, fun u9 hu9 _ => by omega, fun m9 hm9 _ => by omega, fun a9 ha9 => ⟨fun _ => by omega, fun _ => by omega, fun _ => by omega, fun _ => by omega⟩, fun t9 ht9 _ => by omega, fun o9 ho9 _ => by omega⟩) (by omega) (by omega)
            have hWM32 : qFm [98, 1031] M M32 := by rw [hM32]; exact hWM28.pa (by decide) (by decide)
            have e33 : M32 98 6 = M28 98 6 := by rw [hM32]; exact qput_nk (by omega)
            have e34 : M32 98 0 = M28 98 0 := by rw [hM32]; exact qput_nk (by omega)
            show zG n (0, 0) d 187 (118, [.inr (.inr (some 97)), .inl a1, .inl a2, .inl a3, .inl a4, .inl x19], []) M32 _
            refine zG_blk (c' := (120, [.inr (.inr (some 97)), .inl a1, .inl a2, .inl a3, .inl a4, .inl x19], [.inl (-1), .inr (.inr (some 97))])) 2 hd0 hz (by rfl) ?_
            refine zG_putf (.inl rfl) hd0 hz rfl (by decide) rfl rfl ?_
            obtain ⟨M35, hM35⟩ : ∃ X : zM, X = zput M32 97 31 (-1) := ⟨_, rfl⟩
            rw [← hM35]
            have hCM35 : qMI M35 := by rw [hM35]; exact hCM32.put (by decide) (by decide) (by refine ⟨fun _ => ?_, fun _ => ?_, fun h => ⟨fun _ => ?_, fun _ => ?_, fun _ => ?_, fun _ => ?_, fun _ => ?_⟩, fun h => ?_, fun h => ?_⟩ <;> first | omega | exact absurd rfl (by assumption) | (rename_i h9; exact absurd h9 (by decide)))
            have hWM35 : qFm [98, 1031] M M35 := by rw [hM35]; exact hWM32.put (by decide)
            have e36 : M35 98 6 = M32 98 6 := by rw [hM35]; exact qput_ne (by decide)
            have e37 : M35 98 0 = M32 98 0 := by rw [hM35]; exact qput_ne (by decide)
            have e38 : M35 97 31 = (-1) := by rw [hM35]; exact qput_eq
            show zG n (0, 0) d 187 (123, [.inr (.inr (some 97)), .inl a1, .inl a2, .inl a3, .inl a4, .inl x19], []) M35 _
            refine zG_blk (c' := (125, [.inr (.inr (some 97)), .inl a1, .inl a2, .inl a3, .inl a4, .inl x19], [.inl 0, .inr (.inr (some 97))])) 2 hd0 hz (by rfl) ?_
            refine zG_call hd0 hz (rfl : zP 183 = (zk_X11_one, 2, (0, 0))) rfl rfl (Nat.le_of_ble_eq_true rfl) ⟨Nat.le_refl _, Nat.le_refl _⟩ (qx_oneC (by omega) hCM35   0 (by decide) (by decide) (by refine ⟨by omega, fun _ => by omega, fun _ => by omega, fun _ => by omega, fun _ => by omega, fun _ => by omega, fun _ => by omega, fun _ => by omega, fun c9 hc9 _ => by omega, fun u9 hu9 _ => by omega, fun m9 hm9 _ => by omega, fun a9 ha9 => ⟨fun _ => by omega, fun _ => by omega, fun _ => by omega, fun _ => by omega⟩, fun t9 ht9 _ => by omega, fun o9 ho9 _ => by omega⟩) ) (fun vr M39 hr => ?_)
            obtain ⟨⟨hCM39, hFM39⟩, x40, rfl, hx40, hpx40_0, hpx40_1⟩ := hr
            have hWM39 : qFm [98, 1031] M M39 := hWM35.tr hFM39 (by decide)
            have e41 : M39 98 6 = M35 98 6 := hpx40_1 _ (by omega)
            have e43 : M39 97 31 = M35 97 31 := hFM39 97 31 (by decide)
            show zG n (0, 0) d 187 (128, [.inr (.inr (some 97)), .inl a1, .inl a2, .inl a3, .inl a4, .inl x19], [.inl x40]) M39 _
            exact zG_ret hd0 hz rfl rfl ⟨⟨hCM39, hWM39⟩, _, rfl, by omega, by omega⟩
          · refine zG_blk (c' := (65, [.inr (.inr (some 97)), .inl a1, .inl a2, .inl a3, .inl a4, zN], [.inl (-4)])) 1 hd0 hz (by rfl) ?_
            exact zG_ret hd0 hz rfl rfl ⟨⟨hC, hW⟩, _, rfl, by omega, by omega⟩
        · exact j49
theorem qm_188_97 {n d : Nat} {M : zM} (hd : 3 ≤ d) (hC : qMI M)  (a1 : Int) (ha1 : (-2147483648) ≤ a1 ∧ a1 ≤ 2147483647) : qOkN n d 188 [.inr (.inr (some 97)), .inl a1] 3 [98] M (fun v M' => ∃ x : Int, v = some (.inl x) ∧ ((-2147483648) ≤ x ∧ x ≤ 2147483647) ∧ (M' 98 6 = M 98 6)) := by
  have hz : zP 188 = (zk_X11_student, 3, (0, 0)) := rfl
  have hd0 : 0 < d := by omega
  have hW : qFm [98] M M := qFm.rfl
  have r1 := hC.cnt6
  have r2 := hC.cnt1
  show zG n (0, 0) d 188 (0, [.inr (.inr (some 97)), .inl a1, zN], []) M _
  refine zG_blk (c' := (1, [.inr (.inr (some 97)), .inl a1, zN], [.inl a1])) 1 hd0 hz (by rfl) ?_
  refine zG_call hd0 hz (rfl : zP 184 = (zk_X11_isDay, 1, (0, 0))) rfl rfl (Nat.le_of_ble_eq_true rfl) ⟨Nat.le_refl _, Nat.le_refl _⟩ (qm_184 (by omega) hC   a1 (by omega) ) (fun vr M3 hr => ?_)
  obtain ⟨hq, x4, rfl, hx4, hpx4_0⟩ := hr
  replace hq := hq.symm; subst hq
  show zG n (0, 0) d 188 (4, [.inr (.inr (some 97)), .inl a1, zN], [.inl x4]) M _
  refine zG_if_ne hd0 hz rfl (fun hb5 => ?_) (fun hb5 => ?_)
  · refine zG_blk (c' := (15, [.inr (.inr (some 97)), .inl a1, zN], [.inl 1, .inr (.inr (some 98))])) 3 hd0 hz (by rfl) ?_
    refine zG_iald hd0 hz rfl rfl (.inl rfl) (by omega) ?_
    show zG n (0, 0) d 188 (16, [.inr (.inr (some 97)), .inl a1, zN], [.inl (M 98 1)]) M _
    refine zG_blk (c' := (18, [.inr (.inr (some 97)), .inl a1, zN], [.inl 20, .inl (M 98 1)])) 1 hd0 hz (by rfl) ?_
    refine zG_icmp_ne hd0 hz rfl (fun hb6 => ?_) (fun hb6 => ?_)
    · refine zG_blk (c' := (32, [.inr (.inr (some 97)), .inl a1, zN], [.inl 1, .inr (.inr (some 98)), .inl 3, .inl 80])) 5 hd0 hz (by rfl) ?_
      refine zG_iald hd0 hz rfl rfl (.inl rfl) (by omega) ?_
      show zG n (0, 0) d 188 (33, [.inr (.inr (some 97)), .inl a1, zN], [.inl (M 98 1), .inl 3, .inl 80]) M _
      obtain ⟨x7, hx7⟩ : ∃ x : Int, x = w32 (3 * (M 98 1)) := ⟨_, rfl⟩
      have hx7e : x7 = 3 * (M 98 1) := by rw [hx7]; exact w32_id (by omega)
      obtain ⟨x8, hx8⟩ : ∃ x : Int, x = w32 (80 + x7) := ⟨_, rfl⟩
      have hx8e : x8 = 80 + x7 := by rw [hx8]; exact w32_id (by omega)
      refine zG_blk (c' := (42, [.inr (.inr (some 97)), .inl a1, .inl x8], [.inl a1, .inl x8, .inr (.inr (some 98))])) 7 hd0 hz (by subst hx8; subst hx7; rfl) ?_
      refine zG_iast hd0 hz rfl rfl (by omega) ?_
      obtain ⟨M9, hM9⟩ : ∃ X : zM, X = zput M 98 (x8 : Int).toNat a1 := ⟨_, rfl⟩
      rw [← hM9]
      have hCM9 : qMI M9 := by rw [hM9]; exact hC.put98' (by refine ⟨by omega, fun _ => by omega, fun _ => by omega, fun _ => by omega, fun _ => by omega, fun _ => by omega, fun _ => by omega, fun _ => by omega, fun c9 hc9 _ => by omega, fun u9 hu9 _ => by omega, fun m9 hm9 _ => by omega, fun a9 ha9 => ⟨fun _ => by omega, fun _ => by omega, fun _ => by omega, fun _ => by omega⟩, fun t9 ht9 _ => by omega, fun o9 ho9 _ => by omega⟩) (by omega) (by omega)
      have hWM9 : qFm [98] M M9 := by rw [hM9]; exact hW.pa (by decide) (by decide)
      have e10 : M9 98 6 = M 98 6 := by rw [hM9]; exact qput_nk (by omega)
      have e11 : M9 98 1 = M 98 1 := by rw [hM9]; exact qput_nk (by omega)
      show zG n (0, 0) d 188 (43, [.inr (.inr (some 97)), .inl a1, .inl x8], []) M9 _
      obtain ⟨x12, hx12⟩ : ∃ x : Int, x = w32 (x8 + 1) := ⟨_, rfl⟩
      have hx12e : x12 = x8 + 1 := by rw [hx12]; exact w32_id (by omega)
      refine zG_blk (c' := (51, [.inr (.inr (some 97)), .inl a1, .inl x8], [.inl (-1), .inl x12, .inr (.inr (some 98))])) 6 hd0 hz (by subst hx12; rfl) ?_
      refine zG_iast hd0 hz rfl rfl (by omega) ?_
      obtain ⟨M13, hM13⟩ : ∃ X : zM, X = zput M9 98 (x12 : Int).toNat (-1) := ⟨_, rfl⟩
      rw [← hM13]
      have hCM13 : qMI M13 := by rw [hM13]; exact hCM9.put98' (by refine ⟨by omega, fun _ => by omega, fun _ => by omega, fun _ => by omega, fun _ => by omega, fun _ => by omega, fun _ => by omega, fun _ => by omega, fun c9 hc9 _ => by omega, fun u9 hu9 _ => by omega, fun m9 hm9 _ => by omega, fun a9 ha9 => ⟨fun _ => by omega, fun _ => by omega, fun _ => by omega, fun _ => by omega⟩, fun t9 ht9 _ => by omega, fun o9 ho9 _ => by omega⟩) (by omega) (by omega)
      have hWM13 : qFm [98] M M13 := by rw [hM13]; exact hWM9.pa (by decide) (by decide)
      have e14 : M13 98 6 = M9 98 6 := by rw [hM13]; exact qput_nk (by omega)
      have e15 : M13 98 1 = M9 98 1 := by rw [hM13]; exact qput_nk (by omega)
      show zG n (0, 0) d 188 (52, [.inr (.inr (some 97)), .inl a1, .inl x8], []) M13 _
      obtain ⟨x16, hx16⟩ : ∃ x : Int, x = w32 (x8 + 2) := ⟨_, rfl⟩
      have hx16e : x16 = x8 + 2 := by rw [hx16]; exact w32_id (by omega)
      refine zG_blk (c' := (60, [.inr (.inr (some 97)), .inl a1, .inl x8], [.inl 0, .inl x16, .inr (.inr (some 98))])) 6 hd0 hz (by subst hx16; rfl) ?_
      refine zG_iast hd0 hz rfl rfl (by omega) ?_
      obtain ⟨M17, hM17⟩ : ∃ X : zM, X = zput M13 98 (x16 : Int).toNat 0 := ⟨_, rfl⟩
      rw [← hM17]
      have hCM17 : qMI M17 := by rw [hM17]; exact hCM13.put98' (by refine ⟨by omega, fun _ => by omega, fun _ => by omega, fun _ => by omega, fun _ => by omega, fun _ => by omega, fun _ => by omega, fun _ => by omega, fun c9 hc9 _ => by omega, fun u9 hu9 _ => by omega, fun m9 hm9 _ => by omega, fun a9 ha9 => ⟨fun _ => by omega, fun _ => by omega, fun _ => by omega, fun _ => by omega⟩, fun t9 ht9 _ => by omega, fun o9 ho9 _ => by omega⟩) (by omega) (by omega)
      have hWM17 : qFm [98] M M17 := by rw [hM17]; exact hWM13.pa (by decide) (by decide)
      have e18 : M17 98 6 = M13 98 6 := by rw [hM17]; exact qput_nk (by omega)
      have e19 : M17 98 1 = M13 98 1 := by rw [hM17]; exact qput_nk (by omega)
      show zG n (0, 0) d 188 (61, [.inr (.inr (some 97)), .inl a1, .inl x8], []) M17 _
      refine zG_blk (c' := (63, [.inr (.inr (some 97)), .inl a1, .inl x8], [.inl 1, .inr (.inr (some 97))])) 2 hd0 hz (by rfl) ?_
      refine zG_call hd0 hz (rfl : zP 183 = (zk_X11_one, 2, (0, 0))) rfl rfl (Nat.le_of_ble_eq_true rfl) ⟨Nat.le_refl _, Nat.le_refl _⟩ (qx_oneC (by omega) hCM17   1 (by decide) (by decide) (by refine ⟨by omega, fun _ => by omega, fun _ => by omega, fun _ => by omega, fun _ => by omega, fun _ => by omega, fun _ => by omega, fun _ => by omega, fun c9 hc9 _ => by omega, fun u9 hu9 _ => by omega, fun m9 hm9 _ => by omega, fun a9 ha9 => ⟨fun _ => by omega, fun _ => by omega, fun _ => by omega, fun _ => by omega⟩, fun t9 ht9 _ => by omega, fun o9 ho9 _ => by omega⟩) ) (fun vr M20 hr => ?_)
      obtain ⟨⟨hCM20, hFM20⟩, x21, rfl, hx21, hpx21_0, hpx21_1⟩ := hr
      have hWM20 : qFm [98] M M20 := hWM17.tr hFM20 (by decide)
      have e22 : M20 98 6 = M17 98 6 := hpx21_1 _ (by omega)
      show zG n (0, 0) d 188 (66, [.inr (.inr (some 97)), .inl a1, .inl x8], [.inl x21]) M20 _
      exact zG_ret hd0 hz rfl rfl ⟨⟨hCM20, hWM20⟩, _, rfl, by omega, by omega⟩
    · refine zG_blk (c' := (23, [.inr (.inr (some 97)), .inl a1, zN], [.inl (-4)])) 1 hd0 hz (by rfl) ?_
      exact zG_ret hd0 hz rfl rfl ⟨⟨hC, hW⟩, _, rfl, by omega, by omega⟩
  · refine zG_blk (c' := (9, [.inr (.inr (some 97)), .inl a1, zN], [.inl (-2)])) 1 hd0 hz (by rfl) ?_
    exact zG_ret hd0 hz rfl rfl ⟨⟨hC, hW⟩, _, rfl, by omega, by omega⟩
theorem qm_189_97 {n d : Nat} {M : zM} (hd : 2 ≤ d) (hC : qMI M)  (a1 : Int) (ha1 : (-2147483648) ≤ a1 ∧ a1 ≤ 2147483647) (a2 : Int) (ha2 : (-2147483648) ≤ a2 ∧ a2 ≤ 2147483647) : qOkN n d 189 [.inr (.inr (some 97)), .inl a1, .inl a2] 3 [98] M (fun v M' => ∃ x : Int, v = some (.inl x) ∧ ((-2147483648) ≤ x ∧ x ≤ 2147483647) ∧ (M' 98 6 = M 98 6)) := by
  have hz : zP 189 = (zk_X11_board, 3, (0, 0)) := rfl
  have hd0 : 0 < d := by omega
  have hW : qFm [98] M M := qFm.rfl
  have r1 := hC.cnt6
  have r2 := hC.cnt2
  show zG n (0, 0) d 189 (0, [.inr (.inr (some 97)), .inl a1, .inl a2], []) M _
  refine zG_blk (c' := (5, [.inr (.inr (some 97)), .inl a1, .inl a2], [.inl 1023, .inl 1, .inl a1])) 3 hd0 hz (by rfl) ?_
  refine zG_call hd0 hz (rfl : zP 180 = (zk_X11_in, 3, (0, 0))) rfl rfl (Nat.le_of_ble_eq_true rfl) ⟨Nat.le_refl _, Nat.le_refl _⟩ (qx_in (by omega) hC   a1 (by omega) 1 (by omega) 1023 (by omega) ) (fun vr M3 hr => ?_)
  obtain ⟨hq, x4, rfl, hx4⟩ := hr
  replace hq := hq.symm; subst hq
  show zG n (0, 0) d 189 (8, [.inr (.inr (some 97)), .inl a1, .inl a2], [.inl x4]) M _
  have j21 : zG n (0, 0) d 189 (21, [.inr (.inr (some 97)), .inl a1, .inl a2], []) M (fun v M' => (qMI M' ∧ qFm [98] M M') ∧ ∃ x : Int, v = some (.inl x) ∧ ((-2147483648) ≤ x ∧ x ≤ 2147483647) ∧ (M' 98 6 = M 98 6)) := by
    refine zG_blk (c' := (23, [.inr (.inr (some 97)), .inl a1, .inl a2], [.inl (-2)])) 1 hd0 hz (by rfl) ?_
    exact zG_ret hd0 hz rfl rfl ⟨⟨hC, hW⟩, _, rfl, by omega, by omega⟩
  refine zG_if_eq hd0 hz rfl (fun hb5 => ?_) (fun hb5 => ?_)
  · exact j21
  · refine zG_blk (c' := (15, [.inr (.inr (some 97)), .inl a1, .inl a2], [.inl 10, .inl 1, .inl a2])) 3 hd0 hz (by rfl) ?_
    refine zG_call hd0 hz (rfl : zP 180 = (zk_X11_in, 3, (0, 0))) rfl rfl (Nat.le_of_ble_eq_true rfl) ⟨Nat.le_refl _, Nat.le_refl _⟩ (qx_in (by omega) hC   a2 (by omega) 1 (by omega) 10 (by omega) ) (fun vr M6 hr => ?_)
    obtain ⟨hq, x7, rfl, hx7⟩ := hr
    replace hq := hq.symm; subst hq
    show zG n (0, 0) d 189 (18, [.inr (.inr (some 97)), .inl a1, .inl a2], [.inl x7]) M _
    refine zG_if_ne hd0 hz rfl (fun hb8 => ?_) (fun hb8 => ?_)
    · refine zG_blk (c' := (29, [.inr (.inr (some 97)), .inl a1, .inl a2], [.inl 2, .inr (.inr (some 98))])) 3 hd0 hz (by rfl) ?_
      refine zG_iald hd0 hz rfl rfl (.inl rfl) (by omega) ?_
      show zG n (0, 0) d 189 (30, [.inr (.inr (some 97)), .inl a1, .inl a2], [.inl (M 98 2)]) M _
      refine zG_blk (c' := (31, [.inr (.inr (some 97)), .inl a1, .inl a2], [.inl 4, .inl (M 98 2)])) 1 hd0 hz (by rfl) ?_
      refine zG_icmp_ne hd0 hz rfl (fun hb9 => ?_) (fun hb9 => ?_)
      · refine zG_blk (c' := (50, [.inr (.inr (some 97)), .inl a1, .inl a2], [.inl 2, .inr (.inr (some 98)), .inl 2, .inl 140, .inr (.inr (some 98))])) 7 hd0 hz (by rfl) ?_
        refine zG_iald hd0 hz rfl rfl (.inl rfl) (by omega) ?_
        show zG n (0, 0) d 189 (51, [.inr (.inr (some 97)), .inl a1, .inl a2], [.inl (M 98 2), .inl 2, .inl 140, .inr (.inr (some 98))]) M _
        obtain ⟨x10, hx10⟩ : ∃ x : Int, x = w32 (2 * (M 98 2)) := ⟨_, rfl⟩
        have hx10e : x10 = 2 * (M 98 2) := by rw [hx10]; exact w32_id (by omega)
        obtain ⟨x11, hx11⟩ : ∃ x : Int, x = w32 (140 + x10) := ⟨_, rfl⟩
        have hx11e : x11 = 140 + x10 := by rw [hx11]; exact w32_id (by omega)
        refine zG_blk (c' := (54, [.inr (.inr (some 97)), .inl a1, .inl a2], [.inl a1, .inl x11, .inr (.inr (some 98))])) 3 hd0 hz (by subst hx11; subst hx10; rfl) ?_
        refine zG_iast hd0 hz rfl rfl (by omega) ?_
        obtain ⟨M12, hM12⟩ : ∃ X : zM, X = zput M 98 (x11 : Int).toNat a1 := ⟨_, rfl⟩
        rw [← hM12]
        have hCM12 : qMI M12 := by rw [hM12]; exact hC.put98' (by refine ⟨by omega, fun _ => by omega, fun _ => by omega, fun _ => by omega, fun _ => by omega, fun _ => by omega, fun _ => by omega, fun _ => by omega, fun c9 hc9 _ => by omega, fun u9 hu9 _ => by omega, fun m9 hm9 _ => by omega, fun a9 ha9 => ⟨fun _ => by omega, fun _ => by omega, fun _ => by omega, fun _ => by omega⟩, fun t9 ht9 _ => by omega, fun o9 ho9 _ => by omega⟩) (by omega) (by omega)
        have hWM12 : qFm [98] M M12 := by rw [hM12]; exact hW.pa (by decide) (by decide)
        have e13 : M12 98 6 = M 98 6 := by rw [hM12]; exact qput_nk (by omega)
        have e14 : M12 98 2 = M 98 2 := by rw [hM12]; exact qput_nk (by omega)
        show zG n (0, 0) d 189 (55, [.inr (.inr (some 97)), .inl a1, .inl a2], []) M12 _
        refine zG_blk (c' := (68, [.inr (.inr (some 97)), .inl a1, .inl a2], [.inl 2, .inr (.inr (some 98)), .inl 2, .inl 140, .inr (.inr (some 98))])) 7 hd0 hz (by rfl) ?_
        refine zG_iald hd0 hz rfl rfl (.inl rfl) (by omega) ?_
        show zG n (0, 0) d 189 (69, [.inr (.inr (some 97)), .inl a1, .inl a2], [.inl (M12 98 2), .inl 2, .inl 140, .inr (.inr (some 98))]) M12 _
        obtain ⟨x15, hx15⟩ : ∃ x : Int, x = w32 (2 * (M12 98 2)) := ⟨_, rfl⟩
        have hx15e : x15 = 2 * (M12 98 2) := by rw [hx15]; exact w32_id (by omega)
        obtain ⟨x16, hx16⟩ : ∃ x : Int, x = w32 (140 + x15) := ⟨_, rfl⟩
        have hx16e : x16 = 140 + x15 := by rw [hx16]; exact w32_id (by omega)
        obtain ⟨x17, hx17⟩ : ∃ x : Int, x = w32 (x16 + 1) := ⟨_, rfl⟩
        have hx17e : x17 = x16 + 1 := by rw [hx17]; exact w32_id (by omega)
        refine zG_blk (c' := (74, [.inr (.inr (some 97)), .inl a1, .inl a2], [.inl a2, .inl x17, .inr (.inr (some 98))])) 5 hd0 hz (by subst hx17; subst hx16; subst hx15; rfl) ?_
        refine zG_iast hd0 hz rfl rfl (by omega) ?_
        obtain ⟨M18, hM18⟩ : ∃ X : zM, X = zput M12 98 (x17 : Int).toNat a2 := ⟨_, rfl⟩
        rw [← hM18]
        have hCM18 : qMI M18 := by rw [hM18]; exact hCM12.put98' (by refine ⟨by omega, fun _ => by omega, fun _ => by omega, fun _ => by omega, fun _ => by omega, fun _ => by omega, fun _ => by omega, fun _ => by omega, fun c9 hc9 _ => by omega, fun u9 hu9 _ => by omega, fun m9 hm9 _ => by omega, fun a9 ha9 => ⟨fun _ => by omega, fun _ => by omega, fun _ => by omega, fun _ => by omega⟩, fun t9 ht9 _ => by omega, fun o9 ho9 _ => by omega⟩) (by omega) (by omega)
        have hWM18 : qFm [98] M M18 := by rw [hM18]; exact hWM12.pa (by decide) (by decide)
        have e19 : M18 98 6 = M12 98 6 := by rw [hM18]; exact qput_nk (by omega)
        have e20 : M18 98 2 = M12 98 2 := by rw [hM18]; exact qput_nk (by omega)
        show zG n (0, 0) d 189 (75, [.inr (.inr (some 97)), .inl a1, .inl a2], []) M18 _
        refine zG_blk (c' := (77, [.inr (.inr (some 97)), .inl a1, .inl a2], [.inl 2, .inr (.inr (some 97))])) 2 hd0 hz (by rfl) ?_
        refine zG_call hd0 hz (rfl : zP 183 = (zk_X11_one, 2, (0, 0))) rfl rfl (Nat.le_of_ble_eq_true rfl) ⟨Nat.le_refl _, Nat.le_refl _⟩ (qx_oneC (by omega) hCM18   2 (by decide) (by decide) (by refine ⟨by omega, fun _ => by omega, fun _ => by omega, fun _ => by omega, fun _ => by omega, fun _ => by omega, fun _ => by omega, fun _ => by omega, fun c9 hc9 _ => by omega, fun u9 hu9 _ => by omega, fun m9 hm9 _ => by omega, fun a9 ha9 => ⟨fun _ => by omega, fun _ => by omega, fun _ => by omega, fun _ => by omega⟩, fun t9 ht9 _ => by omega, fun o9 ho9 _ => by omega⟩) ) (fun vr M21 hr => ?_)
        obtain ⟨⟨hCM21, hFM21⟩, x22, rfl, hx22, hpx22_0, hpx22_1⟩ := hr
        have hWM21 : qFm [98] M M21 := hWM18.tr hFM21 (by decide)
        have e23 : M21 98 6 = M18 98 6 := hpx22_1 _ (by omega)
        show zG n (0, 0) d 189 (80, [.inr (.inr (some 97)), .inl a1, .inl a2], [.inl x22]) M21 _
        exact zG_ret hd0 hz rfl rfl ⟨⟨hCM21, hWM21⟩, _, rfl, by omega, by omega⟩
      · refine zG_blk (c' := (36, [.inr (.inr (some 97)), .inl a1, .inl a2], [.inl (-4)])) 1 hd0 hz (by rfl) ?_
        exact zG_ret hd0 hz rfl rfl ⟨⟨hC, hW⟩, _, rfl, by omega, by omega⟩
    · exact j21
theorem qm_190_97 {n d : Nat} {M : zM} (hd : 3 ≤ d) (hC : qMI M)  (a1 : Int) (ha1 : (-2147483648) ≤ a1 ∧ a1 ≤ 2147483647) (a2 : Int) (ha2 : (-2147483648) ≤ a2 ∧ a2 ≤ 2147483647) (a3 : Int) (ha3 : (-2147483648) ≤ a3 ∧ a3 ≤ 2147483647) (a4 : Int) (ha4 : (-2147483648) ≤ a4 ∧ a4 ≤ 2147483647) : qOkN n d 190 [.inr (.inr (some 97)), .inl a1, .inl a2, .inl a3, .inl a4] 6 [98] M (fun v M' => ∃ x : Int, v = some (.inl x) ∧ ((-2147483648) ≤ x ∧ x ≤ 2147483647) ∧ (M' 98 6 = M 98 6)) := by
  have hz : zP 190 = (zk_X11_meeting, 6, (0, 0)) := rfl
  have hd0 : 0 < d := by omega
  have hW : qFm [98] M M := qFm.rfl
  have r1 := hC.cnt6
  have r2 := hC.cnt3
  have r3 := hC.cnt2
  show zG n (0, 0) d 190 (0, [.inr (.inr (some 97)), .inl a1, .inl a2, .inl a3, .inl a4, zN], []) M _
  refine zG_blk (c' := (3, [.inr (.inr (some 97)), .inl a1, .inl a2, .inl a3, .inl a4, zN], [.inl a1, .inl 2, .inr (.inr (some 97))])) 3 hd0 hz (by rfl) ?_
  refine zG_call hd0 hz (rfl : zP 182 = (zk_X11_is, 3, (0, 0))) rfl rfl (Nat.le_of_ble_eq_true rfl) ⟨Nat.le_refl _, Nat.le_refl _⟩ (qx_is (by omega) hC   2 (by omega) a1 (by omega) ) (fun vr M4 hr => ?_)
  obtain ⟨hq, x5, rfl, hx5⟩ := hr
  replace hq := hq.symm; subst hq
  show zG n (0, 0) d 190 (6, [.inr (.inr (some 97)), .inl a1, .inl a2, .inl a3, .inl a4, zN], [.inl x5]) M _
  have j39 : zG n (0, 0) d 190 (39, [.inr (.inr (some 97)), .inl a1, .inl a2, .inl a3, .inl a4, zN], []) M (fun v M' => (qMI M' ∧ qFm [98] M M') ∧ ∃ x : Int, v = some (.inl x) ∧ ((-2147483648) ≤ x ∧ x ≤ 2147483647) ∧ (M' 98 6 = M 98 6)) := by
    refine zG_blk (c' := (41, [.inr (.inr (some 97)), .inl a1, .inl a2, .inl a3, .inl a4, zN], [.inl (-2)])) 1 hd0 hz (by rfl) ?_
    exact zG_ret hd0 hz rfl rfl ⟨⟨hC, hW⟩, _, rfl, by omega, by omega⟩
  refine zG_if_eq hd0 hz rfl (fun hb6 => ?_) (fun hb6 => ?_)
  · exact j39
  · refine zG_blk (c' := (10, [.inr (.inr (some 97)), .inl a1, .inl a2, .inl a3, .inl a4, zN], [.inl a2])) 1 hd0 hz (by rfl) ?_
    refine zG_call hd0 hz (rfl : zP 184 = (zk_X11_isDay, 1, (0, 0))) rfl rfl (Nat.le_of_ble_eq_true rfl) ⟨Nat.le_refl _, Nat.le_refl _⟩ (qm_184 (by omega) hC   a2 (by omega) ) (fun vr M7 hr => ?_)
    obtain ⟨hq, x8, rfl, hx8, hpx8_0⟩ := hr
    replace hq := hq.symm; subst hq
    show zG n (0, 0) d 190 (13, [.inr (.inr (some 97)), .inl a1, .inl a2, .inl a3, .inl a4, zN], [.inl x8]) M _
    refine zG_if_eq hd0 hz rfl (fun hb9 => ?_) (fun hb9 => ?_)
    · exact j39
    · refine zG_blk (c' := (21, [.inr (.inr (some 97)), .inl a1, .inl a2, .inl a3, .inl a4, zN], [.inl 1023, .inl 0, .inl a3])) 3 hd0 hz (by rfl) ?_
      refine zG_call hd0 hz (rfl : zP 180 = (zk_X11_in, 3, (0, 0))) rfl rfl (Nat.le_of_ble_eq_true rfl) ⟨Nat.le_refl _, Nat.le_refl _⟩ (qx_in (by omega) hC   a3 (by omega) 0 (by omega) 1023 (by omega) ) (fun vr M10 hr => ?_)
      obtain ⟨hq, x11, rfl, hx11⟩ := hr
      replace hq := hq.symm; subst hq
      show zG n (0, 0) d 190 (24, [.inr (.inr (some 97)), .inl a1, .inl a2, .inl a3, .inl a4, zN], [.inl x11]) M _
      refine zG_if_eq hd0 hz rfl (fun hb12 => ?_) (fun hb12 => ?_)
      · exact j39
      · refine zG_blk (c' := (33, [.inr (.inr (some 97)), .inl a1, .inl a2, .inl a3, .inl a4, zN], [.inl 1023, .inl 0, .inl a4])) 3 hd0 hz (by rfl) ?_
        refine zG_call hd0 hz (rfl : zP 180 = (zk_X11_in, 3, (0, 0))) rfl rfl (Nat.le_of_ble_eq_true rfl) ⟨Nat.le_refl _, Nat.le_refl _⟩ (qx_in (by omega) hC   a4 (by omega) 0 (by omega) 1023 (by omega) ) (fun vr M13 hr => ?_)
        obtain ⟨hq, x14, rfl, hx14⟩ := hr
        replace hq := hq.symm; subst hq
        show zG n (0, 0) d 190 (36, [.inr (.inr (some 97)), .inl a1, .inl a2, .inl a3, .inl a4, zN], [.inl x14]) M _
        refine zG_if_ne hd0 hz rfl (fun hb15 => ?_) (fun hb15 => ?_)
        · refine zG_blk (c' := (47, [.inr (.inr (some 97)), .inl a1, .inl a2, .inl a3, .inl a4, zN], [.inl 3, .inr (.inr (some 98))])) 3 hd0 hz (by rfl) ?_
          refine zG_iald hd0 hz rfl rfl (.inl rfl) (by omega) ?_
          show zG n (0, 0) d 190 (48, [.inr (.inr (some 97)), .inl a1, .inl a2, .inl a3, .inl a4, zN], [.inl (M 98 3)]) M _
          refine zG_blk (c' := (50, [.inr (.inr (some 97)), .inl a1, .inl a2, .inl a3, .inl a4, zN], [.inl 40, .inl (M 98 3)])) 1 hd0 hz (by rfl) ?_
          refine zG_icmp_ne hd0 hz rfl (fun hb16 => ?_) (fun hb16 => ?_)
          · refine zG_blk (c' := (65, [.inr (.inr (some 97)), .inl a1, .inl a2, .inl a3, .inl a4, zN], [.inl 3, .inr (.inr (some 98)), .inl 5, .inl 150])) 5 hd0 hz (by rfl) ?_
            refine zG_iald hd0 hz rfl rfl (.inl rfl) (by omega) ?_
            show zG n (0, 0) d 190 (66, [.inr (.inr (some 97)), .inl a1, .inl a2, .inl a3, .inl a4, zN], [.inl (M 98 3), .inl 5, .inl 150]) M _
            obtain ⟨x17, hx17⟩ : ∃ x : Int, x = w32 (5 * (M 98 3)) := ⟨_, rfl⟩
            have hx17e : x17 = 5 * (M 98 3) := by rw [hx17]; exact w32_id (by omega)
            obtain ⟨x18, hx18⟩ : ∃ x : Int, x = w32 (150 + x17) := ⟨_, rfl⟩
            have hx18e : x18 = 150 + x17 := by rw [hx18]; exact w32_id (by omega)
            refine zG_blk (c' := (77, [.inr (.inr (some 97)), .inl a1, .inl a2, .inl a3, .inl a4, .inl x18], [.inl a1, .inl x18, .inr (.inr (some 98))])) 7 hd0 hz (by subst hx18; subst hx17; rfl) ?_
            refine zG_iast hd0 hz rfl rfl (by omega) ?_
            obtain ⟨M19, hM19⟩ : ∃ X : zM, X = zput M 98 (x18 : Int).toNat a1 := ⟨_, rfl⟩
            rw [← hM19]
            have hCM19 : qMI M19 := by rw [hM19]; exact hC.put98' (by refine ⟨by omega, fun _ => by omega, fun _ => by omega, fun _ => by omega, fun _ => by omega, fun _ => by omega, fun _ => by omega, fun _ => by omega, fun c9 hc9 _ => by omega, fun u9 hu9 _ => by omega, fun m9 hm9 _ => by omega, fun a9 ha9 => ⟨fun _ => by omega, fun _ => by omega, fun _ => by omega, fun _ => by omega⟩, fun t9 ht9 _ => by omega, fun o9 ho9 _ => by omega⟩) (by omega) (by omega)
            have hWM19 : qFm [98] M M19 := by rw [hM19]; exact hW.pa (by decide) (by decide)
            have e20 : M19 98 6 = M 98 6 := by rw [hM19]; exact qput_nk (by omega)
            have e21 : M19 98 3 = M 98 3 := by rw [hM19]; exact qput_nk (by omega)
            have e22 : M19 98 2 = M 98 2 := by rw [hM19]; exact qput_nk (by omega)
            show zG n (0, 0) d 190 (78, [.inr (.inr (some 97)), .inl a1, .inl a2, .inl a3, .inl a4, .inl x18], []) M19 _
            obtain ⟨x23, hx23⟩ : ∃ x : Int, x = w32 (x18 + 1) := ⟨_, rfl⟩
            have hx23e : x23 = x18 + 1 := by rw [hx23]; exact w32_id (by omega)
            refine zG_blk (c' := (87, [.inr (.inr (some 97)), .inl a1, .inl a2, .inl a3, .inl a4, .inl x18], [.inl a2, .inl x23, .inr (.inr (some 98))])) 6 hd0 hz (by subst hx23; rfl) ?_
            refine zG_iast hd0 hz rfl rfl (by omega) ?_
            obtain ⟨M24, hM24⟩ : ∃ X : zM, X = zput M19 98 (x23 : Int).toNat a2 := ⟨_, rfl⟩
            rw [← hM24]
            have hCM24 : qMI M24 := by rw [hM24]; exact hCM19.put98' (by refine ⟨by omega, fun _ => by omega, fun _ => by omega, fun _ => by omega, fun _ => by omega, fun _ => by omega, fun _ => by omega, fun _ => by omega, fun c9 hc9 _ => by omega, fun u9 hu9 _ => by omega, fun m9 hm9 _ => by omega, fun a9 ha9 => ⟨fun _ => by omega, fun _ => by omega, fun _ => by omega, fun _ => by omega⟩, fun t9 ht9 _ => by omega, fun o9 ho9 _ => by omega⟩) (by omega) (by omega)
            have hWM24 : qFm [98] M M24 := by rw [hM24]; exact hWM19.pa (by decide) (by decide)
            have e25 : M24 98 6 = M19 98 6 := by rw [hM24]; exact qput_nk (by omega)
            have e26 : M24 98 3 = M19 98 3 := by rw [hM24]; exact qput_nk (by omega)
            have e27 : M24 98 2 = M19 98 2 := by rw [hM24]; exact qput_nk (by omega)
            show zG n (0, 0) d 190 (88, [.inr (.inr (some 97)), .inl a1, .inl a2, .inl a3, .inl a4, .inl x18], []) M24 _
            obtain ⟨x28, hx28⟩ : ∃ x : Int, x = w32 (x18 + 2) := ⟨_, rfl⟩
            have hx28e : x28 = x18 + 2 := by rw [hx28]; exact w32_id (by omega)
            refine zG_blk (c' := (97, [.inr (.inr (some 97)), .inl a1, .inl a2, .inl a3, .inl a4, .inl x18], [.inl a3, .inl x28, .inr (.inr (some 98))])) 6 hd0 hz (by subst hx28; rfl) ?_
            refine zG_iast hd0 hz rfl rfl (by omega) ?_
            obtain ⟨M29, hM29⟩ : ∃ X : zM, X = zput M24 98 (x28 : Int).toNat a3 := ⟨_, rfl⟩
            rw [← hM29]
            have hCM29 : qMI M29 := by rw [hM29]; exact hCM24.put98' (by refine ⟨by omega, fun _ => by omega, fun _ => by omega, fun _ => by omega, fun _ => by omega, fun _ => by omega, fun _ => by omega, fun _ => by omega, fun c9 hc9 _ => by omega, fun u9 hu9 _ => by omega, fun m9 hm9 _ => by omega, fun a9 ha9 => ⟨fun _ => by omega, fun _ => by omega, fun _ => by omega, fun _ => by omega⟩, fun t9 ht9 _ => by omega, fun o9 ho9 _ => by omega⟩) (by omega) (by omega)
            have hWM29 : qFm [98] M M29 := by rw [hM29]; exact hWM24.pa (by decide) (by decide)
            have e30 : M29 98 6 = M24 98 6 := by rw [hM29]; exact qput_nk (by omega)
            have e31 : M29 98 3 = M24 98 3 := by rw [hM29]; exact qput_nk (by omega)
            have e32 : M29 98 2 = M24 98 2 := by rw [hM29]; exact qput_nk (by omega)
            show zG n (0, 0) d 190 (98, [.inr (.inr (some 97)), .inl a1, .inl a2, .inl a3, .inl a4, .inl x18], []) M29 _
            obtain ⟨x33, hx33⟩ : ∃ x : Int, x = w32 (x18 + 3) := ⟨_, rfl⟩
            have hx33e : x33 = x18 + 3 := by rw [hx33]; exact w32_id (by omega)
            refine zG_blk (c' := (108, [.inr (.inr (some 97)), .inl a1, .inl a2, .inl a3, .inl a4, .inl x18], [.inl a4, .inl x33, .inr (.inr (some 98))])) 6 hd0 hz (by subst hx33; rfl) ?_
            refine zG_iast hd0 hz rfl rfl (by omega) ?_
            obtain ⟨M34, hM34⟩ : ∃ X : zM, X = zput M29 98 (x33 : Int).toNat a4 := ⟨_, rfl⟩
            rw [← hM34]
            have hCM34 : qMI M34 := by rw [hM34]; exact hCM29.put98' (by refine ⟨by omega, fun _ => by omega, fun _ => by omega, fun _ => by omega, fun _ => by omega, fun _ => by omega, fun _ => by omega, fun _ => by omega, fun c9 hc9 _ => by omega, fun u9 hu9 _ => by omega, fun m9 hm9 _ => by omega, fun a9 ha9 => ⟨fun _ => by omega, fun _ => by omega, fun _ => by omega, fun _ => by omega⟩, fun t9 ht9 _ => by omega, fun o9 ho9 _ => by omega⟩) (by omega) (by omega)
            have hWM34 : qFm [98] M M34 := by rw [hM34]; exact hWM29.pa (by decide) (by decide)
            have e35 : M34 98 6 = M29 98 6 := by rw [hM34]; exact qput_nk (by omega)
            have e36 : M34 98 3 = M29 98 3 := by rw [hM34]; exact qput_nk (by omega)
            have e37 : M34 98 2 = M29 98 2 := by rw [hM34]; exact qput_nk (by omega)
            show zG n (0, 0) d 190 (109, [.inr (.inr (some 97)), .inl a1, .inl a2, .inl a3, .inl a4, .inl x18], []) M34 _
            obtain ⟨x38, hx38⟩ : ∃ x : Int, x = w32 (x18 + 4) := ⟨_, rfl⟩
            have hx38e : x38 = x18 + 4 := by rw [hx38]; exact w32_id (by omega)
            refine zG_blk (c' := (118, [.inr (.inr (some 97)), .inl a1, .inl a2, .inl a3, .inl a4, .inl x18], [.inl 0, .inl x38, .inr (.inr (some 98))])) 6 hd0 hz (by subst hx38; rfl) ?_
            refine zG_iast hd0 hz rfl rfl (by omega) ?_
            obtain ⟨M39, hM39⟩ : ∃ X : zM, X = zput M34 98 (x38 : Int).toNat 0 := ⟨_, rfl⟩
            rw [← hM39]
            have hCM39 : qMI M39 := by rw [hM39]; exact hCM34.put98' (by refine ⟨by omega, fun _ => by omega, fun _ => by omega, fun _ => by omega, fun _ => by omega, fun _ => by omega, fun _ => by omega, fun _ => by omega, fun c9 hc9 _ => by omega, fun u9 hu9 _ => by omega, fun m9 hm9 _ => by omega, fun a9 ha9 => ⟨fun _ => by omega, fun _ => by omega, fun _ => by omega, fun _ => by omega⟩, fun t9 ht9 _ => by omega, fun o9 ho9 _ => by omega⟩) (by omega) (by omega)
            have hWM39 : qFm [98] M M39 := by rw [hM39]; exact hWM34.pa (by decide) (by decide)
            have e40 : M39 98 6 = M34 98 6 := by rw [hM39]; exact qput_nk (by omega)
            have e41 : M39 98 3 = M34 98 3 := by rw [hM39]; exact qput_nk (by omega)
            have e42 : M39 98 2 = M34 98 2 := by rw [hM39]; exact qput_nk (by omega)
            show zG n (0, 0) d 190 (119, [.inr (.inr (some 97)), .inl a1, .inl a2, .inl a3, .inl a4, .inl x18], []) M39 _
            refine zG_blk (c' := (121, [.inr (.inr (some 97)), .inl a1, .inl a2, .inl a3, .inl a4, .inl x18], [.inl 3, .inr (.inr (some 97))])) 2 hd0 hz (by rfl) ?_
            refine zG_call hd0 hz (rfl : zP 183 = (zk_X11_one, 2, (0, 0))) rfl rfl (Nat.le_of_ble_eq_true rfl) ⟨Nat.le_refl _, Nat.le_refl _⟩ (qx_oneC (by omega) hCM39   3 (by decide) (by decide) (by refine ⟨by omega, fun _ => by omega, fun _ => by omega, fun _ => by omega, fun _ => by omega, fun _ => by omega, fun _ => by omega, fun _ => by omega, fun c9 hc9 _ => by omega, fun u9 hu9 _ => by omega, fun m9 hm9 _ => by omega, fun a9 ha9 => ⟨fun _ => by omega, fun _ => by omega, fun _ => by omega, fun _ => by omega⟩, fun t9 ht9 _ => by omega, fun o9 ho9 _ => by omega⟩) ) (fun vr M43 hr => ?_)
            obtain ⟨⟨hCM43, hFM43⟩, x44, rfl, hx44, hpx44_0, hpx44_1⟩ := hr
            have hWM43 : qFm [98] M M43 := hWM39.tr hFM43 (by decide)
            have e45 : M43 98 6 = M39 98 6 := hpx44_1 _ (by omega)
            have e47 : M43 98 2 = M39 98 2 := hpx44_1 _ (by omega)
            show zG n (0, 0) d 190 (124, [.inr (.inr (some 97)), .inl a1, .inl a2, .inl a3, .inl a4, .inl x18], [.inl x44]) M43 _
            exact zG_ret hd0 hz rfl rfl ⟨⟨hCM43, hWM43⟩, _, rfl, by omega, by omega⟩
          · refine zG_blk (c' := (55, [.inr (.inr (some 97)), .inl a1, .inl a2, .inl a3, .inl a4, zN], [.inl (-4)])) 1 hd0 hz (by rfl) ?_
            exact zG_ret hd0 hz rfl rfl ⟨⟨hC, hW⟩, _, rfl, by omega, by omega⟩
        · exact j39
theorem qm_191_97 {n d : Nat} {M : zM} (hd : 3 ≤ d) (hC : qMI M)  (a1 : Int) (ha1 : (-2147483648) ≤ a1 ∧ a1 ≤ 2147483647) (a2 : Int) (ha2 : 0 ≤ a2 ∧ a2 ≤ 1) : qOkN n d 191 [.inr (.inr (some 97)), .inl a1, .inl a2] 4 [98] M (fun v M' => ∃ x : Int, v = some (.inl x) ∧ ((-3) ≤ x ∧ x ≤ 1) ∧ (M' 98 6 = M 98 6)) := by
  have hz : zP 191 = (zk_X11_tear, 4, (0, 0)) := rfl
  have hd0 : 0 < d := by omega
  have hW : qFm [98] M M := qFm.rfl
  have r1 := hC.cnt6
  have r2 := hC.cnt3
  show zG n (0, 0) d 191 (0, [.inr (.inr (some 97)), .inl a1, .inl a2, zN], []) M _
  refine zG_blk (c' := (3, [.inr (.inr (some 97)), .inl a1, .inl a2, zN], [.inl a1, .inl 3, .inr (.inr (some 97))])) 3 hd0 hz (by rfl) ?_
  refine zG_call hd0 hz (rfl : zP 182 = (zk_X11_is, 3, (0, 0))) rfl rfl (Nat.le_of_ble_eq_true rfl) ⟨Nat.le_refl _, Nat.le_refl _⟩ (qx_is (by omega) hC   3 (by omega) a1 (by omega) ) (fun vr M3 hr => ?_)
  obtain ⟨hq, x4, rfl, hx4⟩ := hr
  replace hq := hq.symm; subst hq
  show zG n (0, 0) d 191 (6, [.inr (.inr (some 97)), .inl a1, .inl a2, zN], [.inl x4]) M _
  refine zG_if_ne hd0 hz rfl (fun hb5 => ?_) (fun hb5 => ?_)
  · obtain ⟨x6, hx6⟩ : ∃ x : Int, x = w32 (5 * a1) := ⟨_, rfl⟩
    have hx6r : qin x6 := by rw [hx6]; exact w32_in _
    obtain ⟨x7, hx7⟩ : ∃ x : Int, x = w32 (150 + x6) := ⟨_, rfl⟩
    have hx7r : x7 = (150 + x6 + 2147483648) % 4294967296 - 2147483648 := hx7
    obtain ⟨x8, hx8⟩ : ∃ x : Int, x = w32 (x7 + 4) := ⟨_, rfl⟩
    have hx8r : x8 = (x7 + 4 + 2147483648) % 4294967296 - 2147483648 := hx8
    refine zG_blk (c' := (27, [.inr (.inr (some 97)), .inl a1, .inl a2, .inl x8], [.inl x8, .inr (.inr (some 98))])) 11 hd0 hz (by subst hx8; subst hx7; subst hx6; rfl) ?_
    refine zG_iald hd0 hz rfl rfl (.inl rfl) (by omega) ?_
    obtain ⟨x9, hx9⟩ : ∃ x : Int, x = M 98 (x8 : Int).toNat := ⟨_, rfl⟩
    rw [← hx9]
    have hx9r : qin x9 := by rw [hx9]; exact hC.sin _
    show zG n (0, 0) d 191 (28, [.inr (.inr (some 97)), .inl a1, .inl a2, .inl x8], [.inl x9]) M _
    refine zG_blk (c' := (29, [.inr (.inr (some 97)), .inl a1, .inl a2, .inl x8], [.inl 1, .inl x9])) 1 hd0 hz (by rfl) ?_
    have j37 : ∀ (v10 : Int) , 0 ≤ v10 ∧ v10 ≤ 1 → zG n (0, 0) d 191 (37, [.inr (.inr (some 97)), .inl a1, .inl a2, .inl x8], [.inl v10]) M (fun v M' => (qMI M' ∧ qFm [98] M M') ∧ ∃ x : Int, v = some (.inl x) ∧ ((-3) ≤ x ∧ x ≤ 1) ∧ (M' 98 6 = M 98 6)) := by
      intro v10 hv10
      refine zG_blk (c' := (38, [.inr (.inr (some 97)), .inl a1, .inl a2, .inl x8], [.inl a2, .inl v10])) 1 hd0 hz (by rfl) ?_
      refine zG_icmp_ne hd0 hz rfl (fun hb11 => ?_) (fun hb11 => ?_)
      · refine zG_blk (c' := (50, [.inr (.inr (some 97)), .inl a1, .inl a2, .inl x8], [.inl a2, .inl x8, .inr (.inr (some 98))])) 4 hd0 hz (by rfl) ?_
        have j58 : ∀ (v12 : Int) , 0 ≤ v12 ∧ v12 ≤ 1 → zG n (0, 0) d 191 (58, [.inr (.inr (some 97)), .inl a1, .inl a2, .inl x8], [.inl v12, .inl x8, .inr (.inr (some 98))]) M (fun v M' => (qMI M' ∧ qFm [98] M M') ∧ ∃ x : Int, v = some (.inl x) ∧ ((-3) ≤ x ∧ x ≤ 1) ∧ (M' 98 6 = M 98 6)) := by
          intro v12 hv12
          refine zG_iast hd0 hz rfl rfl (by omega) ?_
          obtain ⟨M13, hM13⟩ : ∃ X : zM, X = zput M 98 (x8 : Int).toNat v12 := ⟨_, rfl⟩
          rw [← hM13]
          have hCM13 : qMI M13 := by rw [hM13]; exact hC.put98' (by refine ⟨by omega, fun _ => by omega, fun _ => by omega, fun _ => by omega, fun _ => by omega, fun _ => by omega, fun _ => by omega, fun _ => by omega, fun c9 hc9 _ => by omega, fun u9 hu9 _ => by omega, fun m9 hm9 _ => by omega, fun a9 ha9 => ⟨fun _ => by omega, fun _ => by omega, fun _ => by omega, fun _ => by omega⟩, fun t9 ht9 _ => by omega, fun o9 ho9 _ => by omega⟩) (by omega) (by omega)
          have hWM13 : qFm [98] M M13 := by rw [hM13]; exact hW.pa (by decide) (by decide)
          have e14 : M13 98 6 = M 98 6 := by rw [hM13]; exact qput_nk (by omega)
          have e15 : M13 98 3 = M 98 3 := by rw [hM13]; exact qput_nk (by omega)
          show zG n (0, 0) d 191 (59, [.inr (.inr (some 97)), .inl a1, .inl a2, .inl x8], []) M13 _
          refine zG_blk (c' := (60, [.inr (.inr (some 97)), .inl a1, .inl a2, .inl x8], [.inl 1])) 1 hd0 hz (by rfl) ?_
          exact zG_ret hd0 hz rfl rfl ⟨⟨hCM13, hWM13⟩, _, rfl, by omega, by omega⟩
        refine zG_if_eq hd0 hz rfl (fun hb16 => ?_) (fun hb16 => ?_)
        · refine zG_blk (c' := (58, [.inr (.inr (some 97)), .inl a1, .inl a2, .inl x8], [.inl 0, .inl x8, .inr (.inr (some 98))])) 1 hd0 hz (by rfl) ?_
          exact j58 0 (by omega)
        · refine zG_blk (c' := (58, [.inr (.inr (some 97)), .inl a1, .inl a2, .inl x8], [.inl 1, .inl x8, .inr (.inr (some 98))])) 2 hd0 hz (by rfl) ?_
          exact j58 1 (by omega)
      · refine zG_blk (c' := (43, [.inr (.inr (some 97)), .inl a1, .inl a2, .inl x8], [.inl (-3)])) 1 hd0 hz (by rfl) ?_
        exact zG_ret hd0 hz rfl rfl ⟨⟨hC, hW⟩, _, rfl, by omega, by omega⟩
    refine zG_icmp_ne hd0 hz rfl (fun hb17 => ?_) (fun hb17 => ?_)
    · refine zG_blk (c' := (37, [.inr (.inr (some 97)), .inl a1, .inl a2, .inl x8], [.inl 0])) 1 hd0 hz (by rfl) ?_
      exact j37 0 (by omega)
    · refine zG_blk (c' := (37, [.inr (.inr (some 97)), .inl a1, .inl a2, .inl x8], [.inl 1])) 2 hd0 hz (by rfl) ?_
      exact j37 1 (by omega)
  · refine zG_blk (c' := (11, [.inr (.inr (some 97)), .inl a1, .inl a2, zN], [.inl (-2)])) 1 hd0 hz (by rfl) ?_
    exact zG_ret hd0 hz rfl rfl ⟨⟨hC, hW⟩, _, rfl, by omega, by omega⟩
theorem qm_201_97 {n d : Nat} {M : zM} (hd : 3 ≤ d) (hC : qMI M)  (a1 : Int) (ha1 : (-2147483648) ≤ a1 ∧ a1 ≤ 2147483647) (a2 : Int) (ha2 : (-2147483648) ≤ a2 ∧ a2 ≤ 2147483647) (a3 : Int) (ha3 : (-2147483648) ≤ a3 ∧ a3 ≤ 2147483647) (a4 : Int) (ha4 : (-2147483648) ≤ a4 ∧ a4 ≤ 2147483647) (a5 : Int) (ha5 : (-2147483648) ≤ a5 ∧ a5 ≤ 2147483647) (a6 : Int) (ha6 : (-2147483648) ≤ a6 ∧ a6 ≤ 2147483647) : qOkN n d 201 [.inr (.inr (some 97)), .inl a1, .inl a2, .inl a3, .inl a4, .inl a5, .inl a6] 7 [98] M (fun v M' => ∃ x : Int, v = some (.inl x) ∧ ((-2147483648) ≤ x ∧ x ≤ 2147483647) ∧ (M' 98 6 = M 98 6)) := by
  have hz : zP 201 = (zk_X11_mark, 7, (0, 0)) := rfl
  have hd0 : 0 < d := by omega
  have hW : qFm [98] M M := qFm.rfl
  have r1 := hC.cnt6
  have r2 := hC.cnt4
  have r3 := hC.cnt1
  have r4 := hC.cnt0
  show zG n (0, 0) d 201 (0, [.inr (.inr (some 97)), .inl a1, .inl a2, .inl a3, .inl a4, .inl a5, .inl a6], []) M _
  refine zG_blk (c' := (3, [.inr (.inr (some 97)), .inl a1, .inl a2, .inl a3, .inl a4, .inl a5, .inl a6], [.inl a1, .inl 1, .inr (.inr (some 97))])) 3 hd0 hz (by rfl) ?_
  refine zG_call hd0 hz (rfl : zP 182 = (zk_X11_is, 3, (0, 0))) rfl rfl (Nat.le_of_ble_eq_true rfl) ⟨Nat.le_refl _, Nat.le_refl _⟩ (qx_is (by omega) hC   1 (by omega) a1 (by omega) ) (fun vr M5 hr => ?_)
  obtain ⟨hq, x6, rfl, hx6⟩ := hr
  replace hq := hq.symm; subst hq
  show zG n (0, 0) d 201 (6, [.inr (.inr (some 97)), .inl a1, .inl a2, .inl a3, .inl a4, .inl a5, .inl a6], [.inl x6]) M _
  have j56 : zG n (0, 0) d 201 (56, [.inr (.inr (some 97)), .inl a1, .inl a2, .inl a3, .inl a4, .inl a5, .inl a6], []) M (fun v M' => (qMI M' ∧ qFm [98] M M') ∧ ∃ x : Int, v = some (.inl x) ∧ ((-2147483648) ≤ x ∧ x ≤ 2147483647) ∧ (M' 98 6 = M 98 6)) := by
    refine zG_blk (c' := (58, [.inr (.inr (some 97)), .inl a1, .inl a2, .inl a3, .inl a4, .inl a5, .inl a6], [.inl (-2)])) 1 hd0 hz (by rfl) ?_
    exact zG_ret hd0 hz rfl rfl ⟨⟨hC, hW⟩, _, rfl, by omega, by omega⟩
  refine zG_if_eq hd0 hz rfl (fun hb7 => ?_) (fun hb7 => ?_)
  · exact j56
  · refine zG_blk (c' := (12, [.inr (.inr (some 97)), .inl a1, .inl a2, .inl a3, .inl a4, .inl a5, .inl a6], [.inl a2, .inl 0, .inr (.inr (some 97))])) 3 hd0 hz (by rfl) ?_
    refine zG_call hd0 hz (rfl : zP 182 = (zk_X11_is, 3, (0, 0))) rfl rfl (Nat.le_of_ble_eq_true rfl) ⟨Nat.le_refl _, Nat.le_refl _⟩ (qx_is (by omega) hC   0 (by omega) a2 (by omega) ) (fun vr M8 hr => ?_)
    obtain ⟨hq, x9, rfl, hx9⟩ := hr
    replace hq := hq.symm; subst hq
    show zG n (0, 0) d 201 (15, [.inr (.inr (some 97)), .inl a1, .inl a2, .inl a3, .inl a4, .inl a5, .inl a6], [.inl x9]) M _
    refine zG_if_eq hd0 hz rfl (fun hb10 => ?_) (fun hb10 => ?_)
    · exact j56
    · refine zG_blk (c' := (19, [.inr (.inr (some 97)), .inl a1, .inl a2, .inl a3, .inl a4, .inl a5, .inl a6], [.inl a3])) 1 hd0 hz (by rfl) ?_
      refine zG_call hd0 hz (rfl : zP 185 = (zk_X11_isMarkNumber, 1, (0, 0))) rfl rfl (Nat.le_of_ble_eq_true rfl) ⟨Nat.le_refl _, Nat.le_refl _⟩ (qm_185 (by omega) hC   a3 (by omega) ) (fun vr M11 hr => ?_)
      obtain ⟨hq, x12, rfl, hx12, hpx12_0⟩ := hr
      replace hq := hq.symm; subst hq
      show zG n (0, 0) d 201 (22, [.inr (.inr (some 97)), .inl a1, .inl a2, .inl a3, .inl a4, .inl a5, .inl a6], [.inl x12]) M _
      refine zG_if_eq hd0 hz rfl (fun hb13 => ?_) (fun hb13 => ?_)
      · exact j56
      · refine zG_blk (c' := (29, [.inr (.inr (some 97)), .inl a1, .inl a2, .inl a3, .inl a4, .inl a5, .inl a6], [.inl 4, .inl 0, .inl a4])) 3 hd0 hz (by rfl) ?_
        refine zG_call hd0 hz (rfl : zP 180 = (zk_X11_in, 3, (0, 0))) rfl rfl (Nat.le_of_ble_eq_true rfl) ⟨Nat.le_refl _, Nat.le_refl _⟩ (qx_in (by omega) hC   a4 (by omega) 0 (by omega) 4 (by omega) ) (fun vr M14 hr => ?_)
        obtain ⟨hq, x15, rfl, hx15⟩ := hr
        replace hq := hq.symm; subst hq
        show zG n (0, 0) d 201 (32, [.inr (.inr (some 97)), .inl a1, .inl a2, .inl a3, .inl a4, .inl a5, .inl a6], [.inl x15]) M _
        refine zG_if_eq hd0 hz rfl (fun hb16 => ?_) (fun hb16 => ?_)
        · exact j56
        · refine zG_blk (c' := (37, [.inr (.inr (some 97)), .inl a1, .inl a2, .inl a3, .inl a4, .inl a5, .inl a6], [.inl a5])) 1 hd0 hz (by rfl) ?_
          refine zG_call hd0 hz (rfl : zP 184 = (zk_X11_isDay, 1, (0, 0))) rfl rfl (Nat.le_of_ble_eq_true rfl) ⟨Nat.le_refl _, Nat.le_refl _⟩ (qm_184 (by omega) hC   a5 (by omega) ) (fun vr M17 hr => ?_)
          obtain ⟨hq, x18, rfl, hx18, hpx18_0⟩ := hr
          replace hq := hq.symm; subst hq
          show zG n (0, 0) d 201 (40, [.inr (.inr (some 97)), .inl a1, .inl a2, .inl a3, .inl a4, .inl a5, .inl a6], [.inl x18]) M _
          refine zG_if_eq hd0 hz rfl (fun hb19 => ?_) (fun hb19 => ?_)
          · exact j56
          · refine zG_blk (c' := (50, [.inr (.inr (some 97)), .inl a1, .inl a2, .inl a3, .inl a4, .inl a5, .inl a6], [.inl 9999, .inl a5, .inl a6])) 3 hd0 hz (by rfl) ?_
            refine zG_call hd0 hz (rfl : zP 180 = (zk_X11_in, 3, (0, 0))) rfl rfl (Nat.le_of_ble_eq_true rfl) ⟨Nat.le_refl _, Nat.le_refl _⟩ (qx_in (by omega) hC   a6 (by omega) a5 (by omega) 9999 (by omega) ) (fun vr M20 hr => ?_)
            obtain ⟨hq, x21, rfl, hx21⟩ := hr
            replace hq := hq.symm; subst hq
            show zG n (0, 0) d 201 (53, [.inr (.inr (some 97)), .inl a1, .inl a2, .inl a3, .inl a4, .inl a5, .inl a6], [.inl x21]) M _
            refine zG_if_ne hd0 hz rfl (fun hb22 => ?_) (fun hb22 => ?_)
            · refine zG_blk (c' := (60, [.inr (.inr (some 97)), .inl a1, .inl a2, .inl a3, .inl a4, .inl a5, .inl a6], [.inr (.inr (some 97))])) 1 hd0 hz (by rfl) ?_
              refine zG_call hd0 hz (rfl : zP 197 = (zk_X11_isFull, 1, (0, 0))) rfl rfl (Nat.le_of_ble_eq_true rfl) ⟨Nat.le_refl _, Nat.le_refl _⟩ (qx_isFull (by omega) hC    ) (fun vr M23 hr => ?_)
              obtain ⟨hq, x24, rfl, hx24⟩ := hr
              replace hq := hq.symm; subst hq
              show zG n (0, 0) d 201 (63, [.inr (.inr (some 97)), .inl a1, .inl a2, .inl a3, .inl a4, .inl a5, .inl a6], [.inl x24]) M _
              refine zG_if_eq hd0 hz rfl (fun hb25 => ?_) (fun hb25 => ?_)
              · refine zG_blk (c' := (76, [.inr (.inr (some 97)), .inl a1, .inl a2, .inl a3, .inl a4, .inl a5, .inl a6], [.inl (-1), .inl a6, .inl a5, .inl 0, .inr (.inr (some 97))])) 5 hd0 hz (by rfl) ?_
                refine zG_call hd0 hz (rfl : zP 196 = (zk_X11_begins, 6, (0, 0))) rfl rfl (Nat.le_of_ble_eq_true rfl) ⟨Nat.le_refl _, Nat.le_refl _⟩ (qx_begins (by omega) hC   0 a5 a6 (-1) (by omega) (by omega) (by omega) (M 98 4) (by omega) (by omega) (by omega) ) (fun vr M26 hr => ?_)
                obtain ⟨⟨hCM26, hFM26⟩, rfl, hpx27_0, hpx27_1, hpx27_2, hpx27_3, hpx27_4, hpx27_5, hpx27_6, hpx27_7, hpx27_8, hpx27_9, hpx27_10, hpx27_11, hpx27_12⟩ := hr
                have hWM26 : qFm [98] M M26 := hW.tr hFM26 (by decide)
                have e28 : M26 98 6 = M 98 6 := hpx27_12 _ (by omega)
                have e29 : M26 98 4 = M 98 4 := hpx27_12 _ (by omega)
                have e30 : M26 98 1 = M 98 1 := hpx27_12 _ (by omega)
                have e31 : M26 98 0 = M 98 0 := hpx27_12 _ (by omega)
                show zG n (0, 0) d 201 (79, [.inr (.inr (some 97)), .inl a1, .inl a2, .inl a3, .inl a4, .inl a5, .inl a6], []) M26 _
                refine zG_blk (c' := (82, [.inr (.inr (some 97)), .inl a1, .inl a2, .inl a3, .inl a4, .inl a5, .inl a6], [.inl a1, .inl 4, .inr (.inr (some 97))])) 3 hd0 hz (by rfl) ?_
                refine zG_call hd0 hz (rfl : zP 195 = (zk_X11_puts, 3, (0, 0))) rfl rfl (Nat.le_of_ble_eq_true rfl) ⟨Nat.le_refl _, Nat.le_refl _⟩ (qx_putsM (by omega) hCM26   4 a1 (by omega) (M 98 4) (by omega) (by omega) (by omega) (by refine ⟨fun _ => ?_, fun _ => ?_, fun _ => ?_, fun _ => ?_⟩ <;> omega) ) (fun vr M32 hr => ?_)
                obtain ⟨⟨hCM32, hFM32⟩, rfl, hpx33_0, hpx33_1⟩ := hr
                have hWM32 : qFm [98] M M32 := hWM26.tr hFM32 (by decide)
                have e34 : M32 98 6 = M26 98 6 := hpx33_1 _ (by omega)
                have e35 : M32 98 4 = M26 98 4 := hpx33_1 _ (by omega)
                have e36 : M32 98 1 = M26 98 1 := hpx33_1 _ (by omega)
                have e37 : M32 98 0 = M26 98 0 := hpx33_1 _ (by omega)
                have e38 : qA M32 (M 98 4) 0 = qA M26 (M 98 4) 0 := by unfold qA; exact hpx33_1 _ (by omega)
                have e39 : qA M32 (M 98 4) 1 = qA M26 (M 98 4) 1 := by unfold qA; exact hpx33_1 _ (by omega)
                have e40 : qA M32 (M 98 4) 2 = qA M26 (M 98 4) 2 := by unfold qA; exact hpx33_1 _ (by omega)
                have e41 : qA M32 (M 98 4) 3 = qA M26 (M 98 4) 3 := by unfold qA; exact hpx33_1 _ (by omega)
                have e43 : qA M32 (M 98 4) 5 = qA M26 (M 98 4) 5 := by unfold qA; exact hpx33_1 _ (by omega)
                have e44 : qA M32 (M 98 4) 6 = qA M26 (M 98 4) 6 := by unfold qA; exact hpx33_1 _ (by omega)
                have e45 : qA M32 (M 98 4) 7 = qA M26 (M 98 4) 7 := by unfold qA; exact hpx33_1 _ (by omega)
                have e46 : qA M32 (M 98 4) 8 = qA M26 (M 98 4) 8 := by unfold qA; exact hpx33_1 _ (by omega)
                have e47 : qA M32 (M 98 4) 9 = qA M26 (M 98 4) 9 := by unfold qA; exact hpx33_1 _ (by omega)
                have e48 : qA M32 (M 98 4) 10 = qA M26 (M 98 4) 10 := by unfold qA; exact hpx33_1 _ (by omega)
                have e49 : qA M32 (M 98 4) 11 = qA M26 (M 98 4) 11 := by unfold qA; exact hpx33_1 _ (by omega)
                show zG n (0, 0) d 201 (85, [.inr (.inr (some 97)), .inl a1, .inl a2, .inl a3, .inl a4, .inl a5, .inl a6], []) M32 _
                refine zG_blk (c' := (88, [.inr (.inr (some 97)), .inl a1, .inl a2, .inl a3, .inl a4, .inl a5, .inl a6], [.inl a2, .inl 5, .inr (.inr (some 97))])) 3 hd0 hz (by rfl) ?_
                refine zG_call hd0 hz (rfl : zP 195 = (zk_X11_puts, 3, (0, 0))) rfl rfl (Nat.le_of_ble_eq_true rfl) ⟨Nat.le_refl _, Nat.le_refl _⟩ (qx_putsM (by omega) hCM32   5 a2 (by omega) (M 98 4) (by omega) (by omega) (by omega) (by refine ⟨fun _ => ?_, fun _ => ?_, fun _ => ?_, fun _ => ?_⟩ <;> omega) ) (fun vr M50 hr => ?_)
                obtain ⟨⟨hCM50, hFM50⟩, rfl, hpx51_0, hpx51_1⟩ := hr
                have hWM50 : qFm [98] M M50 := hWM32.tr hFM50 (by decide)
                have e52 : M50 98 6 = M32 98 6 := hpx51_1 _ (by omega)
                have e53 : M50 98 4 = M32 98 4 := hpx51_1 _ (by omega)
                have e54 : M50 98 1 = M32 98 1 := hpx51_1 _ (by omega)
                have e55 : M50 98 0 = M32 98 0 := hpx51_1 _ (by omega)
                have e56 : qA M50 (M 98 4) 0 = qA M32 (M 98 4) 0 := by unfold qA; exact hpx51_1 _ (by omega)
                have e57 : qA M50 (M 98 4) 1 = qA M32 (M 98 4) 1 := by unfold qA; exact hpx51_1 _ (by omega)
                have e58 : qA M50 (M 98 4) 2 = qA M32 (M 98 4) 2 := by unfold qA; exact hpx51_1 _ (by omega)
                have e59 : qA M50 (M 98 4) 3 = qA M32 (M 98 4) 3 := by unfold qA; exact hpx51_1 _ (by omega)
                have e61 : qA M50 (M 98 4) 6 = qA M32 (M 98 4) 6 := by unfold qA; exact hpx51_1 _ (by omega)
                have e62 : qA M50 (M 98 4) 7 = qA M32 (M 98 4) 7 := by unfold qA; exact hpx51_1 _ (by omega)
                have e63 : qA M50 (M 98 4) 8 = qA M32 (M 98 4) 8 := by unfold qA; exact hpx51_1 _ (by omega)
                have e64 : qA M50 (M 98 4) 9 = qA M32 (M 98 4) 9 := by unfold qA; exact hpx51_1 _ (by omega)
                have e65 : qA M50 (M 98 4) 10 = qA M32 (M 98 4) 10 := by unfold qA; exact hpx51_1 _ (by omega)
                have e66 : qA M50 (M 98 4) 11 = qA M32 (M 98 4) 11 := by unfold qA; exact hpx51_1 _ (by omega)
                have e67 : qA M50 (M 98 4) 4 = qA M32 (M 98 4) 4 := by unfold qA; exact hpx51_1 _ (by omega)
                show zG n (0, 0) d 201 (91, [.inr (.inr (some 97)), .inl a1, .inl a2, .inl a3, .inl a4, .inl a5, .inl a6], []) M50 _
                refine zG_blk (c' := (95, [.inr (.inr (some 97)), .inl a1, .inl a2, .inl a3, .inl a4, .inl a5, .inl a6], [.inl a3, .inl 7, .inr (.inr (some 97))])) 3 hd0 hz (by rfl) ?_
                refine zG_call hd0 hz (rfl : zP 195 = (zk_X11_puts, 3, (0, 0))) rfl rfl (Nat.le_of_ble_eq_true rfl) ⟨Nat.le_refl _, Nat.le_refl _⟩ (qx_putsM (by omega) hCM50   7 a3 (by omega) (M 98 4) (by omega) (by omega) (by omega) (by refine ⟨fun _ => ?_, fun _ => ?_, fun _ => ?_, fun _ => ?_⟩ <;> omega) ) (fun vr M68 hr => ?_)
                obtain ⟨⟨hCM68, hFM68⟩, rfl, hpx69_0, hpx69_1⟩ := hr
                have hWM68 : qFm [98] M M68 := hWM50.tr hFM68 (by decide)
                have e70 : M68 98 6 = M50 98 6 := hpx69_1 _ (by omega)
                have e71 : M68 98 4 = M50 98 4 := hpx69_1 _ (by omega)
                have e72 : M68 98 1 = M50 98 1 := hpx69_1 _ (by omega)
                have e73 : M68 98 0 = M50 98 0 := hpx69_1 _ (by omega)
                have e74 : qA M68 (M 98 4) 0 = qA M50 (M 98 4) 0 := by unfold qA; exact hpx69_1 _ (by omega)
                have e75 : qA M68 (M 98 4) 1 = qA M50 (M 98 4) 1 := by unfold qA; exact hpx69_1 _ (by omega)
                have e76 : qA M68 (M 98 4) 2 = qA M50 (M 98 4) 2 := by unfold qA; exact hpx69_1 _ (by omega)
                have e77 : qA M68 (M 98 4) 3 = qA M50 (M 98 4) 3 := by unfold qA; exact hpx69_1 _ (by omega)
                have e78 : qA M68 (M 98 4) 6 = qA M50 (M 98 4) 6 := by unfold qA; exact hpx69_1 _ (by omega)
                have e80 : qA M68 (M 98 4) 8 = qA M50 (M 98 4) 8 := by unfold qA; exact hpx69_1 _ (by omega)
                have e81 : qA M68 (M 98 4) 9 = qA M50 (M 98 4) 9 := by unfold qA; exact hpx69_1 _ (by omega)
                have e82 : qA M68 (M 98 4) 10 = qA M50 (M 98 4) 10 := by unfold qA; exact hpx69_1 _ (by omega)
                have e83 : qA M68 (M 98 4) 11 = qA M50 (M 98 4) 11 := by unfold qA; exact hpx69_1 _ (by omega)
                have e84 : qA M68 (M 98 4) 4 = qA M50 (M 98 4) 4 := by unfold qA; exact hpx69_1 _ (by omega)
                have e85 : qA M68 (M 98 4) 5 = qA M50 (M 98 4) 5 := by unfold qA; exact hpx69_1 _ (by omega)
                show zG n (0, 0) d 201 (98, [.inr (.inr (some 97)), .inl a1, .inl a2, .inl a3, .inl a4, .inl a5, .inl a6], []) M68 _
                refine zG_blk (c' := (103, [.inr (.inr (some 97)), .inl a1, .inl a2, .inl a3, .inl a4, .inl a5, .inl a6], [.inl a4, .inl 8, .inr (.inr (some 97))])) 3 hd0 hz (by rfl) ?_
                refine zG_call hd0 hz (rfl : zP 195 = (zk_X11_puts, 3, (0, 0))) rfl rfl (Nat.le_of_ble_eq_true rfl) ⟨Nat.le_refl _, Nat.le_refl _⟩ (qx_putsM (by omega) hCM68   8 a4 (by omega) (M 98 4) (by omega) (by omega) (by omega) (by refine ⟨fun _ => ?_, fun _ => ?_, fun _ => ?_, fun _ => ?_⟩ <;> omega) ) (fun vr M86 hr => ?_)
                obtain ⟨⟨hCM86, hFM86⟩, rfl, hpx87_0, hpx87_1⟩ := hr
                have hWM86 : qFm [98] M M86 := hWM68.tr hFM86 (by decide)
                have e88 : M86 98 6 = M68 98 6 := hpx87_1 _ (by omega)
                have e89 : M86 98 4 = M68 98 4 := hpx87_1 _ (by omega)
                have e90 : M86 98 1 = M68 98 1 := hpx87_1 _ (by omega)
                have e91 : M86 98 0 = M68 98 0 := hpx87_1 _ (by omega)
                have e92 : qA M86 (M 98 4) 0 = qA M68 (M 98 4) 0 := by unfold qA; exact hpx87_1 _ (by omega)
                have e93 : qA M86 (M 98 4) 1 = qA M68 (M 98 4) 1 := by unfold qA; exact hpx87_1 _ (by omega)
                have e94 : qA M86 (M 98 4) 2 = qA M68 (M 98 4) 2 := by unfold qA; exact hpx87_1 _ (by omega)
                have e95 : qA M86 (M 98 4) 3 = qA M68 (M 98 4) 3 := by unfold qA; exact hpx87_1 _ (by omega)
                have e96 : qA M86 (M 98 4) 6 = qA M68 (M 98 4) 6 := by unfold qA; exact hpx87_1 _ (by omega)
                have e98 : qA M86 (M 98 4) 9 = qA M68 (M 98 4) 9 := by unfold qA; exact hpx87_1 _ (by omega)
                have e99 : qA M86 (M 98 4) 10 = qA M68 (M 98 4) 10 := by unfold qA; exact hpx87_1 _ (by omega)
                have e100 : qA M86 (M 98 4) 11 = qA M68 (M 98 4) 11 := by unfold qA; exact hpx87_1 _ (by omega)
                have e101 : qA M86 (M 98 4) 4 = qA M68 (M 98 4) 4 := by unfold qA; exact hpx87_1 _ (by omega)
                have e102 : qA M86 (M 98 4) 5 = qA M68 (M 98 4) 5 := by unfold qA; exact hpx87_1 _ (by omega)
                have e103 : qA M86 (M 98 4) 7 = qA M68 (M 98 4) 7 := by unfold qA; exact hpx87_1 _ (by omega)
                show zG n (0, 0) d 201 (106, [.inr (.inr (some 97)), .inl a1, .inl a2, .inl a3, .inl a4, .inl a5, .inl a6], []) M86 _
                refine zG_blk (c' := (108, [.inr (.inr (some 97)), .inl a1, .inl a2, .inl a3, .inl a4, .inl a5, .inl a6], [.inl 4, .inr (.inr (some 97))])) 2 hd0 hz (by rfl) ?_
                refine zG_call hd0 hz (rfl : zP 183 = (zk_X11_one, 2, (0, 0))) rfl rfl (Nat.le_of_ble_eq_true rfl) ⟨Nat.le_refl _, Nat.le_refl _⟩ (qx_one4 (by omega) hCM86   (M 98 4) (by omega) (by omega) (by refine ⟨?_, fun _ => ?_, fun _ => ?_, fun _ => ?_, fun _ => ?_, fun _ => ?_, fun _ => ?_, fun _ => ?_, fun _ => ?_, fun _ => ?_⟩ <;> omega) ) (fun vr M104 hr => ?_)
                obtain ⟨⟨hCM104, hFM104⟩, x105, rfl, hx105, hpx105_0, hpx105_1⟩ := hr
                have hWM104 : qFm [98] M M104 := hWM86.tr hFM104 (by decide)
                have e106 : M104 98 6 = M86 98 6 := hpx105_1 _ (by omega)
                have e108 : M104 98 1 = M86 98 1 := hpx105_1 _ (by omega)
                have e109 : M104 98 0 = M86 98 0 := hpx105_1 _ (by omega)
                have e110 : qA M104 (M 98 4) 0 = qA M86 (M 98 4) 0 := by unfold qA; exact hpx105_1 _ (by omega)
                have e111 : qA M104 (M 98 4) 1 = qA M86 (M 98 4) 1 := by unfold qA; exact hpx105_1 _ (by omega)
                have e112 : qA M104 (M 98 4) 2 = qA M86 (M 98 4) 2 := by unfold qA; exact hpx105_1 _ (by omega)
                have e113 : qA M104 (M 98 4) 3 = qA M86 (M 98 4) 3 := by unfold qA; exact hpx105_1 _ (by omega)
                have e114 : qA M104 (M 98 4) 6 = qA M86 (M 98 4) 6 := by unfold qA; exact hpx105_1 _ (by omega)
                have e115 : qA M104 (M 98 4) 9 = qA M86 (M 98 4) 9 := by unfold qA; exact hpx105_1 _ (by omega)
                have e116 : qA M104 (M 98 4) 10 = qA M86 (M 98 4) 10 := by unfold qA; exact hpx105_1 _ (by omega)
                have e117 : qA M104 (M 98 4) 11 = qA M86 (M 98 4) 11 := by unfold qA; exact hpx105_1 _ (by omega)
                have e118 : qA M104 (M 98 4) 4 = qA M86 (M 98 4) 4 := by unfold qA; exact hpx105_1 _ (by omega)
                have e119 : qA M104 (M 98 4) 5 = qA M86 (M 98 4) 5 := by unfold qA; exact hpx105_1 _ (by omega)
                have e120 : qA M104 (M 98 4) 7 = qA M86 (M 98 4) 7 := by unfold qA; exact hpx105_1 _ (by omega)
                have e121 : qA M104 (M 98 4) 8 = qA M86 (M 98 4) 8 := by unfold qA; exact hpx105_1 _ (by omega)
                show zG n (0, 0) d 201 (111, [.inr (.inr (some 97)), .inl a1, .inl a2, .inl a3, .inl a4, .inl a5, .inl a6], [.inl x105]) M104 _
                exact zG_ret hd0 hz rfl rfl ⟨⟨hCM104, hWM104⟩, _, rfl, by omega, by omega⟩
              · refine zG_blk (c' := (68, [.inr (.inr (some 97)), .inl a1, .inl a2, .inl a3, .inl a4, .inl a5, .inl a6], [.inl (-4)])) 1 hd0 hz (by rfl) ?_
                exact zG_ret hd0 hz rfl rfl ⟨⟨hC, hW⟩, _, rfl, by omega, by omega⟩
            · exact j56
theorem qm_202_97 {n d : Nat} {M : zM} (hd : 4 ≤ d) (hC : qMI M)  (a1 : Int) (ha1 : (-2147483648) ≤ a1 ∧ a1 ≤ 2147483647) (a2 : Int) (ha2 : (-2147483648) ≤ a2 ∧ a2 ≤ 2147483647) (a3 : Int) (ha3 : (-2147483648) ≤ a3 ∧ a3 ≤ 2147483647) (a4 : Int) (ha4 : (-2147483648) ≤ a4 ∧ a4 ≤ 2147483647) (a5 : Int) (ha5 : (-2147483648) ≤ a5 ∧ a5 ≤ 2147483647) : qOkN n d 202 [.inr (.inr (some 97)), .inl a1, .inl a2, .inl a3, .inl a4, .inl a5] 6 [98] M (fun v M' => ∃ x : Int, v = some (.inl x) ∧ ((-2147483648) ≤ x ∧ x ≤ 2147483647) ∧ (M' 98 6 = M 98 6)) := by
  have hz : zP 202 = (zk_X11_second, 6, (0, 0)) := rfl
  have hd0 : 0 < d := by omega
  have hW : qFm [98] M M := qFm.rfl
  have r1 := hC.cnt6
  have r2 := hC.cnt4
  show zG n (0, 0) d 202 (0, [.inr (.inr (some 97)), .inl a1, .inl a2, .inl a3, .inl a4, .inl a5], []) M _
  refine zG_blk (c' := (2, [.inr (.inr (some 97)), .inl a1, .inl a2, .inl a3, .inl a4, .inl a5], [.inl a1, .inr (.inr (some 97))])) 2 hd0 hz (by rfl) ?_
  refine zG_call hd0 hz (rfl : zP 198 = (zk_X11_isMark, 2, (0, 0))) rfl rfl (Nat.le_of_ble_eq_true rfl) ⟨Nat.le_refl _, Nat.le_refl _⟩ (qm_198_97 (by omega) hC   a1 (by omega) ) (fun vr M3 hr => ?_)
  obtain ⟨hq, x4, rfl, hx4, hpx4_0⟩ := hr
  replace hq := hq.symm; subst hq
  show zG n (0, 0) d 202 (5, [.inr (.inr (some 97)), .inl a1, .inl a2, .inl a3, .inl a4, .inl a5], [.inl x4]) M _
  have j65 : zG n (0, 0) d 202 (65, [.inr (.inr (some 97)), .inl a1, .inl a2, .inl a3, .inl a4, .inl a5], []) M (fun v M' => (qMI M' ∧ qFm [98] M M') ∧ ∃ x : Int, v = some (.inl x) ∧ ((-2147483648) ≤ x ∧ x ≤ 2147483647) ∧ (M' 98 6 = M 98 6)) := by
    refine zG_blk (c' := (67, [.inr (.inr (some 97)), .inl a1, .inl a2, .inl a3, .inl a4, .inl a5], [.inl (-2)])) 1 hd0 hz (by rfl) ?_
    exact zG_ret hd0 hz rfl rfl ⟨⟨hC, hW⟩, _, rfl, by omega, by omega⟩
  refine zG_if_eq hd0 hz rfl (fun hb5 => ?_) (fun hb5 => ?_)
  · exact j65
  · refine zG_blk (c' := (9, [.inr (.inr (some 97)), .inl a1, .inl a2, .inl a3, .inl a4, .inl a5], [.inl a2])) 1 hd0 hz (by rfl) ?_
    refine zG_call hd0 hz (rfl : zP 185 = (zk_X11_isMarkNumber, 1, (0, 0))) rfl rfl (Nat.le_of_ble_eq_true rfl) ⟨Nat.le_refl _, Nat.le_refl _⟩ (qm_185 (by omega) hC   a2 (by omega) ) (fun vr M6 hr => ?_)
    obtain ⟨hq, x7, rfl, hx7, hpx7_0⟩ := hr
    replace hq := hq.symm; subst hq
    show zG n (0, 0) d 202 (12, [.inr (.inr (some 97)), .inl a1, .inl a2, .inl a3, .inl a4, .inl a5], [.inl x7]) M _
    refine zG_if_eq hd0 hz rfl (fun hb8 => ?_) (fun hb8 => ?_)
    · exact j65
    · refine zG_blk (c' := (18, [.inr (.inr (some 97)), .inl a1, .inl a2, .inl a3, .inl a4, .inl a5], [.inl 4, .inl 0, .inl a3])) 3 hd0 hz (by rfl) ?_
      refine zG_call hd0 hz (rfl : zP 180 = (zk_X11_in, 3, (0, 0))) rfl rfl (Nat.le_of_ble_eq_true rfl) ⟨Nat.le_refl _, Nat.le_refl _⟩ (qx_in (by omega) hC   a3 (by omega) 0 (by omega) 4 (by omega) ) (fun vr M9 hr => ?_)
      obtain ⟨hq, x10, rfl, hx10⟩ := hr
      replace hq := hq.symm; subst hq
      show zG n (0, 0) d 202 (21, [.inr (.inr (some 97)), .inl a1, .inl a2, .inl a3, .inl a4, .inl a5], [.inl x10]) M _
      refine zG_if_eq hd0 hz rfl (fun hb11 => ?_) (fun hb11 => ?_)
      · exact j65
      · refine zG_blk (c' := (29, [.inr (.inr (some 97)), .inl a1, .inl a2, .inl a3, .inl a4, .inl a5], [.inl 8, .inl a1, .inr (.inr (some 97)), .inl a3])) 4 hd0 hz (by rfl) ?_
        refine zG_call hd0 hz (rfl : zP 194 = (zk_X11_act, 3, (0, 0))) rfl rfl (Nat.le_of_ble_eq_true rfl) ⟨Nat.le_refl _, Nat.le_refl _⟩ (qx_act0 (by omega) hC   a1 (by omega) 8 (by omega) ) (fun vr M12 hr => ?_)
        obtain ⟨hq, x13, rfl, hx13⟩ := hr
        replace hq := hq.symm; subst hq
        show zG n (0, 0) d 202 (32, [.inr (.inr (some 97)), .inl a1, .inl a2, .inl a3, .inl a4, .inl a5], [.inl x13, .inl a3]) M _
        refine zG_icmp_eq hd0 hz rfl (fun hb14 => ?_) (fun hb14 => ?_)
        · exact j65
        · refine zG_blk (c' := (40, [.inr (.inr (some 97)), .inl a1, .inl a2, .inl a3, .inl a4, .inl a5], [.inl 1, .inl a1, .inr (.inr (some 97)), .inl a4])) 4 hd0 hz (by rfl) ?_
          refine zG_call hd0 hz (rfl : zP 194 = (zk_X11_act, 3, (0, 0))) rfl rfl (Nat.le_of_ble_eq_true rfl) ⟨Nat.le_refl _, Nat.le_refl _⟩ (qx_act0 (by omega) hC   a1 (by omega) 1 (by omega) ) (fun vr M15 hr => ?_)
          obtain ⟨hq, x16, rfl, hx16⟩ := hr
          replace hq := hq.symm; subst hq
          show zG n (0, 0) d 202 (43, [.inr (.inr (some 97)), .inl a1, .inl a2, .inl a3, .inl a4, .inl a5], [.inl x16, .inl a4]) M _
          refine zG_blk (c' := (46, [.inr (.inr (some 97)), .inl a1, .inl a2, .inl a3, .inl a4, .inl a5], [.inl 9999, .inl x16, .inl a4])) 1 hd0 hz (by rfl) ?_
          refine zG_call hd0 hz (rfl : zP 180 = (zk_X11_in, 3, (0, 0))) rfl rfl (Nat.le_of_ble_eq_true rfl) ⟨Nat.le_refl _, Nat.le_refl _⟩ (qx_in (by omega) hC   a4 (by omega) x16 (by omega) 9999 (by omega) ) (fun vr M17 hr => ?_)
          obtain ⟨hq, x18, rfl, hx18⟩ := hr
          replace hq := hq.symm; subst hq
          show zG n (0, 0) d 202 (49, [.inr (.inr (some 97)), .inl a1, .inl a2, .inl a3, .inl a4, .inl a5], [.inl x18]) M _
          refine zG_if_eq hd0 hz rfl (fun hb19 => ?_) (fun hb19 => ?_)
          · exact j65
          · refine zG_blk (c' := (59, [.inr (.inr (some 97)), .inl a1, .inl a2, .inl a3, .inl a4, .inl a5], [.inl 9999, .inl a4, .inl a5])) 3 hd0 hz (by rfl) ?_
            refine zG_call hd0 hz (rfl : zP 180 = (zk_X11_in, 3, (0, 0))) rfl rfl (Nat.le_of_ble_eq_true rfl) ⟨Nat.le_refl _, Nat.le_refl _⟩ (qx_in (by omega) hC   a5 (by omega) a4 (by omega) 9999 (by omega) ) (fun vr M20 hr => ?_)
            obtain ⟨hq, x21, rfl, hx21⟩ := hr
            replace hq := hq.symm; subst hq
            show zG n (0, 0) d 202 (62, [.inr (.inr (some 97)), .inl a1, .inl a2, .inl a3, .inl a4, .inl a5], [.inl x21]) M _
            refine zG_if_ne hd0 hz rfl (fun hb22 => ?_) (fun hb22 => ?_)
            · refine zG_blk (c' := (69, [.inr (.inr (some 97)), .inl a1, .inl a2, .inl a3, .inl a4, .inl a5], [.inr (.inr (some 97))])) 1 hd0 hz (by rfl) ?_
              refine zG_call hd0 hz (rfl : zP 197 = (zk_X11_isFull, 1, (0, 0))) rfl rfl (Nat.le_of_ble_eq_true rfl) ⟨Nat.le_refl _, Nat.le_refl _⟩ (qx_isFull (by omega) hC    ) (fun vr M23 hr => ?_)
              obtain ⟨hq, x24, rfl, hx24⟩ := hr
              replace hq := hq.symm; subst hq
              show zG n (0, 0) d 202 (72, [.inr (.inr (some 97)), .inl a1, .inl a2, .inl a3, .inl a4, .inl a5], [.inl x24]) M _
              refine zG_if_eq hd0 hz rfl (fun hb25 => ?_) (fun hb25 => ?_)
              · refine zG_blk (c' := (85, [.inr (.inr (some 97)), .inl a1, .inl a2, .inl a3, .inl a4, .inl a5], [.inl (-1), .inl a5, .inl a4, .inl 1, .inr (.inr (some 97))])) 5 hd0 hz (by rfl) ?_
                refine zG_call hd0 hz (rfl : zP 196 = (zk_X11_begins, 6, (0, 0))) rfl rfl (Nat.le_of_ble_eq_true rfl) ⟨Nat.le_refl _, Nat.le_refl _⟩ (qx_begins (by omega) hC   1 a4 a5 (-1) (by omega) (by omega) (by omega) (M 98 4) (by omega) (by omega) (by omega) ) (fun vr M26 hr => ?_)
                obtain ⟨⟨hCM26, hFM26⟩, rfl, hpx27_0, hpx27_1, hpx27_2, hpx27_3, hpx27_4, hpx27_5, hpx27_6, hpx27_7, hpx27_8, hpx27_9, hpx27_10, hpx27_11, hpx27_12⟩ := hr
                have hWM26 : qFm [98] M M26 := hW.tr hFM26 (by decide)
                have e28 : M26 98 6 = M 98 6 := hpx27_12 _ (by omega)
                have e29 : M26 98 4 = M 98 4 := hpx27_12 _ (by omega)
                show zG n (0, 0) d 202 (88, [.inr (.inr (some 97)), .inl a1, .inl a2, .inl a3, .inl a4, .inl a5], []) M26 _
                refine zG_blk (c' := (92, [.inr (.inr (some 97)), .inl a1, .inl a2, .inl a3, .inl a4, .inl a5], [.inl a1, .inl 6, .inr (.inr (some 97))])) 3 hd0 hz (by rfl) ?_
                refine zG_call hd0 hz (rfl : zP 195 = (zk_X11_puts, 3, (0, 0))) rfl rfl (Nat.le_of_ble_eq_true rfl) ⟨Nat.le_refl _, Nat.le_refl _⟩ (qx_putsM (by omega) hCM26   6 a1 (by omega) (M 98 4) (by omega) (by omega) (by omega) (by refine ⟨fun _ => ?_, fun _ => ?_, fun _ => ?_, fun _ => ?_⟩ <;> omega) ) (fun vr M30 hr => ?_)
                obtain ⟨⟨hCM30, hFM30⟩, rfl, hpx31_0, hpx31_1⟩ := hr
                have hWM30 : qFm [98] M M30 := hWM26.tr hFM30 (by decide)
                have e32 : M30 98 6 = M26 98 6 := hpx31_1 _ (by omega)
                have e33 : M30 98 4 = M26 98 4 := hpx31_1 _ (by omega)
                have e34 : qA M30 (M 98 4) 0 = qA M26 (M 98 4) 0 := by unfold qA; exact hpx31_1 _ (by omega)
                have e35 : qA M30 (M 98 4) 1 = qA M26 (M 98 4) 1 := by unfold qA; exact hpx31_1 _ (by omega)
                have e36 : qA M30 (M 98 4) 2 = qA M26 (M 98 4) 2 := by unfold qA; exact hpx31_1 _ (by omega)
                have e37 : qA M30 (M 98 4) 3 = qA M26 (M 98 4) 3 := by unfold qA; exact hpx31_1 _ (by omega)
                have e38 : qA M30 (M 98 4) 4 = qA M26 (M 98 4) 4 := by unfold qA; exact hpx31_1 _ (by omega)
                have e39 : qA M30 (M 98 4) 5 = qA M26 (M 98 4) 5 := by unfold qA; exact hpx31_1 _ (by omega)
                have e41 : qA M30 (M 98 4) 7 = qA M26 (M 98 4) 7 := by unfold qA; exact hpx31_1 _ (by omega)
                have e42 : qA M30 (M 98 4) 8 = qA M26 (M 98 4) 8 := by unfold qA; exact hpx31_1 _ (by omega)
                have e43 : qA M30 (M 98 4) 9 = qA M26 (M 98 4) 9 := by unfold qA; exact hpx31_1 _ (by omega)
                have e44 : qA M30 (M 98 4) 10 = qA M26 (M 98 4) 10 := by unfold qA; exact hpx31_1 _ (by omega)
                have e45 : qA M30 (M 98 4) 11 = qA M26 (M 98 4) 11 := by unfold qA; exact hpx31_1 _ (by omega)
                show zG n (0, 0) d 202 (95, [.inr (.inr (some 97)), .inl a1, .inl a2, .inl a3, .inl a4, .inl a5], []) M30 _
                refine zG_blk (c' := (99, [.inr (.inr (some 97)), .inl a1, .inl a2, .inl a3, .inl a4, .inl a5], [.inl a2, .inl 7, .inr (.inr (some 97))])) 3 hd0 hz (by rfl) ?_
                refine zG_call hd0 hz (rfl : zP 195 = (zk_X11_puts, 3, (0, 0))) rfl rfl (Nat.le_of_ble_eq_true rfl) ⟨Nat.le_refl _, Nat.le_refl _⟩ (qx_putsM (by omega) hCM30   7 a2 (by omega) (M 98 4) (by omega) (by omega) (by omega) (by refine ⟨fun _ => ?_, fun _ => ?_, fun _ => ?_, fun _ => ?_⟩ <;> omega) ) (fun vr M46 hr => ?_)
                obtain ⟨⟨hCM46, hFM46⟩, rfl, hpx47_0, hpx47_1⟩ := hr
                have hWM46 : qFm [98] M M46 := hWM30.tr hFM46 (by decide)
                have e48 : M46 98 6 = M30 98 6 := hpx47_1 _ (by omega)
                have e49 : M46 98 4 = M30 98 4 := hpx47_1 _ (by omega)
                have e50 : qA M46 (M 98 4) 0 = qA M30 (M 98 4) 0 := by unfold qA; exact hpx47_1 _ (by omega)
                have e51 : qA M46 (M 98 4) 1 = qA M30 (M 98 4) 1 := by unfold qA; exact hpx47_1 _ (by omega)
                have e52 : qA M46 (M 98 4) 2 = qA M30 (M 98 4) 2 := by unfold qA; exact hpx47_1 _ (by omega)
                have e53 : qA M46 (M 98 4) 3 = qA M30 (M 98 4) 3 := by unfold qA; exact hpx47_1 _ (by omega)
                have e54 : qA M46 (M 98 4) 4 = qA M30 (M 98 4) 4 := by unfold qA; exact hpx47_1 _ (by omega)
                have e55 : qA M46 (M 98 4) 5 = qA M30 (M 98 4) 5 := by unfold qA; exact hpx47_1 _ (by omega)
                have e57 : qA M46 (M 98 4) 8 = qA M30 (M 98 4) 8 := by unfold qA; exact hpx47_1 _ (by omega)
                have e58 : qA M46 (M 98 4) 9 = qA M30 (M 98 4) 9 := by unfold qA; exact hpx47_1 _ (by omega)
                have e59 : qA M46 (M 98 4) 10 = qA M30 (M 98 4) 10 := by unfold qA; exact hpx47_1 _ (by omega)
                have e60 : qA M46 (M 98 4) 11 = qA M30 (M 98 4) 11 := by unfold qA; exact hpx47_1 _ (by omega)
                have e61 : qA M46 (M 98 4) 6 = qA M30 (M 98 4) 6 := by unfold qA; exact hpx47_1 _ (by omega)
                show zG n (0, 0) d 202 (102, [.inr (.inr (some 97)), .inl a1, .inl a2, .inl a3, .inl a4, .inl a5], []) M46 _
                refine zG_blk (c' := (106, [.inr (.inr (some 97)), .inl a1, .inl a2, .inl a3, .inl a4, .inl a5], [.inl a3, .inl 8, .inr (.inr (some 97))])) 3 hd0 hz (by rfl) ?_
                refine zG_call hd0 hz (rfl : zP 195 = (zk_X11_puts, 3, (0, 0))) rfl rfl (Nat.le_of_ble_eq_true rfl) ⟨Nat.le_refl _, Nat.le_refl _⟩ (qx_putsM (by omega) hCM46   8 a3 (by omega) (M 98 4) (by omega) (by omega) (by omega) (by refine ⟨fun _ => ?_, fun _ => ?_, fun _ => ?_, fun _ => ?_⟩ <;> omega) ) (fun vr M62 hr => ?_)
                obtain ⟨⟨hCM62, hFM62⟩, rfl, hpx63_0, hpx63_1⟩ := hr
                have hWM62 : qFm [98] M M62 := hWM46.tr hFM62 (by decide)
                have e64 : M62 98 6 = M46 98 6 := hpx63_1 _ (by omega)
                have e65 : M62 98 4 = M46 98 4 := hpx63_1 _ (by omega)
                have e66 : qA M62 (M 98 4) 0 = qA M46 (M 98 4) 0 := by unfold qA; exact hpx63_1 _ (by omega)
                have e67 : qA M62 (M 98 4) 1 = qA M46 (M 98 4) 1 := by unfold qA; exact hpx63_1 _ (by omega)
                have e68 : qA M62 (M 98 4) 2 = qA M46 (M 98 4) 2 := by unfold qA; exact hpx63_1 _ (by omega)
                have e69 : qA M62 (M 98 4) 3 = qA M46 (M 98 4) 3 := by unfold qA; exact hpx63_1 _ (by omega)
                have e70 : qA M62 (M 98 4) 4 = qA M46 (M 98 4) 4 := by unfold qA; exact hpx63_1 _ (by omega)
                have e71 : qA M62 (M 98 4) 5 = qA M46 (M 98 4) 5 := by unfold qA; exact hpx63_1 _ (by omega)
                have e73 : qA M62 (M 98 4) 9 = qA M46 (M 98 4) 9 := by unfold qA; exact hpx63_1 _ (by omega)
                have e74 : qA M62 (M 98 4) 10 = qA M46 (M 98 4) 10 := by unfold qA; exact hpx63_1 _ (by omega)
                have e75 : qA M62 (M 98 4) 11 = qA M46 (M 98 4) 11 := by unfold qA; exact hpx63_1 _ (by omega)
                have e76 : qA M62 (M 98 4) 6 = qA M46 (M 98 4) 6 := by unfold qA; exact hpx63_1 _ (by omega)
                have e77 : qA M62 (M 98 4) 7 = qA M46 (M 98 4) 7 := by unfold qA; exact hpx63_1 _ (by omega)
                show zG n (0, 0) d 202 (109, [.inr (.inr (some 97)), .inl a1, .inl a2, .inl a3, .inl a4, .inl a5], []) M62 _
                refine zG_blk (c' := (111, [.inr (.inr (some 97)), .inl a1, .inl a2, .inl a3, .inl a4, .inl a5], [.inl 4, .inr (.inr (some 97))])) 2 hd0 hz (by rfl) ?_
                refine zG_call hd0 hz (rfl : zP 183 = (zk_X11_one, 2, (0, 0))) rfl rfl (Nat.le_of_ble_eq_true rfl) ⟨Nat.le_refl _, Nat.le_refl _⟩ (qx_one4 (by omega) hCM62   (M 98 4) (by omega) (by omega) (by refine ⟨?_, fun _ => ?_, fun _ => ?_, fun _ => ?_, fun _ => ?_, fun _ => ?_, fun _ => ?_, fun _ => ?_, fun _ => ?_, fun _ => ?_⟩ <;> omega) ) (fun vr M78 hr => ?_)
                obtain ⟨⟨hCM78, hFM78⟩, x79, rfl, hx79, hpx79_0, hpx79_1⟩ := hr
                have hWM78 : qFm [98] M M78 := hWM62.tr hFM78 (by decide)
                have e80 : M78 98 6 = M62 98 6 := hpx79_1 _ (by omega)
                have e82 : qA M78 (M 98 4) 0 = qA M62 (M 98 4) 0 := by unfold qA; exact hpx79_1 _ (by omega)
                have e83 : qA M78 (M 98 4) 1 = qA M62 (M 98 4) 1 := by unfold qA; exact hpx79_1 _ (by omega)
                have e84 : qA M78 (M 98 4) 2 = qA M62 (M 98 4) 2 := by unfold qA; exact hpx79_1 _ (by omega)
                have e85 : qA M78 (M 98 4) 3 = qA M62 (M 98 4) 3 := by unfold qA; exact hpx79_1 _ (by omega)
                have e86 : qA M78 (M 98 4) 4 = qA M62 (M 98 4) 4 := by unfold qA; exact hpx79_1 _ (by omega)
                have e87 : qA M78 (M 98 4) 5 = qA M62 (M 98 4) 5 := by unfold qA; exact hpx79_1 _ (by omega)
                have e88 : qA M78 (M 98 4) 9 = qA M62 (M 98 4) 9 := by unfold qA; exact hpx79_1 _ (by omega)
                have e89 : qA M78 (M 98 4) 10 = qA M62 (M 98 4) 10 := by unfold qA; exact hpx79_1 _ (by omega)
                have e90 : qA M78 (M 98 4) 11 = qA M62 (M 98 4) 11 := by unfold qA; exact hpx79_1 _ (by omega)
                have e91 : qA M78 (M 98 4) 6 = qA M62 (M 98 4) 6 := by unfold qA; exact hpx79_1 _ (by omega)
                have e92 : qA M78 (M 98 4) 7 = qA M62 (M 98 4) 7 := by unfold qA; exact hpx79_1 _ (by omega)
                have e93 : qA M78 (M 98 4) 8 = qA M62 (M 98 4) 8 := by unfold qA; exact hpx79_1 _ (by omega)
                show zG n (0, 0) d 202 (114, [.inr (.inr (some 97)), .inl a1, .inl a2, .inl a3, .inl a4, .inl a5], [.inl x79]) M78 _
                exact zG_ret hd0 hz rfl rfl ⟨⟨hCM78, hWM78⟩, _, rfl, by omega, by omega⟩
              · refine zG_blk (c' := (77, [.inr (.inr (some 97)), .inl a1, .inl a2, .inl a3, .inl a4, .inl a5], [.inl (-4)])) 1 hd0 hz (by rfl) ?_
                exact zG_ret hd0 hz rfl rfl ⟨⟨hC, hW⟩, _, rfl, by omega, by omega⟩
            · exact j65
theorem qm_203_97 {n d : Nat} {M : zM} (hd : 4 ≤ d) (hC : qMI M)  (a1 : Int) (ha1 : (-2147483648) ≤ a1 ∧ a1 ≤ 2147483647) (a2 : Int) (ha2 : (-2147483648) ≤ a2 ∧ a2 ≤ 2147483647) (a3 : Int) (ha3 : (-2147483648) ≤ a3 ∧ a3 ≤ 2147483647) (a4 : Int) (ha4 : (-2147483648) ≤ a4 ∧ a4 ≤ 2147483647) : qOkN n d 203 [.inr (.inr (some 97)), .inl a1, .inl a2, .inl a3, .inl a4] 5 [98] M (fun v M' => ∃ x : Int, v = some (.inl x) ∧ ((-2147483648) ≤ x ∧ x ≤ 2147483647) ∧ (M' 98 6 = M 98 6)) := by
  have hz : zP 203 = (zk_X11_moderate, 5, (0, 0)) := rfl
  have hd0 : 0 < d := by omega
  have hW : qFm [98] M M := qFm.rfl
  have r1 := hC.cnt6
  have r2 := hC.cnt4
  have r3 := hC.cnt3
  show zG n (0, 0) d 203 (0, [.inr (.inr (some 97)), .inl a1, .inl a2, .inl a3, .inl a4], []) M _
  refine zG_blk (c' := (2, [.inr (.inr (some 97)), .inl a1, .inl a2, .inl a3, .inl a4], [.inl a1, .inr (.inr (some 97))])) 2 hd0 hz (by rfl) ?_
  refine zG_call hd0 hz (rfl : zP 198 = (zk_X11_isMark, 2, (0, 0))) rfl rfl (Nat.le_of_ble_eq_true rfl) ⟨Nat.le_refl _, Nat.le_refl _⟩ (qm_198_97 (by omega) hC   a1 (by omega) ) (fun vr M4 hr => ?_)
  obtain ⟨hq, x5, rfl, hx5, hpx5_0⟩ := hr
  replace hq := hq.symm; subst hq
  show zG n (0, 0) d 203 (5, [.inr (.inr (some 97)), .inl a1, .inl a2, .inl a3, .inl a4], [.inl x5]) M _
  have j25 : zG n (0, 0) d 203 (25, [.inr (.inr (some 97)), .inl a1, .inl a2, .inl a3, .inl a4], []) M (fun v M' => (qMI M' ∧ qFm [98] M M') ∧ ∃ x : Int, v = some (.inl x) ∧ ((-2147483648) ≤ x ∧ x ≤ 2147483647) ∧ (M' 98 6 = M 98 6)) := by
    refine zG_blk (c' := (27, [.inr (.inr (some 97)), .inl a1, .inl a2, .inl a3, .inl a4], [.inl (-2)])) 1 hd0 hz (by rfl) ?_
    exact zG_ret hd0 hz rfl rfl ⟨⟨hC, hW⟩, _, rfl, by omega, by omega⟩
  refine zG_if_eq hd0 hz rfl (fun hb6 => ?_) (fun hb6 => ?_)
  · exact j25
  · refine zG_blk (c' := (9, [.inr (.inr (some 97)), .inl a1, .inl a2, .inl a3, .inl a4], [.inl a2])) 1 hd0 hz (by rfl) ?_
    refine zG_call hd0 hz (rfl : zP 185 = (zk_X11_isMarkNumber, 1, (0, 0))) rfl rfl (Nat.le_of_ble_eq_true rfl) ⟨Nat.le_refl _, Nat.le_refl _⟩ (qm_185 (by omega) hC   a2 (by omega) ) (fun vr M7 hr => ?_)
    obtain ⟨hq, x8, rfl, hx8, hpx8_0⟩ := hr
    replace hq := hq.symm; subst hq
    show zG n (0, 0) d 203 (12, [.inr (.inr (some 97)), .inl a1, .inl a2, .inl a3, .inl a4], [.inl x8]) M _
    refine zG_if_eq hd0 hz rfl (fun hb9 => ?_) (fun hb9 => ?_)
    · exact j25
    · refine zG_blk (c' := (19, [.inr (.inr (some 97)), .inl a1, .inl a2, .inl a3, .inl a4], [.inl a4, .inl a3, .inr (.inr (some 97))])) 3 hd0 hz (by rfl) ?_
      refine zG_call hd0 hz (rfl : zP 200 = (zk_X11_isBy, 3, (0, 0))) rfl rfl (Nat.le_of_ble_eq_true rfl) ⟨Nat.le_refl _, Nat.le_refl _⟩ (qm_200_97 (by omega) hC   a3 (by omega) a4 (by omega) ) (fun vr M10 hr => ?_)
      obtain ⟨hq, x11, rfl, hx11, hpx11_0⟩ := hr
      replace hq := hq.symm; subst hq
      show zG n (0, 0) d 203 (22, [.inr (.inr (some 97)), .inl a1, .inl a2, .inl a3, .inl a4], [.inl x11]) M _
      refine zG_if_ne hd0 hz rfl (fun hb12 => ?_) (fun hb12 => ?_)
      · refine zG_blk (c' := (29, [.inr (.inr (some 97)), .inl a1, .inl a2, .inl a3, .inl a4], [.inr (.inr (some 97))])) 1 hd0 hz (by rfl) ?_
        refine zG_call hd0 hz (rfl : zP 197 = (zk_X11_isFull, 1, (0, 0))) rfl rfl (Nat.le_of_ble_eq_true rfl) ⟨Nat.le_refl _, Nat.le_refl _⟩ (qx_isFull (by omega) hC    ) (fun vr M13 hr => ?_)
        obtain ⟨hq, x14, rfl, hx14⟩ := hr
        replace hq := hq.symm; subst hq
        show zG n (0, 0) d 203 (32, [.inr (.inr (some 97)), .inl a1, .inl a2, .inl a3, .inl a4], [.inl x14]) M _
        refine zG_if_eq hd0 hz rfl (fun hb15 => ?_) (fun hb15 => ?_)
        · refine zG_blk (c' := (42, [.inr (.inr (some 97)), .inl a1, .inl a2, .inl a3, .inl a4], [.inl a3, .inr (.inr (some 97)), .inl 2, .inr (.inr (some 97))])) 4 hd0 hz (by rfl) ?_
          refine zG_call hd0 hz (rfl : zP 199 = (zk_X11_dayOf, 2, (0, 0))) rfl rfl (Nat.le_of_ble_eq_true rfl) ⟨Nat.le_refl _, Nat.le_refl _⟩ (qx_dayOf (by omega) hC   a3 (by omega) ) (fun vr M16 hr => ?_)
          obtain ⟨hq, x17, rfl, hx17⟩ := hr
          replace hq := hq.symm; subst hq
          show zG n (0, 0) d 203 (45, [.inr (.inr (some 97)), .inl a1, .inl a2, .inl a3, .inl a4], [.inl x17, .inl 2, .inr (.inr (some 97))]) M _
          refine zG_blk (c' := (48, [.inr (.inr (some 97)), .inl a1, .inl a2, .inl a3, .inl a4], [.inl a3, .inl a4, .inl x17, .inl 2, .inr (.inr (some 97))])) 2 hd0 hz (by rfl) ?_
          refine zG_call hd0 hz (rfl : zP 196 = (zk_X11_begins, 6, (0, 0))) rfl rfl (Nat.le_of_ble_eq_true rfl) ⟨Nat.le_refl _, Nat.le_refl _⟩ (qx_begins (by omega) hC   2 x17 a4 a3 (by omega) (by omega) (by omega) (M 98 4) (by omega) (by omega) (by omega) ) (fun vr M18 hr => ?_)
          obtain ⟨⟨hCM18, hFM18⟩, rfl, hpx19_0, hpx19_1, hpx19_2, hpx19_3, hpx19_4, hpx19_5, hpx19_6, hpx19_7, hpx19_8, hpx19_9, hpx19_10, hpx19_11, hpx19_12⟩ := hr
          have hWM18 : qFm [98] M M18 := hW.tr hFM18 (by decide)
          have e20 : M18 98 6 = M 98 6 := hpx19_12 _ (by omega)
          have e21 : M18 98 4 = M 98 4 := hpx19_12 _ (by omega)
          have e22 : M18 98 3 = M 98 3 := hpx19_12 _ (by omega)
          show zG n (0, 0) d 203 (51, [.inr (.inr (some 97)), .inl a1, .inl a2, .inl a3, .inl a4], []) M18 _
          refine zG_blk (c' := (55, [.inr (.inr (some 97)), .inl a1, .inl a2, .inl a3, .inl a4], [.inl a1, .inl 6, .inr (.inr (some 97))])) 3 hd0 hz (by rfl) ?_
          refine zG_call hd0 hz (rfl : zP 195 = (zk_X11_puts, 3, (0, 0))) rfl rfl (Nat.le_of_ble_eq_true rfl) ⟨Nat.le_refl _, Nat.le_refl _⟩ (qx_putsM (by omega) hCM18   6 a1 (by omega) (M 98 4) (by omega) (by omega) (by omega) (by refine ⟨fun _ => ?_, fun _ => ?_, fun _ => ?_, fun _ => ?_⟩ <;> omega) ) (fun vr M23 hr => ?_)
          obtain ⟨⟨hCM23, hFM23⟩, rfl, hpx24_0, hpx24_1⟩ := hr
          have hWM23 : qFm [98] M M23 := hWM18.tr hFM23 (by decide)
          have e25 : M23 98 6 = M18 98 6 := hpx24_1 _ (by omega)
          have e26 : M23 98 4 = M18 98 4 := hpx24_1 _ (by omega)
          have e27 : M23 98 3 = M18 98 3 := hpx24_1 _ (by omega)
          have e28 : qA M23 (M 98 4) 0 = qA M18 (M 98 4) 0 := by unfold qA; exact hpx24_1 _ (by omega)
          have e29 : qA M23 (M 98 4) 1 = qA M18 (M 98 4) 1 := by unfold qA; exact hpx24_1 _ (by omega)
          have e30 : qA M23 (M 98 4) 2 = qA M18 (M 98 4) 2 := by unfold qA; exact hpx24_1 _ (by omega)
          have e31 : qA M23 (M 98 4) 3 = qA M18 (M 98 4) 3 := by unfold qA; exact hpx24_1 _ (by omega)
          have e32 : qA M23 (M 98 4) 4 = qA M18 (M 98 4) 4 := by unfold qA; exact hpx24_1 _ (by omega)
          have e33 : qA M23 (M 98 4) 5 = qA M18 (M 98 4) 5 := by unfold qA; exact hpx24_1 _ (by omega)
          have e35 : qA M23 (M 98 4) 7 = qA M18 (M 98 4) 7 := by unfold qA; exact hpx24_1 _ (by omega)
          have e36 : qA M23 (M 98 4) 8 = qA M18 (M 98 4) 8 := by unfold qA; exact hpx24_1 _ (by omega)
          have e37 : qA M23 (M 98 4) 9 = qA M18 (M 98 4) 9 := by unfold qA; exact hpx24_1 _ (by omega)
          have e38 : qA M23 (M 98 4) 10 = qA M18 (M 98 4) 10 := by unfold qA; exact hpx24_1 _ (by omega)
          have e39 : qA M23 (M 98 4) 11 = qA M18 (M 98 4) 11 := by unfold qA; exact hpx24_1 _ (by omega)
          show zG n (0, 0) d 203 (58, [.inr (.inr (some 97)), .inl a1, .inl a2, .inl a3, .inl a4], []) M23 _
          refine zG_blk (c' := (62, [.inr (.inr (some 97)), .inl a1, .inl a2, .inl a3, .inl a4], [.inl a2, .inl 7, .inr (.inr (some 97))])) 3 hd0 hz (by rfl) ?_
          refine zG_call hd0 hz (rfl : zP 195 = (zk_X11_puts, 3, (0, 0))) rfl rfl (Nat.le_of_ble_eq_true rfl) ⟨Nat.le_refl _, Nat.le_refl _⟩ (qx_putsM (by omega) hCM23   7 a2 (by omega) (M 98 4) (by omega) (by omega) (by omega) (by refine ⟨fun _ => ?_, fun _ => ?_, fun _ => ?_, fun _ => ?_⟩ <;> omega) ) (fun vr M40 hr => ?_)
          obtain ⟨⟨hCM40, hFM40⟩, rfl, hpx41_0, hpx41_1⟩ := hr
          have hWM40 : qFm [98] M M40 := hWM23.tr hFM40 (by decide)
          have e42 : M40 98 6 = M23 98 6 := hpx41_1 _ (by omega)
          have e43 : M40 98 4 = M23 98 4 := hpx41_1 _ (by omega)
          have e44 : M40 98 3 = M23 98 3 := hpx41_1 _ (by omega)
          have e45 : qA M40 (M 98 4) 0 = qA M23 (M 98 4) 0 := by unfold qA; exact hpx41_1 _ (by omega)
          have e46 : qA M40 (M 98 4) 1 = qA M23 (M 98 4) 1 := by unfold qA; exact hpx41_1 _ (by omega)
          have e47 : qA M40 (M 98 4) 2 = qA M23 (M 98 4) 2 := by unfold qA; exact hpx41_1 _ (by omega)
          have e48 : qA M40 (M 98 4) 3 = qA M23 (M 98 4) 3 := by unfold qA; exact hpx41_1 _ (by omega)
          have e49 : qA M40 (M 98 4) 4 = qA M23 (M 98 4) 4 := by unfold qA; exact hpx41_1 _ (by omega)
          have e50 : qA M40 (M 98 4) 5 = qA M23 (M 98 4) 5 := by unfold qA; exact hpx41_1 _ (by omega)
          have e52 : qA M40 (M 98 4) 8 = qA M23 (M 98 4) 8 := by unfold qA; exact hpx41_1 _ (by omega)
          have e53 : qA M40 (M 98 4) 9 = qA M23 (M 98 4) 9 := by unfold qA; exact hpx41_1 _ (by omega)
          have e54 : qA M40 (M 98 4) 10 = qA M23 (M 98 4) 10 := by unfold qA; exact hpx41_1 _ (by omega)
          have e55 : qA M40 (M 98 4) 11 = qA M23 (M 98 4) 11 := by unfold qA; exact hpx41_1 _ (by omega)
          have e56 : qA M40 (M 98 4) 6 = qA M23 (M 98 4) 6 := by unfold qA; exact hpx41_1 _ (by omega)
          show zG n (0, 0) d 203 (65, [.inr (.inr (some 97)), .inl a1, .inl a2, .inl a3, .inl a4], []) M40 _
          refine zG_blk (c' := (67, [.inr (.inr (some 97)), .inl a1, .inl a2, .inl a3, .inl a4], [.inl 4, .inr (.inr (some 97))])) 2 hd0 hz (by rfl) ?_
          refine zG_call hd0 hz (rfl : zP 183 = (zk_X11_one, 2, (0, 0))) rfl rfl (Nat.le_of_ble_eq_true rfl) ⟨Nat.le_refl _, Nat.le_refl _⟩ (qx_one4 (by omega) hCM40   (M 98 4) (by omega) (by omega) (by refine ⟨?_, fun _ => ?_, fun _ => ?_, fun _ => ?_, fun _ => ?_, fun _ => ?_, fun _ => ?_, fun _ => ?_, fun _ => ?_, fun _ => ?_⟩ <;> omega) ) (fun vr M57 hr => ?_)
          obtain ⟨⟨hCM57, hFM57⟩, x58, rfl, hx58, hpx58_0, hpx58_1⟩ := hr
          have hWM57 : qFm [98] M M57 := hWM40.tr hFM57 (by decide)
          have e59 : M57 98 6 = M40 98 6 := hpx58_1 _ (by omega)
          have e61 : M57 98 3 = M40 98 3 := hpx58_1 _ (by omega)
          have e62 : qA M57 (M 98 4) 0 = qA M40 (M 98 4) 0 := by unfold qA; exact hpx58_1 _ (by omega)
          have e63 : qA M57 (M 98 4) 1 = qA M40 (M 98 4) 1 := by unfold qA; exact hpx58_1 _ (by omega)
          have e64 : qA M57 (M 98 4) 2 = qA M40 (M 98 4) 2 := by unfold qA; exact hpx58_1 _ (by omega)
          have e65 : qA M57 (M 98 4) 3 = qA M40 (M 98 4) 3 := by unfold qA; exact hpx58_1 _ (by omega)
          have e66 : qA M57 (M 98 4) 4 = qA M40 (M 98 4) 4 := by unfold qA; exact hpx58_1 _ (by omega)
          have e67 : qA M57 (M 98 4) 5 = qA M40 (M 98 4) 5 := by unfold qA; exact hpx58_1 _ (by omega)
          have e68 : qA M57 (M 98 4) 8 = qA M40 (M 98 4) 8 := by unfold qA; exact hpx58_1 _ (by omega)
          have e69 : qA M57 (M 98 4) 9 = qA M40 (M 98 4) 9 := by unfold qA; exact hpx58_1 _ (by omega)
          have e70 : qA M57 (M 98 4) 10 = qA M40 (M 98 4) 10 := by unfold qA; exact hpx58_1 _ (by omega)
          have e71 : qA M57 (M 98 4) 11 = qA M40 (M 98 4) 11 := by unfold qA; exact hpx58_1 _ (by omega)
          have e72 : qA M57 (M 98 4) 6 = qA M40 (M 98 4) 6 := by unfold qA; exact hpx58_1 _ (by omega)
          have e73 : qA M57 (M 98 4) 7 = qA M40 (M 98 4) 7 := by unfold qA; exact hpx58_1 _ (by omega)
          show zG n (0, 0) d 203 (70, [.inr (.inr (some 97)), .inl a1, .inl a2, .inl a3, .inl a4], [.inl x58]) M57 _
          exact zG_ret hd0 hz rfl rfl ⟨⟨hCM57, hWM57⟩, _, rfl, by omega, by omega⟩
        · refine zG_blk (c' := (37, [.inr (.inr (some 97)), .inl a1, .inl a2, .inl a3, .inl a4], [.inl (-4)])) 1 hd0 hz (by rfl) ?_
          exact zG_ret hd0 hz rfl rfl ⟨⟨hC, hW⟩, _, rfl, by omega, by omega⟩
      · exact j25
theorem qm_204_97 {n d : Nat} {M : zM} (hd : 4 ≤ d) (hC : qMI M)  (a1 : Int) (ha1 : (-2147483648) ≤ a1 ∧ a1 ≤ 2147483647) (a2 : Int) (ha2 : (-2147483648) ≤ a2 ∧ a2 ≤ 2147483647) (a3 : Int) (ha3 : (-2147483648) ≤ a3 ∧ a3 ≤ 2147483647) (a4 : Int) (ha4 : (-2147483648) ≤ a4 ∧ a4 ≤ 2147483647) (a5 : Int) (ha5 : (-2147483648) ≤ a5 ∧ a5 ≤ 2147483647) (a6 : Int) (ha6 : (-2147483648) ≤ a6 ∧ a6 ≤ 2147483647) : qOkN n d 204 [.inr (.inr (some 97)), .inl a1, .inl a2, .inl a3, .inl a4, .inl a5, .inl a6] 7 [98] M (fun v M' => ∃ x : Int, v = some (.inl x) ∧ ((-2147483648) ≤ x ∧ x ≤ 2147483647) ∧ (M' 98 6 = M 98 6)) := by
  have hz : zP 204 = (zk_X11_scale, 7, (0, 0)) := rfl
  have hd0 : 0 < d := by omega
  have hW : qFm [98] M M := qFm.rfl
  have r1 := hC.cnt6
  have r2 := hC.cnt4
  have r3 := hC.cnt0
  have r4 := hC.cnt3
  show zG n (0, 0) d 204 (0, [.inr (.inr (some 97)), .inl a1, .inl a2, .inl a3, .inl a4, .inl a5, .inl a6], []) M _
  refine zG_blk (c' := (3, [.inr (.inr (some 97)), .inl a1, .inl a2, .inl a3, .inl a4, .inl a5, .inl a6], [.inl a1, .inl 0, .inr (.inr (some 97))])) 3 hd0 hz (by rfl) ?_
  refine zG_call hd0 hz (rfl : zP 182 = (zk_X11_is, 3, (0, 0))) rfl rfl (Nat.le_of_ble_eq_true rfl) ⟨Nat.le_refl _, Nat.le_refl _⟩ (qx_is (by omega) hC   0 (by omega) a1 (by omega) ) (fun vr M5 hr => ?_)
  obtain ⟨hq, x6, rfl, hx6⟩ := hr
  replace hq := hq.symm; subst hq
  show zG n (0, 0) d 204 (6, [.inr (.inr (some 97)), .inl a1, .inl a2, .inl a3, .inl a4, .inl a5, .inl a6], [.inl x6]) M _
  have j54 : zG n (0, 0) d 204 (54, [.inr (.inr (some 97)), .inl a1, .inl a2, .inl a3, .inl a4, .inl a5, .inl a6], []) M (fun v M' => (qMI M' ∧ qFm [98] M M') ∧ ∃ x : Int, v = some (.inl x) ∧ ((-2147483648) ≤ x ∧ x ≤ 2147483647) ∧ (M' 98 6 = M 98 6)) := by
    refine zG_blk (c' := (56, [.inr (.inr (some 97)), .inl a1, .inl a2, .inl a3, .inl a4, .inl a5, .inl a6], [.inl (-2)])) 1 hd0 hz (by rfl) ?_
    exact zG_ret hd0 hz rfl rfl ⟨⟨hC, hW⟩, _, rfl, by omega, by omega⟩
  refine zG_if_eq hd0 hz rfl (fun hb7 => ?_) (fun hb7 => ?_)
  · exact j54
  · refine zG_blk (c' := (14, [.inr (.inr (some 97)), .inl a1, .inl a2, .inl a3, .inl a4, .inl a5, .inl a6], [.inl 200, .inl 1, .inl a2])) 3 hd0 hz (by rfl) ?_
    refine zG_call hd0 hz (rfl : zP 180 = (zk_X11_in, 3, (0, 0))) rfl rfl (Nat.le_of_ble_eq_true rfl) ⟨Nat.le_refl _, Nat.le_refl _⟩ (qx_in (by omega) hC   a2 (by omega) 1 (by omega) 200 (by omega) ) (fun vr M8 hr => ?_)
    obtain ⟨hq, x9, rfl, hx9⟩ := hr
    replace hq := hq.symm; subst hq
    show zG n (0, 0) d 204 (17, [.inr (.inr (some 97)), .inl a1, .inl a2, .inl a3, .inl a4, .inl a5, .inl a6], [.inl x9]) M _
    refine zG_if_eq hd0 hz rfl (fun hb10 => ?_) (fun hb10 => ?_)
    · exact j54
    · refine zG_blk (c' := (25, [.inr (.inr (some 97)), .inl a1, .inl a2, .inl a3, .inl a4, .inl a5, .inl a6], [.inl 200, .inl 1, .inl a3])) 3 hd0 hz (by rfl) ?_
      refine zG_call hd0 hz (rfl : zP 180 = (zk_X11_in, 3, (0, 0))) rfl rfl (Nat.le_of_ble_eq_true rfl) ⟨Nat.le_refl _, Nat.le_refl _⟩ (qx_in (by omega) hC   a3 (by omega) 1 (by omega) 200 (by omega) ) (fun vr M11 hr => ?_)
      obtain ⟨hq, x12, rfl, hx12⟩ := hr
      replace hq := hq.symm; subst hq
      show zG n (0, 0) d 204 (28, [.inr (.inr (some 97)), .inl a1, .inl a2, .inl a3, .inl a4, .inl a5, .inl a6], [.inl x12]) M _
      refine zG_if_eq hd0 hz rfl (fun hb13 => ?_) (fun hb13 => ?_)
      · exact j54
      · refine zG_blk (c' := (37, [.inr (.inr (some 97)), .inl a1, .inl a2, .inl a3, .inl a4, .inl a5, .inl a6], [.inl 50, .inl (-50), .inl a4])) 3 hd0 hz (by rfl) ?_
        refine zG_call hd0 hz (rfl : zP 180 = (zk_X11_in, 3, (0, 0))) rfl rfl (Nat.le_of_ble_eq_true rfl) ⟨Nat.le_refl _, Nat.le_refl _⟩ (qx_in (by omega) hC   a4 (by omega) (-50) (by omega) 50 (by omega) ) (fun vr M14 hr => ?_)
        obtain ⟨hq, x15, rfl, hx15⟩ := hr
        replace hq := hq.symm; subst hq
        show zG n (0, 0) d 204 (40, [.inr (.inr (some 97)), .inl a1, .inl a2, .inl a3, .inl a4, .inl a5, .inl a6], [.inl x15]) M _
        refine zG_if_eq hd0 hz rfl (fun hb16 => ?_) (fun hb16 => ?_)
        · exact j54
        · refine zG_blk (c' := (48, [.inr (.inr (some 97)), .inl a1, .inl a2, .inl a3, .inl a4, .inl a5, .inl a6], [.inl a6, .inl a5, .inr (.inr (some 97))])) 3 hd0 hz (by rfl) ?_
          refine zG_call hd0 hz (rfl : zP 200 = (zk_X11_isBy, 3, (0, 0))) rfl rfl (Nat.le_of_ble_eq_true rfl) ⟨Nat.le_refl _, Nat.le_refl _⟩ (qm_200_97 (by omega) hC   a5 (by omega) a6 (by omega) ) (fun vr M17 hr => ?_)
          obtain ⟨hq, x18, rfl, hx18, hpx18_0⟩ := hr
          replace hq := hq.symm; subst hq
          show zG n (0, 0) d 204 (51, [.inr (.inr (some 97)), .inl a1, .inl a2, .inl a3, .inl a4, .inl a5, .inl a6], [.inl x18]) M _
          refine zG_if_ne hd0 hz rfl (fun hb19 => ?_) (fun hb19 => ?_)
          · refine zG_blk (c' := (58, [.inr (.inr (some 97)), .inl a1, .inl a2, .inl a3, .inl a4, .inl a5, .inl a6], [.inr (.inr (some 97))])) 1 hd0 hz (by rfl) ?_
            refine zG_call hd0 hz (rfl : zP 197 = (zk_X11_isFull, 1, (0, 0))) rfl rfl (Nat.le_of_ble_eq_true rfl) ⟨Nat.le_refl _, Nat.le_refl _⟩ (qx_isFull (by omega) hC    ) (fun vr M20 hr => ?_)
            obtain ⟨hq, x21, rfl, hx21⟩ := hr
            replace hq := hq.symm; subst hq
            show zG n (0, 0) d 204 (61, [.inr (.inr (some 97)), .inl a1, .inl a2, .inl a3, .inl a4, .inl a5, .inl a6], [.inl x21]) M _
            refine zG_if_eq hd0 hz rfl (fun hb22 => ?_) (fun hb22 => ?_)
            · refine zG_blk (c' := (72, [.inr (.inr (some 97)), .inl a1, .inl a2, .inl a3, .inl a4, .inl a5, .inl a6], [.inl a5, .inr (.inr (some 97)), .inl 3, .inr (.inr (some 97))])) 4 hd0 hz (by rfl) ?_
              refine zG_call hd0 hz (rfl : zP 199 = (zk_X11_dayOf, 2, (0, 0))) rfl rfl (Nat.le_of_ble_eq_true rfl) ⟨Nat.le_refl _, Nat.le_refl _⟩ (qx_dayOf (by omega) hC   a5 (by omega) ) (fun vr M23 hr => ?_)
              obtain ⟨hq, x24, rfl, hx24⟩ := hr
              replace hq := hq.symm; subst hq
              show zG n (0, 0) d 204 (75, [.inr (.inr (some 97)), .inl a1, .inl a2, .inl a3, .inl a4, .inl a5, .inl a6], [.inl x24, .inl 3, .inr (.inr (some 97))]) M _
              refine zG_blk (c' := (79, [.inr (.inr (some 97)), .inl a1, .inl a2, .inl a3, .inl a4, .inl a5, .inl a6], [.inl a5, .inl a6, .inl x24, .inl 3, .inr (.inr (some 97))])) 2 hd0 hz (by rfl) ?_
              refine zG_call hd0 hz (rfl : zP 196 = (zk_X11_begins, 6, (0, 0))) rfl rfl (Nat.le_of_ble_eq_true rfl) ⟨Nat.le_refl _, Nat.le_refl _⟩ (qx_begins (by omega) hC   3 x24 a6 a5 (by omega) (by omega) (by omega) (M 98 4) (by omega) (by omega) (by omega) ) (fun vr M25 hr => ?_)
              obtain ⟨⟨hCM25, hFM25⟩, rfl, hpx26_0, hpx26_1, hpx26_2, hpx26_3, hpx26_4, hpx26_5, hpx26_6, hpx26_7, hpx26_8, hpx26_9, hpx26_10, hpx26_11, hpx26_12⟩ := hr
              have hWM25 : qFm [98] M M25 := hW.tr hFM25 (by decide)
              have e27 : M25 98 6 = M 98 6 := hpx26_12 _ (by omega)
              have e28 : M25 98 4 = M 98 4 := hpx26_12 _ (by omega)
              have e29 : M25 98 0 = M 98 0 := hpx26_12 _ (by omega)
              have e30 : M25 98 3 = M 98 3 := hpx26_12 _ (by omega)
              show zG n (0, 0) d 204 (82, [.inr (.inr (some 97)), .inl a1, .inl a2, .inl a3, .inl a4, .inl a5, .inl a6], []) M25 _
              refine zG_blk (c' := (85, [.inr (.inr (some 97)), .inl a1, .inl a2, .inl a3, .inl a4, .inl a5, .inl a6], [.inl a1, .inl 5, .inr (.inr (some 97))])) 3 hd0 hz (by rfl) ?_
              refine zG_call hd0 hz (rfl : zP 195 = (zk_X11_puts, 3, (0, 0))) rfl rfl (Nat.le_of_ble_eq_true rfl) ⟨Nat.le_refl _, Nat.le_refl _⟩ (qx_putsM (by omega) hCM25   5 a1 (by omega) (M 98 4) (by omega) (by omega) (by omega) (by refine ⟨fun _ => ?_, fun _ => ?_, fun _ => ?_, fun _ => ?_⟩ <;> omega) ) (fun vr M31 hr => ?_)
              obtain ⟨⟨hCM31, hFM31⟩, rfl, hpx32_0, hpx32_1⟩ := hr
              have hWM31 : qFm [98] M M31 := hWM25.tr hFM31 (by decide)
              have e33 : M31 98 6 = M25 98 6 := hpx32_1 _ (by omega)
              have e34 : M31 98 4 = M25 98 4 := hpx32_1 _ (by omega)
              have e35 : M31 98 0 = M25 98 0 := hpx32_1 _ (by omega)
              have e36 : M31 98 3 = M25 98 3 := hpx32_1 _ (by omega)
              have e37 : qA M31 (M 98 4) 0 = qA M25 (M 98 4) 0 := by unfold qA; exact hpx32_1 _ (by omega)
              have e38 : qA M31 (M 98 4) 1 = qA M25 (M 98 4) 1 := by unfold qA; exact hpx32_1 _ (by omega)
              have e39 : qA M31 (M 98 4) 2 = qA M25 (M 98 4) 2 := by unfold qA; exact hpx32_1 _ (by omega)
              have e40 : qA M31 (M 98 4) 3 = qA M25 (M 98 4) 3 := by unfold qA; exact hpx32_1 _ (by omega)
              have e41 : qA M31 (M 98 4) 4 = qA M25 (M 98 4) 4 := by unfold qA; exact hpx32_1 _ (by omega)
              have e43 : qA M31 (M 98 4) 6 = qA M25 (M 98 4) 6 := by unfold qA; exact hpx32_1 _ (by omega)
              have e44 : qA M31 (M 98 4) 7 = qA M25 (M 98 4) 7 := by unfold qA; exact hpx32_1 _ (by omega)
              have e45 : qA M31 (M 98 4) 8 = qA M25 (M 98 4) 8 := by unfold qA; exact hpx32_1 _ (by omega)
              have e46 : qA M31 (M 98 4) 9 = qA M25 (M 98 4) 9 := by unfold qA; exact hpx32_1 _ (by omega)
              have e47 : qA M31 (M 98 4) 10 = qA M25 (M 98 4) 10 := by unfold qA; exact hpx32_1 _ (by omega)
              have e48 : qA M31 (M 98 4) 11 = qA M25 (M 98 4) 11 := by unfold qA; exact hpx32_1 _ (by omega)
              show zG n (0, 0) d 204 (88, [.inr (.inr (some 97)), .inl a1, .inl a2, .inl a3, .inl a4, .inl a5, .inl a6], []) M31 _
              refine zG_blk (c' := (92, [.inr (.inr (some 97)), .inl a1, .inl a2, .inl a3, .inl a4, .inl a5, .inl a6], [.inl a2, .inl 9, .inr (.inr (some 97))])) 3 hd0 hz (by rfl) ?_
              refine zG_call hd0 hz (rfl : zP 195 = (zk_X11_puts, 3, (0, 0))) rfl rfl (Nat.le_of_ble_eq_true rfl) ⟨Nat.le_refl _, Nat.le_refl _⟩ (qx_putsM (by omega) hCM31   9 a2 (by omega) (M 98 4) (by omega) (by omega) (by omega) (by refine ⟨fun _ => ?_, fun _ => ?_, fun _ => ?_, fun _ => ?_⟩ <;> omega) ) (fun vr M49 hr => ?_)
              obtain ⟨⟨hCM49, hFM49⟩, rfl, hpx50_0, hpx50_1⟩ := hr
              have hWM49 : qFm [98] M M49 := hWM31.tr hFM49 (by decide)
              have e51 : M49 98 6 = M31 98 6 := hpx50_1 _ (by omega)
              have e52 : M49 98 4 = M31 98 4 := hpx50_1 _ (by omega)
              have e53 : M49 98 0 = M31 98 0 := hpx50_1 _ (by omega)
              have e54 : M49 98 3 = M31 98 3 := hpx50_1 _ (by omega)
              have e55 : qA M49 (M 98 4) 0 = qA M31 (M 98 4) 0 := by unfold qA; exact hpx50_1 _ (by omega)
              have e56 : qA M49 (M 98 4) 1 = qA M31 (M 98 4) 1 := by unfold qA; exact hpx50_1 _ (by omega)
              have e57 : qA M49 (M 98 4) 2 = qA M31 (M 98 4) 2 := by unfold qA; exact hpx50_1 _ (by omega)
              have e58 : qA M49 (M 98 4) 3 = qA M31 (M 98 4) 3 := by unfold qA; exact hpx50_1 _ (by omega)
              have e59 : qA M49 (M 98 4) 4 = qA M31 (M 98 4) 4 := by unfold qA; exact hpx50_1 _ (by omega)
              have e60 : qA M49 (M 98 4) 6 = qA M31 (M 98 4) 6 := by unfold qA; exact hpx50_1 _ (by omega)
              have e61 : qA M49 (M 98 4) 7 = qA M31 (M 98 4) 7 := by unfold qA; exact hpx50_1 _ (by omega)
              have e62 : qA M49 (M 98 4) 8 = qA M31 (M 98 4) 8 := by unfold qA; exact hpx50_1 _ (by omega)
              have e64 : qA M49 (M 98 4) 10 = qA M31 (M 98 4) 10 := by unfold qA; exact hpx50_1 _ (by omega)
              have e65 : qA M49 (M 98 4) 11 = qA M31 (M 98 4) 11 := by unfold qA; exact hpx50_1 _ (by omega)
              have e66 : qA M49 (M 98 4) 5 = qA M31 (M 98 4) 5 := by unfold qA; exact hpx50_1 _ (by omega)
              show zG n (0, 0) d 204 (95, [.inr (.inr (some 97)), .inl a1, .inl a2, .inl a3, .inl a4, .inl a5, .inl a6], []) M49 _
              refine zG_blk (c' := (99, [.inr (.inr (some 97)), .inl a1, .inl a2, .inl a3, .inl a4, .inl a5, .inl a6], [.inl a3, .inl 10, .inr (.inr (some 97))])) 3 hd0 hz (by rfl) ?_
              refine zG_call hd0 hz (rfl : zP 195 = (zk_X11_puts, 3, (0, 0))) rfl rfl (Nat.le_of_ble_eq_true rfl) ⟨Nat.le_refl _, Nat.le_refl _⟩ (qx_putsM (by omega) hCM49   10 a3 (by omega) (M 98 4) (by omega) (by omega) (by omega) (by refine ⟨fun _ => ?_, fun _ => ?_, fun _ => ?_, fun _ => ?_⟩ <;> omega) ) (fun vr M67 hr => ?_)
              obtain ⟨⟨hCM67, hFM67⟩, rfl, hpx68_0, hpx68_1⟩ := hr
              have hWM67 : qFm [98] M M67 := hWM49.tr hFM67 (by decide)
              have e69 : M67 98 6 = M49 98 6 := hpx68_1 _ (by omega)
              have e70 : M67 98 4 = M49 98 4 := hpx68_1 _ (by omega)
              have e71 : M67 98 0 = M49 98 0 := hpx68_1 _ (by omega)
              have e72 : M67 98 3 = M49 98 3 := hpx68_1 _ (by omega)
              have e73 : qA M67 (M 98 4) 0 = qA M49 (M 98 4) 0 := by unfold qA; exact hpx68_1 _ (by omega)
              have e74 : qA M67 (M 98 4) 1 = qA M49 (M 98 4) 1 := by unfold qA; exact hpx68_1 _ (by omega)
              have e75 : qA M67 (M 98 4) 2 = qA M49 (M 98 4) 2 := by unfold qA; exact hpx68_1 _ (by omega)
              have e76 : qA M67 (M 98 4) 3 = qA M49 (M 98 4) 3 := by unfold qA; exact hpx68_1 _ (by omega)
              have e77 : qA M67 (M 98 4) 4 = qA M49 (M 98 4) 4 := by unfold qA; exact hpx68_1 _ (by omega)
              have e78 : qA M67 (M 98 4) 6 = qA M49 (M 98 4) 6 := by unfold qA; exact hpx68_1 _ (by omega)
              have e79 : qA M67 (M 98 4) 7 = qA M49 (M 98 4) 7 := by unfold qA; exact hpx68_1 _ (by omega)
              have e80 : qA M67 (M 98 4) 8 = qA M49 (M 98 4) 8 := by unfold qA; exact hpx68_1 _ (by omega)
              have e82 : qA M67 (M 98 4) 11 = qA M49 (M 98 4) 11 := by unfold qA; exact hpx68_1 _ (by omega)
              have e83 : qA M67 (M 98 4) 5 = qA M49 (M 98 4) 5 := by unfold qA; exact hpx68_1 _ (by omega)
              have e84 : qA M67 (M 98 4) 9 = qA M49 (M 98 4) 9 := by unfold qA; exact hpx68_1 _ (by omega)
              show zG n (0, 0) d 204 (102, [.inr (.inr (some 97)), .inl a1, .inl a2, .inl a3, .inl a4, .inl a5, .inl a6], []) M67 _
              refine zG_blk (c' := (107, [.inr (.inr (some 97)), .inl a1, .inl a2, .inl a3, .inl a4, .inl a5, .inl a6], [.inl a4, .inl 11, .inr (.inr (some 97))])) 3 hd0 hz (by rfl) ?_
              refine zG_call hd0 hz (rfl : zP 195 = (zk_X11_puts, 3, (0, 0))) rfl rfl (Nat.le_of_ble_eq_true rfl) ⟨Nat.le_refl _, Nat.le_refl _⟩ (qx_putsM (by omega) hCM67   11 a4 (by omega) (M 98 4) (by omega) (by omega) (by omega) (by refine ⟨fun _ => ?_, fun _ => ?_, fun _ => ?_, fun _ => ?_⟩ <;> omega) ) (fun vr M85 hr => ?_)
              obtain ⟨⟨hCM85, hFM85⟩, rfl, hpx86_0, hpx86_1⟩ := hr
              have hWM85 : qFm [98] M M85 := hWM67.tr hFM85 (by decide)
              have e87 : M85 98 6 = M67 98 6 := hpx86_1 _ (by omega)
              have e88 : M85 98 4 = M67 98 4 := hpx86_1 _ (by omega)
              have e89 : M85 98 0 = M67 98 0 := hpx86_1 _ (by omega)
              have e90 : M85 98 3 = M67 98 3 := hpx86_1 _ (by omega)
              have e91 : qA M85 (M 98 4) 0 = qA M67 (M 98 4) 0 := by unfold qA; exact hpx86_1 _ (by omega)
              have e92 : qA M85 (M 98 4) 1 = qA M67 (M 98 4) 1 := by unfold qA; exact hpx86_1 _ (by omega)
              have e93 : qA M85 (M 98 4) 2 = qA M67 (M 98 4) 2 := by unfold qA; exact hpx86_1 _ (by omega)
              have e94 : qA M85 (M 98 4) 3 = qA M67 (M 98 4) 3 := by unfold qA; exact hpx86_1 _ (by omega)
              have e95 : qA M85 (M 98 4) 4 = qA M67 (M 98 4) 4 := by unfold qA; exact hpx86_1 _ (by omega)
              have e96 : qA M85 (M 98 4) 6 = qA M67 (M 98 4) 6 := by unfold qA; exact hpx86_1 _ (by omega)
              have e97 : qA M85 (M 98 4) 7 = qA M67 (M 98 4) 7 := by unfold qA; exact hpx86_1 _ (by omega)
              have e98 : qA M85 (M 98 4) 8 = qA M67 (M 98 4) 8 := by unfold qA; exact hpx86_1 _ (by omega)
              have e100 : qA M85 (M 98 4) 5 = qA M67 (M 98 4) 5 := by unfold qA; exact hpx86_1 _ (by omega)
              have e101 : qA M85 (M 98 4) 9 = qA M67 (M 98 4) 9 := by unfold qA; exact hpx86_1 _ (by omega)
              have e102 : qA M85 (M 98 4) 10 = qA M67 (M 98 4) 10 := by unfold qA; exact hpx86_1 _ (by omega)
              show zG n (0, 0) d 204 (110, [.inr (.inr (some 97)), .inl a1, .inl a2, .inl a3, .inl a4, .inl a5, .inl a6], []) M85 _
              refine zG_blk (c' := (112, [.inr (.inr (some 97)), .inl a1, .inl a2, .inl a3, .inl a4, .inl a5, .inl a6], [.inl 4, .inr (.inr (some 97))])) 2 hd0 hz (by rfl) ?_
              refine zG_call hd0 hz (rfl : zP 183 = (zk_X11_one, 2, (0, 0))) rfl rfl (Nat.le_of_ble_eq_true rfl) ⟨Nat.le_refl _, Nat.le_refl _⟩ (qx_one4 (by omega) hCM85   (M 98 4) (by omega) (by omega) (by refine ⟨?_, fun _ => ?_, fun _ => ?_, fun _ => ?_, fun _ => ?_, fun _ => ?_, fun _ => ?_, fun _ => ?_, fun _ => ?_, fun _ => ?_⟩ <;> omega) ) (fun vr M103 hr => ?_)
              obtain ⟨⟨hCM103, hFM103⟩, x104, rfl, hx104, hpx104_0, hpx104_1⟩ := hr
              have hWM103 : qFm [98] M M103 := hWM85.tr hFM103 (by decide)
              have e105 : M103 98 6 = M85 98 6 := hpx104_1 _ (by omega)
              have e107 : M103 98 0 = M85 98 0 := hpx104_1 _ (by omega)
              have e108 : M103 98 3 = M85 98 3 := hpx104_1 _ (by omega)
              have e109 : qA M103 (M 98 4) 0 = qA M85 (M 98 4) 0 := by unfold qA; exact hpx104_1 _ (by omega)
              have e110 : qA M103 (M 98 4) 1 = qA M85 (M 98 4) 1 := by unfold qA; exact hpx104_1 _ (by omega)
              have e111 : qA M103 (M 98 4) 2 = qA M85 (M 98 4) 2 := by unfold qA; exact hpx104_1 _ (by omega)
              have e112 : qA M103 (M 98 4) 3 = qA M85 (M 98 4) 3 := by unfold qA; exact hpx104_1 _ (by omega)
              have e113 : qA M103 (M 98 4) 4 = qA M85 (M 98 4) 4 := by unfold qA; exact hpx104_1 _ (by omega)
              have e114 : qA M103 (M 98 4) 6 = qA M85 (M 98 4) 6 := by unfold qA; exact hpx104_1 _ (by omega)
              have e115 : qA M103 (M 98 4) 7 = qA M85 (M 98 4) 7 := by unfold qA; exact hpx104_1 _ (by omega)
              have e116 : qA M103 (M 98 4) 8 = qA M85 (M 98 4) 8 := by unfold qA; exact hpx104_1 _ (by omega)
              have e117 : qA M103 (M 98 4) 5 = qA M85 (M 98 4) 5 := by unfold qA; exact hpx104_1 _ (by omega)
              have e118 : qA M103 (M 98 4) 9 = qA M85 (M 98 4) 9 := by unfold qA; exact hpx104_1 _ (by omega)
              have e119 : qA M103 (M 98 4) 10 = qA M85 (M 98 4) 10 := by unfold qA; exact hpx104_1 _ (by omega)
              have e120 : qA M103 (M 98 4) 11 = qA M85 (M 98 4) 11 := by unfold qA; exact hpx104_1 _ (by omega)
              show zG n (0, 0) d 204 (115, [.inr (.inr (some 97)), .inl a1, .inl a2, .inl a3, .inl a4, .inl a5, .inl a6], [.inl x104]) M103 _
              exact zG_ret hd0 hz rfl rfl ⟨⟨hCM103, hWM103⟩, _, rfl, by omega, by omega⟩
            · refine zG_blk (c' := (66, [.inr (.inr (some 97)), .inl a1, .inl a2, .inl a3, .inl a4, .inl a5, .inl a6], [.inl (-4)])) 1 hd0 hz (by rfl) ?_
              exact zG_ret hd0 hz rfl rfl ⟨⟨hC, hW⟩, _, rfl, by omega, by omega⟩
          · exact j54
theorem qm_205_97 {n d : Nat} {M : zM} (hd : 4 ≤ d) (hC : qMI M)  (a1 : Int) (ha1 : (-2147483648) ≤ a1 ∧ a1 ≤ 2147483647) (a2 : Int) (ha2 : (-2147483648) ≤ a2 ∧ a2 ≤ 2147483647) (a3 : Int) (ha3 : (-2147483648) ≤ a3 ∧ a3 ≤ 2147483647) (a4 : Int) (ha4 : (-2147483648) ≤ a4 ∧ a4 ≤ 2147483647) : qOkN n d 205 [.inr (.inr (some 97)), .inl a1, .inl a2, .inl a3, .inl a4] 5 [98] M (fun v M' => ∃ x : Int, v = some (.inl x) ∧ ((-2147483648) ≤ x ∧ x ≤ 2147483647) ∧ (M' 98 6 = M 98 6)) := by
  have hz : zP 205 = (zk_X11_excuse, 5, (0, 0)) := rfl
  have hd0 : 0 < d := by omega
  have hW : qFm [98] M M := qFm.rfl
  have r1 := hC.cnt6
  have r2 := hC.cnt4
  have r3 := hC.cnt1
  have r4 := hC.cnt0
  have r5 := hC.cnt3
  show zG n (0, 0) d 205 (0, [.inr (.inr (some 97)), .inl a1, .inl a2, .inl a3, .inl a4], []) M _
  refine zG_blk (c' := (3, [.inr (.inr (some 97)), .inl a1, .inl a2, .inl a3, .inl a4], [.inl a1, .inl 1, .inr (.inr (some 97))])) 3 hd0 hz (by rfl) ?_
  refine zG_call hd0 hz (rfl : zP 182 = (zk_X11_is, 3, (0, 0))) rfl rfl (Nat.le_of_ble_eq_true rfl) ⟨Nat.le_refl _, Nat.le_refl _⟩ (qx_is (by omega) hC   1 (by omega) a1 (by omega) ) (fun vr M6 hr => ?_)
  obtain ⟨hq, x7, rfl, hx7⟩ := hr
  replace hq := hq.symm; subst hq
  show zG n (0, 0) d 205 (6, [.inr (.inr (some 97)), .inl a1, .inl a2, .inl a3, .inl a4], [.inl x7]) M _
  have j28 : zG n (0, 0) d 205 (28, [.inr (.inr (some 97)), .inl a1, .inl a2, .inl a3, .inl a4], []) M (fun v M' => (qMI M' ∧ qFm [98] M M') ∧ ∃ x : Int, v = some (.inl x) ∧ ((-2147483648) ≤ x ∧ x ≤ 2147483647) ∧ (M' 98 6 = M 98 6)) := by
    refine zG_blk (c' := (30, [.inr (.inr (some 97)), .inl a1, .inl a2, .inl a3, .inl a4], [.inl (-2)])) 1 hd0 hz (by rfl) ?_
    exact zG_ret hd0 hz rfl rfl ⟨⟨hC, hW⟩, _, rfl, by omega, by omega⟩
  refine zG_if_eq hd0 hz rfl (fun hb8 => ?_) (fun hb8 => ?_)
  · exact j28
  · refine zG_blk (c' := (12, [.inr (.inr (some 97)), .inl a1, .inl a2, .inl a3, .inl a4], [.inl a2, .inl 0, .inr (.inr (some 97))])) 3 hd0 hz (by rfl) ?_
    refine zG_call hd0 hz (rfl : zP 182 = (zk_X11_is, 3, (0, 0))) rfl rfl (Nat.le_of_ble_eq_true rfl) ⟨Nat.le_refl _, Nat.le_refl _⟩ (qx_is (by omega) hC   0 (by omega) a2 (by omega) ) (fun vr M9 hr => ?_)
    obtain ⟨hq, x10, rfl, hx10⟩ := hr
    replace hq := hq.symm; subst hq
    show zG n (0, 0) d 205 (15, [.inr (.inr (some 97)), .inl a1, .inl a2, .inl a3, .inl a4], [.inl x10]) M _
    refine zG_if_eq hd0 hz rfl (fun hb11 => ?_) (fun hb11 => ?_)
    · exact j28
    · refine zG_blk (c' := (22, [.inr (.inr (some 97)), .inl a1, .inl a2, .inl a3, .inl a4], [.inl a4, .inl a3, .inr (.inr (some 97))])) 3 hd0 hz (by rfl) ?_
      refine zG_call hd0 hz (rfl : zP 200 = (zk_X11_isBy, 3, (0, 0))) rfl rfl (Nat.le_of_ble_eq_true rfl) ⟨Nat.le_refl _, Nat.le_refl _⟩ (qm_200_97 (by omega) hC   a3 (by omega) a4 (by omega) ) (fun vr M12 hr => ?_)
      obtain ⟨hq, x13, rfl, hx13, hpx13_0⟩ := hr
      replace hq := hq.symm; subst hq
      show zG n (0, 0) d 205 (25, [.inr (.inr (some 97)), .inl a1, .inl a2, .inl a3, .inl a4], [.inl x13]) M _
      refine zG_if_ne hd0 hz rfl (fun hb14 => ?_) (fun hb14 => ?_)
      · refine zG_blk (c' := (32, [.inr (.inr (some 97)), .inl a1, .inl a2, .inl a3, .inl a4], [.inr (.inr (some 97))])) 1 hd0 hz (by rfl) ?_
        refine zG_call hd0 hz (rfl : zP 197 = (zk_X11_isFull, 1, (0, 0))) rfl rfl (Nat.le_of_ble_eq_true rfl) ⟨Nat.le_refl _, Nat.le_refl _⟩ (qx_isFull (by omega) hC    ) (fun vr M15 hr => ?_)
        obtain ⟨hq, x16, rfl, hx16⟩ := hr
        replace hq := hq.symm; subst hq
        show zG n (0, 0) d 205 (35, [.inr (.inr (some 97)), .inl a1, .inl a2, .inl a3, .inl a4], [.inl x16]) M _
        refine zG_if_eq hd0 hz rfl (fun hb17 => ?_) (fun hb17 => ?_)
        · refine zG_blk (c' := (45, [.inr (.inr (some 97)), .inl a1, .inl a2, .inl a3, .inl a4], [.inl a3, .inr (.inr (some 97)), .inl 4, .inr (.inr (some 97))])) 4 hd0 hz (by rfl) ?_
          refine zG_call hd0 hz (rfl : zP 199 = (zk_X11_dayOf, 2, (0, 0))) rfl rfl (Nat.le_of_ble_eq_true rfl) ⟨Nat.le_refl _, Nat.le_refl _⟩ (qx_dayOf (by omega) hC   a3 (by omega) ) (fun vr M18 hr => ?_)
          obtain ⟨hq, x19, rfl, hx19⟩ := hr
          replace hq := hq.symm; subst hq
          show zG n (0, 0) d 205 (48, [.inr (.inr (some 97)), .inl a1, .inl a2, .inl a3, .inl a4], [.inl x19, .inl 4, .inr (.inr (some 97))]) M _
          refine zG_blk (c' := (51, [.inr (.inr (some 97)), .inl a1, .inl a2, .inl a3, .inl a4], [.inl a3, .inl a4, .inl x19, .inl 4, .inr (.inr (some 97))])) 2 hd0 hz (by rfl) ?_
          refine zG_call hd0 hz (rfl : zP 196 = (zk_X11_begins, 6, (0, 0))) rfl rfl (Nat.le_of_ble_eq_true rfl) ⟨Nat.le_refl _, Nat.le_refl _⟩ (qx_begins (by omega) hC   4 x19 a4 a3 (by omega) (by omega) (by omega) (M 98 4) (by omega) (by omega) (by omega) ) (fun vr M20 hr => ?_)
          obtain ⟨⟨hCM20, hFM20⟩, rfl, hpx21_0, hpx21_1, hpx21_2, hpx21_3, hpx21_4, hpx21_5, hpx21_6, hpx21_7, hpx21_8, hpx21_9, hpx21_10, hpx21_11, hpx21_12⟩ := hr
          have hWM20 : qFm [98] M M20 := hW.tr hFM20 (by decide)
          have e22 : M20 98 6 = M 98 6 := hpx21_12 _ (by omega)
          have e23 : M20 98 4 = M 98 4 := hpx21_12 _ (by omega)
          have e24 : M20 98 1 = M 98 1 := hpx21_12 _ (by omega)
          have e25 : M20 98 0 = M 98 0 := hpx21_12 _ (by omega)
          have e26 : M20 98 3 = M 98 3 := hpx21_12 _ (by omega)
          show zG n (0, 0) d 205 (54, [.inr (.inr (some 97)), .inl a1, .inl a2, .inl a3, .inl a4], []) M20 _
          refine zG_blk (c' := (57, [.inr (.inr (some 97)), .inl a1, .inl a2, .inl a3, .inl a4], [.inl a1, .inl 4, .inr (.inr (some 97))])) 3 hd0 hz (by rfl) ?_
          refine zG_call hd0 hz (rfl : zP 195 = (zk_X11_puts, 3, (0, 0))) rfl rfl (Nat.le_of_ble_eq_true rfl) ⟨Nat.le_refl _, Nat.le_refl _⟩ (qx_putsM (by omega) hCM20   4 a1 (by omega) (M 98 4) (by omega) (by omega) (by omega) (by refine ⟨fun _ => ?_, fun _ => ?_, fun _ => ?_, fun _ => ?_⟩ <;> omega) ) (fun vr M27 hr => ?_)
          obtain ⟨⟨hCM27, hFM27⟩, rfl, hpx28_0, hpx28_1⟩ := hr
          have hWM27 : qFm [98] M M27 := hWM20.tr hFM27 (by decide)
          have e29 : M27 98 6 = M20 98 6 := hpx28_1 _ (by omega)
          have e30 : M27 98 4 = M20 98 4 := hpx28_1 _ (by omega)
          have e31 : M27 98 1 = M20 98 1 := hpx28_1 _ (by omega)
          have e32 : M27 98 0 = M20 98 0 := hpx28_1 _ (by omega)
          have e33 : M27 98 3 = M20 98 3 := hpx28_1 _ (by omega)
          have e34 : qA M27 (M 98 4) 0 = qA M20 (M 98 4) 0 := by unfold qA; exact hpx28_1 _ (by omega)
          have e35 : qA M27 (M 98 4) 1 = qA M20 (M 98 4) 1 := by unfold qA; exact hpx28_1 _ (by omega)
          have e36 : qA M27 (M 98 4) 2 = qA M20 (M 98 4) 2 := by unfold qA; exact hpx28_1 _ (by omega)
          have e37 : qA M27 (M 98 4) 3 = qA M20 (M 98 4) 3 := by unfold qA; exact hpx28_1 _ (by omega)
          have e39 : qA M27 (M 98 4) 5 = qA M20 (M 98 4) 5 := by unfold qA; exact hpx28_1 _ (by omega)
          have e40 : qA M27 (M 98 4) 6 = qA M20 (M 98 4) 6 := by unfold qA; exact hpx28_1 _ (by omega)
          have e41 : qA M27 (M 98 4) 7 = qA M20 (M 98 4) 7 := by unfold qA; exact hpx28_1 _ (by omega)
          have e42 : qA M27 (M 98 4) 8 = qA M20 (M 98 4) 8 := by unfold qA; exact hpx28_1 _ (by omega)
          have e43 : qA M27 (M 98 4) 9 = qA M20 (M 98 4) 9 := by unfold qA; exact hpx28_1 _ (by omega)
          have e44 : qA M27 (M 98 4) 10 = qA M20 (M 98 4) 10 := by unfold qA; exact hpx28_1 _ (by omega)
          have e45 : qA M27 (M 98 4) 11 = qA M20 (M 98 4) 11 := by unfold qA; exact hpx28_1 _ (by omega)
          show zG n (0, 0) d 205 (60, [.inr (.inr (some 97)), .inl a1, .inl a2, .inl a3, .inl a4], []) M27 _
          refine zG_blk (c' := (63, [.inr (.inr (some 97)), .inl a1, .inl a2, .inl a3, .inl a4], [.inl a2, .inl 5, .inr (.inr (some 97))])) 3 hd0 hz (by rfl) ?_
          refine zG_call hd0 hz (rfl : zP 195 = (zk_X11_puts, 3, (0, 0))) rfl rfl (Nat.le_of_ble_eq_true rfl) ⟨Nat.le_refl _, Nat.le_refl _⟩ (qx_putsM (by omega) hCM27   5 a2 (by omega) (M 98 4) (by omega) (by omega) (by omega) (by refine ⟨fun _ => ?_, fun _ => ?_, fun _ => ?_, fun _ => ?_⟩ <;> omega) ) (fun vr M46 hr => ?_)
          obtain ⟨⟨hCM46, hFM46⟩, rfl, hpx47_0, hpx47_1⟩ := hr
          have hWM46 : qFm [98] M M46 := hWM27.tr hFM46 (by decide)
          have e48 : M46 98 6 = M27 98 6 := hpx47_1 _ (by omega)
          have e49 : M46 98 4 = M27 98 4 := hpx47_1 _ (by omega)
          have e50 : M46 98 1 = M27 98 1 := hpx47_1 _ (by omega)
          have e51 : M46 98 0 = M27 98 0 := hpx47_1 _ (by omega)
          have e52 : M46 98 3 = M27 98 3 := hpx47_1 _ (by omega)
          have e53 : qA M46 (M 98 4) 0 = qA M27 (M 98 4) 0 := by unfold qA; exact hpx47_1 _ (by omega)
          have e54 : qA M46 (M 98 4) 1 = qA M27 (M 98 4) 1 := by unfold qA; exact hpx47_1 _ (by omega)
          have e55 : qA M46 (M 98 4) 2 = qA M27 (M 98 4) 2 := by unfold qA; exact hpx47_1 _ (by omega)
          have e56 : qA M46 (M 98 4) 3 = qA M27 (M 98 4) 3 := by unfold qA; exact hpx47_1 _ (by omega)
          have e58 : qA M46 (M 98 4) 6 = qA M27 (M 98 4) 6 := by unfold qA; exact hpx47_1 _ (by omega)
          have e59 : qA M46 (M 98 4) 7 = qA M27 (M 98 4) 7 := by unfold qA; exact hpx47_1 _ (by omega)
          have e60 : qA M46 (M 98 4) 8 = qA M27 (M 98 4) 8 := by unfold qA; exact hpx47_1 _ (by omega)
          have e61 : qA M46 (M 98 4) 9 = qA M27 (M 98 4) 9 := by unfold qA; exact hpx47_1 _ (by omega)
          have e62 : qA M46 (M 98 4) 10 = qA M27 (M 98 4) 10 := by unfold qA; exact hpx47_1 _ (by omega)
          have e63 : qA M46 (M 98 4) 11 = qA M27 (M 98 4) 11 := by unfold qA; exact hpx47_1 _ (by omega)
          have e64 : qA M46 (M 98 4) 4 = qA M27 (M 98 4) 4 := by unfold qA; exact hpx47_1 _ (by omega)
          show zG n (0, 0) d 205 (66, [.inr (.inr (some 97)), .inl a1, .inl a2, .inl a3, .inl a4], []) M46 _
          refine zG_blk (c' := (68, [.inr (.inr (some 97)), .inl a1, .inl a2, .inl a3, .inl a4], [.inl 4, .inr (.inr (some 97))])) 2 hd0 hz (by rfl) ?_
          refine zG_call hd0 hz (rfl : zP 183 = (zk_X11_one, 2, (0, 0))) rfl rfl (Nat.le_of_ble_eq_true rfl) ⟨Nat.le_refl _, Nat.le_refl _⟩ (qx_one4 (by omega) hCM46   (M 98 4) (by omega) (by omega) (by refine ⟨?_, fun _ => ?_, fun _ => ?_, fun _ => ?_, fun _ => ?_, fun _ => ?_, fun _ => ?_, fun _ => ?_, fun _ => ?_, fun _ => ?_⟩ <;> omega) ) (fun vr M65 hr => ?_)
          obtain ⟨⟨hCM65, hFM65⟩, x66, rfl, hx66, hpx66_0, hpx66_1⟩ := hr
          have hWM65 : qFm [98] M M65 := hWM46.tr hFM65 (by decide)
          have e67 : M65 98 6 = M46 98 6 := hpx66_1 _ (by omega)
          have e69 : M65 98 1 = M46 98 1 := hpx66_1 _ (by omega)
          have e70 : M65 98 0 = M46 98 0 := hpx66_1 _ (by omega)
          have e71 : M65 98 3 = M46 98 3 := hpx66_1 _ (by omega)
          have e72 : qA M65 (M 98 4) 0 = qA M46 (M 98 4) 0 := by unfold qA; exact hpx66_1 _ (by omega)
          have e73 : qA M65 (M 98 4) 1 = qA M46 (M 98 4) 1 := by unfold qA; exact hpx66_1 _ (by omega)
          have e74 : qA M65 (M 98 4) 2 = qA M46 (M 98 4) 2 := by unfold qA; exact hpx66_1 _ (by omega)
          have e75 : qA M65 (M 98 4) 3 = qA M46 (M 98 4) 3 := by unfold qA; exact hpx66_1 _ (by omega)
          have e76 : qA M65 (M 98 4) 6 = qA M46 (M 98 4) 6 := by unfold qA; exact hpx66_1 _ (by omega)
          have e77 : qA M65 (M 98 4) 7 = qA M46 (M 98 4) 7 := by unfold qA; exact hpx66_1 _ (by omega)
          have e78 : qA M65 (M 98 4) 8 = qA M46 (M 98 4) 8 := by unfold qA; exact hpx66_1 _ (by omega)
          have e79 : qA M65 (M 98 4) 9 = qA M46 (M 98 4) 9 := by unfold qA; exact hpx66_1 _ (by omega)
          have e80 : qA M65 (M 98 4) 10 = qA M46 (M 98 4) 10 := by unfold qA; exact hpx66_1 _ (by omega)
          have e81 : qA M65 (M 98 4) 11 = qA M46 (M 98 4) 11 := by unfold qA; exact hpx66_1 _ (by omega)
          have e82 : qA M65 (M 98 4) 4 = qA M46 (M 98 4) 4 := by unfold qA; exact hpx66_1 _ (by omega)
          have e83 : qA M65 (M 98 4) 5 = qA M46 (M 98 4) 5 := by unfold qA; exact hpx66_1 _ (by omega)
          show zG n (0, 0) d 205 (71, [.inr (.inr (some 97)), .inl a1, .inl a2, .inl a3, .inl a4], [.inl x66]) M65 _
          exact zG_ret hd0 hz rfl rfl ⟨⟨hCM65, hWM65⟩, _, rfl, by omega, by omega⟩
        · refine zG_blk (c' := (40, [.inr (.inr (some 97)), .inl a1, .inl a2, .inl a3, .inl a4], [.inl (-4)])) 1 hd0 hz (by rfl) ?_
          exact zG_ret hd0 hz rfl rfl ⟨⟨hC, hW⟩, _, rfl, by omega, by omega⟩
      · exact j28
theorem qm_206_97 {n d : Nat} {M : zM} (hd : 4 ≤ d) (hC : qMI M)  (a1 : Int) (ha1 : (-2147483648) ≤ a1 ∧ a1 ≤ 2147483647) (a2 : Int) (ha2 : (-2147483648) ≤ a2 ∧ a2 ≤ 2147483647) (a3 : Int) (ha3 : (-2147483648) ≤ a3 ∧ a3 ≤ 2147483647) : qOkN n d 206 [.inr (.inr (some 97)), .inl a1, .inl a2, .inl a3] 4 [98] M (fun v M' => ∃ x : Int, v = some (.inl x) ∧ ((-2147483648) ≤ x ∧ x ≤ 2147483647) ∧ (M' 98 6 = M 98 6)) := by
  have hz : zP 206 = (zk_X11_strike, 4, (0, 0)) := rfl
  have hd0 : 0 < d := by omega
  have hW : qFm [98] M M := qFm.rfl
  have r1 := hC.cnt6
  have r2 := hC.cnt4
  have r3 := hC.cnt3
  show zG n (0, 0) d 206 (0, [.inr (.inr (some 97)), .inl a1, .inl a2, .inl a3], []) M _
  refine zG_blk (c' := (3, [.inr (.inr (some 97)), .inl a1, .inl a2, .inl a3], [.inl a1, .inl 4, .inr (.inr (some 97))])) 3 hd0 hz (by rfl) ?_
  refine zG_call hd0 hz (rfl : zP 182 = (zk_X11_is, 3, (0, 0))) rfl rfl (Nat.le_of_ble_eq_true rfl) ⟨Nat.le_refl _, Nat.le_refl _⟩ (qx_is (by omega) hC   4 (by omega) a1 (by omega) ) (fun vr M4 hr => ?_)
  obtain ⟨hq, x5, rfl, hx5⟩ := hr
  replace hq := hq.symm; subst hq
  show zG n (0, 0) d 206 (6, [.inr (.inr (some 97)), .inl a1, .inl a2, .inl a3], [.inl x5]) M _
  have j18 : zG n (0, 0) d 206 (18, [.inr (.inr (some 97)), .inl a1, .inl a2, .inl a3], []) M (fun v M' => (qMI M' ∧ qFm [98] M M') ∧ ∃ x : Int, v = some (.inl x) ∧ ((-2147483648) ≤ x ∧ x ≤ 2147483647) ∧ (M' 98 6 = M 98 6)) := by
    refine zG_blk (c' := (20, [.inr (.inr (some 97)), .inl a1, .inl a2, .inl a3], [.inl (-2)])) 1 hd0 hz (by rfl) ?_
    exact zG_ret hd0 hz rfl rfl ⟨⟨hC, hW⟩, _, rfl, by omega, by omega⟩
  refine zG_if_eq hd0 hz rfl (fun hb6 => ?_) (fun hb6 => ?_)
  · exact j18
  · refine zG_blk (c' := (12, [.inr (.inr (some 97)), .inl a1, .inl a2, .inl a3], [.inl a3, .inl a2, .inr (.inr (some 97))])) 3 hd0 hz (by rfl) ?_
    refine zG_call hd0 hz (rfl : zP 200 = (zk_X11_isBy, 3, (0, 0))) rfl rfl (Nat.le_of_ble_eq_true rfl) ⟨Nat.le_refl _, Nat.le_refl _⟩ (qm_200_97 (by omega) hC   a2 (by omega) a3 (by omega) ) (fun vr M7 hr => ?_)
    obtain ⟨hq, x8, rfl, hx8, hpx8_0⟩ := hr
    replace hq := hq.symm; subst hq
    show zG n (0, 0) d 206 (15, [.inr (.inr (some 97)), .inl a1, .inl a2, .inl a3], [.inl x8]) M _
    refine zG_if_ne hd0 hz rfl (fun hb9 => ?_) (fun hb9 => ?_)
    · refine zG_blk (c' := (22, [.inr (.inr (some 97)), .inl a1, .inl a2, .inl a3], [.inr (.inr (some 97))])) 1 hd0 hz (by rfl) ?_
      refine zG_call hd0 hz (rfl : zP 197 = (zk_X11_isFull, 1, (0, 0))) rfl rfl (Nat.le_of_ble_eq_true rfl) ⟨Nat.le_refl _, Nat.le_refl _⟩ (qx_isFull (by omega) hC    ) (fun vr M10 hr => ?_)
      obtain ⟨hq, x11, rfl, hx11⟩ := hr
      replace hq := hq.symm; subst hq
      show zG n (0, 0) d 206 (25, [.inr (.inr (some 97)), .inl a1, .inl a2, .inl a3], [.inl x11]) M _
      refine zG_if_eq hd0 hz rfl (fun hb12 => ?_) (fun hb12 => ?_)
      · refine zG_blk (c' := (35, [.inr (.inr (some 97)), .inl a1, .inl a2, .inl a3], [.inl a2, .inr (.inr (some 97)), .inl 5, .inr (.inr (some 97))])) 4 hd0 hz (by rfl) ?_
        refine zG_call hd0 hz (rfl : zP 199 = (zk_X11_dayOf, 2, (0, 0))) rfl rfl (Nat.le_of_ble_eq_true rfl) ⟨Nat.le_refl _, Nat.le_refl _⟩ (qx_dayOf (by omega) hC   a2 (by omega) ) (fun vr M13 hr => ?_)
        obtain ⟨hq, x14, rfl, hx14⟩ := hr
        replace hq := hq.symm; subst hq
        show zG n (0, 0) d 206 (38, [.inr (.inr (some 97)), .inl a1, .inl a2, .inl a3], [.inl x14, .inl 5, .inr (.inr (some 97))]) M _
        refine zG_blk (c' := (40, [.inr (.inr (some 97)), .inl a1, .inl a2, .inl a3], [.inl a2, .inl a3, .inl x14, .inl 5, .inr (.inr (some 97))])) 2 hd0 hz (by rfl) ?_
        refine zG_call hd0 hz (rfl : zP 196 = (zk_X11_begins, 6, (0, 0))) rfl rfl (Nat.le_of_ble_eq_true rfl) ⟨Nat.le_refl _, Nat.le_refl _⟩ (qx_begins (by omega) hC   5 x14 a3 a2 (by omega) (by omega) (by omega) (M 98 4) (by omega) (by omega) (by omega) ) (fun vr M15 hr => ?_)
        obtain ⟨⟨hCM15, hFM15⟩, rfl, hpx16_0, hpx16_1, hpx16_2, hpx16_3, hpx16_4, hpx16_5, hpx16_6, hpx16_7, hpx16_8, hpx16_9, hpx16_10, hpx16_11, hpx16_12⟩ := hr
        have hWM15 : qFm [98] M M15 := hW.tr hFM15 (by decide)
        have e17 : M15 98 6 = M 98 6 := hpx16_12 _ (by omega)
        have e18 : M15 98 4 = M 98 4 := hpx16_12 _ (by omega)
        have e19 : M15 98 3 = M 98 3 := hpx16_12 _ (by omega)
        show zG n (0, 0) d 206 (43, [.inr (.inr (some 97)), .inl a1, .inl a2, .inl a3], []) M15 _
        refine zG_blk (c' := (47, [.inr (.inr (some 97)), .inl a1, .inl a2, .inl a3], [.inl a1, .inl 6, .inr (.inr (some 97))])) 3 hd0 hz (by rfl) ?_
        refine zG_call hd0 hz (rfl : zP 195 = (zk_X11_puts, 3, (0, 0))) rfl rfl (Nat.le_of_ble_eq_true rfl) ⟨Nat.le_refl _, Nat.le_refl _⟩ (qx_putsM (by omega) hCM15   6 a1 (by omega) (M 98 4) (by omega) (by omega) (by omega) (by refine ⟨fun _ => ?_, fun _ => ?_, fun _ => ?_, fun _ => ?_⟩ <;> omega) ) (fun vr M20 hr => ?_)
        obtain ⟨⟨hCM20, hFM20⟩, rfl, hpx21_0, hpx21_1⟩ := hr
        have hWM20 : qFm [98] M M20 := hWM15.tr hFM20 (by decide)
        have e22 : M20 98 6 = M15 98 6 := hpx21_1 _ (by omega)
        have e23 : M20 98 4 = M15 98 4 := hpx21_1 _ (by omega)
        have e24 : M20 98 3 = M15 98 3 := hpx21_1 _ (by omega)
        have e25 : qA M20 (M 98 4) 0 = qA M15 (M 98 4) 0 := by unfold qA; exact hpx21_1 _ (by omega)
        have e26 : qA M20 (M 98 4) 1 = qA M15 (M 98 4) 1 := by unfold qA; exact hpx21_1 _ (by omega)
        have e27 : qA M20 (M 98 4) 2 = qA M15 (M 98 4) 2 := by unfold qA; exact hpx21_1 _ (by omega)
        have e28 : qA M20 (M 98 4) 3 = qA M15 (M 98 4) 3 := by unfold qA; exact hpx21_1 _ (by omega)
        have e29 : qA M20 (M 98 4) 4 = qA M15 (M 98 4) 4 := by unfold qA; exact hpx21_1 _ (by omega)
        have e30 : qA M20 (M 98 4) 5 = qA M15 (M 98 4) 5 := by unfold qA; exact hpx21_1 _ (by omega)
        have e32 : qA M20 (M 98 4) 7 = qA M15 (M 98 4) 7 := by unfold qA; exact hpx21_1 _ (by omega)
        have e33 : qA M20 (M 98 4) 8 = qA M15 (M 98 4) 8 := by unfold qA; exact hpx21_1 _ (by omega)
        have e34 : qA M20 (M 98 4) 9 = qA M15 (M 98 4) 9 := by unfold qA; exact hpx21_1 _ (by omega)
        have e35 : qA M20 (M 98 4) 10 = qA M15 (M 98 4) 10 := by unfold qA; exact hpx21_1 _ (by omega)
        have e36 : qA M20 (M 98 4) 11 = qA M15 (M 98 4) 11 := by unfold qA; exact hpx21_1 _ (by omega)
        show zG n (0, 0) d 206 (50, [.inr (.inr (some 97)), .inl a1, .inl a2, .inl a3], []) M20 _
        refine zG_blk (c' := (52, [.inr (.inr (some 97)), .inl a1, .inl a2, .inl a3], [.inl 4, .inr (.inr (some 97))])) 2 hd0 hz (by rfl) ?_
        refine zG_call hd0 hz (rfl : zP 183 = (zk_X11_one, 2, (0, 0))) rfl rfl (Nat.le_of_ble_eq_true rfl) ⟨Nat.le_refl _, Nat.le_refl _⟩ (qx_one4 (by omega) hCM20   (M 98 4) (by omega) (by omega) (by refine ⟨?_, fun _ => ?_, fun _ => ?_, fun _ => ?_, fun _ => ?_, fun _ => ?_, fun _ => ?_, fun _ => ?_, fun _ => ?_, fun _ => ?_⟩ <;> omega) ) (fun vr M37 hr => ?_)
        obtain ⟨⟨hCM37, hFM37⟩, x38, rfl, hx38, hpx38_0, hpx38_1⟩ := hr
        have hWM37 : qFm [98] M M37 := hWM20.tr hFM37 (by decide)
        have e39 : M37 98 6 = M20 98 6 := hpx38_1 _ (by omega)
        have e41 : M37 98 3 = M20 98 3 := hpx38_1 _ (by omega)
        have e42 : qA M37 (M 98 4) 0 = qA M20 (M 98 4) 0 := by unfold qA; exact hpx38_1 _ (by omega)
        have e43 : qA M37 (M 98 4) 1 = qA M20 (M 98 4) 1 := by unfold qA; exact hpx38_1 _ (by omega)
        have e44 : qA M37 (M 98 4) 2 = qA M20 (M 98 4) 2 := by unfold qA; exact hpx38_1 _ (by omega)
        have e45 : qA M37 (M 98 4) 3 = qA M20 (M 98 4) 3 := by unfold qA; exact hpx38_1 _ (by omega)
        have e46 : qA M37 (M 98 4) 4 = qA M20 (M 98 4) 4 := by unfold qA; exact hpx38_1 _ (by omega)
        have e47 : qA M37 (M 98 4) 5 = qA M20 (M 98 4) 5 := by unfold qA; exact hpx38_1 _ (by omega)
        have e48 : qA M37 (M 98 4) 7 = qA M20 (M 98 4) 7 := by unfold qA; exact hpx38_1 _ (by omega)
        have e49 : qA M37 (M 98 4) 8 = qA M20 (M 98 4) 8 := by unfold qA; exact hpx38_1 _ (by omega)
        have e50 : qA M37 (M 98 4) 9 = qA M20 (M 98 4) 9 := by unfold qA; exact hpx38_1 _ (by omega)
        have e51 : qA M37 (M 98 4) 10 = qA M20 (M 98 4) 10 := by unfold qA; exact hpx38_1 _ (by omega)
        have e52 : qA M37 (M 98 4) 11 = qA M20 (M 98 4) 11 := by unfold qA; exact hpx38_1 _ (by omega)
        have e53 : qA M37 (M 98 4) 6 = qA M20 (M 98 4) 6 := by unfold qA; exact hpx38_1 _ (by omega)
        show zG n (0, 0) d 206 (55, [.inr (.inr (some 97)), .inl a1, .inl a2, .inl a3], [.inl x38]) M37 _
        exact zG_ret hd0 hz rfl rfl ⟨⟨hCM37, hWM37⟩, _, rfl, by omega, by omega⟩
      · refine zG_blk (c' := (30, [.inr (.inr (some 97)), .inl a1, .inl a2, .inl a3], [.inl (-4)])) 1 hd0 hz (by rfl) ?_
        exact zG_ret hd0 hz rfl rfl ⟨⟨hC, hW⟩, _, rfl, by omega, by omega⟩
    · exact j18
theorem qm_207_97 {n d : Nat} {M : zM} (hd : 4 ≤ d) (hC : qMI M)  (a1 : Int) (ha1 : (-2147483648) ≤ a1 ∧ a1 ≤ 2147483647) (a2 : Int) (ha2 : (-2147483648) ≤ a2 ∧ a2 ≤ 2147483647) (a3 : Int) (ha3 : (-2147483648) ≤ a3 ∧ a3 ≤ 2147483647) : qOkN n d 207 [.inr (.inr (some 97)), .inl a1, .inl a2, .inl a3] 4 [98] M (fun v M' => ∃ x : Int, v = some (.inl x) ∧ ((-2147483648) ≤ x ∧ x ≤ 2147483647) ∧ (M' 98 6 = M 98 6)) := by
  have hz : zP 207 = (zk_X11_degree, 4, (0, 0)) := rfl
  have hd0 : 0 < d := by omega
  have hW : qFm [98] M M := qFm.rfl
  have r1 := hC.cnt6
  have r2 := hC.cnt4
  have r3 := hC.cnt1
  have r4 := hC.cnt3
  show zG n (0, 0) d 207 (0, [.inr (.inr (some 97)), .inl a1, .inl a2, .inl a3], []) M _
  refine zG_blk (c' := (3, [.inr (.inr (some 97)), .inl a1, .inl a2, .inl a3], [.inl a1, .inl 1, .inr (.inr (some 97))])) 3 hd0 hz (by rfl) ?_
  refine zG_call hd0 hz (rfl : zP 182 = (zk_X11_is, 3, (0, 0))) rfl rfl (Nat.le_of_ble_eq_true rfl) ⟨Nat.le_refl _, Nat.le_refl _⟩ (qx_is (by omega) hC   1 (by omega) a1 (by omega) ) (fun vr M5 hr => ?_)
  obtain ⟨hq, x6, rfl, hx6⟩ := hr
  replace hq := hq.symm; subst hq
  show zG n (0, 0) d 207 (6, [.inr (.inr (some 97)), .inl a1, .inl a2, .inl a3], [.inl x6]) M _
  have j18 : zG n (0, 0) d 207 (18, [.inr (.inr (some 97)), .inl a1, .inl a2, .inl a3], []) M (fun v M' => (qMI M' ∧ qFm [98] M M') ∧ ∃ x : Int, v = some (.inl x) ∧ ((-2147483648) ≤ x ∧ x ≤ 2147483647) ∧ (M' 98 6 = M 98 6)) := by
    refine zG_blk (c' := (20, [.inr (.inr (some 97)), .inl a1, .inl a2, .inl a3], [.inl (-2)])) 1 hd0 hz (by rfl) ?_
    exact zG_ret hd0 hz rfl rfl ⟨⟨hC, hW⟩, _, rfl, by omega, by omega⟩
  refine zG_if_eq hd0 hz rfl (fun hb7 => ?_) (fun hb7 => ?_)
  · exact j18
  · refine zG_blk (c' := (12, [.inr (.inr (some 97)), .inl a1, .inl a2, .inl a3], [.inl a3, .inl a2, .inr (.inr (some 97))])) 3 hd0 hz (by rfl) ?_
    refine zG_call hd0 hz (rfl : zP 200 = (zk_X11_isBy, 3, (0, 0))) rfl rfl (Nat.le_of_ble_eq_true rfl) ⟨Nat.le_refl _, Nat.le_refl _⟩ (qm_200_97 (by omega) hC   a2 (by omega) a3 (by omega) ) (fun vr M8 hr => ?_)
    obtain ⟨hq, x9, rfl, hx9, hpx9_0⟩ := hr
    replace hq := hq.symm; subst hq
    show zG n (0, 0) d 207 (15, [.inr (.inr (some 97)), .inl a1, .inl a2, .inl a3], [.inl x9]) M _
    refine zG_if_ne hd0 hz rfl (fun hb10 => ?_) (fun hb10 => ?_)
    · refine zG_blk (c' := (22, [.inr (.inr (some 97)), .inl a1, .inl a2, .inl a3], [.inr (.inr (some 97))])) 1 hd0 hz (by rfl) ?_
      refine zG_call hd0 hz (rfl : zP 197 = (zk_X11_isFull, 1, (0, 0))) rfl rfl (Nat.le_of_ble_eq_true rfl) ⟨Nat.le_refl _, Nat.le_refl _⟩ (qx_isFull (by omega) hC    ) (fun vr M11 hr => ?_)
      obtain ⟨hq, x12, rfl, hx12⟩ := hr
      replace hq := hq.symm; subst hq
      show zG n (0, 0) d 207 (25, [.inr (.inr (some 97)), .inl a1, .inl a2, .inl a3], [.inl x12]) M _
      refine zG_if_eq hd0 hz rfl (fun hb13 => ?_) (fun hb13 => ?_)
      · refine zG_blk (c' := (36, [.inr (.inr (some 97)), .inl a1, .inl a2, .inl a3], [.inl a2, .inr (.inr (some 97)), .inl 6, .inr (.inr (some 97))])) 4 hd0 hz (by rfl) ?_
        refine zG_call hd0 hz (rfl : zP 199 = (zk_X11_dayOf, 2, (0, 0))) rfl rfl (Nat.le_of_ble_eq_true rfl) ⟨Nat.le_refl _, Nat.le_refl _⟩ (qx_dayOf (by omega) hC   a2 (by omega) ) (fun vr M14 hr => ?_)
        obtain ⟨hq, x15, rfl, hx15⟩ := hr
        replace hq := hq.symm; subst hq
        show zG n (0, 0) d 207 (39, [.inr (.inr (some 97)), .inl a1, .inl a2, .inl a3], [.inl x15, .inl 6, .inr (.inr (some 97))]) M _
        refine zG_blk (c' := (41, [.inr (.inr (some 97)), .inl a1, .inl a2, .inl a3], [.inl a2, .inl a3, .inl x15, .inl 6, .inr (.inr (some 97))])) 2 hd0 hz (by rfl) ?_
        refine zG_call hd0 hz (rfl : zP 196 = (zk_X11_begins, 6, (0, 0))) rfl rfl (Nat.le_of_ble_eq_true rfl) ⟨Nat.le_refl _, Nat.le_refl _⟩ (qx_begins (by omega) hC   6 x15 a3 a2 (by omega) (by omega) (by omega) (M 98 4) (by omega) (by omega) (by omega) ) (fun vr M16 hr => ?_)
        obtain ⟨⟨hCM16, hFM16⟩, rfl, hpx17_0, hpx17_1, hpx17_2, hpx17_3, hpx17_4, hpx17_5, hpx17_6, hpx17_7, hpx17_8, hpx17_9, hpx17_10, hpx17_11, hpx17_12⟩ := hr
        have hWM16 : qFm [98] M M16 := hW.tr hFM16 (by decide)
        have e18 : M16 98 6 = M 98 6 := hpx17_12 _ (by omega)
        have e19 : M16 98 4 = M 98 4 := hpx17_12 _ (by omega)
        have e20 : M16 98 1 = M 98 1 := hpx17_12 _ (by omega)
        have e21 : M16 98 3 = M 98 3 := hpx17_12 _ (by omega)
        show zG n (0, 0) d 207 (44, [.inr (.inr (some 97)), .inl a1, .inl a2, .inl a3], []) M16 _
        refine zG_blk (c' := (47, [.inr (.inr (some 97)), .inl a1, .inl a2, .inl a3], [.inl a1, .inl 4, .inr (.inr (some 97))])) 3 hd0 hz (by rfl) ?_
        refine zG_call hd0 hz (rfl : zP 195 = (zk_X11_puts, 3, (0, 0))) rfl rfl (Nat.le_of_ble_eq_true rfl) ⟨Nat.le_refl _, Nat.le_refl _⟩ (qx_putsM (by omega) hCM16   4 a1 (by omega) (M 98 4) (by omega) (by omega) (by omega) (by refine ⟨fun _ => ?_, fun _ => ?_, fun _ => ?_, fun _ => ?_⟩ <;> omega) ) (fun vr M22 hr => ?_)
        obtain ⟨⟨hCM22, hFM22⟩, rfl, hpx23_0, hpx23_1⟩ := hr
        have hWM22 : qFm [98] M M22 := hWM16.tr hFM22 (by decide)
        have e24 : M22 98 6 = M16 98 6 := hpx23_1 _ (by omega)
        have e25 : M22 98 4 = M16 98 4 := hpx23_1 _ (by omega)
        have e26 : M22 98 1 = M16 98 1 := hpx23_1 _ (by omega)
        have e27 : M22 98 3 = M16 98 3 := hpx23_1 _ (by omega)
        have e28 : qA M22 (M 98 4) 0 = qA M16 (M 98 4) 0 := by unfold qA; exact hpx23_1 _ (by omega)
        have e29 : qA M22 (M 98 4) 1 = qA M16 (M 98 4) 1 := by unfold qA; exact hpx23_1 _ (by omega)
        have e30 : qA M22 (M 98 4) 2 = qA M16 (M 98 4) 2 := by unfold qA; exact hpx23_1 _ (by omega)
        have e31 : qA M22 (M 98 4) 3 = qA M16 (M 98 4) 3 := by unfold qA; exact hpx23_1 _ (by omega)
        have e33 : qA M22 (M 98 4) 5 = qA M16 (M 98 4) 5 := by unfold qA; exact hpx23_1 _ (by omega)
        have e34 : qA M22 (M 98 4) 6 = qA M16 (M 98 4) 6 := by unfold qA; exact hpx23_1 _ (by omega)
        have e35 : qA M22 (M 98 4) 7 = qA M16 (M 98 4) 7 := by unfold qA; exact hpx23_1 _ (by omega)
        have e36 : qA M22 (M 98 4) 8 = qA M16 (M 98 4) 8 := by unfold qA; exact hpx23_1 _ (by omega)
        have e37 : qA M22 (M 98 4) 9 = qA M16 (M 98 4) 9 := by unfold qA; exact hpx23_1 _ (by omega)
        have e38 : qA M22 (M 98 4) 10 = qA M16 (M 98 4) 10 := by unfold qA; exact hpx23_1 _ (by omega)
        have e39 : qA M22 (M 98 4) 11 = qA M16 (M 98 4) 11 := by unfold qA; exact hpx23_1 _ (by omega)
        show zG n (0, 0) d 207 (50, [.inr (.inr (some 97)), .inl a1, .inl a2, .inl a3], []) M22 _
        refine zG_blk (c' := (52, [.inr (.inr (some 97)), .inl a1, .inl a2, .inl a3], [.inl 4, .inr (.inr (some 97))])) 2 hd0 hz (by rfl) ?_
        refine zG_call hd0 hz (rfl : zP 183 = (zk_X11_one, 2, (0, 0))) rfl rfl (Nat.le_of_ble_eq_true rfl) ⟨Nat.le_refl _, Nat.le_refl _⟩ (qx_one4 (by omega) hCM22   (M 98 4) (by omega) (by omega) (by refine ⟨?_, fun _ => ?_, fun _ => ?_, fun _ => ?_, fun _ => ?_, fun _ => ?_, fun _ => ?_, fun _ => ?_, fun _ => ?_, fun _ => ?_⟩ <;> omega) ) (fun vr M40 hr => ?_)
        obtain ⟨⟨hCM40, hFM40⟩, x41, rfl, hx41, hpx41_0, hpx41_1⟩ := hr
        have hWM40 : qFm [98] M M40 := hWM22.tr hFM40 (by decide)
        have e42 : M40 98 6 = M22 98 6 := hpx41_1 _ (by omega)
        have e44 : M40 98 1 = M22 98 1 := hpx41_1 _ (by omega)
        have e45 : M40 98 3 = M22 98 3 := hpx41_1 _ (by omega)
        have e46 : qA M40 (M 98 4) 0 = qA M22 (M 98 4) 0 := by unfold qA; exact hpx41_1 _ (by omega)
        have e47 : qA M40 (M 98 4) 1 = qA M22 (M 98 4) 1 := by unfold qA; exact hpx41_1 _ (by omega)
        have e48 : qA M40 (M 98 4) 2 = qA M22 (M 98 4) 2 := by unfold qA; exact hpx41_1 _ (by omega)
        have e49 : qA M40 (M 98 4) 3 = qA M22 (M 98 4) 3 := by unfold qA; exact hpx41_1 _ (by omega)
        have e50 : qA M40 (M 98 4) 5 = qA M22 (M 98 4) 5 := by unfold qA; exact hpx41_1 _ (by omega)
        have e51 : qA M40 (M 98 4) 6 = qA M22 (M 98 4) 6 := by unfold qA; exact hpx41_1 _ (by omega)
        have e52 : qA M40 (M 98 4) 7 = qA M22 (M 98 4) 7 := by unfold qA; exact hpx41_1 _ (by omega)
        have e53 : qA M40 (M 98 4) 8 = qA M22 (M 98 4) 8 := by unfold qA; exact hpx41_1 _ (by omega)
        have e54 : qA M40 (M 98 4) 9 = qA M22 (M 98 4) 9 := by unfold qA; exact hpx41_1 _ (by omega)
        have e55 : qA M40 (M 98 4) 10 = qA M22 (M 98 4) 10 := by unfold qA; exact hpx41_1 _ (by omega)
        have e56 : qA M40 (M 98 4) 11 = qA M22 (M 98 4) 11 := by unfold qA; exact hpx41_1 _ (by omega)
        have e57 : qA M40 (M 98 4) 4 = qA M22 (M 98 4) 4 := by unfold qA; exact hpx41_1 _ (by omega)
        show zG n (0, 0) d 207 (55, [.inr (.inr (some 97)), .inl a1, .inl a2, .inl a3], [.inl x41]) M40 _
        exact zG_ret hd0 hz rfl rfl ⟨⟨hCM40, hWM40⟩, _, rfl, by omega, by omega⟩
      · refine zG_blk (c' := (30, [.inr (.inr (some 97)), .inl a1, .inl a2, .inl a3], [.inl (-4)])) 1 hd0 hz (by rfl) ?_
        exact zG_ret hd0 hz rfl rfl ⟨⟨hC, hW⟩, _, rfl, by omega, by omega⟩
    · exact j18
theorem qm_208_97 {n d : Nat} {M : zM} (hd : 3 ≤ d) (hC : qMI M)  (a1 : Int) (ha1 : (-2147483648) ≤ a1 ∧ a1 ≤ 2147483647) (a2 : Int) (ha2 : (-2147483648) ≤ a2 ∧ a2 ≤ 2147483647) : qOkN n d 208 [.inr (.inr (some 97)), .inl a1, .inl a2] 3 [98] M (fun v M' => ∃ x : Int, v = some (.inl x) ∧ ((-2147483648) ≤ x ∧ x ≤ 2147483647) ∧ (M' 98 6 = M 98 6)) := by
  have hz : zP 208 = (zk_X11_appeal, 3, (0, 0)) := rfl
  have hd0 : 0 < d := by omega
  have hW : qFm [98] M M := qFm.rfl
  have r1 := hC.cnt6
  have r2 := hC.cnt4
  show zG n (0, 0) d 208 (0, [.inr (.inr (some 97)), .inl a1, .inl a2], []) M _
  refine zG_blk (c' := (3, [.inr (.inr (some 97)), .inl a1, .inl a2], [.inl a1, .inl 4, .inr (.inr (some 97))])) 3 hd0 hz (by rfl) ?_
  refine zG_call hd0 hz (rfl : zP 182 = (zk_X11_is, 3, (0, 0))) rfl rfl (Nat.le_of_ble_eq_true rfl) ⟨Nat.le_refl _, Nat.le_refl _⟩ (qx_is (by omega) hC   4 (by omega) a1 (by omega) ) (fun vr M3 hr => ?_)
  obtain ⟨hq, x4, rfl, hx4⟩ := hr
  replace hq := hq.symm; subst hq
  show zG n (0, 0) d 208 (6, [.inr (.inr (some 97)), .inl a1, .inl a2], [.inl x4]) M _
  have j16 : zG n (0, 0) d 208 (16, [.inr (.inr (some 97)), .inl a1, .inl a2], []) M (fun v M' => (qMI M' ∧ qFm [98] M M') ∧ ∃ x : Int, v = some (.inl x) ∧ ((-2147483648) ≤ x ∧ x ≤ 2147483647) ∧ (M' 98 6 = M 98 6)) := by
    refine zG_blk (c' := (18, [.inr (.inr (some 97)), .inl a1, .inl a2], [.inl (-2)])) 1 hd0 hz (by rfl) ?_
    exact zG_ret hd0 hz rfl rfl ⟨⟨hC, hW⟩, _, rfl, by omega, by omega⟩
  refine zG_if_eq hd0 hz rfl (fun hb5 => ?_) (fun hb5 => ?_)
  · exact j16
  · refine zG_blk (c' := (10, [.inr (.inr (some 97)), .inl a1, .inl a2], [.inl a2])) 1 hd0 hz (by rfl) ?_
    refine zG_call hd0 hz (rfl : zP 184 = (zk_X11_isDay, 1, (0, 0))) rfl rfl (Nat.le_of_ble_eq_true rfl) ⟨Nat.le_refl _, Nat.le_refl _⟩ (qm_184 (by omega) hC   a2 (by omega) ) (fun vr M6 hr => ?_)
    obtain ⟨hq, x7, rfl, hx7, hpx7_0⟩ := hr
    replace hq := hq.symm; subst hq
    show zG n (0, 0) d 208 (13, [.inr (.inr (some 97)), .inl a1, .inl a2], [.inl x7]) M _
    refine zG_if_ne hd0 hz rfl (fun hb8 => ?_) (fun hb8 => ?_)
    · refine zG_blk (c' := (22, [.inr (.inr (some 97)), .inl a1, .inl a2], [.inl 3, .inl a1, .inr (.inr (some 97))])) 3 hd0 hz (by rfl) ?_
      refine zG_call hd0 hz (rfl : zP 194 = (zk_X11_act, 3, (0, 0))) rfl rfl (Nat.le_of_ble_eq_true rfl) ⟨Nat.le_refl _, Nat.le_refl _⟩ (qx_act3 (by omega) hC   a1 (by omega) ) (fun vr M9 hr => ?_)
      obtain ⟨hq, x10, rfl, hx10⟩ := hr
      replace hq := hq.symm; subst hq
      show zG n (0, 0) d 208 (25, [.inr (.inr (some 97)), .inl a1, .inl a2], [.inl x10]) M _
      refine zG_blk (c' := (26, [.inr (.inr (some 97)), .inl a1, .inl a2], [.inl (-1), .inl x10])) 1 hd0 hz (by rfl) ?_
      have j51 : zG n (0, 0) d 208 (51, [.inr (.inr (some 97)), .inl a1, .inl a2], []) M (fun v M' => (qMI M' ∧ qFm [98] M M') ∧ ∃ x : Int, v = some (.inl x) ∧ ((-2147483648) ≤ x ∧ x ≤ 2147483647) ∧ (M' 98 6 = M 98 6)) := by
        refine zG_blk (c' := (53, [.inr (.inr (some 97)), .inl a1, .inl a2], [.inl (-3)])) 1 hd0 hz (by rfl) ?_
        exact zG_ret hd0 hz rfl rfl ⟨⟨hC, hW⟩, _, rfl, by omega, by omega⟩
      refine zG_icmp_eq hd0 hz rfl (fun hb11 => ?_) (fun hb11 => ?_)
      · exact j51
      · refine zG_blk (c' := (33, [.inr (.inr (some 97)), .inl a1, .inl a2], [.inl 1, .inl a1, .inr (.inr (some 97)), .inl a2])) 4 hd0 hz (by rfl) ?_
        refine zG_call hd0 hz (rfl : zP 194 = (zk_X11_act, 3, (0, 0))) rfl rfl (Nat.le_of_ble_eq_true rfl) ⟨Nat.le_refl _, Nat.le_refl _⟩ (qx_act0 (by omega) hC   a1 (by omega) 1 (by omega) ) (fun vr M12 hr => ?_)
        obtain ⟨hq, x13, rfl, hx13⟩ := hr
        replace hq := hq.symm; subst hq
        show zG n (0, 0) d 208 (36, [.inr (.inr (some 97)), .inl a1, .inl a2], [.inl x13, .inl a2]) M _
        obtain ⟨x14, hx14⟩ : ∃ x : Int, x = w32 (a2 - x13) := ⟨_, rfl⟩
        have hx14r : x14 = (a2 - x13 + 2147483648) % 4294967296 - 2147483648 := hx14
        refine zG_blk (c' := (44, [.inr (.inr (some 97)), .inl a1, .inl a2], [.inl 7, .inr (.inr (some 98)), .inl 0, .inl x14])) 5 hd0 hz (by subst hx14; rfl) ?_
        refine zG_iald hd0 hz rfl rfl (.inl rfl) (by omega) ?_
        have r15 := hC.sin 7
        show zG n (0, 0) d 208 (45, [.inr (.inr (some 97)), .inl a1, .inl a2], [.inl (M 98 7), .inl 0, .inl x14]) M _
        refine zG_call hd0 hz (rfl : zP 180 = (zk_X11_in, 3, (0, 0))) rfl rfl (Nat.le_of_ble_eq_true rfl) ⟨Nat.le_refl _, Nat.le_refl _⟩ (qx_in (by omega) hC   x14 (by omega) 0 (by omega) (M 98 7) (by omega) ) (fun vr M16 hr => ?_)
        obtain ⟨hq, x17, rfl, hx17⟩ := hr
        replace hq := hq.symm; subst hq
        show zG n (0, 0) d 208 (48, [.inr (.inr (some 97)), .inl a1, .inl a2], [.inl x17]) M _
        refine zG_if_ne hd0 hz rfl (fun hb18 => ?_) (fun hb18 => ?_)
        · refine zG_blk (c' := (55, [.inr (.inr (some 97)), .inl a1, .inl a2], [.inr (.inr (some 97))])) 1 hd0 hz (by rfl) ?_
          refine zG_call hd0 hz (rfl : zP 197 = (zk_X11_isFull, 1, (0, 0))) rfl rfl (Nat.le_of_ble_eq_true rfl) ⟨Nat.le_refl _, Nat.le_refl _⟩ (qx_isFull (by omega) hC    ) (fun vr M19 hr => ?_)
          obtain ⟨hq, x20, rfl, hx20⟩ := hr
          replace hq := hq.symm; subst hq
          show zG n (0, 0) d 208 (58, [.inr (.inr (some 97)), .inl a1, .inl a2], [.inl x20]) M _
          refine zG_if_eq hd0 hz rfl (fun hb21 => ?_) (fun hb21 => ?_)
          · refine zG_blk (c' := (69, [.inr (.inr (some 97)), .inl a1, .inl a2], [.inl (-1), .inl a2, .inl a2, .inl 5, .inr (.inr (some 97))])) 5 hd0 hz (by rfl) ?_
            refine zG_call hd0 hz (rfl : zP 196 = (zk_X11_begins, 6, (0, 0))) rfl rfl (Nat.le_of_ble_eq_true rfl) ⟨Nat.le_refl _, Nat.le_refl _⟩ (qx_begins (by omega) hC   5 a2 a2 (-1) (by omega) (by omega) (by omega) (M 98 4) (by omega) (by omega) (by omega) ) (fun vr M22 hr => ?_)
            obtain ⟨⟨hCM22, hFM22⟩, rfl, hpx23_0, hpx23_1, hpx23_2, hpx23_3, hpx23_4, hpx23_5, hpx23_6, hpx23_7, hpx23_8, hpx23_9, hpx23_10, hpx23_11, hpx23_12⟩ := hr
            have hWM22 : qFm [98] M M22 := hW.tr hFM22 (by decide)
            have e24 : M22 98 6 = M 98 6 := hpx23_12 _ (by omega)
            have e25 : M22 98 4 = M 98 4 := hpx23_12 _ (by omega)
            have e26 : M22 98 7 = M 98 7 := hpx23_12 _ (by omega)
            show zG n (0, 0) d 208 (72, [.inr (.inr (some 97)), .inl a1, .inl a2], []) M22 _
            refine zG_blk (c' := (76, [.inr (.inr (some 97)), .inl a1, .inl a2], [.inl a1, .inl 6, .inr (.inr (some 97))])) 3 hd0 hz (by rfl) ?_
            refine zG_call hd0 hz (rfl : zP 195 = (zk_X11_puts, 3, (0, 0))) rfl rfl (Nat.le_of_ble_eq_true rfl) ⟨Nat.le_refl _, Nat.le_refl _⟩ (qx_putsM (by omega) hCM22   6 a1 (by omega) (M 98 4) (by omega) (by omega) (by omega) (by refine ⟨fun _ => ?_, fun _ => ?_, fun _ => ?_, fun _ => ?_⟩ <;> omega) ) (fun vr M27 hr => ?_)
            obtain ⟨⟨hCM27, hFM27⟩, rfl, hpx28_0, hpx28_1⟩ := hr
            have hWM27 : qFm [98] M M27 := hWM22.tr hFM27 (by decide)
            have e29 : M27 98 6 = M22 98 6 := hpx28_1 _ (by omega)
            have e30 : M27 98 4 = M22 98 4 := hpx28_1 _ (by omega)
            have e31 : M27 98 7 = M22 98 7 := hpx28_1 _ (by omega)
            have e32 : qA M27 (M 98 4) 0 = qA M22 (M 98 4) 0 := by unfold qA; exact hpx28_1 _ (by omega)
            have e33 : qA M27 (M 98 4) 1 = qA M22 (M 98 4) 1 := by unfold qA; exact hpx28_1 _ (by omega)
            have e34 : qA M27 (M 98 4) 2 = qA M22 (M 98 4) 2 := by unfold qA; exact hpx28_1 _ (by omega)
            have e35 : qA M27 (M 98 4) 3 = qA M22 (M 98 4) 3 := by unfold qA; exact hpx28_1 _ (by omega)
            have e36 : qA M27 (M 98 4) 4 = qA M22 (M 98 4) 4 := by unfold qA; exact hpx28_1 _ (by omega)
            have e37 : qA M27 (M 98 4) 5 = qA M22 (M 98 4) 5 := by unfold qA; exact hpx28_1 _ (by omega)
            have e39 : qA M27 (M 98 4) 7 = qA M22 (M 98 4) 7 := by unfold qA; exact hpx28_1 _ (by omega)
            have e40 : qA M27 (M 98 4) 8 = qA M22 (M 98 4) 8 := by unfold qA; exact hpx28_1 _ (by omega)
            have e41 : qA M27 (M 98 4) 9 = qA M22 (M 98 4) 9 := by unfold qA; exact hpx28_1 _ (by omega)
            have e42 : qA M27 (M 98 4) 10 = qA M22 (M 98 4) 10 := by unfold qA; exact hpx28_1 _ (by omega)
            have e43 : qA M27 (M 98 4) 11 = qA M22 (M 98 4) 11 := by unfold qA; exact hpx28_1 _ (by omega)
            show zG n (0, 0) d 208 (79, [.inr (.inr (some 97)), .inl a1, .inl a2], []) M27 _
            refine zG_blk (c' := (81, [.inr (.inr (some 97)), .inl a1, .inl a2], [.inl 4, .inr (.inr (some 97))])) 2 hd0 hz (by rfl) ?_
            refine zG_call hd0 hz (rfl : zP 183 = (zk_X11_one, 2, (0, 0))) rfl rfl (Nat.le_of_ble_eq_true rfl) ⟨Nat.le_refl _, Nat.le_refl _⟩ (qx_one4 (by omega) hCM27   (M 98 4) (by omega) (by omega) (by refine ⟨?_, fun _ => ?_, fun _ => ?_, fun _ => ?_, fun _ => ?_, fun _ => ?_, fun _ => ?_, fun _ => ?_, fun _ => ?_, fun _ => ?_⟩ <;> omega) ) (fun vr M44 hr => ?_)
            obtain ⟨⟨hCM44, hFM44⟩, x45, rfl, hx45, hpx45_0, hpx45_1⟩ := hr
            have hWM44 : qFm [98] M M44 := hWM27.tr hFM44 (by decide)
            have e46 : M44 98 6 = M27 98 6 := hpx45_1 _ (by omega)
            have e48 : M44 98 7 = M27 98 7 := hpx45_1 _ (by omega)
            have e49 : qA M44 (M 98 4) 0 = qA M27 (M 98 4) 0 := by unfold qA; exact hpx45_1 _ (by omega)
            have e50 : qA M44 (M 98 4) 1 = qA M27 (M 98 4) 1 := by unfold qA; exact hpx45_1 _ (by omega)
            have e51 : qA M44 (M 98 4) 2 = qA M27 (M 98 4) 2 := by unfold qA; exact hpx45_1 _ (by omega)
            have e52 : qA M44 (M 98 4) 3 = qA M27 (M 98 4) 3 := by unfold qA; exact hpx45_1 _ (by omega)
            have e53 : qA M44 (M 98 4) 4 = qA M27 (M 98 4) 4 := by unfold qA; exact hpx45_1 _ (by omega)
            have e54 : qA M44 (M 98 4) 5 = qA M27 (M 98 4) 5 := by unfold qA; exact hpx45_1 _ (by omega)
            have e55 : qA M44 (M 98 4) 7 = qA M27 (M 98 4) 7 := by unfold qA; exact hpx45_1 _ (by omega)
            have e56 : qA M44 (M 98 4) 8 = qA M27 (M 98 4) 8 := by unfold qA; exact hpx45_1 _ (by omega)
            have e57 : qA M44 (M 98 4) 9 = qA M27 (M 98 4) 9 := by unfold qA; exact hpx45_1 _ (by omega)
            have e58 : qA M44 (M 98 4) 10 = qA M27 (M 98 4) 10 := by unfold qA; exact hpx45_1 _ (by omega)
            have e59 : qA M44 (M 98 4) 11 = qA M27 (M 98 4) 11 := by unfold qA; exact hpx45_1 _ (by omega)
            have e60 : qA M44 (M 98 4) 6 = qA M27 (M 98 4) 6 := by unfold qA; exact hpx45_1 _ (by omega)
            show zG n (0, 0) d 208 (84, [.inr (.inr (some 97)), .inl a1, .inl a2], [.inl x45]) M44 _
            exact zG_ret hd0 hz rfl rfl ⟨⟨hCM44, hWM44⟩, _, rfl, by omega, by omega⟩
          · refine zG_blk (c' := (63, [.inr (.inr (some 97)), .inl a1, .inl a2], [.inl (-4)])) 1 hd0 hz (by rfl) ?_
            exact zG_ret hd0 hz rfl rfl ⟨⟨hC, hW⟩, _, rfl, by omega, by omega⟩
        · exact j51
    · exact j16
theorem qm_209_97 {n d : Nat} {M : zM} (hd : 2 ≤ d) (hC : qMI M)  (a1 : Int) (ha1 : (-2147483648) ≤ a1 ∧ a1 ≤ 2147483647) : qOkN n d 209 [.inr (.inr (some 97)), .inl a1] 3 [98] M (fun v M' => ∃ x : Int, v = some (.inl x) ∧ ((-2147483648) ≤ x ∧ x ≤ 2147483647) ∧ (M' 98 6 = M 98 6)) := by
  have hz : zP 209 = (zk_X11_days, 3, (0, 0)) := rfl
  have hd0 : 0 < d := by omega
  have hW : qFm [98] M M := qFm.rfl
  have r1 := hC.cnt6
  show zG n (0, 0) d 209 (0, [.inr (.inr (some 97)), .inl a1, zN], []) M _
  refine zG_blk (c' := (5, [.inr (.inr (some 97)), .inl a1, zN], [.inl 1000, .inl 0, .inl a1])) 3 hd0 hz (by rfl) ?_
  refine zG_call hd0 hz (rfl : zP 180 = (zk_X11_in, 3, (0, 0))) rfl rfl (Nat.le_of_ble_eq_true rfl) ⟨Nat.le_refl _, Nat.le_refl _⟩ (qx_in (by omega) hC   a1 (by omega) 0 (by omega) 1000 (by omega) ) (fun vr M2 hr => ?_)
  obtain ⟨hq, x3, rfl, hx3⟩ := hr
  replace hq := hq.symm; subst hq
  show zG n (0, 0) d 209 (8, [.inr (.inr (some 97)), .inl a1, zN], [.inl x3]) M _
  refine zG_if_ne hd0 hz rfl (fun hb4 => ?_) (fun hb4 => ?_)
  · refine zG_blk (c' := (20, [.inr (.inr (some 97)), .inl a1, zN], [.inl 7, .inr (.inr (some 98))])) 3 hd0 hz (by rfl) ?_
    refine zG_iald hd0 hz rfl rfl (.inl rfl) (by omega) ?_
    have r5 := hC.sin 7
    show zG n (0, 0) d 209 (21, [.inr (.inr (some 97)), .inl a1, zN], [.inl (M 98 7)]) M _
    refine zG_blk (c' := (29, [.inr (.inr (some 97)), .inl a1, .inl (M 98 7)], [.inl a1, .inl 7, .inr (.inr (some 98))])) 5 hd0 hz (by rfl) ?_
    refine zG_iast hd0 hz rfl rfl (by omega) ?_
    obtain ⟨M6, hM6⟩ : ∃ X : zM, X = zput M 98 (7 : Int).toNat a1 := ⟨_, rfl⟩
    rw [← hM6]
    have hCM6 : qMI M6 := by rw [hM6]; exact hC.put98' (by refine ⟨by omega, fun _ => by omega, fun _ => by omega, fun _ => by omega, fun _ => by omega, fun _ => by omega, fun _ => by omega, fun _ => by omega, fun c9 hc9 _ => by omega, fun u9 hu9 _ => by omega, fun m9 hm9 _ => by omega, fun a9 ha9 => ⟨fun _ => by omega, fun _ => by omega, fun _ => by omega, fun _ => by omega⟩, fun t9 ht9 _ => by omega, fun o9 ho9 _ => by omega⟩) (by omega) (by omega)
    have hWM6 : qFm [98] M M6 := by rw [hM6]; exact hW.pa (by decide) (by decide)
    have e7 : M6 98 6 = M 98 6 := by rw [hM6]; exact qput_nk (by omega)
    show zG n (0, 0) d 209 (30, [.inr (.inr (some 97)), .inl a1, .inl (M 98 7)], []) M6 _
    refine zG_blk (c' := (31, [.inr (.inr (some 97)), .inl a1, .inl (M 98 7)], [.inl (M 98 7)])) 1 hd0 hz (by rfl) ?_
    exact zG_ret hd0 hz rfl rfl ⟨⟨hCM6, hWM6⟩, _, rfl, by omega, by omega⟩
  · refine zG_blk (c' := (13, [.inr (.inr (some 97)), .inl a1, zN], [.inl (-2)])) 1 hd0 hz (by rfl) ?_
    exact zG_ret hd0 hz rfl rfl ⟨⟨hC, hW⟩, _, rfl, by omega, by omega⟩
theorem qm_253_97 {n d : Nat} {M : zM} (hd : 3 ≤ d) (hC : qMI M)  (a1 : Int) (ha1 : (-2147483648) ≤ a1 ∧ a1 ≤ 2147483647) (a2 : Int) (ha2 : (-2147483648) ≤ a2 ∧ a2 ≤ 2147483647) : qOkN n d 253 [.inr (.inr (some 97)), .inl a1, .inl a2] 4 [98] M (fun v M' => ∃ x : Int, v = some (.inl x) ∧ ((-2147483648) ≤ x ∧ x ≤ 2147483647) ∧ (M' 98 6 = M 98 6)) := by
  have hz : zP 253 = (zk_X11_write, 4, (0, 0)) := rfl
  have hd0 : 0 < d := by omega
  have hW : qFm [98] M M := qFm.rfl
  have r1 := hC.cnt6
  show zG n (0, 0) d 253 (0, [.inr (.inr (some 97)), .inl a1, .inl a2, zN], []) M _
  refine zG_blk (c' := (1, [.inr (.inr (some 97)), .inl a1, .inl a2, zN], [.inl a1])) 1 hd0 hz (by rfl) ?_
  refine zG_call hd0 hz (rfl : zP 252 = (zk_X11_isText, 1, (0, 0))) rfl rfl (Nat.le_of_ble_eq_true rfl) ⟨Nat.le_refl _, Nat.le_refl _⟩ (qm_252 (by omega) hC   a1 (by omega) ) (fun vr M2 hr => ?_)
  obtain ⟨hq, x3, rfl, hx3, hpx3_0⟩ := hr
  replace hq := hq.symm; subst hq
  show zG n (0, 0) d 253 (4, [.inr (.inr (some 97)), .inl a1, .inl a2, zN], [.inl x3]) M _
  have j17 : zG n (0, 0) d 253 (17, [.inr (.inr (some 97)), .inl a1, .inl a2, zN], []) M (fun v M' => (qMI M' ∧ qFm [98] M M') ∧ ∃ x : Int, v = some (.inl x) ∧ ((-2147483648) ≤ x ∧ x ≤ 2147483647) ∧ (M' 98 6 = M 98 6)) := by
    refine zG_blk (c' := (19, [.inr (.inr (some 97)), .inl a1, .inl a2, zN], [.inl (-2)])) 1 hd0 hz (by rfl) ?_
    exact zG_ret hd0 hz rfl rfl ⟨⟨hC, hW⟩, _, rfl, by omega, by omega⟩
  refine zG_if_eq hd0 hz rfl (fun hb4 => ?_) (fun hb4 => ?_)
  · exact j17
  · refine zG_blk (c' := (11, [.inr (.inr (some 97)), .inl a1, .inl a2, zN], [.inl 127, .inl 0, .inl a2])) 3 hd0 hz (by rfl) ?_
    refine zG_call hd0 hz (rfl : zP 180 = (zk_X11_in, 3, (0, 0))) rfl rfl (Nat.le_of_ble_eq_true rfl) ⟨Nat.le_refl _, Nat.le_refl _⟩ (qx_in (by omega) hC   a2 (by omega) 0 (by omega) 127 (by omega) ) (fun vr M5 hr => ?_)
    obtain ⟨hq, x6, rfl, hx6⟩ := hr
    replace hq := hq.symm; subst hq
    show zG n (0, 0) d 253 (14, [.inr (.inr (some 97)), .inl a1, .inl a2, zN], [.inl x6]) M _
    refine zG_if_ne hd0 hz rfl (fun hb7 => ?_) (fun hb7 => ?_)
    · obtain ⟨x8, hx8⟩ : ∃ x : Int, x = w32 (81 * a1) := ⟨_, rfl⟩
      have hx8e : x8 = 81 * a1 := by rw [hx8]; exact w32_id (by omega)
      obtain ⟨x9, hx9⟩ : ∃ x : Int, x = w32 (3350 + x8) := ⟨_, rfl⟩
      have hx9e : x9 = 3350 + x8 := by rw [hx9]; exact w32_id (by omega)
      refine zG_blk (c' := (34, [.inr (.inr (some 97)), .inl a1, .inl a2, .inl x9], [.inl x9, .inr (.inr (some 98))])) 9 hd0 hz (by subst hx9; subst hx8; rfl) ?_
      refine zG_iald hd0 hz rfl rfl (.inl rfl) (by omega) ?_
      obtain ⟨x10, hx10⟩ : ∃ x : Int, x = M 98 (x9 : Int).toNat := ⟨_, rfl⟩
      rw [← hx10]
      have hx10r : qin x10 := by rw [hx10]; exact hC.sin _
      show zG n (0, 0) d 253 (35, [.inr (.inr (some 97)), .inl a1, .inl a2, .inl x9], [.inl x10]) M _
      refine zG_blk (c' := (37, [.inr (.inr (some 97)), .inl a1, .inl a2, .inl x9], [.inl 80, .inl x10])) 1 hd0 hz (by rfl) ?_
      refine zG_icmp_ne hd0 hz rfl (fun hb11 => ?_) (fun hb11 => ?_)
      · refine zG_blk (c' := (49, [.inr (.inr (some 97)), .inl a1, .inl a2, .inl x9], [.inl x9, .inr (.inr (some 98)), .inl x9, .inr (.inr (some 98))])) 4 hd0 hz (by rfl) ?_
        refine zG_iald hd0 hz rfl rfl (.inl rfl) (by omega) ?_
        obtain ⟨x12, hx12⟩ : ∃ x : Int, x = M 98 (x9 : Int).toNat := ⟨_, rfl⟩
        rw [← hx12]
        have hx12r : 0 ≤ x12 ∧ x12 ≤ 80 := by rw [hx12]; exact hC.txt a1 _ (by omega) (by omega)
        show zG n (0, 0) d 253 (50, [.inr (.inr (some 97)), .inl a1, .inl a2, .inl x9], [.inl x12, .inl x9, .inr (.inr (some 98))]) M _
        obtain ⟨x13, hx13⟩ : ∃ x : Int, x = w32 (x12 + 1) := ⟨_, rfl⟩
        have hx13e : x13 = x12 + 1 := by rw [hx13]; exact w32_id (by omega)
        refine zG_blk (c' := (52, [.inr (.inr (some 97)), .inl a1, .inl a2, .inl x9], [.inl x13, .inl x9, .inr (.inr (some 98))])) 2 hd0 hz (by subst hx13; rfl) ?_
        refine zG_iast hd0 hz rfl rfl (by omega) ?_
        obtain ⟨M14, hM14⟩ : ∃ X : zM, X = zput M 98 (x9 : Int).toNat x13 := ⟨_, rfl⟩
        rw [← hM14]
        have hCM14 : qMI M14 := by rw [hM14]; exact hC.put98' (by refine ⟨by omega, fun _ => by omega, fun _ => by omega, fun _ => by omega, fun _ => by omega, fun _ => by omega, fun _ => by omega, fun _ => by omega, fun c9 hc9 _ => by omega, fun u9 hu9 _ => by omega, fun m9 hm9 _ => by omega, fun a9 ha9 => ⟨fun _ => by omega, fun _ => by omega, fun _ => by omega, fun _ => by omega⟩, fun t9 ht9 _ => by omega, fun o9 ho9 _ => by omega⟩) (by omega) (by omega)
        have hWM14 : qFm [98] M M14 := by rw [hM14]; exact hW.pa (by decide) (by decide)
        have e15 : M14 98 6 = M 98 6 := by rw [hM14]; exact qput_nk (by omega)
        have hln : M14 98 (x9 : Int).toNat = x13 := by rw [hM14]; exact qput_eq
        show zG n (0, 0) d 253 (53, [.inr (.inr (some 97)), .inl a1, .inl a2, .inl x9], []) M14 _
        refine zG_blk (c' := (63, [.inr (.inr (some 97)), .inl a1, .inl a2, .inl x9], [.inl x9, .inr (.inr (some 98)), .inl x9, .inr (.inr (some 98))])) 6 hd0 hz (by rfl) ?_
        refine zG_iald hd0 hz rfl rfl (.inl rfl) (by omega) ?_
        obtain ⟨x16, hx16⟩ : ∃ x : Int, x = M14 98 (x9 : Int).toNat := ⟨_, rfl⟩
        rw [← hx16]
        have hx16r : 0 ≤ x16 ∧ x16 ≤ 80 := by rw [hx16]; exact hCM14.txt a1 _ (by omega) (by omega)
        show zG n (0, 0) d 253 (64, [.inr (.inr (some 97)), .inl a1, .inl a2, .inl x9], [.inl x16, .inl x9, .inr (.inr (some 98))]) M14 _
        obtain ⟨x17, hx17⟩ : ∃ x : Int, x = w32 (x9 + x16) := ⟨_, rfl⟩
        have hx17e : x17 = x9 + x16 := by rw [hx17]; exact w32_id (by omega)
        refine zG_blk (c' := (66, [.inr (.inr (some 97)), .inl a1, .inl a2, .inl x9], [.inl a2, .inl x17, .inr (.inr (some 98))])) 2 hd0 hz (by subst hx17; rfl) ?_
        refine zG_iast hd0 hz rfl rfl (by omega) ?_
        obtain ⟨M18, hM18⟩ : ∃ X : zM, X = zput M14 98 (x17 : Int).toNat a2 := ⟨_, rfl⟩
        rw [← hM18]
        have hCM18 : qMI M18 := by rw [hM18]; exact hCM14.put98' (by refine ⟨by omega, fun _ => by omega, fun _ => by omega, fun _ => by omega, fun _ => by omega, fun _ => by omega, fun _ => by omega, fun _ => by omega, fun c9 hc9 _ => by omega, fun u9 hu9 _ => by omega, fun m9 hm9 _ => by omega, fun a9 ha9 => ⟨fun _ => by omega, fun _ => by omega, fun _ => by omega, fun _ => by omega⟩, fun t9 ht9 _ => by omega, fun o9 ho9 _ => by omega⟩) (by omega) (by omega)
        have hWM18 : qFm [98] M M18 := by rw [hM18]; exact hWM14.pa (by decide) (by decide)
        have e19 : M18 98 6 = M14 98 6 := by rw [hM18]; exact qput_nk (by omega)
        show zG n (0, 0) d 253 (67, [.inr (.inr (some 97)), .inl a1, .inl a2, .inl x9], []) M18 _
        refine zG_blk (c' := (72, [.inr (.inr (some 97)), .inl a1, .inl a2, .inl x9], [.inl x9, .inr (.inr (some 98))])) 3 hd0 hz (by rfl) ?_
        refine zG_iald hd0 hz rfl rfl (.inl rfl) (by omega) ?_
        obtain ⟨x20, hx20⟩ : ∃ x : Int, x = M18 98 (x9 : Int).toNat := ⟨_, rfl⟩
        rw [← hx20]
        have hx20r : qin x20 := by rw [hx20]; exact hCM18.sin _
        show zG n (0, 0) d 253 (73, [.inr (.inr (some 97)), .inl a1, .inl a2, .inl x9], [.inl x20]) M18 _
        exact zG_ret hd0 hz rfl rfl ⟨⟨hCM18, hWM18⟩, _, rfl, by omega, by omega⟩
      · refine zG_blk (c' := (42, [.inr (.inr (some 97)), .inl a1, .inl a2, .inl x9], [.inl (-4)])) 1 hd0 hz (by rfl) ?_
        exact zG_ret hd0 hz rfl rfl ⟨⟨hC, hW⟩, _, rfl, by omega, by omega⟩
    · exact j17
theorem qm_254_97 {n d : Nat} {M : zM} (hd : 3 ≤ d) (hC : qMI M)  (a1 : Int) (ha1 : (-2147483648) ≤ a1 ∧ a1 ≤ 2147483647) : qOkN n d 254 [.inr (.inr (some 97)), .inl a1] 3 [98] M (fun v M' => ∃ x : Int, v = some (.inl x) ∧ ((-2) ≤ x ∧ x ≤ 80) ∧ (M' 98 6 = M 98 6)) := by
  have hz : zP 254 = (zk_X11_erase, 3, (0, 0)) := rfl
  have hd0 : 0 < d := by omega
  have hW : qFm [98] M M := qFm.rfl
  have r1 := hC.cnt6
  show zG n (0, 0) d 254 (0, [.inr (.inr (some 97)), .inl a1, zN], []) M _
  refine zG_blk (c' := (1, [.inr (.inr (some 97)), .inl a1, zN], [.inl a1])) 1 hd0 hz (by rfl) ?_
  refine zG_call hd0 hz (rfl : zP 252 = (zk_X11_isText, 1, (0, 0))) rfl rfl (Nat.le_of_ble_eq_true rfl) ⟨Nat.le_refl _, Nat.le_refl _⟩ (qm_252 (by omega) hC   a1 (by omega) ) (fun vr M2 hr => ?_)
  obtain ⟨hq, x3, rfl, hx3, hpx3_0⟩ := hr
  replace hq := hq.symm; subst hq
  show zG n (0, 0) d 254 (4, [.inr (.inr (some 97)), .inl a1, zN], [.inl x3]) M _
  refine zG_if_ne hd0 hz rfl (fun hb4 => ?_) (fun hb4 => ?_)
  · obtain ⟨x5, hx5⟩ : ∃ x : Int, x = w32 (81 * a1) := ⟨_, rfl⟩
    have hx5e : x5 = 81 * a1 := by rw [hx5]; exact w32_id (by omega)
    obtain ⟨x6, hx6⟩ : ∃ x : Int, x = w32 (3350 + x5) := ⟨_, rfl⟩
    have hx6e : x6 = 3350 + x5 := by rw [hx6]; exact w32_id (by omega)
    refine zG_blk (c' := (22, [.inr (.inr (some 97)), .inl a1, zN], [.inl x6, .inr (.inr (some 98))])) 7 hd0 hz (by subst hx6; subst hx5; rfl) ?_
    refine zG_iald hd0 hz rfl rfl (.inl rfl) (by omega) ?_
    obtain ⟨x7, hx7⟩ : ∃ x : Int, x = M 98 (x6 : Int).toNat := ⟨_, rfl⟩
    rw [← hx7]
    have hx7r : 0 ≤ x7 ∧ x7 ≤ 80 := by rw [hx7]; exact hC.txt a1 _ (by omega) (by omega)
    show zG n (0, 0) d 254 (23, [.inr (.inr (some 97)), .inl a1, zN], [.inl x7]) M _
    obtain ⟨x8, hx8⟩ : ∃ x : Int, x = w32 (81 * a1) := ⟨_, rfl⟩
    have hx8e : x8 = 81 * a1 := by rw [hx8]; exact w32_id (by omega)
    obtain ⟨x9, hx9⟩ : ∃ x : Int, x = w32 (3350 + x8) := ⟨_, rfl⟩
    have hx9e : x9 = 3350 + x8 := by rw [hx9]; exact w32_id (by omega)
    refine zG_blk (c' := (37, [.inr (.inr (some 97)), .inl a1, .inl x7], [.inl 0, .inl x9, .inr (.inr (some 98))])) 9 hd0 hz (by subst hx9; subst hx8; rfl) ?_
    refine zG_iast hd0 hz rfl rfl (by omega) ?_
    obtain ⟨M10, hM10⟩ : ∃ X : zM, X = zput M 98 (x9 : Int).toNat 0 := ⟨_, rfl⟩
    rw [← hM10]
    have hCM10 : qMI M10 := by rw [hM10]; exact hC.put98' (by refine ⟨by omega, fun _ => by omega, fun _ => by omega, fun _ => by omega, fun _ => by omega, fun _ => by omega, fun _ => by omega, fun _ => by omega, fun c9 hc9 _ => by omega, fun u9 hu9 _ => by omega, fun m9 hm9 _ => by omega, fun a9 ha9 => ⟨fun _ => by omega, fun _ => by omega, fun _ => by omega, fun _ => by omega⟩, fun t9 ht9 _ => by omega, fun o9 ho9 _ => by omega⟩) (by omega) (by omega)
    have hWM10 : qFm [98] M M10 := by rw [hM10]; exact hW.pa (by decide) (by decide)
    have e11 : M10 98 6 = M 98 6 := by rw [hM10]; exact qput_nk (by omega)
    show zG n (0, 0) d 254 (38, [.inr (.inr (some 97)), .inl a1, .inl x7], []) M10 _
    refine zG_blk (c' := (39, [.inr (.inr (some 97)), .inl a1, .inl x7], [.inl x7])) 1 hd0 hz (by rfl) ?_
    exact zG_ret hd0 hz rfl rfl ⟨⟨hCM10, hWM10⟩, _, rfl, by omega, by omega⟩
  · refine zG_blk (c' := (9, [.inr (.inr (some 97)), .inl a1, zN], [.inl (-2)])) 1 hd0 hz (by rfl) ?_
    exact zG_ret hd0 hz rfl rfl ⟨⟨hC, hW⟩, _, rfl, by omega, by omega⟩
theorem qm_257_97 {n d : Nat} {M : zM} (hd : 7 ≤ d) (hC : qMI M)  (a1 : Int) (ha1 : (-2147483648) ≤ a1 ∧ a1 ≤ 2147483647) (a2 : Int) (ha2 : (-2147483648) ≤ a2 ∧ a2 ≤ 2147483647) (a3 : Int) (ha3 : (-2147483648) ≤ a3 ∧ a3 ≤ 2147483647) (a4 : Int) (ha4 : 0 ≤ a4 ∧ a4 ≤ 1) : qOkN n d 257 [.inr (.inr (some 97)), .inl a1, .inl a2, .inl a3, .inl a4] 7 [98, 105, 106, 107, 1007, 1010, 1012, 1013] M (fun v M' => ∃ x : Int, v = some (.inl x) ∧ ((-2147483648) ≤ x ∧ x ≤ 2147483647) ∧ (M' 98 6 = M 98 6)) := by
  have hz : zP 257 = (zk_X11_ordain, 7, (0, 0)) := rfl
  have hd0 : 0 < d := by omega
  have hW : qFm [98, 105, 106, 107, 1007, 1010, 1012, 1013] M M := qFm.rfl
  have r1 := hC.cnt6
  have r2 := hC.cnt5
  show zG n (0, 0) d 257 (0, [.inr (.inr (some 97)), .inl a1, .inl a2, .inl a3, .inl a4, zN, zN], []) M _
  refine zG_blk (c' := (1, [.inr (.inr (some 97)), .inl a1, .inl a2, .inl a3, .inl a4, zN, zN], [.inl a1])) 1 hd0 hz (by rfl) ?_
  refine zG_call hd0 hz (rfl : zP 252 = (zk_X11_isText, 1, (0, 0))) rfl rfl (Nat.le_of_ble_eq_true rfl) ⟨Nat.le_refl _, Nat.le_refl _⟩ (qm_252 (by omega) hC   a1 (by omega) ) (fun vr M3 hr => ?_)
  obtain ⟨hq, x4, rfl, hx4, hpx4_0⟩ := hr
  replace hq := hq.symm; subst hq
  show zG n (0, 0) d 257 (4, [.inr (.inr (some 97)), .inl a1, .inl a2, .inl a3, .inl a4, zN, zN], [.inl x4]) M _
  have j21 : zG n (0, 0) d 257 (21, [.inr (.inr (some 97)), .inl a1, .inl a2, .inl a3, .inl a4, zN, zN], []) M (fun v M' => (qMI M' ∧ qFm [98, 105, 106, 107, 1007, 1010, 1012, 1013] M M') ∧ ∃ x : Int, v = some (.inl x) ∧ ((-2147483648) ≤ x ∧ x ≤ 2147483647) ∧ (M' 98 6 = M 98 6)) := by
    refine zG_blk (c' := (23, [.inr (.inr (some 97)), .inl a1, .inl a2, .inl a3, .inl a4, zN, zN], [.inl (-2)])) 1 hd0 hz (by rfl) ?_
    exact zG_ret hd0 hz rfl rfl ⟨⟨hC, hW⟩, _, rfl, by omega, by omega⟩
  refine zG_if_eq hd0 hz rfl (fun hb5 => ?_) (fun hb5 => ?_)
  · exact j21
  · refine zG_blk (c' := (8, [.inr (.inr (some 97)), .inl a1, .inl a2, .inl a3, .inl a4, zN, zN], [.inl a2])) 1 hd0 hz (by rfl) ?_
    refine zG_call hd0 hz (rfl : zP 252 = (zk_X11_isText, 1, (0, 0))) rfl rfl (Nat.le_of_ble_eq_true rfl) ⟨Nat.le_refl _, Nat.le_refl _⟩ (qm_252 (by omega) hC   a2 (by omega) ) (fun vr M6 hr => ?_)
    obtain ⟨hq, x7, rfl, hx7, hpx7_0⟩ := hr
    replace hq := hq.symm; subst hq
    show zG n (0, 0) d 257 (11, [.inr (.inr (some 97)), .inl a1, .inl a2, .inl a3, .inl a4, zN, zN], [.inl x7]) M _
    refine zG_if_eq hd0 hz rfl (fun hb8 => ?_) (fun hb8 => ?_)
    · exact j21
    · refine zG_blk (c' := (15, [.inr (.inr (some 97)), .inl a1, .inl a2, .inl a3, .inl a4, zN, zN], [.inl a3])) 1 hd0 hz (by rfl) ?_
      refine zG_call hd0 hz (rfl : zP 184 = (zk_X11_isDay, 1, (0, 0))) rfl rfl (Nat.le_of_ble_eq_true rfl) ⟨Nat.le_refl _, Nat.le_refl _⟩ (qm_184 (by omega) hC   a3 (by omega) ) (fun vr M9 hr => ?_)
      obtain ⟨hq, x10, rfl, hx10, hpx10_0⟩ := hr
      replace hq := hq.symm; subst hq
      show zG n (0, 0) d 257 (18, [.inr (.inr (some 97)), .inl a1, .inl a2, .inl a3, .inl a4, zN, zN], [.inl x10]) M _
      refine zG_if_ne hd0 hz rfl (fun hb11 => ?_) (fun hb11 => ?_)
      · obtain ⟨x12, hx12⟩ : ∃ x : Int, x = w32 (81 * a1) := ⟨_, rfl⟩
        have hx12e : x12 = 81 * a1 := by rw [hx12]; exact w32_id (by omega)
        obtain ⟨x13, hx13⟩ : ∃ x : Int, x = w32 (3350 + x12) := ⟨_, rfl⟩
        have hx13e : x13 = 3350 + x12 := by rw [hx13]; exact w32_id (by omega)
        refine zG_blk (c' := (33, [.inr (.inr (some 97)), .inl a1, .inl a2, .inl a3, .inl a4, zN, zN], [.inl x13, .inr (.inr (some 97))])) 6 hd0 hz (by subst hx13; subst hx12; rfl) ?_
        refine zG_call hd0 hz (rfl : zP 231 = (zk_X11_reads, 8, (0, 0))) rfl rfl (Nat.le_of_ble_eq_true rfl) ⟨Nat.le_refl _, Nat.le_refl _⟩ (qm_231_97 (by omega) hC   x13 (by omega) (by exact hC.txt a1 _ (by omega) (by omega))) (fun vr M14 hr => ?_)
        obtain ⟨⟨hCM14, hFM14⟩, x15, rfl, hx15⟩ := hr
        have hWM14 : qFm [98, 105, 106, 107, 1007, 1010, 1012, 1013] M M14 := hW.tr hFM14 (by decide)
        have e16 : M14 98 6 = M 98 6 := hFM14 98 6 (by decide)
        have e17 : M14 98 5 = M 98 5 := hFM14 98 5 (by decide)
        show zG n (0, 0) d 257 (36, [.inr (.inr (some 97)), .inl a1, .inl a2, .inl a3, .inl a4, zN, zN], [.inl x15]) M14 _
        refine zG_blk (c' := (37, [.inr (.inr (some 97)), .inl a1, .inl a2, .inl a3, .inl a4, zN, zN], [.inl (-1), .inl x15])) 1 hd0 hz (by rfl) ?_
        have j56 : ∀ (M18 : zM) , (M18 98 6 = M 98 6) → qMI M18 → qFm [98, 105, 106, 107, 1007, 1010, 1012, 1013] M M18 → zG n (0, 0) d 257 (56, [.inr (.inr (some 97)), .inl a1, .inl a2, .inl a3, .inl a4, zN, zN], []) M18 (fun v M' => (qMI M' ∧ qFm [98, 105, 106, 107, 1007, 1010, 1012, 1013] M M') ∧ ∃ x : Int, v = some (.inl x) ∧ ((-2147483648) ≤ x ∧ x ≤ 2147483647) ∧ (M' 98 6 = M 98 6)) := by
          intro M18 hx0_56 hCM18 hWM18
          have r19 := hCM18.cnt6
          refine zG_blk (c' := (58, [.inr (.inr (some 97)), .inl a1, .inl a2, .inl a3, .inl a4, zN, zN], [.inl (-3)])) 1 hd0 hz (by rfl) ?_
          exact zG_ret hd0 hz rfl rfl ⟨⟨hCM18, hWM18⟩, _, rfl, by omega, by omega⟩
        refine zG_icmp_ne hd0 hz rfl (fun hb20 => ?_) (fun hb20 => ?_)
        · exact j56 M14 (by omega) hCM14 hWM14
        · obtain ⟨x21, hx21⟩ : ∃ x : Int, x = w32 (81 * a2) := ⟨_, rfl⟩
          have hx21e : x21 = 81 * a2 := by rw [hx21]; exact w32_id (by omega)
          obtain ⟨x22, hx22⟩ : ∃ x : Int, x = w32 (3350 + x21) := ⟨_, rfl⟩
          have hx22e : x22 = 3350 + x21 := by rw [hx22]; exact w32_id (by omega)
          refine zG_blk (c' := (49, [.inr (.inr (some 97)), .inl a1, .inl a2, .inl a3, .inl a4, zN, zN], [.inl x22, .inr (.inr (some 97))])) 6 hd0 hz (by subst hx22; subst hx21; rfl) ?_
          refine zG_call hd0 hz (rfl : zP 231 = (zk_X11_reads, 8, (0, 0))) rfl rfl (Nat.le_of_ble_eq_true rfl) ⟨Nat.le_refl _, Nat.le_refl _⟩ (qm_231_97 (by omega) hCM14   x22 (by omega) (by exact hCM14.txt a2 _ (by omega) (by omega))) (fun vr M23 hr => ?_)
          obtain ⟨⟨hCM23, hFM23⟩, x24, rfl, hx24⟩ := hr
          have hWM23 : qFm [98, 105, 106, 107, 1007, 1010, 1012, 1013] M M23 := hWM14.tr hFM23 (by decide)
          have e25 : M23 98 6 = M14 98 6 := hFM23 98 6 (by decide)
          have e26 : M23 98 5 = M14 98 5 := hFM23 98 5 (by decide)
          show zG n (0, 0) d 257 (52, [.inr (.inr (some 97)), .inl a1, .inl a2, .inl a3, .inl a4, zN, zN], [.inl x24]) M23 _
          refine zG_blk (c' := (53, [.inr (.inr (some 97)), .inl a1, .inl a2, .inl a3, .inl a4, zN, zN], [.inl (-1), .inl x24])) 1 hd0 hz (by rfl) ?_
          refine zG_icmp_eq hd0 hz rfl (fun hb27 => ?_) (fun hb27 => ?_)
          · refine zG_blk (c' := (64, [.inr (.inr (some 97)), .inl a1, .inl a2, .inl a3, .inl a4, zN, zN], [.inl 5, .inr (.inr (some 98))])) 3 hd0 hz (by rfl) ?_
            refine zG_iald hd0 hz rfl rfl (.inl rfl) (by omega) ?_
            show zG n (0, 0) d 257 (65, [.inr (.inr (some 97)), .inl a1, .inl a2, .inl a3, .inl a4, zN, zN], [.inl (M23 98 5)]) M23 _
            refine zG_blk (c' := (67, [.inr (.inr (some 97)), .inl a1, .inl a2, .inl a3, .inl a4, zN, zN], [.inl 10, .inl (M23 98 5)])) 1 hd0 hz (by rfl) ?_
            refine zG_icmp_ne hd0 hz rfl (fun hb28 => ?_) (fun hb28 => ?_)
            · refine zG_blk (c' := (84, [.inr (.inr (some 97)), .inl a1, .inl a2, .inl a3, .inl a4, zN, zN], [.inl 5, .inr (.inr (some 98)), .inl 164, .inl 4000])) 5 hd0 hz (by rfl) ?_
              refine zG_iald hd0 hz rfl rfl (.inl rfl) (by omega) ?_
              show zG n (0, 0) d 257 (85, [.inr (.inr (some 97)), .inl a1, .inl a2, .inl a3, .inl a4, zN, zN], [.inl (M23 98 5), .inl 164, .inl 4000]) M23 _
              obtain ⟨x29, hx29⟩ : ∃ x : Int, x = w32 (164 * (M23 98 5)) := ⟨_, rfl⟩
              have hx29e : x29 = 164 * (M23 98 5) := by rw [hx29]; exact w32_id (by omega)
              obtain ⟨x30, hx30⟩ : ∃ x : Int, x = w32 (4000 + x29) := ⟨_, rfl⟩
              have hx30e : x30 = 4000 + x29 := by rw [hx30]; exact w32_id (by omega)
              refine zG_blk (c' := (92, [.inr (.inr (some 97)), .inl a1, .inl a2, .inl a3, .inl a4, .inl x30, .inl 0], [])) 5 hd0 hz (by subst hx30; subst hx29; rfl) ?_
              have j92 : ∀ (N : Nat) (v31 : Int) (M32 : zM) , (81 - v31 : Int).toNat < N → 0 ≤ v31 ∧ v31 ≤ 81 → (M32 98 6 = M 98 6) → (M32 98 5 = M 98 5) → qMI M32 → qFm [98, 105, 106, 107, 1007, 1010, 1012, 1013] M M32 → zG n (0, 0) d 257 (92, [.inr (.inr (some 97)), .inl a1, .inl a2, .inl a3, .inl a4, .inl x30, .inl v31], []) M32 (fun v M' => (qMI M' ∧ qFm [98, 105, 106, 107, 1007, 1010, 1012, 1013] M M') ∧ ∃ x : Int, v = some (.inl x) ∧ ((-2147483648) ≤ x ∧ x ≤ 2147483647) ∧ (M' 98 6 = M 98 6)) := by
                intro N
                induction N with
                | zero => intro v31 M32 hN hv31 hx0_92 hx1_92 hCM32 hWM32; exact absurd hN (Nat.not_lt_zero _)
                | succ N ih92 =>
                  intro v31 M32 hN hv31 hx0_92 hx1_92 hCM32 hWM32
                  have r33 := hCM32.cnt6
                  have r34 := hCM32.cnt5
                  refine zG_blk (c' := (96, [.inr (.inr (some 97)), .inl a1, .inl a2, .inl a3, .inl a4, .inl x30, .inl v31], [.inl 81, .inl v31])) 2 hd0 hz (by rfl) ?_
                  refine zG_icmp_ge hd0 hz rfl (fun hb35 => ?_) (fun hb35 => ?_)
                  · obtain ⟨x36, hx36⟩ : ∃ x : Int, x = w32 (x30 + 162) := ⟨_, rfl⟩
                    have hx36e : x36 = x30 + 162 := by rw [hx36]; exact w32_id (by omega)
                    refine zG_blk (c' := (171, [.inr (.inr (some 97)), .inl a1, .inl a2, .inl a3, .inl a4, .inl x30, .inl v31], [.inl a3, .inl x36, .inr (.inr (some 98))])) 6 hd0 hz (by subst hx36; rfl) ?_
                    refine zG_iast hd0 hz rfl rfl (by omega) ?_
                    obtain ⟨M37, hM37⟩ : ∃ X : zM, X = zput M32 98 (x36 : Int).toNat a3 := ⟨_, rfl⟩
                    rw [← hM37]
                    have hCM37 : qMI M37 := by rw [hM37]; exact hCM32.put98' (by refine ⟨by omega, fun _ => by omega, fun _ => by omega, fun _ => by omega, fun _ => by omega, fun _ => by omega, fun _ => by omega, fun _ => by omega, fun c9 hc9 _ => by omega, fun u9 hu9 _ => by omega, fun m9 hm9 _ => by omega, fun a9 ha9 => ⟨fun _ => by omega, fun _ => by omega, fun _ => by omega, fun _ => by omega⟩, fun t9 ht9 _ => by omega, fun o9 ho9 _ => by omega⟩) (by omega) (by omega)
                    have hWM37 : qFm [98, 105, 106, 107, 1007, 1010, 1012, 1013] M M37 := by rw [hM37]; exact hWM32.pa (by decide) (by decide)
                    have e38 : M37 98 6 = M32 98 6 := by rw [hM37]; exact qput_nk (by omega)
                    have e39 : M37 98 5 = M32 98 5 := by rw [hM37]; exact qput_nk (by omega)
                    show zG n (0, 0) d 257 (172, [.inr (.inr (some 97)), .inl a1, .inl a2, .inl a3, .inl a4, .inl x30, .inl v31], []) M37 _
                    obtain ⟨x40, hx40⟩ : ∃ x : Int, x = w32 (x30 + 163) := ⟨_, rfl⟩
                    have hx40e : x40 = x30 + 163 := by rw [hx40]; exact w32_id (by omega)
                    refine zG_blk (c' := (184, [.inr (.inr (some 97)), .inl a1, .inl a2, .inl a3, .inl a4, .inl x30, .inl v31], [.inl a4, .inl x40, .inr (.inr (some 98))])) 6 hd0 hz (by subst hx40; rfl) ?_
                    have j192 : ∀ (v41 : Int) , 0 ≤ v41 ∧ v41 ≤ 1 → zG n (0, 0) d 257 (192, [.inr (.inr (some 97)), .inl a1, .inl a2, .inl a3, .inl a4, .inl x30, .inl v31], [.inl v41, .inl x40, .inr (.inr (some 98))]) M37 (fun v M' => (qMI M' ∧ qFm [98, 105, 106, 107, 1007, 1010, 1012, 1013] M M') ∧ ∃ x : Int, v = some (.inl x) ∧ ((-2147483648) ≤ x ∧ x ≤ 2147483647) ∧ (M' 98 6 = M 98 6)) := by
                      intro v41 hv41
                      refine zG_iast hd0 hz rfl rfl (by omega) ?_
                      obtain ⟨M42, hM42⟩ : ∃ X : zM, X = zput M37 98 (x40 : Int).toNat v41 := ⟨_, rfl⟩
                      rw [← hM42]
                      have hCM42 : qMI M42 := by rw [hM42]; exact hCM37.put98' (by refine ⟨by omega, fun _ => by omega, fun _ => by omega, fun _ => by omega, fun _ => by omega, fun _ => by omega, fun _ => by omega, fun _ => by omega, fun c9 hc9 _ => by omega, fun u9 hu9 _ => by omega, fun m9 hm9 _ => by omega, fun a9 ha9 => ⟨fun _ => by omega, fun _ => by omega, fun _ => by omega, fun _ => by omega⟩, fun t9 ht9 _ => by omega, fun o9 ho9 _ => by omega⟩) (by omega) (by omega)
                      have hWM42 : qFm [98, 105, 106, 107, 1007, 1010, 1012, 1013] M M42 := by rw [hM42]; exact hWM37.pa (by decide) (by decide)
                      have e43 : M42 98 6 = M37 98 6 := by rw [hM42]; exact qput_nk (by omega)
                      have e44 : M42 98 5 = M37 98 5 := by rw [hM42]; exact qput_nk (by omega)
                      show zG n (0, 0) d 257 (193, [.inr (.inr (some 97)), .inl a1, .inl a2, .inl a3, .inl a4, .inl x30, .inl v31], []) M42 _
                      refine zG_blk (c' := (195, [.inr (.inr (some 97)), .inl a1, .inl a2, .inl a3, .inl a4, .inl x30, .inl v31], [.inl 5, .inr (.inr (some 97))])) 2 hd0 hz (by rfl) ?_
                      refine zG_call hd0 hz (rfl : zP 183 = (zk_X11_one, 2, (0, 0))) rfl rfl (Nat.le_of_ble_eq_true rfl) ⟨Nat.le_refl _, Nat.le_refl _⟩ (qx_oneC (by omega) hCM42   5 (by decide) (by decide) (by refine ⟨by omega, fun _ => by omega, fun _ => by omega, fun _ => by omega, fun _ => by omega, fun _ => by omega, fun _ => by omega, fun _ => by omega, fun c9 hc9 _ => by omega, fun u9 hu9 _ => by omega, fun m9 hm9 _ => by omega, fun a9 ha9 => ⟨fun _ => by omega, fun _ => by omega, fun _ => by omega, fun _ => by omega⟩, fun t9 ht9 _ => by omega, fun o9 ho9 _ => by omega⟩) ) (fun vr M45 hr => ?_)
                      obtain ⟨⟨hCM45, hFM45⟩, x46, rfl, hx46, hpx46_0, hpx46_1⟩ := hr
                      have hWM45 : qFm [98, 105, 106, 107, 1007, 1010, 1012, 1013] M M45 := hWM42.tr hFM45 (by decide)
                      have e47 : M45 98 6 = M42 98 6 := hpx46_1 _ (by omega)
                      show zG n (0, 0) d 257 (198, [.inr (.inr (some 97)), .inl a1, .inl a2, .inl a3, .inl a4, .inl x30, .inl v31], [.inl x46]) M45 _
                      exact zG_ret hd0 hz rfl rfl ⟨⟨hCM45, hWM45⟩, _, rfl, by omega, by omega⟩
                    refine zG_if_eq hd0 hz rfl (fun hb49 => ?_) (fun hb49 => ?_)
                    · refine zG_blk (c' := (192, [.inr (.inr (some 97)), .inl a1, .inl a2, .inl a3, .inl a4, .inl x30, .inl v31], [.inl 0, .inl x40, .inr (.inr (some 98))])) 1 hd0 hz (by rfl) ?_
                      exact j192 0 (by omega)
                    · refine zG_blk (c' := (192, [.inr (.inr (some 97)), .inl a1, .inl a2, .inl a3, .inl a4, .inl x30, .inl v31], [.inl 1, .inl x40, .inr (.inr (some 98))])) 2 hd0 hz (by rfl) ?_
                      exact j192 1 (by omega)
                  · obtain ⟨x50, hx50⟩ : ∃ x : Int, x = w32 (x30 + v31) := ⟨_, rfl⟩
                    have hx50e : x50 = x30 + v31 := by rw [hx50]; exact w32_id (by omega)
                    obtain ⟨x51, hx51⟩ : ∃ x : Int, x = w32 (81 * a1) := ⟨_, rfl⟩
                    have hx51e : x51 = 81 * a1 := by rw [hx51]; exact w32_id (by omega)
                    obtain ⟨x52, hx52⟩ : ∃ x : Int, x = w32 (3350 + x51) := ⟨_, rfl⟩
                    have hx52e : x52 = 3350 + x51 := by rw [hx52]; exact w32_id (by omega)
                    obtain ⟨x53, hx53⟩ : ∃ x : Int, x = w32 (x52 + v31) := ⟨_, rfl⟩
                    have hx53e : x53 = x52 + v31 := by rw [hx53]; exact w32_id (by omega)
                    refine zG_blk (c' := (123, [.inr (.inr (some 97)), .inl a1, .inl a2, .inl a3, .inl a4, .inl x30, .inl v31], [.inl x53, .inr (.inr (some 98)), .inl x50, .inr (.inr (some 98))])) 14 hd0 hz (by subst hx53; subst hx52; subst hx51; subst hx50; rfl) ?_
                    refine zG_iald hd0 hz rfl rfl (.inl rfl) (by omega) ?_
                    obtain ⟨x54, hx54⟩ : ∃ x : Int, x = M32 98 (x53 : Int).toNat := ⟨_, rfl⟩
                    rw [← hx54]
                    have hx54r : qin x54 := by rw [hx54]; exact hCM32.sin _
                    have hl0 : v31 = 0 → 0 ≤ x54 ∧ x54 ≤ 80 := fun h9 => by rw [hx54]; exact hCM32.txt a1 _ (by omega) (by omega)
                    show zG n (0, 0) d 257 (124, [.inr (.inr (some 97)), .inl a1, .inl a2, .inl a3, .inl a4, .inl x30, .inl v31], [.inl x54, .inl x50, .inr (.inr (some 98))]) M32 _
                    refine zG_iast hd0 hz rfl rfl (by omega) ?_
                    obtain ⟨M55, hM55⟩ : ∃ X : zM, X = zput M32 98 (x50 : Int).toNat x54 := ⟨_, rfl⟩
                    rw [← hM55]
                    have hCM55 : qMI M55 := by rw [hM55]; exact hCM32.put98' (by refine ⟨by omega, fun _ => by omega, fun _ => by omega, fun _ => by omega, fun _ => by omega, fun _ => by omega, fun _ => by omega, fun _ => by omega, fun c9 hc9 _ => by omega, fun u9 hu9 _ => by omega, fun m9 hm9 _ => by omega, fun a9 ha9 => ⟨fun _ => by omega, fun _ => by omega, fun _ => by omega, fun _ => by omega⟩, fun t9 ht9 _ => by omega, fun o9 ho9 _ => by omega⟩) (by omega) (by omega)
                    have hWM55 : qFm [98, 105, 106, 107, 1007, 1010, 1012, 1013] M M55 := by rw [hM55]; exact hWM32.pa (by decide) (by decide)
                    have e56 : M55 98 6 = M32 98 6 := by rw [hM55]; exact qput_nk (by omega)
                    have e57 : M55 98 5 = M32 98 5 := by rw [hM55]; exact qput_nk (by omega)
                    show zG n (0, 0) d 257 (125, [.inr (.inr (some 97)), .inl a1, .inl a2, .inl a3, .inl a4, .inl x30, .inl v31], []) M55 _
                    obtain ⟨x58, hx58⟩ : ∃ x : Int, x = w32 (x30 + 81) := ⟨_, rfl⟩
                    have hx58e : x58 = x30 + 81 := by rw [hx58]; exact w32_id (by omega)
                    obtain ⟨x59, hx59⟩ : ∃ x : Int, x = w32 (x58 + v31) := ⟨_, rfl⟩
                    have hx59e : x59 = x58 + v31 := by rw [hx59]; exact w32_id (by omega)
                    obtain ⟨x60, hx60⟩ : ∃ x : Int, x = w32 (81 * a2) := ⟨_, rfl⟩
                    have hx60e : x60 = 81 * a2 := by rw [hx60]; exact w32_id (by omega)
                    obtain ⟨x61, hx61⟩ : ∃ x : Int, x = w32 (3350 + x60) := ⟨_, rfl⟩
                    have hx61e : x61 = 3350 + x60 := by rw [hx61]; exact w32_id (by omega)
                    obtain ⟨x62, hx62⟩ : ∃ x : Int, x = w32 (x61 + v31) := ⟨_, rfl⟩
                    have hx62e : x62 = x61 + v31 := by rw [hx62]; exact w32_id (by omega)
                    refine zG_blk (c' := (152, [.inr (.inr (some 97)), .inl a1, .inl a2, .inl a3, .inl a4, .inl x30, .inl v31], [.inl x62, .inr (.inr (some 98)), .inl x59, .inr (.inr (some 98))])) 16 hd0 hz (by subst hx62; subst hx61; subst hx60; subst hx59; subst hx58; rfl) ?_
                    refine zG_iald hd0 hz rfl rfl (.inl rfl) (by omega) ?_
                    obtain ⟨x63, hx63⟩ : ∃ x : Int, x = M55 98 (x62 : Int).toNat := ⟨_, rfl⟩
                    rw [← hx63]
                    have hx63r : qin x63 := by rw [hx63]; exact hCM55.sin _
                    have hl1 : v31 = 0 → 0 ≤ x63 ∧ x63 ≤ 80 := fun h9 => by rw [hx63]; exact hCM55.txt a2 _ (by omega) (by omega)
                    show zG n (0, 0) d 257 (153, [.inr (.inr (some 97)), .inl a1, .inl a2, .inl a3, .inl a4, .inl x30, .inl v31], [.inl x63, .inl x59, .inr (.inr (some 98))]) M55 _
                    refine zG_iast hd0 hz rfl rfl (by omega) ?_
                    obtain ⟨M64, hM64⟩ : ∃ X : zM, X = zput M55 98 (x59 : Int).toNat x63 := ⟨_, rfl⟩
                    rw [← hM64]
                    have hCM64 : qMI M64 := by rw [hM64]; exact hCM55.put98' (by refine ⟨by omega, fun _ => by omega, fun _ => by omega, fun _ => by omega, fun _ => by omega, fun _ => by omega, fun _ => by omega, fun _ => by omega, fun c9 hc9 _ => by omega, fun u9 hu9 _ => by omega, fun m9 hm9 _ => by omega, fun a9 ha9 => ⟨fun _ => by omega, fun _ => by omega, fun _ => by omega, fun _ => by omega⟩, fun t9 ht9 _ => by omega, fun o9 ho9 _ => by omega⟩) (by omega) (by omega)
                    have hWM64 : qFm [98, 105, 106, 107, 1007, 1010, 1012, 1013] M M64 := by rw [hM64]; exact hWM55.pa (by decide) (by decide)
                    have e65 : M64 98 6 = M55 98 6 := by rw [hM64]; exact qput_nk (by omega)
                    have e66 : M64 98 5 = M55 98 5 := by rw [hM64]; exact qput_nk (by omega)
                    show zG n (0, 0) d 257 (154, [.inr (.inr (some 97)), .inl a1, .inl a2, .inl a3, .inl a4, .inl x30, .inl v31], []) M64 _
                    obtain ⟨x67, hx67⟩ : ∃ x : Int, x = w32 (v31 + 1) := ⟨_, rfl⟩
                    have hx67e : x67 = v31 + 1 := by rw [hx67]; exact w32_id (by omega)
                    refine zG_blk (c' := (92, [.inr (.inr (some 97)), .inl a1, .inl a2, .inl a3, .inl a4, .inl x30, .inl x67], [])) 2 hd0 hz (by subst hx67; rfl) ?_
                    exact ih92 x67 M64 (by omega) (by omega) (by omega) (by omega) hCM64 hWM64
              exact j92 ((81 - 0 : Int).toNat + 1) 0 M23 (by omega) (by omega) (by omega) (by omega) hCM23 hWM23
            · refine zG_blk (c' := (72, [.inr (.inr (some 97)), .inl a1, .inl a2, .inl a3, .inl a4, zN, zN], [.inl (-4)])) 1 hd0 hz (by rfl) ?_
              exact zG_ret hd0 hz rfl rfl ⟨⟨hCM23, hWM23⟩, _, rfl, by omega, by omega⟩
          · exact j56 M23 (by omega) hCM23 hWM23
      · exact j21
theorem qm_258_97 {n d : Nat} {M : zM} (hd : 3 ≤ d) (hC : qMI M)  (a1 : Int) (ha1 : (-2147483648) ≤ a1 ∧ a1 ≤ 2147483647) (a2 : Int) (ha2 : (-2147483648) ≤ a2 ∧ a2 ≤ 2147483647) : qOkN n d 258 [.inr (.inr (some 97)), .inl a1, .inl a2] 4 [98] M (fun v M' => ∃ x : Int, v = some (.inl x) ∧ ((-2147483648) ≤ x ∧ x ≤ 2147483647) ∧ (M' 98 6 = M 98 6)) := by
  have hz : zP 258 = (zk_X11_choose, 4, (0, 0)) := rfl
  have hd0 : 0 < d := by omega
  have hW : qFm [98] M M := qFm.rfl
  have r1 := hC.cnt6
  have r2 := hC.cnt1
  have r3 := hC.cnt5
  show zG n (0, 0) d 258 (0, [.inr (.inr (some 97)), .inl a1, .inl a2, zN], []) M _
  refine zG_blk (c' := (3, [.inr (.inr (some 97)), .inl a1, .inl a2, zN], [.inl a1, .inl 1, .inr (.inr (some 97))])) 3 hd0 hz (by rfl) ?_
  refine zG_call hd0 hz (rfl : zP 182 = (zk_X11_is, 3, (0, 0))) rfl rfl (Nat.le_of_ble_eq_true rfl) ⟨Nat.le_refl _, Nat.le_refl _⟩ (qx_is (by omega) hC   1 (by omega) a1 (by omega) ) (fun vr M4 hr => ?_)
  obtain ⟨hq, x5, rfl, hx5⟩ := hr
  replace hq := hq.symm; subst hq
  show zG n (0, 0) d 258 (6, [.inr (.inr (some 97)), .inl a1, .inl a2, zN], [.inl x5]) M _
  have j23 : zG n (0, 0) d 258 (23, [.inr (.inr (some 97)), .inl a1, .inl a2, zN], []) M (fun v M' => (qMI M' ∧ qFm [98] M M') ∧ ∃ x : Int, v = some (.inl x) ∧ ((-2147483648) ≤ x ∧ x ≤ 2147483647) ∧ (M' 98 6 = M 98 6)) := by
    refine zG_blk (c' := (25, [.inr (.inr (some 97)), .inl a1, .inl a2, zN], [.inl (-10)])) 1 hd0 hz (by rfl) ?_
    exact zG_ret hd0 hz rfl rfl ⟨⟨hC, hW⟩, _, rfl, by omega, by omega⟩
  refine zG_if_eq hd0 hz rfl (fun hb6 => ?_) (fun hb6 => ?_)
  · exact j23
  · refine zG_blk (c' := (11, [.inr (.inr (some 97)), .inl a1, .inl a2, zN], [.inl (-1), .inl a2])) 2 hd0 hz (by rfl) ?_
    have j26 : (a2 = -1 ∨ (0 ≤ a2 ∧ a2 < M 98 5)) → zG n (0, 0) d 258 (26, [.inr (.inr (some 97)), .inl a1, .inl a2, zN], []) M (fun v M' => (qMI M' ∧ qFm [98] M M') ∧ ∃ x : Int, v = some (.inl x) ∧ ((-2147483648) ≤ x ∧ x ≤ 2147483647) ∧ (M' 98 6 = M 98 6)) := by
      intro hx0_26
      obtain ⟨x7, hx7⟩ : ∃ x : Int, x = w32 (3 * a1) := ⟨_, rfl⟩
      have hx7r : qin x7 := by rw [hx7]; exact w32_in _
      obtain ⟨x8, hx8⟩ : ∃ x : Int, x = w32 (80 + x7) := ⟨_, rfl⟩
      have hx8r : x8 = (80 + x7 + 2147483648) % 4294967296 - 2147483648 := hx8
      obtain ⟨x9, hx9⟩ : ∃ x : Int, x = w32 (x8 + 1) := ⟨_, rfl⟩
      have hx9r : x9 = (x8 + 1 + 2147483648) % 4294967296 - 2147483648 := hx9
      refine zG_blk (c' := (38, [.inr (.inr (some 97)), .inl a1, .inl a2, zN], [.inl x9, .inr (.inr (some 98))])) 9 hd0 hz (by subst hx9; subst hx8; subst hx7; rfl) ?_
      refine zG_iald hd0 hz rfl rfl (.inl rfl) (by omega) ?_
      obtain ⟨x10, hx10⟩ : ∃ x : Int, x = M 98 (x9 : Int).toNat := ⟨_, rfl⟩
      rw [← hx10]
      have hx10r : qin x10 := by rw [hx10]; exact hC.sin _
      show zG n (0, 0) d 258 (39, [.inr (.inr (some 97)), .inl a1, .inl a2, zN], [.inl x10]) M _
      obtain ⟨x11, hx11⟩ : ∃ x : Int, x = w32 (3 * a1) := ⟨_, rfl⟩
      have hx11r : qin x11 := by rw [hx11]; exact w32_in _
      obtain ⟨x12, hx12⟩ : ∃ x : Int, x = w32 (80 + x11) := ⟨_, rfl⟩
      have hx12r : x12 = (80 + x11 + 2147483648) % 4294967296 - 2147483648 := hx12
      obtain ⟨x13, hx13⟩ : ∃ x : Int, x = w32 (x12 + 1) := ⟨_, rfl⟩
      have hx13r : x13 = (x12 + 1 + 2147483648) % 4294967296 - 2147483648 := hx13
      refine zG_blk (c' := (53, [.inr (.inr (some 97)), .inl a1, .inl a2, .inl x10], [.inl a2, .inl x13, .inr (.inr (some 98))])) 11 hd0 hz (by subst hx13; subst hx12; subst hx11; rfl) ?_
      refine zG_iast hd0 hz rfl rfl (by omega) ?_
      obtain ⟨M14, hM14⟩ : ∃ X : zM, X = zput M 98 (x13 : Int).toNat a2 := ⟨_, rfl⟩
      rw [← hM14]
      have hCM14 : qMI M14 := by rw [hM14]; exact hC.put98' (by refine ⟨by omega, fun _ => by omega, fun _ => by omega, fun _ => by omega, fun _ => by omega, fun _ => by omega, fun _ => by omega, fun _ => by omega, fun c9 hc9 _ => by omega, fun u9 hu9 _ => by omega, fun m9 hm9 _ => by omega, fun a9 ha9 => ⟨fun _ => by omega, fun _ => by omega, fun _ => by omega, fun _ => by omega⟩, fun t9 ht9 _ => by omega, fun o9 ho9 _ => by omega⟩) (by omega) (by omega)
      have hWM14 : qFm [98] M M14 := by rw [hM14]; exact hW.pa (by decide) (by decide)
      have e15 : M14 98 6 = M 98 6 := by rw [hM14]; exact qput_nk (by omega)
      have e16 : M14 98 1 = M 98 1 := by rw [hM14]; exact qput_nk (by omega)
      have e17 : M14 98 5 = M 98 5 := by rw [hM14]; exact qput_nk (by omega)
      show zG n (0, 0) d 258 (54, [.inr (.inr (some 97)), .inl a1, .inl a2, .inl x10], []) M14 _
      refine zG_blk (c' := (55, [.inr (.inr (some 97)), .inl a1, .inl a2, .inl x10], [.inl x10])) 1 hd0 hz (by rfl) ?_
      exact zG_ret hd0 hz rfl rfl ⟨⟨hCM14, hWM14⟩, _, rfl, by omega, by omega⟩
    refine zG_icmp_eq hd0 hz rfl (fun hb18 => ?_) (fun hb18 => ?_)
    · exact j26 (by omega)
    · refine zG_blk (c' := (17, [.inr (.inr (some 97)), .inl a1, .inl a2, zN], [.inl a2, .inl 5, .inr (.inr (some 97))])) 3 hd0 hz (by rfl) ?_
      refine zG_call hd0 hz (rfl : zP 182 = (zk_X11_is, 3, (0, 0))) rfl rfl (Nat.le_of_ble_eq_true rfl) ⟨Nat.le_refl _, Nat.le_refl _⟩ (qx_is (by omega) hC   5 (by omega) a2 (by omega) ) (fun vr M19 hr => ?_)
      obtain ⟨hq, x20, rfl, hx20⟩ := hr
      replace hq := hq.symm; subst hq
      show zG n (0, 0) d 258 (20, [.inr (.inr (some 97)), .inl a1, .inl a2, zN], [.inl x20]) M _
      refine zG_if_ne hd0 hz rfl (fun hb21 => ?_) (fun hb21 => ?_)
      · exact j26 (by omega)
      · exact j23
theorem qm_271_97 {n d : Nat} {M : zM} (hd : 3 ≤ d) (hC : qMI M)  (a1 : Int) (ha1 : (-2147483648) ≤ a1 ∧ a1 ≤ 2147483647) (a2 : Int) (ha2 : (-2147483648) ≤ a2 ∧ a2 ≤ 2147483647) (a3 : Int) (ha3 : 0 ≤ a3 ∧ a3 ≤ 1) : qOkN n d 271 [.inr (.inr (some 97)), .inl a1, .inl a2, .inl a3] 5 [98] M (fun v M' => ∃ x : Int, v = some (.inl x) ∧ ((-3) ≤ x ∧ x ≤ 1) ∧ (M' 98 6 = M 98 6)) := by
  have hz : zP 271 = (zk_X11_sits, 5, (0, 0)) := rfl
  have hd0 : 0 < d := by omega
  have hW : qFm [98] M M := qFm.rfl
  have r1 := hC.cnt6
  have r2 := hC.cnt1
  have r3 := hC.cnt0
  show zG n (0, 0) d 271 (0, [.inr (.inr (some 97)), .inl a1, .inl a2, .inl a3, zN], []) M _
  refine zG_blk (c' := (3, [.inr (.inr (some 97)), .inl a1, .inl a2, .inl a3, zN], [.inl a1, .inl 1, .inr (.inr (some 97))])) 3 hd0 hz (by rfl) ?_
  refine zG_call hd0 hz (rfl : zP 182 = (zk_X11_is, 3, (0, 0))) rfl rfl (Nat.le_of_ble_eq_true rfl) ⟨Nat.le_refl _, Nat.le_refl _⟩ (qx_is (by omega) hC   1 (by omega) a1 (by omega) ) (fun vr M4 hr => ?_)
  obtain ⟨hq, x5, rfl, hx5⟩ := hr
  replace hq := hq.symm; subst hq
  show zG n (0, 0) d 271 (6, [.inr (.inr (some 97)), .inl a1, .inl a2, .inl a3, zN], [.inl x5]) M _
  have j18 : zG n (0, 0) d 271 (18, [.inr (.inr (some 97)), .inl a1, .inl a2, .inl a3, zN], []) M (fun v M' => (qMI M' ∧ qFm [98] M M') ∧ ∃ x : Int, v = some (.inl x) ∧ ((-3) ≤ x ∧ x ≤ 1) ∧ (M' 98 6 = M 98 6)) := by
    refine zG_blk (c' := (20, [.inr (.inr (some 97)), .inl a1, .inl a2, .inl a3, zN], [.inl (-2)])) 1 hd0 hz (by rfl) ?_
    exact zG_ret hd0 hz rfl rfl ⟨⟨hC, hW⟩, _, rfl, by omega, by omega⟩
  refine zG_if_eq hd0 hz rfl (fun hb6 => ?_) (fun hb6 => ?_)
  · exact j18
  · refine zG_blk (c' := (12, [.inr (.inr (some 97)), .inl a1, .inl a2, .inl a3, zN], [.inl a2, .inl 0, .inr (.inr (some 97))])) 3 hd0 hz (by rfl) ?_
    refine zG_call hd0 hz (rfl : zP 182 = (zk_X11_is, 3, (0, 0))) rfl rfl (Nat.le_of_ble_eq_true rfl) ⟨Nat.le_refl _, Nat.le_refl _⟩ (qx_is (by omega) hC   0 (by omega) a2 (by omega) ) (fun vr M7 hr => ?_)
    obtain ⟨hq, x8, rfl, hx8⟩ := hr
    replace hq := hq.symm; subst hq
    show zG n (0, 0) d 271 (15, [.inr (.inr (some 97)), .inl a1, .inl a2, .inl a3, zN], [.inl x8]) M _
    refine zG_if_ne hd0 hz rfl (fun hb9 => ?_) (fun hb9 => ?_)
    · obtain ⟨x10, hx10⟩ : ∃ x : Int, x = w32 (3 * a1) := ⟨_, rfl⟩
      have hx10r : qin x10 := by rw [hx10]; exact w32_in _
      obtain ⟨x11, hx11⟩ : ∃ x : Int, x = w32 (80 + x10) := ⟨_, rfl⟩
      have hx11r : x11 = (80 + x10 + 2147483648) % 4294967296 - 2147483648 := hx11
      obtain ⟨x12, hx12⟩ : ∃ x : Int, x = w32 (x11 + 2) := ⟨_, rfl⟩
      have hx12r : x12 = (x11 + 2 + 2147483648) % 4294967296 - 2147483648 := hx12
      refine zG_blk (c' := (37, [.inr (.inr (some 97)), .inl a1, .inl a2, .inl a3, .inl x12], [.inl x12, .inr (.inr (some 98))])) 11 hd0 hz (by subst hx12; subst hx11; subst hx10; rfl) ?_
      refine zG_iald hd0 hz rfl rfl (.inl rfl) (by omega) ?_
      obtain ⟨x13, hx13⟩ : ∃ x : Int, x = M 98 (x12 : Int).toNat := ⟨_, rfl⟩
      rw [← hx13]
      have hx13r : qin x13 := by rw [hx13]; exact hC.sin _
      show zG n (0, 0) d 271 (38, [.inr (.inr (some 97)), .inl a1, .inl a2, .inl a3, .inl x12], [.inl x13]) M _
      obtain ⟨x14, hx14⟩ : ∃ x : Int, x = zbshr x13 a2 := ⟨_, rfl⟩
      have hx14r : qin x14 := by rw [hx14]; exact qb32 _
      obtain ⟨x15, hx15⟩ : ∃ x : Int, x = zband x14 1 := ⟨_, rfl⟩
      have hx15r := qband_r x14 1 (by omega) (by omega); rw [← hx15] at hx15r
      have hx15l : 0 ≤ x14 → x15 ≤ x14 := fun h9 => by rw [hx15]; exact (qband_l x14 1 ⟨h9, by omega⟩ (by omega)).2
      refine zG_blk (c' := (43, [.inr (.inr (some 97)), .inl a1, .inl a2, .inl a3, .inl x12], [.inl 1, .inl x15])) 5 hd0 hz (by subst hx15; subst hx14; rfl) ?_
      have j51 : ∀ (v16 : Int) , 0 ≤ v16 ∧ v16 ≤ 1 → zG n (0, 0) d 271 (51, [.inr (.inr (some 97)), .inl a1, .inl a2, .inl a3, .inl x12], [.inl v16]) M (fun v M' => (qMI M' ∧ qFm [98] M M') ∧ ∃ x : Int, v = some (.inl x) ∧ ((-3) ≤ x ∧ x ≤ 1) ∧ (M' 98 6 = M 98 6)) := by
        intro v16 hv16
        refine zG_blk (c' := (52, [.inr (.inr (some 97)), .inl a1, .inl a2, .inl a3, .inl x12], [.inl a3, .inl v16])) 1 hd0 hz (by rfl) ?_
        refine zG_icmp_ne hd0 hz rfl (fun hb17 => ?_) (fun hb17 => ?_)
        · refine zG_blk (c' := (65, [.inr (.inr (some 97)), .inl a1, .inl a2, .inl a3, .inl x12], [.inl a3, .inl x12, .inr (.inr (some 98))])) 4 hd0 hz (by rfl) ?_
          have j95 : ∀ (v18 : Int) , (-2147483648) ≤ v18 ∧ v18 ≤ 2147483647 → zG n (0, 0) d 271 (95, [.inr (.inr (some 97)), .inl a1, .inl a2, .inl a3, .inl x12], [.inl v18, .inl x12, .inr (.inr (some 98))]) M (fun v M' => (qMI M' ∧ qFm [98] M M') ∧ ∃ x : Int, v = some (.inl x) ∧ ((-3) ≤ x ∧ x ≤ 1) ∧ (M' 98 6 = M 98 6)) := by
            intro v18 hv18
            refine zG_iast hd0 hz rfl rfl (by omega) ?_
            obtain ⟨M19, hM19⟩ : ∃ X : zM, X = zput M 98 (x12 : Int).toNat v18 := ⟨_, rfl⟩
            rw [← hM19]
            have hCM19 : qMI M19 := by rw [hM19]; exact hC.put98' (by refine ⟨by omega, fun _ => by omega, fun _ => by omega, fun _ => by omega, fun _ => by omega, fun _ => by omega, fun _ => by omega, fun _ => by omega, fun c9 hc9 _ => by omega, fun u9 hu9 _ => by omega, fun m9 hm9 _ => by omega, fun a9 ha9 => ⟨fun _ => by omega, fun _ => by omega, fun _ => by omega, fun _ => by omega⟩, fun t9 ht9 _ => by omega, fun o9 ho9 _ => by omega⟩) (by omega) (by omega)
            have hWM19 : qFm [98] M M19 := by rw [hM19]; exact hW.pa (by decide) (by decide)
            have e20 : M19 98 6 = M 98 6 := by rw [hM19]; exact qput_nk (by omega)
            have e21 : M19 98 1 = M 98 1 := by rw [hM19]; exact qput_nk (by omega)
            have e22 : M19 98 0 = M 98 0 := by rw [hM19]; exact qput_nk (by omega)
            show zG n (0, 0) d 271 (96, [.inr (.inr (some 97)), .inl a1, .inl a2, .inl a3, .inl x12], []) M19 _
            refine zG_blk (c' := (97, [.inr (.inr (some 97)), .inl a1, .inl a2, .inl a3, .inl x12], [.inl 1])) 1 hd0 hz (by rfl) ?_
            exact zG_ret hd0 hz rfl rfl ⟨⟨hCM19, hWM19⟩, _, rfl, by omega, by omega⟩
          refine zG_if_eq hd0 hz rfl (fun hb23 => ?_) (fun hb23 => ?_)
          · refine zG_blk (c' := (88, [.inr (.inr (some 97)), .inl a1, .inl a2, .inl a3, .inl x12], [.inl x12, .inr (.inr (some 98)), .inl x12, .inr (.inr (some 98))])) 3 hd0 hz (by rfl) ?_
            refine zG_iald hd0 hz rfl rfl (.inl rfl) (by omega) ?_
            obtain ⟨x24, hx24⟩ : ∃ x : Int, x = M 98 (x12 : Int).toNat := ⟨_, rfl⟩
            rw [← hx24]
            have hx24r : qin x24 := by rw [hx24]; exact hC.sin _
            show zG n (0, 0) d 271 (89, [.inr (.inr (some 97)), .inl a1, .inl a2, .inl a3, .inl x12], [.inl x24, .inl x12, .inr (.inr (some 98))]) M _
            obtain ⟨x25, hx25⟩ : ∃ x : Int, x = zbshl 1 a2 := ⟨_, rfl⟩
            have hx25r : qin x25 := by rw [hx25]; exact qb32 _
            obtain ⟨x26, hx26⟩ : ∃ x : Int, x = zbxor x25 (-1) := ⟨_, rfl⟩
            have hx26r : qin x26 := by rw [hx26]; exact qb32 _
            obtain ⟨x27, hx27⟩ : ∃ x : Int, x = zband x24 x26 := ⟨_, rfl⟩
            have hx27r : qin x27 := by rw [hx27]; exact qb32 _
            refine zG_blk (c' := (95, [.inr (.inr (some 97)), .inl a1, .inl a2, .inl a3, .inl x12], [.inl x27, .inl x12, .inr (.inr (some 98))])) 6 hd0 hz (by subst hx27; subst hx26; subst hx25; rfl) ?_
            exact j95 x27 (by omega)
          · refine zG_blk (c' := (74, [.inr (.inr (some 97)), .inl a1, .inl a2, .inl a3, .inl x12], [.inl x12, .inr (.inr (some 98)), .inl x12, .inr (.inr (some 98))])) 3 hd0 hz (by rfl) ?_
            refine zG_iald hd0 hz rfl rfl (.inl rfl) (by omega) ?_
            obtain ⟨x28, hx28⟩ : ∃ x : Int, x = M 98 (x12 : Int).toNat := ⟨_, rfl⟩
            rw [← hx28]
            have hx28r : qin x28 := by rw [hx28]; exact hC.sin _
            show zG n (0, 0) d 271 (75, [.inr (.inr (some 97)), .inl a1, .inl a2, .inl a3, .inl x12], [.inl x28, .inl x12, .inr (.inr (some 98))]) M _
            obtain ⟨x29, hx29⟩ : ∃ x : Int, x = zbshl 1 a2 := ⟨_, rfl⟩
            have hx29r : qin x29 := by rw [hx29]; exact qb32 _
            obtain ⟨x30, hx30⟩ : ∃ x : Int, x = zbor x28 x29 := ⟨_, rfl⟩
            have hx30r : qin x30 := by rw [hx30]; exact qb32 _
            refine zG_blk (c' := (95, [.inr (.inr (some 97)), .inl a1, .inl a2, .inl a3, .inl x12], [.inl x30, .inl x12, .inr (.inr (some 98))])) 5 hd0 hz (by subst hx30; subst hx29; rfl) ?_
            exact j95 x30 (by omega)
        · refine zG_blk (c' := (57, [.inr (.inr (some 97)), .inl a1, .inl a2, .inl a3, .inl x12], [.inl (-3)])) 1 hd0 hz (by rfl) ?_
          exact zG_ret hd0 hz rfl rfl ⟨⟨hC, hW⟩, _, rfl, by omega, by omega⟩
      refine zG_icmp_ne hd0 hz rfl (fun hb31 => ?_) (fun hb31 => ?_)
      · refine zG_blk (c' := (51, [.inr (.inr (some 97)), .inl a1, .inl a2, .inl a3, .inl x12], [.inl 0])) 1 hd0 hz (by rfl) ?_
        exact j51 0 (by omega)
      · refine zG_blk (c' := (51, [.inr (.inr (some 97)), .inl a1, .inl a2, .inl a3, .inl x12], [.inl 1])) 2 hd0 hz (by rfl) ?_
        exact j51 1 (by omega)
    · exact j18
theorem qm_285_97 {n d : Nat} {M : zM} (hd : 2 ≤ d) (hC : qMI M)  (a1 : Int) (ha1 : (-2147483648) ≤ a1 ∧ a1 ≤ 2147483647) : qOkN n d 285 [.inr (.inr (some 97)), .inl a1] 3 [98] M (fun v M' => ∃ x : Int, v = some (.inl x) ∧ ((-2147483648) ≤ x ∧ x ≤ 2147483647) ∧ (M' 98 6 = M 98 6)) := by
  have hz : zP 285 = (zk_X11_odds, 3, (0, 0)) := rfl
  have hd0 : 0 < d := by omega
  have hW : qFm [98] M M := qFm.rfl
  have r1 := hC.cnt6
  show zG n (0, 0) d 285 (0, [.inr (.inr (some 97)), .inl a1, zN], []) M _
  refine zG_blk (c' := (5, [.inr (.inr (some 97)), .inl a1, zN], [.inl 10000, .inl 1, .inl a1])) 3 hd0 hz (by rfl) ?_
  refine zG_call hd0 hz (rfl : zP 180 = (zk_X11_in, 3, (0, 0))) rfl rfl (Nat.le_of_ble_eq_true rfl) ⟨Nat.le_refl _, Nat.le_refl _⟩ (qx_in (by omega) hC   a1 (by omega) 1 (by omega) 10000 (by omega) ) (fun vr M2 hr => ?_)
  obtain ⟨hq, x3, rfl, hx3⟩ := hr
  replace hq := hq.symm; subst hq
  show zG n (0, 0) d 285 (8, [.inr (.inr (some 97)), .inl a1, zN], [.inl x3]) M _
  refine zG_if_ne hd0 hz rfl (fun hb4 => ?_) (fun hb4 => ?_)
  · refine zG_blk (c' := (20, [.inr (.inr (some 97)), .inl a1, zN], [.inl 8, .inr (.inr (some 98))])) 3 hd0 hz (by rfl) ?_
    refine zG_iald hd0 hz rfl rfl (.inl rfl) (by omega) ?_
    have r5 := hC.sin 8
    show zG n (0, 0) d 285 (21, [.inr (.inr (some 97)), .inl a1, zN], [.inl (M 98 8)]) M _
    refine zG_blk (c' := (29, [.inr (.inr (some 97)), .inl a1, .inl (M 98 8)], [.inl a1, .inl 8, .inr (.inr (some 98))])) 5 hd0 hz (by rfl) ?_
    refine zG_iast hd0 hz rfl rfl (by omega) ?_
    obtain ⟨M6, hM6⟩ : ∃ X : zM, X = zput M 98 (8 : Int).toNat a1 := ⟨_, rfl⟩
    rw [← hM6]
    have hCM6 : qMI M6 := by rw [hM6]; exact hC.put98' (by refine ⟨by omega, fun _ => by omega, fun _ => by omega, fun _ => by omega, fun _ => by omega, fun _ => by omega, fun _ => by omega, fun _ => by omega, fun c9 hc9 _ => by omega, fun u9 hu9 _ => by omega, fun m9 hm9 _ => by omega, fun a9 ha9 => ⟨fun _ => by omega, fun _ => by omega, fun _ => by omega, fun _ => by omega⟩, fun t9 ht9 _ => by omega, fun o9 ho9 _ => by omega⟩) (by omega) (by omega)
    have hWM6 : qFm [98] M M6 := by rw [hM6]; exact hW.pa (by decide) (by decide)
    have e7 : M6 98 6 = M 98 6 := by rw [hM6]; exact qput_nk (by omega)
    show zG n (0, 0) d 285 (30, [.inr (.inr (some 97)), .inl a1, .inl (M 98 8)], []) M6 _
    refine zG_blk (c' := (31, [.inr (.inr (some 97)), .inl a1, .inl (M 98 8)], [.inl (M 98 8)])) 1 hd0 hz (by rfl) ?_
    exact zG_ret hd0 hz rfl rfl ⟨⟨hCM6, hWM6⟩, _, rfl, by omega, by omega⟩
  · refine zG_blk (c' := (13, [.inr (.inr (some 97)), .inl a1, zN], [.inl (-2)])) 1 hd0 hz (by rfl) ?_
    exact zG_ret hd0 hz rfl rfl ⟨⟨hC, hW⟩, _, rfl, by omega, by omega⟩
theorem qm_286_97 {n d : Nat} {M : zM} (hd : 2 ≤ d) (hC : qMI M)  (a1 : Int) (ha1 : (-2147483648) ≤ a1 ∧ a1 ≤ 2147483647) (a2 : Int) (ha2 : (-2147483648) ≤ a2 ∧ a2 ≤ 2147483647) : qOkN n d 286 [.inr (.inr (some 97)), .inl a1, .inl a2] 3 [98] M (fun v M' => ∃ x : Int, v = some (.inl x) ∧ ((-2147483648) ≤ x ∧ x ≤ 2147483647) ∧ ((x < 0 ∧ M' 98 6 = M 98 6 ∧ (x = -4 → M 98 6 = 12) ∧ (x = -2 → ¬ (0 ≤ a1 ∧ a1 ≤ 1000 ∧ 0 ≤ a2 ∧ a2 ≤ 1000))) ∨ ((0 ≤ a1 ∧ a1 ≤ 1000 ∧ 0 ≤ a2 ∧ a2 ≤ 1000) ∧ M 98 6 < 12 ∧ x = M 98 6 + 1 ∧ M' 98 6 = M 98 6 + 1))) := by
  have hz : zP 286 = (zk_X11_line, 3, (0, 0)) := rfl
  have hd0 : 0 < d := by omega
  have hW : qFm [98] M M := qFm.rfl
  have r1 := hC.cnt6
  show zG n (0, 0) d 286 (0, [.inr (.inr (some 97)), .inl a1, .inl a2], []) M _
  refine zG_blk (c' := (5, [.inr (.inr (some 97)), .inl a1, .inl a2], [.inl 1000, .inl 0, .inl a1])) 3 hd0 hz (by rfl) ?_
  refine zG_call hd0 hz (rfl : zP 180 = (zk_X11_in, 3, (0, 0))) rfl rfl (Nat.le_of_ble_eq_true rfl) ⟨Nat.le_refl _, Nat.le_refl _⟩ (qx_in (by omega) hC   a1 (by omega) 0 (by omega) 1000 (by omega) ) (fun vr M2 hr => ?_)
  obtain ⟨hq, x3, rfl, hx3⟩ := hr
  replace hq := hq.symm; subst hq
  show zG n (0, 0) d 286 (8, [.inr (.inr (some 97)), .inl a1, .inl a2], [.inl x3]) M _
  have j22 : zG n (0, 0) d 286 (22, [.inr (.inr (some 97)), .inl a1, .inl a2], []) M (fun v M' => (qMI M' ∧ qFm [98] M M') ∧ ∃ x : Int, v = some (.inl x) ∧ ((-2147483648) ≤ x ∧ x ≤ 2147483647) ∧ ((x < 0 ∧ M' 98 6 = M 98 6 ∧ (x = -4 → M 98 6 = 12) ∧ (x = -2 → ¬ (0 ≤ a1 ∧ a1 ≤ 1000 ∧ 0 ≤ a2 ∧ a2 ≤ 1000))) ∨ ((0 ≤ a1 ∧ a1 ≤ 1000 ∧ 0 ≤ a2 ∧ a2 ≤ 1000) ∧ M 98 6 < 12 ∧ x = M 98 6 + 1 ∧ M' 98 6 = M 98 6 + 1))) := by
    refine zG_blk (c' := (24, [.inr (.inr (some 97)), .inl a1, .inl a2], [.inl (-2)])) 1 hd0 hz (by rfl) ?_
    exact zG_ret hd0 hz rfl rfl ⟨⟨hC, hW⟩, _, rfl, by omega, by omega⟩
  refine zG_if_eq hd0 hz rfl (fun hb4 => ?_) (fun hb4 => ?_)
  · exact j22
  · refine zG_blk (c' := (16, [.inr (.inr (some 97)), .inl a1, .inl a2], [.inl 1000, .inl 0, .inl a2])) 3 hd0 hz (by rfl) ?_
    refine zG_call hd0 hz (rfl : zP 180 = (zk_X11_in, 3, (0, 0))) rfl rfl (Nat.le_of_ble_eq_true rfl) ⟨Nat.le_refl _, Nat.le_refl _⟩ (qx_in (by omega) hC   a2 (by omega) 0 (by omega) 1000 (by omega) ) (fun vr M5 hr => ?_)
    obtain ⟨hq, x6, rfl, hx6⟩ := hr
    replace hq := hq.symm; subst hq
    show zG n (0, 0) d 286 (19, [.inr (.inr (some 97)), .inl a1, .inl a2], [.inl x6]) M _
    refine zG_if_ne hd0 hz rfl (fun hb7 => ?_) (fun hb7 => ?_)
    · refine zG_blk (c' := (31, [.inr (.inr (some 97)), .inl a1, .inl a2], [.inl 6, .inr (.inr (some 98))])) 3 hd0 hz (by rfl) ?_
      refine zG_iald hd0 hz rfl rfl (.inl rfl) (by omega) ?_
      show zG n (0, 0) d 286 (32, [.inr (.inr (some 97)), .inl a1, .inl a2], [.inl (M 98 6)]) M _
      refine zG_blk (c' := (34, [.inr (.inr (some 97)), .inl a1, .inl a2], [.inl 12, .inl (M 98 6)])) 1 hd0 hz (by rfl) ?_
      refine zG_icmp_ne hd0 hz rfl (fun hb8 => ?_) (fun hb8 => ?_)
      · refine zG_blk (c' := (54, [.inr (.inr (some 97)), .inl a1, .inl a2], [.inl 6, .inr (.inr (some 98)), .inl 2, .inl 5640, .inr (.inr (some 98))])) 7 hd0 hz (by rfl) ?_
        refine zG_iald hd0 hz rfl rfl (.inl rfl) (by omega) ?_
        show zG n (0, 0) d 286 (55, [.inr (.inr (some 97)), .inl a1, .inl a2], [.inl (M 98 6), .inl 2, .inl 5640, .inr (.inr (some 98))]) M _
        obtain ⟨x9, hx9⟩ : ∃ x : Int, x = w32 (2 * (M 98 6)) := ⟨_, rfl⟩
        have hx9e : x9 = 2 * (M 98 6) := by rw [hx9]; exact w32_id (by omega)
        obtain ⟨x10, hx10⟩ : ∃ x : Int, x = w32 (5640 + x9) := ⟨_, rfl⟩
        have hx10e : x10 = 5640 + x9 := by rw [hx10]; exact w32_id (by omega)
        refine zG_blk (c' := (58, [.inr (.inr (some 97)), .inl a1, .inl a2], [.inl a1, .inl x10, .inr (.inr (some 98))])) 3 hd0 hz (by subst hx10; subst hx9; rfl) ?_
        refine zG_iast hd0 hz rfl rfl (by omega) ?_
        obtain ⟨M11, hM11⟩ : ∃ X : zM, X = zput M 98 (x10 : Int).toNat a1 := ⟨_, rfl⟩
        rw [← hM11]
        have hCM11 : qMI M11 := by rw [hM11]; exact hC.put98' (by refine ⟨by omega, fun _ => by omega, fun _ => by omega, fun _ => by omega, fun _ => by omega, fun _ => by omega, fun _ => by omega, fun _ => by omega, fun c9 hc9 _ => by omega, fun u9 hu9 _ => by omega, fun m9 hm9 _ => by omega, fun a9 ha9 => ⟨fun _ => by omega, fun _ => by omega, fun _ => by omega, fun _ => by omega⟩, fun t9 ht9 _ => by omega, fun o9 ho9 _ => by omega⟩) (by omega) (by omega)
        have hWM11 : qFm [98] M M11 := by rw [hM11]; exact hW.pa (by decide) (by decide)
        have e12 : M11 98 6 = M 98 6 := by rw [hM11]; exact qput_nk (by omega)
        show zG n (0, 0) d 286 (59, [.inr (.inr (some 97)), .inl a1, .inl a2], []) M11 _
        refine zG_blk (c' := (73, [.inr (.inr (some 97)), .inl a1, .inl a2], [.inl 6, .inr (.inr (some 98)), .inl 2, .inl 5640, .inr (.inr (some 98))])) 7 hd0 hz (by rfl) ?_
        refine zG_iald hd0 hz rfl rfl (.inl rfl) (by omega) ?_
        show zG n (0, 0) d 286 (74, [.inr (.inr (some 97)), .inl a1, .inl a2], [.inl (M11 98 6), .inl 2, .inl 5640, .inr (.inr (some 98))]) M11 _
        obtain ⟨x13, hx13⟩ : ∃ x : Int, x = w32 (2 * (M11 98 6)) := ⟨_, rfl⟩
        have hx13e : x13 = 2 * (M11 98 6) := by rw [hx13]; exact w32_id (by omega)
        obtain ⟨x14, hx14⟩ : ∃ x : Int, x = w32 (5640 + x13) := ⟨_, rfl⟩
        have hx14e : x14 = 5640 + x13 := by rw [hx14]; exact w32_id (by omega)
        obtain ⟨x15, hx15⟩ : ∃ x : Int, x = w32 (x14 + 1) := ⟨_, rfl⟩
        have hx15e : x15 = x14 + 1 := by rw [hx15]; exact w32_id (by omega)
        refine zG_blk (c' := (79, [.inr (.inr (some 97)), .inl a1, .inl a2], [.inl a2, .inl x15, .inr (.inr (some 98))])) 5 hd0 hz (by subst hx15; subst hx14; subst hx13; rfl) ?_
        refine zG_iast hd0 hz rfl rfl (by omega) ?_
        obtain ⟨M16, hM16⟩ : ∃ X : zM, X = zput M11 98 (x15 : Int).toNat a2 := ⟨_, rfl⟩
        rw [← hM16]
        have hCM16 : qMI M16 := by rw [hM16]; exact hCM11.put98' (by refine ⟨by omega, fun _ => by omega, fun _ => by omega, fun _ => by omega, fun _ => by omega, fun _ => by omega, fun _ => by omega, fun _ => by omega, fun c9 hc9 _ => by omega, fun u9 hu9 _ => by omega, fun m9 hm9 _ => by omega, fun a9 ha9 => ⟨fun _ => by omega, fun _ => by omega, fun _ => by omega, fun _ => by omega⟩, fun t9 ht9 _ => by omega, fun o9 ho9 _ => by omega⟩) (by omega) (by omega)
        have hWM16 : qFm [98] M M16 := by rw [hM16]; exact hWM11.pa (by decide) (by decide)
        have e17 : M16 98 6 = M11 98 6 := by rw [hM16]; exact qput_nk (by omega)
        show zG n (0, 0) d 286 (80, [.inr (.inr (some 97)), .inl a1, .inl a2], []) M16 _
        refine zG_blk (c' := (83, [.inr (.inr (some 97)), .inl a1, .inl a2], [.inl 6, .inr (.inr (some 97))])) 2 hd0 hz (by rfl) ?_
        refine zG_call hd0 hz (rfl : zP 183 = (zk_X11_one, 2, (0, 0))) rfl rfl (Nat.le_of_ble_eq_true rfl) ⟨Nat.le_refl _, Nat.le_refl _⟩ (qx_oneC (by omega) hCM16   6 (by decide) (by decide) (by refine ⟨by omega, fun _ => by omega, fun _ => by omega, fun _ => by omega, fun _ => by omega, fun _ => by omega, fun _ => by omega, fun _ => by omega, fun c9 hc9 _ => by omega, fun u9 hu9 _ => by omega, fun m9 hm9 _ => by omega, fun a9 ha9 => ⟨fun _ => by omega, fun _ => by omega, fun _ => by omega, fun _ => by omega⟩, fun t9 ht9 _ => by omega, fun o9 ho9 _ => by omega⟩) ) (fun vr M18 hr => ?_)
        obtain ⟨⟨hCM18, hFM18⟩, x19, rfl, hx19, hpx19_0, hpx19_1⟩ := hr
        have hWM18 : qFm [98] M M18 := hWM16.tr hFM18 (by decide)
        show zG n (0, 0) d 286 (86, [.inr (.inr (some 97)), .inl a1, .inl a2], [.inl x19]) M18 _
        obtain ⟨x21, hx21⟩ : ∃ x : Int, x = w32 (x19 + 1) := ⟨_, rfl⟩
        have hx21r : x21 = (x19 + 1 + 2147483648) % 4294967296 - 2147483648 := hx21
        refine zG_blk (c' := (88, [.inr (.inr (some 97)), .inl a1, .inl a2], [.inl x21])) 2 hd0 hz (by subst hx21; rfl) ?_
        exact zG_ret hd0 hz rfl rfl ⟨⟨hCM18, hWM18⟩, _, rfl, by omega, by omega⟩
      · refine zG_blk (c' := (39, [.inr (.inr (some 97)), .inl a1, .inl a2], [.inl (-4)])) 1 hd0 hz (by rfl) ?_
        exact zG_ret hd0 hz rfl rfl ⟨⟨hC, hW⟩, _, rfl, by omega, by omega⟩
    · exact j22
theorem qm_287_97 {n d : Nat} {M : zM} (hd : 1 ≤ d) (hC : qMI M)   : qOkN n d 287 [.inr (.inr (some 97))] 2 [98] M (fun v M' => ∃ x : Int, v = some (.inl x) ∧ (0 ≤ x ∧ x ≤ 12) ∧ (x = M 98 6) ∧ (M' 98 6 = 0)) := by
  have hz : zP 287 = (zk_X11_clear, 2, (0, 0)) := rfl
  have hd0 : 0 < d := by omega
  have hW : qFm [98] M M := qFm.rfl
  have r1 := hC.cnt6
  show zG n (0, 0) d 287 (0, [.inr (.inr (some 97)), zN], []) M _
  refine zG_blk (c' := (6, [.inr (.inr (some 97)), zN], [.inl 6, .inr (.inr (some 98))])) 3 hd0 hz (by rfl) ?_
  refine zG_iald hd0 hz rfl rfl (.inl rfl) (by omega) ?_
  show zG n (0, 0) d 287 (7, [.inr (.inr (some 97)), zN], [.inl (M 98 6)]) M _
  refine zG_blk (c' := (15, [.inr (.inr (some 97)), .inl (M 98 6)], [.inl 0, .inl 6, .inr (.inr (some 98))])) 5 hd0 hz (by rfl) ?_
  refine zG_iast hd0 hz rfl rfl (by omega) ?_
  obtain ⟨M2, hM2⟩ : ∃ X : zM, X = zput M 98 (6 : Int).toNat 0 := ⟨_, rfl⟩
  rw [← hM2]
  have hCM2 : qMI M2 := by rw [hM2]; exact hC.put98' (by refine ⟨by omega, fun _ => by omega, fun _ => by omega, fun _ => by omega, fun _ => by omega, fun _ => by omega, fun _ => by omega, fun _ => by omega, fun c9 hc9 _ => by omega, fun u9 hu9 _ => by omega, fun m9 hm9 _ => by omega, fun a9 ha9 => ⟨fun _ => by omega, fun _ => by omega, fun _ => by omega, fun _ => by omega⟩, fun t9 ht9 _ => by omega, fun o9 ho9 _ => by omega⟩) (by omega) (by omega)
  have hWM2 : qFm [98] M M2 := by rw [hM2]; exact hW.pa (by decide) (by decide)
  have hz6 : M2 98 6 = 0 := by rw [hM2]; exact qput_eq
  show zG n (0, 0) d 287 (16, [.inr (.inr (some 97)), .inl (M 98 6)], []) M2 _
  refine zG_blk (c' := (17, [.inr (.inr (some 97)), .inl (M 98 6)], [.inl (M 98 6)])) 1 hd0 hz (by rfl) ?_
  exact zG_ret hd0 hz rfl rfl ⟨⟨hCM2, hWM2⟩, _, rfl, by omega, by omega, by omega⟩
theorem qm_251_97 {n d : Nat} {M : zM} (hd : 10 ≤ d) (hC : qMI M)  (a1 : Int) (ha1 : (-2147483648) ≤ a1 ∧ a1 ≤ 2147483647) (a2 : Int) (ha2 : (-2147483648) ≤ a2 ∧ a2 ≤ 2147483647) (a3 : Int) (ha3 : (-2147483648) ≤ a3 ∧ a3 ≤ 2147483647) : qOkN n d 251 [.inr (.inr (some 97)), .inl a1, .inl a2, .inl a3] 7 [98, 101, 102, 103, 104, 105, 106, 107, 108, 109, 110, 111, 112, 113, 1007, 1010, 1012, 1013, 1016, 1018, 1019, 1020, 1021, 1022, 1023] M (fun v M' => ∃ x : Int, v = some (.inl x) ∧ ((-3) ≤ x ∧ x ≤ 2147483647) ∧ (M' 98 6 = M 98 6)) := by
  have hz : zP 251 = (zk_X11_hangs, 7, (0, 0)) := rfl
  have hd0 : 0 < d := by omega
  have hW : qFm [98, 101, 102, 103, 104, 105, 106, 107, 108, 109, 110, 111, 112, 113, 1007, 1010, 1012, 1013, 1016, 1018, 1019, 1020, 1021, 1022, 1023] M M := qFm.rfl
  have r1 := hC.cnt6
  have r2 := hC.cnt1
  have r3 := hC.cnt3
  show zG n (0, 0) d 251 (0, [.inr (.inr (some 97)), .inl a1, .inl a2, .inl a3, zN, zN, zN], []) M _
  refine zG_blk (c' := (3, [.inr (.inr (some 97)), .inl a1, .inl a2, .inl a3, zN, zN, zN], [.inl a1, .inl 3, .inr (.inr (some 97))])) 3 hd0 hz (by rfl) ?_
  refine zG_call hd0 hz (rfl : zP 182 = (zk_X11_is, 3, (0, 0))) rfl rfl (Nat.le_of_ble_eq_true rfl) ⟨Nat.le_refl _, Nat.le_refl _⟩ (qx_is (by omega) hC   3 (by omega) a1 (by omega) ) (fun vr M4 hr => ?_)
  obtain ⟨hq, x5, rfl, hx5⟩ := hr
  replace hq := hq.symm; subst hq
  show zG n (0, 0) d 251 (6, [.inr (.inr (some 97)), .inl a1, .inl a2, .inl a3, zN, zN, zN], [.inl x5]) M _
  have j23 : zG n (0, 0) d 251 (23, [.inr (.inr (some 97)), .inl a1, .inl a2, .inl a3, zN, zN, zN], []) M (fun v M' => (qMI M' ∧ qFm [98, 101, 102, 103, 104, 105, 106, 107, 108, 109, 110, 111, 112, 113, 1007, 1010, 1012, 1013, 1016, 1018, 1019, 1020, 1021, 1022, 1023] M M') ∧ ∃ x : Int, v = some (.inl x) ∧ ((-3) ≤ x ∧ x ≤ 2147483647) ∧ (M' 98 6 = M 98 6)) := by
    refine zG_blk (c' := (25, [.inr (.inr (some 97)), .inl a1, .inl a2, .inl a3, zN, zN, zN], [.inl (-2)])) 1 hd0 hz (by rfl) ?_
    exact zG_ret hd0 hz rfl rfl ⟨⟨hC, hW⟩, _, rfl, by omega, by omega⟩
  refine zG_if_eq hd0 hz rfl (fun hb6 => ?_) (fun hb6 => ?_)
  · exact j23
  · refine zG_blk (c' := (10, [.inr (.inr (some 97)), .inl a1, .inl a2, .inl a3, zN, zN, zN], [.inl a2])) 1 hd0 hz (by rfl) ?_
    refine zG_call hd0 hz (rfl : zP 184 = (zk_X11_isDay, 1, (0, 0))) rfl rfl (Nat.le_of_ble_eq_true rfl) ⟨Nat.le_refl _, Nat.le_refl _⟩ (qm_184 (by omega) hC   a2 (by omega) ) (fun vr M7 hr => ?_)
    obtain ⟨hq, x8, rfl, hx8, hpx8_0⟩ := hr
    replace hq := hq.symm; subst hq
    show zG n (0, 0) d 251 (13, [.inr (.inr (some 97)), .inl a1, .inl a2, .inl a3, zN, zN, zN], [.inl x8]) M _
    refine zG_if_eq hd0 hz rfl (fun hb9 => ?_) (fun hb9 => ?_)
    · exact j23
    · refine zG_blk (c' := (17, [.inr (.inr (some 97)), .inl a1, .inl a2, .inl a3, zN, zN, zN], [.inl a3])) 1 hd0 hz (by rfl) ?_
      refine zG_call hd0 hz (rfl : zP 184 = (zk_X11_isDay, 1, (0, 0))) rfl rfl (Nat.le_of_ble_eq_true rfl) ⟨Nat.le_refl _, Nat.le_refl _⟩ (qm_184 (by omega) hC   a3 (by omega) ) (fun vr M10 hr => ?_)
      obtain ⟨hq, x11, rfl, hx11, hpx11_0⟩ := hr
      replace hq := hq.symm; subst hq
      show zG n (0, 0) d 251 (20, [.inr (.inr (some 97)), .inl a1, .inl a2, .inl a3, zN, zN, zN], [.inl x11]) M _
      refine zG_if_ne hd0 hz rfl (fun hb12 => ?_) (fun hb12 => ?_)
      · refine zG_blk (c' := (28, [.inr (.inr (some 97)), .inl a1, .inl a2, .inl a3, zN, zN, zN], [.inl a1, .inr (.inr (some 97))])) 2 hd0 hz (by rfl) ?_
        refine zG_call hd0 hz (rfl : zP 192 = (zk_X11_isStanding, 4, (0, 0))) rfl rfl (Nat.le_of_ble_eq_true rfl) ⟨Nat.le_refl _, Nat.le_refl _⟩ (qm_192_97 (by omega) hC   a1 (by omega) ) (fun vr M13 hr => ?_)
        obtain ⟨hq, x14, rfl, hx14, hpx14_0⟩ := hr
        replace hq := hq.symm; subst hq
        show zG n (0, 0) d 251 (31, [.inr (.inr (some 97)), .inl a1, .inl a2, .inl a3, zN, zN, zN], [.inl x14]) M _
        refine zG_if_ne hd0 hz rfl (fun hb15 => ?_) (fun hb15 => ?_)
        · refine zG_blk (c' := (39, [.inr (.inr (some 97)), .inl a1, .inl a2, .inl a3, zN, zN, zN], [.inl a3, .inr (.inr (some 97))])) 2 hd0 hz (by rfl) ?_
          refine zG_call hd0 hz (rfl : zP 211 = (zk_X11_finds, 3, (0, 0))) rfl rfl (Nat.le_of_ble_eq_true rfl) ⟨Nat.le_refl _, Nat.le_refl _⟩ (qm_211_97 (by omega) hC   a3 (by omega) ) (fun vr M16 hr => ?_)
          obtain ⟨⟨hCM16, hFM16⟩, rfl⟩ := hr
          have hWM16 : qFm [98, 101, 102, 103, 104, 105, 106, 107, 108, 109, 110, 111, 112, 113, 1007, 1010, 1012, 1013, 1016, 1018, 1019, 1020, 1021, 1022, 1023] M M16 := hW.tr hFM16 (by decide)
          have e18 : M16 98 6 = M 98 6 := hFM16 98 6 (by decide)
          have e19 : M16 98 1 = M 98 1 := hFM16 98 1 (by decide)
          have e20 : M16 98 3 = M 98 3 := hFM16 98 3 (by decide)
          show zG n (0, 0) d 251 (42, [.inr (.inr (some 97)), .inl a1, .inl a2, .inl a3, zN, zN, zN], []) M16 _
          refine zG_blk (c' := (45, [.inr (.inr (some 97)), .inl a1, .inl a2, .inl a3, .inl 0, zN, zN], [])) 2 hd0 hz (by rfl) ?_
          have j45 : ∀ (N : Nat) (v21 : Int) (M22 : zM) , (20 - v21 : Int).toNat < N → 0 ≤ v21 ∧ v21 ≤ 20 → (M22 98 6 = M 98 6) → (M22 98 1 = M 98 1) → qMI M22 → qFm [98, 101, 102, 103, 104, 105, 106, 107, 108, 109, 110, 111, 112, 113, 1007, 1010, 1012, 1013, 1016, 1018, 1019, 1020, 1021, 1022, 1023] M M22 → zG n (0, 0) d 251 (45, [.inr (.inr (some 97)), .inl a1, .inl a2, .inl a3, .inl v21, zN, zN], []) M22 (fun v M' => (qMI M' ∧ qFm [98, 101, 102, 103, 104, 105, 106, 107, 108, 109, 110, 111, 112, 113, 1007, 1010, 1012, 1013, 1016, 1018, 1019, 1020, 1021, 1022, 1023] M M') ∧ ∃ x : Int, v = some (.inl x) ∧ ((-3) ≤ x ∧ x ≤ 2147483647) ∧ (M' 98 6 = M 98 6)) := by
            intro N
            induction N with
            | zero => intro v21 M22 hN hv21 hx0_45 hx1_45 hCM22 hWM22; exact absurd hN (Nat.not_lt_zero _)
            | succ N ih45 =>
              intro v21 M22 hN hv21 hx0_45 hx1_45 hCM22 hWM22
              have r23 := hCM22.cnt6
              have r24 := hCM22.cnt1
              refine zG_blk (c' := (52, [.inr (.inr (some 97)), .inl a1, .inl a2, .inl a3, .inl v21, zN, zN], [.inl 1, .inr (.inr (some 98)), .inl v21])) 4 hd0 hz (by rfl) ?_
              refine zG_iald hd0 hz rfl rfl (.inl rfl) (by omega) ?_
              show zG n (0, 0) d 251 (53, [.inr (.inr (some 97)), .inl a1, .inl a2, .inl a3, .inl v21, zN, zN], [.inl (M22 98 1), .inl v21]) M22 _
              refine zG_icmp_ge hd0 hz rfl (fun hb25 => ?_) (fun hb25 => ?_)
              · obtain ⟨x26, hx26⟩ : ∃ x : Int, x = w32 (5 * a1) := ⟨_, rfl⟩
                have hx26e : x26 = 5 * a1 := by rw [hx26]; exact w32_id (by omega)
                obtain ⟨x27, hx27⟩ : ∃ x : Int, x = w32 (150 + x26) := ⟨_, rfl⟩
                have hx27e : x27 = 150 + x26 := by rw [hx27]; exact w32_id (by omega)
                obtain ⟨x28, hx28⟩ : ∃ x : Int, x = w32 (x27 + 4) := ⟨_, rfl⟩
                have hx28e : x28 = x27 + 4 := by rw [hx28]; exact w32_id (by omega)
                refine zG_blk (c' := (115, [.inr (.inr (some 97)), .inl a1, .inl a2, .inl a3, .inl v21, zN, zN], [.inl 1, .inl x28, .inr (.inr (some 98))])) 10 hd0 hz (by subst hx28; subst hx27; subst hx26; rfl) ?_
                refine zG_iast hd0 hz rfl rfl (by omega) ?_
                obtain ⟨M29, hM29⟩ : ∃ X : zM, X = zput M22 98 (x28 : Int).toNat 1 := ⟨_, rfl⟩
                rw [← hM29]
                have hCM29 : qMI M29 := by rw [hM29]; exact hCM22.put98' (by refine ⟨by omega, fun _ => by omega, fun _ => by omega, fun _ => by omega, fun _ => by omega, fun _ => by omega, fun _ => by omega, fun _ => by omega, fun c9 hc9 _ => by omega, fun u9 hu9 _ => by omega, fun m9 hm9 _ => by omega, fun a9 ha9 => ⟨fun _ => by omega, fun _ => by omega, fun _ => by omega, fun _ => by omega⟩, fun t9 ht9 _ => by omega, fun o9 ho9 _ => by omega⟩) (by omega) (by omega)
                have hWM29 : qFm [98, 101, 102, 103, 104, 105, 106, 107, 108, 109, 110, 111, 112, 113, 1007, 1010, 1012, 1013, 1016, 1018, 1019, 1020, 1021, 1022, 1023] M M29 := by rw [hM29]; exact hWM22.pa (by decide) (by decide)
                have e30 : M29 98 6 = M22 98 6 := by rw [hM29]; exact qput_nk (by omega)
                have e31 : M29 98 1 = M22 98 1 := by rw [hM29]; exact qput_nk (by omega)
                show zG n (0, 0) d 251 (116, [.inr (.inr (some 97)), .inl a1, .inl a2, .inl a3, .inl v21, zN, zN], []) M29 _
                refine zG_blk (c' := (118, [.inr (.inr (some 97)), .inl a1, .inl a2, .inl a3, .inl v21, zN, zN], [.inl a3, .inr (.inr (some 97))])) 2 hd0 hz (by rfl) ?_
                refine zG_call hd0 hz (rfl : zP 211 = (zk_X11_finds, 3, (0, 0))) rfl rfl (Nat.le_of_ble_eq_true rfl) ⟨Nat.le_refl _, Nat.le_refl _⟩ (qm_211_97 (by omega) hCM29   a3 (by omega) ) (fun vr M32 hr => ?_)
                obtain ⟨⟨hCM32, hFM32⟩, rfl⟩ := hr
                have hWM32 : qFm [98, 101, 102, 103, 104, 105, 106, 107, 108, 109, 110, 111, 112, 113, 1007, 1010, 1012, 1013, 1016, 1018, 1019, 1020, 1021, 1022, 1023] M M32 := hWM29.tr hFM32 (by decide)
                have e34 : M32 98 6 = M29 98 6 := hFM32 98 6 (by decide)
                have e35 : M32 98 1 = M29 98 1 := hFM32 98 1 (by decide)
                show zG n (0, 0) d 251 (121, [.inr (.inr (some 97)), .inl a1, .inl a2, .inl a3, .inl v21, zN, zN], []) M32 _
                refine zG_blk (c' := (127, [.inr (.inr (some 97)), .inl a1, .inl a2, .inl a3, .inl 0, .inl 0, zN], [])) 4 hd0 hz (by rfl) ?_
                have j127 : ∀ (N : Nat) (v36 v37 : Int) (M38 : zM) , (20 - v37 : Int).toNat < N → 0 ≤ v36 ∧ v36 ≤ 2147483647 → 0 ≤ v37 ∧ v37 ≤ 20 → (M38 98 6 = M 98 6) → (M38 98 1 = M 98 1) → qMI M38 → qFm [98, 101, 102, 103, 104, 105, 106, 107, 108, 109, 110, 111, 112, 113, 1007, 1010, 1012, 1013, 1016, 1018, 1019, 1020, 1021, 1022, 1023] M M38 → zG n (0, 0) d 251 (127, [.inr (.inr (some 97)), .inl a1, .inl a2, .inl a3, .inl v36, .inl v37, zN], []) M38 (fun v M' => (qMI M' ∧ qFm [98, 101, 102, 103, 104, 105, 106, 107, 108, 109, 110, 111, 112, 113, 1007, 1010, 1012, 1013, 1016, 1018, 1019, 1020, 1021, 1022, 1023] M M') ∧ ∃ x : Int, v = some (.inl x) ∧ ((-3) ≤ x ∧ x ≤ 2147483647) ∧ (M' 98 6 = M 98 6)) := by
                  intro N
                  induction N with
                  | zero => intro v36 v37 M38 hN hv36 hv37 hx0_127 hx1_127 hCM38 hWM38; exact absurd hN (Nat.not_lt_zero _)
                  | succ N ih127 =>
                    intro v36 v37 M38 hN hv36 hv37 hx0_127 hx1_127 hCM38 hWM38
                    have r39 := hCM38.cnt6
                    have r40 := hCM38.cnt1
                    refine zG_blk (c' := (134, [.inr (.inr (some 97)), .inl a1, .inl a2, .inl a3, .inl v36, .inl v37, zN], [.inl 1, .inr (.inr (some 98)), .inl v37])) 4 hd0 hz (by rfl) ?_
                    refine zG_iald hd0 hz rfl rfl (.inl rfl) (by omega) ?_
                    show zG n (0, 0) d 251 (135, [.inr (.inr (some 97)), .inl a1, .inl a2, .inl a3, .inl v36, .inl v37, zN], [.inl (M38 98 1), .inl v37]) M38 _
                    refine zG_icmp_ge hd0 hz rfl (fun hb41 => ?_) (fun hb41 => ?_)
                    · obtain ⟨x42, hx42⟩ : ∃ x : Int, x = w32 (5 * a1) := ⟨_, rfl⟩
                      have hx42e : x42 = 5 * a1 := by rw [hx42]; exact w32_id (by omega)
                      obtain ⟨x43, hx43⟩ : ∃ x : Int, x = w32 (150 + x42) := ⟨_, rfl⟩
                      have hx43e : x43 = 150 + x42 := by rw [hx43]; exact w32_id (by omega)
                      obtain ⟨x44, hx44⟩ : ∃ x : Int, x = w32 (x43 + 4) := ⟨_, rfl⟩
                      have hx44e : x44 = x43 + 4 := by rw [hx44]; exact w32_id (by omega)
                      refine zG_blk (c' := (231, [.inr (.inr (some 97)), .inl a1, .inl a2, .inl a3, .inl v36, .inl v37, zN], [.inl 0, .inl x44, .inr (.inr (some 98))])) 10 hd0 hz (by subst hx44; subst hx43; subst hx42; rfl) ?_
                      refine zG_iast hd0 hz rfl rfl (by omega) ?_
                      obtain ⟨M45, hM45⟩ : ∃ X : zM, X = zput M38 98 (x44 : Int).toNat 0 := ⟨_, rfl⟩
                      rw [← hM45]
                      have hCM45 : qMI M45 := by rw [hM45]; exact hCM38.put98' (by refine ⟨by omega, fun _ => by omega, fun _ => by omega, fun _ => by omega, fun _ => by omega, fun _ => by omega, fun _ => by omega, fun _ => by omega, fun c9 hc9 _ => by omega, fun u9 hu9 _ => by omega, fun m9 hm9 _ => by omega, fun a9 ha9 => ⟨fun _ => by omega, fun _ => by omega, fun _ => by omega, fun _ => by omega⟩, fun t9 ht9 _ => by omega, fun o9 ho9 _ => by omega⟩) (by omega) (by omega)
                      have hWM45 : qFm [98, 101, 102, 103, 104, 105, 106, 107, 108, 109, 110, 111, 112, 113, 1007, 1010, 1012, 1013, 1016, 1018, 1019, 1020, 1021, 1022, 1023] M M45 := by rw [hM45]; exact hWM38.pa (by decide) (by decide)
                      have e46 : M45 98 6 = M38 98 6 := by rw [hM45]; exact qput_nk (by omega)
                      have e47 : M45 98 1 = M38 98 1 := by rw [hM45]; exact qput_nk (by omega)
                      show zG n (0, 0) d 251 (232, [.inr (.inr (some 97)), .inl a1, .inl a2, .inl a3, .inl v36, .inl v37, zN], []) M45 _
                      refine zG_blk (c' := (234, [.inr (.inr (some 97)), .inl a1, .inl a2, .inl a3, .inl v36, .inl v37, zN], [.inl v36])) 1 hd0 hz (by rfl) ?_
                      exact zG_ret hd0 hz rfl rfl ⟨⟨hCM45, hWM45⟩, _, rfl, by omega, by omega⟩
                    · refine zG_blk (c' := (142, [.inr (.inr (some 97)), .inl a1, .inl a2, .inl a3, .inl v36, .inl v37, zN], [.inl a2, .inl v37, .inr (.inr (some 97))])) 3 hd0 hz (by rfl) ?_
                      refine zG_call hd0 hz (rfl : zP 243 = (zk_X11_gradeOf, 3, (0, 0))) rfl rfl (Nat.le_of_ble_eq_true rfl) ⟨Nat.le_refl _, Nat.le_refl _⟩ (qm_243_97 (by omega) hCM38   v37 (by omega) a2 (by omega) ) (fun vr M48 hr => ?_)
                      obtain ⟨⟨hCM48, hFM48⟩, x49, rfl, hx49⟩ := hr
                      have hWM48 : qFm [98, 101, 102, 103, 104, 105, 106, 107, 108, 109, 110, 111, 112, 113, 1007, 1010, 1012, 1013, 1016, 1018, 1019, 1020, 1021, 1022, 1023] M M48 := hWM38.tr hFM48 (by decide)
                      have e50 : M48 98 6 = M38 98 6 := hFM48 98 6 (by decide)
                      have e51 : M48 98 1 = M38 98 1 := hFM48 98 1 (by decide)
                      show zG n (0, 0) d 251 (145, [.inr (.inr (some 97)), .inl a1, .inl a2, .inl a3, .inl v36, .inl v37, zN], [.inl x49]) M48 _
                      refine zG_blk (c' := (151, [.inr (.inr (some 97)), .inl a1, .inl a2, .inl a3, .inl v36, .inl v37, zN], [.inl v37, .inr (.inr (some 112)), .inl x49])) 3 hd0 hz (by rfl) ?_
                      refine zG_iald hd0 hz rfl rfl (.inl rfl) (by omega) ?_
                      obtain ⟨x52, hx52⟩ : ∃ x : Int, x = M48 112 (v37 : Int).toNat := ⟨_, rfl⟩
                      rw [← hx52]
                      have hx52r : qin x52 := by rw [hx52]; exact hCM48.ra 112 _ (by decide) (by decide)
                      show zG n (0, 0) d 251 (152, [.inr (.inr (some 97)), .inl a1, .inl a2, .inl a3, .inl v36, .inl v37, zN], [.inl x52, .inl x49]) M48 _
                      have j174 : ∀ (v53 : Int) , 0 ≤ v53 ∧ v53 ≤ 1 → zG n (0, 0) d 251 (174, [.inr (.inr (some 97)), .inl a1, .inl a2, .inl a3, .inl v36, .inl v37, zN], [.inl v53]) M48 (fun v M' => (qMI M' ∧ qFm [98, 101, 102, 103, 104, 105, 106, 107, 108, 109, 110, 111, 112, 113, 1007, 1010, 1012, 1013, 1016, 1018, 1019, 1020, 1021, 1022, 1023] M M') ∧ ∃ x : Int, v = some (.inl x) ∧ ((-3) ≤ x ∧ x ≤ 2147483647) ∧ (M' 98 6 = M 98 6)) := by
                        intro v53 hv53
                        refine zG_blk (c' := (180, [.inr (.inr (some 97)), .inl a1, .inl a2, .inl a3, .inl v36, .inl v37, .inl v53], [.inl v53, .inl v36])) 3 hd0 hz (by rfl) ?_
                        have j208 : ∀ (v54 : Int) (M55 : zM) , 0 ≤ v54 ∧ v54 ≤ 524288 → (M55 98 6 = M 98 6) → (M55 98 1 = M 98 1) → qMI M55 → qFm [98, 101, 102, 103, 104, 105, 106, 107, 108, 109, 110, 111, 112, 113, 1007, 1010, 1012, 1013, 1016, 1018, 1019, 1020, 1021, 1022, 1023] M M55 → zG n (0, 0) d 251 (208, [.inr (.inr (some 97)), .inl a1, .inl a2, .inl a3, .inl v36, .inl v37, .inl v53], [.inl v54, .inl v36]) M55 (fun v M' => (qMI M' ∧ qFm [98, 101, 102, 103, 104, 105, 106, 107, 108, 109, 110, 111, 112, 113, 1007, 1010, 1012, 1013, 1016, 1018, 1019, 1020, 1021, 1022, 1023] M M') ∧ ∃ x : Int, v = some (.inl x) ∧ ((-3) ≤ x ∧ x ≤ 2147483647) ∧ (M' 98 6 = M 98 6)) := by
                          intro v54 M55 hv54 hx0_208 hx1_208 hCM55 hWM55
                          have r56 := hCM55.cnt6
                          have r57 := hCM55.cnt1
                          obtain ⟨x58, hx58⟩ : ∃ x : Int, x = zbor v36 v54 := ⟨_, rfl⟩
                          have hx58r := qbor_in v36 v54 2147483648 31 (by decide) (by decide) (by omega) (by omega); rw [← hx58] at hx58r
                          obtain ⟨x59, hx59⟩ : ∃ x : Int, x = w32 (v37 + 1) := ⟨_, rfl⟩
                          have hx59e : x59 = v37 + 1 := by rw [hx59]; exact w32_id (by omega)
                          refine zG_blk (c' := (127, [.inr (.inr (some 97)), .inl a1, .inl a2, .inl a3, .inl x58, .inl x59, .inl v53], [])) 4 hd0 hz (by subst hx59; subst hx58; rfl) ?_
                          exact zG_weak (ih127 x58 x59 M55 (by omega) (by omega) (by omega) (by omega) (by omega) hCM55 hWM55) ⟨.inr rfl, .inr rfl, .inr rfl, .inr rfl, .inr rfl, .inr rfl, .inl rfl, trivial⟩
                        have j200 : ∀ (M60 : zM) , (M60 98 6 = M 98 6) → (M60 98 1 = M 98 1) → qMI M60 → qFm [98, 101, 102, 103, 104, 105, 106, 107, 108, 109, 110, 111, 112, 113, 1007, 1010, 1012, 1013, 1016, 1018, 1019, 1020, 1021, 1022, 1023] M M60 → zG n (0, 0) d 251 (200, [.inr (.inr (some 97)), .inl a1, .inl a2, .inl a3, .inl v36, .inl v37, .inl v53], [.inl v36]) M60 (fun v M' => (qMI M' ∧ qFm [98, 101, 102, 103, 104, 105, 106, 107, 108, 109, 110, 111, 112, 113, 1007, 1010, 1012, 1013, 1016, 1018, 1019, 1020, 1021, 1022, 1023] M M') ∧ ∃ x : Int, v = some (.inl x) ∧ ((-3) ≤ x ∧ x ≤ 2147483647) ∧ (M' 98 6 = M 98 6)) := by
                          intro M60 hx0_200 hx1_200 hCM60 hWM60
                          have r61 := hCM60.cnt6
                          have r62 := hCM60.cnt1
                          obtain ⟨x63, hx63⟩ : ∃ x : Int, x = zbshl 1 v37 := ⟨_, rfl⟩
                          have hx63r := qshl1_in v37 524288 19 (by decide) (by decide) (by omega); rw [← hx63] at hx63r
                          refine zG_blk (c' := (208, [.inr (.inr (some 97)), .inl a1, .inl a2, .inl a3, .inl v36, .inl v37, .inl v53], [.inl x63, .inl v36])) 4 hd0 hz (by subst hx63; rfl) ?_
                          exact j208 x63 M60 (by omega) (by omega) (by omega) hCM60 hWM60
                        refine zG_if_ne hd0 hz rfl (fun hb64 => ?_) (fun hb64 => ?_)
                        · exact j200 M48 (by omega) (by omega) hCM48 hWM48
                        · refine zG_blk (c' := (187, [.inr (.inr (some 97)), .inl a1, .inl a2, .inl a3, .inl v36, .inl v37, .inl v53], [.inl a2, .inl v37, .inr (.inr (some 97)), .inl v36])) 3 hd0 hz (by rfl) ?_
                          refine zG_call hd0 hz (rfl : zP 244 = (zk_X11_rollOf, 6, (0, 0))) rfl rfl (Nat.le_of_ble_eq_true rfl) ⟨Nat.le_refl _, Nat.le_refl _⟩ (qm_244_97 (by omega) hCM48   v37 (by omega) a2 (by omega) ) (fun vr M65 hr => ?_)
                          obtain ⟨⟨hCM65, hFM65⟩, x66, rfl, hx66⟩ := hr
                          have hWM65 : qFm [98, 101, 102, 103, 104, 105, 106, 107, 108, 109, 110, 111, 112, 113, 1007, 1010, 1012, 1013, 1016, 1018, 1019, 1020, 1021, 1022, 1023] M M65 := hWM48.tr hFM65 (by decide)
                          have e67 : M65 98 6 = M48 98 6 := hFM65 98 6 (by decide)
                          have e68 : M65 98 1 = M48 98 1 := hFM65 98 1 (by decide)
                          show zG n (0, 0) d 251 (190, [.inr (.inr (some 97)), .inl a1, .inl a2, .inl a3, .inl v36, .inl v37, .inl v53], [.inl x66, .inl v36]) M65 _
                          refine zG_blk (c' := (196, [.inr (.inr (some 97)), .inl a1, .inl a2, .inl a3, .inl v36, .inl v37, .inl v53], [.inl v37, .inr (.inr (some 113)), .inl x66, .inl v36])) 3 hd0 hz (by rfl) ?_
                          refine zG_iald hd0 hz rfl rfl (.inl rfl) (by omega) ?_
                          obtain ⟨x69, hx69⟩ : ∃ x : Int, x = M65 113 (v37 : Int).toNat := ⟨_, rfl⟩
                          rw [← hx69]
                          have hx69r : qin x69 := by rw [hx69]; exact hCM65.ra 113 _ (by decide) (by decide)
                          show zG n (0, 0) d 251 (197, [.inr (.inr (some 97)), .inl a1, .inl a2, .inl a3, .inl v36, .inl v37, .inl v53], [.inl x69, .inl x66, .inl v36]) M65 _
                          refine zG_icmp_eq hd0 hz rfl (fun hb70 => ?_) (fun hb70 => ?_)
                          · refine zG_blk (c' := (208, [.inr (.inr (some 97)), .inl a1, .inl a2, .inl a3, .inl v36, .inl v37, .inl v53], [.inl 0, .inl v36])) 1 hd0 hz (by rfl) ?_
                            exact j208 0 M65 (by omega) (by omega) (by omega) hCM65 hWM65
                          · exact j200 M65 (by omega) (by omega) hCM65 hWM65
                      have j169 : zG n (0, 0) d 251 (169, [.inr (.inr (some 97)), .inl a1, .inl a2, .inl a3, .inl v36, .inl v37, zN], []) M48 (fun v M' => (qMI M' ∧ qFm [98, 101, 102, 103, 104, 105, 106, 107, 108, 109, 110, 111, 112, 113, 1007, 1010, 1012, 1013, 1016, 1018, 1019, 1020, 1021, 1022, 1023] M M') ∧ ∃ x : Int, v = some (.inl x) ∧ ((-3) ≤ x ∧ x ≤ 2147483647) ∧ (M' 98 6 = M 98 6)) := by
                        refine zG_blk (c' := (174, [.inr (.inr (some 97)), .inl a1, .inl a2, .inl a3, .inl v36, .inl v37, zN], [.inl 1])) 2 hd0 hz (by rfl) ?_
                        exact j174 1 (by omega)
                      refine zG_icmp_ne hd0 hz rfl (fun hb71 => ?_) (fun hb71 => ?_)
                      · exact j169
                      · have r72 := hCM48.rg 97 21 (by decide) (by decide)
                        refine zG_blk (c' := (165, [.inr (.inr (some 97)), .inl a1, .inl a2, .inl a3, .inl v36, .inl v37, zN], [.inl v37, .inr (.inr (some 111)), .inl (M48 97 21)])) 5 hd0 hz (by rfl) ?_
                        refine zG_iald hd0 hz rfl rfl (.inl rfl) (by omega) ?_
                        obtain ⟨x73, hx73⟩ : ∃ x : Int, x = M48 111 (v37 : Int).toNat := ⟨_, rfl⟩
                        rw [← hx73]
                        have hx73r : qin x73 := by rw [hx73]; exact hCM48.ra 111 _ (by decide) (by decide)
                        show zG n (0, 0) d 251 (166, [.inr (.inr (some 97)), .inl a1, .inl a2, .inl a3, .inl v36, .inl v37, zN], [.inl x73, .inl (M48 97 21)]) M48 _
                        refine zG_icmp_eq hd0 hz rfl (fun hb74 => ?_) (fun hb74 => ?_)
                        · refine zG_blk (c' := (174, [.inr (.inr (some 97)), .inl a1, .inl a2, .inl a3, .inl v36, .inl v37, zN], [.inl 0])) 1 hd0 hz (by rfl) ?_
                          exact j174 0 (by omega)
                        · exact j169
                exact j127 ((20 - 0 : Int).toNat + 1) 0 0 M32 (by omega) (by omega) (by omega) (by omega) (by omega) hCM32 hWM32
              · refine zG_blk (c' := (66, [.inr (.inr (some 97)), .inl a1, .inl a2, .inl a3, .inl v21, zN, zN], [.inl a2, .inl v21, .inr (.inr (some 97)), .inl v21, .inr (.inr (some 112))])) 6 hd0 hz (by rfl) ?_
                refine zG_call hd0 hz (rfl : zP 243 = (zk_X11_gradeOf, 3, (0, 0))) rfl rfl (Nat.le_of_ble_eq_true rfl) ⟨Nat.le_refl _, Nat.le_refl _⟩ (qm_243_97 (by omega) hCM22   v21 (by omega) a2 (by omega) ) (fun vr M75 hr => ?_)
                obtain ⟨⟨hCM75, hFM75⟩, x76, rfl, hx76⟩ := hr
                have hWM75 : qFm [98, 101, 102, 103, 104, 105, 106, 107, 108, 109, 110, 111, 112, 113, 1007, 1010, 1012, 1013, 1016, 1018, 1019, 1020, 1021, 1022, 1023] M M75 := hWM22.tr hFM75 (by decide)
                have e77 : M75 98 6 = M22 98 6 := hFM75 98 6 (by decide)
                have e78 : M75 98 1 = M22 98 1 := hFM75 98 1 (by decide)
                show zG n (0, 0) d 251 (69, [.inr (.inr (some 97)), .inl a1, .inl a2, .inl a3, .inl v21, zN, zN], [.inl x76, .inl v21, .inr (.inr (some 112))]) M75 _
                refine zG_iast hd0 hz rfl rfl (by omega) ?_
                obtain ⟨M79, hM79⟩ : ∃ X : zM, X = zput M75 112 (v21 : Int).toNat x76 := ⟨_, rfl⟩
                rw [← hM79]
                have hCM79 : qMI M79 := by rw [hM79]; exact hCM75.put (by decide) (qCd_a (by decide) (by decide)) (by refine ⟨fun h => ?_, fun _ => ?_, fun h => ?_, fun h => ?_, fun h => ?_⟩ <;> first | omega | exact absurd h (by decide))
                have hWM79 : qFm [98, 101, 102, 103, 104, 105, 106, 107, 108, 109, 110, 111, 112, 113, 1007, 1010, 1012, 1013, 1016, 1018, 1019, 1020, 1021, 1022, 1023] M M79 := by rw [hM79]; exact hWM75.pa (by decide) (by decide)
                have e80 : M79 98 6 = M75 98 6 := by rw [hM79]; exact qput_ne (by decide)
                have e81 : M79 98 1 = M75 98 1 := by rw [hM79]; exact qput_ne (by decide)
                show zG n (0, 0) d 251 (70, [.inr (.inr (some 97)), .inl a1, .inl a2, .inl a3, .inl v21, zN, zN], []) M79 _
                have r82 := hCM79.rg 97 21 (by decide) (by decide)
                refine zG_blk (c' := (80, [.inr (.inr (some 97)), .inl a1, .inl a2, .inl a3, .inl v21, zN, zN], [.inl (M79 97 21), .inl v21, .inr (.inr (some 111))])) 5 hd0 hz (by rfl) ?_
                refine zG_iast hd0 hz rfl rfl (by omega) ?_
                obtain ⟨M83, hM83⟩ : ∃ X : zM, X = zput M79 111 (v21 : Int).toNat (M79 97 21) := ⟨_, rfl⟩
                rw [← hM83]
                have hCM83 : qMI M83 := by rw [hM83]; exact hCM79.put (by decide) (qCd_a (by decide) (by decide)) (by refine ⟨fun h => ?_, fun _ => ?_, fun h => ?_, fun h => ?_, fun h => ?_⟩ <;> first | omega | exact absurd h (by decide))
                have hWM83 : qFm [98, 101, 102, 103, 104, 105, 106, 107, 108, 109, 110, 111, 112, 113, 1007, 1010, 1012, 1013, 1016, 1018, 1019, 1020, 1021, 1022, 1023] M M83 := by rw [hM83]; exact hWM79.pa (by decide) (by decide)
                have e84 : M83 98 6 = M79 98 6 := by rw [hM83]; exact qput_ne (by decide)
                have e85 : M83 98 1 = M79 98 1 := by rw [hM83]; exact qput_ne (by decide)
                have e86 : M83 97 21 = M79 97 21 := by rw [hM83]; exact qput_ne (by decide)
                show zG n (0, 0) d 251 (81, [.inr (.inr (some 97)), .inl a1, .inl a2, .inl a3, .inl v21, zN, zN], []) M83 _
                refine zG_blk (c' := (91, [.inr (.inr (some 97)), .inl a1, .inl a2, .inl a3, .inl v21, zN, zN], [.inl a2, .inl v21, .inr (.inr (some 97)), .inl v21, .inr (.inr (some 113))])) 6 hd0 hz (by rfl) ?_
                refine zG_call hd0 hz (rfl : zP 244 = (zk_X11_rollOf, 6, (0, 0))) rfl rfl (Nat.le_of_ble_eq_true rfl) ⟨Nat.le_refl _, Nat.le_refl _⟩ (qm_244_97 (by omega) hCM83   v21 (by omega) a2 (by omega) ) (fun vr M87 hr => ?_)
                obtain ⟨⟨hCM87, hFM87⟩, x88, rfl, hx88⟩ := hr
                have hWM87 : qFm [98, 101, 102, 103, 104, 105, 106, 107, 108, 109, 110, 111, 112, 113, 1007, 1010, 1012, 1013, 1016, 1018, 1019, 1020, 1021, 1022, 1023] M M87 := hWM83.tr hFM87 (by decide)
                have e89 : M87 98 6 = M83 98 6 := hFM87 98 6 (by decide)
                have e90 : M87 98 1 = M83 98 1 := hFM87 98 1 (by decide)
                show zG n (0, 0) d 251 (94, [.inr (.inr (some 97)), .inl a1, .inl a2, .inl a3, .inl v21, zN, zN], [.inl x88, .inl v21, .inr (.inr (some 113))]) M87 _
                refine zG_iast hd0 hz rfl rfl (by omega) ?_
                obtain ⟨M92, hM92⟩ : ∃ X : zM, X = zput M87 113 (v21 : Int).toNat x88 := ⟨_, rfl⟩
                rw [← hM92]
                have hCM92 : qMI M92 := by rw [hM92]; exact hCM87.put (by decide) (qCd_a (by decide) (by decide)) (by refine ⟨fun h => ?_, fun _ => ?_, fun h => ?_, fun h => ?_, fun h => ?_⟩ <;> first | omega | exact absurd h (by decide))
                have hWM92 : qFm [98, 101, 102, 103, 104, 105, 106, 107, 108, 109, 110, 111, 112, 113, 1007, 1010, 1012, 1013, 1016, 1018, 1019, 1020, 1021, 1022, 1023] M M92 := by rw [hM92]; exact hWM87.pa (by decide) (by decide)
                have e93 : M92 98 6 = M87 98 6 := by rw [hM92]; exact qput_ne (by decide)
                have e94 : M92 98 1 = M87 98 1 := by rw [hM92]; exact qput_ne (by decide)
                show zG n (0, 0) d 251 (95, [.inr (.inr (some 97)), .inl a1, .inl a2, .inl a3, .inl v21, zN, zN], []) M92 _
                obtain ⟨x95, hx95⟩ : ∃ x : Int, x = w32 (v21 + 1) := ⟨_, rfl⟩
                have hx95e : x95 = v21 + 1 := by rw [hx95]; exact w32_id (by omega)
                refine zG_blk (c' := (45, [.inr (.inr (some 97)), .inl a1, .inl a2, .inl a3, .inl x95, zN, zN], [])) 2 hd0 hz (by subst hx95; rfl) ?_
                exact ih45 x95 M92 (by omega) (by omega) (by omega) (by omega) hCM92 hWM92
          exact j45 ((20 - 0 : Int).toNat + 1) 0 M16 (by omega) (by omega) (by omega) (by omega) hCM16 hWM16
        · refine zG_blk (c' := (36, [.inr (.inr (some 97)), .inl a1, .inl a2, .inl a3, zN, zN, zN], [.inl (-3)])) 1 hd0 hz (by rfl) ?_
          exact zG_ret hd0 hz rfl rfl ⟨⟨hC, hW⟩, _, rfl, by omega, by omega⟩
      · exact j23
