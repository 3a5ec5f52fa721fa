/-! THE MODEL'S METHODS, BY PROGRAM -/
theorem qm_187_97 {n d : Nat} {M : zM} (hd : 2 ≤ d) (hC : qMI M)  (a1 : Int) (ha1 : (-2147483648) ≤ a1 ∧ a1 ≤ 2147483647) (a2 : Int) (ha2 : (-2147483648) ≤ a2 ∧ a2 ≤ 2147483647) (a3 : Int) (ha3 : (-2147483648) ≤ a3 ∧ a3 ≤ 2147483647) (a4 : Int) (ha4 : (-2147483648) ≤ a4 ∧ a4 ≤ 2147483647) : qOkN n d 187 [.inr (.inr (some 97)), .inl a1, .inl a2, .inl a3, .inl a4] 6 [98, 1031] M (fun v M' => ∃ x : Int, v = some (.inl x) ∧ ((-2147483648) ≤ x ∧ x ≤ 2147483647) ∧ (M' 98 6 = M 98 6)) := by
  have hz : zP 187 = (zk_X11_course, 6, (0, 0)) := rfl
  have hd0 : 0 < d := by omega
  have hW : qFm [98, 1031] M M := qFm.rfl
  have r1 := hC.cnt6
  have r2 := hC.cnt0
  show zG n (0, 0) d 187 (0, [.inr (.inr (some 97)), .inl a1, .inl a2, .inl a3, .inl a4, zN], []) M _
  refine zG_blk (c' := (4, [.inr (.inr (some 97)), .inl a1, .inl a2, .inl a3, .inl a4, zN], [.inl 60, .inl 1, .inl a1])) 3 hd0 hz (by rfl) ?_
  refine zG_call hd0 hz (rfl : zP 180 = (zk_X11_in, 3, (0, 0))) rfl rfl (Nat.le_of_ble_eq_true rfl) ⟨Nat.le_refl _, Nat.le_refl _⟩ (qx_in (by omega) hC   a1 (by omega) 1 (by omega) 60 (by omega) ) (fun vr M3 hr => ?_)
  obtain ⟨hq, x4, rfl, hx4⟩ := hr
  replace hq := hq.symm; subst hq
  show zG n (0, 0) d 187 (7, [.inr (.inr (some 97)), .inl a1, .inl a2, .inl a3, .inl a4, zN], [.inl x4]) M _
  have j49 : zG n (0, 0) d 187 (49, [.inr (.inr (some 97)), .inl a1, .inl a2, .inl a3, .inl a4, zN], []) M (fun v M' => (qMI M' ∧ qFm [98, 1031] M M') ∧ ∃ x : Int, v = some (.inl x) ∧ ((-2147483648) ≤ x ∧ x ≤ 2147483647) ∧ (M' 98 6 = M 98 6)) := by
    refine zG_blk (c' := (51, [.inr (.inr (some 97)), .inl a1, .inl a2, .inl a3, .inl a4, zN], [.inl (-2)])) 1 hd0 hz (by rfl) ?_
    exact zG_ret hd0 hz rfl rfl ⟨⟨hC, hW⟩, _, rfl, by omega, by omega⟩
  refine zG_if_eq hd0 hz rfl (fun hb5 => ?_) (fun hb5 => ?_)
  · exact j49
  · refine zG_blk (c' := (18, [.inr (.inr (some 97)), .inl a1, .inl a2, .inl a3, .inl a4, zN], [.inl 0, .inr (.inr (some 98)), .inl 1, .inl 0, .inl a2])) 6 hd0 hz (by rfl) ?_
    refine zG_iald hd0 hz rfl rfl (.inl rfl) (by omega) ?_
    show zG n (0, 0) d 187 (19, [.inr (.inr (some 97)), .inl a1, .inl a2, .inl a3, .inl a4, zN], [.inl (M 98 0), .inl 1, .inl 0, .inl a2]) M _
    obtain ⟨x6, hx6⟩ : ∃ x : Int, x = zbshl 1 (M 98 0) := ⟨_, rfl⟩
    have hx6r := qshl1_in (M 98 0) 16384 14 (by decide) (by decide) (by omega); rw [← hx6] at hx6r
    obtain ⟨x7, hx7⟩ : ∃ x : Int, x = w32 (x6 - 1) := ⟨_, rfl⟩
    have hx7e : x7 = x6 - 1 := by rw [hx7]; exact w32_id (by omega)
    refine zG_blk (c' := (22, [.inr (.inr (some 97)), .inl a1, .inl a2, .inl a3, .inl a4, zN], [.inl x7, .inl 0, .inl a2])) 3 hd0 hz (by subst hx7; subst hx6; rfl) ?_
    refine zG_call hd0 hz (rfl : zP 180 = (zk_X11_in, 3, (0, 0))) rfl rfl (Nat.le_of_ble_eq_true rfl) ⟨Nat.le_refl _, Nat.le_refl _⟩ (qx_in (by omega) hC   a2 (by omega) 0 (by omega) x7 (by omega) ) (fun vr M8 hr => ?_)
    obtain ⟨hq, x9, rfl, hx9⟩ := hr
    replace hq := hq.symm; subst hq
    show zG n (0, 0) d 187 (25, [.inr (.inr (some 97)), .inl a1, .inl a2, .inl a3, .inl a4, zN], [.inl x9]) M _
    refine zG_if_eq hd0 hz rfl (fun hb10 => ?_) (fun hb10 => ?_)
    · exact j49
    · refine zG_blk (c' := (32, [.inr (.inr (some 97)), .inl a1, .inl a2, .inl a3, .inl a4, zN], [.inl 7, .inl 1, .inl a3])) 3 hd0 hz (by rfl) ?_
      refine zG_call hd0 hz (rfl : zP 180 = (zk_X11_in, 3, (0, 0))) rfl rfl (Nat.le_of_ble_eq_true rfl) ⟨Nat.le_refl _, Nat.le_refl _⟩ (qx_in (by omega) hC   a3 (by omega) 1 (by omega) 7 (by omega) ) (fun vr M11 hr => ?_)
      obtain ⟨hq, x12, rfl, hx12⟩ := hr
      replace hq := hq.symm; subst hq
      show zG n (0, 0) d 187 (35, [.inr (.inr (some 97)), .inl a1, .inl a2, .inl a3, .inl a4, zN], [.inl x12]) M _
      refine zG_if_eq hd0 hz rfl (fun hb13 => ?_) (fun hb13 => ?_)
      · exact j49
      · refine zG_blk (c' := (43, [.inr (.inr (some 97)), .inl a1, .inl a2, .inl a3, .inl a4, zN], [.inl 100, .inl 0, .inl a4])) 3 hd0 hz (by rfl) ?_
        refine zG_call hd0 hz (rfl : zP 180 = (zk_X11_in, 3, (0, 0))) rfl rfl (Nat.le_of_ble_eq_true rfl) ⟨Nat.le_refl _, Nat.le_refl _⟩ (qx_in (by omega) hC   a4 (by omega) 0 (by omega) 100 (by omega) ) (fun vr M14 hr => ?_)
        obtain ⟨hq, x15, rfl, hx15⟩ := hr
        replace hq := hq.symm; subst hq
        show zG n (0, 0) d 187 (46, [.inr (.inr (some 97)), .inl a1, .inl a2, .inl a3, .inl a4, zN], [.inl x15]) M _
        refine zG_if_ne hd0 hz rfl (fun hb16 => ?_) (fun hb16 => ?_)
        · refine zG_blk (c' := (57, [.inr (.inr (some 97)), .inl a1, .inl a2, .inl a3, .inl a4, zN], [.inl 0, .inr (.inr (some 98))])) 3 hd0 hz (by rfl) ?_
          refine zG_iald hd0 hz rfl rfl (.inl rfl) (by omega) ?_
          show zG n (0, 0) d 187 (58, [.inr (.inr (some 97)), .inl a1, .inl a2, .inl a3, .inl a4, zN], [.inl (M 98 0)]) M _
          refine zG_blk (c' := (60, [.inr (.inr (some 97)), .inl a1, .inl a2, .inl a3, .inl a4, zN], [.inl 14, .inl (M 98 0)])) 1 hd0 hz (by rfl) ?_
          refine zG_icmp_ne hd0 hz rfl (fun hb17 => ?_) (fun hb17 => ?_)
          · refine zG_blk (c' := (74, [.inr (.inr (some 97)), .inl a1, .inl a2, .inl a3, .inl a4, zN], [.inl 0, .inr (.inr (some 98)), .inl 4, .inl 20])) 5 hd0 hz (by rfl) ?_
            refine zG_iald hd0 hz rfl rfl (.inl rfl) (by omega) ?_
            show zG n (0, 0) d 187 (75, [.inr (.inr (some 97)), .inl a1, .inl a2, .inl a3, .inl a4, zN], [.inl (M 98 0), .inl 4, .inl 20]) M _
            obtain ⟨x18, hx18⟩ : ∃ x : Int, x = w32 (4 * (M 98 0)) := ⟨_, rfl⟩
            have hx18e : x18 = 4 * (M 98 0) := by rw [hx18]; exact w32_id (by omega)
            obtain ⟨x19, hx19⟩ : ∃ x : Int, x = w32 (20 + x18) := ⟨_, rfl⟩
            have hx19e : x19 = 20 + x18 := by rw [hx19]; exact w32_id (by omega)
            refine zG_blk (c' := (86, [.inr (.inr (some 97)), .inl a1, .inl a2, .inl a3, .inl a4, .inl x19], [.inl a1, .inl x19, .inr (.inr (some 98))])) 7 hd0 hz (by subst hx19; subst hx18; rfl) ?_
            refine zG_iast hd0 hz rfl rfl (by omega) ?_
            obtain ⟨M20, hM20⟩ : ∃ X : zM, X = zput M 98 (x19 : Int).toNat a1 := ⟨_, rfl⟩
            rw [← hM20]
            have hCM20 : qMI M20 := by rw [hM20]; exact hC.put98' (by refine ⟨by omega, fun _ => by omega, fun _ => by omega, fun _ => by omega, fun _ => by omega, fun _ => by omega, fun _ => by omega, fun _ => by omega, fun c9 hc9 _ => by omega, fun u9 hu9 _ => by omega, fun m9 hm9 _ => by omega, fun a9 ha9 => ⟨fun _ => by omega, fun _ => by omega, fun _ => by omega, fun _ => by omega⟩, fun t9 ht9 _ => by omega, fun o9 ho9 _ => by omega⟩) (by omega) (by omega)
            have hWM20 : qFm [98, 1031] M M20 := by rw [hM20]; exact hW.pa (by decide) (by decide)
            have e21 : M20 98 6 = M 98 6 := by rw [hM20]; exact qput_nk (by omega)
            have e22 : M20 98 0 = M 98 0 := by rw [hM20]; exact qput_nk (by omega)
            show zG n (0, 0) d 187 (87, [.inr (.inr (some 97)), .inl a1, .inl a2, .inl a3, .inl a4, .inl x19], []) M20 _
            obtain ⟨x23, hx23⟩ : ∃ x : Int, x = w32 (x19 + 1) := ⟨_, rfl⟩
            have hx23e : x23 = x19 + 1 := by rw [hx23]; exact w32_id (by omega)
            refine zG_blk (c' := (96, [.inr (.inr (some 97)), .inl a1, .inl a2, .inl a3, .inl a4, .inl x19], [.inl a2, .inl x23, .inr (.inr (some 98))])) 6 hd0 hz (by subst hx23; rfl) ?_
            refine zG_iast hd0 hz rfl rfl (by omega) ?_
            obtain ⟨M24, hM24⟩ : ∃ X : zM, X = zput M20 98 (x23 : Int).toNat a2 := ⟨_, rfl⟩
            rw [← hM24]
            have hCM24 : qMI M24 := by rw [hM24]; exact hCM20.put98' (by refine ⟨by omega, fun _ => by omega, fun _ => by omega, fun _ => by omega, fun _ => by omega, fun _ => by omega, fun _ => by omega, fun _ => by omega, fun c9 hc9 _ => by omega, fun u9 hu9 _ => by omega, fun m9 hm9 _ => by omega, fun a9 ha9 => ⟨fun _ => by omega, fun _ => by omega, fun _ => by omega, fun _ => by omega⟩, fun t9 ht9 _ => by omega, fun o9 ho9 _ => by omega⟩) (by omega) (by omega)
            have hWM24 : qFm [98, 1031] M M24 := by rw [hM24]; exact hWM20.pa (by decide) (by decide)
            have e25 : M24 98 6 = M20 98 6 := by rw [hM24]; exact qput_nk (by omega)
            have e26 : M24 98 0 = M20 98 0 := by rw [hM24]; exact qput_nk (by omega)
            show zG n (0, 0) d 187 (97, [.inr (.inr (some 97)), .inl a1, .inl a2, .inl a3, .inl a4, .inl x19], []) M24 _
            obtain ⟨x27, hx27⟩ : ∃ x : Int, x = w32 (x19 + 2) := ⟨_, rfl⟩
            have hx27e : x27 = x19 + 2 := by rw [hx27]; exact w32_id (by omega)
            refine zG_blk (c' := (106, [.inr (.inr (some 97)), .inl a1, .inl a2, .inl a3, .inl a4, .inl x19], [.inl a3, .inl x27, .inr (.inr (some 98))])) 6 hd0 hz (by subst hx27; rfl) ?_
            refine zG_iast hd0 hz rfl rfl (by omega) ?_
            obtain ⟨M28, hM28⟩ : ∃ X : zM, X = zput M24 98 (x27 : Int).toNat a3 := ⟨_, rfl⟩
            rw [← hM28]
            have hCM28 : qMI M28 := by rw [hM28]; exact hCM24.put98' (by refine ⟨by omega, fun _ => by omega, fun _ => by omega, fun _ => by omega, fun _ => by omega, fun _ => by omega, fun _ => by omega, fun _ => by omega, fun c9 hc9 _ => by omega, fun u9 hu9 _ => by omega, fun m9 hm9 _ => by omega, fun a9 ha9 => ⟨fun _ => by omega, fun _ => by omega, fun _ => by omega, fun _ => by omega⟩, fun t9 ht9 _ => by omega, fun o9 ho9 _ => by omega⟩) (by omega) (by omega)
            have hWM28 : qFm [98, 1031] M M28 := by rw [hM28]; exact hWM24.pa (by decide) (by decide)
            have e29 : M28 98 6 = M24 98 6 := by rw [hM28]; exact qput_nk (by omega)
            have e30 : M28 98 0 = M24 98 0 := by rw [hM28]; exact qput_nk (by omega)
            show zG n (0, 0) d 187 (107, [.inr (.inr (some 97)), .inl a1, .inl a2, .inl a3, .inl a4, .inl x19], []) M28 _
            obtain ⟨x31, hx31⟩ : ∃ x : Int, x = w32 (x19 + 3) := ⟨_, rfl⟩
            have hx31e : x31 = x19 + 3 := by rw [hx31]; exact w32_id (by omega)
            refine zG_blk (c' := (117, [.inr (.inr (some 97)), .inl a1, .inl a2, .inl a3, .inl a4, .inl x19], [.inl a4, .inl x31, .inr (.inr (some 98))])) 6 hd0 hz (by subst hx31; rfl) ?_
            refine zG_iast hd0 hz rfl rfl (by omega) ?_
            obtain ⟨M32, hM32⟩ : ∃ X : zM, X = zput M28 98 (x31 : Int).toNat a4 := ⟨_, rfl⟩
            rw [← hM32]
            have hCM32 : qMI M32 := by rw [hM32]; exact hCM28.put98' (by refine ⟨by omega, fun _ => by omega, fun _ => by omega, fun _ => by omega, fun _ => by omega, fun _ => by omega, fun _ => by omega, fun _ => by omega, fun c9 hc9 _ => by omega, fun u9 hu9 _ => by omega, fun m9 hm9 _ => by omega, fun a9 ha9 => ⟨fun _ => by omega, fun _ => by omega, fun _ => by omega, fun _ => by omega⟩, fun t9 ht9 _ => by omega, fun o9 ho9 _ => by omega⟩) (by omega) (by omega)
            have hWM32 : qFm [98, 1031] M M32 := by rw [hM32]; exact hWM28.pa (by decide) (by decide)
            have e33 : M32 98 6 = M28 98 6 := by rw [hM32]; exact qput_nk (by omega)
            have e34 : M32 98 0 = M28 98 0 := by rw [hM32]; exact qput_nk (by omega)
            show zG n (0, 0) d 187 (118, [.inr (.inr (some 97)), .inl a1, .inl a2, .inl a3, .inl a4, .inl x19], []) M32 _
            refine zG_blk (c' := (120, [.inr (.inr (some 97)), .inl a1, .inl a2, .inl a3, .inl a4, .inl x19], [.inl (-1), .inr (.inr (some 97))])) 2 hd0 hz (by rfl) ?_
            refine zG_putf (.inl rfl) hd0 hz rfl (by decide) rfl rfl ?_
            obtain ⟨M35, hM35⟩ : ∃ X : zM, X = zput M32 97 31 (-1) := ⟨_, rfl⟩
            rw [← hM35]
            have hCM35 : qMI M35 := by rw [hM35]; exact hCM32.put (by decide) (by decide) (by refine ⟨fun _ => ?_, fun _ => ?_, fun h => ⟨fun _ => ?_, fun _ => ?_, fun _ => ?_, fun _ => ?_, fun _ => ?_⟩, fun h => ?_, fun h => ?_⟩ <;> first | omega | exact absurd rfl (by assumption) | (rename_i h9; exact absurd h9 (by decide)))
            have hWM35 : qFm [98, 1031] M M35 := by rw [hM35]; exact hWM32.put (by decide)
            have e36 : M35 98 6 = M32 98 6 := by rw [hM35]; exact qput_ne (by decide)
            have e37 : M35 98 0 = M32 98 0 := by rw [hM35]; exact qput_ne (by decide)
            have e38 : M35 97 31 = (-1) := by rw [hM35]; exact qput_eq
            show zG n (0, 0) d 187 (123, [.inr (.inr (some 97)), .inl a1, .inl a2, .inl a3, .inl a4, .inl x19], []) M35 _
            refine zG_blk (c' := (125, [.inr (.inr (some 97)), .inl a1, .inl a2, .inl a3, .inl a4, .inl x19], [.inl 0, .inr (.inr (some 97))])) 2 hd0 hz (by rfl) ?_
            refine zG_call hd0 hz (rfl : zP 183 = (zk_X11_one, 2, (0, 0))) rfl rfl (Nat.le_of_ble_eq_true rfl) ⟨Nat.le_refl _, Nat.le_refl _⟩ (qx_oneC (by omega) hCM35   0 (by decide) (by decide) (by refine ⟨by omega, fun _ => by omega, fun _ => by omega, fun _ => by omega, fun _ => by omega, fun _ => by omega, fun _ => by omega, fun _ => by omega, fun c9 hc9 _ => by omega, fun u9 hu9 _ => by omega, fun m9 hm9 _ => by omega, fun a9 ha9 => ⟨fun _ => by omega, fun _ => by omega, fun _ => by omega, fun _ => by omega⟩, fun t9 ht9 _ => by omega, fun o9 ho9 _ => by omega⟩) ) (fun vr M39 hr => ?_)
            obtain ⟨⟨hCM39, hFM39⟩, x40, rfl, hx40, hpx40_0, hpx40_1⟩ := hr
            have hWM39 : qFm [98, 1031] M M39 := hWM35.tr hFM39 (by decide)
            have e41 : M39 98 6 = M35 98 6 := hpx40_1 _ (by omega)
            have e43 : M39 97 31 = M35 97 31 := hFM39 97 31 (by decide)
            show zG n (0, 0) d 187 (128, [.inr (.inr (some 97)), .inl a1, .inl a2, .inl a3, .inl a4, .inl x19], [.inl x40]) M39 _
            exact zG_ret hd0 hz rfl rfl ⟨⟨hCM39, hWM39⟩, _, rfl, by omega, by omega⟩
          · refine zG_blk (c' := (65, [.inr (.inr (some 97)), .inl a1, .inl a2, .inl a3, .inl a4, zN], [.inl (-4)])) 1 hd0 hz (by rfl) ?_
            exact zG_ret hd0 hz rfl rfl ⟨⟨hC, hW⟩, _, rfl, by omega, by omega⟩
        · exact j49
theorem qm_188_97 {n d : Nat} {M : zM} (hd : 3 ≤ d) (hC : qMI M)  (a1 : Int) (ha1 : (-2147483648) ≤ a1 ∧ a1 ≤ 2147483647) : qOkN n d 188 [.inr (.inr (some 97)), .inl a1] 3 [98] M (fun v M' => ∃ x : Int, v = some (.inl x) ∧ ((-2147483648) ≤ x ∧ x ≤ 2147483647) ∧ (M' 98 6 = M 98 6)) := by
  have hz : zP 188 = (zk_X11_student, 3, (0, 0)) := rfl
  have hd0 : 0 < d := by omega
  have hW : qFm [98] M M := qFm.rfl
  have r1 := hC.cnt6
  have r2 := hC.cnt1
  show zG n (0, 0) d 188 (0, [.inr (.inr (some 97)), .inl a1, zN], []) M _
  refine zG_blk (c' := (1, [.inr (.inr (some 97)), .inl a1, zN], [.inl a1])) 1 hd0 hz (by rfl) ?_
  refine zG_call hd0 hz (rfl : zP 184 = (zk_X11_isDay, 1, (0, 0))) rfl rfl (Nat.le_of_ble_eq_true rfl) ⟨Nat.le_refl _, Nat.le_refl _⟩ (qm_184 (by omega) hC   a1 (by omega) ) (fun vr M3 hr => ?_)
  obtain ⟨hq, x4, rfl, hx4, hpx4_0⟩ := hr
  replace hq := hq.symm; subst hq
  show zG n (0, 0) d 188 (4, [.inr (.inr (some 97)), .inl a1, zN], [.inl x4]) M _
  refine zG_if_ne hd0 hz rfl (fun hb5 => ?_) (fun hb5 => ?_)
  · refine zG_blk (c' := (15, [.inr (.inr (some 97)), .inl a1, zN], [.inl 1, .inr (.inr (some 98))])) 3 hd0 hz (by rfl) ?_
    refine zG_iald hd0 hz rfl rfl (.inl rfl) (by omega) ?_
    show zG n (0, 0) d 188 (16, [.inr (.inr (some 97)), .inl a1, zN], [.inl (M 98 1)]) M _
    refine zG_blk (c' := (18, [.inr (.inr (some 97)), .inl a1, zN], [.inl 20, .inl (M 98 1)])) 1 hd0 hz (by rfl) ?_
    refine zG_icmp_ne hd0 hz rfl (fun hb6 => ?_) (fun hb6 => ?_)
    · refine zG_blk (c' := (32, [.inr (.inr (some 97)), .inl a1, zN], [.inl 1, .inr (.inr (some 98)), .inl 3, .inl 80])) 5 hd0 hz (by rfl) ?_
      refine zG_iald hd0 hz rfl rfl (.inl rfl) (by omega) ?_
      show zG n (0, 0) d 188 (33, [.inr (.inr (some 97)), .inl a1, zN], [.inl (M 98 1), .inl 3, .inl 80]) M _
      obtain ⟨x7, hx7⟩ : ∃ x : Int, x = w32 (3 * (M 98 1)) := ⟨_, rfl⟩
      have hx7e : x7 = 3 * (M 98 1) := by rw [hx7]; exact w32_id (by omega)
      obtain ⟨x8, hx8⟩ : ∃ x : Int, x = w32 (80 + x7) := ⟨_, rfl⟩
      have hx8e : x8 = 80 + x7 := by rw [hx8]; exact w32_id (by omega)
      refine zG_blk (c' := (42, [.inr (.inr (some 97)), .inl a1, .inl x8], [.inl a1, .inl x8, .inr (.inr (some 98))])) 7 hd0 hz (by subst hx8; subst hx7; rfl) ?_
      refine zG_iast hd0 hz rfl rfl (by omega) ?_
      obtain ⟨M9, hM9⟩ : ∃ X : zM, X = zput M 98 (x8 : Int).toNat a1 := ⟨_, rfl⟩
      rw [← hM9]
      have hCM9 : qMI M9 := by rw [hM9]; exact hC.put98' (by refine ⟨by omega, fun _ => by omega, fun _ => by omega, fun _ => by omega, fun _ => by omega, fun _ => by omega, fun _ => by omega, fun _ => by omega, fun c9 hc9 _ => by omega, fun u9 hu9 _ => by omega, fun m9 hm9 _ => by omega, fun a9 ha9 => ⟨fun _ => by omega, fun _ => by omega, fun _ => by omega, fun _ => by omega⟩, fun t9 ht9 _ => by omega, fun o9 ho9 _ => by omega⟩) (by omega) (by omega)
      have hWM9 : qFm [98] M M9 := by rw [hM9]; exact hW.pa (by decide) (by decide)
      have e10 : M9 98 6 = M 98 6 := by rw [hM9]; exact qput_nk (by omega)
      have e11 : M9 98 1 = M 98 1 := by rw [hM9]; exact qput_nk (by omega)
      show zG n (0, 0) d 188 (43, [.inr (.inr (some 97)), .inl a1, .inl x8], []) M9 _
      obtain ⟨x12, hx12⟩ : ∃ x : Int, x = w32 (x8 + 1) := ⟨_, rfl⟩
      have hx12e : x12 = x8 + 1 := by rw [hx12]; exact w32_id (by omega)
      refine zG_blk (c' := (51, [.inr (.inr (some 97)), .inl a1, .inl x8], [.inl (-1), .inl x12, .inr (.inr (some 98))])) 6 hd0 hz (by subst hx12; rfl) ?_
      refine zG_iast hd0 hz rfl rfl (by omega) ?_
      obtain ⟨M13, hM13⟩ : ∃ X : zM, X = zput M9 98 (x12 : Int).toNat (-1) := ⟨_, rfl⟩
      rw [← hM13]
      have hCM13 : qMI M13 := by rw [hM13]; exact hCM9.put98' (by refine ⟨by omega, fun _ => by omega, fun _ => by omega, fun _ => by omega, fun _ => by omega, fun _ => by omega, fun _ => by omega, fun _ => by omega, fun c9 hc9 _ => by omega, fun u9 hu9 _ => by omega, fun m9 hm9 _ => by omega, fun a9 ha9 => ⟨fun _ => by omega, fun _ => by omega, fun _ => by omega, fun _ => by omega⟩, fun t9 ht9 _ => by omega, fun o9 ho9 _ => by omega⟩) (by omega) (by omega)
      have hWM13 : qFm [98] M M13 := by rw [hM13]; exact hWM9.pa (by decide) (by decide)
      have e14 : M13 98 6 = M9 98 6 := by rw [hM13]; exact qput_nk (by omega)
      have e15 : M13 98 1 = M9 98 1 := by rw [hM13]; exact qput_nk (by omega)
      show zG n (0, 0) d 188 (52, [.inr (.inr (some 97)), .inl a1, .inl x8], []) M13 _
      obtain ⟨x16, hx16⟩ : ∃ x : Int, x = w32 (x8 + 2) := ⟨_, rfl⟩
      have hx16e : x16 = x8 + 2 := by rw [hx16]; exact w32_id (by omega)
      refine zG_blk (c' := (60, [.inr (.inr (some 97)), .inl a1, .inl x8], [.inl 0, .inl x16, .inr (.inr (some 98))])) 6 hd0 hz (by subst hx16; rfl) ?_
      refine zG_iast hd0 hz rfl rfl (by omega) ?_
      obtain ⟨M17, hM17⟩ : ∃ X : zM, X = zput M13 98 (x16 : Int).toNat 0 := ⟨_, rfl⟩
      rw [← hM17]
      have hCM17 : qMI M17 := by rw [hM17]; exact hCM13.put98' (by refine ⟨by omega, fun _ => by omega, fun _ => by omega, fun _ => by omega, fun _ => by omega, fun _ => by omega, fun _ => by omega, fun _ => by omega, fun c9 hc9 _ => by omega, fun u9 hu9 _ => by omega, fun m9 hm9 _ => by omega, fun a9 ha9 => ⟨fun _ => by omega, fun _ => by omega, fun _ => by omega, fun _ => by omega⟩, fun t9 ht9 _ => by omega, fun o9 ho9 _ => by omega⟩) (by omega) (by omega)
      have hWM17 : qFm [98] M M17 := by rw [hM17]; exact hWM13.pa (by decide) (by decide)
      have e18 : M17 98 6 = M13 98 6 := by rw [hM17]; exact qput_nk (by omega)
      have e19 : M17 98 1 = M13 98 1 := by rw [hM17]; exact qput_nk (by omega)
      show zG n (0, 0) d 188 (61, [.inr (.inr (some 97)), .inl a1, .inl x8], []) M17 _
      refine zG_blk (c' := (63, [.inr (.inr (some 97)), .inl a1, .inl x8], [.inl 1, .inr (.inr (some 97))])) 2 hd0 hz (by rfl) ?_
      refine zG_call hd0 hz (rfl : zP 183 = (zk_X11_one, 2, (0, 0))) rfl rfl (Nat.le_of_ble_eq_true rfl) ⟨Nat.le_refl _, Nat.le_refl _⟩ (qx_oneC (by omega) hCM17   1 (by decide) (by decide) (by refine ⟨by omega, fun _ => by omega, fun _ => by omega, fun _ => by omega, fun _ => by omega, fun _ => by omega, fun _ => by omega, fun _ => by omega, fun c9 hc9 _ => by omega, fun u9 hu9 _ => by omega, fun m9 hm9 _ => by omega, fun a9 ha9 => ⟨fun _ => by omega, fun _ => by omega, fun _ => by omega, fun _ => by omega⟩, fun t9 ht9 _ => by omega, fun o9 ho9 _ => by omega⟩) ) (fun vr M20 hr => ?_)
      obtain ⟨⟨hCM20, hFM20⟩, x21, rfl, hx21, hpx21_0, hpx21_1⟩ := hr
      have hWM20 : qFm [98] M M20 := hWM17.tr hFM20 (by decide)
      have e22 : M20 98 6 = M17 98 6 := hpx21_1 _ (by omega)
      show zG n (0, 0) d 188 (66, [.inr (.inr (some 97)), .inl a1, .inl x8], [.inl x21]) M20 _
      exact zG_ret hd0 hz rfl rfl ⟨⟨hCM20, hWM20⟩, _, rfl, by omega, by omega⟩
    · refine zG_blk (c' := (23, [.inr (.inr (some 97)), .inl a1, zN], [.inl (-4)])) 1 hd0 hz (by rfl) ?_
      exact zG_ret hd0 hz rfl rfl ⟨⟨hC, hW⟩, _, rfl, by omega, by omega⟩
  · refine zG_blk (c' := (9, [.inr (.inr (some 97)), .inl a1, zN], [.inl (-2)])) 1 hd0 hz (by rfl) ?_
    exact zG_ret hd0 hz rfl rfl ⟨⟨hC, hW⟩, _, rfl, by omega, by omega⟩
theorem qm_189_97 {n d : Nat} {M : zM} (hd : 2 ≤ d) (hC : qMI M)  (a1 : Int) (ha1 : (-2147483648) ≤ a1 ∧ a1 ≤ 2147483647) (a2 : Int) (ha2 : (-2147483648) ≤ a2 ∧ a2 ≤ 2147483647) : qOkN n d 189 [.inr (.inr (some 97)), .inl a1, .inl a2] 3 [98] M (fun v M' => ∃ x : Int, v = some (.inl x) ∧ ((-2147483648) ≤ x ∧ x ≤ 2147483647) ∧ (M' 98 6 = M 98 6)) := by
  have hz : zP 189 = (zk_X11_board, 3, (0, 0)) := rfl
  have hd0 : 0 < d := by omega
  have hW : qFm [98] M M := qFm.rfl
  have r1 := hC.cnt6
  have r2 := hC.cnt2
  show zG n (0, 0) d 189 (0, [.inr (.inr (some 97)), .inl a1, .inl a2], []) M _
  refine zG_blk (c' := (5, [.inr (.inr (some 97)), .inl a1, .inl a2], [.inl 1023, .inl 1, .inl a1])) 3 hd0 hz (by rfl) ?_
  refine zG_call hd0 hz (rfl : zP 180 = (zk_X11_in, 3, (0, 0))) rfl rfl (Nat.le_of_ble_eq_true rfl) ⟨Nat.le_refl _, Nat.le_refl _⟩ (qx_in (by omega) hC   a1 (by omega) 1 (by omega) 1023 (by omega) ) (fun vr M3 hr => ?_)
  obtain ⟨hq, x4, rfl, hx4⟩ := hr
  replace hq := hq.symm; subst hq
  show zG n (0, 0) d 189 (8, [.inr (.inr (some 97)), .inl a1, .inl a2], [.inl x4]) M _
  have j21 : zG n (0, 0) d 189 (21, [.inr (.inr (some 97)), .inl a1, .inl a2], []) M (fun v M' => (qMI M' ∧ qFm [98] M M') ∧ ∃ x : Int, v = some (.inl x) ∧ ((-2147483648) ≤ x ∧ x ≤ 2147483647) ∧ (M' 98 6 = M 98 6)) := by
    refine zG_blk (c' := (23, [.inr (.inr (some 97)), .inl a1, .inl a2], [.inl (-2)])) 1 hd0 hz (by rfl) ?_
    exact zG_ret hd0 hz rfl rfl ⟨⟨hC, hW⟩, _, rfl, by omega, by omega⟩
  refine zG_if_eq hd0 hz rfl (fun hb5 => ?_) (fun hb5 => ?_)
  · exact j21
  · refine zG_blk (c' := (15, [.inr (.inr (some 97)), .inl a1, .inl a2], [.inl 10, .inl 1, .inl a2])) 3 hd0 hz (by rfl) ?_
    refine zG_call hd0 hz (rfl : zP 180 = (zk_X11_in, 3, (0, 0))) rfl rfl (Nat.le_of_ble_eq_true rfl) ⟨Nat.le_refl _, Nat.le_refl _⟩ (qx_in (by omega) hC   a2 (by omega) 1 (by omega) 10 (by omega) ) (fun vr M6 hr => ?_)
    obtain ⟨hq, x7, rfl, hx7⟩ := hr
    replace hq := hq.symm; subst hq
    show zG n (0, 0) d 189 (18, [.inr (.inr (some 97)), .inl a1, .inl a2], [.inl x7]) M _
    refine zG_if_ne hd0 hz rfl (fun hb8 => ?_) (fun hb8 => ?_)
    · refine zG_blk (c' := (29, [.inr (.inr (some 97)), .inl a1, .inl a2], [.inl 2, .inr (.inr (some 98))])) 3 hd0 hz (by rfl) ?_
      refine zG_iald hd0 hz rfl rfl (.inl rfl) (by omega) ?_
      show zG n (0, 0) d 189 (30, [.inr (.inr (some 97)), .inl a1, .inl a2], [.inl (M 98 2)]) M _
      refine zG_blk (c' := (31, [.inr (.inr (some 97)), .inl a1, .inl a2], [.inl 4, .inl (M 98 2)])) 1 hd0 hz (by rfl) ?_
      refine zG_icmp_ne hd0 hz rfl (fun hb9 => ?_) (fun hb9 => ?_)
      · refine zG_blk (c' := (50, [.inr (.inr (some 97)), .inl a1, .inl a2], [.inl 2, .inr (.inr (some 98)), .inl 2, .inl 140, .inr (.inr (some 98))])) 7 hd0 hz (by rfl) ?_
        refine zG_iald hd0 hz rfl rfl (.inl rfl) (by omega) ?_
        show zG n (0, 0) d 189 (51, [.inr (.inr (some 97)), .inl a1, .inl a2], [.inl (M 98 2), .inl 2, .inl 140, .inr (.inr (some 98))]) M _
        obtain ⟨x10, hx10⟩ : ∃ x : Int, x = w32 (2 * (M 98 2)) := ⟨_, rfl⟩
        have hx10e : x10 = 2 * (M 98 2) := by rw [hx10]; exact w32_id (by omega)
        obtain ⟨x11, hx11⟩ : ∃ x : Int, x = w32 (140 + x10) := ⟨_, rfl⟩
        have hx11e : x11 = 140 + x10 := by rw [hx11]; exact w32_id (by omega)
        refine zG_blk (c' := (54, [.inr (.inr (some 97)), .inl a1, .inl a2], [.inl a1, .inl x11, .inr (.inr (some 98))])) 3 hd0 hz (by subst hx11; subst hx10; rfl) ?_
        refine zG_iast hd0 hz rfl rfl (by omega) ?_
        obtain ⟨M12, hM12⟩ : ∃ X : zM, X = zput M 98 (x11 : Int).toNat a1 := ⟨_, rfl⟩
        rw [← hM12]
        have hCM12 : qMI M12 := by rw [hM12]; exact hC.put98' (by refine ⟨by omega, fun _ => by omega, fun _ => by omega, fun _ => by omega, fun _ => by omega, fun _ => by omega, fun _ => by omega, fun _ => by omega, fun c9 hc9 _ => by omega, fun u9 hu9 _ => by omega, fun m9 hm9 _ => by omega, fun a9 ha9 => ⟨fun _ => by omega, fun _ => by omega, fun _ => by omega, fun _ => by omega⟩, fun t9 ht9 _ => by omega, fun o9 ho9 _ => by omega⟩) (by omega) (by omega)
        have hWM12 : qFm [98] M M12 := by rw [hM12]; exact hW.pa (by decide) (by decide)
        have e13 : M12 98 6 = M 98 6 := by rw [hM12]; exact qput_nk (by omega)
        have e14 : M12 98 2 = M 98 2 := by rw [hM12]; exact qput_nk (by omega)
        show zG n (0, 0) d 189 (55, [.inr (.inr (some 97)), .inl a1, .inl a2], []) M12 _
        refine zG_blk (c' := (68, [.inr (.inr (some 97)), .inl a1, .inl a2], [.inl 2, .inr (.inr (some 98)), .inl 2, .inl 140, .inr (.inr (some 98))])) 7 hd0 hz (by rfl) ?_
        refine zG_iald hd0 hz rfl rfl (.inl rfl) (by omega) ?_
        show zG n (0, 0) d 189 (69, [.inr (.inr (some 97)), .inl a1, .inl a2], [.inl (M12 98 2), .inl 2, .inl 140, .inr (.inr (some 98))]) M12 _
        obtain ⟨x15, hx15⟩ : ∃ x : Int, x = w32 (2 * (M12 98 2)) := ⟨_, rfl⟩
        have hx15e : x15 = 2 * (M12 98 2) := by rw [hx15]; exact w32_id (by omega)
        obtain ⟨x16, hx16⟩ : ∃ x : Int, x = w32 (140 + x15) := ⟨_, rfl⟩
        have hx16e : x16 = 140 + x15 := by rw [hx16]; exact w32_id (by omega)
        obtain ⟨x17, hx17⟩ : ∃ x : Int, x = w32 (x16 + 1) := ⟨_, rfl⟩
        have hx17e : x17 = x16 + 1 := by rw [hx17]; exact w32_id (by omega)
        refine zG_blk (c' := (74, [.inr (.inr (some 97)), .inl a1, .inl a2], [.inl a2, .inl x17, .inr (.inr (some 98))])) 5 hd0 hz (by subst hx17; subst hx16; subst hx15; rfl) ?_
        refine zG_iast hd0 hz rfl rfl (by omega) ?_
        obtain ⟨M18, hM18⟩ : ∃ X : zM, X = zput M12 98 (x17 : Int).toNat a2 := ⟨_, rfl⟩
        rw [← hM18]
        have hCM18 : qMI M18 := by rw [hM18]; exact hCM12.put98' (by refine ⟨by omega, fun _ => by omega, fun _ => by omega, fun _ => by omega, fun _ => by omega, fun _ => by omega, fun _ => by omega, fun _ => by omega, fun c9 hc9 _ => by omega, fun u9 hu9 _ => by omega, fun m9 hm9 _ => by omega, fun a9 ha9 => ⟨fun _ => by omega, fun _ => by omega, fun _ => by omega, fun _ => by omega⟩, fun t9 ht9 _ => by omega, fun o9 ho9 _ => by omega⟩) (by omega) (by omega)
        have hWM18 : qFm [98] M M18 := by rw [hM18]; exact hWM12.pa (by decide) (by decide)
        have e19 : M18 98 6 = M12 98 6 := by rw [hM18]; exact qput_nk (by omega)
        have e20 : M18 98 2 = M12 98 2 := by rw [hM18]; exact qput_nk (by omega)
        show zG n (0, 0) d 189 (75, [.inr (.inr (some 97)), .inl a1, .inl a2], []) M18 _
        refine zG_blk (c' := (77, [.inr (.inr (some 97)), .inl a1, .inl a2], [.inl 2, .inr (.inr (some 97))])) 2 hd0 hz (by rfl) ?_
        refine zG_call hd0 hz (rfl : zP 183 = (zk_X11_one, 2, (0, 0))) rfl rfl (Nat.le_of_ble_eq_true rfl) ⟨Nat.le_refl _, Nat.le_refl _⟩ (qx_oneC (by omega) hCM18   2 (by decide) (by decide) (by refine ⟨by omega, fun _ => by omega, fun _ => by omega, fun _ => by omega, fun _ => by omega, fun _ => by omega, fun _ => by omega, fun _ => by omega, fun c9 hc9 _ => by omega, fun u9 hu9 _ => by omega, fun m9 hm9 _ => by omega, fun a9 ha9 => ⟨fun _ => by omega, fun _ => by omega, fun _ => by omega, fun _ => by omega⟩, fun t9 ht9 _ => by omega, fun o9 ho9 _ => by omega⟩) ) (fun vr M21 hr => ?_)
        obtain ⟨⟨hCM21, hFM21⟩, x22, rfl, hx22, hpx22_0, hpx22_1⟩ := hr
        have hWM21 : qFm [98] M M21 := hWM18.tr hFM21 (by decide)
        have e23 : M21 98 6 = M18 98 6 := hpx22_1 _ (by omega)
        show zG n (0, 0) d 189 (80, [.inr (.inr (some 97)), .inl a1, .inl a2], [.inl x22]) M21 _
        exact zG_ret hd0 hz rfl rfl ⟨⟨hCM21, hWM21⟩, _, rfl, by omega, by omega⟩
      · refine zG_blk (c' := (36, [.inr (.inr (some 97)), .inl a1, .inl a2], [.inl (-4)])) 1 hd0 hz (by rfl) ?_
        exact zG_ret hd0 hz rfl rfl ⟨⟨hC, hW⟩, _, rfl, by omega, by omega⟩
    · exact j21
theorem qm_190_97 {n d : Nat} {M : zM} (hd : 3 ≤ d) (hC : qMI M)  (a1 : Int) (ha1 : (-2147483648) ≤ a1 ∧ a1 ≤ 2147483647) (a2 : Int) (ha2 : (-2147483648) ≤ a2 ∧ a2 ≤ 2147483647) (a3 : Int) (ha3 : (-2147483648) ≤ a3 ∧ a3 ≤ 2147483647) (a4 : Int) (ha4 : (-2147483648) ≤ a4 ∧ a4 ≤ 2147483647) : qOkN n d 190 [.inr (.inr (some 97)), .inl a1, .inl a2, .inl a3, .inl a4] 6 [98] M (fun v M' => ∃ x : Int, v = some (.inl x) ∧ ((-2147483648) ≤ x ∧ x ≤ 2147483647) ∧ (M' 98 6 = M 98 6)) := by
  have hz : zP 190 = (zk_X11_meeting, 6, (0, 0)) := rfl
  have hd0 : 0 < d := by omega
  have hW : qFm [98] M M := qFm.rfl
  have r1 := hC.cnt6
  have r2 := hC.cnt3
  have r3 := hC.cnt2
  show zG n (0, 0) d 190 (0, [.inr (.inr (some 97)), .inl a1, .inl a2, .inl a3, .inl a4, zN], []) M _
  refine zG_blk (c' := (3, [.inr (.inr (some 97)), .inl a1, .inl a2, .inl a3, .inl a4, zN], [.inl a1, .inl 2, .inr (.inr (some 97))])) 3 hd0 hz (by rfl) ?_
  refine zG_call hd0 hz (rfl : zP 182 = (zk_X11_is, 3, (0, 0))) rfl rfl (Nat.le_of_ble_eq_true rfl) ⟨Nat.le_refl _, Nat.le_refl _⟩ (qx_is (by omega) hC   2 (by omega) a1 (by omega) ) (fun vr M4 hr => ?_)
  obtain ⟨hq, x5, rfl, hx5⟩ := hr
  replace hq := hq.symm; subst hq
  show zG n (0, 0) d 190 (6, [.inr (.inr (some 97)), .inl a1, .inl a2, .inl a3, .inl a4, zN], [.inl x5]) M _
  have j39 : zG n (0, 0) d 190 (39, [.inr (.inr (some 97)), .inl a1, .inl a2, .inl a3, .inl a4, zN], []) M (fun v M' => (qMI M' ∧ qFm [98] M M') ∧ ∃ x : Int, v = some (.inl x) ∧ ((-2147483648) ≤ x ∧ x ≤ 2147483647) ∧ (M' 98 6 = M 98 6)) := by
    refine zG_blk (c' := (41, [.inr (.inr (some 97)), .inl a1, .inl a2, .inl a3, .inl a4, zN], [.inl (-2)])) 1 hd0 hz (by rfl) ?_
    exact zG_ret hd0 hz rfl rfl ⟨⟨hC, hW⟩, _, rfl, by omega, by omega⟩
  refine zG_if_eq hd0 hz rfl (fun hb6 => ?_) (fun hb6 => ?_)
  · exact j39
  · refine zG_blk (c' := (10, [.inr (.inr (some 97)), .inl a1, .inl a2, .inl a3, .inl a4, zN], [.inl a2])) 1 hd0 hz (by rfl) ?_
    refine zG_call hd0 hz (rfl : zP 184 = (zk_X11_isDay, 1, (0, 0))) rfl rfl (Nat.le_of_ble_eq_true rfl) ⟨Nat.le_refl _, Nat.le_refl _⟩ (qm_184 (by omega) hC   a2 (by omega) ) (fun vr M7 hr => ?_)
    obtain ⟨hq, x8, rfl, hx8, hpx8_0⟩ := hr
    replace hq := hq.symm; subst hq
    show zG n (0, 0) d 190 (13, [.inr (.inr (some 97)), .inl a1, .inl a2, .inl a3, .inl a4, zN], [.inl x8]) M _
    refine zG_if_eq hd0 hz rfl (fun hb9 => ?_) (fun hb9 => ?_)
    · exact j39
    · refine zG_blk (c' := (21, [.inr (.inr (some 97)), .inl a1, .inl a2, .inl a3, .inl a4, zN], [.inl 1023, .inl 0, .inl a3])) 3 hd0 hz (by rfl) ?_
      refine zG_call hd0 hz (rfl : zP 180 = (zk_X11_in, 3, (0, 0))) rfl rfl (Nat.le_of_ble_eq_true rfl) ⟨Nat.le_refl _, Nat.le_refl _⟩ (qx_in (by omega) hC   a3 (by omega) 0 (by omega) 1023 (by omega) ) (fun vr M10 hr => ?_)
      obtain ⟨hq, x11, rfl, hx11⟩ := hr
      replace hq := hq.symm; subst hq
      show zG n (0, 0) d 190 (24, [.inr (.inr (some 97)), .inl a1, .inl a2, .inl a3, .inl a4, zN], [.inl x11]) M _
      refine zG_if_eq hd0 hz rfl (fun hb12 => ?_) (fun hb12 => ?_)
      · exact j39
      · refine zG_blk (c' := (33, [.inr (.inr (some 97)), .inl a1, .inl a2, .inl a3, .inl a4, zN], [.inl 1023, .inl 0, .inl a4])) 3 hd0 hz (by rfl) ?_
        refine zG_call hd0 hz (rfl : zP 180 = (zk_X11_in, 3, (0, 0))) rfl rfl (Nat.le_of_ble_eq_true rfl) ⟨Nat.le_refl _, Nat.le_refl _⟩ (qx_in (by omega) hC   a4 (by omega) 0 (by omega) 1023 (by omega) ) (fun vr M13 hr => ?_)
        obtain ⟨hq, x14, rfl, hx14⟩ := hr
        replace hq := hq.symm; subst hq
        show zG n (0, 0) d 190 (36, [.inr (.inr (some 97)), .inl a1, .inl a2, .inl a3, .inl a4, zN], [.inl x14]) M _
        refine zG_if_ne hd0 hz rfl (fun hb15 => ?_) (fun hb15 => ?_)
        · refine zG_blk (c' := (47, [.inr (.inr (some 97)), .inl a1, .inl a2, .inl a3, .inl a4, zN], [.inl 3, .inr (.inr (some 98))])) 3 hd0 hz (by rfl) ?_
          refine zG_iald hd0 hz rfl rfl (.inl rfl) (by omega) ?_
          show zG n (0, 0) d 190 (48, [.inr (.inr (some 97)), .inl a1, .inl a2, .inl a3, .inl a4, zN], [.inl (M 98 3)]) M _
          refine zG_blk (c' := (50, [.inr (.inr (some 97)), .inl a1, .inl a2, .inl a3, .inl a4, zN], [.inl 40, .inl (M 98 3)])) 1 hd0 hz (by rfl) ?_
          refine zG_icmp_ne hd0 hz rfl (fun hb16 => ?_) (fun hb16 => ?_)
          · refine zG_blk (c' := (65, [.inr (.inr (some 97)), .inl a1, .inl a2, .inl a3, .inl a4, zN], [.inl 3, .inr (.inr (some 98)), .inl 5, .inl 150])) 5 hd0 hz (by rfl) ?_
            refine zG_iald hd0 hz rfl rfl (.inl rfl) (by omega) ?_
            show zG n (0, 0) d 190 (66, [.inr (.inr (some 97)), .inl a1, .inl a2, .inl a3, .inl a4, zN], [.inl (M 98 3), .inl 5, .inl 150]) M _
            obtain ⟨x17, hx17⟩ : ∃ x : Int, x = w32 (5 * (M 98 3)) := ⟨_, rfl⟩
            have hx17e : x17 = 5 * (M 98 3) := by rw [hx17]; exact w32_id (by omega)
            obtain ⟨x18, hx18⟩ : ∃ x : Int, x = w32 (150 + x17) := ⟨_, rfl⟩
            have hx18e : x18 = 150 + x17 := by rw [hx18]; exact w32_id (by omega)
            refine zG_blk (c' := (77, [.inr (.inr (some 97)), .inl a1, .inl a2, .inl a3, .inl a4, .inl x18], [.inl a1, .inl x18, .inr (.inr (some 98))])) 7 hd0 hz (by subst hx18; subst hx17; rfl) ?_
            refine zG_iast hd0 hz rfl rfl (by omega) ?_
            obtain ⟨M19, hM19⟩ : ∃ X : zM, X = zput M 98 (x18 : Int).toNat a1 := ⟨_, rfl⟩
            rw [← hM19]
            have hCM19 : qMI M19 := by rw [hM19]; exact hC.put98' (by refine ⟨by omega, fun _ => by omega, fun _ => by omega, fun _ => by omega, fun _ => by omega, fun _ => by omega, fun _ => by omega, fun _ => by omega, fun c9 hc9 _ => by omega, fun u9 hu9 _ => by omega, fun m9 hm9 _ => by omega, fun a9 ha9 => ⟨fun _ => by omega, fun _ => by omega, fun _ => by omega, fun _ => by omega⟩, fun t9 ht9 _ => by omega, fun o9 ho9 _ => by omega⟩) (by omega) (by omega)
            have hWM19 : qFm [98] M M19 := by rw [hM19]; exact hW.pa (by decide) (by decide)
            have e20 : M19 98 6 = M 98 6 := by rw [hM19]; exact qput_nk (by omega)
            have e21 : M19 98 3 = M 98 3 := by rw [hM19]; exact qput_nk (by omega)
            have e22 : M19 98 2 = M 98 2 := by rw [hM19]; exact qput_nk (by omega)
            show zG n (0, 0) d 190 (78, [.inr (.inr (some 97)), .inl a1, .inl a2, .inl a3, .inl a4, .inl x18], []) M19 _
            obtain ⟨x23, hx23⟩ : ∃ x : Int, x = w32 (x18 + 1) := ⟨_, rfl⟩
            have hx23e : x23 = x18 + 1 := by rw [hx23]; exact w32_id (by omega)
            refine zG_blk (c' := (87, [.inr (.inr (some 97)), .inl a1, .inl a2, .inl a3, .inl a4, .inl x18], [.inl a2, .inl x23, .inr (.inr (some 98))])) 6 hd0 hz (by subst hx23; rfl) ?_
            refine zG_iast hd0 hz rfl rfl (by omega) ?_
            obtain ⟨M24, hM24⟩ : ∃ X : zM, X = zput M19 98 (x23 : Int).toNat a2 := ⟨_, rfl⟩
            rw [← hM24]
            have hCM24 : qMI M24 := by rw [hM24]; exact hCM19.put98' (by refine ⟨by omega, fun _ => by omega, fun _ => by omega, fun _ => by omega, fun _ => by omega, fun _ => by omega, fun _ => by omega, fun _ => by omega, fun c9 hc9 _ => by omega, fun u9 hu9 _ => by omega, fun m9 hm9 _ => by omega, fun a9 ha9 => ⟨fun _ => by omega, fun _ => by omega, fun _ => by omega, fun _ => by omega⟩, fun t9 ht9 _ => by omega, fun o9 ho9 _ => by omega⟩) (by omega) (by omega)
            have hWM24 : qFm [98] M M24 := by rw [hM24]; exact hWM19.pa (by decide) (by decide)
            have e25 : M24 98 6 = M19 98 6 := by rw [hM24]; exact qput_nk (by omega)
            have e26 : M24 98 3 = M19 98 3 := by rw [hM24]; exact qput_nk (by omega)
            have e27 : M24 98 2 = M19 98 2 := by rw [hM24]; exact qput_nk (by omega)
            show zG n (0, 0) d 190 (88, [.inr (.inr (some 97)), .inl a1, .inl a2, .inl a3, .inl a4, .inl x18], []) M24 _
            obtain ⟨x28, hx28⟩ : ∃ x : Int, x = w32 (x18 + 2) := ⟨_, rfl⟩
            have hx28e : x28 = x18 + 2 := by rw [hx28]; exact w32_id (by omega)
            refine zG_blk (c' := (97, [.inr (.inr (some 97)), .inl a1, .inl a2, .inl a3, .inl a4, .inl x18], [.inl a3, .inl x28, .inr (.inr (some 98))])) 6 hd0 hz (by subst hx28; rfl) ?_
            refine zG_iast hd0 hz rfl rfl (by omega) ?_
            obtain ⟨M29, hM29⟩ : ∃ X : zM, X = zput M24 98 (x28 : Int).toNat a3 := ⟨_, rfl⟩
            rw [← hM29]
            have hCM29 : qMI M29 := by rw [hM29]; exact hCM24.put98' (by refine ⟨by omega, fun _ => by omega, fun _ => by omega, fun _ => by omega, fun _ => by omega, fun _ => by omega, fun _ => by omega, fun _ => by omega, fun c9 hc9 _ => by omega, fun u9 hu9 _ => by omega, fun m9 hm9 _ => by omega, fun a9 ha9 => ⟨fun _ => by omega, fun _ => by omega, fun _ => by omega, fun _ => by omega⟩, fun t9 ht9 _ => by omega, fun o9 ho9 _ => by omega⟩) (by omega) (by omega)
            have hWM29 : qFm [98] M M29 := by rw [hM29]; exact hWM24.pa (by decide) (by decide)
            have e30 : M29 98 6 = M24 98 6 := by rw [hM29]; exact qput_nk (by omega)
            have e31 : M29 98 3 = M24 98 3 := by rw [hM29]; exact qput_nk (by omega)
            have e32 : M29 98 2 = M24 98 2 := by rw [hM29]; exact qput_nk (by omega)
            show zG n (0, 0) d 190 (98, [.inr (.inr (some 97)), .inl a1, .inl a2, .inl a3, .inl a4, .inl x18], []) M29 _
            obtain ⟨x33, hx33⟩ : ∃ x : Int, x = w32 (x18 + 3) := ⟨_, rfl⟩
            have hx33e : x33 = x18 + 3 := by rw [hx33]; exact w32_id (by omega)
            refine zG_blk (c' := (108, [.inr (.inr (some 97)), .inl a1, .inl a2, .inl a3, .inl a4, .inl x18], [.inl a4, .inl x33, .inr (.inr (some 98))])) 6 hd0 hz (by subst hx33; rfl) ?_
            refine zG_iast hd0 hz rfl rfl (by omega) ?_
            obtain ⟨M34, hM34⟩ : ∃ X : zM, X = zput M29 98 (x33 : Int).toNat a4 := ⟨_, rfl⟩
            rw [← hM34]
            have hCM34 : qMI M34 := by rw [hM34]; exact hCM29.put98' (by refine ⟨by omega, fun _ => by omega, fun _ => by omega, fun _ => by omega, fun _ => by omega, fun _ => by omega, fun _ => by omega, fun _ => by omega, fun c9 hc9 _ => by omega, fun u9 hu9 _ => by omega, fun m9 hm9 _ => by omega, fun a9 ha9 => ⟨fun _ => by omega, fun _ => by omega, fun _ => by omega, fun _ => by omega⟩, fun t9 ht9 _ => by omega, fun o9 ho9 _ => by omega⟩) (by omega) (by omega)
            have hWM34 : qFm [98] M M34 := by rw [hM34]; exact hWM29.pa (by decide) (by decide)
            have e35 : M34 98 6 = M29 98 6 := by rw [hM34]; exact qput_nk (by omega)
            have e36 : M34 98 3 = M29 98 3 := by rw [hM34]; exact qput_nk (by omega)
            have e37 : M34 98 2 = M29 98 2 := by rw [hM34]; exact qput_nk (by omega)
            show zG n (0, 0) d 190 (109, [.inr (.inr (some 97)), .inl a1, .inl a2, .inl a3, .inl a4, .inl x18], []) M34 _
            obtain ⟨x38, hx38⟩ : ∃ x : Int, x = w32 (x18 + 4) := ⟨_, rfl⟩
            have hx38e : x38 = x18 + 4 := by rw [hx38]; exact w32_id (by omega)
            refine zG_blk (c' := (118, [.inr (.inr (some 97)), .inl a1, .inl a2, .inl a3, .inl a4, .inl x18], [.inl 0, .inl x38, .inr (.inr (some 98))])) 6 hd0 hz (by subst hx38; rfl) ?_
            refine zG_iast hd0 hz rfl rfl (by omega) ?_
            obtain ⟨M39, hM39⟩ : ∃ X : zM, X = zput M34 98 (x38 : Int).toNat 0 := ⟨_, rfl⟩
            rw [← hM39]
            have hCM39 : qMI M39 := by rw [hM39]; exact hCM34.put98' (by refine ⟨by omega, fun _ => by omega, fun _ => by omega, fun _ => by omega, fun _ => by omega, fun _ => by omega, fun _ => by omega, fun _ => by omega, fun c9 hc9 _ => by omega, fun u9 hu9 _ => by omega, fun m9 hm9 _ => by omega, fun a9 ha9 => ⟨fun _ => by omega, fun _ => by omega, fun _ => by omega, fun _ => by omega⟩, fun t9 ht9 _ => by omega, fun o9 ho9 _ => by omega⟩) (by omega) (by omega)
            have hWM39 : qFm [98] M M39 := by rw [hM39]; exact hWM34.pa (by decide) (by decide)
            have e40 : M39 98 6 = M34 98 6 := by rw [hM39]; exact qput_nk (by omega)
            have e41 : M39 98 3 = M34 98 3 := by rw [hM39]; exact qput_nk (by omega)
            have e42 : M39 98 2 = M34 98 2 := by rw [hM39]; exact qput_nk (by omega)
            show zG n (0, 0) d 190 (119, [.inr (.inr (some 97)), .inl a1, .inl a2, .inl a3, .inl a4, .inl x18], []) M39 _
            refine zG_blk (c' := (121, [.inr (.inr (some 97)), .inl a1, .inl a2, .inl a3, .inl a4, .inl x18], [.inl 3, .inr (.inr (some 97))])) 2 hd0 hz (by rfl) ?_
            refine zG_call hd0 hz (rfl : zP 183 = (zk_X11_one, 2, (0, 0))) rfl rfl (Nat.le_of_ble_eq_true rfl) ⟨Nat.le_refl _, Nat.le_refl _⟩ (qx_oneC (by omega) hCM39   3 (by decide) (by decide) (by refine ⟨by omega, fun _ => by omega, fun _ => by omega, fun _ => by omega, fun _ => by omega, fun _ => by omega, fun _ => by omega, fun _ => by omega, fun c9 hc9 _ => by omega, fun u9 hu9 _ => by omega, fun m9 hm9 _ => by omega, fun a9 ha9 => ⟨fun _ => by omega, fun _ => by omega, fun _ => by omega, fun _ => by omega⟩, fun t9 ht9 _ => by omega, fun o9 ho9 _ => by omega⟩) ) (fun vr M43 hr => ?_)
            obtain ⟨⟨hCM43, hFM43⟩, x44, rfl, hx44, hpx44_0, hpx44_1⟩ := hr
            have hWM43 : qFm [98] M M43 := hWM39.tr hFM43 (by decide)
            have e45 : M43 98 6 = M39 98 6 := hpx44_1 _ (by omega)
            have e47 : M43 98 2 = M39 98 2 := hpx44_1 _ (by omega)
            show zG n (0, 0) d 190 (124, [.inr (.inr (some 97)), .inl a1, .inl a2, .inl a3, .inl a4, .inl x18], [.inl x44]) M43 _
            exact zG_ret hd0 hz rfl rfl ⟨⟨hCM43, hWM43⟩, _, rfl, by omega, by omega⟩
          · refine zG_blk (c' := (55, [.inr (.inr (some 97)), .inl a1, .inl a2, .inl a3, .inl a4, zN], [.inl (-4)])) 1 hd0 hz (by rfl) ?_
            exact zG_ret hd0 hz rfl rfl ⟨⟨hC, hW⟩, _, rfl, by omega, by omega⟩
        · exact j39
theorem qm_191_97 {n d : Nat} {M : zM} (hd : 3 ≤ d) (hC : qMI M)  (a1 : Int) (ha1 : (-2147483648) ≤ a1 ∧ a1 ≤ 2147483647) (a2 : Int) (ha2 : 0 ≤ a2 ∧ a2 ≤ 1) : qOkN n d 191 [.inr (.inr (some 97)), .inl a1, .inl a2] 4 [98] M (fun v M' => ∃ x : Int, v = some (.inl x) ∧ ((-3) ≤ x ∧ x ≤ 1) ∧ (M' 98 6 = M 98 6)) := by
  have hz : zP 191 = (zk_X11_tear, 4, (0, 0)) := rfl
  have hd0 : 0 < d := by omega
  have hW : qFm [98] M M := qFm.rfl
  have r1 := hC.cnt6
  have r2 := hC.cnt3
  show zG n (0, 0) d 191 (0, [.inr (.inr (some 97)), .inl a1, .inl a2, zN], []) M _
  refine zG_blk (c' := (3, [.inr (.inr (some 97)), .inl a1, .inl a2, zN], [.inl a1, .inl 3, .inr (.inr (some 97))])) 3 hd0 hz (by rfl) ?_
  refine zG_call hd0 hz (rfl : zP 182 = (zk_X11_is, 3, (0, 0))) rfl rfl (Nat.le_of_ble_eq_true rfl) ⟨Nat.le_refl _, Nat.le_refl _⟩ (qx_is (by omega) hC   3 (by omega) a1 (by omega) ) (fun vr M3 hr => ?_)
  obtain ⟨hq, x4, rfl, hx4⟩ := hr
  replace hq := hq.symm; subst hq
  show zG n (0, 0) d 191 (6, [.inr (.inr (some 97)), .inl a1, .inl a2, zN], [.inl x4]) M _
  refine zG_if_ne hd0 hz rfl (fun hb5 => ?_) (fun hb5 => ?_)
  · obtain ⟨x6, hx6⟩ : ∃ x : Int, x = w32 (5 * a1) := ⟨_, rfl⟩
    have hx6e : x6 = 5 * a1 := by rw [hx6]; exact w32_id (by omega)
    obtain ⟨x7, hx7⟩ : ∃ x : Int, x = w32 (150 + x6) := ⟨_, rfl⟩
    have hx7e : x7 = 150 + x6 := by rw [hx7]; exact w32_id (by omega)
    obtain ⟨x8, hx8⟩ : ∃ x : Int, x = w32 (x7 + 4) := ⟨_, rfl⟩
    have hx8e : x8 = x7 + 4 := by rw [hx8]; exact w32_id (by omega)
    refine zG_blk (c' := (27, [.inr (.inr (some 97)), .inl a1, .inl a2, .inl x8], [.inl x8, .inr (.inr (some 98))])) 11 hd0 hz (by subst hx8; subst hx7; subst hx6; rfl) ?_
    refine zG_iald hd0 hz rfl rfl (.inl rfl) (by omega) ?_
    obtain ⟨x9, hx9⟩ : ∃ x : Int, x = M 98 (x8 : Int).toNat := ⟨_, rfl⟩
    rw [← hx9]
    have hx9r : qin x9 := by rw [hx9]; exact hC.sin _
    show zG n (0, 0) d 191 (28, [.inr (.inr (some 97)), .inl a1, .inl a2, .inl x8], [.inl x9]) M _
    refine zG_blk (c' := (29, [.inr (.inr (some 97)), .inl a1, .inl a2, .inl x8], [.inl 1, .inl x9])) 1 hd0 hz (by rfl) ?_
    have j37 : ∀ (v10 : Int) , 0 ≤ v10 ∧ v10 ≤ 1 → zG n (0, 0) d 191 (37, [.inr (.inr (some 97)), .inl a1, .inl a2, .inl x8], [.inl v10]) M (fun v M' => (qMI M' ∧ qFm [98] M M') ∧ ∃ x : Int, v = some (.inl x) ∧ ((-3) ≤ x ∧ x ≤ 1) ∧ (M' 98 6 = M 98 6)) := by
      intro v10 hv10
      refine zG_blk (c' := (38, [.inr (.inr (some 97)), .inl a1, .inl a2, .inl x8], [.inl a2, .inl v10])) 1 hd0 hz (by rfl) ?_
      refine zG_icmp_ne hd0 hz rfl (fun hb11 => ?_) (fun hb11 => ?_)
      · refine zG_blk (c' := (50, [.inr (.inr (some 97)), .inl a1, .inl a2, .inl x8], [.inl a2, .inl x8, .inr (.inr (some 98))])) 4 hd0 hz (by rfl) ?_
        have j58 : ∀ (v12 : Int) , 0 ≤ v12 ∧ v12 ≤ 1 → zG n (0, 0) d 191 (58, [.inr (.inr (some 97)), .inl a1, .inl a2, .inl x8], [.inl v12, .inl x8, .inr (.inr (some 98))]) M (fun v M' => (qMI M' ∧ qFm [98] M M') ∧ ∃ x : Int, v = some (.inl x) ∧ ((-3) ≤ x ∧ x ≤ 1) ∧ (M' 98 6 = M 98 6)) := by
          intro v12 hv12
          refine zG_iast hd0 hz rfl rfl (by omega) ?_
          obtain ⟨M13, hM13⟩ : ∃ X : zM, X = zput M 98 (x8 : Int).toNat v12 := ⟨_, rfl⟩
          rw [← hM13]
          have hCM13 : qMI M13 := by rw [hM13]; exact hC.put98' (by refine ⟨by omega, fun _ => by omega, fun _ => by omega, fun _ => by omega, fun _ => by omega, fun _ => by omega, fun _ => by omega, fun _ => by omega, fun c9 hc9 _ => by omega, fun u9 hu9 _ => by omega, fun m9 hm9 _ => by omega, fun a9 ha9 => ⟨fun _ => by omega, fun _ => by omega, fun _ => by omega, fun _ => by omega⟩, fun t9 ht9 _ => by omega, fun o9 ho9 _ => by omega⟩) (by omega) (by omega)
          have hWM13 : qFm [98] M M13 := by rw [hM13]; exact hW.pa (by decide) (by decide)
          have e14 : M13 98 6 = M 98 6 := by rw [hM13]; exact qput_nk (by omega)
          have e15 : M13 98 3 = M 98 3 := by rw [hM13]; exact qput_nk (by omega)
          show zG n (0, 0) d 191 (59, [.inr (.inr (some 97)), .inl a1, .inl a2, .inl x8], []) M13 _
          refine zG_blk (c' := (60, [.inr (.inr (some 97)), .inl a1, .inl a2, .inl x8], [.inl 1])) 1 hd0 hz (by rfl) ?_
          exact zG_ret hd0 hz rfl rfl ⟨⟨hCM13, hWM13⟩, _, rfl, by omega, by omega⟩
        refine zG_if_eq hd0 hz rfl (fun hb16 => ?_) (fun hb16 => ?_)
        · refine zG_blk (c' := (58, [.inr (.inr (some 97)), .inl a1, .inl a2, .inl x8], [.inl 0, .inl x8, .inr (.inr (some 98))])) 1 hd0 hz (by rfl) ?_
          exact j58 0 (by omega)
        · refine zG_blk (c' := (58, [.inr (.inr (some 97)), .inl a1, .inl a2, .inl x8], [.inl 1, .inl x8, .inr (.inr (some 98))])) 2 hd0 hz (by rfl) ?_
          exact j58 1 (by omega)
      · refine zG_blk (c' := (43, [.inr (.inr (some 97)), .inl a1, .inl a2, .inl x8], [.inl (-3)])) 1 hd0 hz (by rfl) ?_
        exact zG_ret hd0 hz rfl rfl ⟨⟨hC, hW⟩, _, rfl, by omega, by omega⟩
    refine zG_icmp_ne hd0 hz rfl (fun hb17 => ?_) (fun hb17 => ?_)
    · refine zG_blk (c' := (37, [.inr (.inr (some 97)), .inl a1, .inl a2, .inl x8], [.inl 0])) 1 hd0 hz (by rfl) ?_
      exact j37 0 (by omega)
    · refine zG_blk (c' := (37, [.inr (.inr (some 97)), .inl a1, .inl a2, .inl x8], [.inl 1])) 2 hd0 hz (by rfl) ?_
      exact j37 1 (by omega)
  · refine zG_blk (c' := (11, [.inr (.inr (some 97)), .inl a1, .inl a2, zN], [.inl (-2)])) 1 hd0 hz (by rfl) ?_
    exact zG_ret hd0 hz rfl rfl ⟨⟨hC, hW⟩, _, rfl, by omega, by omega⟩
