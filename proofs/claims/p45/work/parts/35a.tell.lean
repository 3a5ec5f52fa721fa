/-! THE MODEL'S METHODS, BY PROGRAM -/
theorem qm_187_97 {n d : Nat} {M : zM} (hd : 2 ≤ d) (hC : qMI M)  (a1 : Int) (ha1 : (-2147483648) ≤ a1 ∧ a1 ≤ 2147483647) (a2 : Int) (ha2 : (-2147483648) ≤ a2 ∧ a2 ≤ 2147483647) (a3 : Int) (ha3 : (-2147483648) ≤ a3 ∧ a3 ≤ 2147483647) (a4 : Int) (ha4 : (-2147483648) ≤ a4 ∧ a4 ≤ 2147483647) : qOkN n d 187 [.inr (.inr (some 97)), .inl a1, .inl a2, .inl a3, .inl a4] 6 [98, 1031] M (fun v M' => ∃ x : Int, v = some (.inl x) ∧ ((-2147483648) ≤ x ∧ x ≤ 2147483647) ∧ (M' 98 6 = M 98 6)) := by
  have hz := zp_187
  have hd0 : 0 < d := by omega
  have hW : qFm [98, 1031] M M := qFm.rfl
  have r1 := hC.cnt6
  have r2 := hC.cnt0
  show zG n (0, 0) d 187 (0, [.inr (.inr (some 97)), .inl a1, .inl a2, .inl a3, .inl a4, zN], []) M _
  refine zG_wp (pc := 7) (L := [.inr (.inr (some 97)), .inl a1, .inl a2, .inl a3, .inl a4, zN]) (st := []) 3 hd0 hz zp_180 (qx_in (by first | exact zdk hd rfl | omega) hC   a1 (by first | with_reducible exact ha1 | omega) 1 (by first | decide | omega) 60 (by first | decide | omega) ) (by rfl) (fun x4 hx4 => ?_)
  have j49 : zG n (0, 0) d 187 (49, [.inr (.inr (some 97)), .inl a1, .inl a2, .inl a3, .inl a4, zN], []) M (fun v M' => (qMI M' ∧ qFm [98, 1031] M M') ∧ ∃ x : Int, v = some (.inl x) ∧ ((-2147483648) ≤ x ∧ x ≤ 2147483647) ∧ (M' 98 6 = M 98 6)) := by
    exact zG_wr (r := some (.inl (-2))) 1 hd0 hz (by rfl) ⟨⟨hC, hW⟩, _, rfl, by omega, by omega⟩
  refine zG_wf_eq (pc := 7) (n' := 10) (t := 49) (L := [.inr (.inr (some 97)), .inl a1, .inl a2, .inl a3, .inl a4, zN]) (st := []) (x := x4) 0 hd0 hz (by rfl) (fun hb5 => ?_) (fun hb5 => ?_)
  · exact j49
  · have hcx4 := hx4.2.2.mp (by omega)
    clear hx4 hb5
    refine zG_w (c' := (18, [.inr (.inr (some 97)), .inl a1, .inl a2, .inl a3, .inl a4, zN], [.inl 0, .inr (.inr (some 98)), .inl 1, .inl 0, .inl a2])) 6 hd0 hz (by rfl) ?_
    refine zG_iald hd0 hz rfl rfl (.inl rfl) (by omega) ?_
    show zG n (0, 0) d 187 (19, [.inr (.inr (some 97)), .inl a1, .inl a2, .inl a3, .inl a4, zN], [.inl (M 98 0), .inl 1, .inl 0, .inl a2]) M _
    obtain ⟨x6, hx6⟩ : ∃ x : Int, x = zbshl 1 (M 98 0) := ⟨_, rfl⟩
    have hx6r := qshl1_in (M 98 0) 16384 14 (by decide) (by decide) (by omega); rw [← hx6] at hx6r
    obtain ⟨x7, hx7⟩ : ∃ x : Int, x = w32 (x6 - 1) := ⟨_, rfl⟩
    have hx7e : x7 = x6 - 1 := by rw [hx7]; exact w32_id (by omega)
    refine zG_wp (pc := 25) (L := [.inr (.inr (some 97)), .inl a1, .inl a2, .inl a3, .inl a4, zN]) (st := []) 3 hd0 hz zp_180 (qx_in (by first | exact zdk hd rfl | omega) hC   a2 (by first | with_reducible exact ha2 | omega) 0 (by first | decide | omega) x7 (by omega) ) (by subst hx7; subst hx6; rfl) (fun x9 hx9 => ?_)
    refine zG_wf_eq (pc := 25) (n' := 28) (t := 49) (L := [.inr (.inr (some 97)), .inl a1, .inl a2, .inl a3, .inl a4, zN]) (st := []) (x := x9) 0 hd0 hz (by rfl) (fun hb10 => ?_) (fun hb10 => ?_)
    · exact j49
    · have hcx9 := hx9.2.2.mp (by omega)
      clear hx9 hb10
      refine zG_wp (pc := 35) (L := [.inr (.inr (some 97)), .inl a1, .inl a2, .inl a3, .inl a4, zN]) (st := []) 3 hd0 hz zp_180 (qx_in (by first | exact zdk hd rfl | omega) hC   a3 (by first | with_reducible exact ha3 | omega) 1 (by first | decide | omega) 7 (by first | decide | omega) ) (by rfl) (fun x12 hx12 => ?_)
      refine zG_wf_eq (pc := 35) (n' := 38) (t := 49) (L := [.inr (.inr (some 97)), .inl a1, .inl a2, .inl a3, .inl a4, zN]) (st := []) (x := x12) 0 hd0 hz (by rfl) (fun hb13 => ?_) (fun hb13 => ?_)
      · exact j49
      · have hcx12 := hx12.2.2.mp (by omega)
        clear hx12 hb13
        refine zG_wp (pc := 46) (L := [.inr (.inr (some 97)), .inl a1, .inl a2, .inl a3, .inl a4, zN]) (st := []) 3 hd0 hz zp_180 (qx_in (by first | exact zdk hd rfl | omega) hC   a4 (by first | with_reducible exact ha4 | omega) 0 (by first | decide | omega) 100 (by first | decide | omega) ) (by rfl) (fun x15 hx15 => ?_)
        refine zG_wf_ne (pc := 46) (n' := 49) (t := 52) (L := [.inr (.inr (some 97)), .inl a1, .inl a2, .inl a3, .inl a4, zN]) (st := []) (x := x15) 0 hd0 hz (by rfl) (fun hb16 => ?_) (fun hb16 => ?_)
        · have hcx15 := hx15.2.2.mp (by omega)
          clear hx15 hb16
          refine zG_w (c' := (57, [.inr (.inr (some 97)), .inl a1, .inl a2, .inl a3, .inl a4, zN], [.inl 0, .inr (.inr (some 98))])) 3 hd0 hz (by rfl) ?_
          refine zG_iald hd0 hz rfl rfl (.inl rfl) (by omega) ?_
          show zG n (0, 0) d 187 (58, [.inr (.inr (some 97)), .inl a1, .inl a2, .inl a3, .inl a4, zN], [.inl (M 98 0)]) M _
          refine zG_wi_ne (pc := 60) (n' := 63) (t := 66) (L := [.inr (.inr (some 97)), .inl a1, .inl a2, .inl a3, .inl a4, zN]) (st := []) (x := (M 98 0)) (y := 14) 1 hd0 hz (by rfl) (fun hb17 => ?_) (fun hb17 => ?_)
          · refine zG_w (c' := (74, [.inr (.inr (some 97)), .inl a1, .inl a2, .inl a3, .inl a4, zN], [.inl 0, .inr (.inr (some 98)), .inl 4, .inl 20])) 5 hd0 hz (by rfl) ?_
            refine zG_iald hd0 hz rfl rfl (.inl rfl) (by omega) ?_
            show zG n (0, 0) d 187 (75, [.inr (.inr (some 97)), .inl a1, .inl a2, .inl a3, .inl a4, zN], [.inl (M 98 0), .inl 4, .inl 20]) M _
            obtain ⟨x18, hx18⟩ : ∃ x : Int, x = w32 (4 * (M 98 0)) := ⟨_, rfl⟩
            have hx18e : x18 = 4 * (M 98 0) := by rw [hx18]; exact w32_id (by omega)
            obtain ⟨x19, hx19⟩ : ∃ x : Int, x = w32 (20 + x18) := ⟨_, rfl⟩
            have hx19e : x19 = 20 + x18 := by rw [hx19]; exact w32_id (by omega)
            refine zG_w (c' := (86, [.inr (.inr (some 97)), .inl a1, .inl a2, .inl a3, .inl a4, .inl x19], [.inl a1, .inl x19, .inr (.inr (some 98))])) 7 hd0 hz (by subst hx19; subst hx18; rfl) ?_
            refine zG_iast hd0 hz rfl rfl (by omega) ?_
            obtain ⟨M20, hM20⟩ : ∃ X : zM, X = zput M 98 (x19 : Int).toNat a1 := ⟨_, rfl⟩
            rw [← hM20]
            have hCM20 : qMI M20 := by rw [hM20]; exact hC.put98' (qOS_cs (by omega) (by omega) (fun _ _ _ => by omega)) (by omega) (by omega)
            have hWM20 : qFm [98, 1031] M M20 := by rw [hM20]; exact hW.pa (by decide) (by decide)
            have e21 : M20 98 6 = M 98 6 := by rw [hM20]; exact qput_nk (by omega)
            have e22 : M20 98 0 = M 98 0 := by rw [hM20]; exact qput_nk (by omega)
            show zG n (0, 0) d 187 (87, [.inr (.inr (some 97)), .inl a1, .inl a2, .inl a3, .inl a4, .inl x19], []) M20 _
            obtain ⟨x23, hx23⟩ : ∃ x : Int, x = w32 (x19 + 1) := ⟨_, rfl⟩
            have hx23e : x23 = x19 + 1 := by rw [hx23]; exact w32_id (by omega)
            refine zG_w (c' := (96, [.inr (.inr (some 97)), .inl a1, .inl a2, .inl a3, .inl a4, .inl x19], [.inl a2, .inl x23, .inr (.inr (some 98))])) 6 hd0 hz (by subst hx23; rfl) ?_
            refine zG_iast hd0 hz rfl rfl (by omega) ?_
            obtain ⟨M24, hM24⟩ : ∃ X : zM, X = zput M20 98 (x23 : Int).toNat a2 := ⟨_, rfl⟩
            rw [← hM24]
            have hCM24 : qMI M24 := by rw [hM24]; exact hCM20.put98' (qOS_cs (by omega) (by omega) (fun _ _ _ => by omega)) (by omega) (by omega)
            have hWM24 : qFm [98, 1031] M M24 := by rw [hM24]; exact hWM20.pa (by decide) (by decide)
            have e25 : M24 98 6 = M20 98 6 := by rw [hM24]; exact qput_nk (by omega)
            have e26 : M24 98 0 = M20 98 0 := by rw [hM24]; exact qput_nk (by omega)
            show zG n (0, 0) d 187 (97, [.inr (.inr (some 97)), .inl a1, .inl a2, .inl a3, .inl a4, .inl x19], []) M24 _
            obtain ⟨x27, hx27⟩ : ∃ x : Int, x = w32 (x19 + 2) := ⟨_, rfl⟩
            have hx27e : x27 = x19 + 2 := by rw [hx27]; exact w32_id (by omega)
            refine zG_w (c' := (106, [.inr (.inr (some 97)), .inl a1, .inl a2, .inl a3, .inl a4, .inl x19], [.inl a3, .inl x27, .inr (.inr (some 98))])) 6 hd0 hz (by subst hx27; rfl) ?_
            refine zG_iast hd0 hz rfl rfl (by omega) ?_
            obtain ⟨M28, hM28⟩ : ∃ X : zM, X = zput M24 98 (x27 : Int).toNat a3 := ⟨_, rfl⟩
            rw [← hM28]
            have hCM28 : qMI M28 := by rw [hM28]; exact hCM24.put98' (qOS_cs (by omega) (by omega) (fun _ _ _ => by omega)) (by omega) (by omega)
            have hWM28 : qFm [98, 1031] M M28 := by rw [hM28]; exact hWM24.pa (by decide) (by decide)
            have e29 : M28 98 6 = M24 98 6 := by rw [hM28]; exact qput_nk (by omega)
            have e30 : M28 98 0 = M24 98 0 := by rw [hM28]; exact qput_nk (by omega)
            show zG n (0, 0) d 187 (107, [.inr (.inr (some 97)), .inl a1, .inl a2, .inl a3, .inl a4, .inl x19], []) M28 _
            obtain ⟨x31, hx31⟩ : ∃ x : Int, x = w32 (x19 + 3) := ⟨_, rfl⟩
            have hx31e : x31 = x19 + 3 := by rw [hx31]; exact w32_id (by omega)
            refine zG_w (c' := (117, [.inr (.inr (some 97)), .inl a1, .inl a2, .inl a3, .inl a4, .inl x19], [.inl a4, .inl x31, .inr (.inr (some 98))])) 6 hd0 hz (by subst hx31; rfl) ?_
            refine zG_iast hd0 hz rfl rfl (by omega) ?_
            obtain ⟨M32, hM32⟩ : ∃ X : zM, X = zput M28 98 (x31 : Int).toNat a4 := ⟨_, rfl⟩
            rw [← hM32]
            have hCM32 : qMI M32 := by rw [hM32]; exact hCM28.put98' (qOS_cs (by omega) (by omega) (fun _ _ _ => by omega)) (by omega) (by omega)
            have hWM32 : qFm [98, 1031] M M32 := by rw [hM32]; exact hWM28.pa (by decide) (by decide)
            have e33 : M32 98 6 = M28 98 6 := by rw [hM32]; exact qput_nk (by omega)
            have e34 : M32 98 0 = M28 98 0 := by rw [hM32]; exact qput_nk (by omega)
            show zG n (0, 0) d 187 (118, [.inr (.inr (some 97)), .inl a1, .inl a2, .inl a3, .inl a4, .inl x19], []) M32 _
            refine zG_w (c' := (120, [.inr (.inr (some 97)), .inl a1, .inl a2, .inl a3, .inl a4, .inl x19], [.inl (-1), .inr (.inr (some 97))])) 2 hd0 hz (by rfl) ?_
            refine zG_putf (.inl rfl) hd0 hz rfl (by decide) rfl rfl ?_
            obtain ⟨M35, hM35⟩ : ∃ X : zM, X = zput M32 97 31 (-1) := ⟨_, rfl⟩
            rw [← hM35]
            have hCM35 : qMI M35 := by rw [hM35]; exact hCM32.put (by decide) (by decide) (by first | exact qMC_97 (by decide) (fun _ => by omega) | (refine ⟨fun _ => ?_, fun _ => ?_, fun h => ⟨fun _ => ?_, fun _ => ?_, fun _ => ?_, fun _ => ?_, fun _ => ?_⟩, fun h => ?_, fun h => ?_⟩ <;> first | omega | exact absurd rfl (by assumption) | (rename_i h9; exact absurd h9 (by decide))))
            have hWM35 : qFm [98, 1031] M M35 := by rw [hM35]; exact hWM32.put (by decide)
            have e36 : M35 98 6 = M32 98 6 := by rw [hM35]; exact qput_ne (by decide)
            have e37 : M35 98 0 = M32 98 0 := by rw [hM35]; exact qput_ne (by decide)
            have e38 : M35 97 31 = (-1) := by rw [hM35]; exact qput_eq
            show zG n (0, 0) d 187 (123, [.inr (.inr (some 97)), .inl a1, .inl a2, .inl a3, .inl a4, .inl x19], []) M35 _
            refine zG_wc (c1 := (128, [.inr (.inr (some 97)), .inl a1, .inl a2, .inl a3, .inl a4, .inl x19], [])) 2 hd0 hz zp_183 (qx_oneC (by first | exact zdk hd rfl | omega) hCM35   0 (by decide) (by decide) (by refine ⟨by omega, fun _ => by omega, fun _ => by omega, fun _ => by omega, fun _ => by omega, fun _ => by omega, fun _ => by omega, fun _ => by omega, fun c9 hc9 _ => by omega, fun u9 hu9 _ => by omega, fun m9 hm9 _ => by omega, fun a9 ha9 => ⟨fun _ => by omega, fun _ => by omega, fun _ => by omega, fun _ => by omega⟩, fun t9 ht9 _ => by omega, fun o9 ho9 _ => by omega⟩) ) (by rfl) (fun vr M39 hr => ?_)
            obtain ⟨⟨hCM39, hFM39⟩, x40, rfl, hx40, hpx40_0, hpx40_1⟩ := hr
            have hWM39 : qFm [98, 1031] M M39 := hWM35.tr hFM39 (by decide)
            have e41 : M39 98 6 = M35 98 6 := hpx40_1 _ (by omega)
            have e43 : M39 97 31 = M35 97 31 := hFM39 97 31 (by decide)
            show zG n (0, 0) d 187 (128, [.inr (.inr (some 97)), .inl a1, .inl a2, .inl a3, .inl a4, .inl x19], [.inl x40]) M39 _
            exact zG_wr (r := some (.inl x40)) 0 hd0 hz (by rfl) ⟨⟨hCM39, hWM39⟩, _, rfl, by omega, by omega⟩
          · exact zG_wr (r := some (.inl (-4))) 1 hd0 hz (by rfl) ⟨⟨hC, hW⟩, _, rfl, by omega, by omega⟩
        · exact j49
theorem qm_188_97 {n d : Nat} {M : zM} (hd : 3 ≤ d) (hC : qMI M)  (a1 : Int) (ha1 : (-2147483648) ≤ a1 ∧ a1 ≤ 2147483647) : qOkN n d 188 [.inr (.inr (some 97)), .inl a1] 3 [98] M (fun v M' => ∃ x : Int, v = some (.inl x) ∧ ((-2147483648) ≤ x ∧ x ≤ 2147483647) ∧ (M' 98 6 = M 98 6)) := by
  have hz := zp_188
  have hd0 : 0 < d := by omega
  have hW : qFm [98] M M := qFm.rfl
  have r1 := hC.cnt6
  have r2 := hC.cnt1
  show zG n (0, 0) d 188 (0, [.inr (.inr (some 97)), .inl a1, zN], []) M _
  refine zG_wp (pc := 4) (L := [.inr (.inr (some 97)), .inl a1, zN]) (st := []) 1 hd0 hz zp_184 (qm_184 (by first | exact zdk hd rfl | omega) hC   a1 (by first | with_reducible exact ha1 | omega) ) (by rfl) (fun x4 hr => ?_)
  obtain ⟨hx4, hpx4_0⟩ := hr
  refine zG_wf_ne (pc := 4) (n' := 7) (t := 10) (L := [.inr (.inr (some 97)), .inl a1, zN]) (st := []) (x := x4) 0 hd0 hz (by rfl) (fun hb5 => ?_) (fun hb5 => ?_)
  · have hcx4 := hpx4_0.mp (by omega)
    clear hx4 hpx4_0 hb5
    refine zG_w (c' := (15, [.inr (.inr (some 97)), .inl a1, zN], [.inl 1, .inr (.inr (some 98))])) 3 hd0 hz (by rfl) ?_
    refine zG_iald hd0 hz rfl rfl (.inl rfl) (by omega) ?_
    show zG n (0, 0) d 188 (16, [.inr (.inr (some 97)), .inl a1, zN], [.inl (M 98 1)]) M _
    refine zG_wi_ne (pc := 18) (n' := 21) (t := 24) (L := [.inr (.inr (some 97)), .inl a1, zN]) (st := []) (x := (M 98 1)) (y := 20) 1 hd0 hz (by rfl) (fun hb6 => ?_) (fun hb6 => ?_)
    · refine zG_w (c' := (32, [.inr (.inr (some 97)), .inl a1, zN], [.inl 1, .inr (.inr (some 98)), .inl 3, .inl 80])) 5 hd0 hz (by rfl) ?_
      refine zG_iald hd0 hz rfl rfl (.inl rfl) (by omega) ?_
      show zG n (0, 0) d 188 (33, [.inr (.inr (some 97)), .inl a1, zN], [.inl (M 98 1), .inl 3, .inl 80]) M _
      obtain ⟨x7, hx7⟩ : ∃ x : Int, x = w32 (3 * (M 98 1)) := ⟨_, rfl⟩
      have hx7e : x7 = 3 * (M 98 1) := by rw [hx7]; exact w32_id (by omega)
      obtain ⟨x8, hx8⟩ : ∃ x : Int, x = w32 (80 + x7) := ⟨_, rfl⟩
      have hx8e : x8 = 80 + x7 := by rw [hx8]; exact w32_id (by omega)
      refine zG_w (c' := (42, [.inr (.inr (some 97)), .inl a1, .inl x8], [.inl a1, .inl x8, .inr (.inr (some 98))])) 7 hd0 hz (by subst hx8; subst hx7; rfl) ?_
      refine zG_iast hd0 hz rfl rfl (by omega) ?_
      obtain ⟨M9, hM9⟩ : ∃ X : zM, X = zput M 98 (x8 : Int).toNat a1 := ⟨_, rfl⟩
      rw [← hM9]
      have hCM9 : qMI M9 := by rw [hM9]; exact hC.put98' (qOS_st (by omega) (by omega) (fun _ _ _ => by omega)) (by omega) (by omega)
      have hWM9 : qFm [98] M M9 := by rw [hM9]; exact hW.pa (by decide) (by decide)
      have e10 : M9 98 6 = M 98 6 := by rw [hM9]; exact qput_nk (by omega)
      have e11 : M9 98 1 = M 98 1 := by rw [hM9]; exact qput_nk (by omega)
      show zG n (0, 0) d 188 (43, [.inr (.inr (some 97)), .inl a1, .inl x8], []) M9 _
      obtain ⟨x12, hx12⟩ : ∃ x : Int, x = w32 (x8 + 1) := ⟨_, rfl⟩
      have hx12e : x12 = x8 + 1 := by rw [hx12]; exact w32_id (by omega)
      refine zG_w (c' := (51, [.inr (.inr (some 97)), .inl a1, .inl x8], [.inl (-1), .inl x12, .inr (.inr (some 98))])) 6 hd0 hz (by subst hx12; rfl) ?_
      refine zG_iast hd0 hz rfl rfl (by omega) ?_
      obtain ⟨M13, hM13⟩ : ∃ X : zM, X = zput M9 98 (x12 : Int).toNat (-1) := ⟨_, rfl⟩
      rw [← hM13]
      have hCM13 : qMI M13 := by rw [hM13]; exact hCM9.put98' (qOS_st (by omega) (by omega) (fun _ _ _ => by omega)) (by omega) (by omega)
      have hWM13 : qFm [98] M M13 := by rw [hM13]; exact hWM9.pa (by decide) (by decide)
      have e14 : M13 98 6 = M9 98 6 := by rw [hM13]; exact qput_nk (by omega)
      have e15 : M13 98 1 = M9 98 1 := by rw [hM13]; exact qput_nk (by omega)
      show zG n (0, 0) d 188 (52, [.inr (.inr (some 97)), .inl a1, .inl x8], []) M13 _
      obtain ⟨x16, hx16⟩ : ∃ x : Int, x = w32 (x8 + 2) := ⟨_, rfl⟩
      have hx16e : x16 = x8 + 2 := by rw [hx16]; exact w32_id (by omega)
      refine zG_w (c' := (60, [.inr (.inr (some 97)), .inl a1, .inl x8], [.inl 0, .inl x16, .inr (.inr (some 98))])) 6 hd0 hz (by subst hx16; rfl) ?_
      refine zG_iast hd0 hz rfl rfl (by omega) ?_
      obtain ⟨M17, hM17⟩ : ∃ X : zM, X = zput M13 98 (x16 : Int).toNat 0 := ⟨_, rfl⟩
      rw [← hM17]
      have hCM17 : qMI M17 := by rw [hM17]; exact hCM13.put98' (qOS_st (by omega) (by omega) (fun _ _ _ => by omega)) (by omega) (by omega)
      have hWM17 : qFm [98] M M17 := by rw [hM17]; exact hWM13.pa (by decide) (by decide)
      have e18 : M17 98 6 = M13 98 6 := by rw [hM17]; exact qput_nk (by omega)
      have e19 : M17 98 1 = M13 98 1 := by rw [hM17]; exact qput_nk (by omega)
      show zG n (0, 0) d 188 (61, [.inr (.inr (some 97)), .inl a1, .inl x8], []) M17 _
      refine zG_wc (c1 := (66, [.inr (.inr (some 97)), .inl a1, .inl x8], [])) 2 hd0 hz zp_183 (qx_oneC (by first | exact zdk hd rfl | omega) hCM17   1 (by decide) (by decide) (by refine ⟨by omega, fun _ => by omega, fun _ => by omega, fun _ => by omega, fun _ => by omega, fun _ => by omega, fun _ => by omega, fun _ => by omega, fun c9 hc9 _ => by omega, fun u9 hu9 _ => by omega, fun m9 hm9 _ => by omega, fun a9 ha9 => ⟨fun _ => by omega, fun _ => by omega, fun _ => by omega, fun _ => by omega⟩, fun t9 ht9 _ => by omega, fun o9 ho9 _ => by omega⟩) ) (by rfl) (fun vr M20 hr => ?_)
      obtain ⟨⟨hCM20, hFM20⟩, x21, rfl, hx21, hpx21_0, hpx21_1⟩ := hr
      have hWM20 : qFm [98] M M20 := hWM17.tr hFM20 (by decide)
      have e22 : M20 98 6 = M17 98 6 := hpx21_1 _ (by omega)
      show zG n (0, 0) d 188 (66, [.inr (.inr (some 97)), .inl a1, .inl x8], [.inl x21]) M20 _
      exact zG_wr (r := some (.inl x21)) 0 hd0 hz (by rfl) ⟨⟨hCM20, hWM20⟩, _, rfl, by omega, by omega⟩
    · exact zG_wr (r := some (.inl (-4))) 1 hd0 hz (by rfl) ⟨⟨hC, hW⟩, _, rfl, by omega, by omega⟩
  · exact zG_wr (r := some (.inl (-2))) 1 hd0 hz (by rfl) ⟨⟨hC, hW⟩, _, rfl, by omega, by omega⟩
theorem qm_189_97 {n d : Nat} {M : zM} (hd : 2 ≤ d) (hC : qMI M)  (a1 : Int) (ha1 : (-2147483648) ≤ a1 ∧ a1 ≤ 2147483647) (a2 : Int) (ha2 : (-2147483648) ≤ a2 ∧ a2 ≤ 2147483647) : qOkN n d 189 [.inr (.inr (some 97)), .inl a1, .inl a2] 3 [98] M (fun v M' => ∃ x : Int, v = some (.inl x) ∧ ((-2147483648) ≤ x ∧ x ≤ 2147483647) ∧ (M' 98 6 = M 98 6)) := by
  have hz := zp_189
  have hd0 : 0 < d := by omega
  have hW : qFm [98] M M := qFm.rfl
  have r1 := hC.cnt6
  have r2 := hC.cnt2
  show zG n (0, 0) d 189 (0, [.inr (.inr (some 97)), .inl a1, .inl a2], []) M _
  refine zG_wp (pc := 8) (L := [.inr (.inr (some 97)), .inl a1, .inl a2]) (st := []) 3 hd0 hz zp_180 (qx_in (by first | exact zdk hd rfl | omega) hC   a1 (by first | with_reducible exact ha1 | omega) 1 (by first | decide | omega) 1023 (by first | decide | omega) ) (by rfl) (fun x4 hx4 => ?_)
  have j21 : zG n (0, 0) d 189 (21, [.inr (.inr (some 97)), .inl a1, .inl a2], []) M (fun v M' => (qMI M' ∧ qFm [98] M M') ∧ ∃ x : Int, v = some (.inl x) ∧ ((-2147483648) ≤ x ∧ x ≤ 2147483647) ∧ (M' 98 6 = M 98 6)) := by
    exact zG_wr (r := some (.inl (-2))) 1 hd0 hz (by rfl) ⟨⟨hC, hW⟩, _, rfl, by omega, by omega⟩
  refine zG_wf_eq (pc := 8) (n' := 11) (t := 21) (L := [.inr (.inr (some 97)), .inl a1, .inl a2]) (st := []) (x := x4) 0 hd0 hz (by rfl) (fun hb5 => ?_) (fun hb5 => ?_)
  · exact j21
  · have hcx4 := hx4.2.2.mp (by omega)
    clear hx4 hb5
    refine zG_wp (pc := 18) (L := [.inr (.inr (some 97)), .inl a1, .inl a2]) (st := []) 3 hd0 hz zp_180 (qx_in (by first | exact zdk hd rfl | omega) hC   a2 (by first | with_reducible exact ha2 | omega) 1 (by first | decide | omega) 10 (by first | decide | omega) ) (by rfl) (fun x7 hx7 => ?_)
    refine zG_wf_ne (pc := 18) (n' := 21) (t := 24) (L := [.inr (.inr (some 97)), .inl a1, .inl a2]) (st := []) (x := x7) 0 hd0 hz (by rfl) (fun hb8 => ?_) (fun hb8 => ?_)
    · have hcx7 := hx7.2.2.mp (by omega)
      clear hx7 hb8
      refine zG_w (c' := (29, [.inr (.inr (some 97)), .inl a1, .inl a2], [.inl 2, .inr (.inr (some 98))])) 3 hd0 hz (by rfl) ?_
      refine zG_iald hd0 hz rfl rfl (.inl rfl) (by omega) ?_
      show zG n (0, 0) d 189 (30, [.inr (.inr (some 97)), .inl a1, .inl a2], [.inl (M 98 2)]) M _
      refine zG_wi_ne (pc := 31) (n' := 34) (t := 37) (L := [.inr (.inr (some 97)), .inl a1, .inl a2]) (st := []) (x := (M 98 2)) (y := 4) 1 hd0 hz (by rfl) (fun hb9 => ?_) (fun hb9 => ?_)
      · refine zG_w (c' := (50, [.inr (.inr (some 97)), .inl a1, .inl a2], [.inl 2, .inr (.inr (some 98)), .inl 2, .inl 140, .inr (.inr (some 98))])) 7 hd0 hz (by rfl) ?_
        refine zG_iald hd0 hz rfl rfl (.inl rfl) (by omega) ?_
        show zG n (0, 0) d 189 (51, [.inr (.inr (some 97)), .inl a1, .inl a2], [.inl (M 98 2), .inl 2, .inl 140, .inr (.inr (some 98))]) M _
        obtain ⟨x10, hx10⟩ : ∃ x : Int, x = w32 (2 * (M 98 2)) := ⟨_, rfl⟩
        have hx10e : x10 = 2 * (M 98 2) := by rw [hx10]; exact w32_id (by omega)
        obtain ⟨x11, hx11⟩ : ∃ x : Int, x = w32 (140 + x10) := ⟨_, rfl⟩
        have hx11e : x11 = 140 + x10 := by rw [hx11]; exact w32_id (by omega)
        refine zG_w (c' := (54, [.inr (.inr (some 97)), .inl a1, .inl a2], [.inl a1, .inl x11, .inr (.inr (some 98))])) 3 hd0 hz (by subst hx11; subst hx10; rfl) ?_
        refine zG_iast hd0 hz rfl rfl (by omega) ?_
        obtain ⟨M12, hM12⟩ : ∃ X : zM, X = zput M 98 (x11 : Int).toNat a1 := ⟨_, rfl⟩
        rw [← hM12]
        have hCM12 : qMI M12 := by rw [hM12]; exact hC.put98' (qOS_bd (by omega) (by omega)) (by omega) (by omega)
        have hWM12 : qFm [98] M M12 := by rw [hM12]; exact hW.pa (by decide) (by decide)
        have e13 : M12 98 6 = M 98 6 := by rw [hM12]; exact qput_nk (by omega)
        have e14 : M12 98 2 = M 98 2 := by rw [hM12]; exact qput_nk (by omega)
        show zG n (0, 0) d 189 (55, [.inr (.inr (some 97)), .inl a1, .inl a2], []) M12 _
        refine zG_w (c' := (68, [.inr (.inr (some 97)), .inl a1, .inl a2], [.inl 2, .inr (.inr (some 98)), .inl 2, .inl 140, .inr (.inr (some 98))])) 7 hd0 hz (by rfl) ?_
        refine zG_iald hd0 hz rfl rfl (.inl rfl) (by omega) ?_
        show zG n (0, 0) d 189 (69, [.inr (.inr (some 97)), .inl a1, .inl a2], [.inl (M12 98 2), .inl 2, .inl 140, .inr (.inr (some 98))]) M12 _
        obtain ⟨x15, hx15⟩ : ∃ x : Int, x = w32 (2 * (M12 98 2)) := ⟨_, rfl⟩
        have hx15e : x15 = 2 * (M12 98 2) := by rw [hx15]; exact w32_id (by omega)
        obtain ⟨x16, hx16⟩ : ∃ x : Int, x = w32 (140 + x15) := ⟨_, rfl⟩
        have hx16e : x16 = 140 + x15 := by rw [hx16]; exact w32_id (by omega)
        obtain ⟨x17, hx17⟩ : ∃ x : Int, x = w32 (x16 + 1) := ⟨_, rfl⟩
        have hx17e : x17 = x16 + 1 := by rw [hx17]; exact w32_id (by omega)
        refine zG_w (c' := (74, [.inr (.inr (some 97)), .inl a1, .inl a2], [.inl a2, .inl x17, .inr (.inr (some 98))])) 5 hd0 hz (by subst hx17; subst hx16; subst hx15; rfl) ?_
        refine zG_iast hd0 hz rfl rfl (by omega) ?_
        obtain ⟨M18, hM18⟩ : ∃ X : zM, X = zput M12 98 (x17 : Int).toNat a2 := ⟨_, rfl⟩
        rw [← hM18]
        have hCM18 : qMI M18 := by rw [hM18]; exact hCM12.put98' (qOS_bd (by omega) (by omega)) (by omega) (by omega)
        have hWM18 : qFm [98] M M18 := by rw [hM18]; exact hWM12.pa (by decide) (by decide)
        have e19 : M18 98 6 = M12 98 6 := by rw [hM18]; exact qput_nk (by omega)
        have e20 : M18 98 2 = M12 98 2 := by rw [hM18]; exact qput_nk (by omega)
        show zG n (0, 0) d 189 (75, [.inr (.inr (some 97)), .inl a1, .inl a2], []) M18 _
        refine zG_wc (c1 := (80, [.inr (.inr (some 97)), .inl a1, .inl a2], [])) 2 hd0 hz zp_183 (qx_oneC (by first | exact zdk hd rfl | omega) hCM18   2 (by decide) (by decide) (by refine ⟨by omega, fun _ => by omega, fun _ => by omega, fun _ => by omega, fun _ => by omega, fun _ => by omega, fun _ => by omega, fun _ => by omega, fun c9 hc9 _ => by omega, fun u9 hu9 _ => by omega, fun m9 hm9 _ => by omega, fun a9 ha9 => ⟨fun _ => by omega, fun _ => by omega, fun _ => by omega, fun _ => by omega⟩, fun t9 ht9 _ => by omega, fun o9 ho9 _ => by omega⟩) ) (by rfl) (fun vr M21 hr => ?_)
        obtain ⟨⟨hCM21, hFM21⟩, x22, rfl, hx22, hpx22_0, hpx22_1⟩ := hr
        have hWM21 : qFm [98] M M21 := hWM18.tr hFM21 (by decide)
        have e23 : M21 98 6 = M18 98 6 := hpx22_1 _ (by omega)
        show zG n (0, 0) d 189 (80, [.inr (.inr (some 97)), .inl a1, .inl a2], [.inl x22]) M21 _
        exact zG_wr (r := some (.inl x22)) 0 hd0 hz (by rfl) ⟨⟨hCM21, hWM21⟩, _, rfl, by omega, by omega⟩
      · exact zG_wr (r := some (.inl (-4))) 1 hd0 hz (by rfl) ⟨⟨hC, hW⟩, _, rfl, by omega, by omega⟩
    · exact j21
theorem qm_190_97 {n d : Nat} {M : zM} (hd : 3 ≤ d) (hC : qMI M)  (a1 : Int) (ha1 : (-2147483648) ≤ a1 ∧ a1 ≤ 2147483647) (a2 : Int) (ha2 : (-2147483648) ≤ a2 ∧ a2 ≤ 2147483647) (a3 : Int) (ha3 : (-2147483648) ≤ a3 ∧ a3 ≤ 2147483647) (a4 : Int) (ha4 : (-2147483648) ≤ a4 ∧ a4 ≤ 2147483647) : qOkN n d 190 [.inr (.inr (some 97)), .inl a1, .inl a2, .inl a3, .inl a4] 6 [98] M (fun v M' => ∃ x : Int, v = some (.inl x) ∧ ((-2147483648) ≤ x ∧ x ≤ 2147483647) ∧ (M' 98 6 = M 98 6)) := by
  have hz := zp_190
  have hd0 : 0 < d := by omega
  have hW : qFm [98] M M := qFm.rfl
  have r1 := hC.cnt6
  have r2 := hC.cnt3
  have r3 := hC.cnt2
  show zG n (0, 0) d 190 (0, [.inr (.inr (some 97)), .inl a1, .inl a2, .inl a3, .inl a4, zN], []) M _
  refine zG_wp (pc := 6) (L := [.inr (.inr (some 97)), .inl a1, .inl a2, .inl a3, .inl a4, zN]) (st := []) 3 hd0 hz zp_182 (qx_is (by first | exact zdk hd rfl | omega) hC   2 (by first | decide | omega) a1 (by first | with_reducible exact ha1 | omega) ) (by rfl) (fun x5 hx5 => ?_)
  have j39 : zG n (0, 0) d 190 (39, [.inr (.inr (some 97)), .inl a1, .inl a2, .inl a3, .inl a4, zN], []) M (fun v M' => (qMI M' ∧ qFm [98] M M') ∧ ∃ x : Int, v = some (.inl x) ∧ ((-2147483648) ≤ x ∧ x ≤ 2147483647) ∧ (M' 98 6 = M 98 6)) := by
    exact zG_wr (r := some (.inl (-2))) 1 hd0 hz (by rfl) ⟨⟨hC, hW⟩, _, rfl, by omega, by omega⟩
  refine zG_wf_eq (pc := 6) (n' := 9) (t := 39) (L := [.inr (.inr (some 97)), .inl a1, .inl a2, .inl a3, .inl a4, zN]) (st := []) (x := x5) 0 hd0 hz (by rfl) (fun hb6 => ?_) (fun hb6 => ?_)
  · exact j39
  · have hcx5 := hx5.2.2.mp (by omega)
    clear hx5 hb6
    refine zG_wp (pc := 13) (L := [.inr (.inr (some 97)), .inl a1, .inl a2, .inl a3, .inl a4, zN]) (st := []) 1 hd0 hz zp_184 (qm_184 (by first | exact zdk hd rfl | omega) hC   a2 (by first | with_reducible exact ha2 | omega) ) (by rfl) (fun x8 hr => ?_)
    obtain ⟨hx8, hpx8_0⟩ := hr
    refine zG_wf_eq (pc := 13) (n' := 16) (t := 39) (L := [.inr (.inr (some 97)), .inl a1, .inl a2, .inl a3, .inl a4, zN]) (st := []) (x := x8) 0 hd0 hz (by rfl) (fun hb9 => ?_) (fun hb9 => ?_)
    · exact j39
    · have hcx8 := hpx8_0.mp (by omega)
      clear hx8 hpx8_0 hb9
      refine zG_wp (pc := 24) (L := [.inr (.inr (some 97)), .inl a1, .inl a2, .inl a3, .inl a4, zN]) (st := []) 3 hd0 hz zp_180 (qx_in (by first | exact zdk hd rfl | omega) hC   a3 (by first | with_reducible exact ha3 | omega) 0 (by first | decide | omega) 1023 (by first | decide | omega) ) (by rfl) (fun x11 hx11 => ?_)
      refine zG_wf_eq (pc := 24) (n' := 27) (t := 39) (L := [.inr (.inr (some 97)), .inl a1, .inl a2, .inl a3, .inl a4, zN]) (st := []) (x := x11) 0 hd0 hz (by rfl) (fun hb12 => ?_) (fun hb12 => ?_)
      · exact j39
      · have hcx11 := hx11.2.2.mp (by omega)
        clear hx11 hb12
        refine zG_wp (pc := 36) (L := [.inr (.inr (some 97)), .inl a1, .inl a2, .inl a3, .inl a4, zN]) (st := []) 3 hd0 hz zp_180 (qx_in (by first | exact zdk hd rfl | omega) hC   a4 (by first | with_reducible exact ha4 | omega) 0 (by first | decide | omega) 1023 (by first | decide | omega) ) (by rfl) (fun x14 hx14 => ?_)
        refine zG_wf_ne (pc := 36) (n' := 39) (t := 42) (L := [.inr (.inr (some 97)), .inl a1, .inl a2, .inl a3, .inl a4, zN]) (st := []) (x := x14) 0 hd0 hz (by rfl) (fun hb15 => ?_) (fun hb15 => ?_)
        · have hcx14 := hx14.2.2.mp (by omega)
          clear hx14 hb15
          refine zG_w (c' := (47, [.inr (.inr (some 97)), .inl a1, .inl a2, .inl a3, .inl a4, zN], [.inl 3, .inr (.inr (some 98))])) 3 hd0 hz (by rfl) ?_
          refine zG_iald hd0 hz rfl rfl (.inl rfl) (by omega) ?_
          show zG n (0, 0) d 190 (48, [.inr (.inr (some 97)), .inl a1, .inl a2, .inl a3, .inl a4, zN], [.inl (M 98 3)]) M _
          refine zG_wi_ne (pc := 50) (n' := 53) (t := 56) (L := [.inr (.inr (some 97)), .inl a1, .inl a2, .inl a3, .inl a4, zN]) (st := []) (x := (M 98 3)) (y := 40) 1 hd0 hz (by rfl) (fun hb16 => ?_) (fun hb16 => ?_)
          · refine zG_w (c' := (65, [.inr (.inr (some 97)), .inl a1, .inl a2, .inl a3, .inl a4, zN], [.inl 3, .inr (.inr (some 98)), .inl 5, .inl 150])) 5 hd0 hz (by rfl) ?_
            refine zG_iald hd0 hz rfl rfl (.inl rfl) (by omega) ?_
            show zG n (0, 0) d 190 (66, [.inr (.inr (some 97)), .inl a1, .inl a2, .inl a3, .inl a4, zN], [.inl (M 98 3), .inl 5, .inl 150]) M _
            obtain ⟨x17, hx17⟩ : ∃ x : Int, x = w32 (5 * (M 98 3)) := ⟨_, rfl⟩
            have hx17e : x17 = 5 * (M 98 3) := by rw [hx17]; exact w32_id (by omega)
            obtain ⟨x18, hx18⟩ : ∃ x : Int, x = w32 (150 + x17) := ⟨_, rfl⟩
            have hx18e : x18 = 150 + x17 := by rw [hx18]; exact w32_id (by omega)
            refine zG_w (c' := (77, [.inr (.inr (some 97)), .inl a1, .inl a2, .inl a3, .inl a4, .inl x18], [.inl a1, .inl x18, .inr (.inr (some 98))])) 7 hd0 hz (by subst hx18; subst hx17; rfl) ?_
            refine zG_iast hd0 hz rfl rfl (by omega) ?_
            obtain ⟨M19, hM19⟩ : ∃ X : zM, X = zput M 98 (x18 : Int).toNat a1 := ⟨_, rfl⟩
            rw [← hM19]
            have hCM19 : qMI M19 := by rw [hM19]; exact hC.put98' (qOS_mt (by omega) (by omega) (fun _ _ _ => by omega)) (by omega) (by omega)
            have hWM19 : qFm [98] M M19 := by rw [hM19]; exact hW.pa (by decide) (by decide)
            have e20 : M19 98 6 = M 98 6 := by rw [hM19]; exact qput_nk (by omega)
            have e21 : M19 98 3 = M 98 3 := by rw [hM19]; exact qput_nk (by omega)
            have e22 : M19 98 2 = M 98 2 := by rw [hM19]; exact qput_nk (by omega)
            show zG n (0, 0) d 190 (78, [.inr (.inr (some 97)), .inl a1, .inl a2, .inl a3, .inl a4, .inl x18], []) M19 _
            obtain ⟨x23, hx23⟩ : ∃ x : Int, x = w32 (x18 + 1) := ⟨_, rfl⟩
            have hx23e : x23 = x18 + 1 := by rw [hx23]; exact w32_id (by omega)
            refine zG_w (c' := (87, [.inr (.inr (some 97)), .inl a1, .inl a2, .inl a3, .inl a4, .inl x18], [.inl a2, .inl x23, .inr (.inr (some 98))])) 6 hd0 hz (by subst hx23; rfl) ?_
            refine zG_iast hd0 hz rfl rfl (by omega) ?_
            obtain ⟨M24, hM24⟩ : ∃ X : zM, X = zput M19 98 (x23 : Int).toNat a2 := ⟨_, rfl⟩
            rw [← hM24]
            have hCM24 : qMI M24 := by rw [hM24]; exact hCM19.put98' (qOS_mt (by omega) (by omega) (fun _ _ _ => by omega)) (by omega) (by omega)
            have hWM24 : qFm [98] M M24 := by rw [hM24]; exact hWM19.pa (by decide) (by decide)
            have e25 : M24 98 6 = M19 98 6 := by rw [hM24]; exact qput_nk (by omega)
            have e26 : M24 98 3 = M19 98 3 := by rw [hM24]; exact qput_nk (by omega)
            have e27 : M24 98 2 = M19 98 2 := by rw [hM24]; exact qput_nk (by omega)
            show zG n (0, 0) d 190 (88, [.inr (.inr (some 97)), .inl a1, .inl a2, .inl a3, .inl a4, .inl x18], []) M24 _
            obtain ⟨x28, hx28⟩ : ∃ x : Int, x = w32 (x18 + 2) := ⟨_, rfl⟩
            have hx28e : x28 = x18 + 2 := by rw [hx28]; exact w32_id (by omega)
            refine zG_w (c' := (97, [.inr (.inr (some 97)), .inl a1, .inl a2, .inl a3, .inl a4, .inl x18], [.inl a3, .inl x28, .inr (.inr (some 98))])) 6 hd0 hz (by subst hx28; rfl) ?_
            refine zG_iast hd0 hz rfl rfl (by omega) ?_
            obtain ⟨M29, hM29⟩ : ∃ X : zM, X = zput M24 98 (x28 : Int).toNat a3 := ⟨_, rfl⟩
            rw [← hM29]
            have hCM29 : qMI M29 := by rw [hM29]; exact hCM24.put98' (qOS_mt (by omega) (by omega) (fun _ _ _ => by omega)) (by omega) (by omega)
            have hWM29 : qFm [98] M M29 := by rw [hM29]; exact hWM24.pa (by decide) (by decide)
            have e30 : M29 98 6 = M24 98 6 := by rw [hM29]; exact qput_nk (by omega)
            have e31 : M29 98 3 = M24 98 3 := by rw [hM29]; exact qput_nk (by omega)
            have e32 : M29 98 2 = M24 98 2 := by rw [hM29]; exact qput_nk (by omega)
            show zG n (0, 0) d 190 (98, [.inr (.inr (some 97)), .inl a1, .inl a2, .inl a3, .inl a4, .inl x18], []) M29 _
            obtain ⟨x33, hx33⟩ : ∃ x : Int, x = w32 (x18 + 3) := ⟨_, rfl⟩
            have hx33e : x33 = x18 + 3 := by rw [hx33]; exact w32_id (by omega)
            refine zG_w (c' := (108, [.inr (.inr (some 97)), .inl a1, .inl a2, .inl a3, .inl a4, .inl x18], [.inl a4, .inl x33, .inr (.inr (some 98))])) 6 hd0 hz (by subst hx33; rfl) ?_
            refine zG_iast hd0 hz rfl rfl (by omega) ?_
            obtain ⟨M34, hM34⟩ : ∃ X : zM, X = zput M29 98 (x33 : Int).toNat a4 := ⟨_, rfl⟩
            rw [← hM34]
            have hCM34 : qMI M34 := by rw [hM34]; exact hCM29.put98' (qOS_mt (by omega) (by omega) (fun _ _ _ => by omega)) (by omega) (by omega)
            have hWM34 : qFm [98] M M34 := by rw [hM34]; exact hWM29.pa (by decide) (by decide)
            have e35 : M34 98 6 = M29 98 6 := by rw [hM34]; exact qput_nk (by omega)
            have e36 : M34 98 3 = M29 98 3 := by rw [hM34]; exact qput_nk (by omega)
            have e37 : M34 98 2 = M29 98 2 := by rw [hM34]; exact qput_nk (by omega)
            show zG n (0, 0) d 190 (109, [.inr (.inr (some 97)), .inl a1, .inl a2, .inl a3, .inl a4, .inl x18], []) M34 _
            obtain ⟨x38, hx38⟩ : ∃ x : Int, x = w32 (x18 + 4) := ⟨_, rfl⟩
            have hx38e : x38 = x18 + 4 := by rw [hx38]; exact w32_id (by omega)
            refine zG_w (c' := (118, [.inr (.inr (some 97)), .inl a1, .inl a2, .inl a3, .inl a4, .inl x18], [.inl 0, .inl x38, .inr (.inr (some 98))])) 6 hd0 hz (by subst hx38; rfl) ?_
            refine zG_iast hd0 hz rfl rfl (by omega) ?_
            obtain ⟨M39, hM39⟩ : ∃ X : zM, X = zput M34 98 (x38 : Int).toNat 0 := ⟨_, rfl⟩
            rw [← hM39]
            have hCM39 : qMI M39 := by rw [hM39]; exact hCM34.put98' (qOS_mt (by omega) (by omega) (fun _ _ _ => by omega)) (by omega) (by omega)
            have hWM39 : qFm [98] M M39 := by rw [hM39]; exact hWM34.pa (by decide) (by decide)
            have e40 : M39 98 6 = M34 98 6 := by rw [hM39]; exact qput_nk (by omega)
            have e41 : M39 98 3 = M34 98 3 := by rw [hM39]; exact qput_nk (by omega)
            have e42 : M39 98 2 = M34 98 2 := by rw [hM39]; exact qput_nk (by omega)
            show zG n (0, 0) d 190 (119, [.inr (.inr (some 97)), .inl a1, .inl a2, .inl a3, .inl a4, .inl x18], []) M39 _
            refine zG_wc (c1 := (124, [.inr (.inr (some 97)), .inl a1, .inl a2, .inl a3, .inl a4, .inl x18], [])) 2 hd0 hz zp_183 (qx_oneC (by first | exact zdk hd rfl | omega) hCM39   3 (by decide) (by decide) (by refine ⟨by omega, fun _ => by omega, fun _ => by omega, fun _ => by omega, fun _ => by omega, fun _ => by omega, fun _ => by omega, fun _ => by omega, fun c9 hc9 _ => by omega, fun u9 hu9 _ => by omega, fun m9 hm9 _ => by omega, fun a9 ha9 => ⟨fun _ => by omega, fun _ => by omega, fun _ => by omega, fun _ => by omega⟩, fun t9 ht9 _ => by omega, fun o9 ho9 _ => by omega⟩) ) (by rfl) (fun vr M43 hr => ?_)
            obtain ⟨⟨hCM43, hFM43⟩, x44, rfl, hx44, hpx44_0, hpx44_1⟩ := hr
            have hWM43 : qFm [98] M M43 := hWM39.tr hFM43 (by decide)
            have e45 : M43 98 6 = M39 98 6 := hpx44_1 _ (by omega)
            have e47 : M43 98 2 = M39 98 2 := hpx44_1 _ (by omega)
            show zG n (0, 0) d 190 (124, [.inr (.inr (some 97)), .inl a1, .inl a2, .inl a3, .inl a4, .inl x18], [.inl x44]) M43 _
            exact zG_wr (r := some (.inl x44)) 0 hd0 hz (by rfl) ⟨⟨hCM43, hWM43⟩, _, rfl, by omega, by omega⟩
          · exact zG_wr (r := some (.inl (-4))) 1 hd0 hz (by rfl) ⟨⟨hC, hW⟩, _, rfl, by omega, by omega⟩
        · exact j39
theorem qm_191_97 {n d : Nat} {M : zM} (hd : 3 ≤ d) (hC : qMI M)  (a1 : Int) (ha1 : (-2147483648) ≤ a1 ∧ a1 ≤ 2147483647) (a2 : Int) (ha2 : 0 ≤ a2 ∧ a2 ≤ 1) : qOkN n d 191 [.inr (.inr (some 97)), .inl a1, .inl a2] 4 [98] M (fun v M' => ∃ x : Int, v = some (.inl x) ∧ ((-3) ≤ x ∧ x ≤ 1) ∧ (M' 98 6 = M 98 6)) := by
  have hz := zp_191
  have hd0 : 0 < d := by omega
  have hW : qFm [98] M M := qFm.rfl
  have r1 := hC.cnt6
  have r2 := hC.cnt3
  show zG n (0, 0) d 191 (0, [.inr (.inr (some 97)), .inl a1, .inl a2, zN], []) M _
  refine zG_wp (pc := 6) (L := [.inr (.inr (some 97)), .inl a1, .inl a2, zN]) (st := []) 3 hd0 hz zp_182 (qx_is (by first | exact zdk hd rfl | omega) hC   3 (by first | decide | omega) a1 (by first | with_reducible exact ha1 | omega) ) (by rfl) (fun x4 hx4 => ?_)
  refine zG_wf_ne (pc := 6) (n' := 9) (t := 12) (L := [.inr (.inr (some 97)), .inl a1, .inl a2, zN]) (st := []) (x := x4) 0 hd0 hz (by rfl) (fun hb5 => ?_) (fun hb5 => ?_)
  · have hcx4 := hx4.2.2.mp (by omega)
    clear hx4 hb5
    obtain ⟨x6, hx6⟩ : ∃ x : Int, x = w32 (5 * a1) := ⟨_, rfl⟩
    have hx6e : x6 = 5 * a1 := by rw [hx6]; exact w32_id (by omega)
    obtain ⟨x7, hx7⟩ : ∃ x : Int, x = w32 (150 + x6) := ⟨_, rfl⟩
    have hx7e : x7 = 150 + x6 := by rw [hx7]; exact w32_id (by omega)
    obtain ⟨x8, hx8⟩ : ∃ x : Int, x = w32 (x7 + 4) := ⟨_, rfl⟩
    have hx8e : x8 = x7 + 4 := by rw [hx8]; exact w32_id (by omega)
    refine zG_w (c' := (27, [.inr (.inr (some 97)), .inl a1, .inl a2, .inl x8], [.inl x8, .inr (.inr (some 98))])) 11 hd0 hz (by subst hx8; subst hx7; subst hx6; rfl) ?_
    refine zG_iald hd0 hz rfl rfl (.inl rfl) (by omega) ?_
    obtain ⟨x9, hx9⟩ : ∃ x : Int, x = M 98 (x8 : Int).toNat := ⟨_, rfl⟩
    rw [← hx9]
    have hx9r : qin x9 := by rw [hx9]; exact hC.sin _
    show zG n (0, 0) d 191 (28, [.inr (.inr (some 97)), .inl a1, .inl a2, .inl x8], [.inl x9]) M _
    refine zG_w (c' := (29, [.inr (.inr (some 97)), .inl a1, .inl a2, .inl x8], [.inl 1, .inl x9])) 1 hd0 hz (by rfl) ?_
    have j37 : ∀ (v10 : Int) , 0 ≤ v10 ∧ v10 ≤ 1 → zG n (0, 0) d 191 (37, [.inr (.inr (some 97)), .inl a1, .inl a2, .inl x8], [.inl v10]) M (fun v M' => (qMI M' ∧ qFm [98] M M') ∧ ∃ x : Int, v = some (.inl x) ∧ ((-3) ≤ x ∧ x ≤ 1) ∧ (M' 98 6 = M 98 6)) := by
      intro v10 hv10
      refine zG_wi_ne (pc := 38) (n' := 41) (t := 44) (L := [.inr (.inr (some 97)), .inl a1, .inl a2, .inl x8]) (st := []) (x := v10) (y := a2) 1 hd0 hz (by rfl) (fun hb11 => ?_) (fun hb11 => ?_)
      · refine zG_w (c' := (50, [.inr (.inr (some 97)), .inl a1, .inl a2, .inl x8], [.inl a2, .inl x8, .inr (.inr (some 98))])) 4 hd0 hz (by rfl) ?_
        have j58 : ∀ (v12 : Int) , 0 ≤ v12 ∧ v12 ≤ 1 → zG n (0, 0) d 191 (58, [.inr (.inr (some 97)), .inl a1, .inl a2, .inl x8], [.inl v12, .inl x8, .inr (.inr (some 98))]) M (fun v M' => (qMI M' ∧ qFm [98] M M') ∧ ∃ x : Int, v = some (.inl x) ∧ ((-3) ≤ x ∧ x ≤ 1) ∧ (M' 98 6 = M 98 6)) := by
          intro v12 hv12
          refine zG_iast hd0 hz rfl rfl (by omega) ?_
          obtain ⟨M13, hM13⟩ : ∃ X : zM, X = zput M 98 (x8 : Int).toNat v12 := ⟨_, rfl⟩
          rw [← hM13]
          have hCM13 : qMI M13 := by rw [hM13]; exact hC.put98' (qOS_mt (by omega) (by omega) (fun _ _ _ => by omega)) (by omega) (by omega)
          have hWM13 : qFm [98] M M13 := by rw [hM13]; exact hW.pa (by decide) (by decide)
          have e14 : M13 98 6 = M 98 6 := by rw [hM13]; exact qput_nk (by omega)
          have e15 : M13 98 3 = M 98 3 := by rw [hM13]; exact qput_nk (by omega)
          show zG n (0, 0) d 191 (59, [.inr (.inr (some 97)), .inl a1, .inl a2, .inl x8], []) M13 _
          exact zG_wr (r := some (.inl 1)) 1 hd0 hz (by rfl) ⟨⟨hCM13, hWM13⟩, _, rfl, by omega, by omega⟩
        refine zG_wf_eq (pc := 50) (n' := 53) (t := 57) (L := [.inr (.inr (some 97)), .inl a1, .inl a2, .inl x8]) (st := [.inl x8, .inr (.inr (some 98))]) (x := a2) 0 hd0 hz (by rfl) (fun hb16 => ?_) (fun hb16 => ?_)
        · refine zG_w (c' := (58, [.inr (.inr (some 97)), .inl a1, .inl a2, .inl x8], [.inl 0, .inl x8, .inr (.inr (some 98))])) 1 hd0 hz (by rfl) ?_
          exact j58 0 (by first | decide | omega)
        · refine zG_w (c' := (58, [.inr (.inr (some 97)), .inl a1, .inl a2, .inl x8], [.inl 1, .inl x8, .inr (.inr (some 98))])) 2 hd0 hz (by rfl) ?_
          exact j58 1 (by first | decide | omega)
      · exact zG_wr (r := some (.inl (-3))) 1 hd0 hz (by rfl) ⟨⟨hC, hW⟩, _, rfl, by omega, by omega⟩
    refine zG_wi_ne (pc := 29) (n' := 32) (t := 36) (L := [.inr (.inr (some 97)), .inl a1, .inl a2, .inl x8]) (st := []) (x := x9) (y := 1) 0 hd0 hz (by rfl) (fun hb17 => ?_) (fun hb17 => ?_)
    · refine zG_w (c' := (37, [.inr (.inr (some 97)), .inl a1, .inl a2, .inl x8], [.inl 0])) 1 hd0 hz (by rfl) ?_
      exact j37 0 (by first | decide | omega)
    · refine zG_w (c' := (37, [.inr (.inr (some 97)), .inl a1, .inl a2, .inl x8], [.inl 1])) 2 hd0 hz (by rfl) ?_
      exact j37 1 (by first | decide | omega)
  · exact zG_wr (r := some (.inl (-2))) 1 hd0 hz (by rfl) ⟨⟨hC, hW⟩, _, rfl, by omega, by omega⟩
