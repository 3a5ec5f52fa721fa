theorem qm_253_97 {n d : Nat} {M : zM} (hd : 3 ≤ d) (hC : qMI M)  (a1 : Int) (ha1 : (-2147483648) ≤ a1 ∧ a1 ≤ 2147483647) (a2 : Int) (ha2 : (-2147483648) ≤ a2 ∧ a2 ≤ 2147483647) : qOkN n d 253 [.inr (.inr (some 97)), .inl a1, .inl a2] 4 [98] M (fun v M' => ∃ x : Int, v = some (.inl x) ∧ ((-2147483648) ≤ x ∧ x ≤ 2147483647)) := by
  have hz := zp_253
  have hd0 : 0 < d := by omega
  have hW : qFm [98] M M := qFm.rfl
  show zG n (0, 0) d 253 (0, [.inr (.inr (some 97)), .inl a1, .inl a2, zN], []) M _
  refine zG_blk (c' := (1, [.inr (.inr (some 97)), .inl a1, .inl a2, zN], [.inl a1])) 1 hd0 hz (by rfl) ?_
  refine zG_call hd0 hz zp_252 rfl rfl (Nat.le_of_ble_eq_true rfl) ⟨Nat.le_refl _, Nat.le_refl _⟩ (qm_252 (by first | exact zdp hd (by decide) | omega) hC   a1 (by first | with_reducible exact ha1 | omega) ) (fun vr M1 hr => ?_)
  obtain ⟨hq, x2, rfl, hx2, hpx2_0⟩ := hr
  replace hq := hq.symm; subst hq
  show zG n (0, 0) d 253 (4, [.inr (.inr (some 97)), .inl a1, .inl a2, zN], [.inl x2]) M _
  have j17 : zG n (0, 0) d 253 (17, [.inr (.inr (some 97)), .inl a1, .inl a2, zN], []) M (fun v M' => (qMI M' ∧ qFm [98] M M') ∧ ∃ x : Int, v = some (.inl x) ∧ ((-2147483648) ≤ x ∧ x ≤ 2147483647)) := by
    refine zG_blk (c' := (19, [.inr (.inr (some 97)), .inl a1, .inl a2, zN], [.inl (-2)])) 1 hd0 hz (by rfl) ?_
    exact zG_ret hd0 hz rfl rfl ⟨⟨hC, hW⟩, _, rfl, by omega⟩
  refine zG_if_eq hd0 hz rfl (fun hb3 => ?_) (fun hb3 => ?_)
  · exact j17
  · have hcx2 := hpx2_0.mp (by omega)
    clear hx2 hpx2_0 hb3
    refine zG_blk (c' := (11, [.inr (.inr (some 97)), .inl a1, .inl a2, zN], [.inl 127, .inl 0, .inl a2])) 3 hd0 hz (by rfl) ?_
    refine zG_call hd0 hz zp_180 rfl rfl (Nat.le_of_ble_eq_true rfl) ⟨Nat.le_refl _, Nat.le_refl _⟩ (qx_in (by first | exact zdp hd (by decide) | omega) hC   a2 (by first | with_reducible exact ha2 | omega) 0 (by first | decide | omega) 127 (by first | decide | omega) ) (fun vr M4 hr => ?_)
    obtain ⟨hq, x5, rfl, hx5⟩ := hr
    replace hq := hq.symm; subst hq
    show zG n (0, 0) d 253 (14, [.inr (.inr (some 97)), .inl a1, .inl a2, zN], [.inl x5]) M _
    refine zG_if_ne hd0 hz rfl (fun hb6 => ?_) (fun hb6 => ?_)
    · have hcx5 := hx5.2.2.mp (by omega)
      clear hx5 hb6
      obtain ⟨x7, hx7⟩ : ∃ x : Int, x = w32 (81 * a1) := ⟨_, rfl⟩
      have hx7e : x7 = 81 * a1 := by rw [hx7]; exact w32_id (by omega)
      obtain ⟨x8, hx8⟩ : ∃ x : Int, x = w32 (3350 + x7) := ⟨_, rfl⟩
      have hx8e : x8 = 3350 + x7 := by rw [hx8]; exact w32_id (by omega)
      refine zG_blk (c' := (34, [.inr (.inr (some 97)), .inl a1, .inl a2, .inl x8], [.inl x8, .inr (.inr (some 98))])) 9 hd0 hz (by subst hx8; subst hx7; rfl) ?_
      refine zG_iald hd0 hz rfl rfl (.inl rfl) (by omega) ?_
      obtain ⟨x9, hx9⟩ : ∃ x : Int, x = M 98 (x8 : Int).toNat := ⟨_, rfl⟩
      rw [← hx9]
      have hx9r : qin x9 := by rw [hx9]; exact hC.sin _
      show zG n (0, 0) d 253 (35, [.inr (.inr (some 97)), .inl a1, .inl a2, .inl x8], [.inl x9]) M _
      refine zG_blk (c' := (37, [.inr (.inr (some 97)), .inl a1, .inl a2, .inl x8], [.inl 80, .inl x9])) 1 hd0 hz (by rfl) ?_
      refine zG_icmp_ne hd0 hz rfl (fun hb10 => ?_) (fun hb10 => ?_)
      · refine zG_blk (c' := (49, [.inr (.inr (some 97)), .inl a1, .inl a2, .inl x8], [.inl x8, .inr (.inr (some 98)), .inl x8, .inr (.inr (some 98))])) 4 hd0 hz (by rfl) ?_
        refine zG_iald hd0 hz rfl rfl (.inl rfl) (by omega) ?_
        obtain ⟨x11, hx11⟩ : ∃ x : Int, x = M 98 (x8 : Int).toNat := ⟨_, rfl⟩
        rw [← hx11]
        have hx11r : 0 ≤ x11 ∧ x11 ≤ 80 := by rw [hx11]; exact hC.txt a1 _ (by omega) (by omega)
        show zG n (0, 0) d 253 (50, [.inr (.inr (some 97)), .inl a1, .inl a2, .inl x8], [.inl x11, .inl x8, .inr (.inr (some 98))]) M _
        obtain ⟨x12, hx12⟩ : ∃ x : Int, x = w32 (x11 + 1) := ⟨_, rfl⟩
        have hx12e : x12 = x11 + 1 := by rw [hx12]; exact w32_id (by omega)
        refine zG_blk (c' := (52, [.inr (.inr (some 97)), .inl a1, .inl a2, .inl x8], [.inl x12, .inl x8, .inr (.inr (some 98))])) 2 hd0 hz (by subst hx12; rfl) ?_
        refine zG_iast hd0 hz rfl rfl (by omega) ?_
        obtain ⟨M13, hM13⟩ : ∃ X : zM, X = zput M 98 (x8 : Int).toNat x12 := ⟨_, rfl⟩
        rw [← hM13]
        have hCM13 : qMI M13 := by rw [hM13]; exact hC.put98' (by refine ⟨by omega, fun _ => by omega, fun _ => by omega, fun _ => by omega, fun _ => by omega, fun _ => by omega, fun _ => by omega, fun _ => by omega, fun c9 hc9 _ => by omega, fun u9 hu9 _ => by omega, fun m9 hm9 _ => by omega, fun a9 ha9 => ⟨fun _ => by omega, fun _ => by omega, fun _ => by omega, fun _ => by omega⟩, fun t9 ht9 _ => by omega, fun o9 ho9 _ => by omega⟩) (by omega) (by omega)
        have hWM13 : qFm [98] M M13 := by rw [hM13]; exact hW.pa (by decide) (by decide)
        have hln : M13 98 (x8 : Int).toNat = x12 := by rw [hM13]; exact qput_eq
        show zG n (0, 0) d 253 (53, [.inr (.inr (some 97)), .inl a1, .inl a2, .inl x8], []) M13 _
        refine zG_blk (c' := (63, [.inr (.inr (some 97)), .inl a1, .inl a2, .inl x8], [.inl x8, .inr (.inr (some 98)), .inl x8, .inr (.inr (some 98))])) 6 hd0 hz (by rfl) ?_
        refine zG_iald hd0 hz rfl rfl (.inl rfl) (by omega) ?_
        obtain ⟨x14, hx14⟩ : ∃ x : Int, x = M13 98 (x8 : Int).toNat := ⟨_, rfl⟩
        rw [← hx14]
        have hx14r : 0 ≤ x14 ∧ x14 ≤ 80 := by rw [hx14]; exact hCM13.txt a1 _ (by omega) (by omega)
        show zG n (0, 0) d 253 (64, [.inr (.inr (some 97)), .inl a1, .inl a2, .inl x8], [.inl x14, .inl x8, .inr (.inr (some 98))]) M13 _
        obtain ⟨x15, hx15⟩ : ∃ x : Int, x = w32 (x8 + x14) := ⟨_, rfl⟩
        have hx15e : x15 = x8 + x14 := by rw [hx15]; exact w32_id (by omega)
        refine zG_blk (c' := (66, [.inr (.inr (some 97)), .inl a1, .inl a2, .inl x8], [.inl a2, .inl x15, .inr (.inr (some 98))])) 2 hd0 hz (by subst hx15; rfl) ?_
        refine zG_iast hd0 hz rfl rfl (by omega) ?_
        obtain ⟨M16, hM16⟩ : ∃ X : zM, X = zput M13 98 (x15 : Int).toNat a2 := ⟨_, rfl⟩
        rw [← hM16]
        have hCM16 : qMI M16 := by rw [hM16]; exact hCM13.put98' (by refine ⟨by omega, fun _ => by omega, fun _ => by omega, fun _ => by omega, fun _ => by omega, fun _ => by omega, fun _ => by omega, fun _ => by omega, fun c9 hc9 _ => by omega, fun u9 hu9 _ => by omega, fun m9 hm9 _ => by omega, fun a9 ha9 => ⟨fun _ => by omega, fun _ => by omega, fun _ => by omega, fun _ => by omega⟩, fun t9 ht9 _ => by omega, fun o9 ho9 _ => by omega⟩) (by omega) (by omega)
        have hWM16 : qFm [98] M M16 := by rw [hM16]; exact hWM13.pa (by decide) (by decide)
        show zG n (0, 0) d 253 (67, [.inr (.inr (some 97)), .inl a1, .inl a2, .inl x8], []) M16 _
        refine zG_blk (c' := (72, [.inr (.inr (some 97)), .inl a1, .inl a2, .inl x8], [.inl x8, .inr (.inr (some 98))])) 3 hd0 hz (by rfl) ?_
        refine zG_iald hd0 hz rfl rfl (.inl rfl) (by omega) ?_
        obtain ⟨x17, hx17⟩ : ∃ x : Int, x = M16 98 (x8 : Int).toNat := ⟨_, rfl⟩
        rw [← hx17]
        have hx17r : qin x17 := by rw [hx17]; exact hCM16.sin _
        show zG n (0, 0) d 253 (73, [.inr (.inr (some 97)), .inl a1, .inl a2, .inl x8], [.inl x17]) M16 _
        exact zG_ret hd0 hz rfl rfl ⟨⟨hCM16, hWM16⟩, _, rfl, by omega⟩
      · refine zG_blk (c' := (42, [.inr (.inr (some 97)), .inl a1, .inl a2, .inl x8], [.inl (-4)])) 1 hd0 hz (by rfl) ?_
        exact zG_ret hd0 hz rfl rfl ⟨⟨hC, hW⟩, _, rfl, by omega⟩
    · exact j17
