theorem qm_188_97 {n d : Nat} {M : zM} (hd : 3 ≤ d) (hC : qMI M)  (a1 : Int) (ha1 : (-2147483648) ≤ a1 ∧ a1 ≤ 2147483647) : qOkN n d 188 [.inr (.inr (some 97)), .inl a1] 3 [98] M (fun v M' => ∃ x : Int, v = some (.inl x) ∧ ((-2147483648) ≤ x ∧ x ≤ 2147483647)) := by
  have hz := zp_188
  have hd0 : 0 < d := by omega
  have hW : qFm [98] M M := qFm.rfl
  have r1 := hC.cnt1
  show zG n (0, 0) d 188 (0, [.inr (.inr (some 97)), .inl a1, zN], []) M _
  refine zG_blk (c' := (1, [.inr (.inr (some 97)), .inl a1, zN], [.inl a1])) 1 hd0 hz (by rfl) ?_
  refine zG_call hd0 hz zp_184 rfl rfl (Nat.le_of_ble_eq_true rfl) ⟨Nat.le_refl _, Nat.le_refl _⟩ (qm_184 (by first | exact zdp hd (by decide) | omega) hC   a1 (by first | with_reducible exact ha1 | omega) ) (fun vr M2 hr => ?_)
  obtain ⟨hq, x3, rfl, hx3, hpx3_0⟩ := hr
  replace hq := hq.symm; subst hq
  show zG n (0, 0) d 188 (4, [.inr (.inr (some 97)), .inl a1, zN], [.inl x3]) M _
  refine zG_if_ne hd0 hz rfl (fun hb4 => ?_) (fun hb4 => ?_)
  · have hcx3 := hpx3_0.mp (by omega)
    clear hx3 hpx3_0 hb4
    refine zG_blk (c' := (15, [.inr (.inr (some 97)), .inl a1, zN], [.inl 1, .inr (.inr (some 98))])) 3 hd0 hz (by rfl) ?_
    refine zG_iald hd0 hz rfl rfl (.inl rfl) (by omega) ?_
    show zG n (0, 0) d 188 (16, [.inr (.inr (some 97)), .inl a1, zN], [.inl (M 98 1)]) M _
    refine zG_blk (c' := (18, [.inr (.inr (some 97)), .inl a1, zN], [.inl 20, .inl (M 98 1)])) 1 hd0 hz (by rfl) ?_
    refine zG_icmp_ne hd0 hz rfl (fun hb5 => ?_) (fun hb5 => ?_)
    · refine zG_blk (c' := (32, [.inr (.inr (some 97)), .inl a1, zN], [.inl 1, .inr (.inr (some 98)), .inl 3, .inl 80])) 5 hd0 hz (by rfl) ?_
      refine zG_iald hd0 hz rfl rfl (.inl rfl) (by omega) ?_
      show zG n (0, 0) d 188 (33, [.inr (.inr (some 97)), .inl a1, zN], [.inl (M 98 1), .inl 3, .inl 80]) M _
      obtain ⟨x6, hx6⟩ : ∃ x : Int, x = w32 (3 * (M 98 1)) := ⟨_, rfl⟩
      have hx6e : x6 = 3 * (M 98 1) := by rw [hx6]; exact w32_id (by omega)
      obtain ⟨x7, hx7⟩ : ∃ x : Int, x = w32 (80 + x6) := ⟨_, rfl⟩
      have hx7e : x7 = 80 + x6 := by rw [hx7]; exact w32_id (by omega)
      refine zG_blk (c' := (42, [.inr (.inr (some 97)), .inl a1, .inl x7], [.inl a1, .inl x7, .inr (.inr (some 98))])) 7 hd0 hz (by subst hx7; subst hx6; rfl) ?_
      refine zG_iast hd0 hz rfl rfl (by omega) ?_
      obtain ⟨M8, hM8⟩ : ∃ X : zM, X = zput M 98 (x7 : Int).toNat a1 := ⟨_, rfl⟩
      rw [← hM8]
      have hCM8 : qMI M8 := by rw [hM8]; exact hC.put98' (by refine ⟨by omega, fun _ => by omega, fun _ => by omega, fun _ => by omega, fun _ => by omega, fun _ => by omega, fun _ => by omega, fun _ => by omega, fun c9 hc9 _ => by omega, fun u9 hu9 _ => by omega, fun m9 hm9 _ => by omega, fun a9 ha9 => ⟨fun _ => by omega, fun _ => by omega, fun _ => by omega, fun _ => by omega⟩, fun t9 ht9 _ => by omega, fun o9 ho9 _ => by omega⟩) (by omega) (by omega)
      have hWM8 : qFm [98] M M8 := by rw [hM8]; exact hW.pa (by decide) (by decide)
      have e9 : M8 98 1 = M 98 1 := by rw [hM8]; exact qput_nk (by omega)
      show zG n (0, 0) d 188 (43, [.inr (.inr (some 97)), .inl a1, .inl x7], []) M8 _
      obtain ⟨x10, hx10⟩ : ∃ x : Int, x = w32 (x7 + 1) := ⟨_, rfl⟩
      have hx10e : x10 = x7 + 1 := by rw [hx10]; exact w32_id (by omega)
      refine zG_blk (c' := (51, [.inr (.inr (some 97)), .inl a1, .inl x7], [.inl (-1), .inl x10, .inr (.inr (some 98))])) 6 hd0 hz (by subst hx10; rfl) ?_
      refine zG_iast hd0 hz rfl rfl (by omega) ?_
      obtain ⟨M11, hM11⟩ : ∃ X : zM, X = zput M8 98 (x10 : Int).toNat (-1) := ⟨_, rfl⟩
      rw [← hM11]
      have hCM11 : qMI M11 := by rw [hM11]; exact hCM8.put98' (by refine ⟨by omega, fun _ => by omega, fun _ => by omega, fun _ => by omega, fun _ => by omega, fun _ => by omega, fun _ => by omega, fun _ => by omega, fun c9 hc9 _ => by omega, fun u9 hu9 _ => by omega, fun m9 hm9 _ => by omega, fun a9 ha9 => ⟨fun _ => by omega, fun _ => by omega, fun _ => by omega, fun _ => by omega⟩, fun t9 ht9 _ => by omega, fun o9 ho9 _ => by omega⟩) (by omega) (by omega)
      have hWM11 : qFm [98] M M11 := by rw [hM11]; exact hWM8.pa (by decide) (by decide)
      have e12 : M11 98 1 = M8 98 1 := by rw [hM11]; exact qput_nk (by omega)
      show zG n (0, 0) d 188 (52, [.inr (.inr (some 97)), .inl a1, .inl x7], []) M11 _
      obtain ⟨x13, hx13⟩ : ∃ x : Int, x = w32 (x7 + 2) := ⟨_, rfl⟩
      have hx13e : x13 = x7 + 2 := by rw [hx13]; exact w32_id (by omega)
      refine zG_blk (c' := (60, [.inr (.inr (some 97)), .inl a1, .inl x7], [.inl 0, .inl x13, .inr (.inr (some 98))])) 6 hd0 hz (by subst hx13; rfl) ?_
      refine zG_iast hd0 hz rfl rfl (by omega) ?_
      obtain ⟨M14, hM14⟩ : ∃ X : zM, X = zput M11 98 (x13 : Int).toNat 0 := ⟨_, rfl⟩
      rw [← hM14]
      have hCM14 : qMI M14 := by rw [hM14]; exact hCM11.put98' (by refine ⟨by omega, fun _ => by omega, fun _ => by omega, fun _ => by omega, fun _ => by omega, fun _ => by omega, fun _ => by omega, fun _ => by omega, fun c9 hc9 _ => by omega, fun u9 hu9 _ => by omega, fun m9 hm9 _ => by omega, fun a9 ha9 => ⟨fun _ => by omega, fun _ => by omega, fun _ => by omega, fun _ => by omega⟩, fun t9 ht9 _ => by omega, fun o9 ho9 _ => by omega⟩) (by omega) (by omega)
      have hWM14 : qFm [98] M M14 := by rw [hM14]; exact hWM11.pa (by decide) (by decide)
      have e15 : M14 98 1 = M11 98 1 := by rw [hM14]; exact qput_nk (by omega)
      show zG n (0, 0) d 188 (61, [.inr (.inr (some 97)), .inl a1, .inl x7], []) M14 _
      refine zG_blk (c' := (63, [.inr (.inr (some 97)), .inl a1, .inl x7], [.inl 1, .inr (.inr (some 97))])) 2 hd0 hz (by rfl) ?_
      refine zG_call hd0 hz zp_183 rfl rfl (Nat.le_of_ble_eq_true rfl) ⟨Nat.le_refl _, Nat.le_refl _⟩ (qx_oneC (by first | exact zdp hd (by decide) | omega) hCM14   1 (by decide) (by decide) (by refine ⟨by omega, fun _ => by omega, fun _ => by omega, fun _ => by omega, fun _ => by omega, fun _ => by omega, fun _ => by omega, fun _ => by omega, fun c9 hc9 _ => by omega, fun u9 hu9 _ => by omega, fun m9 hm9 _ => by omega, fun a9 ha9 => ⟨fun _ => by omega, fun _ => by omega, fun _ => by omega, fun _ => by omega⟩, fun t9 ht9 _ => by omega, fun o9 ho9 _ => by omega⟩) ) (fun vr M16 hr => ?_)
      obtain ⟨⟨hCM16, hFM16⟩, x17, rfl, hx17, hpx17_0, hpx17_1⟩ := hr
      have hWM16 : qFm [98] M M16 := hWM14.tr hFM16 (by decide)
      show zG n (0, 0) d 188 (66, [.inr (.inr (some 97)), .inl a1, .inl x7], [.inl x17]) M16 _
      exact zG_ret hd0 hz rfl rfl ⟨⟨hCM16, hWM16⟩, _, rfl, by omega⟩
    · refine zG_blk (c' := (23, [.inr (.inr (some 97)), .inl a1, zN], [.inl (-4)])) 1 hd0 hz (by rfl) ?_
      exact zG_ret hd0 hz rfl rfl ⟨⟨hC, hW⟩, _, rfl, by omega⟩
  · refine zG_blk (c' := (9, [.inr (.inr (some 97)), .inl a1, zN], [.inl (-2)])) 1 hd0 hz (by rfl) ?_
    exact zG_ret hd0 hz rfl rfl ⟨⟨hC, hW⟩, _, rfl, by omega⟩
