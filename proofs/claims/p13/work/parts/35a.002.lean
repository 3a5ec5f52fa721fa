theorem qm_189_97 {n d : Nat} {M : zM} (hd : 2 ≤ d) (hC : qMI M)  (a1 : Int) (ha1 : (-2147483648) ≤ a1 ∧ a1 ≤ 2147483647) (a2 : Int) (ha2 : (-2147483648) ≤ a2 ∧ a2 ≤ 2147483647) : qOkN n d 189 [.inr (.inr (some 97)), .inl a1, .inl a2] 3 [98] M (fun v M' => ∃ x : Int, v = some (.inl x) ∧ ((-2147483648) ≤ x ∧ x ≤ 2147483647)) := by
  have hz := zp_189
  have hd0 : 0 < d := by omega
  have hW : qFm [98] M M := qFm.rfl
  have r1 := hC.cnt2
  show zG n (0, 0) d 189 (0, [.inr (.inr (some 97)), .inl a1, .inl a2], []) M _
  refine zG_blk (c' := (5, [.inr (.inr (some 97)), .inl a1, .inl a2], [.inl 1023, .inl 1, .inl a1])) 3 hd0 hz (by rfl) ?_
  refine zG_call hd0 hz zp_180 rfl rfl (Nat.le_of_ble_eq_true rfl) ⟨Nat.le_refl _, Nat.le_refl _⟩ (qx_in (by first | exact zdp hd (by decide) | omega) hC   a1 (by first | with_reducible exact ha1 | omega) 1 (by first | decide | omega) 1023 (by first | decide | omega) ) (fun vr M2 hr => ?_)
  obtain ⟨hq, x3, rfl, hx3⟩ := hr
  replace hq := hq.symm; subst hq
  show zG n (0, 0) d 189 (8, [.inr (.inr (some 97)), .inl a1, .inl a2], [.inl x3]) M _
  have j21 : zG n (0, 0) d 189 (21, [.inr (.inr (some 97)), .inl a1, .inl a2], []) M (fun v M' => (qMI M' ∧ qFm [98] M M') ∧ ∃ x : Int, v = some (.inl x) ∧ ((-2147483648) ≤ x ∧ x ≤ 2147483647)) := by
    refine zG_blk (c' := (23, [.inr (.inr (some 97)), .inl a1, .inl a2], [.inl (-2)])) 1 hd0 hz (by rfl) ?_
    exact zG_ret hd0 hz rfl rfl ⟨⟨hC, hW⟩, _, rfl, by omega⟩
  refine zG_if_eq hd0 hz rfl (fun hb4 => ?_) (fun hb4 => ?_)
  · exact j21
  · have hcx3 := hx3.2.2.mp (by omega)
    clear hx3 hb4
    refine zG_blk (c' := (15, [.inr (.inr (some 97)), .inl a1, .inl a2], [.inl 10, .inl 1, .inl a2])) 3 hd0 hz (by rfl) ?_
    refine zG_call hd0 hz zp_180 rfl rfl (Nat.le_of_ble_eq_true rfl) ⟨Nat.le_refl _, Nat.le_refl _⟩ (qx_in (by first | exact zdp hd (by decide) | omega) hC   a2 (by first | with_reducible exact ha2 | omega) 1 (by first | decide | omega) 10 (by first | decide | omega) ) (fun vr M5 hr => ?_)
    obtain ⟨hq, x6, rfl, hx6⟩ := hr
    replace hq := hq.symm; subst hq
    show zG n (0, 0) d 189 (18, [.inr (.inr (some 97)), .inl a1, .inl a2], [.inl x6]) M _
    refine zG_if_ne hd0 hz rfl (fun hb7 => ?_) (fun hb7 => ?_)
    · have hcx6 := hx6.2.2.mp (by omega)
      clear hx6 hb7
      refine zG_blk (c' := (29, [.inr (.inr (some 97)), .inl a1, .inl a2], [.inl 2, .inr (.inr (some 98))])) 3 hd0 hz (by rfl) ?_
      refine zG_iald hd0 hz rfl rfl (.inl rfl) (by omega) ?_
      show zG n (0, 0) d 189 (30, [.inr (.inr (some 97)), .inl a1, .inl a2], [.inl (M 98 2)]) M _
      refine zG_blk (c' := (31, [.inr (.inr (some 97)), .inl a1, .inl a2], [.inl 4, .inl (M 98 2)])) 1 hd0 hz (by rfl) ?_
      refine zG_icmp_ne hd0 hz rfl (fun hb8 => ?_) (fun hb8 => ?_)
      · refine zG_blk (c' := (50, [.inr (.inr (some 97)), .inl a1, .inl a2], [.inl 2, .inr (.inr (some 98)), .inl 2, .inl 140, .inr (.inr (some 98))])) 7 hd0 hz (by rfl) ?_
        refine zG_iald hd0 hz rfl rfl (.inl rfl) (by omega) ?_
        show zG n (0, 0) d 189 (51, [.inr (.inr (some 97)), .inl a1, .inl a2], [.inl (M 98 2), .inl 2, .inl 140, .inr (.inr (some 98))]) M _
        obtain ⟨x9, hx9⟩ : ∃ x : Int, x = w32 (2 * (M 98 2)) := ⟨_, rfl⟩
        have hx9e : x9 = 2 * (M 98 2) := by rw [hx9]; exact w32_id (by omega)
        obtain ⟨x10, hx10⟩ : ∃ x : Int, x = w32 (140 + x9) := ⟨_, rfl⟩
        have hx10e : x10 = 140 + x9 := by rw [hx10]; exact w32_id (by omega)
        refine zG_blk (c' := (54, [.inr (.inr (some 97)), .inl a1, .inl a2], [.inl a1, .inl x10, .inr (.inr (some 98))])) 3 hd0 hz (by subst hx10; subst hx9; rfl) ?_
        refine zG_iast hd0 hz rfl rfl (by omega) ?_
        obtain ⟨M11, hM11⟩ : ∃ X : zM, X = zput M 98 (x10 : Int).toNat a1 := ⟨_, rfl⟩
        rw [← hM11]
        have hCM11 : qMI M11 := by rw [hM11]; exact hC.put98' (by refine ⟨by omega, fun _ => by omega, fun _ => by omega, fun _ => by omega, fun _ => by omega, fun _ => by omega, fun _ => by omega, fun _ => by omega, fun c9 hc9 _ => by omega, fun u9 hu9 _ => by omega, fun m9 hm9 _ => by omega, fun a9 ha9 => ⟨fun _ => by omega, fun _ => by omega, fun _ => by omega, fun _ => by omega⟩, fun t9 ht9 _ => by omega, fun o9 ho9 _ => by omega⟩) (by omega) (by omega)
        have hWM11 : qFm [98] M M11 := by rw [hM11]; exact hW.pa (by decide) (by decide)
        have e12 : M11 98 2 = M 98 2 := by rw [hM11]; exact qput_nk (by omega)
        show zG n (0, 0) d 189 (55, [.inr (.inr (some 97)), .inl a1, .inl a2], []) M11 _
        refine zG_blk (c' := (68, [.inr (.inr (some 97)), .inl a1, .inl a2], [.inl 2, .inr (.inr (some 98)), .inl 2, .inl 140, .inr (.inr (some 98))])) 7 hd0 hz (by rfl) ?_
        refine zG_iald hd0 hz rfl rfl (.inl rfl) (by omega) ?_
        show zG n (0, 0) d 189 (69, [.inr (.inr (some 97)), .inl a1, .inl a2], [.inl (M11 98 2), .inl 2, .inl 140, .inr (.inr (some 98))]) M11 _
        obtain ⟨x13, hx13⟩ : ∃ x : Int, x = w32 (2 * (M11 98 2)) := ⟨_, rfl⟩
        have hx13e : x13 = 2 * (M11 98 2) := by rw [hx13]; exact w32_id (by omega)
        obtain ⟨x14, hx14⟩ : ∃ x : Int, x = w32 (140 + x13) := ⟨_, rfl⟩
        have hx14e : x14 = 140 + x13 := by rw [hx14]; exact w32_id (by omega)
        obtain ⟨x15, hx15⟩ : ∃ x : Int, x = w32 (x14 + 1) := ⟨_, rfl⟩
        have hx15e : x15 = x14 + 1 := by rw [hx15]; exact w32_id (by omega)
        refine zG_blk (c' := (74, [.inr (.inr (some 97)), .inl a1, .inl a2], [.inl a2, .inl x15, .inr (.inr (some 98))])) 5 hd0 hz (by subst hx15; subst hx14; subst hx13; rfl) ?_
        refine zG_iast hd0 hz rfl rfl (by omega) ?_
        obtain ⟨M16, hM16⟩ : ∃ X : zM, X = zput M11 98 (x15 : Int).toNat a2 := ⟨_, rfl⟩
        rw [← hM16]
        have hCM16 : qMI M16 := by rw [hM16]; exact hCM11.put98' (by refine ⟨by omega, fun _ => by omega, fun _ => by omega, fun _ => by omega, fun _ => by omega, fun _ => by omega, fun _ => by omega, fun _ => by omega, fun c9 hc9 _ => by omega, fun u9 hu9 _ => by omega, fun m9 hm9 _ => by omega, fun a9 ha9 => ⟨fun _ => by omega, fun _ => by omega, fun _ => by omega, fun _ => by omega⟩, fun t9 ht9 _ => by omega, fun o9 ho9 _ => by omega⟩) (by omega) (by omega)
        have hWM16 : qFm [98] M M16 := by rw [hM16]; exact hWM11.pa (by decide) (by decide)
        have e17 : M16 98 2 = M11 98 2 := by rw [hM16]; exact qput_nk (by omega)
        show zG n (0, 0) d 189 (75, [.inr (.inr (some 97)), .inl a1, .inl a2], []) M16 _
        refine zG_blk (c' := (77, [.inr (.inr (some 97)), .inl a1, .inl a2], [.inl 2, .inr (.inr (some 97))])) 2 hd0 hz (by rfl) ?_
        refine zG_call hd0 hz zp_183 rfl rfl (Nat.le_of_ble_eq_true rfl) ⟨Nat.le_refl _, Nat.le_refl _⟩ (qx_oneC (by first | exact zdp hd (by decide) | omega) hCM16   2 (by decide) (by decide) (by refine ⟨by omega, fun _ => by omega, fun _ => by omega, fun _ => by omega, fun _ => by omega, fun _ => by omega, fun _ => by omega, fun _ => by omega, fun c9 hc9 _ => by omega, fun u9 hu9 _ => by omega, fun m9 hm9 _ => by omega, fun a9 ha9 => ⟨fun _ => by omega, fun _ => by omega, fun _ => by omega, fun _ => by omega⟩, fun t9 ht9 _ => by omega, fun o9 ho9 _ => by omega⟩) ) (fun vr M18 hr => ?_)
        obtain ⟨⟨hCM18, hFM18⟩, x19, rfl, hx19, hpx19_0, hpx19_1⟩ := hr
        have hWM18 : qFm [98] M M18 := hWM16.tr hFM18 (by decide)
        show zG n (0, 0) d 189 (80, [.inr (.inr (some 97)), .inl a1, .inl a2], [.inl x19]) M18 _
        exact zG_ret hd0 hz rfl rfl ⟨⟨hCM18, hWM18⟩, _, rfl, by omega⟩
      · refine zG_blk (c' := (36, [.inr (.inr (some 97)), .inl a1, .inl a2], [.inl (-4)])) 1 hd0 hz (by rfl) ?_
        exact zG_ret hd0 hz rfl rfl ⟨⟨hC, hW⟩, _, rfl, by omega⟩
    · exact j21
