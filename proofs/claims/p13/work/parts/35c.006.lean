theorem qm_254_97 {n d : Nat} {M : zM} (hd : 3 ≤ d) (hC : qMI M)  (a1 : Int) (ha1 : (-2147483648) ≤ a1 ∧ a1 ≤ 2147483647) : qOkN n d 254 [.inr (.inr (some 97)), .inl a1] 3 [98] M (fun v M' => ∃ x : Int, v = some (.inl x) ∧ ((-2) ≤ x ∧ x ≤ 80)) := by
  have hz := zp_254
  have hd0 : 0 < d := by omega
  have hW : qFm [98] M M := qFm.rfl
  show zG n (0, 0) d 254 (0, [.inr (.inr (some 97)), .inl a1, zN], []) M _
  refine zG_blk (c' := (1, [.inr (.inr (some 97)), .inl a1, zN], [.inl a1])) 1 hd0 hz (by rfl) ?_
  refine zG_call hd0 hz zp_252 rfl rfl (Nat.le_of_ble_eq_true rfl) ⟨Nat.le_refl _, Nat.le_refl _⟩ (qm_252 (by first | exact zdp hd (by decide) | omega) hC   a1 (by first | with_reducible exact ha1 | omega) ) (fun vr M1 hr => ?_)
  obtain ⟨hq, x2, rfl, hx2, hpx2_0⟩ := hr
  replace hq := hq.symm; subst hq
  show zG n (0, 0) d 254 (4, [.inr (.inr (some 97)), .inl a1, zN], [.inl x2]) M _
  refine zG_if_ne hd0 hz rfl (fun hb3 => ?_) (fun hb3 => ?_)
  · have hcx2 := hpx2_0.mp (by omega)
    clear hx2 hpx2_0 hb3
    obtain ⟨x4, hx4⟩ : ∃ x : Int, x = w32 (81 * a1) := ⟨_, rfl⟩
    have hx4e : x4 = 81 * a1 := by rw [hx4]; exact w32_id (by omega)
    obtain ⟨x5, hx5⟩ : ∃ x : Int, x = w32 (3350 + x4) := ⟨_, rfl⟩
    have hx5e : x5 = 3350 + x4 := by rw [hx5]; exact w32_id (by omega)
    refine zG_blk (c' := (22, [.inr (.inr (some 97)), .inl a1, zN], [.inl x5, .inr (.inr (some 98))])) 7 hd0 hz (by subst hx5; subst hx4; rfl) ?_
    refine zG_iald hd0 hz rfl rfl (.inl rfl) (by omega) ?_
    obtain ⟨x6, hx6⟩ : ∃ x : Int, x = M 98 (x5 : Int).toNat := ⟨_, rfl⟩
    rw [← hx6]
    have hx6r : 0 ≤ x6 ∧ x6 ≤ 80 := by rw [hx6]; exact hC.txt a1 _ (by omega) (by omega)
    show zG n (0, 0) d 254 (23, [.inr (.inr (some 97)), .inl a1, zN], [.inl x6]) M _
    obtain ⟨x7, hx7⟩ : ∃ x : Int, x = w32 (81 * a1) := ⟨_, rfl⟩
    have hx7e : x7 = 81 * a1 := by rw [hx7]; exact w32_id (by omega)
    obtain ⟨x8, hx8⟩ : ∃ x : Int, x = w32 (3350 + x7) := ⟨_, rfl⟩
    have hx8e : x8 = 3350 + x7 := by rw [hx8]; exact w32_id (by omega)
    refine zG_blk (c' := (37, [.inr (.inr (some 97)), .inl a1, .inl x6], [.inl 0, .inl x8, .inr (.inr (some 98))])) 9 hd0 hz (by subst hx8; subst hx7; rfl) ?_
    refine zG_iast hd0 hz rfl rfl (by omega) ?_
    obtain ⟨M9, hM9⟩ : ∃ X : zM, X = zput M 98 (x8 : Int).toNat 0 := ⟨_, rfl⟩
    rw [← hM9]
    have hCM9 : qMI M9 := by rw [hM9]; exact hC.put98' (by refine ⟨by omega, fun _ => by omega, fun _ => by omega, fun _ => by omega, fun _ => by omega, fun _ => by omega, fun _ => by omega, fun _ => by omega, fun c9 hc9 _ => by omega, fun u9 hu9 _ => by omega, fun m9 hm9 _ => by omega, fun a9 ha9 => ⟨fun _ => by omega, fun _ => by omega, fun _ => by omega, fun _ => by omega⟩, fun t9 ht9 _ => by omega, fun o9 ho9 _ => by omega⟩) (by omega) (by omega)
    have hWM9 : qFm [98] M M9 := by rw [hM9]; exact hW.pa (by decide) (by decide)
    show zG n (0, 0) d 254 (38, [.inr (.inr (some 97)), .inl a1, .inl x6], []) M9 _
    refine zG_blk (c' := (39, [.inr (.inr (some 97)), .inl a1, .inl x6], [.inl x6])) 1 hd0 hz (by rfl) ?_
    exact zG_ret hd0 hz rfl rfl ⟨⟨hCM9, hWM9⟩, _, rfl, by omega⟩
  · refine zG_blk (c' := (9, [.inr (.inr (some 97)), .inl a1, zN], [.inl (-2)])) 1 hd0 hz (by rfl) ?_
    exact zG_ret hd0 hz rfl rfl ⟨⟨hC, hW⟩, _, rfl, by omega⟩
