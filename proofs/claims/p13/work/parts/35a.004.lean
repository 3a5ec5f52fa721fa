theorem qm_191_97 {n d : Nat} {M : zM} (hd : 3 ≤ d) (hC : qMI M)  (a1 : Int) (ha1 : (-2147483648) ≤ a1 ∧ a1 ≤ 2147483647) (a2 : Int) (ha2 : 0 ≤ a2 ∧ a2 ≤ 1) : qOkN n d 191 [.inr (.inr (some 97)), .inl a1, .inl a2] 4 [98] M (fun v M' => ∃ x : Int, v = some (.inl x) ∧ ((-3) ≤ x ∧ x ≤ 1)) := by
  have hz := zp_191
  have hd0 : 0 < d := by omega
  have hW : qFm [98] M M := qFm.rfl
  have r1 := hC.cnt3
  show zG n (0, 0) d 191 (0, [.inr (.inr (some 97)), .inl a1, .inl a2, zN], []) M _
  refine zG_blk (c' := (3, [.inr (.inr (some 97)), .inl a1, .inl a2, zN], [.inl a1, .inl 3, .inr (.inr (some 97))])) 3 hd0 hz (by rfl) ?_
  refine zG_call hd0 hz zp_182 rfl rfl (Nat.le_of_ble_eq_true rfl) ⟨Nat.le_refl _, Nat.le_refl _⟩ (qx_is (by first | exact zdp hd (by decide) | omega) hC   3 (by first | decide | omega) a1 (by first | with_reducible exact ha1 | omega) ) (fun vr M2 hr => ?_)
  obtain ⟨hq, x3, rfl, hx3⟩ := hr
  replace hq := hq.symm; subst hq
  show zG n (0, 0) d 191 (6, [.inr (.inr (some 97)), .inl a1, .inl a2, zN], [.inl x3]) M _
  refine zG_if_ne hd0 hz rfl (fun hb4 => ?_) (fun hb4 => ?_)
  · have hcx3 := hx3.2.2.mp (by omega)
    clear hx3 hb4
    obtain ⟨x5, hx5⟩ : ∃ x : Int, x = w32 (5 * a1) := ⟨_, rfl⟩
    have hx5e : x5 = 5 * a1 := by rw [hx5]; exact w32_id (by omega)
    obtain ⟨x6, hx6⟩ : ∃ x : Int, x = w32 (150 + x5) := ⟨_, rfl⟩
    have hx6e : x6 = 150 + x5 := by rw [hx6]; exact w32_id (by omega)
    obtain ⟨x7, hx7⟩ : ∃ x : Int, x = w32 (x6 + 4) := ⟨_, rfl⟩
    have hx7e : x7 = x6 + 4 := by rw [hx7]; exact w32_id (by omega)
    refine zG_blk (c' := (27, [.inr (.inr (some 97)), .inl a1, .inl a2, .inl x7], [.inl x7, .inr (.inr (some 98))])) 11 hd0 hz (by subst hx7; subst hx6; subst hx5; rfl) ?_
    refine zG_iald hd0 hz rfl rfl (.inl rfl) (by omega) ?_
    obtain ⟨x8, hx8⟩ : ∃ x : Int, x = M 98 (x7 : Int).toNat := ⟨_, rfl⟩
    rw [← hx8]
    have hx8r : qin x8 := by rw [hx8]; exact hC.sin _
    show zG n (0, 0) d 191 (28, [.inr (.inr (some 97)), .inl a1, .inl a2, .inl x7], [.inl x8]) M _
    refine zG_blk (c' := (29, [.inr (.inr (some 97)), .inl a1, .inl a2, .inl x7], [.inl 1, .inl x8])) 1 hd0 hz (by rfl) ?_
    have j37 : ∀ (v9 : Int) , 0 ≤ v9 ∧ v9 ≤ 1 → zG n (0, 0) d 191 (37, [.inr (.inr (some 97)), .inl a1, .inl a2, .inl x7], [.inl v9]) M (fun v M' => (qMI M' ∧ qFm [98] M M') ∧ ∃ x : Int, v = some (.inl x) ∧ ((-3) ≤ x ∧ x ≤ 1)) := by
      intro v9 hv9
      refine zG_blk (c' := (38, [.inr (.inr (some 97)), .inl a1, .inl a2, .inl x7], [.inl a2, .inl v9])) 1 hd0 hz (by rfl) ?_
      refine zG_icmp_ne hd0 hz rfl (fun hb10 => ?_) (fun hb10 => ?_)
      · refine zG_blk (c' := (50, [.inr (.inr (some 97)), .inl a1, .inl a2, .inl x7], [.inl a2, .inl x7, .inr (.inr (some 98))])) 4 hd0 hz (by rfl) ?_
        have j58 : ∀ (v11 : Int) , 0 ≤ v11 ∧ v11 ≤ 1 → zG n (0, 0) d 191 (58, [.inr (.inr (some 97)), .inl a1, .inl a2, .inl x7], [.inl v11, .inl x7, .inr (.inr (some 98))]) M (fun v M' => (qMI M' ∧ qFm [98] M M') ∧ ∃ x : Int, v = some (.inl x) ∧ ((-3) ≤ x ∧ x ≤ 1)) := by
          intro v11 hv11
          refine zG_iast hd0 hz rfl rfl (by omega) ?_
          obtain ⟨M12, hM12⟩ : ∃ X : zM, X = zput M 98 (x7 : Int).toNat v11 := ⟨_, rfl⟩
          rw [← hM12]
          have hCM12 : qMI M12 := by rw [hM12]; exact hC.put98' (by refine ⟨by omega, fun _ => by omega, fun _ => by omega, fun _ => by omega, fun _ => by omega, fun _ => by omega, fun _ => by omega, fun _ => by omega, fun c9 hc9 _ => by omega, fun u9 hu9 _ => by omega, fun m9 hm9 _ => by omega, fun a9 ha9 => ⟨fun _ => by omega, fun _ => by omega, fun _ => by omega, fun _ => by omega⟩, fun t9 ht9 _ => by omega, fun o9 ho9 _ => by omega⟩) (by omega) (by omega)
          have hWM12 : qFm [98] M M12 := by rw [hM12]; exact hW.pa (by decide) (by decide)
          have e13 : M12 98 3 = M 98 3 := by rw [hM12]; exact qput_nk (by omega)
          show zG n (0, 0) d 191 (59, [.inr (.inr (some 97)), .inl a1, .inl a2, .inl x7], []) M12 _
          refine zG_blk (c' := (60, [.inr (.inr (some 97)), .inl a1, .inl a2, .inl x7], [.inl 1])) 1 hd0 hz (by rfl) ?_
          exact zG_ret hd0 hz rfl rfl ⟨⟨hCM12, hWM12⟩, _, rfl, by omega⟩
        refine zG_if_eq hd0 hz rfl (fun hb14 => ?_) (fun hb14 => ?_)
        · refine zG_blk (c' := (58, [.inr (.inr (some 97)), .inl a1, .inl a2, .inl x7], [.inl 0, .inl x7, .inr (.inr (some 98))])) 1 hd0 hz (by rfl) ?_
          exact j58 0 (by first | decide | omega)
        · refine zG_blk (c' := (58, [.inr (.inr (some 97)), .inl a1, .inl a2, .inl x7], [.inl 1, .inl x7, .inr (.inr (some 98))])) 2 hd0 hz (by rfl) ?_
          exact j58 1 (by first | decide | omega)
      · refine zG_blk (c' := (43, [.inr (.inr (some 97)), .inl a1, .inl a2, .inl x7], [.inl (-3)])) 1 hd0 hz (by rfl) ?_
        exact zG_ret hd0 hz rfl rfl ⟨⟨hC, hW⟩, _, rfl, by omega⟩
    refine zG_icmp_ne hd0 hz rfl (fun hb15 => ?_) (fun hb15 => ?_)
    · refine zG_blk (c' := (37, [.inr (.inr (some 97)), .inl a1, .inl a2, .inl x7], [.inl 0])) 1 hd0 hz (by rfl) ?_
      exact j37 0 (by first | decide | omega)
    · refine zG_blk (c' := (37, [.inr (.inr (some 97)), .inl a1, .inl a2, .inl x7], [.inl 1])) 2 hd0 hz (by rfl) ?_
      exact j37 1 (by first | decide | omega)
  · refine zG_blk (c' := (11, [.inr (.inr (some 97)), .inl a1, .inl a2, zN], [.inl (-2)])) 1 hd0 hz (by rfl) ?_
    exact zG_ret hd0 hz rfl rfl ⟨⟨hC, hW⟩, _, rfl, by omega⟩
