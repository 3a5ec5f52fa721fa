theorem qm_209_97 {n d : Nat} {M : zM} (hd : 2 ≤ d) (hC : qMI M)  (a1 : Int) (ha1 : (-2147483648) ≤ a1 ∧ a1 ≤ 2147483647) : qOkN n d 209 [.inr (.inr (some 97)), .inl a1] 3 [98] M (fun v M' => ∃ x : Int, v = some (.inl x) ∧ ((-2147483648) ≤ x ∧ x ≤ 2147483647)) := by
  have hz := zp_209
  have hd0 : 0 < d := by omega
  have hW : qFm [98] M M := qFm.rfl
  show zG n (0, 0) d 209 (0, [.inr (.inr (some 97)), .inl a1, zN], []) M _
  refine zG_blk (c' := (5, [.inr (.inr (some 97)), .inl a1, zN], [.inl 1000, .inl 0, .inl a1])) 3 hd0 hz (by rfl) ?_
  refine zG_call hd0 hz zp_180 rfl rfl (Nat.le_of_ble_eq_true rfl) ⟨Nat.le_refl _, Nat.le_refl _⟩ (qx_in (by first | exact zdp hd (by decide) | omega) hC   a1 (by first | with_reducible exact ha1 | omega) 0 (by first | decide | omega) 1000 (by first | decide | omega) ) (fun vr M1 hr => ?_)
  obtain ⟨hq, x2, rfl, hx2⟩ := hr
  replace hq := hq.symm; subst hq
  show zG n (0, 0) d 209 (8, [.inr (.inr (some 97)), .inl a1, zN], [.inl x2]) M _
  refine zG_if_ne hd0 hz rfl (fun hb3 => ?_) (fun hb3 => ?_)
  · have hcx2 := hx2.2.2.mp (by omega)
    clear hx2 hb3
    refine zG_blk (c' := (20, [.inr (.inr (some 97)), .inl a1, zN], [.inl 7, .inr (.inr (some 98))])) 3 hd0 hz (by rfl) ?_
    refine zG_iald hd0 hz rfl rfl (.inl rfl) (by omega) ?_
    have r4 := hC.sin 7
    show zG n (0, 0) d 209 (21, [.inr (.inr (some 97)), .inl a1, zN], [.inl (M 98 7)]) M _
    refine zG_blk (c' := (29, [.inr (.inr (some 97)), .inl a1, .inl (M 98 7)], [.inl a1, .inl 7, .inr (.inr (some 98))])) 5 hd0 hz (by rfl) ?_
    refine zG_iast hd0 hz rfl rfl (by omega) ?_
    obtain ⟨M5, hM5⟩ : ∃ X : zM, X = zput M 98 (7 : Int).toNat a1 := ⟨_, rfl⟩
    rw [← hM5]
    have hCM5 : qMI M5 := by rw [hM5]; exact hC.put98' (by refine ⟨by omega, fun _ => by omega, fun _ => by omega, fun _ => by omega, fun _ => by omega, fun _ => by omega, fun _ => by omega, fun _ => by omega, fun c9 hc9 _ => by omega, fun u9 hu9 _ => by omega, fun m9 hm9 _ => by omega, fun a9 ha9 => ⟨fun _ => by omega, fun _ => by omega, fun _ => by omega, fun _ => by omega⟩, fun t9 ht9 _ => by omega, fun o9 ho9 _ => by omega⟩) (by omega) (by omega)
    have hWM5 : qFm [98] M M5 := by rw [hM5]; exact hW.pa (by decide) (by decide)
    show zG n (0, 0) d 209 (30, [.inr (.inr (some 97)), .inl a1, .inl (M 98 7)], []) M5 _
    refine zG_blk (c' := (31, [.inr (.inr (some 97)), .inl a1, .inl (M 98 7)], [.inl (M 98 7)])) 1 hd0 hz (by rfl) ?_
    exact zG_ret hd0 hz rfl rfl ⟨⟨hCM5, hWM5⟩, _, rfl, by omega⟩
  · refine zG_blk (c' := (13, [.inr (.inr (some 97)), .inl a1, zN], [.inl (-2)])) 1 hd0 hz (by rfl) ?_
    exact zG_ret hd0 hz rfl rfl ⟨⟨hC, hW⟩, _, rfl, by omega⟩
