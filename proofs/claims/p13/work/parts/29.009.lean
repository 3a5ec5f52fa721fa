theorem qm_242_97 {n d : Nat} {M : zM} (hd : 7 ≤ d) (hC : qMI M)  (a1 : Int) (ha1 : 0 ≤ a1 ∧ a1 ≤ 19) (a2 : Int) (ha2 : (-2147483648) ≤ a2 ∧ a2 ≤ 2147483647) : qOkN n d 242 [.inr (.inr (some 97)), .inl a1, .inl a2] 4 [105, 106, 107, 1007, 1010, 1012, 1013] M (fun v M' => ∃ x : Int, v = some (.inl x) ∧ ((-1) ≤ x ∧ x ≤ 9)) := by
  have hz := zp_242
  have hd0 : 0 < d := by omega
  have hW : qFm [105, 106, 107, 1007, 1010, 1012, 1013] M M := qFm.rfl
  show zG n (0, 0) d 242 (0, [.inr (.inr (some 97)), .inl a1, .inl a2, zN], []) M _
  refine zG_blk (c' := (3, [.inr (.inr (some 97)), .inl a1, .inl a2, zN], [.inl a2, .inl a1, .inr (.inr (some 97))])) 3 hd0 hz (by rfl) ?_
  refine zG_call hd0 hz zp_237 rfl rfl (Nat.le_of_ble_eq_true rfl) ⟨Nat.le_refl _, Nat.le_refl _⟩ (qm_237_97 (by first | exact zdp hd (by decide) | omega) hC   a1 (by first | with_reducible exact ha1 | omega) a2 (by first | with_reducible exact ha2 | omega) ) (fun vr M1 hr => ?_)
  obtain ⟨hq, x2, rfl, hx2⟩ := hr
  replace hq := hq.symm; subst hq
  show zG n (0, 0) d 242 (6, [.inr (.inr (some 97)), .inl a1, .inl a2, zN], [.inl x2]) M _
  refine zG_blk (c' := (9, [.inr (.inr (some 97)), .inl a1, .inl a2, .inl x2], [.inl (-1), .inl x2])) 3 hd0 hz (by rfl) ?_
  have j29 : ∀ (M3 : zM) , qMI M3 → qFm [105, 106, 107, 1007, 1010, 1012, 1013] M M3 → zG n (0, 0) d 242 (29, [.inr (.inr (some 97)), .inl a1, .inl a2, .inl x2], []) M3 (fun v M' => (qMI M' ∧ qFm [105, 106, 107, 1007, 1010, 1012, 1013] M M') ∧ ∃ x : Int, v = some (.inl x) ∧ ((-1) ≤ x ∧ x ≤ 9)) := by
    intro M3 hCM3 hWM3
    refine zG_blk (c' := (30, [.inr (.inr (some 97)), .inl a1, .inl a2, .inl x2], [.inl x2])) 1 hd0 hz (by rfl) ?_
    exact zG_ret hd0 hz rfl rfl ⟨⟨hCM3, hWM3⟩, _, rfl, by omega⟩
  refine zG_icmp_eq hd0 hz rfl (fun hb4 => ?_) (fun hb4 => ?_)
  · exact j29 M hC hW
  · obtain ⟨x5, hx5⟩ : ∃ x : Int, x = w32 (164 * x2) := ⟨_, rfl⟩
    have hx5e : x5 = 164 * x2 := by rw [hx5]; exact w32_id (by omega)
    obtain ⟨x6, hx6⟩ : ∃ x : Int, x = w32 (4000 + x5) := ⟨_, rfl⟩
    have hx6e : x6 = 4000 + x5 := by rw [hx6]; exact w32_id (by omega)
    obtain ⟨x7, hx7⟩ : ∃ x : Int, x = w32 (x6 + 81) := ⟨_, rfl⟩
    have hx7e : x7 = x6 + 81 := by rw [hx7]; exact w32_id (by omega)
    refine zG_blk (c' := (25, [.inr (.inr (some 97)), .inl a1, .inl a2, .inl x2], [.inl x7, .inr (.inr (some 97))])) 8 hd0 hz (by subst hx7; subst hx6; subst hx5; rfl) ?_
    refine zG_call hd0 hz zp_231 rfl rfl (Nat.le_of_ble_eq_true rfl) ⟨Nat.le_refl _, Nat.le_refl _⟩ (qm_231_97 (by first | exact zdp hd (by decide) | omega) hC   x7 (by omega) (by exact hC.ord x2 _ (by omega) (.inr (by omega)))) (fun vr M8 hr => ?_)
    obtain ⟨⟨hCM8, hFM8⟩, x9, rfl, hx9⟩ := hr
    have hWM8 : qFm [105, 106, 107, 1007, 1010, 1012, 1013] M M8 := hW.tr hFM8 (by decide)
    show zG n (0, 0) d 242 (28, [.inr (.inr (some 97)), .inl a1, .inl a2, .inl x2], [.inl x9]) M8 _
    refine zG_blk (c' := (29, [.inr (.inr (some 97)), .inl a1, .inl a2, .inl x2], [])) 1 hd0 hz (by rfl) ?_
    exact j29 M8 hCM8 hWM8
