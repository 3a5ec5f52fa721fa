/-! WHAT IS TOLD: STORES -/
section PT
variable {n d : Nat} {M : zM}
theorem qx_oneC (hd : 1 ≤ d) (hC : qMI M) (c : Nat) (hc : c ≤ 6) (hc4 : c ≠ 4) (hl : qOS c (M 98 c + 1)) : qOkN n d 183 [zR 97, .inl c] 2 [98] M (fun v M' => ∃ x : Int, v = some (.inl x) ∧ (x = M 98 c) ∧ (M' 98 c = M 98 c + 1) ∧ (∀ j : Nat, j ≠ c → M' 98 j = M 98 j)) := by
  refine (qx_one hd hC c hc).mono (fun r M' h => ?_)
  obtain ⟨rfl, rfl⟩ := h
  refine ⟨⟨hC.put98' hl hc4 (by omega), qFm.rfl.pa (by decide) (by decide)⟩, _, rfl, rfl, qput_eq, fun j hj => qput_nk hj⟩
/-- an act more -/
theorem qMI.act4 (h : qMI M) (h4 : M 98 4 < 250) (hr : qA M (M 98 4) 6 < M 98 4 ∧ (qA M (M 98 4) 0 = 5 → 0 ≤ qA M (M 98 4) 6) ∧ (qA M (M 98 4) 0 = 1 → 0 ≤ qA M (M 98 4) 6) ∧ (qA M (M 98 4) 0 = 2 → 0 ≤ qA M (M 98 4) 6) ∧ (qA M (M 98 4) 0 = 0 → 0 ≤ qA M (M 98 4) 5) ∧ (qA M (M 98 4) 0 = 4 → 0 ≤ qA M (M 98 4) 5) ∧ (qA M (M 98 4) 0 = 0 → 0 ≤ qA M (M 98 4) 4) ∧ (qA M (M 98 4) 0 = 4 → 0 ≤ qA M (M 98 4) 4) ∧ (qA M (M 98 4) 0 = 6 → 0 ≤ qA M (M 98 4) 4) ∧ (qA M (M 98 4) 0 = 3 → 1 ≤ qA M (M 98 4) 10)) : qMI (zput M 98 4 (M 98 4 + 1)) := by
  have h0 := h.cnt4
  refine h.put98 (by refine ⟨by omega, fun _ => by omega, fun _ => by omega, fun _ => by omega, fun _ => by omega, fun _ => by omega, fun _ => by omega, fun _ => by omega, fun c hc _ => by omega, fun u hu _ => by omega, fun m hm _ => by omega, fun a ha => ⟨fun _ => by omega, fun _ => by omega, fun _ => by omega, fun _ => by omega⟩, fun t ht _ => by omega, fun o ho _ => by omega⟩) ?_
  intro a ha
  have e : ∀ j, j ≠ 4 → zput M 98 4 (M 98 4 + 1) 98 j = M 98 j := fun j hj => qput_nk hj
  rw [qput_eq] at ha
  rw [e _ (by omega), e _ (by omega), e _ (by omega), e _ (by omega), e _ (by omega)]
  by_cases hs : (a : Int) < M 98 4
  · exact h.1.2 a hs
  · have hk : ∀ (k : Int) (z : Nat), (350 + 12 * M 98 4 + k).toNat = z → qA M (M 98 4) k = M 98 z := fun k z h => by unfold qA; rw [h]
    have hr' := hr
    rw [hk 6 (356 + 12 * a) (by omega), hk 5 (355 + 12 * a) (by omega), hk 4 (354 + 12 * a) (by omega), hk 10 (360 + 12 * a) (by omega), hk 0 (350 + 12 * a) (by omega)] at hr'
    refine ⟨by omega, hr'.2⟩
theorem qx_one4 (hd : 1 ≤ d) (hC : qMI M) (s : Int) (hs : s = M 98 4) (h4 : s < 250) (hr : qA M s 6 < s ∧ (qA M s 0 = 5 → 0 ≤ qA M s 6) ∧ (qA M s 0 = 1 → 0 ≤ qA M s 6) ∧ (qA M s 0 = 2 → 0 ≤ qA M s 6) ∧ (qA M s 0 = 0 → 0 ≤ qA M s 5) ∧ (qA M s 0 = 4 → 0 ≤ qA M s 5) ∧ (qA M s 0 = 0 → 0 ≤ qA M s 4) ∧ (qA M s 0 = 4 → 0 ≤ qA M s 4) ∧ (qA M s 0 = 6 → 0 ≤ qA M s 4) ∧ (qA M s 0 = 3 → 1 ≤ qA M s 10)) : qOkN n d 183 [zR 97, .inl 4] 2 [98] M (fun v M' => ∃ x : Int, v = some (.inl x) ∧ (x = s) ∧ (M' 98 4 = s + 1) ∧ (∀ j : Nat, j ≠ 4 → M' 98 j = M 98 j)) := by
  subst hs
  refine (qx_one hd hC 4 (by decide)).mono (fun r M' h => ?_)
  obtain ⟨rfl, rfl⟩ := h
  exact ⟨⟨hC.act4 h4 hr, qFm.rfl.pa (by decide) (by decide)⟩, _, rfl, rfl, qput_eq, fun j hj => qput_nk hj⟩
theorem qx_putsM (hd : 1 ≤ d) (hC : qMI M) (k : Int) (x : Int) (hx : qin x) (s : Int) (hs : s = M 98 4) (h4 : s < 250) (hk : 0 ≤ k ∧ k < 12) (hv : (k = 3 → -1 ≤ x ∧ x ≤ 39) ∧ (k = 4 → -1 ≤ x ∧ x ≤ 19) ∧ (k = 5 → -1 ≤ x ∧ x ≤ 13) ∧ (k = 6 → -1 ≤ x ∧ x ≤ 249)) : qOkN n d 195 [zR 97, .inl k, .inl x] 3 [98] M (fun v M' => v = none ∧ (qA M' s k = x) ∧ (∀ j : Nat, (j : Int) ≠ 350 + 12 * s + k → M' 98 j = M 98 j)) := by
  have h0 := hC.cnt4
  rw [← hs] at h0
  refine (qx_puts hd (by omega) k hk x).mono (fun r M' h => ?_)
  obtain ⟨rfl, rfl⟩ := h
  rw [← hs]
  refine ⟨⟨hC.put98' ?_ (by omega) (by omega), qFm.rfl.pa (by decide) (by decide)⟩, rfl, qput_eq, fun j hj => qput_nk (by omega)⟩
  exact ⟨hx, fun _ => by omega, fun _ => by omega, fun _ => by omega, fun _ => by omega, fun _ => by omega, fun _ => by omega, fun _ => by omega, fun c hc _ => by omega, fun u hu _ => by omega, fun m hm _ => by omega, fun a ha => ⟨fun _ => by omega, fun _ => by omega, fun _ => by omega, fun _ => by omega⟩, fun t ht _ => by omega, fun o ho _ => by omega⟩
theorem qx_begins (hd : 2 ≤ d) (hC : qMI M) (a b c e : Int) (ha : qin a) (hb : qin b) (hc : qin c) (s : Int) (hs : s = M 98 4) (h4 : s < 250) (he : -1 ≤ e ∧ e ≤ 39) : qOkN n d 196 [zR 97, .inl a, .inl b, .inl c, .inl e] 6 [98] M (fun v M' => v = none ∧ (qA M' s 0 = a) ∧ (qA M' s 1 = b) ∧ (qA M' s 2 = c) ∧ (qA M' s 3 = e) ∧ (qA M' s 4 = -1) ∧ (qA M' s 5 = -1) ∧ (qA M' s 6 = -1) ∧ (qA M' s 7 = -1) ∧ (qA M' s 8 = -1) ∧ (qA M' s 9 = -1) ∧ (qA M' s 10 = -1) ∧ (qA M' s 11 = -1) ∧ (∀ j : Nat, ((j : Int) < 350 + 12 * s ∨ 362 + 12 * s ≤ j) → M' 98 j = M 98 j)) := by
  have hz := zp_196
  have hd0 : 0 < d := by omega
  have h0 := hC.cnt4
  rw [← hs] at h0
  have hqA : ∀ (M1 M2 : zM) (k : Int), (∀ j : Nat, (j : Int) ≠ 350 + 12 * s + k → M2 98 j = M1 98 j) → 0 ≤ k → ∀ k' : Int, 0 ≤ k' → k' ≠ k → qA M2 s k' = qA M1 s k' := fun M1 M2 k h hk k' hk' hne => h _ (by omega)
  show zG n (0, 0) d 196 (0, [zR 97, .inl a, .inl b, .inl c, .inl e, zN], []) M _
  refine zG_blk (c' := (3, [zR 97, .inl a, .inl b, .inl c, .inl e, zN], [.inl a, .inl 0, zR 97])) 3 hd0 hz rfl ?_
  refine zG_call hd0 hz zp_195 rfl rfl (Nat.le_of_ble_eq_true rfl) ⟨Nat.le_refl _, Nat.le_refl _⟩ (qx_putsM (by first | exact zdp hd (by decide) | omega) hC 0 a ha s hs h4 (by omega) (by refine ⟨?_, ?_, ?_, ?_⟩ <;> omega)) (fun vr M1 hr => ?_)
  obtain ⟨⟨hC1, hF1⟩, rfl, hv1, hr1⟩ := hr
  have c1 : s = M1 98 4 := by rw [hr1 4 (by first | decide | omega)]; exact hs
  refine zG_blk (c' := (9, [zR 97, .inl a, .inl b, .inl c, .inl e, zN], [.inl b, .inl 1, zR 97])) 3 hd0 hz rfl ?_
  refine zG_call hd0 hz zp_195 rfl rfl (Nat.le_of_ble_eq_true rfl) ⟨Nat.le_refl _, Nat.le_refl _⟩ (qx_putsM (by first | exact zdp hd (by decide) | omega) hC1 1 b hb s c1 h4 (by omega) (by refine ⟨?_, ?_, ?_, ?_⟩ <;> omega)) (fun vr M2 hr => ?_)
  obtain ⟨⟨hC2, hF2⟩, rfl, hv2, hr2⟩ := hr
  have c2 : s = M2 98 4 := by rw [hr2 4 (by first | decide | omega)]; exact c1
  refine zG_blk (c' := (15, [zR 97, .inl a, .inl b, .inl c, .inl e, zN], [.inl c, .inl 2, zR 97])) 3 hd0 hz rfl ?_
  refine zG_call hd0 hz zp_195 rfl rfl (Nat.le_of_ble_eq_true rfl) ⟨Nat.le_refl _, Nat.le_refl _⟩ (qx_putsM (by first | exact zdp hd (by decide) | omega) hC2 2 c hc s c2 h4 (by omega) (by refine ⟨?_, ?_, ?_, ?_⟩ <;> omega)) (fun vr M3 hr => ?_)
  obtain ⟨⟨hC3, hF3⟩, rfl, hv3, hr3⟩ := hr
  have c3 : s = M3 98 4 := by rw [hr3 4 (by first | decide | omega)]; exact c2
  refine zG_blk (c' := (22, [zR 97, .inl a, .inl b, .inl c, .inl e, zN], [.inl e, .inl 3, zR 97])) 3 hd0 hz rfl ?_
  refine zG_call hd0 hz zp_195 rfl rfl (Nat.le_of_ble_eq_true rfl) ⟨Nat.le_refl _, Nat.le_refl _⟩ (qx_putsM (by first | exact zdp hd (by decide) | omega) hC3 3 e (by omega) s c3 h4 (by omega) (by refine ⟨?_, ?_, ?_, ?_⟩ <;> omega)) (fun vr M4 hr => ?_)
  obtain ⟨⟨hC4, hF4⟩, rfl, hv4, hr4⟩ := hr
  have c4 : s = M4 98 4 := by rw [hr4 4 (by first | decide | omega)]; exact c3
  have g0 : qA M4 s 0 = a := by rw [hqA M3 M4 3 hr4 (by omega) 0 (by first | decide | omega) (by omega), hqA M2 M3 2 hr3 (by omega) 0 (by first | decide | omega) (by omega), hqA M1 M2 1 hr2 (by omega) 0 (by first | decide | omega) (by omega)]; exact hv1
  have g1 : qA M4 s 1 = b := by rw [hqA M3 M4 3 hr4 (by omega) 1 (by first | decide | omega) (by omega), hqA M2 M3 2 hr3 (by omega) 1 (by first | decide | omega) (by omega)]; exact hv2
  have g2 : qA M4 s 2 = c := by rw [hqA M3 M4 3 hr4 (by omega) 2 (by first | decide | omega) (by omega)]; exact hv3
  have hR4 : ∀ j : Nat, ((j : Int) < 350 + 12 * s ∨ 362 + 12 * s ≤ j) → M4 98 j = M 98 j := fun j hj => by rw [hr4 j (by omega), hr3 j (by omega), hr2 j (by omega), hr1 j (by omega)]
  refine zG_blk (c' := (28, [zR 97, .inl a, .inl b, .inl c, .inl e, .inl 4], [])) 2 hd0 hz rfl ?_
  have lp : ∀ (N : Nat) (i : Int) (M5 : zM), (12 - i).toNat < N → (4 ≤ i ∧ i ≤ 12) → qMI M5 → qFm [98] M M5 → (qA M5 s 0 = a ∧ qA M5 s 1 = b ∧ qA M5 s 2 = c ∧ qA M5 s 3 = e) → (∀ k : Int, 4 ≤ k → k < i → qA M5 s k = -1) → (∀ j : Nat, ((j : Int) < 350 + 12 * s ∨ 362 + 12 * s ≤ j) → M5 98 j = M 98 j) → zG n (0, 0) d 196 (28, [zR 97, .inl a, .inl b, .inl c, .inl e, .inl i], []) M5 (fun v M' => (qMI M' ∧ qFm [98] M M') ∧ v = none ∧ (qA M' s 0 = a) ∧ (qA M' s 1 = b) ∧ (qA M' s 2 = c) ∧ (qA M' s 3 = e) ∧ (qA M' s 4 = -1) ∧ (qA M' s 5 = -1) ∧ (qA M' s 6 = -1) ∧ (qA M' s 7 = -1) ∧ (qA M' s 8 = -1) ∧ (qA M' s 9 = -1) ∧ (qA M' s 10 = -1) ∧ (qA M' s 11 = -1) ∧ (∀ j : Nat, ((j : Int) < 350 + 12 * s ∨ 362 + 12 * s ≤ j) → M' 98 j = M 98 j)) := by
    intro N
    induction N with
    | zero => intro i M5 hN; exact absurd hN (Nat.not_lt_zero _)
    | succ N ih =>
      intro i M5 hN hi hC5 hW5 hg hk hR
      refine zG_blk (c' := (32, [zR 97, .inl a, .inl b, .inl c, .inl e, .inl i], [.inl 12, .inl i])) 2 hd0 hz rfl ?_
      refine zG_icmp_ge hd0 hz rfl (fun hb => ?_) (fun hb => ?_)
      · exact zG_ret hd0 hz rfl rfl ⟨⟨hC5, hW5⟩, rfl, hg.1, hg.2.1, hg.2.2.1, hg.2.2.2, hk 4 (by first | decide | omega) (by omega), hk 5 (by first | decide | omega) (by omega), hk 6 (by first | decide | omega) (by omega), hk 7 (by first | decide | omega) (by omega), hk 8 (by first | decide | omega) (by omega), hk 9 (by first | decide | omega) (by omega), hk 10 (by first | decide | omega) (by omega), hk 11 (by first | decide | omega) (by omega), hR⟩
      · have c5 : s = M5 98 4 := by rw [hR 4 (by first | decide | omega)]; exact hs
        refine zG_blk (c' := (39, [zR 97, .inl a, .inl b, .inl c, .inl e, .inl i], [.inl (-1), .inl i, zR 97])) 3 hd0 hz rfl ?_
        refine zG_call hd0 hz zp_195 rfl rfl (Nat.le_of_ble_eq_true rfl) ⟨Nat.le_refl _, Nat.le_refl _⟩ (qx_putsM (by first | exact zdp hd (by decide) | omega) hC5 i (-1) (by first | decide | omega) s c5 h4 (by omega) (by refine ⟨?_, ?_, ?_, ?_⟩ <;> omega)) (fun vr M6 hr => ?_)
        obtain ⟨⟨hC6, hF6⟩, rfl, hv6, hr6⟩ := hr
        refine zG_blk (c' := (28, [zR 97, .inl a, .inl b, .inl c, .inl e, .inl (i + 1)], [])) 2 hd0 hz (by rw [show (.inl (i + 1) : zV) = .inl (w32 (i + 1)) from by rw [w32_id (by omega)]]; rfl) ?_
        refine ih (i + 1) M6 (by omega) (by omega) hC6 (hW5.tr hF6 (fun _ h => h)) ⟨?_, ?_, ?_, ?_⟩ (fun k h1 h2 => ?_) (fun j hj => ?_)
        · rw [hqA M5 M6 i hr6 (by omega) 0 (by first | decide | omega) (by omega)]; exact hg.1
        · rw [hqA M5 M6 i hr6 (by omega) 1 (by first | decide | omega) (by omega)]; exact hg.2.1
        · rw [hqA M5 M6 i hr6 (by omega) 2 (by first | decide | omega) (by omega)]; exact hg.2.2.1
        · rw [hqA M5 M6 i hr6 (by omega) 3 (by first | decide | omega) (by omega)]; exact hg.2.2.2
        · by_cases hki : k = i
          · rw [hki]; exact hv6
          · rw [hqA M5 M6 i hr6 (by omega) k (by omega) hki]; exact hk k h1 (by omega)
        · rw [hr6 j (by omega)]; exact hR j hj
  refine lp 13 4 M4 (by omega) (by omega) hC4 (((hF1.tr hF2 (fun _ h => h)).tr hF3 (fun _ h => h)).tr hF4 (fun _ h => h)) ⟨g0, g1, g2, hv4⟩ (fun k h1 h2 => absurd h1 (by omega)) hR4
end PT
