/-! IMAGES -/
theorem qRA_congr {f g : Nat → Int} (h : ∀ j, j < 5664 → f j = g j) (h4 : g 4 ≤ 250) (hg : qRA g) : qRA f := by
  intro a ha
  rw [h 4 (by first | decide | omega)] at ha
  rw [h _ (by omega), h _ (by omega), h _ (by omega), h _ (by omega), h _ (by omega)]
  exact hg a ha
theorem qSt_congr {f g : Nat → Int} (h : ∀ j, j < 5664 → f j = g j) (hq : ∀ j, 5664 ≤ j → qin (f j)) (hg : qSt g) : qSt f := by
  refine ⟨fun j => ?_, qRA_congr h ((hg.1 4).2.2.2.2.2.1 rfl).2 hg.2⟩
  by_cases hj : j < 5664
  · rw [h j hj]; exact hg.1 j
  · exact ⟨hq j (by omega), fun _ => by omega, fun _ => by omega, fun _ => by omega, fun _ => by omega, fun _ => by omega, fun _ => by omega, fun _ => by omega, fun c hc _ => by omega, fun u hu _ => by omega, fun m hm _ => by omega, fun a ha => ⟨fun _ => by omega, fun _ => by omega, fun _ => by omega, fun _ => by omega⟩, fun t ht _ => by omega, fun o ho _ => by omega⟩
theorem qMI.im {M : zM} (h : qMI M) (i : Int) (hi : 0 ≤ i ∧ i ≤ 1) : qSt (fun j => M 99 ((5664 * i).toNat + j)) := by
  rcases (by omega : i = 0 ∨ i = 1) with rfl | rfl
  · have e : (fun j : Nat => M 99 ((5664 * (0 : Int)).toNat + j)) = M 99 := by funext j; show M 99 (0 + j) = M 99 j; rw [Nat.zero_add]
    rw [e]; exact h.2.1
  · exact h.2.2.1
section IM
variable {n d : Nat} {M : zM}
theorem qx_image (hd : 2 ≤ d) (hC : qMI M) (a : Int) (ha : qin a) : qOkN n d 290 [zR 97, .inl a] 3 [99, 100] M (fun v M' => (v = some (.inl (-2)) ∧ ¬ (0 ≤ a ∧ a ≤ 1) ∧ M' = M) ∨ (v = some (.inl 1) ∧ (0 ≤ a ∧ a ≤ 1) ∧ (M' 100 a.toNat = 1 ∧ ∀ j, j ≠ a.toNat → M' 100 j = M 100 j) ∧ (∀ j : Nat, j < 5664 → M' 99 ((5664 * a).toNat + j) = M 98 j) ∧ (∀ j : Nat, (j < (5664 * a).toNat ∨ (5664 * a).toNat + 5664 ≤ j) → M' 99 j = M 99 j))) := by
  have hz := zp_290
  have hd0 : 0 < d := by omega
  show zG n (0, 0) d 290 (0, [zR 97, .inl a, zN], []) M _
  refine zG_blk (c' := (3, [zR 97, .inl a, zN], [.inl 1, .inl 0, .inl a])) 3 hd0 hz rfl ?_
  refine zG_call hd0 hz zp_180 rfl rfl (Nat.le_of_ble_eq_true rfl) ⟨Nat.le_refl _, Nat.le_refl _⟩ (qx_in (by first | exact zdp hd (by decide) | omega) hC a ha 0 (by first | decide | omega) 1 (by first | decide | omega)) (fun vr Mr hr => ?_)
  obtain ⟨rfl, x, rfl, hx⟩ := hr
  show zG n (0, 0) d 290 (6, [zR 97, .inl a, zN], [.inl x]) Mr _
  refine zG_if_ne hd0 hz rfl (fun hb => ?_) (fun hb => ?_)
  · have ha1 : 0 ≤ a ∧ a ≤ 1 := by omega
    obtain ⟨b, hb0⟩ : ∃ b : Int, b = 5664 * a := ⟨_, rfl⟩
    rw [← hb0]
    have hb1 : b = 0 ∨ b = 5664 := by omega
    refine zG_blk (c' := (18, [zR 97, .inl a, zN], [.inl 1, .inl a, zR 100])) 4 hd0 hz rfl ?_
    refine zG_bast (.inr rfl) hd0 hz rfl rfl (by omega) ?_
    refine zG_blk (c' := (21, [zR 97, .inl a, .inl 0], [])) 2 hd0 hz rfl ?_
    have lp : ∀ (N : Nat) (i : Int) (M5 : zM), (5664 - i).toNat < N → (0 ≤ i ∧ i ≤ 5664) → (∀ r j, r ≠ 99 → M5 r j = zput Mr 100 a.toNat 1 r j) → (∀ j : Nat, (j : Int) < i → M5 99 (b.toNat + j) = Mr 98 j) → (∀ j : Nat, (j < b.toNat ∨ b.toNat + i ≤ j) → M5 99 j = Mr 99 j) → zG n (0, 0) d 290 (21, [zR 97, .inl a, .inl i], []) M5 (fun v M' => (qMI M' ∧ qFm [99, 100] Mr M') ∧ ((v = some (.inl (-2)) ∧ ¬ (0 ≤ a ∧ a ≤ 1) ∧ M' = Mr) ∨ (v = some (.inl 1) ∧ (0 ≤ a ∧ a ≤ 1) ∧ (M' 100 a.toNat = 1 ∧ ∀ j, j ≠ a.toNat → M' 100 j = Mr 100 j) ∧ (∀ j : Nat, j < 5664 → M' 99 (b.toNat + j) = Mr 98 j) ∧ (∀ j : Nat, (j < b.toNat ∨ b.toNat + 5664 ≤ j) → M' 99 j = Mr 99 j)))) := by
      intro N
      induction N with
      | zero => intro i M5 hN; exact absurd hN (Nat.not_lt_zero _)
      | succ N ih =>
        intro i M5 hN hi hO hL hR
        refine zG_blk (c' := (25, [zR 97, .inl a, .inl i], [.inl 5664, .inl i])) 2 hd0 hz rfl ?_
        refine zG_icmp_ge hd0 hz rfl (fun hb2 => ?_) (fun hb2 => ?_)
        · have hi2 : i = 5664 := by omega
          subst hi2
          refine zG_blk (c' := (53, [zR 97, .inl a, .inl 5664], [.inl 1])) 1 hd0 hz rfl ?_
          have e100 : ∀ j, j ≠ a.toNat → M5 100 j = Mr 100 j := fun j hj => by rw [hO 100 j (by decide)]; exact qput_nk hj
          have e100' : M5 100 a.toNat = 1 := by rw [hO 100 _ (by decide)]; exact qput_eq
          have eo : ∀ r j, r ≠ 99 → r ≠ 100 → M5 r j = Mr r j := fun r j h1 h2 => by rw [hO r j h1]; exact qput_ne h2
          have q99 : ∀ j, qin (M5 99 j) := by
            intro j
            by_cases hj : j < b.toNat ∨ b.toNat + 5664 ≤ j
            · rw [hR j (by omega)]; exact hC.iin j
            · have := hL (j - b.toNat) (by omega)
              rw [show b.toNat + (j - b.toNat) = j by omega] at this
              rw [this]; exact hC.sin _
          refine zG_ret hd0 hz rfl rfl ⟨⟨⟨?_, ?_, ?_, fun r k hr => ?_, ?_⟩, fun r j hrj => ?_⟩, .inr ⟨rfl, ha1, ⟨e100', e100⟩, fun j hj => hL j (by omega), fun j hj => hR j (by omega)⟩⟩
          · rw [show M5 98 = Mr 98 from funext fun j => eo 98 j (by decide) (by decide)]; exact hC.1
          · rcases hb1 with hb1 | hb1
            · refine qSt_congr (g := Mr 98) (fun j hj => ?_) (fun j _ => q99 j) hC.1
              have := hL j (by omega)
              rw [hb1] at this
              rw [← this]; congr 1; omega
            · refine qSt_congr (g := Mr 99) (fun j hj => hR j (by omega)) (fun j _ => q99 j) hC.2.1
          · rcases hb1 with hb1 | hb1
            · refine qSt_congr (g := fun j => Mr 99 (5664 + j)) (fun j hj => hR _ (by omega)) (fun j _ => q99 _) hC.2.2.1
            · refine qSt_congr (g := Mr 98) (fun j hj => ?_) (fun j _ => q99 _) hC.1
              have := hL j (by omega)
              rw [hb1] at this
              exact this
          · by_cases h99 : r = 99
            · subst h99; exact ⟨fun _ => q99 k, fun h => by omega, fun h => by omega, fun h => by omega, fun h => by omega⟩
            · by_cases h100 : r = 100
              · subst h100
                by_cases hk : k = a.toNat
                · rw [hk, e100']; exact ⟨fun _ => by omega, fun _ => .inr rfl, fun h => by omega, fun h => by omega, fun h => by omega⟩
                · rw [e100 k hk]; exact hC.2.2.2.1 100 k hr
              · rw [eo r k h99 h100]; exact hC.2.2.2.1 r k hr
          · have ht := hC.2.2.2.2
            unfold qTS at ht ⊢
            rw [show M5 105 = Mr 105 from funext fun j => eo 105 j (by decide) (by decide), show M5 106 = Mr 106 from funext fun j => eo 106 j (by decide) (by decide), eo 97 7 (by decide) (by decide)]
            exact ht
          · refine eo r j (fun e => hrj ?_) (fun e => hrj ?_) <;> subst e <;> simp [qCd]
        · refine zG_blk (c' := (44, [zR 97, .inl a, .inl i], [.inl i, zR 98, .inl (b + i), zR 99])) 10 hd0 hz (by
            have e : w32 (w32 (5664 * a) + i) = b + i := by rw [w32_id (x := 5664 * a) (by omega), ← hb0, w32_id (by omega)]
            rw [← e]; rfl) ?_
          refine zG_iald hd0 hz rfl rfl (.inl rfl) (by omega) ?_
          refine zG_iast hd0 hz rfl rfl (by omega) ?_
          refine zG_blk (c' := (21, [zR 97, .inl a, .inl (i + 1)], [])) 2 hd0 hz (by rw [show (.inl (i + 1) : zV) = .inl (w32 (i + 1)) from by rw [w32_id (by omega)]]; rfl) ?_
          refine ih (i + 1) _ (by omega) (by omega) (fun r j hr => ?_) (fun j hj => ?_) (fun j hj => ?_)
          · rw [qput_ne hr]; exact hO r j hr
          · by_cases hji : (j : Int) = i
            · rw [show (b + i).toNat = b.toNat + j by omega, qput_eq, show i.toNat = j by omega, hO 98 j (by decide)]; exact qput_ne (by decide)
            · rw [qput_nk (by omega)]; exact hL j (by omega)
          · rw [qput_nk (by omega)]; exact hR j (by omega)
    exact lp 5665 0 _ (by omega) (by omega) (fun _ _ _ => rfl) (fun j hj => absurd hj (by omega)) (fun j _ => qput_ne (by decide))
  · refine zG_blk (c' := (11, [zR 97, .inl a, zN], [.inl (-2)])) 1 hd0 hz rfl ?_
    exact zG_ret hd0 hz rfl rfl ⟨⟨hC, qFm.rfl⟩, .inl ⟨rfl, by omega, rfl⟩⟩
theorem qx_from (hd : 2 ≤ d) (hC : qMI M) (a : Int) (ha : qin a) : qOkN n d 291 [zR 97, .inl a] 3 [98, 1031] M (fun v M' => (v = some (.inl (-2)) ∧ ¬ (0 ≤ a ∧ a ≤ 1) ∧ M' = M) ∨ (v = some (.inl (-3)) ∧ (0 ≤ a ∧ a ≤ 1) ∧ M 100 a.toNat = 0 ∧ M' = M) ∨ (v = some (.inl 1) ∧ (0 ≤ a ∧ a ≤ 1) ∧ M 100 a.toNat ≠ 0 ∧ (∀ j : Nat, j < 5664 → M' 98 j = M 99 ((5664 * a).toNat + j)))) := by
  have hz := zp_291
  have hd0 : 0 < d := by omega
  show zG n (0, 0) d 291 (0, [zR 97, .inl a, zN], []) M _
  refine zG_blk (c' := (3, [zR 97, .inl a, zN], [.inl 1, .inl 0, .inl a])) 3 hd0 hz rfl ?_
  refine zG_call hd0 hz zp_180 rfl rfl (Nat.le_of_ble_eq_true rfl) ⟨Nat.le_refl _, Nat.le_refl _⟩ (qx_in (by first | exact zdp hd (by decide) | omega) hC a ha 0 (by first | decide | omega) 1 (by first | decide | omega)) (fun vr Mr hr => ?_)
  obtain ⟨rfl, x, rfl, hx⟩ := hr
  show zG n (0, 0) d 291 (6, [zR 97, .inl a, zN], [.inl x]) Mr _
  refine zG_if_ne hd0 hz rfl (fun hb => ?_) (fun hb => ?_)
  · have ha1 : 0 ≤ a ∧ a ≤ 1 := by omega
    obtain ⟨b, hb0⟩ : ∃ b : Int, b = 5664 * a := ⟨_, rfl⟩
    rw [← hb0]
    have hb1 : b = 0 ∨ b = 5664 := by omega
    have him := hC.im a ha1
    rw [← hb0] at him
    refine zG_blk (c' := (17, [zR 97, .inl a, zN], [.inl a, zR 100])) 3 hd0 hz rfl ?_
    refine zG_bald hd0 hz rfl rfl (.inl rfl) (by omega) ?_
    refine zG_if_ne hd0 hz rfl (fun hk => ?_) (fun hk => ?_)
    · refine zG_blk (c' := (26, [zR 97, .inl a, .inl 0], [])) 2 hd0 hz rfl ?_
      have lp : ∀ (N : Nat) (i : Int) (M5 : zM), (5664 - i).toNat < N → (0 ≤ i ∧ i ≤ 5664) → (∀ r j, r ≠ 98 → M5 r j = Mr r j) → (∀ j : Nat, (j : Int) < i → M5 98 j = Mr 99 (b.toNat + j)) → (∀ j : Nat, i ≤ (j : Int) → M5 98 j = Mr 98 j) → zG n (0, 0) d 291 (26, [zR 97, .inl a, .inl i], []) M5 (fun v M' => (qMI M' ∧ qFm [98, 1031] Mr M') ∧ ((v = some (.inl (-2)) ∧ ¬ (0 ≤ a ∧ a ≤ 1) ∧ M' = Mr) ∨ (v = some (.inl (-3)) ∧ (0 ≤ a ∧ a ≤ 1) ∧ Mr 100 a.toNat = 0 ∧ M' = Mr) ∨ (v = some (.inl 1) ∧ (0 ≤ a ∧ a ≤ 1) ∧ Mr 100 a.toNat ≠ 0 ∧ (∀ j : Nat, j < 5664 → M' 98 j = Mr 99 (b.toNat + j))))) := by
        intro N
        induction N with
        | zero => intro i M5 hN; exact absurd hN (Nat.not_lt_zero _)
        | succ N ih =>
          intro i M5 hN hi hO hL hR
          refine zG_blk (c' := (30, [zR 97, .inl a, .inl i], [.inl 5664, .inl i])) 2 hd0 hz rfl ?_
          refine zG_icmp_ge hd0 hz rfl (fun hb2 => ?_) (fun hb2 => ?_)
          · have hi2 : i = 5664 := by omega
            subst hi2
            refine zG_blk (c' := (59, [zR 97, .inl a, .inl 5664], [.inl (-1), zR 97])) 2 hd0 hz rfl ?_
            refine zG_putf (.inl rfl) hd0 hz rfl (by decide) rfl rfl ?_
            refine zG_blk (c' := (63, [zR 97, .inl a, .inl 5664], [.inl 1])) 1 hd0 hz rfl ?_
            have q98 : ∀ j, qin (M5 98 j) := by
              intro j
              by_cases hj : j < 5664
              · rw [hL j (by omega)]; exact hC.iin _
              · rw [hR j (by omega)]; exact hC.sin _
            have hC5 : qMI M5 := by
              refine ⟨qSt_congr (g := fun j => Mr 99 (b.toNat + j)) (fun j hj => hL j (by omega)) (fun j _ => q98 j) him, ?_, ?_, fun r k hr => ?_, ?_⟩
              · rw [show M5 99 = Mr 99 from funext fun j => hO 99 j (by decide)]; exact hC.2.1
              · rw [show M5 99 = Mr 99 from funext fun j => hO 99 j (by decide)]; exact hC.2.2.1
              · by_cases h98 : r = 98
                · subst h98; exact qMC98 (q98 k)
                · rw [hO r k h98]; exact hC.2.2.2.1 r k hr
              · have ht := hC.2.2.2.2
                unfold qTS at ht ⊢
                rw [show M5 105 = Mr 105 from funext fun j => hO 105 j (by decide), show M5 106 = Mr 106 from funext fun j => hO 106 j (by decide), hO 97 7 (by decide)]
                exact ht
            refine zG_ret hd0 hz rfl rfl ⟨⟨hC5.put (by decide) (by decide) ?_, ?_⟩, .inr (.inr ⟨rfl, ha1, hk, fun j hj => ?_⟩)⟩
            · exact ⟨fun _ => by omega, fun h => by omega, fun _ => ⟨fun h => by omega, fun h => by omega, fun h => by omega, fun h => by omega, fun h => by omega⟩, fun h => by omega, fun h => by omega⟩
            · have hW5 : qFm [98, 1031] Mr M5 := fun r j hrj => hO r j (fun e => hrj (by subst e; simp [qCd]))
              exact hW5.put (by decide)
            · rw [qput_ne (by decide)]; exact hL j (by omega)
          · refine zG_blk (c' := (49, [zR 97, .inl a, .inl i], [.inl (b + i), zR 99, .inl i, zR 98])) 10 hd0 hz (by
              have e : w32 (w32 (5664 * a) + i) = b + i := by rw [w32_id (x := 5664 * a) (by omega), ← hb0, w32_id (by omega)]
              rw [← e]; rfl) ?_
            refine zG_iald hd0 hz rfl rfl (.inl rfl) (by omega) ?_
            refine zG_iast hd0 hz rfl rfl (by omega) ?_
            refine zG_blk (c' := (26, [zR 97, .inl a, .inl (i + 1)], [])) 2 hd0 hz (by rw [show (.inl (i + 1) : zV) = .inl (w32 (i + 1)) from by rw [w32_id (by omega)]]; rfl) ?_
            refine ih (i + 1) _ (by omega) (by omega) (fun r j hr => ?_) (fun j hj => ?_) (fun j hj => ?_)
            · rw [qput_ne hr]; exact hO r j hr
            · by_cases hji : (j : Int) = i
              · rw [show i.toNat = j by omega, qput_eq, hO 99 _ (by decide)]; congr 1; omega
              · rw [qput_nk (by omega)]; exact hL j (by omega)
            · rw [qput_nk (by omega)]; exact hR j (by omega)
      exact lp 5665 0 Mr (by omega) (by omega) (fun _ _ _ => rfl) (fun j hj => absurd hj (by omega)) (fun _ _ => rfl)
    · refine zG_blk (c' := (23, [zR 97, .inl a, zN], [.inl (-3)])) 1 hd0 hz rfl ?_
      exact zG_ret hd0 hz rfl rfl ⟨⟨hC, qFm.rfl⟩, .inr (.inl ⟨rfl, ha1, hk, rfl⟩)⟩
  · refine zG_blk (c' := (11, [zR 97, .inl a, zN], [.inl (-2)])) 1 hd0 hz rfl ?_
    exact zG_ret hd0 hz rfl rfl ⟨⟨hC, qFm.rfl⟩, .inl ⟨rfl, by omega, rfl⟩⟩
end IM
