theorem qm_275_97 {n d : Nat} {M : zM} (hd : 1 ≤ d) (hC : qMI M)  (a1 : Int) (ha1 : 1 ≤ a1 ∧ a1 ≤ 9) : qOkN n d 275 [.inr (.inr (some 97)), .inl a1] 5 [117, 118] M (fun v M' => ∃ x : Int, v = some (.inl x) ∧ (0 ≤ x ∧ x ≤ 1) ∧ ((x = 1 ∧ qHv M + 1 ≤ qHv M') ∨ (x = 0 ∧ qHv M' = qHv M))) := by
  have hz := zp_275
  have hd0 : 0 < d := by omega
  have hW : qFm [117, 118] M M := qFm.rfl
  have r1 := hC.f34
  show zG n (0, 0) d 275 (0, [.inr (.inr (some 97)), .inl a1, zN, zN, zN], []) M _
  refine zG_blk (c' := (4, [.inr (.inr (some 97)), .inl a1, .inl 0, .inl 0, zN], [])) 4 hd0 hz (by rfl) ?_
  have j4 : ∀ (N : Nat) (v2 v3 : Int) (M4 : zM) , (9 - v3 : Int).toNat < N → 0 ≤ v2 ∧ v2 ≤ 14 → 0 ≤ v3 ∧ v3 ≤ 9 → (qHv M4 = qHv M) → qMI M4 → qFm [117, 118] M M4 → zG n (0, 0) d 275 (4, [.inr (.inr (some 97)), .inl a1, .inl v2, .inl v3, zN], []) M4 (fun v M' => (qMI M' ∧ qFm [117, 118] M M') ∧ ∃ x : Int, v = some (.inl x) ∧ (0 ≤ x ∧ x ≤ 1) ∧ ((x = 1 ∧ qHv M + 1 ≤ qHv M') ∨ (x = 0 ∧ qHv M' = qHv M))) := by
    intro N
    induction N with
    | zero => intro v2 v3 M4 hN hv2 hv3 hx0_4 hCM4 hWM4; exact absurd hN (Nat.not_lt_zero _)
    | succ N ih4 =>
      intro v2 v3 M4 hN hv2 hv3 hx0_4 hCM4 hWM4
      have e5 : M4 97 34 = M 97 34 := hWM4 97 34 (by decide)
      refine zG_blk (c' := (9, [.inr (.inr (some 97)), .inl a1, .inl v2, .inl v3, zN], [.inl (M4 97 34), .inl v3])) 3 hd0 hz (by rfl) ?_
      refine zG_icmp_ge hd0 hz rfl (fun hb6 => ?_) (fun hb6 => ?_)
      · obtain ⟨x7, hx7⟩ : ∃ x : Int, x = w32 ((M4 97 34) - 1) := ⟨_, rfl⟩
        have hx7e : x7 = (M4 97 34) - 1 := by rw [hx7]; exact w32_id (by omega)
        refine zG_blk (c' := (57, [.inr (.inr (some 97)), .inl a1, .inl v2, .inl x7, zN], [])) 5 hd0 hz (by subst hx7; rfl) ?_
        have j57 : ∀ (N : Nat) (v8 : Int) , (v8 : Int).toNat < N → (-1) ≤ v8 ∧ v8 ≤ 8 → (qHv M4 = qHv M) → zG n (0, 0) d 275 (57, [.inr (.inr (some 97)), .inl a1, .inl v2, .inl v8, zN], []) M4 (fun v M' => (qMI M' ∧ qFm [117, 118] M M') ∧ ∃ x : Int, v = some (.inl x) ∧ (0 ≤ x ∧ x ≤ 1) ∧ ((x = 1 ∧ qHv M + 1 ≤ qHv M') ∨ (x = 0 ∧ qHv M' = qHv M))) := by
          intro N
          induction N with
          | zero => intro v8 hN hv8 hx0_57; exact absurd hN (Nat.not_lt_zero _)
          | succ N ih57 =>
            intro v8 hN hv8 hx0_57
            refine zG_blk (c' := (58, [.inr (.inr (some 97)), .inl a1, .inl v2, .inl v8, zN], [.inl v8])) 1 hd0 hz (by rfl) ?_
            refine zG_if_le hd0 hz rfl (fun hb9 => ?_) (fun hb9 => ?_)
            · refine zG_blk (c' := (135, [.inr (.inr (some 97)), .inl a1, .inl v2, .inl v8, zN], [.inl 0])) 1 hd0 hz (by rfl) ?_
              exact zG_ret hd0 hz rfl rfl ⟨⟨hCM4, hWM4⟩, _, rfl, by omega, by omega⟩
            · refine zG_blk (c' := (66, [.inr (.inr (some 97)), .inl a1, .inl v2, .inl v8, zN], [.inl v8, .inr (.inr (some 117))])) 3 hd0 hz (by rfl) ?_
              refine zG_iald hd0 hz rfl rfl (.inl rfl) (by omega) ?_
              obtain ⟨x10, hx10⟩ : ∃ x : Int, x = M4 117 (v8 : Int).toNat := ⟨_, rfl⟩
              rw [← hx10]
              have hx10r : 0 ≤ x10 ∧ x10 ≤ 13 := by rw [hx10]; exact hCM4.c117 _
              show zG n (0, 0) d 275 (67, [.inr (.inr (some 97)), .inl a1, .inl v2, .inl v8, zN], [.inl x10]) M4 _
              refine zG_blk (c' := (72, [.inr (.inr (some 97)), .inl a1, .inl v2, .inl v8, zN], [.inl v8, .inr (.inr (some 118)), .inl x10])) 3 hd0 hz (by rfl) ?_
              refine zG_iald hd0 hz rfl rfl (.inl rfl) (by omega) ?_
              obtain ⟨x11, hx11⟩ : ∃ x : Int, x = M4 118 (v8 : Int).toNat := ⟨_, rfl⟩
              rw [← hx11]
              have hx11r : qin x11 := by rw [hx11]; exact hCM4.ra 118 _ (by decide) (by decide)
              show zG n (0, 0) d 275 (73, [.inr (.inr (some 97)), .inl a1, .inl v2, .inl v8, zN], [.inl x11, .inl x10]) M4 _
              have j128 : zG n (0, 0) d 275 (128, [.inr (.inr (some 97)), .inl a1, .inl v2, .inl v8, zN], []) M4 (fun v M' => (qMI M' ∧ qFm [117, 118] M M') ∧ ∃ x : Int, v = some (.inl x) ∧ (0 ≤ x ∧ x ≤ 1) ∧ ((x = 1 ∧ qHv M + 1 ≤ qHv M') ∨ (x = 0 ∧ qHv M' = qHv M))) := by
                obtain ⟨x12, hx12⟩ : ∃ x : Int, x = w32 (v8 + (-1)) := ⟨_, rfl⟩
                have hx12e : x12 = v8 + (-1) := by rw [hx12]; exact w32_id (by omega)
                refine zG_blk (c' := (57, [.inr (.inr (some 97)), .inl a1, .inl v2, .inl x12, zN], [])) 2 hd0 hz (by subst hx12; rfl) ?_
                exact ih57 x12 (by omega) (by omega) (by omega)
              refine zG_icmp_ge hd0 hz rfl (fun hb13 => ?_) (fun hb13 => ?_)
              · exact j128
              · refine zG_blk (c' := (81, [.inr (.inr (some 97)), .inl a1, .inl v2, .inl v8, zN], [.inl v8, .inr (.inr (some 117))])) 3 hd0 hz (by rfl) ?_
                refine zG_iald hd0 hz rfl rfl (.inl rfl) (by omega) ?_
                obtain ⟨x14, hx14⟩ : ∃ x : Int, x = M4 117 (v8 : Int).toNat := ⟨_, rfl⟩
                rw [← hx14]
                have hx14r : 0 ≤ x14 ∧ x14 ≤ 13 := by rw [hx14]; exact hCM4.c117 _
                show zG n (0, 0) d 275 (82, [.inr (.inr (some 97)), .inl a1, .inl v2, .inl v8, zN], [.inl x14]) M4 _
                obtain ⟨x15, hx15⟩ : ∃ x : Int, x = w32 (x14 + 1) := ⟨_, rfl⟩
                have hx15e : x15 = x14 + 1 := by rw [hx15]; exact w32_id (by omega)
                refine zG_blk (c' := (85, [.inr (.inr (some 97)), .inl a1, .inl v2, .inl v8, zN], [.inl a1, .inl x15])) 3 hd0 hz (by subst hx15; rfl) ?_
                refine zG_icmp_ge hd0 hz rfl (fun hb16 => ?_) (fun hb16 => ?_)
                · exact j128
                · refine zG_blk (c' := (94, [.inr (.inr (some 97)), .inl a1, .inl v2, .inl v8, zN], [.inl v8, .inr (.inr (some 117)), .inl v8, .inr (.inr (some 117))])) 4 hd0 hz (by rfl) ?_
                  refine zG_iald hd0 hz rfl rfl (.inl rfl) (by omega) ?_
                  obtain ⟨x17, hx17⟩ : ∃ x : Int, x = M4 117 (v8 : Int).toNat := ⟨_, rfl⟩
                  rw [← hx17]
                  have hx17r : 0 ≤ x17 ∧ x17 ≤ 13 := by rw [hx17]; exact hCM4.c117 _
                  show zG n (0, 0) d 275 (95, [.inr (.inr (some 97)), .inl a1, .inl v2, .inl v8, zN], [.inl x17, .inl v8, .inr (.inr (some 117))]) M4 _
                  obtain ⟨x18, hx18⟩ : ∃ x : Int, x = w32 (x17 + 1) := ⟨_, rfl⟩
                  have hx18e : x18 = x17 + 1 := by rw [hx18]; exact w32_id (by omega)
                  refine zG_blk (c' := (97, [.inr (.inr (some 97)), .inl a1, .inl v2, .inl v8, zN], [.inl x18, .inl v8, .inr (.inr (some 117))])) 2 hd0 hz (by subst hx18; rfl) ?_
                  refine zG_iast hd0 hz rfl rfl (by omega) ?_
                  obtain ⟨M19, hM19⟩ : ∃ X : zM, X = zput M4 117 (v8 : Int).toNat x18 := ⟨_, rfl⟩
                  rw [← hM19]
                  have hCM19 : qMI M19 := by rw [hM19]; exact hCM4.put (by decide) (qCd_a (by decide) (by decide)) (by refine ⟨fun h => ?_, fun _ => ?_, fun h => ?_, fun h => ?_, fun h => ?_⟩ <;> first | omega | exact absurd h (by decide))
                  have hWM19 : qFm [117, 118] M M19 := by rw [hM19]; exact hWM4.pa (by decide) (by decide)
                  have e20 : M19 97 34 = M4 97 34 := by rw [hM19]; exact qput_ne (by decide)
                  have hv1 := qHv_inc hM19 (by omega) (by omega)
                  show zG n (0, 0) d 275 (98, [.inr (.inr (some 97)), .inl a1, .inl v2, .inl v8, zN], []) M19 _
                  obtain ⟨x21, hx21⟩ : ∃ x : Int, x = w32 (v8 + 1) := ⟨_, rfl⟩
                  have hx21e : x21 = v8 + 1 := by rw [hx21]; exact w32_id (by omega)
                  have hpz : qHp (x21 - 1).toNat = qHp (v8).toNat := by rw [show x21 - 1 = v8 by omega]
                  refine zG_blk (c' := (103, [.inr (.inr (some 97)), .inl a1, .inl v2, .inl v8, .inl x21], [])) 4 hd0 hz (by subst hx21; rfl) ?_
                  have j103 : ∀ (N : Nat) (v22 : Int) (M23 : zM) , (9 - v22 : Int).toNat < N → 2 ≤ v22 ∧ v22 ≤ 9 → (qHv M + qHp (v22 - 1).toNat ≤ qHv M23) → qMI M23 → qFm [117, 118] M M23 → zG n (0, 0) d 275 (103, [.inr (.inr (some 97)), .inl a1, .inl v2, .inl v8, .inl v22], []) M23 (fun v M' => (qMI M' ∧ qFm [117, 118] M M') ∧ ∃ x : Int, v = some (.inl x) ∧ (0 ≤ x ∧ x ≤ 1) ∧ ((x = 1 ∧ qHv M + 1 ≤ qHv M') ∨ (x = 0 ∧ qHv M' = qHv M))) := by
                    intro N
                    induction N with
                    | zero => intro v22 M23 hN hv22 hx0_103 hCM23 hWM23; exact absurd hN (Nat.not_lt_zero _)
                    | succ N ih103 =>
                      intro v22 M23 hN hv22 hx0_103 hCM23 hWM23
                      have e24 : M23 97 34 = M 97 34 := hWM23 97 34 (by decide)
                      have hp1 := qHp_pos (v22 - 1).toNat
                      refine zG_blk (c' := (109, [.inr (.inr (some 97)), .inl a1, .inl v2, .inl v8, .inl v22], [.inl (M23 97 34), .inl v22])) 3 hd0 hz (by rfl) ?_
                      refine zG_icmp_ge hd0 hz rfl (fun hb25 => ?_) (fun hb25 => ?_)
                      · refine zG_blk (c' := (127, [.inr (.inr (some 97)), .inl a1, .inl v2, .inl v8, .inl v22], [.inl 1])) 1 hd0 hz (by rfl) ?_
                        exact zG_ret hd0 hz rfl rfl ⟨⟨hCM23, hWM23⟩, _, rfl, by omega, by omega⟩
                      · refine zG_blk (c' := (119, [.inr (.inr (some 97)), .inl a1, .inl v2, .inl v8, .inl v22], [.inl 0, .inl v22, .inr (.inr (some 117))])) 4 hd0 hz (by rfl) ?_
                        refine zG_iast hd0 hz rfl rfl (by omega) ?_
                        obtain ⟨M26, hM26⟩ : ∃ X : zM, X = zput M23 117 (v22 : Int).toNat 0 := ⟨_, rfl⟩
                        rw [← hM26]
                        have hCM26 : qMI M26 := by rw [hM26]; exact hCM23.put (by decide) (qCd_a (by decide) (by decide)) (by refine ⟨fun h => ?_, fun _ => ?_, fun h => ?_, fun h => ?_, fun h => ?_⟩ <;> first | omega | exact absurd h (by decide))
                        have hWM26 : qFm [117, 118] M M26 := by rw [hM26]; exact hWM23.pa (by decide) (by decide)
                        have e27 : M26 97 34 = M23 97 34 := by rw [hM26]; exact qput_ne (by decide)
                        have hv1 := qHv_zero hM26 hCM23 (by omega)
                        show zG n (0, 0) d 275 (120, [.inr (.inr (some 97)), .inl a1, .inl v2, .inl v8, .inl v22], []) M26 _
                        obtain ⟨x28, hx28⟩ : ∃ x : Int, x = w32 (v22 + 1) := ⟨_, rfl⟩
                        have hx28e : x28 = v22 + 1 := by rw [hx28]; exact w32_id (by omega)
                        have hpz : qHp (x28 - 1).toNat = qHp (v22).toNat := by rw [show x28 - 1 = v22 by omega]
                        refine zG_blk (c' := (103, [.inr (.inr (some 97)), .inl a1, .inl v2, .inl v8, .inl x28], [])) 2 hd0 hz (by subst hx28; rfl) ?_
                        exact ih103 x28 M26 (by omega) (by omega) (by omega) hCM26 hWM26
                  exact j103 ((9 - x21 : Int).toNat + 1) x21 M19 (by omega) (by omega) (by omega) hCM19 hWM19
        exact j57 ((x7 : Int).toNat + 1) x7 (by omega) (by omega) (by omega)
      · refine zG_blk (c' := (18, [.inr (.inr (some 97)), .inl a1, .inl v2, .inl v3, zN], [.inl v2, .inl v3, .inr (.inr (some 118))])) 4 hd0 hz (by rfl) ?_
        refine zG_iast hd0 hz rfl rfl (by omega) ?_
        obtain ⟨M29, hM29⟩ : ∃ X : zM, X = zput M4 118 (v3 : Int).toNat v2 := ⟨_, rfl⟩
        rw [← hM29]
        have hCM29 : qMI M29 := by rw [hM29]; exact hCM4.put (by decide) (qCd_a (by decide) (by decide)) (by refine ⟨fun h => ?_, fun _ => ?_, fun h => ?_, fun h => ?_, fun h => ?_⟩ <;> first | omega | exact absurd h (by decide))
        have hWM29 : qFm [117, 118] M M29 := by rw [hM29]; exact hWM4.pa (by decide) (by decide)
        have e30 : M29 97 34 = M4 97 34 := by rw [hM29]; exact qput_ne (by decide)
        have e31 : qHv M29 = qHv M4 := by rw [hM29]; exact qHv_pa (by decide) (by decide)
        show zG n (0, 0) d 275 (19, [.inr (.inr (some 97)), .inl a1, .inl v2, .inl v3, zN], []) M29 _
        refine zG_blk (c' := (24, [.inr (.inr (some 97)), .inl a1, .inl v2, .inl v3, zN], [.inl v3, .inr (.inr (some 117))])) 3 hd0 hz (by rfl) ?_
        refine zG_iald hd0 hz rfl rfl (.inl rfl) (by omega) ?_
        obtain ⟨x32, hx32⟩ : ∃ x : Int, x = M29 117 (v3 : Int).toNat := ⟨_, rfl⟩
        rw [← hx32]
        have hx32r : 0 ≤ x32 ∧ x32 ≤ 13 := by rw [hx32]; exact hCM29.c117 _
        show zG n (0, 0) d 275 (25, [.inr (.inr (some 97)), .inl a1, .inl v2, .inl v3, zN], [.inl x32]) M29 _
        obtain ⟨x33, hx33⟩ : ∃ x : Int, x = w32 (x32 + 1) := ⟨_, rfl⟩
        have hx33e : x33 = x32 + 1 := by rw [hx33]; exact w32_id (by omega)
        refine zG_blk (c' := (28, [.inr (.inr (some 97)), .inl a1, .inl v2, .inl v3, zN], [.inl v2, .inl x33])) 3 hd0 hz (by subst hx33; rfl) ?_
        have j43 : ∀ (v34 : Int) , 1 ≤ v34 ∧ v34 ≤ 14 → zG n (0, 0) d 275 (43, [.inr (.inr (some 97)), .inl a1, .inl v2, .inl v3, zN], [.inl v34]) M29 (fun v M' => (qMI M' ∧ qFm [117, 118] M M') ∧ ∃ x : Int, v = some (.inl x) ∧ (0 ≤ x ∧ x ≤ 1) ∧ ((x = 1 ∧ qHv M + 1 ≤ qHv M') ∨ (x = 0 ∧ qHv M' = qHv M))) := by
          intro v34 hv34
          obtain ⟨x35, hx35⟩ : ∃ x : Int, x = w32 (v3 + 1) := ⟨_, rfl⟩
          have hx35e : x35 = v3 + 1 := by rw [hx35]; exact w32_id (by omega)
          refine zG_blk (c' := (4, [.inr (.inr (some 97)), .inl a1, .inl v34, .inl x35, zN], [])) 3 hd0 hz (by subst hx35; rfl) ?_
          exact ih4 v34 x35 M29 (by omega) (by omega) (by omega) (by omega) hCM29 hWM29
        refine zG_icmp_le hd0 hz rfl (fun hb36 => ?_) (fun hb36 => ?_)
        · refine zG_blk (c' := (43, [.inr (.inr (some 97)), .inl a1, .inl v2, .inl v3, zN], [.inl v2])) 1 hd0 hz (by rfl) ?_
          exact j43 v2 (by first | with_reducible exact hv2 | omega)
        · refine zG_blk (c' := (36, [.inr (.inr (some 97)), .inl a1, .inl v2, .inl v3, zN], [.inl v3, .inr (.inr (some 117))])) 3 hd0 hz (by rfl) ?_
          refine zG_iald hd0 hz rfl rfl (.inl rfl) (by omega) ?_
          obtain ⟨x37, hx37⟩ : ∃ x : Int, x = M29 117 (v3 : Int).toNat := ⟨_, rfl⟩
          rw [← hx37]
          have hx37r : 0 ≤ x37 ∧ x37 ≤ 13 := by rw [hx37]; exact hCM29.c117 _
          show zG n (0, 0) d 275 (37, [.inr (.inr (some 97)), .inl a1, .inl v2, .inl v3, zN], [.inl x37]) M29 _
          obtain ⟨x38, hx38⟩ : ∃ x : Int, x = w32 (x37 + 1) := ⟨_, rfl⟩
          have hx38e : x38 = x37 + 1 := by rw [hx38]; exact w32_id (by omega)
          refine zG_blk (c' := (43, [.inr (.inr (some 97)), .inl a1, .inl v2, .inl v3, zN], [.inl x38])) 3 hd0 hz (by subst hx38; rfl) ?_
          exact j43 x38 (by omega)
  exact j4 ((9 - 0 : Int).toNat + 1) 0 0 M (by omega) (by omega) (by omega) (by omega) hC hW
