theorem qm_282_97 {n d : Nat} {M : zM} (hd : 1 ≤ d) (hC : qMI M)  (a1 : Int) (ha1 : 0 ≤ a1 ∧ a1 ≤ 125) (a2 : Int) (ha2 : (-2147483648) ≤ a2 ∧ a2 ≤ 2147483647) : qOkN n d 282 [.inr (.inr (some 97)), .inl a1, .inl a2] 8 [121] M (fun v M' => ∃ x : Int, v = some (.inl x) ∧ (0 ≤ x ∧ x ≤ 1)) := by
  have hz := zp_282
  have hd0 : 0 < d := by omega
  have hW : qFm [121] M M := qFm.rfl
  show zG n (0, 0) d 282 (0, [.inr (.inr (some 97)), .inl a1, .inl a2, zN, zN, zN, zN, zN], []) M _
  refine zG_blk (c' := (5, [.inr (.inr (some 97)), .inl a1, .inl a2, .inr (.inl (0)), zN, .inl 0, zN, zN], [])) 4 hd0 hz (by rfl) ?_
  have j5 : ∀ (N : Nat) (v1 v2 : Int) (M3 : zM) , (6 - v2 : Int).toNat < N → 0 ≤ v2 ∧ v2 ≤ 6 → qMI M3 → qFm [121] M M3 → zG n (0, 0) d 282 (5, [.inr (.inr (some 97)), .inl a1, .inl a2, .inr (.inl (v1)), zN, .inl v2, zN, zN], []) M3 (fun v M' => (qMI M' ∧ qFm [121] M M') ∧ ∃ x : Int, v = some (.inl x) ∧ (0 ≤ x ∧ x ≤ 1)) := by
    intro N
    induction N with
    | zero => intro v1 v2 M3 hN hv2 hCM3 hWM3; exact absurd hN (Nat.not_lt_zero _)
    | succ N ih5 =>
      intro v1 v2 M3 hN hv2 hCM3 hWM3
      refine zG_blk (c' := (9, [.inr (.inr (some 97)), .inl a1, .inl a2, .inr (.inl (v1)), zN, .inl v2, zN, zN], [.inl 6, .inl v2])) 2 hd0 hz (by rfl) ?_
      refine zG_icmp_ge hd0 hz rfl (fun hb4 => ?_) (fun hb4 => ?_)
      · refine zG_blk (c' := (56, [.inr (.inr (some 97)), .inl a1, .inl a2, .inr (.inl (v1)), zN, .inl v2, zN, zN], [.inr (.inl (0)), .inr (.inl (v1))])) 2 hd0 hz (by rfl) ?_
        refine zG_lc_le hd0 hz rfl rfl (fun hb56 => ?_) (fun hb56 => ?_)
        · refine zG_blk (c' := (65, [.inr (.inr (some 97)), .inl a1, .inl a2, .inr (.inl (v1)), zN, .inl 5, zN, zN], [])) 2 hd0 hz (by rfl) ?_
          have j65 : ∀ (N : Nat) (v5 : Int) , (v5 + 1 : Int).toNat < N → (-1) ≤ v5 ∧ v5 ≤ 5 → zG n (0, 0) d 282 (65, [.inr (.inr (some 97)), .inl a1, .inl a2, .inr (.inl (v1)), zN, .inl v5, zN, zN], []) M3 (fun v M' => (qMI M' ∧ qFm [121] M M') ∧ ∃ x : Int, v = some (.inl x) ∧ (0 ≤ x ∧ x ≤ 1)) := by
            intro N
            induction N with
            | zero => intro v5 hN hv5; exact absurd hN (Nat.not_lt_zero _)
            | succ N ih65 =>
              intro v5 hN hv5
              refine zG_blk (c' := (67, [.inr (.inr (some 97)), .inl a1, .inl a2, .inr (.inl (v1)), zN, .inl v5, zN, zN], [.inl v5])) 1 hd0 hz (by rfl) ?_
              refine zG_if_lt hd0 hz rfl (fun hb6 => ?_) (fun hb6 => ?_)
              · refine zG_blk (c' := (128, [.inr (.inr (some 97)), .inl a1, .inl a2, .inr (.inl (v1)), zN, .inl v5, zN, zN], [.inl 1])) 1 hd0 hz (by rfl) ?_
                exact zG_ret hd0 hz rfl rfl ⟨⟨hCM3, hWM3⟩, _, rfl, by omega⟩
              · refine zG_blk (c' := (73, [.inr (.inr (some 97)), .inl a1, .inl a2, .inr (.inl (v1)), zN, .inl v5, zN, zN], [.inl 30, .inl a1])) 2 hd0 hz (by rfl) ?_
                refine zG_idiv hd0 hz rfl (by omega) ?_
                have hx7 := qtdiv_in a1 30 (by first | decide | omega) (by omega)
                generalize w32 (a1.tdiv 30) = x7 at hx7 ⊢
                show zG n (0, 0) d 282 (74, [.inr (.inr (some 97)), .inl a1, .inl a2, .inr (.inl (v1)), zN, .inl v5, zN, zN], [.inl x7]) M3 _
                refine zG_blk (c' := (76, [.inr (.inr (some 97)), .inl a1, .inl a2, .inr (.inl (v1)), zN, .inl v5, zN, zN], [.inl v5, .inl x7])) 1 hd0 hz (by rfl) ?_
                have j89 : ∀ (v8 : Int) , 0 ≤ v8 ∧ v8 ≤ 536870912 → zG n (0, 0) d 282 (89, [.inr (.inr (some 97)), .inl a1, .inl a2, .inr (.inl (v1)), zN, .inl v5, zN, zN], [.inl v8]) M3 (fun v M' => (qMI M' ∧ qFm [121] M M') ∧ ∃ x : Int, v = some (.inl x) ∧ (0 ≤ x ∧ x ≤ 1)) := by
                  intro v8 hv8
                  refine zG_blk (c' := (97, [.inr (.inr (some 97)), .inl a1, .inl a2, .inr (.inl (v1)), zN, .inl v5, .inl v8, zN], [.inl v5, .inr (.inr (some 121))])) 4 hd0 hz (by rfl) ?_
                  refine zG_iald hd0 hz rfl rfl (.inl rfl) (by omega) ?_
                  obtain ⟨x9, hx9⟩ : ∃ x : Int, x = M3 121 (v5 : Int).toNat := ⟨_, rfl⟩
                  rw [← hx9]
                  have hx9r : qin x9 := by rw [hx9]; exact hCM3.ra 121 _ (by decide) (by decide)
                  show zG n (0, 0) d 282 (98, [.inr (.inr (some 97)), .inl a1, .inl a2, .inr (.inl (v1)), zN, .inl v5, .inl v8, zN], [.inl x9]) M3 _
                  refine zG_blk (c' := (100, [.inr (.inr (some 97)), .inl a1, .inl a2, .inr (.inl (v1)), zN, .inl v5, .inl v8, zN], [.inl v8, .inl x9])) 1 hd0 hz (by rfl) ?_
                  refine zG_icmp_eq hd0 hz rfl (fun hb10 => ?_) (fun hb10 => ?_)
                  · obtain ⟨x11, hx11⟩ : ∃ x : Int, x = w32 (v5 + (-1)) := ⟨_, rfl⟩
                    have hx11e : x11 = v5 + (-1) := by rw [hx11]; exact w32_id (by omega)
                    refine zG_blk (c' := (65, [.inr (.inr (some 97)), .inl a1, .inl a2, .inr (.inl (v1)), zN, .inl x11, .inl v8, zN], [])) 2 hd0 hz (by subst hx11; rfl) ?_
                    exact zG_weak (ih65 x11 (by omega) (by omega)) ⟨.inr rfl, .inr rfl, .inr rfl, .inr rfl, .inr rfl, .inr rfl, .inl rfl, .inr rfl, trivial⟩
                  · refine zG_blk (c' := (109, [.inr (.inr (some 97)), .inl a1, .inl a2, .inr (.inl (v1)), zN, .inl v5, .inl v8, zN], [.inl v5, .inr (.inr (some 121))])) 3 hd0 hz (by rfl) ?_
                    refine zG_iald hd0 hz rfl rfl (.inl rfl) (by omega) ?_
                    obtain ⟨x12, hx12⟩ : ∃ x : Int, x = M3 121 (v5 : Int).toNat := ⟨_, rfl⟩
                    rw [← hx12]
                    have hx12r : qin x12 := by rw [hx12]; exact hCM3.ra 121 _ (by decide) (by decide)
                    show zG n (0, 0) d 282 (110, [.inr (.inr (some 97)), .inl a1, .inl a2, .inr (.inl (v1)), zN, .inl v5, .inl v8, zN], [.inl x12]) M3 _
                    refine zG_blk (c' := (112, [.inr (.inr (some 97)), .inl a1, .inl a2, .inr (.inl (v1)), zN, .inl v5, .inl v8, zN], [.inl v8, .inl x12])) 1 hd0 hz (by rfl) ?_
                    have j120 : ∀ (v13 : Int) , 0 ≤ v13 ∧ v13 ≤ 1 → zG n (0, 0) d 282 (120, [.inr (.inr (some 97)), .inl a1, .inl a2, .inr (.inl (v1)), zN, .inl v5, .inl v8, zN], [.inl v13]) M3 (fun v M' => (qMI M' ∧ qFm [121] M M') ∧ ∃ x : Int, v = some (.inl x) ∧ (0 ≤ x ∧ x ≤ 1)) := by
                      intro v13 hv13
                      exact zG_zret hd0 hz rfl (by omega) ⟨⟨hCM3, hWM3⟩, _, rfl, by omega⟩
                    refine zG_icmp_ge hd0 hz rfl (fun hb14 => ?_) (fun hb14 => ?_)
                    · refine zG_blk (c' := (120, [.inr (.inr (some 97)), .inl a1, .inl a2, .inr (.inl (v1)), zN, .inl v5, .inl v8, zN], [.inl 0])) 1 hd0 hz (by rfl) ?_
                      exact j120 0 (by first | decide | omega)
                    · refine zG_blk (c' := (120, [.inr (.inr (some 97)), .inl a1, .inl a2, .inr (.inl (v1)), zN, .inl v5, .inl v8, zN], [.inl 1])) 2 hd0 hz (by rfl) ?_
                      exact j120 1 (by first | decide | omega)
                refine zG_icmp_ne hd0 hz rfl (fun hb15 => ?_) (fun hb15 => ?_)
                · refine zG_blk (c' := (89, [.inr (.inr (some 97)), .inl a1, .inl a2, .inr (.inl (v1)), zN, .inl v5, zN, zN], [.inl 0])) 1 hd0 hz (by rfl) ?_
                  exact j89 0 (by first | decide | omega)
                · refine zG_blk (c' := (83, [.inr (.inr (some 97)), .inl a1, .inl a2, .inr (.inl (v1)), zN, .inl v5, zN, zN], [.inl 30, .inl a1, .inl 1])) 3 hd0 hz (by rfl) ?_
                  refine zG_irem hd0 hz rfl (by omega) ?_
                  have hx16 := qtmod_in a1 30 (by first | decide | omega)
                  generalize a1.tmod 30 = x16 at hx16 ⊢
                  show zG n (0, 0) d 282 (84, [.inr (.inr (some 97)), .inl a1, .inl a2, .inr (.inl (v1)), zN, .inl v5, zN, zN], [.inl x16, .inl 1]) M3 _
                  obtain ⟨x17, hx17⟩ : ∃ x : Int, x = zbshl 1 x16 := ⟨_, rfl⟩
                  have hx17r := qshl1_in x16 536870912 29 (by decide) (by decide) (by omega); rw [← hx17] at hx17r
                  refine zG_blk (c' := (89, [.inr (.inr (some 97)), .inl a1, .inl a2, .inr (.inl (v1)), zN, .inl v5, zN, zN], [.inl x17])) 2 hd0 hz (by subst hx17; rfl) ?_
                  exact j89 x17 (by omega)
          exact j65 ((5 + 1 : Int).toNat + 1) 5 (by first | decide | omega) (by omega)
        · refine zG_blk (c' := (61, [.inr (.inr (some 97)), .inl a1, .inl a2, .inr (.inl (v1)), zN, .inl v2, zN, zN], [.inl 0])) 1 hd0 hz (by rfl) ?_
          exact zG_ret hd0 hz rfl rfl ⟨⟨hCM3, hWM3⟩, _, rfl, by omega⟩
      · refine zG_blk (c' := (18, [.inr (.inr (some 97)), .inl a1, .inl a2, .inr (.inl (v1)), zN, .inl v2, zN, zN], [.inl v2, .inr (.inr (some 120))])) 3 hd0 hz (by rfl) ?_
        refine zG_iald hd0 hz rfl rfl (.inl rfl) (by omega) ?_
        obtain ⟨x18, hx18⟩ : ∃ x : Int, x = M3 120 (v2 : Int).toNat := ⟨_, rfl⟩
        rw [← hx18]
        have hx18r : qin x18 := by rw [hx18]; exact hCM3.ra 120 _ (by decide) (by decide)
        show zG n (0, 0) d 282 (19, [.inr (.inr (some 97)), .inl a1, .inl a2, .inr (.inl (v1)), zN, .inl v2, zN, zN], [.inl x18]) M3 _
        obtain ⟨x19, hx19⟩ : ∃ x : Int, x = w64 (x18 * a2) := ⟨_, rfl⟩
        obtain ⟨x20, hx20⟩ : ∃ x : Int, x = w64 (x19 + v1) := ⟨_, rfl⟩
        refine zG_blk (c' := (38, [.inr (.inr (some 97)), .inl a1, .inl a2, .inr (.inl (v1)), zN, .inl v2, .inr (.inl (x20)), zN], [.inr (.inl (1073741824)), .inr (.inl (x20)), .inl v2, .inr (.inr (some 121))])) 12 hd0 hz (by subst hx20; subst hx19; rfl) ?_
        refine zG_lrem hd0 hz rfl (by omega) ?_
        generalize x20.tmod 1073741824 = x21
        show zG n (0, 0) d 282 (39, [.inr (.inr (some 97)), .inl a1, .inl a2, .inr (.inl (v1)), zN, .inl v2, .inr (.inl (x20)), zN], [.inr (.inl (x21)), .inl v2, .inr (.inr (some 121))]) M3 _
        obtain ⟨x22, hx22⟩ : ∃ x : Int, x = w32 x21 := ⟨_, rfl⟩
        have hx22r : qin x22 := by rw [hx22]; exact w32_in _
        refine zG_blk (c' := (40, [.inr (.inr (some 97)), .inl a1, .inl a2, .inr (.inl (v1)), zN, .inl v2, .inr (.inl (x20)), zN], [.inl x22, .inl v2, .inr (.inr (some 121))])) 1 hd0 hz (by subst hx22; rfl) ?_
        refine zG_iast hd0 hz rfl rfl (by omega) ?_
        obtain ⟨M23, hM23⟩ : ∃ X : zM, X = zput M3 121 (v2 : Int).toNat x22 := ⟨_, rfl⟩
        rw [← hM23]
        have hCM23 : qMI M23 := by rw [hM23]; exact hCM3.put (by decide) (qCd_a (by decide) (by decide)) (by refine ⟨fun h => ?_, fun _ => ?_, fun h => ?_, fun h => ?_, fun h => ?_⟩ <;> first | omega | exact absurd h (by decide))
        have hWM23 : qFm [121] M M23 := by rw [hM23]; exact hWM3.pa (by decide) (by decide)
        show zG n (0, 0) d 282 (41, [.inr (.inr (some 97)), .inl a1, .inl a2, .inr (.inl (v1)), zN, .inl v2, .inr (.inl (x20)), zN], []) M23 _
        refine zG_blk (c' := (46, [.inr (.inr (some 97)), .inl a1, .inl a2, .inr (.inl (v1)), zN, .inl v2, .inr (.inl (x20)), zN], [.inr (.inl (1073741824)), .inr (.inl (x20))])) 2 hd0 hz (by rfl) ?_
        refine zG_ldiv hd0 hz rfl (by omega) ?_
        generalize w64 (x20.tdiv 1073741824) = x24
        show zG n (0, 0) d 282 (47, [.inr (.inr (some 97)), .inl a1, .inl a2, .inr (.inl (v1)), zN, .inl v2, .inr (.inl (x20)), zN], [.inr (.inl (x24))]) M23 _
        obtain ⟨x25, hx25⟩ : ∃ x : Int, x = w32 (v2 + 1) := ⟨_, rfl⟩
        have hx25e : x25 = v2 + 1 := by rw [hx25]; exact w32_id (by omega)
        refine zG_blk (c' := (5, [.inr (.inr (some 97)), .inl a1, .inl a2, .inr (.inl (x24)), zN, .inl x25, .inr (.inl (x20)), zN], [])) 3 hd0 hz (by subst hx25; rfl) ?_
        exact zG_weak (ih5 x24 x25 M23 (by omega) (by omega) hCM23 hWM23) ⟨.inr rfl, .inr rfl, .inr rfl, .inr rfl, .inr rfl, .inr rfl, .inl rfl, .inr rfl, trivial⟩
  exact j5 ((6 - 0 : Int).toNat + 1) 0 0 M (by omega) (by omega) hC hW
