theorem qm_72_87 {n d : Nat} {M : zM} (hd : 2 ≤ d) (hC : qCI M) (a1 : Int) (ha1 : 0 ≤ a1 ∧ a1 ≤ 8) (a2 : Int) (ha2 : 0 ≤ a2 ∧ a2 ≤ 8) : qOkP n d 72 [.inr (.inr (some 87)), .inl a1, .inl a2] 3 M (qRi (fun x => 0 ≤ x ∧ x ≤ 1)) := by
  have hz := zp_72
  have hd0 : 0 < d := by omega
  show zG n (0, 0) d 72 (0, [.inr (.inr (some 87)), .inl a1, .inl a2], []) M _
  refine zG_blk (c' := (5, [.inr (.inr (some 87)), .inl a1, .inl a2], [.inl a1, .inr (.inr (some 90))])) 3 hd0 hz (by rfl) ?_
  refine zG_iald hd0 hz rfl rfl (.inl rfl) (by omega) ?_
  have hx1 := hC.rng 90 (a1 : Int).toNat (by decide) (by decide)
  generalize M 90 (a1 : Int).toNat = x1 at hx1 ⊢
  show zG n (0, 0) d 72 (6, [.inr (.inr (some 87)), .inl a1, .inl a2], [.inl x1]) M _
  refine zG_blk (c' := (11, [.inr (.inr (some 87)), .inl a1, .inl a2], [.inl a2, .inr (.inr (some 88)), .inl x1])) 3 hd0 hz (by rfl) ?_
  refine zG_iald hd0 hz rfl rfl (.inl rfl) (by omega) ?_
  have hx2 := hC.rng 88 (a2 : Int).toNat (by decide) (by decide)
  generalize M 88 (a2 : Int).toNat = x2 at hx2 ⊢
  show zG n (0, 0) d 72 (12, [.inr (.inr (some 87)), .inl a1, .inl a2], [.inl x2, .inl x1]) M _
  obtain ⟨x3, hx3⟩ : ∃ x : Int, x = zband x1 x2 := ⟨_, rfl⟩
  have hx3r : qin x3 := by rw [hx3]; exact qb32 _
  refine zG_blk (c' := (13, [.inr (.inr (some 87)), .inl a1, .inl a2], [.inl x3])) 1 hd0 hz (by subst hx3; rfl) ?_
  have j44 : ∀ (v4 : Int) , 0 ≤ v4 ∧ v4 ≤ 1 → zG n (0, 0) d 72 (44, [.inr (.inr (some 87)), .inl a1, .inl a2], [.inl v4]) M (fun v M' => M' = M ∧ qRi (fun x => 0 ≤ x ∧ x ≤ 1) v) := by
    intro v4 hv4
    exact zG_zret hd0 hz rfl (by omega) ⟨rfl, _, rfl, by omega⟩
  have j43 : zG n (0, 0) d 72 (43, [.inr (.inr (some 87)), .inl a1, .inl a2], []) M (fun v M' => M' = M ∧ qRi (fun x => 0 ≤ x ∧ x ≤ 1) v) := by
    refine zG_blk (c' := (44, [.inr (.inr (some 87)), .inl a1, .inl a2], [.inl 0])) 1 hd0 hz (by rfl) ?_
    exact j44 0 (by first | decide | omega)
  refine zG_if_ne hd0 hz rfl (fun hb5 => ?_) (fun hb5 => ?_)
  · exact j43
  · refine zG_blk (c' := (21, [.inr (.inr (some 87)), .inl a1, .inl a2], [.inl a1, .inr (.inr (some 91))])) 3 hd0 hz (by rfl) ?_
    refine zG_iald hd0 hz rfl rfl (.inl rfl) (by omega) ?_
    have hx6 := hC.rng 91 (a1 : Int).toNat (by decide) (by decide)
    generalize M 91 (a1 : Int).toNat = x6 at hx6 ⊢
    show zG n (0, 0) d 72 (22, [.inr (.inr (some 87)), .inl a1, .inl a2], [.inl x6]) M _
    refine zG_blk (c' := (27, [.inr (.inr (some 87)), .inl a1, .inl a2], [.inl a2, .inr (.inr (some 88)), .inl x6])) 3 hd0 hz (by rfl) ?_
    refine zG_iald hd0 hz rfl rfl (.inl rfl) (by omega) ?_
    have hx7 := hC.rng 88 (a2 : Int).toNat (by decide) (by decide)
    generalize M 88 (a2 : Int).toNat = x7 at hx7 ⊢
    show zG n (0, 0) d 72 (28, [.inr (.inr (some 87)), .inl a1, .inl a2], [.inl x7, .inl x6]) M _
    refine zG_call hd0 hz zp_296 rfl rfl (Nat.le_of_ble_eq_true rfl) ⟨Nat.le_refl _, Nat.le_refl _⟩ (qm_296 (by first | exact zdp hd (by decide) | omega) hC  x7 (by omega)) (fun vr M8 hr => ?_)
    obtain ⟨hq, x9, rfl, hx9⟩ := hr
    replace hq := hq.symm; subst hq
    show zG n (0, 0) d 72 (31, [.inr (.inr (some 87)), .inl a1, .inl a2], [.inl x9, .inl x6]) M _
    obtain ⟨x10, hx10⟩ : ∃ x : Int, x = w32 (x6 + x9) := ⟨_, rfl⟩
    have hx10r : x10 = (x6 + x9 + 2147483648) % 4294967296 - 2147483648 := hx10
    have r11 := hC.rng 87 6 (by decide) (by decide)
    refine zG_blk (c' := (36, [.inr (.inr (some 87)), .inl a1, .inl a2], [.inl (M 87 6), .inl x10])) 3 hd0 hz (by subst hx10; rfl) ?_
    refine zG_icmp_gt hd0 hz rfl (fun hb12 => ?_) (fun hb12 => ?_)
    · exact j43
    · refine zG_blk (c' := (44, [.inr (.inr (some 87)), .inl a1, .inl a2], [.inl 1])) 2 hd0 hz (by rfl) ?_
      exact j44 1 (by first | decide | omega)
theorem qr_71_87 : ∀ (K : Nat) {n d : Nat} {M : zM} (hd : 3 + K ≤ d) (hC : qCI M) (a1 : Int) (ha1 : 0 ≤ a1 ∧ a1 ≤ 9) (a2 : Int) (ha2 : (-2147483648) ≤ a2 ∧ a2 ≤ 2147483647) (a3 : Int) (ha3 : (-2147483648) ≤ a3 ∧ a3 ≤ 2147483647) (hK : (9 - a1 : Int).toNat < K), qOkM n d 71 [.inr (.inr (some 87)), .inl a1, .inl a2, .inl a3] 7 qCI [89, 90, 91] M (qRi (fun x => 0 ≤ x ∧ x ≤ 1)) := by
  intro K
  induction K with
  | zero => intro n d M hd hC a1 ha1 a2 ha2 a3 ha3 hK; exact absurd hK (Nat.not_lt_zero _)
  | succ K ihR =>
    intro n d M hd hC a1 ha1 a2 ha2 a3 ha3 hK
    have hz := zp_71
    have hd0 : 0 < d := by omega
    have hW : qFr [89, 90, 91] M M := qFr.rfl
    show zG n (0, 0) d 71 (0, [.inr (.inr (some 87)), .inl a1, .inl a2, .inl a3, zN, zN, zN], []) M _
    have r1 := hC.pp
    refine zG_blk (c' := (5, [.inr (.inr (some 87)), .inl a1, .inl a2, .inl a3, zN, zN, zN], [.inl (M 87 5), .inl a1])) 3 hd0 hz (by rfl) ?_
    have j14 : zG n (0, 0) d 71 (14, [.inr (.inr (some 87)), .inl a1, .inl a2, .inl a3, zN, zN, zN], []) M (fun v M' => qWf qCI [89, 90, 91] M M' ∧ qRi (fun x => 0 ≤ x ∧ x ≤ 1) v) := by
      refine zG_blk (c' := (15, [.inr (.inr (some 87)), .inl a1, .inl a2, .inl a3, zN, zN, zN], [.inl 1])) 1 hd0 hz (by rfl) ?_
      exact zG_ret hd0 hz rfl rfl ⟨⟨hC, hW⟩, _, rfl, by omega⟩
    refine zG_icmp_ge hd0 hz rfl (fun hb2 => ?_) (fun hb2 => ?_)
    · exact j14
    · refine zG_blk (c' := (11, [.inr (.inr (some 87)), .inl a1, .inl a2, .inl a3, zN, zN, zN], [.inl 9, .inl a1])) 2 hd0 hz (by rfl) ?_
      refine zG_icmp_lt hd0 hz rfl (fun hb3 => ?_) (fun hb3 => ?_)
      · refine zG_blk (c' := (19, [.inr (.inr (some 87)), .inl a1, .inl a2, .inl a3, .inl 0, zN, zN], [])) 2 hd0 hz (by rfl) ?_
        have j19 : ∀ (N : Nat) (v4 : Int) (M5 : zM) , (9 - v4 : Int).toNat < N → 0 ≤ v4 ∧ v4 ≤ 9 → qCI M5 → qFr [89, 90, 91] M M5 → zG n (0, 0) d 71 (19, [.inr (.inr (some 87)), .inl a1, .inl a2, .inl a3, .inl v4, zN, zN], []) M5 (fun v M' => qWf qCI [89, 90, 91] M M' ∧ qRi (fun x => 0 ≤ x ∧ x ≤ 1) v) := by
          intro N
          induction N with
          | zero => intro v4 M5 hN hv4 hCM5 hWM5; exact absurd hN (Nat.not_lt_zero _)
          | succ N ih19 =>
            intro v4 M5 hN hv4 hCM5 hWM5
            refine zG_blk (c' := (22, [.inr (.inr (some 87)), .inl a1, .inl a2, .inl a3, .inl v4, zN, zN], [.inl a2, .inl v4])) 2 hd0 hz (by rfl) ?_
            have j176 : zG n (0, 0) d 71 (176, [.inr (.inr (some 87)), .inl a1, .inl a2, .inl a3, .inl v4, zN, zN], []) M5 (fun v M' => qWf qCI [89, 90, 91] M M' ∧ qRi (fun x => 0 ≤ x ∧ x ≤ 1) v) := by
              refine zG_blk (c' := (177, [.inr (.inr (some 87)), .inl a1, .inl a2, .inl a3, .inl v4, zN, zN], [.inl 0])) 1 hd0 hz (by rfl) ?_
              exact zG_ret hd0 hz rfl rfl ⟨⟨hCM5, hWM5⟩, _, rfl, by omega⟩
            refine zG_icmp_gt hd0 hz rfl (fun hb6 => ?_) (fun hb6 => ?_)
            · exact j176
            · refine zG_blk (c' := (28, [.inr (.inr (some 87)), .inl a1, .inl a2, .inl a3, .inl v4, zN, zN], [.inl a3, .inl v4])) 2 hd0 hz (by rfl) ?_
              refine zG_icmp_ge hd0 hz rfl (fun hb7 => ?_) (fun hb7 => ?_)
              · exact j176
              · refine zG_blk (c' := (35, [.inr (.inr (some 87)), .inl a1, .inl a2, .inl a3, .inl v4, zN, zN], [.inl 9, .inl v4])) 2 hd0 hz (by rfl) ?_
                refine zG_icmp_ge hd0 hz rfl (fun hb8 => ?_) (fun hb8 => ?_)
                · exact j176
                · refine zG_blk (c' := (41, [.inr (.inr (some 87)), .inl a1, .inl a2, .inl a3, .inl v4, zN, zN], [.inl a2, .inl v4])) 2 hd0 hz (by rfl) ?_
                  have j60 : ∀ (M9 : zM) , qCI M9 → qFr [89, 90, 91] M M9 → zG n (0, 0) d 71 (60, [.inr (.inr (some 87)), .inl a1, .inl a2, .inl a3, .inl v4, zN, zN], []) M9 (fun v M' => qWf qCI [89, 90, 91] M M' ∧ qRi (fun x => 0 ≤ x ∧ x ≤ 1) v) := by
                    intro M9 hCM9 hWM9
                    refine zG_blk (c' := (64, [.inr (.inr (some 87)), .inl a1, .inl a2, .inl a3, .inl v4, zN, zN], [.inl a1, .inl v4, .inr (.inr (some 87))])) 3 hd0 hz (by rfl) ?_
                    refine zG_call hd0 hz zp_72 rfl rfl (Nat.le_of_ble_eq_true rfl) ⟨Nat.le_refl _, Nat.le_refl _⟩ (qm_72_87 (by first | exact zdp hd (by decide) | omega) hCM9  v4 (by first | with_reducible exact hv4 | omega) a1 (by first | with_reducible exact ha1 | omega)) (fun vr M10 hr => ?_)
                    obtain ⟨hq, x11, rfl, hx11⟩ := hr
                    replace hq := hq.symm; subst hq
                    show zG n (0, 0) d 71 (67, [.inr (.inr (some 87)), .inl a1, .inl a2, .inl a3, .inl v4, zN, zN], [.inl x11]) M9 _
                    have j170 : ∀ (M12 : zM) , qCI M12 → qFr [89, 90, 91] M M12 → zG n (0, 0) d 71 (170, [.inr (.inr (some 87)), .inl a1, .inl a2, .inl a3, .inl v4, zN, zN], []) M12 (fun v M' => qWf qCI [89, 90, 91] M M' ∧ qRi (fun x => 0 ≤ x ∧ x ≤ 1) v) := by
                      intro M12 hCM12 hWM12
                      obtain ⟨x13, hx13⟩ : ∃ x : Int, x = w32 (v4 + 1) := ⟨_, rfl⟩
                      have hx13e : x13 = v4 + 1 := by rw [hx13]; exact w32_id (by omega)
                      refine zG_blk (c' := (19, [.inr (.inr (some 87)), .inl a1, .inl a2, .inl a3, .inl x13, zN, zN], [])) 2 hd0 hz (by subst hx13; rfl) ?_
                      exact ih19 x13 M12 (by omega) (by omega) hCM12 hWM12
                    refine zG_if_eq hd0 hz rfl (fun hb14 => ?_) (fun hb14 => ?_)
                    · exact j170 M9 hCM9 hWM9
                    · refine zG_blk (c' := (76, [.inr (.inr (some 87)), .inl a1, .inl a2, .inl a3, .inl v4, zN, zN], [.inl v4, .inr (.inr (some 90))])) 3 hd0 hz (by rfl) ?_
                      refine zG_iald hd0 hz rfl rfl (.inl rfl) (by omega) ?_
                      have hx15 := hCM9.rng 90 (v4 : Int).toNat (by decide) (by decide)
                      generalize M9 90 (v4 : Int).toNat = x15 at hx15 ⊢
                      show zG n (0, 0) d 71 (77, [.inr (.inr (some 87)), .inl a1, .inl a2, .inl a3, .inl v4, zN, zN], [.inl x15]) M9 _
                      refine zG_blk (c' := (85, [.inr (.inr (some 87)), .inl a1, .inl a2, .inl a3, .inl v4, .inl x15, zN], [.inl v4, .inr (.inr (some 91))])) 4 hd0 hz (by rfl) ?_
                      refine zG_iald hd0 hz rfl rfl (.inl rfl) (by omega) ?_
                      have hx16 := hCM9.rng 91 (v4 : Int).toNat (by decide) (by decide)
                      generalize M9 91 (v4 : Int).toNat = x16 at hx16 ⊢
                      show zG n (0, 0) d 71 (86, [.inr (.inr (some 87)), .inl a1, .inl a2, .inl a3, .inl v4, .inl x15, zN], [.inl x16]) M9 _
                      refine zG_blk (c' := (95, [.inr (.inr (some 87)), .inl a1, .inl a2, .inl a3, .inl v4, .inl x15, .inl x16], [.inl v4, .inl a1, .inr (.inr (some 89))])) 5 hd0 hz (by rfl) ?_
                      refine zG_iast hd0 hz rfl rfl (by omega) ?_
                      obtain ⟨M17, hM17⟩ : ∃ X : zM, X = zput M9 89 (a1 : Int).toNat v4 := ⟨_, rfl⟩
                      rw [← hM17]
                      have hCM17 : qCI M17 := by rw [hM17]; exact hCM9.put (r := 89) rfl (.inl (by omega))
                      have hWM17 : qFr [89, 90, 91] M M17 := by rw [hM17]; exact hWM9.put (by decide)
                      show zG n (0, 0) d 71 (96, [.inr (.inr (some 87)), .inl a1, .inl a2, .inl a3, .inl v4, .inl x15, .inl x16], []) M17 _
                      refine zG_blk (c' := (109, [.inr (.inr (some 87)), .inl a1, .inl a2, .inl a3, .inl v4, .inl x15, .inl x16], [.inl a1, .inr (.inr (some 88)), .inl x15, .inl v4, .inr (.inr (some 90))])) 7 hd0 hz (by rfl) ?_
                      refine zG_iald hd0 hz rfl rfl (.inl rfl) (by omega) ?_
                      have hx18 := hCM17.rng 88 (a1 : Int).toNat (by decide) (by decide)
                      generalize M17 88 (a1 : Int).toNat = x18 at hx18 ⊢
                      show zG n (0, 0) d 71 (110, [.inr (.inr (some 87)), .inl a1, .inl a2, .inl a3, .inl v4, .inl x15, .inl x16], [.inl x18, .inl x15, .inl v4, .inr (.inr (some 90))]) M17 _
                      obtain ⟨x19, hx19⟩ : ∃ x : Int, x = zbor x15 x18 := ⟨_, rfl⟩
                      have hx19r : qin x19 := by rw [hx19]; exact qb32 _
                      refine zG_blk (c' := (111, [.inr (.inr (some 87)), .inl a1, .inl a2, .inl a3, .inl v4, .inl x15, .inl x16], [.inl x19, .inl v4, .inr (.inr (some 90))])) 1 hd0 hz (by subst hx19; rfl) ?_
                      refine zG_iast hd0 hz rfl rfl (by omega) ?_
                      obtain ⟨M20, hM20⟩ : ∃ X : zM, X = zput M17 90 (v4 : Int).toNat x19 := ⟨_, rfl⟩
                      rw [← hM20]
                      have hCM20 : qCI M20 := by rw [hM20]; exact hCM17.put (r := 90) rfl (.inl (by omega))
                      have hWM20 : qFr [89, 90, 91] M M20 := by rw [hM20]; exact hWM17.put (by decide)
                      show zG n (0, 0) d 71 (112, [.inr (.inr (some 87)), .inl a1, .inl a2, .inl a3, .inl v4, .inl x15, .inl x16], []) M20 _
                      refine zG_blk (c' := (125, [.inr (.inr (some 87)), .inl a1, .inl a2, .inl a3, .inl v4, .inl x15, .inl x16], [.inl a1, .inr (.inr (some 88)), .inl x16, .inl v4, .inr (.inr (some 91))])) 7 hd0 hz (by rfl) ?_
                      refine zG_iald hd0 hz rfl rfl (.inl rfl) (by omega) ?_
                      have hx21 := hCM20.rng 88 (a1 : Int).toNat (by decide) (by decide)
                      generalize M20 88 (a1 : Int).toNat = x21 at hx21 ⊢
                      show zG n (0, 0) d 71 (126, [.inr (.inr (some 87)), .inl a1, .inl a2, .inl a3, .inl v4, .inl x15, .inl x16], [.inl x21, .inl x16, .inl v4, .inr (.inr (some 91))]) M20 _
                      refine zG_call hd0 hz zp_296 rfl rfl (Nat.le_of_ble_eq_true rfl) ⟨Nat.le_refl _, Nat.le_refl _⟩ (qm_296 (by first | exact zdp hd (by decide) | omega) hCM20  x21 (by omega)) (fun vr M22 hr => ?_)
                      obtain ⟨hq, x23, rfl, hx23⟩ := hr
                      replace hq := hq.symm; subst hq
                      show zG n (0, 0) d 71 (129, [.inr (.inr (some 87)), .inl a1, .inl a2, .inl a3, .inl v4, .inl x15, .inl x16], [.inl x23, .inl x16, .inl v4, .inr (.inr (some 91))]) M20 _
                      obtain ⟨x24, hx24⟩ : ∃ x : Int, x = w32 (x16 + x23) := ⟨_, rfl⟩
                      have hx24r : x24 = (x16 + x23 + 2147483648) % 4294967296 - 2147483648 := hx24
                      refine zG_blk (c' := (130, [.inr (.inr (some 87)), .inl a1, .inl a2, .inl a3, .inl v4, .inl x15, .inl x16], [.inl x24, .inl v4, .inr (.inr (some 91))])) 1 hd0 hz (by subst hx24; rfl) ?_
                      refine zG_iast hd0 hz rfl rfl (by omega) ?_
                      obtain ⟨M25, hM25⟩ : ∃ X : zM, X = zput M20 91 (v4 : Int).toNat x24 := ⟨_, rfl⟩
                      rw [← hM25]
                      have hCM25 : qCI M25 := by rw [hM25]; exact hCM20.put (r := 91) rfl (.inl (by omega))
                      have hWM25 : qFr [89, 90, 91] M M25 := by rw [hM25]; exact hWM20.put (by decide)
                      show zG n (0, 0) d 71 (131, [.inr (.inr (some 87)), .inl a1, .inl a2, .inl a3, .inl v4, .inl x15, .inl x16], []) M25 _
                      obtain ⟨x26, hx26⟩ : ∃ x : Int, x = w32 (a1 + 1) := ⟨_, rfl⟩
                      have hx26e : x26 = a1 + 1 := by rw [hx26]; exact w32_id (by omega)
                      obtain ⟨x27, hx27⟩ : ∃ x : Int, x = w32 (v4 + 1) := ⟨_, rfl⟩
                      have hx27e : x27 = v4 + 1 := by rw [hx27]; exact w32_id (by omega)
                      obtain ⟨x28, hx28⟩ : ∃ x : Int, x = (if a2 < x27 then x27 else a2) := ⟨_, rfl⟩
                      have hx28r := qite hx28
                      refine zG_blk (c' := (144, [.inr (.inr (some 87)), .inl a1, .inl a2, .inl a3, .inl v4, .inl x15, .inl x16], [.inl a3, .inl x28, .inl x26, .inr (.inr (some 87))])) 10 hd0 hz (by subst hx28; subst hx27; subst hx26; rfl) ?_
                      refine zG_call hd0 hz zp_71 rfl rfl (Nat.le_of_ble_eq_true rfl) ⟨Nat.le_refl _, Nat.le_refl _⟩ (ihR (by omega) hCM25  x26 (by omega) x28 (by omega) a3 (by first | with_reducible exact ha3 | omega) (by omega)) (fun vr M29 hr => ?_)
                      obtain ⟨⟨hCM29, hFM29⟩, x30, rfl, hx30⟩ := hr
                      have hWM29 : qFr [89, 90, 91] M M29 := hWM25.tr hFM29 (by decide)
                      show zG n (0, 0) d 71 (147, [.inr (.inr (some 87)), .inl a1, .inl a2, .inl a3, .inl v4, .inl x15, .inl x16], [.inl x30]) M29 _
                      refine zG_if_eq hd0 hz rfl (fun hb31 => ?_) (fun hb31 => ?_)
                      · refine zG_blk (c' := (160, [.inr (.inr (some 87)), .inl a1, .inl a2, .inl a3, .inl v4, .inl x15, .inl x16], [.inl x15, .inl v4, .inr (.inr (some 90))])) 4 hd0 hz (by rfl) ?_
                        refine zG_iast hd0 hz rfl rfl (by omega) ?_
                        obtain ⟨M32, hM32⟩ : ∃ X : zM, X = zput M29 90 (v4 : Int).toNat x15 := ⟨_, rfl⟩
                        rw [← hM32]
                        have hCM32 : qCI M32 := by rw [hM32]; exact hCM29.put (r := 90) rfl (.inl (by omega))
                        have hWM32 : qFr [89, 90, 91] M M32 := by rw [hM32]; exact hWM29.put (by decide)
                        show zG n (0, 0) d 71 (161, [.inr (.inr (some 87)), .inl a1, .inl a2, .inl a3, .inl v4, .inl x15, .inl x16], []) M32 _
                        refine zG_blk (c' := (169, [.inr (.inr (some 87)), .inl a1, .inl a2, .inl a3, .inl v4, .inl x15, .inl x16], [.inl x16, .inl v4, .inr (.inr (some 91))])) 4 hd0 hz (by rfl) ?_
                        refine zG_iast hd0 hz rfl rfl (by omega) ?_
                        obtain ⟨M33, hM33⟩ : ∃ X : zM, X = zput M32 91 (v4 : Int).toNat x16 := ⟨_, rfl⟩
                        rw [← hM33]
                        have hCM33 : qCI M33 := by rw [hM33]; exact hCM32.put (r := 91) rfl (.inl (by omega))
                        have hWM33 : qFr [89, 90, 91] M M33 := by rw [hM33]; exact hWM32.put (by decide)
                        show zG n (0, 0) d 71 (170, [.inr (.inr (some 87)), .inl a1, .inl a2, .inl a3, .inl v4, .inl x15, .inl x16], []) M33 _
                        exact zG_weak (j170 M33 hCM33 hWM33) ⟨.inr rfl, .inr rfl, .inr rfl, .inr rfl, .inr rfl, .inl rfl, .inl rfl, trivial⟩
                      · refine zG_blk (c' := (151, [.inr (.inr (some 87)), .inl a1, .inl a2, .inl a3, .inl v4, .inl x15, .inl x16], [.inl 1])) 1 hd0 hz (by rfl) ?_
                        exact zG_ret hd0 hz rfl rfl ⟨⟨hCM29, hWM29⟩, _, rfl, by omega⟩
                  refine zG_icmp_ne hd0 hz rfl (fun hb34 => ?_) (fun hb34 => ?_)
                  · exact j60 M5 hCM5 hWM5
                  · refine zG_blk (c' := (51, [.inr (.inr (some 87)), .inl a1, .inl a2, .inl a3, .inl v4, zN, zN], [.inl 0, .inl v4, .inr (.inr (some 90))])) 4 hd0 hz (by rfl) ?_
                    refine zG_iast hd0 hz rfl rfl (by omega) ?_
                    obtain ⟨M35, hM35⟩ : ∃ X : zM, X = zput M5 90 (v4 : Int).toNat 0 := ⟨_, rfl⟩
                    rw [← hM35]
                    have hCM35 : qCI M35 := by rw [hM35]; exact hCM5.put (r := 90) rfl (.inl (by omega))
                    have hWM35 : qFr [89, 90, 91] M M35 := by rw [hM35]; exact hWM5.put (by decide)
                    show zG n (0, 0) d 71 (52, [.inr (.inr (some 87)), .inl a1, .inl a2, .inl a3, .inl v4, zN, zN], []) M35 _
                    refine zG_blk (c' := (59, [.inr (.inr (some 87)), .inl a1, .inl a2, .inl a3, .inl v4, zN, zN], [.inl 0, .inl v4, .inr (.inr (some 91))])) 4 hd0 hz (by rfl) ?_
                    refine zG_iast hd0 hz rfl rfl (by omega) ?_
                    obtain ⟨M36, hM36⟩ : ∃ X : zM, X = zput M35 91 (v4 : Int).toNat 0 := ⟨_, rfl⟩
                    rw [← hM36]
                    have hCM36 : qCI M36 := by rw [hM36]; exact hCM35.put (r := 91) rfl (.inl (by omega))
                    have hWM36 : qFr [89, 90, 91] M M36 := by rw [hM36]; exact hWM35.put (by decide)
                    show zG n (0, 0) d 71 (60, [.inr (.inr (some 87)), .inl a1, .inl a2, .inl a3, .inl v4, zN, zN], []) M36 _
                    exact j60 M36 hCM36 hWM36
        exact j19 ((9 - 0 : Int).toNat + 1) 0 M (by omega) (by omega) hC hW
      · exfalso; omega
theorem qm_71_87 {n d : Nat} {M : zM} (hd : 13 ≤ d) (hC : qCI M) (a1 : Int) (ha1 : 0 ≤ a1 ∧ a1 ≤ 9) (a2 : Int) (ha2 : (-2147483648) ≤ a2 ∧ a2 ≤ 2147483647) (a3 : Int) (ha3 : (-2147483648) ≤ a3 ∧ a3 ≤ 2147483647) : qOkM n d 71 [.inr (.inr (some 87)), .inl a1, .inl a2, .inl a3] 7 qCI [89, 90, 91] M (qRi (fun x => 0 ≤ x ∧ x ≤ 1)) := qr_71_87 10 (by first | decide | omega) hC a1 ha1 a2 ha2 a3 ha3 (by omega)
theorem qm_68_87 {n d : Nat} {M : zM} (hd : 14 ≤ d) (hC : qCI M) (a1 : Int) (ha1 : (-2147483648) ≤ a1 ∧ a1 ≤ 2147483647) (a2 : Int) (ha2 : (-2147483648) ≤ a2 ∧ a2 ≤ 2147483647) : qOkM n d 68 [.inr (.inr (some 87)), .inl a1, .inl a2] 4 qCI [87, 88, 89, 90, 91] M (qRi (fun x => (-1) ≤ x ∧ x ≤ 9)) := by
  have hz := zp_68
  have hd0 : 0 < d := by omega
  have hW : qFr [87, 88, 89, 90, 91] M M := qFr.rfl
  show zG n (0, 0) d 68 (0, [.inr (.inr (some 87)), .inl a1, .inl a2, zN], []) M _
  refine zG_blk (c' := (2, [.inr (.inr (some 87)), .inl a1, .inl a2, zN], [.inl a2, .inr (.inr (some 87))])) 2 hd0 hz (by rfl) ?_
  refine zG_putf (.inl rfl) hd0 hz rfl (by decide) rfl rfl ?_
  obtain ⟨M1, hM1⟩ : ∃ X : zM, X = zput M 87 6 a2 := ⟨_, rfl⟩
  rw [← hM1]
  have hCM1 : qCI M1 := by rw [hM1]; exact hC.put (r := 87) (k := 6) rfl (.inl (by omega))
  have hWM1 : qFr [87, 88, 89, 90, 91] M M1 := by rw [hM1]; exact hW.put (by decide)
  have e2 : M1 87 6 = a2 := by rw [hM1]; exact qput_eq
  show zG n (0, 0) d 68 (5, [.inr (.inr (some 87)), .inl a1, .inl a2, zN], []) M1 _
  refine zG_blk (c' := (7, [.inr (.inr (some 87)), .inl a1, .inl a2, zN], [.inl 0, .inr (.inr (some 87))])) 2 hd0 hz (by rfl) ?_
  refine zG_putf (.inl rfl) hd0 hz rfl (by decide) rfl rfl ?_
  obtain ⟨M3, hM3⟩ : ∃ X : zM, X = zput M1 87 5 0 := ⟨_, rfl⟩
  rw [← hM3]
  have hCM3 : qCI M3 := by rw [hM3]; exact hCM1.putPp (by omega)
  have hWM3 : qFr [87, 88, 89, 90, 91] M M3 := by rw [hM3]; exact hWM1.put (by decide)
  have e4 : M3 87 6 = M1 87 6 := by rw [hM3]; exact qput_nk (by decide)
  have e5 : M3 87 5 = 0 := by rw [hM3]; exact qput_eq
  show zG n (0, 0) d 68 (10, [.inr (.inr (some 87)), .inl a1, .inl a2, zN], []) M3 _
  refine zG_blk (c' := (12, [.inr (.inr (some 87)), .inl a1, .inl a2, .inl 0], [])) 2 hd0 hz (by rfl) ?_
  have j12 : ∀ (N : Nat) (v6 : Int) (M7 : zM) , (14 - v6 : Int).toNat < N → 0 ≤ v6 ∧ v6 ≤ 14 → qCI M7 → qFr [87, 88, 89, 90, 91] M M7 → zG n (0, 0) d 68 (12, [.inr (.inr (some 87)), .inl a1, .inl a2, .inl v6], []) M7 (fun v M' => qWf qCI [87, 88, 89, 90, 91] M M' ∧ qRi (fun x => (-1) ≤ x ∧ x ≤ 9) v) := by
    intro N
    induction N with
    | zero => intro v6 M7 hN hv6 hCM7 hWM7; exact absurd hN (Nat.not_lt_zero _)
    | succ N ih12 =>
      intro v6 M7 hN hv6 hCM7 hWM7
      refine zG_blk (c' := (15, [.inr (.inr (some 87)), .inl a1, .inl a2, .inl v6], [.inl 14, .inl v6])) 2 hd0 hz (by rfl) ?_
      have j69 : zG n (0, 0) d 68 (69, [.inr (.inr (some 87)), .inl a1, .inl a2, .inl v6], []) M7 (fun v M' => qWf qCI [87, 88, 89, 90, 91] M M' ∧ qRi (fun x => (-1) ≤ x ∧ x ≤ 9) v) := by
        refine zG_blk (c' := (71, [.inr (.inr (some 87)), .inl a1, .inl a2, .inl 0], [])) 2 hd0 hz (by rfl) ?_
        have j71 : ∀ (N : Nat) (v8 : Int) , (9 - v8 : Int).toNat < N → 0 ≤ v8 ∧ v8 ≤ 9 → zG n (0, 0) d 68 (71, [.inr (.inr (some 87)), .inl a1, .inl a2, .inl v8], []) M7 (fun v M' => qWf qCI [87, 88, 89, 90, 91] M M' ∧ qRi (fun x => (-1) ≤ x ∧ x ≤ 9) v) := by
          intro N
          induction N with
          | zero => intro v8 hN hv8; exact absurd hN (Nat.not_lt_zero _)
          | succ N ih71 =>
            intro v8 hN hv8
            have r9 := hCM7.pp
            refine zG_blk (c' := (76, [.inr (.inr (some 87)), .inl a1, .inl a2, .inl v8], [.inl (M7 87 5), .inl v8])) 3 hd0 hz (by rfl) ?_
            have j112 : zG n (0, 0) d 68 (112, [.inr (.inr (some 87)), .inl a1, .inl a2, .inl v8], []) M7 (fun v M' => qWf qCI [87, 88, 89, 90, 91] M M' ∧ qRi (fun x => (-1) ≤ x ∧ x ≤ 9) v) := by
              refine zG_blk (c' := (114, [.inr (.inr (some 87)), .inl a1, .inl a2, .inl 0], [])) 2 hd0 hz (by rfl) ?_
              have j114 : ∀ (N : Nat) (v10 : Int) (M11 : zM) , (10 - v10 : Int).toNat < N → 0 ≤ v10 ∧ v10 ≤ 10 → qCI M11 → qFr [87, 88, 89, 90, 91] M M11 → zG n (0, 0) d 68 (114, [.inr (.inr (some 87)), .inl a1, .inl a2, .inl v10], []) M11 (fun v M' => qWf qCI [87, 88, 89, 90, 91] M M' ∧ qRi (fun x => (-1) ≤ x ∧ x ≤ 9) v) := by
                intro N
                induction N with
                | zero => intro v10 M11 hN hv10 hCM11 hWM11; exact absurd hN (Nat.not_lt_zero _)
                | succ N ih114 =>
                  intro v10 M11 hN hv10 hCM11 hWM11
                  have r12 := hCM11.pp
                  refine zG_blk (c' := (119, [.inr (.inr (some 87)), .inl a1, .inl a2, .inl v10], [.inl (M11 87 5), .inl v10])) 3 hd0 hz (by rfl) ?_
                  refine zG_icmp_gt hd0 hz rfl (fun hb13 => ?_) (fun hb13 => ?_)
                  · refine zG_blk (c' := (141, [.inr (.inr (some 87)), .inl a1, .inl a2, .inl v10], [.inl (-1)])) 1 hd0 hz (by rfl) ?_
                    exact zG_ret hd0 hz rfl rfl ⟨⟨hCM11, hWM11⟩, _, rfl, by omega⟩
                  · refine zG_blk (c' := (126, [.inr (.inr (some 87)), .inl a1, .inl a2, .inl v10], [.inl v10, .inl 0, .inl 0, .inr (.inr (some 87))])) 4 hd0 hz (by rfl) ?_
                    refine zG_call hd0 hz zp_71 rfl rfl (Nat.le_of_ble_eq_true rfl) ⟨Nat.le_refl _, Nat.le_refl _⟩ (qm_71_87 (by first | exact zdp hd (by decide) | omega) hCM11  0 (by first | decide | omega) 0 (by first | decide | omega) v10 (by first | with_reducible exact hv10 | omega)) (fun vr M14 hr => ?_)
                    obtain ⟨⟨hCM14, hFM14⟩, x15, rfl, hx15⟩ := hr
                    have hWM14 : qFr [87, 88, 89, 90, 91] M M14 := hWM11.tr hFM14 (by decide)
                    have e16 : M14 87 5 = M11 87 5 := hFM14 87 5 (by decide)
                    show zG n (0, 0) d 68 (129, [.inr (.inr (some 87)), .inl a1, .inl a2, .inl v10], [.inl x15]) M14 _
                    refine zG_if_eq hd0 hz rfl (fun hb17 => ?_) (fun hb17 => ?_)
                    · obtain ⟨x18, hx18⟩ : ∃ x : Int, x = w32 (v10 + 1) := ⟨_, rfl⟩
                      have hx18e : x18 = v10 + 1 := by rw [hx18]; exact w32_id (by omega)
                      refine zG_blk (c' := (114, [.inr (.inr (some 87)), .inl a1, .inl a2, .inl x18], [])) 2 hd0 hz (by subst hx18; rfl) ?_
                      exact ih114 x18 M14 (by omega) (by omega) hCM14 hWM14
                    · refine zG_blk (c' := (133, [.inr (.inr (some 87)), .inl a1, .inl a2, .inl v10], [.inl v10])) 1 hd0 hz (by rfl) ?_
                      exact zG_ret hd0 hz rfl rfl ⟨⟨hCM14, hWM14⟩, _, rfl, by omega⟩
              exact j114 ((10 - 0 : Int).toNat + 1) 0 M7 (by omega) (by omega) hCM7 hWM7
            refine zG_icmp_ge hd0 hz rfl (fun hb19 => ?_) (fun hb19 => ?_)
            · exact j112
            · refine zG_blk (c' := (85, [.inr (.inr (some 87)), .inl a1, .inl a2, .inl v8], [.inl 9, .inl v8])) 4 hd0 hz (by rfl) ?_
              refine zG_icmp_ge hd0 hz rfl (fun hb20 => ?_) (fun hb20 => ?_)
              · exfalso; omega
              · refine zG_blk (c' := (93, [.inr (.inr (some 87)), .inl a1, .inl a2, .inl v8], [.inl v8, .inr (.inr (some 88))])) 3 hd0 hz (by rfl) ?_
                refine zG_iald hd0 hz rfl rfl (.inl rfl) (by omega) ?_
                have hx21 := hCM7.rng 88 (v8 : Int).toNat (by decide) (by decide)
                generalize M7 88 (v8 : Int).toNat = x21 at hx21 ⊢
                show zG n (0, 0) d 68 (94, [.inr (.inr (some 87)), .inl a1, .inl a2, .inl v8], [.inl x21]) M7 _
                refine zG_call hd0 hz zp_296 rfl rfl (Nat.le_of_ble_eq_true rfl) ⟨Nat.le_refl _, Nat.le_refl _⟩ (qm_296 (by first | exact zdp hd (by decide) | omega) hCM7  x21 (by omega)) (fun vr M22 hr => ?_)
                obtain ⟨hq, x23, rfl, hx23⟩ := hr
                replace hq := hq.symm; subst hq
                show zG n (0, 0) d 68 (97, [.inr (.inr (some 87)), .inl a1, .inl a2, .inl v8], [.inl x23]) M7 _
                have r24 := hCM7.rng 87 6 (by decide) (by decide)
                refine zG_blk (c' := (101, [.inr (.inr (some 87)), .inl a1, .inl a2, .inl v8], [.inl (M7 87 6), .inl x23])) 2 hd0 hz (by rfl) ?_
                refine zG_icmp_le hd0 hz rfl (fun hb25 => ?_) (fun hb25 => ?_)
                · obtain ⟨x26, hx26⟩ : ∃ x : Int, x = w32 (v8 + 1) := ⟨_, rfl⟩
                  have hx26e : x26 = v8 + 1 := by rw [hx26]; exact w32_id (by omega)
                  refine zG_blk (c' := (71, [.inr (.inr (some 87)), .inl a1, .inl a2, .inl x26], [])) 2 hd0 hz (by subst hx26; rfl) ?_
                  exact ih71 x26 (by omega) (by omega)
                · refine zG_blk (c' := (105, [.inr (.inr (some 87)), .inl a1, .inl a2, .inl v8], [.inl (-1)])) 1 hd0 hz (by rfl) ?_
                  exact zG_ret hd0 hz rfl rfl ⟨⟨hCM7, hWM7⟩, _, rfl, by omega⟩
        exact j71 ((9 - 0 : Int).toNat + 1) 0 (by first | decide | omega) (by omega)
      refine zG_icmp_ge hd0 hz rfl (fun hb27 => ?_) (fun hb27 => ?_)
      · exact j69
      · have r28 := hCM7.pp
        refine zG_blk (c' := (27, [.inr (.inr (some 87)), .inl a1, .inl a2, .inl v6], [.inl 9, .inl (M7 87 5)])) 5 hd0 hz (by rfl) ?_
        refine zG_icmp_ge hd0 hz rfl (fun hb29 => ?_) (fun hb29 => ?_)
        · exact j69
        · obtain ⟨x30, hx30⟩ : ∃ x : Int, x = zbshr a1 v6 := ⟨_, rfl⟩
          have hx30r : qin x30 := by rw [hx30]; exact qb32 _
          obtain ⟨x31, hx31⟩ : ∃ x : Int, x = zband x30 1 := ⟨_, rfl⟩
          have hx31r := qband_r x30 1 (by first | decide | omega) (by omega); rw [← hx31] at hx31r
          refine zG_blk (c' := (36, [.inr (.inr (some 87)), .inl a1, .inl a2, .inl v6], [.inl 1, .inl x31])) 6 hd0 hz (by subst hx31; subst hx30; rfl) ?_
          have j63 : ∀ (M32 : zM) , qCI M32 → qFr [87, 88, 89, 90, 91] M M32 → zG n (0, 0) d 68 (63, [.inr (.inr (some 87)), .inl a1, .inl a2, .inl v6], []) M32 (fun v M' => qWf qCI [87, 88, 89, 90, 91] M M' ∧ qRi (fun x => (-1) ≤ x ∧ x ≤ 9) v) := by
            intro M32 hCM32 hWM32
            obtain ⟨x33, hx33⟩ : ∃ x : Int, x = w32 (v6 + 1) := ⟨_, rfl⟩
            have hx33e : x33 = v6 + 1 := by rw [hx33]; exact w32_id (by omega)
            refine zG_blk (c' := (12, [.inr (.inr (some 87)), .inl a1, .inl a2, .inl x33], [])) 2 hd0 hz (by subst hx33; rfl) ?_
            exact ih12 x33 M32 (by omega) (by omega) hCM32 hWM32
          refine zG_icmp_ne hd0 hz rfl (fun hb34 => ?_) (fun hb34 => ?_)
          · exact j63 M7 hCM7 hWM7
          · refine zG_blk (c' := (49, [.inr (.inr (some 87)), .inl a1, .inl a2, .inl v6], [.inl v6, .inr (.inr (some 87)), .inl (M7 87 5), .inr (.inr (some 88))])) 6 hd0 hz (by rfl) ?_
            refine zG_call hd0 hz zp_70 rfl rfl (Nat.le_of_ble_eq_true rfl) ⟨Nat.le_refl _, Nat.le_refl _⟩ (qm_70_87 (by first | exact zdp hd (by decide) | omega) hCM7  v6 (by first | with_reducible exact hv6 | omega)) (fun vr M35 hr => ?_)
            obtain ⟨hq, x36, rfl, hx36⟩ := hr
            replace hq := hq.symm; subst hq
            show zG n (0, 0) d 68 (52, [.inr (.inr (some 87)), .inl a1, .inl a2, .inl v6], [.inl x36, .inl (M7 87 5), .inr (.inr (some 88))]) M7 _
            refine zG_iast hd0 hz rfl rfl (by omega) ?_
            obtain ⟨M37, hM37⟩ : ∃ X : zM, X = zput M7 88 ((M7 87 5) : Int).toNat x36 := ⟨_, rfl⟩
            rw [← hM37]
            have hCM37 : qCI M37 := by rw [hM37]; exact hCM7.put (r := 88) rfl (.inl (by omega))
            have hWM37 : qFr [87, 88, 89, 90, 91] M M37 := by rw [hM37]; exact hWM7.put (by decide)
            have e38 : M37 87 5 = M7 87 5 := by rw [hM37]; exact qput_ne (by decide)
            show zG n (0, 0) d 68 (53, [.inr (.inr (some 87)), .inl a1, .inl a2, .inl v6], []) M37 _
            obtain ⟨x39, hx39⟩ : ∃ x : Int, x = w32 ((M37 87 5) + 1) := ⟨_, rfl⟩
            have hx39e : x39 = (M37 87 5) + 1 := by rw [hx39]; exact w32_id (by omega)
            refine zG_blk (c' := (60, [.inr (.inr (some 87)), .inl a1, .inl a2, .inl v6], [.inl x39, .inr (.inr (some 87))])) 5 hd0 hz (by subst hx39; rfl) ?_
            refine zG_putf (.inl rfl) hd0 hz rfl (by decide) rfl rfl ?_
            obtain ⟨M40, hM40⟩ : ∃ X : zM, X = zput M37 87 5 x39 := ⟨_, rfl⟩
            rw [← hM40]
            have hCM40 : qCI M40 := by rw [hM40]; exact hCM37.putPp (by omega)
            have hWM40 : qFr [87, 88, 89, 90, 91] M M40 := by rw [hM40]; exact hWM37.put (by decide)
            have e41 : M40 87 5 = x39 := by rw [hM40]; exact qput_eq
            show zG n (0, 0) d 68 (63, [.inr (.inr (some 87)), .inl a1, .inl a2, .inl v6], []) M40 _
            exact j63 M40 hCM40 hWM40
  exact j12 ((14 - 0 : Int).toNat + 1) 0 M3 (by omega) (by omega) hCM3 hWM3
theorem qm_158_8 {n d : Nat} {M : zM} (hd : 15 ≤ d) (hC : qCI M) (a1 : Int) (ha1 : (-2147483648) ≤ a1 ∧ a1 ≤ 2147483647) (a2 : Int) (ha2 : (-2147483648) ≤ a2 ∧ a2 ≤ 2147483647) : qOkM n d 158 [.inr (.inr (some 8)), .inl a1, .inl a2] 3 qCI [87, 88, 89, 90, 91] M (qRi (fun x => (-3) ≤ x ∧ x ≤ 9)) := by
  have hz := zp_158
  have hd0 : 0 < d := by omega
  have hW : qFr [87, 88, 89, 90, 91] M M := qFr.rfl
  show zG n (0, 0) d 158 (0, [.inr (.inr (some 8)), .inl a1, .inl a2], []) M _
  refine zG_blk (c' := (3, [.inr (.inr (some 8)), .inl a1, .inl a2], [.inr (.inr (some 8)), .inl 0, .inl a1])) 3 hd0 hz (by rfl) ?_
  refine zG_call hd0 hz zp_177 rfl rfl (Nat.le_of_ble_eq_true rfl) ⟨Nat.le_refl _, Nat.le_refl _⟩ (qm_177_8 (by first | exact zdp hd (by decide) | omega) hC  ) (fun vr M1 hr => ?_)
  obtain ⟨hq, x2, rfl, hx2⟩ := hr
  replace hq := hq.symm; subst hq
  show zG n (0, 0) d 158 (6, [.inr (.inr (some 8)), .inl a1, .inl a2], [.inl x2, .inl 0, .inl a1]) M _
  refine zG_call hd0 hz zp_169 rfl rfl (Nat.le_of_ble_eq_true rfl) ⟨Nat.le_refl _, Nat.le_refl _⟩ (qm_169 (by first | exact zdp hd (by decide) | omega) hC  a1 (by first | with_reducible exact ha1 | omega) 0 (by first | decide | omega) x2 (by omega)) (fun vr M3 hr => ?_)
  obtain ⟨hq, x4, rfl, hx4⟩ := hr
  replace hq := hq.symm; subst hq
  show zG n (0, 0) d 158 (9, [.inr (.inr (some 8)), .inl a1, .inl a2], [.inl x4]) M _
  have j23 : zG n (0, 0) d 158 (23, [.inr (.inr (some 8)), .inl a1, .inl a2], []) M (fun v M' => qWf qCI [87, 88, 89, 90, 91] M M' ∧ qRi (fun x => (-3) ≤ x ∧ x ≤ 9) v) := by
    refine zG_blk (c' := (25, [.inr (.inr (some 8)), .inl a1, .inl a2], [.inl (-2)])) 1 hd0 hz (by rfl) ?_
    exact zG_ret hd0 hz rfl rfl ⟨⟨hC, hW⟩, _, rfl, by omega⟩
  refine zG_if_eq hd0 hz rfl (fun hb5 => ?_) (fun hb5 => ?_)
  · exact j23
  · refine zG_blk (c' := (17, [.inr (.inr (some 8)), .inl a1, .inl a2], [.inl 200, .inl 1, .inl a2])) 3 hd0 hz (by rfl) ?_
    refine zG_call hd0 hz zp_169 rfl rfl (Nat.le_of_ble_eq_true rfl) ⟨Nat.le_refl _, Nat.le_refl _⟩ (qm_169 (by first | exact zdp hd (by decide) | omega) hC  a2 (by first | with_reducible exact ha2 | omega) 1 (by first | decide | omega) 200 (by first | decide | omega)) (fun vr M6 hr => ?_)
    obtain ⟨hq, x7, rfl, hx7⟩ := hr
    replace hq := hq.symm; subst hq
    show zG n (0, 0) d 158 (20, [.inr (.inr (some 8)), .inl a1, .inl a2], [.inl x7]) M _
    refine zG_if_ne hd0 hz rfl (fun hb8 => ?_) (fun hb8 => ?_)
    · refine zG_blk (c' := (27, [.inr (.inr (some 8)), .inl a1, .inl a2], [.inl a1])) 1 hd0 hz (by rfl) ?_
      refine zG_call hd0 hz zp_296 rfl rfl (Nat.le_of_ble_eq_true rfl) ⟨Nat.le_refl _, Nat.le_refl _⟩ (qm_296 (by first | exact zdp hd (by decide) | omega) hC  a1 (by first | with_reducible exact ha1 | omega)) (fun vr M9 hr => ?_)
      obtain ⟨hq, x10, rfl, hx10⟩ := hr
      replace hq := hq.symm; subst hq
      show zG n (0, 0) d 158 (30, [.inr (.inr (some 8)), .inl a1, .inl a2], [.inl x10]) M _
      refine zG_blk (c' := (32, [.inr (.inr (some 8)), .inl a1, .inl a2], [.inl 9, .inl x10])) 1 hd0 hz (by rfl) ?_
      have j49 : ∀ (v11 : Int) (M12 : zM) , (-3) ≤ v11 ∧ v11 ≤ 9 → qCI M12 → qFr [87, 88, 89, 90, 91] M M12 → zG n (0, 0) d 158 (49, [.inr (.inr (some 8)), .inl a1, .inl a2], [.inl v11]) M12 (fun v M' => qWf qCI [87, 88, 89, 90, 91] M M' ∧ qRi (fun x => (-3) ≤ x ∧ x ≤ 9) v) := by
        intro v11 M12 hv11 hCM12 hWM12
        exact zG_ret hd0 hz rfl rfl ⟨⟨hCM12, hWM12⟩, _, rfl, by omega⟩
      refine zG_icmp_le hd0 hz rfl (fun hb13 => ?_) (fun hb13 => ?_)
      · refine zG_blk (c' := (46, [.inr (.inr (some 8)), .inl a1, .inl a2], [.inl a2, .inl a1, .inr (.inr (some 87))])) 4 hd0 hz (by rfl) ?_
        refine zG_call hd0 hz zp_68 rfl rfl (Nat.le_of_ble_eq_true rfl) ⟨Nat.le_refl _, Nat.le_refl _⟩ (qm_68_87 (by first | exact zdp hd (by decide) | omega) hC  a1 (by first | with_reducible exact ha1 | omega) a2 (by first | with_reducible exact ha2 | omega)) (fun vr M14 hr => ?_)
        obtain ⟨⟨hCM14, hFM14⟩, x15, rfl, hx15⟩ := hr
        have hWM14 : qFr [87, 88, 89, 90, 91] M M14 := hW.tr hFM14 (by decide)
        show zG n (0, 0) d 158 (49, [.inr (.inr (some 8)), .inl a1, .inl a2], [.inl x15]) M14 _
        exact j49 x15 M14 (by omega) hCM14 hWM14
      · refine zG_blk (c' := (49, [.inr (.inr (some 8)), .inl a1, .inl a2], [.inl (-3)])) 2 hd0 hz (by rfl) ?_
        exact j49 (-3) M (by omega) hC hW
    · exact j23
