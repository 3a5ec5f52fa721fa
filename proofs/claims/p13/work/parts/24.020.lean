theorem qm_91_67 {n d : Nat} {M : zM} (hd : 2 ≤ d) (hC : qCI M) (a1 : Int) (ha1 : 0 ≤ a1 ∧ a1 ≤ 1) : qOkM n d 91 [.inr (.inr (some 67)), .inl a1] 2 qCI [67] M qRn := by
  have hz := zp_91
  have hd0 : 0 < d := by omega
  have hW : qFr [67] M M := qFr.rfl
  show zG n (0, 0) d 91 (0, [.inr (.inr (some 67)), .inl a1], []) M _
  refine zG_blk (c' := (1, [.inr (.inr (some 67)), .inl a1], [.inl a1])) 1 hd0 hz (by rfl) ?_
  have j9 : ∀ (M1 : zM) , qCI M1 → qFr [67] M M1 → zG n (0, 0) d 91 (9, [.inr (.inr (some 67)), .inl a1], []) M1 (fun v M' => qWf qCI [67] M M' ∧ qRn v) := by
    intro M1 hCM1 hWM1
    exact zG_ret hd0 hz rfl rfl ⟨⟨hCM1, hWM1⟩, rfl⟩
  refine zG_if_ne hd0 hz rfl (fun hb2 => ?_) (fun hb2 => ?_)
  · exact j9 M hC hW
  · refine zG_blk (c' := (6, [.inr (.inr (some 67)), .inl a1], [.inl 1, .inr (.inr (some 67))])) 2 hd0 hz (by rfl) ?_
    refine zG_call hd0 hz zp_92 rfl rfl (Nat.le_of_ble_eq_true rfl) ⟨Nat.le_refl _, Nat.le_refl _⟩ (qm_92_67 (by first | exact zdp hd (by decide) | omega) hC  1 (by first | decide | omega)) (fun vr M3 hr => ?_)
    obtain ⟨⟨hCM3, hFM3⟩, rfl⟩ := hr
    have hWM3 : qFr [67] M M3 := hW.tr hFM3 (by decide)
    show zG n (0, 0) d 91 (9, [.inr (.inr (some 67)), .inl a1], []) M3 _
    exact j9 M3 hCM3 hWM3
theorem qm_93_67 {n d : Nat} {M : zM} (hd : 7 ≤ d) (hC : qCI M)  : qOkM n d 93 [.inr (.inr (some 67))] 2 qCI [67] M qRn := by
  have hz := zp_93
  have hd0 : 0 < d := by omega
  have hW : qFr [67] M M := qFr.rfl
  show zG n (0, 0) d 93 (0, [.inr (.inr (some 67)), zN], []) M _
  have r1 := hC.rng 67 6 (by decide) (by decide)
  refine zG_blk (c' := (5, [.inr (.inr (some 67)), zN], [.inl (M 67 6), .inr (.inr (some 67))])) 3 hd0 hz (by rfl) ?_
  refine zG_putf (.inl rfl) hd0 hz rfl (by decide) rfl rfl ?_
  obtain ⟨M2, hM2⟩ : ∃ X : zM, X = zput M 67 5 (M 67 6) := ⟨_, rfl⟩
  rw [← hM2]
  have hCM2 : qCI M2 := by rw [hM2]; exact hC.put (r := 67) (k := 5) rfl (.inl (by omega))
  have hWM2 : qFr [67] M M2 := by rw [hM2]; exact hW.put (by decide)
  have e3 : M2 67 6 = M 67 6 := by rw [hM2]; exact qput_nk (by decide)
  have e4 : M2 67 5 = (M 67 6) := by rw [hM2]; exact qput_eq
  show zG n (0, 0) d 93 (8, [.inr (.inr (some 67)), zN], []) M2 _
  have j8 : ∀ (N : Nat) (M5 : zM) , (M5 67 4 - M5 67 5 : Int).toNat < N → qCI M5 → qFr [67] M M5 → zG n (0, 0) d 93 (8, [.inr (.inr (some 67)), zN], []) M5 (fun v M' => qWf qCI [67] M M' ∧ qRn v) := by
    intro N
    induction N with
    | zero => intro M5 hN hCM5 hWM5; exact absurd hN (Nat.not_lt_zero _)
    | succ N ih8 =>
      intro M5 hN hCM5 hWM5
      have r6 := hCM5.rng 67 5 (by decide) (by decide)
      have r7 := hCM5.rng 67 4 (by decide) (by decide)
      refine zG_blk (c' := (16, [.inr (.inr (some 67)), zN], [.inl (M5 67 4), .inl (M5 67 5)])) 4 hd0 hz (by rfl) ?_
      have j45 : zG n (0, 0) d 93 (45, [.inr (.inr (some 67)), zN], []) M5 (fun v M' => qWf qCI [67] M M' ∧ qRn v) := by
        refine zG_blk (c' := (50, [.inr (.inr (some 67)), zN], [.inl (M5 67 5), .inr (.inr (some 67))])) 3 hd0 hz (by rfl) ?_
        refine zG_putf (.inl rfl) hd0 hz rfl (by decide) rfl rfl ?_
        obtain ⟨M8, hM8⟩ : ∃ X : zM, X = zput M5 67 6 (M5 67 5) := ⟨_, rfl⟩
        rw [← hM8]
        have hCM8 : qCI M8 := by rw [hM8]; exact hCM5.put (r := 67) (k := 6) rfl (.inl (by omega))
        have hWM8 : qFr [67] M M8 := by rw [hM8]; exact hWM5.put (by decide)
        have e9 : M8 67 5 = M5 67 5 := by rw [hM8]; exact qput_nk (by decide)
        have e10 : M8 67 4 = M5 67 4 := by rw [hM8]; exact qput_nk (by decide)
        have e11 : M8 67 6 = (M5 67 5) := by rw [hM8]; exact qput_eq
        show zG n (0, 0) d 93 (53, [.inr (.inr (some 67)), zN], []) M8 _
        refine zG_blk (c' := (61, [.inr (.inr (some 67)), zN], [.inl (M8 67 4), .inl (M8 67 5)])) 4 hd0 hz (by rfl) ?_
        have j161 : ∀ (M12 : zM) , qCI M12 → qFr [67] M M12 → zG n (0, 0) d 93 (161, [.inr (.inr (some 67)), zN], []) M12 (fun v M' => qWf qCI [67] M M' ∧ qRn v) := by
          intro M12 hCM12 hWM12
          exact zG_ret hd0 hz rfl rfl ⟨⟨hCM12, hWM12⟩, rfl⟩
        refine zG_icmp_lt hd0 hz rfl (fun hb13 => ?_) (fun hb13 => ?_)
        · refine zG_blk (c' := (78, [.inr (.inr (some 67)), zN], [.inl (M8 67 5), .inr (.inr (some 67))])) 3 hd0 hz (by rfl) ?_
          refine zG_call hd0 hz zp_97 rfl rfl (Nat.le_of_ble_eq_true rfl) ⟨Nat.le_refl _, Nat.le_refl _⟩ (qm_97_67 (by first | exact zdp hd (by decide) | omega) hCM8  (M8 67 5) (by omega)) (fun vr M14 hr => ?_)
          obtain ⟨hq, x15, rfl, hx15⟩ := hr
          replace hq := hq.symm; subst hq
          show zG n (0, 0) d 93 (81, [.inr (.inr (some 67)), zN], [.inl x15]) M8 _
          refine zG_call hd0 hz zp_98 rfl rfl (Nat.le_of_ble_eq_true rfl) ⟨Nat.le_refl _, Nat.le_refl _⟩ (qm_98 (by first | exact zdp hd (by decide) | omega) hCM8  x15 (by omega)) (fun vr M16 hr => ?_)
          obtain ⟨hq, x17, rfl, hx17⟩ := hr
          replace hq := hq.symm; subst hq
          show zG n (0, 0) d 93 (84, [.inr (.inr (some 67)), zN], [.inl x17]) M8 _
          refine zG_if_eq hd0 hz rfl (fun hb18 => ?_) (fun hb18 => ?_)
          · refine zG_blk (c' := (99, [.inr (.inr (some 67)), zN], [.inl (M8 67 5), .inr (.inr (some 67))])) 3 hd0 hz (by rfl) ?_
            refine zG_call hd0 hz zp_97 rfl rfl (Nat.le_of_ble_eq_true rfl) ⟨Nat.le_refl _, Nat.le_refl _⟩ (qm_97_67 (by first | exact zdp hd (by decide) | omega) hCM8  (M8 67 5) (by omega)) (fun vr M19 hr => ?_)
            obtain ⟨hq, x20, rfl, hx20⟩ := hr
            replace hq := hq.symm; subst hq
            show zG n (0, 0) d 93 (102, [.inr (.inr (some 67)), zN], [.inl x20]) M8 _
            refine zG_call hd0 hz zp_99 rfl rfl (Nat.le_of_ble_eq_true rfl) ⟨Nat.le_refl _, Nat.le_refl _⟩ (qm_99 (by first | exact zdp hd (by decide) | omega) hCM8  x20 (by omega)) (fun vr M21 hr => ?_)
            obtain ⟨hq, x22, rfl, hx22⟩ := hr
            replace hq := hq.symm; subst hq
            show zG n (0, 0) d 93 (105, [.inr (.inr (some 67)), zN], [.inl x22]) M8 _
            refine zG_if_eq hd0 hz rfl (fun hb23 => ?_) (fun hb23 => ?_)
            · obtain ⟨x24, hx24⟩ : ∃ x : Int, x = w32 ((M8 67 5) + 1) := ⟨_, rfl⟩
              have hx24r : x24 = ((M8 67 5) + 1 + 2147483648) % 4294967296 - 2147483648 := hx24
              refine zG_blk (c' := (122, [.inr (.inr (some 67)), zN], [.inl x24, .inr (.inr (some 67))])) 5 hd0 hz (by subst hx24; rfl) ?_
              refine zG_putf (.inl rfl) hd0 hz rfl (by decide) rfl rfl ?_
              obtain ⟨M25, hM25⟩ : ∃ X : zM, X = zput M8 67 6 x24 := ⟨_, rfl⟩
              rw [← hM25]
              have hCM25 : qCI M25 := by rw [hM25]; exact hCM8.put (r := 67) (k := 6) rfl (.inl (by omega))
              have hWM25 : qFr [67] M M25 := by rw [hM25]; exact hWM8.put (by decide)
              have e26 : M25 67 5 = M8 67 5 := by rw [hM25]; exact qput_nk (by decide)
              have e27 : M25 67 4 = M8 67 4 := by rw [hM25]; exact qput_nk (by decide)
              have e28 : M25 67 6 = x24 := by rw [hM25]; exact qput_eq
              show zG n (0, 0) d 93 (125, [.inr (.inr (some 67)), zN], []) M25 _
              refine zG_blk (c' := (132, [.inr (.inr (some 67)), zN], [.inl (M25 67 5), .inr (.inr (some 67)), .inr (.inr (some 6))])) 4 hd0 hz (by rfl) ?_
              refine zG_call hd0 hz zp_97 rfl rfl (Nat.le_of_ble_eq_true rfl) ⟨Nat.le_refl _, Nat.le_refl _⟩ (qm_97_67 (by first | exact zdp hd (by decide) | omega) hCM25  (M25 67 5) (by omega)) (fun vr M29 hr => ?_)
              obtain ⟨hq, x30, rfl, hx30⟩ := hr
              replace hq := hq.symm; subst hq
              show zG n (0, 0) d 93 (135, [.inr (.inr (some 67)), zN], [.inl x30, .inr (.inr (some 6))]) M25 _
              obtain ⟨x31, hx31⟩ : ∃ x : Int, x = x30 % 65536 := ⟨_, rfl⟩
              refine zG_blk (c' := (136, [.inr (.inr (some 67)), zN], [.inl x31, .inr (.inr (some 6))])) 1 hd0 hz (by subst hx31; rfl) ?_
              refine zG_call hd0 hz zp_300 rfl rfl (Nat.le_of_ble_eq_true rfl) ⟨Nat.le_refl _, Nat.le_refl _⟩ (qm_300_6 (by first | exact zdp hd (by decide) | omega) hCM25  x31 (by omega)) (fun vr M32 hr => ?_)
              obtain ⟨hq, x33, rfl, hx33⟩ := hr
              replace hq := hq.symm; subst hq
              show zG n (0, 0) d 93 (139, [.inr (.inr (some 67)), zN], [.inl x33]) M25 _
              obtain ⟨x34, hx34⟩ : ∃ x : Int, x = w32 (15 + x33) := ⟨_, rfl⟩
              have hx34e : x34 = 15 + x33 := by rw [hx34]; exact w32_id (by omega)
              refine zG_blk (c' := (145, [.inr (.inr (some 67)), .inl x33], [.inl x34, .inr (.inr (some 67))])) 5 hd0 hz (by subst hx34; rfl) ?_
              refine zG_putf (.inl rfl) hd0 hz rfl (by decide) rfl rfl ?_
              obtain ⟨M35, hM35⟩ : ∃ X : zM, X = zput M25 67 7 x34 := ⟨_, rfl⟩
              rw [← hM35]
              have hCM35 : qCI M35 := by rw [hM35]; exact hCM25.put (r := 67) (k := 7) rfl (.inl (by omega))
              have hWM35 : qFr [67] M M35 := by rw [hM35]; exact hWM25.put (by decide)
              have e36 : M35 67 5 = M25 67 5 := by rw [hM35]; exact qput_nk (by decide)
              have e37 : M35 67 4 = M25 67 4 := by rw [hM35]; exact qput_nk (by decide)
              have e38 : M35 67 6 = M25 67 6 := by rw [hM35]; exact qput_nk (by decide)
              have e39 : M35 67 7 = x34 := by rw [hM35]; exact qput_eq
              show zG n (0, 0) d 93 (148, [.inr (.inr (some 67)), .inl x33], []) M35 _
              refine zG_blk (c' := (150, [.inr (.inr (some 67)), .inl x33], [.inl x33, .inr (.inr (some 67))])) 2 hd0 hz (by rfl) ?_
              have j158 : ∀ (v40 : Int) , 0 ≤ v40 ∧ v40 ≤ 1 → zG n (0, 0) d 93 (158, [.inr (.inr (some 67)), .inl x33], [.inl v40, .inr (.inr (some 67))]) M35 (fun v M' => qWf qCI [67] M M' ∧ qRn v) := by
                intro v40 hv40
                refine zG_call hd0 hz zp_91 rfl rfl (Nat.le_of_ble_eq_true rfl) ⟨Nat.le_refl _, Nat.le_refl _⟩ (qm_91_67 (by first | exact zdp hd (by decide) | omega) hCM35  v40 (by first | with_reducible exact hv40 | omega)) (fun vr M41 hr => ?_)
                obtain ⟨⟨hCM41, hFM41⟩, rfl⟩ := hr
                have hWM41 : qFr [67] M M41 := hWM35.tr hFM41 (by decide)
                show zG n (0, 0) d 93 (161, [.inr (.inr (some 67)), .inl x33], []) M41 _
                exact zG_weak (j161 M41 hCM41 hWM41) ⟨.inr rfl, .inl rfl, trivial⟩
              refine zG_if_lt hd0 hz rfl (fun hb43 => ?_) (fun hb43 => ?_)
              · refine zG_blk (c' := (158, [.inr (.inr (some 67)), .inl x33], [.inl 0, .inr (.inr (some 67))])) 1 hd0 hz (by rfl) ?_
                exact j158 0 (by first | decide | omega)
              · refine zG_blk (c' := (158, [.inr (.inr (some 67)), .inl x33], [.inl 1, .inr (.inr (some 67))])) 2 hd0 hz (by rfl) ?_
                exact j158 1 (by first | decide | omega)
            · refine zG_blk (c' := (109, [.inr (.inr (some 67)), zN], [.inr (.inr (some 67))])) 1 hd0 hz (by rfl) ?_
              refine zG_call hd0 hz zp_95 rfl rfl (Nat.le_of_ble_eq_true rfl) ⟨Nat.le_refl _, Nat.le_refl _⟩ (qm_95_67 (by first | exact zdp hd (by decide) | omega) hCM8  ) (fun vr M44 hr => ?_)
              obtain ⟨⟨hCM44, hFM44⟩, rfl⟩ := hr
              have hWM44 : qFr [67] M M44 := hWM8.tr hFM44 (by decide)
              show zG n (0, 0) d 93 (112, [.inr (.inr (some 67)), zN], []) M44 _
              refine zG_blk (c' := (161, [.inr (.inr (some 67)), zN], [])) 1 hd0 hz (by rfl) ?_
              exact j161 M44 hCM44 hWM44
          · refine zG_blk (c' := (88, [.inr (.inr (some 67)), zN], [.inr (.inr (some 67))])) 1 hd0 hz (by rfl) ?_
            refine zG_call hd0 hz zp_94 rfl rfl (Nat.le_of_ble_eq_true rfl) ⟨Nat.le_refl _, Nat.le_refl _⟩ (qm_94_67 (by first | exact zdp hd (by decide) | omega) hCM8  ) (fun vr M46 hr => ?_)
            obtain ⟨⟨hCM46, hFM46⟩, rfl⟩ := hr
            have hWM46 : qFr [67] M M46 := hWM8.tr hFM46 (by decide)
            show zG n (0, 0) d 93 (91, [.inr (.inr (some 67)), zN], []) M46 _
            refine zG_blk (c' := (161, [.inr (.inr (some 67)), zN], [])) 1 hd0 hz (by rfl) ?_
            exact j161 M46 hCM46 hWM46
        · refine zG_blk (c' := (67, [.inr (.inr (some 67)), zN], [.inl 25, .inr (.inr (some 67))])) 2 hd0 hz (by rfl) ?_
          refine zG_putf (.inl rfl) hd0 hz rfl (by decide) rfl rfl ?_
          obtain ⟨M48, hM48⟩ : ∃ X : zM, X = zput M8 67 7 25 := ⟨_, rfl⟩
          rw [← hM48]
          have hCM48 : qCI M48 := by rw [hM48]; exact hCM8.put (r := 67) (k := 7) rfl (.inl (by omega))
          have hWM48 : qFr [67] M M48 := by rw [hM48]; exact hWM8.put (by decide)
          have e49 : M48 67 5 = M8 67 5 := by rw [hM48]; exact qput_nk (by decide)
          have e50 : M48 67 4 = M8 67 4 := by rw [hM48]; exact qput_nk (by decide)
          have e51 : M48 67 6 = M8 67 6 := by rw [hM48]; exact qput_nk (by decide)
          have e52 : M48 67 7 = 25 := by rw [hM48]; exact qput_eq
          show zG n (0, 0) d 93 (70, [.inr (.inr (some 67)), zN], []) M48 _
          refine zG_blk (c' := (161, [.inr (.inr (some 67)), zN], [])) 1 hd0 hz (by rfl) ?_
          exact j161 M48 hCM48 hWM48
      refine zG_icmp_ge hd0 hz rfl (fun hb53 => ?_) (fun hb53 => ?_)
      · exact j45
      · refine zG_blk (c' := (24, [.inr (.inr (some 67)), zN], [.inl (M5 67 5), .inr (.inr (some 67))])) 3 hd0 hz (by rfl) ?_
        refine zG_call hd0 hz zp_97 rfl rfl (Nat.le_of_ble_eq_true rfl) ⟨Nat.le_refl _, Nat.le_refl _⟩ (qm_97_67 (by first | exact zdp hd (by decide) | omega) hCM5  (M5 67 5) (by omega)) (fun vr M54 hr => ?_)
        obtain ⟨hq, x55, rfl, hx55⟩ := hr
        replace hq := hq.symm; subst hq
        show zG n (0, 0) d 93 (27, [.inr (.inr (some 67)), zN], [.inl x55]) M5 _
        refine zG_blk (c' := (29, [.inr (.inr (some 67)), zN], [.inl 32, .inl x55])) 1 hd0 hz (by rfl) ?_
        refine zG_icmp_ne hd0 hz rfl (fun hb56 => ?_) (fun hb56 => ?_)
        · exact j45
        · obtain ⟨x57, hx57⟩ : ∃ x : Int, x = w32 ((M5 67 5) + 1) := ⟨_, rfl⟩
          have hx57r : x57 = ((M5 67 5) + 1 + 2147483648) % 4294967296 - 2147483648 := hx57
          refine zG_blk (c' := (39, [.inr (.inr (some 67)), zN], [.inl x57, .inr (.inr (some 67))])) 5 hd0 hz (by subst hx57; rfl) ?_
          refine zG_putf (.inl rfl) hd0 hz rfl (by decide) rfl rfl ?_
          obtain ⟨M58, hM58⟩ : ∃ X : zM, X = zput M5 67 5 x57 := ⟨_, rfl⟩
          rw [← hM58]
          have hCM58 : qCI M58 := by rw [hM58]; exact hCM5.put (r := 67) (k := 5) rfl (.inl (by omega))
          have hWM58 : qFr [67] M M58 := by rw [hM58]; exact hWM5.put (by decide)
          have e59 : M58 67 4 = M5 67 4 := by rw [hM58]; exact qput_nk (by decide)
          have e60 : M58 67 5 = x57 := by rw [hM58]; exact qput_eq
          show zG n (0, 0) d 93 (42, [.inr (.inr (some 67)), zN], []) M58 _
          refine zG_blk (c' := (8, [.inr (.inr (some 67)), zN], [])) 1 hd0 hz (by rfl) ?_
          exact ih8 M58 (by omega) hCM58 hWM58
  exact j8 ((M2 67 4 - M2 67 5 : Int).toNat + 1) M2 (by omega) hCM2 hWM2
theorem qm_87_67 {n d : Nat} {M : zM} (hd : 2 ≤ d) (hC : qCI M) (a1 : Int) (ha1 : (-2147483648) ≤ a1 ∧ a1 ≤ 2147483647) : qOkM n d 87 [.inr (.inr (some 67)), .inl a1] 2 qCI [70, 71] M qRn := by
  have hz := zp_87
  have hd0 : 0 < d := by omega
  have hW : qFr [70, 71] M M := qFr.rfl
  show zG n (0, 0) d 87 (0, [.inr (.inr (some 67)), .inl a1], []) M _
  refine zG_blk (c' := (8, [.inr (.inr (some 67)), .inl a1], [.inr (.inr (some 70)), .inr (.inr (some 70))])) 4 hd0 hz (by rfl) ?_
  refine zG_call hd0 hz zp_103 rfl rfl (Nat.le_of_ble_eq_true rfl) ⟨Nat.le_refl _, Nat.le_refl _⟩ (qw_open (by first | exact zdp hd (by decide) | omega) hC (⟨by decide, rfl, rfl⟩ : qT n 70 80 1) ) (fun vr M1 hr => ?_)
  obtain ⟨⟨hCM1, hFM1⟩, x2, rfl, hx2⟩ := hr
  have hWM1 : qFr [70, 71] M M1 := hW.tr hFM1 (by decide)
  show zG n (0, 0) d 87 (11, [.inr (.inr (some 67)), .inl a1], [.inl x2, .inr (.inr (some 70))]) M1 _
  refine zG_blk (c' := (13, [.inr (.inr (some 67)), .inl a1], [.inl a1, .inl 0, .inl x2, .inr (.inr (some 70))])) 2 hd0 hz (by rfl) ?_
  refine zG_call hd0 hz zp_107 rfl rfl (Nat.le_of_ble_eq_true rfl) ⟨Nat.le_refl _, Nat.le_refl _⟩ (qw_set (by first | exact zdp hd (by decide) | omega) hCM1 (⟨by decide, rfl, rfl⟩ : qT n 70 80 1) x2 (by omega) 0 (by first | decide | omega) a1 (by first | with_reducible exact ha1 | omega)) (fun vr M3 hr => ?_)
  obtain ⟨⟨hCM3, hFM3⟩, rfl⟩ := hr
  have hWM3 : qFr [70, 71] M M3 := hWM1.tr hFM3 (by decide)
  show zG n (0, 0) d 87 (16, [.inr (.inr (some 67)), .inl a1], []) M3 _
  exact zG_ret hd0 hz rfl rfl ⟨⟨hCM3, hWM3⟩, rfl⟩
theorem qm_80_67 {n d : Nat} {M : zM} (hd : 3 ≤ d) (hC : qCI M)  : qOkM n d 80 [.inr (.inr (some 67))] 1 qCI [67, 70, 71] M qRn := by
  have hz := zp_80
  have hd0 : 0 < d := by omega
  have hW : qFr [67, 70, 71] M M := qFr.rfl
  show zG n (0, 0) d 80 (0, [.inr (.inr (some 67))], []) M _
  have r1 := hC.rng 67 9 (by decide) (by decide)
  refine zG_blk (c' := (6, [.inr (.inr (some 67))], [.inl 8, .inl (M 67 9)])) 3 hd0 hz (by rfl) ?_
  refine zG_icmp_lt hd0 hz rfl (fun hb2 => ?_) (fun hb2 => ?_)
  · obtain ⟨x3, hx3⟩ : ∃ x : Int, x = w32 ((M 67 9) + 1) := ⟨_, rfl⟩
    have hx3r : x3 = ((M 67 9) + 1 + 2147483648) % 4294967296 - 2147483648 := hx3
    refine zG_blk (c' := (22, [.inr (.inr (some 67))], [.inl x3, .inr (.inr (some 67))])) 5 hd0 hz (by subst hx3; rfl) ?_
    refine zG_putf (.inl rfl) hd0 hz rfl (by decide) rfl rfl ?_
    obtain ⟨M4, hM4⟩ : ∃ X : zM, X = zput M 67 9 x3 := ⟨_, rfl⟩
    rw [← hM4]
    have hCM4 : qCI M4 := by rw [hM4]; exact hC.put (r := 67) (k := 9) rfl (.inl (by omega))
    have hWM4 : qFr [67, 70, 71] M M4 := by rw [hM4]; exact hW.put (by decide)
    have e5 : M4 67 9 = x3 := by rw [hM4]; exact qput_eq
    show zG n (0, 0) d 80 (25, [.inr (.inr (some 67))], []) M4 _
    refine zG_blk (c' := (28, [.inr (.inr (some 67))], [.inl 22, .inr (.inr (some 67))])) 2 hd0 hz (by rfl) ?_
    refine zG_call hd0 hz zp_87 rfl rfl (Nat.le_of_ble_eq_true rfl) ⟨Nat.le_refl _, Nat.le_refl _⟩ (qm_87_67 (by first | exact zdp hd (by decide) | omega) hCM4  22 (by first | decide | omega)) (fun vr M6 hr => ?_)
    obtain ⟨⟨hCM6, hFM6⟩, rfl⟩ := hr
    have hWM6 : qFr [67, 70, 71] M M6 := hWM4.tr hFM6 (by decide)
    have e8 : M6 67 9 = M4 67 9 := hFM6 67 9 (by decide)
    show zG n (0, 0) d 80 (31, [.inr (.inr (some 67))], []) M6 _
    exact zG_ret hd0 hz rfl rfl ⟨⟨hCM6, hWM6⟩, rfl⟩
  · refine zG_blk (c' := (11, [.inr (.inr (some 67))], [.inl 3, .inr (.inr (some 67))])) 2 hd0 hz (by rfl) ?_
    refine zG_call hd0 hz zp_92 rfl rfl (Nat.le_of_ble_eq_true rfl) ⟨Nat.le_refl _, Nat.le_refl _⟩ (qm_92_67 (by first | exact zdp hd (by decide) | omega) hC  3 (by first | decide | omega)) (fun vr M9 hr => ?_)
    obtain ⟨⟨hCM9, hFM9⟩, rfl⟩ := hr
    have hWM9 : qFr [67, 70, 71] M M9 := hW.tr hFM9 (by decide)
    show zG n (0, 0) d 80 (14, [.inr (.inr (some 67))], []) M9 _
    exact zG_ret hd0 hz rfl rfl ⟨⟨hCM9, hWM9⟩, rfl⟩
theorem qm_89_67 {n d : Nat} {M : zM} (hd : 2 ≤ d) (hC : qCI M) (a1 : Int) (ha1 : (-2147483648) ≤ a1 ∧ a1 ≤ 2147483647) : qOkM n d 89 [.inr (.inr (some 67)), .inl a1] 3 qCI [69] M qRn := by
  have hz := zp_89
  have hd0 : 0 < d := by omega
  have hW : qFr [69] M M := qFr.rfl
  show zG n (0, 0) d 89 (0, [.inr (.inr (some 67)), .inl a1, zN], []) M _
  refine zG_blk (c' := (6, [.inr (.inr (some 67)), .inl a1, zN], [.inl 0, .inl 0, .inr (.inr (some 68))])) 4 hd0 hz (by rfl) ?_
  refine zG_call hd0 hz zp_106 rfl rfl (Nat.le_of_ble_eq_true rfl) ⟨Nat.le_refl _, Nat.le_refl _⟩ (qw_get (by first | exact zdp hd (by decide) | omega) hC (⟨by decide, rfl, rfl⟩ : qT n 68 1 81) 0 (by first | decide | omega) 0 (by first | decide | omega)) (fun vr M1 hr => ?_)
  obtain ⟨hq, x2, rfl, hx2⟩ := hr
  replace hq := hq.symm; subst hq
  show zG n (0, 0) d 89 (9, [.inr (.inr (some 67)), .inl a1, zN], [.inl x2]) M _
  obtain ⟨x3, hx3⟩ : ∃ x : Int, x = w32 (1 + x2) := ⟨_, rfl⟩
  have hx3r : x3 = (1 + x2 + 2147483648) % 4294967296 - 2147483648 := hx3
  refine zG_blk (c' := (19, [.inr (.inr (some 67)), .inl a1, .inl x2], [.inl a1, .inl x3, .inl 0, .inr (.inr (some 68))])) 8 hd0 hz (by subst hx3; rfl) ?_
  refine zG_call hd0 hz zp_107 rfl rfl (Nat.le_of_ble_eq_true rfl) ⟨Nat.le_refl _, Nat.le_refl _⟩ (qw_set (by first | exact zdp hd (by decide) | omega) hC (⟨by decide, rfl, rfl⟩ : qT n 68 1 81) 0 (by first | decide | omega) x3 (by omega) a1 (by first | with_reducible exact ha1 | omega)) (fun vr M4 hr => ?_)
  obtain ⟨⟨hCM4, hFM4⟩, rfl⟩ := hr
  have hWM4 : qFr [69] M M4 := hW.tr hFM4 (by decide)
  show zG n (0, 0) d 89 (22, [.inr (.inr (some 67)), .inl a1, .inl x2], []) M4 _
  obtain ⟨x6, hx6⟩ : ∃ x : Int, x = w32 (x2 + 1) := ⟨_, rfl⟩
  have hx6r : x6 = (x2 + 1 + 2147483648) % 4294967296 - 2147483648 := hx6
  refine zG_blk (c' := (31, [.inr (.inr (some 67)), .inl a1, .inl x2], [.inl x6, .inl 0, .inl 0, .inr (.inr (some 68))])) 7 hd0 hz (by subst hx6; rfl) ?_
  refine zG_call hd0 hz zp_107 rfl rfl (Nat.le_of_ble_eq_true rfl) ⟨Nat.le_refl _, Nat.le_refl _⟩ (qw_set (by first | exact zdp hd (by decide) | omega) hCM4 (⟨by decide, rfl, rfl⟩ : qT n 68 1 81) 0 (by first | decide | omega) 0 (by first | decide | omega) x6 (by omega)) (fun vr M7 hr => ?_)
  obtain ⟨⟨hCM7, hFM7⟩, rfl⟩ := hr
  have hWM7 : qFr [69] M M7 := hWM4.tr hFM7 (by decide)
  show zG n (0, 0) d 89 (34, [.inr (.inr (some 67)), .inl a1, .inl x2], []) M7 _
  exact zG_ret hd0 hz rfl rfl ⟨⟨hCM7, hWM7⟩, rfl⟩
