/-! THE MODEL'S METHODS, BY PROGRAM -/
theorem qm_272_97 {n d : Nat} {M : zM} (hd : 1 ≤ d) (hC : qMI M)  (a1 : Int) (ha1 : (-2147483648) ≤ a1 ∧ a1 ≤ 2147483647) : qOkP n d 272 [.inr (.inr (some 97)), .inl a1] 4 M (fun v => ∃ x : Int, v = some (.inl x) ∧ (0 ≤ x ∧ x ≤ 20)) := by
  have hz := zp_272
  have hd0 : 0 < d := by omega
  have r1 := hC.cnt1
  show zG n (0, 0) d 272 (0, [.inr (.inr (some 97)), .inl a1, zN, zN], []) M _
  refine zG_w (c' := (4, [.inr (.inr (some 97)), .inl a1, .inl 0, .inl 0], [])) 4 hd0 hz (by rfl) ?_
  have j4 : ∀ (N : Nat) (v2 v3 : Int) , (20 - v3 : Int).toNat < N → (-2147483648) ≤ v2 ∧ v2 ≤ 2147483647 → 0 ≤ v3 ∧ v3 ≤ 20 → (0 ≤ v2 ∧ v2 ≤ v3) → zG n (0, 0) d 272 (4, [.inr (.inr (some 97)), .inl a1, .inl v2, .inl v3], []) M (fun v M' => M' = M ∧ ∃ x : Int, v = some (.inl x) ∧ (0 ≤ x ∧ x ≤ 20)) := by
    intro N
    induction N with
    | zero => intro v2 v3 hN hv2 hv3 hx0_4; exact absurd hN (Nat.not_lt_zero _)
    | succ N ih4 =>
      intro v2 v3 hN hv2 hv3 hx0_4
      replace hN : 20 - v3 < (N : Int) + 1 := by omega
      refine zG_w (c' := (10, [.inr (.inr (some 97)), .inl a1, .inl v2, .inl v3], [.inl 1, .inr (.inr (some 98)), .inl v3])) 4 hd0 hz (by rfl) ?_
      refine zG_iald hd0 hz rfl rfl (.inl rfl) (by omega) ?_
      show zG n (0, 0) d 272 (11, [.inr (.inr (some 97)), .inl a1, .inl v2, .inl v3], [.inl (M 98 1), .inl v3]) M _
      refine zG_wi_ge (pc := 11) (n' := 14) (t := 40) (L := [.inr (.inr (some 97)), .inl a1, .inl v2, .inl v3]) (st := []) (x := v3) (y := (M 98 1)) 0 hd0 hz (by rfl) (fun hb4 => ?_) (fun hb4 => ?_)
      · exact zG_wr (r := some (.inl v2)) 1 hd0 hz (by rfl) ⟨rfl, _, rfl, by omega⟩
      · obtain ⟨x5, hx5⟩ : ∃ x : Int, x = w32 (3 * v3) := ⟨_, rfl⟩
        have hx5e : x5 = 3 * v3 := by rw [hx5]; exact w32_id (by omega)
        obtain ⟨x6, hx6⟩ : ∃ x : Int, x = w32 (80 + x5) := ⟨_, rfl⟩
        have hx6e : x6 = 80 + x5 := by rw [hx6]; exact w32_id (by omega)
        obtain ⟨x7, hx7⟩ : ∃ x : Int, x = w32 (x6 + 2) := ⟨_, rfl⟩
        have hx7e : x7 = x6 + 2 := by rw [hx7]; exact w32_id (by omega)
        refine zG_w (c' := (27, [.inr (.inr (some 97)), .inl a1, .inl v2, .inl v3], [.inl x7, .inr (.inr (some 98)), .inl v2])) 10 hd0 hz (by subst hx7; subst hx6; subst hx5; rfl) ?_
        refine zG_iald hd0 hz rfl rfl (.inl rfl) (by omega) ?_
        obtain ⟨x8, hx8⟩ : ∃ x : Int, x = M 98 (x7 : Int).toNat := ⟨_, rfl⟩
        rw [← hx8]
        have hx8r : qin x8 := by rw [hx8]; exact hC.sin _
        show zG n (0, 0) d 272 (28, [.inr (.inr (some 97)), .inl a1, .inl v2, .inl v3], [.inl x8, .inl v2]) M _
        obtain ⟨x9, hx9⟩ : ∃ x : Int, x = zbshr x8 a1 := ⟨_, rfl⟩
        have hx9r : qin x9 := by rw [hx9]; exact qb32 _
        obtain ⟨x10, hx10⟩ : ∃ x : Int, x = zband x9 1 := ⟨_, rfl⟩
        have hx10r := qband_r x9 1 (by first | decide | omega) (by omega); rw [← hx10] at hx10r
        have hx10l : 0 ≤ x9 → x10 ≤ x9 := fun h9 => by rw [hx10]; exact (qband_l x9 1 ⟨h9, by omega⟩ (by omega)).2
        obtain ⟨x11, hx11⟩ : ∃ x : Int, x = w32 (v2 + x10) := ⟨_, rfl⟩
        have hx11r : x11 = (v2 + x10 + 2147483648) % 4294967296 - 2147483648 := hx11
        obtain ⟨x12, hx12⟩ : ∃ x : Int, x = w32 (v3 + 1) := ⟨_, rfl⟩
        have hx12e : x12 = v3 + 1 := by rw [hx12]; exact w32_id (by omega)
        refine zG_w (c' := (4, [.inr (.inr (some 97)), .inl a1, .inl x11, .inl x12], [])) 8 hd0 hz (by subst hx12; subst hx11; subst hx10; subst hx9; rfl) ?_
        exact ih4 x11 x12 (by omega) (by omega) (by omega) (by omega)
  exact j4 ((20 - 0 : Int).toNat + 1) 0 0 (by first | decide | omega) (by omega) (by omega) (by omega)
theorem qm_273_97 {n d : Nat} {M : zM} (hd : 1 ≤ d) (hC : qMI M)  (a1 : Int) (ha1 : (-2147483648) ≤ a1 ∧ a1 ≤ 2147483647) (a2 : Int) (ha2 : (-2147483648) ≤ a2 ∧ a2 ≤ 2147483647) : qOkP n d 273 [.inr (.inr (some 97)), .inl a1, .inl a2] 5 M (fun v => ∃ x : Int, v = some (.inl x) ∧ (0 ≤ x ∧ x ≤ 1)) := by
  have hz := zp_273
  have hd0 : 0 < d := by omega
  have r1 := hC.cnt1
  show zG n (0, 0) d 273 (0, [.inr (.inr (some 97)), .inl a1, .inl a2, zN, zN], []) M _
  refine zG_w (c' := (2, [.inr (.inr (some 97)), .inl a1, .inl a2, .inl 0, zN], [])) 2 hd0 hz (by rfl) ?_
  have j2 : ∀ (N : Nat) (v2 : Int) , (20 - v2 : Int).toNat < N → 0 ≤ v2 ∧ v2 ≤ 20 → zG n (0, 0) d 273 (2, [.inr (.inr (some 97)), .inl a1, .inl a2, .inl v2, zN], []) M (fun v M' => M' = M ∧ ∃ x : Int, v = some (.inl x) ∧ (0 ≤ x ∧ x ≤ 1)) := by
    intro N
    induction N with
    | zero => intro v2 hN hv2; exact absurd hN (Nat.not_lt_zero _)
    | succ N ih2 =>
      intro v2 hN hv2
      replace hN : 20 - v2 < (N : Int) + 1 := by omega
      refine zG_w (c' := (8, [.inr (.inr (some 97)), .inl a1, .inl a2, .inl v2, zN], [.inl 1, .inr (.inr (some 98)), .inl v2])) 4 hd0 hz (by rfl) ?_
      refine zG_iald hd0 hz rfl rfl (.inl rfl) (by omega) ?_
      show zG n (0, 0) d 273 (9, [.inr (.inr (some 97)), .inl a1, .inl a2, .inl v2, zN], [.inl (M 98 1), .inl v2]) M _
      refine zG_wi_ge (pc := 9) (n' := 12) (t := 55) (L := [.inr (.inr (some 97)), .inl a1, .inl a2, .inl v2, zN]) (st := []) (x := v2) (y := (M 98 1)) 0 hd0 hz (by rfl) (fun hb3 => ?_) (fun hb3 => ?_)
      · exact zG_wr (r := some (.inl 1)) 1 hd0 hz (by rfl) ⟨rfl, _, rfl, by omega⟩
      · obtain ⟨x4, hx4⟩ : ∃ x : Int, x = w32 (3 * v2) := ⟨_, rfl⟩
        have hx4e : x4 = 3 * v2 := by rw [hx4]; exact w32_id (by omega)
        obtain ⟨x5, hx5⟩ : ∃ x : Int, x = w32 (80 + x4) := ⟨_, rfl⟩
        have hx5e : x5 = 80 + x4 := by rw [hx5]; exact w32_id (by omega)
        obtain ⟨x6, hx6⟩ : ∃ x : Int, x = w32 (x5 + 2) := ⟨_, rfl⟩
        have hx6e : x6 = x5 + 2 := by rw [hx6]; exact w32_id (by omega)
        refine zG_w (c' := (24, [.inr (.inr (some 97)), .inl a1, .inl a2, .inl v2, zN], [.inl x6, .inr (.inr (some 98))])) 9 hd0 hz (by subst hx6; subst hx5; subst hx4; rfl) ?_
        refine zG_iald hd0 hz rfl rfl (.inl rfl) (by omega) ?_
        obtain ⟨x7, hx7⟩ : ∃ x : Int, x = M 98 (x6 : Int).toNat := ⟨_, rfl⟩
        rw [← hx7]
        have hx7r : qin x7 := by rw [hx7]; exact hC.sin _
        show zG n (0, 0) d 273 (25, [.inr (.inr (some 97)), .inl a1, .inl a2, .inl v2, zN], [.inl x7]) M _
        obtain ⟨x8, hx8⟩ : ∃ x : Int, x = zbshr x7 a1 := ⟨_, rfl⟩
        have hx8r : qin x8 := by rw [hx8]; exact qb32 _
        obtain ⟨x9, hx9⟩ : ∃ x : Int, x = zband x8 1 := ⟨_, rfl⟩
        have hx9r := qband_r x8 1 (by first | decide | omega) (by omega); rw [← hx9] at hx9r
        have hx9l : 0 ≤ x8 → x9 ≤ x8 := fun h9 => by rw [hx9]; exact (qband_l x8 1 ⟨h9, by omega⟩ (by omega)).2
        refine zG_w (c' := (34, [.inr (.inr (some 97)), .inl a1, .inl a2, .inl v2, .inl x7], [.inl 1, .inl x9])) 7 hd0 hz (by subst hx9; subst hx8; rfl) ?_
        have j49 : zG n (0, 0) d 273 (49, [.inr (.inr (some 97)), .inl a1, .inl a2, .inl v2, .inl x7], []) M (fun v M' => M' = M ∧ ∃ x : Int, v = some (.inl x) ∧ (0 ≤ x ∧ x ≤ 1)) := by
          obtain ⟨x10, hx10⟩ : ∃ x : Int, x = w32 (v2 + 1) := ⟨_, rfl⟩
          have hx10e : x10 = v2 + 1 := by rw [hx10]; exact w32_id (by omega)
          refine zG_w (c' := (2, [.inr (.inr (some 97)), .inl a1, .inl a2, .inl x10, .inl x7], [])) 2 hd0 hz (by subst hx10; rfl) ?_
          exact zG_weak (ih2 x10 (by omega) (by omega)) ⟨.inr rfl, .inr rfl, .inr rfl, .inr rfl, .inl rfl, trivial⟩
        refine zG_wi_ne (pc := 34) (n' := 37) (t := 49) (L := [.inr (.inr (some 97)), .inl a1, .inl a2, .inl v2, .inl x7]) (st := []) (x := x9) (y := 1) 0 hd0 hz (by rfl) (fun hb11 => ?_) (fun hb11 => ?_)
        · exact j49
        · obtain ⟨x12, hx12⟩ : ∃ x : Int, x = zbshr x7 a2 := ⟨_, rfl⟩
          have hx12r : qin x12 := by rw [hx12]; exact qb32 _
          obtain ⟨x13, hx13⟩ : ∃ x : Int, x = zband x12 1 := ⟨_, rfl⟩
          have hx13r := qband_r x12 1 (by first | decide | omega) (by omega); rw [← hx13] at hx13r
          have hx13l : 0 ≤ x12 → x13 ≤ x12 := fun h9 => by rw [hx13]; exact (qband_l x12 1 ⟨h9, by omega⟩ (by omega)).2
          refine zG_wi_ne (pc := 44) (n' := 47) (t := 49) (L := [.inr (.inr (some 97)), .inl a1, .inl a2, .inl v2, .inl x7]) (st := []) (x := x13) (y := 1) 6 hd0 hz (by subst hx13; subst hx12; rfl) (fun hb14 => ?_) (fun hb14 => ?_)
          · exact j49
          · exact zG_wr (r := some (.inl 0)) 1 hd0 hz (by rfl) ⟨rfl, _, rfl, by omega⟩
  exact j2 ((20 - 0 : Int).toNat + 1) 0 (by first | decide | omega) (by omega)
theorem qm_274_97 {n d : Nat} {M : zM} (hd : 2 ≤ d) (hC : qMI M)  (a1 : Int) (ha1 : (-2147483648) ≤ a1 ∧ a1 ≤ 2147483647) : qOkP n d 274 [.inr (.inr (some 97)), .inl a1] 5 M (fun v => ∃ x : Int, v = some (.inl x) ∧ (0 ≤ x ∧ x ≤ 1)) := by
  have hz := zp_274
  have hd0 : 0 < d := by omega
  have r1 := hC.f34
  show zG n (0, 0) d 274 (0, [.inr (.inr (some 97)), .inl a1, zN, zN, zN], []) M _
  refine zG_w (c' := (2, [.inr (.inr (some 97)), .inl a1, .inl 0, zN, zN], [])) 2 hd0 hz (by rfl) ?_
  have j2 : ∀ (N : Nat) (v2 : Int) , (9 - v2 : Int).toNat < N → 0 ≤ v2 ∧ v2 ≤ 9 → zG n (0, 0) d 274 (2, [.inr (.inr (some 97)), .inl a1, .inl v2, zN, zN], []) M (fun v M' => M' = M ∧ ∃ x : Int, v = some (.inl x) ∧ (0 ≤ x ∧ x ≤ 1)) := by
    intro N
    induction N with
    | zero => intro v2 hN hv2; exact absurd hN (Nat.not_lt_zero _)
    | succ N ih2 =>
      intro v2 hN hv2
      replace hN : 9 - v2 < (N : Int) + 1 := by omega
      refine zG_wi_ge (pc := 7) (n' := 10) (t := 101) (L := [.inr (.inr (some 97)), .inl a1, .inl v2, zN, zN]) (st := []) (x := v2) (y := (M 97 34)) 3 hd0 hz (by rfl) (fun hb3 => ?_) (fun hb3 => ?_)
      · exact zG_wr (r := some (.inl 1)) 1 hd0 hz (by rfl) ⟨rfl, _, rfl, by omega⟩
      · refine zG_w (c' := (15, [.inr (.inr (some 97)), .inl a1, .inl v2, .inl 0, .inl 0], [])) 4 hd0 hz (by rfl) ?_
        have j15 : ∀ (N : Nat) (v4 v5 : Int) , (9 - v5 : Int).toNat < N → (-2147483648) ≤ v4 ∧ v4 ≤ 2147483647 → 0 ≤ v5 ∧ v5 ≤ 9 → zG n (0, 0) d 274 (15, [.inr (.inr (some 97)), .inl a1, .inl v2, .inl v4, .inl v5], []) M (fun v M' => M' = M ∧ ∃ x : Int, v = some (.inl x) ∧ (0 ≤ x ∧ x ≤ 1)) := by
          intro N
          induction N with
          | zero => intro v4 v5 hN hv4 hv5; exact absurd hN (Nat.not_lt_zero _)
          | succ N ih15 =>
            intro v4 v5 hN hv4 hv5
            replace hN : 9 - v5 < (N : Int) + 1 := by omega
            refine zG_wi_ge (pc := 21) (n' := 24) (t := 88) (L := [.inr (.inr (some 97)), .inl a1, .inl v2, .inl v4, .inl v5]) (st := []) (x := v5) (y := (M 97 34)) 3 hd0 hz (by rfl) (fun hb6 => ?_) (fun hb6 => ?_)
            · refine zG_wi_le (pc := 90) (n' := 93) (t := 95) (L := [.inr (.inr (some 97)), .inl a1, .inl v2, .inl v4, .inl v5]) (st := []) (x := v4) (y := a1) 2 hd0 hz (by rfl) (fun hb7 => ?_) (fun hb7 => ?_)
              · obtain ⟨x8, hx8⟩ : ∃ x : Int, x = w32 (v2 + 1) := ⟨_, rfl⟩
                have hx8e : x8 = v2 + 1 := by rw [hx8]; exact w32_id (by omega)
                refine zG_w (c' := (2, [.inr (.inr (some 97)), .inl a1, .inl x8, .inl v4, .inl v5], [])) 2 hd0 hz (by subst hx8; rfl) ?_
                exact zG_weak (ih2 x8 (by omega) (by omega)) ⟨.inr rfl, .inr rfl, .inr rfl, .inl rfl, .inl rfl, trivial⟩
              · exact zG_wr (r := some (.inl 0)) 1 hd0 hz (by rfl) ⟨rfl, _, rfl, by omega⟩
            · refine zG_w (c' := (30, [.inr (.inr (some 97)), .inl a1, .inl v2, .inl v4, .inl v5], [.inl v5, .inr (.inr (some 117))])) 3 hd0 hz (by rfl) ?_
              refine zG_iald hd0 hz rfl rfl (.inl rfl) (by omega) ?_
              obtain ⟨x9, hx9⟩ : ∃ x : Int, x = M 117 (v5 : Int).toNat := ⟨_, rfl⟩
              rw [← hx9]
              have hx9r : 0 ≤ x9 ∧ x9 ≤ 13 := by rw [hx9]; exact hC.c117 _
              show zG n (0, 0) d 274 (31, [.inr (.inr (some 97)), .inl a1, .inl v2, .inl v4, .inl v5], [.inl x9]) M _
              refine zG_w (c' := (36, [.inr (.inr (some 97)), .inl a1, .inl v2, .inl v4, .inl v5], [.inl v2, .inr (.inr (some 117)), .inl x9])) 3 hd0 hz (by rfl) ?_
              refine zG_iald hd0 hz rfl rfl (.inl rfl) (by omega) ?_
              obtain ⟨x10, hx10⟩ : ∃ x : Int, x = M 117 (v2 : Int).toNat := ⟨_, rfl⟩
              rw [← hx10]
              have hx10r : 0 ≤ x10 ∧ x10 ≤ 13 := by rw [hx10]; exact hC.c117 _
              show zG n (0, 0) d 274 (37, [.inr (.inr (some 97)), .inl a1, .inl v2, .inl v4, .inl v5], [.inl x10, .inl x9]) M _
              have j82 : ∀ (v11 : Int) , (-2147483648) ≤ v11 ∧ v11 ≤ 2147483647 → zG n (0, 0) d 274 (82, [.inr (.inr (some 97)), .inl a1, .inl v2, .inl v11, .inl v5], []) M (fun v M' => M' = M ∧ ∃ x : Int, v = some (.inl x) ∧ (0 ≤ x ∧ x ≤ 1)) := by
                intro v11 hv11
                obtain ⟨x12, hx12⟩ : ∃ x : Int, x = w32 (v5 + 1) := ⟨_, rfl⟩
                have hx12e : x12 = v5 + 1 := by rw [hx12]; exact w32_id (by omega)
                refine zG_w (c' := (15, [.inr (.inr (some 97)), .inl a1, .inl v2, .inl v11, .inl x12], [])) 2 hd0 hz (by subst hx12; rfl) ?_
                exact ih15 v11 x12 (by omega) (by omega) (by omega)
              refine zG_wi_ne (pc := 37) (n' := 40) (t := 82) (L := [.inr (.inr (some 97)), .inl a1, .inl v2, .inl v4, .inl v5]) (st := []) (x := x9) (y := x10) 0 hd0 hz (by rfl) (fun hb13 => ?_) (fun hb13 => ?_)
              · exact j82 v4 (by first | with_reducible exact hv4 | omega)
              · refine zG_w (c' := (48, [.inr (.inr (some 97)), .inl a1, .inl v2, .inl v4, .inl v5], [.inl v5, .inr (.inr (some 116)), .inr (.inr (some 97)), .inl v4])) 5 hd0 hz (by rfl) ?_
                refine zG_iald hd0 hz rfl rfl (.inl rfl) (by omega) ?_
                obtain ⟨x14, hx14⟩ : ∃ x : Int, x = M 116 (v5 : Int).toNat := ⟨_, rfl⟩
                rw [← hx14]
                have hx14r : 0 ≤ x14 ∧ x14 ≤ 13 := by rw [hx14]; exact hC.c116 _
                show zG n (0, 0) d 274 (49, [.inr (.inr (some 97)), .inl a1, .inl v2, .inl v4, .inl v5], [.inl x14, .inr (.inr (some 97)), .inl v4]) M _
                refine zG_wp (pc := 52) (L := [.inr (.inr (some 97)), .inl a1, .inl v2, .inl v4, .inl v5]) (st := [.inl v4]) 0 hd0 hz zp_272 (qm_272_97 (by first | exact zdk hd rfl | omega) hC   x14 (by omega) ) (by rfl) (fun x16 hx16 => ?_)
                obtain ⟨x17, hx17⟩ : ∃ x : Int, x = w32 (v4 + x16) := ⟨_, rfl⟩
                have hx17r : x17 = (v4 + x16 + 2147483648) % 4294967296 - 2147483648 := hx17
                refine zG_wi_ge (pc := 57) (n' := 60) (t := 82) (L := [.inr (.inr (some 97)), .inl a1, .inl v2, .inl x17, .inl v5]) (st := []) (x := v5) (y := v2) 4 hd0 hz (by subst hx17; rfl) (fun hb18 => ?_) (fun hb18 => ?_)
                · exact j82 x17 (by omega)
                · refine zG_w (c' := (67, [.inr (.inr (some 97)), .inl a1, .inl v2, .inl x17, .inl v5], [.inl v5, .inr (.inr (some 116)), .inr (.inr (some 97))])) 4 hd0 hz (by rfl) ?_
                  refine zG_iald hd0 hz rfl rfl (.inl rfl) (by omega) ?_
                  obtain ⟨x19, hx19⟩ : ∃ x : Int, x = M 116 (v5 : Int).toNat := ⟨_, rfl⟩
                  rw [← hx19]
                  have hx19r : 0 ≤ x19 ∧ x19 ≤ 13 := by rw [hx19]; exact hC.c116 _
                  show zG n (0, 0) d 274 (68, [.inr (.inr (some 97)), .inl a1, .inl v2, .inl x17, .inl v5], [.inl x19, .inr (.inr (some 97))]) M _
                  refine zG_w (c' := (73, [.inr (.inr (some 97)), .inl a1, .inl v2, .inl x17, .inl v5], [.inl v2, .inr (.inr (some 116)), .inl x19, .inr (.inr (some 97))])) 3 hd0 hz (by rfl) ?_
                  refine zG_iald hd0 hz rfl rfl (.inl rfl) (by omega) ?_
                  obtain ⟨x20, hx20⟩ : ∃ x : Int, x = M 116 (v2 : Int).toNat := ⟨_, rfl⟩
                  rw [← hx20]
                  have hx20r : 0 ≤ x20 ∧ x20 ≤ 13 := by rw [hx20]; exact hC.c116 _
                  show zG n (0, 0) d 274 (74, [.inr (.inr (some 97)), .inl a1, .inl v2, .inl x17, .inl v5], [.inl x20, .inl x19, .inr (.inr (some 97))]) M _
                  refine zG_wp (pc := 77) (L := [.inr (.inr (some 97)), .inl a1, .inl v2, .inl x17, .inl v5]) (st := []) 0 hd0 hz zp_273 (qm_273_97 (by first | exact zdk hd rfl | omega) hC   x19 (by omega) x20 (by omega) ) (by rfl) (fun x22 hx22 => ?_)
                  refine zG_wf_ne (pc := 77) (n' := 80) (t := 82) (L := [.inr (.inr (some 97)), .inl a1, .inl v2, .inl x17, .inl v5]) (st := []) (x := x22) 0 hd0 hz (by rfl) (fun hb23 => ?_) (fun hb23 => ?_)
                  · exact j82 x17 (by omega)
                  · exact zG_wr (r := some (.inl 0)) 1 hd0 hz (by rfl) ⟨rfl, _, rfl, by omega⟩
        exact j15 ((9 - 0 : Int).toNat + 1) 0 0 (by first | decide | omega) (by omega) (by omega)
  exact j2 ((9 - 0 : Int).toNat + 1) 0 (by first | decide | omega) (by omega)
theorem qm_275_97 {n d : Nat} {M : zM} (hd : 1 ≤ d) (hC : qMI M)  (a1 : Int) (ha1 : 1 ≤ a1 ∧ a1 ≤ 9) : qOkN n d 275 [.inr (.inr (some 97)), .inl a1] 5 [117, 118] M (fun v M' => ∃ x : Int, v = some (.inl x) ∧ (0 ≤ x ∧ x ≤ 1) ∧ ((x = 1 ∧ qHv M + 1 ≤ qHv M') ∨ (x = 0 ∧ qHv M' = qHv M))) := by
  have hz := zp_275
  have hd0 : 0 < d := by omega
  have hW : qFm [117, 118] M M := qFm.rfl
  have r1 := hC.f34
  show zG n (0, 0) d 275 (0, [.inr (.inr (some 97)), .inl a1, zN, zN, zN], []) M _
  refine zG_w (c' := (4, [.inr (.inr (some 97)), .inl a1, .inl 0, .inl 0, zN], [])) 4 hd0 hz (by rfl) ?_
  have j4 : ∀ (N : Nat) (v2 v3 : Int) (M4 : zM) , (9 - v3 : Int).toNat < N → 0 ≤ v2 ∧ v2 ≤ 14 → 0 ≤ v3 ∧ v3 ≤ 9 → (qHv M4 = qHv M) → qMI M4 → qFm [117, 118] M M4 → zG n (0, 0) d 275 (4, [.inr (.inr (some 97)), .inl a1, .inl v2, .inl v3, zN], []) M4 (fun v M' => (qMI M' ∧ qFm [117, 118] M M') ∧ ∃ x : Int, v = some (.inl x) ∧ (0 ≤ x ∧ x ≤ 1) ∧ ((x = 1 ∧ qHv M + 1 ≤ qHv M') ∨ (x = 0 ∧ qHv M' = qHv M))) := by
    intro N
    induction N with
    | zero => intro v2 v3 M4 hN hv2 hv3 hx0_4 hCM4 hWM4; exact absurd hN (Nat.not_lt_zero _)
    | succ N ih4 =>
      intro v2 v3 M4 hN hv2 hv3 hx0_4 hCM4 hWM4
      replace hN : 9 - v3 < (N : Int) + 1 := by omega
      have e5 : M4 97 34 = M 97 34 := hWM4 97 34 (by decide)
      refine zG_wi_ge (pc := 9) (n' := 12) (t := 50) (L := [.inr (.inr (some 97)), .inl a1, .inl v2, .inl v3, zN]) (st := []) (x := v3) (y := (M4 97 34)) 3 hd0 hz (by rfl) (fun hb6 => ?_) (fun hb6 => ?_)
      · obtain ⟨x7, hx7⟩ : ∃ x : Int, x = w32 ((M4 97 34) - 1) := ⟨_, rfl⟩
        have hx7e : x7 = (M4 97 34) - 1 := by rw [hx7]; exact w32_id (by omega)
        refine zG_w (c' := (57, [.inr (.inr (some 97)), .inl a1, .inl v2, .inl x7, zN], [])) 5 hd0 hz (by subst hx7; rfl) ?_
        have j57 : ∀ (N : Nat) (v8 : Int) , (v8 : Int).toNat < N → (-1) ≤ v8 ∧ v8 ≤ 8 → (qHv M4 = qHv M) → zG n (0, 0) d 275 (57, [.inr (.inr (some 97)), .inl a1, .inl v2, .inl v8, zN], []) M4 (fun v M' => (qMI M' ∧ qFm [117, 118] M M') ∧ ∃ x : Int, v = some (.inl x) ∧ (0 ≤ x ∧ x ≤ 1) ∧ ((x = 1 ∧ qHv M + 1 ≤ qHv M') ∨ (x = 0 ∧ qHv M' = qHv M))) := by
          intro N
          induction N with
          | zero => intro v8 hN hv8 hx0_57; exact absurd hN (Nat.not_lt_zero _)
          | succ N ih57 =>
            intro v8 hN hv8 hx0_57
            replace hN : v8 < (N : Int) + 1 := by omega
            refine zG_wf_le (pc := 58) (n' := 61) (t := 134) (L := [.inr (.inr (some 97)), .inl a1, .inl v2, .inl v8, zN]) (st := []) (x := v8) 1 hd0 hz (by rfl) (fun hb9 => ?_) (fun hb9 => ?_)
            · exact zG_wr (r := some (.inl 0)) 1 hd0 hz (by rfl) ⟨⟨hCM4, hWM4⟩, _, rfl, by omega, by omega⟩
            · refine zG_w (c' := (66, [.inr (.inr (some 97)), .inl a1, .inl v2, .inl v8, zN], [.inl v8, .inr (.inr (some 117))])) 3 hd0 hz (by rfl) ?_
              refine zG_iald hd0 hz rfl rfl (.inl rfl) (by omega) ?_
              obtain ⟨x10, hx10⟩ : ∃ x : Int, x = M4 117 (v8 : Int).toNat := ⟨_, rfl⟩
              rw [← hx10]
              have hx10r : 0 ≤ x10 ∧ x10 ≤ 13 := by rw [hx10]; exact hCM4.c117 _
              show zG n (0, 0) d 275 (67, [.inr (.inr (some 97)), .inl a1, .inl v2, .inl v8, zN], [.inl x10]) M4 _
              refine zG_w (c' := (72, [.inr (.inr (some 97)), .inl a1, .inl v2, .inl v8, zN], [.inl v8, .inr (.inr (some 118)), .inl x10])) 3 hd0 hz (by rfl) ?_
              refine zG_iald hd0 hz rfl rfl (.inl rfl) (by omega) ?_
              obtain ⟨x11, hx11⟩ : ∃ x : Int, x = M4 118 (v8 : Int).toNat := ⟨_, rfl⟩
              rw [← hx11]
              have hx11r : qin x11 := by rw [hx11]; exact hCM4.ra 118 _ (by decide) (by decide)
              show zG n (0, 0) d 275 (73, [.inr (.inr (some 97)), .inl a1, .inl v2, .inl v8, zN], [.inl x11, .inl x10]) M4 _
              have j128 : zG n (0, 0) d 275 (128, [.inr (.inr (some 97)), .inl a1, .inl v2, .inl v8, zN], []) M4 (fun v M' => (qMI M' ∧ qFm [117, 118] M M') ∧ ∃ x : Int, v = some (.inl x) ∧ (0 ≤ x ∧ x ≤ 1) ∧ ((x = 1 ∧ qHv M + 1 ≤ qHv M') ∨ (x = 0 ∧ qHv M' = qHv M))) := by
                obtain ⟨x12, hx12⟩ : ∃ x : Int, x = w32 (v8 + (-1)) := ⟨_, rfl⟩
                have hx12e : x12 = v8 + (-1) := by rw [hx12]; exact w32_id (by omega)
                refine zG_w (c' := (57, [.inr (.inr (some 97)), .inl a1, .inl v2, .inl x12, zN], [])) 2 hd0 hz (by subst hx12; rfl) ?_
                exact ih57 x12 (by omega) (by omega) (by omega)
              refine zG_wi_ge (pc := 73) (n' := 76) (t := 128) (L := [.inr (.inr (some 97)), .inl a1, .inl v2, .inl v8, zN]) (st := []) (x := x10) (y := x11) 0 hd0 hz (by rfl) (fun hb13 => ?_) (fun hb13 => ?_)
              · exact j128
              · refine zG_w (c' := (81, [.inr (.inr (some 97)), .inl a1, .inl v2, .inl v8, zN], [.inl v8, .inr (.inr (some 117))])) 3 hd0 hz (by rfl) ?_
                refine zG_iald hd0 hz rfl rfl (.inl rfl) (by omega) ?_
                obtain ⟨x14, hx14⟩ : ∃ x : Int, x = M4 117 (v8 : Int).toNat := ⟨_, rfl⟩
                rw [← hx14]
                have hx14r : 0 ≤ x14 ∧ x14 ≤ 13 := by rw [hx14]; exact hCM4.c117 _
                show zG n (0, 0) d 275 (82, [.inr (.inr (some 97)), .inl a1, .inl v2, .inl v8, zN], [.inl x14]) M4 _
                obtain ⟨x15, hx15⟩ : ∃ x : Int, x = w32 (x14 + 1) := ⟨_, rfl⟩
                have hx15e : x15 = x14 + 1 := by rw [hx15]; exact w32_id (by omega)
                refine zG_wi_ge (pc := 85) (n' := 88) (t := 128) (L := [.inr (.inr (some 97)), .inl a1, .inl v2, .inl v8, zN]) (st := []) (x := x15) (y := a1) 3 hd0 hz (by subst hx15; rfl) (fun hb16 => ?_) (fun hb16 => ?_)
                · exact j128
                · refine zG_w (c' := (94, [.inr (.inr (some 97)), .inl a1, .inl v2, .inl v8, zN], [.inl v8, .inr (.inr (some 117)), .inl v8, .inr (.inr (some 117))])) 4 hd0 hz (by rfl) ?_
                  refine zG_iald hd0 hz rfl rfl (.inl rfl) (by omega) ?_
                  obtain ⟨x17, hx17⟩ : ∃ x : Int, x = M4 117 (v8 : Int).toNat := ⟨_, rfl⟩
                  rw [← hx17]
                  have hx17r : 0 ≤ x17 ∧ x17 ≤ 13 := by rw [hx17]; exact hCM4.c117 _
                  show zG n (0, 0) d 275 (95, [.inr (.inr (some 97)), .inl a1, .inl v2, .inl v8, zN], [.inl x17, .inl v8, .inr (.inr (some 117))]) M4 _
                  obtain ⟨x18, hx18⟩ : ∃ x : Int, x = w32 (x17 + 1) := ⟨_, rfl⟩
                  have hx18e : x18 = x17 + 1 := by rw [hx18]; exact w32_id (by omega)
                  refine zG_w (c' := (97, [.inr (.inr (some 97)), .inl a1, .inl v2, .inl v8, zN], [.inl x18, .inl v8, .inr (.inr (some 117))])) 2 hd0 hz (by subst hx18; rfl) ?_
                  refine zG_iast hd0 hz rfl rfl (by omega) ?_
                  obtain ⟨M19, hM19⟩ : ∃ X : zM, X = zput M4 117 (v8 : Int).toNat x18 := ⟨_, rfl⟩
                  rw [← hM19]
                  have hCM19 : qMI M19 := by rw [hM19]; exact hCM4.put (by decide) (qCd_a (by decide) (by decide)) (by first | exact qMC_ar (by decide) (fun _ => by omega) | (refine ⟨fun h => ?_, fun _ => ?_, fun h => ?_, fun h => ?_, fun h => ?_⟩ <;> first | omega | exact absurd h (by decide)))
                  have hWM19 : qFm [117, 118] M M19 := by rw [hM19]; exact hWM4.pa (by decide) (by decide)
                  have e20 : M19 97 34 = M4 97 34 := by rw [hM19]; exact qput_ne (by decide)
                  have hv1 := qHv_inc hM19 (by omega) (by omega)
                  show zG n (0, 0) d 275 (98, [.inr (.inr (some 97)), .inl a1, .inl v2, .inl v8, zN], []) M19 _
                  obtain ⟨x21, hx21⟩ : ∃ x : Int, x = w32 (v8 + 1) := ⟨_, rfl⟩
                  have hx21e : x21 = v8 + 1 := by rw [hx21]; exact w32_id (by omega)
                  have hpz : qHp (x21 - 1).toNat = qHp (v8).toNat := by rw [show x21 - 1 = v8 by omega]
                  refine zG_w (c' := (103, [.inr (.inr (some 97)), .inl a1, .inl v2, .inl v8, .inl x21], [])) 4 hd0 hz (by subst hx21; rfl) ?_
                  have j103 : ∀ (N : Nat) (v22 : Int) (M23 : zM) , (9 - v22 : Int).toNat < N → 2 ≤ v22 ∧ v22 ≤ 9 → (qHv M + qHp (v22 - 1).toNat ≤ qHv M23) → qMI M23 → qFm [117, 118] M M23 → zG n (0, 0) d 275 (103, [.inr (.inr (some 97)), .inl a1, .inl v2, .inl v8, .inl v22], []) M23 (fun v M' => (qMI M' ∧ qFm [117, 118] M M') ∧ ∃ x : Int, v = some (.inl x) ∧ (0 ≤ x ∧ x ≤ 1) ∧ ((x = 1 ∧ qHv M + 1 ≤ qHv M') ∨ (x = 0 ∧ qHv M' = qHv M))) := by
                    intro N
                    induction N with
                    | zero => intro v22 M23 hN hv22 hx0_103 hCM23 hWM23; exact absurd hN (Nat.not_lt_zero _)
                    | succ N ih103 =>
                      intro v22 M23 hN hv22 hx0_103 hCM23 hWM23
                      replace hN : 9 - v22 < (N : Int) + 1 := by omega
                      have e24 : M23 97 34 = M 97 34 := hWM23 97 34 (by decide)
                      have hp1 := qHp_pos (v22 - 1).toNat
                      refine zG_wi_ge (pc := 109) (n' := 112) (t := 126) (L := [.inr (.inr (some 97)), .inl a1, .inl v2, .inl v8, .inl v22]) (st := []) (x := v22) (y := (M23 97 34)) 3 hd0 hz (by rfl) (fun hb25 => ?_) (fun hb25 => ?_)
                      · exact zG_wr (r := some (.inl 1)) 1 hd0 hz (by rfl) ⟨⟨hCM23, hWM23⟩, _, rfl, by omega, by omega⟩
                      · refine zG_w (c' := (119, [.inr (.inr (some 97)), .inl a1, .inl v2, .inl v8, .inl v22], [.inl 0, .inl v22, .inr (.inr (some 117))])) 4 hd0 hz (by rfl) ?_
                        refine zG_iast hd0 hz rfl rfl (by omega) ?_
                        obtain ⟨M26, hM26⟩ : ∃ X : zM, X = zput M23 117 (v22 : Int).toNat 0 := ⟨_, rfl⟩
                        rw [← hM26]
                        have hCM26 : qMI M26 := by rw [hM26]; exact hCM23.put (by decide) (qCd_a (by decide) (by decide)) (by first | exact qMC_ar (by decide) (fun _ => by omega) | (refine ⟨fun h => ?_, fun _ => ?_, fun h => ?_, fun h => ?_, fun h => ?_⟩ <;> first | omega | exact absurd h (by decide)))
                        have hWM26 : qFm [117, 118] M M26 := by rw [hM26]; exact hWM23.pa (by decide) (by decide)
                        have e27 : M26 97 34 = M23 97 34 := by rw [hM26]; exact qput_ne (by decide)
                        have hv1 := qHv_zero hM26 hCM23 (by omega)
                        show zG n (0, 0) d 275 (120, [.inr (.inr (some 97)), .inl a1, .inl v2, .inl v8, .inl v22], []) M26 _
                        obtain ⟨x28, hx28⟩ : ∃ x : Int, x = w32 (v22 + 1) := ⟨_, rfl⟩
                        have hx28e : x28 = v22 + 1 := by rw [hx28]; exact w32_id (by omega)
                        have hpz : qHp (x28 - 1).toNat = qHp (v22).toNat := by rw [show x28 - 1 = v22 by omega]
                        refine zG_w (c' := (103, [.inr (.inr (some 97)), .inl a1, .inl v2, .inl v8, .inl x28], [])) 2 hd0 hz (by subst hx28; rfl) ?_
                        exact ih103 x28 M26 (by omega) (by omega) (by omega) hCM26 hWM26
                  exact j103 ((9 - x21 : Int).toNat + 1) x21 M19 (by omega) (by omega) (by omega) hCM19 hWM19
        exact j57 ((x7 : Int).toNat + 1) x7 (by omega) (by omega) (by omega)
      · refine zG_w (c' := (18, [.inr (.inr (some 97)), .inl a1, .inl v2, .inl v3, zN], [.inl v2, .inl v3, .inr (.inr (some 118))])) 4 hd0 hz (by rfl) ?_
        refine zG_iast hd0 hz rfl rfl (by omega) ?_
        obtain ⟨M29, hM29⟩ : ∃ X : zM, X = zput M4 118 (v3 : Int).toNat v2 := ⟨_, rfl⟩
        rw [← hM29]
        have hCM29 : qMI M29 := by rw [hM29]; exact hCM4.put (by decide) (qCd_a (by decide) (by decide)) (by first | exact qMC_ar (by decide) (fun _ => by omega) | (refine ⟨fun h => ?_, fun _ => ?_, fun h => ?_, fun h => ?_, fun h => ?_⟩ <;> first | omega | exact absurd h (by decide)))
        have hWM29 : qFm [117, 118] M M29 := by rw [hM29]; exact hWM4.pa (by decide) (by decide)
        have e30 : M29 97 34 = M4 97 34 := by rw [hM29]; exact qput_ne (by decide)
        have e31 : qHv M29 = qHv M4 := by rw [hM29]; exact qHv_pa (by decide) (by decide)
        show zG n (0, 0) d 275 (19, [.inr (.inr (some 97)), .inl a1, .inl v2, .inl v3, zN], []) M29 _
        refine zG_w (c' := (24, [.inr (.inr (some 97)), .inl a1, .inl v2, .inl v3, zN], [.inl v3, .inr (.inr (some 117))])) 3 hd0 hz (by rfl) ?_
        refine zG_iald hd0 hz rfl rfl (.inl rfl) (by omega) ?_
        obtain ⟨x32, hx32⟩ : ∃ x : Int, x = M29 117 (v3 : Int).toNat := ⟨_, rfl⟩
        rw [← hx32]
        have hx32r : 0 ≤ x32 ∧ x32 ≤ 13 := by rw [hx32]; exact hCM29.c117 _
        show zG n (0, 0) d 275 (25, [.inr (.inr (some 97)), .inl a1, .inl v2, .inl v3, zN], [.inl x32]) M29 _
        obtain ⟨x33, hx33⟩ : ∃ x : Int, x = w32 (x32 + 1) := ⟨_, rfl⟩
        have hx33e : x33 = x32 + 1 := by rw [hx33]; exact w32_id (by omega)
        refine zG_w (c' := (28, [.inr (.inr (some 97)), .inl a1, .inl v2, .inl v3, zN], [.inl v2, .inl x33])) 3 hd0 hz (by subst hx33; rfl) ?_
        have j43 : ∀ (v34 : Int) , 1 ≤ v34 ∧ v34 ≤ 14 → zG n (0, 0) d 275 (43, [.inr (.inr (some 97)), .inl a1, .inl v2, .inl v3, zN], [.inl v34]) M29 (fun v M' => (qMI M' ∧ qFm [117, 118] M M') ∧ ∃ x : Int, v = some (.inl x) ∧ (0 ≤ x ∧ x ≤ 1) ∧ ((x = 1 ∧ qHv M + 1 ≤ qHv M') ∨ (x = 0 ∧ qHv M' = qHv M))) := by
          intro v34 hv34
          obtain ⟨x35, hx35⟩ : ∃ x : Int, x = w32 (v3 + 1) := ⟨_, rfl⟩
          have hx35e : x35 = v3 + 1 := by rw [hx35]; exact w32_id (by omega)
          refine zG_w (c' := (4, [.inr (.inr (some 97)), .inl a1, .inl v34, .inl x35, zN], [])) 3 hd0 hz (by subst hx35; rfl) ?_
          exact ih4 v34 x35 M29 (by omega) (by omega) (by omega) (by omega) hCM29 hWM29
        refine zG_wi_le (pc := 28) (n' := 31) (t := 42) (L := [.inr (.inr (some 97)), .inl a1, .inl v2, .inl v3, zN]) (st := []) (x := x33) (y := v2) 0 hd0 hz (by rfl) (fun hb36 => ?_) (fun hb36 => ?_)
        · refine zG_w (c' := (43, [.inr (.inr (some 97)), .inl a1, .inl v2, .inl v3, zN], [.inl v2])) 1 hd0 hz (by rfl) ?_
          exact j43 v2 (by first | with_reducible exact hv2 | omega)
        · refine zG_w (c' := (36, [.inr (.inr (some 97)), .inl a1, .inl v2, .inl v3, zN], [.inl v3, .inr (.inr (some 117))])) 3 hd0 hz (by rfl) ?_
          refine zG_iald hd0 hz rfl rfl (.inl rfl) (by omega) ?_
          obtain ⟨x37, hx37⟩ : ∃ x : Int, x = M29 117 (v3 : Int).toNat := ⟨_, rfl⟩
          rw [← hx37]
          have hx37r : 0 ≤ x37 ∧ x37 ≤ 13 := by rw [hx37]; exact hCM29.c117 _
          show zG n (0, 0) d 275 (37, [.inr (.inr (some 97)), .inl a1, .inl v2, .inl v3, zN], [.inl x37]) M29 _
          obtain ⟨x38, hx38⟩ : ∃ x : Int, x = w32 (x37 + 1) := ⟨_, rfl⟩
          have hx38e : x38 = x37 + 1 := by rw [hx38]; exact w32_id (by omega)
          refine zG_w (c' := (43, [.inr (.inr (some 97)), .inl a1, .inl v2, .inl v3, zN], [.inl x38])) 3 hd0 hz (by subst hx38; rfl) ?_
          exact j43 x38 (by omega)
  exact j4 ((9 - 0 : Int).toNat + 1) 0 0 M (by omega) (by omega) (by omega) (by omega) hC hW
theorem qm_276_97 {n d : Nat} {M : zM} (hd : 3 ≤ d) (hC : qMI M) (gk : Nat) (a1 : Int) (ha1 : 0 ≤ a1 ∧ a1 ≤ 16383) (a2 : Int) (ha2 : 1 ≤ a2 ∧ a2 ≤ 200) (hp0 : qpc 31 a1.toNat ≤ 9) : qOkN n d 276 [.inr (.inr (some 97)), .inl a1, .inl a2] 5 [116, 117, 118, 1034] M (fun v M' => ∃ x : Int, v = some (.inl x) ∧ ((-1) ≤ x ∧ x ≤ 9) ∧ (x ≠ -1 → (gk : Int) < M 98 0 → a1.toNat / 2 ^ gk % 2 = 1 → M' 116 (qpc gk a1.toNat) = gk)) := by
  have hz := zp_276
  have hd0 : 0 < d := by omega
  have hW : qFm [116, 117, 118, 1034] M M := qFm.rfl
  have r1 := hC.f34
  have r2 := hC.cnt0
  show zG n (0, 0) d 276 (0, [.inr (.inr (some 97)), .inl a1, .inl a2, zN, zN], []) M _
  refine zG_w (c' := (2, [.inr (.inr (some 97)), .inl a1, .inl a2, zN, zN], [.inl 0, .inr (.inr (some 97))])) 2 hd0 hz (by rfl) ?_
  refine zG_putf (.inl rfl) hd0 hz rfl (by decide) rfl rfl ?_
  obtain ⟨M3, hM3⟩ : ∃ X : zM, X = zput M 97 34 0 := ⟨_, rfl⟩
  rw [← hM3]
  have hCM3 : qMI M3 := by rw [hM3]; exact hC.put (by decide) (by decide) (by first | exact qMC_97 (by decide) (fun _ => by omega) | (refine ⟨fun _ => ?_, fun _ => ?_, fun h => ⟨fun _ => ?_, fun _ => ?_, fun _ => ?_, fun _ => ?_, fun _ => ?_⟩, fun h => ?_, fun h => ?_⟩ <;> first | omega | exact absurd rfl (by assumption) | (rename_i h9; exact absurd h9 (by decide))))
  have hWM3 : qFm [116, 117, 118, 1034] M M3 := by rw [hM3]; exact hW.put (by decide)
  have e4 : qHv M3 = qHv M := by rw [hM3]; exact qHv_put (by decide) (by decide)
  have e5 : M3 98 0 = M 98 0 := by rw [hM3]; exact qput_ne (by decide)
  have e6 : M3 97 34 = 0 := by rw [hM3]; exact qput_eq
  have hq0 : qpc (0 : Int).toNat a1.toNat = 0 := rfl
  show zG n (0, 0) d 276 (5, [.inr (.inr (some 97)), .inl a1, .inl a2, zN, zN], []) M3 _
  refine zG_w (c' := (7, [.inr (.inr (some 97)), .inl a1, .inl a2, .inl 0, zN], [])) 2 hd0 hz (by rfl) ?_
  have j7 : ∀ (N : Nat) (v7 : Int) (M8 : zM) , (14 - v7 : Int).toNat < N → 0 ≤ v7 ∧ v7 ≤ 14 → (M8 97 34 = (qpc (v7).toNat a1.toNat : Nat)) → ((gk : Int) < v7 → a1.toNat / 2 ^ gk % 2 = 1 → M8 116 (qpc gk a1.toNat) = gk) → qMI M8 → qFm [116, 117, 118, 1034] M M8 → zG n (0, 0) d 276 (7, [.inr (.inr (some 97)), .inl a1, .inl a2, .inl v7, zN], []) M8 (fun v M' => (qMI M' ∧ qFm [116, 117, 118, 1034] M M') ∧ ∃ x : Int, v = some (.inl x) ∧ ((-1) ≤ x ∧ x ≤ 9) ∧ (x ≠ -1 → (gk : Int) < M 98 0 → a1.toNat / 2 ^ gk % 2 = 1 → M' 116 (qpc gk a1.toNat) = gk)) := by
    intro N
    induction N with
    | zero => intro v7 M8 hN hv7 hx0_7 hx1_7 hCM8 hWM8; exact absurd hN (Nat.not_lt_zero _)
    | succ N ih7 =>
      intro v7 M8 hN hv7 hx0_7 hx1_7 hCM8 hWM8
      replace hN : 14 - v7 < (N : Int) + 1 := by omega
      have e9 : M8 98 0 = M 98 0 := hWM8 98 0 (by decide)
      have r10 := hCM8.f34
      refine zG_w (c' := (13, [.inr (.inr (some 97)), .inl a1, .inl a2, .inl v7, zN], [.inl 0, .inr (.inr (some 98)), .inl v7])) 4 hd0 hz (by rfl) ?_
      refine zG_iald hd0 hz rfl rfl (.inl rfl) (by omega) ?_
      show zG n (0, 0) d 276 (14, [.inr (.inr (some 97)), .inl a1, .inl a2, .inl v7, zN], [.inl (M8 98 0), .inl v7]) M8 _
      refine zG_wi_ge (pc := 14) (n' := 17) (t := 63) (L := [.inr (.inr (some 97)), .inl a1, .inl a2, .inl v7, zN]) (st := []) (x := v7) (y := (M8 98 0)) 0 hd0 hz (by rfl) (fun hb11 => ?_) (fun hb11 => ?_)
      · refine zG_w (c' := (65, [.inr (.inr (some 97)), .inl a1, .inl a2, .inl 1, zN], [])) 2 hd0 hz (by rfl) ?_
        have j65 : ∀ (N : Nat) (v12 : Int) (M13 : zM) , (10 - v12 : Int).toNat < N → 1 ≤ v12 ∧ v12 ≤ 10 → ((gk : Int) < M 98 0 → a1.toNat / 2 ^ gk % 2 = 1 → M13 116 (qpc gk a1.toNat) = gk) → qMI M13 → qFm [116, 117, 118, 1034] M M13 → zG n (0, 0) d 276 (65, [.inr (.inr (some 97)), .inl a1, .inl a2, .inl v12, zN], []) M13 (fun v M' => (qMI M' ∧ qFm [116, 117, 118, 1034] M M') ∧ ∃ x : Int, v = some (.inl x) ∧ ((-1) ≤ x ∧ x ≤ 9) ∧ (x ≠ -1 → (gk : Int) < M 98 0 → a1.toNat / 2 ^ gk % 2 = 1 → M' 116 (qpc gk a1.toNat) = gk)) := by
          intro N
          induction N with
          | zero => intro v12 M13 hN hv12 hx0_65 hCM13 hWM13; exact absurd hN (Nat.not_lt_zero _)
          | succ N ih65 =>
            intro v12 M13 hN hv12 hx0_65 hCM13 hWM13
            replace hN : 10 - v12 < (N : Int) + 1 := by omega
            have e14 : M13 98 0 = M 98 0 := hWM13 98 0 (by decide)
            have r15 := hCM13.f34
            refine zG_wi_gt (pc := 70) (n' := 73) (t := 133) (L := [.inr (.inr (some 97)), .inl a1, .inl a2, .inl v12, zN]) (st := []) (x := v12) (y := (M13 97 34)) 3 hd0 hz (by rfl) (fun hb16 => ?_) (fun hb16 => ?_)
            · exact zG_wr (r := some (.inl 0)) 1 hd0 hz (by rfl) ⟨⟨hCM13, hWM13⟩, _, rfl, by omega, by omega⟩
            · refine zG_w (c' := (76, [.inr (.inr (some 97)), .inl a1, .inl a2, .inl v12, .inl 0], [])) 2 hd0 hz (by rfl) ?_
              have j76 : ∀ (N : Nat) (v17 : Int) (M18 : zM) , (9 - v17 : Int).toNat < N → 0 ≤ v17 ∧ v17 ≤ 9 → ((gk : Int) < M 98 0 → a1.toNat / 2 ^ gk % 2 = 1 → M18 116 (qpc gk a1.toNat) = gk) → qMI M18 → qFm [116, 117, 118, 1034] M M18 → zG n (0, 0) d 276 (76, [.inr (.inr (some 97)), .inl a1, .inl a2, .inl v12, .inl v17], []) M18 (fun v M' => (qMI M' ∧ qFm [116, 117, 118, 1034] M M') ∧ ∃ x : Int, v = some (.inl x) ∧ ((-1) ≤ x ∧ x ≤ 9) ∧ (x ≠ -1 → (gk : Int) < M 98 0 → a1.toNat / 2 ^ gk % 2 = 1 → M' 116 (qpc gk a1.toNat) = gk)) := by
                intro N
                induction N with
                | zero => intro v17 M18 hN hv17 hx0_76 hCM18 hWM18; exact absurd hN (Nat.not_lt_zero _)
                | succ N ih76 =>
                  intro v17 M18 hN hv17 hx0_76 hCM18 hWM18
                  replace hN : 9 - v17 < (N : Int) + 1 := by omega
                  have e19 : M18 98 0 = M 98 0 := hWM18 98 0 (by decide)
                  have r20 := hCM18.f34
                  refine zG_wi_ge (pc := 82) (n' := 85) (t := 99) (L := [.inr (.inr (some 97)), .inl a1, .inl a2, .inl v12, .inl v17]) (st := []) (x := v17) (y := (M18 97 34)) 3 hd0 hz (by rfl) (fun hb21 => ?_) (fun hb21 => ?_)
                  · refine zG_w (c' := (102, [.inr (.inr (some 97)), .inl a1, .inl a2, .inl v12, .inl 1], [])) 2 hd0 hz (by rfl) ?_
                    have j102 : ∀ (N : Nat) (v22 : Int) (M23 : zM) , (2 * (30000000000 - qHv M23) + v22 : Int).toNat < N → 0 ≤ v22 ∧ v22 ≤ 1 → ((gk : Int) < M 98 0 → a1.toNat / 2 ^ gk % 2 = 1 → M23 116 (qpc gk a1.toNat) = gk) → qMI M23 → qFm [116, 117, 118, 1034] M M23 → zG n (0, 0) d 276 (102, [.inr (.inr (some 97)), .inl a1, .inl a2, .inl v12, .inl v22], []) M23 (fun v M' => (qMI M' ∧ qFm [116, 117, 118, 1034] M M') ∧ ∃ x : Int, v = some (.inl x) ∧ ((-1) ≤ x ∧ x ≤ 9) ∧ (x ≠ -1 → (gk : Int) < M 98 0 → a1.toNat / 2 ^ gk % 2 = 1 → M' 116 (qpc gk a1.toNat) = gk)) := by
                      intro N
                      induction N with
                      | zero => intro v22 M23 hN hv22 hx0_102 hCM23 hWM23; exact absurd hN (Nat.not_lt_zero _)
                      | succ N ih102 =>
                        intro v22 M23 hN hv22 hx0_102 hCM23 hWM23
                        replace hN : 2 * (30000000000 - qHv M23) + v22 < (N : Int) + 1 := by omega
                        have e24 : M23 98 0 = M 98 0 := hWM23 98 0 (by decide)
                        have r25 := hCM23.f34
                        have hvb := hCM23.hv
                        refine zG_wf_eq (pc := 104) (n' := 107) (t := 127) (L := [.inr (.inr (some 97)), .inl a1, .inl a2, .inl v12, .inl v22]) (st := []) (x := v22) 1 hd0 hz (by rfl) (fun hb26 => ?_) (fun hb26 => ?_)
                        · obtain ⟨x27, hx27⟩ : ∃ x : Int, x = w32 (v12 + 1) := ⟨_, rfl⟩
                          have hx27e : x27 = v12 + 1 := by rw [hx27]; exact w32_id (by omega)
                          refine zG_w (c' := (65, [.inr (.inr (some 97)), .inl a1, .inl a2, .inl x27, .inl v22], [])) 2 hd0 hz (by subst hx27; rfl) ?_
                          exact zG_weak (ih65 x27 M23 (by omega) (by omega) (by omega) hCM23 hWM23) ⟨.inr rfl, .inr rfl, .inr rfl, .inr rfl, .inl rfl, trivial⟩
                        · refine zG_wp (pc := 112) (L := [.inr (.inr (some 97)), .inl a1, .inl a2, .inl v12, .inl v22]) (st := []) 2 hd0 hz zp_274 (qm_274_97 (by first | exact zdk hd rfl | omega) hCM23   a2 (by first | with_reducible exact ha2 | omega) ) (by rfl) (fun x29 hx29 => ?_)
                          refine zG_wf_eq (pc := 112) (n' := 115) (t := 117) (L := [.inr (.inr (some 97)), .inl a1, .inl a2, .inl v12, .inl v22]) (st := []) (x := x29) 0 hd0 hz (by rfl) (fun hb30 => ?_) (fun hb30 => ?_)
                          · refine zG_wc (c1 := (122, [.inr (.inr (some 97)), .inl a1, .inl a2, .inl v12, .inl v22], [])) 2 hd0 hz zp_275 (qm_275_97 (by first | exact zdk hd rfl | omega) hCM23   v12 (by first | with_reducible exact hv12 | omega) ) (by rfl) (fun vr M31 hr => ?_)
                            obtain ⟨⟨hCM31, hFM31⟩, x32, rfl, hx32, hpx32_0⟩ := hr
                            have hWM31 : qFm [116, 117, 118, 1034] M M31 := hWM23.tr hFM31 (by decide)
                            have e33 : M31 98 0 = M23 98 0 := hFM31 98 0 (by decide)
                            have e34 : M31 97 34 = M23 97 34 := hFM31 97 34 (by decide)
                            have e35 : M31 116 (qpc gk a1.toNat) = M23 116 (qpc gk a1.toNat) := hFM31.ar 116 (qpc gk a1.toNat) (by decide) (by decide)
                            show zG n (0, 0) d 276 (122, [.inr (.inr (some 97)), .inl a1, .inl a2, .inl v12, .inl v22], [.inl x32]) M31 _
                            refine zG_w (c' := (102, [.inr (.inr (some 97)), .inl a1, .inl a2, .inl v12, .inl x32], [])) 2 hd0 hz (by rfl) ?_
                            exact ih102 x32 M31 (by omega) (by omega) (by omega) hCM31 hWM31
                          · exact zG_wr (r := some (.inl v12)) 1 hd0 hz (by rfl) ⟨⟨hCM23, hWM23⟩, _, rfl, by omega, by omega⟩
                    exact j102 ((2 * (30000000000 - qHv M18) + 1 : Int).toNat + 1) 1 M18 (by omega) (by omega) (by omega) hCM18 hWM18
                  · refine zG_w (c' := (92, [.inr (.inr (some 97)), .inl a1, .inl a2, .inl v12, .inl v17], [.inl 0, .inl v17, .inr (.inr (some 117))])) 4 hd0 hz (by rfl) ?_
                    refine zG_iast hd0 hz rfl rfl (by omega) ?_
                    obtain ⟨M37, hM37⟩ : ∃ X : zM, X = zput M18 117 (v17 : Int).toNat 0 := ⟨_, rfl⟩
                    rw [← hM37]
                    have hCM37 : qMI M37 := by rw [hM37]; exact hCM18.put (by decide) (qCd_a (by decide) (by decide)) (by first | exact qMC_ar (by decide) (fun _ => by omega) | (refine ⟨fun h => ?_, fun _ => ?_, fun h => ?_, fun h => ?_, fun h => ?_⟩ <;> first | omega | exact absurd h (by decide)))
                    have hWM37 : qFm [116, 117, 118, 1034] M M37 := by rw [hM37]; exact hWM18.pa (by decide) (by decide)
                    have e38 : M37 98 0 = M18 98 0 := by rw [hM37]; exact qput_ne (by decide)
                    have e39 : M37 97 34 = M18 97 34 := by rw [hM37]; exact qput_ne (by decide)
                    have e40 : M37 116 (qpc gk a1.toNat) = M18 116 (qpc gk a1.toNat) := by rw [hM37]; exact qput_ne (by decide)
                    show zG n (0, 0) d 276 (93, [.inr (.inr (some 97)), .inl a1, .inl a2, .inl v12, .inl v17], []) M37 _
                    obtain ⟨x41, hx41⟩ : ∃ x : Int, x = w32 (v17 + 1) := ⟨_, rfl⟩
                    have hx41e : x41 = v17 + 1 := by rw [hx41]; exact w32_id (by omega)
                    refine zG_w (c' := (76, [.inr (.inr (some 97)), .inl a1, .inl a2, .inl v12, .inl x41], [])) 2 hd0 hz (by subst hx41; rfl) ?_
                    exact ih76 x41 M37 (by omega) (by omega) (by omega) hCM37 hWM37
              exact j76 ((9 - 0 : Int).toNat + 1) 0 M13 (by omega) (by omega) (by omega) hCM13 hWM13
        exact j65 ((10 - 1 : Int).toNat + 1) 1 M8 (by omega) (by omega) (by omega) hCM8 hWM8
      · obtain ⟨x42, hx42⟩ : ∃ x : Int, x = zbshr a1 v7 := ⟨_, rfl⟩
        have hx42r := qbshr_n a1 v7 (by first | with_reducible exact hv7 | omega); rw [← hx42] at hx42r
        obtain ⟨x43, hx43⟩ : ∃ x : Int, x = zband x42 1 := ⟨_, rfl⟩
        have hx43r := qband_lr x42 1 (by first | decide | omega) (by omega); rw [← hx43] at hx43r
        have hb8 : x43 = (a1.toNat / 2 ^ (v7).toNat % 2 : Nat) := by rw [hx43, hx42]; exact qbit a1 v7 (by first | with_reducible exact hv7 | omega) (by omega)
        have hb7 := qpc_next (v7).toNat a1.toNat
        have hb6 : (v7 + 1).toNat = (v7).toNat + 1 := by omega
        rw [← hb6] at hb7
        have hb5 := qpc_mono (v := a1.toNat) (show (v7 + 1).toNat ≤ 31 by omega)
        have hb4 : (gk : Int) = v7 → a1.toNat / 2 ^ gk % 2 = a1.toNat / 2 ^ (v7).toNat % 2 ∧ qpc gk a1.toNat = qpc (v7).toNat a1.toNat := fun h9 => by rw [show (v7).toNat = gk by omega]; exact ⟨rfl, rfl⟩
        have hb3 : (gk : Int) < v7 → a1.toNat / 2 ^ gk % 2 = 1 → qpc gk a1.toNat + 1 ≤ qpc (v7).toNat a1.toNat := fun h9 h8 => by have h7 := qpc_next gk a1.toNat; have h6 := qpc_mono (v := a1.toNat) (show gk + 1 ≤ (v7).toNat by omega); omega
        refine zG_w (c' := (23, [.inr (.inr (some 97)), .inl a1, .inl a2, .inl v7, zN], [.inl 1, .inl x43])) 6 hd0 hz (by subst hx43; subst hx42; rfl) ?_
        have j57 : ∀ (M44 : zM) , (M44 97 34 = (qpc (v7 + 1).toNat a1.toNat : Nat)) → ((gk : Int) < v7 + 1 → a1.toNat / 2 ^ gk % 2 = 1 → M44 116 (qpc gk a1.toNat) = gk) → qMI M44 → qFm [116, 117, 118, 1034] M M44 → zG n (0, 0) d 276 (57, [.inr (.inr (some 97)), .inl a1, .inl a2, .inl v7, zN], []) M44 (fun v M' => (qMI M' ∧ qFm [116, 117, 118, 1034] M M') ∧ ∃ x : Int, v = some (.inl x) ∧ ((-1) ≤ x ∧ x ≤ 9) ∧ (x ≠ -1 → (gk : Int) < M 98 0 → a1.toNat / 2 ^ gk % 2 = 1 → M' 116 (qpc gk a1.toNat) = gk)) := by
          intro M44 hx0_57 hx1_57 hCM44 hWM44
          have e45 : M44 98 0 = M 98 0 := hWM44 98 0 (by decide)
          have r46 := hCM44.f34
          obtain ⟨x47, hx47⟩ : ∃ x : Int, x = w32 (v7 + 1) := ⟨_, rfl⟩
          have hx47e : x47 = v7 + 1 := by rw [hx47]; exact w32_id (by omega)
          have hnx : qpc (x47).toNat a1.toNat = qpc (v7 + 1).toNat a1.toNat := by rw [show x47 = v7 + 1 by omega]
          refine zG_w (c' := (7, [.inr (.inr (some 97)), .inl a1, .inl a2, .inl x47, zN], [])) 2 hd0 hz (by subst hx47; rfl) ?_
          exact ih7 x47 M44 (by omega) (by omega) (by omega) (by omega) hCM44 hWM44
        refine zG_wi_ne (pc := 23) (n' := 26) (t := 57) (L := [.inr (.inr (some 97)), .inl a1, .inl a2, .inl v7, zN]) (st := []) (x := x43) (y := 1) 0 hd0 hz (by rfl) (fun hb48 => ?_) (fun hb48 => ?_)
        · exact j57 M8 (by omega) (by omega) hCM8 hWM8
        · refine zG_wp (pc := 31) (L := [.inr (.inr (some 97)), .inl a1, .inl a2, .inl v7, zN]) (st := []) 2 hd0 hz zp_272 (qm_272_97 (by first | exact zdk hd rfl | omega) hCM8   v7 (by first | with_reducible exact hv7 | omega) ) (by rfl) (fun x50 hx50 => ?_)
          refine zG_wi_le (pc := 32) (n' := 35) (t := 37) (L := [.inr (.inr (some 97)), .inl a1, .inl a2, .inl v7, zN]) (st := []) (x := x50) (y := a2) 1 hd0 hz (by rfl) (fun hb51 => ?_) (fun hb51 => ?_)
          · refine zG_w (c' := (46, [.inr (.inr (some 97)), .inl a1, .inl a2, .inl v7, zN], [.inl v7, .inl (M8 97 34), .inr (.inr (some 116))])) 5 hd0 hz (by rfl) ?_
            refine zG_iast hd0 hz rfl rfl (by omega) ?_
            obtain ⟨M52, hM52⟩ : ∃ X : zM, X = zput M8 116 ((M8 97 34) : Int).toNat v7 := ⟨_, rfl⟩
            rw [← hM52]
            have hCM52 : qMI M52 := by rw [hM52]; exact hCM8.put (by decide) (qCd_a (by decide) (by decide)) (by first | exact qMC_ar (by decide) (fun _ => by omega) | (refine ⟨fun h => ?_, fun _ => ?_, fun h => ?_, fun h => ?_, fun h => ?_⟩ <;> first | omega | exact absurd h (by decide)))
            have hWM52 : qFm [116, 117, 118, 1034] M M52 := by rw [hM52]; exact hWM8.pa (by decide) (by decide)
            have e53 : M52 98 0 = M8 98 0 := by rw [hM52]; exact qput_ne (by decide)
            have e54 : M52 97 34 = M8 97 34 := by rw [hM52]; exact qput_ne (by decide)
            have hq1 : (gk : Int) = v7 → a1.toNat / 2 ^ gk % 2 = 1 → M52 116 (qpc gk a1.toNat) = gk := fun h9 h8 => by rw [hM52, show ((M8 97 34) : Int).toNat = qpc gk a1.toNat by omega, qput_eq]; omega
            have hq2 : (gk : Int) < v7 → a1.toNat / 2 ^ gk % 2 = 1 → M52 116 (qpc gk a1.toNat) = gk := fun h9 h8 => by rw [hM52, qput_nk (by omega)]; omega
            show zG n (0, 0) d 276 (47, [.inr (.inr (some 97)), .inl a1, .inl a2, .inl v7, zN], []) M52 _
            obtain ⟨x55, hx55⟩ : ∃ x : Int, x = w32 ((M52 97 34) + 1) := ⟨_, rfl⟩
            have hx55e : x55 = (M52 97 34) + 1 := by rw [hx55]; exact w32_id (by omega)
            refine zG_w (c' := (54, [.inr (.inr (some 97)), .inl a1, .inl a2, .inl v7, zN], [.inl x55, .inr (.inr (some 97))])) 5 hd0 hz (by subst hx55; rfl) ?_
            refine zG_putf (.inl rfl) hd0 hz rfl (by decide) rfl rfl ?_
            obtain ⟨M56, hM56⟩ : ∃ X : zM, X = zput M52 97 34 x55 := ⟨_, rfl⟩
            rw [← hM56]
            have hCM56 : qMI M56 := by rw [hM56]; exact hCM52.put (by decide) (by decide) (by first | exact qMC_97 (by decide) (fun _ => by omega) | (refine ⟨fun _ => ?_, fun _ => ?_, fun h => ⟨fun _ => ?_, fun _ => ?_, fun _ => ?_, fun _ => ?_, fun _ => ?_⟩, fun h => ?_, fun h => ?_⟩ <;> first | omega | exact absurd rfl (by assumption) | (rename_i h9; exact absurd h9 (by decide))))
            have hWM56 : qFm [116, 117, 118, 1034] M M56 := by rw [hM56]; exact hWM52.put (by decide)
            have e57 : M56 98 0 = M52 98 0 := by rw [hM56]; exact qput_ne (by decide)
            have e58 : M56 116 (qpc gk a1.toNat) = M52 116 (qpc gk a1.toNat) := by rw [hM56]; exact qput_ne (by decide)
            have e59 : M56 97 34 = x55 := by rw [hM56]; exact qput_eq
            show zG n (0, 0) d 276 (57, [.inr (.inr (some 97)), .inl a1, .inl a2, .inl v7, zN], []) M56 _
            exact j57 M56 (by omega) (by omega) hCM56 hWM56
          · exact zG_wr (r := some (.inl (-1))) 1 hd0 hz (by rfl) ⟨⟨hCM8, hWM8⟩, _, rfl, by omega, by omega⟩
  exact j7 ((14 - 0 : Int).toNat + 1) 0 M3 (by omega) (by omega) (by omega) (by omega) hCM3 hWM3
theorem qm_277_97 {n d : Nat} {M : zM} (hd : 2 ≤ d) (hC : qMI M)  (a1 : Int) (ha1 : (-2147483648) ≤ a1 ∧ a1 ≤ 2147483647) (a2 : Int) (ha2 : (-2147483648) ≤ a2 ∧ a2 ≤ 2147483647) (a3 : Int) (ha3 : 0 ≤ a3 ∧ a3 ≤ 1) : qOkP n d 277 [.inr (.inr (some 97)), .inl a1, .inl a2, .inl a3] 4 M (fun v => ∃ x : Int, v = some (.inl x) ∧ ((-3) ≤ x ∧ x ≤ 1) ∧ (x = 1 → (0 ≤ a1 ∧ a1 ≤ 16383) ∧ (1 ≤ a2 ∧ a2 ≤ 200) ∧ a3 ≠ 0 ∧ qpc 31 a1.toNat ≤ 9)) := by
  have hz := zp_277
  have hd0 : 0 < d := by omega
  have r1 := hC.cnt0
  show zG n (0, 0) d 277 (0, [.inr (.inr (some 97)), .inl a1, .inl a2, .inl a3], []) M _
  refine zG_w (c' := (1, [.inr (.inr (some 97)), .inl a1, .inl a2, .inl a3], [.inl a3])) 1 hd0 hz (by rfl) ?_
  have j53 : ∀ (v2 : Int) , (-3) ≤ v2 ∧ v2 ≤ 1 → (v2 = 1 → (0 ≤ a1 ∧ a1 ≤ 16383) ∧ (1 ≤ a2 ∧ a2 ≤ 200) ∧ a3 ≠ 0 ∧ qpc 31 a1.toNat ≤ 9) → zG n (0, 0) d 277 (53, [.inr (.inr (some 97)), .inl a1, .inl a2, .inl a3], [.inl v2]) M (fun v M' => M' = M ∧ ∃ x : Int, v = some (.inl x) ∧ ((-3) ≤ x ∧ x ≤ 1) ∧ (x = 1 → (0 ≤ a1 ∧ a1 ≤ 16383) ∧ (1 ≤ a2 ∧ a2 ≤ 200) ∧ a3 ≠ 0 ∧ qpc 31 a1.toNat ≤ 9)) := by
    intro v2 hv2 hx0_53
    exact zG_wr (r := some (.inl v2)) 0 hd0 hz (by rfl) ⟨rfl, _, rfl, by omega, by omega⟩
  have j33 : zG n (0, 0) d 277 (33, [.inr (.inr (some 97)), .inl a1, .inl a2, .inl a3], []) M (fun v M' => M' = M ∧ ∃ x : Int, v = some (.inl x) ∧ ((-3) ≤ x ∧ x ≤ 1) ∧ (x = 1 → (0 ≤ a1 ∧ a1 ≤ 16383) ∧ (1 ≤ a2 ∧ a2 ≤ 200) ∧ a3 ≠ 0 ∧ qpc 31 a1.toNat ≤ 9)) := by
    refine zG_w (c' := (53, [.inr (.inr (some 97)), .inl a1, .inl a2, .inl a3], [.inl (-2)])) 2 hd0 hz (by rfl) ?_
    exact j53 (-2) (by first | decide | omega) (by omega)
  refine zG_wf_eq (pc := 1) (n' := 4) (t := 33) (L := [.inr (.inr (some 97)), .inl a1, .inl a2, .inl a3]) (st := []) (x := a3) 0 hd0 hz (by rfl) (fun hb3 => ?_) (fun hb3 => ?_)
  · exact j33
  · refine zG_w (c' := (12, [.inr (.inr (some 97)), .inl a1, .inl a2, .inl a3], [.inl 0, .inr (.inr (some 98)), .inl 1, .inl 0, .inl a1])) 6 hd0 hz (by rfl) ?_
    refine zG_iald hd0 hz rfl rfl (.inl rfl) (by omega) ?_
    show zG n (0, 0) d 277 (13, [.inr (.inr (some 97)), .inl a1, .inl a2, .inl a3], [.inl (M 98 0), .inl 1, .inl 0, .inl a1]) M _
    obtain ⟨x4, hx4⟩ : ∃ x : Int, x = zbshl 1 (M 98 0) := ⟨_, rfl⟩
    have hx4r := qshl1_in (M 98 0) 16384 14 (by decide) (by decide) (by omega); rw [← hx4] at hx4r
    obtain ⟨x5, hx5⟩ : ∃ x : Int, x = w32 (x4 - 1) := ⟨_, rfl⟩
    have hx5e : x5 = x4 - 1 := by rw [hx5]; exact w32_id (by omega)
    refine zG_wp (pc := 19) (L := [.inr (.inr (some 97)), .inl a1, .inl a2, .inl a3]) (st := []) 3 hd0 hz zp_180 (qx_in (by first | exact zdk hd rfl | omega) hC   a1 (by first | with_reducible exact ha1 | omega) 0 (by first | decide | omega) x5 (by omega) ) (by subst hx5; subst hx4; rfl) (fun x7 hx7 => ?_)
    refine zG_wf_eq (pc := 19) (n' := 22) (t := 33) (L := [.inr (.inr (some 97)), .inl a1, .inl a2, .inl a3]) (st := []) (x := x7) 0 hd0 hz (by rfl) (fun hb8 => ?_) (fun hb8 => ?_)
    · exact j33
    · have hcx7 := hx7.2.2.mp (by omega)
      clear hx7 hb8
      refine zG_wp (pc := 30) (L := [.inr (.inr (some 97)), .inl a1, .inl a2, .inl a3]) (st := []) 3 hd0 hz zp_180 (qx_in (by first | exact zdk hd rfl | omega) hC   a2 (by first | with_reducible exact ha2 | omega) 1 (by first | decide | omega) 200 (by first | decide | omega) ) (by rfl) (fun x10 hx10 => ?_)
      refine zG_wf_ne (pc := 30) (n' := 33) (t := 38) (L := [.inr (.inr (some 97)), .inl a1, .inl a2, .inl a3]) (st := []) (x := x10) 0 hd0 hz (by rfl) (fun hb11 => ?_) (fun hb11 => ?_)
      · have hcx10 := hx10.2.2.mp (by omega)
        clear hx10 hb11
        refine zG_wp (pc := 42) (L := [.inr (.inr (some 97)), .inl a1, .inl a2, .inl a3]) (st := []) 1 hd0 hz zp_186 (qx_sizeOf (by first | exact zdk hd rfl | omega) hC   a1 (by first | with_reducible exact ha1 | omega) ) (by rfl) (fun x13 hx13 => ?_)
        refine zG_wi_le (pc := 44) (n' := 47) (t := 52) (L := [.inr (.inr (some 97)), .inl a1, .inl a2, .inl a3]) (st := []) (x := x13) (y := 9) 1 hd0 hz (by rfl) (fun hb14 => ?_) (fun hb14 => ?_)
        · refine zG_w (c' := (53, [.inr (.inr (some 97)), .inl a1, .inl a2, .inl a3], [.inl 1])) 1 hd0 hz (by rfl) ?_
          exact j53 1 (by first | decide | omega) (by omega)
        · refine zG_w (c' := (53, [.inr (.inr (some 97)), .inl a1, .inl a2, .inl a3], [.inl (-3)])) 2 hd0 hz (by rfl) ?_
          exact j53 (-3) (by first | decide | omega) (by omega)
      · exact j33
theorem qm_278_97 {n d : Nat} {M : zM} (hd : 4 ≤ d) (hC : qMI M)  (a1 : Int) (ha1 : (-2147483648) ≤ a1 ∧ a1 ≤ 2147483647) (a2 : Int) (ha2 : (-2147483648) ≤ a2 ∧ a2 ≤ 2147483647) : qOkN n d 278 [.inr (.inr (some 97)), .inl a1, .inl a2] 4 [116, 117, 118, 1034] M (fun v M' => ∃ x : Int, v = some (.inl x) ∧ ((-3) ≤ x ∧ x ≤ 9)) := by
  have hz := zp_278
  have hd0 : 0 < d := by omega
  have hW : qFm [116, 117, 118, 1034] M M := qFm.rfl
  show zG n (0, 0) d 278 (0, [.inr (.inr (some 97)), .inl a1, .inl a2, zN], []) M _
  refine zG_wp (pc := 7) (L := [.inr (.inr (some 97)), .inl a1, .inl a2, zN]) (st := []) 4 hd0 hz zp_277 (qm_277_97 (by first | exact zdk hd rfl | omega) hC   a1 (by first | with_reducible exact ha1 | omega) a2 (by first | with_reducible exact ha2 | omega) 1 (by first | decide | omega) ) (by rfl) (fun x2 hr => ?_)
  obtain ⟨hx2, hpx2_0⟩ := hr
  refine zG_w (c' := (10, [.inr (.inr (some 97)), .inl a1, .inl a2, .inl x2], [.inl 1, .inl x2])) 3 hd0 hz (by rfl) ?_
  have j23 : ∀ (v3 : Int) (M4 : zM) , (-3) ≤ v3 ∧ v3 ≤ 9 → qMI M4 → qFm [116, 117, 118, 1034] M M4 → zG n (0, 0) d 278 (23, [.inr (.inr (some 97)), .inl a1, .inl a2, .inl x2], [.inl v3]) M4 (fun v M' => (qMI M' ∧ qFm [116, 117, 118, 1034] M M') ∧ ∃ x : Int, v = some (.inl x) ∧ ((-3) ≤ x ∧ x ≤ 9)) := by
    intro v3 M4 hv3 hCM4 hWM4
    exact zG_wr (r := some (.inl v3)) 0 hd0 hz (by rfl) ⟨⟨hCM4, hWM4⟩, _, rfl, by omega⟩
  refine zG_wi_eq (pc := 10) (n' := 13) (t := 17) (L := [.inr (.inr (some 97)), .inl a1, .inl a2, .inl x2]) (st := []) (x := x2) (y := 1) 0 hd0 hz (by rfl) (fun hb5 => ?_) (fun hb5 => ?_)
  · refine zG_wc (c1 := (23, [.inr (.inr (some 97)), .inl a1, .inl a2, .inl x2], [])) 3 hd0 hz zp_276 (qm_276_97 (by first | exact zdk hd rfl | omega) hC 0  a1 (by first | with_reducible exact ha1 | omega) a2 (by first | with_reducible exact ha2 | omega) (by omega)) (by rfl) (fun vr M6 hr => ?_)
    obtain ⟨⟨hCM6, hFM6⟩, x7, rfl, hx7, hpx7_0⟩ := hr
    have hWM6 : qFm [116, 117, 118, 1034] M M6 := hW.tr hFM6 (by decide)
    show zG n (0, 0) d 278 (23, [.inr (.inr (some 97)), .inl a1, .inl a2, .inl x2], [.inl x7]) M6 _
    exact j23 x7 M6 (by omega) hCM6 hWM6
  · refine zG_w (c' := (23, [.inr (.inr (some 97)), .inl a1, .inl a2, .inl x2], [.inl x2])) 2 hd0 hz (by rfl) ?_
    exact j23 x2 M (by omega) hC hW
theorem qm_279_97 {n d : Nat} {M : zM} (hd : 4 ≤ d) (hC : qMI M)  (a1 : Int) (ha1 : (-2147483648) ≤ a1 ∧ a1 ≤ 2147483647) (a2 : Int) (ha2 : (-2147483648) ≤ a2 ∧ a2 ≤ 2147483647) (a3 : Int) (ha3 : (-2147483648) ≤ a3 ∧ a3 ≤ 2147483647) : qOkN n d 279 [.inr (.inr (some 97)), .inl a1, .inl a2, .inl a3] 6 [116, 117, 118, 1034] M (fun v M' => ∃ x : Int, v = some (.inl x) ∧ ((-3) ≤ x ∧ x ≤ 13)) := by
  have hz := zp_279
  have hd0 : 0 < d := by omega
  have hW : qFm [116, 117, 118, 1034] M M := qFm.rfl
  have r1 := hC.cnt0
  show zG n (0, 0) d 279 (0, [.inr (.inr (some 97)), .inl a1, .inl a2, .inl a3, zN, zN], []) M _
  refine zG_wp (pc := 9) (L := [.inr (.inr (some 97)), .inl a1, .inl a2, .inl a3, zN, zN]) (st := [.inl a2, .inl a1, .inr (.inr (some 97))]) 6 hd0 hz zp_182 (qx_is (by first | exact zdk hd rfl | omega) hC   0 (by first | decide | omega) a3 (by first | with_reducible exact ha3 | omega) ) (by rfl) (fun x3 hx3 => ?_)
  have j26 : ∀ (v4 : Int) , 0 ≤ v4 ∧ v4 ≤ 1 → (v4 = 1 → 0 ≤ a3 ∧ a3 < M 98 0 ∧ zband (zbshr a1 a3) 1 = 1) → zG n (0, 0) d 279 (26, [.inr (.inr (some 97)), .inl a1, .inl a2, .inl a3, zN, zN], [.inl v4, .inl a2, .inl a1, .inr (.inr (some 97))]) M (fun v M' => (qMI M' ∧ qFm [116, 117, 118, 1034] M M') ∧ ∃ x : Int, v = some (.inl x) ∧ ((-3) ≤ x ∧ x ≤ 13)) := by
    intro v4 hv4 hx0_26
    refine zG_wp (pc := 29) (L := [.inr (.inr (some 97)), .inl a1, .inl a2, .inl a3, zN, zN]) (st := []) 0 hd0 hz zp_277 (qm_277_97 (by first | exact zdk hd rfl | omega) hC   a1 (by first | with_reducible exact ha1 | omega) a2 (by first | with_reducible exact ha2 | omega) v4 (by first | with_reducible exact hv4 | omega) ) (by rfl) (fun x6 hr => ?_)
    obtain ⟨hx6, hpx6_0⟩ := hr
    refine zG_wi_eq (pc := 34) (n' := 37) (t := 40) (L := [.inr (.inr (some 97)), .inl a1, .inl a2, .inl a3, .inl x6, zN]) (st := []) (x := x6) (y := 1) 3 hd0 hz (by rfl) (fun hb7 => ?_) (fun hb7 => ?_)
    · refine zG_wc (c1 := (46, [.inr (.inr (some 97)), .inl a1, .inl a2, .inl a3, .inl x6, zN], [])) 3 hd0 hz zp_276 (qm_276_97 (by first | exact zdk hd rfl | omega) hC a3.toNat  a1 (by first | with_reducible exact ha1 | omega) a2 (by first | with_reducible exact ha2 | omega) (by omega)) (by rfl) (fun vr M8 hr => ?_)
      obtain ⟨⟨hCM8, hFM8⟩, x9, rfl, hx9, hpx9_0⟩ := hr
      have hWM8 : qFm [116, 117, 118, 1034] M M8 := hW.tr hFM8 (by decide)
      have e10 : M8 98 0 = M 98 0 := hFM8 98 0 (by decide)
      show zG n (0, 0) d 279 (46, [.inr (.inr (some 97)), .inl a1, .inl a2, .inl a3, .inl x6, zN], [.inl x9]) M8 _
      refine zG_wi_ne (pc := 47) (n' := 50) (t := 52) (L := [.inr (.inr (some 97)), .inl a1, .inl a2, .inl a3, .inl x6, zN]) (st := []) (x := x9) (y := (-1)) 1 hd0 hz (by rfl) (fun hb11 => ?_) (fun hb11 => ?_)
      · have hb := qbit a1 a3 (by first | with_reducible exact ha3 | omega) (by omega)
        have hn1 := qpc_next a3.toNat a1.toNat
        have hn2 := qpc_mono (v := a1.toNat) (show a3.toNat + 1 ≤ 31 by omega)
        have hgk : M8 116 (qpc a3.toNat a1.toNat) = a3 := by omega
        refine zG_w (c' := (55, [.inr (.inr (some 97)), .inl a1, .inl a2, .inl a3, .inl x6, .inl 0], [])) 2 hd0 hz (by rfl) ?_
        have j55 : ∀ (N : Nat) (v12 : Int) , ((qpc a3.toNat a1.toNat : Nat) - v12 : Int).toNat < N → (-2147483648) ≤ v12 ∧ v12 ≤ 2147483647 → (0 ≤ v12) → (v12 ≤ (qpc a3.toNat a1.toNat : Nat)) → zG n (0, 0) d 279 (55, [.inr (.inr (some 97)), .inl a1, .inl a2, .inl a3, .inl x6, .inl v12], []) M8 (fun v M' => (qMI M' ∧ qFm [116, 117, 118, 1034] M M') ∧ ∃ x : Int, v = some (.inl x) ∧ ((-3) ≤ x ∧ x ≤ 13)) := by
          intro N
          induction N with
          | zero => intro v12 hN hv12 hx0_55 hx1_55; exact absurd hN (Nat.not_lt_zero _)
          | succ N ih55 =>
            intro v12 hN hv12 hx0_55 hx1_55
            replace hN : (qpc a3.toNat a1.toNat : Nat) - v12 < (N : Int) + 1 := by omega
            refine zG_w (c' := (61, [.inr (.inr (some 97)), .inl a1, .inl a2, .inl a3, .inl x6, .inl v12], [.inl v12, .inr (.inr (some 116))])) 3 hd0 hz (by rfl) ?_
            refine zG_iald hd0 hz rfl rfl (.inl rfl) (by omega) ?_
            obtain ⟨x13, hx13⟩ : ∃ x : Int, x = M8 116 (v12 : Int).toNat := ⟨_, rfl⟩
            rw [← hx13]
            have hx13r : 0 ≤ x13 ∧ x13 ≤ 13 := by rw [hx13]; exact hCM8.c116 _
            have hcg : v12 = (qpc a3.toNat a1.toNat : Nat) → x13 = M8 116 (qpc a3.toNat a1.toNat) := fun h9 => by rw [hx13, show (v12 : Int).toNat = qpc a3.toNat a1.toNat by omega]
            show zG n (0, 0) d 279 (62, [.inr (.inr (some 97)), .inl a1, .inl a2, .inl a3, .inl x6, .inl v12], [.inl x13]) M8 _
            refine zG_wi_eq (pc := 63) (n' := 66) (t := 72) (L := [.inr (.inr (some 97)), .inl a1, .inl a2, .inl a3, .inl x6, .inl v12]) (st := []) (x := x13) (y := a3) 1 hd0 hz (by rfl) (fun hb14 => ?_) (fun hb14 => ?_)
            · refine zG_w (c' := (78, [.inr (.inr (some 97)), .inl a1, .inl a2, .inl a3, .inl x6, .inl v12], [.inl v12, .inr (.inr (some 117))])) 3 hd0 hz (by rfl) ?_
              refine zG_iald hd0 hz rfl rfl (.inl rfl) (by omega) ?_
              obtain ⟨x15, hx15⟩ : ∃ x : Int, x = M8 117 (v12 : Int).toNat := ⟨_, rfl⟩
              rw [← hx15]
              have hx15r : 0 ≤ x15 ∧ x15 ≤ 13 := by rw [hx15]; exact hCM8.c117 _
              show zG n (0, 0) d 279 (79, [.inr (.inr (some 97)), .inl a1, .inl a2, .inl a3, .inl x6, .inl v12], [.inl x15]) M8 _
              exact zG_wr (r := some (.inl x15)) 0 hd0 hz (by rfl) ⟨⟨hCM8, hWM8⟩, _, rfl, by omega⟩
            · obtain ⟨x16, hx16⟩ : ∃ x : Int, x = w32 (v12 + 1) := ⟨_, rfl⟩
              have hx16r : x16 = (v12 + 1 + 2147483648) % 4294967296 - 2147483648 := hx16
              refine zG_w (c' := (55, [.inr (.inr (some 97)), .inl a1, .inl a2, .inl a3, .inl x6, .inl x16], [])) 2 hd0 hz (by subst hx16; rfl) ?_
              exact ih55 x16 (by omega) (by omega) (by omega) (by omega)
        exact j55 (((qpc a3.toNat a1.toNat : Nat) - 0 : Int).toNat + 1) 0 (by first | decide | omega) (by omega) (by omega) (by omega)
      · exact zG_wr (r := some (.inl (-1))) 1 hd0 hz (by rfl) ⟨⟨hCM8, hWM8⟩, _, rfl, by omega⟩
    · exact zG_wr (r := some (.inl x6)) 1 hd0 hz (by rfl) ⟨⟨hC, hW⟩, _, rfl, by omega⟩
  have j25 : zG n (0, 0) d 279 (25, [.inr (.inr (some 97)), .inl a1, .inl a2, .inl a3, zN, zN], [.inl a2, .inl a1, .inr (.inr (some 97))]) M (fun v M' => (qMI M' ∧ qFm [116, 117, 118, 1034] M M') ∧ ∃ x : Int, v = some (.inl x) ∧ ((-3) ≤ x ∧ x ≤ 13)) := by
    refine zG_w (c' := (26, [.inr (.inr (some 97)), .inl a1, .inl a2, .inl a3, zN, zN], [.inl 0, .inl a2, .inl a1, .inr (.inr (some 97))])) 1 hd0 hz (by rfl) ?_
    exact j26 0 (by first | decide | omega) (by omega)
  refine zG_wf_eq (pc := 9) (n' := 12) (t := 25) (L := [.inr (.inr (some 97)), .inl a1, .inl a2, .inl a3, zN, zN]) (st := [.inl a2, .inl a1, .inr (.inr (some 97))]) (x := x3) 0 hd0 hz (by rfl) (fun hb17 => ?_) (fun hb17 => ?_)
  · exact j25
  · have hcx3 := hx3.2.2.mp (by omega)
    clear hx3 hb17
    obtain ⟨x18, hx18⟩ : ∃ x : Int, x = zbshr a1 a3 := ⟨_, rfl⟩
    have hx18r : qin x18 := by rw [hx18]; exact qb32 _
    obtain ⟨x19, hx19⟩ : ∃ x : Int, x = zband x18 1 := ⟨_, rfl⟩
    have hx19r := qband_r x18 1 (by first | decide | omega) (by omega); rw [← hx19] at hx19r
    have hx19l : 0 ≤ x18 → x19 ≤ x18 := fun h9 => by rw [hx19]; exact (qband_l x18 1 ⟨h9, by omega⟩ (by omega)).2
    have hbb : x19 = zband (zbshr a1 a3) 1 := by rw [hx19, hx18]
    refine zG_wi_ne (pc := 18) (n' := 21) (t := 25) (L := [.inr (.inr (some 97)), .inl a1, .inl a2, .inl a3, zN, zN]) (st := [.inl a2, .inl a1, .inr (.inr (some 97))]) (x := x19) (y := 1) 6 hd0 hz (by subst hx19; subst hx18; rfl) (fun hb20 => ?_) (fun hb20 => ?_)
    · exact j25
    · refine zG_w (c' := (26, [.inr (.inr (some 97)), .inl a1, .inl a2, .inl a3, zN, zN], [.inl 1, .inl a2, .inl a1, .inr (.inr (some 97))])) 2 hd0 hz (by rfl) ?_
      exact j26 1 (by first | decide | omega) (by omega)
