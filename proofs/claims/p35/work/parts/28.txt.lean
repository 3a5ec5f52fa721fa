/-! THE MODEL'S METHODS, BY PROGRAM -/
theorem qm_222_97 {n d : Nat} {M : zM} (hd : 1 ≤ d) (hC : qMI M)   (hp0 : 0 ≤ M 97 10 ∧ M 97 10 ≤ 90) : qOkP n d 222 [.inr (.inr (some 97))] 1 M (fun v => ∃ x : Int, v = some (.inl x) ∧ ((-2147483648) ≤ x ∧ x ≤ 2147483647) ∧ (x ≠ -1 → 1 ≤ M 97 10 ∧ x = M 107 (M 97 10 - 1).toNat)) := by
  have hz := zp_222
  have hd0 : 0 < d := by omega
  have r1 := hC.rg 97 10 (by decide) (by decide)
  show zG n (0, 0) d 222 (0, [.inr (.inr (some 97))], []) M _
  refine zG_w (c' := (4, [.inr (.inr (some 97))], [.inl (M 97 10)])) 2 hd0 hz (by rfl) ?_
  have j22 : ∀ (v2 : Int) , (-2147483648) ≤ v2 ∧ v2 ≤ 2147483647 → (v2 ≠ -1 → 1 ≤ M 97 10 ∧ v2 = M 107 (M 97 10 - 1).toNat) → zG n (0, 0) d 222 (22, [.inr (.inr (some 97))], [.inl v2]) M (fun v M' => M' = M ∧ ∃ x : Int, v = some (.inl x) ∧ ((-2147483648) ≤ x ∧ x ≤ 2147483647) ∧ (x ≠ -1 → 1 ≤ M 97 10 ∧ x = M 107 (M 97 10 - 1).toNat)) := by
    intro v2 hv2 hx0_22
    exact zG_wr (r := some (.inl v2)) 0 hd0 hz (by rfl) ⟨rfl, _, rfl, by omega, by omega⟩
  refine zG_wf_ne (pc := 4) (n' := 7) (t := 11) (L := [.inr (.inr (some 97))]) (st := []) (x := (M 97 10)) 0 hd0 hz (by rfl) (fun hb3 => ?_) (fun hb3 => ?_)
  · obtain ⟨x4, hx4⟩ : ∃ x : Int, x = w32 ((M 97 10) - 1) := ⟨_, rfl⟩
    have hx4r : x4 = ((M 97 10) - 1 + 2147483648) % 4294967296 - 2147483648 := hx4
    refine zG_w (c' := (21, [.inr (.inr (some 97))], [.inl x4, .inr (.inr (some 107))])) 6 hd0 hz (by subst hx4; rfl) ?_
    refine zG_iald hd0 hz rfl rfl (.inl rfl) (by omega) ?_
    obtain ⟨x5, hx5⟩ : ∃ x : Int, x = M 107 (x4 : Int).toNat := ⟨_, rfl⟩
    rw [← hx5]
    have hx5r : qin x5 := by rw [hx5]; exact hC.ra 107 _ (by decide) (by decide)
    have hq9 : x5 = M 107 (M 97 10 - 1).toNat := by rw [hx5, show x4 = M 97 10 - 1 by omega]
    show zG n (0, 0) d 222 (22, [.inr (.inr (some 97))], [.inl x5]) M _
    exact j22 x5 (by omega) (by omega)
  · refine zG_w (c' := (22, [.inr (.inr (some 97))], [.inl (-1)])) 2 hd0 hz (by rfl) ?_
    exact j22 (-1) (by first | decide | omega) (by omega)
theorem qm_224_97 {n d : Nat} {M : zM} (hd : 2 ≤ d) (hC : qMI M)  (a1 : Int) (ha1 : 3 ≤ a1 ∧ a1 ≤ 8) (hp0 : 0 ≤ M 97 10) (hp1 : qD M = qWt M + 1) (hp2 : M 97 7 + M 97 10 ≤ 80) : qOkN n d 224 [.inr (.inr (some 97)), .inl a1] 2 [105, 106, 1007, 1010] M (fun v M' => v = none ∧ (0 ≤ M' 97 10) ∧ (qD M' = qWt M' + 1) ∧ (M' 97 7 + M' 97 10 = M 97 7 + M 97 10)) := by
  have hz := zp_224
  have hd0 : 0 < d := by omega
  have hW : qFm [105, 106, 1007, 1010] M M := qFm.rfl
  have r1 := hC.steps
  have r2 := hC.rg 97 10 (by decide) (by decide)
  show zG n (0, 0) d 224 (0, [.inr (.inr (some 97)), .inl a1], []) M _
  have j0 : ∀ (N : Nat) (M3 : zM) , (M3 97 10 : Int).toNat < N → (0 ≤ M3 97 10) → (qD M3 = qWt M3 + 1) → (M3 97 7 + M3 97 10 = M 97 7 + M 97 10) → qMI M3 → qFm [105, 106, 1007, 1010] M M3 → zG n (0, 0) d 224 (0, [.inr (.inr (some 97)), .inl a1], []) M3 (fun v M' => (qMI M' ∧ qFm [105, 106, 1007, 1010] M M') ∧ v = none ∧ (0 ≤ M' 97 10) ∧ (qD M' = qWt M' + 1) ∧ (M' 97 7 + M' 97 10 = M 97 7 + M 97 10)) := by
    intro N
    induction N with
    | zero => intro M3 hN hx0_0 hx1_0 hx2_0 hCM3 hWM3; exact absurd hN (Nat.not_lt_zero _)
    | succ N ih0 =>
      intro M3 hN hx0_0 hx1_0 hx2_0 hCM3 hWM3
      replace hN : M3 97 10 < (N : Int) + 1 := by omega
      have r4 := hCM3.steps
      have r5 := hCM3.rg 97 10 (by decide) (by decide)
      refine zG_w (c' := (4, [.inr (.inr (some 97)), .inl a1], [.inl (M3 97 10)])) 2 hd0 hz (by rfl) ?_
      have j52 : zG n (0, 0) d 224 (52, [.inr (.inr (some 97)), .inl a1], []) M3 (fun v M' => (qMI M' ∧ qFm [105, 106, 1007, 1010] M M') ∧ v = none ∧ (0 ≤ M' 97 10) ∧ (qD M' = qWt M' + 1) ∧ (M' 97 7 + M' 97 10 = M 97 7 + M 97 10)) := by
        exact zG_wr (r := none) 0 hd0 hz (by rfl) ⟨⟨hCM3, hWM3⟩, rfl, by omega, by omega, by omega⟩
      refine zG_wf_le (pc := 4) (n' := 7) (t := 52) (L := [.inr (.inr (some 97)), .inl a1]) (st := []) (x := (M3 97 10)) 0 hd0 hz (by rfl) (fun hb6 => ?_) (fun hb6 => ?_)
      · exact j52
      · obtain ⟨x7, hx7⟩ : ∃ x : Int, x = w32 ((M3 97 10) - 1) := ⟨_, rfl⟩
        have hx7r : x7 = ((M3 97 10) - 1 + 2147483648) % 4294967296 - 2147483648 := hx7
        refine zG_w (c' := (17, [.inr (.inr (some 97)), .inl a1], [.inl x7, .inr (.inr (some 107))])) 6 hd0 hz (by subst hx7; rfl) ?_
        refine zG_iald hd0 hz rfl rfl (.inl rfl) (by omega) ?_
        obtain ⟨x8, hx8⟩ : ∃ x : Int, x = M3 107 (x7 : Int).toNat := ⟨_, rfl⟩
        rw [← hx8]
        have hx8r : qin x8 := by rw [hx8]; exact hCM3.ra 107 _ (by decide) (by decide)
        obtain ⟨y17, hy17⟩ : ∃ y : Int, y = x8 := ⟨_, rfl⟩
        have hz17 : y17 = M3 107 (M3 97 10 - 1).toNat := by rw [hy17, hx8, show x7 = M3 97 10 - 1 by omega]
        show zG n (0, 0) d 224 (18, [.inr (.inr (some 97)), .inl a1], [.inl x8]) M3 _
        refine zG_wp (pc := 21) (L := [.inr (.inr (some 97)), .inl a1]) (st := []) 0 hd0 hz zp_221 (qx_holds (by first | exact zdk hd rfl | omega) hCM3   x8 (by omega) ) (by rfl) (fun x10 hx10 => ?_)
        refine zG_wi_lt (pc := 22) (n' := 25) (t := 52) (L := [.inr (.inr (some 97)), .inl a1]) (st := []) (x := x10) (y := a1) 1 hd0 hz (by rfl) (fun hb11 => ?_) (fun hb11 => ?_)
        · exact j52
        · obtain ⟨x12, hx12⟩ : ∃ x : Int, x = w32 ((M3 97 10) - 1) := ⟨_, rfl⟩
          have hx12r : x12 = ((M3 97 10) - 1 + 2147483648) % 4294967296 - 2147483648 := hx12
          refine zG_w (c' := (32, [.inr (.inr (some 97)), .inl a1], [.inl x12, .inr (.inr (some 97))])) 5 hd0 hz (by subst hx12; rfl) ?_
          refine zG_putf (.inl rfl) hd0 hz rfl (by decide) rfl rfl ?_
          obtain ⟨M13, hM13⟩ : ∃ X : zM, X = zput M3 97 10 x12 := ⟨_, rfl⟩
          rw [← hM13]
          have hCM13 : qMI M13 := by rw [hM13]; exact hCM3.put (by decide) (by decide) (by first | exact qMC_97 (by decide) (fun _ => by omega) | (refine ⟨fun _ => ?_, fun _ => ?_, fun h => ⟨fun _ => ?_, fun _ => ?_, fun _ => ?_, fun _ => ?_, fun _ => ?_⟩, fun h => ?_, fun h => ?_⟩ <;> first | omega | exact absurd rfl (by assumption) | (rename_i h9; exact absurd h9 (by decide))))
          have hWM13 : qFm [105, 106, 1007, 1010] M M13 := by rw [hM13]; exact hWM3.put (by decide)
          have e14 : M13 97 7 = M3 97 7 := by rw [hM13]; exact qput_nk (by decide)
          have e15 : qD M13 = qD M3 := by rw [hM13]; exact qD_put (by decide) (by decide)
          have e16 : M13 97 10 = x12 := by rw [hM13]; exact qput_eq
          have hpp := hM13
          have hpx : x12 = M3 97 10 - 1 := by omega
          have hpy : M13 97 10 = x12 := by rw [hpp]; exact qput_eq
          have hpop := qWt_pop (y := y17) hpp hpx (by omega) (by rw [hpx]; exact hz17)
          have hwt := qwt_is y17
          have hnn : 0 ≤ qWt M13 := qWs_nn _ _
          show zG n (0, 0) d 224 (35, [.inr (.inr (some 97)), .inl a1], []) M13 _
          refine zG_w (c' := (44, [.inr (.inr (some 97)), .inl a1], [.inl (M13 97 10), .inr (.inr (some 107)), .inr (.inr (some 97))])) 5 hd0 hz (by rfl) ?_
          refine zG_iald hd0 hz rfl rfl (.inl rfl) (by omega) ?_
          obtain ⟨x17, hx17⟩ : ∃ x : Int, x = M13 107 ((M13 97 10) : Int).toNat := ⟨_, rfl⟩
          rw [← hx17]
          have hx17r : qin x17 := by rw [hx17]; exact hCM13.ra 107 _ (by decide) (by decide)
          have hyy : x17 = y17 := by rw [hx17, hpy, hpp, hz17, hpx]; exact qput_ne (by decide)
          show zG n (0, 0) d 224 (45, [.inr (.inr (some 97)), .inl a1], [.inl x17, .inr (.inr (some 97))]) M13 _
          refine zG_wc (c1 := (49, [.inr (.inr (some 97)), .inl a1], [])) 1 hd0 hz zp_220 (qx_emits (by first | exact zdk hd rfl | omega) hCM13   x17 (by omega) 0 (by first | decide | omega) (by omega) (by omega) (by omega)) (by rfl) (fun vr M18 hr => ?_)
          obtain ⟨⟨hCM18, hFM18⟩, rfl, hpx19_0, hpx19_1⟩ := hr
          have hWM18 : qFm [105, 106, 1007, 1010] M M18 := hWM13.tr hFM18 (by decide)
          have e22 : M18 97 10 = M13 97 10 := hFM18 97 10 (by decide)
          have e23 : qWt M18 = qWt M13 := qWt_fr hFM18 (by decide) (by decide)
          have r24 := hCM18.steps
          show zG n (0, 0) d 224 (49, [.inr (.inr (some 97)), .inl a1], []) M18 _
          refine zG_w (c' := (0, [.inr (.inr (some 97)), .inl a1], [])) 1 hd0 hz (by rfl) ?_
          exact ih0 M18 (by omega) (by omega) (by omega) (by omega) hCM18 hWM18
  exact j0 ((M 97 10 : Int).toNat + 1) M (by omega) (by omega) (by omega) (by omega) hC hW
theorem qm_225_97 {n d : Nat} {M : zM} (hd : 3 ≤ d) (hC : qMI M)   (hp0 : 0 ≤ M 97 10) (hp1 : qD M = qWt M + 1) (hp2 : M 97 7 + M 97 10 ≤ 80) : qOkN n d 225 [.inr (.inr (some 97))] 1 [105, 106, 1007, 1010] M (fun v M' => ∃ x : Int, v = some (.inl x) ∧ (0 ≤ x ∧ x ≤ 1) ∧ (0 ≤ M' 97 10) ∧ (qD M' = qWt M' + 1) ∧ (M' 97 7 + M' 97 10 = M 97 7 + M 97 10)) := by
  have hz := zp_225
  have hd0 : 0 < d := by omega
  have hW : qFm [105, 106, 1007, 1010] M M := qFm.rfl
  have r1 := hC.steps
  have r2 := hC.rg 97 10 (by decide) (by decide)
  show zG n (0, 0) d 225 (0, [.inr (.inr (some 97))], []) M _
  refine zG_wc (c1 := (5, [.inr (.inr (some 97))], [])) 2 hd0 hz zp_224 (qm_224_97 (by first | exact zdk hd rfl | omega) hC   3 (by first | decide | omega) (by omega) (by omega) (by omega)) (by rfl) (fun vr M3 hr => ?_)
  obtain ⟨⟨hCM3, hFM3⟩, rfl, hpx4_0, hpx4_1, hpx4_2⟩ := hr
  have hWM3 : qFm [105, 106, 1007, 1010] M M3 := hW.tr hFM3 (by decide)
  have r9 := hCM3.steps
  have r10 := hCM3.rg 97 10 (by decide) (by decide)
  show zG n (0, 0) d 225 (5, [.inr (.inr (some 97))], []) M3 _
  have j5 : ∀ (N : Nat) (M11 : zM) , (M11 97 10 : Int).toNat < N → (0 ≤ M11 97 10) → (qD M11 = qWt M11 + 1) → (M11 97 7 + M11 97 10 = M 97 7 + M 97 10) → qMI M11 → qFm [105, 106, 1007, 1010] M M11 → zG n (0, 0) d 225 (5, [.inr (.inr (some 97))], []) M11 (fun v M' => (qMI M' ∧ qFm [105, 106, 1007, 1010] M M') ∧ ∃ x : Int, v = some (.inl x) ∧ (0 ≤ x ∧ x ≤ 1) ∧ (0 ≤ M' 97 10) ∧ (qD M' = qWt M' + 1) ∧ (M' 97 7 + M' 97 10 = M 97 7 + M 97 10)) := by
    intro N
    induction N with
    | zero => intro M11 hN hx0_5 hx1_5 hx2_5 hCM11 hWM11; exact absurd hN (Nat.not_lt_zero _)
    | succ N ih5 =>
      intro M11 hN hx0_5 hx1_5 hx2_5 hCM11 hWM11
      replace hN : M11 97 10 < (N : Int) + 1 := by omega
      have r12 := hCM11.steps
      have r13 := hCM11.rg 97 10 (by decide) (by decide)
      refine zG_wp (pc := 9) (L := [.inr (.inr (some 97))]) (st := []) 1 hd0 hz zp_222 (qm_222_97 (by first | exact zdk hd rfl | omega) hCM11    (by omega)) (by rfl) (fun x15 hr => ?_)
      obtain ⟨hx15, hpx15_0⟩ := hr
      have ht6 := hpx15_0
      obtain ⟨y6, hy6⟩ : ∃ y : Int, y = x15 := ⟨_, rfl⟩
      rw [← hy6] at ht6
      refine zG_wi_ne (pc := 11) (n' := 14) (t := 34) (L := [.inr (.inr (some 97))]) (st := []) (x := x15) (y := 17) 1 hd0 hz (by rfl) (fun hb16 => ?_) (fun hb16 => ?_)
      · refine zG_wp (pc := 38) (L := [.inr (.inr (some 97))]) (st := []) 1 hd0 hz zp_222 (qm_222_97 (by first | exact zdk hd rfl | omega) hCM11    (by omega)) (by rfl) (fun x18 hr => ?_)
        obtain ⟨hx18, hpx18_0⟩ := hr
        refine zG_w (c' := (40, [.inr (.inr (some 97))], [.inl 16, .inl x18])) 1 hd0 hz (by rfl) ?_
        have j48 : ∀ (v19 : Int) , 0 ≤ v19 ∧ v19 ≤ 1 → zG n (0, 0) d 225 (48, [.inr (.inr (some 97))], [.inl v19]) M11 (fun v M' => (qMI M' ∧ qFm [105, 106, 1007, 1010] M M') ∧ ∃ x : Int, v = some (.inl x) ∧ (0 ≤ x ∧ x ≤ 1) ∧ (0 ≤ M' 97 10) ∧ (qD M' = qWt M' + 1) ∧ (M' 97 7 + M' 97 10 = M 97 7 + M 97 10)) := by
          intro v19 hv19
          exact zG_zret hd0 hz rfl (by omega) ⟨⟨hCM11, hWM11⟩, _, rfl, by omega, by omega, by omega, by omega⟩
        refine zG_wi_eq (pc := 40) (n' := 43) (t := 47) (L := [.inr (.inr (some 97))]) (st := []) (x := x18) (y := 16) 0 hd0 hz (by rfl) (fun hb20 => ?_) (fun hb20 => ?_)
        · refine zG_w (c' := (48, [.inr (.inr (some 97))], [.inl 0])) 1 hd0 hz (by rfl) ?_
          exact j48 0 (by first | decide | omega)
        · refine zG_w (c' := (48, [.inr (.inr (some 97))], [.inl 1])) 2 hd0 hz (by rfl) ?_
          exact j48 1 (by first | decide | omega)
      · obtain ⟨x21, hx21⟩ : ∃ x : Int, x = w32 ((M11 97 10) - 1) := ⟨_, rfl⟩
        have hx21r : x21 = ((M11 97 10) - 1 + 2147483648) % 4294967296 - 2147483648 := hx21
        refine zG_w (c' := (21, [.inr (.inr (some 97))], [.inl x21, .inr (.inr (some 97))])) 5 hd0 hz (by subst hx21; rfl) ?_
        refine zG_putf (.inl rfl) hd0 hz rfl (by decide) rfl rfl ?_
        obtain ⟨M22, hM22⟩ : ∃ X : zM, X = zput M11 97 10 x21 := ⟨_, rfl⟩
        rw [← hM22]
        have hCM22 : qMI M22 := by rw [hM22]; exact hCM11.put (by decide) (by decide) (by first | exact qMC_97 (by decide) (fun _ => by omega) | (refine ⟨fun _ => ?_, fun _ => ?_, fun h => ⟨fun _ => ?_, fun _ => ?_, fun _ => ?_, fun _ => ?_, fun _ => ?_⟩, fun h => ?_, fun h => ?_⟩ <;> first | omega | exact absurd rfl (by assumption) | (rename_i h9; exact absurd h9 (by decide))))
        have hWM22 : qFm [105, 106, 1007, 1010] M M22 := by rw [hM22]; exact hWM11.put (by decide)
        have e23 : M22 97 7 = M11 97 7 := by rw [hM22]; exact qput_nk (by decide)
        have e24 : qD M22 = qD M11 := by rw [hM22]; exact qD_put (by decide) (by decide)
        have e25 : M22 97 10 = x21 := by rw [hM22]; exact qput_eq
        have ht6b := ht6 (by omega)
        have hpx : x21 = M11 97 10 - 1 := by omega
        have hpop := qWt_pop (y := y6) hM22 hpx (by omega) (by rw [hpx]; exact ht6b.2)
        have hwt := qwt_is y6
        have hnn : 0 ≤ qWt M22 := qWs_nn _ _
        show zG n (0, 0) d 225 (24, [.inr (.inr (some 97))], []) M22 _
        refine zG_wc (c1 := (31, [.inr (.inr (some 97))], [])) 3 hd0 hz zp_220 (qx_emits (by first | exact zdk hd rfl | omega) hCM22   14 (by first | decide | omega) 0 (by first | decide | omega) (by omega) (by omega) (by omega)) (by rfl) (fun vr M26 hr => ?_)
        obtain ⟨⟨hCM26, hFM26⟩, rfl, hpx27_0, hpx27_1⟩ := hr
        have hWM26 : qFm [105, 106, 1007, 1010] M M26 := hWM22.tr hFM26 (by decide)
        have e30 : M26 97 10 = M22 97 10 := hFM26 97 10 (by decide)
        have e31 : qWt M26 = qWt M22 := qWt_fr hFM26 (by decide) (by decide)
        have r32 := hCM26.steps
        show zG n (0, 0) d 225 (31, [.inr (.inr (some 97))], []) M26 _
        refine zG_w (c' := (5, [.inr (.inr (some 97))], [])) 1 hd0 hz (by rfl) ?_
        exact ih5 M26 (by omega) (by omega) (by omega) (by omega) hCM26 hWM26
  exact j5 ((M3 97 10 : Int).toNat + 1) M3 (by omega) (by omega) (by omega) (by omega) hCM3 hWM3
theorem qm_226_97 {n d : Nat} {M : zM} (hd : 4 ≤ d) (hC : qMI M)   (hp0 : 0 ≤ M 97 10) (hp1 : qD M = qWt M + 1) (hp2 : M 97 7 + M 97 10 ≤ 80) : qOkN n d 226 [.inr (.inr (some 97))] 1 [105, 106, 1007, 1010] M (fun v M' => ∃ x : Int, v = some (.inl x) ∧ (0 ≤ x ∧ x ≤ 1) ∧ (0 ≤ M' 97 10) ∧ (qD M' = qWt M' + 1) ∧ (M' 97 7 + M' 97 10 = M 97 7 + M 97 10)) := by
  have hz := zp_226
  have hd0 : 0 < d := by omega
  have hW : qFm [105, 106, 1007, 1010] M M := qFm.rfl
  have r1 := hC.steps
  have r2 := hC.rg 97 10 (by decide) (by decide)
  show zG n (0, 0) d 226 (0, [.inr (.inr (some 97))], []) M _
  refine zG_wc (c1 := (4, [.inr (.inr (some 97))], [])) 1 hd0 hz zp_225 (qm_225_97 (by first | exact zdk hd rfl | omega) hC    (by omega) (by omega) (by omega)) (by rfl) (fun vr M3 hr => ?_)
  obtain ⟨⟨hCM3, hFM3⟩, x4, rfl, hx4, hpx4_0, hpx4_1, hpx4_2⟩ := hr
  have hWM3 : qFm [105, 106, 1007, 1010] M M3 := hW.tr hFM3 (by decide)
  have r9 := hCM3.steps
  have r10 := hCM3.rg 97 10 (by decide) (by decide)
  show zG n (0, 0) d 226 (4, [.inr (.inr (some 97))], [.inl x4]) M3 _
  refine zG_wf_ne (pc := 4) (n' := 7) (t := 9) (L := [.inr (.inr (some 97))]) (st := []) (x := x4) 0 hd0 hz (by rfl) (fun hb11 => ?_) (fun hb11 => ?_)
  · refine zG_wp (pc := 13) (L := [.inr (.inr (some 97))]) (st := []) 1 hd0 hz zp_222 (qm_222_97 (by first | exact zdk hd rfl | omega) hCM3    (by omega)) (by rfl) (fun x13 hr => ?_)
    obtain ⟨hx13, hpx13_0⟩ := hr
    have ht10 := hpx13_0
    obtain ⟨y10, hy10⟩ : ∃ y : Int, y = x13 := ⟨_, rfl⟩
    rw [← hy10] at ht10
    refine zG_w (c' := (15, [.inr (.inr (some 97))], [.inl 15, .inl x13])) 1 hd0 hz (by rfl) ?_
    have j35 : ∀ (M14 : zM) , (0 ≤ M14 97 10) → (qD M14 = qWt M14 + 1) → (M14 97 7 + M14 97 10 = M 97 7 + M 97 10) → qMI M14 → qFm [105, 106, 1007, 1010] M M14 → zG n (0, 0) d 226 (35, [.inr (.inr (some 97))], []) M14 (fun v M' => (qMI M' ∧ qFm [105, 106, 1007, 1010] M M') ∧ ∃ x : Int, v = some (.inl x) ∧ (0 ≤ x ∧ x ≤ 1) ∧ (0 ≤ M' 97 10) ∧ (qD M' = qWt M' + 1) ∧ (M' 97 7 + M' 97 10 = M 97 7 + M 97 10)) := by
      intro M14 hx0_35 hx1_35 hx2_35 hCM14 hWM14
      have r15 := hCM14.steps
      have r16 := hCM14.rg 97 10 (by decide) (by decide)
      exact zG_wr (r := some (.inl 1)) 1 hd0 hz (by rfl) ⟨⟨hCM14, hWM14⟩, _, rfl, by omega, by omega, by omega, by omega⟩
    refine zG_wi_ne (pc := 15) (n' := 18) (t := 35) (L := [.inr (.inr (some 97))]) (st := []) (x := x13) (y := 15) 0 hd0 hz (by rfl) (fun hb17 => ?_) (fun hb17 => ?_)
    · exact j35 M3 (by omega) (by omega) (by omega) hCM3 hWM3
    · obtain ⟨x18, hx18⟩ : ∃ x : Int, x = w32 ((M3 97 10) - 1) := ⟨_, rfl⟩
      have hx18r : x18 = ((M3 97 10) - 1 + 2147483648) % 4294967296 - 2147483648 := hx18
      refine zG_w (c' := (25, [.inr (.inr (some 97))], [.inl x18, .inr (.inr (some 97))])) 5 hd0 hz (by subst hx18; rfl) ?_
      refine zG_putf (.inl rfl) hd0 hz rfl (by decide) rfl rfl ?_
      obtain ⟨M19, hM19⟩ : ∃ X : zM, X = zput M3 97 10 x18 := ⟨_, rfl⟩
      rw [← hM19]
      have hCM19 : qMI M19 := by rw [hM19]; exact hCM3.put (by decide) (by decide) (by first | exact qMC_97 (by decide) (fun _ => by omega) | (refine ⟨fun _ => ?_, fun _ => ?_, fun h => ⟨fun _ => ?_, fun _ => ?_, fun _ => ?_, fun _ => ?_, fun _ => ?_⟩, fun h => ?_, fun h => ?_⟩ <;> first | omega | exact absurd rfl (by assumption) | (rename_i h9; exact absurd h9 (by decide))))
      have hWM19 : qFm [105, 106, 1007, 1010] M M19 := by rw [hM19]; exact hWM3.put (by decide)
      have e20 : M19 97 7 = M3 97 7 := by rw [hM19]; exact qput_nk (by decide)
      have e21 : qD M19 = qD M3 := by rw [hM19]; exact qD_put (by decide) (by decide)
      have e22 : M19 97 10 = x18 := by rw [hM19]; exact qput_eq
      have ht10b := ht10 (by omega)
      have hpx : x18 = M3 97 10 - 1 := by omega
      have hpop := qWt_pop (y := y10) hM19 hpx (by omega) (by rw [hpx]; exact ht10b.2)
      have hwt := qwt_is y10
      have hnn : 0 ≤ qWt M19 := qWs_nn _ _
      show zG n (0, 0) d 226 (28, [.inr (.inr (some 97))], []) M19 _
      refine zG_wc (c1 := (35, [.inr (.inr (some 97))], [])) 3 hd0 hz zp_220 (qx_emits (by first | exact zdk hd rfl | omega) hCM19   15 (by first | decide | omega) 0 (by first | decide | omega) (by omega) (by omega) (by omega)) (by rfl) (fun vr M23 hr => ?_)
      obtain ⟨⟨hCM23, hFM23⟩, rfl, hpx24_0, hpx24_1⟩ := hr
      have hWM23 : qFm [105, 106, 1007, 1010] M M23 := hWM19.tr hFM23 (by decide)
      have e27 : M23 97 10 = M19 97 10 := hFM23 97 10 (by decide)
      have e28 : qWt M23 = qWt M19 := qWt_fr hFM23 (by decide) (by decide)
      have r29 := hCM23.steps
      show zG n (0, 0) d 226 (35, [.inr (.inr (some 97))], []) M23 _
      exact j35 M23 (by omega) (by omega) (by omega) hCM23 hWM23
  · exact zG_wr (r := some (.inl 0)) 1 hd0 hz (by rfl) ⟨⟨hCM3, hWM3⟩, _, rfl, by omega, by omega, by omega, by omega⟩
theorem qm_228_97 {n d : Nat} {M : zM} (hd : 5 ≤ d) (hC : qMI M)  (a1 : Int) (ha1 : 5 ≤ a1 ∧ a1 ≤ 17) (hp0 : a1 ≠ 14) (hp1 : 0 ≤ M 97 10) (hp2 : qD M = qWt M + 1) (hp3 : M 97 7 + M 97 10 ≤ 79) : qOkN n d 228 [.inr (.inr (some 97)), .inl a1] 3 [105, 106, 107, 1007, 1010] M (fun v M' => ∃ x : Int, v = some (.inl x) ∧ (0 ≤ x ∧ x ≤ 1) ∧ (0 ≤ M' 97 10) ∧ (M' 97 7 + M' 97 10 ≤ M 97 7 + M 97 10 + 1) ∧ (x = 1 → qD M' = qWt M')) := by
  have hz := zp_228
  have hd0 : 0 < d := by omega
  have hW : qFm [105, 106, 107, 1007, 1010] M M := qFm.rfl
  have r1 := hC.steps
  have r2 := hC.rg 97 10 (by decide) (by decide)
  show zG n (0, 0) d 228 (0, [.inr (.inr (some 97)), .inl a1, zN], []) M _
  refine zG_wi_ne (pc := 3) (n' := 6) (t := 30) (L := [.inr (.inr (some 97)), .inl a1, zN]) (st := []) (x := a1) (y := 16) 2 hd0 hz (by rfl) (fun hb3 => ?_) (fun hb3 => ?_)
  · refine zG_wi_ne (pc := 33) (n' := 36) (t := 67) (L := [.inr (.inr (some 97)), .inl a1, zN]) (st := []) (x := a1) (y := 17) 2 hd0 hz (by rfl) (fun hb4 => ?_) (fun hb4 => ?_)
    · refine zG_wi_ne (pc := 70) (n' := 73) (t := 90) (L := [.inr (.inr (some 97)), .inl a1, zN]) (st := []) (x := a1) (y := 15) 2 hd0 hz (by rfl) (fun hb5 => ?_) (fun hb5 => ?_)
      · refine zG_wp (pc := 94) (L := [.inr (.inr (some 97)), .inl a1, zN]) (st := []) 1 hd0 hz zp_221 (qx_holds (by first | exact zdk hd rfl | omega) hC   a1 (by first | with_reducible exact ha1 | omega) ) (by rfl) (fun x7 hx7 => ?_)
        refine zG_w (c' := (97, [.inr (.inr (some 97)), .inl a1, .inl x7], [.inl 5, .inl x7])) 3 hd0 hz (by rfl) ?_
        have j119 : ∀ (M8 : zM) , (0 ≤ M8 97 10) → (qD M8 = qWt M8 + 1) → (M8 97 7 + M8 97 10 = M 97 7 + M 97 10) → qMI M8 → qFm [105, 106, 107, 1007, 1010] M M8 → zG n (0, 0) d 228 (119, [.inr (.inr (some 97)), .inl a1, .inl x7], []) M8 (fun v M' => (qMI M' ∧ qFm [105, 106, 107, 1007, 1010] M M') ∧ ∃ x : Int, v = some (.inl x) ∧ (0 ≤ x ∧ x ≤ 1) ∧ (0 ≤ M' 97 10) ∧ (M' 97 7 + M' 97 10 ≤ M 97 7 + M 97 10 + 1) ∧ (x = 1 → qD M' = qWt M')) := by
          intro M8 hx0_119 hx1_119 hx2_119 hCM8 hWM8
          have r9 := hCM8.steps
          have r10 := hCM8.rg 97 10 (by decide) (by decide)
          refine zG_wc (c1 := (124, [.inr (.inr (some 97)), .inl a1, .inl x7], [])) 2 hd0 hz zp_224 (qm_224_97 (by first | exact zdk hd rfl | omega) hCM8   x7 (by omega) (by omega) (by omega) (by omega)) (by rfl) (fun vr M11 hr => ?_)
          obtain ⟨⟨hCM11, hFM11⟩, rfl, hpx12_0, hpx12_1, hpx12_2⟩ := hr
          have hWM11 : qFm [105, 106, 107, 1007, 1010] M M11 := hWM8.tr hFM11 (by decide)
          have r17 := hCM11.steps
          have r18 := hCM11.rg 97 10 (by decide) (by decide)
          show zG n (0, 0) d 228 (124, [.inr (.inr (some 97)), .inl a1, .inl x7], []) M11 _
          refine zG_wc (c1 := (129, [.inr (.inr (some 97)), .inl a1, .inl x7], [])) 2 hd0 hz zp_223 (qx_waitsWith (by first | exact zdk hd rfl | omega) hCM11   a1 (by first | with_reducible exact ha1 | omega) (by omega)) (by rfl) (fun vr M19 hr => ?_)
          obtain ⟨⟨hCM19, hFM19⟩, rfl, hpx20_0, hpx20_1, hpx20_2⟩ := hr
          have hWM19 : qFm [105, 106, 107, 1007, 1010] M M19 := hWM11.tr hFM19 (by decide)
          have e21 : M19 97 7 = M11 97 7 := hFM19 97 7 (by decide)
          have e23 : qD M19 = qD M11 := qD_fr hFM19 (by decide) (by decide)
          have r25 := hCM19.rg 97 10 (by decide) (by decide)
          show zG n (0, 0) d 228 (129, [.inr (.inr (some 97)), .inl a1, .inl x7], []) M19 _
          exact zG_wr (r := some (.inl 1)) 1 hd0 hz (by rfl) ⟨⟨hCM19, hWM19⟩, _, rfl, by omega, by omega, by omega, by omega⟩
        refine zG_wi_ne (pc := 97) (n' := 100) (t := 119) (L := [.inr (.inr (some 97)), .inl a1, .inl x7]) (st := []) (x := x7) (y := 5) 0 hd0 hz (by rfl) (fun hb26 => ?_) (fun hb26 => ?_)
        · exact j119 M (by omega) (by omega) (by omega) hC hW
        · refine zG_wc (c1 := (106, [.inr (.inr (some 97)), .inl a1, .inl x7], [])) 2 hd0 hz zp_224 (qm_224_97 (by first | exact zdk hd rfl | omega) hC   6 (by first | decide | omega) (by omega) (by omega) (by omega)) (by rfl) (fun vr M27 hr => ?_)
          obtain ⟨⟨hCM27, hFM27⟩, rfl, hpx28_0, hpx28_1, hpx28_2⟩ := hr
          have hWM27 : qFm [105, 106, 107, 1007, 1010] M M27 := hW.tr hFM27 (by decide)
          have r33 := hCM27.steps
          have r34 := hCM27.rg 97 10 (by decide) (by decide)
          show zG n (0, 0) d 228 (106, [.inr (.inr (some 97)), .inl a1, .inl x7], []) M27 _
          refine zG_wp (pc := 110) (L := [.inr (.inr (some 97)), .inl a1, .inl x7]) (st := []) 1 hd0 hz zp_222 (qm_222_97 (by first | exact zdk hd rfl | omega) hCM27    (by omega)) (by rfl) (fun x36 hr => ?_)
          obtain ⟨hx36, hpx36_0⟩ := hr
          refine zG_wp (pc := 113) (L := [.inr (.inr (some 97)), .inl a1, .inl x7]) (st := []) 0 hd0 hz zp_221 (qx_holds (by first | exact zdk hd rfl | omega) hCM27   x36 (by omega) ) (by rfl) (fun x38 hx38 => ?_)
          refine zG_wi_ne (pc := 114) (n' := 117) (t := 119) (L := [.inr (.inr (some 97)), .inl a1, .inl x7]) (st := []) (x := x38) (y := 5) 1 hd0 hz (by rfl) (fun hb39 => ?_) (fun hb39 => ?_)
          · exact j119 M27 (by omega) (by omega) (by omega) hCM27 hWM27
          · exact zG_wr (r := some (.inl 0)) 1 hd0 hz (by rfl) ⟨⟨hCM27, hWM27⟩, _, rfl, by omega, by omega, by omega, by omega⟩
      · refine zG_wc (c1 := (77, [.inr (.inr (some 97)), .inl a1, zN], [])) 1 hd0 hz zp_226 (qm_226_97 (by first | exact zdk hd rfl | omega) hC    (by omega) (by omega) (by omega)) (by rfl) (fun vr M40 hr => ?_)
        obtain ⟨⟨hCM40, hFM40⟩, x41, rfl, hx41, hpx41_0, hpx41_1, hpx41_2⟩ := hr
        have hWM40 : qFm [105, 106, 107, 1007, 1010] M M40 := hW.tr hFM40 (by decide)
        have r46 := hCM40.steps
        have r47 := hCM40.rg 97 10 (by decide) (by decide)
        show zG n (0, 0) d 228 (77, [.inr (.inr (some 97)), .inl a1, zN], [.inl x41]) M40 _
        refine zG_wf_ne (pc := 77) (n' := 80) (t := 82) (L := [.inr (.inr (some 97)), .inl a1, zN]) (st := []) (x := x41) 0 hd0 hz (by rfl) (fun hb48 => ?_) (fun hb48 => ?_)
        · refine zG_wc (c1 := (88, [.inr (.inr (some 97)), .inl a1, zN], [])) 2 hd0 hz zp_223 (qx_waitsWith (by first | exact zdk hd rfl | omega) hCM40   15 (by first | decide | omega) (by omega)) (by rfl) (fun vr M49 hr => ?_)
          obtain ⟨⟨hCM49, hFM49⟩, rfl, hpx50_0, hpx50_1, hpx50_2⟩ := hr
          have hWM49 : qFm [105, 106, 107, 1007, 1010] M M49 := hWM40.tr hFM49 (by decide)
          have e51 : M49 97 7 = M40 97 7 := hFM49 97 7 (by decide)
          have e53 : qD M49 = qD M40 := qD_fr hFM49 (by decide) (by decide)
          have r55 := hCM49.rg 97 10 (by decide) (by decide)
          show zG n (0, 0) d 228 (88, [.inr (.inr (some 97)), .inl a1, zN], []) M49 _
          exact zG_wr (r := some (.inl 1)) 1 hd0 hz (by rfl) ⟨⟨hCM49, hWM49⟩, _, rfl, by omega, by omega, by omega, by omega⟩
        · exact zG_wr (r := some (.inl 0)) 1 hd0 hz (by rfl) ⟨⟨hCM40, hWM40⟩, _, rfl, by omega, by omega, by omega, by omega⟩
    · refine zG_wc (c1 := (41, [.inr (.inr (some 97)), .inl a1, zN], [])) 2 hd0 hz zp_224 (qm_224_97 (by first | exact zdk hd rfl | omega) hC   3 (by first | decide | omega) (by omega) (by omega) (by omega)) (by rfl) (fun vr M56 hr => ?_)
      obtain ⟨⟨hCM56, hFM56⟩, rfl, hpx57_0, hpx57_1, hpx57_2⟩ := hr
      have hWM56 : qFm [105, 106, 107, 1007, 1010] M M56 := hW.tr hFM56 (by decide)
      have r62 := hCM56.steps
      have r63 := hCM56.rg 97 10 (by decide) (by decide)
      show zG n (0, 0) d 228 (41, [.inr (.inr (some 97)), .inl a1, zN], []) M56 _
      refine zG_wp (pc := 45) (L := [.inr (.inr (some 97)), .inl a1, zN]) (st := []) 1 hd0 hz zp_222 (qm_222_97 (by first | exact zdk hd rfl | omega) hCM56    (by omega)) (by rfl) (fun x65 hr => ?_)
      obtain ⟨hx65, hpx65_0⟩ := hr
      have ht41 := hpx65_0
      obtain ⟨y41, hy41⟩ : ∃ y : Int, y = x65 := ⟨_, rfl⟩
      rw [← hy41] at ht41
      refine zG_wi_eq (pc := 47) (n' := 50) (t := 52) (L := [.inr (.inr (some 97)), .inl a1, zN]) (st := []) (x := x65) (y := 16) 1 hd0 hz (by rfl) (fun hb66 => ?_) (fun hb66 => ?_)
      · obtain ⟨x67, hx67⟩ : ∃ x : Int, x = w32 ((M56 97 10) - 1) := ⟨_, rfl⟩
        have hx67r : x67 = ((M56 97 10) - 1 + 2147483648) % 4294967296 - 2147483648 := hx67
        refine zG_w (c' := (64, [.inr (.inr (some 97)), .inl a1, zN], [.inl 17, .inl x67, .inr (.inr (some 107))])) 7 hd0 hz (by subst hx67; rfl) ?_
        refine zG_iast hd0 hz rfl rfl (by omega) ?_
        obtain ⟨M68, hM68⟩ : ∃ X : zM, X = zput M56 107 (x67 : Int).toNat 17 := ⟨_, rfl⟩
        rw [← hM68]
        have hCM68 : qMI M68 := by rw [hM68]; exact hCM56.put (by decide) (qCd_a (by decide) (by decide)) (by first | exact qMC_ar (by decide) (fun _ => by omega) | (refine ⟨fun h => ?_, fun _ => ?_, fun h => ?_, fun h => ?_, fun h => ?_⟩ <;> first | omega | exact absurd h (by decide)))
        have hWM68 : qFm [105, 106, 107, 1007, 1010] M M68 := by rw [hM68]; exact hWM56.pa (by decide) (by decide)
        have e69 : M68 97 7 = M56 97 7 := by rw [hM68]; exact qput_ne (by decide)
        have e70 : M68 97 10 = M56 97 10 := by rw [hM68]; exact qput_ne (by decide)
        have e71 : qD M68 = qD M56 := by rw [hM68]; exact qD_pa (by decide) (by decide)
        have ht41b := ht41 (by omega)
        have htp := qWt_top (y := y41) hM68 (by omega) (by omega) (by rw [show x67 = M56 97 10 - 1 by omega]; exact ht41b.2)
        have hwt := qwt_is y41
        have hwt2 := qwt_is 17
        show zG n (0, 0) d 228 (65, [.inr (.inr (some 97)), .inl a1, zN], []) M68 _
        exact zG_wr (r := some (.inl 1)) 1 hd0 hz (by rfl) ⟨⟨hCM68, hWM68⟩, _, rfl, by omega, by omega, by omega, by omega⟩
      · exact zG_wr (r := some (.inl 0)) 1 hd0 hz (by rfl) ⟨⟨hCM56, hWM56⟩, _, rfl, by omega, by omega, by omega, by omega⟩
  · refine zG_wc (c1 := (11, [.inr (.inr (some 97)), .inl a1, zN], [])) 2 hd0 hz zp_224 (qm_224_97 (by first | exact zdk hd rfl | omega) hC   3 (by first | decide | omega) (by omega) (by omega) (by omega)) (by rfl) (fun vr M72 hr => ?_)
    obtain ⟨⟨hCM72, hFM72⟩, rfl, hpx73_0, hpx73_1, hpx73_2⟩ := hr
    have hWM72 : qFm [105, 106, 107, 1007, 1010] M M72 := hW.tr hFM72 (by decide)
    have r78 := hCM72.steps
    have r79 := hCM72.rg 97 10 (by decide) (by decide)
    show zG n (0, 0) d 228 (11, [.inr (.inr (some 97)), .inl a1, zN], []) M72 _
    refine zG_wp (pc := 15) (L := [.inr (.inr (some 97)), .inl a1, zN]) (st := []) 1 hd0 hz zp_222 (qm_222_97 (by first | exact zdk hd rfl | omega) hCM72    (by omega)) (by rfl) (fun x81 hr => ?_)
    obtain ⟨hx81, hpx81_0⟩ := hr
    refine zG_wi_ne (pc := 17) (n' := 20) (t := 22) (L := [.inr (.inr (some 97)), .inl a1, zN]) (st := []) (x := x81) (y := 16) 1 hd0 hz (by rfl) (fun hb82 => ?_) (fun hb82 => ?_)
    · refine zG_wc (c1 := (28, [.inr (.inr (some 97)), .inl a1, zN], [])) 2 hd0 hz zp_223 (qx_waitsWith (by first | exact zdk hd rfl | omega) hCM72   16 (by first | decide | omega) (by omega)) (by rfl) (fun vr M83 hr => ?_)
      obtain ⟨⟨hCM83, hFM83⟩, rfl, hpx84_0, hpx84_1, hpx84_2⟩ := hr
      have hWM83 : qFm [105, 106, 107, 1007, 1010] M M83 := hWM72.tr hFM83 (by decide)
      have e85 : M83 97 7 = M72 97 7 := hFM83 97 7 (by decide)
      have e87 : qD M83 = qD M72 := qD_fr hFM83 (by decide) (by decide)
      have r89 := hCM83.rg 97 10 (by decide) (by decide)
      show zG n (0, 0) d 228 (28, [.inr (.inr (some 97)), .inl a1, zN], []) M83 _
      exact zG_wr (r := some (.inl 1)) 1 hd0 hz (by rfl) ⟨⟨hCM83, hWM83⟩, _, rfl, by omega, by omega, by omega, by omega⟩
    · exact zG_wr (r := some (.inl 0)) 1 hd0 hz (by rfl) ⟨⟨hCM72, hWM72⟩, _, rfl, by omega, by omega, by omega, by omega⟩
theorem qm_229_97 {n d : Nat} {M : zM} (hd : 2 ≤ d) (hC : qMI M)  (a1 : Int) (ha1 : 0 ≤ a1 ∧ a1 ≤ 5583) (a2 : Int) (ha2 : 0 ≤ a2 ∧ a2 ≤ 80) (a3 : Int) (ha3 : 0 ≤ a3 ∧ a3 ≤ 80) : qOkN n d 229 [.inr (.inr (some 97)), .inl a1, .inl a2, .inl a3] 7 [1013] M (fun v M' => ∃ x : Int, v = some (.inr (.inl x)) ∧ (M' 97 13 ≤ a3 ∨ M' 97 13 = a2) ∧ (a2 ≤ M' 97 13) ∧ (97 ≤ M 98 (a1 + 1 + a2).toNat → M 98 (a1 + 1 + a2).toNat ≤ 122 → a2 < a3 → a2 < M' 97 13)) := by
  have hz := zp_229
  have hd0 : 0 < d := by omega
  have hW : qFm [1013] M M := qFm.rfl
  show zG n (0, 0) d 229 (0, [.inr (.inr (some 97)), .inl a1, .inl a2, .inl a3, zN, zN, zN], []) M _
  refine zG_w (c' := (6, [.inr (.inr (some 97)), .inl a1, .inl a2, .inl a3, .inr (.inl (0)), zN, .inl a2], [])) 4 hd0 hz (by rfl) ?_
  have j6 : ∀ (N : Nat) (v1 v2 : Int) , (a3 - v2 : Int).toNat < N → 0 ≤ v2 ∧ v2 ≤ 80 → (a2 ≤ v2) → (v2 ≤ a3 ∨ v2 = a2) → zG n (0, 0) d 229 (6, [.inr (.inr (some 97)), .inl a1, .inl a2, .inl a3, .inr (.inl (v1)), zN, .inl v2], []) M (fun v M' => (qMI M' ∧ qFm [1013] M M') ∧ ∃ x : Int, v = some (.inr (.inl x)) ∧ (M' 97 13 ≤ a3 ∨ M' 97 13 = a2) ∧ (a2 ≤ M' 97 13) ∧ (97 ≤ M 98 (a1 + 1 + a2).toNat → M 98 (a1 + 1 + a2).toNat ≤ 122 → a2 < a3 → a2 < M' 97 13)) := by
    intro N
    induction N with
    | zero => intro v1 v2 hN hv2 hx0_6 hx1_6; exact absurd hN (Nat.not_lt_zero _)
    | succ N ih6 =>
      intro v1 v2 hN hv2 hx0_6 hx1_6
      replace hN : a3 - v2 < (N : Int) + 1 := by omega
      refine zG_w (c' := (9, [.inr (.inr (some 97)), .inl a1, .inl a2, .inl a3, .inr (.inl (v1)), zN, .inl v2], [.inl a3, .inl v2])) 2 hd0 hz (by rfl) ?_
      have j79 : (a2 ≤ v2) → (v2 ≤ a3 ∨ v2 = a2) → (97 ≤ M 98 (a1 + 1 + a2).toNat → M 98 (a1 + 1 + a2).toNat ≤ 122 → a2 < a3 → a2 < v2) → zG n (0, 0) d 229 (79, [.inr (.inr (some 97)), .inl a1, .inl a2, .inl a3, .inr (.inl (v1)), zN, .inl v2], []) M (fun v M' => (qMI M' ∧ qFm [1013] M M') ∧ ∃ x : Int, v = some (.inr (.inl x)) ∧ (M' 97 13 ≤ a3 ∨ M' 97 13 = a2) ∧ (a2 ≤ M' 97 13) ∧ (97 ≤ M 98 (a1 + 1 + a2).toNat → M 98 (a1 + 1 + a2).toNat ≤ 122 → a2 < a3 → a2 < M' 97 13)) := by
        intro hx0_79 hx1_79 hx2_79
        refine zG_w (c' := (82, [.inr (.inr (some 97)), .inl a1, .inl a2, .inl a3, .inr (.inl (v1)), zN, .inl v2], [.inl v2, .inr (.inr (some 97))])) 2 hd0 hz (by rfl) ?_
        refine zG_putf (.inl rfl) hd0 hz rfl (by decide) rfl rfl ?_
        obtain ⟨M3, hM3⟩ : ∃ X : zM, X = zput M 97 13 v2 := ⟨_, rfl⟩
        rw [← hM3]
        have hCM3 : qMI M3 := by rw [hM3]; exact hC.put (by decide) (by decide) (by first | exact qMC_97 (by decide) (fun _ => by omega) | (refine ⟨fun _ => ?_, fun _ => ?_, fun h => ⟨fun _ => ?_, fun _ => ?_, fun _ => ?_, fun _ => ?_, fun _ => ?_⟩, fun h => ?_, fun h => ?_⟩ <;> first | omega | exact absurd rfl (by assumption) | (rename_i h9; exact absurd h9 (by decide))))
        have hWM3 : qFm [1013] M M3 := by rw [hM3]; exact hW.put (by decide)
        have e4 : M3 97 13 = v2 := by rw [hM3]; exact qput_eq
        show zG n (0, 0) d 229 (85, [.inr (.inr (some 97)), .inl a1, .inl a2, .inl a3, .inr (.inl (v1)), zN, .inl v2], []) M3 _
        obtain ⟨x5, hx5⟩ : ∃ x : Int, x = w32 (v2 - a2) := ⟨_, rfl⟩
        have hx5e : x5 = v2 - a2 := by rw [hx5]; exact w32_id (by omega)
        refine zG_w (c' := (91, [.inr (.inr (some 97)), .inl a1, .inl a2, .inl a3, .inr (.inl (v1)), zN, .inl v2], [.inl 7, .inl x5])) 4 hd0 hz (by subst hx5; rfl) ?_
        have j100 : ∀ (v6 : Int) , zG n (0, 0) d 229 (100, [.inr (.inr (some 97)), .inl a1, .inl a2, .inl a3, .inr (.inl (v1)), zN, .inl v2], [.inr (.inl (v6))]) M3 (fun v M' => (qMI M' ∧ qFm [1013] M M') ∧ ∃ x : Int, v = some (.inr (.inl x)) ∧ (M' 97 13 ≤ a3 ∨ M' 97 13 = a2) ∧ (a2 ≤ M' 97 13) ∧ (97 ≤ M 98 (a1 + 1 + a2).toNat → M 98 (a1 + 1 + a2).toNat ≤ 122 → a2 < a3 → a2 < M' 97 13)) := by
          intro v6
          exact zG_wr (r := some (.inr (.inl (v6)))) 0 hd0 hz (by rfl) ⟨⟨hCM3, hWM3⟩, _, rfl, by omega, by omega, by omega⟩
        refine zG_wi_le (pc := 91) (n' := 94) (t := 98) (L := [.inr (.inr (some 97)), .inl a1, .inl a2, .inl a3, .inr (.inl (v1)), zN, .inl v2]) (st := []) (x := x5) (y := 7) 0 hd0 hz (by rfl) (fun hb7 => ?_) (fun hb7 => ?_)
        · refine zG_w (c' := (100, [.inr (.inr (some 97)), .inl a1, .inl a2, .inl a3, .inr (.inl (v1)), zN, .inl v2], [.inr (.inl (v1))])) 1 hd0 hz (by rfl) ?_
          exact j100 v1
        · refine zG_w (c' := (100, [.inr (.inr (some 97)), .inl a1, .inl a2, .inl a3, .inr (.inl (v1)), zN, .inl v2], [.inr (.inl (0))])) 2 hd0 hz (by rfl) ?_
          exact j100 0
      refine zG_wi_ge (pc := 9) (n' := 12) (t := 79) (L := [.inr (.inr (some 97)), .inl a1, .inl a2, .inl a3, .inr (.inl (v1)), zN, .inl v2]) (st := []) (x := v2) (y := a3) 0 hd0 hz (by rfl) (fun hb8 => ?_) (fun hb8 => ?_)
      · exact j79 (by omega) (by omega) (by omega)
      · obtain ⟨x9, hx9⟩ : ∃ x : Int, x = w32 (a1 + 1) := ⟨_, rfl⟩
        have hx9e : x9 = a1 + 1 := by rw [hx9]; exact w32_id (by omega)
        obtain ⟨x10, hx10⟩ : ∃ x : Int, x = w32 (x9 + v2) := ⟨_, rfl⟩
        have hx10e : x10 = x9 + v2 := by rw [hx10]; exact w32_id (by omega)
        refine zG_w (c' := (22, [.inr (.inr (some 97)), .inl a1, .inl a2, .inl a3, .inr (.inl (v1)), zN, .inl v2], [.inl x10, .inr (.inr (some 98))])) 7 hd0 hz (by subst hx10; subst hx9; rfl) ?_
        refine zG_iald hd0 hz rfl rfl (.inl rfl) (by omega) ?_
        obtain ⟨x11, hx11⟩ : ∃ x : Int, x = M 98 (x10 : Int).toNat := ⟨_, rfl⟩
        rw [← hx11]
        have hx11r : qin x11 := by rw [hx11]; exact hC.sin _
        have hcg : v2 = a2 → x11 = M 98 (a1 + 1 + a2).toNat := fun h9 => by rw [hx11, show x10 = a1 + 1 + a2 by omega]
        show zG n (0, 0) d 229 (23, [.inr (.inr (some 97)), .inl a1, .inl a2, .inl a3, .inr (.inl (v1)), zN, .inl v2], [.inl x11]) M _
        refine zG_wp (pc := 30) (L := [.inr (.inr (some 97)), .inl a1, .inl a2, .inl a3, .inr (.inl (v1)), zN, .inl v2]) (st := []) 2 hd0 hz zp_180 (qx_in (by first | exact zdk hd rfl | omega) hC   x11 (by omega) 97 (by first | decide | omega) 122 (by first | decide | omega) ) (by rfl) (fun x13 hx13 => ?_)
        refine zG_wf_eq (pc := 30) (n' := 33) (t := 79) (L := [.inr (.inr (some 97)), .inl a1, .inl a2, .inl a3, .inr (.inl (v1)), zN, .inl v2]) (st := []) (x := x13) 0 hd0 hz (by rfl) (fun hb14 => ?_) (fun hb14 => ?_)
        · exact j79 (by omega) (by omega) (by omega)
        · have hcx13 := hx13.2.2.mp (by omega)
          clear hx13 hb14
          obtain ⟨x15, hx15⟩ : ∃ x : Int, x = w32 (v2 - a2) := ⟨_, rfl⟩
          have hx15e : x15 = v2 - a2 := by rw [hx15]; exact w32_id (by omega)
          refine zG_w (c' := (39, [.inr (.inr (some 97)), .inl a1, .inl a2, .inl a3, .inr (.inl (v1)), zN, .inl v2], [.inl 7, .inl x15])) 4 hd0 hz (by subst hx15; rfl) ?_
          have j71 : ∀ (v16 : Int) , zG n (0, 0) d 229 (71, [.inr (.inr (some 97)), .inl a1, .inl a2, .inl a3, .inr (.inl (v1)), zN, .inl v2], [.inr (.inl (v16))]) M (fun v M' => (qMI M' ∧ qFm [1013] M M') ∧ ∃ x : Int, v = some (.inr (.inl x)) ∧ (M' 97 13 ≤ a3 ∨ M' 97 13 = a2) ∧ (a2 ≤ M' 97 13) ∧ (97 ≤ M 98 (a1 + 1 + a2).toNat → M 98 (a1 + 1 + a2).toNat ≤ 122 → a2 < a3 → a2 < M' 97 13)) := by
            intro v16
            obtain ⟨x17, hx17⟩ : ∃ x : Int, x = w32 (v2 + 1) := ⟨_, rfl⟩
            have hx17e : x17 = v2 + 1 := by rw [hx17]; exact w32_id (by omega)
            refine zG_w (c' := (6, [.inr (.inr (some 97)), .inl a1, .inl a2, .inl a3, .inr (.inl (v16)), zN, .inl x17], [])) 3 hd0 hz (by subst hx17; rfl) ?_
            exact ih6 v16 x17 (by omega) (by omega) (by omega) (by omega)
          refine zG_wi_ge (pc := 39) (n' := 42) (t := 70) (L := [.inr (.inr (some 97)), .inl a1, .inl a2, .inl a3, .inr (.inl (v1)), zN, .inl v2]) (st := []) (x := x15) (y := 7) 0 hd0 hz (by rfl) (fun hb18 => ?_) (fun hb18 => ?_)
          · refine zG_w (c' := (71, [.inr (.inr (some 97)), .inl a1, .inl a2, .inl a3, .inr (.inl (v1)), zN, .inl v2], [.inr (.inl (0))])) 1 hd0 hz (by rfl) ?_
            exact j71 0
          · obtain ⟨x19, hx19⟩ : ∃ x : Int, x = w64 (27 * v1) := ⟨_, rfl⟩
            obtain ⟨x20, hx20⟩ : ∃ x : Int, x = w32 (a1 + 1) := ⟨_, rfl⟩
            have hx20e : x20 = a1 + 1 := by rw [hx20]; exact w32_id (by omega)
            obtain ⟨x21, hx21⟩ : ∃ x : Int, x = w32 (x20 + v2) := ⟨_, rfl⟩
            have hx21e : x21 = x20 + v2 := by rw [hx21]; exact w32_id (by omega)
            refine zG_w (c' := (58, [.inr (.inr (some 97)), .inl a1, .inl a2, .inl a3, .inr (.inl (v1)), zN, .inl v2], [.inl x21, .inr (.inr (some 98)), .inr (.inl (x19))])) 10 hd0 hz (by subst hx21; subst hx20; subst hx19; rfl) ?_
            refine zG_iald hd0 hz rfl rfl (.inl rfl) (by omega) ?_
            obtain ⟨x22, hx22⟩ : ∃ x : Int, x = M 98 (x21 : Int).toNat := ⟨_, rfl⟩
            rw [← hx22]
            have hx22r : qin x22 := by rw [hx22]; exact hC.sin _
            show zG n (0, 0) d 229 (59, [.inr (.inr (some 97)), .inl a1, .inl a2, .inl a3, .inr (.inl (v1)), zN, .inl v2], [.inl x22, .inr (.inl (x19))]) M _
            obtain ⟨x23, hx23⟩ : ∃ x : Int, x = w64 (x19 + x22) := ⟨_, rfl⟩
            obtain ⟨x24, hx24⟩ : ∃ x : Int, x = w64 (x23 - 97) := ⟨_, rfl⟩
            obtain ⟨x25, hx25⟩ : ∃ x : Int, x = w64 (x24 + 1) := ⟨_, rfl⟩
            refine zG_w (c' := (71, [.inr (.inr (some 97)), .inl a1, .inl a2, .inl a3, .inr (.inl (v1)), zN, .inl v2], [.inr (.inl (x25))])) 7 hd0 hz (by subst hx25; subst hx24; subst hx23; rfl) ?_
            exact j71 x25
  exact j6 ((a3 - a2 : Int).toNat + 1) 0 a2 (by first | with_reducible exact ha2 | omega) (by omega) (by omega) (by omega)
theorem qm_230 {n d : Nat} {M : zM} (hd : 1 ≤ d) (hC : qMI M)  (a0 : Int) : qOkP n d 230 [.inr (.inl (a0))] 2 M (fun v => ∃ x : Int, v = some (.inl x) ∧ ((-1) ≤ x ∧ x ≤ 14)) := by
  have hz := zp_230
  have hd0 : 0 < d := by omega
  show zG n (0, 0) d 230 (0, [.inr (.inl (a0)), zN], []) M _
  refine zG_w (c' := (4, [.inr (.inl (a0)), zN], [.inr (.inl (257105)), .inr (.inl (a0))])) 2 hd0 hz (by rfl) ?_
  refine zG_lc_ne hd0 hz rfl rfl (fun hb4 => ?_) (fun hb4 => ?_)
  · refine zG_w (c' := (14, [.inr (.inl (a0)), zN], [.inr (.inl (10989829)), .inr (.inl (a0))])) 2 hd0 hz (by rfl) ?_
    refine zG_lc_ne hd0 hz rfl rfl (fun hb14 => ?_) (fun hb14 => ?_)
    · refine zG_w (c' := (24, [.inr (.inl (a0)), zN], [.inr (.inl (2283497869)), .inr (.inl (a0))])) 2 hd0 hz (by rfl) ?_
      refine zG_lc_ne hd0 hz rfl rfl (fun hb24 => ?_) (fun hb24 => ?_)
      · refine zG_w (c' := (34, [.inr (.inl (a0)), zN], [.inr (.inl (6476833)), .inr (.inl (a0))])) 2 hd0 hz (by rfl) ?_
        refine zG_lc_ne hd0 hz rfl rfl (fun hb34 => ?_) (fun hb34 => ?_)
        · refine zG_w (c' := (44, [.inr (.inl (a0)), zN], [.inr (.inl (51445319)), .inr (.inl (a0))])) 2 hd0 hz (by rfl) ?_
          refine zG_lc_ne hd0 hz rfl rfl (fun hb44 => ?_) (fun hb44 => ?_)
          · refine zG_w (c' := (54, [.inr (.inl (a0)), zN], [.inr (.inl (52714253)), .inr (.inl (a0))])) 2 hd0 hz (by rfl) ?_
            refine zG_lc_ne hd0 hz rfl rfl (fun hb54 => ?_) (fun hb54 => ?_)
            · refine zG_w (c' := (64, [.inr (.inl (a0)), zN], [.inr (.inl (259565)), .inr (.inl (a0))])) 2 hd0 hz (by rfl) ?_
              refine zG_lc_ne hd0 hz rfl rfl (fun hb64 => ?_) (fun hb64 => ?_)
              · refine zG_w (c' := (75, [.inr (.inl (a0)), zN], [.inr (.inl (230501920)), .inr (.inl (a0))])) 2 hd0 hz (by rfl) ?_
                refine zG_lc_ne hd0 hz rfl rfl (fun hb75 => ?_) (fun hb75 => ?_)
                · refine zG_w (c' := (86, [.inr (.inl (a0)), zN], [.inr (.inl (10631)), .inr (.inl (a0))])) 2 hd0 hz (by rfl) ?_
                  refine zG_lc_ne hd0 hz rfl rfl (fun hb86 => ?_) (fun hb86 => ?_)
                  · refine zG_w (c' := (97, [.inr (.inl (a0)), zN], [.inr (.inl (43544)), .inr (.inl (a0))])) 2 hd0 hz (by rfl) ?_
                    refine zG_lc_ne hd0 hz rfl rfl (fun hb97 => ?_) (fun hb97 => ?_)
                    · refine zG_w (c' := (108, [.inr (.inl (a0)), zN], [.inr (.inl (1111)), .inr (.inl (a0))])) 2 hd0 hz (by rfl) ?_
                      refine zG_lc_ne hd0 hz rfl rfl (fun hb108 => ?_) (fun hb108 => ?_)
                      · refine zG_w (c' := (119, [.inr (.inl (a0)), zN], [.inr (.inl (423)), .inr (.inl (a0))])) 2 hd0 hz (by rfl) ?_
                        refine zG_lc_ne hd0 hz rfl rfl (fun hb119 => ?_) (fun hb119 => ?_)
                        · refine zG_w (c' := (130, [.inr (.inl (a0)), zN], [.inr (.inl (249)), .inr (.inl (a0))])) 2 hd0 hz (by rfl) ?_
                          refine zG_lc_ne hd0 hz rfl rfl (fun hb130 => ?_) (fun hb130 => ?_)
                          · refine zG_w (c' := (141, [.inr (.inl (a0)), zN], [.inr (.inl (107681)), .inr (.inl (a0))])) 2 hd0 hz (by rfl) ?_
                            refine zG_lc_ne hd0 hz rfl rfl (fun hb141 => ?_) (fun hb141 => ?_)
                            · refine zG_w (c' := (152, [.inr (.inl (a0)), zN], [.inr (.inl (309007594)), .inr (.inl (a0))])) 2 hd0 hz (by rfl) ?_
                              refine zG_lc_ne hd0 hz rfl rfl (fun hb152 => ?_) (fun hb152 => ?_)
                              · exact zG_wr (r := some (.inl (-1))) 1 hd0 hz (by rfl) ⟨rfl, _, rfl, by omega⟩
                              · exact zG_wr (r := some (.inl 14)) 1 hd0 hz (by rfl) ⟨rfl, _, rfl, by omega⟩
                            · exact zG_wr (r := some (.inl 13)) 1 hd0 hz (by rfl) ⟨rfl, _, rfl, by omega⟩
                          · exact zG_wr (r := some (.inl 12)) 1 hd0 hz (by rfl) ⟨rfl, _, rfl, by omega⟩
                        · exact zG_wr (r := some (.inl 11)) 1 hd0 hz (by rfl) ⟨rfl, _, rfl, by omega⟩
                      · exact zG_wr (r := some (.inl 10)) 1 hd0 hz (by rfl) ⟨rfl, _, rfl, by omega⟩
                    · exact zG_wr (r := some (.inl 9)) 1 hd0 hz (by rfl) ⟨rfl, _, rfl, by omega⟩
                  · exact zG_wr (r := some (.inl 8)) 1 hd0 hz (by rfl) ⟨rfl, _, rfl, by omega⟩
                · exact zG_wr (r := some (.inl 7)) 1 hd0 hz (by rfl) ⟨rfl, _, rfl, by omega⟩
              · exact zG_wr (r := some (.inl 6)) 1 hd0 hz (by rfl) ⟨rfl, _, rfl, by omega⟩
            · exact zG_wr (r := some (.inl 5)) 1 hd0 hz (by rfl) ⟨rfl, _, rfl, by omega⟩
          · exact zG_wr (r := some (.inl 4)) 1 hd0 hz (by rfl) ⟨rfl, _, rfl, by omega⟩
        · exact zG_wr (r := some (.inl 3)) 1 hd0 hz (by rfl) ⟨rfl, _, rfl, by omega⟩
      · exact zG_wr (r := some (.inl 2)) 1 hd0 hz (by rfl) ⟨rfl, _, rfl, by omega⟩
    · exact zG_wr (r := some (.inl 1)) 1 hd0 hz (by rfl) ⟨rfl, _, rfl, by omega⟩
  · exact zG_wr (r := some (.inl 0)) 1 hd0 hz (by rfl) ⟨rfl, _, rfl, by omega⟩
theorem qm_232_97 {n d : Nat} {M : zM} (hd : 5 ≤ d) (hC : qMI M)   (hp0 : 0 ≤ M 97 10) (hp1 : qD M = qWt M + 1) (hp2 : M 97 7 + M 97 10 ≤ 80) : qOkN n d 232 [.inr (.inr (some 97))] 1 [105, 106, 1007, 1010, 1012] M (fun v M' => ∃ x : Int, v = some (.inl x) ∧ (0 ≤ x ∧ x ≤ 1) ∧ (0 ≤ M' 97 10) ∧ (M' 97 7 + M' 97 10 ≤ M 97 7 + M 97 10) ∧ (x = 0 → qD M' = qWt M' + 1)) := by
  have hz := zp_232
  have hd0 : 0 < d := by omega
  have hW : qFm [105, 106, 1007, 1010, 1012] M M := qFm.rfl
  have r1 := hC.steps
  have r2 := hC.rg 97 10 (by decide) (by decide)
  show zG n (0, 0) d 232 (0, [.inr (.inr (some 97))], []) M _
  refine zG_wc (c1 := (4, [.inr (.inr (some 97))], [])) 1 hd0 hz zp_226 (qm_226_97 (by first | exact zdk hd rfl | omega) hC    (by omega) (by omega) (by omega)) (by rfl) (fun vr M3 hr => ?_)
  obtain ⟨⟨hCM3, hFM3⟩, x4, rfl, hx4, hpx4_0, hpx4_1, hpx4_2⟩ := hr
  have hWM3 : qFm [105, 106, 1007, 1010, 1012] M M3 := hW.tr hFM3 (by decide)
  have r9 := hCM3.steps
  have r10 := hCM3.rg 97 10 (by decide) (by decide)
  show zG n (0, 0) d 232 (4, [.inr (.inr (some 97))], [.inl x4]) M3 _
  have j16 : zG n (0, 0) d 232 (16, [.inr (.inr (some 97))], []) M3 (fun v M' => (qMI M' ∧ qFm [105, 106, 1007, 1010, 1012] M M') ∧ ∃ x : Int, v = some (.inl x) ∧ (0 ≤ x ∧ x ≤ 1) ∧ (0 ≤ M' 97 10) ∧ (M' 97 7 + M' 97 10 ≤ M 97 7 + M 97 10) ∧ (x = 0 → qD M' = qWt M' + 1)) := by
    exact zG_wr (r := some (.inl 1)) 1 hd0 hz (by rfl) ⟨⟨hCM3, hWM3⟩, _, rfl, by omega, by omega, by omega, by omega⟩
  refine zG_wf_eq (pc := 4) (n' := 7) (t := 16) (L := [.inr (.inr (some 97))]) (st := []) (x := x4) 0 hd0 hz (by rfl) (fun hb11 => ?_) (fun hb11 => ?_)
  · exact j16
  · refine zG_wp (pc := 11) (L := [.inr (.inr (some 97))]) (st := []) 1 hd0 hz zp_222 (qm_222_97 (by first | exact zdk hd rfl | omega) hCM3    (by omega)) (by rfl) (fun x13 hr => ?_)
    obtain ⟨hx13, hpx13_0⟩ := hr
    have ht8 := hpx13_0
    obtain ⟨y8, hy8⟩ : ∃ y : Int, y = x13 := ⟨_, rfl⟩
    rw [← hy8] at ht8
    refine zG_wi_eq (pc := 13) (n' := 16) (t := 18) (L := [.inr (.inr (some 97))]) (st := []) (x := x13) (y := 18) 1 hd0 hz (by rfl) (fun hb14 => ?_) (fun hb14 => ?_)
    · obtain ⟨x15, hx15⟩ : ∃ x : Int, x = w32 ((M3 97 10) - 1) := ⟨_, rfl⟩
      have hx15r : x15 = ((M3 97 10) - 1 + 2147483648) % 4294967296 - 2147483648 := hx15
      refine zG_w (c' := (25, [.inr (.inr (some 97))], [.inl x15, .inr (.inr (some 97))])) 5 hd0 hz (by subst hx15; rfl) ?_
      refine zG_putf (.inl rfl) hd0 hz rfl (by decide) rfl rfl ?_
      obtain ⟨M16, hM16⟩ : ∃ X : zM, X = zput M3 97 10 x15 := ⟨_, rfl⟩
      rw [← hM16]
      have hCM16 : qMI M16 := by rw [hM16]; exact hCM3.put (by decide) (by decide) (by first | exact qMC_97 (by decide) (fun _ => by omega) | (refine ⟨fun _ => ?_, fun _ => ?_, fun h => ⟨fun _ => ?_, fun _ => ?_, fun _ => ?_, fun _ => ?_, fun _ => ?_⟩, fun h => ?_, fun h => ?_⟩ <;> first | omega | exact absurd rfl (by assumption) | (rename_i h9; exact absurd h9 (by decide))))
      have hWM16 : qFm [105, 106, 1007, 1010, 1012] M M16 := by rw [hM16]; exact hWM3.put (by decide)
      have e17 : M16 97 7 = M3 97 7 := by rw [hM16]; exact qput_nk (by decide)
      have e18 : qD M16 = qD M3 := by rw [hM16]; exact qD_put (by decide) (by decide)
      have e19 : M16 97 10 = x15 := by rw [hM16]; exact qput_eq
      have ht8b := ht8 (by omega)
      have hpx : x15 = M3 97 10 - 1 := by omega
      have hpop := qWt_pop (y := y8) hM16 hpx (by omega) (by rw [hpx]; exact ht8b.2)
      have hwt := qwt_is y8
      have hnn : 0 ≤ qWt M16 := qWs_nn _ _
      show zG n (0, 0) d 232 (28, [.inr (.inr (some 97))], []) M16 _
      have r20 := hCM16.rg 97 12 (by decide) (by decide)
      obtain ⟨x21, hx21⟩ : ∃ x : Int, x = w32 ((M16 97 12) - 1) := ⟨_, rfl⟩
      have hx21r : x21 = ((M16 97 12) - 1 + 2147483648) % 4294967296 - 2147483648 := hx21
      refine zG_w (c' := (35, [.inr (.inr (some 97))], [.inl x21, .inr (.inr (some 97))])) 5 hd0 hz (by subst hx21; rfl) ?_
      refine zG_putf (.inl rfl) hd0 hz rfl (by decide) rfl rfl ?_
      obtain ⟨M22, hM22⟩ : ∃ X : zM, X = zput M16 97 12 x21 := ⟨_, rfl⟩
      rw [← hM22]
      have hCM22 : qMI M22 := by rw [hM22]; exact hCM16.put (by decide) (by decide) (by first | exact qMC_97 (by decide) (fun _ => by omega) | (refine ⟨fun _ => ?_, fun _ => ?_, fun h => ⟨fun _ => ?_, fun _ => ?_, fun _ => ?_, fun _ => ?_, fun _ => ?_⟩, fun h => ?_, fun h => ?_⟩ <;> first | omega | exact absurd rfl (by assumption) | (rename_i h9; exact absurd h9 (by decide))))
      have hWM22 : qFm [105, 106, 1007, 1010, 1012] M M22 := by rw [hM22]; exact hWM16.put (by decide)
      have e23 : M22 97 7 = M16 97 7 := by rw [hM22]; exact qput_nk (by decide)
      have e24 : qD M22 = qD M16 := by rw [hM22]; exact qD_put (by decide) (by decide)
      have e25 : M22 97 10 = M16 97 10 := by rw [hM22]; exact qput_nk (by decide)
      have e26 : qWt M22 = qWt M16 := by rw [hM22]; exact qWt_put (by decide) (by decide)
      have e27 : M22 97 12 = x21 := by rw [hM22]; exact qput_eq
      show zG n (0, 0) d 232 (38, [.inr (.inr (some 97))], []) M22 _
      refine zG_wc (c1 := (44, [.inr (.inr (some 97))], [])) 2 hd0 hz zp_224 (qm_224_97 (by first | exact zdk hd rfl | omega) hCM22   8 (by first | decide | omega) (by omega) (by omega) (by omega)) (by rfl) (fun vr M28 hr => ?_)
      obtain ⟨⟨hCM28, hFM28⟩, rfl, hpx29_0, hpx29_1, hpx29_2⟩ := hr
      have hWM28 : qFm [105, 106, 1007, 1010, 1012] M M28 := hWM22.tr hFM28 (by decide)
      have e34 : M28 97 12 = M22 97 12 := hFM28 97 12 (by decide)
      have r35 := hCM28.steps
      have r36 := hCM28.rg 97 10 (by decide) (by decide)
      show zG n (0, 0) d 232 (44, [.inr (.inr (some 97))], []) M28 _
      exact zG_wr (r := some (.inl 0)) 1 hd0 hz (by rfl) ⟨⟨hCM28, hWM28⟩, _, rfl, by omega, by omega, by omega, by omega⟩
    · exact j16
set_option maxRecDepth 100000 in
theorem qm_231_97 {n d : Nat} {M : zM} (hd : 6 ≤ d) (hC : qMI M)  (a1 : Int) (ha1 : 0 ≤ a1 ∧ a1 ≤ 5583) (hp0 : 0 ≤ M 98 a1.toNat ∧ M 98 a1.toNat ≤ 80) : qOkN n d 231 [.inr (.inr (some 97)), .inl a1] 8 [105, 106, 107, 1007, 1010, 1012, 1013] M (fun v M' => ∃ x : Int, v = some (.inl x) ∧ ((-2147483648) ≤ x ∧ x ≤ 2147483647)) := by
  have hz := zp_231
  have hd0 : 0 < d := by omega
  have hW : qFm [105, 106, 107, 1007, 1010, 1012, 1013] M M := qFm.rfl
  show zG n (0, 0) d 231 (0, [.inr (.inr (some 97)), .inl a1, zN, zN, zN, zN, zN, zN], []) M _
  refine zG_w (c' := (2, [.inr (.inr (some 97)), .inl a1, zN, zN, zN, zN, zN, zN], [.inl 0, .inr (.inr (some 97))])) 2 hd0 hz (by rfl) ?_
  refine zG_putf (.inl rfl) hd0 hz rfl (by decide) rfl rfl ?_
  obtain ⟨M1, hM1⟩ : ∃ X : zM, X = zput M 97 7 0 := ⟨_, rfl⟩
  rw [← hM1]
  have hCM1 : qMI M1 := by rw [hM1]; exact hC.zero
  have hWM1 : qFm [105, 106, 107, 1007, 1010, 1012, 1013] M M1 := by rw [hM1]; exact hW.put (by decide)
  have e2 : M1 97 7 = 0 := by rw [hM1]; exact qput_eq
  have hqd : qD M1 = 0 := by unfold qD; rw [hM1, qput_eq]; rfl
  show zG n (0, 0) d 231 (5, [.inr (.inr (some 97)), .inl a1, zN, zN, zN, zN, zN, zN], []) M1 _
  refine zG_w (c' := (7, [.inr (.inr (some 97)), .inl a1, zN, zN, zN, zN, zN, zN], [.inl 0, .inr (.inr (some 97))])) 2 hd0 hz (by rfl) ?_
  refine zG_putf (.inl rfl) hd0 hz rfl (by decide) rfl rfl ?_
  obtain ⟨M3, hM3⟩ : ∃ X : zM, X = zput M1 97 10 0 := ⟨_, rfl⟩
  rw [← hM3]
  have hCM3 : qMI M3 := by rw [hM3]; exact hCM1.put (by decide) (by decide) (by first | exact qMC_97 (by decide) (fun _ => by omega) | (refine ⟨fun _ => ?_, fun _ => ?_, fun h => ⟨fun _ => ?_, fun _ => ?_, fun _ => ?_, fun _ => ?_, fun _ => ?_⟩, fun h => ?_, fun h => ?_⟩ <;> first | omega | exact absurd rfl (by assumption) | (rename_i h9; exact absurd h9 (by decide))))
  have hWM3 : qFm [105, 106, 107, 1007, 1010, 1012, 1013] M M3 := by rw [hM3]; exact hWM1.put (by decide)
  have e4 : M3 97 7 = M1 97 7 := by rw [hM3]; exact qput_nk (by decide)
  have e5 : qD M3 = qD M1 := by rw [hM3]; exact qD_put (by decide) (by decide)
  have e6 : M3 97 10 = 0 := by rw [hM3]; exact qput_eq
  have hqw : qWt M3 = 0 := by unfold qWt; rw [hM3, qput_eq]; rfl
  show zG n (0, 0) d 231 (10, [.inr (.inr (some 97)), .inl a1, zN, zN, zN, zN, zN, zN], []) M3 _
  refine zG_w (c' := (12, [.inr (.inr (some 97)), .inl a1, zN, zN, zN, zN, zN, zN], [.inl 0, .inr (.inr (some 97))])) 2 hd0 hz (by rfl) ?_
  refine zG_putf (.inl rfl) hd0 hz rfl (by decide) rfl rfl ?_
  obtain ⟨M7, hM7⟩ : ∃ X : zM, X = zput M3 97 12 0 := ⟨_, rfl⟩
  rw [← hM7]
  have hCM7 : qMI M7 := by rw [hM7]; exact hCM3.put (by decide) (by decide) (by first | exact qMC_97 (by decide) (fun _ => by omega) | (refine ⟨fun _ => ?_, fun _ => ?_, fun h => ⟨fun _ => ?_, fun _ => ?_, fun _ => ?_, fun _ => ?_, fun _ => ?_⟩, fun h => ?_, fun h => ?_⟩ <;> first | omega | exact absurd rfl (by assumption) | (rename_i h9; exact absurd h9 (by decide))))
  have hWM7 : qFm [105, 106, 107, 1007, 1010, 1012, 1013] M M7 := by rw [hM7]; exact hWM3.put (by decide)
  have e8 : M7 97 7 = M3 97 7 := by rw [hM7]; exact qput_nk (by decide)
  have e9 : qD M7 = qD M3 := by rw [hM7]; exact qD_put (by decide) (by decide)
  have e10 : M7 97 10 = M3 97 10 := by rw [hM7]; exact qput_nk (by decide)
  have e11 : qWt M7 = qWt M3 := by rw [hM7]; exact qWt_put (by decide) (by decide)
  have e12 : M7 97 12 = 0 := by rw [hM7]; exact qput_eq
  show zG n (0, 0) d 231 (15, [.inr (.inr (some 97)), .inl a1, zN, zN, zN, zN, zN, zN], []) M7 _
  refine zG_w (c' := (20, [.inr (.inr (some 97)), .inl a1, zN, zN, zN, zN, zN, zN], [.inl a1, .inr (.inr (some 98))])) 3 hd0 hz (by rfl) ?_
  refine zG_iald hd0 hz rfl rfl (.inl rfl) (by omega) ?_
  obtain ⟨x13, hx13⟩ : ∃ x : Int, x = M7 98 (a1 : Int).toNat := ⟨_, rfl⟩
  rw [← hx13]
  have hx13r : 0 ≤ x13 ∧ x13 ≤ 80 := by rw [hx13]; exact (by have h9 := hWM7.ar 98 (a1).toNat (by decide) (by decide); omega)
  show zG n (0, 0) d 231 (21, [.inr (.inr (some 97)), .inl a1, zN, zN, zN, zN, zN, zN], [.inl x13]) M7 _
  refine zG_w (c' := (27, [.inr (.inr (some 97)), .inl a1, .inl x13, .inl 0, .inl 0, zN, zN, zN], [])) 5 hd0 hz (by rfl) ?_
  have j27 : ∀ (N : Nat) (v14 v15 : Int) (M16 : zM) , (x13 - v15 : Int).toNat < N → 0 ≤ v14 ∧ v14 ≤ 1 → (-2147483648) ≤ v15 ∧ v15 ≤ 2147483647 → (0 ≤ M16 97 10) → (qD M16 = qWt M16 + v14) → (M16 97 7 + M16 97 10 ≤ v15) → (v15 ≤ x13) → qMI M16 → qFm [105, 106, 107, 1007, 1010, 1012, 1013] M M16 → zG n (0, 0) d 231 (27, [.inr (.inr (some 97)), .inl a1, .inl x13, .inl v14, .inl v15, zN, zN, zN], []) M16 (fun v M' => (qMI M' ∧ qFm [105, 106, 107, 1007, 1010, 1012, 1013] M M') ∧ ∃ x : Int, v = some (.inl x) ∧ ((-2147483648) ≤ x ∧ x ≤ 2147483647)) := by
    intro N
    induction N with
    | zero => intro v14 v15 M16 hN hv14 hv15 hx0_27 hx1_27 hx2_27 hx3_27 hCM16 hWM16; exact absurd hN (Nat.not_lt_zero _)
    | succ N ih27 =>
      intro v14 v15 M16 hN hv14 hv15 hx0_27 hx1_27 hx2_27 hx3_27 hCM16 hWM16
      replace hN : x13 - v15 < (N : Int) + 1 := by omega
      have r17 := hCM16.steps
      have r18 := hCM16.rg 97 10 (by decide) (by decide)
      refine zG_wi_ge (pc := 30) (n' := 33) (t := 505) (L := [.inr (.inr (some 97)), .inl a1, .inl x13, .inl v14, .inl v15, zN, zN, zN]) (st := []) (x := v15) (y := x13) 2 hd0 hz (by rfl) (fun hb19 => ?_) (fun hb19 => ?_)
      · refine zG_w (c' := (506, [.inr (.inr (some 97)), .inl a1, .inl x13, .inl v14, .inl v15, zN, zN, zN], [.inl v14])) 1 hd0 hz (by rfl) ?_
        have j533 : ∀ (v20 : Int) (M21 : zM) , (-1) ≤ v20 ∧ v20 ≤ 801 → qMI M21 → qFm [105, 106, 107, 1007, 1010, 1012, 1013] M M21 → zG n (0, 0) d 231 (533, [.inr (.inr (some 97)), .inl a1, .inl x13, .inl v14, .inl v15, zN, zN, zN], [.inl v20]) M21 (fun v M' => (qMI M' ∧ qFm [105, 106, 107, 1007, 1010, 1012, 1013] M M') ∧ ∃ x : Int, v = some (.inl x) ∧ ((-2147483648) ≤ x ∧ x ≤ 2147483647)) := by
          intro v20 M21 hv20 hCM21 hWM21
          exact zG_wr (r := some (.inl v20)) 0 hd0 hz (by rfl) ⟨⟨hCM21, hWM21⟩, _, rfl, by omega⟩
        have j527 : ∀ (M22 : zM) , qMI M22 → qFm [105, 106, 107, 1007, 1010, 1012, 1013] M M22 → zG n (0, 0) d 231 (527, [.inr (.inr (some 97)), .inl a1, .inl x13, .inl v14, .inl v15, zN, zN, zN], []) M22 (fun v M' => (qMI M' ∧ qFm [105, 106, 107, 1007, 1010, 1012, 1013] M M') ∧ ∃ x : Int, v = some (.inl x) ∧ ((-2147483648) ≤ x ∧ x ≤ 2147483647)) := by
          intro M22 hCM22 hWM22
          obtain ⟨x23, hx23⟩ : ∃ x : Int, x = w32 (10 * x13) := ⟨_, rfl⟩
          have hx23e : x23 = 10 * x13 := by rw [hx23]; exact w32_id (by omega)
          obtain ⟨x24, hx24⟩ : ∃ x : Int, x = w32 (x23 + 1) := ⟨_, rfl⟩
          have hx24e : x24 = x23 + 1 := by rw [hx24]; exact w32_id (by omega)
          refine zG_w (c' := (533, [.inr (.inr (some 97)), .inl a1, .inl x13, .inl v14, .inl v15, zN, zN, zN], [.inl x24])) 5 hd0 hz (by subst hx24; subst hx23; rfl) ?_
          exact j533 x24 M22 (by omega) hCM22 hWM22
        refine zG_wf_eq (pc := 506) (n' := 509) (t := 527) (L := [.inr (.inr (some 97)), .inl a1, .inl x13, .inl v14, .inl v15, zN, zN, zN]) (st := []) (x := v14) 0 hd0 hz (by rfl) (fun hb25 => ?_) (fun hb25 => ?_)
        · exact j527 M16 hCM16 hWM16
        · refine zG_wc (c1 := (513, [.inr (.inr (some 97)), .inl a1, .inl x13, .inl v14, .inl v15, zN, zN, zN], [])) 1 hd0 hz zp_226 (qm_226_97 (by first | exact zdk hd rfl | omega) hCM16    (by omega) (by omega) (by omega)) (by rfl) (fun vr M26 hr => ?_)
          obtain ⟨⟨hCM26, hFM26⟩, x27, rfl, hx27, hpx27_0, hpx27_1, hpx27_2⟩ := hr
          have hWM26 : qFm [105, 106, 107, 1007, 1010, 1012, 1013] M M26 := hWM16.tr hFM26 (by decide)
          have r32 := hCM26.steps
          have r33 := hCM26.rg 97 10 (by decide) (by decide)
          show zG n (0, 0) d 231 (513, [.inr (.inr (some 97)), .inl a1, .inl x13, .inl v14, .inl v15, zN, zN, zN], [.inl x27]) M26 _
          refine zG_wf_eq (pc := 513) (n' := 516) (t := 527) (L := [.inr (.inr (some 97)), .inl a1, .inl x13, .inl v14, .inl v15, zN, zN, zN]) (st := []) (x := x27) 0 hd0 hz (by rfl) (fun hb34 => ?_) (fun hb34 => ?_)
          · exact j527 M26 hCM26 hWM26
          · refine zG_wf_ne (pc := 520) (n' := 523) (t := 527) (L := [.inr (.inr (some 97)), .inl a1, .inl x13, .inl v14, .inl v15, zN, zN, zN]) (st := []) (x := (M26 97 10)) 2 hd0 hz (by rfl) (fun hb35 => ?_) (fun hb35 => ?_)
            · exact j527 M26 hCM26 hWM26
            · refine zG_w (c' := (533, [.inr (.inr (some 97)), .inl a1, .inl x13, .inl v14, .inl v15, zN, zN, zN], [.inl (-1)])) 2 hd0 hz (by rfl) ?_
              exact j533 (-1) M26 (by omega) hCM26 hWM26
      · obtain ⟨x36, hx36⟩ : ∃ x : Int, x = w32 (a1 + 1) := ⟨_, rfl⟩
        have hx36e : x36 = a1 + 1 := by rw [hx36]; exact w32_id (by omega)
        obtain ⟨x37, hx37⟩ : ∃ x : Int, x = w32 (x36 + v15) := ⟨_, rfl⟩
        have hx37e : x37 = x36 + v15 := by rw [hx37]; exact w32_id (by omega)
        refine zG_w (c' := (43, [.inr (.inr (some 97)), .inl a1, .inl x13, .inl v14, .inl v15, zN, zN, zN], [.inl x37, .inr (.inr (some 98))])) 7 hd0 hz (by subst hx37; subst hx36; rfl) ?_
        refine zG_iald hd0 hz rfl rfl (.inl rfl) (by omega) ?_
        obtain ⟨x38, hx38⟩ : ∃ x : Int, x = M16 98 (x37 : Int).toNat := ⟨_, rfl⟩
        rw [← hx38]
        have hx38r : qin x38 := by rw [hx38]; exact hCM16.sin _
        have h43 : x38 = M16 98 (a1 + 1 + v15).toNat := by rw [hx38, show x37 = a1 + 1 + v15 by omega]
        show zG n (0, 0) d 231 (44, [.inr (.inr (some 97)), .inl a1, .inl x13, .inl v14, .inl v15, zN, zN, zN], [.inl x38]) M16 _
        refine zG_w (c' := (50, [.inr (.inr (some 97)), .inl a1, .inl x13, .inl v14, .inl v15, .inl x38, zN, zN], [.inl 32, .inl x38])) 3 hd0 hz (by rfl) ?_
        have j502 : ∀ (v39 v40 : Int) (M41 : zM) , 0 ≤ v39 ∧ v39 ≤ 1 → (-2147483648) ≤ v40 ∧ v40 ≤ 2147483647 → (0 ≤ M41 97 10) → (qD M41 = qWt M41 + v39) → (M41 97 7 + M41 97 10 ≤ v40) → (v40 ≤ x13) → (v15 < v40) → qMI M41 → qFm [105, 106, 107, 1007, 1010, 1012, 1013] M M41 → zG n (0, 0) d 231 (502, [.inr (.inr (some 97)), .inl a1, .inl x13, .inl v39, .inl v40, .inl x38, zN, zN], []) M41 (fun v M' => (qMI M' ∧ qFm [105, 106, 107, 1007, 1010, 1012, 1013] M M') ∧ ∃ x : Int, v = some (.inl x) ∧ ((-2147483648) ≤ x ∧ x ≤ 2147483647)) := by
          intro v39 v40 M41 hv39 hv40 hx0_502 hx1_502 hx2_502 hx3_502 hx4_502 hCM41 hWM41
          have r42 := hCM41.steps
          have r43 := hCM41.rg 97 10 (by decide) (by decide)
          refine zG_w (c' := (27, [.inr (.inr (some 97)), .inl a1, .inl x13, .inl v39, .inl v40, .inl x38, zN, zN], [])) 1 hd0 hz (by rfl) ?_
          exact zG_weak (ih27 v39 v40 M41 (by omega) (by omega) (by omega) (by omega) (by omega) (by omega) (by omega) hCM41 hWM41) ⟨.inr rfl, .inr rfl, .inr rfl, .inr rfl, .inr rfl, .inl rfl, .inr rfl, .inr rfl, trivial⟩
        refine zG_wi_ne (pc := 50) (n' := 53) (t := 59) (L := [.inr (.inr (some 97)), .inl a1, .inl x13, .inl v14, .inl v15, .inl x38, zN, zN]) (st := []) (x := x38) (y := 32) 0 hd0 hz (by rfl) (fun hb44 => ?_) (fun hb44 => ?_)
        · refine zG_wp (pc := 68) (L := [.inr (.inr (some 97)), .inl a1, .inl x13, .inl v14, .inl v15, .inl x38, zN, zN]) (st := []) 3 hd0 hz zp_180 (qx_in (by first | exact zdk hd rfl | omega) hCM16   x38 (by omega) 97 (by first | decide | omega) 122 (by first | decide | omega) ) (by rfl) (fun x46 hx46 => ?_)
          refine zG_wf_eq (pc := 68) (n' := 71) (t := 242) (L := [.inr (.inr (some 97)), .inl a1, .inl x13, .inl v14, .inl v15, .inl x38, zN, zN]) (st := []) (x := x46) 0 hd0 hz (by rfl) (fun hb47 => ?_) (fun hb47 => ?_)
          · refine zG_wf_eq (pc := 243) (n' := 246) (t := 320) (L := [.inr (.inr (some 97)), .inl a1, .inl x13, .inl v14, .inl v15, .inl x38, zN, zN]) (st := []) (x := v14) 1 hd0 hz (by rfl) (fun hb48 => ?_) (fun hb48 => ?_)
            · refine zG_wp (pc := 329) (L := [.inr (.inr (some 97)), .inl a1, .inl x13, .inl v14, .inl v15, .inl x38, zN, zN]) (st := []) 3 hd0 hz zp_180 (qx_in (by first | exact zdk hd rfl | omega) hCM16   x38 (by omega) 48 (by first | decide | omega) 57 (by first | decide | omega) ) (by rfl) (fun x50 hx50 => ?_)
              refine zG_wf_eq (pc := 329) (n' := 332) (t := 430) (L := [.inr (.inr (some 97)), .inl a1, .inl x13, .inl v14, .inl v15, .inl x38, zN, zN]) (st := []) (x := x50) 0 hd0 hz (by rfl) (fun hb51 => ?_) (fun hb51 => ?_)
              · refine zG_wi_ne (pc := 434) (n' := 437) (t := 476) (L := [.inr (.inr (some 97)), .inl a1, .inl x13, .inl v14, .inl v15, .inl x38, zN, zN]) (st := []) (x := x38) (y := 40) 2 hd0 hz (by rfl) (fun hb52 => ?_) (fun hb52 => ?_)
                · refine zG_wi_ne (pc := 480) (n' := 483) (t := 494) (L := [.inr (.inr (some 97)), .inl a1, .inl x13, .inl v14, .inl v15, .inl x38, zN, zN]) (st := []) (x := x38) (y := 45) 2 hd0 hz (by rfl) (fun hb53 => ?_) (fun hb53 => ?_)
                  · obtain ⟨x54, hx54⟩ : ∃ x : Int, x = w32 (10 * v15) := ⟨_, rfl⟩
                    have hx54r : qin x54 := by rw [hx54]; exact w32_in _
                    obtain ⟨x55, hx55⟩ : ∃ x : Int, x = w32 (x54 + 1) := ⟨_, rfl⟩
                    have hx55r : x55 = (x54 + 1 + 2147483648) % 4294967296 - 2147483648 := hx55
                    exact zG_wr (r := some (.inl x55)) 5 hd0 hz (by subst hx55; subst hx54; rfl) ⟨⟨hCM16, hWM16⟩, _, rfl, by omega⟩
                  · refine zG_wc (c1 := (488, [.inr (.inr (some 97)), .inl a1, .inl x13, .inl v14, .inl v15, .inl x38, zN, zN], [])) 2 hd0 hz zp_223 (qx_waitsWith (by first | exact zdk hd rfl | omega) hCM16   3 (by first | decide | omega) (by omega)) (by rfl) (fun vr M56 hr => ?_)
                    obtain ⟨⟨hCM56, hFM56⟩, rfl, hpx57_0, hpx57_1, hpx57_2⟩ := hr
                    have hWM56 : qFm [105, 106, 107, 1007, 1010, 1012, 1013] M M56 := hWM16.tr hFM56 (by decide)
                    have e58 : M56 97 7 = M16 97 7 := hFM56 97 7 (by decide)
                    have e60 : qD M56 = qD M16 := qD_fr hFM56 (by decide) (by decide)
                    have r62 := hCM56.rg 97 10 (by decide) (by decide)
                    show zG n (0, 0) d 231 (488, [.inr (.inr (some 97)), .inl a1, .inl x13, .inl v14, .inl v15, .inl x38, zN, zN], []) M56 _
                    obtain ⟨x63, hx63⟩ : ∃ x : Int, x = w32 (v15 + 1) := ⟨_, rfl⟩
                    have hx63e : x63 = v15 + 1 := by rw [hx63]; exact w32_id (by omega)
                    refine zG_w (c' := (502, [.inr (.inr (some 97)), .inl a1, .inl x13, .inl v14, .inl x63, .inl x38, zN, zN], [])) 2 hd0 hz (by subst hx63; rfl) ?_
                    exact j502 v14 x63 M56 (by omega) (by omega) (by omega) (by omega) (by omega) (by omega) (by omega) hCM56 hWM56
                · have r64 := hCM16.rg 97 12 (by decide) (by decide)
                  refine zG_wi_ne (pc := 443) (n' := 446) (t := 454) (L := [.inr (.inr (some 97)), .inl a1, .inl x13, .inl v14, .inl v15, .inl x38, zN, zN]) (st := []) (x := (M16 97 12)) (y := 8) 3 hd0 hz (by rfl) (fun hb65 => ?_) (fun hb65 => ?_)
                  · obtain ⟨x66, hx66⟩ : ∃ x : Int, x = w32 ((M16 97 12) + 1) := ⟨_, rfl⟩
                    have hx66r : x66 = ((M16 97 12) + 1 + 2147483648) % 4294967296 - 2147483648 := hx66
                    refine zG_w (c' := (461, [.inr (.inr (some 97)), .inl a1, .inl x13, .inl v14, .inl v15, .inl x38, zN, zN], [.inl x66, .inr (.inr (some 97))])) 5 hd0 hz (by subst hx66; rfl) ?_
                    refine zG_putf (.inl rfl) hd0 hz rfl (by decide) rfl rfl ?_
                    obtain ⟨M67, hM67⟩ : ∃ X : zM, X = zput M16 97 12 x66 := ⟨_, rfl⟩
                    rw [← hM67]
                    have hCM67 : qMI M67 := by rw [hM67]; exact hCM16.put (by decide) (by decide) (by first | exact qMC_97 (by decide) (fun _ => by omega) | (refine ⟨fun _ => ?_, fun _ => ?_, fun h => ⟨fun _ => ?_, fun _ => ?_, fun _ => ?_, fun _ => ?_, fun _ => ?_⟩, fun h => ?_, fun h => ?_⟩ <;> first | omega | exact absurd rfl (by assumption) | (rename_i h9; exact absurd h9 (by decide))))
                    have hWM67 : qFm [105, 106, 107, 1007, 1010, 1012, 1013] M M67 := by rw [hM67]; exact hWM16.put (by decide)
                    have e68 : M67 97 7 = M16 97 7 := by rw [hM67]; exact qput_nk (by decide)
                    have e69 : M67 97 10 = M16 97 10 := by rw [hM67]; exact qput_nk (by decide)
                    have e70 : qD M67 = qD M16 := by rw [hM67]; exact qD_put (by decide) (by decide)
                    have e71 : qWt M67 = qWt M16 := by rw [hM67]; exact qWt_put (by decide) (by decide)
                    have e72 : M67 97 12 = x66 := by rw [hM67]; exact qput_eq
                    show zG n (0, 0) d 231 (464, [.inr (.inr (some 97)), .inl a1, .inl x13, .inl v14, .inl v15, .inl x38, zN, zN], []) M67 _
                    refine zG_wc (c1 := (470, [.inr (.inr (some 97)), .inl a1, .inl x13, .inl v14, .inl v15, .inl x38, zN, zN], [])) 2 hd0 hz zp_223 (qx_waitsWith (by first | exact zdk hd rfl | omega) hCM67   18 (by first | decide | omega) (by omega)) (by rfl) (fun vr M73 hr => ?_)
                    obtain ⟨⟨hCM73, hFM73⟩, rfl, hpx74_0, hpx74_1, hpx74_2⟩ := hr
                    have hWM73 : qFm [105, 106, 107, 1007, 1010, 1012, 1013] M M73 := hWM67.tr hFM73 (by decide)
                    have e75 : M73 97 7 = M67 97 7 := hFM73 97 7 (by decide)
                    have e77 : qD M73 = qD M67 := qD_fr hFM73 (by decide) (by decide)
                    have e79 : M73 97 12 = M67 97 12 := hFM73 97 12 (by decide)
                    have r80 := hCM73.rg 97 10 (by decide) (by decide)
                    show zG n (0, 0) d 231 (470, [.inr (.inr (some 97)), .inl a1, .inl x13, .inl v14, .inl v15, .inl x38, zN, zN], []) M73 _
                    obtain ⟨x81, hx81⟩ : ∃ x : Int, x = w32 (v15 + 1) := ⟨_, rfl⟩
                    have hx81e : x81 = v15 + 1 := by rw [hx81]; exact w32_id (by omega)
                    refine zG_w (c' := (502, [.inr (.inr (some 97)), .inl a1, .inl x13, .inl v14, .inl x81, .inl x38, zN, zN], [])) 2 hd0 hz (by subst hx81; rfl) ?_
                    exact j502 v14 x81 M73 (by omega) (by omega) (by omega) (by omega) (by omega) (by omega) (by omega) hCM73 hWM73
                  · obtain ⟨x82, hx82⟩ : ∃ x : Int, x = w32 (10 * v15) := ⟨_, rfl⟩
                    have hx82r : qin x82 := by rw [hx82]; exact w32_in _
                    obtain ⟨x83, hx83⟩ : ∃ x : Int, x = w32 (x82 + 3) := ⟨_, rfl⟩
                    have hx83r : x83 = (x82 + 3 + 2147483648) % 4294967296 - 2147483648 := hx83
                    exact zG_wr (r := some (.inl x83)) 5 hd0 hz (by subst hx83; subst hx82; rfl) ⟨⟨hCM16, hWM16⟩, _, rfl, by omega⟩
              · have hcx50 := hx50.2.2.mp (by omega)
                clear hx50 hb51
                refine zG_w (c' := (339, [.inr (.inr (some 97)), .inl a1, .inl x13, .inl v14, .inl v15, .inl x38, .inl v15, .inl 0], [])) 4 hd0 hz (by rfl) ?_
                have j339 : ∀ (N : Nat) (v84 v85 : Int) , (x13 - v84 : Int).toNat < N → (-2147483648) ≤ v84 ∧ v84 ≤ 80 → (-2147483648) ≤ v85 ∧ v85 ≤ 2147483647 → (v15 ≤ v84) → (v84 ≤ x13) → zG n (0, 0) d 231 (339, [.inr (.inr (some 97)), .inl a1, .inl x13, .inl v14, .inl v84, .inl x38, .inl v15, .inl v85], []) M16 (fun v M' => (qMI M' ∧ qFm [105, 106, 107, 1007, 1010, 1012, 1013] M M') ∧ ∃ x : Int, v = some (.inl x) ∧ ((-2147483648) ≤ x ∧ x ≤ 2147483647)) := by
                  intro N
                  induction N with
                  | zero => intro v84 v85 hN hv84 hv85 hx0_339 hx1_339; exact absurd hN (Nat.not_lt_zero _)
                  | succ N ih339 =>
                    intro v84 v85 hN hv84 hv85 hx0_339 hx1_339
                    replace hN : x13 - v84 < (N : Int) + 1 := by omega
                    refine zG_w (c' := (342, [.inr (.inr (some 97)), .inl a1, .inl x13, .inl v14, .inl v84, .inl x38, .inl v15, .inl v85], [.inl x13, .inl v84])) 2 hd0 hz (by rfl) ?_
                    have j412 : (v15 < v84) → (v84 ≤ x13) → zG n (0, 0) d 231 (412, [.inr (.inr (some 97)), .inl a1, .inl x13, .inl v14, .inl v84, .inl x38, .inl v15, .inl v85], []) M16 (fun v M' => (qMI M' ∧ qFm [105, 106, 107, 1007, 1010, 1012, 1013] M M') ∧ ∃ x : Int, v = some (.inl x) ∧ ((-2147483648) ≤ x ∧ x ≤ 2147483647)) := by
                      intro hx0_412 hx1_412
                      refine zG_wc (c1 := (419, [.inr (.inr (some 97)), .inl a1, .inl x13, .inl v14, .inl v84, .inl x38, .inl v15, .inl v85], [])) 3 hd0 hz zp_220 (qx_emits (by first | exact zdk hd rfl | omega) hCM16   0 (by first | decide | omega) v85 (by first | with_reducible exact hv85 | omega) (by omega) (by omega) (by omega)) (by rfl) (fun vr M86 hr => ?_)
                      obtain ⟨⟨hCM86, hFM86⟩, rfl, hpx87_0, hpx87_1⟩ := hr
                      have hWM86 : qFm [105, 106, 107, 1007, 1010, 1012, 1013] M M86 := hWM16.tr hFM86 (by decide)
                      have e89 : M86 97 10 = M16 97 10 := hFM86 97 10 (by decide)
                      have e91 : qWt M86 = qWt M16 := qWt_fr hFM86 (by decide) (by decide)
                      have r92 := hCM86.steps
                      show zG n (0, 0) d 231 (419, [.inr (.inr (some 97)), .inl a1, .inl x13, .inl v14, .inl v84, .inl x38, .inl v15, .inl v85], []) M86 _
                      refine zG_wc (c1 := (425, [.inr (.inr (some 97)), .inl a1, .inl x13, .inl v14, .inl v84, .inl x38, .inl v15, .inl v85], [])) 2 hd0 hz zp_224 (qm_224_97 (by first | exact zdk hd rfl | omega) hCM86   8 (by first | decide | omega) (by omega) (by omega) (by omega)) (by rfl) (fun vr M93 hr => ?_)
                      obtain ⟨⟨hCM93, hFM93⟩, rfl, hpx94_0, hpx94_1, hpx94_2⟩ := hr
                      have hWM93 : qFm [105, 106, 107, 1007, 1010, 1012, 1013] M M93 := hWM86.tr hFM93 (by decide)
                      have r99 := hCM93.steps
                      have r100 := hCM93.rg 97 10 (by decide) (by decide)
                      show zG n (0, 0) d 231 (425, [.inr (.inr (some 97)), .inl a1, .inl x13, .inl v14, .inl v84, .inl x38, .inl v15, .inl v85], []) M93 _
                      refine zG_w (c' := (502, [.inr (.inr (some 97)), .inl a1, .inl x13, .inl 1, .inl v84, .inl x38, .inl v15, .inl v85], [])) 3 hd0 hz (by rfl) ?_
                      exact zG_weak (j502 1 v84 M93 (by omega) (by omega) (by omega) (by omega) (by omega) (by omega) (by omega) hCM93 hWM93) ⟨.inr rfl, .inr rfl, .inr rfl, .inr rfl, .inr rfl, .inr rfl, .inl rfl, .inl rfl, trivial⟩
                    refine zG_wi_ge (pc := 342) (n' := 345) (t := 412) (L := [.inr (.inr (some 97)), .inl a1, .inl x13, .inl v14, .inl v84, .inl x38, .inl v15, .inl v85]) (st := []) (x := v84) (y := x13) 0 hd0 hz (by rfl) (fun hb101 => ?_) (fun hb101 => ?_)
                    · exact j412 (by omega) (by omega)
                    · obtain ⟨x102, hx102⟩ : ∃ x : Int, x = w32 (a1 + 1) := ⟨_, rfl⟩
                      have hx102e : x102 = a1 + 1 := by rw [hx102]; exact w32_id (by omega)
                      obtain ⟨x103, hx103⟩ : ∃ x : Int, x = w32 (x102 + v84) := ⟨_, rfl⟩
                      have hx103e : x103 = x102 + v84 := by rw [hx103]; exact w32_id (by omega)
                      refine zG_w (c' := (355, [.inr (.inr (some 97)), .inl a1, .inl x13, .inl v14, .inl v84, .inl x38, .inl v15, .inl v85], [.inl x103, .inr (.inr (some 98))])) 7 hd0 hz (by subst hx103; subst hx102; rfl) ?_
                      refine zG_iald hd0 hz rfl rfl (.inl rfl) (by omega) ?_
                      obtain ⟨x104, hx104⟩ : ∃ x : Int, x = M16 98 (x103 : Int).toNat := ⟨_, rfl⟩
                      rw [← hx104]
                      have hx104r : qin x104 := by rw [hx104]; exact hCM16.sin _
                      have hcg : v84 = v15 → x104 = x38 := fun h9 => by rw [hx104, h43, show x103 = a1 + 1 + v15 by omega]
                      show zG n (0, 0) d 231 (356, [.inr (.inr (some 97)), .inl a1, .inl x13, .inl v14, .inl v84, .inl x38, .inl v15, .inl v85], [.inl x104]) M16 _
                      refine zG_wp (pc := 363) (L := [.inr (.inr (some 97)), .inl a1, .inl x13, .inl v14, .inl v84, .inl x38, .inl v15, .inl v85]) (st := []) 2 hd0 hz zp_180 (qx_in (by first | exact zdk hd rfl | omega) hCM16   x104 (by omega) 48 (by first | decide | omega) 57 (by first | decide | omega) ) (by rfl) (fun x106 hx106 => ?_)
                      refine zG_wf_eq (pc := 363) (n' := 366) (t := 412) (L := [.inr (.inr (some 97)), .inl a1, .inl x13, .inl v14, .inl v84, .inl x38, .inl v15, .inl v85]) (st := []) (x := x106) 0 hd0 hz (by rfl) (fun hb107 => ?_) (fun hb107 => ?_)
                      · exact j412 (by omega) (by omega)
                      · have hcx106 := hx106.2.2.mp (by omega)
                        clear hx106 hb107
                        obtain ⟨x108, hx108⟩ : ∃ x : Int, x = w32 (v84 - v15) := ⟨_, rfl⟩
                        have hx108r : x108 = (v84 - v15 + 2147483648) % 4294967296 - 2147483648 := hx108
                        refine zG_wi_ne (pc := 373) (n' := 376) (t := 384) (L := [.inr (.inr (some 97)), .inl a1, .inl x13, .inl v14, .inl v84, .inl x38, .inl v15, .inl v85]) (st := []) (x := x108) (y := 6) 4 hd0 hz (by subst hx108; rfl) (fun hb109 => ?_) (fun hb109 => ?_)
                        · obtain ⟨x110, hx110⟩ : ∃ x : Int, x = w32 (10 * v85) := ⟨_, rfl⟩
                          have hx110r : qin x110 := by rw [hx110]; exact w32_in _
                          obtain ⟨x111, hx111⟩ : ∃ x : Int, x = w32 (a1 + 1) := ⟨_, rfl⟩
                          have hx111e : x111 = a1 + 1 := by rw [hx111]; exact w32_id (by omega)
                          obtain ⟨x112, hx112⟩ : ∃ x : Int, x = w32 (x111 + v84) := ⟨_, rfl⟩
                          have hx112e : x112 = x111 + v84 := by rw [hx112]; exact w32_id (by omega)
                          refine zG_w (c' := (399, [.inr (.inr (some 97)), .inl a1, .inl x13, .inl v14, .inl v84, .inl x38, .inl v15, .inl v85], [.inl x112, .inr (.inr (some 98)), .inl x110])) 10 hd0 hz (by subst hx112; subst hx111; subst hx110; rfl) ?_
                          refine zG_iald hd0 hz rfl rfl (.inl rfl) (by omega) ?_
                          obtain ⟨x113, hx113⟩ : ∃ x : Int, x = M16 98 (x112 : Int).toNat := ⟨_, rfl⟩
                          rw [← hx113]
                          have hx113r : qin x113 := by rw [hx113]; exact hCM16.sin _
                          show zG n (0, 0) d 231 (400, [.inr (.inr (some 97)), .inl a1, .inl x13, .inl v14, .inl v84, .inl x38, .inl v15, .inl v85], [.inl x113, .inl x110]) M16 _
                          obtain ⟨x114, hx114⟩ : ∃ x : Int, x = w32 (x110 + x113) := ⟨_, rfl⟩
                          have hx114r : x114 = (x110 + x113 + 2147483648) % 4294967296 - 2147483648 := hx114
                          obtain ⟨x115, hx115⟩ : ∃ x : Int, x = w32 (x114 - 48) := ⟨_, rfl⟩
                          have hx115r : x115 = (x114 - 48 + 2147483648) % 4294967296 - 2147483648 := hx115
                          obtain ⟨x116, hx116⟩ : ∃ x : Int, x = w32 (v84 + 1) := ⟨_, rfl⟩
                          have hx116e : x116 = v84 + 1 := by rw [hx116]; exact w32_id (by omega)
                          refine zG_w (c' := (339, [.inr (.inr (some 97)), .inl a1, .inl x13, .inl v14, .inl x116, .inl x38, .inl v15, .inl x115], [])) 6 hd0 hz (by subst hx116; subst hx115; subst hx114; rfl) ?_
                          exact ih339 x116 x115 (by omega) (by omega) (by omega) (by omega) (by omega)
                        · obtain ⟨x117, hx117⟩ : ∃ x : Int, x = w32 (10 * v15) := ⟨_, rfl⟩
                          have hx117r : qin x117 := by rw [hx117]; exact w32_in _
                          obtain ⟨x118, hx118⟩ : ∃ x : Int, x = w32 (x117 + 2) := ⟨_, rfl⟩
                          have hx118r : x118 = (x117 + 2 + 2147483648) % 4294967296 - 2147483648 := hx118
                          exact zG_wr (r := some (.inl x118)) 5 hd0 hz (by subst hx118; subst hx117; rfl) ⟨⟨hCM16, hWM16⟩, _, rfl, by omega⟩
                exact j339 ((x13 - v15 : Int).toNat + 1) v15 0 (by first | decide | omega) (by omega) (by omega) (by omega) (by omega)
            · refine zG_w (c' := (250, [.inr (.inr (some 97)), .inl a1, .inl x13, .inl v14, .inl v15, .inl x38, zN, zN], [.inl 41, .inl x38])) 2 hd0 hz (by rfl) ?_
              have j286 : ∀ (v119 : Int) (M120 : zM) , 0 ≤ v119 ∧ v119 ≤ 1 → (v119 = 0 → 0 ≤ M120 97 10 ∧ M120 97 7 + M120 97 10 ≤ v15 + 1 ∧ ((x38 = 41 ∧ qD M120 = qWt M120 + 1) ∨ (x38 ≠ 41 ∧ qD M120 = qWt M120))) → qMI M120 → qFm [105, 106, 107, 1007, 1010, 1012, 1013] M M120 → zG n (0, 0) d 231 (286, [.inr (.inr (some 97)), .inl a1, .inl x13, .inl v14, .inl v15, .inl x38, zN, zN], [.inl v119]) M120 (fun v M' => (qMI M' ∧ qFm [105, 106, 107, 1007, 1010, 1012, 1013] M M') ∧ ∃ x : Int, v = some (.inl x) ∧ ((-2147483648) ≤ x ∧ x ≤ 2147483647)) := by
                intro v119 M120 hv119 hx0_286 hCM120 hWM120
                have r121 := hCM120.steps
                have r122 := hCM120.rg 97 10 (by decide) (by decide)
                refine zG_wf_eq (pc := 290) (n' := 293) (t := 301) (L := [.inr (.inr (some 97)), .inl a1, .inl x13, .inl v14, .inl v15, .inl x38, .inl v119, zN]) (st := []) (x := v119) 2 hd0 hz (by rfl) (fun hb123 => ?_) (fun hb123 => ?_)
                · refine zG_w (c' := (305, [.inr (.inr (some 97)), .inl a1, .inl x13, .inl v14, .inl v15, .inl x38, .inl v119, zN], [.inl 41, .inl x38])) 2 hd0 hz (by rfl) ?_
                  have j313 : ∀ (v124 : Int) , 0 ≤ v124 ∧ v124 ≤ 1 → ((v124 = 1 ∧ x38 = 41) ∨ (v124 = 0 ∧ x38 ≠ 41)) → zG n (0, 0) d 231 (313, [.inr (.inr (some 97)), .inl a1, .inl x13, .inl v14, .inl v15, .inl x38, .inl v119, zN], [.inl v124]) M120 (fun v M' => (qMI M' ∧ qFm [105, 106, 107, 1007, 1010, 1012, 1013] M M') ∧ ∃ x : Int, v = some (.inl x) ∧ ((-2147483648) ≤ x ∧ x ≤ 2147483647)) := by
                    intro v124 hv124 hx0_313
                    obtain ⟨x125, hx125⟩ : ∃ x : Int, x = w32 (v15 + 1) := ⟨_, rfl⟩
                    have hx125e : x125 = v15 + 1 := by rw [hx125]; exact w32_id (by omega)
                    refine zG_w (c' := (502, [.inr (.inr (some 97)), .inl a1, .inl x13, .inl v124, .inl x125, .inl x38, .inl v119, zN], [])) 3 hd0 hz (by subst hx125; rfl) ?_
                    exact zG_weak (j502 v124 x125 M120 (by omega) (by omega) (by omega) (by omega) (by omega) (by omega) (by omega) hCM120 hWM120) ⟨.inr rfl, .inr rfl, .inr rfl, .inr rfl, .inr rfl, .inr rfl, .inl rfl, .inr rfl, trivial⟩
                  refine zG_wi_ne (pc := 305) (n' := 308) (t := 312) (L := [.inr (.inr (some 97)), .inl a1, .inl x13, .inl v14, .inl v15, .inl x38, .inl v119, zN]) (st := []) (x := x38) (y := 41) 0 hd0 hz (by rfl) (fun hb126 => ?_) (fun hb126 => ?_)
                  · refine zG_w (c' := (313, [.inr (.inr (some 97)), .inl a1, .inl x13, .inl v14, .inl v15, .inl x38, .inl v119, zN], [.inl 0])) 1 hd0 hz (by rfl) ?_
                    exact j313 0 (by first | decide | omega) (by omega)
                  · refine zG_w (c' := (313, [.inr (.inr (some 97)), .inl a1, .inl x13, .inl v14, .inl v15, .inl x38, .inl v119, zN], [.inl 1])) 2 hd0 hz (by rfl) ?_
                    exact j313 1 (by first | decide | omega) (by omega)
                · obtain ⟨x127, hx127⟩ : ∃ x : Int, x = w32 (10 * v15) := ⟨_, rfl⟩
                  have hx127r : qin x127 := by rw [hx127]; exact w32_in _
                  obtain ⟨x128, hx128⟩ : ∃ x : Int, x = w32 (x127 + 1) := ⟨_, rfl⟩
                  have hx128r : x128 = (x127 + 1 + 2147483648) % 4294967296 - 2147483648 := hx128
                  exact zG_wr (r := some (.inl x128)) 5 hd0 hz (by subst hx128; subst hx127; rfl) ⟨⟨hCM120, hWM120⟩, _, rfl, by omega⟩
              refine zG_wi_ne (pc := 250) (n' := 253) (t := 260) (L := [.inr (.inr (some 97)), .inl a1, .inl x13, .inl v14, .inl v15, .inl x38, zN, zN]) (st := []) (x := x38) (y := 41) 0 hd0 hz (by rfl) (fun hb129 => ?_) (fun hb129 => ?_)
              · refine zG_wp (pc := 265) (L := [.inr (.inr (some 97)), .inl a1, .inl x13, .inl v14, .inl v15, .inl x38, zN, zN]) (st := []) 1 hd0 hz zp_227 (qx_signOf (by first | exact zdk hd rfl | omega) hCM16   x38 (by omega) ) (by rfl) (fun x131 hx131 => ?_)
                refine zG_w (c' := (266, [.inr (.inr (some 97)), .inl a1, .inl x13, .inl v14, .inl v15, .inl x38, zN, zN], [.inl (-1), .inl x131])) 1 hd0 hz (by rfl) ?_
                have j285 : ∀ (M132 : zM) , qMI M132 → qFm [105, 106, 107, 1007, 1010, 1012, 1013] M M132 → zG n (0, 0) d 231 (285, [.inr (.inr (some 97)), .inl a1, .inl x13, .inl v14, .inl v15, .inl x38, zN, zN], []) M132 (fun v M' => (qMI M' ∧ qFm [105, 106, 107, 1007, 1010, 1012, 1013] M M') ∧ ∃ x : Int, v = some (.inl x) ∧ ((-2147483648) ≤ x ∧ x ≤ 2147483647)) := by
                  intro M132 hCM132 hWM132
                  refine zG_w (c' := (286, [.inr (.inr (some 97)), .inl a1, .inl x13, .inl v14, .inl v15, .inl x38, zN, zN], [.inl 1])) 1 hd0 hz (by rfl) ?_
                  exact j286 1 M132 (by omega) (by omega) hCM132 hWM132
                refine zG_wi_eq (pc := 266) (n' := 269) (t := 285) (L := [.inr (.inr (some 97)), .inl a1, .inl x13, .inl v14, .inl v15, .inl x38, zN, zN]) (st := []) (x := x131) (y := (-1)) 0 hd0 hz (by rfl) (fun hb133 => ?_) (fun hb133 => ?_)
                · exact j285 M16 hCM16 hWM16
                · refine zG_wp (pc := 275) (L := [.inr (.inr (some 97)), .inl a1, .inl x13, .inl v14, .inl v15, .inl x38, zN, zN]) (st := [.inr (.inr (some 97))]) 2 hd0 hz zp_227 (qx_signOf (by first | exact zdk hd rfl | omega) hCM16   x38 (by omega) ) (by rfl) (fun x135 hx135 => ?_)
                  refine zG_wc (c1 := (278, [.inr (.inr (some 97)), .inl a1, .inl x13, .inl v14, .inl v15, .inl x38, zN, zN], [])) 0 hd0 hz zp_228 (qm_228_97 (by first | exact zdk hd rfl | omega) hCM16   x135 (by omega) (by omega) (by omega) (by omega) (by omega)) (by rfl) (fun vr M136 hr => ?_)
                  obtain ⟨⟨hCM136, hFM136⟩, x137, rfl, hx137, hpx137_0, hpx137_1, hpx137_2⟩ := hr
                  have hWM136 : qFm [105, 106, 107, 1007, 1010, 1012, 1013] M M136 := hWM16.tr hFM136 (by decide)
                  have r142 := hCM136.steps
                  have r143 := hCM136.rg 97 10 (by decide) (by decide)
                  show zG n (0, 0) d 231 (278, [.inr (.inr (some 97)), .inl a1, .inl x13, .inl v14, .inl v15, .inl x38, zN, zN], [.inl x137]) M136 _
                  refine zG_wf_eq (pc := 278) (n' := 281) (t := 285) (L := [.inr (.inr (some 97)), .inl a1, .inl x13, .inl v14, .inl v15, .inl x38, zN, zN]) (st := []) (x := x137) 0 hd0 hz (by rfl) (fun hb144 => ?_) (fun hb144 => ?_)
                  · exact j285 M136 hCM136 hWM136
                  · refine zG_w (c' := (286, [.inr (.inr (some 97)), .inl a1, .inl x13, .inl v14, .inl v15, .inl x38, zN, zN], [.inl 0])) 2 hd0 hz (by rfl) ?_
                    exact j286 0 M136 (by omega) (by omega) hCM136 hWM136
              · refine zG_wc (c1 := (257, [.inr (.inr (some 97)), .inl a1, .inl x13, .inl v14, .inl v15, .inl x38, zN, zN], [])) 1 hd0 hz zp_232 (qm_232_97 (by first | exact zdk hd rfl | omega) hCM16    (by omega) (by omega) (by omega)) (by rfl) (fun vr M145 hr => ?_)
                obtain ⟨⟨hCM145, hFM145⟩, x146, rfl, hx146, hpx146_0, hpx146_1, hpx146_2⟩ := hr
                have hWM145 : qFm [105, 106, 107, 1007, 1010, 1012, 1013] M M145 := hWM16.tr hFM145 (by decide)
                have r151 := hCM145.steps
                have r152 := hCM145.rg 97 10 (by decide) (by decide)
                show zG n (0, 0) d 231 (257, [.inr (.inr (some 97)), .inl a1, .inl x13, .inl v14, .inl v15, .inl x38, zN, zN], [.inl x146]) M145 _
                refine zG_w (c' := (286, [.inr (.inr (some 97)), .inl a1, .inl x13, .inl v14, .inl v15, .inl x38, zN, zN], [.inl x146])) 1 hd0 hz (by rfl) ?_
                exact j286 x146 M145 (by omega) (by omega) hCM145 hWM145
          · have hcx46 := hx46.2.2.mp (by omega)
            clear hx46 hb47
            refine zG_wc (c1 := (79, [.inr (.inr (some 97)), .inl a1, .inl x13, .inl v14, .inl v15, .inl x38, zN, zN], [])) 4 hd0 hz zp_229 (qm_229_97 (by first | exact zdk hd rfl | omega) hCM16   a1 (by first | with_reducible exact ha1 | omega) v15 (by first | with_reducible exact hv15 | omega) x13 (by omega) ) (by rfl) (fun vr M153 hr => ?_)
            obtain ⟨⟨hCM153, hFM153⟩, x154, rfl, hpx154_0, hpx154_1, hpx154_2⟩ := hr
            have hWM153 : qFm [105, 106, 107, 1007, 1010, 1012, 1013] M M153 := hWM16.tr hFM153 (by decide)
            have e155 : M153 97 7 = M16 97 7 := hFM153 97 7 (by decide)
            have e156 : M153 97 10 = M16 97 10 := hFM153 97 10 (by decide)
            have e157 : qD M153 = qD M16 := qD_fr hFM153 (by decide) (by decide)
            have e158 : qWt M153 = qWt M16 := qWt_fr hFM153 (by decide) (by decide)
            have r159 := hCM153.rg 97 13 (by decide) (by decide)
            show zG n (0, 0) d 231 (79, [.inr (.inr (some 97)), .inl a1, .inl x13, .inl v14, .inl v15, .inl x38, zN, zN], [.inr (.inl (x154))]) M153 _
            refine zG_wp (pc := 82) (L := [.inr (.inr (some 97)), .inl a1, .inl x13, .inl v14, .inl v15, .inl x38, zN, zN]) (st := []) 0 hd0 hz zp_230 (qm_230 (by first | exact zdk hd rfl | omega) hCM153   x154 ) (by rfl) (fun x161 hx161 => ?_)
            refine zG_wi_ne (pc := 87) (n' := 90) (t := 98) (L := [.inr (.inr (some 97)), .inl a1, .inl x13, .inl v14, .inl v15, .inl x38, .inl x161, zN]) (st := []) (x := x161) (y := (-1)) 3 hd0 hz (by rfl) (fun hb162 => ?_) (fun hb162 => ?_)
            · refine zG_w (c' := (102, [.inr (.inr (some 97)), .inl a1, .inl x13, .inl v14, .inl v15, .inl x38, .inl x161, zN], [.inl 9, .inl x161])) 2 hd0 hz (by rfl) ?_
              have j110 : ∀ (v163 : Int) , 0 ≤ v163 ∧ v163 ≤ 1 → ((v163 = 1 ∧ 9 < x161) ∨ (v163 = 0 ∧ x161 ≤ 9)) → zG n (0, 0) d 231 (110, [.inr (.inr (some 97)), .inl a1, .inl x13, .inl v14, .inl v15, .inl x38, .inl x161, zN], [.inl v163]) M153 (fun v M' => (qMI M' ∧ qFm [105, 106, 107, 1007, 1010, 1012, 1013] M M') ∧ ∃ x : Int, v = some (.inl x) ∧ ((-2147483648) ≤ x ∧ x ≤ 2147483647)) := by
                intro v163 hv163 hx0_110
                refine zG_w (c' := (111, [.inr (.inr (some 97)), .inl a1, .inl x13, .inl v14, .inl v15, .inl x38, .inl x161, zN], [.inl v14, .inl v163])) 1 hd0 hz (by rfl) ?_
                have j175 : ∀ (M164 : zM) , qMI M164 → qFm [105, 106, 107, 1007, 1010, 1012, 1013] M M164 → zG n (0, 0) d 231 (175, [.inr (.inr (some 97)), .inl a1, .inl x13, .inl v14, .inl v15, .inl x38, .inl x161, zN], []) M164 (fun v M' => (qMI M' ∧ qFm [105, 106, 107, 1007, 1010, 1012, 1013] M M') ∧ ∃ x : Int, v = some (.inl x) ∧ ((-2147483648) ≤ x ∧ x ≤ 2147483647)) := by
                  intro M164 hCM164 hWM164
                  obtain ⟨x165, hx165⟩ : ∃ x : Int, x = w32 (10 * v15) := ⟨_, rfl⟩
                  have hx165r : qin x165 := by rw [hx165]; exact w32_in _
                  obtain ⟨x166, hx166⟩ : ∃ x : Int, x = w32 (x165 + 1) := ⟨_, rfl⟩
                  have hx166r : x166 = (x165 + 1 + 2147483648) % 4294967296 - 2147483648 := hx166
                  exact zG_wr (r := some (.inl x166)) 5 hd0 hz (by subst hx166; subst hx165; rfl) ⟨⟨hCM164, hWM164⟩, _, rfl, by omega⟩
                refine zG_wi_ne (pc := 111) (n' := 114) (t := 175) (L := [.inr (.inr (some 97)), .inl a1, .inl x13, .inl v14, .inl v15, .inl x38, .inl x161, zN]) (st := []) (x := v163) (y := v14) 0 hd0 hz (by rfl) (fun hb167 => ?_) (fun hb167 => ?_)
                · exact j175 M153 hCM153 hWM153
                · refine zG_w (c' := (115, [.inr (.inr (some 97)), .inl a1, .inl x13, .inl v14, .inl v15, .inl x38, .inl x161, zN], [.inl v14])) 1 hd0 hz (by rfl) ?_
                  have j183 : ∀ (M168 : zM) , (0 ≤ M168 97 10) → (qD M168 = qWt M168) → ((M168 97 7 + M168 97 10 ≤ v15 ∧ x161 ≤ 9) ∨ (M168 97 7 + M168 97 10 ≤ v15 + 1 ∧ 9 < x161)) → (v15 < M168 97 13 ∧ M168 97 13 ≤ x13) → qMI M168 → qFm [105, 106, 107, 1007, 1010, 1012, 1013] M M168 → zG n (0, 0) d 231 (183, [.inr (.inr (some 97)), .inl a1, .inl x13, .inl v14, .inl v15, .inl x38, .inl x161, zN], []) M168 (fun v M' => (qMI M' ∧ qFm [105, 106, 107, 1007, 1010, 1012, 1013] M M') ∧ ∃ x : Int, v = some (.inl x) ∧ ((-2147483648) ≤ x ∧ x ≤ 2147483647)) := by
                    intro M168 hx0_183 hx1_183 hx2_183 hx3_183 hCM168 hWM168
                    have r169 := hCM168.steps
                    have r170 := hCM168.rg 97 10 (by decide) (by decide)
                    have r171 := hCM168.rg 97 13 (by decide) (by decide)
                    refine zG_w (c' := (187, [.inr (.inr (some 97)), .inl a1, .inl x13, .inl v14, .inl v15, .inl x38, .inl x161, zN], [.inl 8, .inl x161])) 2 hd0 hz (by rfl) ?_
                    have j233 : ∀ (v172 : Int) (M173 : zM) , 0 ≤ v172 ∧ v172 ≤ 1 → (0 ≤ M173 97 10) → (qD M173 = qWt M173 + v172) → (M173 97 7 + M173 97 10 ≤ v15 + 1) → (v15 < M173 97 13 ∧ M173 97 13 ≤ x13) → qMI M173 → qFm [105, 106, 107, 1007, 1010, 1012, 1013] M M173 → zG n (0, 0) d 231 (233, [.inr (.inr (some 97)), .inl a1, .inl x13, .inl v172, .inl v15, .inl x38, .inl x161, zN], []) M173 (fun v M' => (qMI M' ∧ qFm [105, 106, 107, 1007, 1010, 1012, 1013] M M') ∧ ∃ x : Int, v = some (.inl x) ∧ ((-2147483648) ≤ x ∧ x ≤ 2147483647)) := by
                      intro v172 M173 hv172 hx0_233 hx1_233 hx2_233 hx3_233 hCM173 hWM173
                      have r174 := hCM173.steps
                      have r175 := hCM173.rg 97 10 (by decide) (by decide)
                      have r176 := hCM173.rg 97 13 (by decide) (by decide)
                      refine zG_w (c' := (502, [.inr (.inr (some 97)), .inl a1, .inl x13, .inl v172, .inl (M173 97 13), .inl x38, .inl x161, zN], [])) 4 hd0 hz (by rfl) ?_
                      exact zG_weak (j502 v172 (M173 97 13) M173 (by omega) (by omega) (by omega) (by omega) (by omega) (by omega) (by omega) hCM173 hWM173) ⟨.inr rfl, .inr rfl, .inr rfl, .inr rfl, .inr rfl, .inr rfl, .inl rfl, .inr rfl, trivial⟩
                    refine zG_wi_ge (pc := 187) (n' := 190) (t := 208) (L := [.inr (.inr (some 97)), .inl a1, .inl x13, .inl v14, .inl v15, .inl x38, .inl x161, zN]) (st := []) (x := x161) (y := 8) 0 hd0 hz (by rfl) (fun hb177 => ?_) (fun hb177 => ?_)
                    · refine zG_w (c' := (212, [.inr (.inr (some 97)), .inl a1, .inl x13, .inl v14, .inl v15, .inl x38, .inl x161, zN], [.inl 10, .inl x161])) 2 hd0 hz (by rfl) ?_
                      have j231 : ∀ (M178 : zM) , (0 ≤ M178 97 10) → (qD M178 = qWt M178) → (M178 97 7 + M178 97 10 ≤ v15 + 1) → (v15 < M178 97 13 ∧ M178 97 13 ≤ x13) → qMI M178 → qFm [105, 106, 107, 1007, 1010, 1012, 1013] M M178 → zG n (0, 0) d 231 (231, [.inr (.inr (some 97)), .inl a1, .inl x13, .inl v14, .inl v15, .inl x38, .inl x161, zN], []) M178 (fun v M' => (qMI M' ∧ qFm [105, 106, 107, 1007, 1010, 1012, 1013] M M') ∧ ∃ x : Int, v = some (.inl x) ∧ ((-2147483648) ≤ x ∧ x ≤ 2147483647)) := by
                        intro M178 hx0_231 hx1_231 hx2_231 hx3_231 hCM178 hWM178
                        have r179 := hCM178.steps
                        have r180 := hCM178.rg 97 10 (by decide) (by decide)
                        have r181 := hCM178.rg 97 13 (by decide) (by decide)
                        refine zG_w (c' := (233, [.inr (.inr (some 97)), .inl a1, .inl x13, .inl 0, .inl v15, .inl x38, .inl x161, zN], [])) 2 hd0 hz (by rfl) ?_
                        exact j233 0 M178 (by omega) (by omega) (by omega) (by omega) (by omega) hCM178 hWM178
                      refine zG_wi_ge (pc := 212) (n' := 215) (t := 231) (L := [.inr (.inr (some 97)), .inl a1, .inl x13, .inl v14, .inl v15, .inl x38, .inl x161, zN]) (st := []) (x := x161) (y := 10) 0 hd0 hz (by rfl) (fun hb182 => ?_) (fun hb182 => ?_)
                      · exact j231 M168 (by omega) (by omega) (by omega) (by omega) hCM168 hWM168
                      · refine zG_w (c' := (220, [.inr (.inr (some 97)), .inl a1, .inl x13, .inl v14, .inl v15, .inl x38, .inl x161, zN], [.inl 8, .inl x161, .inr (.inr (some 97))])) 3 hd0 hz (by rfl) ?_
                        have j228 : ∀ (v183 : Int) , 2 ≤ v183 ∧ v183 ≤ 4 → zG n (0, 0) d 231 (228, [.inr (.inr (some 97)), .inl a1, .inl x13, .inl v14, .inl v15, .inl x38, .inl x161, zN], [.inl v183, .inr (.inr (some 97))]) M168 (fun v M' => (qMI M' ∧ qFm [105, 106, 107, 1007, 1010, 1012, 1013] M M') ∧ ∃ x : Int, v = some (.inl x) ∧ ((-2147483648) ≤ x ∧ x ≤ 2147483647)) := by
                          intro v183 hv183
                          refine zG_wc (c1 := (231, [.inr (.inr (some 97)), .inl a1, .inl x13, .inl v14, .inl v15, .inl x38, .inl x161, zN], [])) 0 hd0 hz zp_223 (qx_waitsWith (by first | exact zdk hd rfl | omega) hCM168   v183 (by first | with_reducible exact hv183 | omega) (by omega)) (by rfl) (fun vr M184 hr => ?_)
                          obtain ⟨⟨hCM184, hFM184⟩, rfl, hpx185_0, hpx185_1, hpx185_2⟩ := hr
                          have hWM184 : qFm [105, 106, 107, 1007, 1010, 1012, 1013] M M184 := hWM168.tr hFM184 (by decide)
                          have e186 : M184 97 7 = M168 97 7 := hFM184 97 7 (by decide)
                          have e188 : qD M184 = qD M168 := qD_fr hFM184 (by decide) (by decide)
                          have e190 : M184 97 13 = M168 97 13 := hFM184 97 13 (by decide)
                          have r191 := hCM184.rg 97 10 (by decide) (by decide)
                          show zG n (0, 0) d 231 (231, [.inr (.inr (some 97)), .inl a1, .inl x13, .inl v14, .inl v15, .inl x38, .inl x161, zN], []) M184 _
                          exact j231 M184 (by omega) (by omega) (by omega) (by omega) hCM184 hWM184
                        refine zG_wi_ne (pc := 220) (n' := 223) (t := 227) (L := [.inr (.inr (some 97)), .inl a1, .inl x13, .inl v14, .inl v15, .inl x38, .inl x161, zN]) (st := [.inr (.inr (some 97))]) (x := x161) (y := 8) 0 hd0 hz (by rfl) (fun hb192 => ?_) (fun hb192 => ?_)
                        · refine zG_w (c' := (228, [.inr (.inr (some 97)), .inl a1, .inl x13, .inl v14, .inl v15, .inl x38, .inl x161, zN], [.inl 4, .inr (.inr (some 97))])) 1 hd0 hz (by rfl) ?_
                          exact j228 4 (by first | decide | omega)
                        · refine zG_w (c' := (228, [.inr (.inr (some 97)), .inl a1, .inl x13, .inl v14, .inl v15, .inl x38, .inl x161, zN], [.inl 2, .inr (.inr (some 97))])) 2 hd0 hz (by rfl) ?_
                          exact j228 2 (by first | decide | omega)
                    · refine zG_wc (c1 := (197, [.inr (.inr (some 97)), .inl a1, .inl x13, .inl v14, .inl v15, .inl x38, .inl x161, zN], [])) 3 hd0 hz zp_220 (qx_emits (by first | exact zdk hd rfl | omega) hCM168   1 (by first | decide | omega) x161 (by omega) (by omega) (by omega) (by omega)) (by rfl) (fun vr M193 hr => ?_)
                      obtain ⟨⟨hCM193, hFM193⟩, rfl, hpx194_0, hpx194_1⟩ := hr
                      have hWM193 : qFm [105, 106, 107, 1007, 1010, 1012, 1013] M M193 := hWM168.tr hFM193 (by decide)
                      have e196 : M193 97 10 = M168 97 10 := hFM193 97 10 (by decide)
                      have e198 : qWt M193 = qWt M168 := qWt_fr hFM193 (by decide) (by decide)
                      have e199 : M193 97 13 = M168 97 13 := hFM193 97 13 (by decide)
                      have r200 := hCM193.steps
                      show zG n (0, 0) d 231 (197, [.inr (.inr (some 97)), .inl a1, .inl x13, .inl v14, .inl v15, .inl x38, .inl x161, zN], []) M193 _
                      refine zG_wc (c1 := (203, [.inr (.inr (some 97)), .inl a1, .inl x13, .inl v14, .inl v15, .inl x38, .inl x161, zN], [])) 2 hd0 hz zp_224 (qm_224_97 (by first | exact zdk hd rfl | omega) hCM193   8 (by first | decide | omega) (by omega) (by omega) (by omega)) (by rfl) (fun vr M201 hr => ?_)
                      obtain ⟨⟨hCM201, hFM201⟩, rfl, hpx202_0, hpx202_1, hpx202_2⟩ := hr
                      have hWM201 : qFm [105, 106, 107, 1007, 1010, 1012, 1013] M M201 := hWM193.tr hFM201 (by decide)
                      have e205 : M201 97 13 = M193 97 13 := hFM201 97 13 (by decide)
                      have r208 := hCM201.steps
                      have r209 := hCM201.rg 97 10 (by decide) (by decide)
                      show zG n (0, 0) d 231 (203, [.inr (.inr (some 97)), .inl a1, .inl x13, .inl v14, .inl v15, .inl x38, .inl x161, zN], []) M201 _
                      refine zG_w (c' := (233, [.inr (.inr (some 97)), .inl a1, .inl x13, .inl 1, .inl v15, .inl x38, .inl x161, zN], [])) 3 hd0 hz (by rfl) ?_
                      exact j233 1 M201 (by omega) (by omega) (by omega) (by omega) (by omega) hCM201 hWM201
                  refine zG_wf_eq (pc := 115) (n' := 118) (t := 183) (L := [.inr (.inr (some 97)), .inl a1, .inl x13, .inl v14, .inl v15, .inl x38, .inl x161, zN]) (st := []) (x := v14) 0 hd0 hz (by rfl) (fun hb210 => ?_) (fun hb210 => ?_)
                  · exact j183 M153 (by omega) (by omega) (by omega) (by omega) hCM153 hWM153
                  · refine zG_w (c' := (123, [.inr (.inr (some 97)), .inl a1, .inl x13, .inl v14, .inl v15, .inl x38, .inl x161, zN], [.inl 10, .inl x161, .inr (.inr (some 97))])) 3 hd0 hz (by rfl) ?_
                    have j169 : ∀ (v211 : Int) , 12 ≤ v211 ∧ v211 ≤ 17 → (v211 ≠ 14) → zG n (0, 0) d 231 (169, [.inr (.inr (some 97)), .inl a1, .inl x13, .inl v14, .inl v15, .inl x38, .inl x161, zN], [.inl v211, .inr (.inr (some 97))]) M153 (fun v M' => (qMI M' ∧ qFm [105, 106, 107, 1007, 1010, 1012, 1013] M M') ∧ ∃ x : Int, v = some (.inl x) ∧ ((-2147483648) ≤ x ∧ x ≤ 2147483647)) := by
                      intro v211 hv211 hx0_169
                      refine zG_wc (c1 := (172, [.inr (.inr (some 97)), .inl a1, .inl x13, .inl v14, .inl v15, .inl x38, .inl x161, zN], [])) 0 hd0 hz zp_228 (qm_228_97 (by first | exact zdk hd rfl | omega) hCM153   v211 (by first | with_reducible exact hv211 | omega) (by omega) (by omega) (by omega) (by omega)) (by rfl) (fun vr M212 hr => ?_)
                      obtain ⟨⟨hCM212, hFM212⟩, x213, rfl, hx213, hpx213_0, hpx213_1, hpx213_2⟩ := hr
                      have hWM212 : qFm [105, 106, 107, 1007, 1010, 1012, 1013] M M212 := hWM153.tr hFM212 (by decide)
                      have e218 : M212 97 13 = M153 97 13 := hFM212 97 13 (by decide)
                      have r219 := hCM212.steps
                      have r220 := hCM212.rg 97 10 (by decide) (by decide)
                      show zG n (0, 0) d 231 (172, [.inr (.inr (some 97)), .inl a1, .inl x13, .inl v14, .inl v15, .inl x38, .inl x161, zN], [.inl x213]) M212 _
                      refine zG_wf_ne (pc := 172) (n' := 175) (t := 183) (L := [.inr (.inr (some 97)), .inl a1, .inl x13, .inl v14, .inl v15, .inl x38, .inl x161, zN]) (st := []) (x := x213) 0 hd0 hz (by rfl) (fun hb221 => ?_) (fun hb221 => ?_)
                      · exact j183 M212 (by omega) (by omega) (by omega) (by omega) hCM212 hWM212
                      · exact j175 M212 hCM212 hWM212
                    refine zG_wi_ne (pc := 123) (n' := 126) (t := 131) (L := [.inr (.inr (some 97)), .inl a1, .inl x13, .inl v14, .inl v15, .inl x38, .inl x161, zN]) (st := [.inr (.inr (some 97))]) (x := x161) (y := 10) 0 hd0 hz (by rfl) (fun hb222 => ?_) (fun hb222 => ?_)
                    · refine zG_wi_ne (pc := 135) (n' := 138) (t := 143) (L := [.inr (.inr (some 97)), .inl a1, .inl x13, .inl v14, .inl v15, .inl x38, .inl x161, zN]) (st := [.inr (.inr (some 97))]) (x := x161) (y := 11) 2 hd0 hz (by rfl) (fun hb223 => ?_) (fun hb223 => ?_)
                      · refine zG_wi_ne (pc := 147) (n' := 150) (t := 155) (L := [.inr (.inr (some 97)), .inl a1, .inl x13, .inl v14, .inl v15, .inl x38, .inl x161, zN]) (st := [.inr (.inr (some 97))]) (x := x161) (y := 12) 2 hd0 hz (by rfl) (fun hb224 => ?_) (fun hb224 => ?_)
                        · refine zG_wi_ne (pc := 159) (n' := 162) (t := 167) (L := [.inr (.inr (some 97)), .inl a1, .inl x13, .inl v14, .inl v15, .inl x38, .inl x161, zN]) (st := [.inr (.inr (some 97))]) (x := x161) (y := 13) 2 hd0 hz (by rfl) (fun hb225 => ?_) (fun hb225 => ?_)
                          · refine zG_w (c' := (169, [.inr (.inr (some 97)), .inl a1, .inl x13, .inl v14, .inl v15, .inl x38, .inl x161, zN], [.inl 15, .inr (.inr (some 97))])) 1 hd0 hz (by rfl) ?_
                            exact j169 15 (by first | decide | omega) (by omega)
                          · refine zG_w (c' := (169, [.inr (.inr (some 97)), .inl a1, .inl x13, .inl v14, .inl v15, .inl x38, .inl x161, zN], [.inl 17, .inr (.inr (some 97))])) 2 hd0 hz (by rfl) ?_
                            exact j169 17 (by first | decide | omega) (by omega)
                        · refine zG_w (c' := (169, [.inr (.inr (some 97)), .inl a1, .inl x13, .inl v14, .inl v15, .inl x38, .inl x161, zN], [.inl 16, .inr (.inr (some 97))])) 2 hd0 hz (by rfl) ?_
                          exact j169 16 (by first | decide | omega) (by omega)
                      · refine zG_w (c' := (169, [.inr (.inr (some 97)), .inl a1, .inl x13, .inl v14, .inl v15, .inl x38, .inl x161, zN], [.inl 13, .inr (.inr (some 97))])) 2 hd0 hz (by rfl) ?_
                        exact j169 13 (by first | decide | omega) (by omega)
                    · refine zG_w (c' := (169, [.inr (.inr (some 97)), .inl a1, .inl x13, .inl v14, .inl v15, .inl x38, .inl x161, zN], [.inl 12, .inr (.inr (some 97))])) 2 hd0 hz (by rfl) ?_
                      exact j169 12 (by first | decide | omega) (by omega)
              refine zG_wi_le (pc := 102) (n' := 105) (t := 109) (L := [.inr (.inr (some 97)), .inl a1, .inl x13, .inl v14, .inl v15, .inl x38, .inl x161, zN]) (st := []) (x := x161) (y := 9) 0 hd0 hz (by rfl) (fun hb226 => ?_) (fun hb226 => ?_)
              · refine zG_w (c' := (110, [.inr (.inr (some 97)), .inl a1, .inl x13, .inl v14, .inl v15, .inl x38, .inl x161, zN], [.inl 0])) 1 hd0 hz (by rfl) ?_
                exact j110 0 (by first | decide | omega) (by omega)
              · refine zG_w (c' := (110, [.inr (.inr (some 97)), .inl a1, .inl x13, .inl v14, .inl v15, .inl x38, .inl x161, zN], [.inl 1])) 2 hd0 hz (by rfl) ?_
                exact j110 1 (by first | decide | omega) (by omega)
            · obtain ⟨x227, hx227⟩ : ∃ x : Int, x = w32 (10 * v15) := ⟨_, rfl⟩
              have hx227r : qin x227 := by rw [hx227]; exact w32_in _
              obtain ⟨x228, hx228⟩ : ∃ x : Int, x = w32 (x227 + 4) := ⟨_, rfl⟩
              have hx228r : x228 = (x227 + 4 + 2147483648) % 4294967296 - 2147483648 := hx228
              exact zG_wr (r := some (.inl x228)) 5 hd0 hz (by subst hx228; subst hx227; rfl) ⟨⟨hCM153, hWM153⟩, _, rfl, by omega⟩
        · obtain ⟨x229, hx229⟩ : ∃ x : Int, x = w32 (v15 + 1) := ⟨_, rfl⟩
          have hx229e : x229 = v15 + 1 := by rw [hx229]; exact w32_id (by omega)
          refine zG_w (c' := (502, [.inr (.inr (some 97)), .inl a1, .inl x13, .inl v14, .inl x229, .inl x38, zN, zN], [])) 2 hd0 hz (by subst hx229; rfl) ?_
          exact j502 v14 x229 M16 (by omega) (by omega) (by omega) (by omega) (by omega) (by omega) (by omega) hCM16 hWM16
  exact j27 ((x13 - 0 : Int).toNat + 1) 0 0 M7 (by omega) (by omega) (by omega) (by omega) (by omega) (by omega) (by omega) hCM7 hWM7
