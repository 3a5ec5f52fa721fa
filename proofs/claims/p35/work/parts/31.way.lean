/-! THE MODEL'S METHODS, BY PROGRAM -/
theorem qm_260_97 {n d : Nat} {M : zM} (hd : 1 ≤ d) (hC : qMI M)  (a1 : Int) (ha1 : 0 ≤ a1 ∧ a1 ≤ 16383) (a2 : Int) (ha2 : 0 ≤ a2 ∧ a2 ≤ 2) : qOkP n d 260 [.inr (.inr (some 97)), .inl a1, .inl a2] 7 M (fun v => ∃ x : Int, v = some (.inl x) ∧ (0 ≤ x ∧ x ≤ 16383)) := by
  have hz := zp_260
  have hd0 : 0 < d := by omega
  have r1 := hC.cnt0
  show zG n (0, 0) d 260 (0, [.inr (.inr (some 97)), .inl a1, .inl a2, zN, zN, zN, zN], []) M _
  refine zG_w (c' := (5, [.inr (.inr (some 97)), .inl a1, .inl a2, .inl 0, .inl 0, zN, zN], [])) 4 hd0 hz (by rfl) ?_
  have j5 : ∀ (N : Nat) (v2 v3 : Int) , (14 - v3 : Int).toNat < N → 0 ≤ v2 ∧ v2 ≤ 16383 → 0 ≤ v3 ∧ v3 ≤ 14 → zG n (0, 0) d 260 (5, [.inr (.inr (some 97)), .inl a1, .inl a2, .inl v2, .inl v3, zN, zN], []) M (fun v M' => M' = M ∧ ∃ x : Int, v = some (.inl x) ∧ (0 ≤ x ∧ x ≤ 16383)) := by
    intro N
    induction N with
    | zero => intro v2 v3 hN hv2 hv3; exact absurd hN (Nat.not_lt_zero _)
    | succ N ih5 =>
      intro v2 v3 hN hv2 hv3
      replace hN : 14 - v3 < (N : Int) + 1 := by omega
      refine zG_w (c' := (12, [.inr (.inr (some 97)), .inl a1, .inl a2, .inl v2, .inl v3, zN, zN], [.inl 0, .inr (.inr (some 98)), .inl v3])) 4 hd0 hz (by rfl) ?_
      refine zG_iald hd0 hz rfl rfl (.inl rfl) (by omega) ?_
      show zG n (0, 0) d 260 (13, [.inr (.inr (some 97)), .inl a1, .inl a2, .inl v2, .inl v3, zN, zN], [.inl (M 98 0), .inl v3]) M _
      refine zG_wi_ge (pc := 13) (n' := 16) (t := 116) (L := [.inr (.inr (some 97)), .inl a1, .inl a2, .inl v2, .inl v3, zN, zN]) (st := []) (x := v3) (y := (M 98 0)) 0 hd0 hz (by rfl) (fun hb4 => ?_) (fun hb4 => ?_)
      · exact zG_wr (r := some (.inl v2)) 1 hd0 hz (by rfl) ⟨rfl, _, rfl, by omega⟩
      · obtain ⟨x5, hx5⟩ : ∃ x : Int, x = w32 (4 * v3) := ⟨_, rfl⟩
        have hx5e : x5 = 4 * v3 := by rw [hx5]; exact w32_id (by omega)
        obtain ⟨x6, hx6⟩ : ∃ x : Int, x = w32 (20 + x5) := ⟨_, rfl⟩
        have hx6e : x6 = 20 + x5 := by rw [hx6]; exact w32_id (by omega)
        have r7 := hC.f28
        obtain ⟨x8, hx8⟩ : ∃ x : Int, x = zbshr (M 97 28) v3 := ⟨_, rfl⟩
        have hx8r := qbshr_n (M 97 28) v3 (by first | with_reducible exact hv3 | omega); rw [← hx8] at hx8r
        obtain ⟨x9, hx9⟩ : ∃ x : Int, x = zband x8 1 := ⟨_, rfl⟩
        have hx9r := qband_lr x8 1 (by first | decide | omega) (by omega); rw [← hx9] at hx9r
        refine zG_w (c' := (35, [.inr (.inr (some 97)), .inl a1, .inl a2, .inl v2, .inl v3, .inl x6, zN], [.inl 1, .inl x9])) 13 hd0 hz (by subst hx9; subst hx8; subst hx6; subst hx5; rfl) ?_
        have j92 : ∀ (v10 : Int) , 0 ≤ v10 ∧ v10 ≤ 1 → zG n (0, 0) d 260 (92, [.inr (.inr (some 97)), .inl a1, .inl a2, .inl v2, .inl v3, .inl x6, zN], [.inl v10]) M (fun v M' => M' = M ∧ ∃ x : Int, v = some (.inl x) ∧ (0 ≤ x ∧ x ≤ 16383)) := by
          intro v10 hv10
          refine zG_w (c' := (97, [.inr (.inr (some 97)), .inl a1, .inl a2, .inl v2, .inl v3, .inl x6, .inl v10], [.inl v10, .inl v2])) 3 hd0 hz (by rfl) ?_
          have j108 : ∀ (v11 : Int) , 0 ≤ v11 ∧ v11 ≤ 8192 → zG n (0, 0) d 260 (108, [.inr (.inr (some 97)), .inl a1, .inl a2, .inl v2, .inl v3, .inl x6, .inl v10], [.inl v11, .inl v2]) M (fun v M' => M' = M ∧ ∃ x : Int, v = some (.inl x) ∧ (0 ≤ x ∧ x ≤ 16383)) := by
            intro v11 hv11
            obtain ⟨x12, hx12⟩ : ∃ x : Int, x = zbor v2 v11 := ⟨_, rfl⟩
            have hx12r := qbor_in v2 v11 16384 14 (by decide) (by decide) (by omega) (by omega); rw [← hx12] at hx12r
            obtain ⟨x13, hx13⟩ : ∃ x : Int, x = w32 (v3 + 1) := ⟨_, rfl⟩
            have hx13e : x13 = v3 + 1 := by rw [hx13]; exact w32_id (by omega)
            refine zG_w (c' := (5, [.inr (.inr (some 97)), .inl a1, .inl a2, .inl x12, .inl x13, .inl x6, .inl v10], [])) 4 hd0 hz (by subst hx13; subst hx12; rfl) ?_
            exact zG_weak (ih5 x12 x13 (by omega) (by omega) (by omega)) ⟨.inr rfl, .inr rfl, .inr rfl, .inr rfl, .inr rfl, .inl rfl, .inl rfl, trivial⟩
          refine zG_wf_eq (pc := 97) (n' := 100) (t := 107) (L := [.inr (.inr (some 97)), .inl a1, .inl a2, .inl v2, .inl v3, .inl x6, .inl v10]) (st := [.inl v2]) (x := v10) 0 hd0 hz (by rfl) (fun hb14 => ?_) (fun hb14 => ?_)
          · refine zG_w (c' := (108, [.inr (.inr (some 97)), .inl a1, .inl a2, .inl v2, .inl v3, .inl x6, .inl v10], [.inl 0, .inl v2])) 1 hd0 hz (by rfl) ?_
            exact j108 0 (by first | decide | omega)
          · obtain ⟨x15, hx15⟩ : ∃ x : Int, x = zbshl 1 v3 := ⟨_, rfl⟩
            have hx15r := qshl1_in v3 8192 13 (by decide) (by decide) (by omega); rw [← hx15] at hx15r
            refine zG_w (c' := (108, [.inr (.inr (some 97)), .inl a1, .inl a2, .inl v2, .inl v3, .inl x6, .inl v10], [.inl x15, .inl v2])) 4 hd0 hz (by subst hx15; rfl) ?_
            exact j108 x15 (by omega)
        have j91 : zG n (0, 0) d 260 (91, [.inr (.inr (some 97)), .inl a1, .inl a2, .inl v2, .inl v3, .inl x6, zN], []) M (fun v M' => M' = M ∧ ∃ x : Int, v = some (.inl x) ∧ (0 ≤ x ∧ x ≤ 16383)) := by
          refine zG_w (c' := (92, [.inr (.inr (some 97)), .inl a1, .inl a2, .inl v2, .inl v3, .inl x6, zN], [.inl 0])) 1 hd0 hz (by rfl) ?_
          exact j92 0 (by first | decide | omega)
        refine zG_wi_ne (pc := 35) (n' := 38) (t := 91) (L := [.inr (.inr (some 97)), .inl a1, .inl a2, .inl v2, .inl v3, .inl x6, zN]) (st := []) (x := x9) (y := 1) 0 hd0 hz (by rfl) (fun hb16 => ?_) (fun hb16 => ?_)
        · exact j91
        · obtain ⟨x17, hx17⟩ : ∃ x : Int, x = zbshr a1 v3 := ⟨_, rfl⟩
          have hx17r := qbshr_n a1 v3 (by first | with_reducible exact hv3 | omega); rw [← hx17] at hx17r
          obtain ⟨x18, hx18⟩ : ∃ x : Int, x = zband x17 1 := ⟨_, rfl⟩
          have hx18r := qband_lr x17 1 (by first | decide | omega) (by omega); rw [← hx18] at hx18r
          refine zG_wf_ne (pc := 44) (n' := 47) (t := 91) (L := [.inr (.inr (some 97)), .inl a1, .inl a2, .inl v2, .inl v3, .inl x6, zN]) (st := []) (x := x18) 5 hd0 hz (by subst hx18; subst hx17; rfl) (fun hb19 => ?_) (fun hb19 => ?_)
          · exact j91
          · obtain ⟨x20, hx20⟩ : ∃ x : Int, x = w32 (x6 + 2) := ⟨_, rfl⟩
            have hx20e : x20 = x6 + 2 := by rw [hx20]; exact w32_id (by omega)
            refine zG_w (c' := (55, [.inr (.inr (some 97)), .inl a1, .inl a2, .inl v2, .inl v3, .inl x6, zN], [.inl x20, .inr (.inr (some 98))])) 5 hd0 hz (by subst hx20; rfl) ?_
            refine zG_iald hd0 hz rfl rfl (.inl rfl) (by omega) ?_
            obtain ⟨x21, hx21⟩ : ∃ x : Int, x = M 98 (x20 : Int).toNat := ⟨_, rfl⟩
            rw [← hx21]
            have hx21r : qin x21 := by rw [hx21]; exact hC.sin _
            show zG n (0, 0) d 260 (56, [.inr (.inr (some 97)), .inl a1, .inl a2, .inl v2, .inl v3, .inl x6, zN], [.inl x21]) M _
            obtain ⟨x22, hx22⟩ : ∃ x : Int, x = zbshr x21 a2 := ⟨_, rfl⟩
            have hx22r : qin x22 := by rw [hx22]; exact qb32 _
            obtain ⟨x23, hx23⟩ : ∃ x : Int, x = zband x22 1 := ⟨_, rfl⟩
            have hx23r := qband_r x22 1 (by first | decide | omega) (by omega); rw [← hx23] at hx23r
            have hx23l : 0 ≤ x22 → x23 ≤ x22 := fun h9 => by rw [hx23]; exact (qband_l x22 1 ⟨h9, by omega⟩ (by omega)).2
            refine zG_wi_ne (pc := 61) (n' := 64) (t := 91) (L := [.inr (.inr (some 97)), .inl a1, .inl a2, .inl v2, .inl v3, .inl x6, zN]) (st := []) (x := x23) (y := 1) 5 hd0 hz (by subst hx23; subst hx22; rfl) (fun hb24 => ?_) (fun hb24 => ?_)
            · exact j91
            · obtain ⟨x25, hx25⟩ : ∃ x : Int, x = w32 (x6 + 1) := ⟨_, rfl⟩
              have hx25e : x25 = x6 + 1 := by rw [hx25]; exact w32_id (by omega)
              refine zG_w (c' := (72, [.inr (.inr (some 97)), .inl a1, .inl a2, .inl v2, .inl v3, .inl x6, zN], [.inl x25, .inr (.inr (some 98))])) 5 hd0 hz (by subst hx25; rfl) ?_
              refine zG_iald hd0 hz rfl rfl (.inl rfl) (by omega) ?_
              obtain ⟨x26, hx26⟩ : ∃ x : Int, x = M 98 (x25 : Int).toNat := ⟨_, rfl⟩
              rw [← hx26]
              have hx26r : qin x26 := by rw [hx26]; exact hC.sin _
              show zG n (0, 0) d 260 (73, [.inr (.inr (some 97)), .inl a1, .inl a2, .inl v2, .inl v3, .inl x6, zN], [.inl x26]) M _
              obtain ⟨x27, hx27⟩ : ∃ x : Int, x = zbxor a1 (-1) := ⟨_, rfl⟩
              have hx27r : qin x27 := by rw [hx27]; exact qb32 _
              obtain ⟨x28, hx28⟩ : ∃ x : Int, x = zband x26 x27 := ⟨_, rfl⟩
              have hx28r : qin x28 := by rw [hx28]; exact qb32 _
              have r29 := hC.rg 97 21 (by decide) (by decide)
              obtain ⟨x30, hx30⟩ : ∃ x : Int, x = zbxor (M 97 21) (-1) := ⟨_, rfl⟩
              have hx30r : qin x30 := by rw [hx30]; exact qb32 _
              obtain ⟨x31, hx31⟩ : ∃ x : Int, x = zband x28 x30 := ⟨_, rfl⟩
              have hx31r : qin x31 := by rw [hx31]; exact qb32 _
              refine zG_wf_ne (pc := 84) (n' := 87) (t := 91) (L := [.inr (.inr (some 97)), .inl a1, .inl a2, .inl v2, .inl v3, .inl x6, zN]) (st := []) (x := x31) 9 hd0 hz (by subst hx31; subst hx30; subst hx28; subst hx27; rfl) (fun hb32 => ?_) (fun hb32 => ?_)
              · exact j91
              · refine zG_w (c' := (92, [.inr (.inr (some 97)), .inl a1, .inl a2, .inl v2, .inl v3, .inl x6, zN], [.inl 1])) 2 hd0 hz (by rfl) ?_
                exact j92 1 (by first | decide | omega)
  exact j5 ((14 - 0 : Int).toNat + 1) 0 0 (by first | decide | omega) (by omega) (by omega)
theorem qm_261_97 {n d : Nat} {M : zM} (hd : 2 ≤ d) (hC : qMI M)  (a1 : Int) (ha1 : 0 ≤ a1 ∧ a1 ≤ 16383) (a2 : Int) (ha2 : 0 ≤ a2 ∧ a2 ≤ 2) : qOkN n d 261 [.inr (.inr (some 97)), .inl a1, .inl a2] 5 [115, 1030] M (fun v M' => v = none) := by
  have hz := zp_261
  have hd0 : 0 < d := by omega
  have hW : qFm [115, 1030] M M := qFm.rfl
  show zG n (0, 0) d 261 (0, [.inr (.inr (some 97)), .inl a1, .inl a2, zN, zN], []) M _
  refine zG_wp (pc := 6) (L := [.inr (.inr (some 97)), .inl a1, .inl a2, zN, zN]) (st := []) 3 hd0 hz zp_260 (qm_260_97 (by first | exact zdk hd rfl | omega) hC   a1 (by first | with_reducible exact ha1 | omega) a2 (by first | with_reducible exact ha2 | omega) ) (by rfl) (fun x2 hx2 => ?_)
  refine zG_w (c' := (9, [.inr (.inr (some 97)), .inl a1, .inl a2, .inl x2, zN], [.inl 0, .inr (.inr (some 97))])) 3 hd0 hz (by rfl) ?_
  refine zG_putf (.inl rfl) hd0 hz rfl (by decide) rfl rfl ?_
  obtain ⟨M3, hM3⟩ : ∃ X : zM, X = zput M 97 30 0 := ⟨_, rfl⟩
  rw [← hM3]
  have hCM3 : qMI M3 := by rw [hM3]; exact hC.put (by decide) (by decide) (by first | exact qMC_97 (by decide) (fun _ => by omega) | (refine ⟨fun _ => ?_, fun _ => ?_, fun h => ⟨fun _ => ?_, fun _ => ?_, fun _ => ?_, fun _ => ?_, fun _ => ?_⟩, fun h => ?_, fun h => ?_⟩ <;> first | omega | exact absurd rfl (by assumption) | (rename_i h9; exact absurd h9 (by decide))))
  have hWM3 : qFm [115, 1030] M M3 := by rw [hM3]; exact hW.put (by decide)
  have e4 : M3 97 30 = 0 := by rw [hM3]; exact qput_eq
  show zG n (0, 0) d 261 (12, [.inr (.inr (some 97)), .inl a1, .inl a2, .inl x2, zN], []) M3 _
  refine zG_w (c' := (15, [.inr (.inr (some 97)), .inl a1, .inl a2, .inl x2, .inl 0], [])) 2 hd0 hz (by rfl) ?_
  have j15 : ∀ (N : Nat) (v5 : Int) (M6 : zM) , (14 - v5 : Int).toNat < N → 0 ≤ v5 ∧ v5 ≤ 14 → (M6 97 30 ≤ v5) → qMI M6 → qFm [115, 1030] M M6 → zG n (0, 0) d 261 (15, [.inr (.inr (some 97)), .inl a1, .inl a2, .inl x2, .inl v5], []) M6 (fun v M' => (qMI M' ∧ qFm [115, 1030] M M') ∧ v = none) := by
    intro N
    induction N with
    | zero => intro v5 M6 hN hv5 hx0_15 hCM6 hWM6; exact absurd hN (Nat.not_lt_zero _)
    | succ N ih15 =>
      intro v5 M6 hN hv5 hx0_15 hCM6 hWM6
      replace hN : 14 - v5 < (N : Int) + 1 := by omega
      have r7 := hCM6.f30
      refine zG_wi_ge (pc := 19) (n' := 22) (t := 59) (L := [.inr (.inr (some 97)), .inl a1, .inl a2, .inl x2, .inl v5]) (st := []) (x := v5) (y := 14) 2 hd0 hz (by rfl) (fun hb8 => ?_) (fun hb8 => ?_)
      · exact zG_ret hd0 hz rfl rfl ⟨⟨hCM6, hWM6⟩, rfl⟩
      · obtain ⟨x9, hx9⟩ : ∃ x : Int, x = zbshr x2 v5 := ⟨_, rfl⟩
        have hx9r := qbshr_n x2 v5 (by first | with_reducible exact hv5 | omega); rw [← hx9] at hx9r
        obtain ⟨x10, hx10⟩ : ∃ x : Int, x = zband x9 1 := ⟨_, rfl⟩
        have hx10r := qband_lr x9 1 (by first | decide | omega) (by omega); rw [← hx10] at hx10r
        refine zG_w (c' := (29, [.inr (.inr (some 97)), .inl a1, .inl a2, .inl x2, .inl v5], [.inl 1, .inl x10])) 6 hd0 hz (by subst hx10; subst hx9; rfl) ?_
        have j53 : ∀ (M11 : zM) , (M11 97 30 ≤ v5 + 1) → qMI M11 → qFm [115, 1030] M M11 → zG n (0, 0) d 261 (53, [.inr (.inr (some 97)), .inl a1, .inl a2, .inl x2, .inl v5], []) M11 (fun v M' => (qMI M' ∧ qFm [115, 1030] M M') ∧ v = none) := by
          intro M11 hx0_53 hCM11 hWM11
          have r12 := hCM11.f30
          obtain ⟨x13, hx13⟩ : ∃ x : Int, x = w32 (v5 + 1) := ⟨_, rfl⟩
          have hx13e : x13 = v5 + 1 := by rw [hx13]; exact w32_id (by omega)
          refine zG_w (c' := (15, [.inr (.inr (some 97)), .inl a1, .inl a2, .inl x2, .inl x13], [])) 2 hd0 hz (by subst hx13; rfl) ?_
          exact ih15 x13 M11 (by omega) (by omega) (by omega) hCM11 hWM11
        refine zG_wi_ne (pc := 29) (n' := 32) (t := 53) (L := [.inr (.inr (some 97)), .inl a1, .inl a2, .inl x2, .inl v5]) (st := []) (x := x10) (y := 1) 0 hd0 hz (by rfl) (fun hb14 => ?_) (fun hb14 => ?_)
        · exact j53 M6 (by omega) hCM6 hWM6
        · refine zG_w (c' := (42, [.inr (.inr (some 97)), .inl a1, .inl a2, .inl x2, .inl v5], [.inl v5, .inl (M6 97 30), .inr (.inr (some 115))])) 5 hd0 hz (by rfl) ?_
          refine zG_iast hd0 hz rfl rfl (by omega) ?_
          obtain ⟨M15, hM15⟩ : ∃ X : zM, X = zput M6 115 ((M6 97 30) : Int).toNat v5 := ⟨_, rfl⟩
          rw [← hM15]
          have hCM15 : qMI M15 := by rw [hM15]; exact hCM6.put (by decide) (qCd_a (by decide) (by decide)) (by first | exact qMC_ar (by decide) (fun _ => by omega) | (refine ⟨fun h => ?_, fun _ => ?_, fun h => ?_, fun h => ?_, fun h => ?_⟩ <;> first | omega | exact absurd h (by decide)))
          have hWM15 : qFm [115, 1030] M M15 := by rw [hM15]; exact hWM6.pa (by decide) (by decide)
          have e16 : M15 97 30 = M6 97 30 := by rw [hM15]; exact qput_ne (by decide)
          show zG n (0, 0) d 261 (43, [.inr (.inr (some 97)), .inl a1, .inl a2, .inl x2, .inl v5], []) M15 _
          obtain ⟨x17, hx17⟩ : ∃ x : Int, x = w32 ((M15 97 30) + 1) := ⟨_, rfl⟩
          have hx17e : x17 = (M15 97 30) + 1 := by rw [hx17]; exact w32_id (by omega)
          refine zG_w (c' := (50, [.inr (.inr (some 97)), .inl a1, .inl a2, .inl x2, .inl v5], [.inl x17, .inr (.inr (some 97))])) 5 hd0 hz (by subst hx17; rfl) ?_
          refine zG_putf (.inl rfl) hd0 hz rfl (by decide) rfl rfl ?_
          obtain ⟨M18, hM18⟩ : ∃ X : zM, X = zput M15 97 30 x17 := ⟨_, rfl⟩
          rw [← hM18]
          have hCM18 : qMI M18 := by rw [hM18]; exact hCM15.put (by decide) (by decide) (by first | exact qMC_97 (by decide) (fun _ => by omega) | (refine ⟨fun _ => ?_, fun _ => ?_, fun h => ⟨fun _ => ?_, fun _ => ?_, fun _ => ?_, fun _ => ?_, fun _ => ?_⟩, fun h => ?_, fun h => ?_⟩ <;> first | omega | exact absurd rfl (by assumption) | (rename_i h9; exact absurd h9 (by decide))))
          have hWM18 : qFm [115, 1030] M M18 := by rw [hM18]; exact hWM15.put (by decide)
          have e19 : M18 97 30 = x17 := by rw [hM18]; exact qput_eq
          show zG n (0, 0) d 261 (53, [.inr (.inr (some 97)), .inl a1, .inl a2, .inl x2, .inl v5], []) M18 _
          exact j53 M18 (by omega) hCM18 hWM18
  exact j15 ((14 - 0 : Int).toNat + 1) 0 M3 (by omega) (by omega) (by omega) hCM3 hWM3
theorem qm_262_97 {n d : Nat} {M : zM} (hd : 1 ≤ d) (hC : qMI M)  (a1 : Int) (ha1 : 0 ≤ a1 ∧ a1 ≤ 32767) : qOkP n d 262 [.inr (.inr (some 97)), .inl a1] 4 M (fun v => ∃ x : Int, v = some (.inl x) ∧ (0 ≤ x ∧ x ≤ 16383)) := by
  have hz := zp_262
  have hd0 : 0 < d := by omega
  show zG n (0, 0) d 262 (0, [.inr (.inr (some 97)), .inl a1, zN, zN], []) M _
  refine zG_w (c' := (4, [.inr (.inr (some 97)), .inl a1, .inl 0, .inl 0], [])) 4 hd0 hz (by rfl) ?_
  have j4 : ∀ (N : Nat) (v1 v2 : Int) , (14 - v2 : Int).toNat < N → 0 ≤ v1 ∧ v1 ≤ 16383 → 0 ≤ v2 ∧ v2 ≤ 14 → zG n (0, 0) d 262 (4, [.inr (.inr (some 97)), .inl a1, .inl v1, .inl v2], []) M (fun v M' => M' = M ∧ ∃ x : Int, v = some (.inl x) ∧ (0 ≤ x ∧ x ≤ 16383)) := by
    intro N
    induction N with
    | zero => intro v1 v2 hN hv1 hv2; exact absurd hN (Nat.not_lt_zero _)
    | succ N ih4 =>
      intro v1 v2 hN hv1 hv2
      replace hN : 14 - v2 < (N : Int) + 1 := by omega
      have r3 := hC.f30
      refine zG_wi_ge (pc := 9) (n' := 12) (t := 33) (L := [.inr (.inr (some 97)), .inl a1, .inl v1, .inl v2]) (st := []) (x := v2) (y := (M 97 30)) 3 hd0 hz (by rfl) (fun hb4 => ?_) (fun hb4 => ?_)
      · exact zG_wr (r := some (.inl v1)) 1 hd0 hz (by rfl) ⟨rfl, _, rfl, by omega⟩
      · obtain ⟨x5, hx5⟩ : ∃ x : Int, x = zbshr a1 v2 := ⟨_, rfl⟩
        have hx5r := qbshr_n a1 v2 (by first | with_reducible exact hv2 | omega); rw [← hx5] at hx5r
        obtain ⟨x6, hx6⟩ : ∃ x : Int, x = zband x5 1 := ⟨_, rfl⟩
        have hx6r := qband_lr x5 1 (by first | decide | omega) (by omega); rw [← hx6] at hx6r
        refine zG_w (c' := (23, [.inr (.inr (some 97)), .inl a1, .inl v1, .inl v2], [.inl v2, .inr (.inr (some 115)), .inl x6, .inl v1])) 9 hd0 hz (by subst hx6; subst hx5; rfl) ?_
        refine zG_iald hd0 hz rfl rfl (.inl rfl) (by omega) ?_
        obtain ⟨x7, hx7⟩ : ∃ x : Int, x = M 115 (v2 : Int).toNat := ⟨_, rfl⟩
        rw [← hx7]
        have hx7r : 0 ≤ x7 ∧ x7 ≤ 13 := by rw [hx7]; exact hC.c115 _
        show zG n (0, 0) d 262 (24, [.inr (.inr (some 97)), .inl a1, .inl v1, .inl v2], [.inl x7, .inl x6, .inl v1]) M _
        obtain ⟨x8, hx8⟩ : ∃ x : Int, x = zbshl x6 x7 := ⟨_, rfl⟩
        have hx8r := qshl_in x6 x7 1 8192 13 (by decide) (by decide) (by omega) (by omega) (by decide); rw [← hx8] at hx8r
        obtain ⟨x9, hx9⟩ : ∃ x : Int, x = zbor v1 x8 := ⟨_, rfl⟩
        have hx9r := qbor_in v1 x8 16384 14 (by decide) (by decide) (by omega) (by omega); rw [← hx9] at hx9r
        obtain ⟨x10, hx10⟩ : ∃ x : Int, x = w32 (v2 + 1) := ⟨_, rfl⟩
        have hx10e : x10 = v2 + 1 := by rw [hx10]; exact w32_id (by omega)
        refine zG_w (c' := (4, [.inr (.inr (some 97)), .inl a1, .inl x9, .inl x10], [])) 5 hd0 hz (by subst hx10; subst hx9; subst hx8; rfl) ?_
        exact ih4 x9 x10 (by omega) (by omega) (by omega)
  exact j4 ((14 - 0 : Int).toNat + 1) 0 0 (by first | decide | omega) (by omega) (by omega)
theorem qm_263 {n d : Nat} {M : zM} (hd : 1 ≤ d) (hC : qMI M)  (a0 : Int) (ha0 : 1 ≤ a0 ∧ a0 ≤ 16383) : qOkP n d 263 [.inl a0] 3 M (fun v => ∃ x : Int, v = some (.inl x) ∧ (2 ≤ x ∧ x ≤ 32767) ∧ (a0 < x)) := by
  have hz := zp_263
  have hd0 : 0 < d := by omega
  show zG n (0, 0) d 263 (0, [.inl a0, zN, zN], []) M _
  obtain ⟨x1, hx1⟩ : ∃ x : Int, x = w32 (-a0) := ⟨_, rfl⟩
  have hx1r : qin x1 := by rw [hx1]; exact w32_in _
  obtain ⟨x2, hx2⟩ : ∃ x : Int, x = zband a0 x1 := ⟨_, rfl⟩
  have hx2r := qband_l a0 x1 (by omega) (by omega); rw [← hx2] at hx2r
  have hlw : 1 ≤ x2 ∧ x2 ≤ a0 := by rw [hx2, hx1]; exact qlow a0 (by first | with_reducible exact ha0 | omega)
  obtain ⟨x3, hx3⟩ : ∃ x : Int, x = w32 (a0 + x2) := ⟨_, rfl⟩
  have hx3e : x3 = a0 + x2 := by rw [hx3]; exact w32_id (by omega)
  obtain ⟨x4, hx4⟩ : ∃ x : Int, x = zbxor a0 x3 := ⟨_, rfl⟩
  have hx4r := qbxor_in a0 x3 32768 15 (by decide) (by decide) (by omega) (by omega); rw [← hx4] at hx4r
  refine zG_w (c' := (14, [.inl a0, .inl x2, .inl x3], [.inl x2, .inl x4, .inl x3])) 14 hd0 hz (by subst hx4; subst hx3; subst hx2; subst hx1; rfl) ?_
  refine zG_idiv hd0 hz rfl (by omega) ?_
  have hx5 := qtdiv_in x4 x2 (by omega) (by omega)
  generalize w32 (x4.tdiv x2) = x5 at hx5 ⊢
  show zG n (0, 0) d 263 (15, [.inl a0, .inl x2, .inl x3], [.inl x5, .inl x3]) M _
  obtain ⟨x6, hx6⟩ : ∃ x : Int, x = zbshr x5 2 := ⟨_, rfl⟩
  have hx6r := qbshr_n x5 2 (by first | decide | omega); rw [← hx6] at hx6r
  obtain ⟨x7, hx7⟩ : ∃ x : Int, x = zbor x3 x6 := ⟨_, rfl⟩
  have hx7r := qbor_in x3 x6 32768 15 (by decide) (by decide) (by omega) (by omega); rw [← hx7] at hx7r
  exact zG_wr (r := some (.inl x7)) 3 hd0 hz (by subst hx7; subst hx6; rfl) ⟨rfl, _, rfl, by omega, by omega⟩
theorem qm_264_97 {n d : Nat} {M : zM} (hd : 1 ≤ d) (hC : qMI M)  (a1 : Int) (ha1 : 1 ≤ a1 ∧ a1 ≤ 4) : qOkP n d 264 [.inr (.inr (some 97)), .inl a1] 2 M (fun v => ∃ x : Int, v = some (.inl x) ∧ (0 ≤ x ∧ x ≤ 14)) := by
  have hz := zp_264
  have hd0 : 0 < d := by omega
  show zG n (0, 0) d 264 (0, [.inr (.inr (some 97)), .inl a1], []) M _
  have r1 := hC.f30
  refine zG_w (c' := (5, [.inr (.inr (some 97)), .inl a1], [.inl a1, .inl (M 97 30)])) 3 hd0 hz (by rfl) ?_
  have j16 : ∀ (v2 : Int) , 0 ≤ v2 ∧ v2 ≤ 14 → zG n (0, 0) d 264 (16, [.inr (.inr (some 97)), .inl a1], [.inl v2]) M (fun v M' => M' = M ∧ ∃ x : Int, v = some (.inl x) ∧ (0 ≤ x ∧ x ≤ 14)) := by
    intro v2 hv2
    exact zG_wr (r := some (.inl v2)) 0 hd0 hz (by rfl) ⟨rfl, _, rfl, by omega⟩
  refine zG_wi_ge (pc := 5) (n' := 8) (t := 15) (L := [.inr (.inr (some 97)), .inl a1]) (st := []) (x := (M 97 30)) (y := a1) 0 hd0 hz (by rfl) (fun hb3 => ?_) (fun hb3 => ?_)
  · refine zG_w (c' := (16, [.inr (.inr (some 97)), .inl a1], [.inl a1])) 1 hd0 hz (by rfl) ?_
    exact j16 a1 (by first | with_reducible exact ha1 | omega)
  · refine zG_w (c' := (16, [.inr (.inr (some 97)), .inl a1], [.inl (M 97 30)])) 3 hd0 hz (by rfl) ?_
    exact j16 (M 97 30) (by omega)
set_option maxRecDepth 100000 in
theorem qm_265_97 {n d : Nat} {M : zM} (hd : 3 ≤ d) (hC : qMI M)  (a1 : Int) (ha1 : 1 ≤ a1 ∧ a1 ≤ 4) : qOkN n d 265 [.inr (.inr (some 97)), .inl a1] 9 [114, 115, 1030, 1031, 1032, 1033] M (fun v M' => v = none) := by
  have hz := zp_265
  have hd0 : 0 < d := by omega
  have hW : qFm [114, 115, 1030, 1031, 1032, 1033] M M := qFm.rfl
  show zG n (0, 0) d 265 (0, [.inr (.inr (some 97)), .inl a1, zN, zN, zN, zN, zN, zN, zN], []) M _
  have r1 := hC.rg 97 31 (by decide) (by decide)
  have r2 := hC.f28
  refine zG_w (c' := (8, [.inr (.inr (some 97)), .inl a1, zN, zN, zN, zN, zN, zN, zN], [.inl (M 97 28), .inl (M 97 31)])) 4 hd0 hz (by rfl) ?_
  have j31 : zG n (0, 0) d 265 (31, [.inr (.inr (some 97)), .inl a1, zN, zN, zN, zN, zN, zN, zN], []) M (fun v M' => (qMI M' ∧ qFm [114, 115, 1030, 1031, 1032, 1033] M M') ∧ v = none) := by
    refine zG_w (c' := (36, [.inr (.inr (some 97)), .inl a1, zN, zN, zN, zN, zN, zN, zN], [.inl (M 97 28), .inr (.inr (some 97))])) 3 hd0 hz (by rfl) ?_
    refine zG_putf (.inl rfl) hd0 hz rfl (by decide) rfl rfl ?_
    obtain ⟨M3, hM3⟩ : ∃ X : zM, X = zput M 97 31 (M 97 28) := ⟨_, rfl⟩
    rw [← hM3]
    have hCM3 : qMI M3 := by rw [hM3]; exact hC.put (by decide) (by decide) (by first | exact qMC_97 (by decide) (fun _ => by omega) | (refine ⟨fun _ => ?_, fun _ => ?_, fun h => ⟨fun _ => ?_, fun _ => ?_, fun _ => ?_, fun _ => ?_, fun _ => ?_⟩, fun h => ?_, fun h => ?_⟩ <;> first | omega | exact absurd rfl (by assumption) | (rename_i h9; exact absurd h9 (by decide))))
    have hWM3 : qFm [114, 115, 1030, 1031, 1032, 1033] M M3 := by rw [hM3]; exact hW.put (by decide)
    have e4 : M3 97 28 = M 97 28 := by rw [hM3]; exact qput_nk (by decide)
    have e5 : M3 97 31 = (M 97 28) := by rw [hM3]; exact qput_eq
    show zG n (0, 0) d 265 (39, [.inr (.inr (some 97)), .inl a1, zN, zN, zN, zN, zN, zN, zN], []) M3 _
    have r6 := hCM3.rg 97 21 (by decide) (by decide)
    refine zG_w (c' := (44, [.inr (.inr (some 97)), .inl a1, zN, zN, zN, zN, zN, zN, zN], [.inl (M3 97 21), .inr (.inr (some 97))])) 3 hd0 hz (by rfl) ?_
    refine zG_putf (.inl rfl) hd0 hz rfl (by decide) rfl rfl ?_
    obtain ⟨M7, hM7⟩ : ∃ X : zM, X = zput M3 97 32 (M3 97 21) := ⟨_, rfl⟩
    rw [← hM7]
    have hCM7 : qMI M7 := by rw [hM7]; exact hCM3.put (by decide) (by decide) (by first | exact qMC_97 (by decide) (fun _ => by omega) | (refine ⟨fun _ => ?_, fun _ => ?_, fun h => ⟨fun _ => ?_, fun _ => ?_, fun _ => ?_, fun _ => ?_, fun _ => ?_⟩, fun h => ?_, fun h => ?_⟩ <;> first | omega | exact absurd rfl (by assumption) | (rename_i h9; exact absurd h9 (by decide))))
    have hWM7 : qFm [114, 115, 1030, 1031, 1032, 1033] M M7 := by rw [hM7]; exact hWM3.put (by decide)
    have e8 : M7 97 28 = M3 97 28 := by rw [hM7]; exact qput_nk (by decide)
    have e9 : M7 97 31 = M3 97 31 := by rw [hM7]; exact qput_nk (by decide)
    have e10 : M7 97 21 = M3 97 21 := by rw [hM7]; exact qput_nk (by decide)
    have e11 : M7 97 32 = (M3 97 21) := by rw [hM7]; exact qput_eq
    show zG n (0, 0) d 265 (47, [.inr (.inr (some 97)), .inl a1, zN, zN, zN, zN, zN, zN, zN], []) M7 _
    refine zG_w (c' := (49, [.inr (.inr (some 97)), .inl a1, zN, zN, zN, zN, zN, zN, zN], [.inl a1, .inr (.inr (some 97))])) 2 hd0 hz (by rfl) ?_
    refine zG_putf (.inl rfl) hd0 hz rfl (by decide) rfl rfl ?_
    obtain ⟨M12, hM12⟩ : ∃ X : zM, X = zput M7 97 33 a1 := ⟨_, rfl⟩
    rw [← hM12]
    have hCM12 : qMI M12 := by rw [hM12]; exact hCM7.put (by decide) (by decide) (by first | exact qMC_97 (by decide) (fun _ => by omega) | (refine ⟨fun _ => ?_, fun _ => ?_, fun h => ⟨fun _ => ?_, fun _ => ?_, fun _ => ?_, fun _ => ?_, fun _ => ?_⟩, fun h => ?_, fun h => ?_⟩ <;> first | omega | exact absurd rfl (by assumption) | (rename_i h9; exact absurd h9 (by decide))))
    have hWM12 : qFm [114, 115, 1030, 1031, 1032, 1033] M M12 := by rw [hM12]; exact hWM7.put (by decide)
    have e13 : M12 97 28 = M7 97 28 := by rw [hM12]; exact qput_nk (by decide)
    have e14 : M12 97 31 = M7 97 31 := by rw [hM12]; exact qput_nk (by decide)
    have e15 : M12 97 21 = M7 97 21 := by rw [hM12]; exact qput_nk (by decide)
    have e16 : M12 97 32 = M7 97 32 := by rw [hM12]; exact qput_nk (by decide)
    have e17 : M12 97 33 = a1 := by rw [hM12]; exact qput_eq
    show zG n (0, 0) d 265 (52, [.inr (.inr (some 97)), .inl a1, zN, zN, zN, zN, zN, zN, zN], []) M12 _
    refine zG_w (c' := (59, [.inr (.inr (some 97)), .inl a1, .inl (M12 97 28), .inl 1, zN, zN, zN, zN, zN], [])) 5 hd0 hz (by rfl) ?_
    have j59 : ∀ (N : Nat) (v18 v19 : Int) (M20 : zM) , (20000 * v19 + v18 : Int).toNat < N → 0 ≤ v18 ∧ v18 ≤ 16383 → 0 ≤ v19 ∧ v19 ≤ 1 → qMI M20 → qFm [114, 115, 1030, 1031, 1032, 1033] M M20 → zG n (0, 0) d 265 (59, [.inr (.inr (some 97)), .inl a1, .inl v18, .inl v19, zN, zN, zN, zN, zN], []) M20 (fun v M' => (qMI M' ∧ qFm [114, 115, 1030, 1031, 1032, 1033] M M') ∧ v = none) := by
      intro N
      induction N with
      | zero => intro v18 v19 M20 hN hv18 hv19 hCM20 hWM20; exact absurd hN (Nat.not_lt_zero _)
      | succ N ih59 =>
        intro v18 v19 M20 hN hv18 hv19 hCM20 hWM20
        replace hN : 20000 * v19 + v18 < (N : Int) + 1 := by omega
        refine zG_wf_eq (pc := 60) (n' := 63) (t := 312) (L := [.inr (.inr (some 97)), .inl a1, .inl v18, .inl v19, zN, zN, zN, zN, zN]) (st := []) (x := v19) 1 hd0 hz (by rfl) (fun hb21 => ?_) (fun hb21 => ?_)
        · exact zG_ret hd0 hz rfl rfl ⟨⟨hCM20, hWM20⟩, rfl⟩
        · refine zG_w (c' := (66, [.inr (.inr (some 97)), .inl a1, .inl v18, .inl v19, .inl 0, zN, zN, zN, zN], [])) 2 hd0 hz (by rfl) ?_
          have j66 : ∀ (N : Nat) (v22 : Int) (M23 : zM) , (3 - v22 : Int).toNat < N → 0 ≤ v22 ∧ v22 ≤ 3 → qMI M23 → qFm [114, 115, 1030, 1031, 1032, 1033] M M23 → zG n (0, 0) d 265 (66, [.inr (.inr (some 97)), .inl a1, .inl v18, .inl v19, .inl v22, zN, zN, zN, zN], []) M23 (fun v M' => (qMI M' ∧ qFm [114, 115, 1030, 1031, 1032, 1033] M M') ∧ v = none) := by
            intro N
            induction N with
            | zero => intro v22 M23 hN hv22 hCM23 hWM23; exact absurd hN (Nat.not_lt_zero _)
            | succ N ih66 =>
              intro v22 M23 hN hv22 hCM23 hWM23
              replace hN : 3 - v22 < (N : Int) + 1 := by omega
              refine zG_wi_ge (pc := 69) (n' := 72) (t := 198) (L := [.inr (.inr (some 97)), .inl a1, .inl v18, .inl v19, .inl v22, zN, zN, zN, zN]) (st := []) (x := v22) (y := 3) 2 hd0 hz (by rfl) (fun hb24 => ?_) (fun hb24 => ?_)
              · refine zG_w (c' := (201, [.inr (.inr (some 97)), .inl a1, .inl v18, .inl v19, .inl 0, zN, zN, zN, zN], [])) 2 hd0 hz (by rfl) ?_
                have j201 : ∀ (N : Nat) (v25 : Int) (M26 : zM) , (2 - v25 : Int).toNat < N → 0 ≤ v25 ∧ v25 ≤ 2 → qMI M26 → qFm [114, 115, 1030, 1031, 1032, 1033] M M26 → zG n (0, 0) d 265 (201, [.inr (.inr (some 97)), .inl a1, .inl v18, .inl v19, .inl v25, zN, zN, zN, zN], []) M26 (fun v M' => (qMI M' ∧ qFm [114, 115, 1030, 1031, 1032, 1033] M M') ∧ v = none) := by
                  intro N
                  induction N with
                  | zero => intro v25 M26 hN hv25 hCM26 hWM26; exact absurd hN (Nat.not_lt_zero _)
                  | succ N ih201 =>
                    intro v25 M26 hN hv25 hCM26 hWM26
                    replace hN : 2 - v25 < (N : Int) + 1 := by omega
                    refine zG_wi_ge (pc := 204) (n' := 207) (t := 290) (L := [.inr (.inr (some 97)), .inl a1, .inl v18, .inl v19, .inl v25, zN, zN, zN, zN]) (st := []) (x := v25) (y := 2) 2 hd0 hz (by rfl) (fun hb27 => ?_) (fun hb27 => ?_)
                    · refine zG_w (c' := (291, [.inr (.inr (some 97)), .inl a1, .inl v18, .inl v19, .inl v25, zN, zN, zN, zN], [.inl v18])) 1 hd0 hz (by rfl) ?_
                      have j299 : ∀ (v28 : Int) , 0 ≤ v28 ∧ v28 ≤ 1 → ((v28 = 1 ∧ 1 ≤ v18) ∨ (v28 = 0 ∧ v18 ≤ 0)) → zG n (0, 0) d 265 (299, [.inr (.inr (some 97)), .inl a1, .inl v18, .inl v19, .inl v25, zN, zN, zN, zN], [.inl v28]) M26 (fun v M' => (qMI M' ∧ qFm [114, 115, 1030, 1031, 1032, 1033] M M') ∧ v = none) := by
                        intro v28 hv28 hx0_299
                        obtain ⟨x29, hx29⟩ : ∃ x : Int, x = w32 (v18 - 1) := ⟨_, rfl⟩
                        have hx29e : x29 = v18 - 1 := by rw [hx29]; exact w32_id (by omega)
                        have r30 := hCM26.f28
                        obtain ⟨x31, hx31⟩ : ∃ x : Int, x = zband x29 (M26 97 28) := ⟨_, rfl⟩
                        have hx31r := qband_r x29 (M26 97 28) (by omega) (by omega); rw [← hx31] at hx31r
                        have hx31l : 0 ≤ x29 → x31 ≤ x29 := fun h9 => by rw [hx31]; exact (qband_l x29 (M26 97 28) ⟨h9, by omega⟩ (by omega)).2
                        refine zG_w (c' := (59, [.inr (.inr (some 97)), .inl a1, .inl x31, .inl v28, .inl v25, zN, zN, zN, zN], [])) 9 hd0 hz (by subst hx31; subst hx29; rfl) ?_
                        exact zG_weak (ih59 x31 v28 M26 (by omega) (by omega) (by omega) hCM26 hWM26) ⟨.inr rfl, .inr rfl, .inr rfl, .inr rfl, .inl rfl, .inr rfl, .inr rfl, .inr rfl, .inr rfl, trivial⟩
                      refine zG_wf_le (pc := 291) (n' := 294) (t := 298) (L := [.inr (.inr (some 97)), .inl a1, .inl v18, .inl v19, .inl v25, zN, zN, zN, zN]) (st := []) (x := v18) 0 hd0 hz (by rfl) (fun hb32 => ?_) (fun hb32 => ?_)
                      · refine zG_w (c' := (299, [.inr (.inr (some 97)), .inl a1, .inl v18, .inl v19, .inl v25, zN, zN, zN, zN], [.inl 0])) 1 hd0 hz (by rfl) ?_
                        exact j299 0 (by first | decide | omega) (by omega)
                      · refine zG_w (c' := (299, [.inr (.inr (some 97)), .inl a1, .inl v18, .inl v19, .inl v25, zN, zN, zN, zN], [.inl 1])) 2 hd0 hz (by rfl) ?_
                        exact j299 1 (by first | decide | omega) (by omega)
                    · refine zG_w (c' := (210, [.inr (.inr (some 97)), .inl a1, .inl v18, .inl v19, .inl v25, .inl 0, zN, zN, zN], [])) 2 hd0 hz (by rfl) ?_
                      have j210 : ∀ (N : Nat) (v33 : Int) (M34 : zM) , (3 - v33 : Int).toNat < N → 0 ≤ v33 ∧ v33 ≤ 3 → qMI M34 → qFm [114, 115, 1030, 1031, 1032, 1033] M M34 → zG n (0, 0) d 265 (210, [.inr (.inr (some 97)), .inl a1, .inl v18, .inl v19, .inl v25, .inl v33, zN, zN, zN], []) M34 (fun v M' => (qMI M' ∧ qFm [114, 115, 1030, 1031, 1032, 1033] M M') ∧ v = none) := by
                        intro N
                        induction N with
                        | zero => intro v33 M34 hN hv33 hCM34 hWM34; exact absurd hN (Nat.not_lt_zero _)
                        | succ N ih210 =>
                          intro v33 M34 hN hv33 hCM34 hWM34
                          replace hN : 3 - v33 < (N : Int) + 1 := by omega
                          refine zG_wi_ge (pc := 213) (n' := 216) (t := 284) (L := [.inr (.inr (some 97)), .inl a1, .inl v18, .inl v19, .inl v25, .inl v33, zN, zN, zN]) (st := []) (x := v33) (y := 3) 2 hd0 hz (by rfl) (fun hb35 => ?_) (fun hb35 => ?_)
                          · obtain ⟨x36, hx36⟩ : ∃ x : Int, x = w32 (v25 + 1) := ⟨_, rfl⟩
                            have hx36e : x36 = v25 + 1 := by rw [hx36]; exact w32_id (by omega)
                            refine zG_w (c' := (201, [.inr (.inr (some 97)), .inl a1, .inl v18, .inl v19, .inl x36, .inl v33, zN, zN, zN], [])) 2 hd0 hz (by subst hx36; rfl) ?_
                            exact zG_weak (ih201 x36 M34 (by omega) (by omega) hCM34 hWM34) ⟨.inr rfl, .inr rfl, .inr rfl, .inr rfl, .inr rfl, .inl rfl, .inr rfl, .inr rfl, .inr rfl, trivial⟩
                          · obtain ⟨x37, hx37⟩ : ∃ x : Int, x = w32 (3 * v18) := ⟨_, rfl⟩
                            have hx37e : x37 = 3 * v18 := by rw [hx37]; exact w32_id (by omega)
                            obtain ⟨x38, hx38⟩ : ∃ x : Int, x = w32 (v33 + 1) := ⟨_, rfl⟩
                            have hx38e : x38 = v33 + 1 := by rw [hx38]; exact w32_id (by omega)
                            refine zG_w (c' := (229, [.inr (.inr (some 97)), .inl a1, .inl v18, .inl v19, .inl v25, .inl v33, zN, zN, zN], [.inl 3, .inl x38, .inl x37, .inr (.inr (some 114)), .inl 1])) 10 hd0 hz (by subst hx38; subst hx37; rfl) ?_
                            refine zG_irem hd0 hz rfl (by omega) ?_
                            have hx39 := qtmod_in x38 3 (by first | decide | omega)
                            generalize x38.tmod 3 = x39 at hx39 ⊢
                            show zG n (0, 0) d 265 (230, [.inr (.inr (some 97)), .inl a1, .inl v18, .inl v19, .inl v25, .inl v33, zN, zN, zN], [.inl x39, .inl x37, .inr (.inr (some 114)), .inl 1]) M34 _
                            obtain ⟨x40, hx40⟩ : ∃ x : Int, x = w32 (x37 + x39) := ⟨_, rfl⟩
                            have hx40e : x40 = x37 + x39 := by rw [hx40]; exact w32_id (by omega)
                            refine zG_w (c' := (231, [.inr (.inr (some 97)), .inl a1, .inl v18, .inl v19, .inl v25, .inl v33, zN, zN, zN], [.inl x40, .inr (.inr (some 114)), .inl 1])) 1 hd0 hz (by subst hx40; rfl) ?_
                            refine zG_iald hd0 hz rfl rfl (.inl rfl) (by omega) ?_
                            obtain ⟨x41, hx41⟩ : ∃ x : Int, x = M34 114 (x40 : Int).toNat := ⟨_, rfl⟩
                            rw [← hx41]
                            have hx41r : qin x41 := by rw [hx41]; exact hCM34.ra 114 _ (by decide) (by decide)
                            show zG n (0, 0) d 265 (232, [.inr (.inr (some 97)), .inl a1, .inl v18, .inl v19, .inl v25, .inl v33, zN, zN, zN], [.inl x41, .inl 1]) M34 _
                            obtain ⟨x42, hx42⟩ : ∃ x : Int, x = w32 (1 + x41) := ⟨_, rfl⟩
                            have hx42r : x42 = (1 + x41 + 2147483648) % 4294967296 - 2147483648 := hx42
                            obtain ⟨x43, hx43⟩ : ∃ x : Int, x = w32 (3 * v18) := ⟨_, rfl⟩
                            have hx43e : x43 = 3 * v18 := by rw [hx43]; exact w32_id (by omega)
                            obtain ⟨x44, hx44⟩ : ∃ x : Int, x = w32 (x43 + v33) := ⟨_, rfl⟩
                            have hx44e : x44 = x43 + v33 := by rw [hx44]; exact w32_id (by omega)
                            obtain ⟨x45, hx45⟩ : ∃ x : Int, x = w32 (3 * v18) := ⟨_, rfl⟩
                            have hx45e : x45 = 3 * v18 := by rw [hx45]; exact w32_id (by omega)
                            obtain ⟨x46, hx46⟩ : ∃ x : Int, x = w32 (x45 + v33) := ⟨_, rfl⟩
                            have hx46e : x46 = x45 + v33 := by rw [hx46]; exact w32_id (by omega)
                            refine zG_w (c' := (257, [.inr (.inr (some 97)), .inl a1, .inl v18, .inl v19, .inl v25, .inl v33, .inl x42, zN, zN], [.inl x46, .inr (.inr (some 114)), .inl x42, .inl x44, .inr (.inr (some 114))])) 17 hd0 hz (by subst hx46; subst hx45; subst hx44; subst hx43; subst hx42; rfl) ?_
                            refine zG_iald hd0 hz rfl rfl (.inl rfl) (by omega) ?_
                            obtain ⟨x47, hx47⟩ : ∃ x : Int, x = M34 114 (x46 : Int).toNat := ⟨_, rfl⟩
                            rw [← hx47]
                            have hx47r : qin x47 := by rw [hx47]; exact hCM34.ra 114 _ (by decide) (by decide)
                            show zG n (0, 0) d 265 (258, [.inr (.inr (some 97)), .inl a1, .inl v18, .inl v19, .inl v25, .inl v33, .inl x42, zN, zN], [.inl x47, .inl x42, .inl x44, .inr (.inr (some 114))]) M34 _
                            have j277 : ∀ (v48 : Int) , (-2147483648) ≤ v48 ∧ v48 ≤ 2147483647 → zG n (0, 0) d 265 (277, [.inr (.inr (some 97)), .inl a1, .inl v18, .inl v19, .inl v25, .inl v33, .inl x42, zN, zN], [.inl v48, .inl x44, .inr (.inr (some 114))]) M34 (fun v M' => (qMI M' ∧ qFm [114, 115, 1030, 1031, 1032, 1033] M M') ∧ v = none) := by
                              intro v48 hv48
                              refine zG_iast hd0 hz rfl rfl (by omega) ?_
                              obtain ⟨M49, hM49⟩ : ∃ X : zM, X = zput M34 114 (x44 : Int).toNat v48 := ⟨_, rfl⟩
                              rw [← hM49]
                              have hCM49 : qMI M49 := by rw [hM49]; exact hCM34.put (by decide) (qCd_a (by decide) (by decide)) (by first | exact qMC_ar (by decide) (fun _ => by omega) | (refine ⟨fun h => ?_, fun _ => ?_, fun h => ?_, fun h => ?_, fun h => ?_⟩ <;> first | omega | exact absurd h (by decide)))
                              have hWM49 : qFm [114, 115, 1030, 1031, 1032, 1033] M M49 := by rw [hM49]; exact hWM34.pa (by decide) (by decide)
                              show zG n (0, 0) d 265 (278, [.inr (.inr (some 97)), .inl a1, .inl v18, .inl v19, .inl v25, .inl v33, .inl x42, zN, zN], []) M49 _
                              obtain ⟨x50, hx50⟩ : ∃ x : Int, x = w32 (v33 + 1) := ⟨_, rfl⟩
                              have hx50e : x50 = v33 + 1 := by rw [hx50]; exact w32_id (by omega)
                              refine zG_w (c' := (210, [.inr (.inr (some 97)), .inl a1, .inl v18, .inl v19, .inl v25, .inl x50, .inl x42, zN, zN], [])) 2 hd0 hz (by subst hx50; rfl) ?_
                              exact zG_weak (ih210 x50 M49 (by omega) (by omega) hCM49 hWM49) ⟨.inr rfl, .inr rfl, .inr rfl, .inr rfl, .inr rfl, .inr rfl, .inl rfl, .inr rfl, .inr rfl, trivial⟩
                            refine zG_wi_ge (pc := 258) (n' := 261) (t := 266) (L := [.inr (.inr (some 97)), .inl a1, .inl v18, .inl v19, .inl v25, .inl v33, .inl x42, zN, zN]) (st := [.inl x44, .inr (.inr (some 114))]) (x := x42) (y := x47) 0 hd0 hz (by rfl) (fun hb51 => ?_) (fun hb51 => ?_)
                            · obtain ⟨x52, hx52⟩ : ∃ x : Int, x = w32 (3 * v18) := ⟨_, rfl⟩
                              have hx52e : x52 = 3 * v18 := by rw [hx52]; exact w32_id (by omega)
                              obtain ⟨x53, hx53⟩ : ∃ x : Int, x = w32 (x52 + v33) := ⟨_, rfl⟩
                              have hx53e : x53 = x52 + v33 := by rw [hx53]; exact w32_id (by omega)
                              refine zG_w (c' := (276, [.inr (.inr (some 97)), .inl a1, .inl v18, .inl v19, .inl v25, .inl v33, .inl x42, zN, zN], [.inl x53, .inr (.inr (some 114)), .inl x44, .inr (.inr (some 114))])) 7 hd0 hz (by subst hx53; subst hx52; rfl) ?_
                              refine zG_iald hd0 hz rfl rfl (.inl rfl) (by omega) ?_
                              obtain ⟨x54, hx54⟩ : ∃ x : Int, x = M34 114 (x53 : Int).toNat := ⟨_, rfl⟩
                              rw [← hx54]
                              have hx54r : qin x54 := by rw [hx54]; exact hCM34.ra 114 _ (by decide) (by decide)
                              show zG n (0, 0) d 265 (277, [.inr (.inr (some 97)), .inl a1, .inl v18, .inl v19, .inl v25, .inl v33, .inl x42, zN, zN], [.inl x54, .inl x44, .inr (.inr (some 114))]) M34 _
                              exact j277 x54 (by omega)
                            · refine zG_w (c' := (277, [.inr (.inr (some 97)), .inl a1, .inl v18, .inl v19, .inl v25, .inl v33, .inl x42, zN, zN], [.inl x42, .inl x44, .inr (.inr (some 114))])) 2 hd0 hz (by rfl) ?_
                              exact j277 x42 (by omega)
                      exact j210 ((3 - 0 : Int).toNat + 1) 0 M26 (by omega) (by omega) hCM26 hWM26
                exact j201 ((2 - 0 : Int).toNat + 1) 0 M23 (by omega) (by omega) hCM23 hWM23
              · have r55 := hCM23.f28
                refine zG_w (c' := (77, [.inr (.inr (some 97)), .inl a1, .inl v18, .inl v19, .inl v22, zN, zN, zN, zN], [.inl (M23 97 28), .inl v18])) 3 hd0 hz (by rfl) ?_
                have j87 : ∀ (v56 : Int) , 0 ≤ v56 ∧ v56 ≤ 1000 → zG n (0, 0) d 265 (87, [.inr (.inr (some 97)), .inl a1, .inl v18, .inl v19, .inl v22, zN, zN, zN, zN], [.inl v56]) M23 (fun v M' => (qMI M' ∧ qFm [114, 115, 1030, 1031, 1032, 1033] M M') ∧ v = none) := by
                  intro v56 hv56
                  refine zG_wv (pc := 96) (L := [.inr (.inr (some 97)), .inl a1, .inl v18, .inl v19, .inl v22, .inl v56, zN, zN, zN]) (st := []) 4 hd0 hz zp_261 (qm_261_97 (by first | exact zdk hd rfl | omega) hCM23   v18 (by first | with_reducible exact hv18 | omega) v22 (by first | with_reducible exact hv22 | omega) ) (by rfl) (fun M57 hr => ?_)
                  obtain ⟨hCM57, hFM57⟩ := hr
                  have hWM57 : qFm [114, 115, 1030, 1031, 1032, 1033] M M57 := hWM23.tr hFM57 (by decide)
                  have e59 : M57 97 28 = M23 97 28 := hFM57 97 28 (by decide)
                  refine zG_wp (pc := 101) (L := [.inr (.inr (some 97)), .inl a1, .inl v18, .inl v19, .inl v22, .inl v56, zN, zN, zN]) (st := []) 2 hd0 hz zp_264 (qm_264_97 (by first | exact zdk hd rfl | omega) hCM57   a1 (by first | with_reducible exact ha1 | omega) ) (by rfl) (fun x61 hx61 => ?_)
                  obtain ⟨x62, hx62⟩ : ∃ x : Int, x = zbshl 1 x61 := ⟨_, rfl⟩
                  have hx62r := qshl1_in x61 16384 14 (by decide) (by decide) (by omega); rw [← hx62] at hx62r
                  obtain ⟨x63, hx63⟩ : ∃ x : Int, x = w32 (x62 - 1) := ⟨_, rfl⟩
                  have hx63e : x63 = x62 - 1 := by rw [hx63]; exact w32_id (by omega)
                  refine zG_w (c' := (111, [.inr (.inr (some 97)), .inl a1, .inl v18, .inl v19, .inl v22, .inl v56, .inl x61, .inl x63, zN], [])) 7 hd0 hz (by subst hx63; subst hx62; rfl) ?_
                  have j111 : ∀ (N : Nat) (v64 v65 : Int) , (32768 - v65 : Int).toNat < N → (-2147483648) ≤ v64 ∧ v64 ≤ 1000 → 0 ≤ v65 ∧ v65 ≤ 32767 → (0 < x61 → 1 ≤ v65) → zG n (0, 0) d 265 (111, [.inr (.inr (some 97)), .inl a1, .inl v18, .inl v19, .inl v22, .inl v64, .inl x61, .inl v65, zN], []) M57 (fun v M' => (qMI M' ∧ qFm [114, 115, 1030, 1031, 1032, 1033] M M') ∧ v = none) := by
                    intro N
                    induction N with
                    | zero => intro v64 v65 hN hv64 hv65 hx0_111; exact absurd hN (Nat.not_lt_zero _)
                    | succ N ih111 =>
                      intro v64 v65 hN hv64 hv65 hx0_111
                      replace hN : 32768 - v65 < (N : Int) + 1 := by omega
                      refine zG_w (c' := (113, [.inr (.inr (some 97)), .inl a1, .inl v18, .inl v19, .inl v22, .inl v64, .inl x61, .inl v65, zN], [.inl x61])) 1 hd0 hz (by rfl) ?_
                      have j179 : zG n (0, 0) d 265 (179, [.inr (.inr (some 97)), .inl a1, .inl v18, .inl v19, .inl v22, .inl v64, .inl x61, .inl v65, zN], []) M57 (fun v M' => (qMI M' ∧ qFm [114, 115, 1030, 1031, 1032, 1033] M M') ∧ v = none) := by
                        obtain ⟨x66, hx66⟩ : ∃ x : Int, x = w32 (3 * v18) := ⟨_, rfl⟩
                        have hx66e : x66 = 3 * v18 := by rw [hx66]; exact w32_id (by omega)
                        obtain ⟨x67, hx67⟩ : ∃ x : Int, x = w32 (x66 + v22) := ⟨_, rfl⟩
                        have hx67e : x67 = x66 + v22 := by rw [hx67]; exact w32_id (by omega)
                        refine zG_w (c' := (191, [.inr (.inr (some 97)), .inl a1, .inl v18, .inl v19, .inl v22, .inl v64, .inl x61, .inl v65, zN], [.inl v64, .inl x67, .inr (.inr (some 114))])) 8 hd0 hz (by subst hx67; subst hx66; rfl) ?_
                        refine zG_iast hd0 hz rfl rfl (by omega) ?_
                        obtain ⟨M68, hM68⟩ : ∃ X : zM, X = zput M57 114 (x67 : Int).toNat v64 := ⟨_, rfl⟩
                        rw [← hM68]
                        have hCM68 : qMI M68 := by rw [hM68]; exact hCM57.put (by decide) (qCd_a (by decide) (by decide)) (by first | exact qMC_ar (by decide) (fun _ => by omega) | (refine ⟨fun h => ?_, fun _ => ?_, fun h => ?_, fun h => ?_, fun h => ?_⟩ <;> first | omega | exact absurd h (by decide)))
                        have hWM68 : qFm [114, 115, 1030, 1031, 1032, 1033] M M68 := by rw [hM68]; exact hWM57.pa (by decide) (by decide)
                        have e69 : M68 97 28 = M57 97 28 := by rw [hM68]; exact qput_ne (by decide)
                        show zG n (0, 0) d 265 (192, [.inr (.inr (some 97)), .inl a1, .inl v18, .inl v19, .inl v22, .inl v64, .inl x61, .inl v65, zN], []) M68 _
                        obtain ⟨x70, hx70⟩ : ∃ x : Int, x = w32 (v22 + 1) := ⟨_, rfl⟩
                        have hx70e : x70 = v22 + 1 := by rw [hx70]; exact w32_id (by omega)
                        refine zG_w (c' := (66, [.inr (.inr (some 97)), .inl a1, .inl v18, .inl v19, .inl x70, .inl v64, .inl x61, .inl v65, zN], [])) 2 hd0 hz (by subst hx70; rfl) ?_
                        exact zG_weak (ih66 x70 M68 (by omega) (by omega) hCM68 hWM68) ⟨.inr rfl, .inr rfl, .inr rfl, .inr rfl, .inr rfl, .inl rfl, .inl rfl, .inl rfl, .inr rfl, trivial⟩
                      refine zG_wf_le (pc := 113) (n' := 116) (t := 179) (L := [.inr (.inr (some 97)), .inl a1, .inl v18, .inl v19, .inl v22, .inl v64, .inl x61, .inl v65, zN]) (st := []) (x := x61) 0 hd0 hz (by rfl) (fun hb71 => ?_) (fun hb71 => ?_)
                      · exact j179
                      · have r72 := hCM57.f30
                        obtain ⟨x73, hx73⟩ : ∃ x : Int, x = zbshl 1 (M57 97 30) := ⟨_, rfl⟩
                        have hx73r := qshl1_in (M57 97 30) 16384 14 (by decide) (by decide) (by omega); rw [← hx73] at hx73r
                        refine zG_wi_ge (pc := 124) (n' := 127) (t := 179) (L := [.inr (.inr (some 97)), .inl a1, .inl v18, .inl v19, .inl v22, .inl v64, .inl x61, .inl v65, zN]) (st := []) (x := v65) (y := x73) 5 hd0 hz (by subst hx73; rfl) (fun hb74 => ?_) (fun hb74 => ?_)
                        · exact j179
                        · refine zG_wp (pc := 140) (L := [.inr (.inr (some 97)), .inl a1, .inl v18, .inl v19, .inl v22, .inl v64, .inl x61, .inl v65, zN]) (st := [.inl v18, .inl 3, .inr (.inr (some 114)), .inl 1]) 7 hd0 hz zp_262 (qm_262_97 (by first | exact zdk hd rfl | omega) hCM57   v65 (by first | with_reducible exact hv65 | omega) ) (by rfl) (fun x76 hx76 => ?_)
                          obtain ⟨x77, hx77⟩ : ∃ x : Int, x = zbor v18 x76 := ⟨_, rfl⟩
                          have hx77r := qbor_in v18 x76 16384 14 (by decide) (by decide) (by omega) (by omega); rw [← hx77] at hx77r
                          obtain ⟨x78, hx78⟩ : ∃ x : Int, x = w32 (3 * x77) := ⟨_, rfl⟩
                          have hx78e : x78 = 3 * x77 := by rw [hx78]; exact w32_id (by omega)
                          obtain ⟨x79, hx79⟩ : ∃ x : Int, x = w32 (v22 + 1) := ⟨_, rfl⟩
                          have hx79e : x79 = v22 + 1 := by rw [hx79]; exact w32_id (by omega)
                          refine zG_w (c' := (147, [.inr (.inr (some 97)), .inl a1, .inl v18, .inl v19, .inl v22, .inl v64, .inl x61, .inl v65, zN], [.inl 3, .inl x79, .inl x78, .inr (.inr (some 114)), .inl 1])) 6 hd0 hz (by subst hx79; subst hx78; subst hx77; rfl) ?_
                          refine zG_irem hd0 hz rfl (by omega) ?_
                          have hx80 := qtmod_in x79 3 (by first | decide | omega)
                          generalize x79.tmod 3 = x80 at hx80 ⊢
                          show zG n (0, 0) d 265 (148, [.inr (.inr (some 97)), .inl a1, .inl v18, .inl v19, .inl v22, .inl v64, .inl x61, .inl v65, zN], [.inl x80, .inl x78, .inr (.inr (some 114)), .inl 1]) M57 _
                          obtain ⟨x81, hx81⟩ : ∃ x : Int, x = w32 (x78 + x80) := ⟨_, rfl⟩
                          have hx81e : x81 = x78 + x80 := by rw [hx81]; exact w32_id (by omega)
                          refine zG_w (c' := (149, [.inr (.inr (some 97)), .inl a1, .inl v18, .inl v19, .inl v22, .inl v64, .inl x61, .inl v65, zN], [.inl x81, .inr (.inr (some 114)), .inl 1])) 1 hd0 hz (by subst hx81; rfl) ?_
                          refine zG_iald hd0 hz rfl rfl (.inl rfl) (by omega) ?_
                          obtain ⟨x82, hx82⟩ : ∃ x : Int, x = M57 114 (x81 : Int).toNat := ⟨_, rfl⟩
                          rw [← hx82]
                          have hx82r : qin x82 := by rw [hx82]; exact hCM57.ra 114 _ (by decide) (by decide)
                          show zG n (0, 0) d 265 (150, [.inr (.inr (some 97)), .inl a1, .inl v18, .inl v19, .inl v22, .inl v64, .inl x61, .inl v65, zN], [.inl x82, .inl 1]) M57 _
                          obtain ⟨x83, hx83⟩ : ∃ x : Int, x = w32 (1 + x82) := ⟨_, rfl⟩
                          have hx83r : x83 = (1 + x82 + 2147483648) % 4294967296 - 2147483648 := hx83
                          refine zG_w (c' := (157, [.inr (.inr (some 97)), .inl a1, .inl v18, .inl v19, .inl v22, .inl v64, .inl x61, .inl v65, .inl x83], [.inl v64, .inl x83])) 4 hd0 hz (by subst hx83; rfl) ?_
                          have j167 : ∀ (v84 : Int) , (-2147483648) ≤ v84 ∧ v84 ≤ 1000 → zG n (0, 0) d 265 (167, [.inr (.inr (some 97)), .inl a1, .inl v18, .inl v19, .inl v22, .inl v64, .inl x61, .inl v65, .inl x83], [.inl v84]) M57 (fun v M' => (qMI M' ∧ qFm [114, 115, 1030, 1031, 1032, 1033] M M') ∧ v = none) := by
                            intro v84 hv84
                            refine zG_wp (pc := 174) (L := [.inr (.inr (some 97)), .inl a1, .inl v18, .inl v19, .inl v22, .inl v84, .inl x61, .inl v65, .inl x83]) (st := []) 2 hd0 hz zp_263 (qm_263 (by first | exact zdk hd rfl | omega) hCM57   v65 (by first | with_reducible exact hv65 | omega) ) (by rfl) (fun x86 hr => ?_)
                            obtain ⟨hx86, hpx86_0⟩ := hr
                            refine zG_w (c' := (111, [.inr (.inr (some 97)), .inl a1, .inl v18, .inl v19, .inl v22, .inl v84, .inl x61, .inl x86, .inl x83], [])) 2 hd0 hz (by rfl) ?_
                            exact zG_weak (ih111 v84 x86 (by omega) (by omega) (by omega) (by omega)) ⟨.inr rfl, .inr rfl, .inr rfl, .inr rfl, .inr rfl, .inr rfl, .inr rfl, .inr rfl, .inl rfl, trivial⟩
                          refine zG_wi_ge (pc := 157) (n' := 160) (t := 165) (L := [.inr (.inr (some 97)), .inl a1, .inl v18, .inl v19, .inl v22, .inl v64, .inl x61, .inl v65, .inl x83]) (st := []) (x := x83) (y := v64) 0 hd0 hz (by rfl) (fun hb87 => ?_) (fun hb87 => ?_)
                          · refine zG_w (c' := (167, [.inr (.inr (some 97)), .inl a1, .inl v18, .inl v19, .inl v22, .inl v64, .inl x61, .inl v65, .inl x83], [.inl v64])) 1 hd0 hz (by rfl) ?_
                            exact j167 v64 (by first | with_reducible exact hv64 | omega)
                          · refine zG_w (c' := (167, [.inr (.inr (some 97)), .inl a1, .inl v18, .inl v19, .inl v22, .inl v64, .inl x61, .inl v65, .inl x83], [.inl x83])) 2 hd0 hz (by rfl) ?_
                            exact j167 x83 (by omega)
                  exact j111 ((32768 - x63 : Int).toNat + 1) v56 x63 (by omega) (by omega) (by omega) (by omega)
                refine zG_wi_ne (pc := 77) (n' := 80) (t := 84) (L := [.inr (.inr (some 97)), .inl a1, .inl v18, .inl v19, .inl v22, zN, zN, zN, zN]) (st := []) (x := v18) (y := (M23 97 28)) 0 hd0 hz (by rfl) (fun hb88 => ?_) (fun hb88 => ?_)
                · refine zG_w (c' := (87, [.inr (.inr (some 97)), .inl a1, .inl v18, .inl v19, .inl v22, zN, zN, zN, zN], [.inl 1000])) 1 hd0 hz (by rfl) ?_
                  exact j87 1000 (by first | decide | omega)
                · refine zG_w (c' := (87, [.inr (.inr (some 97)), .inl a1, .inl v18, .inl v19, .inl v22, zN, zN, zN, zN], [.inl 0])) 2 hd0 hz (by rfl) ?_
                  exact j87 0 (by first | decide | omega)
          exact j66 ((3 - 0 : Int).toNat + 1) 0 M20 (by omega) (by omega) hCM20 hWM20
    exact j59 ((20000 * 1 + (M12 97 28) : Int).toNat + 1) (M12 97 28) 1 M12 (by omega) (by omega) (by omega) hCM12 hWM12
  refine zG_wi_ne (pc := 8) (n' := 11) (t := 31) (L := [.inr (.inr (some 97)), .inl a1, zN, zN, zN, zN, zN, zN, zN]) (st := []) (x := (M 97 31)) (y := (M 97 28)) 0 hd0 hz (by rfl) (fun hb89 => ?_) (fun hb89 => ?_)
  · exact j31
  · have r90 := hC.rg 97 32 (by decide) (by decide)
    have r91 := hC.rg 97 21 (by decide) (by decide)
    refine zG_wi_ne (pc := 19) (n' := 22) (t := 31) (L := [.inr (.inr (some 97)), .inl a1, zN, zN, zN, zN, zN, zN, zN]) (st := []) (x := (M 97 32)) (y := (M 97 21)) 4 hd0 hz (by rfl) (fun hb92 => ?_) (fun hb92 => ?_)
    · exact j31
    · have r93 := hC.rg 97 33 (by decide) (by decide)
      refine zG_wi_ne (pc := 27) (n' := 30) (t := 31) (L := [.inr (.inr (some 97)), .inl a1, zN, zN, zN, zN, zN, zN, zN]) (st := []) (x := (M 97 33)) (y := a1) 3 hd0 hz (by rfl) (fun hb94 => ?_) (fun hb94 => ?_)
      · exact j31
      · exact zG_ret hd0 hz rfl rfl ⟨⟨hC, hW⟩, rfl⟩
theorem qm_266_97 {n d : Nat} {M : zM} (hd : 4 ≤ d) (hC : qMI M)  (a1 : Int) (ha1 : (-2147483648) ≤ a1 ∧ a1 ≤ 2147483647) (a2 : Int) (ha2 : (-2147483648) ≤ a2 ∧ a2 ≤ 2147483647) (a3 : Int) (ha3 : (-2147483648) ≤ a3 ∧ a3 ≤ 2147483647) (a4 : Int) (ha4 : (-2147483648) ≤ a4 ∧ a4 ≤ 2147483647) (a5 : Int) (ha5 : (-2147483648) ≤ a5 ∧ a5 ≤ 2147483647) (a6 : Int) (ha6 : (-2147483648) ≤ a6 ∧ a6 ≤ 2147483647) : qOkP n d 266 [.inr (.inr (some 97)), .inl a1, .inl a2, .inl a3, .inl a4, .inl a5, .inl a6] 7 M (fun v => ∃ x : Int, v = some (.inl x) ∧ (0 ≤ x ∧ x ≤ 1) ∧ (x = 1 → (0 ≤ a1 ∧ a1 < M 98 1) ∧ (0 ≤ a2 ∧ a2 ≤ 16383) ∧ (0 ≤ a3 ∧ a3 ≤ 2) ∧ (1 ≤ a4 ∧ a4 ≤ 4))) := by
  have hz := zp_266
  have hd0 : 0 < d := by omega
  have r1 := hC.cnt1
  have r2 := hC.cnt0
  show zG n (0, 0) d 266 (0, [.inr (.inr (some 97)), .inl a1, .inl a2, .inl a3, .inl a4, .inl a5, .inl a6], []) M _
  refine zG_wp (pc := 9) (L := [.inr (.inr (some 97)), .inl a1, .inl a2, .inl a3, .inl a4, .inl a5, .inl a6]) (st := []) 4 hd0 hz zp_245 (qm_245_97 (by first | exact zdk hd rfl | omega) hC   a1 (by first | with_reducible exact ha1 | omega) a5 (by first | with_reducible exact ha5 | omega) a6 (by first | with_reducible exact ha6 | omega) ) (by rfl) (fun x4 hr => ?_)
  obtain ⟨hx4, hpx4_0⟩ := hr
  have j54 : ∀ (v5 : Int) , 0 ≤ v5 ∧ v5 ≤ 1 → (v5 = 1 → (0 ≤ a1 ∧ a1 < M 98 1) ∧ (0 ≤ a2 ∧ a2 ≤ 16383) ∧ (0 ≤ a3 ∧ a3 ≤ 2) ∧ (1 ≤ a4 ∧ a4 ≤ 4)) → zG n (0, 0) d 266 (54, [.inr (.inr (some 97)), .inl a1, .inl a2, .inl a3, .inl a4, .inl a5, .inl a6], [.inl v5]) M (fun v M' => M' = M ∧ ∃ x : Int, v = some (.inl x) ∧ (0 ≤ x ∧ x ≤ 1) ∧ (x = 1 → (0 ≤ a1 ∧ a1 < M 98 1) ∧ (0 ≤ a2 ∧ a2 ≤ 16383) ∧ (0 ≤ a3 ∧ a3 ≤ 2) ∧ (1 ≤ a4 ∧ a4 ≤ 4))) := by
    intro v5 hv5 hx0_54
    exact zG_zret hd0 hz rfl (by omega) ⟨rfl, _, rfl, by omega, by omega⟩
  have j53 : zG n (0, 0) d 266 (53, [.inr (.inr (some 97)), .inl a1, .inl a2, .inl a3, .inl a4, .inl a5, .inl a6], []) M (fun v M' => M' = M ∧ ∃ x : Int, v = some (.inl x) ∧ (0 ≤ x ∧ x ≤ 1) ∧ (x = 1 → (0 ≤ a1 ∧ a1 < M 98 1) ∧ (0 ≤ a2 ∧ a2 ≤ 16383) ∧ (0 ≤ a3 ∧ a3 ≤ 2) ∧ (1 ≤ a4 ∧ a4 ≤ 4))) := by
    refine zG_w (c' := (54, [.inr (.inr (some 97)), .inl a1, .inl a2, .inl a3, .inl a4, .inl a5, .inl a6], [.inl 0])) 1 hd0 hz (by rfl) ?_
    exact j54 0 (by first | decide | omega) (by omega)
  refine zG_wf_eq (pc := 9) (n' := 12) (t := 53) (L := [.inr (.inr (some 97)), .inl a1, .inl a2, .inl a3, .inl a4, .inl a5, .inl a6]) (st := []) (x := x4) 0 hd0 hz (by rfl) (fun hb6 => ?_) (fun hb6 => ?_)
  · exact j53
  · refine zG_w (c' := (20, [.inr (.inr (some 97)), .inl a1, .inl a2, .inl a3, .inl a4, .inl a5, .inl a6], [.inl 0, .inr (.inr (some 98)), .inl 1, .inl 0, .inl a2])) 6 hd0 hz (by rfl) ?_
    refine zG_iald hd0 hz rfl rfl (.inl rfl) (by omega) ?_
    show zG n (0, 0) d 266 (21, [.inr (.inr (some 97)), .inl a1, .inl a2, .inl a3, .inl a4, .inl a5, .inl a6], [.inl (M 98 0), .inl 1, .inl 0, .inl a2]) M _
    obtain ⟨x7, hx7⟩ : ∃ x : Int, x = zbshl 1 (M 98 0) := ⟨_, rfl⟩
    have hx7r := qshl1_in (M 98 0) 16384 14 (by decide) (by decide) (by omega); rw [← hx7] at hx7r
    obtain ⟨x8, hx8⟩ : ∃ x : Int, x = w32 (x7 - 1) := ⟨_, rfl⟩
    have hx8e : x8 = x7 - 1 := by rw [hx8]; exact w32_id (by omega)
    refine zG_wp (pc := 27) (L := [.inr (.inr (some 97)), .inl a1, .inl a2, .inl a3, .inl a4, .inl a5, .inl a6]) (st := []) 3 hd0 hz zp_180 (qx_in (by first | exact zdk hd rfl | omega) hC   a2 (by first | with_reducible exact ha2 | omega) 0 (by first | decide | omega) x8 (by omega) ) (by subst hx8; subst hx7; rfl) (fun x10 hx10 => ?_)
    refine zG_wf_eq (pc := 27) (n' := 30) (t := 53) (L := [.inr (.inr (some 97)), .inl a1, .inl a2, .inl a3, .inl a4, .inl a5, .inl a6]) (st := []) (x := x10) 0 hd0 hz (by rfl) (fun hb11 => ?_) (fun hb11 => ?_)
    · exact j53
    · have hcx10 := hx10.2.2.mp (by omega)
      clear hx10 hb11
      refine zG_wp (pc := 36) (L := [.inr (.inr (some 97)), .inl a1, .inl a2, .inl a3, .inl a4, .inl a5, .inl a6]) (st := []) 3 hd0 hz zp_180 (qx_in (by first | exact zdk hd rfl | omega) hC   a3 (by first | with_reducible exact ha3 | omega) 0 (by first | decide | omega) 2 (by first | decide | omega) ) (by rfl) (fun x13 hx13 => ?_)
      refine zG_wf_eq (pc := 36) (n' := 39) (t := 53) (L := [.inr (.inr (some 97)), .inl a1, .inl a2, .inl a3, .inl a4, .inl a5, .inl a6]) (st := []) (x := x13) 0 hd0 hz (by rfl) (fun hb14 => ?_) (fun hb14 => ?_)
      · exact j53
      · have hcx13 := hx13.2.2.mp (by omega)
        clear hx13 hb14
        refine zG_wp (pc := 46) (L := [.inr (.inr (some 97)), .inl a1, .inl a2, .inl a3, .inl a4, .inl a5, .inl a6]) (st := []) 3 hd0 hz zp_180 (qx_in (by first | exact zdk hd rfl | omega) hC   a4 (by first | with_reducible exact ha4 | omega) 1 (by first | decide | omega) 4 (by first | decide | omega) ) (by rfl) (fun x16 hx16 => ?_)
        refine zG_wf_eq (pc := 46) (n' := 49) (t := 53) (L := [.inr (.inr (some 97)), .inl a1, .inl a2, .inl a3, .inl a4, .inl a5, .inl a6]) (st := []) (x := x16) 0 hd0 hz (by rfl) (fun hb17 => ?_) (fun hb17 => ?_)
        · exact j53
        · have hcx16 := hx16.2.2.mp (by omega)
          clear hx16 hb17
          refine zG_w (c' := (54, [.inr (.inr (some 97)), .inl a1, .inl a2, .inl a3, .inl a4, .inl a5, .inl a6], [.inl 1])) 2 hd0 hz (by rfl) ?_
          exact j54 1 (by first | decide | omega) (by omega)
theorem qm_267_97 {n d : Nat} {M : zM} (hd : 8 ≤ d) (hC : qMI M)  (a1 : Int) (ha1 : 0 ≤ a1 ∧ a1 ≤ 19) (a2 : Int) (ha2 : 0 ≤ a2 ∧ a2 ≤ 16383) (a3 : Int) (ha3 : 0 ≤ a3 ∧ a3 ≤ 2) (a4 : Int) (ha4 : 1 ≤ a4 ∧ a4 ≤ 4) (a5 : Int) (ha5 : (-2147483648) ≤ a5 ∧ a5 ≤ 2147483647) (a6 : Int) (ha6 : (-2147483648) ≤ a6 ∧ a6 ≤ 2147483647) : qOkN n d 267 [.inr (.inr (some 97)), .inl a1, .inl a2, .inl a3, .inl a4, .inl a5, .inl a6] 8 [101, 102, 103, 104, 105, 106, 107, 108, 109, 110, 114, 115, 1007, 1010, 1012, 1013, 1016, 1018, 1019, 1020, 1021, 1022, 1023, 1028, 1030, 1031, 1032, 1033] M (fun v M' => ∃ x : Int, v = some (.inl x) ∧ ((-2147483648) ≤ x ∧ x ≤ 2147483647) ∧ (x ≤ 60)) := by
  have hz := zp_267
  have hd0 : 0 < d := by omega
  have hW : qFm [101, 102, 103, 104, 105, 106, 107, 108, 109, 110, 114, 115, 1007, 1010, 1012, 1013, 1016, 1018, 1019, 1020, 1021, 1022, 1023, 1028, 1030, 1031, 1032, 1033] M M := qFm.rfl
  have r1 := hC.cnt0
  show zG n (0, 0) d 267 (0, [.inr (.inr (some 97)), .inl a1, .inl a2, .inl a3, .inl a4, .inl a5, .inl a6, zN], []) M _
  refine zG_wv (pc := 6) (L := [.inr (.inr (some 97)), .inl a1, .inl a2, .inl a3, .inl a4, .inl a5, .inl a6, zN]) (st := []) 2 hd0 hz zp_211 (qm_211_97 (by first | exact zdk hd rfl | omega) hC   a6 (by first | with_reducible exact ha6 | omega) ) (by rfl) (fun M2 hr => ?_)
  obtain ⟨hCM2, hFM2⟩ := hr
  have hWM2 : qFm [101, 102, 103, 104, 105, 106, 107, 108, 109, 110, 114, 115, 1007, 1010, 1012, 1013, 1016, 1018, 1019, 1020, 1021, 1022, 1023, 1028, 1030, 1031, 1032, 1033] M M2 := hW.tr hFM2 (by decide)
  have e4 : M2 98 0 = M 98 0 := hFM2 98 0 (by decide)
  refine zG_wv (pc := 13) (L := [.inr (.inr (some 97)), .inl a1, .inl a2, .inl a3, .inl a4, .inl a5, .inl a6, zN]) (st := []) 3 hd0 hz zp_240 (qm_240_97 (by first | exact zdk hd rfl | omega) hCM2   a1 (by first | with_reducible exact ha1 | omega) a5 (by first | with_reducible exact ha5 | omega) ) (by rfl) (fun M5 hr => ?_)
  obtain ⟨hCM5, hFM5⟩ := hr
  have hWM5 : qFm [101, 102, 103, 104, 105, 106, 107, 108, 109, 110, 114, 115, 1007, 1010, 1012, 1013, 1016, 1018, 1019, 1020, 1021, 1022, 1023, 1028, 1030, 1031, 1032, 1033] M M5 := hWM2.tr hFM5 (by decide)
  have e7 : M5 98 0 = M2 98 0 := hFM5 98 0 (by decide)
  have r8 := hCM5.rg 97 21 (by decide) (by decide)
  obtain ⟨x9, hx9⟩ : ∃ x : Int, x = zbxor (M5 97 21) (-1) := ⟨_, rfl⟩
  have hx9r : qin x9 := by rw [hx9]; exact qb32 _
  obtain ⟨x10, hx10⟩ : ∃ x : Int, x = zband a2 x9 := ⟨_, rfl⟩
  have hx10r := qband_l a2 x9 (by omega) (by omega); rw [← hx10] at hx10r
  refine zG_w (c' := (22, [.inr (.inr (some 97)), .inl a1, .inl a2, .inl a3, .inl a4, .inl a5, .inl a6, zN], [.inl x10, .inr (.inr (some 97))])) 7 hd0 hz (by subst hx10; subst hx9; rfl) ?_
  refine zG_putf (.inl rfl) hd0 hz rfl (by decide) rfl rfl ?_
  obtain ⟨M11, hM11⟩ : ∃ X : zM, X = zput M5 97 28 x10 := ⟨_, rfl⟩
  rw [← hM11]
  have hCM11 : qMI M11 := by rw [hM11]; exact hCM5.put (by decide) (by decide) (by first | exact qMC_97 (by decide) (fun _ => by omega) | (refine ⟨fun _ => ?_, fun _ => ?_, fun h => ⟨fun _ => ?_, fun _ => ?_, fun _ => ?_, fun _ => ?_, fun _ => ?_⟩, fun h => ?_, fun h => ?_⟩ <;> first | omega | exact absurd rfl (by assumption) | (rename_i h9; exact absurd h9 (by decide))))
  have hWM11 : qFm [101, 102, 103, 104, 105, 106, 107, 108, 109, 110, 114, 115, 1007, 1010, 1012, 1013, 1016, 1018, 1019, 1020, 1021, 1022, 1023, 1028, 1030, 1031, 1032, 1033] M M11 := by rw [hM11]; exact hWM5.put (by decide)
  have e12 : M11 98 0 = M5 98 0 := by rw [hM11]; exact qput_ne (by decide)
  have e13 : M11 97 21 = M5 97 21 := by rw [hM11]; exact qput_nk (by decide)
  have e14 : M11 97 28 = x10 := by rw [hM11]; exact qput_eq
  show zG n (0, 0) d 267 (25, [.inr (.inr (some 97)), .inl a1, .inl a2, .inl a3, .inl a4, .inl a5, .inl a6, zN], []) M11 _
  refine zG_w (c' := (30, [.inr (.inr (some 97)), .inl a1, .inl a2, .inl a3, .inl a4, .inl a5, .inl a6, zN], [.inl 0, .inr (.inr (some 98))])) 3 hd0 hz (by rfl) ?_
  refine zG_iald hd0 hz rfl rfl (.inl rfl) (by omega) ?_
  show zG n (0, 0) d 267 (31, [.inr (.inr (some 97)), .inl a1, .inl a2, .inl a3, .inl a4, .inl a5, .inl a6, zN], [.inl (M11 98 0)]) M11 _
  obtain ⟨x15, hx15⟩ : ∃ x : Int, x = w32 ((M11 98 0) - 1) := ⟨_, rfl⟩
  have hx15e : x15 = (M11 98 0) - 1 := by rw [hx15]; exact w32_id (by omega)
  refine zG_w (c' := (35, [.inr (.inr (some 97)), .inl a1, .inl a2, .inl a3, .inl a4, .inl a5, .inl a6, .inl x15], [])) 3 hd0 hz (by subst hx15; rfl) ?_
  have j35 : ∀ (N : Nat) (v16 : Int) (M17 : zM) , (v16 + 1 : Int).toNat < N → (-1) ≤ v16 ∧ v16 ≤ 13 → qMI M17 → qFm [101, 102, 103, 104, 105, 106, 107, 108, 109, 110, 114, 115, 1007, 1010, 1012, 1013, 1016, 1018, 1019, 1020, 1021, 1022, 1023, 1028, 1030, 1031, 1032, 1033] M M17 → zG n (0, 0) d 267 (35, [.inr (.inr (some 97)), .inl a1, .inl a2, .inl a3, .inl a4, .inl a5, .inl a6, .inl v16], []) M17 (fun v M' => (qMI M' ∧ qFm [101, 102, 103, 104, 105, 106, 107, 108, 109, 110, 114, 115, 1007, 1010, 1012, 1013, 1016, 1018, 1019, 1020, 1021, 1022, 1023, 1028, 1030, 1031, 1032, 1033] M M') ∧ ∃ x : Int, v = some (.inl x) ∧ ((-2147483648) ≤ x ∧ x ≤ 2147483647) ∧ (x ≤ 60)) := by
    intro N
    induction N with
    | zero => intro v16 M17 hN hv16 hCM17 hWM17; exact absurd hN (Nat.not_lt_zero _)
    | succ N ih35 =>
      intro v16 M17 hN hv16 hCM17 hWM17
      replace hN : v16 + 1 < (N : Int) + 1 := by omega
      have e18 : M17 98 0 = M 98 0 := hWM17 98 0 (by decide)
      refine zG_wf_lt (pc := 37) (n' := 40) (t := 93) (L := [.inr (.inr (some 97)), .inl a1, .inl a2, .inl a3, .inl a4, .inl a5, .inl a6, .inl v16]) (st := []) (x := v16) 1 hd0 hz (by rfl) (fun hb19 => ?_) (fun hb19 => ?_)
      · refine zG_wv (pc := 99) (L := [.inr (.inr (some 97)), .inl a1, .inl a2, .inl a3, .inl a4, .inl a5, .inl a6, .inl v16]) (st := []) 2 hd0 hz zp_265 (qm_265_97 (by first | exact zdk hd rfl | omega) hCM17   a4 (by first | with_reducible exact ha4 | omega) ) (by rfl) (fun M20 hr => ?_)
        obtain ⟨hCM20, hFM20⟩ := hr
        have hWM20 : qFm [101, 102, 103, 104, 105, 106, 107, 108, 109, 110, 114, 115, 1007, 1010, 1012, 1013, 1016, 1018, 1019, 1020, 1021, 1022, 1023, 1028, 1030, 1031, 1032, 1033] M M20 := hWM17.tr hFM20 (by decide)
        have e22 : M20 98 0 = M17 98 0 := hFM20 98 0 (by decide)
        refine zG_w (c' := (104, [.inr (.inr (some 97)), .inl a1, .inl a2, .inl a3, .inl a4, .inl a5, .inl a6, .inl v16], [.inl a3, .inr (.inr (some 114))])) 3 hd0 hz (by rfl) ?_
        refine zG_iald hd0 hz rfl rfl (.inl rfl) (by omega) ?_
        obtain ⟨x23, hx23⟩ : ∃ x : Int, x = M20 114 (a3 : Int).toNat := ⟨_, rfl⟩
        rw [← hx23]
        have hx23r : qin x23 := by rw [hx23]; exact hCM20.ra 114 _ (by decide) (by decide)
        show zG n (0, 0) d 267 (105, [.inr (.inr (some 97)), .inl a1, .inl a2, .inl a3, .inl a4, .inl a5, .inl a6, .inl v16], [.inl x23]) M20 _
        refine zG_w (c' := (107, [.inr (.inr (some 97)), .inl a1, .inl a2, .inl a3, .inl a4, .inl a5, .inl a6, .inl v16], [.inl 60, .inl x23])) 1 hd0 hz (by rfl) ?_
        have j120 : ∀ (v24 : Int) , (-2147483648) ≤ v24 ∧ v24 ≤ 2147483647 → (v24 ≤ 60) → zG n (0, 0) d 267 (120, [.inr (.inr (some 97)), .inl a1, .inl a2, .inl a3, .inl a4, .inl a5, .inl a6, .inl v16], [.inl v24]) M20 (fun v M' => (qMI M' ∧ qFm [101, 102, 103, 104, 105, 106, 107, 108, 109, 110, 114, 115, 1007, 1010, 1012, 1013, 1016, 1018, 1019, 1020, 1021, 1022, 1023, 1028, 1030, 1031, 1032, 1033] M M') ∧ ∃ x : Int, v = some (.inl x) ∧ ((-2147483648) ≤ x ∧ x ≤ 2147483647) ∧ (x ≤ 60)) := by
          intro v24 hv24 hx0_120
          exact zG_wr (r := some (.inl v24)) 0 hd0 hz (by rfl) ⟨⟨hCM20, hWM20⟩, _, rfl, by omega, by omega⟩
        refine zG_wi_le (pc := 107) (n' := 110) (t := 114) (L := [.inr (.inr (some 97)), .inl a1, .inl a2, .inl a3, .inl a4, .inl a5, .inl a6, .inl v16]) (st := []) (x := x23) (y := 60) 0 hd0 hz (by rfl) (fun hb25 => ?_) (fun hb25 => ?_)
        · refine zG_w (c' := (119, [.inr (.inr (some 97)), .inl a1, .inl a2, .inl a3, .inl a4, .inl a5, .inl a6, .inl v16], [.inl a3, .inr (.inr (some 114))])) 3 hd0 hz (by rfl) ?_
          refine zG_iald hd0 hz rfl rfl (.inl rfl) (by omega) ?_
          obtain ⟨x26, hx26⟩ : ∃ x : Int, x = M20 114 (a3 : Int).toNat := ⟨_, rfl⟩
          rw [← hx26]
          have hx26r : qin x26 := by rw [hx26]; exact hCM20.ra 114 _ (by decide) (by decide)
          show zG n (0, 0) d 267 (120, [.inr (.inr (some 97)), .inl a1, .inl a2, .inl a3, .inl a4, .inl a5, .inl a6, .inl v16], [.inl x26]) M20 _
          exact j120 x26 (by omega) (by omega)
        · refine zG_w (c' := (120, [.inr (.inr (some 97)), .inl a1, .inl a2, .inl a3, .inl a4, .inl a5, .inl a6, .inl v16], [.inl (-1)])) 2 hd0 hz (by rfl) ?_
          exact j120 (-1) (by first | decide | omega) (by omega)
      · have r27 := hCM17.f28
        obtain ⟨x28, hx28⟩ : ∃ x : Int, x = zbshr (M17 97 28) v16 := ⟨_, rfl⟩
        have hx28r := qbshr_n (M17 97 28) v16 (by first | with_reducible exact hv16 | omega); rw [← hx28] at hx28r
        obtain ⟨x29, hx29⟩ : ∃ x : Int, x = zband x28 1 := ⟨_, rfl⟩
        have hx29r := qband_lr x28 1 (by first | decide | omega) (by omega); rw [← hx29] at hx29r
        refine zG_w (c' := (55, [.inr (.inr (some 97)), .inl a1, .inl a2, .inl a3, .inl a4, .inl a5, .inl a6, .inl v16], [.inl 1, .inl x29, .inl (M17 97 28), .inr (.inr (some 97))])) 10 hd0 hz (by subst hx29; subst hx28; rfl) ?_
        have j83 : ∀ (v30 : Int) , 0 ≤ v30 ∧ v30 ≤ 16383 → zG n (0, 0) d 267 (83, [.inr (.inr (some 97)), .inl a1, .inl a2, .inl a3, .inl a4, .inl a5, .inl a6, .inl v16], [.inl v30, .inl (M17 97 28), .inr (.inr (some 97))]) M17 (fun v M' => (qMI M' ∧ qFm [101, 102, 103, 104, 105, 106, 107, 108, 109, 110, 114, 115, 1007, 1010, 1012, 1013, 1016, 1018, 1019, 1020, 1021, 1022, 1023, 1028, 1030, 1031, 1032, 1033] M M') ∧ ∃ x : Int, v = some (.inl x) ∧ ((-2147483648) ≤ x ∧ x ≤ 2147483647) ∧ (x ≤ 60)) := by
          intro v30 hv30
          obtain ⟨x31, hx31⟩ : ∃ x : Int, x = zbor (M17 97 28) v30 := ⟨_, rfl⟩
          have hx31r := qbor_in (M17 97 28) v30 16384 14 (by decide) (by decide) (by omega) (by omega); rw [← hx31] at hx31r
          refine zG_w (c' := (84, [.inr (.inr (some 97)), .inl a1, .inl a2, .inl a3, .inl a4, .inl a5, .inl a6, .inl v16], [.inl x31, .inr (.inr (some 97))])) 1 hd0 hz (by subst hx31; rfl) ?_
          refine zG_putf (.inl rfl) hd0 hz rfl (by decide) rfl rfl ?_
          obtain ⟨M32, hM32⟩ : ∃ X : zM, X = zput M17 97 28 x31 := ⟨_, rfl⟩
          rw [← hM32]
          have hCM32 : qMI M32 := by rw [hM32]; exact hCM17.put (by decide) (by decide) (by first | exact qMC_97 (by decide) (fun _ => by omega) | (refine ⟨fun _ => ?_, fun _ => ?_, fun h => ⟨fun _ => ?_, fun _ => ?_, fun _ => ?_, fun _ => ?_, fun _ => ?_⟩, fun h => ?_, fun h => ?_⟩ <;> first | omega | exact absurd rfl (by assumption) | (rename_i h9; exact absurd h9 (by decide))))
          have hWM32 : qFm [101, 102, 103, 104, 105, 106, 107, 108, 109, 110, 114, 115, 1007, 1010, 1012, 1013, 1016, 1018, 1019, 1020, 1021, 1022, 1023, 1028, 1030, 1031, 1032, 1033] M M32 := by rw [hM32]; exact hWM17.put (by decide)
          have e33 : M32 98 0 = M17 98 0 := by rw [hM32]; exact qput_ne (by decide)
          have e34 : M32 97 28 = x31 := by rw [hM32]; exact qput_eq
          show zG n (0, 0) d 267 (87, [.inr (.inr (some 97)), .inl a1, .inl a2, .inl a3, .inl a4, .inl a5, .inl a6, .inl v16], []) M32 _
          obtain ⟨x35, hx35⟩ : ∃ x : Int, x = w32 (v16 + (-1)) := ⟨_, rfl⟩
          have hx35e : x35 = v16 + (-1) := by rw [hx35]; exact w32_id (by omega)
          refine zG_w (c' := (35, [.inr (.inr (some 97)), .inl a1, .inl a2, .inl a3, .inl a4, .inl a5, .inl a6, .inl x35], [])) 2 hd0 hz (by subst hx35; rfl) ?_
          exact ih35 x35 M32 (by omega) (by omega) hCM32 hWM32
        refine zG_wi_ne (pc := 55) (n' := 58) (t := 82) (L := [.inr (.inr (some 97)), .inl a1, .inl a2, .inl a3, .inl a4, .inl a5, .inl a6, .inl v16]) (st := [.inl (M17 97 28), .inr (.inr (some 97))]) (x := x29) (y := 1) 0 hd0 hz (by rfl) (fun hb36 => ?_) (fun hb36 => ?_)
        · refine zG_w (c' := (83, [.inr (.inr (some 97)), .inl a1, .inl a2, .inl a3, .inl a4, .inl a5, .inl a6, .inl v16], [.inl 0, .inl (M17 97 28), .inr (.inr (some 97))])) 1 hd0 hz (by rfl) ?_
          exact j83 0 (by first | decide | omega)
        · obtain ⟨x37, hx37⟩ : ∃ x : Int, x = w32 (4 * v16) := ⟨_, rfl⟩
          have hx37e : x37 = 4 * v16 := by rw [hx37]; exact w32_id (by omega)
          obtain ⟨x38, hx38⟩ : ∃ x : Int, x = w32 (20 + x37) := ⟨_, rfl⟩
          have hx38e : x38 = 20 + x37 := by rw [hx38]; exact w32_id (by omega)
          obtain ⟨x39, hx39⟩ : ∃ x : Int, x = w32 (x38 + 1) := ⟨_, rfl⟩
          have hx39e : x39 = x38 + 1 := by rw [hx39]; exact w32_id (by omega)
          refine zG_w (c' := (71, [.inr (.inr (some 97)), .inl a1, .inl a2, .inl a3, .inl a4, .inl a5, .inl a6, .inl v16], [.inl x39, .inr (.inr (some 98)), .inl (M17 97 28), .inr (.inr (some 97))])) 9 hd0 hz (by subst hx39; subst hx38; subst hx37; rfl) ?_
          refine zG_iald hd0 hz rfl rfl (.inl rfl) (by omega) ?_
          obtain ⟨x40, hx40⟩ : ∃ x : Int, x = M17 98 (x39 : Int).toNat := ⟨_, rfl⟩
          rw [← hx40]
          have hx40r : 0 ≤ x40 ∧ x40 ≤ 16383 := by rw [hx40]; exact hCM17.leans v16 _ (by omega) (by omega)
          show zG n (0, 0) d 267 (72, [.inr (.inr (some 97)), .inl a1, .inl a2, .inl a3, .inl a4, .inl a5, .inl a6, .inl v16], [.inl x40, .inl (M17 97 28), .inr (.inr (some 97))]) M17 _
          have r41 := hCM17.rg 97 21 (by decide) (by decide)
          obtain ⟨x42, hx42⟩ : ∃ x : Int, x = zbxor (M17 97 21) (-1) := ⟨_, rfl⟩
          have hx42r : qin x42 := by rw [hx42]; exact qb32 _
          obtain ⟨x43, hx43⟩ : ∃ x : Int, x = zband x40 x42 := ⟨_, rfl⟩
          have hx43r := qband_l x40 x42 (by omega) (by omega); rw [← hx43] at hx43r
          refine zG_w (c' := (83, [.inr (.inr (some 97)), .inl a1, .inl a2, .inl a3, .inl a4, .inl a5, .inl a6, .inl v16], [.inl x43, .inl (M17 97 28), .inr (.inr (some 97))])) 6 hd0 hz (by subst hx43; subst hx42; rfl) ?_
          exact j83 x43 (by omega)
  exact j35 ((x15 + 1 : Int).toNat + 1) x15 M11 (by omega) (by omega) hCM11 hWM11
theorem qm_268_97 {n d : Nat} {M : zM} (hd : 9 ≤ d) (hC : qMI M)  (a1 : Int) (ha1 : (-2147483648) ≤ a1 ∧ a1 ≤ 2147483647) (a2 : Int) (ha2 : (-2147483648) ≤ a2 ∧ a2 ≤ 2147483647) (a3 : Int) (ha3 : (-2147483648) ≤ a3 ∧ a3 ≤ 2147483647) (a4 : Int) (ha4 : (-2147483648) ≤ a4 ∧ a4 ≤ 2147483647) (a5 : Int) (ha5 : (-2147483648) ≤ a5 ∧ a5 ≤ 2147483647) (a6 : Int) (ha6 : (-2147483648) ≤ a6 ∧ a6 ≤ 2147483647) : qOkN n d 268 [.inr (.inr (some 97)), .inl a1, .inl a2, .inl a3, .inl a4, .inl a5, .inl a6] 7 [101, 102, 103, 104, 105, 106, 107, 108, 109, 110, 114, 115, 1007, 1010, 1012, 1013, 1016, 1018, 1019, 1020, 1021, 1022, 1023, 1028, 1030, 1031, 1032, 1033] M (fun v M' => ∃ x : Int, v = some (.inl x) ∧ ((-2147483648) ≤ x ∧ x ≤ 2147483647)) := by
  have hz := zp_268
  have hd0 : 0 < d := by omega
  have hW : qFm [101, 102, 103, 104, 105, 106, 107, 108, 109, 110, 114, 115, 1007, 1010, 1012, 1013, 1016, 1018, 1019, 1020, 1021, 1022, 1023, 1028, 1030, 1031, 1032, 1033] M M := qFm.rfl
  have r1 := hC.cnt1
  show zG n (0, 0) d 268 (0, [.inr (.inr (some 97)), .inl a1, .inl a2, .inl a3, .inl a4, .inl a5, .inl a6], []) M _
  refine zG_wp (pc := 13) (L := [.inr (.inr (some 97)), .inl a1, .inl a2, .inl a3, .inl a4, .inl a5, .inl a6]) (st := []) 7 hd0 hz zp_266 (qm_266_97 (by first | exact zdk hd rfl | omega) hC   a1 (by first | with_reducible exact ha1 | omega) a2 (by first | with_reducible exact ha2 | omega) a3 (by first | with_reducible exact ha3 | omega) a4 (by first | with_reducible exact ha4 | omega) a5 (by first | with_reducible exact ha5 | omega) a6 (by first | with_reducible exact ha6 | omega) ) (by rfl) (fun x3 hr => ?_)
  obtain ⟨hx3, hpx3_0⟩ := hr
  have j34 : ∀ (v4 : Int) (M5 : zM) , (-2147483648) ≤ v4 ∧ v4 ≤ 2147483647 → qMI M5 → qFm [101, 102, 103, 104, 105, 106, 107, 108, 109, 110, 114, 115, 1007, 1010, 1012, 1013, 1016, 1018, 1019, 1020, 1021, 1022, 1023, 1028, 1030, 1031, 1032, 1033] M M5 → zG n (0, 0) d 268 (34, [.inr (.inr (some 97)), .inl a1, .inl a2, .inl a3, .inl a4, .inl a5, .inl a6], [.inl v4]) M5 (fun v M' => (qMI M' ∧ qFm [101, 102, 103, 104, 105, 106, 107, 108, 109, 110, 114, 115, 1007, 1010, 1012, 1013, 1016, 1018, 1019, 1020, 1021, 1022, 1023, 1028, 1030, 1031, 1032, 1033] M M') ∧ ∃ x : Int, v = some (.inl x) ∧ ((-2147483648) ≤ x ∧ x ≤ 2147483647)) := by
    intro v4 M5 hv4 hCM5 hWM5
    have e6 : M5 98 1 = M 98 1 := hWM5 98 1 (by decide)
    exact zG_wr (r := some (.inl v4)) 0 hd0 hz (by rfl) ⟨⟨hCM5, hWM5⟩, _, rfl, by omega⟩
  refine zG_wf_eq (pc := 13) (n' := 16) (t := 32) (L := [.inr (.inr (some 97)), .inl a1, .inl a2, .inl a3, .inl a4, .inl a5, .inl a6]) (st := []) (x := x3) 0 hd0 hz (by rfl) (fun hb7 => ?_) (fun hb7 => ?_)
  · refine zG_w (c' := (34, [.inr (.inr (some 97)), .inl a1, .inl a2, .inl a3, .inl a4, .inl a5, .inl a6], [.inl (-2)])) 1 hd0 hz (by rfl) ?_
    exact j34 (-2) M (by omega) hC hW
  · refine zG_wc (c1 := (29, [.inr (.inr (some 97)), .inl a1, .inl a2, .inl a3, .inl a4, .inl a5, .inl a6], [])) 7 hd0 hz zp_267 (qm_267_97 (by first | exact zdk hd rfl | omega) hC   a1 (by first | with_reducible exact ha1 | omega) a2 (by first | with_reducible exact ha2 | omega) a3 (by first | with_reducible exact ha3 | omega) a4 (by first | with_reducible exact ha4 | omega) a5 (by first | with_reducible exact ha5 | omega) a6 (by first | with_reducible exact ha6 | omega) ) (by rfl) (fun vr M8 hr => ?_)
    obtain ⟨⟨hCM8, hFM8⟩, x9, rfl, hx9, hpx9_0⟩ := hr
    have hWM8 : qFm [101, 102, 103, 104, 105, 106, 107, 108, 109, 110, 114, 115, 1007, 1010, 1012, 1013, 1016, 1018, 1019, 1020, 1021, 1022, 1023, 1028, 1030, 1031, 1032, 1033] M M8 := hW.tr hFM8 (by decide)
    have e10 : M8 98 1 = M 98 1 := hFM8 98 1 (by decide)
    show zG n (0, 0) d 268 (29, [.inr (.inr (some 97)), .inl a1, .inl a2, .inl a3, .inl a4, .inl a5, .inl a6], [.inl x9]) M8 _
    refine zG_w (c' := (34, [.inr (.inr (some 97)), .inl a1, .inl a2, .inl a3, .inl a4, .inl a5, .inl a6], [.inl x9])) 1 hd0 hz (by rfl) ?_
    exact j34 x9 M8 (by omega) hCM8 hWM8
theorem qm_269_97 {n d : Nat} {M : zM} (hd : 3 ≤ d) (hC : qMI M)  (a1 : Int) (ha1 : 0 ≤ a1 ∧ a1 ≤ 16383) (a2 : Int) (ha2 : 0 ≤ a2 ∧ a2 ≤ 2) (a3 : Int) (ha3 : 1 ≤ a3 ∧ a3 ≤ 4) : qOkN n d 269 [.inr (.inr (some 97)), .inl a1, .inl a2, .inl a3] 9 [115, 1030] M (fun v M' => ∃ x : Int, v = some (.inl x) ∧ (0 ≤ x ∧ x ≤ 16383)) := by
  have hz := zp_269
  have hd0 : 0 < d := by omega
  have hW : qFm [115, 1030] M M := qFm.rfl
  show zG n (0, 0) d 269 (0, [.inr (.inr (some 97)), .inl a1, .inl a2, .inl a3, zN, zN, zN, zN, zN], []) M _
  obtain ⟨x1, hx1⟩ : ∃ x : Int, x = w32 (3 * a1) := ⟨_, rfl⟩
  have hx1e : x1 = 3 * a1 := by rw [hx1]; exact w32_id (by omega)
  obtain ⟨x2, hx2⟩ : ∃ x : Int, x = w32 (x1 + a2) := ⟨_, rfl⟩
  have hx2e : x2 = x1 + a2 := by rw [hx2]; exact w32_id (by omega)
  refine zG_w (c' := (9, [.inr (.inr (some 97)), .inl a1, .inl a2, .inl a3, zN, zN, zN, zN, zN], [.inl x2, .inr (.inr (some 114))])) 7 hd0 hz (by subst hx2; subst hx1; rfl) ?_
  refine zG_iald hd0 hz rfl rfl (.inl rfl) (by omega) ?_
  obtain ⟨x3, hx3⟩ : ∃ x : Int, x = M 114 (x2 : Int).toNat := ⟨_, rfl⟩
  rw [← hx3]
  have hx3r : qin x3 := by rw [hx3]; exact hC.ra 114 _ (by decide) (by decide)
  show zG n (0, 0) d 269 (10, [.inr (.inr (some 97)), .inl a1, .inl a2, .inl a3, zN, zN, zN, zN, zN], [.inl x3]) M _
  refine zG_wv (pc := 21) (L := [.inr (.inr (some 97)), .inl a1, .inl a2, .inl a3, .inl x3, .inl 0, zN, zN, zN]) (st := []) 6 hd0 hz zp_261 (qm_261_97 (by first | exact zdk hd rfl | omega) hC   a1 (by first | with_reducible exact ha1 | omega) a2 (by first | with_reducible exact ha2 | omega) ) (by rfl) (fun M4 hr => ?_)
  obtain ⟨hCM4, hFM4⟩ := hr
  have hWM4 : qFm [115, 1030] M M4 := hW.tr hFM4 (by decide)
  refine zG_wp (pc := 26) (L := [.inr (.inr (some 97)), .inl a1, .inl a2, .inl a3, .inl x3, .inl 0, zN, zN, zN]) (st := []) 2 hd0 hz zp_264 (qm_264_97 (by first | exact zdk hd rfl | omega) hCM4   a3 (by first | with_reducible exact ha3 | omega) ) (by rfl) (fun x7 hx7 => ?_)
  obtain ⟨x8, hx8⟩ : ∃ x : Int, x = zbshl 1 x7 := ⟨_, rfl⟩
  have hx8r := qshl1_in x7 16384 14 (by decide) (by decide) (by omega); rw [← hx8] at hx8r
  obtain ⟨x9, hx9⟩ : ∃ x : Int, x = w32 (x8 - 1) := ⟨_, rfl⟩
  have hx9e : x9 = x8 - 1 := by rw [hx9]; exact w32_id (by omega)
  refine zG_w (c' := (36, [.inr (.inr (some 97)), .inl a1, .inl a2, .inl a3, .inl x3, .inl 0, .inl x7, .inl x9, zN], [])) 7 hd0 hz (by subst hx9; subst hx8; rfl) ?_
  have j36 : ∀ (N : Nat) (v10 v11 : Int) , (32768 - v11 : Int).toNat < N → 0 ≤ v10 ∧ v10 ≤ 16383 → 0 ≤ v11 ∧ v11 ≤ 32767 → (0 < x7 → 1 ≤ v11) → zG n (0, 0) d 269 (36, [.inr (.inr (some 97)), .inl a1, .inl a2, .inl a3, .inl x3, .inl v10, .inl x7, .inl v11, zN], []) M4 (fun v M' => (qMI M' ∧ qFm [115, 1030] M M') ∧ ∃ x : Int, v = some (.inl x) ∧ (0 ≤ x ∧ x ≤ 16383)) := by
    intro N
    induction N with
    | zero => intro v10 v11 hN hv10 hv11 hx0_36; exact absurd hN (Nat.not_lt_zero _)
    | succ N ih36 =>
      intro v10 v11 hN hv10 hv11 hx0_36
      replace hN : 32768 - v11 < (N : Int) + 1 := by omega
      refine zG_w (c' := (38, [.inr (.inr (some 97)), .inl a1, .inl a2, .inl a3, .inl x3, .inl v10, .inl x7, .inl v11, zN], [.inl x7])) 1 hd0 hz (by rfl) ?_
      have j103 : zG n (0, 0) d 269 (103, [.inr (.inr (some 97)), .inl a1, .inl a2, .inl a3, .inl x3, .inl v10, .inl x7, .inl v11, zN], []) M4 (fun v M' => (qMI M' ∧ qFm [115, 1030] M M') ∧ ∃ x : Int, v = some (.inl x) ∧ (0 ≤ x ∧ x ≤ 16383)) := by
        exact zG_wr (r := some (.inl v10)) 1 hd0 hz (by rfl) ⟨⟨hCM4, hWM4⟩, _, rfl, by omega⟩
      refine zG_wf_le (pc := 38) (n' := 41) (t := 103) (L := [.inr (.inr (some 97)), .inl a1, .inl a2, .inl a3, .inl x3, .inl v10, .inl x7, .inl v11, zN]) (st := []) (x := x7) 0 hd0 hz (by rfl) (fun hb12 => ?_) (fun hb12 => ?_)
      · exact j103
      · have r13 := hCM4.f30
        obtain ⟨x14, hx14⟩ : ∃ x : Int, x = zbshl 1 (M4 97 30) := ⟨_, rfl⟩
        have hx14r := qshl1_in (M4 97 30) 16384 14 (by decide) (by decide) (by omega); rw [← hx14] at hx14r
        refine zG_wi_ge (pc := 49) (n' := 52) (t := 103) (L := [.inr (.inr (some 97)), .inl a1, .inl a2, .inl a3, .inl x3, .inl v10, .inl x7, .inl v11, zN]) (st := []) (x := v11) (y := x14) 5 hd0 hz (by subst hx14; rfl) (fun hb15 => ?_) (fun hb15 => ?_)
        · exact j103
        · refine zG_wp (pc := 58) (L := [.inr (.inr (some 97)), .inl a1, .inl a2, .inl a3, .inl x3, .inl v10, .inl x7, .inl v11, zN]) (st := []) 2 hd0 hz zp_262 (qm_262_97 (by first | exact zdk hd rfl | omega) hCM4   v11 (by first | with_reducible exact hv11 | omega) ) (by rfl) (fun x17 hx17 => ?_)
          obtain ⟨x18, hx18⟩ : ∃ x : Int, x = zbor a1 x17 := ⟨_, rfl⟩
          have hx18r := qbor_in a1 x17 16384 14 (by decide) (by decide) (by omega) (by omega); rw [← hx18] at hx18r
          obtain ⟨x19, hx19⟩ : ∃ x : Int, x = w32 (3 * x18) := ⟨_, rfl⟩
          have hx19e : x19 = 3 * x18 := by rw [hx19]; exact w32_id (by omega)
          obtain ⟨x20, hx20⟩ : ∃ x : Int, x = w32 (a2 + 1) := ⟨_, rfl⟩
          have hx20e : x20 = a2 + 1 := by rw [hx20]; exact w32_id (by omega)
          refine zG_w (c' := (75, [.inr (.inr (some 97)), .inl a1, .inl a2, .inl a3, .inl x3, .inl v10, .inl x7, .inl v11, .inl x17], [.inl 3, .inl x20, .inl x19, .inr (.inr (some 114)), .inl 1])) 13 hd0 hz (by subst hx20; subst hx19; subst hx18; rfl) ?_
          refine zG_irem hd0 hz rfl (by omega) ?_
          have hx21 := qtmod_in x20 3 (by first | decide | omega)
          generalize x20.tmod 3 = x21 at hx21 ⊢
          show zG n (0, 0) d 269 (76, [.inr (.inr (some 97)), .inl a1, .inl a2, .inl a3, .inl x3, .inl v10, .inl x7, .inl v11, .inl x17], [.inl x21, .inl x19, .inr (.inr (some 114)), .inl 1]) M4 _
          obtain ⟨x22, hx22⟩ : ∃ x : Int, x = w32 (x19 + x21) := ⟨_, rfl⟩
          have hx22e : x22 = x19 + x21 := by rw [hx22]; exact w32_id (by omega)
          refine zG_w (c' := (77, [.inr (.inr (some 97)), .inl a1, .inl a2, .inl a3, .inl x3, .inl v10, .inl x7, .inl v11, .inl x17], [.inl x22, .inr (.inr (some 114)), .inl 1])) 1 hd0 hz (by subst hx22; rfl) ?_
          refine zG_iald hd0 hz rfl rfl (.inl rfl) (by omega) ?_
          obtain ⟨x23, hx23⟩ : ∃ x : Int, x = M4 114 (x22 : Int).toNat := ⟨_, rfl⟩
          rw [← hx23]
          have hx23r : qin x23 := by rw [hx23]; exact hCM4.ra 114 _ (by decide) (by decide)
          show zG n (0, 0) d 269 (78, [.inr (.inr (some 97)), .inl a1, .inl a2, .inl a3, .inl x3, .inl v10, .inl x7, .inl v11, .inl x17], [.inl x23, .inl 1]) M4 _
          obtain ⟨x24, hx24⟩ : ∃ x : Int, x = w32 (1 + x23) := ⟨_, rfl⟩
          have hx24r : x24 = (1 + x23 + 2147483648) % 4294967296 - 2147483648 := hx24
          refine zG_w (c' := (81, [.inr (.inr (some 97)), .inl a1, .inl a2, .inl a3, .inl x3, .inl v10, .inl x7, .inl v11, .inl x17], [.inl x3, .inl x24])) 2 hd0 hz (by subst hx24; rfl) ?_
          have j91 : ∀ (v25 : Int) , 0 ≤ v25 ∧ v25 ≤ 16383 → zG n (0, 0) d 269 (91, [.inr (.inr (some 97)), .inl a1, .inl a2, .inl a3, .inl x3, .inl v10, .inl x7, .inl v11, .inl x17], [.inl v25]) M4 (fun v M' => (qMI M' ∧ qFm [115, 1030] M M') ∧ ∃ x : Int, v = some (.inl x) ∧ (0 ≤ x ∧ x ≤ 16383)) := by
            intro v25 hv25
            refine zG_wp (pc := 98) (L := [.inr (.inr (some 97)), .inl a1, .inl a2, .inl a3, .inl x3, .inl v25, .inl x7, .inl v11, .inl x17]) (st := []) 2 hd0 hz zp_263 (qm_263 (by first | exact zdk hd rfl | omega) hCM4   v11 (by first | with_reducible exact hv11 | omega) ) (by rfl) (fun x27 hr => ?_)
            obtain ⟨hx27, hpx27_0⟩ := hr
            refine zG_w (c' := (36, [.inr (.inr (some 97)), .inl a1, .inl a2, .inl a3, .inl x3, .inl v25, .inl x7, .inl x27, .inl x17], [])) 2 hd0 hz (by rfl) ?_
            exact zG_weak (ih36 v25 x27 (by omega) (by omega) (by omega) (by omega)) ⟨.inr rfl, .inr rfl, .inr rfl, .inr rfl, .inr rfl, .inr rfl, .inr rfl, .inr rfl, .inl rfl, trivial⟩
          refine zG_wi_ne (pc := 81) (n' := 84) (t := 89) (L := [.inr (.inr (some 97)), .inl a1, .inl a2, .inl a3, .inl x3, .inl v10, .inl x7, .inl v11, .inl x17]) (st := []) (x := x24) (y := x3) 0 hd0 hz (by rfl) (fun hb28 => ?_) (fun hb28 => ?_)
          · refine zG_w (c' := (91, [.inr (.inr (some 97)), .inl a1, .inl a2, .inl a3, .inl x3, .inl v10, .inl x7, .inl v11, .inl x17], [.inl v10])) 1 hd0 hz (by rfl) ?_
            exact j91 v10 (by first | with_reducible exact hv10 | omega)
          · refine zG_w (c' := (91, [.inr (.inr (some 97)), .inl a1, .inl a2, .inl a3, .inl x3, .inl v10, .inl x7, .inl v11, .inl x17], [.inl x17])) 2 hd0 hz (by rfl) ?_
            exact j91 x17 (by omega)
  exact j36 ((32768 - x9 : Int).toNat + 1) 0 x9 (by omega) (by omega) (by omega) (by omega)
theorem qm_270_97 {n d : Nat} {M : zM} (hd : 9 ≤ d) (hC : qMI M)  (a1 : Int) (ha1 : (-2147483648) ≤ a1 ∧ a1 ≤ 2147483647) (a2 : Int) (ha2 : (-2147483648) ≤ a2 ∧ a2 ≤ 2147483647) (a3 : Int) (ha3 : (-2147483648) ≤ a3 ∧ a3 ≤ 2147483647) (a4 : Int) (ha4 : (-2147483648) ≤ a4 ∧ a4 ≤ 2147483647) (a5 : Int) (ha5 : (-2147483648) ≤ a5 ∧ a5 ≤ 2147483647) (a6 : Int) (ha6 : (-2147483648) ≤ a6 ∧ a6 ≤ 2147483647) (a7 : Int) (ha7 : (-2147483648) ≤ a7 ∧ a7 ≤ 2147483647) : qOkN n d 270 [.inr (.inr (some 97)), .inl a1, .inl a2, .inl a3, .inl a4, .inl a5, .inl a6, .inl a7] 12 [101, 102, 103, 104, 105, 106, 107, 108, 109, 110, 114, 115, 1007, 1010, 1012, 1013, 1016, 1018, 1019, 1020, 1021, 1022, 1023, 1028, 1030, 1031, 1032, 1033] M (fun v M' => ∃ x : Int, v = some (.inl x) ∧ ((-2) ≤ x ∧ x ≤ 16383)) := by
  have hz := zp_270
  have hd0 : 0 < d := by omega
  have hW : qFm [101, 102, 103, 104, 105, 106, 107, 108, 109, 110, 114, 115, 1007, 1010, 1012, 1013, 1016, 1018, 1019, 1020, 1021, 1022, 1023, 1028, 1030, 1031, 1032, 1033] M M := qFm.rfl
  have r1 := hC.cnt1
  show zG n (0, 0) d 270 (0, [.inr (.inr (some 97)), .inl a1, .inl a2, .inl a3, .inl a4, .inl a5, .inl a6, .inl a7, zN, zN, zN, zN], []) M _
  refine zG_wp (pc := 13) (L := [.inr (.inr (some 97)), .inl a1, .inl a2, .inl a3, .inl a4, .inl a5, .inl a6, .inl a7, zN, zN, zN, zN]) (st := []) 7 hd0 hz zp_266 (qm_266_97 (by first | exact zdk hd rfl | omega) hC   a1 (by first | with_reducible exact ha1 | omega) a2 (by first | with_reducible exact ha2 | omega) a3 (by first | with_reducible exact ha3 | omega) a4 (by first | with_reducible exact ha4 | omega) a5 (by first | with_reducible exact ha5 | omega) a6 (by first | with_reducible exact ha6 | omega) ) (by rfl) (fun x3 hr => ?_)
  obtain ⟨hx3, hpx3_0⟩ := hr
  have j21 : zG n (0, 0) d 270 (21, [.inr (.inr (some 97)), .inl a1, .inl a2, .inl a3, .inl a4, .inl a5, .inl a6, .inl a7, zN, zN, zN, zN], []) M (fun v M' => (qMI M' ∧ qFm [101, 102, 103, 104, 105, 106, 107, 108, 109, 110, 114, 115, 1007, 1010, 1012, 1013, 1016, 1018, 1019, 1020, 1021, 1022, 1023, 1028, 1030, 1031, 1032, 1033] M M') ∧ ∃ x : Int, v = some (.inl x) ∧ ((-2) ≤ x ∧ x ≤ 16383)) := by
    exact zG_wr (r := some (.inl (-2))) 1 hd0 hz (by rfl) ⟨⟨hC, hW⟩, _, rfl, by omega⟩
  refine zG_wf_eq (pc := 13) (n' := 16) (t := 21) (L := [.inr (.inr (some 97)), .inl a1, .inl a2, .inl a3, .inl a4, .inl a5, .inl a6, .inl a7, zN, zN, zN, zN]) (st := []) (x := x3) 0 hd0 hz (by rfl) (fun hb4 => ?_) (fun hb4 => ?_)
  · exact j21
  · refine zG_wf_ge (pc := 18) (n' := 21) (t := 24) (L := [.inr (.inr (some 97)), .inl a1, .inl a2, .inl a3, .inl a4, .inl a5, .inl a6, .inl a7, zN, zN, zN, zN]) (st := []) (x := a7) 1 hd0 hz (by rfl) (fun hb5 => ?_) (fun hb5 => ?_)
    · refine zG_wc (c1 := (37, [.inr (.inr (some 97)), .inl a1, .inl a2, .inl a3, .inl a4, .inl a5, .inl a6, .inl a7, zN, zN, zN, zN], [])) 7 hd0 hz zp_267 (qm_267_97 (by first | exact zdk hd rfl | omega) hC   a1 (by first | with_reducible exact ha1 | omega) a2 (by first | with_reducible exact ha2 | omega) a3 (by first | with_reducible exact ha3 | omega) a4 (by first | with_reducible exact ha4 | omega) a5 (by first | with_reducible exact ha5 | omega) a6 (by first | with_reducible exact ha6 | omega) ) (by rfl) (fun vr M6 hr => ?_)
      obtain ⟨⟨hCM6, hFM6⟩, x7, rfl, hx7, hpx7_0⟩ := hr
      have hWM6 : qFm [101, 102, 103, 104, 105, 106, 107, 108, 109, 110, 114, 115, 1007, 1010, 1012, 1013, 1016, 1018, 1019, 1020, 1021, 1022, 1023, 1028, 1030, 1031, 1032, 1033] M M6 := hW.tr hFM6 (by decide)
      have e8 : M6 98 1 = M 98 1 := hFM6 98 1 (by decide)
      show zG n (0, 0) d 270 (37, [.inr (.inr (some 97)), .inl a1, .inl a2, .inl a3, .inl a4, .inl a5, .inl a6, .inl a7, zN, zN, zN, zN], [.inl x7]) M6 _
      refine zG_wi_lt (pc := 43) (n' := 46) (t := 48) (L := [.inr (.inr (some 97)), .inl a1, .inl a2, .inl a3, .inl a4, .inl a5, .inl a6, .inl a7, .inl x7, zN, zN, zN]) (st := []) (x := a7) (y := x7) 3 hd0 hz (by rfl) (fun hb9 => ?_) (fun hb9 => ?_)
      · refine zG_w (c' := (57, [.inr (.inr (some 97)), .inl a1, .inl a2, .inl a3, .inl a4, .inl a5, .inl a6, .inl a7, .inl x7, .inl 0, .inl 0, .inl 0], [])) 6 hd0 hz (by rfl) ?_
        have j57 : ∀ (N : Nat) (v10 v11 v12 : Int) (M13 : zM) , (a7 - v12 + 1 : Int).toNat < N → 0 ≤ v10 ∧ v10 ≤ 16383 → 0 ≤ v11 ∧ v11 ≤ 16383 → 0 ≤ v12 ∧ v12 ≤ 2147483647 → qMI M13 → qFm [101, 102, 103, 104, 105, 106, 107, 108, 109, 110, 114, 115, 1007, 1010, 1012, 1013, 1016, 1018, 1019, 1020, 1021, 1022, 1023, 1028, 1030, 1031, 1032, 1033] M M13 → zG n (0, 0) d 270 (57, [.inr (.inr (some 97)), .inl a1, .inl a2, .inl a3, .inl a4, .inl a5, .inl a6, .inl a7, .inl x7, .inl v10, .inl v11, .inl v12], []) M13 (fun v M' => (qMI M' ∧ qFm [101, 102, 103, 104, 105, 106, 107, 108, 109, 110, 114, 115, 1007, 1010, 1012, 1013, 1016, 1018, 1019, 1020, 1021, 1022, 1023, 1028, 1030, 1031, 1032, 1033] M M') ∧ ∃ x : Int, v = some (.inl x) ∧ ((-2) ≤ x ∧ x ≤ 16383)) := by
          intro N
          induction N with
          | zero => intro v10 v11 v12 M13 hN hv10 hv11 hv12 hCM13 hWM13; exact absurd hN (Nat.not_lt_zero _)
          | succ N ih57 =>
            intro v10 v11 v12 M13 hN hv10 hv11 hv12 hCM13 hWM13
            replace hN : a7 - v12 + 1 < (N : Int) + 1 := by omega
            have e14 : M13 98 1 = M 98 1 := hWM13 98 1 (by decide)
            refine zG_wi_gt (pc := 61) (n' := 64) (t := 93) (L := [.inr (.inr (some 97)), .inl a1, .inl a2, .inl a3, .inl a4, .inl a5, .inl a6, .inl a7, .inl x7, .inl v10, .inl v11, .inl v12]) (st := []) (x := v12) (y := a7) 2 hd0 hz (by rfl) (fun hb15 => ?_) (fun hb15 => ?_)
            · exact zG_wr (r := some (.inl v11)) 1 hd0 hz (by rfl) ⟨⟨hCM13, hWM13⟩, _, rfl, by omega⟩
            · obtain ⟨x16, hx16⟩ : ∃ x : Int, x = w32 (a3 + v12) := ⟨_, rfl⟩
              have hx16r : x16 = (a3 + v12 + 2147483648) % 4294967296 - 2147483648 := hx16
              refine zG_w (c' := (72, [.inr (.inr (some 97)), .inl a1, .inl a2, .inl a3, .inl a4, .inl a5, .inl a6, .inl a7, .inl x7, .inl v10, .inl v11, .inl v12], [.inl 3, .inl x16, .inl v10, .inr (.inr (some 97))])) 6 hd0 hz (by subst hx16; rfl) ?_
              refine zG_irem hd0 hz rfl (by omega) ?_
              have hx17 := qtmod_in x16 3 (by first | decide | omega)
              generalize x16.tmod 3 = x17 at hx17 ⊢
              show zG n (0, 0) d 270 (73, [.inr (.inr (some 97)), .inl a1, .inl a2, .inl a3, .inl a4, .inl a5, .inl a6, .inl a7, .inl x7, .inl v10, .inl v11, .inl v12], [.inl x17, .inl v10, .inr (.inr (some 97))]) M13 _
              refine zG_wn (pc := 78) (L := [.inr (.inr (some 97)), .inl a1, .inl a2, .inl a3, .inl a4, .inl a5, .inl a6, .inl a7, .inl x7, .inl v10, .inl v11, .inl v12]) (st := []) 1 hd0 hz zp_269 (qm_269_97 (by first | exact zdk hd rfl | omega) hCM13   v10 (by first | with_reducible exact hv10 | omega) x17 (by omega) a4 (by first | with_reducible exact ha4 | omega) ) (by rfl) (fun x19 M18 hr hx19 => ?_)
              obtain ⟨hCM18, hFM18⟩ := hr
              have hWM18 : qFm [101, 102, 103, 104, 105, 106, 107, 108, 109, 110, 114, 115, 1007, 1010, 1012, 1013, 1016, 1018, 1019, 1020, 1021, 1022, 1023, 1028, 1030, 1031, 1032, 1033] M M18 := hWM13.tr hFM18 (by decide)
              have e20 : M18 98 1 = M13 98 1 := hFM18 98 1 (by decide)
              obtain ⟨x21, hx21⟩ : ∃ x : Int, x = zbor v10 x19 := ⟨_, rfl⟩
              have hx21r := qbor_in v10 x19 16384 14 (by decide) (by decide) (by omega) (by omega); rw [← hx21] at hx21r
              obtain ⟨x22, hx22⟩ : ∃ x : Int, x = w32 (v12 + 1) := ⟨_, rfl⟩
              have hx22e : x22 = v12 + 1 := by rw [hx22]; exact w32_id (by omega)
              refine zG_w (c' := (57, [.inr (.inr (some 97)), .inl a1, .inl a2, .inl a3, .inl a4, .inl a5, .inl a6, .inl a7, .inl x7, .inl x21, .inl x19, .inl x22], [])) 7 hd0 hz (by subst hx22; subst hx21; rfl) ?_
              exact ih57 x21 x19 x22 M18 (by omega) (by omega) (by omega) (by omega) hCM18 hWM18
        exact j57 ((a7 - 0 + 1 : Int).toNat + 1) 0 0 0 M6 (by omega) (by omega) (by omega) (by omega) hCM6 hWM6
      · exact zG_wr (r := some (.inl (-1))) 1 hd0 hz (by rfl) ⟨⟨hCM6, hWM6⟩, _, rfl, by omega⟩
    · exact j21
