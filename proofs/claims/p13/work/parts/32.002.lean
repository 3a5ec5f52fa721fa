theorem qm_274_97 {n d : Nat} {M : zM} (hd : 2 ≤ d) (hC : qMI M)  (a1 : Int) (ha1 : (-2147483648) ≤ a1 ∧ a1 ≤ 2147483647) : qOkP n d 274 [.inr (.inr (some 97)), .inl a1] 5 M (fun v => ∃ x : Int, v = some (.inl x) ∧ (0 ≤ x ∧ x ≤ 1)) := by
  have hz := zp_274
  have hd0 : 0 < d := by omega
  have r1 := hC.f34
  show zG n (0, 0) d 274 (0, [.inr (.inr (some 97)), .inl a1, zN, zN, zN], []) M _
  refine zG_blk (c' := (2, [.inr (.inr (some 97)), .inl a1, .inl 0, zN, zN], [])) 2 hd0 hz (by rfl) ?_
  have j2 : ∀ (N : Nat) (v2 : Int) , (9 - v2 : Int).toNat < N → 0 ≤ v2 ∧ v2 ≤ 9 → zG n (0, 0) d 274 (2, [.inr (.inr (some 97)), .inl a1, .inl v2, zN, zN], []) M (fun v M' => M' = M ∧ ∃ x : Int, v = some (.inl x) ∧ (0 ≤ x ∧ x ≤ 1)) := by
    intro N
    induction N with
    | zero => intro v2 hN hv2; exact absurd hN (Nat.not_lt_zero _)
    | succ N ih2 =>
      intro v2 hN hv2
      refine zG_blk (c' := (7, [.inr (.inr (some 97)), .inl a1, .inl v2, zN, zN], [.inl (M 97 34), .inl v2])) 3 hd0 hz (by rfl) ?_
      refine zG_icmp_ge hd0 hz rfl (fun hb3 => ?_) (fun hb3 => ?_)
      · refine zG_blk (c' := (102, [.inr (.inr (some 97)), .inl a1, .inl v2, zN, zN], [.inl 1])) 1 hd0 hz (by rfl) ?_
        exact zG_ret hd0 hz rfl rfl ⟨rfl, _, rfl, by omega⟩
      · refine zG_blk (c' := (15, [.inr (.inr (some 97)), .inl a1, .inl v2, .inl 0, .inl 0], [])) 4 hd0 hz (by rfl) ?_
        have j15 : ∀ (N : Nat) (v4 v5 : Int) , (9 - v5 : Int).toNat < N → (-2147483648) ≤ v4 ∧ v4 ≤ 2147483647 → 0 ≤ v5 ∧ v5 ≤ 9 → zG n (0, 0) d 274 (15, [.inr (.inr (some 97)), .inl a1, .inl v2, .inl v4, .inl v5], []) M (fun v M' => M' = M ∧ ∃ x : Int, v = some (.inl x) ∧ (0 ≤ x ∧ x ≤ 1)) := by
          intro N
          induction N with
          | zero => intro v4 v5 hN hv4 hv5; exact absurd hN (Nat.not_lt_zero _)
          | succ N ih15 =>
            intro v4 v5 hN hv4 hv5
            refine zG_blk (c' := (21, [.inr (.inr (some 97)), .inl a1, .inl v2, .inl v4, .inl v5], [.inl (M 97 34), .inl v5])) 3 hd0 hz (by rfl) ?_
            refine zG_icmp_ge hd0 hz rfl (fun hb6 => ?_) (fun hb6 => ?_)
            · refine zG_blk (c' := (90, [.inr (.inr (some 97)), .inl a1, .inl v2, .inl v4, .inl v5], [.inl a1, .inl v4])) 2 hd0 hz (by rfl) ?_
              refine zG_icmp_le hd0 hz rfl (fun hb7 => ?_) (fun hb7 => ?_)
              · obtain ⟨x8, hx8⟩ : ∃ x : Int, x = w32 (v2 + 1) := ⟨_, rfl⟩
                have hx8e : x8 = v2 + 1 := by rw [hx8]; exact w32_id (by omega)
                refine zG_blk (c' := (2, [.inr (.inr (some 97)), .inl a1, .inl x8, .inl v4, .inl v5], [])) 2 hd0 hz (by subst hx8; rfl) ?_
                exact zG_weak (ih2 x8 (by omega) (by omega)) ⟨.inr rfl, .inr rfl, .inr rfl, .inl rfl, .inl rfl, trivial⟩
              · refine zG_blk (c' := (94, [.inr (.inr (some 97)), .inl a1, .inl v2, .inl v4, .inl v5], [.inl 0])) 1 hd0 hz (by rfl) ?_
                exact zG_ret hd0 hz rfl rfl ⟨rfl, _, rfl, by omega⟩
            · refine zG_blk (c' := (30, [.inr (.inr (some 97)), .inl a1, .inl v2, .inl v4, .inl v5], [.inl v5, .inr (.inr (some 117))])) 3 hd0 hz (by rfl) ?_
              refine zG_iald hd0 hz rfl rfl (.inl rfl) (by omega) ?_
              obtain ⟨x9, hx9⟩ : ∃ x : Int, x = M 117 (v5 : Int).toNat := ⟨_, rfl⟩
              rw [← hx9]
              have hx9r : 0 ≤ x9 ∧ x9 ≤ 13 := by rw [hx9]; exact hC.c117 _
              show zG n (0, 0) d 274 (31, [.inr (.inr (some 97)), .inl a1, .inl v2, .inl v4, .inl v5], [.inl x9]) M _
              refine zG_blk (c' := (36, [.inr (.inr (some 97)), .inl a1, .inl v2, .inl v4, .inl v5], [.inl v2, .inr (.inr (some 117)), .inl x9])) 3 hd0 hz (by rfl) ?_
              refine zG_iald hd0 hz rfl rfl (.inl rfl) (by omega) ?_
              obtain ⟨x10, hx10⟩ : ∃ x : Int, x = M 117 (v2 : Int).toNat := ⟨_, rfl⟩
              rw [← hx10]
              have hx10r : 0 ≤ x10 ∧ x10 ≤ 13 := by rw [hx10]; exact hC.c117 _
              show zG n (0, 0) d 274 (37, [.inr (.inr (some 97)), .inl a1, .inl v2, .inl v4, .inl v5], [.inl x10, .inl x9]) M _
              have j82 : ∀ (v11 : Int) , (-2147483648) ≤ v11 ∧ v11 ≤ 2147483647 → zG n (0, 0) d 274 (82, [.inr (.inr (some 97)), .inl a1, .inl v2, .inl v11, .inl v5], []) M (fun v M' => M' = M ∧ ∃ x : Int, v = some (.inl x) ∧ (0 ≤ x ∧ x ≤ 1)) := by
                intro v11 hv11
                obtain ⟨x12, hx12⟩ : ∃ x : Int, x = w32 (v5 + 1) := ⟨_, rfl⟩
                have hx12e : x12 = v5 + 1 := by rw [hx12]; exact w32_id (by omega)
                refine zG_blk (c' := (15, [.inr (.inr (some 97)), .inl a1, .inl v2, .inl v11, .inl x12], [])) 2 hd0 hz (by subst hx12; rfl) ?_
                exact ih15 v11 x12 (by omega) (by omega) (by omega)
              refine zG_icmp_ne hd0 hz rfl (fun hb13 => ?_) (fun hb13 => ?_)
              · exact j82 v4 (by first | with_reducible exact hv4 | omega)
              · refine zG_blk (c' := (48, [.inr (.inr (some 97)), .inl a1, .inl v2, .inl v4, .inl v5], [.inl v5, .inr (.inr (some 116)), .inr (.inr (some 97)), .inl v4])) 5 hd0 hz (by rfl) ?_
                refine zG_iald hd0 hz rfl rfl (.inl rfl) (by omega) ?_
                obtain ⟨x14, hx14⟩ : ∃ x : Int, x = M 116 (v5 : Int).toNat := ⟨_, rfl⟩
                rw [← hx14]
                have hx14r : 0 ≤ x14 ∧ x14 ≤ 13 := by rw [hx14]; exact hC.c116 _
                show zG n (0, 0) d 274 (49, [.inr (.inr (some 97)), .inl a1, .inl v2, .inl v4, .inl v5], [.inl x14, .inr (.inr (some 97)), .inl v4]) M _
                refine zG_call hd0 hz zp_272 rfl rfl (Nat.le_of_ble_eq_true rfl) ⟨Nat.le_refl _, Nat.le_refl _⟩ (qm_272_97 (by first | exact zdp hd (by decide) | omega) hC   x14 (by omega) ) (fun vr M15 hr => ?_)
                obtain ⟨hq, x16, rfl, hx16⟩ := hr
                replace hq := hq.symm; subst hq
                show zG n (0, 0) d 274 (52, [.inr (.inr (some 97)), .inl a1, .inl v2, .inl v4, .inl v5], [.inl x16, .inl v4]) M _
                obtain ⟨x17, hx17⟩ : ∃ x : Int, x = w32 (v4 + x16) := ⟨_, rfl⟩
                have hx17r : x17 = (v4 + x16 + 2147483648) % 4294967296 - 2147483648 := hx17
                refine zG_blk (c' := (57, [.inr (.inr (some 97)), .inl a1, .inl v2, .inl x17, .inl v5], [.inl v2, .inl v5])) 4 hd0 hz (by subst hx17; rfl) ?_
                refine zG_icmp_ge hd0 hz rfl (fun hb18 => ?_) (fun hb18 => ?_)
                · exact j82 x17 (by omega)
                · refine zG_blk (c' := (67, [.inr (.inr (some 97)), .inl a1, .inl v2, .inl x17, .inl v5], [.inl v5, .inr (.inr (some 116)), .inr (.inr (some 97))])) 4 hd0 hz (by rfl) ?_
                  refine zG_iald hd0 hz rfl rfl (.inl rfl) (by omega) ?_
                  obtain ⟨x19, hx19⟩ : ∃ x : Int, x = M 116 (v5 : Int).toNat := ⟨_, rfl⟩
                  rw [← hx19]
                  have hx19r : 0 ≤ x19 ∧ x19 ≤ 13 := by rw [hx19]; exact hC.c116 _
                  show zG n (0, 0) d 274 (68, [.inr (.inr (some 97)), .inl a1, .inl v2, .inl x17, .inl v5], [.inl x19, .inr (.inr (some 97))]) M _
                  refine zG_blk (c' := (73, [.inr (.inr (some 97)), .inl a1, .inl v2, .inl x17, .inl v5], [.inl v2, .inr (.inr (some 116)), .inl x19, .inr (.inr (some 97))])) 3 hd0 hz (by rfl) ?_
                  refine zG_iald hd0 hz rfl rfl (.inl rfl) (by omega) ?_
                  obtain ⟨x20, hx20⟩ : ∃ x : Int, x = M 116 (v2 : Int).toNat := ⟨_, rfl⟩
                  rw [← hx20]
                  have hx20r : 0 ≤ x20 ∧ x20 ≤ 13 := by rw [hx20]; exact hC.c116 _
                  show zG n (0, 0) d 274 (74, [.inr (.inr (some 97)), .inl a1, .inl v2, .inl x17, .inl v5], [.inl x20, .inl x19, .inr (.inr (some 97))]) M _
                  refine zG_call hd0 hz zp_273 rfl rfl (Nat.le_of_ble_eq_true rfl) ⟨Nat.le_refl _, Nat.le_refl _⟩ (qm_273_97 (by first | exact zdp hd (by decide) | omega) hC   x19 (by omega) x20 (by omega) ) (fun vr M21 hr => ?_)
                  obtain ⟨hq, x22, rfl, hx22⟩ := hr
                  replace hq := hq.symm; subst hq
                  show zG n (0, 0) d 274 (77, [.inr (.inr (some 97)), .inl a1, .inl v2, .inl x17, .inl v5], [.inl x22]) M _
                  refine zG_if_ne hd0 hz rfl (fun hb23 => ?_) (fun hb23 => ?_)
                  · exact j82 x17 (by omega)
                  · refine zG_blk (c' := (81, [.inr (.inr (some 97)), .inl a1, .inl v2, .inl x17, .inl v5], [.inl 0])) 1 hd0 hz (by rfl) ?_
                    exact zG_ret hd0 hz rfl rfl ⟨rfl, _, rfl, by omega⟩
        exact j15 ((9 - 0 : Int).toNat + 1) 0 0 (by first | decide | omega) (by omega) (by omega)
  exact j2 ((9 - 0 : Int).toNat + 1) 0 (by first | decide | omega) (by omega)
