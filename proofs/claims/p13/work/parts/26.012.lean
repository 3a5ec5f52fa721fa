theorem qm_215_97 {n d : Nat} {M : zM} (hd : 2 ≤ d) (hC : qMI M)  (a1 : Int) (ha1 : 0 ≤ a1 ∧ a1 ≤ 249) : qOkP n d 215 [.inr (.inr (some 97)), .inl a1] 4 M (fun v => ∃ x : Int, v = some (.inl x) ∧ (0 ≤ x ∧ x ≤ 1)) := by
  have hz := zp_215
  have hd0 : 0 < d := by omega
  have r1 := hC.cnt4
  show zG n (0, 0) d 215 (0, [.inr (.inr (some 97)), .inl a1, zN, zN], []) M _
  refine zG_blk (c' := (2, [.inr (.inr (some 97)), .inl a1, .inl 0, zN], [])) 2 hd0 hz (by rfl) ?_
  have j2 : ∀ (N : Nat) (v2 : Int) , (250 - v2 : Int).toNat < N → 0 ≤ v2 ∧ v2 ≤ 250 → zG n (0, 0) d 215 (2, [.inr (.inr (some 97)), .inl a1, .inl v2, zN], []) M (fun v M' => M' = M ∧ ∃ x : Int, v = some (.inl x) ∧ (0 ≤ x ∧ x ≤ 1)) := by
    intro N
    induction N with
    | zero => intro v2 hN hv2; exact absurd hN (Nat.not_lt_zero _)
    | succ N ih2 =>
      intro v2 hN hv2
      refine zG_blk (c' := (8, [.inr (.inr (some 97)), .inl a1, .inl v2, zN], [.inl 4, .inr (.inr (some 98)), .inl v2])) 4 hd0 hz (by rfl) ?_
      refine zG_iald hd0 hz rfl rfl (.inl rfl) (by omega) ?_
      show zG n (0, 0) d 215 (9, [.inr (.inr (some 97)), .inl a1, .inl v2, zN], [.inl (M 98 4), .inl v2]) M _
      refine zG_icmp_ge hd0 hz rfl (fun hb3 => ?_) (fun hb3 => ?_)
      · refine zG_blk (c' := (119, [.inr (.inr (some 97)), .inl a1, .inl v2, zN], [.inl 0])) 1 hd0 hz (by rfl) ?_
        exact zG_ret hd0 hz rfl rfl ⟨rfl, _, rfl, by omega⟩
      · refine zG_blk (c' := (14, [.inr (.inr (some 97)), .inl a1, .inl v2, zN], [.inl a1, .inl v2])) 2 hd0 hz (by rfl) ?_
        have j70 : ∀ (v4 : Int) , 0 ≤ v4 ∧ v4 ≤ 1 → zG n (0, 0) d 215 (70, [.inr (.inr (some 97)), .inl a1, .inl v2, zN], [.inl v4]) M (fun v M' => M' = M ∧ ∃ x : Int, v = some (.inl x) ∧ (0 ≤ x ∧ x ≤ 1)) := by
          intro v4 hv4
          refine zG_blk (c' := (72, [.inr (.inr (some 97)), .inl a1, .inl v2, .inl v4], [.inl v4])) 2 hd0 hz (by rfl) ?_
          have j112 : zG n (0, 0) d 215 (112, [.inr (.inr (some 97)), .inl a1, .inl v2, .inl v4], []) M (fun v M' => M' = M ∧ ∃ x : Int, v = some (.inl x) ∧ (0 ≤ x ∧ x ≤ 1)) := by
            obtain ⟨x5, hx5⟩ : ∃ x : Int, x = w32 (v2 + 1) := ⟨_, rfl⟩
            have hx5e : x5 = v2 + 1 := by rw [hx5]; exact w32_id (by omega)
            refine zG_blk (c' := (2, [.inr (.inr (some 97)), .inl a1, .inl x5, .inl v4], [])) 2 hd0 hz (by subst hx5; rfl) ?_
            exact zG_weak (ih2 x5 (by omega) (by omega)) ⟨.inr rfl, .inr rfl, .inr rfl, .inl rfl, trivial⟩
          refine zG_if_eq hd0 hz rfl (fun hb6 => ?_) (fun hb6 => ?_)
          · exact j112
          · refine zG_blk (c' := (78, [.inr (.inr (some 97)), .inl a1, .inl v2, .inl v4], [.inl 1, .inl v2, .inr (.inr (some 97))])) 3 hd0 hz (by rfl) ?_
            refine zG_call hd0 hz zp_194 rfl rfl (Nat.le_of_ble_eq_true rfl) ⟨Nat.le_refl _, Nat.le_refl _⟩ (qx_act0 (by first | exact zdp hd (by decide) | omega) hC   v2 (by first | with_reducible exact hv2 | omega) 1 (by first | decide | omega) ) (fun vr M7 hr => ?_)
            obtain ⟨hq, x8, rfl, hx8⟩ := hr
            replace hq := hq.symm; subst hq
            show zG n (0, 0) d 215 (81, [.inr (.inr (some 97)), .inl a1, .inl v2, .inl v4], [.inl x8]) M _
            refine zG_blk (c' := (84, [.inr (.inr (some 97)), .inl a1, .inl v2, .inl v4], [.inl 1, .inl a1, .inr (.inr (some 97)), .inl x8])) 3 hd0 hz (by rfl) ?_
            refine zG_call hd0 hz zp_194 rfl rfl (Nat.le_of_ble_eq_true rfl) ⟨Nat.le_refl _, Nat.le_refl _⟩ (qx_act0 (by first | exact zdp hd (by decide) | omega) hC   a1 (by first | with_reducible exact ha1 | omega) 1 (by first | decide | omega) ) (fun vr M9 hr => ?_)
            obtain ⟨hq, x10, rfl, hx10⟩ := hr
            replace hq := hq.symm; subst hq
            show zG n (0, 0) d 215 (87, [.inr (.inr (some 97)), .inl a1, .inl v2, .inl v4], [.inl x10, .inl x8]) M _
            have j110 : zG n (0, 0) d 215 (110, [.inr (.inr (some 97)), .inl a1, .inl v2, .inl v4], []) M (fun v M' => M' = M ∧ ∃ x : Int, v = some (.inl x) ∧ (0 ≤ x ∧ x ≤ 1)) := by
              refine zG_blk (c' := (111, [.inr (.inr (some 97)), .inl a1, .inl v2, .inl v4], [.inl 1])) 1 hd0 hz (by rfl) ?_
              exact zG_ret hd0 hz rfl rfl ⟨rfl, _, rfl, by omega⟩
            refine zG_icmp_lt hd0 hz rfl (fun hb11 => ?_) (fun hb11 => ?_)
            · exact j110
            · refine zG_blk (c' := (93, [.inr (.inr (some 97)), .inl a1, .inl v2, .inl v4], [.inl 1, .inl v2, .inr (.inr (some 97))])) 3 hd0 hz (by rfl) ?_
              refine zG_call hd0 hz zp_194 rfl rfl (Nat.le_of_ble_eq_true rfl) ⟨Nat.le_refl _, Nat.le_refl _⟩ (qx_act0 (by first | exact zdp hd (by decide) | omega) hC   v2 (by first | with_reducible exact hv2 | omega) 1 (by first | decide | omega) ) (fun vr M12 hr => ?_)
              obtain ⟨hq, x13, rfl, hx13⟩ := hr
              replace hq := hq.symm; subst hq
              show zG n (0, 0) d 215 (96, [.inr (.inr (some 97)), .inl a1, .inl v2, .inl v4], [.inl x13]) M _
              refine zG_blk (c' := (99, [.inr (.inr (some 97)), .inl a1, .inl v2, .inl v4], [.inl 1, .inl a1, .inr (.inr (some 97)), .inl x13])) 3 hd0 hz (by rfl) ?_
              refine zG_call hd0 hz zp_194 rfl rfl (Nat.le_of_ble_eq_true rfl) ⟨Nat.le_refl _, Nat.le_refl _⟩ (qx_act0 (by first | exact zdp hd (by decide) | omega) hC   a1 (by first | with_reducible exact ha1 | omega) 1 (by first | decide | omega) ) (fun vr M14 hr => ?_)
              obtain ⟨hq, x15, rfl, hx15⟩ := hr
              replace hq := hq.symm; subst hq
              show zG n (0, 0) d 215 (102, [.inr (.inr (some 97)), .inl a1, .inl v2, .inl v4], [.inl x15, .inl x13]) M _
              refine zG_icmp_ne hd0 hz rfl (fun hb16 => ?_) (fun hb16 => ?_)
              · exact j112
              · refine zG_blk (c' := (107, [.inr (.inr (some 97)), .inl a1, .inl v2, .inl v4], [.inl a1, .inl v2])) 2 hd0 hz (by rfl) ?_
                refine zG_icmp_ge hd0 hz rfl (fun hb17 => ?_) (fun hb17 => ?_)
                · exact j112
                · exact j110
        have j69 : zG n (0, 0) d 215 (69, [.inr (.inr (some 97)), .inl a1, .inl v2, zN], []) M (fun v M' => M' = M ∧ ∃ x : Int, v = some (.inl x) ∧ (0 ≤ x ∧ x ≤ 1)) := by
          refine zG_blk (c' := (70, [.inr (.inr (some 97)), .inl a1, .inl v2, zN], [.inl 0])) 1 hd0 hz (by rfl) ?_
          exact j70 0 (by first | decide | omega)
        refine zG_icmp_eq hd0 hz rfl (fun hb18 => ?_) (fun hb18 => ?_)
        · exact j69
        · refine zG_blk (c' := (22, [.inr (.inr (some 97)), .inl a1, .inl v2, zN], [.inl v2, .inr (.inr (some 101))])) 3 hd0 hz (by rfl) ?_
          refine zG_bald hd0 hz rfl rfl (.inl rfl) (by omega) ?_
          obtain ⟨x19, hx19⟩ : ∃ x : Int, x = M 101 (v2 : Int).toNat := ⟨_, rfl⟩
          rw [← hx19]
          have hx19r : x19 = 0 ∨ x19 = 1 := by rw [hx19]; exact hC.bl101 _
          show zG n (0, 0) d 215 (23, [.inr (.inr (some 97)), .inl a1, .inl v2, zN], [.inl x19]) M _
          refine zG_if_eq hd0 hz rfl (fun hb20 => ?_) (fun hb20 => ?_)
          · exact j69
          · refine zG_blk (c' := (29, [.inr (.inr (some 97)), .inl a1, .inl v2, zN], [.inl 0, .inl v2, .inr (.inr (some 97))])) 3 hd0 hz (by rfl) ?_
            refine zG_call hd0 hz zp_194 rfl rfl (Nat.le_of_ble_eq_true rfl) ⟨Nat.le_refl _, Nat.le_refl _⟩ (qx_act0 (by first | exact zdp hd (by decide) | omega) hC   v2 (by first | with_reducible exact hv2 | omega) 0 (by first | decide | omega) ) (fun vr M21 hr => ?_)
            obtain ⟨hq, x22, rfl, hx22⟩ := hr
            replace hq := hq.symm; subst hq
            show zG n (0, 0) d 215 (32, [.inr (.inr (some 97)), .inl a1, .inl v2, zN], [.inl x22]) M _
            refine zG_if_ne hd0 hz rfl (fun hb23 => ?_) (fun hb23 => ?_)
            · exact j69
            · refine zG_blk (c' := (38, [.inr (.inr (some 97)), .inl a1, .inl v2, zN], [.inl 4, .inl v2, .inr (.inr (some 97))])) 3 hd0 hz (by rfl) ?_
              refine zG_call hd0 hz zp_194 rfl rfl (Nat.le_of_ble_eq_true rfl) ⟨Nat.le_refl _, Nat.le_refl _⟩ (qx_act4 (by first | exact zdp hd (by decide) | omega) hC   v2 (by first | with_reducible exact hv2 | omega) ) (fun vr M24 hr => ?_)
              obtain ⟨hq, x25, rfl, hx25⟩ := hr
              replace hq := hq.symm; subst hq
              show zG n (0, 0) d 215 (41, [.inr (.inr (some 97)), .inl a1, .inl v2, zN], [.inl x25]) M _
              refine zG_blk (c' := (44, [.inr (.inr (some 97)), .inl a1, .inl v2, zN], [.inl 4, .inl a1, .inr (.inr (some 97)), .inl x25])) 3 hd0 hz (by rfl) ?_
              refine zG_call hd0 hz zp_194 rfl rfl (Nat.le_of_ble_eq_true rfl) ⟨Nat.le_refl _, Nat.le_refl _⟩ (qx_act4 (by first | exact zdp hd (by decide) | omega) hC   a1 (by first | with_reducible exact ha1 | omega) ) (fun vr M26 hr => ?_)
              obtain ⟨hq, x27, rfl, hx27⟩ := hr
              replace hq := hq.symm; subst hq
              show zG n (0, 0) d 215 (47, [.inr (.inr (some 97)), .inl a1, .inl v2, zN], [.inl x27, .inl x25]) M _
              refine zG_icmp_ne hd0 hz rfl (fun hb28 => ?_) (fun hb28 => ?_)
              · exact j69
              · refine zG_blk (c' := (53, [.inr (.inr (some 97)), .inl a1, .inl v2, zN], [.inl 5, .inl v2, .inr (.inr (some 97))])) 3 hd0 hz (by rfl) ?_
                refine zG_call hd0 hz zp_194 rfl rfl (Nat.le_of_ble_eq_true rfl) ⟨Nat.le_refl _, Nat.le_refl _⟩ (qx_act5 (by first | exact zdp hd (by decide) | omega) hC   v2 (by first | with_reducible exact hv2 | omega) ) (fun vr M29 hr => ?_)
                obtain ⟨hq, x30, rfl, hx30⟩ := hr
                replace hq := hq.symm; subst hq
                show zG n (0, 0) d 215 (56, [.inr (.inr (some 97)), .inl a1, .inl v2, zN], [.inl x30]) M _
                refine zG_blk (c' := (59, [.inr (.inr (some 97)), .inl a1, .inl v2, zN], [.inl 5, .inl a1, .inr (.inr (some 97)), .inl x30])) 3 hd0 hz (by rfl) ?_
                refine zG_call hd0 hz zp_194 rfl rfl (Nat.le_of_ble_eq_true rfl) ⟨Nat.le_refl _, Nat.le_refl _⟩ (qx_act5 (by first | exact zdp hd (by decide) | omega) hC   a1 (by first | with_reducible exact ha1 | omega) ) (fun vr M31 hr => ?_)
                obtain ⟨hq, x32, rfl, hx32⟩ := hr
                replace hq := hq.symm; subst hq
                show zG n (0, 0) d 215 (62, [.inr (.inr (some 97)), .inl a1, .inl v2, zN], [.inl x32, .inl x30]) M _
                refine zG_icmp_ne hd0 hz rfl (fun hb33 => ?_) (fun hb33 => ?_)
                · exact j69
                · refine zG_blk (c' := (70, [.inr (.inr (some 97)), .inl a1, .inl v2, zN], [.inl 1])) 2 hd0 hz (by rfl) ?_
                  exact j70 1 (by first | decide | omega)
  exact j2 ((250 - 0 : Int).toNat + 1) 0 (by first | decide | omega) (by omega)
