theorem qm_236_97 {n d : Nat} {M : zM} (hd : 1 ≤ d) (hC : qMI M)  (a1 : Int) (ha1 : (-2147483648) ≤ a1 ∧ a1 ≤ 2147483647) (a2 : Int) (ha2 : 0 ≤ a2 ∧ a2 ≤ 1) : qOkP n d 236 [.inr (.inr (some 97)), .inl a1, .inl a2] 7 M (fun v => ∃ x : Int, v = some (.inl x) ∧ ((-1) ≤ x ∧ x ≤ 9)) := by
  have hz := zp_236
  have hd0 : 0 < d := by omega
  have r1 := hC.cnt5
  show zG n (0, 0) d 236 (0, [.inr (.inr (some 97)), .inl a1, .inl a2, zN, zN, zN, zN], []) M _
  refine zG_blk (c' := (5, [.inr (.inr (some 97)), .inl a1, .inl a2, .inl (-1), .inl 0, zN, zN], [])) 4 hd0 hz (by rfl) ?_
  have j5 : ∀ (N : Nat) (v2 v3 : Int) , (10 - v3 : Int).toNat < N → (-1) ≤ v2 ∧ v2 ≤ 9 → 0 ≤ v3 ∧ v3 ≤ 10 → zG n (0, 0) d 236 (5, [.inr (.inr (some 97)), .inl a1, .inl a2, .inl v2, .inl v3, zN, zN], []) M (fun v M' => M' = M ∧ ∃ x : Int, v = some (.inl x) ∧ ((-1) ≤ x ∧ x ≤ 9)) := by
    intro N
    induction N with
    | zero => intro v2 v3 hN hv2 hv3; exact absurd hN (Nat.not_lt_zero _)
    | succ N ih5 =>
      intro v2 v3 hN hv2 hv3
      refine zG_blk (c' := (12, [.inr (.inr (some 97)), .inl a1, .inl a2, .inl v2, .inl v3, zN, zN], [.inl 5, .inr (.inr (some 98)), .inl v3])) 4 hd0 hz (by rfl) ?_
      refine zG_iald hd0 hz rfl rfl (.inl rfl) (by omega) ?_
      show zG n (0, 0) d 236 (13, [.inr (.inr (some 97)), .inl a1, .inl a2, .inl v2, .inl v3, zN, zN], [.inl (M 98 5), .inl v3]) M _
      refine zG_icmp_ge hd0 hz rfl (fun hb4 => ?_) (fun hb4 => ?_)
      · refine zG_blk (c' := (125, [.inr (.inr (some 97)), .inl a1, .inl a2, .inl v2, .inl v3, zN, zN], [.inl v2])) 1 hd0 hz (by rfl) ?_
        exact zG_ret hd0 hz rfl rfl ⟨rfl, _, rfl, by omega⟩
      · obtain ⟨x5, hx5⟩ : ∃ x : Int, x = w32 (164 * v3) := ⟨_, rfl⟩
        have hx5e : x5 = 164 * v3 := by rw [hx5]; exact w32_id (by omega)
        obtain ⟨x6, hx6⟩ : ∃ x : Int, x = w32 (4000 + x5) := ⟨_, rfl⟩
        have hx6e : x6 = 4000 + x5 := by rw [hx6]; exact w32_id (by omega)
        obtain ⟨x7, hx7⟩ : ∃ x : Int, x = w32 (x6 + 162) := ⟨_, rfl⟩
        have hx7e : x7 = x6 + 162 := by rw [hx7]; exact w32_id (by omega)
        refine zG_blk (c' := (38, [.inr (.inr (some 97)), .inl a1, .inl a2, .inl v2, .inl v3, .inl x6, zN], [.inl x7, .inr (.inr (some 98))])) 11 hd0 hz (by subst hx7; subst hx6; subst hx5; rfl) ?_
        refine zG_iald hd0 hz rfl rfl (.inl rfl) (by omega) ?_
        obtain ⟨x8, hx8⟩ : ∃ x : Int, x = M 98 (x7 : Int).toNat := ⟨_, rfl⟩
        rw [← hx8]
        have hx8r : qin x8 := by rw [hx8]; exact hC.sin _
        show zG n (0, 0) d 236 (39, [.inr (.inr (some 97)), .inl a1, .inl a2, .inl v2, .inl v3, .inl x6, zN], [.inl x8]) M _
        refine zG_blk (c' := (40, [.inr (.inr (some 97)), .inl a1, .inl a2, .inl v2, .inl v3, .inl x6, zN], [.inl a1, .inl x8])) 1 hd0 hz (by rfl) ?_
        have j67 : ∀ (v9 : Int) , 0 ≤ v9 ∧ v9 ≤ 1 → zG n (0, 0) d 236 (67, [.inr (.inr (some 97)), .inl a1, .inl a2, .inl v2, .inl v3, .inl x6, zN], [.inl v9]) M (fun v M' => M' = M ∧ ∃ x : Int, v = some (.inl x) ∧ ((-1) ≤ x ∧ x ≤ 9)) := by
          intro v9 hv9
          refine zG_blk (c' := (71, [.inr (.inr (some 97)), .inl a1, .inl a2, .inl v2, .inl v3, .inl x6, .inl v9], [.inl v9])) 2 hd0 hz (by rfl) ?_
          have j117 : ∀ (v10 : Int) , (-1) ≤ v10 ∧ v10 ≤ 9 → zG n (0, 0) d 236 (117, [.inr (.inr (some 97)), .inl a1, .inl a2, .inl v2, .inl v3, .inl x6, .inl v9], [.inl v10]) M (fun v M' => M' = M ∧ ∃ x : Int, v = some (.inl x) ∧ ((-1) ≤ x ∧ x ≤ 9)) := by
            intro v10 hv10
            obtain ⟨x11, hx11⟩ : ∃ x : Int, x = w32 (v3 + 1) := ⟨_, rfl⟩
            have hx11e : x11 = v3 + 1 := by rw [hx11]; exact w32_id (by omega)
            refine zG_blk (c' := (5, [.inr (.inr (some 97)), .inl a1, .inl a2, .inl v10, .inl x11, .inl x6, .inl v9], [])) 3 hd0 hz (by subst hx11; rfl) ?_
            exact zG_weak (ih5 v10 x11 (by omega) (by omega) (by omega)) ⟨.inr rfl, .inr rfl, .inr rfl, .inr rfl, .inr rfl, .inl rfl, .inl rfl, trivial⟩
          have j116 : zG n (0, 0) d 236 (116, [.inr (.inr (some 97)), .inl a1, .inl a2, .inl v2, .inl v3, .inl x6, .inl v9], []) M (fun v M' => M' = M ∧ ∃ x : Int, v = some (.inl x) ∧ ((-1) ≤ x ∧ x ≤ 9)) := by
            refine zG_blk (c' := (117, [.inr (.inr (some 97)), .inl a1, .inl a2, .inl v2, .inl v3, .inl x6, .inl v9], [.inl v2])) 1 hd0 hz (by rfl) ?_
            exact j117 v2 (by first | with_reducible exact hv2 | omega)
          refine zG_if_eq hd0 hz rfl (fun hb12 => ?_) (fun hb12 => ?_)
          · exact j116
          · refine zG_blk (c' := (76, [.inr (.inr (some 97)), .inl a1, .inl a2, .inl v2, .inl v3, .inl x6, .inl v9], [.inl (-1), .inl v2])) 2 hd0 hz (by rfl) ?_
            have j111 : zG n (0, 0) d 236 (111, [.inr (.inr (some 97)), .inl a1, .inl a2, .inl v2, .inl v3, .inl x6, .inl v9], []) M (fun v M' => M' = M ∧ ∃ x : Int, v = some (.inl x) ∧ ((-1) ≤ x ∧ x ≤ 9)) := by
              refine zG_blk (c' := (117, [.inr (.inr (some 97)), .inl a1, .inl a2, .inl v2, .inl v3, .inl x6, .inl v9], [.inl v3])) 2 hd0 hz (by rfl) ?_
              exact j117 v3 (by first | with_reducible exact hv3 | omega)
            refine zG_icmp_eq hd0 hz rfl (fun hb13 => ?_) (fun hb13 => ?_)
            · exact j111
            · obtain ⟨x14, hx14⟩ : ∃ x : Int, x = w32 (x6 + 162) := ⟨_, rfl⟩
              have hx14e : x14 = x6 + 162 := by rw [hx14]; exact w32_id (by omega)
              refine zG_blk (c' := (89, [.inr (.inr (some 97)), .inl a1, .inl a2, .inl v2, .inl v3, .inl x6, .inl v9], [.inl x14, .inr (.inr (some 98))])) 5 hd0 hz (by subst hx14; rfl) ?_
              refine zG_iald hd0 hz rfl rfl (.inl rfl) (by omega) ?_
              obtain ⟨x15, hx15⟩ : ∃ x : Int, x = M 98 (x14 : Int).toNat := ⟨_, rfl⟩
              rw [← hx15]
              have hx15r : qin x15 := by rw [hx15]; exact hC.sin _
              show zG n (0, 0) d 236 (90, [.inr (.inr (some 97)), .inl a1, .inl a2, .inl v2, .inl v3, .inl x6, .inl v9], [.inl x15]) M _
              obtain ⟨x16, hx16⟩ : ∃ x : Int, x = w32 (164 * v2) := ⟨_, rfl⟩
              have hx16e : x16 = 164 * v2 := by rw [hx16]; exact w32_id (by omega)
              obtain ⟨x17, hx17⟩ : ∃ x : Int, x = w32 (4000 + x16) := ⟨_, rfl⟩
              have hx17e : x17 = 4000 + x16 := by rw [hx17]; exact w32_id (by omega)
              obtain ⟨x18, hx18⟩ : ∃ x : Int, x = w32 (x17 + 162) := ⟨_, rfl⟩
              have hx18e : x18 = x17 + 162 := by rw [hx18]; exact w32_id (by omega)
              refine zG_blk (c' := (107, [.inr (.inr (some 97)), .inl a1, .inl a2, .inl v2, .inl v3, .inl x6, .inl v9], [.inl x18, .inr (.inr (some 98)), .inl x15])) 9 hd0 hz (by subst hx18; subst hx17; subst hx16; rfl) ?_
              refine zG_iald hd0 hz rfl rfl (.inl rfl) (by omega) ?_
              obtain ⟨x19, hx19⟩ : ∃ x : Int, x = M 98 (x18 : Int).toNat := ⟨_, rfl⟩
              rw [← hx19]
              have hx19r : qin x19 := by rw [hx19]; exact hC.sin _
              show zG n (0, 0) d 236 (108, [.inr (.inr (some 97)), .inl a1, .inl a2, .inl v2, .inl v3, .inl x6, .inl v9], [.inl x19, .inl x15]) M _
              refine zG_icmp_lt hd0 hz rfl (fun hb20 => ?_) (fun hb20 => ?_)
              · exact j116
              · exact j111
        have j66 : zG n (0, 0) d 236 (66, [.inr (.inr (some 97)), .inl a1, .inl a2, .inl v2, .inl v3, .inl x6, zN], []) M (fun v M' => M' = M ∧ ∃ x : Int, v = some (.inl x) ∧ ((-1) ≤ x ∧ x ≤ 9)) := by
          refine zG_blk (c' := (67, [.inr (.inr (some 97)), .inl a1, .inl a2, .inl v2, .inl v3, .inl x6, zN], [.inl 0])) 1 hd0 hz (by rfl) ?_
          exact j67 0 (by first | decide | omega)
        refine zG_icmp_gt hd0 hz rfl (fun hb21 => ?_) (fun hb21 => ?_)
        · exact j66
        · refine zG_blk (c' := (44, [.inr (.inr (some 97)), .inl a1, .inl a2, .inl v2, .inl v3, .inl x6, zN], [.inl a2])) 1 hd0 hz (by rfl) ?_
          have j62 : zG n (0, 0) d 236 (62, [.inr (.inr (some 97)), .inl a1, .inl a2, .inl v2, .inl v3, .inl x6, zN], []) M (fun v M' => M' = M ∧ ∃ x : Int, v = some (.inl x) ∧ ((-1) ≤ x ∧ x ≤ 9)) := by
            refine zG_blk (c' := (67, [.inr (.inr (some 97)), .inl a1, .inl a2, .inl v2, .inl v3, .inl x6, zN], [.inl 1])) 2 hd0 hz (by rfl) ?_
            exact j67 1 (by first | decide | omega)
          refine zG_if_eq hd0 hz rfl (fun hb22 => ?_) (fun hb22 => ?_)
          · exact j62
          · obtain ⟨x23, hx23⟩ : ∃ x : Int, x = w32 (x6 + 163) := ⟨_, rfl⟩
            have hx23e : x23 = x6 + 163 := by rw [hx23]; exact w32_id (by omega)
            refine zG_blk (c' := (57, [.inr (.inr (some 97)), .inl a1, .inl a2, .inl v2, .inl v3, .inl x6, zN], [.inl x23, .inr (.inr (some 98))])) 5 hd0 hz (by subst hx23; rfl) ?_
            refine zG_iald hd0 hz rfl rfl (.inl rfl) (by omega) ?_
            obtain ⟨x24, hx24⟩ : ∃ x : Int, x = M 98 (x23 : Int).toNat := ⟨_, rfl⟩
            rw [← hx24]
            have hx24r : qin x24 := by rw [hx24]; exact hC.sin _
            show zG n (0, 0) d 236 (58, [.inr (.inr (some 97)), .inl a1, .inl a2, .inl v2, .inl v3, .inl x6, zN], [.inl x24]) M _
            refine zG_blk (c' := (59, [.inr (.inr (some 97)), .inl a1, .inl a2, .inl v2, .inl v3, .inl x6, zN], [.inl 1, .inl x24])) 1 hd0 hz (by rfl) ?_
            refine zG_icmp_ne hd0 hz rfl (fun hb25 => ?_) (fun hb25 => ?_)
            · exact j66
            · exact j62
  exact j5 ((10 - 0 : Int).toNat + 1) (-1) 0 (by first | decide | omega) (by omega) (by omega)
