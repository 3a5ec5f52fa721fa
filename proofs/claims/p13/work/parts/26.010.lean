theorem qm_213_97 {n d : Nat} {M : zM} (hd : 2 ≤ d) (hC : qMI M)  (a1 : Int) (ha1 : 0 ≤ a1 ∧ a1 ≤ 6) (a2 : Int) (ha2 : 0 ≤ a2 ∧ a2 ≤ 249) : qOkP n d 213 [.inr (.inr (some 97)), .inl a1, .inl a2] 4 M (fun v => ∃ x : Int, v = some (.inl x) ∧ ((-1) ≤ x ∧ x ≤ 249) ∧ (x ≠ -1 → x < M 98 4 ∧ a2 < x ∧ qA M x 0 = a1 ∧ qA M x 6 = a2)) := by
  have hz := zp_213
  have hd0 : 0 < d := by omega
  have r1 := hC.cnt4
  show zG n (0, 0) d 213 (0, [.inr (.inr (some 97)), .inl a1, .inl a2, zN], []) M _
  refine zG_blk (c' := (5, [.inr (.inr (some 97)), .inl a1, .inl a2, zN], [.inl 4, .inr (.inr (some 98))])) 3 hd0 hz (by rfl) ?_
  refine zG_iald hd0 hz rfl rfl (.inl rfl) (by omega) ?_
  show zG n (0, 0) d 213 (6, [.inr (.inr (some 97)), .inl a1, .inl a2, zN], [.inl (M 98 4)]) M _
  obtain ⟨x2, hx2⟩ : ∃ x : Int, x = w32 ((M 98 4) - 1) := ⟨_, rfl⟩
  have hx2e : x2 = (M 98 4) - 1 := by rw [hx2]; exact w32_id (by omega)
  refine zG_blk (c' := (9, [.inr (.inr (some 97)), .inl a1, .inl a2, .inl x2], [])) 3 hd0 hz (by subst hx2; rfl) ?_
  have j9 : ∀ (N : Nat) (v3 : Int) , (v3 + 1 : Int).toNat < N → (-1) ≤ v3 ∧ v3 ≤ 249 → (v3 < M 98 4) → zG n (0, 0) d 213 (9, [.inr (.inr (some 97)), .inl a1, .inl a2, .inl v3], []) M (fun v M' => M' = M ∧ ∃ x : Int, v = some (.inl x) ∧ ((-1) ≤ x ∧ x ≤ 249) ∧ (x ≠ -1 → x < M 98 4 ∧ a2 < x ∧ qA M x 0 = a1 ∧ qA M x 6 = a2)) := by
    intro N
    induction N with
    | zero => intro v3 hN hv3 hx0_9; exact absurd hN (Nat.not_lt_zero _)
    | succ N ih9 =>
      intro v3 hN hv3 hx0_9
      refine zG_blk (c' := (11, [.inr (.inr (some 97)), .inl a1, .inl a2, .inl v3], [.inl a2, .inl v3])) 2 hd0 hz (by rfl) ?_
      refine zG_icmp_le hd0 hz rfl (fun hb4 => ?_) (fun hb4 => ?_)
      · refine zG_blk (c' := (53, [.inr (.inr (some 97)), .inl a1, .inl a2, .inl v3], [.inl (-1)])) 1 hd0 hz (by rfl) ?_
        exact zG_ret hd0 hz rfl rfl ⟨rfl, _, rfl, by omega, by omega⟩
      · refine zG_blk (c' := (19, [.inr (.inr (some 97)), .inl a1, .inl a2, .inl v3], [.inl v3, .inr (.inr (some 101))])) 3 hd0 hz (by rfl) ?_
        refine zG_bald hd0 hz rfl rfl (.inl rfl) (by omega) ?_
        obtain ⟨x5, hx5⟩ : ∃ x : Int, x = M 101 (v3 : Int).toNat := ⟨_, rfl⟩
        rw [← hx5]
        have hx5r : x5 = 0 ∨ x5 = 1 := by rw [hx5]; exact hC.bl101 _
        show zG n (0, 0) d 213 (20, [.inr (.inr (some 97)), .inl a1, .inl a2, .inl v3], [.inl x5]) M _
        have j46 : zG n (0, 0) d 213 (46, [.inr (.inr (some 97)), .inl a1, .inl a2, .inl v3], []) M (fun v M' => M' = M ∧ ∃ x : Int, v = some (.inl x) ∧ ((-1) ≤ x ∧ x ≤ 249) ∧ (x ≠ -1 → x < M 98 4 ∧ a2 < x ∧ qA M x 0 = a1 ∧ qA M x 6 = a2)) := by
          obtain ⟨x6, hx6⟩ : ∃ x : Int, x = w32 (v3 + (-1)) := ⟨_, rfl⟩
          have hx6e : x6 = v3 + (-1) := by rw [hx6]; exact w32_id (by omega)
          refine zG_blk (c' := (9, [.inr (.inr (some 97)), .inl a1, .inl a2, .inl x6], [])) 2 hd0 hz (by subst hx6; rfl) ?_
          exact ih9 x6 (by omega) (by omega) (by omega)
        refine zG_if_eq hd0 hz rfl (fun hb7 => ?_) (fun hb7 => ?_)
        · exact j46
        · refine zG_blk (c' := (26, [.inr (.inr (some 97)), .inl a1, .inl a2, .inl v3], [.inl 0, .inl v3, .inr (.inr (some 97))])) 3 hd0 hz (by rfl) ?_
          refine zG_call hd0 hz zp_194 rfl rfl (Nat.le_of_ble_eq_true rfl) ⟨Nat.le_refl _, Nat.le_refl _⟩ (qx_act0 (by first | exact zdp hd (by decide) | omega) hC   v3 (by first | with_reducible exact hv3 | omega) 0 (by first | decide | omega) ) (fun vr M8 hr => ?_)
          obtain ⟨hq, x9, rfl, hx9⟩ := hr
          replace hq := hq.symm; subst hq
          show zG n (0, 0) d 213 (29, [.inr (.inr (some 97)), .inl a1, .inl a2, .inl v3], [.inl x9]) M _
          refine zG_blk (c' := (30, [.inr (.inr (some 97)), .inl a1, .inl a2, .inl v3], [.inl a1, .inl x9])) 1 hd0 hz (by rfl) ?_
          refine zG_icmp_ne hd0 hz rfl (fun hb10 => ?_) (fun hb10 => ?_)
          · exact j46
          · refine zG_blk (c' := (37, [.inr (.inr (some 97)), .inl a1, .inl a2, .inl v3], [.inl 6, .inl v3, .inr (.inr (some 97))])) 3 hd0 hz (by rfl) ?_
            refine zG_call hd0 hz zp_194 rfl rfl (Nat.le_of_ble_eq_true rfl) ⟨Nat.le_refl _, Nat.le_refl _⟩ (qx_act6 (by first | exact zdp hd (by decide) | omega) hC   v3 (by first | with_reducible exact hv3 | omega) ) (fun vr M11 hr => ?_)
            obtain ⟨hq, x12, rfl, hx12⟩ := hr
            replace hq := hq.symm; subst hq
            show zG n (0, 0) d 213 (40, [.inr (.inr (some 97)), .inl a1, .inl a2, .inl v3], [.inl x12]) M _
            refine zG_blk (c' := (41, [.inr (.inr (some 97)), .inl a1, .inl a2, .inl v3], [.inl a2, .inl x12])) 1 hd0 hz (by rfl) ?_
            refine zG_icmp_ne hd0 hz rfl (fun hb13 => ?_) (fun hb13 => ?_)
            · exact j46
            · refine zG_blk (c' := (45, [.inr (.inr (some 97)), .inl a1, .inl a2, .inl v3], [.inl v3])) 1 hd0 hz (by rfl) ?_
              exact zG_ret hd0 hz rfl rfl ⟨rfl, _, rfl, by omega, by omega⟩
  exact j9 ((x2 + 1 : Int).toNat + 1) x2 (by omega) (by omega) (by omega)
