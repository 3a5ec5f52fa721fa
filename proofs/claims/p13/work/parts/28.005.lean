theorem qm_229_97 {n d : Nat} {M : zM} (hd : 2 ≤ d) (hC : qMI M)  (a1 : Int) (ha1 : 0 ≤ a1 ∧ a1 ≤ 5583) (a2 : Int) (ha2 : 0 ≤ a2 ∧ a2 ≤ 80) (a3 : Int) (ha3 : 0 ≤ a3 ∧ a3 ≤ 80) : qOkN n d 229 [.inr (.inr (some 97)), .inl a1, .inl a2, .inl a3] 7 [1013] M (fun v M' => ∃ x : Int, v = some (.inr (.inl x)) ∧ (M' 97 13 ≤ a3 ∨ M' 97 13 = a2) ∧ (a2 ≤ M' 97 13) ∧ (97 ≤ M 98 (a1 + 1 + a2).toNat → M 98 (a1 + 1 + a2).toNat ≤ 122 → a2 < a3 → a2 < M' 97 13)) := by
  have hz := zp_229
  have hd0 : 0 < d := by omega
  have hW : qFm [1013] M M := qFm.rfl
  show zG n (0, 0) d 229 (0, [.inr (.inr (some 97)), .inl a1, .inl a2, .inl a3, zN, zN, zN], []) M _
  refine zG_blk (c' := (6, [.inr (.inr (some 97)), .inl a1, .inl a2, .inl a3, .inr (.inl (0)), zN, .inl a2], [])) 4 hd0 hz (by rfl) ?_
  have j6 : ∀ (N : Nat) (v1 v2 : Int) , (a3 - v2 : Int).toNat < N → 0 ≤ v2 ∧ v2 ≤ 80 → (a2 ≤ v2) → (v2 ≤ a3 ∨ v2 = a2) → zG n (0, 0) d 229 (6, [.inr (.inr (some 97)), .inl a1, .inl a2, .inl a3, .inr (.inl (v1)), zN, .inl v2], []) M (fun v M' => (qMI M' ∧ qFm [1013] M M') ∧ ∃ x : Int, v = some (.inr (.inl x)) ∧ (M' 97 13 ≤ a3 ∨ M' 97 13 = a2) ∧ (a2 ≤ M' 97 13) ∧ (97 ≤ M 98 (a1 + 1 + a2).toNat → M 98 (a1 + 1 + a2).toNat ≤ 122 → a2 < a3 → a2 < M' 97 13)) := by
    intro N
    induction N with
    | zero => intro v1 v2 hN hv2 hx0_6 hx1_6; exact absurd hN (Nat.not_lt_zero _)
    | succ N ih6 =>
      intro v1 v2 hN hv2 hx0_6 hx1_6
      refine zG_blk (c' := (9, [.inr (.inr (some 97)), .inl a1, .inl a2, .inl a3, .inr (.inl (v1)), zN, .inl v2], [.inl a3, .inl v2])) 2 hd0 hz (by rfl) ?_
      have j79 : (a2 ≤ v2) → (v2 ≤ a3 ∨ v2 = a2) → (97 ≤ M 98 (a1 + 1 + a2).toNat → M 98 (a1 + 1 + a2).toNat ≤ 122 → a2 < a3 → a2 < v2) → zG n (0, 0) d 229 (79, [.inr (.inr (some 97)), .inl a1, .inl a2, .inl a3, .inr (.inl (v1)), zN, .inl v2], []) M (fun v M' => (qMI M' ∧ qFm [1013] M M') ∧ ∃ x : Int, v = some (.inr (.inl x)) ∧ (M' 97 13 ≤ a3 ∨ M' 97 13 = a2) ∧ (a2 ≤ M' 97 13) ∧ (97 ≤ M 98 (a1 + 1 + a2).toNat → M 98 (a1 + 1 + a2).toNat ≤ 122 → a2 < a3 → a2 < M' 97 13)) := by
        intro hx0_79 hx1_79 hx2_79
        refine zG_blk (c' := (82, [.inr (.inr (some 97)), .inl a1, .inl a2, .inl a3, .inr (.inl (v1)), zN, .inl v2], [.inl v2, .inr (.inr (some 97))])) 2 hd0 hz (by rfl) ?_
        refine zG_putf (.inl rfl) hd0 hz rfl (by decide) rfl rfl ?_
        obtain ⟨M3, hM3⟩ : ∃ X : zM, X = zput M 97 13 v2 := ⟨_, rfl⟩
        rw [← hM3]
        have hCM3 : qMI M3 := by rw [hM3]; exact hC.put (by decide) (by decide) (by refine ⟨fun _ => ?_, fun _ => ?_, fun h => ⟨fun _ => ?_, fun _ => ?_, fun _ => ?_, fun _ => ?_, fun _ => ?_⟩, fun h => ?_, fun h => ?_⟩ <;> first | omega | exact absurd rfl (by assumption) | (rename_i h9; exact absurd h9 (by decide)))
        have hWM3 : qFm [1013] M M3 := by rw [hM3]; exact hW.put (by decide)
        have e4 : M3 97 13 = v2 := by rw [hM3]; exact qput_eq
        show zG n (0, 0) d 229 (85, [.inr (.inr (some 97)), .inl a1, .inl a2, .inl a3, .inr (.inl (v1)), zN, .inl v2], []) M3 _
        obtain ⟨x5, hx5⟩ : ∃ x : Int, x = w32 (v2 - a2) := ⟨_, rfl⟩
        have hx5e : x5 = v2 - a2 := by rw [hx5]; exact w32_id (by omega)
        refine zG_blk (c' := (91, [.inr (.inr (some 97)), .inl a1, .inl a2, .inl a3, .inr (.inl (v1)), zN, .inl v2], [.inl 7, .inl x5])) 4 hd0 hz (by subst hx5; rfl) ?_
        have j100 : ∀ (v6 : Int) , zG n (0, 0) d 229 (100, [.inr (.inr (some 97)), .inl a1, .inl a2, .inl a3, .inr (.inl (v1)), zN, .inl v2], [.inr (.inl (v6))]) M3 (fun v M' => (qMI M' ∧ qFm [1013] M M') ∧ ∃ x : Int, v = some (.inr (.inl x)) ∧ (M' 97 13 ≤ a3 ∨ M' 97 13 = a2) ∧ (a2 ≤ M' 97 13) ∧ (97 ≤ M 98 (a1 + 1 + a2).toNat → M 98 (a1 + 1 + a2).toNat ≤ 122 → a2 < a3 → a2 < M' 97 13)) := by
          intro v6
          exact zG_ret hd0 hz rfl rfl ⟨⟨hCM3, hWM3⟩, _, rfl, by omega, by omega, by omega⟩
        refine zG_icmp_le hd0 hz rfl (fun hb7 => ?_) (fun hb7 => ?_)
        · refine zG_blk (c' := (100, [.inr (.inr (some 97)), .inl a1, .inl a2, .inl a3, .inr (.inl (v1)), zN, .inl v2], [.inr (.inl (v1))])) 1 hd0 hz (by rfl) ?_
          exact j100 v1
        · refine zG_blk (c' := (100, [.inr (.inr (some 97)), .inl a1, .inl a2, .inl a3, .inr (.inl (v1)), zN, .inl v2], [.inr (.inl (0))])) 2 hd0 hz (by rfl) ?_
          exact j100 0
      refine zG_icmp_ge hd0 hz rfl (fun hb8 => ?_) (fun hb8 => ?_)
      · exact j79 (by omega) (by omega) (by omega)
      · obtain ⟨x9, hx9⟩ : ∃ x : Int, x = w32 (a1 + 1) := ⟨_, rfl⟩
        have hx9e : x9 = a1 + 1 := by rw [hx9]; exact w32_id (by omega)
        obtain ⟨x10, hx10⟩ : ∃ x : Int, x = w32 (x9 + v2) := ⟨_, rfl⟩
        have hx10e : x10 = x9 + v2 := by rw [hx10]; exact w32_id (by omega)
        refine zG_blk (c' := (22, [.inr (.inr (some 97)), .inl a1, .inl a2, .inl a3, .inr (.inl (v1)), zN, .inl v2], [.inl x10, .inr (.inr (some 98))])) 7 hd0 hz (by subst hx10; subst hx9; rfl) ?_
        refine zG_iald hd0 hz rfl rfl (.inl rfl) (by omega) ?_
        obtain ⟨x11, hx11⟩ : ∃ x : Int, x = M 98 (x10 : Int).toNat := ⟨_, rfl⟩
        rw [← hx11]
        have hx11r : qin x11 := by rw [hx11]; exact hC.sin _
        have hcg : v2 = a2 → x11 = M 98 (a1 + 1 + a2).toNat := fun h9 => by rw [hx11, show x10 = a1 + 1 + a2 by omega]
        show zG n (0, 0) d 229 (23, [.inr (.inr (some 97)), .inl a1, .inl a2, .inl a3, .inr (.inl (v1)), zN, .inl v2], [.inl x11]) M _
        refine zG_blk (c' := (27, [.inr (.inr (some 97)), .inl a1, .inl a2, .inl a3, .inr (.inl (v1)), zN, .inl v2], [.inl 122, .inl 97, .inl x11])) 2 hd0 hz (by rfl) ?_
        refine zG_call hd0 hz zp_180 rfl rfl (Nat.le_of_ble_eq_true rfl) ⟨Nat.le_refl _, Nat.le_refl _⟩ (qx_in (by first | exact zdp hd (by decide) | omega) hC   x11 (by omega) 97 (by first | decide | omega) 122 (by first | decide | omega) ) (fun vr M12 hr => ?_)
        obtain ⟨hq, x13, rfl, hx13⟩ := hr
        replace hq := hq.symm; subst hq
        show zG n (0, 0) d 229 (30, [.inr (.inr (some 97)), .inl a1, .inl a2, .inl a3, .inr (.inl (v1)), zN, .inl v2], [.inl x13]) M _
        refine zG_if_eq hd0 hz rfl (fun hb14 => ?_) (fun hb14 => ?_)
        · exact j79 (by omega) (by omega) (by omega)
        · have hcx13 := hx13.2.2.mp (by omega)
          clear hx13 hb14
          obtain ⟨x15, hx15⟩ : ∃ x : Int, x = w32 (v2 - a2) := ⟨_, rfl⟩
          have hx15e : x15 = v2 - a2 := by rw [hx15]; exact w32_id (by omega)
          refine zG_blk (c' := (39, [.inr (.inr (some 97)), .inl a1, .inl a2, .inl a3, .inr (.inl (v1)), zN, .inl v2], [.inl 7, .inl x15])) 4 hd0 hz (by subst hx15; rfl) ?_
          have j71 : ∀ (v16 : Int) , zG n (0, 0) d 229 (71, [.inr (.inr (some 97)), .inl a1, .inl a2, .inl a3, .inr (.inl (v1)), zN, .inl v2], [.inr (.inl (v16))]) M (fun v M' => (qMI M' ∧ qFm [1013] M M') ∧ ∃ x : Int, v = some (.inr (.inl x)) ∧ (M' 97 13 ≤ a3 ∨ M' 97 13 = a2) ∧ (a2 ≤ M' 97 13) ∧ (97 ≤ M 98 (a1 + 1 + a2).toNat → M 98 (a1 + 1 + a2).toNat ≤ 122 → a2 < a3 → a2 < M' 97 13)) := by
            intro v16
            obtain ⟨x17, hx17⟩ : ∃ x : Int, x = w32 (v2 + 1) := ⟨_, rfl⟩
            have hx17e : x17 = v2 + 1 := by rw [hx17]; exact w32_id (by omega)
            refine zG_blk (c' := (6, [.inr (.inr (some 97)), .inl a1, .inl a2, .inl a3, .inr (.inl (v16)), zN, .inl x17], [])) 3 hd0 hz (by subst hx17; rfl) ?_
            exact ih6 v16 x17 (by omega) (by omega) (by omega) (by omega)
          refine zG_icmp_ge hd0 hz rfl (fun hb18 => ?_) (fun hb18 => ?_)
          · refine zG_blk (c' := (71, [.inr (.inr (some 97)), .inl a1, .inl a2, .inl a3, .inr (.inl (v1)), zN, .inl v2], [.inr (.inl (0))])) 1 hd0 hz (by rfl) ?_
            exact j71 0
          · obtain ⟨x19, hx19⟩ : ∃ x : Int, x = w64 (27 * v1) := ⟨_, rfl⟩
            obtain ⟨x20, hx20⟩ : ∃ x : Int, x = w32 (a1 + 1) := ⟨_, rfl⟩
            have hx20e : x20 = a1 + 1 := by rw [hx20]; exact w32_id (by omega)
            obtain ⟨x21, hx21⟩ : ∃ x : Int, x = w32 (x20 + v2) := ⟨_, rfl⟩
            have hx21e : x21 = x20 + v2 := by rw [hx21]; exact w32_id (by omega)
            refine zG_blk (c' := (58, [.inr (.inr (some 97)), .inl a1, .inl a2, .inl a3, .inr (.inl (v1)), zN, .inl v2], [.inl x21, .inr (.inr (some 98)), .inr (.inl (x19))])) 10 hd0 hz (by subst hx21; subst hx20; subst hx19; rfl) ?_
            refine zG_iald hd0 hz rfl rfl (.inl rfl) (by omega) ?_
            obtain ⟨x22, hx22⟩ : ∃ x : Int, x = M 98 (x21 : Int).toNat := ⟨_, rfl⟩
            rw [← hx22]
            have hx22r : qin x22 := by rw [hx22]; exact hC.sin _
            show zG n (0, 0) d 229 (59, [.inr (.inr (some 97)), .inl a1, .inl a2, .inl a3, .inr (.inl (v1)), zN, .inl v2], [.inl x22, .inr (.inl (x19))]) M _
            obtain ⟨x23, hx23⟩ : ∃ x : Int, x = w64 (x19 + x22) := ⟨_, rfl⟩
            obtain ⟨x24, hx24⟩ : ∃ x : Int, x = w64 (x23 - 97) := ⟨_, rfl⟩
            obtain ⟨x25, hx25⟩ : ∃ x : Int, x = w64 (x24 + 1) := ⟨_, rfl⟩
            refine zG_blk (c' := (71, [.inr (.inr (some 97)), .inl a1, .inl a2, .inl a3, .inr (.inl (v1)), zN, .inl v2], [.inr (.inl (x25))])) 7 hd0 hz (by subst hx25; subst hx24; subst hx23; rfl) ?_
            exact j71 x25
  exact j6 ((a3 - a2 : Int).toNat + 1) 0 a2 (by first | with_reducible exact ha2 | omega) (by omega) (by omega) (by omega)
