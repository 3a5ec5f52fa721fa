theorem qm_279_97 {n d : Nat} {M : zM} (hd : 4 ≤ d) (hC : qMI M)  (a1 : Int) (ha1 : (-2147483648) ≤ a1 ∧ a1 ≤ 2147483647) (a2 : Int) (ha2 : (-2147483648) ≤ a2 ∧ a2 ≤ 2147483647) (a3 : Int) (ha3 : (-2147483648) ≤ a3 ∧ a3 ≤ 2147483647) : qOkN n d 279 [.inr (.inr (some 97)), .inl a1, .inl a2, .inl a3] 6 [116, 117, 118, 1034] M (fun v M' => ∃ x : Int, v = some (.inl x) ∧ ((-3) ≤ x ∧ x ≤ 13)) := by
  have hz := zp_279
  have hd0 : 0 < d := by omega
  have hW : qFm [116, 117, 118, 1034] M M := qFm.rfl
  have r1 := hC.cnt0
  show zG n (0, 0) d 279 (0, [.inr (.inr (some 97)), .inl a1, .inl a2, .inl a3, zN, zN], []) M _
  refine zG_blk (c' := (6, [.inr (.inr (some 97)), .inl a1, .inl a2, .inl a3, zN, zN], [.inl a3, .inl 0, .inr (.inr (some 97)), .inl a2, .inl a1, .inr (.inr (some 97))])) 6 hd0 hz (by rfl) ?_
  refine zG_call hd0 hz zp_182 rfl rfl (Nat.le_of_ble_eq_true rfl) ⟨Nat.le_refl _, Nat.le_refl _⟩ (qx_is (by first | exact zdp hd (by decide) | omega) hC   0 (by first | decide | omega) a3 (by first | with_reducible exact ha3 | omega) ) (fun vr M2 hr => ?_)
  obtain ⟨hq, x3, rfl, hx3⟩ := hr
  replace hq := hq.symm; subst hq
  show zG n (0, 0) d 279 (9, [.inr (.inr (some 97)), .inl a1, .inl a2, .inl a3, zN, zN], [.inl x3, .inl a2, .inl a1, .inr (.inr (some 97))]) M _
  have j26 : ∀ (v4 : Int) , 0 ≤ v4 ∧ v4 ≤ 1 → (v4 = 1 → 0 ≤ a3 ∧ a3 < M 98 0 ∧ zband (zbshr a1 a3) 1 = 1) → zG n (0, 0) d 279 (26, [.inr (.inr (some 97)), .inl a1, .inl a2, .inl a3, zN, zN], [.inl v4, .inl a2, .inl a1, .inr (.inr (some 97))]) M (fun v M' => (qMI M' ∧ qFm [116, 117, 118, 1034] M M') ∧ ∃ x : Int, v = some (.inl x) ∧ ((-3) ≤ x ∧ x ≤ 13)) := by
    intro v4 hv4 hx0_26
    refine zG_call hd0 hz zp_277 rfl rfl (Nat.le_of_ble_eq_true rfl) ⟨Nat.le_refl _, Nat.le_refl _⟩ (qm_277_97 (by first | exact zdp hd (by decide) | omega) hC   a1 (by first | with_reducible exact ha1 | omega) a2 (by first | with_reducible exact ha2 | omega) v4 (by first | with_reducible exact hv4 | omega) ) (fun vr M5 hr => ?_)
    obtain ⟨hq, x6, rfl, hx6, hpx6_0⟩ := hr
    replace hq := hq.symm; subst hq
    show zG n (0, 0) d 279 (29, [.inr (.inr (some 97)), .inl a1, .inl a2, .inl a3, zN, zN], [.inl x6]) M _
    refine zG_blk (c' := (34, [.inr (.inr (some 97)), .inl a1, .inl a2, .inl a3, .inl x6, zN], [.inl 1, .inl x6])) 3 hd0 hz (by rfl) ?_
    refine zG_icmp_eq hd0 hz rfl (fun hb7 => ?_) (fun hb7 => ?_)
    · refine zG_blk (c' := (43, [.inr (.inr (some 97)), .inl a1, .inl a2, .inl a3, .inl x6, zN], [.inl a2, .inl a1, .inr (.inr (some 97))])) 3 hd0 hz (by rfl) ?_
      refine zG_call hd0 hz zp_276 rfl rfl (Nat.le_of_ble_eq_true rfl) ⟨Nat.le_refl _, Nat.le_refl _⟩ (qm_276_97 (by first | exact zdp hd (by decide) | omega) hC a3.toNat  a1 (by first | with_reducible exact ha1 | omega) a2 (by first | with_reducible exact ha2 | omega) (by omega)) (fun vr M8 hr => ?_)
      obtain ⟨⟨hCM8, hFM8⟩, x9, rfl, hx9, hpx9_0⟩ := hr
      have hWM8 : qFm [116, 117, 118, 1034] M M8 := hW.tr hFM8 (by decide)
      have e10 : M8 98 0 = M 98 0 := hFM8 98 0 (by decide)
      show zG n (0, 0) d 279 (46, [.inr (.inr (some 97)), .inl a1, .inl a2, .inl a3, .inl x6, zN], [.inl x9]) M8 _
      refine zG_blk (c' := (47, [.inr (.inr (some 97)), .inl a1, .inl a2, .inl a3, .inl x6, zN], [.inl (-1), .inl x9])) 1 hd0 hz (by rfl) ?_
      refine zG_icmp_ne hd0 hz rfl (fun hb11 => ?_) (fun hb11 => ?_)
      · have hb := qbit a1 a3 (by first | with_reducible exact ha3 | omega) (by omega)
        have hn1 := qpc_next a3.toNat a1.toNat
        have hn2 := qpc_mono (v := a1.toNat) (show a3.toNat + 1 ≤ 31 by omega)
        have hgk : M8 116 (qpc a3.toNat a1.toNat) = a3 := by omega
        refine zG_blk (c' := (55, [.inr (.inr (some 97)), .inl a1, .inl a2, .inl a3, .inl x6, .inl 0], [])) 2 hd0 hz (by rfl) ?_
        have j55 : ∀ (N : Nat) (v12 : Int) , ((qpc a3.toNat a1.toNat : Nat) - v12 : Int).toNat < N → (-2147483648) ≤ v12 ∧ v12 ≤ 2147483647 → (0 ≤ v12) → (v12 ≤ (qpc a3.toNat a1.toNat : Nat)) → zG n (0, 0) d 279 (55, [.inr (.inr (some 97)), .inl a1, .inl a2, .inl a3, .inl x6, .inl v12], []) M8 (fun v M' => (qMI M' ∧ qFm [116, 117, 118, 1034] M M') ∧ ∃ x : Int, v = some (.inl x) ∧ ((-3) ≤ x ∧ x ≤ 13)) := by
          intro N
          induction N with
          | zero => intro v12 hN hv12 hx0_55 hx1_55; exact absurd hN (Nat.not_lt_zero _)
          | succ N ih55 =>
            intro v12 hN hv12 hx0_55 hx1_55
            refine zG_blk (c' := (61, [.inr (.inr (some 97)), .inl a1, .inl a2, .inl a3, .inl x6, .inl v12], [.inl v12, .inr (.inr (some 116))])) 3 hd0 hz (by rfl) ?_
            refine zG_iald hd0 hz rfl rfl (.inl rfl) (by omega) ?_
            obtain ⟨x13, hx13⟩ : ∃ x : Int, x = M8 116 (v12 : Int).toNat := ⟨_, rfl⟩
            rw [← hx13]
            have hx13r : 0 ≤ x13 ∧ x13 ≤ 13 := by rw [hx13]; exact hCM8.c116 _
            have hcg : v12 = (qpc a3.toNat a1.toNat : Nat) → x13 = M8 116 (qpc a3.toNat a1.toNat) := fun h9 => by rw [hx13, show (v12 : Int).toNat = qpc a3.toNat a1.toNat by omega]
            show zG n (0, 0) d 279 (62, [.inr (.inr (some 97)), .inl a1, .inl a2, .inl a3, .inl x6, .inl v12], [.inl x13]) M8 _
            refine zG_blk (c' := (63, [.inr (.inr (some 97)), .inl a1, .inl a2, .inl a3, .inl x6, .inl v12], [.inl a3, .inl x13])) 1 hd0 hz (by rfl) ?_
            refine zG_icmp_eq hd0 hz rfl (fun hb14 => ?_) (fun hb14 => ?_)
            · refine zG_blk (c' := (78, [.inr (.inr (some 97)), .inl a1, .inl a2, .inl a3, .inl x6, .inl v12], [.inl v12, .inr (.inr (some 117))])) 3 hd0 hz (by rfl) ?_
              refine zG_iald hd0 hz rfl rfl (.inl rfl) (by omega) ?_
              obtain ⟨x15, hx15⟩ : ∃ x : Int, x = M8 117 (v12 : Int).toNat := ⟨_, rfl⟩
              rw [← hx15]
              have hx15r : 0 ≤ x15 ∧ x15 ≤ 13 := by rw [hx15]; exact hCM8.c117 _
              show zG n (0, 0) d 279 (79, [.inr (.inr (some 97)), .inl a1, .inl a2, .inl a3, .inl x6, .inl v12], [.inl x15]) M8 _
              exact zG_ret hd0 hz rfl rfl ⟨⟨hCM8, hWM8⟩, _, rfl, by omega⟩
            · obtain ⟨x16, hx16⟩ : ∃ x : Int, x = w32 (v12 + 1) := ⟨_, rfl⟩
              have hx16r : x16 = (v12 + 1 + 2147483648) % 4294967296 - 2147483648 := hx16
              refine zG_blk (c' := (55, [.inr (.inr (some 97)), .inl a1, .inl a2, .inl a3, .inl x6, .inl x16], [])) 2 hd0 hz (by subst hx16; rfl) ?_
              exact ih55 x16 (by omega) (by omega) (by omega) (by omega)
        exact j55 (((qpc a3.toNat a1.toNat : Nat) - 0 : Int).toNat + 1) 0 (by first | decide | omega) (by omega) (by omega) (by omega)
      · refine zG_blk (c' := (51, [.inr (.inr (some 97)), .inl a1, .inl a2, .inl a3, .inl x6, zN], [.inl (-1)])) 1 hd0 hz (by rfl) ?_
        exact zG_ret hd0 hz rfl rfl ⟨⟨hCM8, hWM8⟩, _, rfl, by omega⟩
    · refine zG_blk (c' := (39, [.inr (.inr (some 97)), .inl a1, .inl a2, .inl a3, .inl x6, zN], [.inl x6])) 1 hd0 hz (by rfl) ?_
      exact zG_ret hd0 hz rfl rfl ⟨⟨hC, hW⟩, _, rfl, by omega⟩
  have j25 : zG n (0, 0) d 279 (25, [.inr (.inr (some 97)), .inl a1, .inl a2, .inl a3, zN, zN], [.inl a2, .inl a1, .inr (.inr (some 97))]) M (fun v M' => (qMI M' ∧ qFm [116, 117, 118, 1034] M M') ∧ ∃ x : Int, v = some (.inl x) ∧ ((-3) ≤ x ∧ x ≤ 13)) := by
    refine zG_blk (c' := (26, [.inr (.inr (some 97)), .inl a1, .inl a2, .inl a3, zN, zN], [.inl 0, .inl a2, .inl a1, .inr (.inr (some 97))])) 1 hd0 hz (by rfl) ?_
    exact j26 0 (by first | decide | omega) (by omega)
  refine zG_if_eq hd0 hz rfl (fun hb17 => ?_) (fun hb17 => ?_)
  · exact j25
  · have hcx3 := hx3.2.2.mp (by omega)
    clear hx3 hb17
    obtain ⟨x18, hx18⟩ : ∃ x : Int, x = zbshr a1 a3 := ⟨_, rfl⟩
    have hx18r : qin x18 := by rw [hx18]; exact qb32 _
    obtain ⟨x19, hx19⟩ : ∃ x : Int, x = zband x18 1 := ⟨_, rfl⟩
    have hx19r := qband_r x18 1 (by first | decide | omega) (by omega); rw [← hx19] at hx19r
    have hx19l : 0 ≤ x18 → x19 ≤ x18 := fun h9 => by rw [hx19]; exact (qband_l x18 1 ⟨h9, by omega⟩ (by omega)).2
    have hbb : x19 = zband (zbshr a1 a3) 1 := by rw [hx19, hx18]
    refine zG_blk (c' := (18, [.inr (.inr (some 97)), .inl a1, .inl a2, .inl a3, zN, zN], [.inl 1, .inl x19, .inl a2, .inl a1, .inr (.inr (some 97))])) 6 hd0 hz (by subst hx19; subst hx18; rfl) ?_
    refine zG_icmp_ne hd0 hz rfl (fun hb20 => ?_) (fun hb20 => ?_)
    · exact j25
    · refine zG_blk (c' := (26, [.inr (.inr (some 97)), .inl a1, .inl a2, .inl a3, zN, zN], [.inl 1, .inl a2, .inl a1, .inr (.inr (some 97))])) 2 hd0 hz (by rfl) ?_
      exact j26 1 (by first | decide | omega) (by omega)
